/-! rows cut where two stand side by side; those that are kept -/
def adj (a b : Nat) (e : List Nat) (i : Nat) : Prop := (e.getD (i - 1) 0 = a ∧ e.getD i 0 = b) ∨ (e.getD (i - 1) 0 = b ∧ e.getD i 0 = a)
theorem cutAt_none {a b : Nat} : ∀ (e : List Nat), (∀ j, 1 ≤ j → j < e.length → ¬ adj a b e j) → cutAt a b e = e
  | [], _ => rfl
  | [x], _ => rfl
  | x :: y :: t, h => by
    unfold cutAt
    have h1 := h 1 (by omega) (by simp)
    rw [if_neg (by simpa [adj] using h1), cutAt_none (y :: t) (fun j h2 h3 => ?_)]
    have := h (j + 1) (by omega) (by simpa using h3)
    unfold adj at this ⊢
    obtain ⟨i, rfl⟩ : ∃ i, j = i + 1 := ⟨j - 1, by omega⟩
    simpa using this
theorem cutAt_at {a b : Nat} : ∀ (e : List Nat) (i : Nat), 1 ≤ i → i < e.length → adj a b e i → (∀ j, 1 ≤ j → j < i → ¬ adj a b e j) → cutAt a b e = e.take i
  | [], i, _, h2, _, _ => by simp at h2
  | [x], i, h1, h2, _, _ => by simp at h2; omega
  | x :: y :: t, i, h1, h2, h3, h4 => by
    unfold cutAt
    by_cases h5 : i = 1
    · subst h5
      rw [if_pos (by simpa [adj] using h3)]; rfl
    · have h6 := h4 1 (by omega) (by omega)
      obtain ⟨k, rfl⟩ : ∃ k, i = k + 2 := ⟨i - 2, by omega⟩
      rw [if_neg (by simpa [adj] using h6), cutAt_at (y :: t) (k + 1) (by omega) (by simpa using h2) (by simpa [adj] using h3) (fun j h7 h8 => ?_)]
      · rfl
      · have := h4 (j + 1) (by omega) (by omega)
        unfold adj at this ⊢
        obtain ⟨m, rfl⟩ : ∃ m, j = m + 1 := ⟨j - 1, by omega⟩
        simpa using this
theorem cutAt_pre {a b : Nat} : ∀ (e : List Nat), cutAt a b e <+: e
  | [] => List.prefix_rfl
  | [x] => List.prefix_rfl
  | x :: y :: t => by
    unfold cutAt
    split
    · exact ⟨y :: t, rfl⟩
    · obtain ⟨s, hs⟩ := cutAt_pre (a := a) (b := b) (y :: t)
      exact ⟨s, by rw [List.cons_append, hs]⟩
theorem keepL_ok {Pr : List Nat → Prop} : ∀ (l acc : List (List Nat)), (∀ e ∈ acc, Pr e) → (∀ e ∈ l, 2 ≤ e.length → Pr e) → acc.Nodup → (∀ e ∈ keepL acc l, Pr e) ∧ (keepL acc l).Nodup ∧ (keepL acc l).length ≤ acc.length + l.length
  | [], acc, h1, _, h3 => ⟨h1, h3, by simp [keepL]⟩
  | e :: t, acc, h1, h2, h3 => by
    unfold keepL
    split
    · obtain ⟨g1, g2, g3⟩ := keepL_ok t acc h1 (fun x hx => h2 x (List.mem_cons_of_mem _ hx)) h3
      exact ⟨g1, g2, by rw [List.length_cons]; omega⟩
    · rename_i hne
      obtain ⟨g1, g2, g3⟩ := keepL_ok t (acc ++ [e]) (fun x hx => by
        rcases List.mem_append.mp hx with h | h
        · exact h1 x h
        · rw [List.mem_singleton.mp h]; exact h2 e List.mem_cons_self (by omega)) (fun x hx => h2 x (List.mem_cons_of_mem _ hx)) (by
        rw [List.nodup_append]
        refine ⟨h3, by simp, fun x hx y hy => ?_⟩
        rw [List.mem_singleton.mp hy]; intro he; subst he; exact hne (Or.inr hx))
      exact ⟨g1, g2, by rw [List.length_append] at g3; simp only [List.length_cons, List.length_nil] at *; omega⟩
theorem okC_forget {mp : Bool} {room a b : Nat} {c : List (List Nat)} (h : okC mp room c) : okC mp room (forgetL mp a b c) := by
  obtain ⟨h1, h2, h3, h4, h5⟩ := h
  unfold forgetL
  cases mp with
  | true =>
    simp only [if_true] at *
    exact ⟨fun e he => h1 e (List.mem_of_mem_erase he), Nat.le_trans List.length_erase_le h2, h3, h4, h5.erase _⟩
  | false =>
    simp only [Bool.false_eq_true, if_false] at *
    obtain ⟨g1, g2, g3⟩ := keepL_ok (Pr := okE false) (c.map (cutAt a b)) [] (fun _ h => by cases h) (fun e he hl => by
      obtain ⟨x, hx, rfl⟩ := List.mem_map.mp he
      have hp := cutAt_pre (a := a) (b := b) x
      have ho := h1 x hx
      exact ⟨Nat.le_trans hp.length_le ho.1, hl, fun y hy => ho.2.2.1 y (hp.subset hy), ho.2.2.2.1.sublist hp.sublist, fun h => by cases h⟩) List.nodup_nil
    refine ⟨g1, ?_, h3, h4, g2⟩
    rw [List.length_map] at g3
    simpa using Nat.le_trans g3 (by simpa using h2)
theorem okC_learn {mp : Bool} {room hops : Nat} {c : List (List Nat)} {L : List Nat} (h : okC mp room c) (h1 : L.length ≤ 8) (h3 : ∀ x ∈ L, x < 8) (h4 : L.Nodup) : okC mp room (learnL mp hops room L c) := by
  unfold learnL
  split
  · exact h
  · rename_i hlen
    have ho := okE_take (k := hops + 1) h1 (by omega) h3 h4
    cases mp with
    | false =>
      have := okC_ins h ho
      simpa using this
    | true =>
      simp only [if_true]
      have key : ∀ (l : List Nat) (c : List (List Nat)), okC true room c → (∀ x ∈ l, x < 8) → l.Nodup → okC true room (insL (3 * room) l c) := by
        intro l
        induction l with
        | nil => intro c hc _ _; exact hc
        | cons x t ih =>
          intro c hc hx hn
          cases t with
          | nil => exact hc
          | cons y t =>
            have hxy : x ≠ y := fun e => by subst e; simp at hn
            have := okC_ins hc (lnk_ok (hx x (by simp)) (hx y (by simp)) hxy)
            exact ih _ (by simpa using this) (fun z hz => hx z (List.mem_cons_of_mem _ hz)) (List.nodup_cons.mp hn).2
      exact key _ c h ho.2.2.1 ho.2.2.2.1
theorem nI_div10 : ∀ k : Nat, k < 80 → nI k / 10 = nI (k / 10) ∧ nI k - nI k / 10 * 10 = nI (k % 10) := by decide +kernel
