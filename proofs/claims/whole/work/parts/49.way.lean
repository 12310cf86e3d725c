/-! a way begins with its node, ends with the one that is sought, has none twice -/
def goodW (n to : Nat) (w : List Nat) : Prop := w.Nodup ∧ w.getD 0 0 = n ∧ w.getD (w.length - 1) 0 = to ∧ 2 ≤ w.length ∧ ∀ x ∈ w, x < 8
theorem wayP_good {n to : Nat} : ∀ (c : List (List Nat)) (w : List Nat), (∀ e ∈ c, okE false e ∧ e.getD 0 0 = n) → (w = [] ∨ goodW n to w) → (wayP to w c = [] ∨ goodW n to (wayP to w c))
  | [], w, _, h => h
  | e :: t, w, hc, h => by
    rw [wayP_cons]
    refine wayP_good t _ (fun x hx => hc x (List.mem_cons_of_mem _ hx)) ?_
    unfold stepP
    split
    · rename_i hq
      obtain ⟨ho, hn⟩ := hc e List.mem_cons_self
      have hl : (e.take (e.idxOf to + 1)).length = e.idxOf to + 1 := by rw [List.length_take]; omega
      refine Or.inr ⟨ho.2.2.2.1.sublist (List.take_sublist _ _), ?_, ?_, by omega, fun x hx => ho.2.2.1 x (List.mem_of_mem_take hx)⟩
      · rw [← hn]; simp only [List.getD_eq_getElem?_getD, List.getElem?_take_of_lt (show 0 < e.idxOf to + 1 by omega)]
      · rw [hl, Nat.add_sub_cancel]
        simp only [List.getD_eq_getElem?_getD, List.getElem?_take_of_lt (show e.idxOf to < e.idxOf to + 1 by omega)]
        rw [List.getElem?_eq_getElem hq.2.1, List.getElem_idxOf hq.2.1]; rfl
    · exact h
theorem wlk_dst {f : Nat → Nat → Bool} {to : Nat} : ∀ d x, dst f to x = d → d < 8 → ∀ y ∈ wlk f to d x, dst f to y < d
  | 0, _, _, _, y, hy => by simp [wlk] at hy
  | d + 1, x, hd, h8, y, hy => by
    have hq := nxt_spec hd h8
    rcases List.mem_cons.mp hy with rfl | h
    · rw [hq.2.2.1]; omega
    · have := wlk_dst d _ hq.2.2.1 (by omega) y h; omega
theorem wlk_nd {f : Nat → Nat → Bool} {to : Nat} : ∀ d x, dst f to x = d → d < 8 → (x :: wlk f to d x).Nodup ∧ (x :: wlk f to d x).getD d 0 = to
  | 0, x, hd, _ => ⟨by simp [wlk], by simpa using dst_0.mp hd⟩
  | d + 1, x, hd, h8 => by
    have hq := nxt_spec hd h8
    obtain ⟨h1, h2⟩ := wlk_nd d _ hq.2.2.1 (by omega)
    refine ⟨List.nodup_cons.mpr ⟨fun hm => ?_, h1⟩, by simpa [wlk] using h2⟩
    have := wlk_dst (d + 1) x hd h8 x hm
    omega
theorem wayOf_good {mp : Bool} {room hops n to : Nat} {c : List (List Nat)} (hok : okC mp room c) (hp : mp = false → ∀ e ∈ c, e.getD 0 0 = n) (hn : n < 8) (hh : hops ≤ 7) : wayOf mp hops c n to = [] ∨ goodW n to (wayOf mp hops c n to) := by
  unfold wayOf
  split
  · exact Or.inl rfl
  · rename_i hne
    cases mp with
    | false =>
      simp only [Bool.false_eq_true, if_false]
      exact wayP_good c [] (fun e he => ⟨hok.1 e he, hp rfl e he⟩) (Or.inl rfl)
    | true =>
      simp only [if_true]
      unfold wayM
      split
      · rename_i hd
        have h8 : dst (kn c) to n < 8 := by omega
        obtain ⟨g1, g2⟩ := wlk_nd _ n rfl h8
        have hl : (n :: wlk (kn c) to (dst (kn c) to n) n).length = dst (kn c) to n + 1 := by rw [List.length_cons, wlk_len]
        have h0 : dst (kn c) to n ≠ 0 := fun q => hne (dst_0.mp q)
        refine Or.inr ⟨g1, rfl, by rw [hl, Nat.add_sub_cancel]; exact g2, by omega, fun x hx => ?_⟩
        rcases List.mem_cons.mp hx with rfl | h
        · exact hn
        · exact wlk_lt _ _ rfl h8 x h
      · exact Or.inl rfl
theorem wayN_good {σ : Net} {b n to : Nat} (hn : n < 8) (hse : seOk (nSe σ)) (hx : ndOk (nSe σ) (nNow σ) b n (nNd σ n)) (hne : wayN σ n to ≠ []) : goodW n to (wayN σ n to) := (wayOf_good hx.1 hx.2.1 hn hse.2.1.2).resolve_left hne
theorem ins_mem {most : Nat} {e x : List Nat} {c : List (List Nat)} (h : x ∈ ins most e c) : x = e ∨ x ∈ c := by
  rcases List.mem_cons.mp (List.mem_of_mem_take h) with q | q
  · exact Or.inl q
  · exact Or.inr (List.mem_of_mem_erase q)
theorem learn_head {hops room n : Nat} {L : List Nat} {c : List (List Nat)} (hc : ∀ e ∈ c, e.getD 0 0 = n) (hL : L.getD 0 0 = n) : ∀ e ∈ learnL false hops room L c, e.getD 0 0 = n := by
  intro e he
  unfold learnL at he
  split at he
  · exact hc e he
  · simp only [Bool.false_eq_true, if_false] at he
    rcases ins_mem he with rfl | q
    · rw [← hL]; simp only [List.getD_eq_getElem?_getD, List.getElem?_take_of_lt (show 0 < hops + 1 by omega)]
    · exact hc e q
theorem keepL_mem : ∀ (l acc : List (List Nat)) (e : List Nat), e ∈ keepL acc l → e ∈ acc ∨ e ∈ l ∧ 2 ≤ e.length
  | [], acc, e, h => Or.inl h
  | a :: t, acc, e, h => by
    unfold keepL at h
    split at h
    · rcases keepL_mem t acc e h with q | q
      · exact Or.inl q
      · exact Or.inr ⟨List.mem_cons_of_mem _ q.1, q.2⟩
    · rename_i hn
      rcases keepL_mem t _ e h with q | q
      · rcases List.mem_append.mp q with q | q
        · exact Or.inl q
        · rw [List.mem_singleton.mp q]; exact Or.inr ⟨List.mem_cons_self, by omega⟩
      · exact Or.inr ⟨List.mem_cons_of_mem _ q.1, q.2⟩
theorem forget_head {n a b : Nat} {c : List (List Nat)} (hc : ∀ e ∈ c, e.getD 0 0 = n) : ∀ e ∈ forgetL false a b c, e.getD 0 0 = n := by
  intro e he
  unfold forgetL at he
  simp only [Bool.false_eq_true, if_false] at he
  rcases keepL_mem _ _ e he with q | q
  · cases q
  · obtain ⟨x, hx, rfl⟩ := List.mem_map.mp q.1
    rw [← hc x hx]
    obtain ⟨s, hs⟩ := cutAt_pre (a := a) (b := b) x
    have hpos : 0 < (cutAt a b x).length := by omega
    simp only [List.getD_eq_getElem?_getD]
    rw [← List.getElem?_append_left (l₂ := s) hpos, hs]
