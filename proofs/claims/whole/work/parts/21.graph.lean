/-! who is side by side, how far one is, the least of the shortest ways -/
def sbs (x y : Nat) : List Nat → Bool
  | a :: b :: t => (decide (a = x) && decide (b = y)) || (decide (a = y) && decide (b = x)) || sbs x y (b :: t)
  | _ => false
def kn (c : List (List Nat)) (x y : Nat) : Bool := c.any (sbs x y)
def wtn (f : Nat → Nat → Bool) (to : Nat) : Nat → Nat → Bool
  | 0, x => decide (x = to)
  | d + 1, x => wtn f to d x || (List.range 8).any (fun y => f x y && wtn f to d y)
def dst (f : Nat → Nat → Bool) (to x : Nat) : Nat := ((List.range 8).find? (fun d => wtn f to d x)).getD 99
theorem wtn_succ {f : Nat → Nat → Bool} {to d x : Nat} (h : wtn f to d x = true) : wtn f to (d + 1) x = true := by simp [wtn, h]
theorem wtn_mono {f : Nat → Nat → Bool} {to x : Nat} {d e : Nat} (hde : d ≤ e) (h : wtn f to d x = true) : wtn f to e x = true := by
  induction hde with
  | refl => exact h
  | step _ ih => exact wtn_succ ih
theorem wtn_edge {f : Nat → Nat → Bool} {to x y d : Nat} (hy : y < 8) (hf : f x y = true) (h : wtn f to d y = true) : wtn f to (d + 1) x = true := by
  simp only [wtn, Bool.or_eq_true, List.any_eq_true, Bool.and_eq_true]
  exact Or.inr ⟨y, List.mem_range.mpr hy, hf, h⟩
theorem wtn_case {f : Nat → Nat → Bool} {to x d : Nat} (h : wtn f to (d + 1) x = true) : wtn f to d x = true ∨ ∃ y, y < 8 ∧ f x y = true ∧ wtn f to d y = true := by
  simp only [wtn, Bool.or_eq_true, List.any_eq_true, Bool.and_eq_true] at h
  rcases h with h | ⟨y, h1, h2, h3⟩
  · exact Or.inl h
  · exact Or.inr ⟨y, List.mem_range.mp h1, h2, h3⟩
/-- how many of the eight are within d -/
def cnt (p : Nat → Bool) : Nat → Nat
  | 0 => 0
  | k + 1 => cnt p k + (if p k then 1 else 0)
theorem cnt_le (p : Nat → Bool) : ∀ k, cnt p k ≤ k
  | 0 => Nat.le_refl 0
  | k + 1 => by have := cnt_le p k; unfold cnt; split <;> omega
theorem cnt_mono {p q : Nat → Bool} (h : ∀ x, p x = true → q x = true) : ∀ k, cnt p k ≤ cnt q k
  | 0 => Nat.le_refl 0
  | k + 1 => by
    have := cnt_mono h k
    unfold cnt
    by_cases hp : p k = true
    · rw [if_pos hp, if_pos (h k hp)]; omega
    · rw [if_neg hp]; omega
theorem cnt_lt {p q : Nat → Bool} (h : ∀ x, p x = true → q x = true) : ∀ k x, x < k → p x = false → q x = true → cnt p k < cnt q k
  | 0, x, hx, _, _ => by omega
  | k + 1, x, hx, h1, h2 => by
    unfold cnt
    by_cases hk : x = k
    · subst hk
      have := cnt_mono h x
      rw [h1, h2]; simp; omega
    · have := cnt_lt h k x (by omega) h1 h2
      by_cases hp : p k = true
      · rw [if_pos hp, if_pos (h k hp)]; omega
      · rw [if_neg hp]; omega
/-- from 7 on nothing more comes -/
theorem wtn_stop {f : Nat → Nat → Bool} {to x d : Nat} (hx : x < 8) (hto : to < 8) (h : wtn f to d x = true) : wtn f to 7 x = true := by
  have stable : ∀ e, (∀ y, y < 8 → wtn f to (e + 1) y = true → wtn f to e y = true) → ∀ k y, y < 8 → wtn f to (e + k) y = true → wtn f to e y = true := by
    intro e he k
    induction k with
    | zero => intro y _ hy; exact hy
    | succ k ih =>
      intro y hy8 hy
      rcases wtn_case (d := e + k) hy with h1 | ⟨z, h1, h2, h3⟩
      · exact ih y hy8 h1
      · exact he y hy8 (wtn_edge h1 h2 (ih z h1 h3))
  have key : ∀ e, (∃ e', e' < e ∧ ∀ y, y < 8 → wtn f to (e' + 1) y = true → wtn f to e' y = true) ∨ e + 1 ≤ cnt (wtn f to e) 8 := by
    intro e
    induction e with
    | zero =>
      refine Or.inr ?_
      have : cnt (fun _ => false) 8 < cnt (wtn f to 0) 8 := cnt_lt (fun _ h => by simp at h) 8 to hto rfl (by simp [wtn])
      omega
    | succ e ih =>
      rcases ih with ⟨e', h1, h2⟩ | ih
      · exact Or.inl ⟨e', by omega, h2⟩
      · by_cases hs : ∀ y, y < 8 → wtn f to (e + 1) y = true → wtn f to e y = true
        · exact Or.inl ⟨e, by omega, hs⟩
        · refine Or.inr ?_
          have hs2 : ∃ y, y < 8 ∧ wtn f to (e + 1) y = true ∧ wtn f to e y = false := by
            refine Decidable.byContradiction fun hn => hs fun y h1 h2 => ?_
            cases hw : wtn f to e y with
            | true => rfl
            | false => exact absurd ⟨y, h1, h2, hw⟩ hn
          obtain ⟨y, h1, h2, h3⟩ := hs2
          have := cnt_lt (p := wtn f to e) (q := wtn f to (e + 1)) (fun z hz => wtn_succ hz) 8 y h1 h3 h2
          omega
  rcases key 8 with ⟨e', h1, h2⟩ | h8
  · by_cases hd : d ≤ 7
    · exact wtn_mono hd h
    · exact wtn_mono (by omega) (stable e' h2 (d - e') x hx (by rw [show e' + (d - e') = d by omega]; exact h))
  · have := cnt_le (wtn f to 8) 8
    omega
theorem dst_spec {f : Nat → Nat → Bool} {to x : Nat} : (∃ d, d < 8 ∧ dst f to x = d ∧ wtn f to d x = true ∧ ∀ e, e < d → wtn f to e x = false) ∨ (dst f to x = 99 ∧ ∀ e, e < 8 → wtn f to e x = false) := by
  unfold dst
  cases hq : (List.range 8).find? (fun d => wtn f to d x) with
  | none =>
    refine Or.inr ⟨rfl, fun e he => ?_⟩
    have := List.find?_eq_none.mp hq e (List.mem_range.mpr he)
    simpa using this
  | some d =>
    have h1 := List.find?_some hq
    have h2 := List.mem_of_find?_eq_some hq
    refine Or.inl ⟨d, List.mem_range.mp h2, rfl, h1, fun e he => ?_⟩
    have h3 := (List.find?_range_eq_some.mp hq).2.2 e he
    simpa using h3
theorem dst_le {f : Nat → Nat → Bool} {to x : Nat} (d : Nat) (hd : d < 8) (h : wtn f to d x = true) : dst f to x ≤ d := by
  rcases dst_spec (f := f) (to := to) (x := x) with ⟨e, h1, h2, h3, h4⟩ | ⟨h1, h2⟩
  · rw [h2]
    refine Nat.not_lt.mp fun hlt => ?_
    rw [h4 d hlt] at h; cases h
  · rw [h2 d hd] at h; cases h
theorem dst_0 {f : Nat → Nat → Bool} {to x : Nat} : dst f to x = 0 ↔ x = to := by
  refine ⟨fun h => ?_, fun h => ?_⟩
  · rcases dst_spec (f := f) (to := to) (x := x) with ⟨e, h1, h2, h3, h4⟩ | ⟨h1, h2⟩
    · rw [h2] at h; subst h; simpa [wtn] using h3
    · rw [h1] at h; cases h
  · have := dst_le (f := f) (to := to) (x := x) 0 (by omega) (by simp [wtn, h]); omega
theorem dst_99 {f : Nat → Nat → Bool} {to x : Nat} : dst f to x < 8 ∨ dst f to x = 99 := by
  rcases dst_spec (f := f) (to := to) (x := x) with ⟨e, h1, h2, h3, h4⟩ | ⟨h1, h2⟩
  · exact Or.inl (by omega)
  · exact Or.inr h1
/-- the next one of the way: the least neighbour that is one nearer -/
def nxt (f : Nat → Nat → Bool) (to at_ d : Nat) : Nat := ((List.range 8).find? (fun y => f at_ y && decide (dst f to y = d))).getD 0
theorem nxt_spec {f : Nat → Nat → Bool} {to at_ d : Nat} (h : dst f to at_ = d + 1) (hd : d + 1 < 8) : nxt f to at_ d < 8 ∧ f at_ (nxt f to at_ d) = true ∧ dst f to (nxt f to at_ d) = d ∧ ∀ y, y < nxt f to at_ d → ¬ (f at_ y = true ∧ dst f to y = d) := by
  have hex : ∃ y, y < 8 ∧ f at_ y = true ∧ dst f to y = d := by
    rcases dst_spec (f := f) (to := to) (x := at_) with ⟨e, h1, h2, h3, h4⟩ | ⟨h1, h2⟩
    · rw [h2] at h; subst h
      rcases wtn_case h3 with h5 | ⟨y, g1, g2, g3⟩
      · rw [h4 d (by omega)] at h5; cases h5
      · refine ⟨y, g1, g2, ?_⟩
        have hle := dst_le d (by omega) g3
        rcases dst_spec (f := f) (to := to) (x := y) with ⟨e, k1, k2, k3, k4⟩ | ⟨k1, k2⟩
        · rw [k2] at hle ⊢
          refine Nat.le_antisymm hle (Nat.not_lt.mp fun hlt => ?_)
          have := wtn_edge g1 g2 k3
          rw [h4 (e + 1) (by omega)] at this; cases this
        · rw [k1] at hle; omega
    · rw [h1] at h; omega
  unfold nxt
  cases hq : (List.range 8).find? (fun y => f at_ y && decide (dst f to y = d)) with
  | none =>
    obtain ⟨y, h1, h2, h3⟩ := hex
    have := List.find?_eq_none.mp hq y (List.mem_range.mpr h1)
    simp [h2, h3] at this
  | some y =>
    have h1 := List.find?_some hq
    have h2 := List.mem_of_find?_eq_some hq
    simp only [Bool.and_eq_true, decide_eq_true_eq] at h1
    refine ⟨List.mem_range.mp h2, h1.1, h1.2, fun z hz hn => ?_⟩
    have h3 := (List.find?_range_eq_some.mp hq).2.2 z hz
    simp [hn.1, hn.2] at h3
def wlk (f : Nat → Nat → Bool) (to : Nat) : Nat → Nat → List Nat
  | 0, _ => []
  | d + 1, x => nxt f to x d :: wlk f to d (nxt f to x d)
def wayM (f : Nat → Nat → Bool) (to hops n : Nat) : List Nat := if dst f to n ≤ hops then n :: wlk f to (dst f to n) n else []
def wayOf (mp : Bool) (hops : Nat) (c : List (List Nat)) (n to : Nat) : List Nat := if n = to then [] else if mp then wayM (kn c) to hops n else wayP to [] c
theorem wlk_len {f : Nat → Nat → Bool} {to : Nat} : ∀ d x, (wlk f to d x).length = d
  | 0, _ => rfl
  | d + 1, x => by simp [wlk, wlk_len d]
