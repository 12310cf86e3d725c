/-! the reference's matrix of known links, its row of distances -/
def knR (K : Nat → Int32) (f : Nat → Nat → Bool) : Prop := ∀ x y, x < 8 → y < 8 → K (8 * x + y) = if f x y then 1 else 0
theorem knR_add {K : Nat → Int32} {f g : Nat → Nat → Bool} {a b : Nat} (h : knR K f) (ha : a < 8) (hb : b < 8) (hg : ∀ x y, g x y = (f x y || (decide (x = a) && decide (y = b)) || (decide (x = b) && decide (y = a)))) : knR (upd (upd K (8 * a + b) 1) (8 * b + a) 1) g := by
  intro x y hx hy
  rw [hg x y]
  by_cases h1 : 8 * x + y = 8 * b + a
  · have : x = b ∧ y = a := by omega
    obtain ⟨rfl, rfl⟩ := this
    rw [upd_at]; simp
  · rw [upd_ne _ _ h1]
    by_cases h2 : 8 * x + y = 8 * a + b
    · have : x = a ∧ y = b := by omega
      obtain ⟨rfl, rfl⟩ := this
      rw [upd_at]; simp
    · rw [upd_ne _ _ h2, h x y hx hy]
      have e1 : (decide (x = a) && decide (y = b)) = false := by
        cases hd : (decide (x = a) && decide (y = b)) with
        | false => rfl
        | true => simp at hd; omega
      have e2 : (decide (x = b) && decide (y = a)) = false := by
        cases hd : (decide (x = b) && decide (y = a)) with
        | false => rfl
        | true => simp at hd; omega
      rw [e1, e2]; simp
theorem sbs_snoc {x y b : Nat} : ∀ (l : List Nat) (a : Nat), sbs x y ((l ++ [a]) ++ [b]) = (sbs x y (l ++ [a]) || (decide (a = x) && decide (b = y)) || (decide (a = y) && decide (b = x)))
  | [], a => by simp [sbs]
  | [c], a => by simp [sbs, Bool.or_assoc]
  | c :: d :: t, a => by
    have ih := sbs_snoc (x := x) (y := y) (b := b) (d :: t) a
    simp only [List.cons_append] at ih ⊢
    rw [sbs, ih, sbs]
    simp only [Bool.or_assoc]
theorem sbs_take {x y i : Nat} {e : List Nat} (h1 : 1 ≤ i) (hi : i < e.length) : sbs x y (e.take (i + 1)) = (sbs x y (e.take i) || (decide (e.getD (i - 1) 0 = x) && decide (e.getD i 0 = y)) || (decide (e.getD (i - 1) 0 = y) && decide (e.getD i 0 = x))) := by
  obtain ⟨j, rfl⟩ : ∃ j, i = j + 1 := ⟨i - 1, by omega⟩
  rw [List.take_succ_eq_append_getElem hi, List.take_succ_eq_append_getElem (show j < e.length by omega), sbs_snoc, Nat.add_sub_cancel, getD_lt, getD_lt]
theorem nI_div8 : ∀ k : Nat, k < 64 → nI k / 8 = nI (k / 8) ∧ nI k - nI k / 8 * 8 = nI (k % 8) := by decide +kernel
def farR (F : Nat → Int32) (fn : Nat → Nat) : Prop := ∀ x, x < 8 → F x = nI (fn x)
def fSo (f : Nat → Nat → Bool) (to : Nat) (fn : Nat → Nat) : Prop := ∀ x, x < 8 → fn x ≤ 99 ∧ (fn x < 99 → wtn f to (fn x) x = true)
def fCo (f : Nat → Nat → Bool) (to r : Nat) (fn : Nat → Nat) : Prop := ∀ d x, d ≤ r → x < 8 → wtn f to d x = true → fn x ≤ d
def fPa (f : Nat → Nat → Bool) (to r j : Nat) (fn : Nat → Nat) : Prop := ∀ x y, x < 8 → y < 8 → 8 * x + y < j → f x y = true → wtn f to r y = true → fn x ≤ r + 1
def updN (fn : Nat → Nat) (a v : Nat) : Nat → Nat := fun x => if x = a then v else fn x
theorem updN_at (fn : Nat → Nat) (a v : Nat) : updN fn a v a = v := by simp [updN]
theorem updN_ne (fn : Nat → Nat) {a x : Nat} (v : Nat) (h : x ≠ a) : updN fn a v x = fn x := by simp [updN, h]
theorem far_step {f : Nat → Nat → Bool} {to r j : Nat} {fn : Nat → Nat} (hj : j < 64) (h1 : fSo f to fn) (h2 : fCo f to r fn) (h3 : fPa f to r j fn) (hf : f (j / 8) (j % 8) = true) : fSo f to (updN fn (j / 8) (min (fn (j / 8)) (fn (j % 8) + 1))) ∧ fCo f to r (updN fn (j / 8) (min (fn (j / 8)) (fn (j % 8) + 1))) ∧ fPa f to r (j + 1) (updN fn (j / 8) (min (fn (j / 8)) (fn (j % 8) + 1))) := by
  have hle : ∀ x, updN fn (j / 8) (min (fn (j / 8)) (fn (j % 8) + 1)) x ≤ fn x := fun x => by
    by_cases hx : x = j / 8
    · subst hx; rw [updN_at]; omega
    · rw [updN_ne _ _ hx]; exact Nat.le_refl _
  refine ⟨fun x hx => ?_, fun d x hd hx hw => Nat.le_trans (hle x) (h2 d x hd hx hw), fun x y hx hy hxy hfxy hw => ?_⟩
  · refine ⟨Nat.le_trans (hle x) (h1 x hx).1, fun hlt => ?_⟩
    by_cases he : x = j / 8
    · subst he
      rw [updN_at] at hlt ⊢
      by_cases hm : fn (j / 8) ≤ fn (j % 8) + 1
      · rw [Nat.min_eq_left hm] at hlt ⊢; exact (h1 _ hx).2 hlt
      · rw [Nat.min_eq_right (by omega)] at hlt ⊢
        exact wtn_edge (Nat.mod_lt _ (by omega)) hf ((h1 _ (Nat.mod_lt _ (by omega))).2 (by omega))
    · rw [updN_ne _ _ he] at hlt ⊢; exact (h1 x hx).2 hlt
  · by_cases he : 8 * x + y = j
    · have e1 : j / 8 = x := by omega
      have e2 : j % 8 = y := by omega
      rw [e1, e2, updN_at]
      have := h2 r y (Nat.le_refl _) hy hw
      omega
    · exact Nat.le_trans (hle x) (h3 x y hx hy (by omega) hfxy hw)
theorem far_skip {f : Nat → Nat → Bool} {to r j : Nat} {fn : Nat → Nat} (hj : j < 64) (h3 : fPa f to r j fn) (hf : f (j / 8) (j % 8) = false) : fPa f to r (j + 1) fn := by
  intro x y hx hy hxy hfxy hw
  by_cases he : 8 * x + y = j
  · have e1 : j / 8 = x := by omega
    have e2 : j % 8 = y := by omega
    rw [e1, e2, hfxy] at hf; cases hf
  · exact h3 x y hx hy (by omega) hfxy hw
theorem far_round {f : Nat → Nat → Bool} {to r : Nat} {fn : Nat → Nat} (h2 : fCo f to r fn) (h3 : fPa f to r 64 fn) : fCo f to (r + 1) fn := by
  intro d x hd hx hw
  by_cases he : d = r + 1
  · subst he
    rcases wtn_case hw with h | ⟨y, g1, g2, g3⟩
    · have := h2 r x (Nat.le_refl _) hx h; omega
    · exact h3 x y hx g1 (by omega) g2 g3
  · exact h2 d x (by omega) hx hw
theorem far_end {f : Nat → Nat → Bool} {to : Nat} {fn : Nat → Nat} (hto : to < 8) (h1 : fSo f to fn) (h2 : fCo f to 8 fn) : ∀ x, x < 8 → fn x = dst f to x := by
  intro x hx
  rcases dst_spec (f := f) (to := to) (x := x) with ⟨d, g1, g2, g3, g4⟩ | ⟨g1, g2⟩
  · have hle := h2 d x (by omega) hx g3
    have := (h1 x hx).2 (by omega)
    have := dst_le (fn x) (by omega) this
    omega
  · rw [g1]
    refine Nat.le_antisymm (h1 x hx).1 (Nat.not_lt.mp fun hlt => ?_)
    have := wtn_stop hx hto ((h1 x hx).2 (by omega))
    rw [g2 7 (by omega)] at this; cases this
theorem kn_app {c d : List (List Nat)} {x y : Nat} : kn (c ++ d) x y = (kn c x y || kn d x y) := by simp [kn]
