/-! Math.min, max, abs -/
theorem mth_min : Cond.code yJ9_min_7cf53 cJ9_min_7cf53 2 (some .int) = Cond.code Lib.Math.min.name Lib.Math.min.code 2 (some .int) := rfl
theorem mth_max : Cond.code yJ9_max_7cf53 cJ9_max_7cf53 2 (some .int) = Cond.code Lib.Math.max.name Lib.Math.max.code 2 (some .int) := rfl
theorem mth_abs : Cond.code yJ9_abs_0f7a4 cJ9_abs_0f7a4 1 (some .int) = Cond.code Lib.Math.abs.name Lib.Math.abs.code 1 (some .int) := rfl
section XMA
variable {G : Gc} {E : Ev} {md : Md} {n : Nat} {Q : Option Value → St → Prop} {S : St} {pc : Nat} {lv : List (Option Value)} {st : List Value} {idx : Nat}
theorem X_mmin (hB : Bd G E md) {x y : Int32} (hk : kS md.1.cls idx mJ9_min_7cf53 2) (hn : 1 ≤ n) (hsm : (st.map fun v => v.category).sum ≤ 8) (hd : decode md.2.1 pc = .ok (.invokestatic idx, 3)) (k : X G E md n Q S (pc + 3) lv (.int (if y < x then y else x) :: st)) : X G E md n Q S pc lv (.int y :: .int x :: st) := fun H locs ls hP hD hS hl =>
  va_mmin hB.1 hB.2.1 (hB.2.2.1.trans hl.1.symm) hB.2.2.2.2.2.1 (hB.2.2.2.2.2.2.1 _ hk.1) (hB.2.2.2.2.2.2.1 _ hk.2.1) (hB.2.2.2.2.2.2.1 _ hk.2.2.1) (mth_min ▸ hB.2.2.2.2.2.2.1 _ hk.2.2.2.1) hn (by show _ + 13 ≤ 40 * n; omega) (Nat.zero_le _) (Nat.zero_le _) hd (k H locs ls hP hD hS hl)
theorem X_mmax (hB : Bd G E md) {x y : Int32} (hk : kS md.1.cls idx mJ9_max_7cf53 2) (hn : 1 ≤ n) (hsm : (st.map fun v => v.category).sum ≤ 8) (hd : decode md.2.1 pc = .ok (.invokestatic idx, 3)) (k : X G E md n Q S (pc + 3) lv (.int (if x < y then y else x) :: st)) : X G E md n Q S pc lv (.int y :: .int x :: st) := fun H locs ls hP hD hS hl =>
  va_mmax hB.1 hB.2.1 (hB.2.2.1.trans hl.1.symm) hB.2.2.2.2.2.1 (hB.2.2.2.2.2.2.1 _ hk.1) (hB.2.2.2.2.2.2.1 _ hk.2.1) (hB.2.2.2.2.2.2.1 _ hk.2.2.1) (mth_max ▸ hB.2.2.2.2.2.2.1 _ hk.2.2.2.1) hn (by show _ + 13 ≤ 40 * n; omega) (Nat.zero_le _) (Nat.zero_le _) hd (k H locs ls hP hD hS hl)
theorem X_mabs (hB : Bd G E md) {x : Int32} (hk : kS md.1.cls idx mJ9_abs_0f7a4 1) (hn : 1 ≤ n) (hsm : (st.map fun v => v.category).sum ≤ 8) (hd : decode md.2.1 pc = .ok (.invokestatic idx, 3)) (k : X G E md n Q S (pc + 3) lv (.int (if 0 ≤ x then x else 0 - x) :: st)) : X G E md n Q S pc lv (.int x :: st) := fun H locs ls hP hD hS hl =>
  va_mabs hB.1 hB.2.1 (hB.2.2.1.trans hl.1.symm) hB.2.2.2.2.2.1 (hB.2.2.2.2.2.2.1 _ hk.1) (hB.2.2.2.2.2.2.1 _ hk.2.1) (hB.2.2.2.2.2.2.1 _ hk.2.2.1) (mth_abs ▸ hB.2.2.2.2.2.2.1 _ hk.2.2.2.1) hn (by show _ + 13 ≤ 40 * n; omega) (Nat.zero_le _) (Nat.zero_le _) hd (k H locs ls hP hD hS hl)
end XMA
theorem min_nI {a b : Nat} (ha : a < 2 ^ 31) (hb : b < 2 ^ 31) : (if nI b < nI a then nI b else nI a) = nI (min a b) := by
  by_cases h : b < a
  · rw [if_pos ((nI_ltI hb ha).mpr h)]; congr 1; omega
  · rw [if_neg (fun q => h ((nI_ltI hb ha).mp q))]; congr 1; omega
theorem max_nI {a b : Nat} (ha : a < 2 ^ 31) (hb : b < 2 ^ 31) : (if nI a < nI b then nI b else nI a) = nI (max a b) := by
  by_cases h : a < b
  · rw [if_pos ((nI_ltI ha hb).mpr h)]; congr 1; omega
  · rw [if_neg (fun q => h ((nI_ltI ha hb).mp q))]; congr 1; omega
