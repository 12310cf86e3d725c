/-! numbers -/
theorem nI_mul (a b : Nat) : nI a * nI b = nI (a * b) := (Int32.ofNat_mul a b).symm
theorem nI_sub {a b : Nat} (h : b ≤ a) : nI a - nI b = nI (a - b) := by
  have h1 : nI a = nI (a - b) + nI b := by rw [nI_add]; congr 1; omega
  rw [h1, Int32.add_sub_cancel]
theorem i32_eq {x y : Int32} : x = y ↔ x.toInt = y.toInt := Int32.toInt_inj.symm
theorem i32_inj {a b : Nat} (ha : a < 2 ^ 31) (hb : b < 2 ^ 31) (h : nI a = nI b) : a = b := (nI_eq ha hb).mp h
theorem nI_neg1 {a : Nat} (ha : a < 2 ^ 31) : ¬ nI a = -1 := by
  rw [i32_eq, nI_toInt ha]
  have : (-1 : Int32).toInt = -1 := by decide
  omega
theorem nI_m1 (a : Nat) : nI (a + 1) + -1 = nI a := by
  have h : nI (a + 1) = nI a + 1 := nI_succ a
  rw [h, Int32.add_assoc]
  have : (1 : Int32) + -1 = 0 := by decide
  rw [this, Int32.add_zero]
theorem X_ialdN {G : Gc} {E : Ev} {md : Md} {n : Nat} {Q : Option Value → St → Prop} {S : St} {pc : Nat} {lv : List (Option Value)} {st : List Value} (hB : Bd G E md) {a m : Nat} {i : Int32} (j : Nat) {v : Int32} (ha : a ∈ gL G) (hk : gK G a = .inr (0, m)) (hm : m < 2 ^ 31) (hi : i = nI j) (hj : j < m) (hv : S.1 a j = v) (hd : decode md.2.1 pc = .ok (.iaload, 1)) (k : X G E md n Q S (pc + 1) lv (.int v :: st)) : X G E md n Q S pc lv (.int i :: .ref a :: st) := by
  subst hi
  refine X_iald hB ha hk (vp_in_nI hj hm) hd ?_
  rw [nI_clamp (Nat.lt_trans hj hm), hv]
  exact k
theorem X_zaldN {G : Gc} {E : Ev} {md : Md} {n : Nat} {Q : Option Value → St → Prop} {S : St} {pc : Nat} {lv : List (Option Value)} {st : List Value} (hB : Bd G E md) {a m : Nat} {i : Int32} (j : Nat) {v : Int32} (ha : a ∈ gL G) (hk : gK G a = .inr (2, m)) (hm : m < 2 ^ 31) (hi : i = nI j) (hj : j < m) (hv : S.1 a j = v) (hd : decode md.2.1 pc = .ok (.baload, 1)) (k : X G E md n Q S (pc + 1) lv (.int v :: st)) : X G E md n Q S pc lv (.int i :: .ref a :: st) := by
  subst hi
  refine X_zald hB ha hk (vp_in_nI hj hm) hd ?_
  rw [nI_clamp (Nat.lt_trans hj hm), hv]
  exact k
theorem X_baldN {G : Gc} {E : Ev} {md : Md} {n : Nat} {Q : Option Value → St → Prop} {S : St} {pc : Nat} {lv : List (Option Value)} {st : List Value} (hB : Bd G E md) {a m : Nat} {i : Int32} (j : Nat) {v : Int32} (ha : a ∈ gL G) (hk : gK G a = .inr (1, m)) (hm : m < 2 ^ 31) (hi : i = nI j) (hj : j < m) (hv : S.1 a j = v) (hd : decode md.2.1 pc = .ok (.baload, 1)) (k : X G E md n Q S (pc + 1) lv (.int v :: st)) : X G E md n Q S pc lv (.int i :: .ref a :: st) := by
  subst hi
  refine X_bald hB ha hk (vp_in_nI hj hm) hd ?_
  rw [nI_clamp (Nat.lt_trans hj hm), hv]
  exact k
theorem X_iastN {G : Gc} {E : Ev} {md : Md} {n : Nat} {Q : Option Value → St → Prop} {S : St} {pc : Nat} {lv : List (Option Value)} {st : List Value} (hB : Bd G E md) {a m : Nat} {i x : Int32} (j : Nat) (ha : a ∈ gL G) (hk : gK G a = .inr (0, m)) (hm : m < 2 ^ 31) (hi : i = nI j) (hj : j < m) (hd : decode md.2.1 pc = .ok (.iastore, 1)) (k : X G E md n Q (setI S a j x) (pc + 1) lv st) : X G E md n Q S pc lv (.int x :: .int i :: .ref a :: st) := by
  subst hi
  refine X_iast hB ha hk (vp_in_nI hj hm) hd ?_
  rw [nI_clamp (Nat.lt_trans hj hm)]
  exact k
theorem X_bastN {G : Gc} {E : Ev} {md : Md} {n : Nat} {Q : Option Value → St → Prop} {S : St} {pc : Nat} {lv : List (Option Value)} {st : List Value} (hB : Bd G E md) {a m : Nat} {i x : Int32} (j : Nat) (ha : a ∈ gL G) (hk : gK G a = .inr (1, m)) (hm : m < 2 ^ 31) (hi : i = nI j) (hj : j < m) (hd : decode md.2.1 pc = .ok (.bastore, 1)) (k : X G E md n Q (setI S a j (vp_nar .byte x)) (pc + 1) lv st) : X G E md n Q S pc lv (.int x :: .int i :: .ref a :: st) := by
  subst hi
  refine X_bast hB ha hk (vp_in_nI hj hm) hd ?_
  rw [nI_clamp (Nat.lt_trans hj hm)]
  exact k
theorem nar_z {x : Int32} (hx : x = 0 ∨ x = 1) : vp_nar .boolean x = x := by rcases hx with rfl | rfl <;> decide
theorem X_zastN {G : Gc} {E : Ev} {md : Md} {n : Nat} {Q : Option Value → St → Prop} {S : St} {pc : Nat} {lv : List (Option Value)} {st : List Value} (hB : Bd G E md) {a m : Nat} {i x : Int32} (j : Nat) (ha : a ∈ gL G) (hk : gK G a = .inr (2, m)) (hm : m < 2 ^ 31) (hi : i = nI j) (hj : j < m) (hx : x = 0 ∨ x = 1) (hd : decode md.2.1 pc = .ok (.bastore, 1)) (k : X G E md n Q (setI S a j x) (pc + 1) lv st) : X G E md n Q S pc lv (.int x :: .int i :: .ref a :: st) := by
  subst hi
  refine X_zast hB ha hk (vp_in_nI hj hm) hd ?_
  rw [nI_clamp (Nat.lt_trans hj hm), nar_z hx]
  exact k
/-- rows of ints: what is set is read -/
theorem setI_at (S : St) (a k : Nat) (v : Int32) : (setI S a k v).1 a k = v := by simp [setI, ups]
theorem setI_ne (S : St) {a b k j : Nat} (v : Int32) (h : b ≠ a ∨ j ≠ k) : (setI S a k v).1 b j = S.1 b j := by
  simp only [setI, ups]; rw [if_neg]; rcases h with h | h <;> simp [h]
theorem setI_if (S : St) (a b k j : Nat) (v : Int32) : (setI S a k v).1 b j = if b = a ∧ j = k then v else S.1 b j := rfl
theorem setI_row (S : St) {a b : Nat} (k : Nat) (v : Int32) (h : b ≠ a) : (setI S a k v).1 b = S.1 b := ups_row_ne _ _ _ h
theorem setI_2 (S : St) (a k : Nat) (v : Int32) : (setI S a k v).2 = S.2 := rfl
theorem nlit (k : Nat) : (OfNat.ofNat k : Int32) = nI (OfNat.ofNat k) := rfl
theorem nneg (k : Nat) : (-(OfNat.ofNat k) : Int32) = - nI k := rfl
/-- a whole row of ints -/
def rowI (S : St) (a : Nat) (f : Nat → Int32) : St := (fun b => if b = a then f else S.1 b, S.2)
theorem rowI_at (S : St) (a : Nat) (f : Nat → Int32) : (rowI S a f).1 a = f := by simp [rowI]
theorem rowI_ne (S : St) {a b : Nat} (f : Nat → Int32) (h : b ≠ a) : (rowI S a f).1 b = S.1 b := by simp [rowI, h]
theorem rowI_2 (S : St) (a : Nat) (f : Nat → Int32) : (rowI S a f).2 = S.2 := rfl
theorem setI_rowI (S : St) (a k : Nat) (v : Int32) : setI S a k v = rowI S a (upd (S.1 a) k v) := by
  refine Prod.ext ?_ rfl
  funext b
  by_cases h : b = a
  · subst h; funext j; simp [setI, rowI, ups, upd]
  · funext j; simp [setI, rowI, ups, h]
theorem rowI_rowI (S : St) (a : Nat) (f g : Nat → Int32) : rowI (rowI S a f) a g = rowI S a g := by
  refine Prod.ext ?_ rfl
  funext b; by_cases h : b = a <;> simp [rowI, h]
theorem rowI_self (S : St) (a : Nat) : rowI S a (S.1 a) = S := by
  refine Prod.ext ?_ rfl
  funext b; by_cases h : b = a <;> simp [rowI, h]
theorem X_topi {G : Gc} {E : Ev} {md : Md} {n : Nat} {Q : Option Value → St → Prop} {S : St} {pc : Nat} {lv : List (Option Value)} {st : List Value} {x y : Int32} (h : x = y) (k : X G E md n Q S pc lv (.int y :: st)) : X G E md n Q S pc lv (.int x :: st) := by rw [h]; exact k
theorem X_top2 {G : Gc} {E : Ev} {md : Md} {n : Nat} {Q : Option Value → St → Prop} {S : St} {pc : Nat} {lv : List (Option Value)} {st : List Value} {x y z : Int32} (h : x = y) (k : X G E md n Q S pc lv (.int z :: .int y :: st)) : X G E md n Q S pc lv (.int z :: .int x :: st) := by rw [h]; exact k
theorem X_S {G : Gc} {E : Ev} {md : Md} {n : Nat} {Q : Option Value → St → Prop} {S S' : St} {pc : Nat} {lv : List (Option Value)} {st : List Value} (h : S = S') (k : X G E md n Q S' pc lv st) : X G E md n Q S pc lv st := by rw [h]; exact k
theorem X_lv {G : Gc} {E : Ev} {md : Md} {n : Nat} {Q : Option Value → St → Prop} {S : St} {pc : Nat} {lv lv' : List (Option Value)} {st : List Value} (h : lv = lv') (k : X G E md n Q S pc lv' st) : X G E md n Q S pc lv st := by rw [h]; exact k
theorem upd_at (f : Nat → Int32) (k : Nat) (v : Int32) : upd f k v k = v := by simp [upd]
theorem upd_ne (f : Nat → Int32) {k j : Nat} (v : Int32) (h : j ≠ k) : upd f k v j = f j := by simp [upd, h]
theorem rdx {f : Nat → Int32} {i j : Nat} (h : i = j) : some (Value.int (f i)) = some (Value.int (f j)) := by rw [h]
