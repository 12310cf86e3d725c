/-! what a method of the class leaves as it was: all cells but those between two addresses -/
def chg (lo hi : Nat) (S S' : St) : Prop := ∀ a, (a < lo ∨ hi ≤ a) → S'.1 a = S.1 a ∧ S'.2.1 a = S.2.1 a ∧ S'.2.2 a = S.2.2 a
theorem chg.rf {lo hi : Nat} {S : St} : chg lo hi S S := fun _ _ => ⟨rfl, rfl, rfl⟩
theorem chg.tr {lo hi : Nat} {S S1 S2 : St} (a : chg lo hi S S1) (b : chg lo hi S1 S2) : chg lo hi S S2 := fun x hx => ⟨(b x hx).1.trans (a x hx).1, (b x hx).2.1.trans (a x hx).2.1, (b x hx).2.2.trans (a x hx).2.2⟩
theorem chg.mono {lo hi lo' hi' : Nat} {S S' : St} (a : chg lo hi S S') (h1 : lo' ≤ lo) (h2 : hi ≤ hi') : chg lo' hi' S S' := fun x hx => a x (by omega)
theorem chg.setI {lo hi b k : Nat} {S : St} {v : Int32} (h1 : lo ≤ b) (h2 : b < hi) : chg lo hi S (setI S b k v) := fun a ha => ⟨setI_row _ _ _ (by omega), rfl, rfl⟩
theorem chg.setJ {lo hi b k : Nat} {S : St} {v : Int64} (h1 : lo ≤ b) (h2 : b < hi) : chg lo hi S (setJ S b k v) := fun a ha => ⟨rfl, ups_row_ne _ _ _ (by omega), rfl⟩
theorem chg.setR {lo hi b k : Nat} {S : St} {v : Option Nat} (h1 : lo ≤ b) (h2 : b < hi) : chg lo hi S (setR S b k v) := fun a ha => ⟨rfl, rfl, ups_row_ne _ _ _ (by omega)⟩
theorem setJ_at (S : St) (a k : Nat) (v : Int64) : (setJ S a k v).2.1 a k = v := by simp [setJ, ups]
theorem setJ_ne (S : St) {a b k j : Nat} (v : Int64) (h : b ≠ a ∨ j ≠ k) : (setJ S a k v).2.1 b j = S.2.1 b j := by
  simp only [setJ, ups]; rw [if_neg]; rcases h with h | h <;> simp [h]
theorem setR_at (S : St) (a k : Nat) (v : Option Nat) : (setR S a k v).2.2 a k = v := by simp [setR, ups]
theorem setR_ne (S : St) {a b k j : Nat} (v : Option Nat) (h : b ≠ a ∨ j ≠ k) : (setR S a k v).2.2 b j = S.2.2 b j := by
  simp only [setR, ups]; rw [if_neg]; rcases h with h | h <;> simp [h]
section XL
variable {G : Gc} {E : Ev} {md : Md} {n : Nat} {Q : Option Value → St → Prop} {S : St} {pc : Nat} {lv : List (Option Value)} {st : List Value}
theorem X_laldN (hB : Bd G E md) {a m : Nat} {i : Int32} (j : Nat) {v : Int64} (ha : a ∈ gL G) (hk : gK G a = .inr (3, m)) (hm : m < 2 ^ 31) (hi : i = nI j) (hj : j < m) (hv : S.2.1 a j = v) (hd : decode md.2.1 pc = .ok (.laload, 1)) (k : X G E md n Q S (pc + 1) lv (.long v :: st)) : X G E md n Q S pc lv (.int i :: .ref a :: st) := by
  subst hi
  refine X_lald hB ha hk (vp_in_nI hj hm) hd ?_
  rw [nI_clamp (Nat.lt_trans hj hm), hv]
  exact k
theorem X_lastN (hB : Bd G E md) {a m : Nat} {i : Int32} {x : Int64} (j : Nat) (ha : a ∈ gL G) (hk : gK G a = .inr (3, m)) (hm : m < 2 ^ 31) (hi : i = nI j) (hj : j < m) (hd : decode md.2.1 pc = .ok (.lastore, 1)) (k : X G E md n Q (setJ S a j x) (pc + 1) lv st) : X G E md n Q S pc lv (.long x :: .int i :: .ref a :: st) := by
  subst hi
  refine X_last hB ha hk (vp_in_nI hj hm) hd ?_
  rw [nI_clamp (Nat.lt_trans hj hm)]
  exact k
theorem X_aaldN (hB : Bd G E md) {a m t b : Nat} {i : Int32} (j : Nat) {Cr : String} (ha : a ∈ gL G) (hk : gK G a = .inr (t, m)) (ht : 3 < t ∧ t < 9) (hty : atyOf t = .object Cr) (hm : m < 2 ^ 31) (hi : i = nI j) (hj : j < m) (hr : S.2.2 a j = some b) (hd : decode md.2.1 pc = .ok (.aaload, 1)) (k : X G E md n Q S (pc + 1) lv (.ref b :: st)) : X G E md n Q S pc lv (.int i :: .ref a :: st) := by
  subst hi
  exact X_aald hB ha hk ht hty (vp_in_nI hj hm) (by rw [nI_clamp (Nat.lt_trans hj hm)]; exact hr) hd k
end XL
/-- entries, the newest first -/
def RcLay (G : Gc) (a m : Nat) : Prop := (a ∈ gL G ∧ gK G a = .inl 6) ∧ (a + 1 ∈ gL G ∧ gK G (a + 1) = .inr (3, m)) ∧ 1 ≤ m ∧ m < 100
def rcR (S : St) (a : Nat) (es : List Int64) : Prop := S.2.2 a 0 = some (a + 1) ∧ S.1 a 1 = nI es.length ∧ ∀ i, i < es.length → S.2.1 (a + 1) i = es.getD i 0
theorem rcR.chg {lo hi a : Nat} {S S' : St} {es : List Int64} (h : rcR S a es) (hc : chg lo hi S S') (ho : a + 1 < lo ∨ hi ≤ a) : rcR S' a es := by
  have h1 := hc a (by omega)
  have h2 := hc (a + 1) (by omega)
  exact ⟨by rw [h1.2.2]; exact h.1, by rw [h1.1]; exact h.2.1, fun i hi => by rw [h2.2.1]; exact h.2.2 i hi⟩
theorem idxOf_J {es : List Int64} {e : Int64} {j : Nat} (hj : j ≤ es.length) (h1 : ∀ i, i < j → es.getD i 0 ≠ e) (h2 : j < es.length → es.getD j 0 = e) : es.idxOf e = j := by
  induction es generalizing j with
  | nil => simp at hj; subst hj; rfl
  | cons a t ih =>
    cases j with
    | zero =>
      have := h2 (by simp)
      simp at this
      subst this
      simp
    | succ j =>
      have h0 : a ≠ e := by simpa using h1 0 (by omega)
      rw [List.idxOf_cons, show (a == e) = false by simpa using h0]
      show t.idxOf e + 1 = j + 1
      rw [ih (by simpa using hj) (fun i hi => by simpa using h1 (i + 1) (by omega)) (fun q => by simpa using h2 (by simpa using q))]
theorem memJ {es : List Int64} {e : Int64} : es.idxOf e < es.length ↔ e ∈ es := List.idxOf_lt_length_iff
def tch (es : List Int64) (e : Int64) (most : Nat) : List Int64 := (e :: es.erase e).take most
theorem eraseJ {es : List Int64} {e : Int64} (h : e ∈ es) : es.erase e = es.eraseIdx (es.idxOf e) := by rw [List.erase_eq_eraseIdx_of_idxOf]; rfl
/-- the list behind a touch, place by place -/
theorem tch_get {es : List Int64} {e : Int64} {most : Nat} (hl : es.length ≤ most) (h1 : 1 ≤ most) (j : Nat) (hj : j < (tch es e most).length) : (tch es e most).getD j 0 = if j = 0 then e else if j ≤ es.idxOf e then es.getD (j - 1) 0 else es.getD j 0 := by
  unfold tch at hj ⊢
  rw [List.length_take, List.length_cons] at hj
  have hg : ((e :: es.erase e).take most).getD j 0 = (e :: es.erase e).getD j 0 := by
    simp only [List.getD_eq_getElem?_getD]
    rw [List.getElem?_take_of_lt (by omega)]
  rw [hg]
  cases j with
  | zero => rfl
  | succ j =>
    rw [if_neg (by omega)]
    show (es.erase e).getD j 0 = _
    by_cases hm : e ∈ es
    · rw [eraseJ hm]
      simp only [List.getD_eq_getElem?_getD, Nat.add_sub_cancel]
      rw [List.getElem?_eraseIdx]
      by_cases c : j < es.idxOf e
      · rw [if_pos c, if_pos (by omega)]
      · rw [if_neg c, if_neg (by omega)]
    · rw [List.erase_of_not_mem hm, List.idxOf_eq_length hm]
      rw [List.erase_of_not_mem hm] at hj
      rw [if_pos (by omega), Nat.add_sub_cancel]
theorem tch_len {es : List Int64} {e : Int64} {most : Nat} (hl : es.length ≤ most) (h1 : 1 ≤ most) : (tch es e most).length = if e ∈ es then es.length else min (es.length + 1) most := by
  unfold tch
  rw [List.length_take, List.length_cons]
  by_cases hm : e ∈ es
  · rw [if_pos hm, List.length_erase_of_mem hm]
    have : 0 < es.length := List.length_pos_of_mem hm
    omega
  · rw [if_neg hm, List.erase_of_not_mem hm]
    omega
