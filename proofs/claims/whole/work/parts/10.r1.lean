/-! the reference: where its cells lie -/
def RLay (G : Gc) (h : Nat) : Prop := (h ∈ gL G ∧ gK G h = .inl 10) ∧ (h + 1 ∈ gL G ∧ gK G (h + 1) = .inr (0, 12285)) ∧ (h + 2 ∈ gL G ∧ gK G (h + 2) = .inr (1, 2000)) ∧ (h + 3 ∈ gL G ∧ gK G (h + 3) = .inr (2, 3)) ∧ (h + 4 ∈ gL G ∧ gK G (h + 4) = .inr (0, 8)) ∧ (h + 5 ∈ gL G ∧ gK G (h + 5) = .inr (0, 64)) ∧ (h + 6 ∈ gL G ∧ gK G (h + 6) = .inr (0, 8)) ∧ (h + 7 ∈ gL G ∧ gK G (h + 7) = .inr (0, 9)) ∧ (h + 8 ∈ gL G ∧ gK G (h + 8) = .inr (0, 9)) ∧ (h + 9 ∈ gL G ∧ gK G (h + 9) = .inr (2, 64)) ∧ (h + 10 ∈ gL G ∧ gK G (h + 10) = .inr (0, 8)) ∧ (h + 11 ∈ gL G ∧ gK G (h + 11) = .inr (0, 16)) ∧ (h + 12 ∈ gL G ∧ gK G (h + 12) = .inr (0, 16))
/-- its references -/
def RRef (S : St) (h : Nat) : Prop := S.2.2 h 1 = some (h + 1) ∧ S.2.2 h 2 = some (h + 2) ∧ S.2.2 h 3 = some (h + 3) ∧ S.2.2 h 13 = some (h + 4) ∧ S.2.2 h 14 = some (h + 5) ∧ S.2.2 h 15 = some (h + 6) ∧ S.2.2 h 19 = some (h + 7) ∧ S.2.2 h 21 = some (h + 8) ∧ S.2.2 h 23 = some (h + 9) ∧ S.2.2 h 24 = some (h + 10) ∧ S.2.2 h 25 = some (h + 11) ∧ S.2.2 h 26 = some (h + 12)
theorem RRef.of {S S' : St} {h : Nat} (hF : RRef S h) (e : S'.2.2 = S.2.2) : RRef S' h := by unfold RRef; rw [e]; exact hF

section REF
variable {G : Gc} {S : St} {h : Nat}
set_option maxRecDepth 100000 in
set_option maxHeartbeats 4000000 in
theorem c_in (v a b : Int32) : C G mX12_in 0 [.int v, .int a, .int b] S (fun r S' => r = some (.int (if a ≤ v ∧ v ≤ b then 1 else 0)) ∧ S = S') := by
  refine C.mk (lv := [some (.int v), some (.int a), some (.int b)]) (by decide) (Nat.le_of_ble_eq_true rfl) rfl (fun E hB => ?_)
  refine X_iload_n (i := 0) hB dX12_in_0 rfl rfl ?_
  refine X_iload_n (i := 1) hB dX12_in_1 rfl rfl ?_
  refine X_icmp_lt (tgt := 14) hB dX12_in_2 (by decide) (fun c2 => ?_) (fun c2 => ?_)
  · refine X_iconst (v := 0) hB dX12_in_14 (by decide) ?_
    refine X_zret hB rfl (by first | exact Or.inl rfl | exact Or.inr rfl) dX12_in_15 ?_
    refine ⟨?_, rfl⟩; congr 2; rw [eq_comm]; first | (rw [if_pos]; (constructor <;> (simp only [Int32.le_iff_toInt_le, Int32.lt_iff_toInt_lt] at *; omega))) | (rw [if_neg]; (intro hx; simp only [Int32.le_iff_toInt_le, Int32.lt_iff_toInt_lt] at *; omega))
  · refine X_iload_n (i := 0) hB dX12_in_5 rfl rfl ?_
    refine X_iload_n (i := 2) hB dX12_in_6 rfl rfl ?_
    refine X_icmp_gt (tgt := 14) hB dX12_in_7 (by decide) (fun c7 => ?_) (fun c7 => ?_)
    · refine X_iconst (v := 0) hB dX12_in_14 (by decide) ?_
      refine X_zret hB rfl (by first | exact Or.inl rfl | exact Or.inr rfl) dX12_in_15 ?_
      refine ⟨?_, rfl⟩; congr 2; rw [eq_comm]; first | (rw [if_pos]; (constructor <;> (simp only [Int32.le_iff_toInt_le, Int32.lt_iff_toInt_lt] at *; omega))) | (rw [if_neg]; (intro hx; simp only [Int32.le_iff_toInt_le, Int32.lt_iff_toInt_lt] at *; omega))
    · refine X_iconst (v := 1) hB dX12_in_10 (by decide) ?_
      refine X_goto (tgt := 15) hB dX12_in_11 (by decide) ?_
      refine X_zret hB rfl (by first | exact Or.inl rfl | exact Or.inr rfl) dX12_in_15 ?_
      refine ⟨?_, rfl⟩; congr 2; rw [eq_comm]; first | (rw [if_pos]; (constructor <;> (simp only [Int32.le_iff_toInt_le, Int32.lt_iff_toInt_lt] at *; omega))) | (rw [if_neg]; (intro hx; simp only [Int32.le_iff_toInt_le, Int32.lt_iff_toInt_lt] at *; omega))
set_option maxRecDepth 100000 in
set_option maxHeartbeats 4000000 in
theorem c_lesser (a b : Int32) : C G mX12_lesser 0 [.int a, .int b] S (fun r S' => r = some (.int (if a < b then a else b)) ∧ S = S') := by
  refine C.mk (lv := [some (.int a), some (.int b)]) (by decide) (Nat.le_of_ble_eq_true rfl) rfl (fun E hB => ?_)
  refine X_iload_n (i := 0) hB dX12_lesser_0 rfl rfl ?_
  refine X_iload_n (i := 1) hB dX12_lesser_1 rfl rfl ?_
  refine X_icmp_ge (tgt := 9) hB dX12_lesser_2 (by decide) (fun c2 => ?_) (fun c2 => ?_)
  · refine X_iload_n (i := 1) hB dX12_lesser_9 rfl rfl ?_
    refine X_iret hB rfl dX12_lesser_10 ?_
    refine ⟨?_, rfl⟩; congr 2; rw [eq_comm]; first | (rw [if_pos]; (simp only [Int32.le_iff_toInt_le, Int32.lt_iff_toInt_lt] at *; omega)) | (rw [if_neg]; (simp only [Int32.le_iff_toInt_le, Int32.lt_iff_toInt_lt] at *; omega))
  · refine X_iload_n (i := 0) hB dX12_lesser_5 rfl rfl ?_
    refine X_goto (tgt := 10) hB dX12_lesser_6 (by decide) ?_
    refine X_iret hB rfl dX12_lesser_10 ?_
    refine ⟨?_, rfl⟩; congr 2; rw [eq_comm]; first | (rw [if_pos]; (simp only [Int32.le_iff_toInt_le, Int32.lt_iff_toInt_lt] at *; omega)) | (rw [if_neg]; (simp only [Int32.le_iff_toInt_le, Int32.lt_iff_toInt_lt] at *; omega))
set_option maxRecDepth 100000 in
set_option maxHeartbeats 4000000 in
theorem c_greater (a b : Int32) : C G mX12_greater 0 [.int a, .int b] S (fun r S' => r = some (.int (if b < a then a else b)) ∧ S = S') := by
  refine C.mk (lv := [some (.int a), some (.int b)]) (by decide) (Nat.le_of_ble_eq_true rfl) rfl (fun E hB => ?_)
  refine X_iload_n (i := 0) hB dX12_greater_0 rfl rfl ?_
  refine X_iload_n (i := 1) hB dX12_greater_1 rfl rfl ?_
  refine X_icmp_le (tgt := 9) hB dX12_greater_2 (by decide) (fun c2 => ?_) (fun c2 => ?_)
  · refine X_iload_n (i := 1) hB dX12_greater_9 rfl rfl ?_
    refine X_iret hB rfl dX12_greater_10 ?_
    refine ⟨?_, rfl⟩; congr 2; rw [eq_comm]; first | (rw [if_pos]; (simp only [Int32.le_iff_toInt_le, Int32.lt_iff_toInt_lt] at *; omega)) | (rw [if_neg]; (simp only [Int32.le_iff_toInt_le, Int32.lt_iff_toInt_lt] at *; omega))
  · refine X_iload_n (i := 0) hB dX12_greater_5 rfl rfl ?_
    refine X_goto (tgt := 10) hB dX12_greater_6 (by decide) ?_
    refine X_iret hB rfl dX12_greater_10 ?_
    refine ⟨?_, rfl⟩; congr 2; rw [eq_comm]; first | (rw [if_pos]; (simp only [Int32.le_iff_toInt_le, Int32.lt_iff_toInt_lt] at *; omega)) | (rw [if_neg]; (simp only [Int32.le_iff_toInt_le, Int32.lt_iff_toInt_lt] at *; omega))
set_option maxRecDepth 100000 in
set_option maxHeartbeats 4000000 in
theorem c_of (hR : RLay G h) (hF : RRef S h) (n w : Nat) (hn : n < 8) (hw : w < 86) : C G mX12_of 0 [.ref h, .int (nI n), .int (nI w)] S (fun r S' => r = some (.int (S.1 (h + 1) (89 + 86 * n + w))) ∧ S = S') := by
  refine C.mk (lv := [some (.ref h), some (.int (nI n)), some (.int (nI w))]) (by decide) (Nat.le_of_ble_eq_true rfl) rfl (fun E hB => ?_)
  refine X_aload_n (i := 0) hB dX12_of_0 rfl rfl ?_
  refine X_getr hB cw10 fX12_7 rfl hR.1.1 hR.1.2 hF.1 dX12_of_1 ?_
  refine X_bipush (v := 89) hB dX12_of_4 (by decide) ?_
  refine X_bipush (v := 86) hB dX12_of_6 (by decide) ?_
  refine X_iload_n (i := 1) hB dX12_of_8 rfl rfl ?_
  refine X_imul hB dX12_of_9 ?_
  refine X_iadd hB dX12_of_10 ?_
  refine X_iload_n (i := 2) hB dX12_of_11 rfl rfl ?_
  refine X_iadd hB dX12_of_12 ?_
  refine X_ialdN hB (89 + 86 * n + w) hR.2.1.1 hR.2.1.2 (by decide) (by first | rfl | (simp (disch := omega) only [nlit, nI_add, nI_mul, nI_sub]; done) | (simp (disch := omega) only [nlit, nI_add, nI_mul, nI_sub]; congr 1; omega)) (by first | omega | (simp only []; omega)) rfl dX12_of_13 ?_
  refine X_iret hB rfl dX12_of_14 ?_
  exact ⟨rfl, rfl⟩
set_option maxRecDepth 100000 in
set_option maxHeartbeats 4000000 in
theorem c_lay (hR : RLay G h) (hF : RRef S h) (n w : Nat) (hn : n < 8) (hw : w < 86) (v : Int32) : C G mX12_lay 0 [.ref h, .int (nI n), .int (nI w), .int v] S (fun r S' => r = none ∧ S' = setI S (h + 1) (89 + 86 * n + w) v) := by
  refine C.mk (lv := [some (.ref h), some (.int (nI n)), some (.int (nI w)), some (.int v)]) (by decide) (Nat.le_of_ble_eq_true rfl) rfl (fun E hB => ?_)
  refine X_aload_n (i := 0) hB dX12_lay_0 rfl rfl ?_
  refine X_getr hB cw10 fX12_7 rfl hR.1.1 hR.1.2 hF.1 dX12_lay_1 ?_
  refine X_bipush (v := 89) hB dX12_lay_4 (by decide) ?_
  refine X_bipush (v := 86) hB dX12_lay_6 (by decide) ?_
  refine X_iload_n (i := 1) hB dX12_lay_8 rfl rfl ?_
  refine X_imul hB dX12_lay_9 ?_
  refine X_iadd hB dX12_lay_10 ?_
  refine X_iload_n (i := 2) hB dX12_lay_11 rfl rfl ?_
  refine X_iadd hB dX12_lay_12 ?_
  refine X_iload_n (i := 3) hB dX12_lay_13 rfl rfl ?_
  refine X_iastN hB (89 + 86 * n + w) hR.2.1.1 hR.2.1.2 (by decide) (by first | rfl | (simp (disch := omega) only [nlit, nI_add, nI_mul, nI_sub]; done) | (simp (disch := omega) only [nlit, nI_add, nI_mul, nI_sub]; congr 1; omega)) (by first | omega | (simp only []; omega)) dX12_lay_14 ?_
  refine X_vret hB rfl dX12_lay_15 ?_
  exact ⟨rfl, rfl⟩
set_option maxRecDepth 100000 in
set_option maxHeartbeats 4000000 in
theorem c_ofData (hR : RLay G h) (hF : RRef S h) (n w : Nat) (hn : n < 40) (hw : w < 26) : C G mX12_ofData 0 [.ref h, .int (nI n), .int (nI w)] S (fun r S' => r = some (.int (S.1 (h + 1) (1417 + 26 * n + w))) ∧ S = S') := by
  refine C.mk (lv := [some (.ref h), some (.int (nI n)), some (.int (nI w))]) (by decide) (Nat.le_of_ble_eq_true rfl) rfl (fun E hB => ?_)
  refine X_aload_n (i := 0) hB dX12_ofData_0 rfl rfl ?_
  refine X_getr hB cw10 fX12_7 rfl hR.1.1 hR.1.2 hF.1 dX12_ofData_1 ?_
  refine X_sipush (v := 1417) hB dX12_ofData_4 (by decide) ?_
  refine X_bipush (v := 26) hB dX12_ofData_7 (by decide) ?_
  refine X_iload_n (i := 1) hB dX12_ofData_9 rfl rfl ?_
  refine X_imul hB dX12_ofData_10 ?_
  refine X_iadd hB dX12_ofData_11 ?_
  refine X_iload_n (i := 2) hB dX12_ofData_12 rfl rfl ?_
  refine X_iadd hB dX12_ofData_13 ?_
  refine X_ialdN hB (1417 + 26 * n + w) hR.2.1.1 hR.2.1.2 (by decide) (by first | rfl | (simp (disch := omega) only [nlit, nI_add, nI_mul, nI_sub]; done) | (simp (disch := omega) only [nlit, nI_add, nI_mul, nI_sub]; congr 1; omega)) (by first | omega | (simp only []; omega)) rfl dX12_ofData_14 ?_
  refine X_iret hB rfl dX12_ofData_15 ?_
  exact ⟨rfl, rfl⟩
set_option maxRecDepth 100000 in
set_option maxHeartbeats 4000000 in
theorem c_layData (hR : RLay G h) (hF : RRef S h) (n w : Nat) (hn : n < 40) (hw : w < 26) (v : Int32) : C G mX12_layData 0 [.ref h, .int (nI n), .int (nI w), .int v] S (fun r S' => r = none ∧ S' = setI S (h + 1) (1417 + 26 * n + w) v) := by
  refine C.mk (lv := [some (.ref h), some (.int (nI n)), some (.int (nI w)), some (.int v)]) (by decide) (Nat.le_of_ble_eq_true rfl) rfl (fun E hB => ?_)
  refine X_aload_n (i := 0) hB dX12_layData_0 rfl rfl ?_
  refine X_getr hB cw10 fX12_7 rfl hR.1.1 hR.1.2 hF.1 dX12_layData_1 ?_
  refine X_sipush (v := 1417) hB dX12_layData_4 (by decide) ?_
  refine X_bipush (v := 26) hB dX12_layData_7 (by decide) ?_
  refine X_iload_n (i := 1) hB dX12_layData_9 rfl rfl ?_
  refine X_imul hB dX12_layData_10 ?_
  refine X_iadd hB dX12_layData_11 ?_
  refine X_iload_n (i := 2) hB dX12_layData_12 rfl rfl ?_
  refine X_iadd hB dX12_layData_13 ?_
  refine X_iload_n (i := 3) hB dX12_layData_14 rfl rfl ?_
  refine X_iastN hB (1417 + 26 * n + w) hR.2.1.1 hR.2.1.2 (by decide) (by first | rfl | (simp (disch := omega) only [nlit, nI_add, nI_mul, nI_sub]; done) | (simp (disch := omega) only [nlit, nI_add, nI_mul, nI_sub]; congr 1; omega)) (by first | omega | (simp only []; omega)) dX12_layData_15 ?_
  refine X_vret hB rfl dX12_layData_16 ?_
  exact ⟨rfl, rfl⟩
end REF
