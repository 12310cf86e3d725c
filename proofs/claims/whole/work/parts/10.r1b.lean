section REF
variable {G : Gc} {S : St} {h : Nat}
theorem c_ofE {n w : Nat} {x y : Int32} (hR : RLay G h) (hF : RRef S h) (hx : x = nI n) (hy : y = nI w) (hn : n < 8) (hw : w < 86) : C G mX12_of 0 [.ref h, .int x, .int y] S (fun r S' => r = some (.int (S.1 (h + 1) (89 + 86 * n + w))) ∧ S = S') := by subst hx; subst hy; exact c_of hR hF n w hn hw
theorem c_layE {n w : Nat} {x y v : Int32} (hR : RLay G h) (hF : RRef S h) (hx : x = nI n) (hy : y = nI w) (hn : n < 8) (hw : w < 86) : C G mX12_lay 0 [.ref h, .int x, .int y, .int v] S (fun r S' => r = none ∧ S' = setI S (h + 1) (89 + 86 * n + w) v) := by subst hx; subst hy; exact c_lay hR hF n w hn hw v
theorem c_ofDE {n w : Nat} {x y : Int32} (hR : RLay G h) (hF : RRef S h) (hx : x = nI n) (hy : y = nI w) (hn : n < 40) (hw : w < 26) : C G mX12_ofData 0 [.ref h, .int x, .int y] S (fun r S' => r = some (.int (S.1 (h + 1) (1417 + 26 * n + w))) ∧ S = S') := by subst hx; subst hy; exact c_ofData hR hF n w hn hw
theorem c_layDE {n w : Nat} {x y v : Int32} (hR : RLay G h) (hF : RRef S h) (hx : x = nI n) (hy : y = nI w) (hn : n < 40) (hw : w < 26) : C G mX12_layData 0 [.ref h, .int x, .int y, .int v] S (fun r S' => r = none ∧ S' = setI S (h + 1) (1417 + 26 * n + w) v) := by subst hx; subst hy; exact c_layData hR hF n w hn hw v
set_option maxRecDepth 100000 in
set_option maxHeartbeats 4000000 in
theorem c_isUp (hR : RLay G h) (hF : RRef S h) {a b : Nat} (ha : a < 8) (hb : b < 8) {u : Bool} (hu : S.1 (h + 1) (25 + 8 * a + b) = if u then 1 else 0) : C G mX12_isUp 0 [.ref h, .int (nI a), .int (nI b)] S (fun r S' => r = some (.int (if u then 1 else 0)) ∧ S = S') := by
  refine C.mk (lv := [some (.ref h), some (.int (nI a)), some (.int (nI b))]) (by decide) (Nat.le_of_ble_eq_true rfl) rfl (fun E hB => ?_)
  refine X_aload_n (i := 0) hB dX12_isUp_0 rfl rfl ?_
  refine X_getr hB cw10 fX12_7 rfl hR.1.1 hR.1.2 hF.1 dX12_isUp_1 ?_
  refine X_bipush (v := 25) hB dX12_isUp_4 (by decide) ?_
  refine X_bipush (v := 8) hB dX12_isUp_6 (by decide) ?_
  refine X_iload_n (i := 1) hB dX12_isUp_8 rfl rfl ?_
  refine X_imul hB dX12_isUp_9 ?_
  refine X_iadd hB dX12_isUp_10 ?_
  refine X_iload_n (i := 2) hB dX12_isUp_11 rfl rfl ?_
  refine X_iadd hB dX12_isUp_12 ?_
  refine X_ialdN hB (25 + 8 * a + b) hR.2.1.1 hR.2.1.2 (by decide) (by first | rfl | (simp (disch := omega) only [nlit, nI_add, nI_mul, nI_sub]; done) | (simp (disch := omega) only [nlit, nI_add, nI_mul, nI_sub]; congr 1; omega)) (by first | omega | (simp only []; omega)) hu dX12_isUp_13 ?_
  refine X_iconst (v := 1) hB dX12_isUp_14 (by decide) ?_
  refine X_icmp_ne (tgt := 22) hB dX12_isUp_15 (by decide) (fun c15 => ?_) (fun c15 => ?_)
  · refine X_iconst (v := 0) hB dX12_isUp_22 (by decide) ?_
    refine X_zret hB rfl (by first | exact Or.inl rfl | exact Or.inr rfl) dX12_isUp_23 ?_
    cases u <;> simp_all
  · refine X_iconst (v := 1) hB dX12_isUp_18 (by decide) ?_
    refine X_goto (tgt := 23) hB dX12_isUp_19 (by decide) ?_
    refine X_zret hB rfl (by first | exact Or.inl rfl | exact Or.inr rfl) dX12_isUp_23 ?_
    cases u <;> simp_all
set_option maxRecDepth 100000 in
set_option maxHeartbeats 4000000 in
theorem c_layUp (hR : RLay G h) (hF : RRef S h) {a b : Nat} (ha : a < 8) (hb : b < 8) (v : Int32) : C G mX12_layUp 0 [.ref h, .int (nI a), .int (nI b), .int v] S (fun r S' => r = none ∧ S' = setI (setI S (h + 1) (25 + 8 * a + b) v) (h + 1) (25 + 8 * b + a) v) := by
  refine C.mk (lv := [some (.ref h), some (.int (nI a)), some (.int (nI b)), some (.int v)]) (by decide) (Nat.le_of_ble_eq_true rfl) rfl (fun E hB => ?_)
  refine X_aload_n (i := 0) hB dX12_layUp_0 rfl rfl ?_
  refine X_getr hB cw10 fX12_7 rfl hR.1.1 hR.1.2 hF.1 dX12_layUp_1 ?_
  refine X_bipush (v := 25) hB dX12_layUp_4 (by decide) ?_
  refine X_bipush (v := 8) hB dX12_layUp_6 (by decide) ?_
  refine X_iload_n (i := 1) hB dX12_layUp_8 rfl rfl ?_
  refine X_imul hB dX12_layUp_9 ?_
  refine X_iadd hB dX12_layUp_10 ?_
  refine X_iload_n (i := 2) hB dX12_layUp_11 rfl rfl ?_
  refine X_iadd hB dX12_layUp_12 ?_
  refine X_iload_n (i := 3) hB dX12_layUp_13 rfl rfl ?_
  refine X_iastN hB (25 + 8 * a + b) hR.2.1.1 hR.2.1.2 (by decide) (by first | rfl | (simp (disch := omega) only [nlit, nI_add, nI_mul, nI_sub]; done) | (simp (disch := omega) only [nlit, nI_add, nI_mul, nI_sub]; congr 1; omega)) (by first | omega | (simp only []; omega)) dX12_layUp_14 ?_
  refine X_aload_n (i := 0) hB dX12_layUp_15 rfl rfl ?_
  refine X_getr hB cw10 fX12_7 rfl hR.1.1 hR.1.2 hF.1 dX12_layUp_16 ?_
  refine X_bipush (v := 25) hB dX12_layUp_19 (by decide) ?_
  refine X_bipush (v := 8) hB dX12_layUp_21 (by decide) ?_
  refine X_iload_n (i := 2) hB dX12_layUp_23 rfl rfl ?_
  refine X_imul hB dX12_layUp_24 ?_
  refine X_iadd hB dX12_layUp_25 ?_
  refine X_iload_n (i := 1) hB dX12_layUp_26 rfl rfl ?_
  refine X_iadd hB dX12_layUp_27 ?_
  refine X_iload_n (i := 3) hB dX12_layUp_28 rfl rfl ?_
  refine X_iastN hB (25 + 8 * b + a) hR.2.1.1 hR.2.1.2 (by decide) (by first | rfl | (simp (disch := omega) only [nlit, nI_add, nI_mul, nI_sub]; done) | (simp (disch := omega) only [nlit, nI_add, nI_mul, nI_sub]; congr 1; omega)) (by first | omega | (simp only []; omega)) dX12_layUp_29 ?_
  refine X_vret hB rfl dX12_layUp_30 ?_
  exact ⟨rfl, rfl⟩
set_option maxRecDepth 100000 in
set_option maxHeartbeats 4000000 in
theorem c_tally (hR : RLay G h) (hF : RRef S h) {k : Nat} (hk : k < 11) (v : Int32) : C G mX12_tally 0 [.ref h, .int (nI k), .int v] S (fun r S' => r = none ∧ S' = setI S (h + 1) (14 + k) (S.1 (h + 1) (14 + k) + v)) := by
  refine C.mk (lv := [some (.ref h), some (.int (nI k)), some (.int v)]) (by decide) (Nat.le_of_ble_eq_true rfl) rfl (fun E hB => ?_)
  refine X_aload_n (i := 0) hB dX12_tally_0 rfl rfl ?_
  refine X_getr hB cw10 fX12_7 rfl hR.1.1 hR.1.2 hF.1 dX12_tally_1 ?_
  refine X_bipush (v := 14) hB dX12_tally_4 (by decide) ?_
  refine X_iload_n (i := 1) hB dX12_tally_6 rfl rfl ?_
  refine X_iadd hB dX12_tally_7 ?_
  refine X_dup2_11 hB dX12_tally_8 rfl rfl ?_
  refine X_ialdN hB (14 + k) hR.2.1.1 hR.2.1.2 (by decide) (by first | rfl | (simp (disch := omega) only [nlit, nI_add, nI_mul, nI_sub]; done) | (simp (disch := omega) only [nlit, nI_add, nI_mul, nI_sub]; congr 1; omega)) (by first | omega | (simp only []; omega)) rfl dX12_tally_9 ?_
  refine X_iload_n (i := 2) hB dX12_tally_10 rfl rfl ?_
  refine X_iadd hB dX12_tally_11 ?_
  refine X_iastN hB (14 + k) hR.2.1.1 hR.2.1.2 (by decide) (by first | rfl | (simp (disch := omega) only [nlit, nI_add, nI_mul, nI_sub]; done) | (simp (disch := omega) only [nlit, nI_add, nI_mul, nI_sub]; congr 1; omega)) (by first | omega | (simp only []; omega)) dX12_tally_12 ?_
  refine X_vret hB rfl dX12_tally_13 ?_
  exact ⟨rfl, rfl⟩
set_option maxRecDepth 100000 in
set_option maxHeartbeats 4000000 in
theorem c_linkOf {a b : Nat} (ha : a < 8) (hb : b < 8) : C G mX12_linkOf 1 [.int (nI a), .int (nI b)] S (fun r S' => r = some (.int (nI (10 * min a b + max a b))) ∧ S = S') := by
  refine C.mk (lv := [some (.int (nI a)), some (.int (nI b))]) (by decide) (Nat.le_of_ble_eq_true rfl) rfl (fun E hB => ?_)
  refine X_bipush (v := 10) hB dX12_linkOf_0 (by decide) ?_
  refine X_iload_n (i := 0) hB dX12_linkOf_2 rfl rfl ?_
  refine X_iload_n (i := 1) hB dX12_linkOf_3 rfl rfl ?_
  refine X_callS hB kX12_63 (c_lesser _ _) (by decide) (by decide) rfl rfl (Nat.le_of_ble_eq_true rfl) dX12_linkOf_4 (fun r4 S4 q4 => ?_)
  obtain ⟨rfl, rfl⟩ := q4
  refine X_imul hB dX12_linkOf_7 ?_
  refine X_iload_n (i := 0) hB dX12_linkOf_8 rfl rfl ?_
  refine X_iload_n (i := 1) hB dX12_linkOf_9 rfl rfl ?_
  refine X_callS hB kX12_67 (c_greater _ _) (by decide) (by decide) rfl rfl (Nat.le_of_ble_eq_true rfl) dX12_linkOf_10 (fun r10 S10 q10 => ?_)
  obtain ⟨rfl, rfl⟩ := q10
  refine X_iadd hB dX12_linkOf_13 ?_
  refine X_iret hB rfl dX12_linkOf_14 ?_
  refine ⟨?_, rfl⟩
  congr 2
  rcases Nat.lt_trichotomy a b with hc | hc | hc
  · rw [if_pos (nI_lt hc (by omega)), if_neg (nI_nlt (by omega) (by omega)), show min a b = a by omega, show max a b = b by omega]; simp only [nlit, nI_add, nI_mul]
  · subst hc; rw [ite_self, Nat.min_self, Nat.max_self]; simp only [nlit, nI_add, nI_mul]
  · rw [if_neg (nI_nlt (by omega) (by omega)), if_pos (nI_lt hc (by omega)), show min a b = b by omega, show max a b = a by omega]; simp only [nlit, nI_add, nI_mul]
set_option maxRecDepth 100000 in
set_option maxHeartbeats 4000000 in
theorem c_pathAt (hR : RLay G h) (hF : RRef S h) {n p i : Nat} (hn : n < 8) (hp : p < 6) (hi : i < 8) : C G mX12_pathAt 1 [.ref h, .int (nI n), .int (nI p), .int (nI i)] S (fun r S' => r = some (.int (S.1 (h + 1) (89 + 86 * n + 15 + 9 * p + (1 + i)))) ∧ S = S') := by
  refine C.mk (lv := [some (.ref h), some (.int (nI n)), some (.int (nI p)), some (.int (nI i))]) (by decide) (Nat.le_of_ble_eq_true rfl) rfl (fun E hB => ?_)
  refine X_aload_n (i := 0) hB dX12_pathAt_0 rfl rfl ?_
  refine X_iload_n (i := 1) hB dX12_pathAt_1 rfl rfl ?_
  refine X_bipush (v := 15) hB dX12_pathAt_2 (by decide) ?_
  refine X_bipush (v := 9) hB dX12_pathAt_4 (by decide) ?_
  refine X_iload_n (i := 2) hB dX12_pathAt_6 rfl rfl ?_
  refine X_imul hB dX12_pathAt_7 ?_
  refine X_iadd hB dX12_pathAt_8 ?_
  refine X_iconst (v := 1) hB dX12_pathAt_9 (by decide) ?_
  refine X_iadd hB dX12_pathAt_10 ?_
  refine X_iload_n (i := 3) hB dX12_pathAt_11 rfl rfl ?_
  refine X_iadd hB dX12_pathAt_12 ?_
  refine X_callV hB kX12_180 cw10 hR.1.1 hR.1.2 (c_ofE (w := 15 + 9 * p + 1 + i) hR (by exact hF.of rfl) rfl (by first | rfl | (simp (disch := omega) only [nlit, nI_add, nI_mul, nI_sub]; done) | (simp (disch := omega) only [nlit, nI_add, nI_mul, nI_sub]; congr 1; omega)) (by omega) (by omega)) (by decide) (by decide) rfl rfl (Nat.le_of_ble_eq_true rfl) dX12_pathAt_13 (fun r13 S13 q13 => ?_)
  obtain ⟨rfl, rfl⟩ := q13
  refine X_iret hB rfl dX12_pathAt_16 ?_
  exact ⟨rdx (by omega), rfl⟩
set_option maxRecDepth 100000 in
set_option maxHeartbeats 4000000 in
theorem c_pathMany (hR : RLay G h) (hF : RRef S h) {n p : Nat} (hn : n < 8) (hp : p < 6) : C G mX12_pathMany 1 [.ref h, .int (nI n), .int (nI p)] S (fun r S' => r = some (.int (S.1 (h + 1) (89 + 86 * n + 15 + 9 * p))) ∧ S = S') := by
  refine C.mk (lv := [some (.ref h), some (.int (nI n)), some (.int (nI p))]) (by decide) (Nat.le_of_ble_eq_true rfl) rfl (fun E hB => ?_)
  refine X_aload_n (i := 0) hB dX12_pathMany_0 rfl rfl ?_
  refine X_iload_n (i := 1) hB dX12_pathMany_1 rfl rfl ?_
  refine X_bipush (v := 15) hB dX12_pathMany_2 (by decide) ?_
  refine X_bipush (v := 9) hB dX12_pathMany_4 (by decide) ?_
  refine X_iload_n (i := 2) hB dX12_pathMany_6 rfl rfl ?_
  refine X_imul hB dX12_pathMany_7 ?_
  refine X_iadd hB dX12_pathMany_8 ?_
  refine X_callV hB kX12_180 cw10 hR.1.1 hR.1.2 (c_ofE (w := 15 + 9 * p) hR (by exact hF.of rfl) rfl (by first | rfl | (simp (disch := omega) only [nlit, nI_add, nI_mul, nI_sub]; done) | (simp (disch := omega) only [nlit, nI_add, nI_mul, nI_sub]; congr 1; omega)) (by omega) (by omega)) (by decide) (by decide) rfl rfl (Nat.le_of_ble_eq_true rfl) dX12_pathMany_9 (fun r9 S9 q9 => ?_)
  obtain ⟨rfl, rfl⟩ := q9
  refine X_iret hB rfl dX12_pathMany_12 ?_
  exact ⟨rdx (by omega), rfl⟩
end REF
