/-! the class: links -/
section CLS
variable {G : Gc} {S : St}
set_option maxRecDepth 100000 in
set_option maxHeartbeats 4000000 in
theorem c_J6_bitCount_0f7a4 (v : Int32) : C G mJ6_bitCount_0f7a4 0 [.int v] S (fun r S' => r = some (.int (bcE v)) ∧ S = S') := by
  refine C.mk (lv := [some (.int v)]) (by decide) (Nat.le_of_ble_eq_true rfl) rfl (fun E hB => ?_)
  refine X_iload_n (i := 0) hB dJ6_bitCount_0f7a4_0 rfl rfl ?_
  refine X_iload_n (i := 0) hB dJ6_bitCount_0f7a4_1 rfl rfl ?_
  refine X_iconst (v := 1) hB dJ6_bitCount_0f7a4_2 (by decide) ?_
  refine X_iushr hB dJ6_bitCount_0f7a4_3 ?_
  refine X_ldcw hB qJ6_265 dJ6_bitCount_0f7a4_4 ?_
  refine X_iand hB dJ6_bitCount_0f7a4_7 ?_
  refine X_isub hB dJ6_bitCount_0f7a4_8 ?_
  refine X_istore_n (i := 0) hB dJ6_bitCount_0f7a4_9 rfl (by decide) rfl ?_
  refine X_iload_n (i := 0) hB dJ6_bitCount_0f7a4_10 rfl rfl ?_
  refine X_ldcw hB qJ6_266 dJ6_bitCount_0f7a4_11 ?_
  refine X_iand hB dJ6_bitCount_0f7a4_14 ?_
  refine X_iload_n (i := 0) hB dJ6_bitCount_0f7a4_15 rfl rfl ?_
  refine X_iconst (v := 2) hB dJ6_bitCount_0f7a4_16 (by decide) ?_
  refine X_iushr hB dJ6_bitCount_0f7a4_17 ?_
  refine X_ldcw hB qJ6_266 dJ6_bitCount_0f7a4_18 ?_
  refine X_iand hB dJ6_bitCount_0f7a4_21 ?_
  refine X_iadd hB dJ6_bitCount_0f7a4_22 ?_
  refine X_istore_n (i := 0) hB dJ6_bitCount_0f7a4_23 rfl (by decide) rfl ?_
  refine X_iload_n (i := 0) hB dJ6_bitCount_0f7a4_24 rfl rfl ?_
  refine X_iload_n (i := 0) hB dJ6_bitCount_0f7a4_25 rfl rfl ?_
  refine X_iconst (v := 4) hB dJ6_bitCount_0f7a4_26 (by decide) ?_
  refine X_iushr hB dJ6_bitCount_0f7a4_27 ?_
  refine X_iadd hB dJ6_bitCount_0f7a4_28 ?_
  refine X_ldcw hB qJ6_267 dJ6_bitCount_0f7a4_29 ?_
  refine X_iand hB dJ6_bitCount_0f7a4_32 ?_
  refine X_istore_n (i := 0) hB dJ6_bitCount_0f7a4_33 rfl (by decide) rfl ?_
  refine X_iload_n (i := 0) hB dJ6_bitCount_0f7a4_34 rfl rfl ?_
  refine X_iload_n (i := 0) hB dJ6_bitCount_0f7a4_35 rfl rfl ?_
  refine X_bipush (v := 8) hB dJ6_bitCount_0f7a4_36 (by decide) ?_
  refine X_iushr hB dJ6_bitCount_0f7a4_38 ?_
  refine X_iadd hB dJ6_bitCount_0f7a4_39 ?_
  refine X_istore_n (i := 0) hB dJ6_bitCount_0f7a4_40 rfl (by decide) rfl ?_
  refine X_iload_n (i := 0) hB dJ6_bitCount_0f7a4_41 rfl rfl ?_
  refine X_iload_n (i := 0) hB dJ6_bitCount_0f7a4_42 rfl rfl ?_
  refine X_bipush (v := 16) hB dJ6_bitCount_0f7a4_43 (by decide) ?_
  refine X_iushr hB dJ6_bitCount_0f7a4_45 ?_
  refine X_iadd hB dJ6_bitCount_0f7a4_46 ?_
  refine X_istore_n (i := 0) hB dJ6_bitCount_0f7a4_47 rfl (by decide) rfl ?_
  refine X_iload_n (i := 0) hB dJ6_bitCount_0f7a4_48 rfl rfl ?_
  refine X_bipush (v := 63) hB dJ6_bitCount_0f7a4_49 (by decide) ?_
  refine X_iand hB dJ6_bitCount_0f7a4_51 ?_
  refine X_iret hB rfl dJ6_bitCount_0f7a4_52 ?_
  exact ⟨rfl, rfl⟩
set_option maxRecDepth 100000 in
set_option maxHeartbeats 4000000 in
theorem c_J13_bitCount_95d88 (v : Int64) : C G mJ13_bitCount_95d88 0 [.long v] S (fun r S' => r = some (.int (lcE v)) ∧ S = S') := by
  refine C.mk (lv := [some (.long v), none]) (by decide) (Nat.le_of_ble_eq_true rfl) rfl (fun E hB => ?_)
  refine X_lload_n (i := 0) hB dJ13_bitCount_95d88_0 rfl rfl ?_
  refine X_lload_n (i := 0) hB dJ13_bitCount_95d88_1 rfl rfl ?_
  refine X_iconst (v := 1) hB dJ13_bitCount_95d88_2 (by decide) ?_
  refine X_lushr hB dJ13_bitCount_95d88_3 ?_
  refine X_ldc2 hB qJ13_314 dJ13_bitCount_95d88_4 ?_
  refine X_land hB dJ13_bitCount_95d88_7 ?_
  refine X_lsub hB dJ13_bitCount_95d88_8 ?_
  refine X_lstore_n (i := 0) hB dJ13_bitCount_95d88_9 rfl (by decide) rfl ?_
  refine X_lload_n (i := 0) hB dJ13_bitCount_95d88_10 rfl rfl ?_
  refine X_ldc2 hB qJ13_316 dJ13_bitCount_95d88_11 ?_
  refine X_land hB dJ13_bitCount_95d88_14 ?_
  refine X_lload_n (i := 0) hB dJ13_bitCount_95d88_15 rfl rfl ?_
  refine X_iconst (v := 2) hB dJ13_bitCount_95d88_16 (by decide) ?_
  refine X_lushr hB dJ13_bitCount_95d88_17 ?_
  refine X_ldc2 hB qJ13_316 dJ13_bitCount_95d88_18 ?_
  refine X_land hB dJ13_bitCount_95d88_21 ?_
  refine X_ladd hB dJ13_bitCount_95d88_22 ?_
  refine X_lstore_n (i := 0) hB dJ13_bitCount_95d88_23 rfl (by decide) rfl ?_
  refine X_lload_n (i := 0) hB dJ13_bitCount_95d88_24 rfl rfl ?_
  refine X_lload_n (i := 0) hB dJ13_bitCount_95d88_25 rfl rfl ?_
  refine X_iconst (v := 4) hB dJ13_bitCount_95d88_26 (by decide) ?_
  refine X_lushr hB dJ13_bitCount_95d88_27 ?_
  refine X_ladd hB dJ13_bitCount_95d88_28 ?_
  refine X_ldc2 hB qJ13_318 dJ13_bitCount_95d88_29 ?_
  refine X_land hB dJ13_bitCount_95d88_32 ?_
  refine X_lstore_n (i := 0) hB dJ13_bitCount_95d88_33 rfl (by decide) rfl ?_
  refine X_lload_n (i := 0) hB dJ13_bitCount_95d88_34 rfl rfl ?_
  refine X_lload_n (i := 0) hB dJ13_bitCount_95d88_35 rfl rfl ?_
  refine X_bipush (v := 8) hB dJ13_bitCount_95d88_36 (by decide) ?_
  refine X_lushr hB dJ13_bitCount_95d88_38 ?_
  refine X_ladd hB dJ13_bitCount_95d88_39 ?_
  refine X_lstore_n (i := 0) hB dJ13_bitCount_95d88_40 rfl (by decide) rfl ?_
  refine X_lload_n (i := 0) hB dJ13_bitCount_95d88_41 rfl rfl ?_
  refine X_lload_n (i := 0) hB dJ13_bitCount_95d88_42 rfl rfl ?_
  refine X_bipush (v := 16) hB dJ13_bitCount_95d88_43 (by decide) ?_
  refine X_lushr hB dJ13_bitCount_95d88_45 ?_
  refine X_ladd hB dJ13_bitCount_95d88_46 ?_
  refine X_lstore_n (i := 0) hB dJ13_bitCount_95d88_47 rfl (by decide) rfl ?_
  refine X_lload_n (i := 0) hB dJ13_bitCount_95d88_48 rfl rfl ?_
  refine X_lload_n (i := 0) hB dJ13_bitCount_95d88_49 rfl rfl ?_
  refine X_bipush (v := 32) hB dJ13_bitCount_95d88_50 (by decide) ?_
  refine X_lushr hB dJ13_bitCount_95d88_52 ?_
  refine X_ladd hB dJ13_bitCount_95d88_53 ?_
  refine X_lstore_n (i := 0) hB dJ13_bitCount_95d88_54 rfl (by decide) rfl ?_
  refine X_lload_n (i := 0) hB dJ13_bitCount_95d88_55 rfl rfl ?_
  refine X_l2i hB dJ13_bitCount_95d88_56 ?_
  refine X_bipush (v := 127) hB dJ13_bitCount_95d88_57 (by decide) ?_
  refine X_iand hB dJ13_bitCount_95d88_59 ?_
  refine X_iret hB rfl dJ13_bitCount_95d88_60 ?_
  exact ⟨rfl, rfl⟩
set_option maxRecDepth 100000 in
set_option maxHeartbeats 4000000 in
theorem c_X4_both {a b : Nat} (ha : a < 8) (hb : b < 8) : C G mX4_both 0 [.int (nI a), .int (nI b)] S (fun r S' => r = some (.long (bJ a b)) ∧ S = S') := by
  refine C.mk (lv := [some (.int (nI a)), some (.int (nI b))]) (by decide) (Nat.le_of_ble_eq_true rfl) rfl (fun E hB => ?_)
  refine X_lconst (v := 1) hB dX4_both_0 (by decide) ?_
  refine X_bipush (v := 8) hB dX4_both_1 (by decide) ?_
  refine X_iload_n (i := 0) hB dX4_both_3 rfl rfl ?_
  refine X_imul hB dX4_both_4 ?_
  refine X_iload_n (i := 1) hB dX4_both_5 rfl rfl ?_
  refine X_iadd hB dX4_both_6 ?_
  refine X_topi (y := nI (8 * a + b)) (by first | rfl | (simp (disch := omega) only [nlit, nI_add, nI_mul, nI_sub]; done) | (simp (disch := omega) only [nlit, nI_add, nI_mul, nI_sub]; (congr 1 <;> omega))) ?_
  refine X_lshl hB dX4_both_7 ?_
  refine X_topl (y := lN (2 ^ (8 * a + b))) (by rw [show (1 : Int64) = lN 1 from rfl, wb_shl _ (by omega), Nat.one_mul]) ?_
  refine X_lconst (v := 1) hB dX4_both_8 (by decide) ?_
  refine X_bipush (v := 8) hB dX4_both_9 (by decide) ?_
  refine X_iload_n (i := 1) hB dX4_both_11 rfl rfl ?_
  refine X_imul hB dX4_both_12 ?_
  refine X_iload_n (i := 0) hB dX4_both_13 rfl rfl ?_
  refine X_iadd hB dX4_both_14 ?_
  refine X_topi (y := nI (8 * b + a)) (by first | rfl | (simp (disch := omega) only [nlit, nI_add, nI_mul, nI_sub]; done) | (simp (disch := omega) only [nlit, nI_add, nI_mul, nI_sub]; (congr 1 <;> omega))) ?_
  refine X_lshl hB dX4_both_15 ?_
  refine X_topl (y := lN (2 ^ (8 * b + a))) (by rw [show (1 : Int64) = lN 1 from rfl, wb_shl _ (by omega), Nat.one_mul]) ?_
  refine X_lor hB dX4_both_16 ?_
  refine X_lret hB rfl dX4_both_17 ?_
  exact ⟨rfl, rfl⟩
set_option maxRecDepth 100000 in
set_option maxHeartbeats 4000000 in
theorem c_X4_hold {v : Int64} {f : Nat → Nat → Bool} (hv : lkR v f) {a b : Nat} (ha : a < 8) (hb : b < 8) (hs : f a b = f b a) : C G mX4_hold 1 [.long v, .int (nI a), .int (nI b)] S (fun r S' => r = some (.int (if f a b then 1 else 0)) ∧ S = S') := by
  refine C.mk (lv := [some (.long v), none, some (.int (nI a)), some (.int (nI b))]) (by decide) (Nat.le_of_ble_eq_true rfl) rfl (fun E hB => ?_)
  refine X_lload_n (i := 0) hB dX4_hold_0 rfl rfl ?_
  refine X_iload_n (i := 2) hB dX4_hold_1 rfl rfl ?_
  refine X_iload_n (i := 3) hB dX4_hold_2 rfl rfl ?_
  refine X_callS hB kX4_9 (c_X4_both ha hb) (by decide) (by decide) rfl rfl (Nat.le_of_ble_eq_true rfl) dX4_hold_3 (fun r3 S3 q3 => ?_)
  obtain ⟨rfl, rfl⟩ := q3
  refine X_land hB dX4_hold_6 ?_
  refine X_lconst (v := 0) hB dX4_hold_7 (by decide) ?_
  refine X_lcmp hB dX4_hold_8 ?_
  refine X_if_eq (tgt := 16) hB dX4_hold_9 (by decide) (fun c9 => ?_) (fun c9 => ?_)
  · refine X_iconst (v := 0) hB dX4_hold_16 (by decide) ?_
    refine X_zret hB rfl (by first | exact Or.inl rfl | exact Or.inr rfl) dX4_hold_17 ?_
    refine ⟨?_, rfl⟩
    first
      | rw [if_neg (show ¬ f a b = true by rw [(hold_iff hv hs ha hb).mp (cmp_eq.mp c9)]; decide)]
      | rw [if_pos (show f a b = true from Classical.byContradiction (fun q => c9 (cmp_eq.mpr ((hold_iff hv hs ha hb).mpr (by simpa using q)))))]
  · refine X_iconst (v := 1) hB dX4_hold_12 (by decide) ?_
    refine X_goto (tgt := 17) hB dX4_hold_13 (by decide) ?_
    refine X_zret hB rfl (by first | exact Or.inl rfl | exact Or.inr rfl) dX4_hold_17 ?_
    refine ⟨?_, rfl⟩
    first
      | rw [if_neg (show ¬ f a b = true by rw [(hold_iff hv hs ha hb).mp (cmp_eq.mp c9)]; decide)]
      | rw [if_pos (show f a b = true from Classical.byContradiction (fun q => c9 (cmp_eq.mpr ((hold_iff hv hs ha hb).mpr (by simpa using q)))))]
set_option maxRecDepth 100000 in
set_option maxHeartbeats 4000000 in
theorem c_X4_near {v : Int64} {f : Nat → Nat → Bool} (hv : lkR v f) {x : Nat} (hx : x < 8) : C G mX4_near 0 [.long v, .int (nI x)] S (fun r S' => r = some (.int (nI (bts (f x) 8))) ∧ S = S') := by
  refine C.mk (lv := [some (.long v), none, some (.int (nI x))]) (by decide) (Nat.le_of_ble_eq_true rfl) rfl (fun E hB => ?_)
  refine X_lload_n (i := 0) hB dX4_near_0 rfl rfl ?_
  refine X_bipush (v := 8) hB dX4_near_1 (by decide) ?_
  refine X_iload_n (i := 2) hB dX4_near_3 rfl rfl ?_
  refine X_imul hB dX4_near_4 ?_
  refine X_topi (y := nI (8 * x)) (by first | rfl | (simp (disch := omega) only [nlit, nI_add, nI_mul, nI_sub]; done) | (simp (disch := omega) only [nlit, nI_add, nI_mul, nI_sub]; (congr 1 <;> omega))) ?_
  refine X_lushr hB dX4_near_5 ?_
  refine X_l2i hB dX4_near_6 ?_
  refine X_sipush (v := 255) hB dX4_near_7 (by decide) ?_
  refine X_iand hB dX4_near_10 ?_
  refine X_iret hB rfl dX4_near_11 ?_
  exact ⟨congrArg (fun z => some (Value.int z)) (near_val hv hx), rfl⟩
theorem cnt_val {v : Int64} {f : Nat → Nat → Bool} (hv : lkR v f) (hs : symB f) (hi : ∀ a, a < 8 → f a a = false) : lcE v / 2 = nI (cnB (fun k => f (k / 8) (k % 8) && decide (k / 8 < k % 8)) 64) := by
  obtain ⟨n, hn, rfl⟩ := wb_of v
  have e : cnB (fun j => n.testBit j) 64 = cnB (fun k => f (k / 8) (k % 8)) 64 := cnB_congr (fun j hj => by
    have h1 := hv (j / 8) (j % 8) (by omega) (by omega)
    rw [lN_bit, show 8 * (j / 8) + j % 8 = j by omega, decide_eq_true (by omega), Bool.true_and] at h1
    exact h1)
  have hle := cnB_le (fun k => f (k / 8) (k % 8) && decide (k / 8 < k % 8)) 64
  rw [lcE_val hn, e, cn_half hs hi, show (2 : Int32) = nI 2 from rfl, pk_div (by omega) (by decide) (by decide)]
  congr 1
  omega
set_option maxRecDepth 100000 in
set_option maxHeartbeats 4000000 in
theorem c_X4_count {v : Int64} {f : Nat → Nat → Bool} (hv : lkR v f) (hs : symB f) (hi : ∀ a, a < 8 → f a a = false) : C G mX4_count 1 [.long v] S (fun r S' => r = some (.int (nI (cnB (fun k => f (k / 8) (k % 8) && decide (k / 8 < k % 8)) 64))) ∧ S = S') := by
  refine C.mk (lv := [some (.long v), none]) (by decide) (Nat.le_of_ble_eq_true rfl) rfl (fun E hB => ?_)
  refine X_lload_n (i := 0) hB dX4_count_0 rfl rfl ?_
  refine X_callS hB kX4_15 (c_J13_bitCount_95d88 v) (by decide) (by decide) rfl rfl (Nat.le_of_ble_eq_true rfl) dX4_count_1 (fun r1 S1 q1 => ?_)
  obtain ⟨rfl, rfl⟩ := q1
  refine X_iconst (v := 2) hB dX4_count_4 (by decide) ?_
  refine X_idiv hB dX4_count_5 (by decide) ?_
  refine X_iret hB rfl dX4_count_6 ?_
  exact ⟨congrArg (fun z => some (Value.int z)) (cnt_val hv hs hi), rfl⟩
set_option maxRecDepth 100000 in
set_option maxHeartbeats 4000000 in
theorem c_X4_told {a b : Nat} (ha : a < 8) (hb : b < 8) : C G mX4_told 1 [.int (nI a), .int (nI b)] S (fun r S' => r = some (.int (nI (10 * min a b + max a b))) ∧ S = S') := by
  refine C.mk (lv := [some (.int (nI a)), some (.int (nI b))]) (by decide) (Nat.le_of_ble_eq_true rfl) rfl (fun E hB => ?_)
  refine X_bipush (v := 10) hB dX4_told_0 (by decide) ?_
  refine X_iload_n (i := 0) hB dX4_told_2 rfl rfl ?_
  refine X_iload_n (i := 1) hB dX4_told_3 rfl rfl ?_
  refine X_mmin hB kX4_21 (by decide) (Nat.le_of_ble_eq_true rfl) dX4_told_4 ?_
  refine X_topi (y := nI (min a b)) (min_nI (by omega) (by omega)) ?_
  refine X_imul hB dX4_told_7 ?_
  refine X_iload_n (i := 0) hB dX4_told_8 rfl rfl ?_
  refine X_iload_n (i := 1) hB dX4_told_9 rfl rfl ?_
  refine X_mmax hB kX4_27 (by decide) (Nat.le_of_ble_eq_true rfl) dX4_told_10 ?_
  refine X_topi (y := nI (max a b)) (max_nI (by omega) (by omega)) ?_
  refine X_iadd hB dX4_told_13 ?_
  refine X_topi (y := nI (10 * min a b + max a b)) (by first | rfl | (simp (disch := omega) only [nlit, nI_add, nI_mul, nI_sub]; done) | (simp (disch := omega) only [nlit, nI_add, nI_mul, nI_sub]; (congr 1 <;> omega))) ?_
  refine X_iret hB rfl dX4_told_14 ?_
  exact ⟨rfl, rfl⟩
set_option maxRecDepth 100000 in
set_option maxHeartbeats 4000000 in
theorem l_X4_along {E : Ev} (hB : Bd G E mX4_along) {Q : Option Value → St → Prop} (l : List Nat) (hl : okR l) (kk : ∀ v, lkR v (fun x y => sbs x y l) → Q (some (.long v)) S) :
    ∀ (k j : Nat) (v : Int64), j + k = 8 → 1 ≤ j → lkR v (fun x y => sbs x y (l.take j)) → X G E mX4_along 1 Q S 5 [some (.long (rJ l)), none, some (.long (v)), none, some (.int (nI j))] [] := by
  have h8 := hl.1
  intro k
  induction k with
  | zero =>
    intro j v h1 h2 h3
    have e9 : l.take j = l := List.take_of_length_le (by omega)
    rw [e9] at h3
    refine X_iload hB dX4_along_5 rfl ?_
    refine X_bipush (v := 8) hB dX4_along_7 (by decide) ?_
    refine X_icmp_ge (tgt := 49) hB dX4_along_9 (by decide) (fun c9 => ?_) (fun c9 => absurd c9 (by simp (disch := omega) only [nlit, nI_leI, nI_ltI]; omega))
    refine X_lload_n (i := 2) hB dX4_along_49 rfl rfl ?_
    refine X_lret hB rfl dX4_along_50 ?_
    exact kk v h3
  | succ k ih =>
    intro j v h1 h2 h3
    refine X_iload hB dX4_along_5 rfl ?_
    refine X_bipush (v := 8) hB dX4_along_7 (by decide) ?_
    refine X_icmp_ge (tgt := 49) hB dX4_along_9 (by decide) (fun c9 => absurd c9 (by simp (disch := omega) only [nlit, nI_leI, nI_ltI]; omega)) (fun c9 => ?_)
    refine X_lload_n (i := 0) hB dX4_along_12 rfl rfl ?_
    refine X_iconst (v := 4) hB dX4_along_13 (by decide) ?_
    refine X_iload hB dX4_along_14 rfl ?_
    refine X_imul hB dX4_along_16 ?_
    refine X_topi (y := nI (4 * j)) (by first | rfl | (simp (disch := omega) only [nlit, nI_add, nI_mul, nI_sub]; done) | (simp (disch := omega) only [nlit, nI_add, nI_mul, nI_sub]; (congr 1 <;> omega))) ?_
    refine X_lushr hB dX4_along_17 ?_
    refine X_topl (y := rJ (l.drop j)) (rJ_shr hl (by omega)) ?_
    refine X_lconst (v := 0) hB dX4_along_18 (by decide) ?_
    refine X_lcmp hB dX4_along_19 ?_
    refine X_if_eq (tgt := 49) hB dX4_along_20 (by decide) (fun c20 => ?_) (fun c20 => ?_)
    · have e15 := (cmp_0 (hl.drop j)).mp c20
      rw [List.drop_eq_nil_iff] at e15
      rw [List.take_of_length_le (show l.length ≤ j by omega)] at h3
      refine X_lload_n (i := 2) hB dX4_along_49 rfl rfl ?_
      refine X_lret hB rfl dX4_along_50 ?_
      exact kk v h3
    · have e15 : l.drop j ≠ [] := fun q => c20 ((cmp_0 (hl.drop j)).mpr q)
      have e9 : j < l.length := by
        rw [Ne, List.drop_eq_nil_iff] at e15
        omega
      have hg := hl.2 _ (getD_mem (d := 0) e9)
      have hg1 := hl.2 _ (getD_mem (d := 0) (show j - 1 < l.length by omega))
      refine X_lload_n (i := 2) hB dX4_along_23 rfl rfl ?_
      refine X_lload_n (i := 0) hB dX4_along_24 rfl rfl ?_
      refine X_iload hB dX4_along_25 rfl ?_
      refine X_iconst (v := 1) hB dX4_along_27 (by decide) ?_
      refine X_isub hB dX4_along_28 ?_
      refine X_topi (y := nI (j - 1)) (by first | rfl | (simp (disch := omega) only [nlit, nI_add, nI_mul, nI_sub]; done) | (simp (disch := omega) only [nlit, nI_add, nI_mul, nI_sub]; (congr 1 <;> omega))) ?_
      refine X_callS hB kX4_30 (c_X8_at l hl (nI (j - 1))) (by decide) (by decide) rfl rfl (Nat.le_of_ble_eq_true rfl) dX4_along_29 (fun r29 S29 q29 => ?_)
      obtain ⟨rfl, rfl⟩ := q29
      refine X_topi (y := nI (l.getD (j - 1) 0)) (nth_in (by omega) hl.1) ?_
      refine X_lload_n (i := 0) hB dX4_along_32 rfl rfl ?_
      refine X_iload hB dX4_along_33 rfl ?_
      refine X_callS hB kX4_30 (c_X8_at l hl (nI j)) (by decide) (by decide) rfl rfl (Nat.le_of_ble_eq_true rfl) dX4_along_35 (fun r35 S35 q35 => ?_)
      obtain ⟨rfl, rfl⟩ := q35
      refine X_topi (y := nI (l.getD j 0)) (nth_in (by omega) hl.1) ?_
      refine X_callS hB kX4_9 (c_X4_both hg1 hg) (by decide) (by decide) rfl rfl (Nat.le_of_ble_eq_true rfl) dX4_along_38 (fun r38 S38 q38 => ?_)
      obtain ⟨rfl, rfl⟩ := q38
      refine X_lor hB dX4_along_41 ?_
      refine X_lstore_n (i := 2) hB dX4_along_42 rfl (by decide) rfl ?_
      refine X_iinc hB dX4_along_43 rfl rfl (by decide) rfl ?_
      refine X_goto (tgt := 5) hB dX4_along_46 (by decide) ?_
      refine X_lv ?_ (ih (j + 1) _ (by omega) (by omega) ((lkR_or h3 (bJ_R hg1 hg)).congr (fun x y _ _ => sbs_tk h2 e9)))
      · rw [nI_succ]; rfl
set_option maxRecDepth 100000 in
set_option maxHeartbeats 4000000 in
theorem c_X4_along (l : List Nat) (hl : okR l)  : C G mX4_along 1 [.long (rJ l)] S (fun r S' => (∃ v, r = some (.long v) ∧ lkR v (fun x y => sbs x y l)) ∧ S = S') := by
  refine C.mk (lv := [some (.long (rJ l)), none, none, none, none]) (by decide) (Nat.le_of_ble_eq_true rfl) rfl (fun E hB => ?_)
  refine X_lconst (v := 0) hB dX4_along_0 (by decide) ?_
  refine X_lstore_n (i := 2) hB dX4_along_1 rfl (by decide) rfl ?_
  refine X_iconst (v := 1) hB dX4_along_2 (by decide) ?_
  refine X_istore hB dX4_along_3 (by decide) rfl ?_
  refine X_lv ?_ (l_X4_along hB l hl (fun v hv => ⟨⟨v, rfl, hv⟩, rfl⟩) 7 1 _ (by omega) (by omega) (lkR_0.congr (fun x y _ _ => ?_)))
  · rfl
  · match l with
    | [] => rfl
    | [_] => rfl
    | _ :: _ :: _ => rfl
set_option maxRecDepth 100000 in
set_option maxHeartbeats 4000000 in
theorem l_X4_levelsI {E : Ev} (hB : Bd G E mX4_levels) {Q : Option Value → St → Prop} {v : Int64} {f : Nat → Nat → Bool} (hv : lkR v f) (hs : symB f) {to : Nat} (hto : to < 8) (d : Nat) (hd : d < 7) (w : Int64) (kk : X G E mX4_levels 0 Q S 70 [some (.long (v)), none, some (.int (nI to)), some (.int (nI (bts (fun x => decide (dst f to x = d)) 8))), some (.int (nI (bts (fun x => decide (dst f to x ≤ d)) 8))), some (.long (w)), none, some (.int (nI (d + 1))), some (.int (nI (bts (fun m => (List.range 8).any (fun x => decide (dst f to x = d) && f x m)) 8))), some (.int (nI 8))] []) :
    ∀ (k n : Nat), n + k = 8 → X G E mX4_levels 0 Q S 27 [some (.long (v)), none, some (.int (nI to)), some (.int (nI (bts (fun x => decide (dst f to x = d)) 8))), some (.int (nI (bts (fun x => decide (dst f to x ≤ d)) 8))), some (.long (w)), none, some (.int (nI (d + 1))), some (.int (nI (bts (fun m => (List.range n).any (fun x => decide (dst f to x = d) && f x m)) 8))), some (.int (nI n))] [] := by
  intro k
  induction k with
  | zero =>
    intro n h1
    have e9 : n = 8 := by omega
    subst e9
    refine X_iload hB dX4_levels_27 rfl ?_
    refine X_bipush (v := 8) hB dX4_levels_29 (by decide) ?_
    refine X_icmp_ge (tgt := 70) hB dX4_levels_31 (by decide) (fun c31 => ?_) (fun c31 => absurd c31 (by simp (disch := omega) only [nlit, nI_leI, nI_ltI]; omega))
    exact kk
  | succ k ih =>
    intro n h1
    refine X_iload hB dX4_levels_27 rfl ?_
    refine X_bipush (v := 8) hB dX4_levels_29 (by decide) ?_
    refine X_icmp_ge (tgt := 70) hB dX4_levels_31 (by decide) (fun c31 => absurd c31 (by simp (disch := omega) only [nlit, nI_leI, nI_ltI]; omega)) (fun c31 => ?_)
    refine X_iload hB dX4_levels_34 rfl ?_
    refine X_iload_n (i := 3) hB dX4_levels_36 rfl rfl ?_
    refine X_iload hB dX4_levels_37 rfl ?_
    refine X_ishr hB dX4_levels_39 ?_
    refine X_iconst (v := 1) hB dX4_levels_40 (by decide) ?_
    refine X_iand hB dX4_levels_41 ?_
    refine X_topi (y := if dst f to n = d then 1 else 0) (by rw [shr1 _ _ (bts_8 _) (by omega), bts_bit, decide_eq_true (show n < 8 by omega), Bool.true_and]; simp only [decide_eq_true_eq]) ?_
    refine X_if_eq (tgt := 60) hB dX4_levels_42 (by decide) (fun c42 => ?_) (fun c42 => ?_)
    · refine X_iconst (v := 0) hB dX4_levels_60 (by decide) ?_
      refine X_ior hB dX4_levels_61 ?_
      refine X_topi (y := nI (bts (fun m => (List.range (n + 1)).any (fun x => decide (dst f to x = d) && f x m)) 8)) (by
        first
          | (have e42 := if1 c42
             rw [nI_or, bts_or]
             exact congrArg nI (bts_congr (fun j _ => by rw [List.range_succ, List.any_append]; simp [e42])))
          | (have e42 := if1n c42
             rw [show (0 : Int32) = nI 0 from rfl, nI_or, Nat.or_zero]
             exact congrArg nI (bts_congr (fun j _ => by rw [List.range_succ, List.any_append]; simp [e42])))) ?_
      refine X_istore hB dX4_levels_62 (by decide) rfl ?_
      refine X_iinc hB dX4_levels_64 rfl rfl (by decide) rfl ?_
      refine X_goto (tgt := 27) hB dX4_levels_67 (by decide) ?_
      refine X_lv ?_ (ih (n + 1) (by omega))
      · rw [nI_succ n]; rfl
    · refine X_lload_n (i := 0) hB dX4_levels_45 rfl rfl ?_
      refine X_bipush (v := 8) hB dX4_levels_46 (by decide) ?_
      refine X_iload hB dX4_levels_48 rfl ?_
      refine X_imul hB dX4_levels_50 ?_
      refine X_topi (y := nI (8 * n)) (by first | rfl | (simp (disch := omega) only [nlit, nI_add, nI_mul, nI_sub]; done) | (simp (disch := omega) only [nlit, nI_add, nI_mul, nI_sub]; (congr 1 <;> omega))) ?_
      refine X_lushr hB dX4_levels_51 ?_
      refine X_l2i hB dX4_levels_52 ?_
      refine X_sipush (v := 255) hB dX4_levels_53 (by decide) ?_
      refine X_iand hB dX4_levels_56 ?_
      refine X_topi (y := nI (bts (f n) 8)) (near_val hv (by omega)) ?_
      refine X_goto (tgt := 61) hB dX4_levels_57 (by decide) ?_
      refine X_ior hB dX4_levels_61 ?_
      refine X_topi (y := nI (bts (fun m => (List.range (n + 1)).any (fun x => decide (dst f to x = d) && f x m)) 8)) (by
        first
          | (have e42 := if1 c42
             rw [nI_or, bts_or]
             exact congrArg nI (bts_congr (fun j _ => by rw [List.range_succ, List.any_append]; simp [e42])))
          | (have e42 := if1n c42
             rw [show (0 : Int32) = nI 0 from rfl, nI_or, Nat.or_zero]
             exact congrArg nI (bts_congr (fun j _ => by rw [List.range_succ, List.any_append]; simp [e42])))) ?_
      refine X_istore hB dX4_levels_62 (by decide) rfl ?_
      refine X_iinc hB dX4_levels_64 rfl rfl (by decide) rfl ?_
      refine X_goto (tgt := 27) hB dX4_levels_67 (by decide) ?_
      refine X_lv ?_ (ih (n + 1) (by omega))
      · rw [nI_succ n]; rfl
set_option maxRecDepth 100000 in
set_option maxHeartbeats 4000000 in
theorem l_X4_levels {E : Ev} (hB : Bd G E mX4_levels) {Q : Option Value → St → Prop} {v : Int64} {f : Nat → Nat → Bool} (hv : lkR v f) (hs : symB f) {to : Nat} (hto : to < 8) (kk : ∀ w, levR w f to 8 → Q (some (.long w)) S) :
    ∀ (k d : Nat) (w : Int64), d + k = 7 → levR w f to (d + 1) → X G E mX4_levels 0 Q S 14 [some (.long (v)), none, some (.int (nI to)), some (.int (nI (bts (fun x => decide (dst f to x = d)) 8))), some (.int (nI (bts (fun x => decide (dst f to x ≤ d)) 8))), some (.long (w)), none, some (.int (nI (d + 1))), none, none] [] := by
  intro k
  induction k with
  | zero =>
    intro d w h1 h2
    have e9 : d = 7 := by omega
    subst e9
    refine X_iload hB dX4_levels_14 rfl ?_
    refine X_bipush (v := 8) hB dX4_levels_16 (by decide) ?_
    refine X_icmp_ge (tgt := 103) hB dX4_levels_18 (by decide) (fun c18 => ?_) (fun c18 => absurd c18 (by simp (disch := omega) only [nlit, nI_leI, nI_ltI]; omega))
    refine X_lload hB dX4_levels_103 rfl ?_
    refine X_lret hB rfl dX4_levels_105 ?_
    exact kk w h2
  | succ k ih =>
    intro d w h1 h2
    refine X_iload hB dX4_levels_14 rfl ?_
    refine X_bipush (v := 8) hB dX4_levels_16 (by decide) ?_
    refine X_icmp_ge (tgt := 103) hB dX4_levels_18 (by decide) (fun c18 => absurd c18 (by simp (disch := omega) only [nlit, nI_leI, nI_ltI]; omega)) (fun c18 => ?_)
    refine X_iconst (v := 0) hB dX4_levels_21 (by decide) ?_
    refine X_istore hB dX4_levels_22 (by decide) rfl ?_
    refine X_iconst (v := 0) hB dX4_levels_24 (by decide) ?_
    refine X_istore hB dX4_levels_25 (by decide) rfl ?_
    refine X_lv ?_ (l_X4_levelsI (S := S) hB hv hs hto d (by omega) w ?_ 8 0 (by omega))
    · rw [nI_0, show bts (fun m => (List.range 0).any (fun x => decide (dst f to x = d) && f x m)) 8 = 0 by simp [bts], nI_0]; rfl
    refine X_iload hB dX4_levels_70 rfl ?_
    refine X_iload hB dX4_levels_72 rfl ?_
    refine X_iconst (v := (-1)) hB dX4_levels_74 (by decide) ?_
    refine X_ixor hB dX4_levels_75 ?_
    refine X_iand hB dX4_levels_76 ?_
    refine X_topi (y := nI (bts (fun x => decide (dst f to x = (d + 1))) 8)) (by
      rw [bts_not]
      refine congrArg nI (bts_congr (fun j hj => ?_))
      have q := dst_step hs (to := to) (d := d) (m := j) (by omega) hj
      rw [Bool.eq_iff_iff]
      simp only [Bool.and_eq_true, Bool.not_eq_true', decide_eq_false_iff_not, decide_eq_true_eq, List.any_eq_true, List.mem_range]
      rw [q]
      constructor
      · rintro ⟨⟨x, a1, a2, a3⟩, b⟩; exact ⟨b, x, a1, a2, a3⟩
      · rintro ⟨b, x, a1, a2, a3⟩; exact ⟨⟨x, a1, a2, a3⟩, b⟩) ?_
    refine X_istore_n (i := 3) hB dX4_levels_77 rfl (by decide) rfl ?_
    refine X_iload hB dX4_levels_78 rfl ?_
    refine X_iload_n (i := 3) hB dX4_levels_80 rfl rfl ?_
    refine X_ior hB dX4_levels_81 ?_
    refine X_topi (y := nI (bts (fun x => decide (dst f to x ≤ (d + 1))) 8)) (by
      rw [nI_or, bts_or]
      exact congrArg nI (bts_congr (fun j _ => by rw [← Bool.decide_or]; exact decide_eq_decide.mpr (by omega)))) ?_
    refine X_istore hB dX4_levels_82 (by decide) rfl ?_
    refine X_lload hB dX4_levels_84 rfl ?_
    refine X_iload_n (i := 3) hB dX4_levels_86 rfl rfl ?_
    refine X_i2l hB dX4_levels_87 ?_
    refine X_bipush (v := 8) hB dX4_levels_88 (by decide) ?_
    refine X_iload hB dX4_levels_90 rfl ?_
    refine X_imul hB dX4_levels_92 ?_
    refine X_topi (y := nI (8 * (d + 1))) (by first | rfl | (simp (disch := omega) only [nlit, nI_add, nI_mul, nI_sub]; done) | (simp (disch := omega) only [nlit, nI_add, nI_mul, nI_sub]; (congr 1 <;> omega))) ?_
    refine X_lshl hB dX4_levels_93 ?_
    refine X_lor hB dX4_levels_94 ?_
    refine X_lstore hB dX4_levels_95 (by decide) rfl ?_
    refine X_iinc hB dX4_levels_97 rfl rfl (by decide) rfl ?_
    refine X_goto (tgt := 14) hB dX4_levels_100 (by decide) ?_
    refine X_dl [some (.long (v)), none, some (.int (nI to)), some (.int (nI (bts (fun x => decide (dst f to x = (d + 1))) 8))), some (.int (nI (bts (fun x => decide (dst f to x ≤ (d + 1))) 8))), some (.long (w ||| (nI (bts (fun x => decide (dst f to x = d + 1)) 8)).toInt64 <<< ((nI (8 * (d + 1))).toInt64 &&& 63))), none, some (.int (nI ((d + 1) + 1))), none, none] ⟨rfl, rfl, rfl, rfl, rfl, by rw [nI_succ (d + 1)]; rfl, trivial⟩ (ih (d + 1) _ (by omega) ((lkR_or h2 (lev_byte (p := (fun x => decide (dst f to x = (d + 1)))) (d := d + 1) (by omega))).congr (fun e x _ _ => ?_)))
    · show (decide (e < d + 1 + 1) && decide (dst f to x = e)) = (decide (e < d + 1) && decide (dst f to x = e) || decide (e = d + 1) && decide (dst f to x = d + 1))
      rw [← Bool.decide_and, ← Bool.decide_and, ← Bool.decide_and, ← Bool.decide_or]
      exact decide_eq_decide.mpr (by omega)
set_option maxRecDepth 100000 in
set_option maxHeartbeats 4000000 in
theorem c_X4_levels {v : Int64} {f : Nat → Nat → Bool} (hv : lkR v f) (hs : symB f) {to : Nat} (hto : to < 8)  : C G mX4_levels 0 [.long v, .int (nI to)] S (fun r S' => (∃ w, r = some (.long w) ∧ levR w f to 8) ∧ S = S') := by
  refine C.mk (lv := [some (.long v), none, some (.int (nI to)), none, none, none, none, none, none, none]) (by decide) (Nat.le_of_ble_eq_true rfl) rfl (fun E hB => ?_)
  refine X_iconst (v := 1) hB dX4_levels_0 (by decide) ?_
  refine X_iload_n (i := 2) hB dX4_levels_1 rfl rfl ?_
  refine X_ishl hB dX4_levels_2 ?_
  refine X_topi (y := nI (bts (fun x => decide (x = to)) 8)) (sh_to to hto) ?_
  refine X_istore_n (i := 3) hB dX4_levels_3 rfl (by decide) rfl ?_
  refine X_iload_n (i := 3) hB dX4_levels_4 rfl rfl ?_
  refine X_istore hB dX4_levels_5 (by decide) rfl ?_
  refine X_iload_n (i := 3) hB dX4_levels_7 rfl rfl ?_
  refine X_i2l hB dX4_levels_8 ?_
  refine X_lstore hB dX4_levels_9 (by decide) rfl ?_
  refine X_iconst (v := 1) hB dX4_levels_11 (by decide) ?_
  refine X_istore hB dX4_levels_12 (by decide) rfl ?_
  have e0 : bts (fun x => decide (x = to)) 8 = bts (fun x => decide (dst f to x = 0)) 8 := bts_congr (fun j _ => decide_eq_decide.mpr dst_0.symm)
  have e1 : bts (fun x => decide (x = to)) 8 = bts (fun x => decide (dst f to x ≤ 0)) 8 := bts_congr (fun j _ => decide_eq_decide.mpr (by rw [← dst_0 (f := f)]; omega))
  refine X_dl [some (.long (v)), none, some (.int (nI to)), some (.int (nI (bts (fun x => decide (dst f to x = 0)) 8))), some (.int (nI (bts (fun x => decide (dst f to x ≤ 0)) 8))), some (.long ((nI (bts (fun x => decide (x = to)) 8)).toInt64)), none, some (.int (nI (0 + 1))), none, none] ⟨rfl, rfl, by rw [e0], by rw [e1], rfl, rfl, trivial⟩ (l_X4_levels hB hv hs hto (fun w hw => ⟨⟨w, rfl, hw⟩, rfl⟩) 7 0 _ (by omega) ?_)
  rw [e0]
  have q := lev_byte (p := (fun x => decide (dst f to x = 0))) (d := 0) (by decide)
  rw [show (nI (8 * 0)).toInt64 &&& 63 = (0 : Int64) by decide, Int64.shiftLeft_zero] at q
  refine q.congr (fun e x _ _ => ?_)
  show (decide (e < 0 + 1) && decide (dst f to x = e)) = (decide (e = 0) && decide (dst f to x = 0))
  rw [← Bool.decide_and, ← Bool.decide_and]
  exact decide_eq_decide.mpr (by omega)
theorem lev_bit {w : Int64} {f : Nat → Nat → Bool} {to d x : Nat} (hw : levR w f to 8) (hd : d < 8) (hx : x < 8) : ((w.toUInt64 >>> ((nI (8 * d + x)).toInt64.toUInt64 &&& Int64.toUInt64 63)).toInt64 &&& 1) = 0 ↔ dst f to x ≠ d := by
  have h1 := hw d x hd hx
  rw [ts_bit (j := 8 * d + x) (by omega) (by rw [wb_cu _ (by omega)]; exact u_tn (by omega)), h1]
  simp [hd]
set_option maxRecDepth 100000 in
set_option maxHeartbeats 4000000 in
theorem l_X4_levelOf {E : Ev} (hB : Bd G E mX4_levelOf) {Q : Option Value → St → Prop} {w : Int64} {f : Nat → Nat → Bool} {to : Nat} (hw : levR w f to 8) {x : Nat} (hx : x < 8) (kk : Q (some (.int (dst1 (dst f to x)))) S) :
    ∀ (k j : Nat), j + k = 8 → (∀ i, i < j → dst f to x ≠ i) → X G E mX4_levelOf 0 Q S 2 [some (.long (w)), none, some (.int (nI x)), some (.int (nI j))] [] := by
  intro k
  induction k with
  | zero =>
    intro j h1 h2
    have e9 : dst1 (dst f to x) = -1 := by
      unfold dst1
      rw [if_neg]
      rcases dst_99 (f := f) (to := to) (x := x) with q | q
      · exact absurd rfl (h2 _ (by omega))
      · omega
    rw [e9] at kk
    refine X_iload_n (i := 3) hB dX4_levelOf_2 rfl rfl ?_
    refine X_bipush (v := 8) hB dX4_levelOf_3 (by decide) ?_
    refine X_icmp_ge (tgt := 31) hB dX4_levelOf_5 (by decide) (fun c5 => ?_) (fun c5 => absurd c5 (by simp (disch := omega) only [nlit, nI_leI, nI_ltI]; omega))
    refine X_iconst (v := (-1)) hB dX4_levelOf_31 (by decide) ?_
    refine X_iret hB rfl dX4_levelOf_32 ?_
    exact kk
  | succ k ih =>
    intro j h1 h2
    refine X_iload_n (i := 3) hB dX4_levelOf_2 rfl rfl ?_
    refine X_bipush (v := 8) hB dX4_levelOf_3 (by decide) ?_
    refine X_icmp_ge (tgt := 31) hB dX4_levelOf_5 (by decide) (fun c5 => absurd c5 (by simp (disch := omega) only [nlit, nI_leI, nI_ltI]; omega)) (fun c5 => ?_)
    refine X_lload_n (i := 0) hB dX4_levelOf_8 rfl rfl ?_
    refine X_bipush (v := 8) hB dX4_levelOf_9 (by decide) ?_
    refine X_iload_n (i := 3) hB dX4_levelOf_11 rfl rfl ?_
    refine X_imul hB dX4_levelOf_12 ?_
    refine X_iload_n (i := 2) hB dX4_levelOf_13 rfl rfl ?_
    refine X_iadd hB dX4_levelOf_14 ?_
    refine X_topi (y := nI (8 * j + x)) (by first | rfl | (simp (disch := omega) only [nlit, nI_add, nI_mul, nI_sub]; done) | (simp (disch := omega) only [nlit, nI_add, nI_mul, nI_sub]; (congr 1 <;> omega))) ?_
    refine X_lushr hB dX4_levelOf_15 ?_
    refine X_lconst (v := 1) hB dX4_levelOf_16 (by decide) ?_
    refine X_land hB dX4_levelOf_17 ?_
    refine X_lconst (v := 0) hB dX4_levelOf_18 (by decide) ?_
    refine X_lcmp hB dX4_levelOf_19 ?_
    refine X_if_eq (tgt := 25) hB dX4_levelOf_20 (by decide) (fun c20 => ?_) (fun c20 => ?_)
    · refine X_iinc hB dX4_levelOf_25 rfl rfl (by decide) rfl ?_
      refine X_goto (tgt := 2) hB dX4_levelOf_28 (by decide) ?_
      have e20 := (lev_bit hw (show j < 8 by omega) hx).mp (cmp_eq.mp c20)
      refine X_lv ?_ (ih (j + 1) (by omega) (fun i hi => ?_))
      · rw [nI_succ]; rfl
      · by_cases e : i = j
        · rw [e]; exact e20
        · exact h2 i (by omega)
    · refine X_iload_n (i := 3) hB dX4_levelOf_23 rfl rfl ?_
      refine X_iret hB rfl dX4_levelOf_24 ?_
      have e20 : dst f to x = j := Classical.byContradiction (fun q => c20 (cmp_eq.mpr ((lev_bit hw (by omega) hx).mpr q)))
      have e9 : dst1 (dst f to x) = nI j := by unfold dst1; rw [if_pos (by omega), e20]
      rw [e9] at kk
      exact kk
set_option maxRecDepth 100000 in
set_option maxHeartbeats 4000000 in
theorem c_X4_levelOf {w : Int64} {f : Nat → Nat → Bool} {to : Nat} (hw : levR w f to 8) {x : Nat} (hx : x < 8) : C G mX4_levelOf 0 [.long w, .int (nI x)] S (fun r S' => r = some (.int (dst1 (dst f to x))) ∧ S = S') := by
  refine C.mk (lv := [some (.long w), none, some (.int (nI x)), none]) (by decide) (Nat.le_of_ble_eq_true rfl) rfl (fun E hB => ?_)
  refine X_iconst (v := 0) hB dX4_levelOf_0 (by decide) ?_
  refine X_istore_n (i := 3) hB dX4_levelOf_1 rfl (by decide) rfl ?_
  refine X_lv ?_ (l_X4_levelOf hB hw hx ⟨rfl, rfl⟩ 8 0 (by omega) (fun i hi => by omega))
  rw [nI_0]; rfl
set_option maxRecDepth 100000 in
set_option maxHeartbeats 4000000 in
theorem c_X4_distance {v : Int64} {f : Nat → Nat → Bool} (hv : lkR v f) (hs : symB f) {to : Nat} (hto : to < 8) {x : Nat} (hx : x < 8) : C G mX4_distance 1 [.long v, .int (nI x), .int (nI to)] S (fun r S' => r = some (.int (dst1 (dst f to x))) ∧ S = S') := by
  refine C.mk (lv := [some (.long v), none, some (.int (nI x)), some (.int (nI to))]) (by decide) (Nat.le_of_ble_eq_true rfl) rfl (fun E hB => ?_)
  refine X_lload_n (i := 0) hB dX4_distance_0 rfl rfl ?_
  refine X_iload_n (i := 3) hB dX4_distance_1 rfl rfl ?_
  refine X_callS hB kX4_36 (c_X4_levels hv hs hto) (by decide) (by decide) rfl rfl (Nat.le_of_ble_eq_true rfl) dX4_distance_2 (fun r2 S2 q2 => ?_)
  obtain ⟨⟨w, rfl, hw⟩, rfl⟩ := q2
  refine X_iload_n (i := 2) hB dX4_distance_5 rfl rfl ?_
  refine X_callS hB kX4_40 (c_X4_levelOf hw hx) (by decide) (by decide) rfl rfl (Nat.le_of_ble_eq_true rfl) dX4_distance_6 (fun r6 S6 q6 => ?_)
  obtain ⟨rfl, rfl⟩ := q6
  refine X_iret hB rfl dX4_distance_9 ?_
  exact ⟨rfl, rfl⟩
end CLS
