/-! the class: frames, data, the air, small methods of a world -/
section XNU
variable {G : Gc} {E : Ev} {md : Md} {n : Nat} {Q : Option Value → St → Prop} {S : St} {pc : Nat} {lv : List (Option Value)} {st : List Value}
theorem X_aloadN (hB : Bd G E md) {i : Nat} (hd : decode md.2.1 pc = .ok (.aload i, 2)) (hv : lg lv i = some .null) (k : X G E md n Q S (pc + 2) lv (.null :: st)) : X G E md n Q S pc lv st := fun H locs ls hP hD hS hl => lv_aloadN hB.1 hB.2.1 hd (lvh_at hl hv) (k H locs ls hP hD hS hl)
theorem X_astoreN (hB : Bd G E md) {i : Nat} (hd : decode md.2.1 pc = .ok (.astore i, 2)) (hn : i < md.2.2.1) (hk : lok lv i = true) (k : X G E md n Q S (pc + 2) (lset lv i (some .null)) st) : X G E md n Q S pc lv (.null :: st) := fun H locs ls hP hD hS hl => lv_astoreN hB.1 hB.2.1 hd hl hn rfl (fun ls hl => k H locs ls hP hD hS (lvh_weak hl (lvh_set1 hk)))
end XNU
theorem and7 : ∀ n, n < 8 → nI n &&& 7 = nI n := by decide +kernel
section CLS
variable {G : Gc} {S : St}
set_option maxRecDepth 100000 in
set_option maxHeartbeats 4000000 in
theorem c_X3_begin (a : Nat) (ha : a ∈ gL G ∧ gK G a = .inl 3) (k f t b : Int32) (v : Int64) : C G mX3_begin 0 [.ref a, .int k, .int f, .int t, .int b, .long v] S (fun r S' => r = none ∧ chg a (a + 1) S S' ∧ S'.2.2 = S.2.2 ∧ S'.1 a 0 = k ∧ S'.1 a 1 = f ∧ S'.1 a 2 = t ∧ S'.1 a 3 = b ∧ S'.1 a 4 = -1 ∧ S'.1 a 5 = -1 ∧ S'.2.1 a 6 = v) := by
  refine C.mk (lv := [some (.ref a), some (.int k), some (.int f), some (.int t), some (.int b), some (.long v), none]) (by decide) (Nat.le_of_ble_eq_true rfl) rfl (fun E hB => ?_)
  refine X_aload_n (i := 0) hB dX3_begin_0 rfl rfl ?_
  refine X_iload_n (i := 1) hB dX3_begin_1 rfl rfl ?_
  refine X_puti hB cw3 fX3_9 rfl rfl ha.1 ha.2 dX3_begin_2 ?_
  refine X_aload_n (i := 0) hB dX3_begin_5 rfl rfl ?_
  refine X_iload_n (i := 2) hB dX3_begin_6 rfl rfl ?_
  refine X_puti hB cw3 fX3_15 rfl rfl ha.1 ha.2 dX3_begin_7 ?_
  refine X_aload_n (i := 0) hB dX3_begin_10 rfl rfl ?_
  refine X_iload_n (i := 3) hB dX3_begin_11 rfl rfl ?_
  refine X_puti hB cw3 fX3_18 rfl rfl ha.1 ha.2 dX3_begin_12 ?_
  refine X_aload_n (i := 0) hB dX3_begin_15 rfl rfl ?_
  refine X_iload hB dX3_begin_16 rfl ?_
  refine X_puti hB cw3 fX3_21 rfl rfl ha.1 ha.2 dX3_begin_18 ?_
  refine X_aload_n (i := 0) hB dX3_begin_21 rfl rfl ?_
  refine X_iconst (v := (-1)) hB dX3_begin_22 (by decide) ?_
  refine X_puti hB cw3 fX3_24 rfl rfl ha.1 ha.2 dX3_begin_23 ?_
  refine X_aload_n (i := 0) hB dX3_begin_26 rfl rfl ?_
  refine X_iconst (v := (-1)) hB dX3_begin_27 (by decide) ?_
  refine X_puti hB cw3 fX3_27 rfl rfl ha.1 ha.2 dX3_begin_28 ?_
  refine X_aload_n (i := 0) hB dX3_begin_31 rfl rfl ?_
  refine X_lload hB dX3_begin_32 rfl ?_
  refine X_putj hB cw3 fX3_30 rfl rfl ha.1 ha.2 dX3_begin_34 ?_
  refine X_vret hB rfl dX3_begin_37 ?_
  refine ⟨rfl, fun x hx => ⟨?_, ?_, rfl⟩, rfl, ?_, ?_, ?_, ?_, ?_, ?_, ?_⟩
  · simp only [setJ, setI, ups_row_ne _ _ _ (show x ≠ a by omega)]
  · simp only [setJ, setI, ups_row_ne _ _ _ (show x ≠ a by omega)]
  all_goals simp [setJ, setI, ups]
set_option maxRecDepth 100000 in
set_option maxHeartbeats 4000000 in
theorem c_X2_stand (a : Nat) (ha : a ∈ gL G ∧ gK G a = .inl 2) (k : Int32) (v : Int64) : C G mX2_stand 0 [.ref a, .int k, .long v] S (fun r S' => r = none ∧ S' = setJ (setI S a 3 k) a 5 v) := by
  refine C.mk (lv := [some (.ref a), some (.int k), some (.long v), none]) (by decide) (Nat.le_of_ble_eq_true rfl) rfl (fun E hB => ?_)
  refine X_aload_n (i := 0) hB dX2_stand_0 rfl rfl ?_
  refine X_iload_n (i := 1) hB dX2_stand_1 rfl rfl ?_
  refine X_puti hB cw2 fX2_21 rfl rfl ha.1 ha.2 dX2_stand_2 ?_
  refine X_aload_n (i := 0) hB dX2_stand_5 rfl rfl ?_
  refine X_lload_n (i := 2) hB dX2_stand_6 rfl rfl ?_
  refine X_putj hB cw2 fX2_29 rfl rfl ha.1 ha.2 dX2_stand_7 ?_
  refine X_vret hB rfl dX2_stand_10 ?_
  exact ⟨rfl, rfl⟩
set_option maxRecDepth 100000 in
set_option maxHeartbeats 4000000 in
theorem c_X2_begin (a : Nat) (ha : a ∈ gL G ∧ gK G a = .inl 2) (x : Nat) (hx : x < 8) (e now : Int32) : C G mX2_begin 2 [.ref a, .int (nI x), .int e, .int now] S (fun r S' => r = none ∧ chg a (a + 1) S S' ∧ S'.2.2 = S.2.2 ∧ S'.1 a 0 = S.1 a 0 ∧ S'.1 a 1 = nI x ∧ S'.1 a 2 = e ∧ S'.1 a 3 = 0 ∧ S'.1 a 4 = 0 ∧ S'.2.1 a 5 = rJ [] ∧ S'.2.1 a 6 = rJ [x] ∧ S'.1 a 7 = now ∧ S'.1 a 8 = -1 ∧ S'.1 a 9 = now ∧ S'.1 a 10 = 0) := by
  refine C.mk (lv := [some (.ref a), some (.int (nI x)), some (.int e), some (.int now)]) (by decide) (Nat.le_of_ble_eq_true rfl) rfl (fun E hB => ?_)
  refine X_aload_n (i := 0) hB dX2_begin_0 rfl rfl ?_
  refine X_iload_n (i := 1) hB dX2_begin_1 rfl rfl ?_
  refine X_puti hB cw2 fX2_15 rfl rfl ha.1 ha.2 dX2_begin_2 ?_
  refine X_aload_n (i := 0) hB dX2_begin_5 rfl rfl ?_
  refine X_iload_n (i := 2) hB dX2_begin_6 rfl rfl ?_
  refine X_puti hB cw2 fX2_18 rfl rfl ha.1 ha.2 dX2_begin_7 ?_
  refine X_aload_n (i := 0) hB dX2_begin_10 rfl rfl ?_
  refine X_iconst (v := 0) hB dX2_begin_11 (by decide) ?_
  refine X_puti hB cw2 fX2_21 rfl rfl ha.1 ha.2 dX2_begin_12 ?_
  refine X_aload_n (i := 0) hB dX2_begin_15 rfl rfl ?_
  refine X_iconst (v := 0) hB dX2_begin_16 (by decide) ?_
  refine X_puti hB cw2 fX2_24 rfl rfl ha.1 ha.2 dX2_begin_17 ?_
  refine X_aload_n (i := 0) hB dX2_begin_20 rfl rfl ?_
  refine X_lconst (v := 0) hB dX2_begin_21 (by decide) ?_
  refine X_putj hB cw2 fX2_29 rfl rfl ha.1 ha.2 dX2_begin_22 ?_
  refine X_aload_n (i := 0) hB dX2_begin_25 rfl rfl ?_
  refine X_lconst (v := 0) hB dX2_begin_26 (by decide) ?_
  refine X_iload_n (i := 1) hB dX2_begin_27 rfl rfl ?_
  refine X_callS hB kX2_33 (c_X8_with [] okR.nil x hx) (by decide) (by decide) rfl rfl (Nat.le_of_ble_eq_true rfl) dX2_begin_28 (fun r28 S28 q28 => ?_)
  obtain ⟨rfl, rfl⟩ := q28
  refine X_topl (y := rJ [x]) (if_pos (by decide)) ?_
  refine X_putj hB cw2 fX2_37 rfl rfl ha.1 ha.2 dX2_begin_31 ?_
  refine X_aload_n (i := 0) hB dX2_begin_34 rfl rfl ?_
  refine X_iload_n (i := 3) hB dX2_begin_35 rfl rfl ?_
  refine X_puti hB cw2 fX2_40 rfl rfl ha.1 ha.2 dX2_begin_36 ?_
  refine X_aload_n (i := 0) hB dX2_begin_39 rfl rfl ?_
  refine X_iconst (v := (-1)) hB dX2_begin_40 (by decide) ?_
  refine X_puti hB cw2 fX2_43 rfl rfl ha.1 ha.2 dX2_begin_41 ?_
  refine X_aload_n (i := 0) hB dX2_begin_44 rfl rfl ?_
  refine X_iload_n (i := 3) hB dX2_begin_45 rfl rfl ?_
  refine X_puti hB cw2 fX2_46 rfl rfl ha.1 ha.2 dX2_begin_46 ?_
  refine X_aload_n (i := 0) hB dX2_begin_49 rfl rfl ?_
  refine X_iconst (v := 0) hB dX2_begin_50 (by decide) ?_
  refine X_puti hB cw2 fX2_49 rfl rfl ha.1 ha.2 dX2_begin_51 ?_
  refine X_vret hB rfl dX2_begin_54 ?_
  refine ⟨rfl, fun y hy => ⟨?_, ?_, rfl⟩, rfl, ?_, ?_, ?_, ?_, ?_, ?_, ?_, ?_, ?_, ?_, ?_⟩
  · simp only [setJ, setI, ups_row_ne _ _ _ (show y ≠ a by omega)]
  · simp only [setJ, setI, ups_row_ne _ _ _ (show y ≠ a by omega)]
  all_goals first
    | (simp [setJ, setI, ups]; done)
    | (simp [setJ, setI, ups]; rfl)
theorem rem40 {x : Nat} (h : x < 100) : nI x - nI x / 40 * 40 = nI (x % 40) := by
  rw [show (40 : Int32) = nI 40 from rfl]
  exact pk_rem (by omega) (by decide) (by decide)
set_option maxRecDepth 100000 in
set_option maxHeartbeats 4000000 in
theorem c_X0_frameAt (w : Nat) (hW : WLay G w) (σ : Net) (hw : worldR S w σ) (v : Int32) : C G mX0_frameAt 0 [.ref (w + 3), .int v] S (fun r S' => (match inN v (nAir σ).length with
  | some k => ∃ s p, arR S w σ s p ∧ r = some (.ref (p ((s + k) % 40)))
  | none => r = some .null) ∧ S = S') := by
  have h40 := hw.2.2.2.2.2.2.1
  obtain ⟨s, p, ha⟩ := hw.2.2.1
  refine C.mk (lv := [some (.ref (w + 3)), some (.int v)]) (by decide) (Nat.le_of_ble_eq_true rfl) rfl (fun E hB => ?_)
  refine X_iload_n (i := 1) hB dX0_frameAt_0 rfl rfl ?_
  refine X_if_lt (tgt := 29) hB dX0_frameAt_1 (by decide) (fun c1 => ?_) (fun c1 => ?_)
  · refine X_null hB dX0_frameAt_29 ?_
    refine X_aret (v := none) hB rfl dX0_frameAt_30 ?_
    have e9 : inN v (nAir σ).length = none := by
      unfold inN
      rw [if_neg]
      rw [Int32.lt_iff_toInt_lt] at c1
      have : (0 : Int32).toInt = 0 := by decide
      omega
    rw [e9]
    exact ⟨rfl, rfl⟩
  · obtain ⟨k, hk31, rfl⟩ := nI_of c1
    refine X_iload_n (i := 1) hB dX0_frameAt_4 rfl rfl ?_
    refine X_aload_n (i := 0) hB dX0_frameAt_5 rfl rfl ?_
    refine X_geti hB cw0 fX0_20 rfl hW.2.2.2.1.1 hW.2.2.2.1.2 dX0_frameAt_6 ?_
    refine X_topi (y := nI (nAir σ).length) (ha.2.2.1) ?_
    refine X_icmp_ge (tgt := 29) hB dX0_frameAt_9 (by decide) (fun c9 => ?_) (fun c9 => ?_)
    · refine X_null hB dX0_frameAt_29 ?_
      refine X_aret (v := none) hB rfl dX0_frameAt_30 ?_
      have e9 : inN (nI k) (nAir σ).length = none := by
        unfold inN
        rw [if_neg]
        rw [nI_leI (by omega) hk31] at c9
        rw [nI_toInt hk31]
        omega
      rw [e9]
      exact ⟨rfl, rfl⟩
    · have hk : k < (nAir σ).length := by
        rw [nI_leI (by omega) hk31] at c9
        omega
      have hs := ha.1
      refine X_aload_n (i := 0) hB dX0_frameAt_12 rfl rfl ?_
      refine X_getr hB cw0 fX0_11 rfl hW.2.2.2.1.1 hW.2.2.2.1.2 hw.1.2.2.2.2.2.1 dX0_frameAt_13 ?_
      refine X_aload_n (i := 0) hB dX0_frameAt_16 rfl rfl ?_
      refine X_geti hB cw0 fX0_24 rfl hW.2.2.2.1.1 hW.2.2.2.1.2 dX0_frameAt_17 ?_
      refine X_topi (y := nI s) (ha.2.1) ?_
      refine X_iload_n (i := 1) hB dX0_frameAt_20 rfl rfl ?_
      refine X_iadd hB dX0_frameAt_21 ?_
      refine X_topi (y := nI (s + k)) (by first | rfl | (simp (disch := omega) only [nlit, nI_add, nI_mul, nI_sub]; done) | (simp (disch := omega) only [nlit, nI_add, nI_mul, nI_sub]; (congr 1 <;> omega))) ?_
      refine X_bipush (v := 40) hB dX0_frameAt_22 (by decide) ?_
      refine X_irem hB dX0_frameAt_24 (by decide) ?_
      refine X_topi (y := nI ((s + k) % 40)) (rem40 (by omega)) ?_
      refine X_aaldN hB ((s + k) % 40) hW.2.2.2.2.1.1 hW.2.2.2.2.1.2 (by decide) rfl (by decide) rfl (by omega) (ha.2.2.2.2.1 _ (by omega)) dX0_frameAt_25 ?_
      refine X_goto (tgt := 30) hB dX0_frameAt_26 (by decide) ?_
      refine X_aret (v := some (p ((s + k) % 40))) hB rfl dX0_frameAt_30 ?_
      rw [inN_nI hk hk31]
      exact ⟨⟨s, p, ha, rfl⟩, rfl⟩
set_option maxRecDepth 100000 in
set_option maxHeartbeats 4000000 in
theorem c_X0_add (w : Nat) (hW : WLay G w) (σ : Net) (hw : worldR S w σ) (s : Nat) (p : Nat → Nat) (ha : arR S w σ s p) : C G mX0_add 0 [.ref (w + 3)] S (fun r S' => if (nAir σ).length = 40 then r = some .null ∧ S = S' else r = some (.ref (p ((s + (nAir σ).length) % 40))) ∧ S' = setI S (w + 3) 2 (nI ((nAir σ).length + 1))) := by
  have h40 := hw.2.2.2.2.2.2.1
  have hs := ha.1
  refine C.mk (lv := [some (.ref (w + 3))]) (by decide) (Nat.le_of_ble_eq_true rfl) rfl (fun E hB => ?_)
  refine X_aload_n (i := 0) hB dX0_add_0 rfl rfl ?_
  refine X_geti hB cw0 fX0_20 rfl hW.2.2.2.1.1 hW.2.2.2.1.2 dX0_add_1 ?_
  refine X_topi (y := nI (nAir σ).length) (ha.2.2.1) ?_
  refine X_bipush (v := 40) hB dX0_add_4 (by decide) ?_
  refine X_icmp_lt (tgt := 11) hB dX0_add_6 (by decide) (fun c6 => ?_) (fun c6 => ?_)
  · have e6 : ¬ (nAir σ).length = 40 := by
      rw [show (40 : Int32) = nI 40 from rfl, nI_ltI (by omega) (by omega)] at c6
      omega
    refine X_aload_n (i := 0) hB dX0_add_11 rfl rfl ?_
    refine X_dup hB dX0_add_12 rfl ?_
    refine X_geti hB cw0 fX0_20 rfl hW.2.2.2.1.1 hW.2.2.2.1.2 dX0_add_13 ?_
    refine X_topi (y := nI (nAir σ).length) (ha.2.2.1) ?_
    refine X_iconst (v := 1) hB dX0_add_16 (by decide) ?_
    refine X_iadd hB dX0_add_17 ?_
    refine X_topi (y := nI ((nAir σ).length + 1)) (by first | rfl | (simp (disch := omega) only [nlit, nI_add, nI_mul, nI_sub]; done) | (simp (disch := omega) only [nlit, nI_add, nI_mul, nI_sub]; (congr 1 <;> omega))) ?_
    refine X_puti hB cw0 fX0_20 rfl rfl hW.2.2.2.1.1 hW.2.2.2.1.2 dX0_add_18 ?_
    refine X_aload_n (i := 0) hB dX0_add_21 rfl rfl ?_
    refine X_getr hB cw0 fX0_11 rfl hW.2.2.2.1.1 hW.2.2.2.1.2 hw.1.2.2.2.2.2.1 dX0_add_22 ?_
    refine X_aload_n (i := 0) hB dX0_add_25 rfl rfl ?_
    refine X_geti hB cw0 fX0_24 rfl hW.2.2.2.1.1 hW.2.2.2.1.2 dX0_add_26 ?_
    refine X_topi (y := nI s) (by rw [setI_ne _ _ (Or.inr (by decide))]; exact ha.2.1) ?_
    refine X_aload_n (i := 0) hB dX0_add_29 rfl rfl ?_
    refine X_geti hB cw0 fX0_20 rfl hW.2.2.2.1.1 hW.2.2.2.1.2 dX0_add_30 ?_
    refine X_topi (y := nI ((nAir σ).length + 1)) (setI_at _ _ _ _) ?_
    refine X_iadd hB dX0_add_33 ?_
    refine X_iconst (v := 1) hB dX0_add_34 (by decide) ?_
    refine X_isub hB dX0_add_35 ?_
    refine X_topi (y := nI (s + (nAir σ).length)) (by first | rfl | (simp (disch := omega) only [nlit, nI_add, nI_mul, nI_sub]; done) | (simp (disch := omega) only [nlit, nI_add, nI_mul, nI_sub]; (congr 1 <;> omega))) ?_
    refine X_bipush (v := 40) hB dX0_add_36 (by decide) ?_
    refine X_irem hB dX0_add_38 (by decide) ?_
    refine X_topi (y := nI ((s + (nAir σ).length) % 40)) (rem40 (by omega)) ?_
    refine X_aaldN hB ((s + (nAir σ).length) % 40) hW.2.2.2.2.1.1 hW.2.2.2.2.1.2 (by decide) rfl (by decide) rfl (by omega) (ha.2.2.2.2.1 _ (by omega)) dX0_add_39 ?_
    refine X_aret (v := some (p ((s + (nAir σ).length) % 40))) hB rfl dX0_add_40 ?_
    rw [if_neg e6]
    exact ⟨rfl, rfl⟩
  · have e6 : (nAir σ).length = 40 := by
      rw [show (40 : Int32) = nI 40 from rfl, nI_ltI (by omega) (by omega)] at c6
      omega
    refine X_null hB dX0_add_9 ?_
    refine X_aret (v := none) hB rfl dX0_add_10 ?_
    rw [if_pos e6]
    exact ⟨rfl, rfl⟩
set_option maxRecDepth 100000 in
set_option maxHeartbeats 4000000 in
theorem c_X10_post (w : Nat) (hW : WLay G w) (hF : wdF S w) (n : Nat) (hn : n < 8) : C G mX10_post 0 [.ref w, .int (nI n)] S (fun r S' => r = some (.ref (pA w n)) ∧ S = S') := by
  refine C.mk (lv := [some (.ref w), some (.int (nI n))]) (by decide) (Nat.le_of_ble_eq_true rfl) rfl (fun E hB => ?_)
  refine X_aload_n (i := 0) hB dX10_post_0 rfl rfl ?_
  refine X_getr hB cw8 fX10_27 rfl hW.1.1 hW.1.2 hF.2.2.2.1 dX10_post_1 ?_
  refine X_iload_n (i := 1) hB dX10_post_4 rfl rfl ?_
  refine X_bipush (v := 7) hB dX10_post_5 (by decide) ?_
  refine X_iand hB dX10_post_7 ?_
  refine X_topi (y := nI n) (and7 n hn) ?_
  refine X_aaldN hB (n) hW.2.2.2.2.2.2.1.1 hW.2.2.2.2.2.2.1.2 (by decide) rfl (by decide) rfl hn (hF.2.2.2.2.2.2.1 n hn) dX10_post_8 ?_
  refine X_aret (v := some (pA w n)) hB rfl dX10_post_9 ?_
  exact ⟨rfl, rfl⟩
set_option maxRecDepth 100000 in
set_option maxHeartbeats 4000000 in
theorem c_X10_datum (w : Nat) (hW : WLay G w) (hF : wdF S w) (d : Nat) (hd : d < 40) : C G mX10_datum 0 [.ref w, .int (nI d)] S (fun r S' => r = some (.ref (dA w d)) ∧ S = S') := by
  refine C.mk (lv := [some (.ref w), some (.int (nI d))]) (by decide) (Nat.le_of_ble_eq_true rfl) rfl (fun E hB => ?_)
  refine X_aload_n (i := 0) hB dX10_datum_0 rfl rfl ?_
  refine X_getr hB cw8 fX10_33 rfl hW.1.1 hW.1.2 hF.2.2.2.2.1 dX10_datum_1 ?_
  refine X_iload_n (i := 1) hB dX10_datum_4 rfl rfl ?_
  refine X_if_lt (tgt := 18) hB dX10_datum_5 (by decide) (fun c5 => absurd c5 (nI_pos (by omega))) (fun c5 => ?_)
  refine X_iload_n (i := 1) hB dX10_datum_8 rfl rfl ?_
  refine X_bipush (v := 40) hB dX10_datum_9 (by decide) ?_
  refine X_icmp_ge (tgt := 18) hB dX10_datum_11 (by decide) (fun c11 => absurd c11 (by simp (disch := omega) only [nlit, nI_leI, nI_ltI]; omega)) (fun c11 => ?_)
  refine X_iload_n (i := 1) hB dX10_datum_14 rfl rfl ?_
  refine X_goto (tgt := 19) hB dX10_datum_15 (by decide) ?_
  refine X_aaldN hB (d) hW.2.2.2.2.2.2.2.1.1 hW.2.2.2.2.2.2.2.1.2 (by decide) rfl (by decide) rfl hd (hF.2.2.2.2.2.2.2 d hd).1 dX10_datum_19 ?_
  refine X_aret (v := some (dA w d)) hB rfl dX10_datum_20 ?_
  exact ⟨rfl, rfl⟩
set_option maxRecDepth 100000 in
set_option maxHeartbeats 4000000 in
theorem c_X10_isNode (w : Nat) (hW : WLay G w) (σ : Net) (hw : worldR S w σ) (hc8 : nSe σ 0 ≤ 8) (v : Int32) : C G mX10_isNode 0 [.ref w, .int v] S (fun r S' => r = some (.int (if inN v (nSe σ 0) = none then 0 else 1)) ∧ S = S') := by
  refine C.mk (lv := [some (.ref w), some (.int v)]) (by decide) (Nat.le_of_ble_eq_true rfl) rfl (fun E hB => ?_)
  refine X_iload_n (i := 1) hB dX10_isNode_0 rfl rfl ?_
  refine X_if_lt (tgt := 18) hB dX10_isNode_1 (by decide) (fun c1 => ?_) (fun c1 => ?_)
  · refine X_iconst (v := 0) hB dX10_isNode_18 (by decide) ?_
    refine X_zret hB rfl (by first | exact Or.inl rfl | exact Or.inr rfl) dX10_isNode_19 ?_
    have e9 : inN v (nSe σ 0) = none := by
      unfold inN
      rw [if_neg]
      rw [Int32.lt_iff_toInt_lt] at c1
      have : (0 : Int32).toInt = 0 := by decide
      omega
    rw [if_pos e9]
    exact ⟨rfl, rfl⟩
  · obtain ⟨k, hk31, rfl⟩ := nI_of c1
    refine X_iload_n (i := 1) hB dX10_isNode_4 rfl rfl ?_
    refine X_aload_n (i := 0) hB dX10_isNode_5 rfl rfl ?_
    refine X_getr hB cw8 fX10_9 rfl hW.1.1 hW.1.2 hw.1.1 dX10_isNode_6 ?_
    refine X_iconst (v := 0) hB dX10_isNode_9 (by decide) ?_
    refine X_ialdN hB (0) hW.2.1.1 hW.2.1.2 (by decide) rfl (by decide) (hw.2.1.1 0 (by decide)) dX10_isNode_10 ?_
    refine X_icmp_ge (tgt := 18) hB dX10_isNode_11 (by decide) (fun c11 => ?_) (fun c11 => ?_)
    · refine X_iconst (v := 0) hB dX10_isNode_18 (by decide) ?_
      refine X_zret hB rfl (by first | exact Or.inl rfl | exact Or.inr rfl) dX10_isNode_19 ?_
      have e9 : inN (nI k) (nSe σ 0) = none := by
        unfold inN
        rw [if_neg]
        rw [nI_leI (by omega) hk31] at c11
        rw [nI_toInt hk31]
        omega
      rw [if_pos e9]
      exact ⟨rfl, rfl⟩
    · refine X_iconst (v := 1) hB dX10_isNode_14 (by decide) ?_
      refine X_goto (tgt := 19) hB dX10_isNode_15 (by decide) ?_
      refine X_zret hB rfl (by first | exact Or.inl rfl | exact Or.inr rfl) dX10_isNode_19 ?_
      have e9 : inN (nI k) (nSe σ 0) = some k := by
        rw [nI_leI (by omega) hk31] at c11
        exact inN_nI (by omega) hk31
      rw [if_neg (by rw [e9]; exact fun z => by cases z)]
      exact ⟨rfl, rfl⟩
set_option maxRecDepth 100000 in
set_option maxHeartbeats 4000000 in
theorem c_X10_areTwo (w : Nat) (hW : WLay G w) (σ : Net) (hw : worldR S w σ) (hc8 : nSe σ 0 ≤ 8) (v u : Int32) : C G mX10_areTwo 1 [.ref w, .int v, .int u] S (fun r S' => r = some (.int (if two σ v u = none then 0 else 1)) ∧ S = S') := by
  refine C.mk (lv := [some (.ref w), some (.int v), some (.int u)]) (by decide) (Nat.le_of_ble_eq_true rfl) rfl (fun E hB => ?_)
  refine X_iload_n (i := 1) hB dX10_areTwo_0 rfl rfl ?_
  refine X_iload_n (i := 2) hB dX10_areTwo_1 rfl rfl ?_
  refine X_icmp_eq (tgt := 25) hB dX10_areTwo_2 (by decide) (fun c2 => ?_) (fun c2 => ?_)
  · refine X_iconst (v := 0) hB dX10_areTwo_25 (by decide) ?_
    refine X_zret hB rfl (by first | exact Or.inl rfl | exact Or.inr rfl) dX10_areTwo_26 ?_
    have e9 : two σ v u = none := by
      unfold two
      rw [c2]
      split
      · rename_i a b h1 h2
        rw [if_pos (Option.some.inj (h1.symm.trans h2))]
      · rfl
    rw [if_pos e9]
    exact ⟨rfl, rfl⟩
  · refine X_aload_n (i := 0) hB dX10_areTwo_5 rfl rfl ?_
    refine X_iload_n (i := 1) hB dX10_areTwo_6 rfl rfl ?_
    refine X_callV hB kX10_94 cw8 hW.1.1 hW.1.2 (c_X10_isNode w hW σ hw hc8 v) (by decide) (by decide) rfl rfl (Nat.le_of_ble_eq_true rfl) dX10_areTwo_7 (fun r7 S7 q7 => ?_)
    obtain ⟨rfl, rfl⟩ := q7
    refine X_if_eq (tgt := 25) hB dX10_areTwo_10 (by decide) (fun c10 => ?_) (fun c10 => ?_)
    · refine X_iconst (v := 0) hB dX10_areTwo_25 (by decide) ?_
      refine X_zret hB rfl (by first | exact Or.inl rfl | exact Or.inr rfl) dX10_areTwo_26 ?_
      rw [if_pos (show two σ v u = none by unfold two; rw [if0 c10])]
      exact ⟨rfl, rfl⟩
    · obtain ⟨x, e10⟩ := opt_ex (if0n c10)
      obtain ⟨l10, rfl⟩ := inN_some e10
      refine X_aload_n (i := 0) hB dX10_areTwo_13 rfl rfl ?_
      refine X_iload_n (i := 2) hB dX10_areTwo_14 rfl rfl ?_
      refine X_callV hB kX10_94 cw8 hW.1.1 hW.1.2 (c_X10_isNode w hW σ hw hc8 u) (by decide) (by decide) rfl rfl (Nat.le_of_ble_eq_true rfl) dX10_areTwo_15 (fun r15 S15 q15 => ?_)
      obtain ⟨rfl, rfl⟩ := q15
      refine X_if_eq (tgt := 25) hB dX10_areTwo_18 (by decide) (fun c18 => ?_) (fun c18 => ?_)
      · refine X_iconst (v := 0) hB dX10_areTwo_25 (by decide) ?_
        refine X_zret hB rfl (by first | exact Or.inl rfl | exact Or.inr rfl) dX10_areTwo_26 ?_
        rw [if_pos (show two σ (nI x) u = none by unfold two; rw [e10, if0 c18])]
        exact ⟨rfl, rfl⟩
      · obtain ⟨y, e18⟩ := opt_ex (if0n c18)
        obtain ⟨l18, rfl⟩ := inN_some e18
        refine X_iconst (v := 1) hB dX10_areTwo_21 (by decide) ?_
        refine X_goto (tgt := 26) hB dX10_areTwo_22 (by decide) ?_
        refine X_zret hB rfl (by first | exact Or.inl rfl | exact Or.inr rfl) dX10_areTwo_26 ?_
        rw [if_neg (show ¬ two σ (nI x) (nI y) = none by unfold two; rw [e10, e18]; simp [show ¬ x = y from fun q => c2 (by rw [q])])]
        exact ⟨rfl, rfl⟩
end CLS
