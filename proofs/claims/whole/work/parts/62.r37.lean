section REF
variable {G : Gc} {S : St} {h : Nat}
set_option maxRecDepth 100000 in
set_option maxHeartbeats 4000000 in
theorem l_copies (hR : RLay G h) (hF : RRef S h) {E : Ev} (hB : Bd G E mX12_copies) {Q : Option Value → St → Prop} (fm to : Nat) (hfm : fm < 5) (hto : to < 5) (hne : fm ≠ to) (kk : Q none (rowI S (h + 1) (cpT (S.1 (h + 1)) fm to))) :
    ∀ (k j : Nat), j + k = 2457 → X G E mX12_copies 0 Q (rowI S (h + 1) (cpA (S.1 (h + 1)) (2457 * to) (fun k => S.1 (h + 1) (2457 * fm + k)) j)) 2 [some (.ref h), some (.int (nI fm)), some (.int (nI to)), some (.int (nI j))] [] := by
  intro k
  induction k with
  | zero =>
    intro j h1
    refine X_iload_n (i := 3) hB dX12_copies_2 rfl rfl ?_
    refine X_sipush (v := 2457) hB dX12_copies_3 (by decide) ?_
    refine X_icmp_ge (tgt := 39) hB dX12_copies_6 (by decide) (fun c6 => ?_) (fun c6 => absurd c6 (by simp (disch := omega) only [nlit, nI_leI, nI_ltI]; omega))
    refine X_vret hB rfl dX12_copies_39 ?_
    have e9 : j = 2457 := by omega
    subst e9
    exact kk
  | succ k ih =>
    intro j h1
    refine X_iload_n (i := 3) hB dX12_copies_2 rfl rfl ?_
    refine X_sipush (v := 2457) hB dX12_copies_3 (by decide) ?_
    refine X_icmp_ge (tgt := 39) hB dX12_copies_6 (by decide) (fun c6 => absurd c6 (by simp (disch := omega) only [nlit, nI_leI, nI_ltI]; omega)) (fun c6 => ?_)
    refine X_aload_n (i := 0) hB dX12_copies_9 rfl rfl ?_
    refine X_getr hB cw10 fX12_7 rfl hR.1.1 hR.1.2 hF.1 dX12_copies_10 ?_
    refine X_sipush (v := 2457) hB dX12_copies_13 (by decide) ?_
    refine X_iload_n (i := 2) hB dX12_copies_16 rfl rfl ?_
    refine X_imul hB dX12_copies_17 ?_
    refine X_iload_n (i := 3) hB dX12_copies_18 rfl rfl ?_
    refine X_iadd hB dX12_copies_19 ?_
    refine X_aload_n (i := 0) hB dX12_copies_20 rfl rfl ?_
    refine X_getr hB cw10 fX12_7 rfl hR.1.1 hR.1.2 hF.1 dX12_copies_21 ?_
    refine X_sipush (v := 2457) hB dX12_copies_24 (by decide) ?_
    refine X_iload_n (i := 1) hB dX12_copies_27 rfl rfl ?_
    refine X_imul hB dX12_copies_28 ?_
    refine X_iload_n (i := 3) hB dX12_copies_29 rfl rfl ?_
    refine X_iadd hB dX12_copies_30 ?_
    refine X_ialdN hB (2457 * fm + j) hR.2.1.1 hR.2.1.2 (by decide) (by simp only [nlit, nI_add, nI_mul]) (by first | omega | (simp only []; omega)) (show _ = S.1 (h + 1) (2457 * fm + j) by rw [rowI_at]; exact cpA_out (by omega)) dX12_copies_31 ?_
    refine X_iastN hB (2457 * to + j) hR.2.1.1 hR.2.1.2 (by decide) (by simp only [nlit, nI_add, nI_mul]) (by first | omega | (simp only []; omega)) dX12_copies_32 ?_
    refine X_iinc hB dX12_copies_33 rfl rfl (by decide) rfl ?_
    refine X_goto (tgt := 2) hB dX12_copies_36 (by decide) ?_
    rw [setI_rowI, rowI_rowI, rowI_at, cpA_step (F := fun k => S.1 (h + 1) (2457 * fm + k))]
    refine X_lv ?_ (ih (j + 1) (by omega))
    · rw [nI_succ]; rfl
set_option maxRecDepth 100000 in
set_option maxHeartbeats 4000000 in
theorem c_copiesN (hR : RLay G h) (hF : RRef S h) (fm to : Nat) (hfm : fm < 5) (hto : to < 5) (hne : fm ≠ to) : C G mX12_copies 0 [.ref h, .int (nI fm), .int (nI to)] S (fun r S' => r = none ∧ S' = rowI S (h + 1) (cpT (S.1 (h + 1)) fm to)) := by
  refine C.mk (lv := [some (.ref h), some (.int (nI fm)), some (.int (nI to)), none]) (by decide) (Nat.le_of_ble_eq_true rfl) rfl (fun E hB => ?_)
  refine X_iconst (v := 0) hB dX12_copies_0 (by decide) ?_
  refine X_istore_n (i := 3) hB dX12_copies_1 rfl (by decide) rfl ?_
  refine X_S (S' := rowI S (h + 1) (cpA (S.1 (h + 1)) (2457 * to) (fun k => S.1 (h + 1) (2457 * fm + k)) 0)) (by rw [cpA_0, rowI_self]) (X_lv ?_ (l_copies hR hF hB fm to hfm hto hne ⟨rfl, rfl⟩ 2457 0 (by omega)))
  rw [nI_0]; rfl
theorem c_copies (hR : RLay G h) (hF : RRef S h) {x y : Int32} (fm to : Nat) (hx : x = nI fm) (hy : y = nI to) (hfm : fm < 5) (hto : to < 5) (hne : fm ≠ to) : C G mX12_copies 0 [.ref h, .int x, .int y] S (fun r S' => r = none ∧ S' = rowI S (h + 1) (cpT (S.1 (h + 1)) fm to)) := by subst hx; subst hy; exact c_copiesN hR hF fm to hfm hto hne
set_option maxRecDepth 100000 in
set_option maxHeartbeats 4000000 in
theorem c_back (hR : RLay G h) (hF : RRef S h) (v : Int32) : C G mX12_back 1 [.ref h, .int v] S (fun r S' => r = some (.int v) ∧ S' = rowI S (h + 1) (cpT (S.1 (h + 1)) 4 0)) := by
  refine C.mk (lv := [some (.ref h), some (.int v)]) (by decide) (Nat.le_of_ble_eq_true rfl) rfl (fun E hB => ?_)
  refine X_aload_n (i := 0) hB dX12_back_0 rfl rfl ?_
  refine X_iconst (v := 4) hB dX12_back_1 (by decide) ?_
  refine X_iconst (v := 0) hB dX12_back_2 (by decide) ?_
  refine X_callV hB kX12_410 cw10 hR.1.1 hR.1.2 (c_copies hR hF 4 0 rfl rfl (by decide) (by decide) (by decide)) (by decide) (by decide) rfl rfl (Nat.le_of_ble_eq_true rfl) dX12_back_3 (fun r3 S3 q3 => ?_)
  obtain ⟨rfl, rfl⟩ := q3
  refine X_iload_n (i := 1) hB dX12_back_6 rfl rfl ?_
  refine X_iret hB rfl dX12_back_7 ?_
  exact ⟨rfl, rfl⟩
set_option maxRecDepth 100000 in
set_option maxHeartbeats 4000000 in
theorem l_asAhead (hR : RLay G h) (hF : RRef S h) {E : Ev} (hB : Bd G E mX12_asAhead) {Q : Option Value → St → Prop} (σ : Net) (hN : netR (S.1 (h + 1)) σ) (hs : szN σ) (hst : ∀ d, d < (nDa σ).length → aSt (dat σ d) ≤ 3) (w : Nat) (kk : X G E mX12_asAhead 1 Q S 38 [some (.ref h), some (.int (nI w)), some (.int (nI (cnB (fun d => decide (aSt (dat σ d) = 0)) (nDa σ).length))), some (.int (nI (nDa σ).length))] []) :
    ∀ (k j : Nat), j + k = (nDa σ).length → X G E mX12_asAhead 1 Q S 4 [some (.ref h), some (.int (nI w)), some (.int (nI (cnB (fun d => decide (aSt (dat σ d) = 0)) j))), some (.int (nI j))] [] := by
  have hd40 := hs.2.1
  intro k
  induction k with
  | zero =>
    intro j h1
    have e9 : j = (nDa σ).length := by omega
    subst e9
    refine X_iload_n (i := 3) hB dX12_asAhead_4 rfl rfl ?_
    refine X_aload_n (i := 0) hB dX12_asAhead_5 rfl rfl ?_
    refine X_getr hB cw10 fX12_7 rfl hR.1.1 hR.1.2 hF.1 dX12_asAhead_6 ?_
    refine X_bipush (v := 9) hB dX12_asAhead_9 (by decide) ?_
    refine X_ialdN hB (9) hR.2.1.1 hR.2.1.2 (by decide) (by first | rfl | (simp (disch := omega) only [nlit, nI_add, nI_mul, nI_sub]; done) | (simp (disch := omega) only [nlit, nI_add, nI_mul, nI_sub]; (congr 1 <;> omega))) (by first | omega | (simp only []; omega)) hN.1.2.2.1 dX12_asAhead_11 ?_
    refine X_icmp_ge (tgt := 38) hB dX12_asAhead_12 (by decide) (fun c12 => ?_) (fun c12 => absurd c12 (by simp (disch := omega) only [nlit, nI_leI, nI_ltI]; omega))
    exact kk
  | succ k ih =>
    intro j h1
    have hj := hst j (by omega)
    have hda := (hN.2.2.2 j (by omega)).2.2.1
    refine X_iload_n (i := 3) hB dX12_asAhead_4 rfl rfl ?_
    refine X_aload_n (i := 0) hB dX12_asAhead_5 rfl rfl ?_
    refine X_getr hB cw10 fX12_7 rfl hR.1.1 hR.1.2 hF.1 dX12_asAhead_6 ?_
    refine X_bipush (v := 9) hB dX12_asAhead_9 (by decide) ?_
    refine X_ialdN hB (9) hR.2.1.1 hR.2.1.2 (by decide) (by first | rfl | (simp (disch := omega) only [nlit, nI_add, nI_mul, nI_sub]; done) | (simp (disch := omega) only [nlit, nI_add, nI_mul, nI_sub]; (congr 1 <;> omega))) (by first | omega | (simp only []; omega)) hN.1.2.2.1 dX12_asAhead_11 ?_
    refine X_icmp_ge (tgt := 38) hB dX12_asAhead_12 (by decide) (fun c12 => absurd c12 (by simp (disch := omega) only [nlit, nI_leI, nI_ltI]; omega)) (fun c12 => ?_)
    refine X_iload_n (i := 2) hB dX12_asAhead_15 rfl rfl ?_
    refine X_aload_n (i := 0) hB dX12_asAhead_16 rfl rfl ?_
    refine X_iload_n (i := 3) hB dX12_asAhead_17 rfl rfl ?_
    refine X_iconst (v := 2) hB dX12_asAhead_18 (by decide) ?_
    refine X_callV hB kX12_246 cw10 hR.1.1 hR.1.2 (c_ofDE (w := 2) hR hF rfl (by first | rfl | (simp (disch := omega) only [nlit, nI_add, nI_mul, nI_sub]; done) | (simp (disch := omega) only [nlit, nI_add, nI_mul, nI_sub]; (congr 1 <;> omega))) (by omega) (by omega)) (by decide) (by decide) rfl rfl (Nat.le_of_ble_eq_true rfl) dX12_asAhead_19 (fun r19 S19 q19 => ?_)
    obtain ⟨rfl, rfl⟩ := q19
    refine X_topi (y := nI (aSt (dat σ j))) (hda) ?_
    refine X_if_ne (tgt := 29) hB dX12_asAhead_22 (by decide) (fun c22 => ?_) (fun c22 => ?_)
    · have e9 : (fun d => decide (aSt (dat σ d) = 0)) j = false := by rw [show (0 : Int32) = nI 0 from rfl, nI_eq (by omega) (by omega)] at c22; simpa using c22
      refine X_iconst (v := 0) hB dX12_asAhead_29 (by decide) ?_
      refine X_iadd hB dX12_asAhead_30 ?_
      refine X_topi (y := nI (cnB (fun d => decide (aSt (dat σ d) = 0)) (j + 1))) (by first | (simp only [cnB, e9, if_true]; rw [nI_1]) | (simp only [cnB, e9, Bool.false_eq_true, if_false, Nat.add_zero]; exact Int32.add_zero _)) ?_
      refine X_istore_n (i := 2) hB dX12_asAhead_31 rfl (by decide) rfl ?_
      refine X_iinc hB dX12_asAhead_32 rfl rfl (by decide) rfl ?_
      refine X_goto (tgt := 4) hB dX12_asAhead_35 (by decide) ?_
      refine X_lv ?_ (ih (j + 1) (by omega))
      · rw [nI_succ]; rfl
    · have e9 : (fun d => decide (aSt (dat σ d) = 0)) j = true := by rw [show (0 : Int32) = nI 0 from rfl, nI_eq (by omega) (by omega)] at c22; simpa using c22
      refine X_iconst (v := 1) hB dX12_asAhead_25 (by decide) ?_
      refine X_goto (tgt := 30) hB dX12_asAhead_26 (by decide) ?_
      refine X_iadd hB dX12_asAhead_30 ?_
      refine X_topi (y := nI (cnB (fun d => decide (aSt (dat σ d) = 0)) (j + 1))) (by first | (simp only [cnB, e9, if_true]; rw [nI_1]) | (simp only [cnB, e9, Bool.false_eq_true, if_false, Nat.add_zero]; exact Int32.add_zero _)) ?_
      refine X_istore_n (i := 2) hB dX12_asAhead_31 rfl (by decide) rfl ?_
      refine X_iinc hB dX12_asAhead_32 rfl rfl (by decide) rfl ?_
      refine X_goto (tgt := 4) hB dX12_asAhead_35 (by decide) ?_
      refine X_lv ?_ (ih (j + 1) (by omega))
      · rw [nI_succ]; rfl
set_option maxRecDepth 100000 in
set_option maxHeartbeats 4000000 in
theorem c_asAhead (hR : RLay G h) (hF : RRef S h) (σ : Net) (hN : netR (S.1 (h + 1)) σ) (hs : szN σ) (hst : ∀ d, d < (nDa σ).length → aSt (dat σ d) ≤ 3) (w : Nat) (hw13 : w < 13) : C G mX12_asAhead 1 [.ref h, .int (nI w)] S (fun r S' => r = some (.int (cntA σ w)) ∧ S = S') := by
  refine C.mk (lv := [some (.ref h), some (.int (nI w)), none, none]) (by decide) (Nat.le_of_ble_eq_true rfl) rfl (fun E hB => ?_)
  refine X_iconst (v := 0) hB dX12_asAhead_0 (by decide) ?_
  refine X_istore_n (i := 2) hB dX12_asAhead_1 rfl (by decide) rfl ?_
  refine X_iconst (v := 0) hB dX12_asAhead_2 (by decide) ?_
  refine X_istore_n (i := 3) hB dX12_asAhead_3 rfl (by decide) rfl ?_
  refine X_lv ?_ (l_asAhead hR hF hB σ hN hs hst w ?_ (nDa σ).length 0 (by omega))
  · rw [nI_0]; rfl
  refine X_iload_n (i := 1) hB dX12_asAhead_38 rfl rfl ?_
  refine X_bipush (v := 11) hB dX12_asAhead_39 (by decide) ?_
  refine X_icmp_ge (tgt := 56) hB dX12_asAhead_41 (by decide) (fun c41 => ?_) (fun c41 => ?_)
  · have e41 : ¬ w < 11 := by
      rw [show (11 : Int32) = nI 11 from rfl, nI_leI (by omega) (by omega)] at c41
      omega
    refine X_iload_n (i := 1) hB dX12_asAhead_56 rfl rfl ?_
    refine X_bipush (v := 11) hB dX12_asAhead_57 (by decide) ?_
    refine X_icmp_ne (tgt := 72) hB dX12_asAhead_59 (by decide) (fun c59 => ?_) (fun c59 => ?_)
    · have e59 : ¬ w = 11 := by
        rw [show (11 : Int32) = nI 11 from rfl, nI_eq (by omega) (by omega)] at c59
        exact c59
      refine X_iload_n (i := 2) hB dX12_asAhead_72 rfl rfl ?_
      refine X_iret hB rfl dX12_asAhead_73 ?_
      refine ⟨?_, rfl⟩
      unfold cntA
      first
        | rw [if_pos e41]
        | rw [if_neg e41, if_pos e59]
        | rw [if_neg e41, if_neg e59]
    · have e59 : w = 11 := by
        rw [show (11 : Int32) = nI 11 from rfl, nI_eq (by omega) (by omega)] at c59
        exact c59
      refine X_aload_n (i := 0) hB dX12_asAhead_62 rfl rfl ?_
      refine X_getr hB cw10 fX12_7 rfl hR.1.1 hR.1.2 hF.1 dX12_asAhead_63 ?_
      refine X_bipush (v := 10) hB dX12_asAhead_66 (by decide) ?_
      refine X_ialdN hB (10) hR.2.1.1 hR.2.1.2 (by decide) (by first | rfl | (simp (disch := omega) only [nlit, nI_add, nI_mul, nI_sub]; done) | (simp (disch := omega) only [nlit, nI_add, nI_mul, nI_sub]; (congr 1 <;> omega))) (by first | omega | (simp only []; omega)) hN.1.2.2.2.1 dX12_asAhead_68 ?_
      refine X_goto (tgt := 73) hB dX12_asAhead_69 (by decide) ?_
      refine X_iret hB rfl dX12_asAhead_73 ?_
      refine ⟨?_, rfl⟩
      unfold cntA
      first
        | rw [if_pos e41]
        | rw [if_neg e41, if_pos e59]
        | rw [if_neg e41, if_neg e59]
  · have e41 : w < 11 := by
      rw [show (11 : Int32) = nI 11 from rfl, nI_leI (by omega) (by omega)] at c41
      omega
    refine X_aload_n (i := 0) hB dX12_asAhead_44 rfl rfl ?_
    refine X_getr hB cw10 fX12_7 rfl hR.1.1 hR.1.2 hF.1 dX12_asAhead_45 ?_
    refine X_bipush (v := 14) hB dX12_asAhead_48 (by decide) ?_
    refine X_iload_n (i := 1) hB dX12_asAhead_50 rfl rfl ?_
    refine X_iadd hB dX12_asAhead_51 ?_
    refine X_ialdN hB (14 + w) hR.2.1.1 hR.2.1.2 (by decide) (by first | rfl | (simp (disch := omega) only [nlit, nI_add, nI_mul, nI_sub]; done) | (simp (disch := omega) only [nlit, nI_add, nI_mul, nI_sub]; (congr 1 <;> omega))) (by first | omega | (simp only []; omega)) (hN.1.2.2.2.2.1 w (by omega)) dX12_asAhead_52 ?_
    refine X_goto (tgt := 73) hB dX12_asAhead_53 (by decide) ?_
    refine X_iret hB rfl dX12_asAhead_73 ?_
    refine ⟨?_, rfl⟩
    unfold cntA
    first
      | rw [if_pos e41]
      | rw [if_neg e41, if_pos e59]
      | rw [if_neg e41, if_neg e59]
set_option maxRecDepth 100000 in
set_option maxHeartbeats 4000000 in
theorem l_goesOn (hR : RLay G h) (hF : RRef S h) {E : Ev} (hB : Bd G E mX12_goesOn) {Q : Option Value → St → Prop} (σ : Net) (b : Nat) (hw : wfN σ b) (n : Nat) (hn : n ≤ 12) (hnow : nNow σ + n ≤ 1000) (hb : b + 104 * n < 100000) (kk : ∀ S1, fr h [h + 1, h + 7, h + 8, h + 9, h + 10, h + 11, h + 12] [20, 22] S S1 → netR (S1.1 (h + 1)) (tkN_ n σ) → Q none S1) :
    ∀ (k j : Nat) (S1 : St), j + k = n → fr h [h + 1, h + 7, h + 8, h + 9, h + 10, h + 11, h + 12] [20, 22] S S1 → netR (S1.1 (h + 1)) (tkN_ j σ) → X G E mX12_goesOn 11 Q S1 2 [some (.ref h), some (.int (nI n)), some (.int (nI j))] [] := by
  intro k
  induction k with
  | zero =>
    intro j S1 h1 hfr hN1
    refine X_iload_n (i := 2) hB dX12_goesOn_2 rfl rfl ?_
    refine X_iload_n (i := 1) hB dX12_goesOn_3 rfl rfl ?_
    refine X_icmp_ge (tgt := 17) hB dX12_goesOn_4 (by decide) (fun c4 => ?_) (fun c4 => absurd c4 (by simp (disch := omega) only [nlit, nI_leI, nI_ltI]; omega))
    refine X_vret hB rfl dX12_goesOn_17 ?_
    have e9 : j = n := by omega
    subst e9
    exact kk S1 hfr hN1
  | succ k ih =>
    intro j S1 h1 hfr hN1
    have hI := hw.tks j (by omega) (by omega)
    refine X_iload_n (i := 2) hB dX12_goesOn_2 rfl rfl ?_
    refine X_iload_n (i := 1) hB dX12_goesOn_3 rfl rfl ?_
    refine X_icmp_ge (tgt := 17) hB dX12_goesOn_4 (by decide) (fun c4 => absurd c4 (by simp (disch := omega) only [nlit, nI_leI, nI_ltI]; omega)) (fun c4 => ?_)
    refine X_aload_n (i := 0) hB dX12_goesOn_7 rfl rfl ?_
    refine X_callV hB kX12_382 cw10 hR.1.1 hR.1.2 (c_tick hR (hfr.ref hF) (tkN_ j σ) (b + 104 * j) hI.1 (by rw [hI.2.2.1]; omega) (by omega) hN1) (by decide) (by decide) rfl rfl (Nat.le_of_ble_eq_true rfl) dX12_goesOn_8 (fun r8 S8 q8 => ?_)
    obtain ⟨rfl, f8, n8⟩ := q8
    refine X_iinc hB dX12_goesOn_11 rfl rfl (by decide) rfl ?_
    refine X_goto (tgt := 2) hB dX12_goesOn_14 (by decide) ?_
    refine X_lv ?_ (ih (j + 1) _ (by omega) (hfr.tr f8) n8)
    · rw [nI_succ]; rfl
set_option maxRecDepth 100000 in
set_option maxHeartbeats 4000000 in
theorem c_goesOn (hR : RLay G h) (hF : RRef S h) (σ : Net) (b : Nat) (hw : wfN σ b) (n : Nat) (hn : n ≤ 12) (hnow : nNow σ + n ≤ 1000) (hb : b + 104 * n < 100000) (hN : netR (S.1 (h + 1)) σ) : C G mX12_goesOn 11 [.ref h, .int (nI n)] S (fun r S' => r = none ∧ fr h [h + 1, h + 7, h + 8, h + 9, h + 10, h + 11, h + 12] [20, 22] S S' ∧ netR (S'.1 (h + 1)) (tkN_ n σ)) := by
  refine C.mk (lv := [some (.ref h), some (.int (nI n)), none]) (by decide) (Nat.le_of_ble_eq_true rfl) rfl (fun E hB => ?_)
  refine X_iconst (v := 0) hB dX12_goesOn_0 (by decide) ?_
  refine X_istore_n (i := 2) hB dX12_goesOn_1 rfl (by decide) rfl ?_
  refine X_lv ?_ (l_goesOn (S := S) hR hF hB σ b hw n hn hnow hb (fun S9 g1 g2 => ⟨rfl, g1, g2⟩) n 0 _ (by omega) fr.rf hN)
  rw [nI_0]; rfl
set_option maxRecDepth 100000 in
set_option maxHeartbeats 4000000 in
theorem c_ahead (hR : RLay G h) (hF : RRef S h) (σ : Net) (b : Nat) (hw : wfN σ b) (hN : netR (S.1 (h + 1)) σ) (hnow : nNow σ ≤ 900) (hb : b + 3000 < 100000) (v w : Int32) : C G mX12_ahead 12 [.ref h, .int v, .int w] S (fun r S' => r = some (.int (aAhead (reSe σ (cpT (S.1 (h + 1)) 0 4)) v w)) ∧ fr h [h + 1, h + 7, h + 8, h + 9, h + 10, h + 11, h + 12] [0, 20, 22] S S' ∧ ∀ i, i < 9828 → S'.1 (h + 1) i = S.1 (h + 1) i) := by
  have hs := hw.sz
  have hc8 := hw.1.1.2
  have ha40 := hs.1
  have hd40 := hs.2.1
  refine C.mk (lv := [some (.ref h), some (.int v), some (.int w)]) (by decide) (Nat.le_of_ble_eq_true rfl) rfl (fun E hB => ?_)
  refine X_aload_n (i := 0) hB dX12_ahead_0 rfl rfl ?_
  refine X_iconst (v := 0) hB dX12_ahead_1 (by decide) ?_
  refine X_puti hB cw10 fX12_51 rfl rfl hR.1.1 hR.1.2 dX12_ahead_2 ?_
  generalize hS0 : setI S h 0 0 = S0
  have fz : fr h [] [0] S S0 := hS0 ▸ fr.fld (by simp)
  have hF := fz.ref hF
  have hN : netR (S0.1 (h + 1)) σ := by rw [fz.2.1 (h + 1) (by simp) (by omega)]; exact hN
  clear hS0
  refine X_iload_n (i := 1) hB dX12_ahead_5 rfl rfl ?_
  refine X_iconst (v := 0) hB dX12_ahead_6 (by decide) ?_
  refine X_bipush (v := 6) hB dX12_ahead_7 (by decide) ?_
  refine X_callS hB kX12_55 (c_in _ _ _) (by decide) (by decide) rfl rfl (Nat.le_of_ble_eq_true rfl) dX12_ahead_9 (fun r9 S9 q9 => ?_)
  obtain ⟨rfl, rfl⟩ := q9
  refine X_topi (y := if inN v 7 = none then 0 else 1) (in_if (c := 7) (by omega)) ?_
  refine X_if_eq (tgt := 25) hB dX12_ahead_12 (by decide) (fun c12 => ?_) (fun c12 => ?_)
  · first
      | (have e12 := if0 c12
         refine X_iconst (v := (-1)) hB dX12_ahead_25 (by decide) ?_
         refine X_iret hB rfl dX12_ahead_26 ?_
         refine ⟨?_, (⟨fz.mono (by simp) (by simp), fun i _ => by rw [fz.2.1 (h + 1) (by simp) (by omega)]⟩ : fr h [h + 1, h + 7, h + 8, h + 9, h + 10, h + 11, h + 12] [0, 20, 22] S S0 ∧ ∀ i, i < 9828 → S0.1 (h + 1) i = S.1 (h + 1) i)⟩
         simp only [aAhead, two_re, e12])
      | (have e22 := if0 c22
         refine X_iconst (v := (-1)) hB dX12_ahead_25 (by decide) ?_
         refine X_iret hB rfl dX12_ahead_26 ?_
         refine ⟨?_, (⟨fz.mono (by simp) (by simp), fun i _ => by rw [fz.2.1 (h + 1) (by simp) (by omega)]⟩ : fr h [h + 1, h + 7, h + 8, h + 9, h + 10, h + 11, h + 12] [0, 20, 22] S S0 ∧ ∀ i, i < 9828 → S0.1 (h + 1) i = S.1 (h + 1) i)⟩
         simp only [aAhead, two_re, e12, e22])
  · obtain ⟨k, e12⟩ := opt_ex (if0n c12)
    obtain ⟨l12, rfl⟩ := inN_some e12
    refine X_iload_n (i := 2) hB dX12_ahead_15 rfl rfl ?_
    refine X_iconst (v := 0) hB dX12_ahead_16 (by decide) ?_
    refine X_bipush (v := 12) hB dX12_ahead_17 (by decide) ?_
    refine X_callS hB kX12_55 (c_in _ _ _) (by decide) (by decide) rfl rfl (Nat.le_of_ble_eq_true rfl) dX12_ahead_19 (fun r19 S19 q19 => ?_)
    obtain ⟨rfl, rfl⟩ := q19
    refine X_topi (y := if inN w 13 = none then 0 else 1) (in_if (c := 13) (by omega)) ?_
    refine X_if_ne (tgt := 27) hB dX12_ahead_22 (by decide) (fun c22 => ?_) (fun c22 => ?_)
    · obtain ⟨y, e22⟩ := opt_ex (if0n c22)
      obtain ⟨l22, rfl⟩ := inN_some e22
      refine X_aload_n (i := 0) hB dX12_ahead_27 rfl rfl ?_
      refine X_iconst (v := 0) hB dX12_ahead_28 (by decide) ?_
      refine X_iconst (v := 4) hB dX12_ahead_29 (by decide) ?_
      refine X_callV hB kX12_410 cw10 hR.1.1 hR.1.2 (c_copies hR hF 0 4 rfl rfl (by decide) (by decide) (by decide)) (by decide) (by decide) rfl rfl (Nat.le_of_ble_eq_true rfl) dX12_ahead_30 (fun r30 S30 q30 => ?_)
      obtain ⟨rfl, rfl⟩ := q30
      generalize hSc : rowI S0 (h + 1) (cpT (S0.1 (h + 1)) 0 4) = Sc
      have eA : S0.1 (h + 1) = S.1 (h + 1) := fz.2.1 (h + 1) (by simp) (by omega)
      have fc : fr h [h + 1, h + 7, h + 8, h + 9, h + 10, h + 11, h + 12] [20, 22] S0 Sc := hSc ▸ fr.row (by simp) (by omega)
      have hFc := fc.ref hF
      have hNc : netR (Sc.1 (h + 1)) (reSe σ (cpT (S.1 (h + 1)) 0 4)) := by rw [← hSc, rowI_at, eA]; exact netR_re (by rw [← eA]; exact hN) hs (fun i hi => cpT_lo (by omega))
      have hNr : netR (cpT (S.1 (h + 1)) 0 4) (reSe σ (cpT (S.1 (h + 1)) 0 4)) := by rw [← hSc, rowI_at, eA] at hNc; exact hNc
      have hwc : wfN (reSe σ (cpT (S.1 (h + 1)) 0 4)) b := wfN_re hw
      have hnc : nNow (reSe σ (cpT (S.1 (h + 1)) 0 4)) ≤ 900 := hnow
      clear hSc
      refine X_aload_n (i := 0) hB dX12_ahead_33 rfl rfl ?_
      refine X_iload_n (i := 1) hB dX12_ahead_34 rfl rfl ?_
      refine X_callV hB kX12_413 cw10 hR.1.1 hR.1.2 (c_goesOn hR hFc (reSe σ (cpT (S.1 (h + 1)) 0 4)) b hwc k (by omega) (by omega) (by omega) hNc) (by decide) (by decide) rfl rfl (Nat.le_of_ble_eq_true rfl) dX12_ahead_35 (fun r35 S35 q35 => ?_)
      obtain ⟨rfl, f35, n35⟩ := q35
      have hI := hwc.tks k (by omega) (by omega)
      refine X_aload_n (i := 0) hB dX12_ahead_38 rfl rfl ?_
      refine X_aload_n (i := 0) hB dX12_ahead_39 rfl rfl ?_
      refine X_iload_n (i := 2) hB dX12_ahead_40 rfl rfl ?_
      refine X_callV hB kX12_416 cw10 hR.1.1 hR.1.2 (c_asAhead hR (f35.ref hFc) (tkN_ k (reSe σ (cpT (S.1 (h + 1)) 0 4))) n35 hI.1.sz (fun d hd => (hI.1.da hd).1.2.2.2.1) y (by omega)) (by decide) (by decide) rfl rfl (Nat.le_of_ble_eq_true rfl) dX12_ahead_41 (fun r41 S41 q41 => ?_)
      obtain ⟨rfl, rfl⟩ := q41
      refine X_callV hB kX12_419 cw10 hR.1.1 hR.1.2 (c_back hR (f35.ref hFc) _) (by decide) (by decide) rfl rfl (Nat.le_of_ble_eq_true rfl) dX12_ahead_44 (fun r44 S44 q44 => ?_)
      obtain ⟨rfl, rfl⟩ := q44
      refine X_iret hB rfl dX12_ahead_47 ?_
      refine ⟨by simp only [aAhead, e12, e22], ?_, ?_⟩
      · exact ((fz.mono (by simp) (by simp)).tr (fc.mono (by simp) (by simp))).tr ((f35.mono (by simp) (by simp)).tr (fr.row (by simp) (by omega)))
      · rw [rowI_at]; exact back_eq hNr n35 (hI.2.1)
    · first
        | (have e12 := if0 c12
           refine X_iconst (v := (-1)) hB dX12_ahead_25 (by decide) ?_
           refine X_iret hB rfl dX12_ahead_26 ?_
           refine ⟨?_, (⟨fz.mono (by simp) (by simp), fun i _ => by rw [fz.2.1 (h + 1) (by simp) (by omega)]⟩ : fr h [h + 1, h + 7, h + 8, h + 9, h + 10, h + 11, h + 12] [0, 20, 22] S S0 ∧ ∀ i, i < 9828 → S0.1 (h + 1) i = S.1 (h + 1) i)⟩
           simp only [aAhead, two_re, e12])
        | (have e22 := if0 c22
           refine X_iconst (v := (-1)) hB dX12_ahead_25 (by decide) ?_
           refine X_iret hB rfl dX12_ahead_26 ?_
           refine ⟨?_, (⟨fz.mono (by simp) (by simp), fun i _ => by rw [fz.2.1 (h + 1) (by simp) (by omega)]⟩ : fr h [h + 1, h + 7, h + 8, h + 9, h + 10, h + 11, h + 12] [0, 20, 22] S S0 ∧ ∀ i, i < 9828 → S0.1 (h + 1) i = S.1 (h + 1) i)⟩
           simp only [aAhead, two_re, e12, e22])
set_option maxRecDepth 100000 in
set_option maxHeartbeats 4000000 in
theorem c_turned (hR : RLay G h) (hF : RRef S h) (σ : Net) (b : Nat) (hw : wfN σ b) (hN : netR (S.1 (h + 1)) σ) (hnow : nNow σ ≤ 900) (hb : b + 3000 < 100000) (v w p q : Int32) : C G mX12_turned 12 [.ref h, .int v, .int w, .int p, .int q] S (fun r S' => r = some (.int (aTurned (reSe σ (cpT (S.1 (h + 1)) 0 4)) v w p q)) ∧ fr h [h + 1, h + 7, h + 8, h + 9, h + 10, h + 11, h + 12] [0, 20, 22] S S' ∧ ∀ i, i < 9828 → S'.1 (h + 1) i = S.1 (h + 1) i) := by
  have hs := hw.sz
  have hc8 := hw.1.1.2
  have ha40 := hs.1
  have hd40 := hs.2.1
  refine C.mk (lv := [some (.ref h), some (.int v), some (.int w), some (.int p), some (.int q)]) (by decide) (Nat.le_of_ble_eq_true rfl) rfl (fun E hB => ?_)
  refine X_aload_n (i := 0) hB dX12_turned_0 rfl rfl ?_
  refine X_iconst (v := 0) hB dX12_turned_1 (by decide) ?_
  refine X_puti hB cw10 fX12_51 rfl rfl hR.1.1 hR.1.2 dX12_turned_2 ?_
  generalize hS0 : setI S h 0 0 = S0
  have fz : fr h [] [0] S S0 := hS0 ▸ fr.fld (by simp)
  have hF := fz.ref hF
  have hN : netR (S0.1 (h + 1)) σ := by rw [fz.2.1 (h + 1) (by simp) (by omega)]; exact hN
  clear hS0
  refine X_aload_n (i := 0) hB dX12_turned_5 rfl rfl ?_
  refine X_iload_n (i := 1) hB dX12_turned_6 rfl rfl ?_
  refine X_iload_n (i := 2) hB dX12_turned_7 rfl rfl ?_
  refine X_callV hB kX12_373 cw10 hR.1.1 hR.1.2 (c_areTwo hR hF σ hN (by omega) v w) (by decide) (by decide) rfl rfl (Nat.le_of_ble_eq_true rfl) dX12_turned_8 (fun r8 S8 q8 => ?_)
  obtain ⟨rfl, rfl⟩ := q8
  refine X_if_eq (tgt := 35) hB dX12_turned_11 (by decide) (fun c11 => ?_) (fun c11 => ?_)
  · first
      | (have e11 := if0 c11
         refine X_iconst (v := (-1)) hB dX12_turned_35 (by decide) ?_
         refine X_iret hB rfl dX12_turned_36 ?_
         refine ⟨?_, (⟨fz.mono (by simp) (by simp), fun i _ => by rw [fz.2.1 (h + 1) (by simp) (by omega)]⟩ : fr h [h + 1, h + 7, h + 8, h + 9, h + 10, h + 11, h + 12] [0, 20, 22] S S0 ∧ ∀ i, i < 9828 → S0.1 (h + 1) i = S.1 (h + 1) i)⟩
         simp only [aTurned, aAhead, two_re, e11])
      | (have e21 := if0 c21
         refine X_iconst (v := (-1)) hB dX12_turned_35 (by decide) ?_
         refine X_iret hB rfl dX12_turned_36 ?_
         refine ⟨?_, (⟨fz.mono (by simp) (by simp), fun i _ => by rw [fz.2.1 (h + 1) (by simp) (by omega)]⟩ : fr h [h + 1, h + 7, h + 8, h + 9, h + 10, h + 11, h + 12] [0, 20, 22] S S0 ∧ ∀ i, i < 9828 → S0.1 (h + 1) i = S.1 (h + 1) i)⟩
         simp only [aTurned, aAhead, two_re, e11, e21])
      | (have e32 := if0 c32
         refine X_iconst (v := (-1)) hB dX12_turned_35 (by decide) ?_
         refine X_iret hB rfl dX12_turned_36 ?_
         refine ⟨?_, (⟨fz.mono (by simp) (by simp), fun i _ => by rw [fz.2.1 (h + 1) (by simp) (by omega)]⟩ : fr h [h + 1, h + 7, h + 8, h + 9, h + 10, h + 11, h + 12] [0, 20, 22] S S0 ∧ ∀ i, i < 9828 → S0.1 (h + 1) i = S.1 (h + 1) i)⟩
         simp only [aTurned, aAhead, two_re, e11, e21, e32])
  · obtain ⟨⟨x, y⟩, e11⟩ := opt_ex (if0n c11)
    obtain ⟨rfl, rfl, lx, ly, hxy⟩ := two_some e11
    refine X_iload_n (i := 3) hB dX12_turned_14 rfl rfl ?_
    refine X_iconst (v := 0) hB dX12_turned_15 (by decide) ?_
    refine X_bipush (v := 6) hB dX12_turned_16 (by decide) ?_
    refine X_callS hB kX12_55 (c_in _ _ _) (by decide) (by decide) rfl rfl (Nat.le_of_ble_eq_true rfl) dX12_turned_18 (fun r18 S18 q18 => ?_)
    obtain ⟨rfl, rfl⟩ := q18
    refine X_topi (y := if inN p 7 = none then 0 else 1) (in_if (c := 7) (by omega)) ?_
    refine X_if_eq (tgt := 35) hB dX12_turned_21 (by decide) (fun c21 => ?_) (fun c21 => ?_)
    · first
        | (have e11 := if0 c11
           refine X_iconst (v := (-1)) hB dX12_turned_35 (by decide) ?_
           refine X_iret hB rfl dX12_turned_36 ?_
           refine ⟨?_, (⟨fz.mono (by simp) (by simp), fun i _ => by rw [fz.2.1 (h + 1) (by simp) (by omega)]⟩ : fr h [h + 1, h + 7, h + 8, h + 9, h + 10, h + 11, h + 12] [0, 20, 22] S S0 ∧ ∀ i, i < 9828 → S0.1 (h + 1) i = S.1 (h + 1) i)⟩
           simp only [aTurned, aAhead, two_re, e11])
        | (have e21 := if0 c21
           refine X_iconst (v := (-1)) hB dX12_turned_35 (by decide) ?_
           refine X_iret hB rfl dX12_turned_36 ?_
           refine ⟨?_, (⟨fz.mono (by simp) (by simp), fun i _ => by rw [fz.2.1 (h + 1) (by simp) (by omega)]⟩ : fr h [h + 1, h + 7, h + 8, h + 9, h + 10, h + 11, h + 12] [0, 20, 22] S S0 ∧ ∀ i, i < 9828 → S0.1 (h + 1) i = S.1 (h + 1) i)⟩
           simp only [aTurned, aAhead, two_re, e11, e21])
        | (have e32 := if0 c32
           refine X_iconst (v := (-1)) hB dX12_turned_35 (by decide) ?_
           refine X_iret hB rfl dX12_turned_36 ?_
           refine ⟨?_, (⟨fz.mono (by simp) (by simp), fun i _ => by rw [fz.2.1 (h + 1) (by simp) (by omega)]⟩ : fr h [h + 1, h + 7, h + 8, h + 9, h + 10, h + 11, h + 12] [0, 20, 22] S S0 ∧ ∀ i, i < 9828 → S0.1 (h + 1) i = S.1 (h + 1) i)⟩
           simp only [aTurned, aAhead, two_re, e11, e21, e32])
    · obtain ⟨k, e21⟩ := opt_ex (if0n c21)
      obtain ⟨l21, rfl⟩ := inN_some e21
      refine X_iload hB dX12_turned_24 rfl ?_
      refine X_iconst (v := 0) hB dX12_turned_26 (by decide) ?_
      refine X_bipush (v := 12) hB dX12_turned_27 (by decide) ?_
      refine X_callS hB kX12_55 (c_in _ _ _) (by decide) (by decide) rfl rfl (Nat.le_of_ble_eq_true rfl) dX12_turned_29 (fun r29 S29 q29 => ?_)
      obtain ⟨rfl, rfl⟩ := q29
      refine X_topi (y := if inN q 13 = none then 0 else 1) (in_if (c := 13) (by omega)) ?_
      refine X_if_ne (tgt := 37) hB dX12_turned_32 (by decide) (fun c32 => ?_) (fun c32 => ?_)
      · obtain ⟨z, e32⟩ := opt_ex (if0n c32)
        obtain ⟨l32, rfl⟩ := inN_some e32
        refine X_aload_n (i := 0) hB dX12_turned_37 rfl rfl ?_
        refine X_iconst (v := 0) hB dX12_turned_38 (by decide) ?_
        refine X_iconst (v := 4) hB dX12_turned_39 (by decide) ?_
        refine X_callV hB kX12_410 cw10 hR.1.1 hR.1.2 (c_copies hR hF 0 4 rfl rfl (by decide) (by decide) (by decide)) (by decide) (by decide) rfl rfl (Nat.le_of_ble_eq_true rfl) dX12_turned_40 (fun r40 S40 q40 => ?_)
        obtain ⟨rfl, rfl⟩ := q40
        generalize hSc : rowI S0 (h + 1) (cpT (S0.1 (h + 1)) 0 4) = Sc
        have eA : S0.1 (h + 1) = S.1 (h + 1) := fz.2.1 (h + 1) (by simp) (by omega)
        have fc : fr h [h + 1, h + 7, h + 8, h + 9, h + 10, h + 11, h + 12] [20, 22] S0 Sc := hSc ▸ fr.row (by simp) (by omega)
        have hFc := fc.ref hF
        have hNc : netR (Sc.1 (h + 1)) (reSe σ (cpT (S.1 (h + 1)) 0 4)) := by rw [← hSc, rowI_at, eA]; exact netR_re (by rw [← eA]; exact hN) hs (fun i hi => cpT_lo (by omega))
        have hNr : netR (cpT (S.1 (h + 1)) 0 4) (reSe σ (cpT (S.1 (h + 1)) 0 4)) := by rw [← hSc, rowI_at, eA] at hNc; exact hNc
        have hwc : wfN (reSe σ (cpT (S.1 (h + 1)) 0 4)) b := wfN_re hw
        have hnc : nNow (reSe σ (cpT (S.1 (h + 1)) 0 4)) ≤ 900 := hnow
        clear hSc
        refine X_aload_n (i := 0) hB dX12_turned_43 rfl rfl ?_
        refine X_iload_n (i := 1) hB dX12_turned_44 rfl rfl ?_
        refine X_iload_n (i := 2) hB dX12_turned_45 rfl rfl ?_
        refine X_aload_n (i := 0) hB dX12_turned_46 rfl rfl ?_
        refine X_iload_n (i := 1) hB dX12_turned_47 rfl rfl ?_
        refine X_iload_n (i := 2) hB dX12_turned_48 rfl rfl ?_
        refine X_callV hB kX12_277 cw10 hR.1.1 hR.1.2 (c_isUp (u := nUp σ x y) hR hFc (by omega) (by omega) (hNc.1.2.2.2.2.2 x y (by omega) (by omega))) (by decide) (by decide) rfl rfl (Nat.le_of_ble_eq_true rfl) dX12_turned_49 (fun r49 S49 q49 => ?_)
        obtain ⟨rfl, rfl⟩ := q49
        refine X_if_eq (tgt := 59) hB dX12_turned_52 (by decide) (fun c52 => ?_) (fun c52 => ?_)
        · refine X_iconst (v := 1) hB dX12_turned_59 (by decide) ?_
          refine X_topi (y := if (!nUp σ x y) = true then 1 else 0) (by first | (rw [if1 c52]; rfl) | (rw [show nUp σ x y = false by simpa using if1n c52]; rfl)) ?_
          refine X_callV hB kX12_379 cw10 hR.1.1 hR.1.2 (c_layUp hR hFc (by omega) (by omega) _) (by decide) (by decide) rfl rfl (Nat.le_of_ble_eq_true rfl) dX12_turned_60 (fun r60 S60 q60 => ?_)
          obtain ⟨rfl, rfl⟩ := q60
          rw [setI_rowI, setI_rowI, rowI_rowI, rowI_at]
          generalize hSu : rowI Sc (h + 1) _ = Su
          have fu : fr h [h + 1, h + 7, h + 8, h + 9, h + 10, h + 11, h + 12] [20, 22] Sc Su := hSu ▸ fr.row (by simp) (by omega)
          have hFu := fu.ref hFc
          have hwu : wfN (uUp (reSe σ (cpT (S.1 (h + 1)) 0 4)) x y (!nUp σ x y)) b := hwc.uup (by rw [reSe_lt (by decide)]; exact lx) (by rw [reSe_lt (by decide)]; exact ly) hxy
          have hNu : netR (Su.1 (h + 1)) (uUp (reSe σ (cpT (S.1 (h + 1)) 0 4)) x y (!nUp σ x y)) := by
            rw [← hSu, rowI_at]
            have q := netR_up (x := x) (y := y) (v := !nUp σ x y) hNc hwc.sz (by omega) (by omega)
            exact q
          clear hSu
          refine X_aload_n (i := 0) hB dX12_turned_63 rfl rfl ?_
          refine X_iload_n (i := 3) hB dX12_turned_64 rfl rfl ?_
          refine X_callV hB kX12_413 cw10 hR.1.1 hR.1.2 (c_goesOn hR hFu (uUp (reSe σ (cpT (S.1 (h + 1)) 0 4)) x y (!nUp σ x y)) b hwu k (by omega) (show nNow σ + k ≤ 1000 by omega) (by omega) hNu) (by decide) (by decide) rfl rfl (Nat.le_of_ble_eq_true rfl) dX12_turned_65 (fun r65 S65 q65 => ?_)
          obtain ⟨rfl, f65, n65⟩ := q65
          have hI := hwu.tks k (show nNow σ + k ≤ 1000 by omega) (by omega)
          refine X_aload_n (i := 0) hB dX12_turned_68 rfl rfl ?_
          refine X_aload_n (i := 0) hB dX12_turned_69 rfl rfl ?_
          refine X_iload hB dX12_turned_70 rfl ?_
          refine X_callV hB kX12_416 cw10 hR.1.1 hR.1.2 (c_asAhead hR (f65.ref hFu) (tkN_ k (uUp (reSe σ (cpT (S.1 (h + 1)) 0 4)) x y (!nUp σ x y))) n65 hI.1.sz (fun d hd => (hI.1.da hd).1.2.2.2.1) z (by omega)) (by decide) (by decide) rfl rfl (Nat.le_of_ble_eq_true rfl) dX12_turned_72 (fun r72 S72 q72 => ?_)
          obtain ⟨rfl, rfl⟩ := q72
          refine X_callV hB kX12_419 cw10 hR.1.1 hR.1.2 (c_back hR (f65.ref hFu) _) (by decide) (by decide) rfl rfl (Nat.le_of_ble_eq_true rfl) dX12_turned_75 (fun r75 S75 q75 => ?_)
          obtain ⟨rfl, rfl⟩ := q75
          refine X_iret hB rfl dX12_turned_78 ?_
          refine ⟨by simp only [aTurned, two_re, e11, aAhead, e21, e32]; rfl, ?_, ?_⟩
          · exact ((fz.mono (by simp) (by simp)).tr (fc.mono (by simp) (by simp))).tr (((fu.tr f65).mono (by simp) (by simp)).tr (fr.row (by simp) (by omega)))
          · rw [rowI_at]; exact back_eq hNr n65 (hI.2.1)
        · refine X_iconst (v := 0) hB dX12_turned_55 (by decide) ?_
          refine X_goto (tgt := 60) hB dX12_turned_56 (by decide) ?_
          refine X_topi (y := if (!nUp σ x y) = true then 1 else 0) (by first | (rw [if1 c52]; rfl) | (rw [show nUp σ x y = false by simpa using if1n c52]; rfl)) ?_
          refine X_callV hB kX12_379 cw10 hR.1.1 hR.1.2 (c_layUp hR hFc (by omega) (by omega) _) (by decide) (by decide) rfl rfl (Nat.le_of_ble_eq_true rfl) dX12_turned_60 (fun r60 S60 q60 => ?_)
          obtain ⟨rfl, rfl⟩ := q60
          rw [setI_rowI, setI_rowI, rowI_rowI, rowI_at]
          generalize hSu : rowI Sc (h + 1) _ = Su
          have fu : fr h [h + 1, h + 7, h + 8, h + 9, h + 10, h + 11, h + 12] [20, 22] Sc Su := hSu ▸ fr.row (by simp) (by omega)
          have hFu := fu.ref hFc
          have hwu : wfN (uUp (reSe σ (cpT (S.1 (h + 1)) 0 4)) x y (!nUp σ x y)) b := hwc.uup (by rw [reSe_lt (by decide)]; exact lx) (by rw [reSe_lt (by decide)]; exact ly) hxy
          have hNu : netR (Su.1 (h + 1)) (uUp (reSe σ (cpT (S.1 (h + 1)) 0 4)) x y (!nUp σ x y)) := by
            rw [← hSu, rowI_at]
            have q := netR_up (x := x) (y := y) (v := !nUp σ x y) hNc hwc.sz (by omega) (by omega)
            exact q
          clear hSu
          refine X_aload_n (i := 0) hB dX12_turned_63 rfl rfl ?_
          refine X_iload_n (i := 3) hB dX12_turned_64 rfl rfl ?_
          refine X_callV hB kX12_413 cw10 hR.1.1 hR.1.2 (c_goesOn hR hFu (uUp (reSe σ (cpT (S.1 (h + 1)) 0 4)) x y (!nUp σ x y)) b hwu k (by omega) (show nNow σ + k ≤ 1000 by omega) (by omega) hNu) (by decide) (by decide) rfl rfl (Nat.le_of_ble_eq_true rfl) dX12_turned_65 (fun r65 S65 q65 => ?_)
          obtain ⟨rfl, f65, n65⟩ := q65
          have hI := hwu.tks k (show nNow σ + k ≤ 1000 by omega) (by omega)
          refine X_aload_n (i := 0) hB dX12_turned_68 rfl rfl ?_
          refine X_aload_n (i := 0) hB dX12_turned_69 rfl rfl ?_
          refine X_iload hB dX12_turned_70 rfl ?_
          refine X_callV hB kX12_416 cw10 hR.1.1 hR.1.2 (c_asAhead hR (f65.ref hFu) (tkN_ k (uUp (reSe σ (cpT (S.1 (h + 1)) 0 4)) x y (!nUp σ x y))) n65 hI.1.sz (fun d hd => (hI.1.da hd).1.2.2.2.1) z (by omega)) (by decide) (by decide) rfl rfl (Nat.le_of_ble_eq_true rfl) dX12_turned_72 (fun r72 S72 q72 => ?_)
          obtain ⟨rfl, rfl⟩ := q72
          refine X_callV hB kX12_419 cw10 hR.1.1 hR.1.2 (c_back hR (f65.ref hFu) _) (by decide) (by decide) rfl rfl (Nat.le_of_ble_eq_true rfl) dX12_turned_75 (fun r75 S75 q75 => ?_)
          obtain ⟨rfl, rfl⟩ := q75
          refine X_iret hB rfl dX12_turned_78 ?_
          refine ⟨by simp only [aTurned, two_re, e11, aAhead, e21, e32]; rfl, ?_, ?_⟩
          · exact ((fz.mono (by simp) (by simp)).tr (fc.mono (by simp) (by simp))).tr (((fu.tr f65).mono (by simp) (by simp)).tr (fr.row (by simp) (by omega)))
          · rw [rowI_at]; exact back_eq hNr n65 (hI.2.1)
      · first
          | (have e11 := if0 c11
             refine X_iconst (v := (-1)) hB dX12_turned_35 (by decide) ?_
             refine X_iret hB rfl dX12_turned_36 ?_
             refine ⟨?_, (⟨fz.mono (by simp) (by simp), fun i _ => by rw [fz.2.1 (h + 1) (by simp) (by omega)]⟩ : fr h [h + 1, h + 7, h + 8, h + 9, h + 10, h + 11, h + 12] [0, 20, 22] S S0 ∧ ∀ i, i < 9828 → S0.1 (h + 1) i = S.1 (h + 1) i)⟩
             simp only [aTurned, aAhead, two_re, e11])
          | (have e21 := if0 c21
             refine X_iconst (v := (-1)) hB dX12_turned_35 (by decide) ?_
             refine X_iret hB rfl dX12_turned_36 ?_
             refine ⟨?_, (⟨fz.mono (by simp) (by simp), fun i _ => by rw [fz.2.1 (h + 1) (by simp) (by omega)]⟩ : fr h [h + 1, h + 7, h + 8, h + 9, h + 10, h + 11, h + 12] [0, 20, 22] S S0 ∧ ∀ i, i < 9828 → S0.1 (h + 1) i = S.1 (h + 1) i)⟩
             simp only [aTurned, aAhead, two_re, e11, e21])
          | (have e32 := if0 c32
             refine X_iconst (v := (-1)) hB dX12_turned_35 (by decide) ?_
             refine X_iret hB rfl dX12_turned_36 ?_
             refine ⟨?_, (⟨fz.mono (by simp) (by simp), fun i _ => by rw [fz.2.1 (h + 1) (by simp) (by omega)]⟩ : fr h [h + 1, h + 7, h + 8, h + 9, h + 10, h + 11, h + 12] [0, 20, 22] S S0 ∧ ∀ i, i < 9828 → S0.1 (h + 1) i = S.1 (h + 1) i)⟩
             simp only [aTurned, aAhead, two_re, e11, e21, e32])
set_option maxRecDepth 100000 in
set_option maxHeartbeats 4000000 in
theorem c_sent (hR : RLay G h) (hF : RRef S h) (σ : Net) (b : Nat) (hw : wfN σ b) (hN : netR (S.1 (h + 1)) σ) (hnow : nNow σ ≤ 900) (hb : b + 3000 < 100000) (v w p q : Int32) : C G mX12_sent 12 [.ref h, .int v, .int w, .int p, .int q] S (fun r S' => r = some (.int (aSent (reSe σ (cpT (S.1 (h + 1)) 0 4)) v w p q)) ∧ fr h [h + 1, h + 7, h + 8, h + 9, h + 10, h + 11, h + 12] [0, 20, 22] S S' ∧ ∀ i, i < 9828 → S'.1 (h + 1) i = S.1 (h + 1) i) := by
  have hs := hw.sz
  have hc8 := hw.1.1.2
  have ha40 := hs.1
  have hd40 := hs.2.1
  refine C.mk (lv := [some (.ref h), some (.int v), some (.int w), some (.int p), some (.int q), none]) (by decide) (Nat.le_of_ble_eq_true rfl) rfl (fun E hB => ?_)
  refine X_aload_n (i := 0) hB dX12_sent_0 rfl rfl ?_
  refine X_iconst (v := 0) hB dX12_sent_1 (by decide) ?_
  refine X_puti hB cw10 fX12_51 rfl rfl hR.1.1 hR.1.2 dX12_sent_2 ?_
  generalize hS0 : setI S h 0 0 = S0
  have fz : fr h [] [0] S S0 := hS0 ▸ fr.fld (by simp)
  have hF := fz.ref hF
  have hN : netR (S0.1 (h + 1)) σ := by rw [fz.2.1 (h + 1) (by simp) (by omega)]; exact hN
  clear hS0
  refine X_aload_n (i := 0) hB dX12_sent_5 rfl rfl ?_
  refine X_iload_n (i := 1) hB dX12_sent_6 rfl rfl ?_
  refine X_iload_n (i := 2) hB dX12_sent_7 rfl rfl ?_
  refine X_callV hB kX12_373 cw10 hR.1.1 hR.1.2 (c_areTwo hR hF σ hN (by omega) v w) (by decide) (by decide) rfl rfl (Nat.le_of_ble_eq_true rfl) dX12_sent_8 (fun r8 S8 q8 => ?_)
  obtain ⟨rfl, rfl⟩ := q8
  refine X_if_eq (tgt := 47) hB dX12_sent_11 (by decide) (fun c11 => ?_) (fun c11 => ?_)
  · first
      | (have e11 := if0 c11
         refine X_bipush (v := (-2)) hB dX12_sent_47 (by decide) ?_
         refine X_iret hB rfl dX12_sent_49 ?_
         refine ⟨?_, (⟨fz.mono (by simp) (by simp), fun i _ => by rw [fz.2.1 (h + 1) (by simp) (by omega)]⟩ : fr h [h + 1, h + 7, h + 8, h + 9, h + 10, h + 11, h + 12] [0, 20, 22] S S0 ∧ ∀ i, i < 9828 → S0.1 (h + 1) i = S.1 (h + 1) i)⟩
         simp only [aSent, aDat, two_re, e11])
      | (have e23 : ¬ (nDa σ).length < 40 := by
           rw [show (40 : Int32) = nI 40 from rfl, nI_eq (by omega) (by omega)] at c23
           omega
         refine X_bipush (v := (-2)) hB dX12_sent_47 (by decide) ?_
         refine X_iret hB rfl dX12_sent_49 ?_
         refine ⟨?_, (⟨fz.mono (by simp) (by simp), fun i _ => by rw [fz.2.1 (h + 1) (by simp) (by omega)]⟩ : fr h [h + 1, h + 7, h + 8, h + 9, h + 10, h + 11, h + 12] [0, 20, 22] S S0 ∧ ∀ i, i < 9828 → S0.1 (h + 1) i = S.1 (h + 1) i)⟩
         simp only [aSent, aDat, two_re, e11, show nDa (reSe σ (cpT (S.1 (h + 1)) 0 4)) = nDa σ from rfl, if_neg e23])
      | (have e33 := if0 c33
         refine X_bipush (v := (-2)) hB dX12_sent_47 (by decide) ?_
         refine X_iret hB rfl dX12_sent_49 ?_
         refine ⟨?_, (⟨fz.mono (by simp) (by simp), fun i _ => by rw [fz.2.1 (h + 1) (by simp) (by omega)]⟩ : fr h [h + 1, h + 7, h + 8, h + 9, h + 10, h + 11, h + 12] [0, 20, 22] S S0 ∧ ∀ i, i < 9828 → S0.1 (h + 1) i = S.1 (h + 1) i)⟩
         simp only [aSent, aDat, two_re, e11, e33, show nDa (reSe σ (cpT (S.1 (h + 1)) 0 4)) = nDa σ from rfl, if_pos e23'])
      | (have e44 := if0 c44
         refine X_bipush (v := (-2)) hB dX12_sent_47 (by decide) ?_
         refine X_iret hB rfl dX12_sent_49 ?_
         refine ⟨?_, (⟨fz.mono (by simp) (by simp), fun i _ => by rw [fz.2.1 (h + 1) (by simp) (by omega)]⟩ : fr h [h + 1, h + 7, h + 8, h + 9, h + 10, h + 11, h + 12] [0, 20, 22] S S0 ∧ ∀ i, i < 9828 → S0.1 (h + 1) i = S.1 (h + 1) i)⟩
         simp only [aSent, aDat, two_re, e11, e33, e44, show nDa (reSe σ (cpT (S.1 (h + 1)) 0 4)) = nDa σ from rfl, if_pos e23'])
  · obtain ⟨⟨x, y⟩, e11⟩ := opt_ex (if0n c11)
    obtain ⟨rfl, rfl, lx, ly, hxy⟩ := two_some e11
    refine X_aload_n (i := 0) hB dX12_sent_14 rfl rfl ?_
    refine X_getr hB cw10 fX12_7 rfl hR.1.1 hR.1.2 hF.1 dX12_sent_15 ?_
    refine X_bipush (v := 9) hB dX12_sent_18 (by decide) ?_
    refine X_ialdN hB (9) hR.2.1.1 hR.2.1.2 (by decide) (by first | rfl | (simp (disch := omega) only [nlit, nI_add, nI_mul, nI_sub]; done) | (simp (disch := omega) only [nlit, nI_add, nI_mul, nI_sub]; (congr 1 <;> omega))) (by first | omega | (simp only []; omega)) hN.1.2.2.1 dX12_sent_20 ?_
    refine X_bipush (v := 40) hB dX12_sent_21 (by decide) ?_
    refine X_icmp_eq (tgt := 47) hB dX12_sent_23 (by decide) (fun c23 => ?_) (fun c23 => ?_)
    · first
        | (have e11 := if0 c11
           refine X_bipush (v := (-2)) hB dX12_sent_47 (by decide) ?_
           refine X_iret hB rfl dX12_sent_49 ?_
           refine ⟨?_, (⟨fz.mono (by simp) (by simp), fun i _ => by rw [fz.2.1 (h + 1) (by simp) (by omega)]⟩ : fr h [h + 1, h + 7, h + 8, h + 9, h + 10, h + 11, h + 12] [0, 20, 22] S S0 ∧ ∀ i, i < 9828 → S0.1 (h + 1) i = S.1 (h + 1) i)⟩
           simp only [aSent, aDat, two_re, e11])
        | (have e23 : ¬ (nDa σ).length < 40 := by
             rw [show (40 : Int32) = nI 40 from rfl, nI_eq (by omega) (by omega)] at c23
             omega
           refine X_bipush (v := (-2)) hB dX12_sent_47 (by decide) ?_
           refine X_iret hB rfl dX12_sent_49 ?_
           refine ⟨?_, (⟨fz.mono (by simp) (by simp), fun i _ => by rw [fz.2.1 (h + 1) (by simp) (by omega)]⟩ : fr h [h + 1, h + 7, h + 8, h + 9, h + 10, h + 11, h + 12] [0, 20, 22] S S0 ∧ ∀ i, i < 9828 → S0.1 (h + 1) i = S.1 (h + 1) i)⟩
           simp only [aSent, aDat, two_re, e11, show nDa (reSe σ (cpT (S.1 (h + 1)) 0 4)) = nDa σ from rfl, if_neg e23])
        | (have e33 := if0 c33
           refine X_bipush (v := (-2)) hB dX12_sent_47 (by decide) ?_
           refine X_iret hB rfl dX12_sent_49 ?_
           refine ⟨?_, (⟨fz.mono (by simp) (by simp), fun i _ => by rw [fz.2.1 (h + 1) (by simp) (by omega)]⟩ : fr h [h + 1, h + 7, h + 8, h + 9, h + 10, h + 11, h + 12] [0, 20, 22] S S0 ∧ ∀ i, i < 9828 → S0.1 (h + 1) i = S.1 (h + 1) i)⟩
           simp only [aSent, aDat, two_re, e11, e33, show nDa (reSe σ (cpT (S.1 (h + 1)) 0 4)) = nDa σ from rfl, if_pos e23'])
        | (have e44 := if0 c44
           refine X_bipush (v := (-2)) hB dX12_sent_47 (by decide) ?_
           refine X_iret hB rfl dX12_sent_49 ?_
           refine ⟨?_, (⟨fz.mono (by simp) (by simp), fun i _ => by rw [fz.2.1 (h + 1) (by simp) (by omega)]⟩ : fr h [h + 1, h + 7, h + 8, h + 9, h + 10, h + 11, h + 12] [0, 20, 22] S S0 ∧ ∀ i, i < 9828 → S0.1 (h + 1) i = S.1 (h + 1) i)⟩
           simp only [aSent, aDat, two_re, e11, e33, e44, show nDa (reSe σ (cpT (S.1 (h + 1)) 0 4)) = nDa σ from rfl, if_pos e23'])
    · have e23 : (nDa σ).length ≠ 40 := fun q => c23 (by rw [q]; rfl)
      have e23' : (nDa σ).length < 40 := by omega
      refine X_iload_n (i := 3) hB dX12_sent_26 rfl rfl ?_
      refine X_iconst (v := 0) hB dX12_sent_27 (by decide) ?_
      refine X_bipush (v := 6) hB dX12_sent_28 (by decide) ?_
      refine X_callS hB kX12_55 (c_in _ _ _) (by decide) (by decide) rfl rfl (Nat.le_of_ble_eq_true rfl) dX12_sent_30 (fun r30 S30 q30 => ?_)
      obtain ⟨rfl, rfl⟩ := q30
      refine X_topi (y := if inN p 7 = none then 0 else 1) (in_if (c := 7) (by omega)) ?_
      refine X_if_eq (tgt := 47) hB dX12_sent_33 (by decide) (fun c33 => ?_) (fun c33 => ?_)
      · first
          | (have e11 := if0 c11
             refine X_bipush (v := (-2)) hB dX12_sent_47 (by decide) ?_
             refine X_iret hB rfl dX12_sent_49 ?_
             refine ⟨?_, (⟨fz.mono (by simp) (by simp), fun i _ => by rw [fz.2.1 (h + 1) (by simp) (by omega)]⟩ : fr h [h + 1, h + 7, h + 8, h + 9, h + 10, h + 11, h + 12] [0, 20, 22] S S0 ∧ ∀ i, i < 9828 → S0.1 (h + 1) i = S.1 (h + 1) i)⟩
             simp only [aSent, aDat, two_re, e11])
          | (have e23 : ¬ (nDa σ).length < 40 := by
               rw [show (40 : Int32) = nI 40 from rfl, nI_eq (by omega) (by omega)] at c23
               omega
             refine X_bipush (v := (-2)) hB dX12_sent_47 (by decide) ?_
             refine X_iret hB rfl dX12_sent_49 ?_
             refine ⟨?_, (⟨fz.mono (by simp) (by simp), fun i _ => by rw [fz.2.1 (h + 1) (by simp) (by omega)]⟩ : fr h [h + 1, h + 7, h + 8, h + 9, h + 10, h + 11, h + 12] [0, 20, 22] S S0 ∧ ∀ i, i < 9828 → S0.1 (h + 1) i = S.1 (h + 1) i)⟩
             simp only [aSent, aDat, two_re, e11, show nDa (reSe σ (cpT (S.1 (h + 1)) 0 4)) = nDa σ from rfl, if_neg e23])
          | (have e33 := if0 c33
             refine X_bipush (v := (-2)) hB dX12_sent_47 (by decide) ?_
             refine X_iret hB rfl dX12_sent_49 ?_
             refine ⟨?_, (⟨fz.mono (by simp) (by simp), fun i _ => by rw [fz.2.1 (h + 1) (by simp) (by omega)]⟩ : fr h [h + 1, h + 7, h + 8, h + 9, h + 10, h + 11, h + 12] [0, 20, 22] S S0 ∧ ∀ i, i < 9828 → S0.1 (h + 1) i = S.1 (h + 1) i)⟩
             simp only [aSent, aDat, two_re, e11, e33, show nDa (reSe σ (cpT (S.1 (h + 1)) 0 4)) = nDa σ from rfl, if_pos e23'])
          | (have e44 := if0 c44
             refine X_bipush (v := (-2)) hB dX12_sent_47 (by decide) ?_
             refine X_iret hB rfl dX12_sent_49 ?_
             refine ⟨?_, (⟨fz.mono (by simp) (by simp), fun i _ => by rw [fz.2.1 (h + 1) (by simp) (by omega)]⟩ : fr h [h + 1, h + 7, h + 8, h + 9, h + 10, h + 11, h + 12] [0, 20, 22] S S0 ∧ ∀ i, i < 9828 → S0.1 (h + 1) i = S.1 (h + 1) i)⟩
             simp only [aSent, aDat, two_re, e11, e33, e44, show nDa (reSe σ (cpT (S.1 (h + 1)) 0 4)) = nDa σ from rfl, if_pos e23'])
      · obtain ⟨k, e33⟩ := opt_ex (if0n c33)
        obtain ⟨l33, rfl⟩ := inN_some e33
        refine X_iload hB dX12_sent_36 rfl ?_
        refine X_iconst (v := 0) hB dX12_sent_38 (by decide) ?_
        refine X_bipush (v := 8) hB dX12_sent_39 (by decide) ?_
        refine X_callS hB kX12_55 (c_in _ _ _) (by decide) (by decide) rfl rfl (Nat.le_of_ble_eq_true rfl) dX12_sent_41 (fun r41 S41 q41 => ?_)
        obtain ⟨rfl, rfl⟩ := q41
        refine X_topi (y := if inN q 9 = none then 0 else 1) (in_if (c := 9) (by omega)) ?_
        refine X_if_ne (tgt := 50) hB dX12_sent_44 (by decide) (fun c44 => ?_) (fun c44 => ?_)
        · obtain ⟨z, e44⟩ := opt_ex (if0n c44)
          obtain ⟨l44, rfl⟩ := inN_some e44
          refine X_aload_n (i := 0) hB dX12_sent_50 rfl rfl ?_
          refine X_iconst (v := 0) hB dX12_sent_51 (by decide) ?_
          refine X_iconst (v := 4) hB dX12_sent_52 (by decide) ?_
          refine X_callV hB kX12_410 cw10 hR.1.1 hR.1.2 (c_copies hR hF 0 4 rfl rfl (by decide) (by decide) (by decide)) (by decide) (by decide) rfl rfl (Nat.le_of_ble_eq_true rfl) dX12_sent_53 (fun r53 S53 q53 => ?_)
          obtain ⟨rfl, rfl⟩ := q53
          generalize hSc : rowI S0 (h + 1) (cpT (S0.1 (h + 1)) 0 4) = Sc
          have eA : S0.1 (h + 1) = S.1 (h + 1) := fz.2.1 (h + 1) (by simp) (by omega)
          have fc : fr h [h + 1, h + 7, h + 8, h + 9, h + 10, h + 11, h + 12] [20, 22] S0 Sc := hSc ▸ fr.row (by simp) (by omega)
          have hFc := fc.ref hF
          have hNc : netR (Sc.1 (h + 1)) (reSe σ (cpT (S.1 (h + 1)) 0 4)) := by rw [← hSc, rowI_at, eA]; exact netR_re (by rw [← eA]; exact hN) hs (fun i hi => cpT_lo (by omega))
          have hNr : netR (cpT (S.1 (h + 1)) 0 4) (reSe σ (cpT (S.1 (h + 1)) 0 4)) := by rw [← hSc, rowI_at, eA] at hNc; exact hNc
          have hwc : wfN (reSe σ (cpT (S.1 (h + 1)) 0 4)) b := wfN_re hw
          have hnc : nNow (reSe σ (cpT (S.1 (h + 1)) 0 4)) ≤ 900 := hnow
          clear hSc
          refine X_aload_n (i := 0) hB dX12_sent_56 rfl rfl ?_
          refine X_iload_n (i := 1) hB dX12_sent_57 rfl rfl ?_
          refine X_iload_n (i := 2) hB dX12_sent_58 rfl rfl ?_
          refine X_callV hB kX12_376 cw10 hR.1.1 hR.1.2 (c_comes hR hFc (reSe σ (cpT (S.1 (h + 1)) 0 4)) b hwc hNc x y (by omega) (by omega) (show (nDa σ).length < 40 by omega)) (by decide) (by decide) rfl rfl (Nat.le_of_ble_eq_true rfl) dX12_sent_59 (fun r59 S59 q59 => ?_)
          obtain ⟨rfl, f59, n59⟩ := q59
          have hwu : wfN (comeN (reSe σ (cpT (S.1 (h + 1)) 0 4)) x y) (b + 1) := hwc.come (by omega) (by omega) hxy (show (nDa σ).length < 40 by omega) (by omega)
          have hgu : geN (pushD (reSe σ (cpT (S.1 (h + 1)) 0 4)) (newD x y (nNow (reSe σ (cpT (S.1 (h + 1)) 0 4))))) (comeN (reSe σ (cpT (S.1 (h + 1)) 0 4)) x y) := geN.sv
          have hnu : nNow (comeN (reSe σ (cpT (S.1 (h + 1)) 0 4)) x y) = nNow σ := hgu.2.1
          have hsu : nSe (comeN (reSe σ (cpT (S.1 (h + 1)) 0 4)) x y) = nSe (reSe σ (cpT (S.1 (h + 1)) 0 4)) := hgu.1
          have hlu : (nDa σ).length < (nDa (comeN (reSe σ (cpT (S.1 (h + 1)) 0 4)) x y)).length := by rw [hgu.2.2.2.1, len_push]; show (nDa σ).length < (nDa σ).length + 1; omega
          refine X_istore hB dX12_sent_62 (by decide) rfl ?_
          refine X_aload_n (i := 0) hB dX12_sent_64 rfl rfl ?_
          refine X_iload_n (i := 3) hB dX12_sent_65 rfl rfl ?_
          refine X_callV hB kX12_413 cw10 hR.1.1 hR.1.2 (c_goesOn hR (f59.ref hFc) (comeN (reSe σ (cpT (S.1 (h + 1)) 0 4)) x y) (b + 1) hwu k (by omega) (by rw [hnu]; show nNow σ + k ≤ 1000; omega) (by omega) n59) (by decide) (by decide) rfl rfl (Nat.le_of_ble_eq_true rfl) dX12_sent_66 (fun r66 S66 q66 => ?_)
          obtain ⟨rfl, f66, n66⟩ := q66
          have hI := hwu.tks k (by rw [hnu]; omega) (by omega)
          refine X_aload_n (i := 0) hB dX12_sent_69 rfl rfl ?_
          refine X_aload_n (i := 0) hB dX12_sent_70 rfl rfl ?_
          refine X_iload hB dX12_sent_71 rfl ?_
          refine X_iload hB dX12_sent_73 rfl ?_
          refine X_callV hB kX12_395 cw10 hR.1.1 hR.1.2 (c_ofDatum hR (f66.ref (f59.ref hFc)) (tkN_ k (comeN (reSe σ (cpT (S.1 (h + 1)) 0 4)) x y)) n66 hI.1.sz (nDa σ).length (by rw [hI.2.2.2.2]; exact hlu) (nI z)) (by decide) (by decide) rfl rfl (Nat.le_of_ble_eq_true rfl) dX12_sent_75 (fun r75 S75 q75 => ?_)
          obtain ⟨rfl, rfl⟩ := q75
          refine X_callV hB kX12_419 cw10 hR.1.1 hR.1.2 (c_back hR (f66.ref (f59.ref hFc)) _) (by decide) (by decide) rfl rfl (Nat.le_of_ble_eq_true rfl) dX12_sent_78 (fun r78 S78 q78 => ?_)
          obtain ⟨rfl, rfl⟩ := q78
          refine X_iret hB rfl dX12_sent_81 ?_
          refine ⟨by simp only [aSent, two_re, e11, e33, show nDa (reSe σ (cpT (S.1 (h + 1)) 0 4)) = nDa σ from rfl, if_pos e23'], ?_, ?_⟩
          · exact ((fz.mono (by simp) (by simp)).tr (fc.mono (by simp) (by simp))).tr ((((f59.mono (by simp) (by simp)).tr f66).mono (by simp) (by simp)).tr (fr.row (by simp) (by omega)))
          · rw [rowI_at]; exact back_eq hNr n66 (hI.2.1.trans hsu)
        · first
            | (have e11 := if0 c11
               refine X_bipush (v := (-2)) hB dX12_sent_47 (by decide) ?_
               refine X_iret hB rfl dX12_sent_49 ?_
               refine ⟨?_, (⟨fz.mono (by simp) (by simp), fun i _ => by rw [fz.2.1 (h + 1) (by simp) (by omega)]⟩ : fr h [h + 1, h + 7, h + 8, h + 9, h + 10, h + 11, h + 12] [0, 20, 22] S S0 ∧ ∀ i, i < 9828 → S0.1 (h + 1) i = S.1 (h + 1) i)⟩
               simp only [aSent, aDat, two_re, e11])
            | (have e23 : ¬ (nDa σ).length < 40 := by
                 rw [show (40 : Int32) = nI 40 from rfl, nI_eq (by omega) (by omega)] at c23
                 omega
               refine X_bipush (v := (-2)) hB dX12_sent_47 (by decide) ?_
               refine X_iret hB rfl dX12_sent_49 ?_
               refine ⟨?_, (⟨fz.mono (by simp) (by simp), fun i _ => by rw [fz.2.1 (h + 1) (by simp) (by omega)]⟩ : fr h [h + 1, h + 7, h + 8, h + 9, h + 10, h + 11, h + 12] [0, 20, 22] S S0 ∧ ∀ i, i < 9828 → S0.1 (h + 1) i = S.1 (h + 1) i)⟩
               simp only [aSent, aDat, two_re, e11, show nDa (reSe σ (cpT (S.1 (h + 1)) 0 4)) = nDa σ from rfl, if_neg e23])
            | (have e33 := if0 c33
               refine X_bipush (v := (-2)) hB dX12_sent_47 (by decide) ?_
               refine X_iret hB rfl dX12_sent_49 ?_
               refine ⟨?_, (⟨fz.mono (by simp) (by simp), fun i _ => by rw [fz.2.1 (h + 1) (by simp) (by omega)]⟩ : fr h [h + 1, h + 7, h + 8, h + 9, h + 10, h + 11, h + 12] [0, 20, 22] S S0 ∧ ∀ i, i < 9828 → S0.1 (h + 1) i = S.1 (h + 1) i)⟩
               simp only [aSent, aDat, two_re, e11, e33, show nDa (reSe σ (cpT (S.1 (h + 1)) 0 4)) = nDa σ from rfl, if_pos e23'])
            | (have e44 := if0 c44
               refine X_bipush (v := (-2)) hB dX12_sent_47 (by decide) ?_
               refine X_iret hB rfl dX12_sent_49 ?_
               refine ⟨?_, (⟨fz.mono (by simp) (by simp), fun i _ => by rw [fz.2.1 (h + 1) (by simp) (by omega)]⟩ : fr h [h + 1, h + 7, h + 8, h + 9, h + 10, h + 11, h + 12] [0, 20, 22] S S0 ∧ ∀ i, i < 9828 → S0.1 (h + 1) i = S.1 (h + 1) i)⟩
               simp only [aSent, aDat, two_re, e11, e33, e44, show nDa (reSe σ (cpT (S.1 (h + 1)) 0 4)) = nDa σ from rfl, if_pos e23'])
end REF
