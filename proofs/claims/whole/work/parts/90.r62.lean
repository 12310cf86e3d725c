/-! the class: a link is down -/
section CLS
variable {G : Gc} {S : St}
set_option maxRecDepth 100000 in
set_option maxHeartbeats 4000000 in
theorem c_X10_meetDownO (w : Nat) (hW : WLay G w) (σ : Net) (hw : worldR S w σ) (a x y k : Nat) (hx8 : x < 8) (hy8 : y < 8) (hxy : x ≠ y) (hk : k = 2 ∨ k = 3) (hfa : S.2.2 (w + 3) 3 = some a) (hfl : w + 5 ≤ a ∧ a < w + 46) (ha0 : S.1 a 0 = nI k) (ha1 : S.1 a 1 = nI x) (ha2 : S.1 a 2 = nI y) : C G mX10_meetDown 5 [.ref w, .ref a] S (fun r S' => r = none ∧ worldR S' w (forgetN σ x x y) ∧ wch w S S') := by
  have hfk := hW.2.2.2.2.2.1 a hfl.1 hfl.2
  have hPo := hW.po hx8
  have hlk := lkP_ok hx8 hy8 hxy
  refine C.mk (lv := [some (.ref w), some (.ref a), none, none, none, none, none, none, none, none]) (by decide) (Nat.le_of_ble_eq_true rfl) rfl (fun E hB => ?_)
  refine X_aload_n (i := 1) hB dX10_meetDown_0 rfl rfl ?_
  refine X_geti hB cw3 fX10_216 rfl hfk.1 hfk.2 dX10_meetDown_1 ?_
  refine X_topi (y := nI x) (ha1) ?_
  refine X_istore_n (i := 2) hB dX10_meetDown_4 rfl (by decide) rfl ?_
  refine X_iload_n (i := 2) hB dX10_meetDown_5 rfl rfl ?_
  refine X_aload_n (i := 1) hB dX10_meetDown_6 rfl rfl ?_
  refine X_geti hB cw3 fX10_219 rfl hfk.1 hfk.2 dX10_meetDown_7 ?_
  refine X_topi (y := nI y) (ha2) ?_
  refine X_callS hB kX10_294 (c_X4_told hx8 hy8) (by decide) (by decide) rfl rfl (Nat.le_of_ble_eq_true rfl) dX10_meetDown_10 (fun r10 S10 q10 => ?_)
  obtain ⟨rfl, rfl⟩ := q10
  refine X_istore_n (i := 3) hB dX10_meetDown_13 rfl (by decide) rfl ?_
  refine X_aload_n (i := 0) hB dX10_meetDown_14 rfl rfl ?_
  refine X_iload_n (i := 2) hB dX10_meetDown_15 rfl rfl ?_
  refine X_callV hB kX10_102 cw8 hW.1.1 hW.1.2 (c_X10_post w hW hw.1 x hx8) (by decide) (by decide) rfl rfl (Nat.le_of_ble_eq_true rfl) dX10_meetDown_16 (fun r16 S16 q16 => ?_)
  obtain ⟨rfl, rfl⟩ := q16
  refine X_getr hB cw4 fX10_72 rfl hPo.1.1 hPo.1.2 (hw.po hx8).1.1 dX10_meetDown_19 ?_
  refine X_iload_n (i := 3) hB dX10_meetDown_22 rfl rfl ?_
  refine X_callV hB kX10_298 cw1 hPo.2.2.2.2.1.1 hPo.2.2.2.2.1.2 (c_X1_forget (pA w x + 5) x (nSe σ 1) (nSe σ 2) (dMap (nNd σ x)) (dCa (nNd σ x)) (hW.po hx8).2.2.2.2 (hw.po hx8).2.2.1 (some (lkP x y)) hlk) (by decide) (by decide) rfl rfl (Nat.le_of_ble_eq_true rfl) dX10_meetDown_23 (fun r23 S23 q23 => ?_)
  obtain ⟨rfl, g1, g2, g3⟩ := q23
  obtain ⟨hw1, hc1⟩ : worldR S23 w (forgetN σ x x y) ∧ wch w S S23 := by
    have q := ca_world hw hx8 g1 g2 g3 (fun z => by rw [(hw.cv.2.1 x z hx8).1]; exact forgetO_nil)
    rw [← forgetN_lk]
    exact q
  have hk1 := hc1.2.2 a hfa
  clear g1 g2 g3
  refine X_aload_n (i := 1) hB dX10_meetDown_26 rfl rfl ?_
  refine X_geti hB cw3 fX10_207 rfl hfk.1 hfk.2 dX10_meetDown_27 ?_
  refine X_topi (y := nI k) (by rw [hk1.1]; exact ha0) ?_
  refine X_if_eq (tgt := 34) hB dX10_meetDown_30 (by decide) (fun c30 => absurd c30 (nI_ne0 (by omega) (by omega))) (fun c30 => ?_)
  refine X_vret hB rfl dX10_meetDown_33 ?_
  exact ⟨rfl, hw1, hc1⟩
set_option maxRecDepth 100000 in
set_option maxHeartbeats 4000000 in
theorem c_X10_meetDown (w : Nat) (hW : WLay G w) (σ : Net) (hw : worldR S w σ) (b d a y : Nat) (hO : wfO σ b d) (hd : d < (nDa σ).length) (hdk : daOk (dat σ d)) (hst : aSt (dat σ d) = 1) (hy8 : y < 8) (hyT : y ∉ (aTr (dat σ d))) (hye : trL (dat σ d) ≠ (aEn (dat σ d))) (hfa : S.2.2 (w + 3) 3 = some a) (hfl : w + 5 ≤ a ∧ a < w + 46) (ha0 : S.1 a 0 = 0) (ha1 : S.1 a 1 = nI (trL (dat σ d))) (ha2 : S.1 a 2 = nI y) (ha3 : S.1 a 3 = nI d) : C G mX10_meetDown 5 [.ref w, .ref a] S (fun r S' => r = none ∧ worldR S' w (breakD σ d (trL (dat σ d)) y) ∧ wch w S S') := by
  have hx8 : trL (dat σ d) < 8 := hdk.b.tl.1
  have hxT : trL (dat σ d) ∈ (aTr (dat σ d)) := hdk.b.tl.2
  have hxy : trL (dat σ d) ≠ y := fun q => hyT (q ▸ hxT)
  have hdb := hdk.b
  generalize hxx : trL (dat σ d) = x at *
  have hfk := hW.2.2.2.2.2.1 a hfl.1 hfl.2
  have hd40 := hw.l40.2
  have hD := hW.dd (show d < 40 by omega)
  have hPo := hW.po hx8
  have hlk := lkP_ok hx8 hy8 hxy
  have hO2 : wfO (brk2 σ x y) b d := (hO.ta (k := 6)).forget hx8
  have hTo : okR (aTr (dat σ d)) := ⟨(daOk_len hdk).1, hdk.2.1.2.2.1⟩
  have hTl := hTo.1
  have hT1 := hdb.2.1
  have he8 : (aEn (dat σ d)) < 8 := hdk.1.2.1
  have hsv := hdk.1.2.2.2.2.2
  have hs7 := hO.1.2.2.2.2.2.2.2
  obtain ⟨z1, z2, z3, z4, z5, z6, z7, z8, z9, z10⟩ := hw.dc hd
  refine C.mk (lv := [some (.ref w), some (.ref a), none, none, none, none, none, none, none, none]) (by decide) (Nat.le_of_ble_eq_true rfl) rfl (fun E hB => ?_)
  refine X_aload_n (i := 1) hB dX10_meetDown_0 rfl rfl ?_
  refine X_geti hB cw3 fX10_216 rfl hfk.1 hfk.2 dX10_meetDown_1 ?_
  refine X_topi (y := nI x) (ha1) ?_
  refine X_istore_n (i := 2) hB dX10_meetDown_4 rfl (by decide) rfl ?_
  refine X_iload_n (i := 2) hB dX10_meetDown_5 rfl rfl ?_
  refine X_aload_n (i := 1) hB dX10_meetDown_6 rfl rfl ?_
  refine X_geti hB cw3 fX10_219 rfl hfk.1 hfk.2 dX10_meetDown_7 ?_
  refine X_topi (y := nI y) (ha2) ?_
  refine X_callS hB kX10_294 (c_X4_told hx8 hy8) (by decide) (by decide) rfl rfl (Nat.le_of_ble_eq_true rfl) dX10_meetDown_10 (fun r10 S10 q10 => ?_)
  obtain ⟨rfl, rfl⟩ := q10
  refine X_istore_n (i := 3) hB dX10_meetDown_13 rfl (by decide) rfl ?_
  refine X_aload_n (i := 0) hB dX10_meetDown_14 rfl rfl ?_
  refine X_iload_n (i := 2) hB dX10_meetDown_15 rfl rfl ?_
  refine X_callV hB kX10_102 cw8 hW.1.1 hW.1.2 (c_X10_post w hW hw.1 x hx8) (by decide) (by decide) rfl rfl (Nat.le_of_ble_eq_true rfl) dX10_meetDown_16 (fun r16 S16 q16 => ?_)
  obtain ⟨rfl, rfl⟩ := q16
  refine X_getr hB cw4 fX10_72 rfl hPo.1.1 hPo.1.2 (hw.po hx8).1.1 dX10_meetDown_19 ?_
  refine X_iload_n (i := 3) hB dX10_meetDown_22 rfl rfl ?_
  refine X_callV hB kX10_298 cw1 hPo.2.2.2.2.1.1 hPo.2.2.2.2.1.2 (c_X1_forget (pA w x + 5) x (nSe σ 1) (nSe σ 2) (dMap (nNd σ x)) (dCa (nNd σ x)) (hW.po hx8).2.2.2.2 (hw.po hx8).2.2.1 (some (lkP x y)) hlk) (by decide) (by decide) rfl rfl (Nat.le_of_ble_eq_true rfl) dX10_meetDown_23 (fun r23 S23 q23 => ?_)
  obtain ⟨rfl, g1, g2, g3⟩ := q23
  obtain ⟨hw1, hc1⟩ : worldR S23 w (forgetN σ x x y) ∧ wch w S S23 := by
    have q := ca_world hw hx8 g1 g2 g3 (fun z => by rw [(hw.cv.2.1 x z hx8).1]; exact forgetO_nil)
    rw [← forgetN_lk]
    exact q
  have hk1 := hc1.2.2 a hfa
  clear g1 g2 g3
  refine X_aload_n (i := 1) hB dX10_meetDown_26 rfl rfl ?_
  refine X_geti hB cw3 fX10_207 rfl hfk.1 hfk.2 dX10_meetDown_27 ?_
  refine X_if_eq (tgt := 34) hB dX10_meetDown_30 (by decide) (fun c30 => ?_) (fun c30 => absurd (by rw [hk1.1]; exact ha0) c30)
  refine X_aload_n (i := 0) hB dX10_meetDown_34 rfl rfl ?_
  refine X_getr hB cw8 fX10_15 rfl hW.1.1 hW.1.2 hw1.1.2.1 dX10_meetDown_35 ?_
  refine X_bipush (v := 6) hB dX10_meetDown_38 (by decide) ?_
  refine X_dup2_11 hB dX10_meetDown_40 rfl rfl ?_
  refine X_ialdN hB (6) hW.2.2.1.1 hW.2.2.1.2 (by decide) rfl (by omega) (hw1.2.1.2.1 6 (by decide)) dX10_meetDown_41 ?_
  refine X_iconst (v := 1) hB dX10_meetDown_42 (by decide) ?_
  refine X_iadd hB dX10_meetDown_43 ?_
  refine X_topi (y := nI (nTa (forgetN σ x x y) 6 + 1)) (by first | rfl | (simp (disch := omega) only [nlit, nI_add, nI_mul, nI_sub]; done) | (simp (disch := omega) only [nlit, nI_add, nI_mul, nI_sub]; (congr 1 <;> omega))) ?_
  refine X_iastN hB (6) hW.2.2.1.1 hW.2.2.1.2 (by decide) rfl (by omega) dX10_meetDown_44 ?_
  generalize hS44 : setI S23 (w + 2) 6 (nI (nTa (forgetN σ x x y) 6 + 1)) = S44
  obtain ⟨hw2, hc2⟩ : worldR S44 w (brk2 σ x y) ∧ wch w S23 S44 := hS44 ▸ worldR_ta hw1 (by decide)
  have hk2 := (hc1.tr hc2).2.2 a hfa
  clear hS44
  obtain ⟨v1, v2, v3, v4, v5, v6, v7, v8, v9, v10⟩ := hw2.dc (d := d) hd
  refine X_aload_n (i := 0) hB dX10_meetDown_45 rfl rfl ?_
  refine X_aload_n (i := 1) hB dX10_meetDown_46 rfl rfl ?_
  refine X_geti hB cw3 fX10_301 rfl hfk.1 hfk.2 dX10_meetDown_47 ?_
  refine X_topi (y := nI d) (by rw [hk2.1]; exact ha3) ?_
  refine X_callV hB kX10_155 cw8 hW.1.1 hW.1.2 (c_X10_datum w hW hw2.1 d (by omega)) (by decide) (by decide) rfl rfl (Nat.le_of_ble_eq_true rfl) dX10_meetDown_50 (fun r50 S50 q50 => ?_)
  obtain ⟨rfl, rfl⟩ := q50
  refine X_astore hB dX10_meetDown_53 (by decide) rfl ?_
  refine X_iload_n (i := 2) hB dX10_meetDown_55 rfl rfl ?_
  refine X_aload hB dX10_meetDown_56 rfl ?_
  refine X_geti hB cw2 fX10_159 rfl hD.1 hD.2 dX10_meetDown_58 ?_
  refine X_topi (y := nI (aOr (dat σ d))) (v1) ?_
  refine X_icmp_ne (tgt := 80) hB dX10_meetDown_61 (by decide) (fun c61 => ?_) (fun c61 => ?_)
  · have e61 : ¬ x = aOr (dat σ d) := fun q => c61 (by rw [q])
    have hl2 : 2 ≤ (aTr (dat σ d)).length := by
      rcases Nat.lt_or_ge 1 (aTr (dat σ d)).length with q | q
      · exact q
      · exact absurd (by rw [← hxx]; exact (tr_one hdb (by omega)).2) e61
    have hn3 : nDa (brk3 σ d x y) = nDa σ := nDa_send
    have hdat3 : dat (brk3 σ d x y) d = (dat σ d) := by unfold dat; rw [hn3]
    have hO4 : wfO (brk3 σ d x y) b d := hO2.send (fr3 hx8 (nodup_rev hdb.2.2.1) (fun z hz => hdb.2.2.2.1 z (List.mem_reverse.mp hz)) (by rw [List.length_reverse]; exact hl2) ((rev_hd hT1).trans hxx) hlk (fun q => by cases q)) (show (3 : Nat) ≠ 0 by decide)
    have hr0 : (aTr (dat σ d)).reverse.getD 0 0 = x := (rev_hd hT1).trans hxx
    have hri : (aTr (dat σ d)).reverse.idxOf x = 0 := (idxOf_iff (by rw [List.length_reverse]; omega) hr0 (fun j hj => by omega)).2
    have hwho : nth (aTr (dat σ d)).reverse (nI 1) = whom (brk2 σ x y) (3, x, 0, 0, (some (lkP x y)), (aTr (dat σ d)).reverse) := by
      rw [nth_in (by rw [List.length_reverse]; omega) (by rw [List.length_reverse]; omega)]
      show _ = (if (3 : Nat) = 0 then _ else if (3 : Nat) = 1 then _ else nI ((aTr (dat σ d)).reverse.getD (if (3 : Nat) = 2 then (aTr (dat σ d)).reverse.idxOf x - 1 else (aTr (dat σ d)).reverse.idxOf x + 1) 0))
      rw [if_neg (by decide), if_neg (by decide), if_neg (by decide), hri]
    refine X_aload hB dX10_meetDown_80 rfl ?_
    refine X_getj hB cw2 fX10_171 rfl hD.1 hD.2 dX10_meetDown_82 ?_
    refine X_topl (y := rJ (aTr (dat σ d))) (v6) ?_
    refine X_callS hB kX10_304 (c_X8_reversed (aTr (dat σ d)) hTo) (by decide) (by decide) rfl rfl (Nat.le_of_ble_eq_true rfl) dX10_meetDown_85 (fun r85 S85 q85 => ?_)
    obtain ⟨rfl, rfl⟩ := q85
    refine X_lstore hB dX10_meetDown_88 (by decide) rfl ?_
    refine X_aload_n (i := 0) hB dX10_meetDown_90 rfl rfl ?_
    refine X_iconst (v := 3) hB dX10_meetDown_91 (by decide) ?_
    refine X_iload_n (i := 2) hB dX10_meetDown_92 rfl rfl ?_
    refine X_lload hB dX10_meetDown_93 rfl ?_
    refine X_iconst (v := 1) hB dX10_meetDown_95 (by decide) ?_
    refine X_callS hB kX10_259 (c_X8_at (aTr (dat σ d)).reverse hTo.rev (nI 1)) (by decide) (by decide) rfl rfl (Nat.le_of_ble_eq_true rfl) dX10_meetDown_96 (fun r96 S96 q96 => ?_)
    obtain ⟨rfl, rfl⟩ := q96
    refine X_topi (y := whom (brk2 σ x y) (3, x, 0, 0, (some (lkP x y)), (aTr (dat σ d)).reverse)) (hwho) ?_
    refine X_iload_n (i := 3) hB dX10_meetDown_99 rfl rfl ?_
    refine X_lload hB dX10_meetDown_100 rfl ?_
    refine X_callV hB kX10_250 cw8 hW.1.1 hW.1.2 (c_emitF w hW (brk2 σ x y) hw2 (3, x, 0, 0, (some (lkP x y)), (aTr (dat σ d)).reverse) (by decide : 3 ≤ 3) (by decide : (3 : Nat) ≠ 1)) (by decide) (by decide) rfl rfl (Nat.le_of_ble_eq_true rfl) dX10_meetDown_102 (fun r102 S102 q102 => ?_)
    obtain ⟨hor, hw4, hc4⟩ := q102
    have hw4 : worldR S102 w (brk3 σ d x y) := hw4
    obtain ⟨y1, y2, y3, y4, y5, y6, y7, y8, y9, y10⟩ := hw4.dc (d := d) (by rw [hn3]; exact hd)
    rw [hdat3] at y1 y2 y3 y4 y5 y6
    obtain ⟨v102, rfl, hv102⟩ : ∃ v, r102 = some v ∧ v.category = 1 := by
      rcases hor with ⟨rfl, _⟩ | ⟨⟨u, rfl⟩, _⟩
      · exact ⟨_, rfl, rfl⟩
      · exact ⟨_, rfl, rfl⟩
    refine X_pop hB dX10_meetDown_105 hv102 ?_
    refine X_aload_n (i := 0) hB dX10_meetDown_106 rfl rfl ?_
    refine X_iload_n (i := 2) hB dX10_meetDown_107 rfl rfl ?_
    refine X_callV hB kX10_102 cw8 hW.1.1 hW.1.2 (c_X10_post w hW hw4.1 x hx8) (by decide) (by decide) rfl rfl (Nat.le_of_ble_eq_true rfl) dX10_meetDown_108 (fun r108 S108 q108 => ?_)
    obtain ⟨rfl, rfl⟩ := q108
    refine X_getr hB cw4 fX10_72 rfl hPo.1.1 hPo.1.2 (hw4.po hx8).1.1 dX10_meetDown_111 ?_
    refine X_aload hB dX10_meetDown_114 rfl ?_
    refine X_geti hB cw2 fX10_162 rfl hD.1 hD.2 dX10_meetDown_116 ?_
    refine X_topi (y := nI (aEn (dat σ d))) (y2) ?_
    refine X_callV hB kX10_106 cw1 hPo.2.2.2.2.1.1 hPo.2.2.2.2.1.2 (c_X1_wayTo (pA w x + 5) x (nSe (brk3 σ d x y) 1) (nSe (brk3 σ d x y) 2) (dMap (nNd (brk3 σ d x y) x)) (dCa (nNd (brk3 σ d x y) x)) (hW.po hx8).2.2.2.2 (hw4.po hx8).2.2.1 (aEn (dat σ d)) he8 hye) (by decide) (by decide) rfl rfl (Nat.le_of_ble_eq_true rfl) dX10_meetDown_119 (fun r119 S119 q119 => ?_)
    obtain ⟨rfl, rfl⟩ := q119
    refine X_topl (y := rJ (brkW σ d x y)) (rfl) ?_
    have hgw : (brkW σ d x y) ≠ [] → goodW x (aEn (dat σ d)) (brkW σ d x y) := fun q => wayN_good hx8 hO4.1 (hO4.no hx8) q
    have hwr : okR (brkW σ d x y) := by
      by_cases q : (brkW σ d x y) = []
      · rw [q]; exact okR.nil
      · exact (hgw q).R
    have hw8 := hwr.1
    have hm1 := msk_lt hwr.2
    have hsx : 1 <<< x < 256 := by rw [Nat.one_shiftLeft]; exact Nat.pow_lt_pow_right (n := 8) (by decide) hx8
    have hm3 : msk (brkW σ d x y) &&& msk (aTr (dat σ d)) < 256 := Nat.lt_of_le_of_lt Nat.and_le_left hm1
    refine X_lstore hB dX10_meetDown_122 (by decide) rfl ?_
    refine X_lload hB dX10_meetDown_124 rfl ?_
    refine X_callS hB kX10_308 (c_X8_nodes (brkW σ d x y) hwr) (by decide) (by decide) rfl rfl (Nat.le_of_ble_eq_true rfl) dX10_meetDown_126 (fun r126 S126 q126 => ?_)
    obtain ⟨rfl, rfl⟩ := q126
    refine X_aload hB dX10_meetDown_129 rfl ?_
    refine X_getj hB cw2 fX10_171 rfl hD.1 hD.2 dX10_meetDown_131 ?_
    refine X_topl (y := rJ (aTr (dat σ d))) (y6) ?_
    refine X_callS hB kX10_308 (c_X8_nodes (aTr (dat σ d)) hTo) (by decide) (by decide) rfl rfl (Nat.le_of_ble_eq_true rfl) dX10_meetDown_134 (fun r134 S134 q134 => ?_)
    obtain ⟨rfl, rfl⟩ := q134
    refine X_iand hB dX10_meetDown_137 ?_
    refine X_topi (y := nI (msk (brkW σ d x y) &&& msk (aTr (dat σ d)))) (nI_and _ _) ?_
    refine X_iconst (v := 1) hB dX10_meetDown_138 (by decide) ?_
    refine X_iload_n (i := 2) hB dX10_meetDown_139 rfl rfl ?_
    refine X_ishl hB dX10_meetDown_140 ?_
    refine X_topi (y := nI (1 <<< x)) (sh1 x hx8) ?_
    refine X_icmp_ne (tgt := 148) hB dX10_meetDown_141 (by decide) (fun c141 => ?_) (fun c141 => ?_)
    · refine X_iconst (v := 0) hB dX10_meetDown_148 (by decide) ?_
      refine X_istore hB dX10_meetDown_149 (by decide) rfl ?_
      refine X_aload hB dX10_meetDown_151 rfl ?_
      refine X_geti hB cw2 fX10_168 rfl hD.1 hD.2 dX10_meetDown_153 ?_
      refine X_topi (y := nI (aSv (dat σ d))) (y4) ?_
      refine X_aload_n (i := 0) hB dX10_meetDown_156 rfl rfl ?_
      refine X_getr hB cw8 fX10_9 rfl hW.1.1 hW.1.2 hw4.1.1 dX10_meetDown_157 ?_
      refine X_bipush (v := 7) hB dX10_meetDown_160 (by decide) ?_
      refine X_ialdN hB (7) hW.2.1.1 hW.2.1.2 (by decide) rfl (by decide) (hw4.2.1.1 7 (by decide)) dX10_meetDown_162 ?_
      refine X_icmp_ge (tgt := 210) hB dX10_meetDown_163 (by decide) (fun c163 => ?_) (fun c163 => ?_)
      · refine X_aload_n (i := 0) hB dX10_meetDown_210 rfl rfl ?_
        refine X_aload hB dX10_meetDown_211 rfl ?_
        refine X_iconst (v := 3) hB dX10_meetDown_213 (by decide) ?_
        refine X_bipush (v := 10) hB dX10_meetDown_214 (by decide) ?_
        refine X_callV hB kX10_266 cw8 hW.1.1 hW.1.2 (c_X10_finish w hW (brk3 σ d x y) hw4 d 3 10 (by rw [hn3]; exact hd) (Or.inr rfl) rfl hO4.nof) (by decide) (by decide) rfl rfl (Nat.le_of_ble_eq_true rfl) dX10_meetDown_216 (fun r216 S216 q216 => ?_)
        obtain ⟨rfl, k1, k2⟩ := q216
        refine X_vret hB rfl dX10_meetDown_219 ?_
        refine ⟨rfl, ?_, hc1.tr (hc2.tr (hc4.tr k2))⟩
        unfold breakD
        rw [if_neg e61, if_neg]
        · exact k1
        · rintro ⟨q1, q2, q3⟩
          rw [show nSe (brk3 σ d x y) 7 = nSe σ 7 by rw [show nSe (brk3 σ d x y) = nSe σ from nSe_send], nI_leI (by omega) (by omega)] at c163
          omega
      · have e163 : aSv (dat σ d) < nSe σ 7 := by
          rw [show nSe (brk3 σ d x y) 7 = nSe σ 7 by rw [show nSe (brk3 σ d x y) = nSe σ from nSe_send], nI_leI (by omega) (by omega)] at c163
          omega
        refine X_lload hB dX10_meetDown_166 rfl ?_
        refine X_lconst (v := 0) hB dX10_meetDown_168 (by decide) ?_
        refine X_lcmp hB dX10_meetDown_169 ?_
        refine X_if_eq (tgt := 210) hB dX10_meetDown_170 (by decide) (fun c170 => ?_) (fun c170 => ?_)
        · refine X_aload_n (i := 0) hB dX10_meetDown_210 rfl rfl ?_
          refine X_aload hB dX10_meetDown_211 rfl ?_
          refine X_iconst (v := 3) hB dX10_meetDown_213 (by decide) ?_
          refine X_bipush (v := 10) hB dX10_meetDown_214 (by decide) ?_
          refine X_callV hB kX10_266 cw8 hW.1.1 hW.1.2 (c_X10_finish w hW (brk3 σ d x y) hw4 d 3 10 (by rw [hn3]; exact hd) (Or.inr rfl) rfl hO4.nof) (by decide) (by decide) rfl rfl (Nat.le_of_ble_eq_true rfl) dX10_meetDown_216 (fun r216 S216 q216 => ?_)
          obtain ⟨rfl, k1, k2⟩ := q216
          refine X_vret hB rfl dX10_meetDown_219 ?_
          refine ⟨rfl, ?_, hc1.tr (hc2.tr (hc4.tr k2))⟩
          unfold breakD
          rw [if_neg e61, if_neg]
          · exact k1
          · rintro ⟨q1, q2, q3⟩
            exact q2 ((cmp_0 hwr).mp c170)
        · have e170 : (brkW σ d x y) ≠ [] := fun q => c170 ((cmp_0 hwr).mpr q)
          have hg := hgw e170
          refine X_iload hB dX10_meetDown_173 rfl ?_
          refine X_if_eq (tgt := 210) hB dX10_meetDown_175 (by decide) (fun c175 => ?_) (fun c175 => absurd rfl c175)
          refine X_aload_n (i := 0) hB dX10_meetDown_210 rfl rfl ?_
          refine X_aload hB dX10_meetDown_211 rfl ?_
          refine X_iconst (v := 3) hB dX10_meetDown_213 (by decide) ?_
          refine X_bipush (v := 10) hB dX10_meetDown_214 (by decide) ?_
          refine X_callV hB kX10_266 cw8 hW.1.1 hW.1.2 (c_X10_finish w hW (brk3 σ d x y) hw4 d 3 10 (by rw [hn3]; exact hd) (Or.inr rfl) rfl hO4.nof) (by decide) (by decide) rfl rfl (Nat.le_of_ble_eq_true rfl) dX10_meetDown_216 (fun r216 S216 q216 => ?_)
          obtain ⟨rfl, k1, k2⟩ := q216
          refine X_vret hB rfl dX10_meetDown_219 ?_
          refine ⟨rfl, ?_, hc1.tr (hc2.tr (hc4.tr k2))⟩
          unfold breakD
          rw [if_neg e61, if_neg]
          · exact k1
          · rintro ⟨q1, q2, q3⟩
            exact c141 (by rw [(fresh_iff (hgw q2) hxT).mpr q3])
    · refine X_iconst (v := 1) hB dX10_meetDown_144 (by decide) ?_
      refine X_goto (tgt := 149) hB dX10_meetDown_145 (by decide) ?_
      refine X_istore hB dX10_meetDown_149 (by decide) rfl ?_
      refine X_aload hB dX10_meetDown_151 rfl ?_
      refine X_geti hB cw2 fX10_168 rfl hD.1 hD.2 dX10_meetDown_153 ?_
      refine X_topi (y := nI (aSv (dat σ d))) (y4) ?_
      refine X_aload_n (i := 0) hB dX10_meetDown_156 rfl rfl ?_
      refine X_getr hB cw8 fX10_9 rfl hW.1.1 hW.1.2 hw4.1.1 dX10_meetDown_157 ?_
      refine X_bipush (v := 7) hB dX10_meetDown_160 (by decide) ?_
      refine X_ialdN hB (7) hW.2.1.1 hW.2.1.2 (by decide) rfl (by decide) (hw4.2.1.1 7 (by decide)) dX10_meetDown_162 ?_
      refine X_icmp_ge (tgt := 210) hB dX10_meetDown_163 (by decide) (fun c163 => ?_) (fun c163 => ?_)
      · refine X_aload_n (i := 0) hB dX10_meetDown_210 rfl rfl ?_
        refine X_aload hB dX10_meetDown_211 rfl ?_
        refine X_iconst (v := 3) hB dX10_meetDown_213 (by decide) ?_
        refine X_bipush (v := 10) hB dX10_meetDown_214 (by decide) ?_
        refine X_callV hB kX10_266 cw8 hW.1.1 hW.1.2 (c_X10_finish w hW (brk3 σ d x y) hw4 d 3 10 (by rw [hn3]; exact hd) (Or.inr rfl) rfl hO4.nof) (by decide) (by decide) rfl rfl (Nat.le_of_ble_eq_true rfl) dX10_meetDown_216 (fun r216 S216 q216 => ?_)
        obtain ⟨rfl, k1, k2⟩ := q216
        refine X_vret hB rfl dX10_meetDown_219 ?_
        refine ⟨rfl, ?_, hc1.tr (hc2.tr (hc4.tr k2))⟩
        unfold breakD
        rw [if_neg e61, if_neg]
        · exact k1
        · rintro ⟨q1, q2, q3⟩
          rw [show nSe (brk3 σ d x y) 7 = nSe σ 7 by rw [show nSe (brk3 σ d x y) = nSe σ from nSe_send], nI_leI (by omega) (by omega)] at c163
          omega
      · have e163 : aSv (dat σ d) < nSe σ 7 := by
          rw [show nSe (brk3 σ d x y) 7 = nSe σ 7 by rw [show nSe (brk3 σ d x y) = nSe σ from nSe_send], nI_leI (by omega) (by omega)] at c163
          omega
        refine X_lload hB dX10_meetDown_166 rfl ?_
        refine X_lconst (v := 0) hB dX10_meetDown_168 (by decide) ?_
        refine X_lcmp hB dX10_meetDown_169 ?_
        refine X_if_eq (tgt := 210) hB dX10_meetDown_170 (by decide) (fun c170 => ?_) (fun c170 => ?_)
        · refine X_aload_n (i := 0) hB dX10_meetDown_210 rfl rfl ?_
          refine X_aload hB dX10_meetDown_211 rfl ?_
          refine X_iconst (v := 3) hB dX10_meetDown_213 (by decide) ?_
          refine X_bipush (v := 10) hB dX10_meetDown_214 (by decide) ?_
          refine X_callV hB kX10_266 cw8 hW.1.1 hW.1.2 (c_X10_finish w hW (brk3 σ d x y) hw4 d 3 10 (by rw [hn3]; exact hd) (Or.inr rfl) rfl hO4.nof) (by decide) (by decide) rfl rfl (Nat.le_of_ble_eq_true rfl) dX10_meetDown_216 (fun r216 S216 q216 => ?_)
          obtain ⟨rfl, k1, k2⟩ := q216
          refine X_vret hB rfl dX10_meetDown_219 ?_
          refine ⟨rfl, ?_, hc1.tr (hc2.tr (hc4.tr k2))⟩
          unfold breakD
          rw [if_neg e61, if_neg]
          · exact k1
          · rintro ⟨q1, q2, q3⟩
            exact q2 ((cmp_0 hwr).mp c170)
        · have e170 : (brkW σ d x y) ≠ [] := fun q => c170 ((cmp_0 hwr).mpr q)
          have hg := hgw e170
          refine X_iload hB dX10_meetDown_173 rfl ?_
          refine X_if_eq (tgt := 210) hB dX10_meetDown_175 (by decide) (fun c175 => absurd c175 (by decide)) (fun c175 => ?_)
          have e175 : clrB (brkW σ d x y) (aTr (dat σ d)) = true := (fresh_iff hg hxT).mp ((nI_eq (by omega) (by omega)).mp c141)
          refine X_aload hB dX10_meetDown_178 rfl ?_
          refine X_dup hB dX10_meetDown_180 rfl ?_
          refine X_geti hB cw2 fX10_168 rfl hD.1 hD.2 dX10_meetDown_181 ?_
          refine X_topi (y := nI (aSv (dat σ d))) (y4) ?_
          refine X_iconst (v := 1) hB dX10_meetDown_184 (by decide) ?_
          refine X_iadd hB dX10_meetDown_185 ?_
          refine X_topi (y := nI (aSv (dat σ d) + 1)) (by first | rfl | (simp (disch := omega) only [nlit, nI_add, nI_mul, nI_sub]; done) | (simp (disch := omega) only [nlit, nI_add, nI_mul, nI_sub]; (congr 1 <;> omega))) ?_
          refine X_puti hB cw2 fX10_168 rfl rfl hD.1 hD.2 dX10_meetDown_186 ?_
          generalize hS5 : setI S102 (dA w d) 4 (nI (aSv (dat σ d) + 1)) = S5
          have hd3 : d < (nDa (brk3 σ d x y)).length := by rw [hn3]; exact hd
          obtain ⟨hw5, hc5⟩ : worldR S5 w (uDa (brk3 σ d x y) d (dSv (dat σ d) (aSv (dat σ d) + 1))) ∧ wch w S102 S5 := by
            obtain ⟨u1, u2, u3, u4, u5, u6, u7, u8, u9, u10⟩ := hw4.dc hd3
            rw [hdat3] at u7 u8 u9 u10
            refine worldR_da hw4 hd3 (hS5 ▸ chg.setI (Nat.le_refl _) (by omega)) (by rw [← hS5]; rfl) (by rw [← hS5]; simp [setI, ups]) ⟨?_, ?_, ?_, ?_, ?_, ?_, ?_, ?_, ?_, ?_⟩ (fun f h1 h2 h3 => by rw [hdat3]; rfl) (hw4.cv.da hd3 (by rw [hdat3]; rfl) (by rw [hdat3]; rfl))
            · rw [← hS5]; simp [setI, ups]; exact y1
            · rw [← hS5]; simp [setI, ups]; exact y2
            · rw [← hS5]; simp [setI, ups]; exact y3
            · rw [← hS5]; simp [setI, ups]; rfl
            · rw [← hS5]; exact y5
            · rw [← hS5]; exact y6
            · rw [← hS5]; simp [setI, ups]; exact u7
            · rw [← hS5]; simp [setI, ups]; exact u8
            · intro q; rw [← hS5]; simp [setI, ups]; exact u9 q
            · rw [← hS5]; simp [setI, ups]; exact u10
          clear hS5
          refine X_aload_n (i := 0) hB dX10_meetDown_189 rfl rfl ?_
          refine X_getr hB cw8 fX10_15 rfl hW.1.1 hW.1.2 hw5.1.2.1 dX10_meetDown_190 ?_
          refine X_iconst (v := 4) hB dX10_meetDown_193 (by decide) ?_
          refine X_dup2_11 hB dX10_meetDown_194 rfl rfl ?_
          refine X_ialdN hB (4) hW.2.2.1.1 hW.2.2.1.2 (by decide) rfl (by omega) (hw5.2.1.2.1 4 (by decide)) dX10_meetDown_195 ?_
          refine X_iconst (v := 1) hB dX10_meetDown_196 (by decide) ?_
          refine X_iadd hB dX10_meetDown_197 ?_
          refine X_topi (y := nI (nTa (uDa (brk3 σ d x y) d (dSv (dat σ d) (aSv (dat σ d) + 1))) 4 + 1)) (by first | rfl | (simp (disch := omega) only [nlit, nI_add, nI_mul, nI_sub]; done) | (simp (disch := omega) only [nlit, nI_add, nI_mul, nI_sub]; (congr 1 <;> omega))) ?_
          refine X_iastN hB (4) hW.2.2.1.1 hW.2.2.1.2 (by decide) rfl (by omega) dX10_meetDown_198 ?_
          generalize hS6 : setI S5 (w + 2) 4 (nI (nTa (uDa (brk3 σ d x y) d (dSv (dat σ d) (aSv (dat σ d) + 1))) 4 + 1)) = S6
          obtain ⟨hw6, hc6⟩ : worldR S6 w (uTa (uDa (brk3 σ d x y) d (dSv (dat σ d) (aSv (dat σ d) + 1))) 4) ∧ wch w S5 S6 := hS6 ▸ worldR_ta hw5 (by decide)
          clear hS6
          have hdS : d < (nDa (uTa (uDa (brk3 σ d x y) d (dSv (dat σ d) (aSv (dat σ d) + 1))) 4)).length := by show d < (nDa (uDa (brk3 σ d x y) d (dSv (dat σ d) (aSv (dat σ d) + 1)))).length; rw [len_set]; exact hd3
          have hdat5 : dat (uDa (brk3 σ d x y) d (dSv (dat σ d) (aSv (dat σ d) + 1))) d = dSv (dat σ d) (aSv (dat σ d) + 1) := dat_eq hd3
          refine X_aload_n (i := 0) hB dX10_meetDown_199 rfl rfl ?_
          refine X_aload hB dX10_meetDown_200 rfl ?_
          refine X_lload hB dX10_meetDown_202 rfl ?_
          refine X_callV hB kX10_270 cw8 hW.1.1 hW.1.2 (c_X10_emitData w hW (uTa (uDa (brk3 σ d x y) d (dSv (dat σ d) (aSv (dat σ d) + 1))) 4) hw6 d (brkW σ d x y) hdS (fun f hf => hO4.nof f hf) hwr hg.2.2.2.1 (by rw [show dat (uTa (uDa (brk3 σ d x y) d (dSv (dat σ d) (aSv (dat σ d) + 1))) 4) d = dSv (dat σ d) (aSv (dat σ d) + 1) from hdat5]; exact hg.2.1.trans hxx.symm)) (by decide) (by decide) rfl rfl (Nat.le_of_ble_eq_true rfl) dX10_meetDown_204 (fun r204 S204 q204 => ?_)
          obtain ⟨rfl, k1, k2⟩ := q204
          refine X_goto (tgt := 219) hB dX10_meetDown_207 (by decide) ?_
          refine X_vret hB rfl dX10_meetDown_219 ?_
          refine ⟨rfl, ?_, hc1.tr (hc2.tr (hc4.tr (hc5.tr (hc6.tr k2))))⟩
          unfold breakD
          rw [if_neg e61, if_pos ⟨e163, e170, e175⟩]
          exact k1
  · have e61 : x = aOr (dat σ d) := (nI_eq (by omega) (by have := hdk.1.1; omega)).mp c61
    have ht1 : (aTr (dat σ d)).length = 1 := by
      have hnd := hdb.2.2.1
      have e : (aTr (dat σ d)).getD ((aTr (dat σ d)).length - 1) 0 = (aTr (dat σ d)).getD 0 0 := by rw [hdb.2.2.2.2, ← e61]; exact hxx
      rw [getD_lt (by omega), getD_lt (by omega)] at e
      have := (List.getElem_inj hnd).mp e
      omega
    have hO3 : wfO (uNd (brk2 σ x y) x (xNw (nNd (brk2 σ x y) x) (some (lkP x y)))) b d := hO2.nw hx8 hlk
    refine X_aload_n (i := 0) hB dX10_meetDown_64 rfl rfl ?_
    refine X_iload_n (i := 2) hB dX10_meetDown_65 rfl rfl ?_
    refine X_callV hB kX10_102 cw8 hW.1.1 hW.1.2 (c_X10_post w hW hw2.1 x hx8) (by decide) (by decide) rfl rfl (Nat.le_of_ble_eq_true rfl) dX10_meetDown_66 (fun r66 S66 q66 => ?_)
    obtain ⟨rfl, rfl⟩ := q66
    refine X_iload_n (i := 3) hB dX10_meetDown_69 rfl rfl ?_
    refine X_puti hB cw4 fX10_132 rfl rfl hPo.1.1 hPo.1.2 dX10_meetDown_70 ?_
    obtain ⟨hw3, hc3⟩ : worldR (setI S44 (pA w x) 5 (nI (10 * min x y + max x y))) w (uNd (brk2 σ x y) x (xNw (nNd (brk2 σ x y) x) (some (lkP x y)))) ∧ wch w S44 (setI S44 (pA w x) 5 (nI (10 * min x y + max x y))) := nw_world (o := (some (lkP x y))) hw2 hx8
    refine X_aload_n (i := 0) hB dX10_meetDown_73 rfl rfl ?_
    refine X_aload hB dX10_meetDown_74 rfl ?_
    refine X_callV hB kX10_197 cw8 hW.1.1 hW.1.2 (c_X10_serve w hW (uNd (brk2 σ x y) x (xNw (nNd (brk2 σ x y) x) (some (lkP x y)))) hw3 b d hO3 hd hdb ht1) (by decide) (by decide) rfl rfl (Nat.le_of_ble_eq_true rfl) dX10_meetDown_76 (fun r76 S76 q76 => ?_)
    obtain ⟨rfl, k1, k2⟩ := q76
    refine X_vret hB rfl dX10_meetDown_79 ?_
    refine ⟨rfl, ?_, hc1.tr (hc2.tr (hc3.tr k2))⟩
    unfold breakD
    rw [if_pos e61]
    exact k1
end CLS
