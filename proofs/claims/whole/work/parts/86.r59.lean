/-! the class: a data is served -/
section CLS
variable {G : Gc} {S : St}
set_option maxRecDepth 100000 in
set_option maxHeartbeats 4000000 in
theorem c_X10_serve (w : Nat) (hW : WLay G w) (σ : Net) (hw : worldR S w σ) (b d : Nat) (hO : wfO σ b d) (hd : d < (nDa σ).length) (hdb : daB (dat σ d)) (ht : (aTr (dat σ d)).length = 1) : C G mX10_serve 4 [.ref w, .ref (dA w d)] S (fun r S' => r = none ∧ worldR S' w (serve σ d) ∧ wch w S S') := by
  have hd40 := hw.l40.2
  have hD := hW.dd (show d < 40 by omega)
  have hn8 : (aOr (dat σ d)) < 8 := hdb.1.1
  have he8 : (aEn (dat σ d)) < 8 := hdb.1.2.1
  have hne : (aOr (dat σ d)) ≠ (aEn (dat σ d)) := hdb.1.2.2.1
  have hc8 := hO.1.1.2
  have hcn := hw.cv.1 d hd
  have hno := hO.nof
  have hPo := hW.po hn8
  have hb4 := (hO.no hn8).2.2.2.2.1
  have hs4 := hO.1.2.2.2.2.1
  obtain ⟨z1, z2, z3, z4, z5, z6, z7, z8, z9, z10⟩ := hw.dc hd
  obtain ⟨⟨f1, f2, f3, f4⟩, ⟨i1, i2, i3, i4, i5, i6, i7⟩, p3, p4, p5, p6⟩ := hw.po hn8
  have hgw : wayN σ (aOr (dat σ d)) (aEn (dat σ d)) ≠ [] → goodW (aOr (dat σ d)) (aEn (dat σ d)) (wayN σ (aOr (dat σ d)) (aEn (dat σ d))) := fun q => wayN_good hn8 hO.1 (hO.no hn8) q
  have hwr : okR (wayN σ (aOr (dat σ d)) (aEn (dat σ d))) := by
    by_cases q : wayN σ (aOr (dat σ d)) (aEn (dat σ d)) = []
    · rw [q]; exact okR.nil
    · exact (hgw q).R
  refine C.mk (lv := [some (.ref w), some (.ref (dA w d)), none, none, none]) (by decide) (Nat.le_of_ble_eq_true rfl) rfl (fun E hB => ?_)
  refine X_aload_n (i := 0) hB dX10_serve_0 rfl rfl ?_
  refine X_aload_n (i := 1) hB dX10_serve_1 rfl rfl ?_
  refine X_geti hB cw2 fX10_159 rfl hD.1 hD.2 dX10_serve_2 ?_
  refine X_topi (y := nI (aOr (dat σ d))) (z1) ?_
  refine X_callV hB kX10_102 cw8 hW.1.1 hW.1.2 (c_X10_post w hW hw.1 (aOr (dat σ d)) hn8) (by decide) (by decide) rfl rfl (Nat.le_of_ble_eq_true rfl) dX10_serve_5 (fun r5 S5 q5 => ?_)
  obtain ⟨rfl, rfl⟩ := q5
  refine X_astore_n (i := 2) hB dX10_serve_8 rfl (by decide) rfl ?_
  refine X_aload_n (i := 2) hB dX10_serve_9 rfl rfl ?_
  refine X_getr hB cw4 fX10_72 rfl hPo.1.1 hPo.1.2 f1 dX10_serve_10 ?_
  refine X_aload_n (i := 1) hB dX10_serve_13 rfl rfl ?_
  refine X_geti hB cw2 fX10_162 rfl hD.1 hD.2 dX10_serve_14 ?_
  refine X_topi (y := nI (aEn (dat σ d))) (z2) ?_
  refine X_callV hB kX10_106 cw1 hPo.2.2.2.2.1.1 hPo.2.2.2.2.1.2 (c_X1_wayTo (pA w (aOr (dat σ d)) + 5) (aOr (dat σ d)) (nSe σ 1) (nSe σ 2) (dMap (nNd σ (aOr (dat σ d)))) (dCa (nNd σ (aOr (dat σ d)))) (hW.po hn8).2.2.2.2 (hw.po hn8).2.2.1 (aEn (dat σ d)) he8 hne) (by decide) (by decide) rfl rfl (Nat.le_of_ble_eq_true rfl) dX10_serve_17 (fun r17 S17 q17 => ?_)
  obtain ⟨rfl, rfl⟩ := q17
  refine X_topl (y := rJ (wayN σ (aOr (dat σ d)) (aEn (dat σ d)))) (rfl) ?_
  refine X_lstore_n (i := 3) hB dX10_serve_20 rfl (by decide) rfl ?_
  refine X_lload_n (i := 3) hB dX10_serve_21 rfl rfl ?_
  refine X_lconst (v := 0) hB dX10_serve_22 (by decide) ?_
  refine X_lcmp hB dX10_serve_23 ?_
  refine X_if_eq (tgt := 36) hB dX10_serve_24 (by decide) (fun c24 => ?_) (fun c24 => ?_)
  · have e24 : wayN σ (aOr (dat σ d)) (aEn (dat σ d)) = [] := (cmp_0 hwr).mp c24
    refine X_aload_n (i := 2) hB dX10_serve_36 rfl rfl ?_
    refine X_geti hB cw4 fX10_126 rfl hPo.1.1 hPo.1.2 dX10_serve_37 ?_
    refine X_topi (y := nI (dBu (nNd σ (aOr (dat σ d)))).length) (i1) ?_
    refine X_aload_n (i := 0) hB dX10_serve_40 rfl rfl ?_
    refine X_getr hB cw8 fX10_9 rfl hW.1.1 hW.1.2 hw.1.1 dX10_serve_41 ?_
    refine X_iconst (v := 4) hB dX10_serve_44 (by decide) ?_
    refine X_ialdN hB (4) hW.2.1.1 hW.2.1.2 (by decide) rfl (by decide) (hw.2.1.1 4 (by decide)) dX10_serve_45 ?_
    refine X_icmp_ge (tgt := 57) hB dX10_serve_46 (by decide) (fun c46 => ?_) (fun c46 => ?_)
    · have e46 : (dBu (nNd σ (aOr (dat σ d)))).length = nSe σ 4 := by
        rw [nI_leI (by omega) (by omega)] at c46
        omega
      refine X_aload_n (i := 0) hB dX10_serve_57 rfl rfl ?_
      refine X_aload_n (i := 1) hB dX10_serve_58 rfl rfl ?_
      refine X_iconst (v := 3) hB dX10_serve_59 (by decide) ?_
      refine X_bipush (v := 10) hB dX10_serve_60 (by decide) ?_
      refine X_callV hB kX10_266 cw8 hW.1.1 hW.1.2 (c_X10_finish w hW σ hw d 3 10 hd (Or.inr rfl) rfl hno) (by decide) (by decide) rfl rfl (Nat.le_of_ble_eq_true rfl) dX10_serve_62 (fun r62 S62 q62 => ?_)
      obtain ⟨rfl, g1, g2⟩ := q62
      refine X_goto (tgt := 131) hB dX10_serve_65 (by decide) ?_
      refine X_vret hB rfl dX10_serve_131 ?_
      refine ⟨rfl, ?_, g2⟩
      unfold serve
      rw [if_neg (not_not_intro e24), if_pos e46]
      exact g1
    · refine X_aload_n (i := 2) hB dX10_serve_49 rfl rfl ?_
      refine X_geti hB cw4 fX10_126 rfl hPo.1.1 hPo.1.2 dX10_serve_50 ?_
      refine X_topi (y := nI (dBu (nNd σ (aOr (dat σ d)))).length) (i1) ?_
      refine X_iconst (v := 4) hB dX10_serve_53 (by decide) ?_
      refine X_icmp_lt (tgt := 68) hB dX10_serve_54 (by decide) (fun c54 => ?_) (fun c54 => ?_)
      · have e46 : ¬ (dBu (nNd σ (aOr (dat σ d)))).length = nSe σ 4 := by
          rw [nI_leI (by omega) (by omega)] at c46
          omega
        refine X_aload_n (i := 1) hB dX10_serve_68 rfl rfl ?_
        refine X_iconst (v := 0) hB dX10_serve_69 (by decide) ?_
        refine X_lconst (v := 0) hB dX10_serve_70 (by decide) ?_
        refine X_callV hB kX10_262 cw2 hD.1 hD.2 (c_X2_stand (dA w d) hD 0 0) (by decide) (by decide) rfl rfl (Nat.le_of_ble_eq_true rfl) dX10_serve_71 (fun r71 S71 q71 => ?_)
        obtain ⟨rfl, rfl⟩ := q71
        refine X_aload_n (i := 1) hB dX10_serve_74 rfl rfl ?_
        refine X_aload_n (i := 0) hB dX10_serve_75 rfl rfl ?_
        refine X_geti hB cw8 fX10_57 rfl hW.1.1 hW.1.2 dX10_serve_76 ?_
        refine X_topi (y := nI (nNow σ)) (by rw [show (setJ (setI S (dA w d) 3 0) (dA w d) 5 0).1 w = S.1 w from setI_row _ _ _ (by unfold dA; omega)]; exact hw.2.1.2.2.2.1) ?_
        refine X_puti hB cw2 fX10_274 rfl rfl hD.1 hD.2 dX10_serve_79 ?_
        generalize hS2 : setI (setJ (setI S (dA w d) 3 0) (dA w d) 5 0) (dA w d) 9 (nI (nNow σ)) = S2
        have r2 : S2.2.2 = S.2.2 := by rw [← hS2]; rfl
        have o2 : ∀ a, a ≠ (dA w d) → S2.1 a = S.1 a := fun a ha => by rw [← hS2, setI_row _ _ _ ha]; exact setI_row _ _ _ ha
        obtain ⟨hw2, hc2⟩ : worldR S2 w (uDa σ d (dSi (dRe (dSt (dat σ d) 0) []) (nNow σ))) ∧ wch w S S2 := by
          refine worldR_da hw hd (hS2 ▸ (chg.setI (Nat.le_refl _) (by omega)).tr ((chg.setJ (Nat.le_refl _) (by omega)).tr (chg.setI (Nat.le_refl _) (by omega)))) r2 (by rw [← hS2]; simp [setI, setJ, ups]) ⟨?_, ?_, ?_, ?_, ?_, ?_, ?_, ?_, ?_, ?_⟩ (fun f h1 h2 h3 => absurd h3 (hno f h1 h2)) (hw.cv.da hd rfl rfl)
          · rw [← hS2]; simp [setI, setJ, ups]; exact z1
          · rw [← hS2]; simp [setI, setJ, ups]; exact z2
          · rw [← hS2]; simp [setI, setJ, ups]; rfl
          · rw [← hS2]; simp [setI, setJ, ups]; exact z4
          · rw [← hS2]; simp [setI, setJ, ups]; rfl
          · rw [← hS2]; simp [setI, setJ, ups]; exact z6
          · rw [← hS2]; simp [setI, setJ, ups]; exact z7
          · rw [← hS2]; simp [setI, setJ, ups]; exact z8
          · intro _; rw [← hS2]; simp [setI, setJ, ups]; rfl
          · rw [← hS2]; simp [setI, setJ, ups]; exact z10
        have v1 : S2.1 (dA w d) 1 = nI (aOr (dat σ d)) := by rw [← hS2]; simp [setI, setJ, ups]; exact z1
        have v2 : S2.1 (dA w d) 2 = nI (aEn (dat σ d)) := by rw [← hS2]; simp [setI, setJ, ups]; exact z2
        have hpd : (pA w (aOr (dat σ d))) ≠ (dA w d) ∧ (pA w (aOr (dat σ d))) + 3 ≠ (dA w d) := by unfold pA dA; omega
        have f3 : S2.2.2 (pA w (aOr (dat σ d))) 2 = some ((pA w (aOr (dat σ d))) + 3) := by rw [r2]; exact f3
        have i1 : S2.1 (pA w (aOr (dat σ d))) 3 = nI (dBu (nNd σ (aOr (dat σ d)))).length := by rw [o2 _ hpd.1]; exact i1
        clear hS2
        refine X_aload_n (i := 2) hB dX10_serve_82 rfl rfl ?_
        refine X_getr hB cw4 fX10_277 rfl hPo.1.1 hPo.1.2 f3 dX10_serve_83 ?_
        refine X_aload_n (i := 2) hB dX10_serve_86 rfl rfl ?_
        refine X_geti hB cw4 fX10_126 rfl hPo.1.1 hPo.1.2 dX10_serve_87 ?_
        refine X_topi (y := nI (dBu (nNd σ (aOr (dat σ d)))).length) (i1) ?_
        refine X_aload_n (i := 1) hB dX10_serve_90 rfl rfl ?_
        refine X_geti hB cw2 fX10_200 rfl hD.1 hD.2 dX10_serve_91 ?_
        refine X_topi (y := nI d) (hw2.nu (by omega)) ?_
        refine X_iastN hB ((dBu (nNd σ (aOr (dat σ d)))).length) hPo.2.2.1.1 hPo.2.2.1.2 (by decide) rfl (by omega) dX10_serve_94 ?_
        refine X_aload_n (i := 2) hB dX10_serve_95 rfl rfl ?_
        refine X_dup hB dX10_serve_96 rfl ?_
        refine X_geti hB cw4 fX10_126 rfl hPo.1.1 hPo.1.2 dX10_serve_97 ?_
        refine X_topi (y := nI (dBu (nNd σ (aOr (dat σ d)))).length) (by rw [setI_ne _ _ (Or.inl (by omega))]; exact i1) ?_
        refine X_iconst (v := 1) hB dX10_serve_100 (by decide) ?_
        refine X_iadd hB dX10_serve_101 ?_
        refine X_topi (y := nI ((dBu (nNd σ (aOr (dat σ d)))).length + 1)) (by first | rfl | (simp (disch := omega) only [nlit, nI_add, nI_mul, nI_sub]; done) | (simp (disch := omega) only [nlit, nI_add, nI_mul, nI_sub]; (congr 1 <;> omega))) ?_
        refine X_puti hB cw4 fX10_126 rfl rfl hPo.1.1 hPo.1.2 dX10_serve_102 ?_
        generalize hS4 : setI (setI S2 ((pA w (aOr (dat σ d))) + 3) (dBu (nNd σ (aOr (dat σ d)))).length (nI d)) (pA w (aOr (dat σ d))) 3 (nI ((dBu (nNd σ (aOr (dat σ d)))).length + 1)) = S4
        have hwt : uNd (uDa σ d (dSi (dRe (dSt (dat σ d) 0) []) (nNow σ))) (aOr (dat σ d)) (xBu (nNd (uDa σ d (dSi (dRe (dSt (dat σ d) 0) []) (nNow σ))) (aOr (dat σ d))) ((dBu (nNd σ (aOr (dat σ d)))) ++ [d])) = wait σ d := rfl
        obtain ⟨hw4, hc4⟩ : worldR S4 w (wait σ d) ∧ wch w S2 S4 := by
          rw [← hwt]
          refine bu_world hw2 hn8 (hS4 ▸ (chg.setI (by omega) (by omega)).tr (chg.setI (Nat.le_refl _) (by omega))) (by rw [← hS4]; rfl) (fun a h1 h2 => by rw [← hS4, setI_row _ _ _ h1, setI_row _ _ _ h2]) (by rw [← hS4]; rfl) (by rw [← hS4, setI_at, List.length_append, List.length_singleton]) (fun k hk => by rw [← hS4, setI_ne _ _ (Or.inr hk), setI_ne _ _ (Or.inl (by omega))]) (fun k hk => ?_) (by rw [List.length_append, List.length_singleton]; omega) (fun q => absurd q (show ¬ nSe σ 0 ≤ (aOr (dat σ d)) by omega))
          rw [List.length_append, List.length_singleton] at hk
          rw [← hS4, setI_ne _ _ (Or.inl (by omega))]
          by_cases e : k = (dBu (nNd σ (aOr (dat σ d)))).length
          · rw [e, setI_at, getD_lst]
          · rw [setI_ne _ _ (Or.inr e), o2 _ hpd.2, i6 k (by omega), getD_apl (show k < (dBu (nNd σ (aOr (dat σ d)))).length by omega)]
        have v6 : S4.1 (pA w (aOr (dat σ d))) 6 = nI (bts (fun t => decide (dAk (nNd σ (aOr (dat σ d))) t ≠ none)) 8) := by rw [← hS4, setI_ne _ _ (Or.inr (by decide)), setI_ne _ _ (Or.inl (by omega)), o2 _ hpd.1]; exact i4
        have o4 : ∀ k, S4.1 (dA w d) k = S2.1 (dA w d) k := fun k => by rw [← hS4, setI_ne _ _ (Or.inl (Ne.symm hpd.1)), setI_ne _ _ (Or.inl (Ne.symm hpd.2))]
        clear hS4
        refine X_aload_n (i := 2) hB dX10_serve_105 rfl rfl ?_
        refine X_geti hB cw4 fX10_138 rfl hPo.1.1 hPo.1.2 dX10_serve_106 ?_
        refine X_topi (y := nI (bts (fun t => decide (dAk (nNd σ (aOr (dat σ d))) t ≠ none)) 8)) (v6) ?_
        refine X_aload_n (i := 1) hB dX10_serve_109 rfl rfl ?_
        refine X_geti hB cw2 fX10_162 rfl hD.1 hD.2 dX10_serve_110 ?_
        refine X_topi (y := nI (aEn (dat σ d))) (by rw [o4]; exact v2) ?_
        refine X_ishr hB dX10_serve_113 ?_
        refine X_iconst (v := 1) hB dX10_serve_114 (by decide) ?_
        refine X_iand hB dX10_serve_115 ?_
        refine X_topi (y := if decide (dAk (nNd σ (aOr (dat σ d))) (aEn (dat σ d)) ≠ none) then 1 else 0) (bts_tst _ he8) ?_
        refine X_if_ne (tgt := 131) hB dX10_serve_116 (by decide) (fun c116 => ?_) (fun c116 => ?_)
        · refine X_vret hB rfl dX10_serve_131 ?_
          have e116 : ¬ dAk (nNd σ (aOr (dat σ d))) (aEn (dat σ d)) = none := by simpa using if1 c116
          refine ⟨rfl, ?_, hc2.tr hc4⟩
          unfold serve
          rw [if_neg (not_not_intro e24), if_neg e46, if_neg e116]
          exact hw4
        · have e116 : dAk (nNd σ (aOr (dat σ d))) (aEn (dat σ d)) = none := by simpa using if1n c116
          refine X_aload_n (i := 0) hB dX10_serve_119 rfl rfl ?_
          refine X_aload_n (i := 1) hB dX10_serve_120 rfl rfl ?_
          refine X_geti hB cw2 fX10_159 rfl hD.1 hD.2 dX10_serve_121 ?_
          refine X_topi (y := nI (aOr (dat σ d))) (by rw [o4]; exact v1) ?_
          refine X_aload_n (i := 1) hB dX10_serve_124 rfl rfl ?_
          refine X_geti hB cw2 fX10_162 rfl hD.1 hD.2 dX10_serve_125 ?_
          refine X_topi (y := nI (aEn (dat σ d))) (by rw [o4]; exact v2) ?_
          refine X_callV hB kX10_280 cw8 hW.1.1 hW.1.2 (c_X10_ask w hW (wait σ d) hw4 (aOr (dat σ d)) (aEn (dat σ d)) hcn.1 hcn.2 hc8) (by decide) (by decide) rfl rfl (Nat.le_of_ble_eq_true rfl) dX10_serve_128 (fun r128 S128 q128 => ?_)
          obtain ⟨rfl, g1, g2⟩ := q128
          refine X_vret hB rfl dX10_serve_131 ?_
          refine ⟨rfl, ?_, hc2.tr (hc4.tr g2)⟩
          unfold serve
          rw [if_neg (not_not_intro e24), if_neg e46, if_pos e116]
          exact g1
      · have e46 : (dBu (nNd σ (aOr (dat σ d)))).length = nSe σ 4 := by
          rw [show (4 : Int32) = nI 4 from rfl, nI_ltI (by omega) (by omega)] at c54
          omega
        refine X_aload_n (i := 0) hB dX10_serve_57 rfl rfl ?_
        refine X_aload_n (i := 1) hB dX10_serve_58 rfl rfl ?_
        refine X_iconst (v := 3) hB dX10_serve_59 (by decide) ?_
        refine X_bipush (v := 10) hB dX10_serve_60 (by decide) ?_
        refine X_callV hB kX10_266 cw8 hW.1.1 hW.1.2 (c_X10_finish w hW σ hw d 3 10 hd (Or.inr rfl) rfl hno) (by decide) (by decide) rfl rfl (Nat.le_of_ble_eq_true rfl) dX10_serve_62 (fun r62 S62 q62 => ?_)
        obtain ⟨rfl, g1, g2⟩ := q62
        refine X_goto (tgt := 131) hB dX10_serve_65 (by decide) ?_
        refine X_vret hB rfl dX10_serve_131 ?_
        refine ⟨rfl, ?_, g2⟩
        unfold serve
        rw [if_neg (not_not_intro e24), if_pos e46]
        exact g1
  · have e24 : wayN σ (aOr (dat σ d)) (aEn (dat σ d)) ≠ [] := fun q => c24 ((cmp_0 hwr).mpr q)
    refine X_aload_n (i := 0) hB dX10_serve_27 rfl rfl ?_
    refine X_aload_n (i := 1) hB dX10_serve_28 rfl rfl ?_
    refine X_lload_n (i := 3) hB dX10_serve_29 rfl rfl ?_
    refine X_callV hB kX10_270 cw8 hW.1.1 hW.1.2 (c_X10_emitData w hW σ hw d (wayN σ (aOr (dat σ d)) (aEn (dat σ d))) hd hno (hgw e24).R (hgw e24).2.2.2.1 (by rw [(hgw e24).2.1, (tr_one hdb ht).2])) (by decide) (by decide) rfl rfl (Nat.le_of_ble_eq_true rfl) dX10_serve_30 (fun r30 S30 q30 => ?_)
    obtain ⟨rfl, g1, g2⟩ := q30
    refine X_goto (tgt := 131) hB dX10_serve_33 (by decide) ?_
    refine X_vret hB rfl dX10_serve_131 ?_
    refine ⟨rfl, ?_, g2⟩
    unfold serve
    rw [if_pos e24]
    exact g1
end CLS
