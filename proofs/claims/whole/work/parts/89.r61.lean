/-! the class: a data arrives -/
section CLS
variable {G : Gc} {S : St}
set_option maxRecDepth 100000 in
set_option maxHeartbeats 4000000 in
theorem l_X10_dataArrives {E : Ev} (hB : Bd G E mX10_dataArrives) {Q : Option Value → St → Prop} (w : Nat) (hW : WLay G w) (a d x y b en : Nat) (T R : List Nat) (up : Nat → Nat → Bool) (σ1 : Net) (hx8 : x < 8) (hT2 : 2 ≤ T.length) (hnd : (T ++ R.tail).Nodup) (hT8 : ∀ q ∈ T, q < 8) (hR8 : ∀ q ∈ R, q < 8) (hR1 : 1 ≤ R.length) (hR0 : R.getD 0 0 ∈ T) (hfa : S.2.2 (w + 3) 3 = some a) (hfk : a ∈ gL G ∧ gK G a = .inl 3) (ha1 : S.1 a 1 = nI x) (kk : ∀ S1, wch w S S1 → worldR S1 w (iterN (hearD x d) 8 σ1) → hrO b d T R en up (iterN (hearD x d) 8 σ1) → X G E mX10_dataArrives 4 Q S1 146 [some (.ref w), some (.ref a), some (.ref (dA w d)), some (.int (nI y)), some (.long (rJ T.reverse)), none, some (.int (nI 8))] []) :
    ∀ (k z : Nat) (S1 : St), z + k = 8 → wch w S S1 → worldR S1 w (iterN (hearD x d) z σ1) → hrO b d T R en up (iterN (hearD x d) z σ1) → X G E mX10_dataArrives 4 Q S1 78 [some (.ref w), some (.ref a), some (.ref (dA w d)), some (.int (nI y)), some (.long (rJ T.reverse)), none, some (.int (nI z))] [] := by
  have hTn := (List.nodup_append.mp hnd).1
  have hTR : okR T := okR.of hTn hT8
  have hTl := hTR.1
  intro k
  induction k with
  | zero =>
    intro z S1 h1 h2 h3 h4
    have e9 : z = 8 := by omega
    subst e9
    refine X_iload hB dX10_dataArrives_78 rfl ?_
    refine X_bipush (v := 8) hB dX10_dataArrives_80 (by decide) ?_
    refine X_icmp_ge (tgt := 146) hB dX10_dataArrives_82 (by decide) (fun c82 => ?_) (fun c82 => absurd c82 (by simp (disch := omega) only [nlit, nI_leI, nI_ltI]; omega))
    exact kk S1 h2 h3 h4
  | succ k ih =>
    intro z S1 h1 h2 h3 h4
    have hz8 : z < 8 := by omega
    have hup := h4.1.2.2.2.2.2.2.1.sym
    have hd := h4.2.1
    have hd40 := h3.l40.2
    have hD := hW.dd (show d < 40 by omega)
    have hPo := hW.po hz8
    obtain ⟨z1, z2, z3, z4, z5, z6, z7, z8, z9, z10⟩ := h3.dc hd
    have z6 : S1.2.1 (dA w d) 6 = rJ T := by rw [z6, h4.2.2.1]
    have hfr := h2.2.2 a hfa
    refine X_iload hB dX10_dataArrives_78 rfl ?_
    refine X_bipush (v := 8) hB dX10_dataArrives_80 (by decide) ?_
    refine X_icmp_ge (tgt := 146) hB dX10_dataArrives_82 (by decide) (fun c82 => absurd c82 (by simp (disch := omega) only [nlit, nI_leI, nI_ltI]; omega)) (fun c82 => ?_)
    refine X_aload_n (i := 0) hB dX10_dataArrives_85 rfl rfl ?_
    refine X_iload hB dX10_dataArrives_86 rfl ?_
    refine X_aload_n (i := 1) hB dX10_dataArrives_88 rfl rfl ?_
    refine X_geti hB cw3 fX10_216 rfl hfk.1 hfk.2 dX10_dataArrives_89 ?_
    refine X_topi (y := nI x) (by rw [hfr.1]; exact ha1) ?_
    refine X_callV hB kX10_320 cw8 hW.1.1 hW.1.2 (c_X10_overhears w hW (iterN (hearD x d) z σ1) h3 hup z x hz8 hx8) (by decide) (by decide) rfl rfl (Nat.le_of_ble_eq_true rfl) dX10_dataArrives_92 (fun r92 S92 q92 => ?_)
    obtain ⟨rfl, rfl⟩ := q92
    refine X_if_eq (tgt := 140) hB dX10_dataArrives_95 (by decide) (fun c95 => ?_) (fun c95 => ?_)
    · refine X_iinc hB dX10_dataArrives_140 rfl rfl (by decide) rfl ?_
      refine X_goto (tgt := 78) hB dX10_dataArrives_143 (by decide) ?_
      have hh : hearD x d z (iterN (hearD x d) z σ1) = (iterN (hearD x d) z σ1) := hearD_no h4.2.2.1 (fun q1 q2 => absurd (by rw [hup z x, q1, q2]; rfl) (if1n c95))
      refine X_lv ?_ (ih (z + 1) S1 (by omega) h2 (show worldR S1 w (hearD x d z (iterN (hearD x d) z σ1)) by rw [hh]; exact h3) (h4.hr (by omega) hT2 hnd hR8))
      · rw [nI_succ]; rfl
    · have e95 : nUp (iterN (hearD x d) z σ1) z x = true ∧ dLis (nNd (iterN (hearD x d) z σ1) z) = true := by
        have q := if1 c95
        rw [Bool.and_eq_true] at q
        exact q
      have hzT9 : z ≠ x := (h4.1.2.2.2.2.2.2.1 z x e95.1).2.2.1
      refine X_aload_n (i := 2) hB dX10_dataArrives_98 rfl rfl ?_
      refine X_getj hB cw2 fX10_171 rfl hD.1 hD.2 dX10_dataArrives_99 ?_
      refine X_topl (y := rJ T) (z6) ?_
      refine X_iload hB dX10_dataArrives_102 rfl ?_
      refine X_callS hB kX10_323 (c_X8_holds T hTR z hz8) (by decide) (by decide) rfl rfl (Nat.le_of_ble_eq_true rfl) dX10_dataArrives_104 (fun r104 S104 q104 => ?_)
      obtain ⟨rfl, rfl⟩ := q104
      refine X_if_ne (tgt := 140) hB dX10_dataArrives_107 (by decide) (fun c107 => ?_) (fun c107 => ?_)
      · refine X_iinc hB dX10_dataArrives_140 rfl rfl (by decide) rfl ?_
        refine X_goto (tgt := 78) hB dX10_dataArrives_143 (by decide) ?_
        have hh : hearD x d z (iterN (hearD x d) z σ1) = (iterN (hearD x d) z σ1) := hearD_no h4.2.2.1 (fun _ _ => if1 c107)
        refine X_lv ?_ (ih (z + 1) S1 (by omega) h2 (show worldR S1 w (hearD x d z (iterN (hearD x d) z σ1)) by rw [hh]; exact h3) (h4.hr (by omega) hT2 hnd hR8))
        · rw [nI_succ]; rfl
      · have e107 : z ∉ T := if1n c107
        refine X_aload_n (i := 0) hB dX10_dataArrives_110 rfl rfl ?_
        refine X_iload hB dX10_dataArrives_111 rfl ?_
        refine X_callV hB kX10_102 cw8 hW.1.1 hW.1.2 (c_X10_post w hW h3.1 z hz8) (by decide) (by decide) rfl rfl (Nat.le_of_ble_eq_true rfl) dX10_dataArrives_113 (fun r113 S113 q113 => ?_)
        obtain ⟨rfl, rfl⟩ := q113
        refine X_getr hB cw4 fX10_72 rfl hPo.1.1 hPo.1.2 (h3.po hz8).1.1 dX10_dataArrives_116 ?_
        refine X_iload hB dX10_dataArrives_119 rfl ?_
        refine X_lload hB dX10_dataArrives_121 rfl ?_
        refine X_iconst (v := 1) hB dX10_dataArrives_123 (by decide) ?_
        refine X_callS hB kX10_314 (c_X8_from T.reverse hTR.rev 1 (by decide)) (by decide) (by decide) rfl rfl (Nat.le_of_ble_eq_true rfl) dX10_dataArrives_124 (fun r124 S124 q124 => ?_)
        obtain ⟨rfl, rfl⟩ := q124
        refine X_topl (y := rJ (T.take (T.length - 1)).reverse) (by rw [rev_drop1]) ?_
        refine X_callS hB kX10_327 (c_X8_behind (T.take (T.length - 1)).reverse (hTR.take _).rev z hz8) (by decide) (by decide) rfl rfl (Nat.le_of_ble_eq_true rfl) dX10_dataArrives_127 (fun r127 S127 q127 => ?_)
        obtain ⟨rfl, rfl⟩ := q127
        refine X_topl (y := rJ (z :: (T.take (T.length - 1)).reverse)) (by rw [List.take_of_length_le (by rw [List.length_reverse, List.length_take]; omega)]) ?_
        have hLR : okR (z :: (T.take (T.length - 1)).reverse) := (hTR.take _).rev.cons hz8 (by rw [List.length_reverse, List.length_take]; omega)
        have hLn : (z :: (T.take (T.length - 1)).reverse).Nodup := List.nodup_cons.mpr ⟨fun q => e107 (List.mem_of_mem_take (List.mem_reverse.mp q)), nodup_rev (hTn.sublist (List.take_sublist _ _))⟩
        refine X_callV hB kX10_316 cw1 hPo.2.2.2.2.1.1 hPo.2.2.2.2.1.2 (c_X1_learn (pA w z + 5) z (nSe (iterN (hearD x d) z σ1) 1) (nSe (iterN (hearD x d) z σ1) 2) (dMap (nNd (iterN (hearD x d) z σ1) z)) (dCa (nNd (iterN (hearD x d) z σ1) z)) (hW.po hz8).2.2.2.2 (h3.po hz8).2.2.1 (z :: (T.take (T.length - 1)).reverse) hLR hLn) (by decide) (by decide) rfl rfl (Nat.le_of_ble_eq_true rfl) dX10_dataArrives_130 (fun r130 S130 q130 => ?_)
        obtain ⟨rfl, g1, g2, g3⟩ := q130
        have hzc : z < nSe (iterN (hearD x d) z σ1) 0 := (h4.1.2.2.2.2.2.2.1 z x e95.1).1
        obtain ⟨w5, c5⟩ : worldR S130 w (learnN (iterN (hearD x d) z σ1) z (z :: (T.take (T.length - 1)).reverse)) ∧ wch w S1 S130 := ca_world h3 hz8 g1 g2 g3 (fun q => by omega)
        have e5T : aTr (dat (learnN (iterN (hearD x d) z σ1) z (z :: (T.take (T.length - 1)).reverse)) d) = T := h4.2.2.1
        have e5R : aRe (dat (learnN (iterN (hearD x d) z σ1) z (z :: (T.take (T.length - 1)).reverse)) d) = R := h4.2.2.2.1
        clear g1 g2 g3
        refine X_aload_n (i := 0) hB dX10_dataArrives_133 rfl rfl ?_
        refine X_aload_n (i := 2) hB dX10_dataArrives_134 rfl rfl ?_
        refine X_iload hB dX10_dataArrives_135 rfl ?_
        refine X_callV hB kX10_331 cw8 hW.1.1 hW.1.2 (c_X10_shorten w hW (learnN (iterN (hearD x d) z σ1) z (z :: (T.take (T.length - 1)).reverse)) w5 d hd z hz8 (by rw [e5T]; exact hT2) (by rw [e5R]; exact hR1) (by rw [e5T, e5R]; exact hnd) (by rw [e5T]; exact hT8) (by rw [e5R]; exact hR8) h4.2.2.2.2.2.1.1.2.2.2.1 (by rw [e5T]; exact e107) (by rw [e5T, e5R]; exact hR0)) (by decide) (by decide) rfl rfl (Nat.le_of_ble_eq_true rfl) dX10_dataArrives_137 (fun r137 S137 q137 => ?_)
        obtain ⟨rfl, g1, g2⟩ := q137
        refine X_iinc hB dX10_dataArrives_140 rfl rfl (by decide) rfl ?_
        refine X_goto (tgt := 78) hB dX10_dataArrives_143 (by decide) ?_
        have hh : hearD x d z (iterN (hearD x d) z σ1) = shortenD (learnN (iterN (hearD x d) z σ1) z (z :: (T.take (T.length - 1)).reverse)) d z := hearD_yes h4.2.2.1 hzT9 (hup z x ▸ e95.1) e95.2 e107
        refine X_lv ?_ (ih (z + 1) S137 (by omega) (h2.tr (c5.tr g2)) (show worldR S137 w (hearD x d z (iterN (hearD x d) z σ1)) by rw [hh]; exact g1) (h4.hr (by omega) hT2 hnd hR8))
        · rw [nI_succ]; rfl
set_option maxRecDepth 100000 in
set_option maxHeartbeats 4000000 in
theorem c_X10_dataArrives (w : Nat) (hW : WLay G w) (σ : Net) (hw : worldR S w σ) (b d a : Nat) (hO : wfO σ b d) (hd : d < (nDa σ).length) (hdk : daOk (dat σ d)) (hst : aSt (dat σ d) = 1) (hup1 : nUp σ (trL (dat σ d)) ((aRe (dat σ d)).getD 1 0) = true) (hfa : S.2.2 (w + 3) 3 = some a) (hfl : w + 5 ≤ a ∧ a < w + 46) (hfm : fmR S a σ (0, (trL (dat σ d)), d, 0, none, [])) : C G mX10_dataArrives 4 [.ref w, .ref a] S (fun r S' => r = none ∧ worldR S' w (arrData σ d (trL (dat σ d))) ∧ wch w S S') := by
  obtain ⟨y, re, hre, hy8, hyT, hTn, hT8, hnd, hR8, hRn, hRe, hwm, hI⟩ := da_in hO hd hdk hst
  have hre1 : (aRe (dat σ d)).getD 1 0 = y := by rw [hre]; rfl
  rw [hre1] at hup1
  have hret : (aRe (dat σ d)).tail = (y :: re) := by rw [hre]; rfl
  have hd40 := hw.l40.2
  have hD := hW.dd (show d < 40 by omega)
  have hfk := hW.2.2.2.2.2.1 a hfl.1 hfl.2
  have hPo := hW.po hy8
  have hTR : okR (aTr (dat σ d) ++ [y]) := okR.of hTn hT8
  have hTl := hTR.1
  have hRR : okR (y :: re) := okR.of hRn hR8
  have hx8 : (trL (dat σ d)) < 8 := hdk.b.tl.1
  have hre2 : okR (aRe (dat σ d)) := ⟨(daOk_len hdk).2, hdk.2.1.2.2.2.1⟩
  have hTo : okR (aTr (dat σ d)) := ⟨(daOk_len hdk).1, hdk.2.1.2.2.1⟩
  rw [List.length_append, List.length_singleton] at hTl
  have hyc : y < nSe σ 0 := (hO.2.2.2.2.2.2.1 _ _ hup1).2.1
  have ha2 : S.1 a 2 = nI y := by rw [hfm.2.2.1]; show (if (0 : Nat) = 0 then nI ((aRe (dat σ d)).getD 1 0) else _) = _; rw [if_pos rfl, hre1]
  have ha3 : S.1 a 3 = nI d := hfm.2.2.2.1
  have ha6 : S.2.1 a 6 = rJ (aRe (dat σ d)) := by rw [hfm.2.2.2.2.2.2]; show rJ (if (0 : Nat) = 0 then aRe (dat σ d) else _) = _; rw [if_pos rfl]
  have haA : a ≠ (dA w d) := by unfold dA; omega
  obtain ⟨z1, z2, z3, z4, z5, z6, z7, z8, z9, z10⟩ := hw.dc hd
  refine C.mk (lv := [some (.ref w), some (.ref a), none, none, none, none, none]) (by decide) (Nat.le_of_ble_eq_true rfl) rfl (fun E hB => ?_)
  refine X_aload_n (i := 0) hB dX10_dataArrives_0 rfl rfl ?_
  refine X_aload_n (i := 1) hB dX10_dataArrives_1 rfl rfl ?_
  refine X_geti hB cw3 fX10_301 rfl hfk.1 hfk.2 dX10_dataArrives_2 ?_
  refine X_topi (y := nI d) (ha3) ?_
  refine X_callV hB kX10_155 cw8 hW.1.1 hW.1.2 (c_X10_datum w hW hw.1 d (by omega)) (by decide) (by decide) rfl rfl (Nat.le_of_ble_eq_true rfl) dX10_dataArrives_5 (fun r5 S5 q5 => ?_)
  obtain ⟨rfl, rfl⟩ := q5
  refine X_astore_n (i := 2) hB dX10_dataArrives_8 rfl (by decide) rfl ?_
  refine X_aload_n (i := 1) hB dX10_dataArrives_9 rfl rfl ?_
  refine X_geti hB cw3 fX10_219 rfl hfk.1 hfk.2 dX10_dataArrives_10 ?_
  refine X_topi (y := nI y) (ha2) ?_
  refine X_istore_n (i := 3) hB dX10_dataArrives_13 rfl (by decide) rfl ?_
  refine X_aload_n (i := 2) hB dX10_dataArrives_14 rfl rfl ?_
  refine X_aload_n (i := 2) hB dX10_dataArrives_15 rfl rfl ?_
  refine X_getj hB cw2 fX10_171 rfl hD.1 hD.2 dX10_dataArrives_16 ?_
  refine X_topl (y := rJ (aTr (dat σ d))) (z6) ?_
  refine X_iload_n (i := 3) hB dX10_dataArrives_19 rfl rfl ?_
  refine X_callS hB kX10_287 (c_X8_with (aTr (dat σ d)) hTo y hy8) (by decide) (by decide) rfl rfl (Nat.le_of_ble_eq_true rfl) dX10_dataArrives_20 (fun r20 S20 q20 => ?_)
  obtain ⟨rfl, rfl⟩ := q20
  refine X_topl (y := rJ (aTr (dat σ d) ++ [y])) (if_pos (by omega)) ?_
  refine X_putj hB cw2 fX10_171 rfl rfl hD.1 hD.2 dX10_dataArrives_23 ?_
  refine X_aload_n (i := 2) hB dX10_dataArrives_26 rfl rfl ?_
  refine X_aload_n (i := 1) hB dX10_dataArrives_27 rfl rfl ?_
  refine X_getj hB cw3 fX10_311 rfl hfk.1 hfk.2 dX10_dataArrives_28 ?_
  refine X_topl (y := rJ (aRe (dat σ d))) (by rw [setJ_ne _ _ (Or.inl haA)]; exact ha6) ?_
  refine X_iconst (v := 1) hB dX10_dataArrives_31 (by decide) ?_
  refine X_callS hB kX10_314 (c_X8_from (aRe (dat σ d)) hre2 1 (by decide)) (by decide) (by decide) rfl rfl (Nat.le_of_ble_eq_true rfl) dX10_dataArrives_32 (fun r32 S32 q32 => ?_)
  obtain ⟨rfl, rfl⟩ := q32
  refine X_topl (y := rJ (y :: re)) (by rw [List.drop_one, hret]) ?_
  refine X_putj hB cw2 fX10_178 rfl rfl hD.1 hD.2 dX10_dataArrives_35 ?_
  generalize hS1 : setJ (setJ S (dA w d) 6 (rJ (aTr (dat σ d) ++ [y]))) (dA w d) 5 (rJ (y :: re)) = S1
  obtain ⟨hw1, hc1⟩ : worldR S1 w (mvD σ d y) ∧ wch w S S1 := by
    unfold mvD
    rw [hret]
    refine worldR_da hw hd (hS1 ▸ (chg.setJ (Nat.le_refl _) (by omega)).tr (chg.setJ (Nat.le_refl _) (by omega))) (by rw [← hS1]; rfl) (by rw [← hS1]; rfl) ⟨?_, ?_, ?_, ?_, ?_, ?_, ?_, ?_, ?_, ?_⟩ (fun f h1 h2 h3 => absurd h3 (hO.nof f h1 h2)) (hw.cv.da hd rfl rfl)
    · rw [← hS1]; exact z1
    · rw [← hS1]; exact z2
    · rw [← hS1]; exact z3
    · rw [← hS1]; exact z4
    · rw [← hS1]; simp [setJ, ups]; rfl
    · rw [← hS1]; simp [setJ, ups]; rfl
    · rw [← hS1]; exact z7
    · rw [← hS1]; exact z8
    · intro q; rw [← hS1]; exact z9 q
    · rw [← hS1]; exact z10
  have v6 : S1.2.1 (dA w d) 6 = rJ (aTr (dat σ d) ++ [y]) := by rw [← hS1]; simp [setJ, ups]
  have v5 : S1.2.1 (dA w d) 5 = rJ (y :: re) := by rw [← hS1]; simp [setJ, ups]
  clear hS1
  refine X_aload_n (i := 2) hB dX10_dataArrives_38 rfl rfl ?_
  refine X_getj hB cw2 fX10_171 rfl hD.1 hD.2 dX10_dataArrives_39 ?_
  refine X_topl (y := rJ (aTr (dat σ d) ++ [y])) (v6) ?_
  refine X_callS hB kX10_304 (c_X8_reversed (aTr (dat σ d) ++ [y]) hTR) (by decide) (by decide) rfl rfl (Nat.le_of_ble_eq_true rfl) dX10_dataArrives_42 (fun r42 S42 q42 => ?_)
  obtain ⟨rfl, rfl⟩ := q42
  refine X_lstore hB dX10_dataArrives_45 (by decide) rfl ?_
  refine X_aload_n (i := 0) hB dX10_dataArrives_47 rfl rfl ?_
  refine X_iload_n (i := 3) hB dX10_dataArrives_48 rfl rfl ?_
  refine X_callV hB kX10_102 cw8 hW.1.1 hW.1.2 (c_X10_post w hW hw1.1 y hy8) (by decide) (by decide) rfl rfl (Nat.le_of_ble_eq_true rfl) dX10_dataArrives_49 (fun r49 S49 q49 => ?_)
  obtain ⟨rfl, rfl⟩ := q49
  refine X_getr hB cw4 fX10_72 rfl hPo.1.1 hPo.1.2 (hw1.po hy8).1.1 dX10_dataArrives_52 ?_
  refine X_aload_n (i := 2) hB dX10_dataArrives_55 rfl rfl ?_
  refine X_getj hB cw2 fX10_178 rfl hD.1 hD.2 dX10_dataArrives_56 ?_
  refine X_topl (y := rJ (y :: re)) (v5) ?_
  refine X_callV hB kX10_316 cw1 hPo.2.2.2.2.1.1 hPo.2.2.2.2.1.2 (c_X1_learn (pA w y + 5) y (nSe (mvD σ d y) 1) (nSe (mvD σ d y) 2) (dMap (nNd (mvD σ d y) y)) (dCa (nNd (mvD σ d y) y)) (hW.po hy8).2.2.2.2 (hw1.po hy8).2.2.1 (y :: re) hRR hRn) (by decide) (by decide) rfl rfl (Nat.le_of_ble_eq_true rfl) dX10_dataArrives_59 (fun r59 S59 q59 => ?_)
  obtain ⟨rfl, g1, g2, g3⟩ := q59
  obtain ⟨hw2, hc2⟩ : worldR S59 w (learnN (mvD σ d y) y (y :: re)) ∧ wch w S1 S59 := ca_world hw1 hy8 g1 g2 g3 (fun q => absurd q (show ¬ nSe σ 0 ≤ y by omega))
  clear g1 g2 g3
  refine X_aload_n (i := 0) hB dX10_dataArrives_62 rfl rfl ?_
  refine X_iload_n (i := 3) hB dX10_dataArrives_63 rfl rfl ?_
  refine X_callV hB kX10_102 cw8 hW.1.1 hW.1.2 (c_X10_post w hW hw2.1 y hy8) (by decide) (by decide) rfl rfl (Nat.le_of_ble_eq_true rfl) dX10_dataArrives_64 (fun r64 S64 q64 => ?_)
  obtain ⟨rfl, rfl⟩ := q64
  refine X_getr hB cw4 fX10_72 rfl hPo.1.1 hPo.1.2 (hw2.po hy8).1.1 dX10_dataArrives_67 ?_
  refine X_lload hB dX10_dataArrives_70 rfl ?_
  refine X_callV hB kX10_316 cw1 hPo.2.2.2.2.1.1 hPo.2.2.2.2.1.2 (c_X1_learn (pA w y + 5) y (nSe (learnN (mvD σ d y) y (y :: re)) 1) (nSe (learnN (mvD σ d y) y (y :: re)) 2) (dMap (nNd (learnN (mvD σ d y) y (y :: re)) y)) (dCa (nNd (learnN (mvD σ d y) y (y :: re)) y)) (hW.po hy8).2.2.2.2 (hw2.po hy8).2.2.1 (aTr (dat σ d) ++ [y]).reverse hTR.rev (nodup_rev hTn)) (by decide) (by decide) rfl rfl (Nat.le_of_ble_eq_true rfl) dX10_dataArrives_72 (fun r72 S72 q72 => ?_)
  obtain ⟨rfl, g1, g2, g3⟩ := q72
  have hlr : learnN (learnN (mvD σ d y) y (y :: re)) y (aTr (dat σ d) ++ [y]).reverse = (lrnD σ d y) := by unfold lrnD; rw [hret]
  obtain ⟨hw3, hc3⟩ : worldR S72 w (lrnD σ d y) ∧ wch w S59 S72 := hlr ▸ ca_world hw2 hy8 g1 g2 g3 (fun q => absurd q (show ¬ nSe σ 0 ≤ y by omega))
  clear g1 g2 g3
  refine X_iconst (v := 0) hB dX10_dataArrives_75 (by decide) ?_
  refine X_istore hB dX10_dataArrives_76 (by decide) rfl ?_
  refine X_dl [some (.ref w), some (.ref a), some (.ref (dA w d)), some (.int (nI y)), some (.long (rJ (aTr (dat σ d) ++ [y]).reverse)), none, some (.int (nI 0))] ⟨rfl, rfl, rfl, rfl, rfl, by rw [nI_0], trivial⟩ (l_X10_dataArrives (S := S) hB w hW a d (trL (dat σ d)) y b (aEn (dat σ d)) (aTr (dat σ d) ++ [y]) (y :: re) (nUp σ) (lrnD σ d y) hx8 (by rw [List.length_append, List.length_singleton]; have := hdk.2.1.1; omega) hnd hT8 hR8 (by simp) (by simp) hfa hfk hfm.2.1 (fun S9 g1 g2 g3 => ?_) 8 0 S72 (by omega) (hc1.tr (hc2.tr hc3)) hw3 hI)
  have hdx : d < (nDa (iterN (hearD (trL (dat σ d)) d) 8 (lrnD σ d y))).length := g3.2.1
  have hse : nSe (lrnD σ d y) = nSe σ := rfl
  have hi8 : (iterN (hearD (trL (dat σ d)) d) 8 (lrnD σ d y)) = iterN (hearD (trL (dat σ d)) d) (nSe σ 0) (lrnD σ d y) := by
    have hc8 := hO.1.1.2
    have := iterN_out (f := hearD (trL (dat σ d)) d) (σ := (lrnD σ d y)) (c := nSe σ 0) (fun z τ hz hτ => by
      have hge : nSe τ = nSe σ ∧ nUp τ = nUp σ := by
        rw [hτ]
        have := geN.it (f := hearD (trL (dat σ d)) d) (fun z τ => by unfold hearD; split; (exact geN.nd.tr geN.sh); (exact geN.rf)) (nSe σ 0) (lrnD σ d y)
        exact ⟨this.1, this.2.2.1⟩
      exact hearD_out (by rw [hge.1, hge.2]; exact hO.2.2.2.2.2.2.1) (by rw [hge.1]; exact hz)) (8 - nSe σ 0)
    rw [show nSe σ 0 + (8 - nSe σ 0) = 8 by omega] at this
    exact this
  have hgo : arrData σ d (trL (dat σ d)) = if y = aEn (dat σ d) then doneD (iterN (hearD (trL (dat σ d)) d) 8 (lrnD σ d y)) d 2 else flyOn (iterN (hearD (trL (dat σ d)) d) 8 (lrnD σ d y)) d := by
    unfold arrData
    rw [hre1, if_pos hup1, hi8]
  obtain ⟨u1, u2, u3, u4, u5, u6, u7, u8, u9, u10⟩ := g2.dc hdx
  have hen : aEn (dat (iterN (hearD (trL (dat σ d)) d) 8 (lrnD σ d y)) d) = aEn (dat σ d) := g3.2.2.2.2.1
  refine X_iload_n (i := 3) hB dX10_dataArrives_146 rfl rfl ?_
  refine X_aload_n (i := 2) hB dX10_dataArrives_147 rfl rfl ?_
  refine X_geti hB cw2 fX10_162 rfl hD.1 hD.2 dX10_dataArrives_148 ?_
  refine X_topi (y := nI (aEn (dat σ d))) (by rw [u2, hen]) ?_
  refine X_icmp_ne (tgt := 165) hB dX10_dataArrives_151 (by decide) (fun c151 => ?_) (fun c151 => ?_)
  · have e151 : ¬ y = aEn (dat σ d) := fun q => c151 (by rw [← q])
    refine X_aload_n (i := 0) hB dX10_dataArrives_165 rfl rfl ?_
    refine X_aload_n (i := 2) hB dX10_dataArrives_166 rfl rfl ?_
    refine X_aload_n (i := 2) hB dX10_dataArrives_167 rfl rfl ?_
    refine X_getj hB cw2 fX10_178 rfl hD.1 hD.2 dX10_dataArrives_168 ?_
    refine X_topl (y := rJ (y :: re)) (by rw [u5, g3.2.2.2.1]) ?_
    refine X_callV hB kX10_270 cw8 hW.1.1 hW.1.2 (c_X10_emitData w hW (iterN (hearD (trL (dat σ d)) d) 8 (lrnD σ d y)) g2 d (y :: re) hdx g3.1.nof hRR (by
      cases re with
      | nil => exact absurd hRe e151
      | cons p t => simp) (by
      show y = (aTr (dat (iterN (hearD (trL (dat σ d)) d) 8 (lrnD σ d y)) d)).getD ((aTr (dat (iterN (hearD (trL (dat σ d)) d) 8 (lrnD σ d y)) d)).length - 1) 0
      rw [g3.2.2.1]; simp)) (by decide) (by decide) rfl rfl (Nat.le_of_ble_eq_true rfl) dX10_dataArrives_171 (fun r171 S171 q171 => ?_)
    obtain ⟨rfl, k1, k2⟩ := q171
    refine X_vret hB rfl dX10_dataArrives_174 ?_
    refine ⟨rfl, ?_, g1.tr k2⟩
    rw [hgo, if_neg e151, flyOn_eq hdx, g3.2.2.2.1]
    exact k1
  · have e151 : y = aEn (dat σ d) := (nI_eq (by omega) (by have := hdk.1.2.1; omega)).mp c151
    refine X_aload_n (i := 0) hB dX10_dataArrives_154 rfl rfl ?_
    refine X_aload_n (i := 2) hB dX10_dataArrives_155 rfl rfl ?_
    refine X_iconst (v := 2) hB dX10_dataArrives_156 (by decide) ?_
    refine X_bipush (v := 9) hB dX10_dataArrives_157 (by decide) ?_
    refine X_callV hB kX10_266 cw8 hW.1.1 hW.1.2 (c_X10_finish w hW (iterN (hearD (trL (dat σ d)) d) 8 (lrnD σ d y)) g2 d 2 9 hdx (Or.inl rfl) rfl g3.1.nof) (by decide) (by decide) rfl rfl (Nat.le_of_ble_eq_true rfl) dX10_dataArrives_159 (fun r159 S159 q159 => ?_)
    obtain ⟨rfl, k1, k2⟩ := q159
    refine X_goto (tgt := 174) hB dX10_dataArrives_162 (by decide) ?_
    refine X_vret hB rfl dX10_dataArrives_174 ?_
    refine ⟨rfl, ?_, g1.tr k2⟩
    rw [hgo, if_pos e151]
    exact k1
end CLS
