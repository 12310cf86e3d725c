section REF
variable {G : Gc} {S : St} {h : Nat}
set_option maxRecDepth 100000 in
set_option maxHeartbeats 4000000 in
theorem c_dataComes (hR : RLay G h) (hF : RRef S h) (σ : Net) (b : Nat) (hw : wfN σ b) (hN : netR (S.1 (h + 1)) σ) (d x : Nat) (hd : d < (nDa σ).length) (hst : aSt (dat σ d) = 1) (hx8 : x < 8) (hcm : frS (S.1 (h + 12)) (0, x, d, 0, none, [])) : C G mX12_dataComes 7 [.ref h] S (fun r S' => r = none ∧ fr h [h + 1, h + 7, h + 8, h + 9, h + 10, h + 11] [20, 22] S S' ∧ netR (S'.1 (h + 1)) (arrData σ d x)) := by
  have hs := hw.sz
  have hd40 := hs.2.1
  have hda := hw.da hd
  have hx := hN.2.2.2 d hd
  have hl := dat_len hs hd
  have hse := hw.1
  have hre := hda.2.2.1 hst
  have hy8 : ((aRe (dat σ d)).getD 1 0) < 8 := hda.2.1.2.2.2.1 _ (getD_mem (by omega))
  have hT1 := hda.2.1.1
  refine C.mk (lv := [some (.ref h), none, none, none, none]) (by decide) (Nat.le_of_ble_eq_true rfl) rfl (fun E hB => ?_)
  refine X_aload_n (i := 0) hB dX12_dataComes_0 rfl rfl ?_
  refine X_getr hB cw10 fX12_45 rfl hR.1.1 hR.1.2 hF.2.2.2.2.2.2.2.2.2.2.2 dX12_dataComes_1 ?_
  refine X_iconst (v := 2) hB dX12_dataComes_4 (by decide) ?_
  refine X_ialdN hB (2) hR.2.2.2.2.2.2.2.2.2.2.2.2.1 hR.2.2.2.2.2.2.2.2.2.2.2.2.2 (by decide) (by first | rfl | (simp (disch := omega) only [nlit, nI_add, nI_mul, nI_sub]; done) | (simp (disch := omega) only [nlit, nI_add, nI_mul, nI_sub]; (congr 1 <;> omega))) (by first | omega | (simp only []; omega)) (show _ = nI d from hcm.1 2 (by decide)) dX12_dataComes_5 ?_
  refine X_istore_n (i := 1) hB dX12_dataComes_6 rfl (by decide) rfl ?_
  refine X_aload_n (i := 0) hB dX12_dataComes_7 rfl rfl ?_
  refine X_getr hB cw10 fX12_45 rfl hR.1.1 hR.1.2 hF.2.2.2.2.2.2.2.2.2.2.2 dX12_dataComes_8 ?_
  refine X_iconst (v := 1) hB dX12_dataComes_11 (by decide) ?_
  refine X_ialdN hB (1) hR.2.2.2.2.2.2.2.2.2.2.2.2.1 hR.2.2.2.2.2.2.2.2.2.2.2.2.2 (by decide) (by first | rfl | (simp (disch := omega) only [nlit, nI_add, nI_mul, nI_sub]; done) | (simp (disch := omega) only [nlit, nI_add, nI_mul, nI_sub]; (congr 1 <;> omega))) (by first | omega | (simp only []; omega)) (show _ = nI x from hcm.1 1 (by decide)) dX12_dataComes_12 ?_
  refine X_istore_n (i := 2) hB dX12_dataComes_13 rfl (by decide) rfl ?_
  refine X_aload_n (i := 0) hB dX12_dataComes_14 rfl rfl ?_
  refine X_iload_n (i := 1) hB dX12_dataComes_15 rfl rfl ?_
  refine X_bipush (v := 19) hB dX12_dataComes_16 (by decide) ?_
  refine X_callV hB kX12_246 cw10 hR.1.1 hR.1.2 (c_ofDE (w := 18 + 1) hR (by exact hF.of rfl) rfl (by first | rfl | (simp (disch := omega) only [nlit, nI_add, nI_mul, nI_sub]; done) | (simp (disch := omega) only [nlit, nI_add, nI_mul, nI_sub]; (congr 1 <;> omega))) (by omega) (by omega)) (by decide) (by decide) rfl rfl (Nat.le_of_ble_eq_true rfl) dX12_dataComes_18 (fun r18 S18 q18 => ?_)
  obtain ⟨rfl, rfl⟩ := q18
  refine X_topi (y := nI ((aRe (dat σ d)).getD 1 0)) (hx.2.2.2.2.2.2.2.2.2.2.2 1 (by omega)) ?_
  refine X_istore_n (i := 3) hB dX12_dataComes_21 rfl (by decide) rfl ?_
  refine X_aload_n (i := 0) hB dX12_dataComes_22 rfl rfl ?_
  refine X_iload_n (i := 2) hB dX12_dataComes_23 rfl rfl ?_
  refine X_iload_n (i := 3) hB dX12_dataComes_24 rfl rfl ?_
  refine X_callV hB kX12_277 cw10 hR.1.1 hR.1.2 (c_isUp hR (by exact hF.of rfl) hx8 hy8 (hN.1.2.2.2.2.2 x ((aRe (dat σ d)).getD 1 0) hx8 hy8)) (by decide) (by decide) rfl rfl (Nat.le_of_ble_eq_true rfl) dX12_dataComes_25 (fun r25 S25 q25 => ?_)
  obtain ⟨rfl, rfl⟩ := q25
  refine X_if_ne (tgt := 39) hB dX12_dataComes_28 (by decide) (fun c28 => ?_) (fun c28 => ?_)
  · have hup : nUp σ x ((aRe (dat σ d)).getD 1 0) = true := Decidable.byContradiction fun q => c28 (by rw [if_neg q])
    have hlt8 : (aTr (dat σ d)).length + ((aRe (dat σ d)).length - 1) ≤ 8 := by
      have := nodup8 hda.2.1.2.1 (fun y hy => (List.mem_append.mp hy).elim (hda.2.1.2.2.1 y) (fun q => hda.2.1.2.2.2.1 y (List.mem_of_mem_tail q)))
      rw [List.length_append, List.length_tail] at this
      exact this
    have ht8 : (aTr (dat σ d)).length < 8 := by omega
    have hrt : (aRe (dat σ d)).tail = ((aRe (dat σ d)).getD 1 0) :: (aRe (dat σ d)).tail.tail := by
      rw [show ((aRe (dat σ d)).getD 1 0) = (aRe (dat σ d)).tail.getD 0 0 from tail_at.symm]
      cases hq : (aRe (dat σ d)).tail with
      | nil => have := congrArg List.length hq; rw [List.length_tail, List.length_nil] at this; omega
      | cons u v => rfl
    have hnd0 := hda.2.1.2.1
    have hnd2 : (((aTr (dat σ d)) ++ [((aRe (dat σ d)).getD 1 0)]) ++ (aRe (dat σ d)).tail.tail).Nodup := by
      rw [List.append_assoc]
      have := hnd0
      rw [hrt] at this
      exact this
    have hT' : ((aTr (dat σ d)) ++ [((aRe (dat σ d)).getD 1 0)]).Nodup := (List.nodup_append.mp hnd2).1
    have hTx' : ∀ q ∈ (aTr (dat σ d)) ++ [((aRe (dat σ d)).getD 1 0)], q < 8 := fun q hq => (List.mem_append.mp hq).elim (hda.2.1.2.2.1 q) (fun q9 => by rw [List.mem_singleton.mp q9]; exact hy8)
    have hRn : (aRe (dat σ d)).tail.Nodup := (List.nodup_append.mp hnd0).2.1
    have hRx' : ∀ q ∈ (aRe (dat σ d)).tail, q < 8 := fun q hq => hda.2.1.2.2.2.1 q (List.mem_of_mem_tail hq)
    have hTl : ((aTr (dat σ d)) ++ [((aRe (dat σ d)).getD 1 0)]).length = (aTr (dat σ d)).length + 1 := by rw [List.length_append]; rfl
    refine X_aload_n (i := 0) hB dX12_dataComes_39 rfl rfl ?_
    refine X_iload_n (i := 1) hB dX12_dataComes_40 rfl rfl ?_
    refine X_iload_n (i := 3) hB dX12_dataComes_41 rfl rfl ?_
    refine X_callV hB kX12_301 cw10 hR.1.1 hR.1.2 (c_movesOn hR (by exact hF.of rfl) σ hN hs d hd ((aRe (dat σ d)).getD 1 0) ht8 (by omega)) (by decide) (by decide) rfl rfl (Nat.le_of_ble_eq_true rfl) dX12_dataComes_42 (fun r42 S42 q42 => ?_)
    obtain ⟨rfl, f42, n42⟩ := q42
    have n42 : netR (S42.1 (h + 1)) (mvD σ d ((aRe (dat σ d)).getD 1 0)) := n42
    have hF42 := f42.ref hF
    have hfr42 : fr h [h + 1, h + 7, h + 8, h + 9, h + 10, h + 11] [20, 22] S S42 := f42.mono (by simp) (by simp)
    have s42 : szN (mvD σ d ((aRe (dat σ d)).getD 1 0)) := szN_da hs (by show ((aTr (dat σ d)) ++ [((aRe (dat σ d)).getD 1 0)]).length ≤ 8; rw [List.length_append]; show (aTr (dat σ d)).length + 1 ≤ 8; omega) (by show (aRe (dat σ d)).tail.length ≤ 8; rw [List.length_tail]; omega)
    have d42 : d < (nDa (mvD σ d ((aRe (dat σ d)).getD 1 0))).length := by unfold mvD; rw [len_set]; exact hd
    have t42 : aTr (dat (mvD σ d ((aRe (dat σ d)).getD 1 0)) d) = (aTr (dat σ d)) ++ [((aRe (dat σ d)).getD 1 0)] := by unfold mvD; rw [dat_set hd]; rfl
    have r42 : aRe (dat (mvD σ d ((aRe (dat σ d)).getD 1 0)) d) = (aRe (dat σ d)).tail := by unfold mvD; rw [dat_set hd]; rfl
    have e42 : aEn (dat (mvD σ d ((aRe (dat σ d)).getD 1 0)) d) = aEn (dat σ d) := by unfold mvD; rw [dat_set hd]; rfl
    have sh42 : aSh (dat (mvD σ d ((aRe (dat σ d)).getD 1 0)) d) = aSh (dat σ d) := by unfold mvD; rw [dat_set hd]; rfl
    have hA0 : (setI S42 h 20 0).1 (h + 1) = S42.1 (h + 1) := setI_row _ _ _ (by omega)
    refine X_aload_n (i := 0) hB dX12_dataComes_45 rfl rfl ?_
    refine X_iconst (v := 0) hB dX12_dataComes_46 (by decide) ?_
    refine X_puti hB cw10 fX12_186 rfl rfl hR.1.1 hR.1.2 dX12_dataComes_47 ?_
    refine X_iconst (v := 0) hB dX12_dataComes_50 (by decide) ?_
    refine X_istore hB dX12_dataComes_51 (by decide) rfl ?_
    refine X_lv (lv' := [some (.ref h), some (.int (nI d)), some (.int (nI x)), some (.int (nI ((aRe (dat σ d)).getD 1 0))), some (.int (nI 0))]) (by rw [nI_0]; rfl) (l_dC1 (S := setI S42 h 20 0) hR (by exact hF42.of rfl) hB (mvD σ d ((aRe (dat σ d)).getD 1 0)) (by rw [hA0]; exact n42) s42 d d42 x ((aRe (dat σ d)).getD 1 0) (fun S9 v9 g1 g2 => ?_) (aRe (dat (mvD σ d ((aRe (dat σ d)).getD 1 0)) d)).length 0 _ (by omega) fr.rf ⟨by rw [setI_at]; rfl, fun i hi => by simp at hi⟩)
    have hF9 : RRef S9 h := g1.ref (hF42.of rfl)
    have n9 : netR (S9.1 (h + 1)) (mvD σ d ((aRe (dat σ d)).getD 1 0)) := by rw [g1.2.1 _ (by simp) (by omega), hA0]; exact n42
    have hfr9 : fr h [h + 1, h + 7, h + 8, h + 9, h + 10, h + 11] [20, 22] S S9 := hfr42.tr ((fr.fld (by simp)).tr (g1.mono (by simp) (by simp)))
    rw [r42] at g2
    refine X_aload_n (i := 0) hB dX12_dataComes_84 rfl rfl ?_
    refine X_iload_n (i := 3) hB dX12_dataComes_85 rfl rfl ?_
    refine X_callV hB kX12_304 cw10 hR.1.1 hR.1.2 (c_learnsN hR hF9 (mvD σ d ((aRe (dat σ d)).getD 1 0)) n9 s42 hse.2.1.2 ((aRe (dat σ d)).getD 1 0) (aRe (dat σ d)).tail hy8 hRx' hRn g2) (by decide) (by decide) rfl rfl (Nat.le_of_ble_eq_true rfl) dX12_dataComes_86 (fun r86 S86 q86 => ?_)
    obtain ⟨rfl, f86, n86, s86⟩ := q86
    have hF86 := f86.ref hF9
    have hfr86 : fr h [h + 1, h + 7, h + 8, h + 9, h + 10, h + 11] [20, 22] S S86 := hfr9.tr (f86.mono (by simp) (by simp))
    refine X_aload_n (i := 0) hB dX12_dataComes_89 rfl rfl ?_
    refine X_iconst (v := 0) hB dX12_dataComes_90 (by decide) ?_
    refine X_puti hB cw10 fX12_186 rfl rfl hR.1.1 hR.1.2 dX12_dataComes_91 ?_
    have hA90 : (setI S86 h 20 0).1 (h + 1) = S86.1 (h + 1) := setI_row _ _ _ (by omega)
    have n90 : netR ((setI S86 h 20 0).1 (h + 1)) (learnN (mvD σ d ((aRe (dat σ d)).getD 1 0)) ((aRe (dat σ d)).getD 1 0) (aRe (dat σ d)).tail) := by rw [hA90]; exact n86
    have l90 : lesR (setI S86 h 20 0) h [] := ⟨by rw [setI_at]; rfl, fun i hi => by simp at hi⟩
    refine X_aload_n (i := 0) hB dX12_dataComes_94 rfl rfl ?_
    refine X_iload_n (i := 1) hB dX12_dataComes_95 rfl rfl ?_
    refine X_aload_n (i := 0) hB dX12_dataComes_96 rfl rfl ?_
    refine X_iload_n (i := 1) hB dX12_dataComes_97 rfl rfl ?_
    refine X_iconst (v := 4) hB dX12_dataComes_98 (by decide) ?_
    refine X_callV hB kX12_246 cw10 hR.1.1 hR.1.2 (c_ofDE (n := d) (w := 4) hR (by exact hF86.of rfl) rfl rfl (by omega) (by omega)) (by decide) (by decide) rfl rfl (Nat.le_of_ble_eq_true rfl) dX12_dataComes_99 (fun r99 S99 q99 => ?_)
    obtain ⟨rfl, rfl⟩ := q99
    refine X_topi (y := nI ((aTr (dat σ d)) ++ [((aRe (dat σ d)).getD 1 0)]).length) (by rw [(n90.2.2.2 d d42).2.2.2.2.1]; exact congrArg (fun l => nI (List.length l)) t42) ?_
    refine X_iconst (v := 1) hB dX12_dataComes_102 (by decide) ?_
    refine X_isub hB dX12_dataComes_103 ?_
    refine X_topi (y := nI ((aTr (dat σ d)) ++ [((aRe (dat σ d)).getD 1 0)]).length + -1) (by rw [Int32.sub_eq_add_neg]) ?_
    refine X_callV hB kX12_307 cw10 hR.1.1 hR.1.2 (c_addsTrail hR (by exact hF86.of rfl) (learnN (mvD σ d ((aRe (dat σ d)).getD 1 0)) ((aRe (dat σ d)).getD 1 0) (aRe (dat σ d)).tail) n90 s86 d d42 ((aTr (dat σ d)) ++ [((aRe (dat σ d)).getD 1 0)]).length (by rw [show aTr (dat (learnN (mvD σ d ((aRe (dat σ d)).getD 1 0)) ((aRe (dat σ d)).getD 1 0) (aRe (dat σ d)).tail) d) = (aTr (dat σ d)) ++ [((aRe (dat σ d)).getD 1 0)] from t42]; exact Nat.le_refl _) [] (by rw [hTl]; show 0 + ((aTr (dat σ d)).length + 1) ≤ 9; omega) l90) (by decide) (by decide) rfl rfl (Nat.le_of_ble_eq_true rfl) dX12_dataComes_104 (fun r104 S104 q104 => ?_)
    obtain ⟨rfl, f104, g104⟩ := q104
    have hF104 := f104.ref (hF86.of (S' := setI S86 h 20 0) rfl)
    have n104 : netR (S104.1 (h + 1)) (learnN (mvD σ d ((aRe (dat σ d)).getD 1 0)) ((aRe (dat σ d)).getD 1 0) (aRe (dat σ d)).tail) := by rw [f104.2.1 _ (by simp) (by omega)]; exact n90
    rw [show aTr (dat (learnN (mvD σ d ((aRe (dat σ d)).getD 1 0)) ((aRe (dat σ d)).getD 1 0) (aRe (dat σ d)).tail) d) = (aTr (dat σ d)) ++ [((aRe (dat σ d)).getD 1 0)] from t42, List.take_length, List.nil_append] at g104
    refine X_aload_n (i := 0) hB dX12_dataComes_107 rfl rfl ?_
    refine X_iload_n (i := 3) hB dX12_dataComes_108 rfl rfl ?_
    refine X_callV hB kX12_304 cw10 hR.1.1 hR.1.2 (c_learnsN hR hF104 (learnN (mvD σ d ((aRe (dat σ d)).getD 1 0)) ((aRe (dat σ d)).getD 1 0) (aRe (dat σ d)).tail) n104 s86 hse.2.1.2 ((aRe (dat σ d)).getD 1 0) ((aTr (dat σ d)) ++ [((aRe (dat σ d)).getD 1 0)]).reverse hy8 (fun q hq => hTx' q (List.mem_reverse.mp hq)) (nodup_rev hT') g104) (by decide) (by decide) rfl rfl (Nat.le_of_ble_eq_true rfl) dX12_dataComes_109 (fun r109 S109 q109 => ?_)
    obtain ⟨rfl, f109, n109, s109⟩ := q109
    have n109 : netR (S109.1 (h + 1)) (lrnD σ d ((aRe (dat σ d)).getD 1 0)) := n109
    have hfr109 : fr h [h + 1, h + 7, h + 8, h + 9, h + 10, h + 11] [20, 22] S S109 := hfr86.tr ((fr.fld (by simp)).tr ((f104.mono (by simp) (by simp)).tr (f109.mono (by simp) (by simp))))
    have hI : hrI σ d ((aTr (dat σ d)) ++ [((aRe (dat σ d)).getD 1 0)]) (aRe (dat σ d)).tail (aEn (dat σ d)) (lrnD σ d ((aRe (dat σ d)).getD 1 0)) := ⟨rfl, rfl, d42, t42, r42, e42, by show aSh (dat (mvD σ d ((aRe (dat σ d)).getD 1 0)) d) < 256; rw [sh42]; exact hda.1.2.2.2.2.1, s109⟩
    refine X_iconst (v := 0) hB dX12_dataComes_112 (by decide) ?_
    refine X_istore hB dX12_dataComes_113 (by decide) rfl ?_
    refine X_lv (lv' := [some (.ref h), some (.int (nI d)), some (.int (nI x)), some (.int (nI ((aRe (dat σ d)).getD 1 0))), some (.int (nI 0))]) (by rw [nI_0]; rfl) (l_dC2 (S := S109) hR (hfr109.ref hF) hB σ d x ((aRe (dat σ d)).getD 1 0) ((aTr (dat σ d)) ++ [((aRe (dat σ d)).getD 1 0)]) (aRe (dat σ d)).tail (aEn (dat σ d)) (by omega) hx8 (by rw [hTl]; omega) (by rw [List.length_tail]; omega) hnd2 hTx' hRx' hse (lrnD σ d ((aRe (dat σ d)).getD 1 0)) (fun S8 v8 k1 k2 k3 => ?_) (nSe σ 0) 0 S109 (by omega) fr.rf n109 hI)
    have hF8 := k1.ref (hfr109.ref hF)
    have hfr8 := hfr109.tr k1
    obtain ⟨j1, j2, j3, j4, j5, j6, j7, j8⟩ := k3
    refine X_iload_n (i := 3) hB dX12_dataComes_202 rfl rfl ?_
    refine X_aload_n (i := 0) hB dX12_dataComes_203 rfl rfl ?_
    refine X_iload_n (i := 1) hB dX12_dataComes_204 rfl rfl ?_
    refine X_iconst (v := 1) hB dX12_dataComes_205 (by decide) ?_
    refine X_callV hB kX12_246 cw10 hR.1.1 hR.1.2 (c_ofDE (n := d) (w := 1) hR hF8 rfl rfl (by omega) (by omega)) (by decide) (by decide) rfl rfl (Nat.le_of_ble_eq_true rfl) dX12_dataComes_206 (fun r206 S206 q206 => ?_)
    obtain ⟨rfl, rfl⟩ := q206
    refine X_topi (y := nI (aEn (dat σ d))) (by rw [(k2.2.2.2 d j3).2.1, j6]) ?_
    refine X_icmp_ne (tgt := 221) hB dX12_dataComes_209 (by decide) (fun c209 => ?_) (fun c209 => ?_)
    · refine X_aload_n (i := 0) hB dX12_dataComes_221 rfl rfl ?_
      refine X_iload_n (i := 1) hB dX12_dataComes_222 rfl rfl ?_
      refine X_callV hB kX12_259 cw10 hR.1.1 hR.1.2 (c_fliesOn hR hF8 (iterN (hearD x d) (nSe σ 0) (lrnD σ d ((aRe (dat σ d)).getD 1 0))) k2 j8 d j3 (by rw [j4, hTl]; omega)) (by decide) (by decide) rfl rfl (Nat.le_of_ble_eq_true rfl) dX12_dataComes_223 (fun r223 S223 q223 => ?_)
      obtain ⟨rfl, f223, n223⟩ := q223
      first
      | (have e9 : ((aRe (dat σ d)).getD 1 0) = aEn (dat σ d) := i32_inj (by omega) (by have := hda.1.2.1; omega) (by first | exact c209 | exact Decidable.not_not.mp c209)
         refine X_vret hB rfl dX12_dataComes_226 ?_
         refine ⟨rfl, hfr8.tr (f215.mono (by simp) (by simp)), ?_⟩
         unfold arrData
         rw [if_pos hup, if_pos e9]
         exact n215)
      | (have e9 : ¬ nI ((aRe (dat σ d)).getD 1 0) = nI (aEn (dat σ d)) := by exact c209
         refine X_vret hB rfl dX12_dataComes_226 ?_
         refine ⟨rfl, hfr8.tr (f223.mono (by simp) (by simp)), ?_⟩
         unfold arrData
         rw [if_pos hup, if_neg (fun q => e9 (by rw [q]))]
         exact n223)
    · refine X_aload_n (i := 0) hB dX12_dataComes_212 rfl rfl ?_
      refine X_iload_n (i := 1) hB dX12_dataComes_213 rfl rfl ?_
      refine X_iconst (v := 2) hB dX12_dataComes_214 (by decide) ?_
      refine X_callV hB kX12_256 cw10 hR.1.1 hR.1.2 (c_isDone hR hF8 (iterN (hearD x d) (nSe σ 0) (lrnD σ d ((aRe (dat σ d)).getD 1 0))) k2 j8 d 2 j3 (Or.inl rfl)) (by decide) (by decide) rfl rfl (Nat.le_of_ble_eq_true rfl) dX12_dataComes_215 (fun r215 S215 q215 => ?_)
      obtain ⟨rfl, f215, n215⟩ := q215
      refine X_goto (tgt := 226) hB dX12_dataComes_218 (by decide) ?_
      first
      | (have e9 : ((aRe (dat σ d)).getD 1 0) = aEn (dat σ d) := i32_inj (by omega) (by have := hda.1.2.1; omega) (by first | exact c209 | exact Decidable.not_not.mp c209)
         refine X_vret hB rfl dX12_dataComes_226 ?_
         refine ⟨rfl, hfr8.tr (f215.mono (by simp) (by simp)), ?_⟩
         unfold arrData
         rw [if_pos hup, if_pos e9]
         exact n215)
      | (have e9 : ¬ nI ((aRe (dat σ d)).getD 1 0) = nI (aEn (dat σ d)) := by exact c209
         refine X_vret hB rfl dX12_dataComes_226 ?_
         refine ⟨rfl, hfr8.tr (f223.mono (by simp) (by simp)), ?_⟩
         unfold arrData
         rw [if_pos hup, if_neg (fun q => e9 (by rw [q]))]
         exact n223)
  · have hup : ¬ nUp σ x ((aRe (dat σ d)).getD 1 0) = true := fun q => absurd c28 (by rw [if_pos q]; decide)
    refine X_aload_n (i := 0) hB dX12_dataComes_31 rfl rfl ?_
    refine X_iload_n (i := 1) hB dX12_dataComes_32 rfl rfl ?_
    refine X_iload_n (i := 2) hB dX12_dataComes_33 rfl rfl ?_
    refine X_iload_n (i := 3) hB dX12_dataComes_34 rfl rfl ?_
    refine X_callV hB kX12_298 cw10 hR.1.1 hR.1.2 (c_breaks hR (by exact hF.of rfl) σ b hw hN d x ((aRe (dat σ d)).getD 1 0) hd hx8 hy8) (by decide) (by decide) rfl rfl (Nat.le_of_ble_eq_true rfl) dX12_dataComes_35 (fun r35 S35 q35 => ?_)
    obtain ⟨rfl, f35, n35⟩ := q35
    refine X_vret hB rfl dX12_dataComes_38 ?_
    refine ⟨rfl, f35, ?_⟩
    unfold arrData
    rw [if_neg hup]
    exact n35
end REF
