/-! the class: a reply, an error arrives -/
theorem repStep_no {f : Fm} {y at_ z : Nat} {σ : Net} (h : nUp σ (fFr f) z = true → z ≠ y → dLis (nNd σ z) = true → z ∈ (fRo f).drop at_) : repStep f y at_ z σ = σ := if_neg (fun q => q.2.2.2 (h q.1.2 q.2.1 q.2.2.1))
theorem repStep_yes {f : Fm} {y at_ z : Nat} {σ : Net} (h1 : z ≠ fFr f) (h2 : nUp σ (fFr f) z = true) (h3 : z ≠ y) (h4 : dLis (nNd σ z) = true) (h5 : z ∉ (fRo f).drop at_) : repStep f y at_ z σ = learnN σ z (z :: (fRo f).drop at_) := if_pos ⟨⟨h1, h2⟩, h3, h4, h5⟩
theorem errStep_no {f : Fm} {y z : Nat} {σ : Net} (h : nUp σ (fFr f) z = true → z ≠ y → dLis (nNd σ z) = true → False) : errStep f y z σ = σ := if_neg (fun q => h q.1.2 q.2.1 q.2.2)
theorem errStep_yes {f : Fm} {y z : Nat} {σ : Net} (h1 : z ≠ fFr f) (h2 : nUp σ (fFr f) z = true) (h3 : z ≠ y) (h4 : dLis (nNd σ z) = true) : errStep f y z σ = forgetON σ z (fLk f) := if_pos ⟨⟨h1, h2⟩, h3, h4⟩
theorem wfO.es {σ : Net} {b o z y : Nat} {f : Fm} (h : wfO σ b o) (hz : z < 8) : wfO (errStep f y z σ) b o := by
  unfold errStep
  split
  · exact h.forgetO hz
  · exact h
theorem ge_rp {f : Fm} {y at_ z : Nat} {σ : Net} : geN σ (repStep f y at_ z σ) := by unfold repStep; split; (exact geN.nd); (exact geN.rf)
theorem ge_es {f : Fm} {y z : Nat} {σ : Net} : geN σ (errStep f y z σ) := by unfold errStep; split; (exact geN.nd); (exact geN.rf)
section CLS
variable {G : Gc} {S : St}
set_option maxRecDepth 100000 in
set_option maxHeartbeats 4000000 in
theorem l_X10_replyArrives {E : Ev} (hB : Bd G E mX10_replyArrives) {Q : Option Value → St → Prop} (w : Nat) (hW : WLay G w) (σ1 : Net) (b o a y at_ : Nat) (f : Fm) (hx8 : fFr f < 8) (hy8 : y < 8) (hnd : (fRo f).Nodup) (h8 : ∀ y ∈ fRo f, y < 8) (ha1 : 1 ≤ at_) (hfa : S.2.2 (w + 3) 3 = some a) (hfl : w + 5 ≤ a ∧ a < w + 46) (hf1 : S.1 a 1 = nI (fFr f)) (kk : ∀ S1, wch w S S1 → worldR S1 w (iterN (repStep f y at_) 8 σ1) → Q none S1) :
    ∀ (k z : Nat) (S1 : St), z + k = 8 → wch w S S1 → worldR S1 w (iterN (repStep f y at_) z σ1) → wfO (iterN (repStep f y at_) z σ1) b o → X G E mX10_replyArrives 3 Q S1 61 [some (.ref w), some (.ref a), some (.int (nI y)), some (.int (nI (at_ - 1))), some (.long (rJ ((fRo f).drop at_))), none, some (.int (nI z))] [] := by
  have hfk := hW.2.2.2.2.2.1 a hfl.1 hfl.2
  have hro : okR (fRo f) := okR.of hnd h8
  have hto : okR ((fRo f).drop at_) := hro.drop _
  have htl : ((fRo f).drop at_).length ≤ 7 := by rw [List.length_drop]; have := hro.1; omega
  have htn : ((fRo f).drop at_).Nodup := hnd.sublist (List.drop_sublist _ _)
  intro k
  induction k with
  | zero =>
    intro z S1 h1' h2 h3 h4
    have e9 : z = 8 := by omega
    subst e9
    refine X_iload hB dX10_replyArrives_61 rfl ?_
    refine X_bipush (v := 8) hB dX10_replyArrives_63 (by decide) ?_
    refine X_icmp_ge (tgt := 122) hB dX10_replyArrives_65 (by decide) (fun c65 => ?_) (fun c65 => absurd c65 (by simp (disch := omega) only [nlit, nI_leI, nI_ltI]; omega))
    refine X_vret hB rfl dX10_replyArrives_122 ?_
    exact kk S1 h2 h3
  | succ k ih =>
    intro z S1 h1' h2 h3 h4
    have hz8 : z < 8 := by omega
    have hup := h4.2.2.2.2.2.2.1.sym
    have hPo := hW.po hz8
    have hfr := h2.2.2 a hfa
    have h4' : wfO (repStep f y at_ z (iterN (repStep f y at_) z σ1)) b o := h4.rp hz8 hnd h8
    refine X_iload hB dX10_replyArrives_61 rfl ?_
    refine X_bipush (v := 8) hB dX10_replyArrives_63 (by decide) ?_
    refine X_icmp_ge (tgt := 122) hB dX10_replyArrives_65 (by decide) (fun c65 => absurd c65 (by simp (disch := omega) only [nlit, nI_leI, nI_ltI]; omega)) (fun c65 => ?_)
    refine X_iload hB dX10_replyArrives_68 rfl ?_
    refine X_iload_n (i := 2) hB dX10_replyArrives_70 rfl rfl ?_
    refine X_icmp_eq (tgt := 116) hB dX10_replyArrives_71 (by decide) (fun c71 => ?_) (fun c71 => ?_)
    · refine X_iinc hB dX10_replyArrives_116 rfl rfl (by decide) rfl ?_
      refine X_goto (tgt := 61) hB dX10_replyArrives_119 (by decide) ?_
      have hh := repStep_no (f := f) (y := y) (at_ := at_) (σ := (iterN (repStep f y at_) z σ1)) (z := z) (fun _ q _ => absurd ((nI_eq (by omega) (by omega)).mp c71) q)
      refine X_lv ?_ (ih (z + 1) S1 (by omega) h2 (show worldR S1 w (repStep f y at_ z (iterN (repStep f y at_) z σ1)) by rw [hh]; exact h3) h4')
      · rw [nI_succ]; rfl
    · have e71 : z ≠ y := fun q => c71 (by rw [q])
      refine X_aload_n (i := 0) hB dX10_replyArrives_74 rfl rfl ?_
      refine X_iload hB dX10_replyArrives_75 rfl ?_
      refine X_aload_n (i := 1) hB dX10_replyArrives_77 rfl rfl ?_
      refine X_geti hB cw3 fX10_216 rfl hfk.1 hfk.2 dX10_replyArrives_78 ?_
      refine X_topi (y := nI (fFr f)) (by rw [hfr.1]; exact hf1) ?_
      refine X_callV hB kX10_320 cw8 hW.1.1 hW.1.2 (c_X10_overhears w hW (iterN (repStep f y at_) z σ1) h3 hup z (fFr f) hz8 hx8) (by decide) (by decide) rfl rfl (Nat.le_of_ble_eq_true rfl) dX10_replyArrives_81 (fun r81 S81 q81 => ?_)
      obtain ⟨rfl, rfl⟩ := q81
      refine X_if_eq (tgt := 116) hB dX10_replyArrives_84 (by decide) (fun c84 => ?_) (fun c84 => ?_)
      · refine X_iinc hB dX10_replyArrives_116 rfl rfl (by decide) rfl ?_
        refine X_goto (tgt := 61) hB dX10_replyArrives_119 (by decide) ?_
        have hh := repStep_no (f := f) (y := y) (at_ := at_) (σ := (iterN (repStep f y at_) z σ1)) (z := z) (fun q1 _ q2 => absurd (by rw [hup, q1, q2]; rfl) (if1n c84))
        refine X_lv ?_ (ih (z + 1) S1 (by omega) h2 (show worldR S1 w (repStep f y at_ z (iterN (repStep f y at_) z σ1)) by rw [hh]; exact h3) h4')
        · rw [nI_succ]; rfl
      · have e84 : nUp (iterN (repStep f y at_) z σ1) z (fFr f) = true ∧ dLis (nNd (iterN (repStep f y at_) z σ1) z) = true := by
          have q := if1 c84
          rw [Bool.and_eq_true] at q
          exact q
        have hzx : z ≠ fFr f := (h4.2.2.2.2.2.2.1 z (fFr f) e84.1).2.2.1
        have hzc := (h4.2.2.2.2.2.2.1 z (fFr f) e84.1).1
        refine X_lload hB dX10_replyArrives_87 rfl ?_
        refine X_iload hB dX10_replyArrives_89 rfl ?_
        refine X_callS hB kX10_323 (c_X8_holds ((fRo f).drop at_) hto z hz8) (by decide) (by decide) rfl rfl (Nat.le_of_ble_eq_true rfl) dX10_replyArrives_91 (fun r91 S91 q91 => ?_)
        obtain ⟨rfl, rfl⟩ := q91
        refine X_if_ne (tgt := 116) hB dX10_replyArrives_94 (by decide) (fun c94 => ?_) (fun c94 => ?_)
        · refine X_iinc hB dX10_replyArrives_116 rfl rfl (by decide) rfl ?_
          refine X_goto (tgt := 61) hB dX10_replyArrives_119 (by decide) ?_
          have hh := repStep_no (f := f) (y := y) (at_ := at_) (σ := (iterN (repStep f y at_) z σ1)) (z := z) (fun _ _ _ => if1 c94)
          refine X_lv ?_ (ih (z + 1) S1 (by omega) h2 (show worldR S1 w (repStep f y at_ z (iterN (repStep f y at_) z σ1)) by rw [hh]; exact h3) h4')
          · rw [nI_succ]; rfl
        · have e94 := if1n c94
          refine X_aload_n (i := 0) hB dX10_replyArrives_97 rfl rfl ?_
          refine X_iload hB dX10_replyArrives_98 rfl ?_
          refine X_callV hB kX10_102 cw8 hW.1.1 hW.1.2 (c_X10_post w hW h3.1 z hz8) (by decide) (by decide) rfl rfl (Nat.le_of_ble_eq_true rfl) dX10_replyArrives_100 (fun r100 S100 q100 => ?_)
          obtain ⟨rfl, rfl⟩ := q100
          refine X_getr hB cw4 fX10_72 rfl hPo.1.1 hPo.1.2 (h3.po hz8).1.1 dX10_replyArrives_103 ?_
          refine X_iload hB dX10_replyArrives_106 rfl ?_
          refine X_lload hB dX10_replyArrives_108 rfl ?_
          refine X_callS hB kX10_327 (c_X8_behind ((fRo f).drop at_) hto z hz8) (by decide) (by decide) rfl rfl (Nat.le_of_ble_eq_true rfl) dX10_replyArrives_110 (fun r110 S110 q110 => ?_)
          obtain ⟨rfl, rfl⟩ := q110
          refine X_topl (y := rJ (z :: ((fRo f).drop at_))) (by rw [List.take_of_length_le htl]) ?_
          refine X_callV hB kX10_316 cw1 hPo.2.2.2.2.1.1 hPo.2.2.2.2.1.2 (c_X1_learn (pA w z + 5) z (nSe (iterN (repStep f y at_) z σ1) 1) (nSe (iterN (repStep f y at_) z σ1) 2) (dMap (nNd (iterN (repStep f y at_) z σ1) z)) (dCa (nNd (iterN (repStep f y at_) z σ1) z)) (hW.po hz8).2.2.2.2 (h3.po hz8).2.2.1 (z :: ((fRo f).drop at_)) (hto.cons hz8 (by omega)) (List.nodup_cons.mpr ⟨e94, htn⟩)) (by decide) (by decide) rfl rfl (Nat.le_of_ble_eq_true rfl) dX10_replyArrives_113 (fun r113 S113 q113 => ?_)
          obtain ⟨rfl, g1, g2, g3⟩ := q113
          obtain ⟨w5, c5⟩ : worldR S113 w (learnN (iterN (repStep f y at_) z σ1) z (z :: ((fRo f).drop at_))) ∧ wch w S1 S113 := ca_world h3 hz8 g1 g2 g3 (fun q => by omega)
          refine X_iinc hB dX10_replyArrives_116 rfl rfl (by decide) rfl ?_
          refine X_goto (tgt := 61) hB dX10_replyArrives_119 (by decide) ?_
          have hh := repStep_yes (f := f) (y := y) (at_ := at_) (σ := (iterN (repStep f y at_) z σ1)) hzx (hup z (fFr f) ▸ e84.1) e71 e84.2 e94
          refine X_lv ?_ (ih (z + 1) S113 (by omega) (h2.tr c5) (show worldR S113 w (repStep f y at_ z (iterN (repStep f y at_) z σ1)) by rw [hh]; exact w5) h4')
          · rw [nI_succ]; rfl
set_option maxRecDepth 100000 in
set_option maxHeartbeats 4000000 in
theorem c_X10_replyArrives (w : Nat) (hW : WLay G w) (σ : Net) (hw : worldR S w σ) (b o a : Nat) (f : Fm) (hO : wfO σ b o) (hx8 : fFr f < 8) (hnd : (fRo f).Nodup) (h8 : ∀ y ∈ fRo f, y < 8) (hin : fFr f ∈ fRo f) (hne : (fRo f).getD 0 0 ≠ fFr f) (hup1 : nUp σ (fFr f) (rpY f) = true) (hfa : S.2.2 (w + 3) 3 = some a) (hfl : w + 5 ≤ a ∧ a < w + 46) (hfm : fmR S a σ f) (hk2 : fKi f = 2) : C G mX10_replyArrives 3 [.ref w, .ref a] S (fun r S' => r = none ∧ worldR S' w (arrRep σ f) ∧ wch w S S') := by
  have hfk := hW.2.2.2.2.2.1 a hfl.1 hfl.2
  have hro : okR (fRo f) := okR.of hnd h8
  have hl8 := hro.1
  have hai := List.idxOf_lt_length_of_mem hin
  have hat1 : 1 ≤ ((fRo f).idxOf (fFr f)) := Nat.pos_of_ne_zero (fun q => hne (by
    have := List.getElem_idxOf hai
    rw [getD_lt (by omega)]
    simpa [q] using this))
  have hyi : (rpY f) ∈ fRo f := getD_mem (by omega)
  have hy8 : (rpY f) < 8 := h8 _ hyi
  have hyx : (fRo f).idxOf (rpY f) = ((fRo f).idxOf (fFr f)) - 1 := (idxOf_iff (by omega) rfl (fun j hj q => by
    have := List.pairwise_iff_getElem.mp hnd j (((fRo f).idxOf (fFr f)) - 1) (by omega) (by omega) hj
    rw [getD_lt (by omega), getD_lt (by omega)] at q
    exact this q)).2
  have hPo := hW.po hy8
  have hyc : (rpY f) < nSe σ 0 := (hO.2.2.2.2.2.2.1 _ _ hup1).2.1
  have ha2 : S.1 a 2 = nI (rpY f) := by
    rw [hfm.2.2.1]
    unfold whom
    rw [if_neg (by omega), if_neg (by omega), if_pos hk2]
    rfl
  have ha6 : S.2.1 a 6 = rJ (fRo f) := by rw [hfm.2.2.2.2.2.2]; unfold frL; rw [if_neg (by omega)]
  have hixy : ixR (fRo f) (rpY f) = nI (((fRo f).idxOf (fFr f)) - 1) := by unfold ixR; rw [if_pos hyi, hyx]
  have hdn : ((fRo f).drop (((fRo f).idxOf (fFr f)) - 1)).Nodup := hnd.sublist (List.drop_sublist _ _)
  have hO1 : wfO (rpLa σ f) b o := hO.learn hy8 (fun x hx => h8 x (List.mem_of_mem_drop hx)) hdn drop_hd
  refine C.mk (lv := [some (.ref w), some (.ref a), none, none, none, none, none]) (by decide) (Nat.le_of_ble_eq_true rfl) rfl (fun E hB => ?_)
  refine X_aload_n (i := 1) hB dX10_replyArrives_0 rfl rfl ?_
  refine X_geti hB cw3 fX10_219 rfl hfk.1 hfk.2 dX10_replyArrives_1 ?_
  refine X_topi (y := nI (rpY f)) (ha2) ?_
  refine X_istore_n (i := 2) hB dX10_replyArrives_4 rfl (by decide) rfl ?_
  refine X_aload_n (i := 1) hB dX10_replyArrives_5 rfl rfl ?_
  refine X_getj hB cw3 fX10_311 rfl hfk.1 hfk.2 dX10_replyArrives_6 ?_
  refine X_topl (y := rJ (fRo f)) (ha6) ?_
  refine X_iload_n (i := 2) hB dX10_replyArrives_9 rfl rfl ?_
  refine X_callS hB kX10_256 (c_X8_indexOf (fRo f) hro (rpY f) hy8) (by decide) (by decide) rfl rfl (Nat.le_of_ble_eq_true rfl) dX10_replyArrives_10 (fun r10 S10 q10 => ?_)
  obtain ⟨rfl, rfl⟩ := q10
  refine X_topi (y := nI (((fRo f).idxOf (fFr f)) - 1)) (hixy) ?_
  refine X_istore_n (i := 3) hB dX10_replyArrives_13 rfl (by decide) rfl ?_
  refine X_aload_n (i := 0) hB dX10_replyArrives_14 rfl rfl ?_
  refine X_iload_n (i := 2) hB dX10_replyArrives_15 rfl rfl ?_
  refine X_callV hB kX10_102 cw8 hW.1.1 hW.1.2 (c_X10_post w hW hw.1 (rpY f) hy8) (by decide) (by decide) rfl rfl (Nat.le_of_ble_eq_true rfl) dX10_replyArrives_16 (fun r16 S16 q16 => ?_)
  obtain ⟨rfl, rfl⟩ := q16
  refine X_getr hB cw4 fX10_72 rfl hPo.1.1 hPo.1.2 (hw.po hy8).1.1 dX10_replyArrives_19 ?_
  refine X_aload_n (i := 1) hB dX10_replyArrives_22 rfl rfl ?_
  refine X_getj hB cw3 fX10_311 rfl hfk.1 hfk.2 dX10_replyArrives_23 ?_
  refine X_topl (y := rJ (fRo f)) (ha6) ?_
  refine X_iload_n (i := 3) hB dX10_replyArrives_26 rfl rfl ?_
  refine X_callS hB kX10_314 (c_X8_from (fRo f) hro (((fRo f).idxOf (fFr f)) - 1) (by omega)) (by decide) (by decide) rfl rfl (Nat.le_of_ble_eq_true rfl) dX10_replyArrives_27 (fun r27 S27 q27 => ?_)
  obtain ⟨rfl, rfl⟩ := q27
  refine X_callV hB kX10_316 cw1 hPo.2.2.2.2.1.1 hPo.2.2.2.2.1.2 (c_X1_learn (pA w (rpY f) + 5) (rpY f) (nSe σ 1) (nSe σ 2) (dMap (nNd σ (rpY f))) (dCa (nNd σ (rpY f))) (hW.po hy8).2.2.2.2 (hw.po hy8).2.2.1 ((fRo f).drop (((fRo f).idxOf (fFr f)) - 1)) (hro.drop _) hdn) (by decide) (by decide) rfl rfl (Nat.le_of_ble_eq_true rfl) dX10_replyArrives_30 (fun r30 S30 q30 => ?_)
  obtain ⟨rfl, g1, g2, g3⟩ := q30
  obtain ⟨hw1, hc1⟩ : worldR S30 w (rpLa σ f) ∧ wch w S S30 := ca_world hw hy8 g1 g2 g3 (fun q => by omega)
  clear g1 g2 g3
  have hk1 := hc1.2.2 a hfa
  refine X_iload_n (i := 3) hB dX10_replyArrives_33 rfl rfl ?_
  refine X_if_le (tgt := 46) hB dX10_replyArrives_34 (by decide) (fun c34 => ?_) (fun c34 => ?_)
  · have e34 : ((fRo f).idxOf (fFr f)) - 1 = 0 := Classical.byContradiction (fun q => absurd c34 (nI_nle (by omega) (by omega)))
    have hlb : rpLb σ f = (rpLa σ f) := by unfold rpLb; rw [if_neg (by omega)]
    have hw2 : worldR S30 w (rpLb σ f) := by rw [hlb]; exact hw1
    have hc2 : wch w S S30 := hc1
    have hO2 : wfO (rpLb σ f) b o := by rw [hlb]; exact hO1
    have hk3 := hc2.2.2 a hfa
    refine X_aload_n (i := 1) hB dX10_replyArrives_46 rfl rfl ?_
    refine X_getj hB cw3 fX10_311 rfl hfk.1 hfk.2 dX10_replyArrives_47 ?_
    refine X_topl (y := rJ (fRo f)) (by rw [hk3.2]; exact ha6) ?_
    refine X_iload_n (i := 3) hB dX10_replyArrives_50 rfl rfl ?_
    refine X_iconst (v := 1) hB dX10_replyArrives_51 (by decide) ?_
    refine X_iadd hB dX10_replyArrives_52 ?_
    refine X_topi (y := nI ((fRo f).idxOf (fFr f))) (by first | rfl | (simp (disch := omega) only [nlit, nI_add, nI_mul, nI_sub]; done) | (simp (disch := omega) only [nlit, nI_add, nI_mul, nI_sub]; (congr 1 <;> omega))) ?_
    refine X_callS hB kX10_314 (c_X8_from (fRo f) hro ((fRo f).idxOf (fFr f)) (by omega)) (by decide) (by decide) rfl rfl (Nat.le_of_ble_eq_true rfl) dX10_replyArrives_53 (fun r53 S53 q53 => ?_)
    obtain ⟨rfl, rfl⟩ := q53
    refine X_lstore hB dX10_replyArrives_56 (by decide) rfl ?_
    refine X_iconst (v := 0) hB dX10_replyArrives_58 (by decide) ?_
    refine X_istore hB dX10_replyArrives_59 (by decide) rfl ?_
    refine X_dl [some (.ref w), some (.ref a), some (.int (nI (rpY f))), some (.int (nI (((fRo f).idxOf (fFr f)) - 1))), some (.long (rJ ((fRo f).drop ((fRo f).idxOf (fFr f))))), none, some (.int (nI 0))] ⟨rfl, rfl, rfl, rfl, rfl, by rw [nI_0], trivial⟩ (l_X10_replyArrives (S := S) hB w hW (rpLb σ f) b o a (rpY f) ((fRo f).idxOf (fFr f)) f hx8 hy8 hnd h8 hat1 hfa hfl hfm.2.1 (fun S1 g1 g2 => ⟨rfl, ?_, g1⟩) 8 0 _ (by omega) hc2 hw2 hO2)
    have hc8 := hO.1.1.2
    have hse : nSe (rpLb σ f) = nSe σ := by
      unfold rpLb
      split
      · exact nSe_send
      · rfl
    have hi8 : iterN (repStep f (rpY f) ((fRo f).idxOf (fFr f))) 8 (rpLb σ f) = arrRep σ f := by
      have := iterN_out (f := repStep f (rpY f) ((fRo f).idxOf (fFr f))) (σ := rpLb σ f) (c := nSe σ 0) (fun z τ hz hτ => by
        have hw9 : wfO τ b o := by
          rw [hτ]
          exact iterN_ind (P := fun _ τ => wfO τ b o) (nSe σ 0) hO2 (fun z τ hz q => q.rp (by omega) hnd h8)
        have hge : nSe τ = nSe σ := by
          rw [hτ]
          exact (geN.it (fun z τ => ge_rp) (nSe σ 0) (rpLb σ f)).1.trans hse
        exact repStep_no (fun q _ _ => by
          have := (hw9.2.2.2.2.2.2.1 _ _ q).2.1
          rw [hge] at this
          omega)) (8 - nSe σ 0)
      rw [show nSe σ 0 + (8 - nSe σ 0) = 8 by omega] at this
      rw [this]
      unfold arrRep
      rw [if_pos hup1]
    rw [← hi8]
    exact g2
  · have e34 : ¬ ((fRo f).idxOf (fFr f)) - 1 = 0 := fun q => c34 (by rw [q]; decide)
    refine X_aload_n (i := 0) hB dX10_replyArrives_37 rfl rfl ?_
    refine X_iload_n (i := 2) hB dX10_replyArrives_38 rfl rfl ?_
    refine X_aload_n (i := 1) hB dX10_replyArrives_39 rfl rfl ?_
    refine X_getj hB cw3 fX10_311 rfl hfk.1 hfk.2 dX10_replyArrives_40 ?_
    refine X_topl (y := rJ (fRo f)) (by rw [hk1.2]; exact ha6) ?_
    refine X_callV hB kX10_342 cw8 hW.1.1 hW.1.2 (c_X10_emitReply w hW (rpLa σ f) hw1 (rpY f) (fRo f) hy8 hro hyi (fun q => e34 (by rw [← hyx]; exact (idxOf_iff (by omega) q (fun j hj => by omega)).2))) (by decide) (by decide) rfl rfl (Nat.le_of_ble_eq_true rfl) dX10_replyArrives_43 (fun r43 S43 q43 => ?_)
    obtain ⟨rfl, k1, k2⟩ := q43
    have hlb : rpLb σ f = (sendF (rpLa σ f) (2, (rpY f), 0, 0, none, fRo f)).1 := by unfold rpLb; rw [if_pos (by omega)]
    have hw2 : worldR S43 w (rpLb σ f) := by rw [hlb]; exact k1
    have hc2 : wch w S S43 := hc1.tr k2
    have hO2 : wfO (rpLb σ f) b o := by
      rw [hlb]
      exact hO1.send (fr2 hy8 hnd h8 hyi (fun q => e34 (by rw [← hyx]; exact (idxOf_iff (by omega) q (fun j hj => by omega)).2))) (show (2 : Nat) ≠ 0 by decide)
    have hk3 := hc2.2.2 a hfa
    refine X_aload_n (i := 1) hB dX10_replyArrives_46 rfl rfl ?_
    refine X_getj hB cw3 fX10_311 rfl hfk.1 hfk.2 dX10_replyArrives_47 ?_
    refine X_topl (y := rJ (fRo f)) (by rw [hk3.2]; exact ha6) ?_
    refine X_iload_n (i := 3) hB dX10_replyArrives_50 rfl rfl ?_
    refine X_iconst (v := 1) hB dX10_replyArrives_51 (by decide) ?_
    refine X_iadd hB dX10_replyArrives_52 ?_
    refine X_topi (y := nI ((fRo f).idxOf (fFr f))) (by first | rfl | (simp (disch := omega) only [nlit, nI_add, nI_mul, nI_sub]; done) | (simp (disch := omega) only [nlit, nI_add, nI_mul, nI_sub]; (congr 1 <;> omega))) ?_
    refine X_callS hB kX10_314 (c_X8_from (fRo f) hro ((fRo f).idxOf (fFr f)) (by omega)) (by decide) (by decide) rfl rfl (Nat.le_of_ble_eq_true rfl) dX10_replyArrives_53 (fun r53 S53 q53 => ?_)
    obtain ⟨rfl, rfl⟩ := q53
    refine X_lstore hB dX10_replyArrives_56 (by decide) rfl ?_
    refine X_iconst (v := 0) hB dX10_replyArrives_58 (by decide) ?_
    refine X_istore hB dX10_replyArrives_59 (by decide) rfl ?_
    refine X_dl [some (.ref w), some (.ref a), some (.int (nI (rpY f))), some (.int (nI (((fRo f).idxOf (fFr f)) - 1))), some (.long (rJ ((fRo f).drop ((fRo f).idxOf (fFr f))))), none, some (.int (nI 0))] ⟨rfl, rfl, rfl, rfl, rfl, by rw [nI_0], trivial⟩ (l_X10_replyArrives (S := S) hB w hW (rpLb σ f) b o a (rpY f) ((fRo f).idxOf (fFr f)) f hx8 hy8 hnd h8 hat1 hfa hfl hfm.2.1 (fun S1 g1 g2 => ⟨rfl, ?_, g1⟩) 8 0 _ (by omega) hc2 hw2 hO2)
    have hc8 := hO.1.1.2
    have hse : nSe (rpLb σ f) = nSe σ := by
      unfold rpLb
      split
      · exact nSe_send
      · rfl
    have hi8 : iterN (repStep f (rpY f) ((fRo f).idxOf (fFr f))) 8 (rpLb σ f) = arrRep σ f := by
      have := iterN_out (f := repStep f (rpY f) ((fRo f).idxOf (fFr f))) (σ := rpLb σ f) (c := nSe σ 0) (fun z τ hz hτ => by
        have hw9 : wfO τ b o := by
          rw [hτ]
          exact iterN_ind (P := fun _ τ => wfO τ b o) (nSe σ 0) hO2 (fun z τ hz q => q.rp (by omega) hnd h8)
        have hge : nSe τ = nSe σ := by
          rw [hτ]
          exact (geN.it (fun z τ => ge_rp) (nSe σ 0) (rpLb σ f)).1.trans hse
        exact repStep_no (fun q _ _ => by
          have := (hw9.2.2.2.2.2.2.1 _ _ q).2.1
          rw [hge] at this
          omega)) (8 - nSe σ 0)
      rw [show nSe σ 0 + (8 - nSe σ 0) = 8 by omega] at this
      rw [this]
      unfold arrRep
      rw [if_pos hup1]
    rw [← hi8]
    exact g2
set_option maxRecDepth 100000 in
set_option maxHeartbeats 4000000 in
theorem l_X10_errorArrives {E : Ev} (hB : Bd G E mX10_errorArrives) {Q : Option Value → St → Prop} (w : Nat) (hW : WLay G w) (σ1 : Net) (b o a y : Nat) (nx : Int32) (f : Fm) (hx8 : fFr f < 8) (hy8 : y < 8) (hlk : lkOk (fLk f)) (hfa : S.2.2 (w + 3) 3 = some a) (hfl : w + 5 ≤ a ∧ a < w + 46) (hf1 : S.1 a 1 = nI (fFr f)) (hf3 : S.1 a 3 = lkN (fLk f)) (kk : ∀ S1, wch w S S1 → worldR S1 w (iterN (errStep f y) 8 σ1) → Q none S1) :
    ∀ (k z : Nat) (S1 : St), z + k = 8 → wch w S S1 → worldR S1 w (iterN (errStep f y) z σ1) → wfO (iterN (errStep f y) z σ1) b o → X G E mX10_errorArrives 3 Q S1 72 [some (.ref w), some (.ref a), some (.int (nI y)), some (.int nx), some (.int (nI z))] [] := by
  have hfk := hW.2.2.2.2.2.1 a hfl.1 hfl.2
  intro k
  induction k with
  | zero =>
    intro z S1 h1' h2 h3 h4
    have e9 : z = 8 := by omega
    subst e9
    refine X_iload hB dX10_errorArrives_72 rfl ?_
    refine X_bipush (v := 8) hB dX10_errorArrives_74 (by decide) ?_
    refine X_icmp_ge (tgt := 120) hB dX10_errorArrives_76 (by decide) (fun c76 => ?_) (fun c76 => absurd c76 (by simp (disch := omega) only [nlit, nI_leI, nI_ltI]; omega))
    refine X_vret hB rfl dX10_errorArrives_120 ?_
    exact kk S1 h2 h3
  | succ k ih =>
    intro z S1 h1' h2 h3 h4
    have hz8 : z < 8 := by omega
    have hup := h4.2.2.2.2.2.2.1.sym
    have hPo := hW.po hz8
    have hfr := h2.2.2 a hfa
    have h4' : wfO (errStep f y z (iterN (errStep f y) z σ1)) b o := h4.es hz8
    refine X_iload hB dX10_errorArrives_72 rfl ?_
    refine X_bipush (v := 8) hB dX10_errorArrives_74 (by decide) ?_
    refine X_icmp_ge (tgt := 120) hB dX10_errorArrives_76 (by decide) (fun c76 => absurd c76 (by simp (disch := omega) only [nlit, nI_leI, nI_ltI]; omega)) (fun c76 => ?_)
    refine X_iload hB dX10_errorArrives_79 rfl ?_
    refine X_iload_n (i := 2) hB dX10_errorArrives_81 rfl rfl ?_
    refine X_icmp_eq (tgt := 114) hB dX10_errorArrives_82 (by decide) (fun c82 => ?_) (fun c82 => ?_)
    · refine X_iinc hB dX10_errorArrives_114 rfl rfl (by decide) rfl ?_
      refine X_goto (tgt := 72) hB dX10_errorArrives_117 (by decide) ?_
      have hh := errStep_no (f := f) (y := y) (σ := (iterN (errStep f y) z σ1)) (z := z) (fun _ q _ => absurd ((nI_eq (by omega) (by omega)).mp c82) q)
      refine X_lv ?_ (ih (z + 1) S1 (by omega) h2 (show worldR S1 w (errStep f y z (iterN (errStep f y) z σ1)) by rw [hh]; exact h3) h4')
      · rw [nI_succ]; rfl
    · have e71 : z ≠ y := fun q => c82 (by rw [q])
      refine X_aload_n (i := 0) hB dX10_errorArrives_85 rfl rfl ?_
      refine X_iload hB dX10_errorArrives_86 rfl ?_
      refine X_aload_n (i := 1) hB dX10_errorArrives_88 rfl rfl ?_
      refine X_geti hB cw3 fX10_216 rfl hfk.1 hfk.2 dX10_errorArrives_89 ?_
      refine X_topi (y := nI (fFr f)) (by rw [hfr.1]; exact hf1) ?_
      refine X_callV hB kX10_320 cw8 hW.1.1 hW.1.2 (c_X10_overhears w hW (iterN (errStep f y) z σ1) h3 hup z (fFr f) hz8 hx8) (by decide) (by decide) rfl rfl (Nat.le_of_ble_eq_true rfl) dX10_errorArrives_92 (fun r92 S92 q92 => ?_)
      obtain ⟨rfl, rfl⟩ := q92
      refine X_if_eq (tgt := 114) hB dX10_errorArrives_95 (by decide) (fun c95 => ?_) (fun c95 => ?_)
      · refine X_iinc hB dX10_errorArrives_114 rfl rfl (by decide) rfl ?_
        refine X_goto (tgt := 72) hB dX10_errorArrives_117 (by decide) ?_
        have hh := errStep_no (f := f) (y := y) (σ := (iterN (errStep f y) z σ1)) (z := z) (fun q1 _ q2 => absurd (by rw [hup, q1, q2]; rfl) (if1n c95))
        refine X_lv ?_ (ih (z + 1) S1 (by omega) h2 (show worldR S1 w (errStep f y z (iterN (errStep f y) z σ1)) by rw [hh]; exact h3) h4')
        · rw [nI_succ]; rfl
      · have e84 : nUp (iterN (errStep f y) z σ1) z (fFr f) = true ∧ dLis (nNd (iterN (errStep f y) z σ1) z) = true := by
          have q := if1 c95
          rw [Bool.and_eq_true] at q
          exact q
        have hzx : z ≠ fFr f := (h4.2.2.2.2.2.2.1 z (fFr f) e84.1).2.2.1
        have hzc := (h4.2.2.2.2.2.2.1 z (fFr f) e84.1).1
        refine X_aload_n (i := 0) hB dX10_errorArrives_98 rfl rfl ?_
        refine X_iload hB dX10_errorArrives_99 rfl ?_
        refine X_callV hB kX10_102 cw8 hW.1.1 hW.1.2 (c_X10_post w hW h3.1 z hz8) (by decide) (by decide) rfl rfl (Nat.le_of_ble_eq_true rfl) dX10_errorArrives_101 (fun r101 S101 q101 => ?_)
        obtain ⟨rfl, rfl⟩ := q101
        refine X_getr hB cw4 fX10_72 rfl hPo.1.1 hPo.1.2 (h3.po hz8).1.1 dX10_errorArrives_104 ?_
        refine X_aload_n (i := 1) hB dX10_errorArrives_107 rfl rfl ?_
        refine X_geti hB cw3 fX10_301 rfl hfk.1 hfk.2 dX10_errorArrives_108 ?_
        refine X_topi (y := lkN (fLk f)) (by rw [hfr.1]; exact hf3) ?_
        refine X_callV hB kX10_298 cw1 hPo.2.2.2.2.1.1 hPo.2.2.2.2.1.2 (c_X1_forget (pA w z + 5) z (nSe (iterN (errStep f y) z σ1) 1) (nSe (iterN (errStep f y) z σ1) 2) (dMap (nNd (iterN (errStep f y) z σ1) z)) (dCa (nNd (iterN (errStep f y) z σ1) z)) (hW.po hz8).2.2.2.2 (h3.po hz8).2.2.1 (fLk f) hlk) (by decide) (by decide) rfl rfl (Nat.le_of_ble_eq_true rfl) dX10_errorArrives_111 (fun r111 S111 q111 => ?_)
        obtain ⟨rfl, g1, g2, g3⟩ := q111
        obtain ⟨w5, c5⟩ : worldR S111 w (forgetON (iterN (errStep f y) z σ1) z (fLk f)) ∧ wch w S1 S111 := ca_world h3 hz8 g1 g2 g3 (fun q => by omega)
        refine X_iinc hB dX10_errorArrives_114 rfl rfl (by decide) rfl ?_
        refine X_goto (tgt := 72) hB dX10_errorArrives_117 (by decide) ?_
        have hh := errStep_yes (f := f) (y := y) (σ := (iterN (errStep f y) z σ1)) hzx (hup z (fFr f) ▸ e84.1) e71 e84.2
        refine X_lv ?_ (ih (z + 1) S111 (by omega) (h2.tr c5) (show worldR S111 w (errStep f y z (iterN (errStep f y) z σ1)) by rw [hh]; exact w5) h4')
        · rw [nI_succ]; rfl
set_option maxRecDepth 100000 in
set_option maxHeartbeats 4000000 in
theorem c_X10_errorArrives (w : Nat) (hW : WLay G w) (σ : Net) (hw : worldR S w σ) (b o a : Nat) (f : Fm) (hO : wfO σ b o) (hx8 : fFr f < 8) (hnd : (fRo f).Nodup) (h8 : ∀ y ∈ fRo f, y < 8) (h2 : 2 ≤ (fRo f).length) (h0 : (fRo f).getD 0 0 = fFr f) (hlk : lkOk (fLk f)) (hnn : fLk f ≠ none) (hup1 : nUp σ (fFr f) ((fRo f).getD 1 0) = true) (hfa : S.2.2 (w + 3) 3 = some a) (hfl : w + 5 ≤ a ∧ a < w + 46) (hfm : fmR S a σ f) (hk3 : fKi f = 3) : C G mX10_errorArrives 3 [.ref w, .ref a] S (fun r S' => r = none ∧ worldR S' w (arrErr σ f) ∧ wch w S S') := by
  have hfk := hW.2.2.2.2.2.1 a hfl.1 hfl.2
  have hro : okR (fRo f) := okR.of hnd h8
  have hl8 := hro.1
  have hyi : ((fRo f).getD 1 0) ∈ fRo f := getD_mem (by omega)
  have hy8 : ((fRo f).getD 1 0) < 8 := h8 _ hyi
  have hPo := hW.po hy8
  have hyc : ((fRo f).getD 1 0) < nSe σ 0 := (hO.2.2.2.2.2.2.1 _ _ hup1).2.1
  have hx0 : (fRo f).idxOf (fFr f) = 0 := (idxOf_iff (by omega) h0 (fun j hj => by omega)).2
  have ha2 : S.1 a 2 = nI ((fRo f).getD 1 0) := by
    rw [hfm.2.2.1]
    unfold whom
    rw [if_neg (by omega), if_neg (by omega), if_neg (by omega), hx0]
  have ha3 : S.1 a 3 = lkN (fLk f) := by rw [hfm.2.2.2.1]; unfold whatF; rw [if_neg (by omega), if_pos hk3]
  have ha6 : S.2.1 a 6 = rJ (fRo f) := by rw [hfm.2.2.2.2.2.2]; unfold frL; rw [if_neg (by omega)]
  have hO1 : wfO (erLa σ f) b o := hO.forgetO hy8
  refine C.mk (lv := [some (.ref w), some (.ref a), none, none, none]) (by decide) (Nat.le_of_ble_eq_true rfl) rfl (fun E hB => ?_)
  refine X_aload_n (i := 1) hB dX10_errorArrives_0 rfl rfl ?_
  refine X_geti hB cw3 fX10_219 rfl hfk.1 hfk.2 dX10_errorArrives_1 ?_
  refine X_topi (y := nI ((fRo f).getD 1 0)) (ha2) ?_
  refine X_istore_n (i := 2) hB dX10_errorArrives_4 rfl (by decide) rfl ?_
  refine X_aload_n (i := 1) hB dX10_errorArrives_5 rfl rfl ?_
  refine X_getj hB cw3 fX10_311 rfl hfk.1 hfk.2 dX10_errorArrives_6 ?_
  refine X_topl (y := rJ (fRo f)) (ha6) ?_
  refine X_iconst (v := 2) hB dX10_errorArrives_9 (by decide) ?_
  refine X_callS hB kX10_259 (c_X8_at (fRo f) hro (nI 2)) (by decide) (by decide) rfl rfl (Nat.le_of_ble_eq_true rfl) dX10_errorArrives_10 (fun r10 S10 q10 => ?_)
  obtain ⟨rfl, rfl⟩ := q10
  refine X_istore_n (i := 3) hB dX10_errorArrives_13 rfl (by decide) rfl ?_
  refine X_aload_n (i := 0) hB dX10_errorArrives_14 rfl rfl ?_
  refine X_iload_n (i := 2) hB dX10_errorArrives_15 rfl rfl ?_
  refine X_callV hB kX10_102 cw8 hW.1.1 hW.1.2 (c_X10_post w hW hw.1 ((fRo f).getD 1 0) hy8) (by decide) (by decide) rfl rfl (Nat.le_of_ble_eq_true rfl) dX10_errorArrives_16 (fun r16 S16 q16 => ?_)
  obtain ⟨rfl, rfl⟩ := q16
  refine X_getr hB cw4 fX10_72 rfl hPo.1.1 hPo.1.2 (hw.po hy8).1.1 dX10_errorArrives_19 ?_
  refine X_aload_n (i := 1) hB dX10_errorArrives_22 rfl rfl ?_
  refine X_geti hB cw3 fX10_301 rfl hfk.1 hfk.2 dX10_errorArrives_23 ?_
  refine X_topi (y := lkN (fLk f)) (ha3) ?_
  refine X_callV hB kX10_298 cw1 hPo.2.2.2.2.1.1 hPo.2.2.2.2.1.2 (c_X1_forget (pA w ((fRo f).getD 1 0) + 5) ((fRo f).getD 1 0) (nSe σ 1) (nSe σ 2) (dMap (nNd σ ((fRo f).getD 1 0))) (dCa (nNd σ ((fRo f).getD 1 0))) (hW.po hy8).2.2.2.2 (hw.po hy8).2.2.1 (fLk f) hlk) (by decide) (by decide) rfl rfl (Nat.le_of_ble_eq_true rfl) dX10_errorArrives_26 (fun r26 S26 q26 => ?_)
  obtain ⟨rfl, g1, g2, g3⟩ := q26
  obtain ⟨hw1, hc1⟩ : worldR S26 w (erLa σ f) ∧ wch w S S26 := ca_world hw hy8 g1 g2 g3 (fun q => by omega)
  clear g1 g2 g3
  have hk1 := hc1.2.2 a hfa
  refine X_iload_n (i := 3) hB dX10_errorArrives_29 rfl rfl ?_
  refine X_iconst (v := (-1)) hB dX10_errorArrives_30 (by decide) ?_
  refine X_icmp_ne (tgt := 49) hB dX10_errorArrives_31 (by decide) (fun c31 => ?_) (fun c31 => ?_)
  · have e31 : 2 < (fRo f).length := by
      rcases Nat.lt_or_ge 2 (fRo f).length with q | q
      · exact q
      · exact absurd (show nth (fRo f) (nI 2) = -1 by unfold nth; rw [show inN (nI 2) (fRo f).length = none by unfold inN; rw [nI_toInt (by decide), if_neg (by omega)]]) c31
    have hdl : ((fRo f).drop 1).length = (fRo f).length - 1 := List.length_drop
    have hd0 : ((fRo f).drop 1).getD 0 0 = ((fRo f).getD 1 0) := drop_hd
    have hix : ((fRo f).drop 1).idxOf ((fRo f).getD 1 0) = 0 := (idxOf_iff (by omega) hd0 (fun j hj => by omega)).2
    have hwho : nth (fRo f) (nI 2) = whom (erLa σ f) (3, ((fRo f).getD 1 0), 0, 0, fLk f, (fRo f).drop 1) := by
      rw [nth_in e31 hl8]
      show _ = (if (3 : Nat) = 0 then _ else if (3 : Nat) = 1 then _ else nI (((fRo f).drop 1).getD (if (3 : Nat) = 2 then ((fRo f).drop 1).idxOf ((fRo f).getD 1 0) - 1 else ((fRo f).drop 1).idxOf ((fRo f).getD 1 0) + 1) 0))
      rw [if_neg (by decide), if_neg (by decide), if_neg (by decide), hix]
      simp [List.getElem?_drop]
    refine X_aload_n (i := 0) hB dX10_errorArrives_49 rfl rfl ?_
    refine X_iconst (v := 3) hB dX10_errorArrives_50 (by decide) ?_
    refine X_iload_n (i := 2) hB dX10_errorArrives_51 rfl rfl ?_
    refine X_iload_n (i := 3) hB dX10_errorArrives_52 rfl rfl ?_
    refine X_topi (y := whom (erLa σ f) (3, ((fRo f).getD 1 0), 0, 0, fLk f, (fRo f).drop 1)) (hwho) ?_
    refine X_aload_n (i := 1) hB dX10_errorArrives_53 rfl rfl ?_
    refine X_geti hB cw3 fX10_301 rfl hfk.1 hfk.2 dX10_errorArrives_54 ?_
    refine X_topi (y := lkN (fLk f)) (by rw [hk1.1]; exact ha3) ?_
    refine X_aload_n (i := 1) hB dX10_errorArrives_57 rfl rfl ?_
    refine X_getj hB cw3 fX10_311 rfl hfk.1 hfk.2 dX10_errorArrives_58 ?_
    refine X_topl (y := rJ (fRo f)) (by rw [hk1.2]; exact ha6) ?_
    refine X_iconst (v := 1) hB dX10_errorArrives_61 (by decide) ?_
    refine X_callS hB kX10_314 (c_X8_from (fRo f) hro 1 (by decide)) (by decide) (by decide) rfl rfl (Nat.le_of_ble_eq_true rfl) dX10_errorArrives_62 (fun r62 S62 q62 => ?_)
    obtain ⟨rfl, rfl⟩ := q62
    refine X_callV hB kX10_250 cw8 hW.1.1 hW.1.2 (c_emitF w hW (erLa σ f) hw1 (3, ((fRo f).getD 1 0), 0, 0, fLk f, (fRo f).drop 1) (by decide : 3 ≤ 3) (by decide : (3 : Nat) ≠ 1)) (by decide) (by decide) rfl rfl (Nat.le_of_ble_eq_true rfl) dX10_errorArrives_65 (fun r65 S65 q65 => ?_)
    obtain ⟨hor, k1, k2⟩ := q65
    obtain ⟨v65, rfl, hv65⟩ : ∃ v, r65 = some v ∧ v.category = 1 := by
      rcases hor with ⟨rfl, _⟩ | ⟨⟨u, rfl⟩, _⟩
      · exact ⟨_, rfl, rfl⟩
      · exact ⟨_, rfl, rfl⟩
    refine X_pop hB dX10_errorArrives_68 hv65 ?_
    have hlb : erLb σ f = (sendF (erLa σ f) (3, ((fRo f).getD 1 0), 0, 0, fLk f, (fRo f).drop 1)).1 := by unfold erLb; rw [if_neg (by omega)]
    have hw2 : worldR S65 w (erLb σ f) := by rw [hlb]; exact k1
    have hc2 : wch w S S65 := hc1.tr k2
    have hO2 : wfO (erLb σ f) b o := by
      rw [hlb]
      exact hO1.send (fr3 hy8 (hnd.sublist (List.drop_sublist _ _)) (fun z hz => h8 z (List.mem_of_mem_drop hz)) (by omega) hd0 hlk hnn) (show (3 : Nat) ≠ 0 by decide)
    refine X_iconst (v := 0) hB dX10_errorArrives_69 (by decide) ?_
    refine X_istore hB dX10_errorArrives_70 (by decide) rfl ?_
    refine X_dl [some (.ref w), some (.ref a), some (.int (nI ((fRo f).getD 1 0))), some (.int (nth (fRo f) (nI 2))), some (.int (nI 0))] ⟨rfl, rfl, rfl, rfl, by rw [nI_0], trivial⟩ (l_X10_errorArrives (S := S) hB w hW (erLb σ f) b o a ((fRo f).getD 1 0) (nth (fRo f) (nI 2)) f hx8 hy8 hlk hfa hfl hfm.2.1 ha3 (fun S1 g1 g2 => ⟨rfl, ?_, g1⟩) 8 0 _ (by omega) hc2 hw2 hO2)
    have hc8 := hO.1.1.2
    have hse : nSe (erLb σ f) = nSe σ := by
      rw [hlb]
      first
        | exact nSe_send
        | rfl
    have hi8 : iterN (errStep f ((fRo f).getD 1 0)) 8 (erLb σ f) = arrErr σ f := by
      have := iterN_out (f := errStep f ((fRo f).getD 1 0)) (σ := erLb σ f) (c := nSe σ 0) (fun z τ hz hτ => by
        have hw9 : wfO τ b o := by
          rw [hτ]
          exact iterN_ind (P := fun _ τ => wfO τ b o) (nSe σ 0) hO2 (fun z τ hz q => q.es (by omega))
        have hge : nSe τ = nSe σ := by
          rw [hτ]
          exact (geN.it (fun z τ => ge_es) (nSe σ 0) (erLb σ f)).1.trans hse
        exact errStep_no (fun q _ _ => by
          have := (hw9.2.2.2.2.2.2.1 _ _ q).2.1
          rw [hge] at this
          omega)) (8 - nSe σ 0)
      rw [show nSe σ 0 + (8 - nSe σ 0) = 8 by omega] at this
      rw [this]
      unfold arrErr
      rw [if_pos hup1]
    rw [← hi8]
    exact g2
  · have e31 : (fRo f).length = 2 := by
      rcases Nat.lt_or_ge 2 (fRo f).length with q | q
      · rw [nth_in q hl8] at c31
        exact absurd c31 (nI_neg1 (by have := h8 _ (getD_mem (d := 0) q); omega))
      · omega
    refine X_aload_n (i := 0) hB dX10_errorArrives_34 rfl rfl ?_
    refine X_iload_n (i := 2) hB dX10_errorArrives_35 rfl rfl ?_
    refine X_callV hB kX10_102 cw8 hW.1.1 hW.1.2 (c_X10_post w hW hw1.1 ((fRo f).getD 1 0) hy8) (by decide) (by decide) rfl rfl (Nat.le_of_ble_eq_true rfl) dX10_errorArrives_36 (fun r36 S36 q36 => ?_)
    obtain ⟨rfl, rfl⟩ := q36
    refine X_aload_n (i := 1) hB dX10_errorArrives_39 rfl rfl ?_
    refine X_geti hB cw3 fX10_301 rfl hfk.1 hfk.2 dX10_errorArrives_40 ?_
    refine X_topi (y := lkN (fLk f)) (by rw [hk1.1]; exact ha3) ?_
    refine X_puti hB cw4 fX10_132 rfl rfl hPo.1.1 hPo.1.2 dX10_errorArrives_43 ?_
    have hw2' := nw_world (o := fLk f) hw1 hy8
    obtain ⟨hw2, hc2'⟩ := hw2'
    have hlb : erLb σ f = uNd (erLa σ f) ((fRo f).getD 1 0) (xNw (nNd (erLa σ f) ((fRo f).getD 1 0)) (fLk f)) := by unfold erLb; rw [if_pos e31]
    have hO2 : wfO (erLb σ f) b o := by rw [hlb]; exact hO1.nw hy8 hlk
    rw [← hlb] at hw2
    have hc2 := hc1.tr hc2'
    refine X_goto (tgt := 69) hB dX10_errorArrives_46 (by decide) ?_
    refine X_iconst (v := 0) hB dX10_errorArrives_69 (by decide) ?_
    refine X_istore hB dX10_errorArrives_70 (by decide) rfl ?_
    refine X_dl [some (.ref w), some (.ref a), some (.int (nI ((fRo f).getD 1 0))), some (.int (nth (fRo f) (nI 2))), some (.int (nI 0))] ⟨rfl, rfl, rfl, rfl, by rw [nI_0], trivial⟩ (l_X10_errorArrives (S := S) hB w hW (erLb σ f) b o a ((fRo f).getD 1 0) (nth (fRo f) (nI 2)) f hx8 hy8 hlk hfa hfl hfm.2.1 ha3 (fun S1 g1 g2 => ⟨rfl, ?_, g1⟩) 8 0 _ (by omega) hc2 hw2 hO2)
    have hc8 := hO.1.1.2
    have hse : nSe (erLb σ f) = nSe σ := by
      rw [hlb]
      first
        | exact nSe_send
        | rfl
    have hi8 : iterN (errStep f ((fRo f).getD 1 0)) 8 (erLb σ f) = arrErr σ f := by
      have := iterN_out (f := errStep f ((fRo f).getD 1 0)) (σ := erLb σ f) (c := nSe σ 0) (fun z τ hz hτ => by
        have hw9 : wfO τ b o := by
          rw [hτ]
          exact iterN_ind (P := fun _ τ => wfO τ b o) (nSe σ 0) hO2 (fun z τ hz q => q.es (by omega))
        have hge : nSe τ = nSe σ := by
          rw [hτ]
          exact (geN.it (fun z τ => ge_es) (nSe σ 0) (erLb σ f)).1.trans hse
        exact errStep_no (fun q _ _ => by
          have := (hw9.2.2.2.2.2.2.1 _ _ q).2.1
          rw [hge] at this
          omega)) (8 - nSe σ 0)
      rw [show nSe σ 0 + (8 - nSe σ 0) = 8 by omega] at this
      rw [this]
      unfold arrErr
      rw [if_pos hup1]
    rw [← hi8]
    exact g2
end CLS
