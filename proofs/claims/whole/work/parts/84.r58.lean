/-! the class: data are done, go on, wait; nodes ask and serve -/
def flF (σ : Net) (d : Nat) : Fm := (0, trL (dat σ d), d, 0, none, [])
def flX (σ : Net) (d : Nat) (wy : List Nat) : Net := uDa σ d (dSt (dRe (dat σ d) wy) 1)
theorem flyBy_eq {σ : Net} {d : Nat} {wy : List Nat} (hd : d < (nDa σ).length) : flyBy σ d wy = if (sendF (flX σ d wy) (flF σ d)).2 then (sendF (flX σ d wy) (flF σ d)).1 else doneD (sendF (flX σ d wy) (flF σ d)).1 d 3 := by
  unfold flyBy flyOn flX flF
  rw [dat_eq hd, uDa_uDa]
  rfl
theorem flyOn_eq {σ : Net} {d : Nat} (hd : d < (nDa σ).length) : flyOn σ d = flyBy σ d (aRe (dat σ d)) := by
  unfold flyBy
  congr 1
  unfold uDa
  have e : dRe (dat σ d) (aRe (dat σ d)) = dat σ d := rfl
  rw [e]
  have h : (nDa σ).set d (dat σ d) = nDa σ := by
    refine List.ext_getElem? (fun i => ?_)
    rw [List.getElem?_set]
    split
    · rename_i q
      subst q
      have hd' : d < σ.2.2.2.2.2.2.length := hd
      simp [hd']
    · rfl
  exact (show σ = (σ.1, σ.2.1, σ.2.2.1, σ.2.2.2.1, σ.2.2.2.2.1, σ.2.2.2.2.2.1, (nDa σ).set d (dat σ d)) by rw [h])
def noF (σ : Net) (d : Nat) : Prop := ∀ f ∈ nAir σ, fKi f = 0 → fAb f ≠ d
theorem wfO.nof {σ : Net} {b o : Nat} (h : wfO σ b o) : noF σ o := fun f hf => (h.2.2.2.1 f hf).2
section CLS
variable {G : Gc} {S : St}
set_option maxRecDepth 100000 in
set_option maxHeartbeats 4000000 in
theorem c_X10_finish (w : Nat) (hW : WLay G w) (σ : Net) (hw : worldR S w σ) (d st ta : Nat) (hd : d < (nDa σ).length) (hst : st = 2 ∨ st = 3) (hta : ta = if st = 2 then 9 else 10) (hno : noF σ d) : C G mX10_finish 1 [.ref w, .ref (dA w d), .int (nI st), .int (nI ta)] S (fun r S' => r = none ∧ worldR S' w (doneD σ d st) ∧ wch w S S') := by
  have hd40 := hw.l40.2
  have hD := hW.dd (show d < 40 by omega)
  have hta11 : ta < 11 := by rw [hta]; split <;> omega
  have haw : (dA w d) ≠ w ∧ (dA w d) ≠ w + 2 := by unfold dA; omega
  refine C.mk (lv := [some (.ref w), some (.ref (dA w d)), some (.int (nI st)), some (.int (nI ta))]) (by decide) (Nat.le_of_ble_eq_true rfl) rfl (fun E hB => ?_)
  refine X_aload_n (i := 1) hB dX10_finish_0 rfl rfl ?_
  refine X_iload_n (i := 2) hB dX10_finish_1 rfl rfl ?_
  refine X_lconst (v := 0) hB dX10_finish_2 (by decide) ?_
  refine X_callV hB kX10_262 cw2 hD.1 hD.2 (c_X2_stand (dA w d) hD (nI st) 0) (by decide) (by decide) rfl rfl (Nat.le_of_ble_eq_true rfl) dX10_finish_3 (fun r3 S3 q3 => ?_)
  obtain ⟨rfl, rfl⟩ := q3
  refine X_aload_n (i := 1) hB dX10_finish_6 rfl rfl ?_
  refine X_aload_n (i := 0) hB dX10_finish_7 rfl rfl ?_
  refine X_geti hB cw8 fX10_57 rfl hW.1.1 hW.1.2 dX10_finish_8 ?_
  refine X_topi (y := nI (nNow σ)) (by rw [show (setJ (setI S (dA w d) 3 (nI st)) (dA w d) 5 0).1 w = S.1 w from setI_row _ _ _ (Ne.symm haw.1)]; exact hw.2.1.2.2.2.1) ?_
  refine X_puti hB cw2 fX10_184 rfl rfl hD.1 hD.2 dX10_finish_11 ?_
  generalize hS2 : setI (setJ (setI S (dA w d) 3 (nI st)) (dA w d) 5 0) (dA w d) 8 (nI (nNow σ)) = S2
  obtain ⟨hw3, hc3⟩ : worldR S2 w (uDa σ d (dRe (dDo (dSt (dat σ d) st) (some (nNow σ))) [])) ∧ wch w S S2 := by
    obtain ⟨z1, z2, z3, z4, z5, z6, z7, z8, z9, z10⟩ := hw.dc hd
    refine worldR_da hw hd (hS2 ▸ (chg.setI (Nat.le_refl _) (by omega)).tr ((chg.setJ (Nat.le_refl _) (by omega)).tr (chg.setI (Nat.le_refl _) (by omega)))) (by rw [← hS2]; rfl) (by rw [← hS2]; simp [setI, setJ, ups]) ⟨?_, ?_, ?_, ?_, ?_, ?_, ?_, ?_, ?_, ?_⟩ (fun f h1 h2 h3 => absurd h3 (hno f h1 h2)) (hw.cv.da hd rfl rfl)
    · rw [← hS2]; simp [setI, setJ, ups]; exact z1
    · rw [← hS2]; simp [setI, setJ, ups]; exact z2
    · rw [← hS2]; simp [setI, setJ, ups]; rfl
    · rw [← hS2]; simp [setI, setJ, ups]; exact z4
    · rw [← hS2]; simp [setI, setJ, ups]; rfl
    · rw [← hS2]; simp [setI, setJ, ups]; exact z6
    · rw [← hS2]; simp [setI, setJ, ups]; exact z7
    · rw [← hS2]; simp [setI, setJ, ups]; rfl
    · intro q
      have q : st = 0 := q
      omega
    · rw [← hS2]; simp [setI, setJ, ups]; exact z10
  clear hS2
  refine X_iload_n (i := 3) hB dX10_finish_14 rfl rfl ?_
  refine X_if_lt (tgt := 34) hB dX10_finish_15 (by decide) (fun c15 => absurd c15 (nI_pos (by omega))) (fun c15 => ?_)
  refine X_iload_n (i := 3) hB dX10_finish_18 rfl rfl ?_
  refine X_bipush (v := 11) hB dX10_finish_19 (by decide) ?_
  refine X_icmp_ge (tgt := 34) hB dX10_finish_21 (by decide) (fun c21 => absurd c21 (by simp (disch := omega) only [nlit, nI_leI, nI_ltI]; omega)) (fun c21 => ?_)
  refine X_aload_n (i := 0) hB dX10_finish_24 rfl rfl ?_
  refine X_getr hB cw8 fX10_15 rfl hW.1.1 hW.1.2 hw3.1.2.1 dX10_finish_25 ?_
  refine X_iload_n (i := 3) hB dX10_finish_28 rfl rfl ?_
  refine X_dup2_11 hB dX10_finish_29 rfl rfl ?_
  refine X_ialdN hB (ta) hW.2.2.1.1 hW.2.2.1.2 (by decide) rfl (by omega) (hw3.2.1.2.1 ta hta11) dX10_finish_30 ?_
  refine X_iconst (v := 1) hB dX10_finish_31 (by decide) ?_
  refine X_iadd hB dX10_finish_32 ?_
  refine X_topi (y := nI (nTa (uDa σ d (dRe (dDo (dSt (dat σ d) st) (some (nNow σ))) [])) ta + 1)) (by first | rfl | (simp (disch := omega) only [nlit, nI_add, nI_mul, nI_sub]; done) | (simp (disch := omega) only [nlit, nI_add, nI_mul, nI_sub]; (congr 1 <;> omega))) ?_
  refine X_iastN hB (ta) hW.2.2.1.1 hW.2.2.1.2 (by decide) rfl (by omega) dX10_finish_33 ?_
  refine X_vret hB rfl dX10_finish_34 ?_
  obtain ⟨g1, g2⟩ := worldR_ta (k := ta) hw3 hta11
  refine ⟨rfl, ?_, hc3.tr g2⟩
  unfold doneD
  rw [← hta]
  exact g1
set_option maxRecDepth 100000 in
set_option maxHeartbeats 4000000 in
theorem c_X10_emitData (w : Nat) (hW : WLay G w) (σ : Net) (hw : worldR S w σ) (d : Nat) (wy : List Nat) (hd : d < (nDa σ).length) (hno : noF σ d) (hwy : okR wy) (h2 : 2 ≤ wy.length) (h0 : wy.getD 0 0 = trL (dat σ d)) : C G mX10_emitData 2 [.ref w, .ref (dA w d), .long (rJ wy)] S (fun r S' => r = none ∧ worldR S' w (flyBy σ d wy) ∧ wch w S S') := by
  have hd40 := hw.l40.2
  have hD := hW.dd (show d < 40 by omega)
  have h8 := hwy.1
  refine C.mk (lv := [some (.ref w), some (.ref (dA w d)), some (.long (rJ wy)), none]) (by decide) (Nat.le_of_ble_eq_true rfl) rfl (fun E hB => ?_)
  refine X_aload_n (i := 1) hB dX10_emitData_0 rfl rfl ?_
  refine X_iconst (v := 1) hB dX10_emitData_1 (by decide) ?_
  refine X_lload_n (i := 2) hB dX10_emitData_2 rfl rfl ?_
  refine X_callV hB kX10_262 cw2 hD.1 hD.2 (c_X2_stand (dA w d) hD 1 (rJ wy)) (by decide) (by decide) rfl rfl (Nat.le_of_ble_eq_true rfl) dX10_emitData_3 (fun r3 S3 q3 => ?_)
  obtain ⟨rfl, rfl⟩ := q3
  generalize hS1 : setJ (setI S (dA w d) 3 1) (dA w d) 5 (rJ wy) = S1
  obtain ⟨hw1, hc1⟩ : worldR S1 w (flX σ d wy) ∧ wch w S S1 := by
    obtain ⟨z1, z2, z3, z4, z5, z6, z7, z8, z9, z10⟩ := hw.dc hd
    refine worldR_da hw hd (hS1 ▸ (chg.setI (Nat.le_refl _) (by omega)).tr (chg.setJ (Nat.le_refl _) (by omega))) (by rw [← hS1]; rfl) (by rw [← hS1]; simp [setI, setJ, ups]) ⟨?_, ?_, ?_, ?_, ?_, ?_, ?_, ?_, ?_, ?_⟩ (fun f h1 h2 h3 => absurd h3 (hno f h1 h2)) (hw.cv.da hd rfl rfl)
    · rw [← hS1]; simp [setI, setJ, ups]; exact z1
    · rw [← hS1]; simp [setI, setJ, ups]; exact z2
    · rw [← hS1]; simp [setI, setJ, ups]; rfl
    · rw [← hS1]; simp [setI, setJ, ups]; exact z4
    · rw [← hS1]; simp [setI, setJ, ups]; rfl
    · rw [← hS1]; simp [setI, setJ, ups]; exact z6
    · rw [← hS1]; simp [setI, setJ, ups]; exact z7
    · rw [← hS1]; simp [setI, setJ, ups]; exact z8
    · intro q; cases q
    · rw [← hS1]; simp [setI, setJ, ups]; exact z10
  clear hS1
  have hd1 : d < (nDa (flX σ d wy)).length := by unfold flX; rw [len_set]; exact hd
  have hdat : dat (flX σ d wy) d = dSt (dRe (dat σ d) wy) 1 := dat_eq hd
  have hfl : frL (flX σ d wy) (flF σ d) = wy := by
    show (if (0 : Nat) = 0 then aRe (dat (flX σ d wy) d) else _) = wy
    rw [if_pos rfl, hdat]; rfl
  have hwh : whom (flX σ d wy) (flF σ d) = nI (wy.getD 1 0) := by
    show (if (0 : Nat) = 0 then nI ((aRe (dat (flX σ d wy) d)).getD 1 0) else _) = _
    rw [if_pos rfl, hdat]; rfl
  refine X_aload_n (i := 0) hB dX10_emitData_6 rfl rfl ?_
  refine X_iconst (v := 0) hB dX10_emitData_7 (by decide) ?_
  refine X_lload_n (i := 2) hB dX10_emitData_8 rfl rfl ?_
  refine X_iconst (v := 0) hB dX10_emitData_9 (by decide) ?_
  refine X_callS hB kX10_259 (c_X8_at wy hwy (nI 0)) (by decide) (by decide) rfl rfl (Nat.le_of_ble_eq_true rfl) dX10_emitData_10 (fun r10 S10 q10 => ?_)
  obtain ⟨rfl, rfl⟩ := q10
  refine X_topi (y := nI (fFr (flF σ d))) ((nth_in (by omega) h8).trans (congrArg nI h0)) ?_
  refine X_lload_n (i := 2) hB dX10_emitData_13 rfl rfl ?_
  refine X_iconst (v := 1) hB dX10_emitData_14 (by decide) ?_
  refine X_callS hB kX10_259 (c_X8_at wy hwy (nI 1)) (by decide) (by decide) rfl rfl (Nat.le_of_ble_eq_true rfl) dX10_emitData_15 (fun r15 S15 q15 => ?_)
  obtain ⟨rfl, rfl⟩ := q15
  refine X_topi (y := whom (flX σ d wy) (flF σ d)) ((nth_in (by omega) h8).trans hwh.symm) ?_
  refine X_aload_n (i := 1) hB dX10_emitData_18 rfl rfl ?_
  refine X_geti hB cw2 fX10_200 rfl hD.1 hD.2 dX10_emitData_19 ?_
  refine X_topi (y := whatF (flF σ d)) (hw1.nu (by omega)) ?_
  refine X_lload_n (i := 2) hB dX10_emitData_22 rfl rfl ?_
  refine X_topl (y := rJ (frL (flX σ d wy) (flF σ d))) (by rw [hfl]) ?_
  refine X_callV hB kX10_250 cw8 hW.1.1 hW.1.2 (c_emitF w hW (flX σ d wy) hw1 (flF σ d) (by decide : 0 ≤ 3) (by decide : (0 : Nat) ≠ 1)) (by decide) (by decide) rfl rfl (Nat.le_of_ble_eq_true rfl) dX10_emitData_23 (fun r23 S23 q23 => ?_)
  obtain ⟨hor, g1, g2⟩ := q23
  have hfe := flyBy_eq (wy := wy) hd
  rcases hor with ⟨rfl, hj⟩ | ⟨⟨a, rfl⟩, hj⟩
  · have hja : (nAir (flX σ d wy)).length = 40 := by
      unfold sendF at hj
      split at hj
      · assumption
      · cases hj
    have hair : nAir (sendF (flX σ d wy) (flF σ d)).1 = nAir σ := by
      unfold sendF
      rw [if_pos hja]; rfl
    refine X_ifnonnullN hB dX10_emitData_26 ?_
    refine X_aload_n (i := 0) hB dX10_emitData_29 rfl rfl ?_
    refine X_aload_n (i := 1) hB dX10_emitData_30 rfl rfl ?_
    refine X_iconst (v := 3) hB dX10_emitData_31 (by decide) ?_
    refine X_bipush (v := 10) hB dX10_emitData_32 (by decide) ?_
    refine X_callV hB kX10_266 cw8 hW.1.1 hW.1.2 (c_X10_finish w hW (sendF (flX σ d wy) (flF σ d)).1 g1 d 3 10 (by rw [nDa_send]; exact hd1) (Or.inr rfl) rfl (fun f hf => hno f (by rw [hair] at hf; exact hf))) (by decide) (by decide) rfl rfl (Nat.le_of_ble_eq_true rfl) dX10_emitData_34 (fun r34 S34 q34 => ?_)
    obtain ⟨rfl, k1, k2⟩ := q34
    refine X_vret hB rfl dX10_emitData_37 ?_
    rw [hj] at hfe
    rw [hfe]
    exact ⟨rfl, k1, hc1.tr (g2.tr k2)⟩
  · refine X_ifnonnull (tgt := 37) hB dX10_emitData_26 (by decide) ?_
    refine X_vret hB rfl dX10_emitData_37 ?_
    rw [hj] at hfe
    rw [hfe]
    exact ⟨rfl, g1, hc1.tr g2⟩
set_option maxRecDepth 100000 in
set_option maxHeartbeats 4000000 in
theorem c_X10_ask (w : Nat) (hW : WLay G w) (σ : Net) (hw : worldR S w σ) (n to : Nat) (hn : n < nSe σ 0) (hto : to < nSe σ 0) (hc8 : nSe σ 0 ≤ 8) : C G mX10_ask 3 [.ref w, .int (nI n), .int (nI to)] S (fun r S' => r = none ∧ worldR S' w (ask σ n to) ∧ wch w S S') := by
  have hPo := hW.po (show n < 8 by omega)
  obtain ⟨⟨f1, f2, f3, f4⟩, ⟨i1, i2, i3, i4, i5, i6, i7⟩, p3, p4, p5, p6⟩ := hw.po (show n < 8 by omega)
  have hpw : (pA w n) ≠ w ∧ (pA w n) + 4 ≠ w := by unfold pA; omega
  refine C.mk (lv := [some (.ref w), some (.int (nI n)), some (.int (nI to)), none]) (by decide) (Nat.le_of_ble_eq_true rfl) rfl (fun E hB => ?_)
  refine X_aload_n (i := 0) hB dX10_ask_0 rfl rfl ?_
  refine X_iload_n (i := 1) hB dX10_ask_1 rfl rfl ?_
  refine X_callV hB kX10_102 cw8 hW.1.1 hW.1.2 (c_X10_post w hW hw.1 n (by omega)) (by decide) (by decide) rfl rfl (Nat.le_of_ble_eq_true rfl) dX10_ask_2 (fun r2 S2 q2 => ?_)
  obtain ⟨rfl, rfl⟩ := q2
  refine X_astore_n (i := 3) hB dX10_ask_5 rfl (by decide) rfl ?_
  refine X_aload_n (i := 3) hB dX10_ask_6 rfl rfl ?_
  refine X_dup hB dX10_ask_7 rfl ?_
  refine X_geti hB cw4 fX10_129 rfl hPo.1.1 hPo.1.2 dX10_ask_8 ?_
  refine X_topi (y := nI (dRq (nNd σ n))) (i2) ?_
  refine X_iconst (v := 1) hB dX10_ask_11 (by decide) ?_
  refine X_iadd hB dX10_ask_12 ?_
  refine X_topi (y := nI (dRq (nNd σ n) + 1)) (by first | rfl | (simp (disch := omega) only [nlit, nI_add, nI_mul, nI_sub]; done) | (simp (disch := omega) only [nlit, nI_add, nI_mul, nI_sub]; (congr 1 <;> omega))) ?_
  refine X_puti hB cw4 fX10_129 rfl rfl hPo.1.1 hPo.1.2 dX10_ask_13 ?_
  refine X_aload_n (i := 3) hB dX10_ask_16 rfl rfl ?_
  refine X_dup hB dX10_ask_17 rfl ?_
  refine X_geti hB cw4 fX10_138 rfl hPo.1.1 hPo.1.2 dX10_ask_18 ?_
  refine X_topi (y := nI (bts (fun t => decide (dAk (nNd σ n) t ≠ none)) 8)) (by rw [setI_ne _ _ (Or.inr (by decide))]; exact i4) ?_
  refine X_iconst (v := 1) hB dX10_ask_21 (by decide) ?_
  refine X_iload_n (i := 2) hB dX10_ask_22 rfl rfl ?_
  refine X_ishl hB dX10_ask_23 ?_
  refine X_ior hB dX10_ask_24 ?_
  refine X_topi (y := nI (bts (fun x => decide (x = to) || decide (dAk (nNd σ n) x ≠ none)) 8)) (bts_set _ (by omega)) ?_
  refine X_puti hB cw4 fX10_138 rfl rfl hPo.1.1 hPo.1.2 dX10_ask_25 ?_
  refine X_aload_n (i := 3) hB dX10_ask_28 rfl rfl ?_
  refine X_getr hB cw4 fX10_284 rfl hPo.1.1 hPo.1.2 f4 dX10_ask_29 ?_
  refine X_iload_n (i := 2) hB dX10_ask_32 rfl rfl ?_
  refine X_bipush (v := 7) hB dX10_ask_33 (by decide) ?_
  refine X_iand hB dX10_ask_35 ?_
  refine X_topi (y := nI to) (and7 to (by omega)) ?_
  refine X_aload_n (i := 0) hB dX10_ask_36 rfl rfl ?_
  refine X_geti hB cw8 fX10_57 rfl hW.1.1 hW.1.2 dX10_ask_37 ?_
  refine X_topi (y := nI (nNow σ)) (by rw [setI_row _ _ _ (Ne.symm hpw.1), setI_row _ _ _ (Ne.symm hpw.1)]; exact hw.2.1.2.2.2.1) ?_
  refine X_iastN hB (to) hPo.2.2.2.1.1 hPo.2.2.2.1.2 (by decide) rfl (by omega) dX10_ask_40 ?_
  generalize hS1 : setI (setI (setI S (pA w n) 4 (nI (dRq (nNd σ n) + 1))) (pA w n) 6 (nI (bts (fun x => decide (x = to) || decide (dAk (nNd σ n) x ≠ none)) 8))) ((pA w n) + 4) to (nI (nNow σ)) = S1
  have hch : chg (pA w n) ((pA w n) + 8) S S1 := hS1 ▸ (chg.setI (Nat.le_refl _) (by omega)).tr ((chg.setI (Nat.le_refl _) (by omega)).tr (chg.setI (by omega) (by omega)))
  have v4 : S1.1 (pA w n) 4 = nI (dRq (nNd σ n) + 1) := by rw [← hS1, setI_ne _ _ (Or.inl (by omega)), setI_ne _ _ (Or.inr (by decide)), setI_at]
  have v5 : S1.1 (pA w n) 5 = lkN (dNw (nNd σ n)) := by rw [← hS1, setI_ne _ _ (Or.inl (by omega)), setI_ne _ _ (Or.inr (by decide)), setI_ne _ _ (Or.inr (by decide))]; exact i3
  obtain ⟨hw1, hc1⟩ : worldR S1 w (uNd σ n (xAsk (nNd σ n) to (nNow σ))) ∧ wch w S S1 := by
    have o : ∀ b k, b ≠ (pA w n) → b ≠ (pA w n) + 4 → S1.1 b k = S.1 b k := fun b k h1 h2 => by rw [← hS1, setI_ne _ _ (Or.inl h2), setI_ne _ _ (Or.inl h1), setI_ne _ _ (Or.inl h1)]
    have hch2 : chg (pA w n) ((pA w n) + 1) S (setI (setI S (pA w n) 4 (nI (dRq (nNd σ n) + 1))) (pA w n) 6 (nI (bts (fun x => decide (x = to) || decide (dAk (nNd σ n) x ≠ none)) 8))) := (chg.setI (Nat.le_refl _) (by omega)).tr (chg.setI (Nat.le_refl _) (by omega))
    have hch3 : chg ((pA w n) + 4) ((pA w n) + 5) (setI (setI S (pA w n) 4 (nI (dRq (nNd σ n) + 1))) (pA w n) 6 (nI (bts (fun x => decide (x = to) || decide (dAk (nNd σ n) x ≠ none)) 8))) S1 := hS1 ▸ chg.setI (Nat.le_refl _) (by omega)
    refine worldR_nd hw (by omega) hch (by rw [← hS1]; rfl) ⟨?_, ⟨?_, v4, v5, ?_, ?_, fun k hk => ?_, fun t ht s hs => ?_⟩, (p3.chg hch2 (by omega)).chg hch3 (by omega), (p4.chg hch2 (by omega)).chg hch3 (by omega), p5, p6⟩ (hw.cv.nd' hn (fun t _ ht => ?_))
    · rw [← hS1]; exact ⟨f1, f2, f3, f4⟩
    · rw [← hS1, setI_ne _ _ (Or.inl (by omega)), setI_ne _ _ (Or.inr (by decide)), setI_ne _ _ (Or.inr (by decide))]; exact i1
    · rw [← hS1, setI_ne _ _ (Or.inl (by omega)), setI_at]
      refine congrArg nI (bts_congr (fun j _ => ?_))
      show _ = decide ((if j = to then some (nNow σ) else dAk (nNd σ n) j) ≠ none)
      by_cases e : j = to
      · rw [if_pos e, decide_eq_true e]; rfl
      · rw [if_neg e, decide_eq_false e, Bool.false_or]
    · rw [← hS1, setI_ne _ _ (Or.inl (by omega)), setI_ne _ _ (Or.inr (by decide)), setI_ne _ _ (Or.inr (by decide))]; exact i5
    · rw [o _ _ (by omega) (by omega)]; exact i6 k hk
    · have hs : (if t = to then some (nNow σ) else dAk (nNd σ n) t) = some s := hs
      by_cases e : t = to
      · rw [if_pos e] at hs
        rw [← hS1, e, setI_at, Option.some.inj hs]
      · rw [if_neg e] at hs
        rw [← hS1, setI_ne _ _ (Or.inr e), setI_ne _ _ (Or.inl (by omega)), setI_ne _ _ (Or.inl (by omega))]
        exact i7 t ht s hs
    · have ht : (if t = to then some (nNow σ) else dAk (nNd σ n) t) ≠ none := ht
      by_cases e : t = to
      · rw [e]; exact hto
      · rw [if_neg e] at ht; exact hw.cv.2.2 n t (by omega) ht
  clear hS1
  refine X_aload_n (i := 0) hB dX10_ask_41 rfl rfl ?_
  refine X_iload_n (i := 1) hB dX10_ask_42 rfl rfl ?_
  refine X_iload_n (i := 2) hB dX10_ask_43 rfl rfl ?_
  refine X_aload_n (i := 3) hB dX10_ask_44 rfl rfl ?_
  refine X_geti hB cw4 fX10_129 rfl hPo.1.1 hPo.1.2 dX10_ask_45 ?_
  refine X_topi (y := nI (dRq (nNd σ n) + 1)) (v4) ?_
  refine X_aload_n (i := 3) hB dX10_ask_48 rfl rfl ?_
  refine X_geti hB cw4 fX10_132 rfl hPo.1.1 hPo.1.2 dX10_ask_49 ?_
  refine X_topi (y := lkN (dNw (nNd σ n))) (v5) ?_
  refine X_lconst (v := 0) hB dX10_ask_52 (by decide) ?_
  refine X_iload_n (i := 1) hB dX10_ask_53 rfl rfl ?_
  refine X_callS hB kX10_287 (c_X8_with [] okR.nil n (by omega)) (by decide) (by decide) rfl rfl (Nat.le_of_ble_eq_true rfl) dX10_ask_54 (fun r54 S54 q54 => ?_)
  obtain ⟨rfl, rfl⟩ := q54
  refine X_topl (y := rJ [n]) (if_pos (by decide)) ?_
  refine X_callV hB kX10_291 cw8 hW.1.1 hW.1.2 (c_X10_emitRequest w hW (uNd σ n (xAsk (nNd σ n) to (nNow σ))) hw1 (1, n, to, dRq (nNd σ n) + 1, dNw (nNd σ n), [n]) rfl) (by decide) (by decide) rfl rfl (Nat.le_of_ble_eq_true rfl) dX10_ask_57 (fun r57 S57 q57 => ?_)
  obtain ⟨rfl, g1, g2⟩ := q57
  refine X_vret hB rfl dX10_ask_60 ?_
  exact ⟨rfl, g1, hc1.tr g2⟩
end CLS
