/-! the class: a buffer drains; the posts' cells are not touched by what is sent -/
def pst (w : Nat) (S S' : St) : Prop := ∀ a, w + 48 ≤ a → a < w + 112 → S'.1 a = S.1 a
theorem pst.rf {w : Nat} {S : St} : pst w S S := fun _ _ _ => rfl
theorem pst.tr {w : Nat} {S S1 S2 : St} (a : pst w S S1) (b : pst w S1 S2) : pst w S S2 := fun x h1 h2 => (b x h1 h2).trans (a x h1 h2)
section CLS
variable {G : Gc} {S : St}
set_option maxRecDepth 100000 in
set_option maxHeartbeats 4000000 in
theorem c_emitFp (w : Nat) (hW : WLay G w) (σ : Net) (hw : worldR S w σ) (f : Fm) (hf3 : fKi f ≤ 3) (hf1 : fKi f ≠ 1) : C G mX10_emit 1 [.ref w, .int (nI (fKi f)), .int (nI (fFr f)), .int (whom σ f), .int (whatF f), .long (rJ (frL σ f))] S (fun r S' => (r = some .null ∧ (sendF σ f).2 = false ∨ (∃ a, r = some (.ref a)) ∧ (sendF σ f).2 = true) ∧ worldR S' w (sendF σ f).1 ∧ wch w S S' ∧ pst w S S') := by
  obtain ⟨s, p, ha⟩ := hw.2.2.1
  refine C.mono (c_X10_emit w hW σ hw s p ha (fKi f) hf3 (nI (fFr f)) (whom σ f) (whatF f) (rJ (frL σ f))) (fun r S' q => ?_)
  have h40 := hw.l40.1
  by_cases hl : (nAir σ).length = 40
  · rw [if_pos hl] at q
    obtain ⟨rfl, rfl⟩ := q
    obtain ⟨g1, g2⟩ := jam_world (f := f) hw hl
    exact ⟨Or.inl ⟨rfl, by unfold sendF; rw [if_pos hl]⟩, g1, g2, fun a h1 h2 => setI_row _ _ _ (by omega)⟩
  · rw [if_neg hl] at q
    obtain ⟨rfl, g1, g2⟩ := q
    have hq := ha.2.2.2.2.2.1 ((s + (nAir σ).length) % 40) (by omega)
    have hpst : pst w S S' := fun a h1 h2 => (g1.2.2.2.2.2 a (by omega) (by omega) (by omega)).1
    have hem := em_world (f := f) hw ha (by omega) (by omega) g1 (by
      obtain ⟨k0, k1, k2, k3, k4, k5, k6⟩ := g2
      exact ⟨k0, k1, k2, k3, by rw [if_neg hf1]; exact k4, by rw [if_neg hf1]; exact k5, k6⟩)
    exact ⟨Or.inr ⟨⟨_, rfl⟩, by unfold sendF; rw [if_neg hl]⟩, hem.1, hem.2, hpst⟩
set_option maxRecDepth 100000 in
set_option maxHeartbeats 4000000 in
theorem c_finishP (w : Nat) (hW : WLay G w) (σ : Net) (hw : worldR S w σ) (d st ta : Nat) (hd : d < (nDa σ).length) (hst : st = 2 ∨ st = 3) (hta : ta = if st = 2 then 9 else 10) (hno : noF σ d) : C G mX10_finish 1 [.ref w, .ref (dA w d), .int (nI st), .int (nI ta)] S (fun r S' => r = none ∧ worldR S' w (doneD σ d st) ∧ wch w S S' ∧ pst w S S') := by
  have hd40 := hw.l40.2
  have hD := hW.dd (show d < 40 by omega)
  have hta11 : ta < 11 := by rw [hta]; split <;> omega
  have haw : (dA w d) ≠ w ∧ (dA w d) ≠ w + 2 := by unfold dA; omega
  refine C.mk (lv := [some (.ref w), some (.ref (dA w d)), some (.int (nI st)), some (.int (nI ta))]) (by decide) (Nat.le_of_ble_eq_true rfl) rfl (fun E hB => ?_)
  refine X_aload_n (i := 1) hB dX10_finish_0 rfl rfl ?_
  refine X_iload_n (i := 2) hB dX10_finish_1 rfl rfl ?_
  refine X_lconst (v := 0) hB dX10_finish_2 (by decide) ?_
  refine X_callV hB kX10_262 cw2 hD.1 hD.2 (c_X2_stand (dA w d) hD (nI st) 0) (by decide) (by decide) rfl rfl (Nat.le_of_ble_eq_true rfl) dX10_finish_3 (fun r3 S3 q3 => ?_)
  obtain ⟨rfl, rfl⟩ := q3
  refine X_aload_n (i := 1) hB dX10_finish_6 rfl rfl ?_
  refine X_aload_n (i := 0) hB dX10_finish_7 rfl rfl ?_
  refine X_geti hB cw8 fX10_57 rfl hW.1.1 hW.1.2 dX10_finish_8 ?_
  refine X_topi (y := nI (nNow σ)) (by rw [show (setJ (setI S (dA w d) 3 (nI st)) (dA w d) 5 0).1 w = S.1 w from setI_row _ _ _ (Ne.symm haw.1)]; exact hw.2.1.2.2.2.1) ?_
  refine X_puti hB cw2 fX10_184 rfl rfl hD.1 hD.2 dX10_finish_11 ?_
  generalize hS2 : setI (setJ (setI S (dA w d) 3 (nI st)) (dA w d) 5 0) (dA w d) 8 (nI (nNow σ)) = S2
  obtain ⟨hw3, hc3⟩ : worldR S2 w (uDa σ d (dRe (dDo (dSt (dat σ d) st) (some (nNow σ))) [])) ∧ wch w S S2 := by
    obtain ⟨z1, z2, z3, z4, z5, z6, z7, z8, z9, z10⟩ := hw.dc hd
    refine worldR_da hw hd (hS2 ▸ (chg.setI (Nat.le_refl _) (by omega)).tr ((chg.setJ (Nat.le_refl _) (by omega)).tr (chg.setI (Nat.le_refl _) (by omega)))) (by rw [← hS2]; rfl) (by rw [← hS2]; simp [setI, setJ, ups]) ⟨?_, ?_, ?_, ?_, ?_, ?_, ?_, ?_, ?_, ?_⟩ (fun f h1 h2 h3 => absurd h3 (hno f h1 h2)) (hw.cv.da hd rfl rfl)
    · rw [← hS2]; simp [setI, setJ, ups]; exact z1
    · rw [← hS2]; simp [setI, setJ, ups]; exact z2
    · rw [← hS2]; simp [setI, setJ, ups]; rfl
    · rw [← hS2]; simp [setI, setJ, ups]; exact z4
    · rw [← hS2]; simp [setI, setJ, ups]; rfl
    · rw [← hS2]; simp [setI, setJ, ups]; exact z6
    · rw [← hS2]; simp [setI, setJ, ups]; exact z7
    · rw [← hS2]; simp [setI, setJ, ups]; rfl
    · intro q
      have q : st = 0 := q
      omega
    · rw [← hS2]; simp [setI, setJ, ups]; exact z10
  have hp2 : pst w S S2 := fun a h1 h2 => by
    rw [← hS2, setI_row _ _ _ (by unfold dA; omega)]
    exact setI_row _ _ _ (by unfold dA; omega)
  clear hS2
  refine X_iload_n (i := 3) hB dX10_finish_14 rfl rfl ?_
  refine X_if_lt (tgt := 34) hB dX10_finish_15 (by decide) (fun c15 => absurd c15 (nI_pos (by omega))) (fun c15 => ?_)
  refine X_iload_n (i := 3) hB dX10_finish_18 rfl rfl ?_
  refine X_bipush (v := 11) hB dX10_finish_19 (by decide) ?_
  refine X_icmp_ge (tgt := 34) hB dX10_finish_21 (by decide) (fun c21 => absurd c21 (by simp (disch := omega) only [nlit, nI_leI, nI_ltI]; omega)) (fun c21 => ?_)
  refine X_aload_n (i := 0) hB dX10_finish_24 rfl rfl ?_
  refine X_getr hB cw8 fX10_15 rfl hW.1.1 hW.1.2 hw3.1.2.1 dX10_finish_25 ?_
  refine X_iload_n (i := 3) hB dX10_finish_28 rfl rfl ?_
  refine X_dup2_11 hB dX10_finish_29 rfl rfl ?_
  refine X_ialdN hB (ta) hW.2.2.1.1 hW.2.2.1.2 (by decide) rfl (by omega) (hw3.2.1.2.1 ta hta11) dX10_finish_30 ?_
  refine X_iconst (v := 1) hB dX10_finish_31 (by decide) ?_
  refine X_iadd hB dX10_finish_32 ?_
  refine X_topi (y := nI (nTa (uDa σ d (dRe (dDo (dSt (dat σ d) st) (some (nNow σ))) [])) ta + 1)) (by first | rfl | (simp (disch := omega) only [nlit, nI_add, nI_mul, nI_sub]; done) | (simp (disch := omega) only [nlit, nI_add, nI_mul, nI_sub]; (congr 1 <;> omega))) ?_
  refine X_iastN hB (ta) hW.2.2.1.1 hW.2.2.1.2 (by decide) rfl (by omega) dX10_finish_33 ?_
  refine X_vret hB rfl dX10_finish_34 ?_
  obtain ⟨g1, g2⟩ := worldR_ta (k := ta) hw3 hta11
  refine ⟨rfl, ?_, hc3.tr g2, hp2.tr (fun a h1 h2 => setI_row _ _ _ (by omega))⟩
  unfold doneD
  rw [← hta]
  exact g1
set_option maxRecDepth 100000 in
set_option maxHeartbeats 4000000 in
theorem c_emitDataP (w : Nat) (hW : WLay G w) (σ : Net) (hw : worldR S w σ) (d : Nat) (wy : List Nat) (hd : d < (nDa σ).length) (hno : noF σ d) (hwy : okR wy) (h2 : 2 ≤ wy.length) (h0 : wy.getD 0 0 = trL (dat σ d)) : C G mX10_emitData 2 [.ref w, .ref (dA w d), .long (rJ wy)] S (fun r S' => r = none ∧ worldR S' w (flyBy σ d wy) ∧ wch w S S' ∧ pst w S S') := by
  have hd40 := hw.l40.2
  have hD := hW.dd (show d < 40 by omega)
  have h8 := hwy.1
  refine C.mk (lv := [some (.ref w), some (.ref (dA w d)), some (.long (rJ wy)), none]) (by decide) (Nat.le_of_ble_eq_true rfl) rfl (fun E hB => ?_)
  refine X_aload_n (i := 1) hB dX10_emitData_0 rfl rfl ?_
  refine X_iconst (v := 1) hB dX10_emitData_1 (by decide) ?_
  refine X_lload_n (i := 2) hB dX10_emitData_2 rfl rfl ?_
  refine X_callV hB kX10_262 cw2 hD.1 hD.2 (c_X2_stand (dA w d) hD 1 (rJ wy)) (by decide) (by decide) rfl rfl (Nat.le_of_ble_eq_true rfl) dX10_emitData_3 (fun r3 S3 q3 => ?_)
  obtain ⟨rfl, rfl⟩ := q3
  generalize hS1 : setJ (setI S (dA w d) 3 1) (dA w d) 5 (rJ wy) = S1
  obtain ⟨hw1, hc1⟩ : worldR S1 w (flX σ d wy) ∧ wch w S S1 := by
    obtain ⟨z1, z2, z3, z4, z5, z6, z7, z8, z9, z10⟩ := hw.dc hd
    refine worldR_da hw hd (hS1 ▸ (chg.setI (Nat.le_refl _) (by omega)).tr (chg.setJ (Nat.le_refl _) (by omega))) (by rw [← hS1]; rfl) (by rw [← hS1]; simp [setI, setJ, ups]) ⟨?_, ?_, ?_, ?_, ?_, ?_, ?_, ?_, ?_, ?_⟩ (fun f h1 h2 h3 => absurd h3 (hno f h1 h2)) (hw.cv.da hd rfl rfl)
    · rw [← hS1]; simp [setI, setJ, ups]; exact z1
    · rw [← hS1]; simp [setI, setJ, ups]; exact z2
    · rw [← hS1]; simp [setI, setJ, ups]; rfl
    · rw [← hS1]; simp [setI, setJ, ups]; exact z4
    · rw [← hS1]; simp [setI, setJ, ups]; rfl
    · rw [← hS1]; simp [setI, setJ, ups]; exact z6
    · rw [← hS1]; simp [setI, setJ, ups]; exact z7
    · rw [← hS1]; simp [setI, setJ, ups]; exact z8
    · intro q; cases q
    · rw [← hS1]; simp [setI, setJ, ups]; exact z10
  have hp1 : pst w S S1 := fun a h1 h2 => by
    rw [← hS1]
    exact setI_row _ _ _ (by unfold dA; omega)
  clear hS1
  have hd1 : d < (nDa (flX σ d wy)).length := by unfold flX; rw [len_set]; exact hd
  have hdat : dat (flX σ d wy) d = dSt (dRe (dat σ d) wy) 1 := dat_eq hd
  have hfl : frL (flX σ d wy) (flF σ d) = wy := by
    show (if (0 : Nat) = 0 then aRe (dat (flX σ d wy) d) else _) = wy
    rw [if_pos rfl, hdat]; rfl
  have hwh : whom (flX σ d wy) (flF σ d) = nI (wy.getD 1 0) := by
    show (if (0 : Nat) = 0 then nI ((aRe (dat (flX σ d wy) d)).getD 1 0) else _) = _
    rw [if_pos rfl, hdat]; rfl
  refine X_aload_n (i := 0) hB dX10_emitData_6 rfl rfl ?_
  refine X_iconst (v := 0) hB dX10_emitData_7 (by decide) ?_
  refine X_lload_n (i := 2) hB dX10_emitData_8 rfl rfl ?_
  refine X_iconst (v := 0) hB dX10_emitData_9 (by decide) ?_
  refine X_callS hB kX10_259 (c_X8_at wy hwy (nI 0)) (by decide) (by decide) rfl rfl (Nat.le_of_ble_eq_true rfl) dX10_emitData_10 (fun r10 S10 q10 => ?_)
  obtain ⟨rfl, rfl⟩ := q10
  refine X_topi (y := nI (fFr (flF σ d))) ((nth_in (by omega) h8).trans (congrArg nI h0)) ?_
  refine X_lload_n (i := 2) hB dX10_emitData_13 rfl rfl ?_
  refine X_iconst (v := 1) hB dX10_emitData_14 (by decide) ?_
  refine X_callS hB kX10_259 (c_X8_at wy hwy (nI 1)) (by decide) (by decide) rfl rfl (Nat.le_of_ble_eq_true rfl) dX10_emitData_15 (fun r15 S15 q15 => ?_)
  obtain ⟨rfl, rfl⟩ := q15
  refine X_topi (y := whom (flX σ d wy) (flF σ d)) ((nth_in (by omega) h8).trans hwh.symm) ?_
  refine X_aload_n (i := 1) hB dX10_emitData_18 rfl rfl ?_
  refine X_geti hB cw2 fX10_200 rfl hD.1 hD.2 dX10_emitData_19 ?_
  refine X_topi (y := whatF (flF σ d)) (hw1.nu (by omega)) ?_
  refine X_lload_n (i := 2) hB dX10_emitData_22 rfl rfl ?_
  refine X_topl (y := rJ (frL (flX σ d wy) (flF σ d))) (by rw [hfl]) ?_
  refine X_callV hB kX10_250 cw8 hW.1.1 hW.1.2 (c_emitFp w hW (flX σ d wy) hw1 (flF σ d) (by decide : 0 ≤ 3) (by decide : (0 : Nat) ≠ 1)) (by decide) (by decide) rfl rfl (Nat.le_of_ble_eq_true rfl) dX10_emitData_23 (fun r23 S23 q23 => ?_)
  obtain ⟨hor, g1, g2, g3⟩ := q23
  have hfe := flyBy_eq (wy := wy) hd
  rcases hor with ⟨rfl, hj⟩ | ⟨⟨a, rfl⟩, hj⟩
  · have hja : (nAir (flX σ d wy)).length = 40 := by
      unfold sendF at hj
      split at hj
      · assumption
      · cases hj
    have hair : nAir (sendF (flX σ d wy) (flF σ d)).1 = nAir σ := by
      unfold sendF
      rw [if_pos hja]; rfl
    refine X_ifnonnullN hB dX10_emitData_26 ?_
    refine X_aload_n (i := 0) hB dX10_emitData_29 rfl rfl ?_
    refine X_aload_n (i := 1) hB dX10_emitData_30 rfl rfl ?_
    refine X_iconst (v := 3) hB dX10_emitData_31 (by decide) ?_
    refine X_bipush (v := 10) hB dX10_emitData_32 (by decide) ?_
    refine X_callV hB kX10_266 cw8 hW.1.1 hW.1.2 (c_finishP w hW (sendF (flX σ d wy) (flF σ d)).1 g1 d 3 10 (by rw [nDa_send]; exact hd1) (Or.inr rfl) rfl (fun f hf => hno f (by rw [hair] at hf; exact hf))) (by decide) (by decide) rfl rfl (Nat.le_of_ble_eq_true rfl) dX10_emitData_34 (fun r34 S34 q34 => ?_)
    obtain ⟨rfl, k1, k2, k3⟩ := q34
    refine X_vret hB rfl dX10_emitData_37 ?_
    rw [hj] at hfe
    rw [hfe]
    exact ⟨rfl, k1, hc1.tr (g2.tr k2), hp1.tr (g3.tr k3)⟩
  · refine X_ifnonnull (tgt := 37) hB dX10_emitData_26 (by decide) ?_
    refine X_vret hB rfl dX10_emitData_37 ?_
    rw [hj] at hfe
    rw [hfe]
    exact ⟨rfl, g1, hc1.tr g2, hp1.tr g3⟩
set_option maxRecDepth 100000 in
set_option maxHeartbeats 4000000 in
theorem l_X10_drain {E : Ev} (hB : Bd G E mX10_drain) {Q : Option Value → St → Prop} (w : Nat) (hW : WLay G w) (b n m : Nat) (hn8 : n < 8) (hm4 : m ≤ 4) (fin : Net) (kk : ∀ S1, wch w S S1 → worldR S1 w fin → Q none S1) :
    ∀ (l pre : List Nat) (k : Nat) (τ : Net) (S1 : St), k + l.length = m → pre.length ≤ k → wch w S S1 → worldR S1 w (bu τ n pre) → wfN τ b → (n < nSe τ 0 ∨ l = []) → dBu (nNd τ n) = pre ++ l → drainL n l pre.length τ = fin → (∀ j, j < l.length → S1.1 ((pA w n) + 3) (k + j) = nI (l.getD j 0)) → X G E mX10_drain 4 Q S1 19 [some (.ref w), some (.int (nI n)), some (.ref (pA w n)), some (.int (nI m)), some (.int (nI k)), none, none, none] [] := by
  have hPo := hW.po hn8
  intro l
  induction l with
  | nil =>
    intro pre k τ S1 h1 h2 h3 h4 h5 h6 h7 h8 h9
    have e9 : k = m := by simpa using h1
    subst e9
    rw [List.append_nil] at h7
    have e8 : fin = τ := h8.symm
    have e7 : bu τ n pre = τ := by rw [← h7]; exact bu_self
    rw [e7] at h4
    refine X_iload hB dX10_drain_19 rfl ?_
    refine X_iload_n (i := 3) hB dX10_drain_21 rfl rfl ?_
    refine X_icmp_ge (tgt := 137) hB dX10_drain_22 (by decide) (fun c22 => ?_) (fun c22 => absurd c22 (by simp (disch := omega) only [nlit, nI_leI, nI_ltI]; omega))
    refine X_vret hB rfl dX10_drain_137 ?_
    exact kk S1 h3 (by rw [e8]; exact h4)
  | cons d t ih =>
    intro pre k τ S1 h1 h2 h3 h4 h5 h6 h7 h8 h9
    have hnc : n < nSe τ 0 := h6.elim id (fun q => by cases q)
    have hlc : (d :: t).length = t.length + 1 := rfl
    obtain ⟨⟨u1, u2, u3, u4, u5⟩, hdB, hO, hlv, hfy, hdn⟩ := drn_st hn8 h5 h7
    have hd40 : (nDa τ).length ≤ 40 := h4.l40.2
    have hD := hW.dd (show d < 40 by omega)
    have he8 : (aEn (dat τ d)) < 8 := hdB.1.2.1
    have hne : n ≠ (aEn (dat τ d)) := by
      have := hdB.1.2.2.1
      rw [u3] at this
      exact this
    have hv0 : S1.1 ((pA w n) + 3) k = nI d := by
      have := h9 0 (by omega)
      rwa [Nat.add_zero] at this
    have hg : (wayN τ n (aEn (dat τ d))) ≠ [] → goodW n (aEn (dat τ d)) (wayN τ n (aEn (dat τ d))) := fun q => wayN_good hn8 h5.1 (h5.o.no hn8) q
    have hwr : okR (wayN τ n (aEn (dat τ d))) := by
      by_cases q : (wayN τ n (aEn (dat τ d))) = []
      · rw [q]; exact okR.nil
      · exact (hg q).R
    have hno : noF (bu τ n pre) d := fun f hf => hO.nof f (by rw [hlv]; exact hf)
    have hdt : dat (bu τ n pre) d = dat τ d := rfl
    obtain ⟨z1, z2, z3, z4, z5, z6, z7, z8, z9, z10⟩ := h4.dc (d := d) u1
    rw [hdt] at z2 z3 z9
    obtain ⟨⟨f1, f2, f3, f4⟩, ⟨i1, i2, i3, i4, i5, i6, i7⟩, p3, p4, p5, p6⟩ := h4.po hn8
    have hbn : dBu (nNd (bu τ n pre) n) = pre := by rw [nNd_bu]; rfl
    have hbl : bu (leaveN τ n pre.length) n pre = (bu τ n pre) := by
      have := @bu_bu τ n (pre ++ t) pre
      rw [hlv]
      exact this
    have hpl : pre.length ≤ k := h2
    have h50 : nSe τ 5 < 1000 := by have := h5.1.2.2.2.2.2.1; omega
    have hnow : nNow τ ≤ 1000 := h5.2.2.2.2.2.2.2.2.1
    have h9' : ∀ j, j < t.length → S1.1 ((pA w n) + 3) (k + 1 + j) = nI (t.getD j 0) := fun j hj => by
      have := h9 (j + 1) (by omega)
      rw [show k + 1 + j = k + (j + 1) by omega, this]
      rfl
    refine X_iload hB dX10_drain_19 rfl ?_
    refine X_iload_n (i := 3) hB dX10_drain_21 rfl rfl ?_
    refine X_icmp_ge (tgt := 137) hB dX10_drain_22 (by decide) (fun c22 => absurd c22 (by simp (disch := omega) only [nlit, nI_leI, nI_ltI]; omega)) (fun c22 => ?_)
    refine X_iload hB dX10_drain_25 rfl ?_
    refine X_iconst (v := 4) hB dX10_drain_27 (by decide) ?_
    refine X_icmp_ge (tgt := 137) hB dX10_drain_28 (by decide) (fun c28 => absurd c28 (by simp (disch := omega) only [nlit, nI_leI, nI_ltI]; omega)) (fun c28 => ?_)
    refine X_aload_n (i := 0) hB dX10_drain_31 rfl rfl ?_
    refine X_aload_n (i := 2) hB dX10_drain_32 rfl rfl ?_
    refine X_getr hB cw4 fX10_277 rfl hPo.1.1 hPo.1.2 f3 dX10_drain_33 ?_
    refine X_iload hB dX10_drain_36 rfl ?_
    refine X_ialdN hB (k) hPo.2.2.1.1 hPo.2.2.1.2 (by decide) rfl (by omega) (hv0) dX10_drain_38 ?_
    refine X_callV hB kX10_155 cw8 hW.1.1 hW.1.2 (c_X10_datum w hW h4.1 d (by omega)) (by decide) (by decide) rfl rfl (Nat.le_of_ble_eq_true rfl) dX10_drain_39 (fun r39 S39 q39 => ?_)
    obtain ⟨rfl, rfl⟩ := q39
    refine X_astore hB dX10_drain_42 (by decide) rfl ?_
    refine X_aload_n (i := 2) hB dX10_drain_44 rfl rfl ?_
    refine X_getr hB cw4 fX10_72 rfl hPo.1.1 hPo.1.2 f1 dX10_drain_45 ?_
    refine X_aload hB dX10_drain_48 rfl ?_
    refine X_geti hB cw2 fX10_162 rfl hD.1 hD.2 dX10_drain_50 ?_
    refine X_topi (y := nI (aEn (dat τ d))) (z2) ?_
    refine X_callV hB kX10_106 cw1 hPo.2.2.2.2.1.1 hPo.2.2.2.2.1.2 (c_X1_wayTo (pA w n + 5) n (nSe (bu τ n pre) 1) (nSe (bu τ n pre) 2) (dMap (nNd (bu τ n pre) n)) (dCa (nNd (bu τ n pre) n)) (hW.po hn8).2.2.2.2 (h4.po hn8).2.2.1 (aEn (dat τ d)) he8 hne) (by decide) (by decide) rfl rfl (Nat.le_of_ble_eq_true rfl) dX10_drain_53 (fun r53 S53 q53 => ?_)
    obtain ⟨rfl, rfl⟩ := q53
    refine X_topl (y := rJ (wayN τ n (aEn (dat τ d)))) (congrArg rJ (way_bu (σ := τ) (n := n) (to := (aEn (dat τ d))) (L := pre))) ?_
    refine X_lstore hB dX10_drain_56 (by decide) rfl ?_
    refine X_lload hB dX10_drain_58 rfl ?_
    refine X_lconst (v := 0) hB dX10_drain_60 (by decide) ?_
    refine X_lcmp hB dX10_drain_61 ?_
    refine X_if_eq (tgt := 76) hB dX10_drain_62 (by decide) (fun c62 => ?_) (fun c62 => ?_)
    · have e62 : (wayN τ n (aEn (dat τ d))) = [] := (cmp_0 hwr).mp c62
      refine X_aload_n (i := 0) hB dX10_drain_76 rfl rfl ?_
      refine X_geti hB cw8 fX10_57 rfl hW.1.1 hW.1.2 dX10_drain_77 ?_
      refine X_topi (y := nI (nNow τ)) (h4.2.1.2.2.2.1) ?_
      refine X_aload hB dX10_drain_80 rfl ?_
      refine X_geti hB cw2 fX10_274 rfl hD.1 hD.2 dX10_drain_82 ?_
      refine X_topi (y := nI (aSi (dat τ d))) (z9 u2) ?_
      refine X_isub hB dX10_drain_85 ?_
      refine X_topi (y := nI (nNow τ - aSi (dat τ d))) (by first | rfl | (simp (disch := omega) only [nlit, nI_add, nI_mul, nI_sub]; done) | (simp (disch := omega) only [nlit, nI_add, nI_mul, nI_sub]; (congr 1 <;> omega))) ?_
      refine X_aload_n (i := 0) hB dX10_drain_86 rfl rfl ?_
      refine X_getr hB cw8 fX10_9 rfl hW.1.1 hW.1.2 h4.1.1 dX10_drain_87 ?_
      refine X_iconst (v := 5) hB dX10_drain_90 (by decide) ?_
      refine X_ialdN hB (5) hW.2.1.1 hW.2.1.2 (by decide) rfl (by decide) (h4.2.1.1 5 (by decide)) dX10_drain_91 ?_
      refine X_topi (y := nI (nSe τ 5)) (rfl) ?_
      refine X_icmp_lt (tgt := 107) hB dX10_drain_92 (by decide) (fun c92 => ?_) (fun c92 => ?_)
      · have e92 : ¬ nSe τ 5 ≤ nNow τ - aSi (dat τ d) := by
          rw [nI_ltI (by omega) (by omega)] at c92
          omega
        refine X_aload_n (i := 2) hB dX10_drain_107 rfl rfl ?_
        refine X_getr hB cw4 fX10_277 rfl hPo.1.1 hPo.1.2 f3 dX10_drain_108 ?_
        refine X_aload_n (i := 2) hB dX10_drain_111 rfl rfl ?_
        refine X_geti hB cw4 fX10_126 rfl hPo.1.1 hPo.1.2 dX10_drain_112 ?_
        refine X_topi (y := nI pre.length) (by rw [i1, hbn]) ?_
        refine X_aload hB dX10_drain_115 rfl ?_
        refine X_geti hB cw2 fX10_200 rfl hD.1 hD.2 dX10_drain_117 ?_
        refine X_topi (y := nI d) (h4.nu (by omega)) ?_
        refine X_iastN hB (pre.length) hPo.2.2.1.1 hPo.2.2.1.2 (by decide) rfl (by omega) dX10_drain_120 ?_
        refine X_aload_n (i := 2) hB dX10_drain_121 rfl rfl ?_
        refine X_dup hB dX10_drain_122 rfl ?_
        refine X_geti hB cw4 fX10_126 rfl hPo.1.1 hPo.1.2 dX10_drain_123 ?_
        refine X_topi (y := nI pre.length) (by rw [setI_ne _ _ (Or.inl (by omega)), i1, hbn]) ?_
        refine X_iconst (v := 1) hB dX10_drain_126 (by decide) ?_
        refine X_iadd hB dX10_drain_127 ?_
        refine X_topi (y := nI (pre.length + 1)) (by first | rfl | (simp (disch := omega) only [nlit, nI_add, nI_mul, nI_sub]; done) | (simp (disch := omega) only [nlit, nI_add, nI_mul, nI_sub]; (congr 1 <;> omega))) ?_
        refine X_puti hB cw4 fX10_126 rfl rfl hPo.1.1 hPo.1.2 dX10_drain_128 ?_
        generalize hS4 : setI (setI S1 ((pA w n) + 3) pre.length (nI d)) (pA w n) 3 (nI (pre.length + 1)) = S4
        have hwt : uNd (bu τ n pre) n (xBu (nNd (bu τ n pre) n) (pre ++ [d])) = bu τ n (pre ++ [d]) := @bu_bu τ n pre (pre ++ [d])
        obtain ⟨hw4, hc4⟩ : worldR S4 w (bu τ n (pre ++ [d])) ∧ wch w S1 S4 := by
          rw [← hwt]
          refine bu_world h4 hn8 (hS4 ▸ (chg.setI (by omega) (by omega)).tr (chg.setI (Nat.le_refl _) (by omega))) (by rw [← hS4]; rfl) (fun a h1 h2 => by rw [← hS4, setI_row _ _ _ h1, setI_row _ _ _ h2]) (by rw [← hS4]; rfl) (by rw [← hS4, setI_at, List.length_append, List.length_singleton]) (fun k hk => by rw [← hS4, setI_ne _ _ (Or.inr hk), setI_ne _ _ (Or.inl (by omega))]) (fun k hk => ?_) (by rw [List.length_append, List.length_singleton]; omega) (fun q => absurd q (show ¬ nSe τ 0 ≤ n by omega))
          rw [List.length_append, List.length_singleton] at hk
          rw [← hS4, setI_ne _ _ (Or.inl (by omega))]
          by_cases e : k = pre.length
          · rw [e, setI_at, getD_lst]
          · rw [setI_ne _ _ (Or.inr e), i6 k (by rw [hbn]; omega), hbn, getD_apl (show k < pre.length by omega)]
        have o4 : ∀ j, pre.length < j → S4.1 ((pA w n) + 3) j = S1.1 ((pA w n) + 3) j := fun j hj => by rw [← hS4, setI_ne _ _ (Or.inl (by omega)), setI_ne _ _ (Or.inr (by omega))]
        clear hS4
        refine X_iinc hB dX10_drain_131 rfl rfl (by decide) rfl ?_
        refine X_goto (tgt := 19) hB dX10_drain_134 (by decide) ?_
        refine X_dl [some (.ref w), some (.int (nI n)), some (.ref (pA w n)), some (.int (nI m)), some (.int (nI (k + 1))), none, none, none] ⟨rfl, rfl, rfl, rfl, by rw [nI_succ]; rfl, trivial⟩ (ih (pre ++ [d]) (k + 1) τ S4 (by omega) (by rw [List.length_append, List.length_singleton]; omega) (h3.tr hc4) hw4 h5 (Or.inl hnc) (by rw [h7]; simp) ?_ (fun j hj => by rw [o4 _ (by omega)]; exact h9' j hj))
        rw [← h8, List.length_append, List.length_singleton]
        conv => rhs; unfold drainL
        rw [if_neg (not_not_intro e62), if_neg e92]
      · have e92 : nSe τ 5 ≤ nNow τ - aSi (dat τ d) := by
          rw [nI_ltI (by omega) (by omega)] at c92
          omega
        refine X_aload_n (i := 0) hB dX10_drain_95 rfl rfl ?_
        refine X_aload hB dX10_drain_96 rfl ?_
        refine X_iconst (v := 3) hB dX10_drain_98 (by decide) ?_
        refine X_bipush (v := 10) hB dX10_drain_99 (by decide) ?_
        refine X_callV hB kX10_266 cw8 hW.1.1 hW.1.2 (c_finishP w hW (bu τ n pre) h4 d 3 10 u1 (Or.inr rfl) rfl hno) (by decide) (by decide) rfl rfl (Nat.le_of_ble_eq_true rfl) dX10_drain_101 (fun r101 S101 q101 => ?_)
        obtain ⟨rfl, k1, k2, k3⟩ := q101
        refine X_goto (tgt := 131) hB dX10_drain_104 (by decide) ?_
        refine X_iinc hB dX10_drain_131 rfl rfl (by decide) rfl ?_
        refine X_goto (tgt := 19) hB dX10_drain_134 (by decide) ?_
        refine X_dl [some (.ref w), some (.int (nI n)), some (.ref (pA w n)), some (.int (nI m)), some (.int (nI (k + 1))), none, none, none] ⟨rfl, rfl, rfl, rfl, by rw [nI_succ]; rfl, trivial⟩ (ih pre (k + 1) (doneD (leaveN τ n pre.length) d 3) S101 (by omega) (by omega) (h3.tr k2) (by rw [← done_bu, hbl]; exact k1) hdn.1 (Or.inl ?_) hdn.2 ?_ (fun j hj => by rw [k3 _ (by unfold pA; omega) (by unfold pA; omega)]; exact h9' j hj))
        · rw [kpD_done.1]; exact hnc
        · rw [← h8]
          conv => rhs; unfold drainL
          rw [if_neg (not_not_intro e62), if_pos e92]
    · have e62 : (wayN τ n (aEn (dat τ d))) ≠ [] := fun q => c62 ((cmp_0 hwr).mpr q)
      refine X_aload_n (i := 0) hB dX10_drain_65 rfl rfl ?_
      refine X_aload hB dX10_drain_66 rfl ?_
      refine X_lload hB dX10_drain_68 rfl ?_
      refine X_callV hB kX10_270 cw8 hW.1.1 hW.1.2 (c_emitDataP w hW (bu τ n pre) h4 d (wayN τ n (aEn (dat τ d))) u1 hno hwr (hg e62).2.2.2.1 (by rw [hdt, (hg e62).2.1, (tr_one hdB u5).2, u3])) (by decide) (by decide) rfl rfl (Nat.le_of_ble_eq_true rfl) dX10_drain_70 (fun r70 S70 q70 => ?_)
      obtain ⟨rfl, k1, k2, k3⟩ := q70
      refine X_goto (tgt := 131) hB dX10_drain_73 (by decide) ?_
      refine X_iinc hB dX10_drain_131 rfl rfl (by decide) rfl ?_
      refine X_goto (tgt := 19) hB dX10_drain_134 (by decide) ?_
      refine X_dl [some (.ref w), some (.int (nI n)), some (.ref (pA w n)), some (.int (nI m)), some (.int (nI (k + 1))), none, none, none] ⟨rfl, rfl, rfl, rfl, by rw [nI_succ]; rfl, trivial⟩ (ih pre (k + 1) (flyBy (leaveN τ n pre.length) d (wayN τ n (aEn (dat τ d)))) S70 (by omega) (by omega) (h3.tr k2) (by rw [← fly_bu, hbl]; exact k1) (hfy e62).1 (Or.inl ?_) (hfy e62).2 ?_ (fun j hj => by rw [k3 _ (by unfold pA; omega) (by unfold pA; omega)]; exact h9' j hj))
      · rw [kpD_flyBy.1]; exact hnc
      · rw [← h8]
        conv => rhs; unfold drainL
        rw [if_pos e62]
set_option maxRecDepth 100000 in
set_option maxHeartbeats 4000000 in
theorem c_X10_drain (w : Nat) (hW : WLay G w) (σ : Net) (hw : worldR S w σ) (b n : Nat) (hn8 : n < 8) (hN : wfN σ b) : C G mX10_drain 4 [.ref w, .int (nI n)] S (fun r S' => r = none ∧ worldR S' w (drainN σ n) ∧ wch w S S') := by
  have hPo := hW.po hn8
  obtain ⟨⟨f1, f2, f3, f4⟩, ⟨i1, i2, i3, i4, i5, i6, i7⟩, p3, p4, p5, p6⟩ := hw.po hn8
  refine C.mk (lv := [some (.ref w), some (.int (nI n)), none, none, none, none, none, none]) (by decide) (Nat.le_of_ble_eq_true rfl) rfl (fun E hB => ?_)
  refine X_aload_n (i := 0) hB dX10_drain_0 rfl rfl ?_
  refine X_iload_n (i := 1) hB dX10_drain_1 rfl rfl ?_
  refine X_callV hB kX10_102 cw8 hW.1.1 hW.1.2 (c_X10_post w hW hw.1 n hn8) (by decide) (by decide) rfl rfl (Nat.le_of_ble_eq_true rfl) dX10_drain_2 (fun r2 S2 q2 => ?_)
  obtain ⟨rfl, rfl⟩ := q2
  refine X_astore_n (i := 2) hB dX10_drain_5 rfl (by decide) rfl ?_
  refine X_aload_n (i := 2) hB dX10_drain_6 rfl rfl ?_
  refine X_geti hB cw4 fX10_126 rfl hPo.1.1 hPo.1.2 dX10_drain_7 ?_
  refine X_topi (y := nI (dBu (nNd σ n)).length) (i1) ?_
  refine X_istore_n (i := 3) hB dX10_drain_10 rfl (by decide) rfl ?_
  refine X_aload_n (i := 2) hB dX10_drain_11 rfl rfl ?_
  refine X_iconst (v := 0) hB dX10_drain_12 (by decide) ?_
  refine X_puti hB cw4 fX10_126 rfl rfl hPo.1.1 hPo.1.2 dX10_drain_13 ?_
  refine X_iconst (v := 0) hB dX10_drain_16 (by decide) ?_
  refine X_istore hB dX10_drain_17 (by decide) rfl ?_
  obtain ⟨hw1, hc1⟩ : worldR (setI S (pA w n) 3 0) w (bu σ n []) ∧ wch w S (setI S (pA w n) 3 0) := by
    refine bu_world hw hn8 (chg.setI (Nat.le_refl _) (by omega)) rfl (fun a h1 h2 => setI_row _ _ _ h1) rfl (setI_at _ _ _ _) (fun k hk => setI_ne _ _ (Or.inr hk)) (fun k hk => by simp at hk) (by simp) (fun _ => rfl)
  refine X_lv (lv' := [some (.ref w), some (.int (nI n)), some (.ref (pA w n)), some (.int (nI (dBu (nNd σ n)).length)), some (.int (nI 0)), none, none, none]) (by rw [nI_0]; rfl) (l_X10_drain (S := S) hB w hW b n (dBu (nNd σ n)).length hn8 p6 (drainN σ n) (fun S1 g1 g2 => ⟨rfl, g2, g1⟩) (dBu (nNd σ n)) [] 0 σ (setI S (pA w n) 3 0) (by omega) (Nat.zero_le _) hc1 hw1 hN ?_ rfl rfl (fun j hj => ?_))
  · by_cases q : n < nSe σ 0
    · exact Or.inl q
    · exact Or.inr (hw.cv.2.1 n (by omega) hn8).2.1
  · rw [setI_ne _ _ (Or.inl (by omega)), Nat.zero_add]; exact i6 j hj
end CLS
