def reqStep (f : Fm) (z : Nat) (σ : Net) : Net := if z ≠ fFr f ∧ nUp σ (fFr f) z = true then (if z ∈ fRo f ∨ ((fRo f).getD 0 0, fNu f) ∈ dTb (nNd (forgetON σ z (fLk f)) z) then uTa (forgetON σ z (fLk f)) 7 else answer (learnN (seeN (forgetON σ z (fLk f)) z ((fRo f).getD 0 0) (fNu f)) z (z :: (fRo f).reverse)) z f) else σ
def arrReq (σ : Net) (f : Fm) : Net := iterN (reqStep f) (nSe σ 0) σ
def tbOk (σ : Net) : Prop := ∀ n, n < 8 → ∀ q ∈ dTb (nNd σ n), q.1 < 8 ∧ q.2 < 2 ^ 31
def rqI (σ σ' : Net) : Prop := nSe σ' = nSe σ ∧ nUp σ' = nUp σ ∧ szN σ' ∧ tbOk σ'
theorem nd_send {σ : Net} {f : Fm} : nNd (sendF σ f).1 = nNd σ := by unfold sendF; split <;> rfl
theorem up_send {σ : Net} {f : Fm} : nUp (sendF σ f).1 = nUp σ := by unfold sendF; split <;> rfl
theorem tbOk_nd {σ : Net} {n : Nat} {x : Nd} (h : tbOk σ) (hx : ∀ q ∈ dTb x, q.1 < 8 ∧ q.2 < 2 ^ 31) : tbOk (uNd σ n x) := by
  intro m hm q hq
  by_cases e : m = n
  · subst e; simp only [nNd, uNd, if_true] at hq; exact hx q hq
  · simp only [nNd, uNd, if_neg e] at hq; exact h m hm q hq
theorem answer_keeps {σ : Net} {z : Nat} {f : Fm} (hs : szN σ) (hfl : (fRo f).length ≤ 7) (hh : nSe σ 1 ≤ 7) (hf1 : 1 ≤ (fRo f).length) : nSe (answer σ z f) = nSe σ ∧ nUp (answer σ z f) = nUp σ ∧ nNd (answer σ z f) = nNd σ ∧ szN (answer σ z f) := by
  have h1 : (fRo f ++ [z]).length ≤ 8 := by rw [List.length_append]; show (fRo f).length + 1 ≤ 8; omega
  unfold answer
  split
  · refine ⟨se_send, up_send, nd_send, szN_send hs ?_⟩
    show ((fRo f ++ [z]) ++ _).length ≤ 8
    split
    · rename_i hk
      unfold kwB at hk
      simp only [Bool.and_eq_true] at hk
      have h2 := (isRt_iff.mpr hk.2.2).1
      have h3 : wayN σ z (fAb f) ≠ [] := by simpa using hk.2.1
      have h4 : 1 ≤ (wayN σ z (fAb f)).length := List.length_pos_iff.mpr h3
      rw [List.length_append, List.length_append, List.length_tail]
      show (fRo f).length + 1 + ((wayN σ z (fAb f)).length - 1) ≤ 8
      omega
    · rw [List.append_nil]; exact h1
  · split
    · exact ⟨se_send, up_send, nd_send, szN_send hs h1⟩
    · exact ⟨rfl, rfl, rfl, hs⟩
section REF
variable {G : Gc} {S : St} {h : Nat}
set_option maxRecDepth 100000 in
set_option maxHeartbeats 4000000 in
theorem l_rq1 (hR : RLay G h) (hF : RRef S h) {E : Ev} (hB : Bd G E mX12_requestComes) {Q : Option Value → St → Prop} (f : Fm) (hf : frS (S.1 (h + 12)) f) (hfl : (fRo f).length ≤ 8) (z : Nat) (fin : List Nat) (kk : ∀ S2 v, fr h [h + 7] [20] S S2 → lesR S2 h fin → X G E mX12_requestComes 7 Q S2 130 [some (.ref h), some (.int (nI (fFr f))), some (.int (nI z)), some (.int v)] []) :
    ∀ (j : Nat) (L : List Nat) (S1 : St), j ≤ (fRo f).length → L.length + j ≤ 9 → fr h [h + 7] [20] S S1 → lesR S1 h L → L ++ ((fRo f).take j).reverse = fin → X G E mX12_requestComes 7 Q S1 111 [some (.ref h), some (.int (nI (fFr f))), some (.int (nI z)), some (.int (nI j + -1))] [] := by
  intro j
  induction j with
  | zero =>
    intro L S1 h1 h2 hfr hL hfin
    refine X_iload_n (i := 3) hB dX12_requestComes_111 rfl rfl ?_
    refine X_if_lt (tgt := 130) hB dX12_requestComes_112 (by decide) (fun c112 => ?_) (fun c112 => absurd c112 (by decide))
    rw [List.take_zero, List.reverse_nil, List.append_nil] at hfin
    exact kk S1 _ hfr (by rw [← hfin]; exact hL)
  | succ j ih =>
    intro L S1 h1 h2 hfr hL hfin
    have hf1 : frS (S1.1 (h + 12)) f := by rw [hfr.2.1 _ (by simp) (by omega)]; exact hf
    rw [nI_m1]
    refine X_iload_n (i := 3) hB dX12_requestComes_111 rfl rfl ?_
    refine X_if_lt (tgt := 130) hB dX12_requestComes_112 (by decide) (fun c112 => absurd c112 (nI_pos (by omega))) (fun c112 => ?_)
    refine X_aload_n (i := 0) hB dX12_requestComes_115 rfl rfl ?_
    refine X_aload_n (i := 0) hB dX12_requestComes_116 rfl rfl ?_
    refine X_iload_n (i := 3) hB dX12_requestComes_117 rfl rfl ?_
    refine X_callV hB kX12_274 cw10 hR.1.1 hR.1.2 (c_rowAt hR (hfr.ref hF) f hf1 hfl (i := j) (by omega)) (by decide) (by decide) rfl rfl (Nat.le_of_ble_eq_true rfl) dX12_requestComes_118 (fun r118 S118 q118 => ?_)
    obtain ⟨rfl, rfl⟩ := q118
    refine X_callV hB kX12_295 cw10 hR.1.1 hR.1.2 (c_addsLesson hR (hfr.ref hF) ((fRo f).getD j 0) L (by omega) hL) (by decide) (by decide) rfl rfl (Nat.le_of_ble_eq_true rfl) dX12_requestComes_121 (fun r121 S121 q121 => ?_)
    obtain ⟨rfl, f121, g121⟩ := q121
    refine X_iinc hB dX12_requestComes_124 rfl rfl (by decide) rfl ?_
    refine X_goto (tgt := 111) hB dX12_requestComes_127 (by decide) ?_
    refine ih (L ++ [(fRo f).getD j 0]) _ (by omega) (by rw [List.length_append]; show L.length + 1 + j ≤ 9; omega) (hfr.tr f121) g121 ?_
    rw [← hfin, List.take_succ_eq_append_getElem (show j < (fRo f).length by omega), List.reverse_append, List.append_assoc, getD_lt (by omega)]
    rfl
set_option maxRecDepth 100000 in
set_option maxHeartbeats 4000000 in
theorem l_rq2 (hR : RLay G h) (hF : RRef S h) {E : Ev} (hB : Bd G E mX12_requestComes) {Q : Option Value → St → Prop} (f : Fm) (hf : frS (S.1 (h + 12)) f) (σ : Net) (hse : seOk (nSe σ)) (hfk : fKi f = 1) (hfr8 : fFr f < 8) (hfab : fAb f < 8) (hfn : (fRo f).Nodup) (hfx : ∀ x ∈ fRo f, x < 8) (hf1 : 1 ≤ (fRo f).length) (hnum : fNu f < 2 ^ 31) (hlk : lkOk (fLk f)) (kk : ∀ S2, fr h [h + 1, h + 7, h + 8, h + 9, h + 10, h + 11] [20, 22] S S2 → netR (S2.1 (h + 1)) (arrReq σ f) → Q none S2) :
    ∀ (k z : Nat) (S1 : St), z + k = nSe σ 0 → fr h [h + 1, h + 7, h + 8, h + 9, h + 10, h + 11] [20, 22] S S1 → netR (S1.1 (h + 1)) (iterN (reqStep f) z σ) → rqI σ (iterN (reqStep f) z σ) → X G E mX12_requestComes 7 Q S1 9 [some (.ref h), some (.int (nI (fFr f))), some (.int (nI z)), none] [] := by
  have hc8 := hse.1.2
  have hfl := nodup8 hfn hfx
  intro k
  induction k with
  | zero =>
    intro z S1 h1 hfr hN1 hI
    refine X_iload_n (i := 2) hB dX12_requestComes_9 rfl rfl ?_
    refine X_aload_n (i := 0) hB dX12_requestComes_10 rfl rfl ?_
    refine X_getr hB cw10 fX12_7 rfl hR.1.1 hR.1.2 (hfr.ref hF).1 dX12_requestComes_11 ?_
    refine X_iconst (v := 0) hB dX12_requestComes_14 (by decide) ?_
    refine X_ialdN hB (0) hR.2.1.1 hR.2.1.2 (by decide) (by first | rfl | (simp (disch := omega) only [nlit, nI_add, nI_mul, nI_sub]; done) | (simp (disch := omega) only [nlit, nI_add, nI_mul, nI_sub]; (congr 1 <;> omega))) (by first | omega | (simp only []; omega)) (show _ = nI (nSe σ 0) by rw [hN1.1.1 0 (by decide), hI.1]) dX12_requestComes_15 ?_
    refine X_icmp_ge (tgt := 152) hB dX12_requestComes_16 (by decide) (fun c16 => ?_) (fun c16 => absurd c16 (by simp (disch := omega) only [nlit, nI_leI, nI_ltI]; omega))
    refine X_vret hB rfl dX12_requestComes_152 ?_
    have e9 : z = nSe σ 0 := by omega
    subst e9
    exact kk S1 hfr hN1
  | succ k ih =>
    intro z S1 h1 hfr hN1 hI
    generalize hσz : iterN (reqStep f) z σ = σz at hN1 hI
    have hstep : iterN (reqStep f) (z + 1) σ = reqStep f z σz := by rw [← hσz]; rfl
    obtain ⟨i1, i2, i3, i4⟩ := id hI
    have hz8 : z < 8 := by omega
    have hcm : frS (S1.1 (h + 12)) f := by rw [hfr.2.1 _ (by simp) (by omega)]; exact hf
    have hF1 := hfr.ref hF
    refine X_iload_n (i := 2) hB dX12_requestComes_9 rfl rfl ?_
    refine X_aload_n (i := 0) hB dX12_requestComes_10 rfl rfl ?_
    refine X_getr hB cw10 fX12_7 rfl hR.1.1 hR.1.2 (hfr.ref hF).1 dX12_requestComes_11 ?_
    refine X_iconst (v := 0) hB dX12_requestComes_14 (by decide) ?_
    refine X_ialdN hB (0) hR.2.1.1 hR.2.1.2 (by decide) (by first | rfl | (simp (disch := omega) only [nlit, nI_add, nI_mul, nI_sub]; done) | (simp (disch := omega) only [nlit, nI_add, nI_mul, nI_sub]; (congr 1 <;> omega))) (by first | omega | (simp only []; omega)) (show _ = nI (nSe σ 0) by rw [hN1.1.1 0 (by decide), i1]) dX12_requestComes_15 ?_
    refine X_icmp_ge (tgt := 152) hB dX12_requestComes_16 (by decide) (fun c16 => absurd c16 (by simp (disch := omega) only [nlit, nI_leI, nI_ltI]; omega)) (fun c16 => ?_)
    refine X_aload_n (i := 0) hB dX12_requestComes_19 rfl rfl ?_
    refine X_iload_n (i := 1) hB dX12_requestComes_20 rfl rfl ?_
    refine X_iload_n (i := 2) hB dX12_requestComes_21 rfl rfl ?_
    refine X_callV hB kX12_310 cw10 hR.1.1 hR.1.2 (c_isNear hR hF1 σz hN1 hfr8 hz8) (by decide) (by decide) rfl rfl (Nat.le_of_ble_eq_true rfl) dX12_requestComes_22 (fun r22 S22 q22 => ?_)
    obtain ⟨rfl, rfl⟩ := q22
    refine X_if_ne (tgt := 31) hB dX12_requestComes_25 (by decide) (fun c25 => ?_) (fun c25 => ?_)
    · have hnr : z ≠ fFr f ∧ nUp σz (fFr f) z = true := Decidable.byContradiction fun q => c25 (by rw [if_neg q])
      refine X_aload_n (i := 0) hB dX12_requestComes_31 rfl rfl ?_
      refine X_iload_n (i := 2) hB dX12_requestComes_32 rfl rfl ?_
      refine X_aload_n (i := 0) hB dX12_requestComes_33 rfl rfl ?_
      refine X_getr hB cw10 fX12_45 rfl hR.1.1 hR.1.2 (hfr.ref hF).2.2.2.2.2.2.2.2.2.2.2 dX12_requestComes_34 ?_
      refine X_iconst (v := 4) hB dX12_requestComes_37 (by decide) ?_
      refine X_ialdN hB (4) hR.2.2.2.2.2.2.2.2.2.2.2.2.1 hR.2.2.2.2.2.2.2.2.2.2.2.2.2 (by decide) (by first | rfl | (simp (disch := omega) only [nlit, nI_add, nI_mul, nI_sub]; done) | (simp (disch := omega) only [nlit, nI_add, nI_mul, nI_sub]; (congr 1 <;> omega))) (by first | omega | (simp only []; omega)) (show _ = lkN (fLk f) by rw [hcm.1 4 (by decide)]; simp only [fwd_]; rw [if_pos hfk]) dX12_requestComes_38 ?_
      refine X_callV hB kX12_325 cw10 hR.1.1 hR.1.2 (c_forgetsON hR hF1 σz hN1 i3 z (fLk f) hz8 hlk) (by decide) (by decide) rfl rfl (Nat.le_of_ble_eq_true rfl) dX12_requestComes_39 (fun r39 S39 q39 => ?_)
      obtain ⟨rfl, f39, n39, s39⟩ := q39
      have hF39 := f39.ref hF1
      have hfr39 : fr h [h + 1, h + 7, h + 8, h + 9, h + 10, h + 11] [20, 22] S S39 := hfr.tr (f39.mono (by simp) (by simp))
      have h39 : frS (S39.1 (h + 12)) f := by rw [f39.2.1 _ (by simp) (by omega)]; exact hcm
      have tb39 : tbOk (forgetON σz z (fLk f)) := tbOk_nd i4 (i4 z hz8)
      have I39 : rqI σ (forgetON σz z (fLk f)) := ⟨i1, i2, s39, tb39⟩
      refine X_aload_n (i := 0) hB dX12_requestComes_42 rfl rfl ?_
      refine X_iload_n (i := 2) hB dX12_requestComes_43 rfl rfl ?_
      refine X_iconst (v := 0) hB dX12_requestComes_44 (by decide) ?_
      refine X_callV hB kX12_319 cw10 hR.1.1 hR.1.2 (c_isInRow hR hF39 f h39 hfl hfx z 0 hz8 (Nat.zero_le _)) (by decide) (by decide) rfl rfl (Nat.le_of_ble_eq_true rfl) dX12_requestComes_45 (fun r45 S45 q45 => ?_)
      obtain ⟨rfl, rfl⟩ := q45
      rw [List.drop_zero]
      refine X_if_ne (tgt := 70) hB dX12_requestComes_48 (by decide) (fun c48 => ?_) (fun c48 => ?_)
      · have hdup : z ∈ fRo f := Decidable.byContradiction fun q => c48 (by rw [if_neg q])
        have hyes : reqStep f z σz = uTa (forgetON σz z (fLk f)) 7 := by unfold reqStep; rw [if_pos hnr, if_pos (Or.inl hdup)]
        rw [hyes] at hstep
        refine X_aload_n (i := 0) hB dX12_requestComes_70 rfl rfl ?_
        refine X_bipush (v := 7) hB dX12_requestComes_71 (by decide) ?_
        refine X_iconst (v := 1) hB dX12_requestComes_73 (by decide) ?_
        refine X_callV hB kX12_240 cw10 hR.1.1 hR.1.2 (c_tally hR hF39 (k := 7) (by decide) 1) (by decide) (by decide) rfl rfl (Nat.le_of_ble_eq_true rfl) dX12_requestComes_74 (fun r74 S74 q74 => ?_)
        obtain ⟨rfl, rfl⟩ := q74
        rw [setI_rowI]
        have n74 := netR_ta (k := 7) n39 s39 (by decide)
        refine X_goto (tgt := 146) hB dX12_requestComes_77 (by decide) ?_
        refine X_iinc hB dX12_requestComes_146 rfl rfl (by decide) rfl ?_
        refine X_goto (tgt := 9) hB dX12_requestComes_149 (by decide) ?_
        refine X_dl [some (.ref h), some (.int (nI (fFr f))), some (.int (nI (z + 1))), none] (by simp [lle, lset, nI_succ]) (ih (z + 1) _ (by omega) (hfr39.tr (fr.row (by simp) (by omega))) (by rw [hstep]; exact (by rw [rowI_at]; exact n74)) (by rw [hstep]; exact I39))
      · have hnin : z ∉ fRo f := fun q => absurd c48 (by rw [if_pos q]; decide)
        refine X_aload_n (i := 0) hB dX12_requestComes_51 rfl rfl ?_
        refine X_iload_n (i := 2) hB dX12_requestComes_52 rfl rfl ?_
        refine X_aload_n (i := 0) hB dX12_requestComes_53 rfl rfl ?_
        refine X_iconst (v := 0) hB dX12_requestComes_54 (by decide) ?_
        refine X_callV hB kX12_274 cw10 hR.1.1 hR.1.2 (c_rowAt hR hF39 f h39 hfl (i := 0) (by omega)) (by decide) (by decide) rfl rfl (Nat.le_of_ble_eq_true rfl) dX12_requestComes_55 (fun r55 S55 q55 => ?_)
        obtain ⟨rfl, rfl⟩ := q55
        refine X_aload_n (i := 0) hB dX12_requestComes_58 rfl rfl ?_
        refine X_getr hB cw10 fX12_45 rfl hR.1.1 hR.1.2 hF39.2.2.2.2.2.2.2.2.2.2.2 dX12_requestComes_59 ?_
        refine X_iconst (v := 3) hB dX12_requestComes_62 (by decide) ?_
        refine X_ialdN hB (3) hR.2.2.2.2.2.2.2.2.2.2.2.2.1 hR.2.2.2.2.2.2.2.2.2.2.2.2.2 (by decide) (by first | rfl | (simp (disch := omega) only [nlit, nI_add, nI_mul, nI_sub]; done) | (simp (disch := omega) only [nlit, nI_add, nI_mul, nI_sub]; (congr 1 <;> omega))) (by first | omega | (simp only []; omega)) (show _ = nI (fNu f) by rw [h39.1 3 (by decide)]; simp only [fwd_]; rw [if_pos hfk]) dX12_requestComes_63 ?_
        refine X_callV hB kX12_328 cw10 hR.1.1 hR.1.2 (c_hasSeen hR hF39 (forgetON σz z (fLk f)) n39 s39 z ((fRo f).getD 0 0) (fNu f) hz8 (hfx _ (getD_mem (by omega))) hnum (tb39 z hz8)) (by decide) (by decide) rfl rfl (Nat.le_of_ble_eq_true rfl) dX12_requestComes_64 (fun r64 S64 q64 => ?_)
        obtain ⟨rfl, rfl⟩ := q64
        refine X_if_eq (tgt := 80) hB dX12_requestComes_67 (by decide) (fun c67 => ?_) (fun c67 => ?_)
        · have hndup : ¬ (z ∈ fRo f ∨ (((fRo f).getD 0 0), fNu f) ∈ dTb (nNd (forgetON σz z (fLk f)) z)) := fun q => q.elim hnin (fun q9 => absurd c67 (by rw [if_pos q9]; decide))
          refine X_aload_n (i := 0) hB dX12_requestComes_80 rfl rfl ?_
          refine X_iload_n (i := 2) hB dX12_requestComes_81 rfl rfl ?_
          refine X_aload_n (i := 0) hB dX12_requestComes_82 rfl rfl ?_
          refine X_iconst (v := 0) hB dX12_requestComes_83 (by decide) ?_
          refine X_callV hB kX12_274 cw10 hR.1.1 hR.1.2 (c_rowAt hR hF39 f h39 hfl (i := 0) (by omega)) (by decide) (by decide) rfl rfl (Nat.le_of_ble_eq_true rfl) dX12_requestComes_84 (fun r84 S84 q84 => ?_)
          obtain ⟨rfl, rfl⟩ := q84
          refine X_aload_n (i := 0) hB dX12_requestComes_87 rfl rfl ?_
          refine X_getr hB cw10 fX12_45 rfl hR.1.1 hR.1.2 hF39.2.2.2.2.2.2.2.2.2.2.2 dX12_requestComes_88 ?_
          refine X_iconst (v := 3) hB dX12_requestComes_91 (by decide) ?_
          refine X_ialdN hB (3) hR.2.2.2.2.2.2.2.2.2.2.2.2.1 hR.2.2.2.2.2.2.2.2.2.2.2.2.2 (by decide) (by first | rfl | (simp (disch := omega) only [nlit, nI_add, nI_mul, nI_sub]; done) | (simp (disch := omega) only [nlit, nI_add, nI_mul, nI_sub]; (congr 1 <;> omega))) (by first | omega | (simp only []; omega)) (show _ = nI (fNu f) by rw [h39.1 3 (by decide)]; simp only [fwd_]; rw [if_pos hfk]) dX12_requestComes_92 ?_
          refine X_callV hB kX12_331 cw10 hR.1.1 hR.1.2 (c_sees hR hF39 (forgetON σz z (fLk f)) n39 s39 z ((fRo f).getD 0 0) (fNu f) hz8 (by rw [show nSe (forgetON σz z (fLk f)) 3 = nSe σ 3 from congrFun i1 3]; exact hse.2.2.2.1)) (by decide) (by decide) rfl rfl (Nat.le_of_ble_eq_true rfl) dX12_requestComes_93 (fun r93 S93 q93 => ?_)
          obtain ⟨rfl, f93, n93, s93⟩ := q93
          refine X_aload_n (i := 0) hB dX12_requestComes_96 rfl rfl ?_
          refine X_iload_n (i := 2) hB dX12_requestComes_97 rfl rfl ?_
          refine X_callV hB kX12_313 cw10 hR.1.1 hR.1.2 (c_beginsLesson hR (f93.ref hF39) z) (by decide) (by decide) rfl rfl (Nat.le_of_ble_eq_true rfl) dX12_requestComes_98 (fun r98 S98 q98 => ?_)
          obtain ⟨rfl, f98, g98⟩ := q98
          have hF98 := f98.ref (f93.ref hF39)
          have n98 : netR (S98.1 (h + 1)) (seeN (forgetON σz z (fLk f)) z ((fRo f).getD 0 0) (fNu f)) := by rw [f98.2.1 _ (by simp) (by omega)]; exact n93
          have h98 : frS (S98.1 (h + 12)) f := by rw [f98.2.1 _ (by simp) (by omega), f93.2.1 _ (by simp) (by omega)]; exact h39
          have hfr98 : fr h [h + 1, h + 7, h + 8, h + 9, h + 10, h + 11] [20, 22] S S98 := hfr39.tr ((f93.mono (by simp) (by simp)).tr (f98.mono (by simp) (by simp)))
          refine X_aload_n (i := 0) hB dX12_requestComes_101 rfl rfl ?_
          refine X_getr hB cw10 fX12_45 rfl hR.1.1 hR.1.2 hF98.2.2.2.2.2.2.2.2.2.2.2 dX12_requestComes_102 ?_
          refine X_bipush (v := 6) hB dX12_requestComes_105 (by decide) ?_
          refine X_ialdN hB (6) hR.2.2.2.2.2.2.2.2.2.2.2.2.1 hR.2.2.2.2.2.2.2.2.2.2.2.2.2 (by decide) (by first | rfl | (simp (disch := omega) only [nlit, nI_add, nI_mul, nI_sub]; done) | (simp (disch := omega) only [nlit, nI_add, nI_mul, nI_sub]; (congr 1 <;> omega))) (by first | omega | (simp only []; omega)) (show _ = nI (fRo f).length from h98.1 6 (by decide)) dX12_requestComes_107 ?_
          refine X_iconst (v := 1) hB dX12_requestComes_108 (by decide) ?_
          refine X_isub hB dX12_requestComes_109 ?_
          refine X_istore_n (i := 3) hB dX12_requestComes_110 rfl (by decide) rfl ?_
          refine X_lv (lv' := [some (.ref h), some (.int (nI (fFr f))), some (.int (nI z)), some (.int (nI (fRo f).length + -1))]) ?_ (l_rq1 (S := S98) hR hF98 hB f h98 hfl z (z :: (fRo f).reverse) (fun S9 v9 m1 m2 => ?_) (fRo f).length [z] S98 (Nat.le_refl _) (by show 1 + (fRo f).length ≤ 9; omega) fr.rf g98 (by rw [List.take_length]; rfl))
          · show [_, _, _, some (Value.int (nI (fRo f).length - 1))] = _
            rw [Int32.sub_eq_add_neg]
          have hF9 := m1.ref hF98
          have n9 : netR (S9.1 (h + 1)) (seeN (forgetON σz z (fLk f)) z ((fRo f).getD 0 0) (fNu f)) := by rw [m1.2.1 _ (by simp) (by omega)]; exact n98
          have h9 : frS (S9.1 (h + 12)) f := by rw [m1.2.1 _ (by simp) (by omega)]; exact h98
          have hfr9 : fr h [h + 1, h + 7, h + 8, h + 9, h + 10, h + 11] [20, 22] S S9 := hfr98.tr (m1.mono (by simp) (by simp))
          have hse1 : nSe (seeN (forgetON σz z (fLk f)) z ((fRo f).getD 0 0) (fNu f)) = nSe σ := i1
          have hfl7 : (fRo f).length ≤ 7 := by
            have := nodup8 (l := z :: fRo f) (List.nodup_cons.mpr ⟨hnin, hfn⟩) (fun q hq => by rcases List.mem_cons.mp hq with rfl | hq; exact hz8; exact hfx q hq)
            rw [List.length_cons] at this; omega
          have hLx : ∀ q ∈ (z :: (fRo f).reverse), q < 8 := fun q hq => by
            rcases List.mem_cons.mp hq with rfl | hq
            · exact hz8
            · exact hfx q (List.mem_reverse.mp hq)
          have hLn : (z :: (fRo f).reverse).Nodup := List.nodup_cons.mpr ⟨fun q => hnin (List.mem_reverse.mp q), nodup_rev hfn⟩
          refine X_aload_n (i := 0) hB dX12_requestComes_130 rfl rfl ?_
          refine X_iload_n (i := 2) hB dX12_requestComes_131 rfl rfl ?_
          refine X_callV hB kX12_304 cw10 hR.1.1 hR.1.2 (c_learnsN hR hF9 (seeN (forgetON σz z (fLk f)) z ((fRo f).getD 0 0) (fNu f)) n9 s93 (by rw [hse1]; exact hse.2.1.2) z (z :: (fRo f).reverse) hz8 hLx hLn m2) (by decide) (by decide) rfl rfl (Nat.le_of_ble_eq_true rfl) dX12_requestComes_132 (fun r132 S132 q132 => ?_)
          obtain ⟨rfl, f132, n132, s132⟩ := q132
          have hF132 := f132.ref hF9
          have h132 : frS (S132.1 (h + 12)) f := by rw [f132.2.1 _ (by simp) (by omega)]; exact h9
          refine X_aload_n (i := 0) hB dX12_requestComes_135 rfl rfl ?_
          refine X_iload_n (i := 2) hB dX12_requestComes_136 rfl rfl ?_
          refine X_aload_n (i := 0) hB dX12_requestComes_137 rfl rfl ?_
          refine X_getr hB cw10 fX12_45 rfl hR.1.1 hR.1.2 hF132.2.2.2.2.2.2.2.2.2.2.2 dX12_requestComes_138 ?_
          refine X_iconst (v := 2) hB dX12_requestComes_141 (by decide) ?_
          refine X_ialdN hB (2) hR.2.2.2.2.2.2.2.2.2.2.2.2.1 hR.2.2.2.2.2.2.2.2.2.2.2.2.2 (by decide) (by first | rfl | (simp (disch := omega) only [nlit, nI_add, nI_mul, nI_sub]; done) | (simp (disch := omega) only [nlit, nI_add, nI_mul, nI_sub]; (congr 1 <;> omega))) (by first | omega | (simp only []; omega)) (show _ = nI (fAb f) by rw [h132.1 2 (by decide)]; simp only [fwd_]; rw [if_pos (by omega)]) dX12_requestComes_142 ?_
          refine X_callV hB kX12_334 cw10 hR.1.1 hR.1.2 (c_answers hR hF132 (learnN (seeN (forgetON σz z (fLk f)) z ((fRo f).getD 0 0) (fNu f)) z (z :: (fRo f).reverse)) n132 s132 f h132 hfl7 hfx hf1 hfk (by rw [show nSe (learnN (seeN (forgetON σz z (fLk f)) z ((fRo f).getD 0 0) (fNu f)) z (z :: (fRo f).reverse)) = nSe σ from hse1]; exact hse.2.1.2) z hz8 hfab) (by decide) (by decide) rfl rfl (Nat.le_of_ble_eq_true rfl) dX12_requestComes_143 (fun r143 S143 q143 => ?_)
          obtain ⟨rfl, f143, n143⟩ := q143
          have hfr143 : fr h [h + 1, h + 7, h + 8, h + 9, h + 10, h + 11] [20, 22] S S143 := hfr9.tr ((f132.mono (by simp) (by simp)).tr (f143.mono (by simp) (by simp)))
          obtain ⟨a1, a2, a3, a4⟩ := answer_keeps (z := z) (f := f) s132 hfl7 (by rw [show nSe (learnN (seeN (forgetON σz z (fLk f)) z ((fRo f).getD 0 0) (fNu f)) z (z :: (fRo f).reverse)) = nSe σ from hse1]; exact hse.2.1.2) hf1
          have tb93 : tbOk (seeN (forgetON σz z (fLk f)) z ((fRo f).getD 0 0) (fNu f)) := tbOk_nd tb39 (fun q hq => by
            rcases List.mem_cons.mp (List.mem_of_mem_take hq) with e | e
            · rw [e]; exact ⟨hfx _ (getD_mem (by omega)), hnum⟩
            · exact tb39 z hz8 q e)
          have tb132 : tbOk (learnN (seeN (forgetON σz z (fLk f)) z ((fRo f).getD 0 0) (fNu f)) z (z :: (fRo f).reverse)) := tbOk_nd tb93 (tb93 z hz8)
          have I143 : rqI σ (answer (learnN (seeN (forgetON σz z (fLk f)) z ((fRo f).getD 0 0) (fNu f)) z (z :: (fRo f).reverse)) z f) := ⟨by rw [a1]; exact hse1, by rw [a2]; exact i2, a4, fun n hn q hq => tb132 n hn q (by rw [← a3]; exact hq)⟩
          have hyes : reqStep f z σz = answer (learnN (seeN (forgetON σz z (fLk f)) z ((fRo f).getD 0 0) (fNu f)) z (z :: (fRo f).reverse)) z f := by unfold reqStep; rw [if_pos hnr, if_neg hndup]
          rw [hyes] at hstep
          refine X_iinc hB dX12_requestComes_146 rfl rfl (by decide) rfl ?_
          refine X_goto (tgt := 9) hB dX12_requestComes_149 (by decide) ?_
          refine X_dl [some (.ref h), some (.int (nI (fFr f))), some (.int (nI (z + 1))), none] (by simp [lle, lset, nI_succ]) (ih (z + 1) _ (by omega) hfr143 (by rw [hstep]; exact n143) (by rw [hstep]; exact I143))
        · have hdup : (((fRo f).getD 0 0), fNu f) ∈ dTb (nNd (forgetON σz z (fLk f)) z) := Decidable.byContradiction fun q => c67 (by rw [if_neg q])
          have hyes : reqStep f z σz = uTa (forgetON σz z (fLk f)) 7 := by unfold reqStep; rw [if_pos hnr, if_pos (Or.inr hdup)]
          rw [hyes] at hstep
          refine X_aload_n (i := 0) hB dX12_requestComes_70 rfl rfl ?_
          refine X_bipush (v := 7) hB dX12_requestComes_71 (by decide) ?_
          refine X_iconst (v := 1) hB dX12_requestComes_73 (by decide) ?_
          refine X_callV hB kX12_240 cw10 hR.1.1 hR.1.2 (c_tally hR hF39 (k := 7) (by decide) 1) (by decide) (by decide) rfl rfl (Nat.le_of_ble_eq_true rfl) dX12_requestComes_74 (fun r74 S74 q74 => ?_)
          obtain ⟨rfl, rfl⟩ := q74
          rw [setI_rowI]
          have n74 := netR_ta (k := 7) n39 s39 (by decide)
          refine X_goto (tgt := 146) hB dX12_requestComes_77 (by decide) ?_
          refine X_iinc hB dX12_requestComes_146 rfl rfl (by decide) rfl ?_
          refine X_goto (tgt := 9) hB dX12_requestComes_149 (by decide) ?_
          refine X_dl [some (.ref h), some (.int (nI (fFr f))), some (.int (nI (z + 1))), none] (by simp [lle, lset, nI_succ]) (ih (z + 1) _ (by omega) (hfr39.tr (fr.row (by simp) (by omega))) (by rw [hstep]; exact (by rw [rowI_at]; exact n74)) (by rw [hstep]; exact I39))
    · have hnr : ¬ (z ≠ fFr f ∧ nUp σz (fFr f) z = true) := fun q => absurd c25 (by rw [if_pos q]; decide)
      have hno : reqStep f z σz = σz := by unfold reqStep; rw [if_neg hnr]
      rw [hno] at hstep
      refine X_goto (tgt := 146) hB dX12_requestComes_28 (by decide) ?_
      refine X_iinc hB dX12_requestComes_146 rfl rfl (by decide) rfl ?_
      refine X_goto (tgt := 9) hB dX12_requestComes_149 (by decide) ?_
      refine X_dl [some (.ref h), some (.int (nI (fFr f))), some (.int (nI (z + 1))), none] (by simp [lle, lset, nI_succ]) (ih (z + 1) _ (by omega) hfr (by rw [hstep]; exact hN1) (by rw [hstep]; exact hI))
set_option maxRecDepth 100000 in
set_option maxHeartbeats 4000000 in
theorem c_requestComes (hR : RLay G h) (hF : RRef S h) (f : Fm) (hf : frS (S.1 (h + 12)) f) (σ : Net) (hse : seOk (nSe σ)) (hfk : fKi f = 1) (hfr8 : fFr f < 8) (hfab : fAb f < 8) (hfn : (fRo f).Nodup) (hfx : ∀ x ∈ fRo f, x < 8) (hf1 : 1 ≤ (fRo f).length) (hnum : fNu f < 2 ^ 31) (hlk : lkOk (fLk f)) (hN : netR (S.1 (h + 1)) σ) (hs : szN σ) (htb : tbOk σ) : C G mX12_requestComes 7 [.ref h] S (fun r S' => r = none ∧ fr h [h + 1, h + 7, h + 8, h + 9, h + 10, h + 11] [20, 22] S S' ∧ netR (S'.1 (h + 1)) (arrReq σ f)) := by
  refine C.mk (lv := [some (.ref h), none, none, none]) (by decide) (Nat.le_of_ble_eq_true rfl) rfl (fun E hB => ?_)
  refine X_aload_n (i := 0) hB dX12_requestComes_0 rfl rfl ?_
  refine X_getr hB cw10 fX12_45 rfl hR.1.1 hR.1.2 hF.2.2.2.2.2.2.2.2.2.2.2 dX12_requestComes_1 ?_
  refine X_iconst (v := 1) hB dX12_requestComes_4 (by decide) ?_
  refine X_ialdN hB (1) hR.2.2.2.2.2.2.2.2.2.2.2.2.1 hR.2.2.2.2.2.2.2.2.2.2.2.2.2 (by decide) (by first | rfl | (simp (disch := omega) only [nlit, nI_add, nI_mul, nI_sub]; done) | (simp (disch := omega) only [nlit, nI_add, nI_mul, nI_sub]; (congr 1 <;> omega))) (by first | omega | (simp only []; omega)) (show _ = nI (fFr f) from hf.1 1 (by decide)) dX12_requestComes_5 ?_
  refine X_istore_n (i := 1) hB dX12_requestComes_6 rfl (by decide) rfl ?_
  refine X_iconst (v := 0) hB dX12_requestComes_7 (by decide) ?_
  refine X_istore_n (i := 2) hB dX12_requestComes_8 rfl (by decide) rfl ?_
  exact X_lv (lv' := [some (.ref h), some (.int (nI (fFr f))), some (.int (nI 0)), none]) (by rw [nI_0]; rfl) (l_rq2 hR hF hB f hf σ hse hfk hfr8 hfab hfn hfx hf1 hnum hlk (fun S9 g1 g2 => ⟨rfl, g1, g2⟩) (nSe σ 0) 0 S (by omega) fr.rf hN ⟨rfl, rfl, hs, htb⟩)
end REF
