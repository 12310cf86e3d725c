theorem nodup_rev {l : List Nat} (h : l.Nodup) : l.reverse.Nodup := List.pairwise_reverse.mpr (h.imp (fun q => Ne.symm q))
def iterN (f : Nat → Net → Net) : Nat → Net → Net
  | 0, σ => σ
  | k + 1, σ => f k (iterN f k σ)
def hearD (x d z : Nat) (σ : Net) : Net := if (z ≠ x ∧ nUp σ x z = true) ∧ dLis (nNd σ z) = true ∧ z ∉ aTr (dat σ d) then shortenD (learnN σ z (z :: ((aTr (dat σ d)).take ((aTr (dat σ d)).length - 1)).reverse)) d z else σ
def mvD (σ : Net) (d y : Nat) : Net := uDa σ d (dRe (dTr (dat σ d) (aTr (dat σ d) ++ [y])) (aRe (dat σ d)).tail)
def lrnD (σ : Net) (d y : Nat) : Net := learnN (learnN (mvD σ d y) y (aRe (dat σ d)).tail) y (aTr (dat σ d) ++ [y]).reverse
def arrData (σ : Net) (d x : Nat) : Net := if nUp σ x ((aRe (dat σ d)).getD 1 0) = true then (if (aRe (dat σ d)).getD 1 0 = aEn (dat σ d) then doneD (iterN (hearD x d) (nSe σ 0) (lrnD σ d ((aRe (dat σ d)).getD 1 0))) d 2 else flyOn (iterN (hearD x d) (nSe σ 0) (lrnD σ d ((aRe (dat σ d)).getD 1 0))) d) else breakD σ d x ((aRe (dat σ d)).getD 1 0)
/-- what stays of a net while one listens to data d -/
def hrI (σ : Net) (d : Nat) (T R : List Nat) (en : Nat) (σ' : Net) : Prop := nSe σ' = nSe σ ∧ nUp σ' = nUp σ ∧ d < (nDa σ').length ∧ aTr (dat σ' d) = T ∧ aRe (dat σ' d) = R ∧ aEn (dat σ' d) = en ∧ aSh (dat σ' d) < 256 ∧ szN σ'
theorem or_lt {m z : Nat} (hm : m < 256) (hz : z < 8) : m ||| 1 <<< z < 256 := by
  have : (1 : Nat) <<< z < 2 ^ 8 := by rw [Nat.one_shiftLeft]; exact Nat.pow_lt_pow_right (by decide) hz
  exact Nat.or_lt_two_pow (n := 8) hm this
theorem hrI_learn {σ σ' : Net} {d : Nat} {T R : List Nat} {en n : Nat} {L : List Nat} (h : hrI σ d T R en σ') (hsz : szN (learnN σ' n L)) : hrI σ d T R en (learnN σ' n L) := ⟨h.1, h.2.1, h.2.2.1, h.2.2.2.1, h.2.2.2.2.1, h.2.2.2.2.2.1, h.2.2.2.2.2.2.1, hsz⟩
theorem hrI_short {σ σ' : Net} {d z : Nat} {T R : List Nat} {en : Nat} (h : hrI σ d T R en σ') (hz : z < 8) (hT : 1 ≤ T.length) (hR : 1 ≤ R.length) (hsum : T.length + (R.length - 1) ≤ 8) : hrI σ d T R en (shortenD σ' d z) := by
  obtain ⟨h1, h2, h3, h4, h5, h6, h7, h8⟩ := h
  unfold shortenD
  split
  · rename_i hc
    have hl := dat_len h8 h3
    have hs1 : szN (uTa (uDa σ' d (dSh (dat σ' d) (aSh (dat σ' d) ||| 1 <<< z))) 5) := szN_ta (szN_da h8 hl.1 hl.2)
    have hdd : nDa (sendF (uTa (uDa σ' d (dSh (dat σ' d) (aSh (dat σ' d) ||| 1 <<< z))) 5) (shF σ' d z)).1 = nDa (uDa σ' d (dSh (dat σ' d) (aSh (dat σ' d) ||| 1 <<< z))) := dat_send
    have hdt : dat (sendF (uTa (uDa σ' d (dSh (dat σ' d) (aSh (dat σ' d) ||| 1 <<< z))) 5) (shF σ' d z)).1 d = dSh (dat σ' d) (aSh (dat σ' d) ||| 1 <<< z) := by
      unfold dat; rw [hdd]; exact dat_set h3
    refine ⟨by rw [se_send]; exact h1, ?_, by rw [hdd, len_set]; exact h3, by rw [hdt]; exact h4, by rw [hdt]; exact h5, by rw [hdt]; exact h6, by rw [hdt]; exact or_lt h7 hz, szN_send hs1 ?_⟩
    · unfold sendF; split <;> exact h2
    · show (shR σ' d z).length ≤ 8
      unfold shR
      have hi := List.idxOf_lt_length_of_mem hc.1
      rw [List.length_tail] at hi
      rw [List.length_append, List.length_take, List.length_drop, h4]
      rw [h5] at hi ⊢
      omega
  · exact ⟨h1, h2, h3, h4, h5, h6, h7, h8⟩
section REF
variable {G : Gc} {S : St} {h : Nat}
set_option maxRecDepth 100000 in
set_option maxHeartbeats 4000000 in
theorem l_dC1 (hR : RLay G h) (hF : RRef S h) {E : Ev} (hB : Bd G E mX12_dataComes) {Q : Option Value → St → Prop} (σ : Net) (hN : netR (S.1 (h + 1)) σ) (hs : szN σ) (d : Nat) (hd : d < (nDa σ).length) (x y : Nat) (kk : ∀ S2 v, fr h [h + 7] [20] S S2 → lesR S2 h (aRe (dat σ d)) → X G E mX12_dataComes 7 Q S2 84 [some (.ref h), some (.int (nI d)), some (.int (nI x)), some (.int (nI y)), some (.int v)] []) :
    ∀ (k i : Nat) (S1 : St), i + k = (aRe (dat σ d)).length → fr h [h + 7] [20] S S1 → lesR S1 h ((aRe (dat σ d)).take i) → X G E mX12_dataComes 7 Q S1 53 [some (.ref h), some (.int (nI d)), some (.int (nI x)), some (.int (nI y)), some (.int (nI i))] [] := by
  have hd40 := hs.2.1
  have hl := dat_len hs hd
  intro k
  induction k with
  | zero =>
    intro i S1 h1 hfr hL
    have hN1 : netR (S1.1 (h + 1)) σ := by rw [hfr.2.1 _ (by simp) (by omega)]; exact hN
    refine X_iload hB dX12_dataComes_53 rfl ?_
    refine X_aload_n (i := 0) hB dX12_dataComes_55 rfl rfl ?_
    refine X_iload_n (i := 1) hB dX12_dataComes_56 rfl rfl ?_
    refine X_iconst (v := 5) hB dX12_dataComes_57 (by decide) ?_
    refine X_callV hB kX12_246 cw10 hR.1.1 hR.1.2 (c_ofDE (n := d) (w := 5) hR (hfr.ref hF) rfl rfl (by omega) (by omega)) (by decide) (by decide) rfl rfl (Nat.le_of_ble_eq_true rfl) dX12_dataComes_58 (fun r58 S58 q58 => ?_)
    obtain ⟨rfl, rfl⟩ := q58
    refine X_topi (y := nI (aRe (dat σ d)).length) ((hN1.2.2.2 d hd).2.2.2.2.2.1) ?_
    refine X_icmp_ge (tgt := 84) hB dX12_dataComes_61 (by decide) (fun c61 => ?_) (fun c61 => absurd c61 (by simp (disch := omega) only [nlit, nI_leI, nI_ltI]; omega))
    rw [List.take_of_length_le (by omega)] at hL
    exact kk S1 _ hfr hL
  | succ k ih =>
    intro i S1 h1 hfr hL
    have hN1 : netR (S1.1 (h + 1)) σ := by rw [hfr.2.1 _ (by simp) (by omega)]; exact hN
    refine X_iload hB dX12_dataComes_53 rfl ?_
    refine X_aload_n (i := 0) hB dX12_dataComes_55 rfl rfl ?_
    refine X_iload_n (i := 1) hB dX12_dataComes_56 rfl rfl ?_
    refine X_iconst (v := 5) hB dX12_dataComes_57 (by decide) ?_
    refine X_callV hB kX12_246 cw10 hR.1.1 hR.1.2 (c_ofDE (n := d) (w := 5) hR (hfr.ref hF) rfl rfl (by omega) (by omega)) (by decide) (by decide) rfl rfl (Nat.le_of_ble_eq_true rfl) dX12_dataComes_58 (fun r58 S58 q58 => ?_)
    obtain ⟨rfl, rfl⟩ := q58
    refine X_topi (y := nI (aRe (dat σ d)).length) ((hN1.2.2.2 d hd).2.2.2.2.2.1) ?_
    refine X_icmp_ge (tgt := 84) hB dX12_dataComes_61 (by decide) (fun c61 => absurd c61 (by simp (disch := omega) only [nlit, nI_leI, nI_ltI]; omega)) (fun c61 => ?_)
    refine X_aload_n (i := 0) hB dX12_dataComes_64 rfl rfl ?_
    refine X_aload_n (i := 0) hB dX12_dataComes_65 rfl rfl ?_
    refine X_iload_n (i := 1) hB dX12_dataComes_66 rfl rfl ?_
    refine X_bipush (v := 18) hB dX12_dataComes_67 (by decide) ?_
    refine X_iload hB dX12_dataComes_69 rfl ?_
    refine X_iadd hB dX12_dataComes_71 ?_
    refine X_callV hB kX12_246 cw10 hR.1.1 hR.1.2 (c_ofDE (n := d) (w := 18 + i) hR (hfr.ref hF) rfl (by first | rfl | (simp (disch := omega) only [nlit, nI_add, nI_mul, nI_sub]; done) | (simp (disch := omega) only [nlit, nI_add, nI_mul, nI_sub]; (congr 1 <;> omega))) (by omega) (by omega)) (by decide) (by decide) rfl rfl (Nat.le_of_ble_eq_true rfl) dX12_dataComes_72 (fun r72 S72 q72 => ?_)
    obtain ⟨rfl, rfl⟩ := q72
    refine X_topi (y := nI ((aRe (dat σ d)).getD i 0)) ((hN1.2.2.2 d hd).2.2.2.2.2.2.2.2.2.2.2 i (by omega)) ?_
    refine X_callV hB kX12_295 cw10 hR.1.1 hR.1.2 (c_addsLesson hR (hfr.ref hF) ((aRe (dat σ d)).getD i 0) ((aRe (dat σ d)).take i) (by rw [List.length_take]; omega) hL) (by decide) (by decide) rfl rfl (Nat.le_of_ble_eq_true rfl) dX12_dataComes_75 (fun r75 S75 q75 => ?_)
    obtain ⟨rfl, f75, g75⟩ := q75
    refine X_iinc hB dX12_dataComes_78 rfl rfl (by decide) rfl ?_
    refine X_goto (tgt := 53) hB dX12_dataComes_81 (by decide) ?_
    refine X_lv ?_ (ih (i + 1) _ (by omega) (hfr.tr f75) ?_)
    · rw [nI_succ]; rfl
    · rw [List.take_succ_eq_append_getElem (show i < (aRe (dat σ d)).length by omega), ← getD_lt (d := 0)]
      exact g75
set_option maxRecDepth 100000 in
set_option maxHeartbeats 4000000 in
theorem l_dC2 (hR : RLay G h) (hF : RRef S h) {E : Ev} (hB : Bd G E mX12_dataComes) {Q : Option Value → St → Prop} (σ : Net) (d x y : Nat) (T R : List Nat) (en : Nat) (hd40 : d < 40) (hx8 : x < 8) (hT2 : 2 ≤ T.length) (hR1 : 1 ≤ R.length) (hnd : (T ++ R.tail).Nodup) (hTx : ∀ q ∈ T, q < 8) (hRx : ∀ q ∈ R, q < 8) (hse : seOk (nSe σ)) (σ3 : Net) (kk : ∀ S2 v, fr h [h + 1, h + 7, h + 8, h + 9, h + 10, h + 11] [20, 22] S S2 → netR (S2.1 (h + 1)) (iterN (hearD x d) (nSe σ 0) σ3) → hrI σ d T R en (iterN (hearD x d) (nSe σ 0) σ3) → X G E mX12_dataComes 7 Q S2 202 [some (.ref h), some (.int (nI d)), some (.int (nI x)), some (.int (nI y)), some (.int v)] []) :
    ∀ (k z : Nat) (S1 : St), z + k = nSe σ 0 → fr h [h + 1, h + 7, h + 8, h + 9, h + 10, h + 11] [20, 22] S S1 → netR (S1.1 (h + 1)) (iterN (hearD x d) z σ3) → hrI σ d T R en (iterN (hearD x d) z σ3) → X G E mX12_dataComes 7 Q S1 115 [some (.ref h), some (.int (nI d)), some (.int (nI x)), some (.int (nI y)), some (.int (nI z))] [] := by
  have hc8 := hse.1.2
  have hsum : T.length + (R.length - 1) ≤ 8 := by
    have := nodup8 hnd (fun q hq => (List.mem_append.mp hq).elim (hTx q) (fun q9 => hRx q (List.mem_of_mem_tail q9)))
    rw [List.length_append, List.length_tail] at this
    exact this
  have hTn : T.Nodup := (List.nodup_append.mp hnd).1
  intro k
  induction k with
  | zero =>
    intro z S1 h1 hfr hN1 hI
    refine X_iload hB dX12_dataComes_115 rfl ?_
    refine X_aload_n (i := 0) hB dX12_dataComes_117 rfl rfl ?_
    refine X_getr hB cw10 fX12_7 rfl hR.1.1 hR.1.2 (hfr.ref hF).1 dX12_dataComes_118 ?_
    refine X_iconst (v := 0) hB dX12_dataComes_121 (by decide) ?_
    refine X_ialdN hB (0) hR.2.1.1 hR.2.1.2 (by decide) (by first | rfl | (simp (disch := omega) only [nlit, nI_add, nI_mul, nI_sub]; done) | (simp (disch := omega) only [nlit, nI_add, nI_mul, nI_sub]; (congr 1 <;> omega))) (by first | omega | (simp only []; omega)) (show _ = nI (nSe σ 0) by rw [hN1.1.1 0 (by decide), hI.1]) dX12_dataComes_122 ?_
    refine X_icmp_ge (tgt := 202) hB dX12_dataComes_123 (by decide) (fun c123 => ?_) (fun c123 => absurd c123 (by simp (disch := omega) only [nlit, nI_leI, nI_ltI]; omega))
    have e9 : z = nSe σ 0 := by omega
    subst e9
    exact kk S1 _ hfr hN1 hI
  | succ k ih =>
    intro z S1 h1 hfr hN1 hI
    generalize hσz : iterN (hearD x d) z σ3 = σz at hN1 hI
    have hstep : iterN (hearD x d) (z + 1) σ3 = hearD x d z σz := by rw [← hσz]; rfl
    obtain ⟨i1, i2, i3, i4, i5, i6, i7, i8⟩ := id hI
    have hnz := hN1.2.1 z (by omega)
    have hdz := hN1.2.2.2 d i3
    refine X_iload hB dX12_dataComes_115 rfl ?_
    refine X_aload_n (i := 0) hB dX12_dataComes_117 rfl rfl ?_
    refine X_getr hB cw10 fX12_7 rfl hR.1.1 hR.1.2 (hfr.ref hF).1 dX12_dataComes_118 ?_
    refine X_iconst (v := 0) hB dX12_dataComes_121 (by decide) ?_
    refine X_ialdN hB (0) hR.2.1.1 hR.2.1.2 (by decide) (by first | rfl | (simp (disch := omega) only [nlit, nI_add, nI_mul, nI_sub]; done) | (simp (disch := omega) only [nlit, nI_add, nI_mul, nI_sub]; (congr 1 <;> omega))) (by first | omega | (simp only []; omega)) (show _ = nI (nSe σ 0) by rw [hN1.1.1 0 (by decide), i1]) dX12_dataComes_122 ?_
    refine X_icmp_ge (tgt := 202) hB dX12_dataComes_123 (by decide) (fun c123 => absurd c123 (by simp (disch := omega) only [nlit, nI_leI, nI_ltI]; omega)) (fun c123 => ?_)
    refine X_aload_n (i := 0) hB dX12_dataComes_126 rfl rfl ?_
    refine X_iload_n (i := 2) hB dX12_dataComes_127 rfl rfl ?_
    refine X_iload hB dX12_dataComes_128 rfl ?_
    refine X_callV hB kX12_310 cw10 hR.1.1 hR.1.2 (c_isNear hR (hfr.ref hF) σz hN1 hx8 (by omega)) (by decide) (by decide) rfl rfl (Nat.le_of_ble_eq_true rfl) dX12_dataComes_130 (fun r130 S130 q130 => ?_)
    obtain ⟨rfl, rfl⟩ := q130
    refine X_if_eq (tgt := 196) hB dX12_dataComes_133 (by decide) (fun c133 => ?_) (fun c133 => ?_)
    · first
      | (have e133 : (if z ≠ x ∧ nUp σz x z = true then (1 : Int32) else 0) = 0 := by exact c133
         refine X_iinc hB dX12_dataComes_196 rfl rfl (by decide) rfl ?_
         refine X_goto (tgt := 115) hB dX12_dataComes_199 (by decide) ?_
         have hno : hearD x d z σz = σz := by
           unfold hearD
           rw [if_neg]
           intro q
           exact absurd e133 (by rw [if_pos q.1]; decide)
         rw [hno] at hstep
         refine X_lv ?_ (ih (z + 1) S1 (by omega) hfr (by rw [hstep]; exact hN1) (by rw [hstep]; exact hI))
         rw [nI_succ]; rfl)
      | (have e144 : ¬ (if dLis (nNd σz z) = true then (1 : Int32) else 0) = 1 := by exact c144
         refine X_iinc hB dX12_dataComes_196 rfl rfl (by decide) rfl ?_
         refine X_goto (tgt := 115) hB dX12_dataComes_199 (by decide) ?_
         have hno : hearD x d z σz = σz := by
           unfold hearD
           rw [if_neg]
           intro q
           exact e144 (by rw [if_pos q.2.1])
         rw [hno] at hstep
         refine X_lv ?_ (ih (z + 1) S1 (by omega) hfr (by rw [hstep]; exact hN1) (by rw [hstep]; exact hI))
         rw [nI_succ]; rfl)
      | (have e160 : ¬ (if z ∈ T then (1 : Int32) else 0) = 0 := by exact c160
         refine X_iinc hB dX12_dataComes_196 rfl rfl (by decide) rfl ?_
         refine X_goto (tgt := 115) hB dX12_dataComes_199 (by decide) ?_
         have hno : hearD x d z σz = σz := by
           unfold hearD
           rw [if_neg]
           intro q
           exact e160 (by rw [if_neg (by rw [← i4]; exact q.2.2)])
         rw [hno] at hstep
         refine X_lv ?_ (ih (z + 1) S1 (by omega) hfr (by rw [hstep]; exact hN1) (by rw [hstep]; exact hI))
         rw [nI_succ]; rfl)
    · refine X_aload_n (i := 0) hB dX12_dataComes_136 rfl rfl ?_
      refine X_iload hB dX12_dataComes_137 rfl ?_
      refine X_iconst (v := 1) hB dX12_dataComes_139 (by decide) ?_
      refine X_callV hB kX12_180 cw10 hR.1.1 hR.1.2 (c_ofE (n := z) (w := 1) hR (hfr.ref hF) rfl rfl (by omega) (by omega)) (by decide) (by decide) rfl rfl (Nat.le_of_ble_eq_true rfl) dX12_dataComes_140 (fun r140 S140 q140 => ?_)
      obtain ⟨rfl, rfl⟩ := q140
      refine X_topi (y := if dLis (nNd σz z) then 1 else 0) (hnz.2.1) ?_
      refine X_iconst (v := 1) hB dX12_dataComes_143 (by decide) ?_
      refine X_icmp_ne (tgt := 196) hB dX12_dataComes_144 (by decide) (fun c144 => ?_) (fun c144 => ?_)
      · first
        | (have e133 : (if z ≠ x ∧ nUp σz x z = true then (1 : Int32) else 0) = 0 := by exact c133
           refine X_iinc hB dX12_dataComes_196 rfl rfl (by decide) rfl ?_
           refine X_goto (tgt := 115) hB dX12_dataComes_199 (by decide) ?_
           have hno : hearD x d z σz = σz := by
             unfold hearD
             rw [if_neg]
             intro q
             exact absurd e133 (by rw [if_pos q.1]; decide)
           rw [hno] at hstep
           refine X_lv ?_ (ih (z + 1) S1 (by omega) hfr (by rw [hstep]; exact hN1) (by rw [hstep]; exact hI))
           rw [nI_succ]; rfl)
        | (have e144 : ¬ (if dLis (nNd σz z) = true then (1 : Int32) else 0) = 1 := by exact c144
           refine X_iinc hB dX12_dataComes_196 rfl rfl (by decide) rfl ?_
           refine X_goto (tgt := 115) hB dX12_dataComes_199 (by decide) ?_
           have hno : hearD x d z σz = σz := by
             unfold hearD
             rw [if_neg]
             intro q
             exact e144 (by rw [if_pos q.2.1])
           rw [hno] at hstep
           refine X_lv ?_ (ih (z + 1) S1 (by omega) hfr (by rw [hstep]; exact hN1) (by rw [hstep]; exact hI))
           rw [nI_succ]; rfl)
        | (have e160 : ¬ (if z ∈ T then (1 : Int32) else 0) = 0 := by exact c160
           refine X_iinc hB dX12_dataComes_196 rfl rfl (by decide) rfl ?_
           refine X_goto (tgt := 115) hB dX12_dataComes_199 (by decide) ?_
           have hno : hearD x d z σz = σz := by
             unfold hearD
             rw [if_neg]
             intro q
             exact e160 (by rw [if_neg (by rw [← i4]; exact q.2.2)])
           rw [hno] at hstep
           refine X_lv ?_ (ih (z + 1) S1 (by omega) hfr (by rw [hstep]; exact hN1) (by rw [hstep]; exact hI))
           rw [nI_succ]; rfl)
      · refine X_aload_n (i := 0) hB dX12_dataComes_147 rfl rfl ?_
        refine X_iload_n (i := 1) hB dX12_dataComes_148 rfl rfl ?_
        refine X_iload hB dX12_dataComes_149 rfl ?_
        refine X_aload_n (i := 0) hB dX12_dataComes_151 rfl rfl ?_
        refine X_iload_n (i := 1) hB dX12_dataComes_152 rfl rfl ?_
        refine X_iconst (v := 4) hB dX12_dataComes_153 (by decide) ?_
        refine X_callV hB kX12_246 cw10 hR.1.1 hR.1.2 (c_ofDE (n := d) (w := 4) hR (hfr.ref hF) rfl rfl (by omega) (by omega)) (by decide) (by decide) rfl rfl (Nat.le_of_ble_eq_true rfl) dX12_dataComes_154 (fun r154 S154 q154 => ?_)
        obtain ⟨rfl, rfl⟩ := q154
        refine X_topi (y := nI T.length) (by rw [hdz.2.2.2.2.1, i4]) ?_
        refine X_callV hB kX12_283 cw10 hR.1.1 hR.1.2 (c_isInTrail hR (hfr.ref hF) σz hN1 i8 d i3 z T.length (by omega) (by rw [i4]; exact Nat.le_refl _) (by rw [i4]; exact hTx)) (by decide) (by decide) rfl rfl (Nat.le_of_ble_eq_true rfl) dX12_dataComes_157 (fun r157 S157 q157 => ?_)
        obtain ⟨rfl, rfl⟩ := q157
        rw [i4, List.take_length]
        refine X_if_ne (tgt := 196) hB dX12_dataComes_160 (by decide) (fun c160 => ?_) (fun c160 => ?_)
        · first
          | (have e133 : (if z ≠ x ∧ nUp σz x z = true then (1 : Int32) else 0) = 0 := by exact c133
             refine X_iinc hB dX12_dataComes_196 rfl rfl (by decide) rfl ?_
             refine X_goto (tgt := 115) hB dX12_dataComes_199 (by decide) ?_
             have hno : hearD x d z σz = σz := by
               unfold hearD
               rw [if_neg]
               intro q
               exact absurd e133 (by rw [if_pos q.1]; decide)
             rw [hno] at hstep
             refine X_lv ?_ (ih (z + 1) S1 (by omega) hfr (by rw [hstep]; exact hN1) (by rw [hstep]; exact hI))
             rw [nI_succ]; rfl)
          | (have e144 : ¬ (if dLis (nNd σz z) = true then (1 : Int32) else 0) = 1 := by exact c144
             refine X_iinc hB dX12_dataComes_196 rfl rfl (by decide) rfl ?_
             refine X_goto (tgt := 115) hB dX12_dataComes_199 (by decide) ?_
             have hno : hearD x d z σz = σz := by
               unfold hearD
               rw [if_neg]
               intro q
               exact e144 (by rw [if_pos q.2.1])
             rw [hno] at hstep
             refine X_lv ?_ (ih (z + 1) S1 (by omega) hfr (by rw [hstep]; exact hN1) (by rw [hstep]; exact hI))
             rw [nI_succ]; rfl)
          | (have e160 : ¬ (if z ∈ T then (1 : Int32) else 0) = 0 := by exact c160
             refine X_iinc hB dX12_dataComes_196 rfl rfl (by decide) rfl ?_
             refine X_goto (tgt := 115) hB dX12_dataComes_199 (by decide) ?_
             have hno : hearD x d z σz = σz := by
               unfold hearD
               rw [if_neg]
               intro q
               exact e160 (by rw [if_neg (by rw [← i4]; exact q.2.2)])
             rw [hno] at hstep
             refine X_lv ?_ (ih (z + 1) S1 (by omega) hfr (by rw [hstep]; exact hN1) (by rw [hstep]; exact hI))
             rw [nI_succ]; rfl)
        · have hnear : z ≠ x ∧ nUp σz x z = true := Decidable.byContradiction fun q => c133 (by rw [if_neg q])
          have hlis : dLis (nNd σz z) = true := by
            cases hq : dLis (nNd σz z) with
            | true => rfl
            | false => rw [hq] at c144; exact absurd c144 (by decide)
          have hzT : z ∉ T := fun q => absurd c160 (by rw [if_pos q]; decide)
          refine X_aload_n (i := 0) hB dX12_dataComes_163 rfl rfl ?_
          refine X_iload hB dX12_dataComes_164 rfl ?_
          refine X_callV hB kX12_313 cw10 hR.1.1 hR.1.2 (c_beginsLesson hR (hfr.ref hF) z) (by decide) (by decide) rfl rfl (Nat.le_of_ble_eq_true rfl) dX12_dataComes_166 (fun r166 S166 q166 => ?_)
          obtain ⟨rfl, f166, g166⟩ := q166
          have n166 : netR (S166.1 (h + 1)) σz := by rw [f166.2.1 _ (by simp) (by omega)]; exact hN1
          refine X_aload_n (i := 0) hB dX12_dataComes_169 rfl rfl ?_
          refine X_iload_n (i := 1) hB dX12_dataComes_170 rfl rfl ?_
          refine X_aload_n (i := 0) hB dX12_dataComes_171 rfl rfl ?_
          refine X_iload_n (i := 1) hB dX12_dataComes_172 rfl rfl ?_
          refine X_iconst (v := 4) hB dX12_dataComes_173 (by decide) ?_
          refine X_callV hB kX12_246 cw10 hR.1.1 hR.1.2 (c_ofDE (n := d) (w := 4) hR (f166.ref (hfr.ref hF)) rfl rfl (by omega) (by omega)) (by decide) (by decide) rfl rfl (Nat.le_of_ble_eq_true rfl) dX12_dataComes_174 (fun r174 S174 q174 => ?_)
          obtain ⟨rfl, rfl⟩ := q174
          refine X_topi (y := nI T.length) (by rw [(n166.2.2.2 d i3).2.2.2.2.1, i4]) ?_
          refine X_iconst (v := 2) hB dX12_dataComes_177 (by decide) ?_
          refine X_isub hB dX12_dataComes_178 ?_
          refine X_topi (y := nI (T.length - 1) + -1) (by rw [show (nI T.length - 2 : Int32) = nI (T.length - 2) from (by first | rfl | (simp (disch := omega) only [nlit, nI_add, nI_mul, nI_sub]; done) | (simp (disch := omega) only [nlit, nI_add, nI_mul, nI_sub]; (congr 1 <;> omega))), show T.length - 1 = (T.length - 2) + 1 by omega, nI_m1]) ?_
          refine X_callV hB kX12_307 cw10 hR.1.1 hR.1.2 (c_addsTrail hR (f166.ref (hfr.ref hF)) σz n166 i8 d i3 (T.length - 1) (by rw [i4]; omega) [z] (by show 1 + (T.length - 1) ≤ 9; omega) g166) (by decide) (by decide) rfl rfl (Nat.le_of_ble_eq_true rfl) dX12_dataComes_179 (fun r179 S179 q179 => ?_)
          obtain ⟨rfl, f179, g179⟩ := q179
          rw [i4] at g179
          have g179 : lesR S179 h (z :: (T.take (T.length - 1)).reverse) := g179
          have n179 : netR (S179.1 (h + 1)) σz := by rw [f179.2.1 _ (by simp) (by omega)]; exact n166
          have hLx : ∀ q ∈ (z :: (T.take (T.length - 1)).reverse), q < 8 := fun q hq => by
            rcases List.mem_cons.mp hq with rfl | hq
            · omega
            · exact hTx q (List.mem_of_mem_take (List.mem_reverse.mp hq))
          have hLn : (z :: (T.take (T.length - 1)).reverse).Nodup := by
            refine List.nodup_cons.mpr ⟨fun q => hzT (List.mem_of_mem_take (List.mem_reverse.mp q)), ?_⟩
            exact nodup_rev (hTn.sublist (List.take_sublist _ _))
          refine X_aload_n (i := 0) hB dX12_dataComes_182 rfl rfl ?_
          refine X_iload hB dX12_dataComes_183 rfl ?_
          refine X_callV hB kX12_304 cw10 hR.1.1 hR.1.2 (c_learnsN hR (f179.ref (f166.ref (hfr.ref hF))) σz n179 i8 (by rw [i1]; exact hse.2.1.2) z (z :: (T.take (T.length - 1)).reverse) (by omega) hLx hLn g179) (by decide) (by decide) rfl rfl (Nat.le_of_ble_eq_true rfl) dX12_dataComes_185 (fun r185 S185 q185 => ?_)
          obtain ⟨rfl, f185, n185, s185⟩ := q185
          have jI := hrI_learn (n := z) (L := (z :: (T.take (T.length - 1)).reverse)) hI s185
          have jT : aTr (dat (learnN σz z (z :: (T.take (T.length - 1)).reverse)) d) = T := i4
          have jR : aRe (dat (learnN σz z (z :: (T.take (T.length - 1)).reverse)) d) = R := i5
          refine X_aload_n (i := 0) hB dX12_dataComes_188 rfl rfl ?_
          refine X_iload_n (i := 1) hB dX12_dataComes_189 rfl rfl ?_
          refine X_iload_n (i := 2) hB dX12_dataComes_190 rfl rfl ?_
          refine X_iload hB dX12_dataComes_191 rfl ?_
          refine X_callV hB kX12_316 cw10 hR.1.1 hR.1.2 (c_shortens hR (f185.ref (f179.ref (f166.ref (hfr.ref hF)))) (learnN σz z (z :: (T.take (T.length - 1)).reverse)) n185 s185 d i3 x z (by omega) (by rw [jT]; omega) (by rw [jR]; exact hR1) (by rw [jT, jR]; exact hnd) (by rw [jT]; exact hTx) (by rw [jR]; exact hRx) i7) (by decide) (by decide) rfl rfl (Nat.le_of_ble_eq_true rfl) dX12_dataComes_193 (fun r193 S193 q193 => ?_)
          obtain ⟨rfl, f193, n193⟩ := q193
          refine X_iinc hB dX12_dataComes_196 rfl rfl (by decide) rfl ?_
          refine X_goto (tgt := 115) hB dX12_dataComes_199 (by decide) ?_
          have hyes : hearD x d z σz = shortenD (learnN σz z (z :: (T.take (T.length - 1)).reverse)) d z := by
            unfold hearD
            rw [if_pos ⟨hnear, hlis, by rw [i4]; exact hzT⟩, i4]
          rw [hyes] at hstep
          refine X_lv ?_ (ih (z + 1) _ (by omega) (hfr.tr ((f166.mono (by simp) (by simp)).tr ((f179.mono (by simp) (by simp)).tr ((f185.mono (by simp) (by simp)).tr (f193.mono (by simp) (by simp)))))) (by rw [hstep]; exact n193) (by rw [hstep]; exact hrI_short jI (by omega) (by omega) hR1 hsum))
          rw [nI_succ]; rfl
end REF
