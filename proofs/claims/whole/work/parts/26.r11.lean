def stepP (to : Nat) (w e : List Nat) : List Nat := if 0 < e.idxOf to ∧ e.idxOf to < e.length ∧ (w = [] ∨ e.idxOf to + 1 < w.length) then e.take (e.idxOf to + 1) else w
theorem wayP_cons (to : Nat) (w e : List Nat) (t : List (List Nat)) : wayP to w (e :: t) = wayP to (stepP to w e) t := rfl
theorem idxN {e : List Nat} {i to : Nat} (hi : i < e.length) (hn : e.Nodup) (h : e.getD i 0 = to) : e.idxOf to = i := by
  rw [getD_lt hi] at h
  subst h
  exact hn.idxOf_getElem i hi
theorem idx_no {e : List Nat} {to : Nat} (h : ∀ j, 1 ≤ j → j < e.length → e.getD j 0 ≠ to) : ¬ (0 < e.idxOf to ∧ e.idxOf to < e.length) := by
  intro hq
  refine h (e.idxOf to) hq.1 hq.2 ?_
  rw [getD_lt hq.2]
  exact List.getElem_idxOf hq.2
section REF
variable {G : Gc} {S : St} {h : Nat}
set_option maxRecDepth 100000 in
set_option maxHeartbeats 4000000 in
theorem l_fP0 (hR : RLay G h) (hF : RRef S h) {E : Ev} (hB : Bd G E mX12_findsByPaths) {Q : Option Value → St → Prop} (n to : Nat) (hn : n < 8) (hto : to < 8) (c : List (List Nat)) (hcl : ∀ e ∈ c, okE false e) (hlen : c.length ≤ 6) (hc : cacheR (S.1 (h + 1)) n false c) (p : Nat) (hp : p < c.length) (i : Nat) (hi : i < (c.getD p []).length) (hm : S.1 h 22 = nI (i + 1)) (kk : ∀ v, X G E mX12_findsByPaths 2 Q (rowI S (h + 8) (wrL (S.1 (h + 8)) 0 (c.getD p []) (i + 1))) 102 [some (.ref h), some (.int (nI n)), some (.int (nI to)), some (.int (nI p)), some (.int (nI i)), some (.int v)] []) :
    ∀ (k j : Nat), j + k = i + 1 → X G E mX12_findsByPaths 2 Q (rowI S (h + 8) (wrL (S.1 (h + 8)) 0 (c.getD p []) (j))) 72 [some (.ref h), some (.int (nI n)), some (.int (nI to)), some (.int (nI p)), some (.int (nI i)), some (.int (nI j))] [] := by
  have hpl := (hcl _ (getD_mem (d := []) hp)).1
  intro k
  induction k with
  | zero =>
    intro j h1
    refine X_iload hB dX12_findsByPaths_72 rfl ?_
    refine X_aload_n (i := 0) hB dX12_findsByPaths_74 rfl rfl ?_
    refine X_geti hB cw10 fX12_231 rfl hR.1.1 hR.1.2 dX12_findsByPaths_75 ?_
    refine X_topi (y := nI (i + 1)) (by rw [rowI_ne _ _ (by omega)]; exact hm) ?_
    refine X_icmp_ge (tgt := 102) hB dX12_findsByPaths_78 (by decide) (fun c78 => ?_) (fun c78 => absurd c78 (by simp (disch := omega) only [nlit, nI_leI, nI_ltI]; omega))
    have e9 : j = i + 1 := by omega
    subst e9
    exact kk _
  | succ k ih =>
    intro j h1
    refine X_iload hB dX12_findsByPaths_72 rfl ?_
    refine X_aload_n (i := 0) hB dX12_findsByPaths_74 rfl rfl ?_
    refine X_geti hB cw10 fX12_231 rfl hR.1.1 hR.1.2 dX12_findsByPaths_75 ?_
    refine X_topi (y := nI (i + 1)) (by rw [rowI_ne _ _ (by omega)]; exact hm) ?_
    refine X_icmp_ge (tgt := 102) hB dX12_findsByPaths_78 (by decide) (fun c78 => absurd c78 (by simp (disch := omega) only [nlit, nI_leI, nI_ltI]; omega)) (fun c78 => ?_)
    refine X_aload_n (i := 0) hB dX12_findsByPaths_81 rfl rfl ?_
    refine X_getr hB cw10 fX12_33 rfl hR.1.1 hR.1.2 hF.2.2.2.2.2.2.2.1 dX12_findsByPaths_82 ?_
    refine X_iload hB dX12_findsByPaths_85 rfl ?_
    refine X_aload_n (i := 0) hB dX12_findsByPaths_87 rfl rfl ?_
    refine X_iload_n (i := 1) hB dX12_findsByPaths_88 rfl rfl ?_
    refine X_iload_n (i := 3) hB dX12_findsByPaths_89 rfl rfl ?_
    refine X_iload hB dX12_findsByPaths_90 rfl ?_
    refine X_callV hB kX12_189 cw10 hR.1.1 hR.1.2 (c_pathAt hR (by exact hF.of rfl) hn (by omega) (i := j) (by omega)) (by decide) (by decide) rfl rfl (Nat.le_of_ble_eq_true rfl) dX12_findsByPaths_92 (fun r92 S92 q92 => ?_)
    obtain ⟨rfl, rfl⟩ := q92
    refine X_topi (y := nI ((c.getD p []).getD j 0)) (by rw [rowI_ne _ _ (by omega)]; exact (hc.path hp).2 _ (by omega)) ?_
    refine X_iastN hB (j) hR.2.2.2.2.2.2.2.2.1.1 hR.2.2.2.2.2.2.2.2.1.2 (by decide) (by first | rfl | (simp (disch := omega) only [nlit, nI_add, nI_mul, nI_sub]; done) | (simp (disch := omega) only [nlit, nI_add, nI_mul, nI_sub]; (congr 1 <;> omega))) (by first | omega | (simp only []; omega)) dX12_findsByPaths_95 ?_
    refine X_iinc hB dX12_findsByPaths_96 rfl rfl (by decide) rfl ?_
    refine X_goto (tgt := 72) hB dX12_findsByPaths_99 (by decide) ?_
    refine X_S (S' := (rowI S (h + 8) (wrL (S.1 (h + 8)) 0 (c.getD p []) (j + 1)))) ?_ (X_lv ?_ (ih (j + 1) (by omega)))
    · rw [setI_rowI (rowI S (h + 8) (wrL (S.1 (h + 8)) 0 (c.getD p []) (j))), rowI_rowI, rowI_at]
      congr 1
      have := wrL_step (A := S.1 (h + 8)) (base := 0) (L := c.getD p []) (i := j)
      rw [Nat.zero_add] at this
      exact this
    · rw [nI_succ]; rfl
set_option maxRecDepth 100000 in
set_option maxHeartbeats 4000000 in
theorem l_fPB (hR : RLay G h) (hF : RRef S h) {E : Ev} (hB : Bd G E mX12_findsByPaths) {Q : Option Value → St → Prop} (n to : Nat) (hn : n < 8) (hto : to < 8) (c : List (List Nat)) (hcl : ∀ e ∈ c, okE false e) (hlen : c.length ≤ 6) (hc : cacheR (S.1 (h + 1)) n false c) (p : Nat) (hp : p < c.length) (w : List Nat) (hw : wayR S h w) (hw0 : w ≠ []) (hw9 : w.length ≤ 9) (kk : ∀ v, X G E mX12_findsByPaths 2 Q S 108 [some (.ref h), some (.int (nI n)), some (.int (nI to)), some (.int (nI p)), some (.int v), none] []) :
    ∀ (k i : Nat), i + k = (c.getD p []).length → w.length ≤ i + 1 → X G E mX12_findsByPaths 2 Q S 20 [some (.ref h), some (.int (nI n)), some (.int (nI to)), some (.int (nI p)), some (.int (nI i)), none] [] := by
  have hpl := (hcl _ (getD_mem (d := []) hp)).1
  have hw1 : 0 < w.length := List.length_pos_iff.mpr hw0
  intro k
  induction k with
  | zero =>
    intro i h1 h2
    refine X_iload hB dX12_findsByPaths_20 rfl ?_
    refine X_aload_n (i := 0) hB dX12_findsByPaths_22 rfl rfl ?_
    refine X_iload_n (i := 1) hB dX12_findsByPaths_23 rfl rfl ?_
    refine X_iload_n (i := 3) hB dX12_findsByPaths_24 rfl rfl ?_
    refine X_callV hB kX12_183 cw10 hR.1.1 hR.1.2 (c_pathMany hR (by exact hF.of rfl) hn (by omega)) (by decide) (by decide) rfl rfl (Nat.le_of_ble_eq_true rfl) dX12_findsByPaths_25 (fun r25 S25 q25 => ?_)
    obtain ⟨rfl, rfl⟩ := q25
    refine X_topi (y := nI (c.getD p []).length) ((hc.path hp).1) ?_
    refine X_icmp_ge (tgt := 108) hB dX12_findsByPaths_28 (by decide) (fun c28 => ?_) (fun c28 => absurd c28 (by simp (disch := omega) only [nlit, nI_leI, nI_ltI]; omega))
    exact kk _
  | succ k ih =>
    intro i h1 h2
    refine X_iload hB dX12_findsByPaths_20 rfl ?_
    refine X_aload_n (i := 0) hB dX12_findsByPaths_22 rfl rfl ?_
    refine X_iload_n (i := 1) hB dX12_findsByPaths_23 rfl rfl ?_
    refine X_iload_n (i := 3) hB dX12_findsByPaths_24 rfl rfl ?_
    refine X_callV hB kX12_183 cw10 hR.1.1 hR.1.2 (c_pathMany hR (by exact hF.of rfl) hn (by omega)) (by decide) (by decide) rfl rfl (Nat.le_of_ble_eq_true rfl) dX12_findsByPaths_25 (fun r25 S25 q25 => ?_)
    obtain ⟨rfl, rfl⟩ := q25
    refine X_topi (y := nI (c.getD p []).length) ((hc.path hp).1) ?_
    refine X_icmp_ge (tgt := 108) hB dX12_findsByPaths_28 (by decide) (fun c28 => absurd c28 (by simp (disch := omega) only [nlit, nI_leI, nI_ltI]; omega)) (fun c28 => ?_)
    refine X_aload_n (i := 0) hB dX12_findsByPaths_31 rfl rfl ?_
    refine X_iload_n (i := 1) hB dX12_findsByPaths_32 rfl rfl ?_
    refine X_iload_n (i := 3) hB dX12_findsByPaths_33 rfl rfl ?_
    refine X_iload hB dX12_findsByPaths_34 rfl ?_
    refine X_callV hB kX12_189 cw10 hR.1.1 hR.1.2 (c_pathAt hR (by exact hF.of rfl) hn (by omega) (i := i) (by omega)) (by decide) (by decide) rfl rfl (Nat.le_of_ble_eq_true rfl) dX12_findsByPaths_36 (fun r36 S36 q36 => ?_)
    obtain ⟨rfl, rfl⟩ := q36
    refine X_topi (y := nI ((c.getD p []).getD i 0)) ((hc.path hp).2 _ (by omega)) ?_
    refine X_iload_n (i := 2) hB dX12_findsByPaths_39 rfl rfl ?_
    refine X_icmp_ne (tgt := 102) hB dX12_findsByPaths_40 (by decide) (fun c40 => ?_) (fun c40 => ?_)
    · refine X_iinc hB dX12_findsByPaths_102 rfl rfl (by decide) rfl ?_
      refine X_goto (tgt := 20) hB dX12_findsByPaths_105 (by decide) ?_
      refine X_lv ?_ (ih (i + 1) (by omega) (by omega))
      · rw [nI_succ]; rfl
    · refine X_aload_n (i := 0) hB dX12_findsByPaths_43 rfl rfl ?_
      refine X_geti hB cw10 fX12_231 rfl hR.1.1 hR.1.2 dX12_findsByPaths_44 ?_
      refine X_topi (y := nI w.length) (hw.1) ?_
      refine X_if_eq (tgt := 61) hB dX12_findsByPaths_47 (by decide) (fun c47 => absurd c47 (nI_ne0 (by omega) (by omega))) (fun c47 => ?_)
      refine X_iload hB dX12_findsByPaths_50 rfl ?_
      refine X_iconst (v := 1) hB dX12_findsByPaths_52 (by decide) ?_
      refine X_iadd hB dX12_findsByPaths_53 ?_
      refine X_topi (y := nI (i + 1)) (by first | rfl | (simp (disch := omega) only [nlit, nI_add, nI_mul, nI_sub]; done) | (simp (disch := omega) only [nlit, nI_add, nI_mul, nI_sub]; (congr 1 <;> omega))) ?_
      refine X_aload_n (i := 0) hB dX12_findsByPaths_54 rfl rfl ?_
      refine X_geti hB cw10 fX12_231 rfl hR.1.1 hR.1.2 dX12_findsByPaths_55 ?_
      refine X_topi (y := nI w.length) (hw.1) ?_
      refine X_icmp_ge (tgt := 102) hB dX12_findsByPaths_58 (by decide) (fun c58 => ?_) (fun c58 => absurd c58 (by simp (disch := omega) only [nlit, nI_leI, nI_ltI]; omega))
      refine X_iinc hB dX12_findsByPaths_102 rfl rfl (by decide) rfl ?_
      refine X_goto (tgt := 20) hB dX12_findsByPaths_105 (by decide) ?_
      refine X_lv ?_ (ih (i + 1) (by omega) (by omega))
      · rw [nI_succ]; rfl
set_option maxRecDepth 100000 in
set_option maxHeartbeats 4000000 in
theorem l_fPA (hR : RLay G h) (hF : RRef S h) {E : Ev} (hB : Bd G E mX12_findsByPaths) {Q : Option Value → St → Prop} (n to : Nat) (hn : n < 8) (hto : to < 8) (c : List (List Nat)) (hcl : ∀ e ∈ c, okE false e) (hlen : c.length ≤ 6) (hc : cacheR (S.1 (h + 1)) n false c) (p : Nat) (hp : p < c.length) (w : List Nat) (hw : wayR S h w) (hw9 : w.length ≤ 8) (kk : ∀ S2 v, fr h [h + 8] [22] S S2 → wayR S2 h (stepP to w (c.getD p [])) → X G E mX12_findsByPaths 2 Q S2 108 [some (.ref h), some (.int (nI n)), some (.int (nI to)), some (.int (nI p)), some (.int v), none] []) :
    ∀ (k i : Nat), i + k = (c.getD p []).length → 1 ≤ i → (∀ j, 1 ≤ j → j < i → (c.getD p []).getD j 0 ≠ to) → X G E mX12_findsByPaths 2 Q S 20 [some (.ref h), some (.int (nI n)), some (.int (nI to)), some (.int (nI p)), some (.int (nI i)), none] [] := by
  have hpo := hcl _ (getD_mem (d := []) hp)
  have hpl := hpo.1
  intro k
  induction k with
  | zero =>
    intro i h1 h2 h3
    refine X_iload hB dX12_findsByPaths_20 rfl ?_
    refine X_aload_n (i := 0) hB dX12_findsByPaths_22 rfl rfl ?_
    refine X_iload_n (i := 1) hB dX12_findsByPaths_23 rfl rfl ?_
    refine X_iload_n (i := 3) hB dX12_findsByPaths_24 rfl rfl ?_
    refine X_callV hB kX12_183 cw10 hR.1.1 hR.1.2 (c_pathMany hR (by exact hF.of rfl) hn (by omega)) (by decide) (by decide) rfl rfl (Nat.le_of_ble_eq_true rfl) dX12_findsByPaths_25 (fun r25 S25 q25 => ?_)
    obtain ⟨rfl, rfl⟩ := q25
    refine X_topi (y := nI (c.getD p []).length) ((hc.path hp).1) ?_
    refine X_icmp_ge (tgt := 108) hB dX12_findsByPaths_28 (by decide) (fun c28 => ?_) (fun c28 => absurd c28 (by simp (disch := omega) only [nlit, nI_leI, nI_ltI]; omega))
    refine kk S _ fr.rf ?_
    unfold stepP
    rw [if_neg (fun q9 => idx_no (fun j g1 g2 => h3 j g1 (by omega)) ⟨q9.1, q9.2.1⟩)]
    exact hw
  | succ k ih =>
    intro i h1 h2 h3
    have b1 : (c.getD p []).getD i 0 < 8 := hpo.2.2.1 _ (getD_mem (by omega))
    refine X_iload hB dX12_findsByPaths_20 rfl ?_
    refine X_aload_n (i := 0) hB dX12_findsByPaths_22 rfl rfl ?_
    refine X_iload_n (i := 1) hB dX12_findsByPaths_23 rfl rfl ?_
    refine X_iload_n (i := 3) hB dX12_findsByPaths_24 rfl rfl ?_
    refine X_callV hB kX12_183 cw10 hR.1.1 hR.1.2 (c_pathMany hR (by exact hF.of rfl) hn (by omega)) (by decide) (by decide) rfl rfl (Nat.le_of_ble_eq_true rfl) dX12_findsByPaths_25 (fun r25 S25 q25 => ?_)
    obtain ⟨rfl, rfl⟩ := q25
    refine X_topi (y := nI (c.getD p []).length) ((hc.path hp).1) ?_
    refine X_icmp_ge (tgt := 108) hB dX12_findsByPaths_28 (by decide) (fun c28 => absurd c28 (by simp (disch := omega) only [nlit, nI_leI, nI_ltI]; omega)) (fun c28 => ?_)
    refine X_aload_n (i := 0) hB dX12_findsByPaths_31 rfl rfl ?_
    refine X_iload_n (i := 1) hB dX12_findsByPaths_32 rfl rfl ?_
    refine X_iload_n (i := 3) hB dX12_findsByPaths_33 rfl rfl ?_
    refine X_iload hB dX12_findsByPaths_34 rfl ?_
    refine X_callV hB kX12_189 cw10 hR.1.1 hR.1.2 (c_pathAt hR (by exact hF.of rfl) hn (by omega) (i := i) (by omega)) (by decide) (by decide) rfl rfl (Nat.le_of_ble_eq_true rfl) dX12_findsByPaths_36 (fun r36 S36 q36 => ?_)
    obtain ⟨rfl, rfl⟩ := q36
    refine X_topi (y := nI ((c.getD p []).getD i 0)) ((hc.path hp).2 _ (by omega)) ?_
    refine X_iload_n (i := 2) hB dX12_findsByPaths_39 rfl rfl ?_
    refine X_icmp_ne (tgt := 102) hB dX12_findsByPaths_40 (by decide) (fun c40 => ?_) (fun c40 => ?_)
    · refine X_iinc hB dX12_findsByPaths_102 rfl rfl (by decide) rfl ?_
      refine X_goto (tgt := 20) hB dX12_findsByPaths_105 (by decide) ?_
      by_cases hei : (c.getD p []).getD i 0 = to
      · have hix := idxN (by omega) hpo.2.2.2.1 hei
        have hw0 : ¬ w = [] := fun e9 => by
          first
          | exact c47 (by rw [e9]; rfl)
          | exact c40 (by rw [hei])
        have hge : w.length ≤ i + 1 := by
          first
          | ((have c9 := c58); simp (disch := omega) only [nlit, nI_leI, nI_ltI] at c9; omega)
          | exact absurd (by rw [hei]) c40
        have hst : stepP to w (c.getD p []) = w := by
          unfold stepP
          rw [hix, if_neg (fun q9 => q9.2.2.elim hw0 (fun q8 => by omega))]
        refine X_lv ?_ (l_fPB hR hF hB n to hn hto c hcl hlen hc p hp w hw hw0 (by omega) (fun v9 => kk S _ fr.rf (by rw [hst]; exact hw)) k (i + 1) (by omega) (by omega))
        rw [nI_succ]; rfl
      · refine X_lv ?_ (ih (i + 1) (by omega) (by omega) (fun j g1 g2 => ?_))
        · rw [nI_succ]; rfl
        · rcases Nat.lt_succ_iff_lt_or_eq.mp g2 with g2 | g2
          · exact h3 j g1 g2
          · rw [g2]; exact hei
    · refine X_aload_n (i := 0) hB dX12_findsByPaths_43 rfl rfl ?_
      refine X_geti hB cw10 fX12_231 rfl hR.1.1 hR.1.2 dX12_findsByPaths_44 ?_
      refine X_topi (y := nI w.length) (hw.1) ?_
      refine X_if_eq (tgt := 61) hB dX12_findsByPaths_47 (by decide) (fun c47 => ?_) (fun c47 => ?_)
      · have hei : (c.getD p []).getD i 0 = to := i32_inj (by omega) (by omega) (by first | exact c40 | exact Decidable.not_not.mp c40)
        have hix := idxN (by omega) hpo.2.2.2.1 hei
        have hcond : w = [] ∨ i + 1 < w.length := by
          first
          | (left
             have : w.length = 0 := i32_inj (b := 0) (by omega) (by omega) (by rw [nI_0]; exact c47)
             exact List.length_eq_zero_iff.mp this)
          | (right
             (have c9 := c58); simp (disch := omega) only [nlit, nI_leI, nI_ltI] at c9; omega)
        refine X_aload_n (i := 0) hB dX12_findsByPaths_61 rfl rfl ?_
        refine X_iload hB dX12_findsByPaths_62 rfl ?_
        refine X_iconst (v := 1) hB dX12_findsByPaths_64 (by decide) ?_
        refine X_iadd hB dX12_findsByPaths_65 ?_
        refine X_topi (y := nI (i + 1)) (by first | rfl | (simp (disch := omega) only [nlit, nI_add, nI_mul, nI_sub]; done) | (simp (disch := omega) only [nlit, nI_add, nI_mul, nI_sub]; (congr 1 <;> omega))) ?_
        refine X_puti hB cw10 fX12_231 rfl rfl hR.1.1 hR.1.2 dX12_findsByPaths_66 ?_
        refine X_iconst (v := 0) hB dX12_findsByPaths_69 (by decide) ?_
        refine X_istore hB dX12_findsByPaths_70 (by decide) rfl ?_
        refine X_S (S' := rowI (setI S h 22 (nI (i + 1))) (h + 8) (wrL ((setI S h 22 (nI (i + 1))).1 (h + 8)) 0 (c.getD p []) 0)) (by rw [wrL_0, rowI_self]) (X_lv ?_ (l_fP0 (S := setI S h 22 (nI (i + 1))) hR (by exact hF.of rfl) hB n to hn hto c hcl hlen (by rw [setI_row _ _ _ (by omega)]; exact hc) p hp i (by omega) (by rw [setI_at]) (fun v9 => ?_) (i + 1) 0 (by omega)))
        · rw [nI_0]; rfl
        have hfr : fr h [h + 8] [22] S (rowI (setI S h 22 (nI (i + 1))) (h + 8) (wrL ((setI S h 22 (nI (i + 1))).1 (h + 8)) 0 (c.getD p []) (i + 1))) := (fr.fld (by simp)).tr (fr.row (by simp) (by omega))
        have hst : stepP to w (c.getD p []) = (c.getD p []).take (i + 1) := by
          unfold stepP
          rw [hix, if_pos ⟨by omega, by omega, hcond⟩]
        have hw2 : wayR (rowI (setI S h 22 (nI (i + 1))) (h + 8) (wrL ((setI S h 22 (nI (i + 1))).1 (h + 8)) 0 (c.getD p []) (i + 1))) h ((c.getD p []).take (i + 1)) := by
          have hl9 : ((c.getD p []).take (i + 1)).length = i + 1 := by rw [List.length_take]; omega
          refine ⟨by rw [rowI_ne _ _ (by omega), setI_at, hl9], fun j hj => ?_⟩
          rw [hl9] at hj
          rw [rowI_at, wrL_in (by omega)]
          congr 1
          rw [Nat.sub_zero]
          simp only [List.getD_eq_getElem?_getD, List.getElem?_take_of_lt hj]
        refine X_iinc hB dX12_findsByPaths_102 rfl rfl (by decide) rfl ?_
        refine X_goto (tgt := 20) hB dX12_findsByPaths_105 (by decide) ?_
        refine X_dl [some (.ref h), some (.int (nI n)), some (.int (nI to)), some (.int (nI p)), some (.int (nI (i + 1))), none] (by simp [lle, lset, nI_succ]) (l_fPB hR (hfr.ref hF) hB n to hn hto c hcl hlen (by rw [hfr.2.1 _ (by simp) (by omega)]; exact hc) p hp _ hw2 (fun e9 => by have := congrArg List.length e9; rw [List.length_take, List.length_nil] at this; omega) (by rw [List.length_take]; omega) (fun v9 => kk _ _ hfr (by rw [hst]; exact hw2)) k (i + 1) (by omega) (by rw [List.length_take]; omega))
      · refine X_iload hB dX12_findsByPaths_50 rfl ?_
        refine X_iconst (v := 1) hB dX12_findsByPaths_52 (by decide) ?_
        refine X_iadd hB dX12_findsByPaths_53 ?_
        refine X_topi (y := nI (i + 1)) (by first | rfl | (simp (disch := omega) only [nlit, nI_add, nI_mul, nI_sub]; done) | (simp (disch := omega) only [nlit, nI_add, nI_mul, nI_sub]; (congr 1 <;> omega))) ?_
        refine X_aload_n (i := 0) hB dX12_findsByPaths_54 rfl rfl ?_
        refine X_geti hB cw10 fX12_231 rfl hR.1.1 hR.1.2 dX12_findsByPaths_55 ?_
        refine X_topi (y := nI w.length) (hw.1) ?_
        refine X_icmp_ge (tgt := 102) hB dX12_findsByPaths_58 (by decide) (fun c58 => ?_) (fun c58 => ?_)
        · refine X_iinc hB dX12_findsByPaths_102 rfl rfl (by decide) rfl ?_
          refine X_goto (tgt := 20) hB dX12_findsByPaths_105 (by decide) ?_
          by_cases hei : (c.getD p []).getD i 0 = to
          · have hix := idxN (by omega) hpo.2.2.2.1 hei
            have hw0 : ¬ w = [] := fun e9 => by
              first
              | exact c47 (by rw [e9]; rfl)
              | exact c40 (by rw [hei])
            have hge : w.length ≤ i + 1 := by
              first
              | ((have c9 := c58); simp (disch := omega) only [nlit, nI_leI, nI_ltI] at c9; omega)
              | exact absurd (by rw [hei]) c40
            have hst : stepP to w (c.getD p []) = w := by
              unfold stepP
              rw [hix, if_neg (fun q9 => q9.2.2.elim hw0 (fun q8 => by omega))]
            refine X_lv ?_ (l_fPB hR hF hB n to hn hto c hcl hlen hc p hp w hw hw0 (by omega) (fun v9 => kk S _ fr.rf (by rw [hst]; exact hw)) k (i + 1) (by omega) (by omega))
            rw [nI_succ]; rfl
          · refine X_lv ?_ (ih (i + 1) (by omega) (by omega) (fun j g1 g2 => ?_))
            · rw [nI_succ]; rfl
            · rcases Nat.lt_succ_iff_lt_or_eq.mp g2 with g2 | g2
              · exact h3 j g1 g2
              · rw [g2]; exact hei
        · have hei : (c.getD p []).getD i 0 = to := i32_inj (by omega) (by omega) (by first | exact c40 | exact Decidable.not_not.mp c40)
          have hix := idxN (by omega) hpo.2.2.2.1 hei
          have hcond : w = [] ∨ i + 1 < w.length := by
            first
            | (left
               have : w.length = 0 := i32_inj (b := 0) (by omega) (by omega) (by rw [nI_0]; exact c47)
               exact List.length_eq_zero_iff.mp this)
            | (right
               (have c9 := c58); simp (disch := omega) only [nlit, nI_leI, nI_ltI] at c9; omega)
          refine X_aload_n (i := 0) hB dX12_findsByPaths_61 rfl rfl ?_
          refine X_iload hB dX12_findsByPaths_62 rfl ?_
          refine X_iconst (v := 1) hB dX12_findsByPaths_64 (by decide) ?_
          refine X_iadd hB dX12_findsByPaths_65 ?_
          refine X_topi (y := nI (i + 1)) (by first | rfl | (simp (disch := omega) only [nlit, nI_add, nI_mul, nI_sub]; done) | (simp (disch := omega) only [nlit, nI_add, nI_mul, nI_sub]; (congr 1 <;> omega))) ?_
          refine X_puti hB cw10 fX12_231 rfl rfl hR.1.1 hR.1.2 dX12_findsByPaths_66 ?_
          refine X_iconst (v := 0) hB dX12_findsByPaths_69 (by decide) ?_
          refine X_istore hB dX12_findsByPaths_70 (by decide) rfl ?_
          refine X_S (S' := rowI (setI S h 22 (nI (i + 1))) (h + 8) (wrL ((setI S h 22 (nI (i + 1))).1 (h + 8)) 0 (c.getD p []) 0)) (by rw [wrL_0, rowI_self]) (X_lv ?_ (l_fP0 (S := setI S h 22 (nI (i + 1))) hR (by exact hF.of rfl) hB n to hn hto c hcl hlen (by rw [setI_row _ _ _ (by omega)]; exact hc) p hp i (by omega) (by rw [setI_at]) (fun v9 => ?_) (i + 1) 0 (by omega)))
          · rw [nI_0]; rfl
          have hfr : fr h [h + 8] [22] S (rowI (setI S h 22 (nI (i + 1))) (h + 8) (wrL ((setI S h 22 (nI (i + 1))).1 (h + 8)) 0 (c.getD p []) (i + 1))) := (fr.fld (by simp)).tr (fr.row (by simp) (by omega))
          have hst : stepP to w (c.getD p []) = (c.getD p []).take (i + 1) := by
            unfold stepP
            rw [hix, if_pos ⟨by omega, by omega, hcond⟩]
          have hw2 : wayR (rowI (setI S h 22 (nI (i + 1))) (h + 8) (wrL ((setI S h 22 (nI (i + 1))).1 (h + 8)) 0 (c.getD p []) (i + 1))) h ((c.getD p []).take (i + 1)) := by
            have hl9 : ((c.getD p []).take (i + 1)).length = i + 1 := by rw [List.length_take]; omega
            refine ⟨by rw [rowI_ne _ _ (by omega), setI_at, hl9], fun j hj => ?_⟩
            rw [hl9] at hj
            rw [rowI_at, wrL_in (by omega)]
            congr 1
            rw [Nat.sub_zero]
            simp only [List.getD_eq_getElem?_getD, List.getElem?_take_of_lt hj]
          refine X_iinc hB dX12_findsByPaths_102 rfl rfl (by decide) rfl ?_
          refine X_goto (tgt := 20) hB dX12_findsByPaths_105 (by decide) ?_
          refine X_dl [some (.ref h), some (.int (nI n)), some (.int (nI to)), some (.int (nI p)), some (.int (nI (i + 1))), none] (by simp [lle, lset, nI_succ]) (l_fPB hR (hfr.ref hF) hB n to hn hto c hcl hlen (by rw [hfr.2.1 _ (by simp) (by omega)]; exact hc) p hp _ hw2 (fun e9 => by have := congrArg List.length e9; rw [List.length_take, List.length_nil] at this; omega) (by rw [List.length_take]; omega) (fun v9 => kk _ _ hfr (by rw [hst]; exact hw2)) k (i + 1) (by omega) (by rw [List.length_take]; omega))
theorem stepP_len {to : Nat} {w e : List Nat} (h1 : w.length ≤ 8) (h2 : e.length ≤ 8) : (stepP to w e).length ≤ 8 := by
  unfold stepP
  split
  · rw [List.length_take]; omega
  · exact h1
set_option maxRecDepth 100000 in
set_option maxHeartbeats 4000000 in
theorem l_fP2 (hR : RLay G h) (hF : RRef S h) {E : Ev} (hB : Bd G E mX12_findsByPaths) {Q : Option Value → St → Prop} (n to : Nat) (hn : n < 8) (hto : to < 8) (c : List (List Nat)) (hcl : ∀ e ∈ c, okE false e) (hlen : c.length ≤ 6) (hc : cacheR (S.1 (h + 1)) n false c) (kk : ∀ S2, fr h [h + 8] [22] S S2 → wayR S2 h (wayP to [] c) → Q none S2) :
    ∀ (k p : Nat) (w : List Nat) (S1 : St), p + k = c.length → fr h [h + 8] [22] S S1 → wayR S1 h w → w.length ≤ 8 → wayP to w (c.drop p) = wayP to [] c → X G E mX12_findsByPaths 2 Q S1 7 [some (.ref h), some (.int (nI n)), some (.int (nI to)), some (.int (nI p)), none, none] [] := by
  intro k
  induction k with
  | zero =>
    intro p w S1 h1 hfr hw hw8 hfin
    have hA : S1.1 (h + 1) = S.1 (h + 1) := hfr.2.1 _ (by simp) (by omega)
    refine X_iload_n (i := 3) hB dX12_findsByPaths_7 rfl rfl ?_
    refine X_aload_n (i := 0) hB dX12_findsByPaths_8 rfl rfl ?_
    refine X_iload_n (i := 1) hB dX12_findsByPaths_9 rfl rfl ?_
    refine X_iconst (v := 2) hB dX12_findsByPaths_10 (by decide) ?_
    refine X_callV hB kX12_180 cw10 hR.1.1 hR.1.2 (c_ofE (w := 2) hR (hfr.ref hF) rfl (by first | rfl | (simp (disch := omega) only [nlit, nI_add, nI_mul, nI_sub]; done) | (simp (disch := omega) only [nlit, nI_add, nI_mul, nI_sub]; (congr 1 <;> omega))) (by omega) (by omega)) (by decide) (by decide) rfl rfl (Nat.le_of_ble_eq_true rfl) dX12_findsByPaths_11 (fun r11 S11 q11 => ?_)
    obtain ⟨rfl, rfl⟩ := q11
    refine X_topi (y := nI c.length) (by rw [hA]; exact hc.1) ?_
    refine X_icmp_ge (tgt := 114) hB dX12_findsByPaths_14 (by decide) (fun c14 => ?_) (fun c14 => absurd c14 (by simp (disch := omega) only [nlit, nI_leI, nI_ltI]; omega))
    refine X_vret hB rfl dX12_findsByPaths_114 ?_
    rw [List.drop_of_length_le (by omega)] at hfin
    exact kk S1 hfr (by rw [← hfin]; exact hw)
  | succ k ih =>
    intro p w S1 h1 hfr hw hw8 hfin
    have hA : S1.1 (h + 1) = S.1 (h + 1) := hfr.2.1 _ (by simp) (by omega)
    have hp : p < c.length := by omega
    have hpo := hcl _ (getD_mem (d := []) hp)
    have hp2 := hpo.2.1
    rw [List.drop_eq_getElem_cons hp, ← getD_lt (d := []) hp, wayP_cons] at hfin
    refine X_iload_n (i := 3) hB dX12_findsByPaths_7 rfl rfl ?_
    refine X_aload_n (i := 0) hB dX12_findsByPaths_8 rfl rfl ?_
    refine X_iload_n (i := 1) hB dX12_findsByPaths_9 rfl rfl ?_
    refine X_iconst (v := 2) hB dX12_findsByPaths_10 (by decide) ?_
    refine X_callV hB kX12_180 cw10 hR.1.1 hR.1.2 (c_ofE (w := 2) hR (hfr.ref hF) rfl (by first | rfl | (simp (disch := omega) only [nlit, nI_add, nI_mul, nI_sub]; done) | (simp (disch := omega) only [nlit, nI_add, nI_mul, nI_sub]; (congr 1 <;> omega))) (by omega) (by omega)) (by decide) (by decide) rfl rfl (Nat.le_of_ble_eq_true rfl) dX12_findsByPaths_11 (fun r11 S11 q11 => ?_)
    obtain ⟨rfl, rfl⟩ := q11
    refine X_topi (y := nI c.length) (by rw [hA]; exact hc.1) ?_
    refine X_icmp_ge (tgt := 114) hB dX12_findsByPaths_14 (by decide) (fun c14 => absurd c14 (by simp (disch := omega) only [nlit, nI_leI, nI_ltI]; omega)) (fun c14 => ?_)
    refine X_iconst (v := 1) hB dX12_findsByPaths_17 (by decide) ?_
    refine X_istore hB dX12_findsByPaths_18 (by decide) rfl ?_
    refine l_fPA hR (hfr.ref hF) hB n to hn hto c hcl hlen (by rw [hA]; exact hc) p hp w hw hw8 (fun S9 v9 g1 g2 => ?_) ((c.getD p []).length - 1) 1 (by omega) (by omega) (fun j g1 g2 => by omega)
    refine X_iinc hB dX12_findsByPaths_108 rfl rfl (by decide) rfl ?_
    refine X_goto (tgt := 7) hB dX12_findsByPaths_111 (by decide) ?_
    exact X_dl [some (.ref h), some (.int (nI n)), some (.int (nI to)), some (.int (nI (p + 1))), none, none] (by simp [lle, lset, nI_succ]) (ih (p + 1) _ S9 (by omega) (hfr.tr g1) g2 (stepP_len hw8 hpo.1) hfin)
set_option maxRecDepth 100000 in
set_option maxHeartbeats 4000000 in
theorem c_findsByPaths (hR : RLay G h) (hF : RRef S h) (n to : Nat) (hn : n < 8) (hto : to < 8) (c : List (List Nat)) (hcl : ∀ e ∈ c, okE false e) (hlen : c.length ≤ 6) (hc : cacheR (S.1 (h + 1)) n false c) : C G mX12_findsByPaths 2 [.ref h, .int (nI n), .int (nI to)] S (fun r S' => r = none ∧ fr h [h + 8] [22] S S' ∧ wayR S' h (wayP to [] c)) := by
  refine C.mk (lv := [some (.ref h), some (.int (nI n)), some (.int (nI to)), none, none, none]) (by decide) (Nat.le_of_ble_eq_true rfl) rfl (fun E hB => ?_)
  refine X_aload_n (i := 0) hB dX12_findsByPaths_0 rfl rfl ?_
  refine X_iconst (v := 0) hB dX12_findsByPaths_1 (by decide) ?_
  refine X_puti hB cw10 fX12_231 rfl rfl hR.1.1 hR.1.2 dX12_findsByPaths_2 ?_
  refine X_iconst (v := 0) hB dX12_findsByPaths_5 (by decide) ?_
  refine X_istore_n (i := 3) hB dX12_findsByPaths_6 rfl (by decide) rfl ?_
  refine X_lv ?_ (l_fP2 (S := setI S h 22 0) hR (by exact hF.of rfl) hB n to hn hto c hcl hlen (by rw [setI_row _ _ _ (by omega)]; exact hc) (fun S9 g1 g2 => ⟨rfl, (fr.fld (by simp)).tr g1, g2⟩) c.length 0 [] _ (by omega) fr.rf ⟨by rw [setI_at]; rfl, fun i hi => by simp at hi⟩ (by simp) rfl)
  rw [nI_0]; rfl
theorem wayP_len {to : Nat} : ∀ (c : List (List Nat)) (w : List Nat), w.length ≤ 8 → (∀ e ∈ c, e.length ≤ 8) → (wayP to w c).length ≤ 8
  | [], w, h, _ => h
  | e :: t, w, h, hc => wayP_len t _ (stepP_len h (hc e List.mem_cons_self)) (fun x hx => hc x (List.mem_cons_of_mem _ hx))
theorem wayOf_len {mp : Bool} {room hops n to : Nat} {c : List (List Nat)} (hok : okC mp room c) (hh : hops ≤ 7) : (wayOf mp hops c n to).length ≤ 8 := by
  unfold wayOf
  split
  · simp
  · split
    · unfold wayM
      split
      · rw [List.length_cons, wlk_len]; omega
      · simp
    · exact wayP_len c [] (by simp) hok.len
set_option maxRecDepth 100000 in
set_option maxHeartbeats 4000000 in
theorem c_finds (hR : RLay G h) (hF : RRef S h) (n to : Nat) (hn : n < 8) (hto : to < 8) (mp : Bool) (room hops : Nat) (hh : hops ≤ 7) (c : List (List Nat)) (hok : okC mp room c) (hc : cacheR (S.1 (h + 1)) n mp c) (hmp : S.1 (h + 1) (89 + 86 * n + 0) = if mp then 1 else 0) (hho : S.1 (h + 1) 1 = nI hops) : C G mX12_finds 4 [.ref h, .int (nI n), .int (nI to)] S (fun r S' => r = some (.int (if wayOf mp hops c n to = [] then 0 else 1)) ∧ fr h [h + 8, h + 9, h + 10] [22] S S' ∧ wayR S' h (wayOf mp hops c n to)) := by
  have hw8 := wayOf_len (n := n) (to := to) hok hh
  refine C.mk (lv := [some (.ref h), some (.int (nI n)), some (.int (nI to))]) (by decide) (Nat.le_of_ble_eq_true rfl) rfl (fun E hB => ?_)
  refine X_aload_n (i := 0) hB dX12_finds_0 rfl rfl ?_
  refine X_iconst (v := 0) hB dX12_finds_1 (by decide) ?_
  refine X_puti hB cw10 fX12_231 rfl rfl hR.1.1 hR.1.2 dX12_finds_2 ?_
  refine X_iload_n (i := 1) hB dX12_finds_5 rfl rfl ?_
  refine X_iload_n (i := 2) hB dX12_finds_6 rfl rfl ?_
  refine X_icmp_eq (tgt := 35) hB dX12_finds_7 (by decide) (fun c7 => ?_) (fun c7 => ?_)
  · have heq : n = to := i32_inj (by omega) (by omega) c7
    have hwo : wayOf mp hops c n to = [] := by unfold wayOf; rw [if_pos heq]
    have hw : wayR (setI S h 22 0) h (wayOf mp hops c n to) := by rw [hwo]; exact ⟨by rw [setI_at]; rfl, fun i hi => by simp at hi⟩
    have hfr : fr h [h + 8, h + 9, h + 10] [22] S (setI S h 22 0) := fr.fld (by simp)
    refine X_aload_n (i := 0) hB dX12_finds_35 rfl rfl ?_
    refine X_geti hB cw10 fX12_231 rfl hR.1.1 hR.1.2 dX12_finds_36 ?_
    refine X_topi (y := nI (wayOf mp hops c n to).length) (hw.1) ?_
    refine X_if_le (tgt := 46) hB dX12_finds_39 (by decide) (fun c39 => ?_) (fun c39 => ?_)
    · refine X_iconst (v := 0) hB dX12_finds_46 (by decide) ?_
      refine X_zret hB rfl (by first | exact Or.inl rfl | exact Or.inr rfl) dX12_finds_47 ?_
      have hlz : (wayOf mp hops c n to).length = 0 ↔ wayOf mp hops c n to = [] := List.length_eq_zero_iff
      refine ⟨?_, hfr, hw⟩
      first
      | (rw [if_pos (hlz.mp (by (have c9 := c39); simp (disch := omega) only [show (0 : Int32) = nI 0 from nI_0.symm, nI_leI, nI_ltI] at c9; omega))])
      | (rw [if_neg (fun e9 => absurd (hlz.mpr e9) (by (have c9 := c39); simp (disch := omega) only [show (0 : Int32) = nI 0 from nI_0.symm, nI_leI, nI_ltI] at c9; omega))])
    · refine X_iconst (v := 1) hB dX12_finds_42 (by decide) ?_
      refine X_goto (tgt := 47) hB dX12_finds_43 (by decide) ?_
      refine X_zret hB rfl (by first | exact Or.inl rfl | exact Or.inr rfl) dX12_finds_47 ?_
      have hlz : (wayOf mp hops c n to).length = 0 ↔ wayOf mp hops c n to = [] := List.length_eq_zero_iff
      refine ⟨?_, hfr, hw⟩
      first
      | (rw [if_pos (hlz.mp (by (have c9 := c39); simp (disch := omega) only [show (0 : Int32) = nI 0 from nI_0.symm, nI_leI, nI_ltI] at c9; omega))])
      | (rw [if_neg (fun e9 => absurd (hlz.mpr e9) (by (have c9 := c39); simp (disch := omega) only [show (0 : Int32) = nI 0 from nI_0.symm, nI_leI, nI_ltI] at c9; omega))])
  · have hne : n ≠ to := fun e9 => c7 (by rw [e9])
    have hwo : wayOf mp hops c n to = if mp then wayM (kn c) to hops n else wayP to [] c := by unfold wayOf; rw [if_neg hne]
    have hA : (setI S h 22 0).1 (h + 1) = S.1 (h + 1) := setI_row _ _ _ (by omega)
    refine X_aload_n (i := 0) hB dX12_finds_10 rfl rfl ?_
    refine X_iload_n (i := 1) hB dX12_finds_11 rfl rfl ?_
    refine X_iconst (v := 0) hB dX12_finds_12 (by decide) ?_
    refine X_callV hB kX12_180 cw10 hR.1.1 hR.1.2 (c_ofE (w := 0) hR (by exact hF.of rfl) rfl (by first | rfl | (simp (disch := omega) only [nlit, nI_add, nI_mul, nI_sub]; done) | (simp (disch := omega) only [nlit, nI_add, nI_mul, nI_sub]; (congr 1 <;> omega))) (by omega) (by omega)) (by decide) (by decide) rfl rfl (Nat.le_of_ble_eq_true rfl) dX12_finds_13 (fun r13 S13 q13 => ?_)
    obtain ⟨rfl, rfl⟩ := q13
    refine X_topi (y := if mp then 1 else 0) (by rw [hA]; exact hmp) ?_
    refine X_iconst (v := 1) hB dX12_finds_16 (by decide) ?_
    refine X_icmp_ne (tgt := 29) hB dX12_finds_17 (by decide) (fun c17 => ?_) (fun c17 => ?_)
    · cases mp with
      | true => exact absurd rfl c17
      | false =>
        refine X_aload_n (i := 0) hB dX12_finds_29 rfl rfl ?_
        refine X_iload_n (i := 1) hB dX12_finds_30 rfl rfl ?_
        refine X_iload_n (i := 2) hB dX12_finds_31 rfl rfl ?_
        refine X_callV hB kX12_237 cw10 hR.1.1 hR.1.2 (c_findsByPaths hR (by exact hF.of rfl) n to hn hto c hok.1 (by have := hok.2.1; have := hok.2.2.2.1; simp at *; omega) (by rw [hA]; exact hc)) (by decide) (by decide) rfl rfl (Nat.le_of_ble_eq_true rfl) dX12_finds_32 (fun r32 S32 q32 => ?_)
        obtain ⟨rfl, g1, g2⟩ := q32
        have hfr : fr h [h + 8, h + 9, h + 10] [22] S S32 := (fr.fld (by simp)).tr (g1.mono (by simp) (by simp))
        have hw : wayR S32 h (wayOf false hops c n to) := by rw [hwo]; exact g2
        refine X_aload_n (i := 0) hB dX12_finds_35 rfl rfl ?_
        refine X_geti hB cw10 fX12_231 rfl hR.1.1 hR.1.2 dX12_finds_36 ?_
        refine X_topi (y := nI (wayOf false hops c n to).length) (hw.1) ?_
        refine X_if_le (tgt := 46) hB dX12_finds_39 (by decide) (fun c39 => ?_) (fun c39 => ?_)
        · refine X_iconst (v := 0) hB dX12_finds_46 (by decide) ?_
          refine X_zret hB rfl (by first | exact Or.inl rfl | exact Or.inr rfl) dX12_finds_47 ?_
          have hlz : (wayOf false hops c n to).length = 0 ↔ wayOf false hops c n to = [] := List.length_eq_zero_iff
          refine ⟨?_, hfr, hw⟩
          first
          | (rw [if_pos (hlz.mp (by (have c9 := c39); simp (disch := omega) only [show (0 : Int32) = nI 0 from nI_0.symm, nI_leI, nI_ltI] at c9; omega))])
          | (rw [if_neg (fun e9 => absurd (hlz.mpr e9) (by (have c9 := c39); simp (disch := omega) only [show (0 : Int32) = nI 0 from nI_0.symm, nI_leI, nI_ltI] at c9; omega))])
        · refine X_iconst (v := 1) hB dX12_finds_42 (by decide) ?_
          refine X_goto (tgt := 47) hB dX12_finds_43 (by decide) ?_
          refine X_zret hB rfl (by first | exact Or.inl rfl | exact Or.inr rfl) dX12_finds_47 ?_
          have hlz : (wayOf false hops c n to).length = 0 ↔ wayOf false hops c n to = [] := List.length_eq_zero_iff
          refine ⟨?_, hfr, hw⟩
          first
          | (rw [if_pos (hlz.mp (by (have c9 := c39); simp (disch := omega) only [show (0 : Int32) = nI 0 from nI_0.symm, nI_leI, nI_ltI] at c9; omega))])
          | (rw [if_neg (fun e9 => absurd (hlz.mpr e9) (by (have c9 := c39); simp (disch := omega) only [show (0 : Int32) = nI 0 from nI_0.symm, nI_leI, nI_ltI] at c9; omega))])
    · cases mp with
      | false => exact absurd c17 (by decide)
      | true =>
        refine X_aload_n (i := 0) hB dX12_finds_20 rfl rfl ?_
        refine X_iload_n (i := 1) hB dX12_finds_21 rfl rfl ?_
        refine X_iload_n (i := 2) hB dX12_finds_22 rfl rfl ?_
        refine X_callV hB kX12_234 cw10 hR.1.1 hR.1.2 (c_findsByMap hR (by exact hF.of rfl) n to hn hto true room hops hh c hok (by rw [hA]; exact hc) (by rw [hA]; exact hmp) (by rw [hA]; exact hho)) (by decide) (by decide) rfl rfl (Nat.le_of_ble_eq_true rfl) dX12_finds_23 (fun r23 S23 q23 => ?_)
        obtain ⟨rfl, g1, g2⟩ := q23
        have hfr : fr h [h + 8, h + 9, h + 10] [22] S S23 := (fr.fld (by simp)).tr g1
        have hw : wayR S23 h (wayOf true hops c n to) := by rw [hwo]; exact g2
        refine X_goto (tgt := 35) hB dX12_finds_26 (by decide) ?_
        refine X_aload_n (i := 0) hB dX12_finds_35 rfl rfl ?_
        refine X_geti hB cw10 fX12_231 rfl hR.1.1 hR.1.2 dX12_finds_36 ?_
        refine X_topi (y := nI (wayOf true hops c n to).length) (hw.1) ?_
        refine X_if_le (tgt := 46) hB dX12_finds_39 (by decide) (fun c39 => ?_) (fun c39 => ?_)
        · refine X_iconst (v := 0) hB dX12_finds_46 (by decide) ?_
          refine X_zret hB rfl (by first | exact Or.inl rfl | exact Or.inr rfl) dX12_finds_47 ?_
          have hlz : (wayOf true hops c n to).length = 0 ↔ wayOf true hops c n to = [] := List.length_eq_zero_iff
          refine ⟨?_, hfr, hw⟩
          first
          | (rw [if_pos (hlz.mp (by (have c9 := c39); simp (disch := omega) only [show (0 : Int32) = nI 0 from nI_0.symm, nI_leI, nI_ltI] at c9; omega))])
          | (rw [if_neg (fun e9 => absurd (hlz.mpr e9) (by (have c9 := c39); simp (disch := omega) only [show (0 : Int32) = nI 0 from nI_0.symm, nI_leI, nI_ltI] at c9; omega))])
        · refine X_iconst (v := 1) hB dX12_finds_42 (by decide) ?_
          refine X_goto (tgt := 47) hB dX12_finds_43 (by decide) ?_
          refine X_zret hB rfl (by first | exact Or.inl rfl | exact Or.inr rfl) dX12_finds_47 ?_
          have hlz : (wayOf true hops c n to).length = 0 ↔ wayOf true hops c n to = [] := List.length_eq_zero_iff
          refine ⟨?_, hfr, hw⟩
          first
          | (rw [if_pos (hlz.mp (by (have c9 := c39); simp (disch := omega) only [show (0 : Int32) = nI 0 from nI_0.symm, nI_leI, nI_ltI] at c9; omega))])
          | (rw [if_neg (fun e9 => absurd (hlz.mpr e9) (by (have c9 := c39); simp (disch := omega) only [show (0 : Int32) = nI 0 from nI_0.symm, nI_leI, nI_ltI] at c9; omega))])
end REF
