/-! the class: caches -/
theorem abs1' : ∀ i, i < 8 → ∀ j, j < 8 → ((if (0 : Int32) ≤ nI i - nI j then nI i - nI j else 0 - (nI i - nI j)) = 1 ↔ (i + 1 = j ∨ j + 1 = i)) := by decide +kernel
theorem abs1 {i j : Nat} (hi : i < 8) (hj : j < 8) : (if (0 : Int32) ≤ nI i - nI j then nI i - nI j else 0 - (nI i - nI j)) = 1 ↔ (i + 1 = j ∨ j + 1 = i) := abs1' i hi j hj
def bst (w : List Nat) : Nat := if w = [] then 8 else w.length - 1
theorem bst_0 {w : List Nat} (h : w = []) : bst w = 8 := if_pos h
theorem bst_1 {w : List Nat} (h : 1 ≤ w.length) : bst w = w.length - 1 := if_neg (fun e => by rw [e] at h; simp at h)
theorem bst_lt {w : List Nat} (h : w = [] ∨ 2 ≤ w.length ∧ w.length ≤ 8) : bst w < 9 := by
  rcases h with q | q
  · rw [bst_0 q]; decide
  · rw [bst_1 (by omega)]; omega
section CLS
variable {G : Gc} {S : St}
set_option maxRecDepth 100000 in
set_option maxHeartbeats 4000000 in
theorem c_X1_cut (l : List Nat) (hl : okR l) (hn : l.Nodup) {a b : Nat} (ha : a < 8) (hb : b < 8) : C G mX1_cut 1 [.long (rJ l), .int (nI a), .int (nI b)] S (fun r S' => r = some (.long (rJ (cutAt a b l))) ∧ S = S') := by
  have h8 := hl.1
  have hcut := cut_ix hn (a := a) (b := b)
  refine C.mk (lv := [some (.long (rJ l)), none, some (.int (nI a)), some (.int (nI b)), none, none]) (by decide) (Nat.le_of_ble_eq_true rfl) rfl (fun E hB => ?_)
  refine X_lload_n (i := 0) hB dX1_cut_0 rfl rfl ?_
  refine X_iload_n (i := 2) hB dX1_cut_1 rfl rfl ?_
  refine X_callS hB kX1_76 (c_X8_indexOf l hl a ha) (by decide) (by decide) rfl rfl (Nat.le_of_ble_eq_true rfl) dX1_cut_2 (fun r2 S2 q2 => ?_)
  obtain ⟨rfl, rfl⟩ := q2
  refine X_istore hB dX1_cut_5 (by decide) rfl ?_
  refine X_lload_n (i := 0) hB dX1_cut_7 rfl rfl ?_
  refine X_iload_n (i := 3) hB dX1_cut_8 rfl rfl ?_
  refine X_callS hB kX1_76 (c_X8_indexOf l hl b hb) (by decide) (by decide) rfl rfl (Nat.le_of_ble_eq_true rfl) dX1_cut_9 (fun r9 S9 q9 => ?_)
  obtain ⟨rfl, rfl⟩ := q9
  refine X_istore hB dX1_cut_12 (by decide) rfl ?_
  refine X_iload hB dX1_cut_14 rfl ?_
  refine X_iconst (v := (-1)) hB dX1_cut_16 (by decide) ?_
  refine X_icmp_eq (tgt := 52) hB dX1_cut_17 (by decide) (fun c17 => ?_) (fun c17 => ?_)
  · have e9 : cutAt a b l = l := by rw [hcut, if_neg (fun q => (ixR_neg hl.1).mp c17 q.1)]
    refine X_lload_n (i := 0) hB dX1_cut_52 rfl rfl ?_
    refine X_lret hB rfl dX1_cut_53 ?_
    exact ⟨by rw [e9], rfl⟩
  · have ea : a ∈ l := Classical.byContradiction (fun q => c17 ((ixR_neg hl.1).mpr q))
    have ea1 := List.idxOf_lt_length_of_mem ea
    have ea2 : ixR l a = nI (l.idxOf a) := by unfold ixR; rw [if_pos ea]
    refine X_iload hB dX1_cut_20 rfl ?_
    refine X_iconst (v := (-1)) hB dX1_cut_22 (by decide) ?_
    refine X_icmp_eq (tgt := 52) hB dX1_cut_23 (by decide) (fun c23 => ?_) (fun c23 => ?_)
    · have e9 : cutAt a b l = l := by rw [hcut, if_neg (fun q => (ixR_neg hl.1).mp c23 q.2.1)]
      refine X_lload_n (i := 0) hB dX1_cut_52 rfl rfl ?_
      refine X_lret hB rfl dX1_cut_53 ?_
      exact ⟨by rw [e9], rfl⟩
    · have eb : b ∈ l := Classical.byContradiction (fun q => c23 ((ixR_neg hl.1).mpr q))
      have eb1 := List.idxOf_lt_length_of_mem eb
      have eb2 : ixR l b = nI (l.idxOf b) := by unfold ixR; rw [if_pos eb]
      refine X_iload hB dX1_cut_26 rfl ?_
      refine X_topi (y := nI (l.idxOf a)) (ea2) ?_
      refine X_iload hB dX1_cut_28 rfl ?_
      refine X_topi (y := nI (l.idxOf b)) (eb2) ?_
      refine X_isub hB dX1_cut_30 ?_
      refine X_mabs hB kX1_79 (by decide) (Nat.le_of_ble_eq_true rfl) dX1_cut_31 ?_
      refine X_iconst (v := 1) hB dX1_cut_34 (by decide) ?_
      refine X_icmp_ne (tgt := 52) hB dX1_cut_35 (by decide) (fun c35 => ?_) (fun c35 => ?_)
      · have e9 : cutAt a b l = l := by rw [hcut, if_neg (fun q => c35 ((abs1 (by omega) (by omega)).mpr q.2.2))]
        refine X_lload_n (i := 0) hB dX1_cut_52 rfl rfl ?_
        refine X_lret hB rfl dX1_cut_53 ?_
        exact ⟨by rw [e9], rfl⟩
      · have e35 := (abs1 (by omega) (by omega)).mp c35
        refine X_lload_n (i := 0) hB dX1_cut_38 rfl rfl ?_
        refine X_iload hB dX1_cut_39 rfl ?_
        refine X_topi (y := nI (l.idxOf a)) (ea2) ?_
        refine X_iload hB dX1_cut_41 rfl ?_
        refine X_topi (y := nI (l.idxOf b)) (eb2) ?_
        refine X_mmax hB kX1_61 (by decide) (Nat.le_of_ble_eq_true rfl) dX1_cut_43 ?_
        refine X_topi (y := nI (max (l.idxOf a) (l.idxOf b))) (max_nI (by omega) (by omega)) ?_
        refine X_callS hB kX1_37 (c_X8_first l hl (max (l.idxOf a) (l.idxOf b)) (by omega)) (by decide) (by decide) rfl rfl (Nat.le_of_ble_eq_true rfl) dX1_cut_46 (fun r46 S46 q46 => ?_)
        obtain ⟨rfl, rfl⟩ := q46
        refine X_goto (tgt := 53) hB dX1_cut_49 (by decide) ?_
        refine X_lret hB rfl dX1_cut_53 ?_
        exact ⟨by rw [hcut, if_pos ⟨ea, eb, e35⟩], rfl⟩
set_option maxRecDepth 100000 in
set_option maxHeartbeats 4000000 in
theorem l_X1_links {E : Ev} (hB : Bd G E mX1_links) {Q : Option Value → St → Prop} (c n hops room : Nat) (mp : Bool) (cs : List (List Nat)) (hL : CaLay G c) (hc : caR S c n mp hops room cs) (kk : ∀ v, lkR v (kn cs) → Q (some (.long v)) S) :
    ∀ (k j : Nat) (v : Int64), j + k = cs.length → lkR v (fun x y => kn (cs.take j) x y) → X G E mX1_links 2 Q S 4 [some (.ref c), some (.long (v)), none, some (.int (nI j))] [] := by
  have h18 := hc.ok.l18
  rw [List.length_map] at h18
  have hcnt : S.1 (c + 1) 1 = nI cs.length := by rw [hc.rc.2.1, List.length_map]
  intro k
  induction k with
  | zero =>
    intro j v h1 h2
    rw [List.take_of_length_le (by omega)] at h2
    refine X_iload_n (i := 3) hB dX1_links_4 rfl rfl ?_
    refine X_aload_n (i := 0) hB dX1_links_5 rfl rfl ?_
    refine X_getr hB cw1 fX1_16 rfl hL.1.1 hL.1.2 hc.1 dX1_links_6 ?_
    refine X_geti hB cw6 fX1_34 rfl hL.2.1.1 hL.2.1.2 dX1_links_9 ?_
    refine X_topi (y := nI cs.length) (hcnt) ?_
    refine X_icmp_ge (tgt := 35) hB dX1_links_12 (by decide) (fun c12 => ?_) (fun c12 => absurd c12 (by simp (disch := omega) only [nlit, nI_leI, nI_ltI]; omega))
    refine X_lload_n (i := 1) hB dX1_links_35 rfl rfl ?_
    refine X_lret hB rfl dX1_links_36 ?_
    exact kk v h2
  | succ k ih =>
    intro j v h1 h2
    refine X_iload_n (i := 3) hB dX1_links_4 rfl rfl ?_
    refine X_aload_n (i := 0) hB dX1_links_5 rfl rfl ?_
    refine X_getr hB cw1 fX1_16 rfl hL.1.1 hL.1.2 hc.1 dX1_links_6 ?_
    refine X_geti hB cw6 fX1_34 rfl hL.2.1.1 hL.2.1.2 dX1_links_9 ?_
    refine X_topi (y := nI cs.length) (hcnt) ?_
    refine X_icmp_ge (tgt := 35) hB dX1_links_12 (by decide) (fun c12 => absurd c12 (by simp (disch := omega) only [nlit, nI_leI, nI_ltI]; omega)) (fun c12 => ?_)
    refine X_lload_n (i := 1) hB dX1_links_15 rfl rfl ?_
    refine X_aload_n (i := 0) hB dX1_links_16 rfl rfl ?_
    refine X_getr hB cw1 fX1_16 rfl hL.1.1 hL.1.2 hc.1 dX1_links_17 ?_
    refine X_iload_n (i := 3) hB dX1_links_20 rfl rfl ?_
    refine X_callV hB kX1_93 cw6 hL.2.1.1 hL.2.1.2 (c_X7_get (c + 1) 18 hL.2 (cs.map rJ) hc.rc hc.ok.l18 (nI j)) (by decide) (by decide) rfl rfl (Nat.le_of_ble_eq_true rfl) dX1_links_21 (fun r21 S21 q21 => ?_)
    obtain ⟨rfl, rfl⟩ := q21
    refine X_topl (y := rJ (cs.getD j [])) (by rw [inN_nI (by rw [List.length_map]; omega) (by omega)]; exact map_getD) ?_
    refine X_callS hB kX1_97 (c_X4_along (cs.getD j []) (hc.ok.R _ (getD_mem (by omega)))) (by decide) (by decide) rfl rfl (Nat.le_of_ble_eq_true rfl) dX1_links_24 (fun r24 S24 q24 => ?_)
    obtain ⟨⟨u, rfl, hu⟩, rfl⟩ := q24
    refine X_lor hB dX1_links_27 ?_
    refine X_lstore_n (i := 1) hB dX1_links_28 rfl (by decide) rfl ?_
    refine X_iinc hB dX1_links_29 rfl rfl (by decide) rfl ?_
    refine X_goto (tgt := 4) hB dX1_links_32 (by decide) ?_
    refine X_lv ?_ (ih (j + 1) _ (by omega) ((lkR_or h2 hu).congr (fun x y _ _ => ?_)))
    · rw [nI_succ]; rfl
    · unfold kn
      rw [List.take_add_one, List.getElem?_eq_getElem (show j < cs.length by omega), List.any_append, getD_lt (show j < cs.length by omega)]
      simp
set_option maxRecDepth 100000 in
set_option maxHeartbeats 4000000 in
theorem c_X1_links (c n hops room : Nat) (mp : Bool) (cs : List (List Nat)) (hL : CaLay G c) (hc : caR S c n mp hops room cs)  : C G mX1_links 2 [.ref c] S (fun r S' => (∃ v, r = some (.long v) ∧ lkR v (kn cs)) ∧ S = S') := by
  refine C.mk (lv := [some (.ref c), none, none, none]) (by decide) (Nat.le_of_ble_eq_true rfl) rfl (fun E hB => ?_)
  refine X_lconst (v := 0) hB dX1_links_0 (by decide) ?_
  refine X_lstore_n (i := 1) hB dX1_links_1 rfl (by decide) rfl ?_
  refine X_iconst (v := 0) hB dX1_links_2 (by decide) ?_
  refine X_istore_n (i := 3) hB dX1_links_3 rfl (by decide) rfl ?_
  refine X_lv ?_ (l_X1_links hB c n hops room mp cs hL hc (fun v hv => ⟨⟨v, rfl, hv⟩, rfl⟩) cs.length 0 _ (by omega) (lkR_0.congr (fun x y _ _ => rfl)))
  rw [nI_0]; rfl
set_option maxRecDepth 100000 in
set_option maxHeartbeats 4000000 in
theorem l_X1_wayTo {E : Ev} (hB : Bd G E mX1_wayTo) {Q : Option Value → St → Prop} (c n hops room : Nat) (mp : Bool) (cs : List (List Nat)) (hL : CaLay G c) (hc : caR S c n mp hops room cs) (to : Nat) (hto : to < 8) (hmf : mp = false) (kk : Q (some (.long (rJ (wayP to [] cs)))) S) :
    ∀ (k j : Nat) (w : List Nat), j + k = cs.length → wayP to w (cs.drop j) = wayP to [] cs → (w = [] ∨ 2 ≤ w.length ∧ w.length ≤ 8) → X G E mX1_wayTo 3 Q S 32 [some (.ref c), some (.int (nI to)), some (.int (nI (bst w))), some (.long (rJ w)), none, some (.int (nI j)), none] [] := by
  have h18 := hc.ok.l18
  rw [List.length_map] at h18
  have hcnt : S.1 (c + 1) 1 = nI cs.length := by rw [hc.rc.2.1, List.length_map]
  intro k
  induction k with
  | zero =>
    intro j w h1 h2 h3
    have e9 : wayP to [] cs = w := by rw [← h2, List.drop_of_length_le (by omega)]; rfl
    rw [e9] at kk
    refine X_iload hB dX1_wayTo_32 rfl ?_
    refine X_aload_n (i := 0) hB dX1_wayTo_34 rfl rfl ?_
    refine X_getr hB cw1 fX1_16 rfl hL.1.1 hL.1.2 hc.1 dX1_wayTo_35 ?_
    refine X_geti hB cw6 fX1_34 rfl hL.2.1.1 hL.2.1.2 dX1_wayTo_38 ?_
    refine X_topi (y := nI cs.length) (hcnt) ?_
    refine X_icmp_ge (tgt := 96) hB dX1_wayTo_41 (by decide) (fun c41 => ?_) (fun c41 => absurd c41 (by simp (disch := omega) only [nlit, nI_leI, nI_ltI]; omega))
    refine X_lload_n (i := 3) hB dX1_wayTo_96 rfl rfl ?_
    refine X_lret hB rfl dX1_wayTo_97 ?_
    exact kk
  | succ k ih =>
    intro j w h1 h2 h3
    have hj : j < cs.length := by omega
    have hR := hc.ok.R _ (getD_mem (d := []) hj)
    have h8 := hR.1
    have hst : wayP to w (cs.drop j) = wayP to (stepP to w (cs.getD j [])) (cs.drop (j + 1)) := by
      rw [List.drop_eq_getElem_cons hj, getD_lt hj]; rfl
    rw [hst] at h2
    refine X_iload hB dX1_wayTo_32 rfl ?_
    refine X_aload_n (i := 0) hB dX1_wayTo_34 rfl rfl ?_
    refine X_getr hB cw1 fX1_16 rfl hL.1.1 hL.1.2 hc.1 dX1_wayTo_35 ?_
    refine X_geti hB cw6 fX1_34 rfl hL.2.1.1 hL.2.1.2 dX1_wayTo_38 ?_
    refine X_topi (y := nI cs.length) (hcnt) ?_
    refine X_icmp_ge (tgt := 96) hB dX1_wayTo_41 (by decide) (fun c41 => absurd c41 (by simp (disch := omega) only [nlit, nI_leI, nI_ltI]; omega)) (fun c41 => ?_)
    refine X_aload_n (i := 0) hB dX1_wayTo_44 rfl rfl ?_
    refine X_getr hB cw1 fX1_16 rfl hL.1.1 hL.1.2 hc.1 dX1_wayTo_45 ?_
    refine X_iload hB dX1_wayTo_48 rfl ?_
    refine X_callV hB kX1_93 cw6 hL.2.1.1 hL.2.1.2 (c_X7_get (c + 1) 18 hL.2 (cs.map rJ) hc.rc hc.ok.l18 (nI j)) (by decide) (by decide) rfl rfl (Nat.le_of_ble_eq_true rfl) dX1_wayTo_50 (fun r50 S50 q50 => ?_)
    obtain ⟨rfl, rfl⟩ := q50
    refine X_topl (y := rJ (cs.getD j [])) (by rw [inN_nI (by rw [List.length_map]; omega) (by omega)]; exact map_getD) ?_
    refine X_iload_n (i := 1) hB dX1_wayTo_53 rfl rfl ?_
    refine X_callS hB kX1_76 (c_X8_indexOf (cs.getD j []) hR to hto) (by decide) (by decide) rfl rfl (Nat.le_of_ble_eq_true rfl) dX1_wayTo_54 (fun r54 S54 q54 => ?_)
    obtain ⟨rfl, rfl⟩ := q54
    refine X_istore hB dX1_wayTo_57 (by decide) rfl ?_
    refine X_iload hB dX1_wayTo_59 rfl ?_
    refine X_if_le (tgt := 90) hB dX1_wayTo_61 (by decide) (fun c61 => ?_) (fun c61 => ?_)
    · refine X_iinc hB dX1_wayTo_90 rfl rfl (by decide) rfl ?_
      refine X_goto (tgt := 32) hB dX1_wayTo_93 (by decide) ?_
      have hst2 : stepP to w (cs.getD j []) = w := by
        unfold stepP
        rw [if_neg]
        rintro ⟨q1, q2, q3⟩
        have ex := List.idxOf_lt_length_iff.mp q2
        have ex2 : ixR (cs.getD j []) to = nI ((cs.getD j []).idxOf to) := by unfold ixR; rw [if_pos ex]
        rw [ex2] at c61
        exact absurd c61 (nI_nle (by omega) (by omega))
      rw [hst2] at h2
      exact X_dl [some (.ref c), some (.int (nI to)), some (.int (nI (bst w))), some (.long (rJ w)), none, some (.int (nI (j + 1))), none] ⟨rfl, rfl, rfl, rfl, by rw [nI_succ j]; rfl, trivial⟩ (ih (j + 1) w (by omega) h2 h3)
    · have ex : to ∈ cs.getD j [] := Classical.byContradiction (fun q => c61 (by rw [(ixR_neg hR.1).mpr q]; decide))
      have ex1 := List.idxOf_lt_length_of_mem ex
      have ex2 : ixR (cs.getD j []) to = nI ((cs.getD j []).idxOf to) := by unfold ixR; rw [if_pos ex]
      have e61 : 0 < (cs.getD j []).idxOf to := Nat.pos_of_ne_zero (fun q => c61 (by rw [ex2, q]; decide))
      refine X_iload hB dX1_wayTo_64 rfl ?_
      refine X_iload_n (i := 2) hB dX1_wayTo_66 rfl rfl ?_
      refine X_icmp_ge (tgt := 90) hB dX1_wayTo_67 (by decide) (fun c67 => ?_) (fun c67 => ?_)
      · refine X_iinc hB dX1_wayTo_90 rfl rfl (by decide) rfl ?_
        refine X_goto (tgt := 32) hB dX1_wayTo_93 (by decide) ?_
        have hst2 : stepP to w (cs.getD j []) = w := by
          unfold stepP
          rw [if_neg]
          rintro ⟨q1, q2, q3⟩
          have ex := List.idxOf_lt_length_iff.mp q2
          have ex2 : ixR (cs.getD j []) to = nI ((cs.getD j []).idxOf to) := by unfold ixR; rw [if_pos ex]
          rw [ex2, nI_leI (by have := bst_lt h3; omega) (by omega)] at c67
          rcases q3 with q | q
          · rw [bst_0 q] at c67
            omega
          · rw [bst_1 (w := w) (by omega)] at c67
            omega
        rw [hst2] at h2
        exact X_dl [some (.ref c), some (.int (nI to)), some (.int (nI (bst w))), some (.long (rJ w)), none, some (.int (nI (j + 1))), none] ⟨rfl, rfl, rfl, rfl, by rw [nI_succ j]; rfl, trivial⟩ (ih (j + 1) w (by omega) h2 h3)
      · have e67 : (cs.getD j []).idxOf to < bst w := by
          rw [ex2, nI_leI (by have := bst_lt h3; omega) (by omega)] at c67
          exact Nat.not_le.mp c67
        refine X_iload hB dX1_wayTo_70 rfl ?_
        refine X_topi (y := nI ((cs.getD j []).idxOf to)) (ex2) ?_
        refine X_istore_n (i := 2) hB dX1_wayTo_72 rfl (by decide) rfl ?_
        refine X_aload_n (i := 0) hB dX1_wayTo_73 rfl rfl ?_
        refine X_getr hB cw1 fX1_16 rfl hL.1.1 hL.1.2 hc.1 dX1_wayTo_74 ?_
        refine X_iload hB dX1_wayTo_77 rfl ?_
        refine X_callV hB kX1_93 cw6 hL.2.1.1 hL.2.1.2 (c_X7_get (c + 1) 18 hL.2 (cs.map rJ) hc.rc hc.ok.l18 (nI j)) (by decide) (by decide) rfl rfl (Nat.le_of_ble_eq_true rfl) dX1_wayTo_79 (fun r79 S79 q79 => ?_)
        obtain ⟨rfl, rfl⟩ := q79
        refine X_topl (y := rJ (cs.getD j [])) (by rw [inN_nI (by rw [List.length_map]; omega) (by omega)]; exact map_getD) ?_
        refine X_iload hB dX1_wayTo_82 rfl ?_
        refine X_topi (y := nI ((cs.getD j []).idxOf to)) (ex2) ?_
        refine X_iconst (v := 1) hB dX1_wayTo_84 (by decide) ?_
        refine X_iadd hB dX1_wayTo_85 ?_
        refine X_topi (y := nI ((cs.getD j []).idxOf to + 1)) (by first | rfl | (simp (disch := omega) only [nlit, nI_add, nI_mul, nI_sub]; done) | (simp (disch := omega) only [nlit, nI_add, nI_mul, nI_sub]; (congr 1 <;> omega))) ?_
        refine X_callS hB kX1_37 (c_X8_first (cs.getD j []) hR ((cs.getD j []).idxOf to + 1) (by omega)) (by decide) (by decide) rfl rfl (Nat.le_of_ble_eq_true rfl) dX1_wayTo_86 (fun r86 S86 q86 => ?_)
        obtain ⟨rfl, rfl⟩ := q86
        refine X_lstore_n (i := 3) hB dX1_wayTo_89 rfl (by decide) rfl ?_
        refine X_iinc hB dX1_wayTo_90 rfl rfl (by decide) rfl ?_
        refine X_goto (tgt := 32) hB dX1_wayTo_93 (by decide) ?_
        have hst2 : stepP to w (cs.getD j []) = (cs.getD j []).take ((cs.getD j []).idxOf to + 1) := by
          unfold stepP
          refine if_pos ⟨e61, ex1, ?_⟩
          rcases h3 with q | q
          · exact Or.inl q
          · right
            rw [bst_1 (w := w) (by omega)] at e67
            omega
        have hln : ((cs.getD j []).take ((cs.getD j []).idxOf to + 1)).length = (cs.getD j []).idxOf to + 1 := by rw [List.length_take]; omega
        rw [hst2] at h2
        refine X_dl [some (.ref c), some (.int (nI to)), some (.int (nI (bst ((cs.getD j []).take ((cs.getD j []).idxOf to + 1))))), some (.long (rJ ((cs.getD j []).take ((cs.getD j []).idxOf to + 1)))), none, some (.int (nI (j + 1))), none] ⟨rfl, rfl, ?_, rfl, by rw [nI_succ j]; rfl, trivial⟩ (ih (j + 1) _ (by omega) h2 (Or.inr (by rw [hln]; omega)))
        rw [bst_1 (by omega), hln, Nat.add_sub_cancel]
set_option maxRecDepth 100000 in
set_option maxHeartbeats 4000000 in
theorem c_X1_wayTo (c n hops room : Nat) (mp : Bool) (cs : List (List Nat)) (hL : CaLay G c) (hc : caR S c n mp hops room cs) (to : Nat) (hto : to < 8) (hne : n ≠ to) : C G mX1_wayTo 3 [.ref c, .int (nI to)] S (fun r S' => r = some (.long (rJ (wayOf mp hops cs n to))) ∧ S = S') := by
  have hn8 := hc.2.2.2.2.2.2.2.2.2
  have hh7 := hc.2.2.2.2.2.2.2.2.1
  refine C.mk (lv := [some (.ref c), some (.int (nI to)), none, none, none, none, none]) (by decide) (Nat.le_of_ble_eq_true rfl) rfl (fun E hB => ?_)
  refine X_aload_n (i := 0) hB dX1_wayTo_0 rfl rfl ?_
  refine X_geti hB cw1 fX1_24 rfl hL.1.1 hL.1.2 dX1_wayTo_1 ?_
  refine X_topi (y := if mp then 1 else 0) (hc.2.2.1) ?_
  refine X_if_eq (tgt := 24) hB dX1_wayTo_4 (by decide) (fun c4 => ?_) (fun c4 => ?_)
  · have e4 : mp = false := by simpa using if1n c4
    refine X_bipush (v := 8) hB dX1_wayTo_24 (by decide) ?_
    refine X_istore_n (i := 2) hB dX1_wayTo_26 rfl (by decide) rfl ?_
    refine X_lconst (v := 0) hB dX1_wayTo_27 (by decide) ?_
    refine X_lstore_n (i := 3) hB dX1_wayTo_28 rfl (by decide) rfl ?_
    refine X_iconst (v := 0) hB dX1_wayTo_29 (by decide) ?_
    refine X_istore hB dX1_wayTo_30 (by decide) rfl ?_
    have e9 : wayOf mp hops cs n to = wayP to [] cs := by unfold wayOf; rw [if_neg hne, e4]; rfl
    refine X_dl [some (.ref c), some (.int (nI to)), some (.int (nI (bst []))), some (.long (rJ [])), none, some (.int (nI 0)), none] ⟨rfl, rfl, rfl, rfl, by rw [nI_0], trivial⟩ (l_X1_wayTo hB c n hops room mp cs hL hc to hto e4 ⟨by rw [e9], rfl⟩ cs.length 0 [] (by omega) rfl (Or.inl rfl))
  · have e4 : mp = true := if1 c4
    refine X_aload_n (i := 0) hB dX1_wayTo_7 rfl rfl ?_
    refine X_callV hB kX1_83 cw1 hL.1.1 hL.1.2 (c_X1_links c n hops room mp cs hL hc) (by decide) (by decide) rfl rfl (Nat.le_of_ble_eq_true rfl) dX1_wayTo_8 (fun r8 S8 q8 => ?_)
    obtain ⟨⟨v8, rfl, hv8⟩, rfl⟩ := q8
    refine X_aload_n (i := 0) hB dX1_wayTo_11 rfl rfl ?_
    refine X_geti hB cw1 fX1_20 rfl hL.1.1 hL.1.2 dX1_wayTo_12 ?_
    refine X_topi (y := nI n) (hc.2.1) ?_
    refine X_iload_n (i := 1) hB dX1_wayTo_15 rfl rfl ?_
    refine X_aload_n (i := 0) hB dX1_wayTo_16 rfl rfl ?_
    refine X_geti hB cw1 fX1_28 rfl hL.1.1 hL.1.2 dX1_wayTo_17 ?_
    refine X_topi (y := nI hops) (hc.2.2.2.1) ?_
    refine X_callS hB kX1_87 (c_X4_leastRow hv8 (fun a b _ _ => kn_sym a b) hto hn8 hne hh7) (by decide) (by decide) rfl rfl (Nat.le_of_ble_eq_true rfl) dX1_wayTo_20 (fun r20 S20 q20 => ?_)
    obtain ⟨rfl, rfl⟩ := q20
    refine X_lret hB rfl dX1_wayTo_23 ?_
    exact ⟨by unfold wayOf; rw [if_neg hne, if_pos e4], rfl⟩
end CLS
