/-! the class: caches learn and forget -/
section CLS
variable {G : Gc} {S : St}
set_option maxRecDepth 100000 in
set_option maxHeartbeats 4000000 in
theorem c_X1_begin (c n : Nat) (hL : CaLay G c) (hn : n < 8) (h1 : S.2.2 c 1 = some (c + 1)) (h2 : S.2.2 (c + 1) 0 = some (c + 2)) (h3 : S.1 c 0 = nI n) (mp : Bool) (hops room : Nat) (hh : hops ≤ 7) (hr : 1 ≤ room ∧ room ≤ 6) : C G mX1_begin 0 [.ref c, .int (if mp then 1 else 0), .int (nI hops), .int (nI room)] S (fun r S' => r = none ∧ chg c (c + 2) S S' ∧ S'.2.2 = S.2.2 ∧ caR S' c n mp hops room []) := by
  refine C.mk (lv := [some (.ref c), some (.int (if mp then 1 else 0)), some (.int (nI hops)), some (.int (nI room))]) (by decide) (Nat.le_of_ble_eq_true rfl) rfl (fun E hB => ?_)
  refine X_aload_n (i := 0) hB dX1_begin_0 rfl rfl ?_
  refine X_iload_n (i := 1) hB dX1_begin_1 rfl rfl ?_
  refine X_putz hB cw1 fX1_24 rfl rfl (by split <;> first | exact Or.inl rfl | exact Or.inr rfl) hL.1.1 hL.1.2 dX1_begin_2 ?_
  refine X_aload_n (i := 0) hB dX1_begin_5 rfl rfl ?_
  refine X_iload_n (i := 2) hB dX1_begin_6 rfl rfl ?_
  refine X_puti hB cw1 fX1_28 rfl rfl hL.1.1 hL.1.2 dX1_begin_7 ?_
  refine X_aload_n (i := 0) hB dX1_begin_10 rfl rfl ?_
  refine X_iload_n (i := 1) hB dX1_begin_11 rfl rfl ?_
  refine X_if_eq (tgt := 21) hB dX1_begin_12 (by decide) (fun c12 => ?_) (fun c12 => ?_)
  · have e12 : mp = false := by simpa using if1n c12
    refine X_iload_n (i := 3) hB dX1_begin_21 rfl rfl ?_
    refine X_topi (y := nI (if mp then 3 * room else room)) (by first | (rw [e12, if_pos rfl]; simp only [nlit, nI_mul]; done) | (rw [e12]; rfl)) ?_
    refine X_puti hB cw1 fX1_31 rfl rfl hL.1.1 hL.1.2 dX1_begin_22 ?_
    refine X_aload_n (i := 0) hB dX1_begin_25 rfl rfl ?_
    refine X_getr hB cw1 fX1_16 rfl hL.1.1 hL.1.2 h1 dX1_begin_26 ?_
    refine X_iconst (v := 0) hB dX1_begin_29 (by decide) ?_
    refine X_puti hB cw6 fX1_34 rfl rfl hL.2.1.1 hL.2.1.2 dX1_begin_30 ?_
    refine X_vret hB rfl dX1_begin_33 ?_
    refine ⟨rfl, (chg.setI (by omega) (by omega)).tr ((chg.setI (by omega) (by omega)).tr ((chg.setI (by omega) (by omega)).tr (chg.setI (by omega) (by omega)))), rfl, h1, ?_, ?_, ?_, ?_, ⟨h2, ?_, fun i hi => absurd hi (Nat.not_lt_zero i)⟩, ⟨fun e he => absurd he List.not_mem_nil, Nat.zero_le _, hr.1, hr.2, List.Pairwise.nil⟩, fun _ e he => absurd he List.not_mem_nil, hh, hn⟩
    · rw [setI_ne _ _ (Or.inl (by omega)), setI_ne _ _ (Or.inr (by decide)), setI_ne _ _ (Or.inr (by decide)), setI_ne _ _ (Or.inr (by decide))]; exact h3
    · rw [setI_ne _ _ (Or.inl (by omega)), setI_ne _ _ (Or.inr (by decide)), setI_ne _ _ (Or.inr (by decide)), setI_at]
    · rw [setI_ne _ _ (Or.inl (by omega)), setI_ne _ _ (Or.inr (by decide)), setI_at]
    · rw [setI_ne _ _ (Or.inl (by omega)), setI_at]
    · rw [setI_at]; rfl
  · have e12 : mp = true := if1 c12
    refine X_iconst (v := 3) hB dX1_begin_15 (by decide) ?_
    refine X_iload_n (i := 3) hB dX1_begin_16 rfl rfl ?_
    refine X_imul hB dX1_begin_17 ?_
    refine X_goto (tgt := 22) hB dX1_begin_18 (by decide) ?_
    refine X_topi (y := nI (if mp then 3 * room else room)) (by first | (rw [e12, if_pos rfl]; simp only [nlit, nI_mul]; done) | (rw [e12]; rfl)) ?_
    refine X_puti hB cw1 fX1_31 rfl rfl hL.1.1 hL.1.2 dX1_begin_22 ?_
    refine X_aload_n (i := 0) hB dX1_begin_25 rfl rfl ?_
    refine X_getr hB cw1 fX1_16 rfl hL.1.1 hL.1.2 h1 dX1_begin_26 ?_
    refine X_iconst (v := 0) hB dX1_begin_29 (by decide) ?_
    refine X_puti hB cw6 fX1_34 rfl rfl hL.2.1.1 hL.2.1.2 dX1_begin_30 ?_
    refine X_vret hB rfl dX1_begin_33 ?_
    refine ⟨rfl, (chg.setI (by omega) (by omega)).tr ((chg.setI (by omega) (by omega)).tr ((chg.setI (by omega) (by omega)).tr (chg.setI (by omega) (by omega)))), rfl, h1, ?_, ?_, ?_, ?_, ⟨h2, ?_, fun i hi => absurd hi (Nat.not_lt_zero i)⟩, ⟨fun e he => absurd he List.not_mem_nil, Nat.zero_le _, hr.1, hr.2, List.Pairwise.nil⟩, fun _ e he => absurd he List.not_mem_nil, hh, hn⟩
    · rw [setI_ne _ _ (Or.inl (by omega)), setI_ne _ _ (Or.inr (by decide)), setI_ne _ _ (Or.inr (by decide)), setI_ne _ _ (Or.inr (by decide))]; exact h3
    · rw [setI_ne _ _ (Or.inl (by omega)), setI_ne _ _ (Or.inr (by decide)), setI_ne _ _ (Or.inr (by decide)), setI_at]
    · rw [setI_ne _ _ (Or.inl (by omega)), setI_ne _ _ (Or.inr (by decide)), setI_at]
    · rw [setI_ne _ _ (Or.inl (by omega)), setI_at]
    · rw [setI_at]; rfl
set_option maxRecDepth 100000 in
set_option maxHeartbeats 4000000 in
theorem l_X1_learn {E : Ev} (hB : Bd G E mX1_learn) {Q : Option Value → St → Prop} (c n hops room : Nat) (mp : Bool) (cs : List (List Nat)) (hL : CaLay G c) (hc : caR S c n mp hops room cs) (L : List Nat) (hM8 : okR (L.take (hops + 1))) (hMn : (L.take (hops + 1)).Nodup) (hM2 : 2 ≤ (L.take (hops + 1)).length) (hmt : mp = true) (kk : ∀ S1, chg (c + 1) (c + 3) S S1 → S1.2.2 = S.2.2 → caR S1 c n mp hops room (insL (3 * room) (L.take (hops + 1)) cs) → Q none S1) :
    ∀ (k i : Nat) (S1 : St) (c1 : List (List Nat)), i + k = (L.take (hops + 1)).length → 1 ≤ i → chg (c + 1) (c + 3) S S1 → S1.2.2 = S.2.2 → caR S1 c n mp hops room c1 → insL (3 * room) ((L.take (hops + 1)).drop (i - 1)) c1 = insL (3 * room) (L.take (hops + 1)) cs → X G E mX1_learn 2 Q S1 47 [some (.ref c), some (.long (rJ L)), none, some (.long (rJ (L.take (hops + 1)))), none, some (.int (nI (L.take (hops + 1)).length)), some (.int (nI i)), none, none] [] := by
  have h8 := hM8.1
  intro k
  induction k with
  | zero =>
    intro i S1 c1 h1 h2 h3 h4 h5 h6
    have e9 : (L.take (hops + 1)).drop (i - 1) = [(L.take (hops + 1)).getD (i - 1) 0] := by
      rw [List.drop_eq_getElem_cons (by omega), List.drop_of_length_le (by omega), getD_lt]
    rw [e9] at h6
    have h6 : c1 = insL (3 * room) (L.take (hops + 1)) cs := h6
    refine X_iload hB dX1_learn_47 rfl ?_
    refine X_iload hB dX1_learn_49 rfl ?_
    refine X_icmp_ge (tgt := 112) hB dX1_learn_51 (by decide) (fun c51 => ?_) (fun c51 => absurd c51 (by simp (disch := omega) only [nlit, nI_leI, nI_ltI]; omega))
    refine X_vret hB rfl dX1_learn_112 ?_
    exact kk S1 h3 h4 (h6 ▸ h5)
  | succ k ih =>
    intro i S1 c1 h1 h2 h3 h4 h5 h6
    have b0 : (L.take (hops + 1)).getD (i - 1) 0 < 8 := hM8.2 _ (getD_mem (by omega))
    have b1 : (L.take (hops + 1)).getD i 0 < 8 := hM8.2 _ (getD_mem (by omega))
    have hne : (L.take (hops + 1)).getD (i - 1) 0 ≠ (L.take (hops + 1)).getD i 0 := by
      rw [getD_lt (by omega), getD_lt (by omega)]
      exact List.pairwise_iff_getElem.mp hMn (i - 1) i (by omega) (by omega) (by omega)
    have hdr : (L.take (hops + 1)).drop (i - 1) = (L.take (hops + 1)).getD (i - 1) 0 :: (L.take (hops + 1)).getD i 0 :: (L.take (hops + 1)).drop (i + 1) := by
      rw [List.drop_eq_getElem_cons (by omega), show i - 1 + 1 = i by omega, List.drop_eq_getElem_cons (by omega), getD_lt, getD_lt]
    have hok1 := h5.ok
    have hlen : (c1.map rJ).length ≤ 3 * room := by
      rw [List.length_map]
      have := hok1.2.1
      rwa [if_pos hmt] at this
    have hro := hok1.2.2
    refine X_iload hB dX1_learn_47 rfl ?_
    refine X_iload hB dX1_learn_49 rfl ?_
    refine X_icmp_ge (tgt := 112) hB dX1_learn_51 (by decide) (fun c51 => absurd c51 (by simp (disch := omega) only [nlit, nI_leI, nI_ltI]; omega)) (fun c51 => ?_)
    refine X_lload_n (i := 3) hB dX1_learn_54 rfl rfl ?_
    refine X_iload hB dX1_learn_55 rfl ?_
    refine X_iconst (v := 1) hB dX1_learn_57 (by decide) ?_
    refine X_isub hB dX1_learn_58 ?_
    refine X_topi (y := nI (i - 1)) (by first | rfl | (simp (disch := omega) only [nlit, nI_add, nI_mul, nI_sub]; done) | (simp (disch := omega) only [nlit, nI_add, nI_mul, nI_sub]; (congr 1 <;> omega))) ?_
    refine X_callS hB kX1_51 (c_X8_at (L.take (hops + 1)) hM8 (nI (i - 1))) (by decide) (by decide) rfl rfl (Nat.le_of_ble_eq_true rfl) dX1_learn_59 (fun r59 S59 q59 => ?_)
    obtain ⟨rfl, rfl⟩ := q59
    refine X_topi (y := nI ((L.take (hops + 1)).getD (i - 1) 0)) (nth_in (by omega) h8) ?_
    refine X_istore hB dX1_learn_62 (by decide) rfl ?_
    refine X_lload_n (i := 3) hB dX1_learn_64 rfl rfl ?_
    refine X_iload hB dX1_learn_65 rfl ?_
    refine X_callS hB kX1_51 (c_X8_at (L.take (hops + 1)) hM8 (nI i)) (by decide) (by decide) rfl rfl (Nat.le_of_ble_eq_true rfl) dX1_learn_67 (fun r67 S67 q67 => ?_)
    obtain ⟨rfl, rfl⟩ := q67
    refine X_topi (y := nI ((L.take (hops + 1)).getD i 0)) (nth_in (by omega) h8) ?_
    refine X_istore hB dX1_learn_70 (by decide) rfl ?_
    refine X_aload_n (i := 0) hB dX1_learn_72 rfl rfl ?_
    refine X_getr hB cw1 fX1_16 rfl hL.1.1 hL.1.2 h5.1 dX1_learn_73 ?_
    refine X_iload hB dX1_learn_76 rfl ?_
    refine X_iload hB dX1_learn_78 rfl ?_
    refine X_mmin hB kX1_55 (by decide) (Nat.le_of_ble_eq_true rfl) dX1_learn_80 ?_
    refine X_topi (y := nI (min ((L.take (hops + 1)).getD (i - 1) 0) ((L.take (hops + 1)).getD i 0))) (min_nI (by omega) (by omega)) ?_
    refine X_iconst (v := 1) hB dX1_learn_83 (by decide) ?_
    refine X_iadd hB dX1_learn_84 ?_
    refine X_i2l hB dX1_learn_85 ?_
    refine X_iload hB dX1_learn_86 rfl ?_
    refine X_iload hB dX1_learn_88 rfl ?_
    refine X_mmax hB kX1_61 (by decide) (Nat.le_of_ble_eq_true rfl) dX1_learn_90 ?_
    refine X_topi (y := nI (max ((L.take (hops + 1)).getD (i - 1) 0) ((L.take (hops + 1)).getD i 0))) (max_nI (by omega) (by omega)) ?_
    refine X_iconst (v := 1) hB dX1_learn_93 (by decide) ?_
    refine X_iadd hB dX1_learn_94 ?_
    refine X_i2l hB dX1_learn_95 ?_
    refine X_iconst (v := 4) hB dX1_learn_96 (by decide) ?_
    refine X_lshl hB dX1_learn_97 ?_
    refine X_lor hB dX1_learn_98 ?_
    refine X_topl (y := rJ (lnk ((L.take (hops + 1)).getD (i - 1) 0) ((L.take (hops + 1)).getD i 0))) (lnk_J b0 b1) ?_
    refine X_aload_n (i := 0) hB dX1_learn_99 rfl rfl ?_
    refine X_geti hB cw1 fX1_31 rfl hL.1.1 hL.1.2 dX1_learn_100 ?_
    refine X_topi (y := nI (3 * room)) (by rw [h5.2.2.2.2.1, if_pos hmt]) ?_
    refine X_callV hB kX1_47 cw6 hL.2.1.1 hL.2.1.2 (c_X7_touch (c + 1) 18 hL.2 (c1.map rJ) h5.rc hok1.l18 (rJ (lnk ((L.take (hops + 1)).getD (i - 1) 0) ((L.take (hops + 1)).getD i 0))) (3 * room) hlen (by omega) (by omega)) (by decide) (by decide) rfl rfl (Nat.le_of_ble_eq_true rfl) dX1_learn_103 (fun r103 S103 q103 => ?_)
    obtain ⟨rfl, g1, g2, g3⟩ := q103
    rw [tch_ins hok1.R (lnk_ok b0 b1 hne).R] at g3
    have g1 := g1.mono (lo' := c + 1) (hi' := c + 3) (by omega) (by omega)
    refine X_iinc hB dX1_learn_106 rfl rfl (by decide) rfl ?_
    refine X_goto (tgt := 47) hB dX1_learn_109 (by decide) ?_
    refine X_dl [some (.ref c), some (.long (rJ L)), none, some (.long (rJ (L.take (hops + 1)))), none, some (.int (nI (L.take (hops + 1)).length)), some (.int (nI (i + 1))), none, none] ⟨rfl, rfl, rfl, rfl, by rw [nI_succ i]; rfl, trivial⟩ (ih (i + 1) S103 (ins (3 * room) (lnk ((L.take (hops + 1)).getD (i - 1) 0) ((L.take (hops + 1)).getD i 0)) c1) (by omega) (by omega) (h3.tr g1) (g2.trans h4) (h5.up g1 g3 (by have := okC_ins hok1 (e := lnk ((L.take (hops + 1)).getD (i - 1) 0) ((L.take (hops + 1)).getD i 0)) (by rw [hmt]; exact lnk_ok b0 b1 hne); rwa [if_pos hmt] at this) (fun hm => ins_srt (h5.2.2.2.2.2.2.2.1 hm) (srt_lnk hne))) ?_)
    rw [← h6, hdr, show i + 1 - 1 = i by omega, show (L.take (hops + 1)).drop i = (L.take (hops + 1)).getD i 0 :: (L.take (hops + 1)).drop (i + 1) by rw [List.drop_eq_getElem_cons (by omega), getD_lt]]
    rfl
set_option maxRecDepth 100000 in
set_option maxHeartbeats 4000000 in
theorem c_X1_learn (c n hops room : Nat) (mp : Bool) (cs : List (List Nat)) (hL : CaLay G c) (hc : caR S c n mp hops room cs) (L : List Nat) (hl : okR L) (hn : L.Nodup) : C G mX1_learn 2 [.ref c, .long (rJ L)] S (fun r S' => r = none ∧ chg (c + 1) (c + 3) S S' ∧ S'.2.2 = S.2.2 ∧ caR S' c n mp hops room (learnL mp hops room L cs)) := by
  have hh7 := hc.2.2.2.2.2.2.2.2.1
  have hMn : (L.take (hops + 1)).Nodup := hn.sublist (List.take_sublist _ _)
  have hM8 := hl.take (hops + 1)
  have h8 := hM8.1
  have hok := hc.ok
  have hro := hok.2.2
  refine C.mk (lv := [some (.ref c), some (.long (rJ L)), none, none, none, none, none, none, none]) (by decide) (Nat.le_of_ble_eq_true rfl) rfl (fun E hB => ?_)
  refine X_lload_n (i := 1) hB dX1_learn_0 rfl rfl ?_
  refine X_aload_n (i := 0) hB dX1_learn_1 rfl rfl ?_
  refine X_geti hB cw1 fX1_28 rfl hL.1.1 hL.1.2 dX1_learn_2 ?_
  refine X_topi (y := nI hops) (hc.2.2.2.1) ?_
  refine X_iconst (v := 1) hB dX1_learn_5 (by decide) ?_
  refine X_iadd hB dX1_learn_6 ?_
  refine X_topi (y := nI (hops + 1)) (by first | rfl | (simp (disch := omega) only [nlit, nI_add, nI_mul, nI_sub]; done) | (simp (disch := omega) only [nlit, nI_add, nI_mul, nI_sub]; (congr 1 <;> omega))) ?_
  refine X_callS hB kX1_37 (c_X8_first L hl (hops + 1) (by omega)) (by decide) (by decide) rfl rfl (Nat.le_of_ble_eq_true rfl) dX1_learn_7 (fun r7 S7 q7 => ?_)
  obtain ⟨rfl, rfl⟩ := q7
  refine X_lstore_n (i := 3) hB dX1_learn_10 rfl (by decide) rfl ?_
  refine X_lload_n (i := 3) hB dX1_learn_11 rfl rfl ?_
  refine X_callS hB kX1_43 (c_X8_length (L.take (hops + 1)) hM8) (by decide) (by decide) rfl rfl (Nat.le_of_ble_eq_true rfl) dX1_learn_12 (fun r12 S12 q12 => ?_)
  obtain ⟨rfl, rfl⟩ := q12
  refine X_istore hB dX1_learn_15 (by decide) rfl ?_
  refine X_iload hB dX1_learn_17 rfl ?_
  refine X_iconst (v := 2) hB dX1_learn_19 (by decide) ?_
  refine X_icmp_ge (tgt := 24) hB dX1_learn_20 (by decide) (fun c20 => ?_) (fun c20 => ?_)
  · have e20 : 2 ≤ (L.take (hops + 1)).length := by
      rw [show (2 : Int32) = nI 2 from rfl, nI_leI (by omega) (by omega)] at c20
      exact c20
    refine X_aload_n (i := 0) hB dX1_learn_24 rfl rfl ?_
    refine X_geti hB cw1 fX1_24 rfl hL.1.1 hL.1.2 dX1_learn_25 ?_
    refine X_topi (y := if mp then 1 else 0) (hc.2.2.1) ?_
    refine X_if_ne (tgt := 44) hB dX1_learn_28 (by decide) (fun c28 => ?_) (fun c28 => ?_)
    · refine X_iconst (v := 1) hB dX1_learn_44 (by decide) ?_
      refine X_istore hB dX1_learn_45 (by decide) rfl ?_
      have e28 : mp = true := if1 c28
      have e9 : learnL mp hops room L cs = insL (3 * room) (L.take (hops + 1)) cs := by unfold learnL; rw [if_neg (by omega), if_pos e28]
      refine X_dl [some (.ref c), some (.long (rJ L)), none, some (.long (rJ (L.take (hops + 1)))), none, some (.int (nI (L.take (hops + 1)).length)), some (.int (nI 1)), none, none] ⟨rfl, rfl, rfl, rfl, rfl, trivial⟩ (l_X1_learn hB c n hops room mp cs hL hc L hM8 hMn e20 e28 (fun S1 g1 g2 g3 => ⟨rfl, g1, g2, by rw [e9]; exact g3⟩) ((L.take (hops + 1)).length - 1) 1 S cs (by omega) (Nat.le_refl _) chg.rf rfl hc (by rw [Nat.sub_self, List.drop_zero]))
    · have e28 : mp = false := by simpa using if1n c28
      have hlen : (cs.map rJ).length ≤ room := by
        rw [List.length_map]
        have := hok.2.1
        rwa [e28, if_neg (by decide)] at this
      refine X_aload_n (i := 0) hB dX1_learn_31 rfl rfl ?_
      refine X_getr hB cw1 fX1_16 rfl hL.1.1 hL.1.2 hc.1 dX1_learn_32 ?_
      refine X_lload_n (i := 3) hB dX1_learn_35 rfl rfl ?_
      refine X_aload_n (i := 0) hB dX1_learn_36 rfl rfl ?_
      refine X_geti hB cw1 fX1_31 rfl hL.1.1 hL.1.2 dX1_learn_37 ?_
      refine X_topi (y := nI room) (by rw [hc.2.2.2.2.1, e28]; rfl) ?_
      refine X_callV hB kX1_47 cw6 hL.2.1.1 hL.2.1.2 (c_X7_touch (c + 1) 18 hL.2 (cs.map rJ) hc.rc hok.l18 (rJ (L.take (hops + 1))) room hlen (by omega) (by omega)) (by decide) (by decide) rfl rfl (Nat.le_of_ble_eq_true rfl) dX1_learn_40 (fun r40 S40 q40 => ?_)
      obtain ⟨rfl, g1, g2, g3⟩ := q40
      rw [tch_ins hok.R hM8] at g3
      have g1 := g1.mono (lo' := c + 1) (hi' := c + 3) (by omega) (by omega)
      refine X_vret hB rfl dX1_learn_43 ?_
      have e9 : learnL mp hops room L cs = ins room (L.take (hops + 1)) cs := by unfold learnL; rw [if_neg (by omega), e28]; rfl
      refine ⟨rfl, g1, g2, ?_⟩
      rw [e9]
      have hoi := okC_ins hok (e := (L.take (hops + 1))) (by rw [e28]; exact ⟨h8, e20, hM8.2, hMn, fun z => by cases z⟩)
      rw [e28, if_neg (by decide)] at hoi
      exact hc.up g1 g3 (by rw [e28]; exact hoi) (fun z => by rw [e28] at z; cases z)
  · refine X_vret hB rfl dX1_learn_23 ?_
    have e20 : (L.take (hops + 1)).length < 2 := by
      rw [show (2 : Int32) = nI 2 from rfl, nI_leI (by omega) (by omega)] at c20
      omega
    exact ⟨rfl, chg.rf, rfl, by unfold learnL; rw [if_pos e20]; exact hc⟩
set_option maxRecDepth 100000 in
set_option maxHeartbeats 4000000 in
theorem l_X1_forget {E : Ev} (hB : Bd G E mX1_forget) {Q : Option Value → St → Prop} (c n hops room : Nat) (mp : Bool) (cs : List (List Nat)) (hL : CaLay G c) (hc : caR S c n mp hops room cs) (a b : Nat) (ha : a < 8) (hb : b < 8) (kk : ∀ S1 acc, chg (c + 1) (c + 3) S S1 → S1.2.2 = S.2.2 → rcR S1 (c + 1) (acc.map rJ) → acc = keepL [] (cs.map (cutAt a b)) → Q none S1) :
    ∀ (t k : Nat) (S1 : St) (acc : List (List Nat)), k + t = cs.length → acc.length ≤ k → chg (c + 1) (c + 3) S S1 → S1.2.2 = S.2.2 → rcR S1 (c + 1) (acc.map rJ) → (∀ e ∈ acc, okR e) → (∀ j, k ≤ j → S1.2.1 (c + 2) j = S.2.1 (c + 2) j) → keepL acc ((cs.drop k).map (cutAt a b)) = keepL [] (cs.map (cutAt a b)) → X G E mX1_forget 2 Q S1 23 [some (.ref c), some (.int (nI (10 * a + b))), some (.int (nI cs.length)), some (.int (nI k)), none, none] [] := by
  have h18 := hc.ok.l18
  rw [List.length_map] at h18
  intro t
  induction t with
  | zero =>
    intro k S1 acc h1 h2 h3 h4 h5 h6 h7 h8
    have e9 : acc = keepL [] (cs.map (cutAt a b)) := by rw [← h8, List.drop_of_length_le (by omega)]; rfl
    refine X_iload_n (i := 3) hB dX1_forget_23 rfl rfl ?_
    refine X_iload_n (i := 2) hB dX1_forget_24 rfl rfl ?_
    refine X_icmp_ge (tgt := 113) hB dX1_forget_25 (by decide) (fun c25 => ?_) (fun c25 => absurd c25 (by simp (disch := omega) only [nlit, nI_leI, nI_ltI]; omega))
    refine X_vret hB rfl dX1_forget_113 ?_
    exact kk S1 acc h3 h4 h5 e9
  | succ t ih =>
    intro k S1 acc h1 h2 h3 h4 h5 h6 h7 h8
    have hk : k < cs.length := by omega
    have hE := hc.ok.1 _ (getD_mem (d := []) hk)
    have hER := hE.R
    have hEn : (cs.getD k []).Nodup := hE.2.2.2.1
    have hCR : okR (cutAt a b (cs.getD k [])) := by
      have q := cut_ix hEn (a := a) (b := b)
      rw [q]
      split
      · exact hER.take _
      · exact hER
    have hC8 := hCR.1
    have href : S1.2.2 c 1 = some (c + 1) := by rw [h4]; exact hc.1
    have hrd : S1.2.1 (c + 2) k = rJ (cs.getD k []) := by rw [h7 k (Nat.le_refl _), ← map_getD]; exact hc.rc.2.2 k (by rw [List.length_map]; exact hk)
    have hla : (acc.map rJ).length ≤ 18 := by rw [List.length_map]; omega
    have hdr : cs.drop k = (cs.getD k []) :: cs.drop (k + 1) := by rw [List.drop_eq_getElem_cons hk, getD_lt hk]
    rw [hdr, List.map_cons] at h8
    have hd10 := nI_div10 (10 * a + b) (by omega)
    refine X_iload_n (i := 3) hB dX1_forget_23 rfl rfl ?_
    refine X_iload_n (i := 2) hB dX1_forget_24 rfl rfl ?_
    refine X_icmp_ge (tgt := 113) hB dX1_forget_25 (by decide) (fun c25 => absurd c25 (by simp (disch := omega) only [nlit, nI_leI, nI_ltI]; omega)) (fun c25 => ?_)
    refine X_iload_n (i := 3) hB dX1_forget_28 rfl rfl ?_
    refine X_bipush (v := 18) hB dX1_forget_29 (by decide) ?_
    refine X_icmp_ge (tgt := 113) hB dX1_forget_31 (by decide) (fun c31 => absurd c31 (by simp (disch := omega) only [nlit, nI_leI, nI_ltI]; omega)) (fun c31 => ?_)
    refine X_aload_n (i := 0) hB dX1_forget_34 rfl rfl ?_
    refine X_getr hB cw1 fX1_16 rfl hL.1.1 hL.1.2 href dX1_forget_35 ?_
    refine X_getr hB cw6 fX1_64 rfl hL.2.1.1 hL.2.1.2 h5.1 dX1_forget_38 ?_
    refine X_iload_n (i := 3) hB dX1_forget_41 rfl rfl ?_
    refine X_laldN hB (k) hL.2.2.1.1 hL.2.2.1.2 (by decide) rfl (by omega) hrd dX1_forget_42 ?_
    refine X_iload_n (i := 1) hB dX1_forget_43 rfl rfl ?_
    refine X_bipush (v := 10) hB dX1_forget_44 (by decide) ?_
    refine X_idiv hB dX1_forget_46 (by decide) ?_
    refine X_topi (y := nI a) (by rw [hd10.1, show (10 * a + b) / 10 = a by omega]) ?_
    refine X_iload_n (i := 1) hB dX1_forget_47 rfl rfl ?_
    refine X_bipush (v := 10) hB dX1_forget_48 (by decide) ?_
    refine X_irem hB dX1_forget_50 (by decide) ?_
    refine X_topi (y := nI b) (by rw [hd10.2, show (10 * a + b) % 10 = b by omega]) ?_
    refine X_callS hB kX1_68 (c_X1_cut (cs.getD k []) hER hEn ha hb) (by decide) (by decide) rfl rfl (Nat.le_of_ble_eq_true rfl) dX1_forget_51 (fun r51 S51 q51 => ?_)
    obtain ⟨rfl, rfl⟩ := q51
    refine X_lstore hB dX1_forget_54 (by decide) rfl ?_
    refine X_lload hB dX1_forget_56 rfl ?_
    refine X_callS hB kX1_43 (c_X8_length (cutAt a b (cs.getD k [])) hCR) (by decide) (by decide) rfl rfl (Nat.le_of_ble_eq_true rfl) dX1_forget_58 (fun r58 S58 q58 => ?_)
    obtain ⟨rfl, rfl⟩ := q58
    refine X_iconst (v := 1) hB dX1_forget_61 (by decide) ?_
    refine X_icmp_le (tgt := 107) hB dX1_forget_62 (by decide) (fun c62 => ?_) (fun c62 => ?_)
    · refine X_iinc hB dX1_forget_107 rfl rfl (by decide) rfl ?_
      refine X_goto (tgt := 23) hB dX1_forget_110 (by decide) ?_
      rw [keepL_vain (Or.inl (by rw [show (1 : Int32) = nI 1 from rfl, nI_leI (by omega) (by omega)] at c62; omega))] at h8
      exact X_dl [some (.ref c), some (.int (nI (10 * a + b))), some (.int (nI cs.length)), some (.int (nI (k + 1))), none, none] ⟨rfl, rfl, rfl, by rw [nI_succ k]; rfl, trivial⟩ (ih (k + 1) S1 acc (by omega) (by omega) h3 h4 h5 h6 (fun j hj => h7 j (by omega)) h8)
    · refine X_aload_n (i := 0) hB dX1_forget_65 rfl rfl ?_
      refine X_getr hB cw1 fX1_16 rfl hL.1.1 hL.1.2 href dX1_forget_66 ?_
      refine X_lload hB dX1_forget_69 rfl ?_
      refine X_callV hB kX1_72 cw6 hL.2.1.1 hL.2.1.2 (c_X7_holds (c + 1) 18 hL.2 (acc.map rJ) h5 hla (rJ (cutAt a b (cs.getD k [])))) (by decide) (by decide) rfl rfl (Nat.le_of_ble_eq_true rfl) dX1_forget_71 (fun r71 S71 q71 => ?_)
      obtain ⟨rfl, rfl⟩ := q71
      refine X_if_ne (tgt := 107) hB dX1_forget_74 (by decide) (fun c74 => ?_) (fun c74 => ?_)
      · refine X_iinc hB dX1_forget_107 rfl rfl (by decide) rfl ?_
        refine X_goto (tgt := 23) hB dX1_forget_110 (by decide) ?_
        rw [keepL_vain (Or.inr ((map_mem h6 hCR).mp (if1 c74)))] at h8
        exact X_dl [some (.ref c), some (.int (nI (10 * a + b))), some (.int (nI cs.length)), some (.int (nI (k + 1))), none, none] ⟨rfl, rfl, rfl, by rw [nI_succ k]; rfl, trivial⟩ (ih (k + 1) S1 acc (by omega) (by omega) h3 h4 h5 h6 (fun j hj => h7 j (by omega)) h8)
      · refine X_aload_n (i := 0) hB dX1_forget_77 rfl rfl ?_
        refine X_getr hB cw1 fX1_16 rfl hL.1.1 hL.1.2 href dX1_forget_78 ?_
        refine X_getr hB cw6 fX1_64 rfl hL.2.1.1 hL.2.1.2 h5.1 dX1_forget_81 ?_
        refine X_aload_n (i := 0) hB dX1_forget_84 rfl rfl ?_
        refine X_getr hB cw1 fX1_16 rfl hL.1.1 hL.1.2 href dX1_forget_85 ?_
        refine X_geti hB cw6 fX1_34 rfl hL.2.1.1 hL.2.1.2 dX1_forget_88 ?_
        refine X_topi (y := nI acc.length) (by rw [h5.2.1, List.length_map]) ?_
        refine X_lload hB dX1_forget_91 rfl ?_
        refine X_lastN hB (acc.length) hL.2.2.1.1 hL.2.2.1.2 (by decide) rfl (by omega) dX1_forget_93 ?_
        generalize hSj : setJ S1 (c + 2) acc.length (rJ (cutAt a b (cs.getD k []))) = Sj
        have fj : chg (c + 1) (c + 3) S1 Sj := hSj ▸ chg.setJ (by omega) (by omega)
        have rj : Sj.2.2 = S1.2.2 := by rw [← hSj]; rfl
        have ij : Sj.1 = S1.1 := by rw [← hSj]; rfl
        have wj : ∀ j, Sj.2.1 (c + 2) j = if j = acc.length then rJ (cutAt a b (cs.getD k [])) else S1.2.1 (c + 2) j := fun j => by
          rw [← hSj]
          by_cases e : j = acc.length
          · rw [if_pos e, e, setJ_at]
          · rw [if_neg e, setJ_ne _ _ (Or.inr e)]
        clear hSj
        have href : Sj.2.2 c 1 = some (c + 1) := by rw [rj]; exact href
        refine X_aload_n (i := 0) hB dX1_forget_94 rfl rfl ?_
        refine X_getr hB cw1 fX1_16 rfl hL.1.1 hL.1.2 href dX1_forget_95 ?_
        refine X_dup hB dX1_forget_98 rfl ?_
        refine X_geti hB cw6 fX1_34 rfl hL.2.1.1 hL.2.1.2 dX1_forget_99 ?_
        refine X_topi (y := nI acc.length) (by rw [ij, h5.2.1, List.length_map]) ?_
        refine X_iconst (v := 1) hB dX1_forget_102 (by decide) ?_
        refine X_iadd hB dX1_forget_103 ?_
        refine X_topi (y := nI (acc.length + 1)) (by first | rfl | (simp (disch := omega) only [nlit, nI_add, nI_mul, nI_sub]; done) | (simp (disch := omega) only [nlit, nI_add, nI_mul, nI_sub]; (congr 1 <;> omega))) ?_
        refine X_puti hB cw6 fX1_34 rfl rfl hL.2.1.1 hL.2.1.2 dX1_forget_104 ?_
        generalize hSq : setI Sj (c + 1) 1 (nI (acc.length + 1)) = Sq
        have fq : chg (c + 1) (c + 3) S1 Sq := fj.tr (hSq ▸ chg.setI (by omega) (by omega))
        have rq : Sq.2.2 = S1.2.2 := by rw [← hSq]; exact rj
        have nq : rcR Sq (c + 1) ((acc ++ [(cutAt a b (cs.getD k []))]).map rJ) := by
          refine ⟨by rw [rq]; exact h5.1, ?_, fun i hi => ?_⟩
          · rw [← hSq, setI_at, List.length_map, List.length_append, List.length_singleton]
          · rw [List.length_map, List.length_append, List.length_singleton] at hi
            rw [← hSq]
            show Sj.2.1 (c + 2) i = _
            rw [wj, map_getD]
            by_cases e : i = acc.length
            · rw [if_pos e, e]
              simp
            · rw [if_neg e]
              have q := h5.2.2 i (by rw [List.length_map]; omega)
              rw [map_getD] at q
              rw [show (acc ++ [(cutAt a b (cs.getD k []))]).getD i [] = acc.getD i [] by simp [List.getElem?_append_left (show i < acc.length by omega)]]
              exact q
        have wq : ∀ j, acc.length < j → Sq.2.1 (c + 2) j = S1.2.1 (c + 2) j := fun j hj => by
          rw [← hSq]
          show Sj.2.1 (c + 2) j = _
          rw [wj, if_neg (by omega)]
        clear hSq
        refine X_iinc hB dX1_forget_107 rfl rfl (by decide) rfl ?_
        refine X_goto (tgt := 23) hB dX1_forget_110 (by decide) ?_
        have hnew : ¬ ((cutAt a b (cs.getD k [])).length < 2 ∨ (cutAt a b (cs.getD k [])) ∈ acc) := fun q => q.elim (fun z => by rw [show (1 : Int32) = nI 1 from rfl, nI_leI (by omega) (by omega)] at c62; omega) (fun z => if1n c74 ((map_mem h6 hCR).mpr z))
        rw [keepL_new hnew] at h8
        exact X_dl [some (.ref c), some (.int (nI (10 * a + b))), some (.int (nI cs.length)), some (.int (nI (k + 1))), none, none] ⟨rfl, rfl, rfl, by rw [nI_succ k]; rfl, trivial⟩ (ih (k + 1) Sq (acc ++ [(cutAt a b (cs.getD k []))]) (by omega) (by rw [List.length_append, List.length_singleton]; omega) (h3.tr fq) (rq.trans h4) nq (fun e he => (List.mem_append.mp he).elim (h6 e) (fun z => by rw [List.mem_singleton.mp z]; exact hCR)) (fun j hj => (wq j (by omega)).trans (h7 j (by omega))) h8)
set_option maxRecDepth 100000 in
set_option maxHeartbeats 4000000 in
theorem c_X1_forget (c n hops room : Nat) (mp : Bool) (cs : List (List Nat)) (hL : CaLay G c) (hc : caR S c n mp hops room cs) (o : Option (Nat × Nat)) (ho : lkOk o) : C G mX1_forget 2 [.ref c, .int (lkN o)] S (fun r S' => r = none ∧ chg (c + 1) (c + 3) S S' ∧ S'.2.2 = S.2.2 ∧ caR S' c n mp hops room (forgetO mp o cs)) := by
  have h18 := hc.ok.l18
  rw [List.length_map] at h18
  have hcnt : S.1 (c + 1) 1 = nI cs.length := by rw [hc.rc.2.1, List.length_map]
  refine C.mk (lv := [some (.ref c), some (.int (lkN o)), none, none, none, none]) (by decide) (Nat.le_of_ble_eq_true rfl) rfl (fun E hB => ?_)
  refine X_iload_n (i := 1) hB dX1_forget_0 rfl rfl ?_
  refine X_if_ge (tgt := 5) hB dX1_forget_1 (by decide) (fun c1 => ?_) (fun c1 => ?_)
  · obtain ⟨⟨a, b⟩, rfl⟩ : ∃ q, o = some q := by
      cases o with
      | none => exact absurd c1 (by decide)
      | some q => exact ⟨q, rfl⟩
    have hab := ho (a, b) rfl
    have hab1 : a < b := hab.1
    have hab2 : b < 8 := hab.2
    refine X_aload_n (i := 0) hB dX1_forget_5 rfl rfl ?_
    refine X_getr hB cw1 fX1_16 rfl hL.1.1 hL.1.2 hc.1 dX1_forget_6 ?_
    refine X_geti hB cw6 fX1_34 rfl hL.2.1.1 hL.2.1.2 dX1_forget_9 ?_
    refine X_topi (y := nI cs.length) (hcnt) ?_
    refine X_istore_n (i := 2) hB dX1_forget_12 rfl (by decide) rfl ?_
    refine X_aload_n (i := 0) hB dX1_forget_13 rfl rfl ?_
    refine X_getr hB cw1 fX1_16 rfl hL.1.1 hL.1.2 hc.1 dX1_forget_14 ?_
    refine X_iconst (v := 0) hB dX1_forget_17 (by decide) ?_
    refine X_puti hB cw6 fX1_34 rfl rfl hL.2.1.1 hL.2.1.2 dX1_forget_18 ?_
    refine X_iconst (v := 0) hB dX1_forget_21 (by decide) ?_
    refine X_istore_n (i := 3) hB dX1_forget_22 rfl (by decide) rfl ?_
    have r0 : rcR (setI S (c + 1) 1 0) (c + 1) (([] : List (List Nat)).map rJ) := ⟨hc.rc.1, by rw [setI_at]; rfl, fun i hi => absurd hi (Nat.not_lt_zero i)⟩
    refine X_dl [some (.ref c), some (.int (nI (10 * a + b))), some (.int (nI cs.length)), some (.int (nI 0)), none, none] ⟨rfl, rfl, rfl, by rw [nI_0], trivial⟩ (l_X1_forget hB c n hops room mp cs hL hc a b (by omega) hab2 (fun S1 acc g1 g2 g3 g4 => ⟨rfl, g1, g2, ?_⟩) cs.length 0 _ [] (by omega) (Nat.le_refl _) (chg.setI (by omega) (by omega)) rfl r0 (fun e he => absurd he List.not_mem_nil) (fun j _ => rfl) (by rw [List.drop_zero]))
    rw [keep_forget hc.ok hc.2.2.2.2.2.2.2.1 (by omega)] at g4
    subst g4
    exact hc.up g1 g3 (okC_forget hc.ok) (forget_srt hc.2.2.2.2.2.2.2.1)
  · refine X_vret hB rfl dX1_forget_4 ?_
    have e1 : o = none := by
      cases o with
      | none => rfl
      | some q => exact absurd (nI_pos' (by have := ho q rfl; omega)) c1
    subst e1
    exact ⟨rfl, chg.rf, rfl, hc⟩
end CLS
