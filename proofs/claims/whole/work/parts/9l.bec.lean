/-! the class: a world becomes what was read -/
def nwN (pr : Ps) (se : Nat → Nat) : Net := ((fun k => if k < 8 then pSe pr k else se k), 0, fun _ => 0, pUp pr, fun n => (pMp pr n, !pDf pr n, [], [], [], 0, none, fun _ => none), [], [])
theorem nwN_wf {pr : Ps} {se : Nat → Nat} {b : Nat} (h1 : seOk (pSe pr)) (h2 : upOk (pSe pr 0) (pUp pr)) (hb : b < 100000) : wfN (nwN pr se) b := by
  refine ⟨h1, ⟨Nat.zero_le _, Nat.zero_le _⟩, fun n hn => ⟨⟨fun e he => absurd he List.not_mem_nil, Nat.zero_le _, h1.2.2.1.1, h1.2.2.1.2, List.nodup_nil⟩, fun _ e he => absurd he List.not_mem_nil, Nat.zero_le _, fun q he => absurd he List.not_mem_nil, Nat.zero_le _, List.nodup_nil, Nat.zero_le _, fun q e => (by cases e), fun t k e => (by cases e)⟩, fun f hf => absurd hf List.not_mem_nil, fun f hf => absurd hf List.not_mem_nil, List.nodup_nil, h2, fun n hn d hd => absurd hd List.not_mem_nil, Nat.zero_le _, hb⟩
theorem nwN_bc {pr : Ps} {se : Nat → Nat} : bcN (nwN pr se) := fun d hd => absurd hd (Nat.not_lt_zero _)
theorem nwN_cv {pr : Ps} {se : Nat → Nat} : cvN (nwN pr se) := ⟨fun d hd => absurd hd (Nat.not_lt_zero _), fun n _ _ => ⟨rfl, rfl, fun _ => rfl⟩, fun n t _ h => absurd rfl h⟩
theorem poR_new {S : St} {p n : Nat} {pr : Ps} {se : Nat → Nat} (hD : poD S p n) (h3 : S.1 p 3 = 0) (h4 : S.1 p 4 = 0) (h5 : S.1 p 5 = -1) (h6 : S.1 p 6 = 0) (h8 : S.1 p 8 = (if pDf pr n then 0 else 1)) (hr : S.1 (p + 1) 1 = 0) (hc : caR S (p + 5) n (pMp pr n) (pSe pr 1) (pSe pr 2) []) : poR S p n (nSe (nwN pr se)) (nNd (nwN pr se) n) := by
  refine ⟨hD.1, ⟨h3, h4, h5, ?_, ?_, fun k hk => absurd hk (Nat.not_lt_zero _), fun t ht s e => by cases e⟩, hc, ⟨hD.2.2.2.2.1, hr, fun i hi => absurd hi (Nat.not_lt_zero _)⟩, Nat.zero_le _, Nat.zero_le _⟩
  · rw [h6]
    exact congrArg nI (bts_f 8).symm
  · rw [h8]
    show _ = if (!pDf pr n) = true then 1 else 0
    cases pDf pr n <;> rfl
section CLS
variable {G : Gc} {S : St}
set_option maxRecDepth 100000 in
set_option maxHeartbeats 4000000 in
theorem c_X5_begin (p n : Nat) (hL : PoLay G p) (hD : poD S p n) (df : Bool) : C G mX5_begin 0 [.ref p, .int (if df then 1 else 0)] S (fun r S' => r = none ∧ chg p (p + 2) S S' ∧ S'.2.2 = S.2.2 ∧ S'.1 p 3 = 0 ∧ S'.1 p 4 = 0 ∧ S'.1 p 5 = -1 ∧ S'.1 p 6 = 0 ∧ S'.1 p 8 = (if df then 0 else 1) ∧ S'.1 (p + 1) 1 = 0) := by
  refine C.mk (lv := [some (.ref p), some (.int (if df then 1 else 0))]) (by decide) (Nat.le_of_ble_eq_true rfl) rfl (fun E hB => ?_)
  refine X_aload_n (i := 0) hB dX5_begin_0 rfl rfl ?_
  refine X_getr hB cw4 fX5_14 rfl hL.1.1 hL.1.2 hD.1.2.1 dX5_begin_1 ?_
  refine X_iconst (v := 0) hB dX5_begin_4 (by decide) ?_
  refine X_puti hB cw6 fX5_34 rfl rfl hL.2.1.1.1 hL.2.1.1.2 dX5_begin_5 ?_
  refine X_aload_n (i := 0) hB dX5_begin_8 rfl rfl ?_
  refine X_iconst (v := 0) hB dX5_begin_9 (by decide) ?_
  refine X_puti hB cw4 fX5_38 rfl rfl hL.1.1 hL.1.2 dX5_begin_10 ?_
  refine X_aload_n (i := 0) hB dX5_begin_13 rfl rfl ?_
  refine X_iconst (v := 0) hB dX5_begin_14 (by decide) ?_
  refine X_puti hB cw4 fX5_41 rfl rfl hL.1.1 hL.1.2 dX5_begin_15 ?_
  refine X_aload_n (i := 0) hB dX5_begin_18 rfl rfl ?_
  refine X_iconst (v := (-1)) hB dX5_begin_19 (by decide) ?_
  refine X_puti hB cw4 fX5_44 rfl rfl hL.1.1 hL.1.2 dX5_begin_20 ?_
  refine X_aload_n (i := 0) hB dX5_begin_23 rfl rfl ?_
  refine X_iconst (v := 0) hB dX5_begin_24 (by decide) ?_
  refine X_puti hB cw4 fX5_47 rfl rfl hL.1.1 hL.1.2 dX5_begin_25 ?_
  refine X_aload_n (i := 0) hB dX5_begin_28 rfl rfl ?_
  refine X_iload_n (i := 1) hB dX5_begin_29 rfl rfl ?_
  refine X_if_ne (tgt := 37) hB dX5_begin_30 (by decide) (fun c30 => ?_) (fun c30 => ?_)
  · refine X_iconst (v := 0) hB dX5_begin_37 (by decide) ?_
    refine X_putz hB cw4 fX5_50 rfl rfl (by first | exact Or.inl rfl | exact Or.inr rfl) hL.1.1 hL.1.2 dX5_begin_38 ?_
    refine X_vret hB rfl dX5_begin_41 ?_
    refine ⟨rfl, ?_, rfl, ?_, ?_, ?_, ?_, ?_, ?_⟩
    · exact (((((chg.setI (by omega) (by omega)).tr (chg.setI (by omega) (by omega))).tr (chg.setI (by omega) (by omega))).tr (chg.setI (by omega) (by omega))).tr (chg.setI (by omega) (by omega))).tr (chg.setI (by omega) (by omega))
    · rw [setI_ne _ _ (Or.inr (by decide)), setI_ne _ _ (Or.inr (by decide)), setI_ne _ _ (Or.inr (by decide)), setI_ne _ _ (Or.inr (by decide)), setI_at]
    · rw [setI_ne _ _ (Or.inr (by decide)), setI_ne _ _ (Or.inr (by decide)), setI_ne _ _ (Or.inr (by decide)), setI_at]
    · rw [setI_ne _ _ (Or.inr (by decide)), setI_ne _ _ (Or.inr (by decide)), setI_at]
    · rw [setI_ne _ _ (Or.inr (by decide)), setI_at]
    · rw [setI_at]; cases df <;> first | rfl | exact absurd rfl c30 | exact absurd c30 (by decide)
    · rw [setI_ne _ _ (Or.inl (by omega)), setI_ne _ _ (Or.inl (by omega)), setI_ne _ _ (Or.inl (by omega)), setI_ne _ _ (Or.inl (by omega)), setI_ne _ _ (Or.inl (by omega)), setI_at]
  · refine X_iconst (v := 1) hB dX5_begin_33 (by decide) ?_
    refine X_goto (tgt := 38) hB dX5_begin_34 (by decide) ?_
    refine X_putz hB cw4 fX5_50 rfl rfl (by first | exact Or.inl rfl | exact Or.inr rfl) hL.1.1 hL.1.2 dX5_begin_38 ?_
    refine X_vret hB rfl dX5_begin_41 ?_
    refine ⟨rfl, ?_, rfl, ?_, ?_, ?_, ?_, ?_, ?_⟩
    · exact (((((chg.setI (by omega) (by omega)).tr (chg.setI (by omega) (by omega))).tr (chg.setI (by omega) (by omega))).tr (chg.setI (by omega) (by omega))).tr (chg.setI (by omega) (by omega))).tr (chg.setI (by omega) (by omega))
    · rw [setI_ne _ _ (Or.inr (by decide)), setI_ne _ _ (Or.inr (by decide)), setI_ne _ _ (Or.inr (by decide)), setI_ne _ _ (Or.inr (by decide)), setI_at]
    · rw [setI_ne _ _ (Or.inr (by decide)), setI_ne _ _ (Or.inr (by decide)), setI_ne _ _ (Or.inr (by decide)), setI_at]
    · rw [setI_ne _ _ (Or.inr (by decide)), setI_ne _ _ (Or.inr (by decide)), setI_at]
    · rw [setI_ne _ _ (Or.inr (by decide)), setI_at]
    · rw [setI_at]; cases df <;> first | rfl | exact absurd rfl c30 | exact absurd c30 (by decide)
    · rw [setI_ne _ _ (Or.inl (by omega)), setI_ne _ _ (Or.inl (by omega)), setI_ne _ _ (Or.inl (by omega)), setI_ne _ _ (Or.inl (by omega)), setI_ne _ _ (Or.inl (by omega)), setI_at]
set_option maxRecDepth 100000 in
set_option maxHeartbeats 4000000 in
theorem t_X10_become {E : Ev} (hB : Bd G E mX10_become) {Q : Option Value → St → Prop} (w d : Nat) (hW : WLay G w) (h1 : S.2.2 w 1 = some (w + 2)) (kk : ∀ S1, S1.2 = S.2 → (∀ a, a ≠ w + 2 → S1.1 a = S.1 a) → (∀ k, k < 11 → S1.1 (w + 2) k = 0) → X G E mX10_become 1 Q S1 36 [some (.ref w), some (.ref d), some (.int (nI 11))] []) :
    ∀ (j n : Nat) (S1 : St), n + j = 11 → S1.2 = S.2 → (∀ a, a ≠ w + 2 → S1.1 a = S.1 a) → (∀ m, m < n → S1.1 (w + 2) m = 0) → X G E mX10_become 1 Q S1 17 [some (.ref w), some (.ref d), some (.int (nI n))] [] := by
  intro j
  induction j with
  | zero =>
    intro n S1 g1 g2 g3 g4
    have e9 : n = 11 := by omega
    subst e9
    refine X_iload_n (i := 2) hB dX10_become_17 rfl rfl ?_
    refine X_bipush (v := 11) hB dX10_become_18 (by decide) ?_
    refine X_icmp_ge (tgt := 36) hB dX10_become_20 (by decide) (fun c20 => ?_) (fun c20 => absurd c20 (by simp (disch := omega) only [nlit, nI_leI, nI_ltI]; omega))
    exact kk S1 g2 g3 g4
  | succ j ih =>
    intro n S1 g1 g2 g3 g4
    refine X_iload_n (i := 2) hB dX10_become_17 rfl rfl ?_
    refine X_bipush (v := 11) hB dX10_become_18 (by decide) ?_
    refine X_icmp_ge (tgt := 36) hB dX10_become_20 (by decide) (fun c20 => absurd c20 (by simp (disch := omega) only [nlit, nI_leI, nI_ltI]; omega)) (fun c20 => ?_)
    refine X_aload_n (i := 0) hB dX10_become_23 rfl rfl ?_
    refine X_getr hB cw8 fX10_15 rfl hW.1.1 hW.1.2 (show S1.2.2 w 1 = some (w + 2) by rw [g2]; exact h1) dX10_become_24 ?_
    refine X_iload_n (i := 2) hB dX10_become_27 rfl rfl ?_
    refine X_iconst (v := 0) hB dX10_become_28 (by decide) ?_
    refine X_iastN hB (n) hW.2.2.1.1 hW.2.2.1.2 (by decide) rfl (by omega) dX10_become_29 ?_
    refine X_iinc hB dX10_become_30 rfl rfl (by decide) rfl ?_
    refine X_goto (tgt := 17) hB dX10_become_33 (by decide) ?_
    refine X_lv ?_ (ih (n + 1) _ (by omega) g2 (fun a ha => (setI_row _ _ _ ha).trans (g3 a ha)) (fun m hm => ?_))
    · rw [nI_succ]; rfl
    · by_cases z : m = n
      · rw [z, setI_at]
      · rw [setI_ne _ _ (Or.inr z)]; exact g4 m (by omega)
set_option maxRecDepth 100000 in
set_option maxHeartbeats 4000000 in
theorem p_X10_become {E : Ev} (hB : Bd G E mX10_become) {Q : Option Value → St → Prop} (w d : Nat) (hW : WLay G w) (hL : RdLay G d) (hwd : d + 3 ≤ w ∨ w + 152 ≤ d) (pr : Ps) (se : Nat → Nat) (hse : seOk (pSe pr)) (hF : wdF S w) (hs : ∀ k, k < 8 → S.1 (w + 1) k = nI (pSe pr k)) (hm : S.1 d 2 = nI (bts (pMp pr) 8)) (hd : S.1 d 3 = nI (bts (pDf pr) 8)) (kk : ∀ S1, chg (w + 48) (w + 112) S S1 → S1.2.2 = S.2.2 → (∀ m, m < 8 → poR S1 (pA w m) m (nSe (nwN pr se)) (nNd (nwN pr se) m)) → Q none S1) :
    ∀ (j n : Nat) (S1 : St), n + j = 8 → chg (w + 48) (w + 112) S S1 → S1.2.2 = S.2.2 → (∀ m, m < n → poR S1 (pA w m) m (nSe (nwN pr se)) (nNd (nwN pr se) m)) → (∀ m, m < 8 → n ≤ m → poD S1 (pA w m) m) → X G E mX10_become 1 Q S1 64 [some (.ref w), some (.ref d), some (.int (nI n))] [] := by
  intro j
  induction j with
  | zero =>
    intro n S1 g1 g2 g3 g4 g5
    have e9 : n = 8 := by omega
    subst e9
    refine X_iload_n (i := 2) hB dX10_become_64 rfl rfl ?_
    refine X_bipush (v := 8) hB dX10_become_65 (by decide) ?_
    refine X_icmp_ge (tgt := 141) hB dX10_become_67 (by decide) (fun c67 => ?_) (fun c67 => absurd c67 (by simp (disch := omega) only [nlit, nI_leI, nI_ltI]; omega))
    refine X_vret hB rfl dX10_become_141 ?_
    exact kk S1 g2 g3 g4
  | succ j ih =>
    intro n S1 g1 g2 g3 g4 g5
    have hn8 : n < 8 := by omega
    have hP : PoLay G (pA w n) := hW.2.2.2.2.2.2.2.2.1 n hn8
    have hD := g5 n hn8 (Nat.le_refl _)
    have hw1 : ∀ {U : St}, U.2.2 = S.2.2 → U.2.2 (w + 46) n = some (pA w n) := fun e => by rw [e]; exact hF.2.2.2.2.2.2.1 n hn8
    have hw3 : ∀ {U : St}, U.2.2 = S.2.2 → U.2.2 w 3 = some (w + 46) := fun e => by rw [e]; exact hF.2.2.2.1
    have hw0 : ∀ {U : St}, U.2.2 = S.2.2 → U.2.2 w 0 = some (w + 1) := fun e => by rw [e]; exact hF.1
    refine X_iload_n (i := 2) hB dX10_become_64 rfl rfl ?_
    refine X_bipush (v := 8) hB dX10_become_65 (by decide) ?_
    refine X_icmp_ge (tgt := 141) hB dX10_become_67 (by decide) (fun c67 => absurd c67 (by simp (disch := omega) only [nlit, nI_leI, nI_ltI]; omega)) (fun c67 => ?_)
    refine X_aload_n (i := 0) hB dX10_become_70 rfl rfl ?_
    refine X_getr hB cw8 fX10_27 rfl hW.1.1 hW.1.2 (hw3 g3) dX10_become_71 ?_
    refine X_iload_n (i := 2) hB dX10_become_74 rfl rfl ?_
    refine X_aaldN hB (n) hW.2.2.2.2.2.2.1.1 hW.2.2.2.2.2.2.1.2 (by decide) rfl (by decide) rfl (by omega) (hw1 (U := S1) g3) dX10_become_75 ?_
    refine X_aload_n (i := 1) hB dX10_become_76 rfl rfl ?_
    refine X_geti hB cw5 fX10_65 rfl hL.1.1 hL.1.2 dX10_become_77 ?_
    refine X_topi (y := nI (bts (pDf pr) 8)) (by rw [(g2 _ (by omega)).1]; exact hd) ?_
    refine X_iload_n (i := 2) hB dX10_become_80 rfl rfl ?_
    refine X_ishr hB dX10_become_81 ?_
    refine X_iconst (v := 1) hB dX10_become_82 (by decide) ?_
    refine X_iand hB dX10_become_83 ?_
    refine X_topi (y := if pDf pr n then 1 else 0) (bts_tst _ hn8) ?_
    refine X_if_eq (tgt := 91) hB dX10_become_84 (by decide) (fun c84 => ?_) (fun c84 => ?_)
    · refine X_iconst (v := 0) hB dX10_become_91 (by decide) ?_
      refine X_topi (y := if pDf pr n then 1 else 0) (by rw [if_neg (if1n c84)]) ?_
      refine X_callV hB kX10_68 cw4 hP.1.1 hP.1.2 (c_X5_begin (pA w n) n hP hD (pDf pr n)) (by decide) (by decide) rfl rfl (Nat.le_of_ble_eq_true rfl) dX10_become_92 (fun r92 S92 q92 => ?_)
      obtain ⟨rfl, k1, k2, k3, k4, k5, k6, k8, kr⟩ := q92
      have r2 := k2.trans g3
      have c2 := g2.tr (k1.mono (lo' := w + 48) (hi' := w + 112) (by unfold pA; omega) (by unfold pA; omega))
      have f5 := k1 (pA w n + 5) (by omega)
      have hD2 : poD S92 (pA w n) n := by
        unfold poD poF
        rw [k2, f5.1]
        exact hD
      refine X_aload_n (i := 0) hB dX10_become_95 rfl rfl ?_
      refine X_getr hB cw8 fX10_27 rfl hW.1.1 hW.1.2 (hw3 r2) dX10_become_96 ?_
      refine X_iload_n (i := 2) hB dX10_become_99 rfl rfl ?_
      refine X_aaldN hB (n) hW.2.2.2.2.2.2.1.1 hW.2.2.2.2.2.2.1.2 (by decide) rfl (by decide) rfl (by omega) (hw1 (U := S92) r2) dX10_become_100 ?_
      refine X_getr hB cw4 fX10_72 rfl hP.1.1 hP.1.2 hD2.1.1 dX10_become_101 ?_
      refine X_aload_n (i := 1) hB dX10_become_104 rfl rfl ?_
      refine X_geti hB cw5 fX10_76 rfl hL.1.1 hL.1.2 dX10_become_105 ?_
      refine X_topi (y := nI (bts (pMp pr) 8)) (by rw [(c2 _ (by omega)).1]; exact hm) ?_
      refine X_iload_n (i := 2) hB dX10_become_108 rfl rfl ?_
      refine X_ishr hB dX10_become_109 ?_
      refine X_iconst (v := 1) hB dX10_become_110 (by decide) ?_
      refine X_iand hB dX10_become_111 ?_
      refine X_topi (y := if pMp pr n then 1 else 0) (bts_tst _ hn8) ?_
      refine X_if_eq (tgt := 119) hB dX10_become_112 (by decide) (fun c112 => ?_) (fun c112 => ?_)
      · refine X_iconst (v := 0) hB dX10_become_119 (by decide) ?_
        refine X_topi (y := if pMp pr n then 1 else 0) (by rw [if_neg (if1n c112)]) ?_
        refine X_aload_n (i := 0) hB dX10_become_120 rfl rfl ?_
        refine X_getr hB cw8 fX10_9 rfl hW.1.1 hW.1.2 (hw0 r2) dX10_become_121 ?_
        refine X_iconst (v := 1) hB dX10_become_124 (by decide) ?_
        refine X_ialdN hB (1) hW.2.1.1 hW.2.1.2 (by decide) rfl (by decide) (show S92.1 (w + 1) 1 = nI (pSe pr 1) by rw [(c2 _ (by omega)).1]; exact hs 1 (by decide)) dX10_become_125 ?_
        refine X_aload_n (i := 0) hB dX10_become_126 rfl rfl ?_
        refine X_getr hB cw8 fX10_9 rfl hW.1.1 hW.1.2 (hw0 r2) dX10_become_127 ?_
        refine X_iconst (v := 2) hB dX10_become_130 (by decide) ?_
        refine X_ialdN hB (2) hW.2.1.1 hW.2.1.2 (by decide) rfl (by decide) (show S92.1 (w + 1) 2 = nI (pSe pr 2) by rw [(c2 _ (by omega)).1]; exact hs 2 (by decide)) dX10_become_131 ?_
        refine X_callV hB kX10_79 cw1 hP.2.2.2.2.1.1 hP.2.2.2.2.1.2 (c_X1_begin (pA w n + 5) n hP.2.2.2.2 hn8 hD2.2.2.1 hD2.2.2.2.1 hD2.2.1 (pMp pr n) (pSe pr 1) (pSe pr 2) hse.2.1.2 hse.2.2.1) (by decide) (by decide) rfl rfl (Nat.le_of_ble_eq_true rfl) dX10_become_132 (fun r132 S132 q132 => ?_)
        obtain ⟨rfl, m1, m2, m3⟩ := q132
        have c3 := c2.tr (m1.mono (lo' := w + 48) (hi' := w + 112) (by unfold pA; omega) (by unfold pA; omega))
        have cp : chg (pA w n) (pA w n + 8) S1 S132 := (k1.mono (by omega) (by omega)).tr (m1.mono (by omega) (by omega))
        have e0 := m1 (pA w n) (by omega)
        have e1 := m1 (pA w n + 1) (by omega)
        refine X_iinc hB dX10_become_135 rfl rfl (by decide) rfl ?_
        refine X_goto (tgt := 64) hB dX10_become_138 (by decide) ?_
        refine X_lv ?_ (ih (n + 1) S132 (by omega) c3 (m2.trans r2) (fun m hm => ?_) (fun m hm h => (g5 m hm (by omega)).chg cp (by unfold pA; omega)))
        · rw [nI_succ]; rfl
        · by_cases z : m = n
          · subst z
            refine poR_new ⟨⟨?_, ?_, ?_, ?_⟩, ?_, ?_, ?_, ?_, hn8⟩ ?_ ?_ ?_ ?_ ?_ ?_ m3
            · rw [m2]; exact hD2.1.1
            · rw [m2]; exact hD2.1.2.1
            · rw [m2]; exact hD2.1.2.2.1
            · rw [m2]; exact hD2.1.2.2.2
            · exact m3.2.1
            · exact m3.1
            · exact m3.rc.1
            · rw [m2]; exact hD2.2.2.2.2.1
            · rw [e0.1]; exact k3
            · rw [e0.1]; exact k4
            · rw [e0.1]; exact k5
            · rw [e0.1]; exact k6
            · rw [e0.1]; exact k8
            · rw [e1.1]; exact kr
          · exact (g4 m (by omega)).chg cp (by unfold pA; omega)
      · refine X_iconst (v := 1) hB dX10_become_115 (by decide) ?_
        refine X_goto (tgt := 120) hB dX10_become_116 (by decide) ?_
        refine X_topi (y := if pMp pr n then 1 else 0) (by rw [if_pos (show pMp pr n = true from if1 c112)]) ?_
        refine X_aload_n (i := 0) hB dX10_become_120 rfl rfl ?_
        refine X_getr hB cw8 fX10_9 rfl hW.1.1 hW.1.2 (hw0 r2) dX10_become_121 ?_
        refine X_iconst (v := 1) hB dX10_become_124 (by decide) ?_
        refine X_ialdN hB (1) hW.2.1.1 hW.2.1.2 (by decide) rfl (by decide) (show S92.1 (w + 1) 1 = nI (pSe pr 1) by rw [(c2 _ (by omega)).1]; exact hs 1 (by decide)) dX10_become_125 ?_
        refine X_aload_n (i := 0) hB dX10_become_126 rfl rfl ?_
        refine X_getr hB cw8 fX10_9 rfl hW.1.1 hW.1.2 (hw0 r2) dX10_become_127 ?_
        refine X_iconst (v := 2) hB dX10_become_130 (by decide) ?_
        refine X_ialdN hB (2) hW.2.1.1 hW.2.1.2 (by decide) rfl (by decide) (show S92.1 (w + 1) 2 = nI (pSe pr 2) by rw [(c2 _ (by omega)).1]; exact hs 2 (by decide)) dX10_become_131 ?_
        refine X_callV hB kX10_79 cw1 hP.2.2.2.2.1.1 hP.2.2.2.2.1.2 (c_X1_begin (pA w n + 5) n hP.2.2.2.2 hn8 hD2.2.2.1 hD2.2.2.2.1 hD2.2.1 (pMp pr n) (pSe pr 1) (pSe pr 2) hse.2.1.2 hse.2.2.1) (by decide) (by decide) rfl rfl (Nat.le_of_ble_eq_true rfl) dX10_become_132 (fun r132 S132 q132 => ?_)
        obtain ⟨rfl, m1, m2, m3⟩ := q132
        have c3 := c2.tr (m1.mono (lo' := w + 48) (hi' := w + 112) (by unfold pA; omega) (by unfold pA; omega))
        have cp : chg (pA w n) (pA w n + 8) S1 S132 := (k1.mono (by omega) (by omega)).tr (m1.mono (by omega) (by omega))
        have e0 := m1 (pA w n) (by omega)
        have e1 := m1 (pA w n + 1) (by omega)
        refine X_iinc hB dX10_become_135 rfl rfl (by decide) rfl ?_
        refine X_goto (tgt := 64) hB dX10_become_138 (by decide) ?_
        refine X_lv ?_ (ih (n + 1) S132 (by omega) c3 (m2.trans r2) (fun m hm => ?_) (fun m hm h => (g5 m hm (by omega)).chg cp (by unfold pA; omega)))
        · rw [nI_succ]; rfl
        · by_cases z : m = n
          · subst z
            refine poR_new ⟨⟨?_, ?_, ?_, ?_⟩, ?_, ?_, ?_, ?_, hn8⟩ ?_ ?_ ?_ ?_ ?_ ?_ m3
            · rw [m2]; exact hD2.1.1
            · rw [m2]; exact hD2.1.2.1
            · rw [m2]; exact hD2.1.2.2.1
            · rw [m2]; exact hD2.1.2.2.2
            · exact m3.2.1
            · exact m3.1
            · exact m3.rc.1
            · rw [m2]; exact hD2.2.2.2.2.1
            · rw [e0.1]; exact k3
            · rw [e0.1]; exact k4
            · rw [e0.1]; exact k5
            · rw [e0.1]; exact k6
            · rw [e0.1]; exact k8
            · rw [e1.1]; exact kr
          · exact (g4 m (by omega)).chg cp (by unfold pA; omega)
    · refine X_iconst (v := 1) hB dX10_become_87 (by decide) ?_
      refine X_goto (tgt := 92) hB dX10_become_88 (by decide) ?_
      refine X_topi (y := if pDf pr n then 1 else 0) (by rw [if_pos (show pDf pr n = true from if1 c84)]) ?_
      refine X_callV hB kX10_68 cw4 hP.1.1 hP.1.2 (c_X5_begin (pA w n) n hP hD (pDf pr n)) (by decide) (by decide) rfl rfl (Nat.le_of_ble_eq_true rfl) dX10_become_92 (fun r92 S92 q92 => ?_)
      obtain ⟨rfl, k1, k2, k3, k4, k5, k6, k8, kr⟩ := q92
      have r2 := k2.trans g3
      have c2 := g2.tr (k1.mono (lo' := w + 48) (hi' := w + 112) (by unfold pA; omega) (by unfold pA; omega))
      have f5 := k1 (pA w n + 5) (by omega)
      have hD2 : poD S92 (pA w n) n := by
        unfold poD poF
        rw [k2, f5.1]
        exact hD
      refine X_aload_n (i := 0) hB dX10_become_95 rfl rfl ?_
      refine X_getr hB cw8 fX10_27 rfl hW.1.1 hW.1.2 (hw3 r2) dX10_become_96 ?_
      refine X_iload_n (i := 2) hB dX10_become_99 rfl rfl ?_
      refine X_aaldN hB (n) hW.2.2.2.2.2.2.1.1 hW.2.2.2.2.2.2.1.2 (by decide) rfl (by decide) rfl (by omega) (hw1 (U := S92) r2) dX10_become_100 ?_
      refine X_getr hB cw4 fX10_72 rfl hP.1.1 hP.1.2 hD2.1.1 dX10_become_101 ?_
      refine X_aload_n (i := 1) hB dX10_become_104 rfl rfl ?_
      refine X_geti hB cw5 fX10_76 rfl hL.1.1 hL.1.2 dX10_become_105 ?_
      refine X_topi (y := nI (bts (pMp pr) 8)) (by rw [(c2 _ (by omega)).1]; exact hm) ?_
      refine X_iload_n (i := 2) hB dX10_become_108 rfl rfl ?_
      refine X_ishr hB dX10_become_109 ?_
      refine X_iconst (v := 1) hB dX10_become_110 (by decide) ?_
      refine X_iand hB dX10_become_111 ?_
      refine X_topi (y := if pMp pr n then 1 else 0) (bts_tst _ hn8) ?_
      refine X_if_eq (tgt := 119) hB dX10_become_112 (by decide) (fun c112 => ?_) (fun c112 => ?_)
      · refine X_iconst (v := 0) hB dX10_become_119 (by decide) ?_
        refine X_topi (y := if pMp pr n then 1 else 0) (by rw [if_neg (if1n c112)]) ?_
        refine X_aload_n (i := 0) hB dX10_become_120 rfl rfl ?_
        refine X_getr hB cw8 fX10_9 rfl hW.1.1 hW.1.2 (hw0 r2) dX10_become_121 ?_
        refine X_iconst (v := 1) hB dX10_become_124 (by decide) ?_
        refine X_ialdN hB (1) hW.2.1.1 hW.2.1.2 (by decide) rfl (by decide) (show S92.1 (w + 1) 1 = nI (pSe pr 1) by rw [(c2 _ (by omega)).1]; exact hs 1 (by decide)) dX10_become_125 ?_
        refine X_aload_n (i := 0) hB dX10_become_126 rfl rfl ?_
        refine X_getr hB cw8 fX10_9 rfl hW.1.1 hW.1.2 (hw0 r2) dX10_become_127 ?_
        refine X_iconst (v := 2) hB dX10_become_130 (by decide) ?_
        refine X_ialdN hB (2) hW.2.1.1 hW.2.1.2 (by decide) rfl (by decide) (show S92.1 (w + 1) 2 = nI (pSe pr 2) by rw [(c2 _ (by omega)).1]; exact hs 2 (by decide)) dX10_become_131 ?_
        refine X_callV hB kX10_79 cw1 hP.2.2.2.2.1.1 hP.2.2.2.2.1.2 (c_X1_begin (pA w n + 5) n hP.2.2.2.2 hn8 hD2.2.2.1 hD2.2.2.2.1 hD2.2.1 (pMp pr n) (pSe pr 1) (pSe pr 2) hse.2.1.2 hse.2.2.1) (by decide) (by decide) rfl rfl (Nat.le_of_ble_eq_true rfl) dX10_become_132 (fun r132 S132 q132 => ?_)
        obtain ⟨rfl, m1, m2, m3⟩ := q132
        have c3 := c2.tr (m1.mono (lo' := w + 48) (hi' := w + 112) (by unfold pA; omega) (by unfold pA; omega))
        have cp : chg (pA w n) (pA w n + 8) S1 S132 := (k1.mono (by omega) (by omega)).tr (m1.mono (by omega) (by omega))
        have e0 := m1 (pA w n) (by omega)
        have e1 := m1 (pA w n + 1) (by omega)
        refine X_iinc hB dX10_become_135 rfl rfl (by decide) rfl ?_
        refine X_goto (tgt := 64) hB dX10_become_138 (by decide) ?_
        refine X_lv ?_ (ih (n + 1) S132 (by omega) c3 (m2.trans r2) (fun m hm => ?_) (fun m hm h => (g5 m hm (by omega)).chg cp (by unfold pA; omega)))
        · rw [nI_succ]; rfl
        · by_cases z : m = n
          · subst z
            refine poR_new ⟨⟨?_, ?_, ?_, ?_⟩, ?_, ?_, ?_, ?_, hn8⟩ ?_ ?_ ?_ ?_ ?_ ?_ m3
            · rw [m2]; exact hD2.1.1
            · rw [m2]; exact hD2.1.2.1
            · rw [m2]; exact hD2.1.2.2.1
            · rw [m2]; exact hD2.1.2.2.2
            · exact m3.2.1
            · exact m3.1
            · exact m3.rc.1
            · rw [m2]; exact hD2.2.2.2.2.1
            · rw [e0.1]; exact k3
            · rw [e0.1]; exact k4
            · rw [e0.1]; exact k5
            · rw [e0.1]; exact k6
            · rw [e0.1]; exact k8
            · rw [e1.1]; exact kr
          · exact (g4 m (by omega)).chg cp (by unfold pA; omega)
      · refine X_iconst (v := 1) hB dX10_become_115 (by decide) ?_
        refine X_goto (tgt := 120) hB dX10_become_116 (by decide) ?_
        refine X_topi (y := if pMp pr n then 1 else 0) (by rw [if_pos (show pMp pr n = true from if1 c112)]) ?_
        refine X_aload_n (i := 0) hB dX10_become_120 rfl rfl ?_
        refine X_getr hB cw8 fX10_9 rfl hW.1.1 hW.1.2 (hw0 r2) dX10_become_121 ?_
        refine X_iconst (v := 1) hB dX10_become_124 (by decide) ?_
        refine X_ialdN hB (1) hW.2.1.1 hW.2.1.2 (by decide) rfl (by decide) (show S92.1 (w + 1) 1 = nI (pSe pr 1) by rw [(c2 _ (by omega)).1]; exact hs 1 (by decide)) dX10_become_125 ?_
        refine X_aload_n (i := 0) hB dX10_become_126 rfl rfl ?_
        refine X_getr hB cw8 fX10_9 rfl hW.1.1 hW.1.2 (hw0 r2) dX10_become_127 ?_
        refine X_iconst (v := 2) hB dX10_become_130 (by decide) ?_
        refine X_ialdN hB (2) hW.2.1.1 hW.2.1.2 (by decide) rfl (by decide) (show S92.1 (w + 1) 2 = nI (pSe pr 2) by rw [(c2 _ (by omega)).1]; exact hs 2 (by decide)) dX10_become_131 ?_
        refine X_callV hB kX10_79 cw1 hP.2.2.2.2.1.1 hP.2.2.2.2.1.2 (c_X1_begin (pA w n + 5) n hP.2.2.2.2 hn8 hD2.2.2.1 hD2.2.2.2.1 hD2.2.1 (pMp pr n) (pSe pr 1) (pSe pr 2) hse.2.1.2 hse.2.2.1) (by decide) (by decide) rfl rfl (Nat.le_of_ble_eq_true rfl) dX10_become_132 (fun r132 S132 q132 => ?_)
        obtain ⟨rfl, m1, m2, m3⟩ := q132
        have c3 := c2.tr (m1.mono (lo' := w + 48) (hi' := w + 112) (by unfold pA; omega) (by unfold pA; omega))
        have cp : chg (pA w n) (pA w n + 8) S1 S132 := (k1.mono (by omega) (by omega)).tr (m1.mono (by omega) (by omega))
        have e0 := m1 (pA w n) (by omega)
        have e1 := m1 (pA w n + 1) (by omega)
        refine X_iinc hB dX10_become_135 rfl rfl (by decide) rfl ?_
        refine X_goto (tgt := 64) hB dX10_become_138 (by decide) ?_
        refine X_lv ?_ (ih (n + 1) S132 (by omega) c3 (m2.trans r2) (fun m hm => ?_) (fun m hm h => (g5 m hm (by omega)).chg cp (by unfold pA; omega)))
        · rw [nI_succ]; rfl
        · by_cases z : m = n
          · subst z
            refine poR_new ⟨⟨?_, ?_, ?_, ?_⟩, ?_, ?_, ?_, ?_, hn8⟩ ?_ ?_ ?_ ?_ ?_ ?_ m3
            · rw [m2]; exact hD2.1.1
            · rw [m2]; exact hD2.1.2.1
            · rw [m2]; exact hD2.1.2.2.1
            · rw [m2]; exact hD2.1.2.2.2
            · exact m3.2.1
            · exact m3.1
            · exact m3.rc.1
            · rw [m2]; exact hD2.2.2.2.2.1
            · rw [e0.1]; exact k3
            · rw [e0.1]; exact k4
            · rw [e0.1]; exact k5
            · rw [e0.1]; exact k6
            · rw [e0.1]; exact k8
            · rw [e1.1]; exact kr
          · exact (g4 m (by omega)).chg cp (by unfold pA; omega)
set_option maxRecDepth 100000 in
set_option maxHeartbeats 4000000 in
theorem c_X10_become (w d : Nat) (hW : WLay G w) (hL : RdLay G d) (hwd : d + 3 ≤ w ∨ w + 152 ≤ d) (hwD : wdD S w) (hst : ∃ s, s < 40 ∧ S.1 (w + 3) 1 = nI s) (h0 : S.2.2 d 0 = some (d + 1)) (pr : Ps) (se : Nat → Nat) (hse : seOk (pSe pr)) (hE : prE S d pr) : C G mX10_become 1 [.ref w, .ref d] S (fun r S' => r = none ∧ worldR S' w (nwN pr se) ∧ wch w S S') := by
  obtain ⟨hF, ⟨p, hp⟩, hpo⟩ := hwD
  obtain ⟨s, hs40, hst⟩ := hst
  have hc0 : chg (w + 1) (w + 2) S (cpI S (d + 1) (w + 1) 8) := cpI_chg
  refine C.mk (lv := [some (.ref w), some (.ref d), none]) (by decide) (Nat.le_of_ble_eq_true rfl) rfl (fun E hB => ?_)
  refine X_aload_n (i := 1) hB dX10_become_0 rfl rfl ?_
  refine X_getr hB cw5 fX10_41 rfl hL.1.1 hL.1.2 h0 dX10_become_1 ?_
  refine X_iconst (v := 0) hB dX10_become_4 (by decide) ?_
  refine X_aload_n (i := 0) hB dX10_become_5 rfl rfl ?_
  refine X_getr hB cw8 fX10_9 rfl hW.1.1 hW.1.2 hF.1 dX10_become_6 ?_
  refine X_iconst (v := 0) hB dX10_become_9 (by decide) ?_
  refine X_bipush (v := 8) hB dX10_become_10 (by decide) ?_
  refine X_copyi hB 0 (8) (by decide) kCX10_44 hL.2.1.1 hL.2.1.2 hW.2.1.1 hW.2.1.2 rfl (by decide) (by decide) (by decide) (fun i _ => rfl) (by decide) (Nat.le_of_ble_eq_true rfl) dX10_become_12 ?_
  refine X_iconst (v := 0) hB dX10_become_15 (by decide) ?_
  refine X_istore_n (i := 2) hB dX10_become_16 rfl (by decide) rfl ?_
  refine X_lv (lv' := [some (.ref w), some (.ref d), some (.int (nI 0))]) (by rw [nI_0]; rfl) (t_X10_become (S := cpI S (d + 1) (w + 1) 8) hB w d hW hF.2.1 (fun T1 t1 t2 t3 => ?_) 11 0 _ (by omega) rfl (fun _ _ => rfl) (fun m hm => by omega))
  have tc : chg (w + 1) (w + 3) S T1 := fun a ha => ⟨(t2 a (by omega)).trans (hc0 a (by omega)).1, by rw [t1]; rfl, by rw [t1]; rfl⟩
  have ts : ∀ k, k < 8 → T1.1 (w + 1) k = nI (pSe pr k) := fun k hk => by rw [t2 _ (by omega), cpI_lt hk]; exact hE.1 k hk
  have tr : T1.2.2 = S.2.2 := by rw [t1]; rfl
  refine X_aload_n (i := 0) hB dX10_become_36 rfl rfl ?_
  refine X_getr hB cw8 fX10_21 rfl hW.1.1 hW.1.2 (show T1.2.2 w 2 = some (w + 3) by rw [tr]; exact hF.2.2.1) dX10_become_37 ?_
  refine X_iconst (v := 0) hB dX10_become_40 (by decide) ?_
  refine X_puti hB cw0 fX10_50 rfl rfl hW.2.2.2.1.1 hW.2.2.2.1.2 dX10_become_41 ?_
  refine X_aload_n (i := 0) hB dX10_become_44 rfl rfl ?_
  refine X_iconst (v := 0) hB dX10_become_45 (by decide) ?_
  refine X_puti hB cw8 fX10_54 rfl rfl hW.1.1 hW.1.2 dX10_become_46 ?_
  refine X_aload_n (i := 0) hB dX10_become_49 rfl rfl ?_
  refine X_iconst (v := 0) hB dX10_become_50 (by decide) ?_
  refine X_puti hB cw8 fX10_57 rfl rfl hW.1.1 hW.1.2 dX10_become_51 ?_
  refine X_aload_n (i := 0) hB dX10_become_54 rfl rfl ?_
  refine X_aload_n (i := 1) hB dX10_become_55 rfl rfl ?_
  refine X_getj hB cw5 fX10_60 rfl hL.1.1 hL.1.2 dX10_become_56 ?_
  refine X_putj hB cw8 fX10_64 rfl rfl hW.1.1 hW.1.2 dX10_become_59 ?_
  generalize hT2 : setJ (setI (setI (setI T1 (w + 3) 2 0) w 5 0) w 6 0) w 7 ((setI (setI (setI T1 (w + 3) 2 0) w 5 0) w 6 0).2.1 d 1) = T2
  have u3 : chg w (w + 4) S T2 := by
    rw [← hT2]
    exact (tc.mono (by omega) (by omega)).tr ((((chg.setI (by omega) (by omega)).tr (chg.setI (by omega) (by omega))).tr (chg.setI (by omega) (by omega))).tr (chg.setJ (by omega) (by omega)))
  have ur : T2.2.2 = S.2.2 := by rw [← hT2]; exact tr
  have us : ∀ k, k < 8 → T2.1 (w + 1) k = nI (pSe pr k) := fun k hk => by
    rw [← hT2]
    show (setI (setI (setI T1 (w + 3) 2 0) w 5 0) w 6 0).1 (w + 1) k = _
    rw [setI_ne _ _ (Or.inl (by omega)), setI_ne _ _ (Or.inl (by omega)), setI_ne _ _ (Or.inl (by omega))]; exact ts k hk
  have ut : ∀ k, k < 11 → T2.1 (w + 2) k = 0 := fun k hk => by
    rw [← hT2]
    show (setI (setI (setI T1 (w + 3) 2 0) w 5 0) w 6 0).1 (w + 2) k = _
    rw [setI_ne _ _ (Or.inl (by omega)), setI_ne _ _ (Or.inl (by omega)), setI_ne _ _ (Or.inl (by omega))]; exact t3 k hk
  have u5 : T2.1 w 5 = 0 := by
    rw [← hT2]
    show (setI (setI (setI T1 (w + 3) 2 0) w 5 0) w 6 0).1 w 5 = _
    rw [setI_ne _ _ (Or.inr (by decide)), setI_at]
  have u6 : T2.1 w 6 = 0 := by
    rw [← hT2]
    show (setI (setI (setI T1 (w + 3) 2 0) w 5 0) w 6 0).1 w 6 = _
    rw [setI_at]
  have uc : T2.1 (w + 3) 2 = 0 := by
    rw [← hT2]
    show (setI (setI (setI T1 (w + 3) 2 0) w 5 0) w 6 0).1 (w + 3) 2 = _
    rw [setI_ne _ _ (Or.inl (by omega)), setI_ne _ _ (Or.inl (by omega)), setI_at]
  have u1 : T2.1 (w + 3) 1 = nI s := by
    rw [← hT2]
    show (setI (setI (setI T1 (w + 3) 2 0) w 5 0) w 6 0).1 (w + 3) 1 = _
    rw [setI_ne _ _ (Or.inl (by omega)), setI_ne _ _ (Or.inl (by omega)), setI_ne _ _ (Or.inr (by decide)), (tc _ (by omega)).1]; exact hst
  have u7 : lkR (T2.2.1 w 7) (pUp pr) := by
    rw [← hT2, setJ_at]
    show lkR (T1.2.1 d 1) _
    rw [t1]; exact hE.2.1
  clear hT2
  refine X_iconst (v := 0) hB dX10_become_62 (by decide) ?_
  refine X_istore_n (i := 2) hB dX10_become_63 rfl (by decide) rfl ?_
  have hF2 : wdF T2 w := ⟨by rw [ur]; exact hF.1, by rw [ur]; exact hF.2.1, by rw [ur]; exact hF.2.2.1, by rw [ur]; exact hF.2.2.2.1, by rw [ur]; exact hF.2.2.2.2.1, by rw [ur]; exact hF.2.2.2.2.2.1, fun n hn => by rw [ur]; exact hF.2.2.2.2.2.2.1 n hn, fun k hk => ⟨by rw [ur]; exact (hF.2.2.2.2.2.2.2 k hk).1, by rw [(u3 _ (by unfold dA; omega)).1]; exact (hF.2.2.2.2.2.2.2 k hk).2⟩⟩
  have ed := u3 d (by omega)
  refine X_lv (lv' := [some (.ref w), some (.ref d), some (.int (nI 0))]) (by rw [nI_0]; rfl) (p_X10_become (S := T2) hB w d hW hL hwd pr se hse hF2 us (by rw [ed.1]; exact hE.2.2.1) (by rw [ed.1]; exact hE.2.2.2) (fun S3 v1 v2 v3 => ?_) 8 0 T2 (by omega) chg.rf rfl (fun m hm => by omega) (fun m hm _ => (hpo m hm).chg u3 (by unfold pA; omega)))
  have vr : S3.2.2 = S.2.2 := v2.trans ur
  refine ⟨rfl, ⟨⟨by rw [v2]; exact hF2.1, by rw [v2]; exact hF2.2.1, by rw [v2]; exact hF2.2.2.1, by rw [v2]; exact hF2.2.2.2.1, by rw [v2]; exact hF2.2.2.2.2.1, by rw [v2]; exact hF2.2.2.2.2.2.1, fun n hn => by rw [v2]; exact hF2.2.2.2.2.2.2.1 n hn, fun k hk => ⟨by rw [v2]; exact (hF2.2.2.2.2.2.2.2 k hk).1, by rw [(v1 _ (by unfold dA; omega)).1]; exact (hF2.2.2.2.2.2.2.2 k hk).2⟩⟩, ⟨fun k hk => ?_, fun k hk => ?_, ?_, ?_, ?_⟩, ⟨s, p, hs40, ?_, ?_, ?_, fun i hi => ?_, hp.2.2.1, hp.2.2.2, fun k hk => absurd hk (Nat.not_lt_zero _)⟩, v3, fun k hk => absurd hk (Nat.not_lt_zero _), nwN_cv, Nat.zero_le _, Nat.zero_le _⟩, (u3.mono (Nat.le_refl _) (by omega)).tr (v1.mono (by omega) (by omega)), vr, fun a ha => ?_⟩
  · rw [(v1 _ (by omega)).1, us k hk]
    show _ = nI (if k < 8 then pSe pr k else se k)
    rw [if_pos hk]
  · rw [(v1 _ (by omega)).1]; exact ut k hk
  · rw [(v1 _ (by omega)).1]; exact u5
  · rw [(v1 _ (by omega)).1]; exact u6
  · rw [(v1 _ (by omega)).2.1]; exact u7
  · rw [(v1 _ (by omega)).1]; exact u1
  · rw [(v1 _ (by omega)).1]; exact uc
  · rw [vr]; exact hp.1
  · rw [vr]; exact hp.2.1 i hi
  · have ha' : a = p 40 := by
      have q := ha.symm.trans hp.1
      cases q; rfl
    have := hp.2.2.1 40 (by omega)
    subst ha'
    exact ⟨(v1 _ (by omega)).1.trans (u3 _ (by omega)).1, (v1 _ (by omega)).2.1.trans (u3 _ (by omega)).2.1⟩
end CLS
