/-! the reference: say, net -/
def seN (σ : Net) (k v : Nat) : Net := (updN σ.1 k v, σ.2)
def rtB (T : Nat → Int32) (B : List Nat) : Prop := B.length ≤ 400 ∧ (∀ c ∈ B, 0 < c ∧ c < 256) ∧ ∀ i, i < B.length → T i = by8 (B.getD i 0)
theorem netR_se {A A' : Nat → Int32} {σ : Net} {g : Nat → Nat} (hN : netR A σ) (hs : szN σ) (h : ∀ i, i < 2457 → (i < 11 ∨ 14 ≤ i) → A' i = A i) (hg : ∀ k, (k < 8 ∨ (11 ≤ k ∧ k < 14) ∨ 2457 ≤ k) → A' k = nI (g k)) : netR A' (g, σ.2) := by
  obtain ⟨⟨g1, g2, g3, g4, g5, g6⟩, h2, h3, h4⟩ := hN
  have ha := hs.1
  have hd := hs.2.1
  refine ⟨⟨hg, by rw [h _ (by omega) (by omega)]; exact g2, by rw [h _ (by omega) (by omega)]; exact g3, by rw [h _ (by omega) (by omega)]; exact g4, fun k hk => by rw [h _ (by omega) (by omega)]; exact g5 k hk, fun a b ha hb => by rw [h _ (by omega) (by omega)]; exact g6 a b ha hb⟩, fun n hn => ?_, fun k hk => ?_, fun d hd => ?_⟩
  · exact ndR_same (h2 n hn) (hs.2.2.1 n hn).1 (hs.2.2.1 n hn).2.1 (hs.2.2.1 n hn).2.2 (fun i q1 q2 => h i (by omega) (by omega))
  · have hk2 : k < (nAir σ).length := hk
    exact frS_same (h3 k hk) (air_getD hs hk) (fun w hw => h _ (by omega) (by omega))
  · have hd2 : d < (nDa σ).length := hd
    exact daR_same (h4 d hd2) (dat_len hs hd2).1 (dat_len hs hd2).2 (fun i q1 q2 => h i (by omega) (by omega))
theorem netR_11 {A A' : Nat → Int32} {σ : Net} {v : Nat} (hN : netR A σ) (hs : szN σ) (h : ∀ i, i ≠ 11 → A' i = A i) (h11 : A' 11 = nI v) : netR A' (seN σ 11 v) := by
  refine netR_se hN hs (fun i _ hi => h i (by omega)) (fun k hk => ?_)
  by_cases c : k = 11
  · subst c; rw [h11]; simp [updN]
  · rw [h k c, hN.1.1 k hk]; simp [updN, c]
theorem misS_lt {s : Ps} (hs : psOk s) : ∀ {k : Nat} {o : Option Nat} {q : Nat}, misS s k o = some q → (∀ a, o = some a → a < 1000) → q < 1000
  | 0, o, q, h, ho => ho q h
  | k + 1, o, q, h, ho => by
    rw [misS_su] at h
    refine misS_lt hs h (fun a e => ?_)
    unfold mis1 at e
    cases hz : pNm s (8 - (k + 1)) with
    | none => rw [hz] at e; exact ho a e
    | some b =>
      rw [hz] at e
      have hb := hs.2 _ b hz
      cases o with
      | none => cases e; exact hb
      | some c =>
        have hc := ho c rfl
        dsimp only at e
        split at e
        · cases e; exact hb
        · cases e; exact hc
section REF
variable {G : Gc} {S : St} {h : Nat}
set_option maxRecDepth 100000 in
set_option maxHeartbeats 4000000 in
theorem l_say {E : Ev} (hB : Bd G E mX12_say) {Q : Option Value → St → Prop} (v : Int64) (kk : X G E mX12_say 0 Q S 37 [some (.ref h), some (.long v), none, some (.int (nI (lead v))), none] []) :
    ∀ (j n : Nat), n + j = 8 → (∀ i, i < n → eb v i ≠ 0) → X G E mX12_say 0 Q S 7 [some (.ref h), some (.long v), none, some (.int (nI n)), none] [] := by
  intro j
  induction j with
  | zero =>
    intro n h1 h2
    have e9 : lead v = n := lead_eq (by omega) h2 (fun q => by omega)
    rw [e9] at kk
    refine X_iload_n (i := 3) hB dX12_say_7 rfl rfl ?_
    refine X_bipush (v := 8) hB dX12_say_8 (by decide) ?_
    refine X_icmp_ge (tgt := 37) hB dX12_say_10 (by decide) (fun c10 => ?_) (fun c10 => absurd c10 (by simp (disch := omega) only [nlit, nI_leI, nI_ltI]; omega))
    exact kk
  | succ j ih =>
    intro n h1 h2
    refine X_iload_n (i := 3) hB dX12_say_7 rfl rfl ?_
    refine X_bipush (v := 8) hB dX12_say_8 (by decide) ?_
    refine X_icmp_ge (tgt := 37) hB dX12_say_10 (by decide) (fun c10 => absurd c10 (by simp (disch := omega) only [nlit, nI_leI, nI_ltI]; omega)) (fun c10 => ?_)
    refine X_lload_n (i := 1) hB dX12_say_13 rfl rfl ?_
    refine X_bipush (v := 56) hB dX12_say_14 (by decide) ?_
    refine X_bipush (v := 8) hB dX12_say_16 (by decide) ?_
    refine X_iload_n (i := 3) hB dX12_say_18 rfl rfl ?_
    refine X_imul hB dX12_say_19 ?_
    refine X_isub hB dX12_say_20 ?_
    refine X_topi (y := nI (56 - 8 * n)) (by rw [show (56 : Int32) = nI 56 from rfl, show (8 : Int32) = nI 8 from rfl, nI_mul, nI_sub (by omega)]) ?_
    refine X_lshr hB dX12_say_21 ?_
    refine X_ldc2 hB qX12_70 dX12_say_22 ?_
    refine X_land hB dX12_say_25 ?_
    refine X_topl (y := lN (eb v n)) (eb_s v (by omega)) ?_
    refine X_lconst (v := 0) hB dX12_say_26 (by decide) ?_
    refine X_lcmp hB dX12_say_27 ?_
    refine X_if_eq (tgt := 37) hB dX12_say_28 (by decide) (fun c28 => ?_) (fun c28 => ?_)
    · have e9 : lead v = n := lead_eq (by omega) h2 (fun q => (eb_0 v n).mp c28)
      rw [e9] at kk
      exact kk
    · refine X_iinc hB dX12_say_31 rfl rfl (by decide) rfl ?_
      refine X_goto (tgt := 7) hB dX12_say_34 (by decide) ?_
      refine X_lv ?_ (ih (n + 1) (by omega) (fun i hi => ?_))
      · rw [nI_succ]; rfl
      · by_cases q : i = n
        · rw [q]; exact fun z => c28 ((eb_0 v n).mpr z)
        · exact h2 i (by omega)
set_option maxRecDepth 100000 in
set_option maxHeartbeats 4000000 in
theorem a_say (hR : RLay G h) (hF : RRef S h) {E : Ev} (hB : Bd G E mX12_say) {Q : Option Value → St → Prop} (B : List Nat) (v : Int64) (hl : B.length + lead v ≤ 400) (hBc : ∀ c ∈ B, 0 < c ∧ c < 256) (kk : ∀ S1, fr h [h + 1, h + 2] [] S S1 → (S1.1 (h + 1) 11 = nI (B.length + (lead v)) ∧ ∀ i, i ≠ 11 → S1.1 (h + 1) i = S.1 (h + 1) i) → (rtB (S1.1 (h + 2)) (sayL B v (lead v)) ∧ txB (S1.1 (h + 2)) ∧ ∀ i, 400 ≤ i → S1.1 (h + 2) i = S.1 (h + 2) i) → Q (some (.int (nI (B.length + lead v)))) S1) :
    ∀ (j i : Nat) (S1 : St), i + j = lead v → fr h [h + 1, h + 2] [] S S1 → (S1.1 (h + 1) 11 = nI (B.length + i) ∧ ∀ i, i ≠ 11 → S1.1 (h + 1) i = S.1 (h + 1) i) → (rtB (S1.1 (h + 2)) (sayL B v i) ∧ txB (S1.1 (h + 2)) ∧ ∀ i, 400 ≤ i → S1.1 (h + 2) i = S.1 (h + 2) i) → X G E mX12_say 0 Q S1 57 [some (.ref h), some (.long v), none, some (.int (nI (lead v))), some (.int (nI i))] [] := by
  have h8 := lead_le v
  intro j
  induction j with
  | zero =>
    intro i S1 h1 h2 h3 h4
    have e9 : i = lead v := by omega
    subst e9
    have hF1 := h2.ref hF
    refine X_iload hB dX12_say_57 rfl ?_
    refine X_iload_n (i := 3) hB dX12_say_59 rfl rfl ?_
    refine X_icmp_ge (tgt := 104) hB dX12_say_60 (by decide) (fun c60 => ?_) (fun c60 => absurd c60 (by simp (disch := omega) only [nlit, nI_leI, nI_ltI]; omega))
    refine X_aload_n (i := 0) hB dX12_say_104 rfl rfl ?_
    refine X_getr hB cw10 fX12_7 rfl hR.1.1 hR.1.2 hF1.1 dX12_say_105 ?_
    refine X_bipush (v := 11) hB dX12_say_108 (by decide) ?_
    refine X_ialdN hB (11) hR.2.1.1 hR.2.1.2 (by decide) rfl (by decide) h3.1 dX12_say_110 ?_
    refine X_iret hB rfl dX12_say_111 ?_
    exact kk S1 h2 h3 h4
  | succ j ih =>
    intro i S1 h1 h2 h3 h4
    have hF1 := h2.ref hF
    have hlb := eb_lt v i
    have hne := lead_in (v := v) (j := i) (by omega)
    refine X_iload hB dX12_say_57 rfl ?_
    refine X_iload_n (i := 3) hB dX12_say_59 rfl rfl ?_
    refine X_icmp_ge (tgt := 104) hB dX12_say_60 (by decide) (fun c60 => absurd c60 (by simp (disch := omega) only [nlit, nI_leI, nI_ltI]; omega)) (fun c60 => ?_)
    refine X_aload_n (i := 0) hB dX12_say_63 rfl rfl ?_
    refine X_getr hB cw10 fX12_13 rfl hR.1.1 hR.1.2 hF1.2.1 dX12_say_64 ?_
    refine X_aload_n (i := 0) hB dX12_say_67 rfl rfl ?_
    refine X_getr hB cw10 fX12_7 rfl hR.1.1 hR.1.2 hF1.1 dX12_say_68 ?_
    refine X_bipush (v := 11) hB dX12_say_71 (by decide) ?_
    refine X_ialdN hB (11) hR.2.1.1 hR.2.1.2 (by decide) rfl (by decide) h3.1 dX12_say_73 ?_
    refine X_lload_n (i := 1) hB dX12_say_74 rfl rfl ?_
    refine X_bipush (v := 56) hB dX12_say_75 (by decide) ?_
    refine X_bipush (v := 8) hB dX12_say_77 (by decide) ?_
    refine X_iload hB dX12_say_79 rfl ?_
    refine X_imul hB dX12_say_81 ?_
    refine X_isub hB dX12_say_82 ?_
    refine X_topi (y := nI (56 - 8 * i)) (by rw [show (56 : Int32) = nI 56 from rfl, show (8 : Int32) = nI 8 from rfl, nI_mul, nI_sub (by omega)]) ?_
    refine X_lshr hB dX12_say_83 ?_
    refine X_l2i hB dX12_say_84 ?_
    refine X_i2b hB dX12_say_85 ?_
    refine X_topi (y := by8 (eb v i)) (lo8 (eb_s v (by omega)) hlb) ?_
    refine X_bastN hB (B.length + i) hR.2.2.1.1 hR.2.2.1.2 (by decide) rfl (by first | omega | (simp only []; omega)) dX12_say_86 ?_
    rw [by8_nar _ hlb]
    refine X_aload_n (i := 0) hB dX12_say_87 rfl rfl ?_
    refine X_getr hB cw10 fX12_7 rfl hR.1.1 hR.1.2 hF1.1 dX12_say_88 ?_
    refine X_bipush (v := 11) hB dX12_say_91 (by decide) ?_
    refine X_dup2_11 hB dX12_say_93 rfl rfl ?_
    refine X_ialdN hB (11) hR.2.1.1 hR.2.1.2 (by decide) rfl (by decide) ((setI_ne _ _ (Or.inl (by omega))).trans h3.1) dX12_say_94 ?_
    refine X_iconst (v := 1) hB dX12_say_95 (by decide) ?_
    refine X_iadd hB dX12_say_96 ?_
    refine X_topi (y := nI (B.length + (i + 1))) (by rw [← nI_succ]; rfl) ?_
    refine X_iastN hB (11) hR.2.1.1 hR.2.1.2 (by decide) rfl (by decide) dX12_say_97 ?_
    refine X_iinc hB dX12_say_98 rfl rfl (by decide) rfl ?_
    refine X_goto (tgt := 57) hB dX12_say_101 (by decide) ?_
    refine X_lv ?_ (ih (i + 1) _ (by omega) (h2.tr ((fr.set (by simp) (by omega)).tr (fr.set (by simp) (by omega)))) ⟨setI_at _ _ _ _, fun m hm => ?_⟩ ⟨⟨?_, sayL_ok hBc (by omega), fun m hm => ?_⟩, fun m hm => ?_, fun m hm => ?_⟩)
    · rw [nI_succ]; rfl
    · rw [setI_ne _ _ (Or.inr hm), setI_row _ _ _ (by omega)]; exact h3.2 m hm
    · rw [sayL_len]; omega
    · rw [sayL_len] at hm
      rw [setI_row _ _ _ (by omega)]
      by_cases q : m = B.length + i
      · rw [q, setI_at, sayL_new (by omega)]
      · rw [setI_ne _ _ (Or.inr q), h4.1.2.2 m (by rw [sayL_len]; omega)]
        by_cases q2 : m < B.length
        · rw [sayL_old q2, sayL_old q2]
        · rw [show m = B.length + (m - B.length) by omega, sayL_new (by omega), sayL_new (by omega)]
    · rw [setI_row _ _ _ (by omega)]
      by_cases q : m = B.length + i
      · rw [q, setI_at]; exact by8_nar _ hlb
      · rw [setI_ne _ _ (Or.inr q)]; exact h4.2.1 m hm
    · rw [setI_row _ _ _ (by omega), setI_ne _ _ (Or.inr (by omega))]; exact h4.2.2 m hm
set_option maxRecDepth 100000 in
set_option maxHeartbeats 4000000 in
theorem c_say (hR : RLay G h) (hF : RRef S h) (σ : Net) (hN : netR (S.1 (h + 1)) σ) (hs : szN σ) (B : List Nat) (hT : rtB (S.1 (h + 2)) B) (hl : B.length = nSe σ 11) (hb : txB (S.1 (h + 2))) (v : Int64) : C G mX12_say 0 [.ref h, .long v] S (fun r S' => r = some (.int (sayA B v).1) ∧ fr h [h + 1, h + 2] [0] S S' ∧ netR (S'.1 (h + 1)) (seN σ 11 (sayA B v).2.length) ∧ rtB (S'.1 (h + 2)) (sayA B v).2 ∧ txB (S'.1 (h + 2)) ∧ (∀ i, i ≠ 11 → S'.1 (h + 1) i = S.1 (h + 1) i) ∧ ∀ i, 400 ≤ i → S'.1 (h + 2) i = S.1 (h + 2) i) := by
  have h8 := lead_le v
  have h4 := hT.1
  have e11 : S.1 (h + 1) 11 = nI B.length := by rw [hl]; exact hN.1.1 11 (by omega)
  have r1 : (setI S h 0 0).1 (h + 1) = S.1 (h + 1) := setI_row _ _ _ (by omega)
  have r2 : (setI S h 0 0).1 (h + 2) = S.1 (h + 2) := setI_row _ _ _ (by omega)
  refine C.mk (lv := [some (.ref h), some (.long v), none, none, none]) (by decide) (Nat.le_of_ble_eq_true rfl) rfl (fun E hB => ?_)
  refine X_aload_n (i := 0) hB dX12_say_0 rfl rfl ?_
  refine X_iconst (v := 0) hB dX12_say_1 (by decide) ?_
  refine X_puti hB cw10 fX12_51 rfl rfl hR.1.1 hR.1.2 dX12_say_2 ?_
  refine X_iconst (v := 0) hB dX12_say_5 (by decide) ?_
  refine X_istore_n (i := 3) hB dX12_say_6 rfl (by decide) rfl ?_
  refine X_lv (lv' := [some (.ref h), some (.long v), none, some (.int (nI 0)), none]) (by rw [nI_0]; rfl) (l_say hB v ?_ 8 0 (by omega) (fun i hi => by omega))
  refine X_aload_n (i := 0) hB dX12_say_37 rfl rfl ?_
  refine X_getr hB cw10 fX12_7 rfl hR.1.1 hR.1.2 hF.1 dX12_say_38 ?_
  refine X_bipush (v := 11) hB dX12_say_41 (by decide) ?_
  refine X_ialdN hB (11) hR.2.1.1 hR.2.1.2 (by decide) rfl (by decide) (show (setI S h 0 0).1 (h + 1) 11 = nI B.length by rw [r1]; exact e11) dX12_say_43 ?_
  refine X_iload_n (i := 3) hB dX12_say_44 rfl rfl ?_
  refine X_iadd hB dX12_say_45 ?_
  refine X_topi (y := nI (B.length + lead v)) (nI_add _ _) ?_
  refine X_sipush (v := 400) hB dX12_say_46 (by decide) ?_
  refine X_icmp_le (tgt := 54) hB dX12_say_49 (by decide) (fun c49 => ?_) (fun c49 => ?_)
  · refine X_iconst (v := 0) hB dX12_say_54 (by decide) ?_
    refine X_istore hB dX12_say_55 (by decide) rfl ?_
    have e49 : B.length + lead v ≤ 400 := by
      rw [show (400 : Int32) = nI 400 from rfl, nI_leI (by omega) (by omega)] at c49
      omega
    have ea : sayA B v = (nI (B.length + lead v), sayL B v (lead v)) := by unfold sayA; rw [if_neg (by omega)]
    rw [ea]
    have e0 : sayL B v 0 = B := by unfold sayL; simp
    refine X_lv (lv' := [some (.ref h), some (.long v), none, some (.int (nI (lead v))), some (.int (nI 0))]) (by rw [nI_0]; rfl) (a_say (S := setI S h 0 0) hR (hF.of rfl) hB B v e49 hT.2.1 (fun S1 g1 g2 g3 => ⟨rfl, ?_, ?_, g3.1, g3.2.1, fun i hi => ?_, fun i hi => ?_⟩) (lead v) 0 _ (by omega) fr.rf ⟨by rw [r1]; exact e11, fun _ _ => rfl⟩ ⟨by rw [e0, r2]; exact hT, by rw [r2]; exact hb, fun _ _ => rfl⟩)
    · exact (fr.fld (by simp)).tr (g1.mono (fun _ q => q) (by simp))
    · rw [sayL_len]
      exact netR_11 hN hs (fun i hi => by rw [g2.2 i hi, r1]) g2.1
    · rw [g2.2 i hi, r1]
    · rw [g3.2.2 i hi, r2]
  · refine X_iconst (v := (-1)) hB dX12_say_52 (by decide) ?_
    refine X_iret hB rfl dX12_say_53 ?_
    have e49 : 400 < B.length + lead v := by
      rw [show (400 : Int32) = nI 400 from rfl, nI_leI (by omega) (by omega)] at c49
      omega
    have ea : sayA B v = (-1, B) := by unfold sayA; rw [if_pos e49]
    rw [ea, r1, r2]
    exact ⟨rfl, fr.fld (by simp), netR_11 hN hs (fun _ _ => rfl) e11, hT, hb, fun _ _ => rfl, fun _ _ => rfl⟩
def se3 (σ : Net) (B : List Nat) : Nat → Nat := (fun k => if k = 11 then 0 else if k = 12 then (reaF B).1 else if k = 13 then flN (reaF B).2.1 else nSe σ k)
set_option maxRecDepth 100000 in
set_option maxHeartbeats 4000000 in
theorem c_net (hR : RLay G h) (hF : RRef S h) (σ : Net) (hN : netR (S.1 (h + 1)) σ) (hs : szN σ) (B : List Nat) (hT : rtB (S.1 (h + 2)) B) (hl : B.length = nSe σ 11) : C G mX12_net 6 [.ref h] S (fun r S' => r = some (.int (if (reaF B).1 = 0 then nI (pSe (reaF B).2.2 0) else -1)) ∧ frT h [h + 1, h + 4, h + 5, h + 6] [0, 4, 5, 6, 7, 8, 10, 11, 16, 17, 18] S S' ∧ netR (S'.1 (h + 1)) (if (reaF B).1 = 0 then nwN (reaF B).2.2 (se3 σ B) else (se3 σ B, σ.2)) ∧ ∀ i, 2457 ≤ i → S'.1 (h + 1) i = S.1 (h + 1) i) := by
  have h4 := hT.1
  have e11 : S.1 (h + 1) 11 = nI B.length := by rw [hl]; exact hN.1.1 11 (by omega)
  refine C.mk (lv := [some (.ref h), none, none]) (by decide) (Nat.le_of_ble_eq_true rfl) rfl (fun E hB => ?_)
  refine X_aload_n (i := 0) hB dX12_net_0 rfl rfl ?_
  refine X_iconst (v := 0) hB dX12_net_1 (by decide) ?_
  refine X_puti hB cw10 fX12_51 rfl rfl hR.1.1 hR.1.2 dX12_net_2 ?_
  refine X_aload_n (i := 0) hB dX12_net_5 rfl rfl ?_
  refine X_aload_n (i := 0) hB dX12_net_6 rfl rfl ?_
  refine X_getr hB cw10 fX12_7 rfl hR.1.1 hR.1.2 hF.1 dX12_net_7 ?_
  refine X_bipush (v := 11) hB dX12_net_10 (by decide) ?_
  refine X_ialdN hB (11) hR.2.1.1 hR.2.1.2 (by decide) rfl (by decide) ((setI_ne _ _ (Or.inl (by omega))).trans e11) dX12_net_12 ?_
  refine X_puti hB cw10 fX12_75 rfl rfl hR.1.1 hR.1.2 dX12_net_13 ?_
  refine X_aload_n (i := 0) hB dX12_net_16 rfl rfl ?_
  refine X_getr hB cw10 fX12_7 rfl hR.1.1 hR.1.2 hF.1 dX12_net_17 ?_
  refine X_bipush (v := 11) hB dX12_net_20 (by decide) ?_
  refine X_iconst (v := 0) hB dX12_net_22 (by decide) ?_
  refine X_iastN hB (11) hR.2.1.1 hR.2.1.2 (by decide) rfl (by decide) dX12_net_23 ?_
  have f3 : frT h [h + 1, h + 4, h + 5, h + 6] [0, 4, 5, 6, 7, 8, 10, 11, 16, 17, 18] S (setI (setI (setI S h 0 0) h 5 (nI B.length)) (h + 1) 11 0) := ((frT.fld (by simp)).tr (frT.fld (by simp))).tr (frT.set (by simp) (by omega))
  have hF3 := f3.ref hF
  have w0 : (setI (setI (setI S h 0 0) h 5 (nI B.length)) (h + 1) 11 0).1 (h + 1) = (setI (setI (setI S h 0 0) h 5 (nI B.length)) (h + 1) 11 0).1 (h + 1) := rfl
  refine X_aload_n (i := 0) hB dX12_net_24 rfl rfl ?_
  refine X_callV hB kX12_160 cw10 hR.1.1 hR.1.2 (c_atFirst hR hF3) (by decide) (by decide) rfl rfl (Nat.le_of_ble_eq_true rfl) dX12_net_25 (fun r25 S25 q25 => ?_)
  obtain ⟨rfl, k1, k2, k3⟩ := q25
  have f25 : frT h [h + 1, h + 4, h + 5, h + 6] [0, 4, 5, 6, 7, 8, 10, 11, 16, 17, 18] S S25 := f3.tr (k1.mono (by simp) (by simp))
  have hF25 := f25.ref hF
  have x25 : txtR S25 h B := ⟨by rw [k1.2.2.2 5 (by simp), setI_ne _ _ (Or.inl (by omega)), setI_at], h4, hT.2.1, fun i hi => by rw [f25.2.2.1 (h + 2) (by simp) (by omega)]; exact hT.2.2 i hi⟩
  refine X_aload_n (i := 0) hB dX12_net_28 rfl rfl ?_
  refine X_callV hB kX12_124 cw10 hR.1.1 hR.1.2 (c_token hR hF25 B x25 0 k2 (Nat.zero_le _)) (by decide) (by decide) rfl rfl (Nat.le_of_ble_eq_true rfl) dX12_net_29 (fun r29 S29 q29 => ?_)
  obtain ⟨rfl, m1, m2⟩ := q29
  have f29 : frT h [h + 1, h + 4, h + 5, h + 6] [0, 4, 5, 6, 7, 8, 10, 11, 16, 17, 18] S S29 := f25.tr (m1.mono (by simp) (by simp))
  have hF29 := f29.ref hF
  have x29 := x25.fr m1 (by simp) (by simp)
  have t29 : trR S29 h ps0 := k3.fr m1 (by simp) (by simp) (by simp) (by simp) (by simp) (by simp)
  refine X_aload_n (i := 0) hB dX12_net_32 rfl rfl ?_
  refine X_callV hB kX12_174 cw10 hR.1.1 hR.1.2 (c_allLines hR hF29 B x29 m2 t29) (by decide) (by decide) rfl rfl (Nat.le_of_ble_eq_true rfl) dX12_net_33 (fun r33 S33 q33 => ?_)
  obtain ⟨n1, n2, n3⟩ := q33
  have f33 : frT h [h + 1, h + 4, h + 5, h + 6] [0, 4, 5, 6, 7, 8, 10, 11, 16, 17, 18] S S33 := f29.tr (n1.mono (by simp) (by unfold lnF; simp))
  have hF33 := f33.ref hF
  have w1 : S33.1 (h + 1) = (setI (setI (setI S h 0 0) h 5 (nI B.length)) (h + 1) 11 0).1 (h + 1) := ((n1.2.2.1 _ (by simp) (by omega)).trans (m1.2.2.1 _ (by simp) (by omega))).trans (k1.2.2.1 _ (by simp) (by omega))
  obtain ⟨c, c1, c2, c3⟩ := n2
  cases hl2 : linS B 401 0 ps0 with
  | inl e =>
    rw [hl2] at n3
    obtain ⟨rfl, n4⟩ := n3
    have er := reaF_l hl2
    refine X_istore_n (i := 1) hB dX12_net_36 rfl (by decide) rfl ?_
    refine X_aload_n (i := 0) hB dX12_net_37 rfl rfl ?_
    refine X_callV hB kX12_177 cw10 hR.1.1 hR.1.2 (c_missing hR hF33 c c2 c3) (by decide) (by decide) rfl rfl (Nat.le_of_ble_eq_true rfl) dX12_net_38 (fun r38 S38 q38 => ?_)
    obtain ⟨rfl, rfl⟩ := q38
    refine X_istore_n (i := 2) hB dX12_net_41 rfl (by decide) rfl ?_
    refine X_aload_n (i := 0) hB dX12_net_42 rfl rfl ?_
    refine X_getr hB cw10 fX12_7 rfl hR.1.1 hR.1.2 hF33.1 dX12_net_43 ?_
    refine X_bipush (v := 12) hB dX12_net_46 (by decide) ?_
    refine X_iload_n (i := 1) hB dX12_net_48 rfl rfl ?_
    refine X_if_ne (tgt := 56) hB dX12_net_49 (by decide) (fun c49 => absurd rfl c49) (fun c49 => ?_)
    refine X_iconst (v := 1) hB dX12_net_52 (by decide) ?_
    refine X_goto (tgt := 78) hB dX12_net_53 (by decide) ?_
    refine X_iastN hB (12) hR.2.1.1 hR.2.1.2 (by decide) rfl (by decide) dX12_net_78 ?_
    refine X_aload_n (i := 0) hB dX12_net_79 rfl rfl ?_
    refine X_getr hB cw10 fX12_7 rfl hR.1.1 hR.1.2 hF33.1 dX12_net_80 ?_
    refine X_bipush (v := 13) hB dX12_net_83 (by decide) ?_
    refine X_iload_n (i := 1) hB dX12_net_85 rfl rfl ?_
    refine X_if_ne (tgt := 96) hB dX12_net_86 (by decide) (fun c86 => absurd rfl c86) (fun c86 => ?_)
    refine X_aload_n (i := 0) hB dX12_net_89 rfl rfl ?_
    refine X_geti hB cw10 fX12_111 rfl hR.1.1 hR.1.2 dX12_net_90 ?_
    refine X_topi (y := nI e) ((setI_ne _ _ (Or.inl (by omega))).trans n4) ?_
    refine X_goto (tgt := 112) hB dX12_net_93 (by decide) ?_
    refine X_iastN hB (13) hR.2.1.1 hR.2.1.2 (by decide) rfl (by decide) dX12_net_112 ?_
    have u1 : ∀ i, i ≠ 12 → i ≠ 13 → (setI (setI S33 (h + 1) 12 1) (h + 1) 13 (nI e)).1 (h + 1) i = S33.1 (h + 1) i := fun i q1 q2 => by rw [setI_ne _ _ (Or.inr q2), setI_ne _ _ (Or.inr q1)]
    have u2 : (setI (setI S33 (h + 1) 12 1) (h + 1) 13 (nI e)).1 (h + 1) 12 = 1 := by rw [setI_ne _ _ (Or.inr (by decide)), setI_at]
    have u3 : (setI (setI S33 (h + 1) 12 1) (h + 1) 13 (nI e)).1 (h + 1) 13 = (nI e) := setI_at _ _ _ _
    have fU : frT h [h + 1, h + 4, h + 5, h + 6] [0, 4, 5, 6, 7, 8, 10, 11, 16, 17, 18] S (setI (setI S33 (h + 1) 12 1) (h + 1) 13 (nI e)) := f33.tr ((frT.set (by simp) (by omega)).tr (frT.set (by simp) (by omega)))
    have a33 : ∀ i, i ≠ 11 → S33.1 (h + 1) i = S.1 (h + 1) i := fun i q => by rw [w1, setI_ne _ _ (Or.inr q), setI_row _ _ _ (by omega), setI_row _ _ _ (by omega)]
    have a11 : S33.1 (h + 1) 11 = 0 := by rw [w1, setI_at]
    have hse : ∀ k, (11 ≤ k ∧ k < 14) ∨ 2457 ≤ k → (setI (setI S33 (h + 1) 12 1) (h + 1) 13 (nI e)).1 (h + 1) k = nI (se3 σ B k) := fun k hk => by
      unfold se3
      by_cases q11 : k = 11
      · subst q11; rw [if_pos rfl, u1 _ (by decide) (by decide), a11]; rfl
      · rw [if_neg q11]
        by_cases q12 : k = 12
        · subst q12; rw [if_pos rfl, u2, er]; rfl
        · rw [if_neg q12]
          by_cases q13 : k = 13
          · subst q13; rw [if_pos rfl, u3, flN_I, er]; rfl
          · rw [if_neg q13, u1 k q12 q13, a33 k q11]; exact hN.1.1 k (by omega)
    refine X_aload_n (i := 0) hB dX12_net_113 rfl rfl ?_
    refine X_getr hB cw10 fX12_7 rfl hR.1.1 hR.1.2 hF33.1 dX12_net_114 ?_
    refine X_bipush (v := 12) hB dX12_net_117 (by decide) ?_
    refine X_ialdN hB (12) hR.2.1.1 hR.2.1.2 (by decide) rfl (by decide) u2 dX12_net_119 ?_
    refine X_if_eq (tgt := 125) hB dX12_net_120 (by decide) (fun c120 => absurd c120 (by decide)) (fun c120 => ?_)
    refine X_iconst (v := (-1)) hB dX12_net_123 (by decide) ?_
    refine X_iret hB rfl dX12_net_124 ?_
    rw [er]
    refine ⟨rfl, fU, ?_, fun i hi => ?_⟩
    · rw [if_neg (by exact (by decide : ¬ (1 : Nat) = 0))]
      refine netR_se hN hs (fun i h1 h2 => by rw [u1 i (by omega) (by omega), a33 i (by omega)]) (fun k hk => ?_)
      rcases hk with hk | hk
      · rw [u1 k (by omega) (by omega), a33 k (by omega)]
        unfold se3
        rw [if_neg (by omega), if_neg (by omega), if_neg (by omega)]
        exact hN.1.1 k (Or.inl hk)
      · exact hse k hk
    · rw [u1 i (by omega) (by omega)]; exact a33 i (by omega)
  | inr s =>
    rw [hl2] at n3
    obtain ⟨rfl, n4, n5⟩ := n3
    have b11 : ∀ {v : Int32}, (setI S33 (h + 1) 12 v).1 h 11 = S33.1 h 11 := setI_ne _ _ (Or.inl (by omega))
    cases hb : pBd s with
    | some q =>
      have er := reaF_b hl2 hb
      have hq := n5.1 q hb
      have e11' : S33.1 h 11 = nI q := by rw [n4.1, hb]; rfl
      have ne11 : ¬ S33.1 h 11 = -1 := by rw [e11']; exact nI_neg1 (by omega)
      refine X_istore_n (i := 1) hB dX12_net_36 rfl (by decide) rfl ?_
      refine X_aload_n (i := 0) hB dX12_net_37 rfl rfl ?_
      refine X_callV hB kX12_177 cw10 hR.1.1 hR.1.2 (c_missing hR hF33 c c2 c3) (by decide) (by decide) rfl rfl (Nat.le_of_ble_eq_true rfl) dX12_net_38 (fun r38 S38 q38 => ?_)
      obtain ⟨rfl, rfl⟩ := q38
      refine X_istore_n (i := 2) hB dX12_net_41 rfl (by decide) rfl ?_
      refine X_aload_n (i := 0) hB dX12_net_42 rfl rfl ?_
      refine X_getr hB cw10 fX12_7 rfl hR.1.1 hR.1.2 hF33.1 dX12_net_43 ?_
      refine X_bipush (v := 12) hB dX12_net_46 (by decide) ?_
      refine X_iload_n (i := 1) hB dX12_net_48 rfl rfl ?_
      refine X_if_ne (tgt := 56) hB dX12_net_49 (by decide) (fun c49 => ?_) (fun c49 => absurd c49 (by decide))
      refine X_aload_n (i := 0) hB dX12_net_56 rfl rfl ?_
      refine X_geti hB cw10 fX12_121 rfl hR.1.1 hR.1.2 dX12_net_57 ?_
      refine X_iconst (v := (-1)) hB dX12_net_60 (by decide) ?_
      refine X_icmp_eq (tgt := 68) hB dX12_net_61 (by decide) (fun c61 => absurd c61 ne11) (fun c61 => ?_)
      refine X_iconst (v := 2) hB dX12_net_64 (by decide) ?_
      refine X_goto (tgt := 78) hB dX12_net_65 (by decide) ?_
      refine X_iastN hB (12) hR.2.1.1 hR.2.1.2 (by decide) rfl (by decide) dX12_net_78 ?_
      refine X_aload_n (i := 0) hB dX12_net_79 rfl rfl ?_
      refine X_getr hB cw10 fX12_7 rfl hR.1.1 hR.1.2 hF33.1 dX12_net_80 ?_
      refine X_bipush (v := 13) hB dX12_net_83 (by decide) ?_
      refine X_iload_n (i := 1) hB dX12_net_85 rfl rfl ?_
      refine X_if_ne (tgt := 96) hB dX12_net_86 (by decide) (fun c86 => ?_) (fun c86 => absurd c86 (by decide))
      refine X_aload_n (i := 0) hB dX12_net_96 rfl rfl ?_
      refine X_geti hB cw10 fX12_121 rfl hR.1.1 hR.1.2 dX12_net_97 ?_
      refine X_iconst (v := (-1)) hB dX12_net_100 (by decide) ?_
      refine X_icmp_eq (tgt := 111) hB dX12_net_101 (by decide) (fun c101 => absurd (b11.symm.trans c101) ne11) (fun c101 => ?_)
      refine X_aload_n (i := 0) hB dX12_net_104 rfl rfl ?_
      refine X_geti hB cw10 fX12_121 rfl hR.1.1 hR.1.2 dX12_net_105 ?_
      refine X_topi (y := nI q) (b11.trans e11') ?_
      refine X_goto (tgt := 112) hB dX12_net_108 (by decide) ?_
      refine X_iastN hB (13) hR.2.1.1 hR.2.1.2 (by decide) rfl (by decide) dX12_net_112 ?_
      have u1 : ∀ i, i ≠ 12 → i ≠ 13 → (setI (setI S33 (h + 1) 12 2) (h + 1) 13 (nI q)).1 (h + 1) i = S33.1 (h + 1) i := fun i q1 q2 => by rw [setI_ne _ _ (Or.inr q2), setI_ne _ _ (Or.inr q1)]
      have u2 : (setI (setI S33 (h + 1) 12 2) (h + 1) 13 (nI q)).1 (h + 1) 12 = 2 := by rw [setI_ne _ _ (Or.inr (by decide)), setI_at]
      have u3 : (setI (setI S33 (h + 1) 12 2) (h + 1) 13 (nI q)).1 (h + 1) 13 = (nI q) := setI_at _ _ _ _
      have fU : frT h [h + 1, h + 4, h + 5, h + 6] [0, 4, 5, 6, 7, 8, 10, 11, 16, 17, 18] S (setI (setI S33 (h + 1) 12 2) (h + 1) 13 (nI q)) := f33.tr ((frT.set (by simp) (by omega)).tr (frT.set (by simp) (by omega)))
      have a33 : ∀ i, i ≠ 11 → S33.1 (h + 1) i = S.1 (h + 1) i := fun i q => by rw [w1, setI_ne _ _ (Or.inr q), setI_row _ _ _ (by omega), setI_row _ _ _ (by omega)]
      have a11 : S33.1 (h + 1) 11 = 0 := by rw [w1, setI_at]
      have hse : ∀ k, (11 ≤ k ∧ k < 14) ∨ 2457 ≤ k → (setI (setI S33 (h + 1) 12 2) (h + 1) 13 (nI q)).1 (h + 1) k = nI (se3 σ B k) := fun k hk => by
        unfold se3
        by_cases q11 : k = 11
        · subst q11; rw [if_pos rfl, u1 _ (by decide) (by decide), a11]; rfl
        · rw [if_neg q11]
          by_cases q12 : k = 12
          · subst q12; rw [if_pos rfl, u2, er]; rfl
          · rw [if_neg q12]
            by_cases q13 : k = 13
            · subst q13; rw [if_pos rfl, u3, flN_I, er]; rfl
            · rw [if_neg q13, u1 k q12 q13, a33 k q11]; exact hN.1.1 k (by omega)
      refine X_aload_n (i := 0) hB dX12_net_113 rfl rfl ?_
      refine X_getr hB cw10 fX12_7 rfl hR.1.1 hR.1.2 hF33.1 dX12_net_114 ?_
      refine X_bipush (v := 12) hB dX12_net_117 (by decide) ?_
      refine X_ialdN hB (12) hR.2.1.1 hR.2.1.2 (by decide) rfl (by decide) u2 dX12_net_119 ?_
      refine X_if_eq (tgt := 125) hB dX12_net_120 (by decide) (fun c120 => absurd c120 (by decide)) (fun c120 => ?_)
      refine X_iconst (v := (-1)) hB dX12_net_123 (by decide) ?_
      refine X_iret hB rfl dX12_net_124 ?_
      rw [er]
      refine ⟨rfl, fU, ?_, fun i hi => ?_⟩
      · rw [if_neg (by exact (by decide : ¬ (2 : Nat) = 0))]
        refine netR_se hN hs (fun i h1 h2 => by rw [u1 i (by omega) (by omega), a33 i (by omega)]) (fun k hk => ?_)
        rcases hk with hk | hk
        · rw [u1 k (by omega) (by omega), a33 k (by omega)]
          unfold se3
          rw [if_neg (by omega), if_neg (by omega), if_neg (by omega)]
          exact hN.1.1 k (Or.inl hk)
        · exact hse k hk
      · rw [u1 i (by omega) (by omega)]; exact a33 i (by omega)
    | none =>
      have er := reaF_m hl2 hb
      have hE := n4.2.2 hb
      have e11' : S33.1 h 11 = -1 := by rw [n4.1, hb]; rfl
      have hc0 : c = pSe s 0 := by
        have h1 := hE.2.1 0 (by decide)
        have hW := (linS_W 401 0 ps0 s (Nat.zero_le _) ps0_W hl2 hb).1.1
        rw [c3] at h1
        exact (nI_eq (by omega) (by omega)).mp h1
      have hmi : misI (S33.1 (h + 6)) (8 - c) (-1) = akN (misS s (8 - pSe s 0) none) := by rw [hc0]; exact misI_S n5 hE.1 _ none (by omega) (fun a e => by cases e)
      cases hm : misS s (8 - pSe s 0) none with
      | some q =>
        rw [hm] at er hmi
        have hnq : ¬ akN (some q) = -1 := by
          have h1 := reaF_m hl2 hb
          have : q < 1000 := misS_lt n5 hm (fun a e => by cases e)
          exact nI_neg1 (by omega)
        refine X_istore_n (i := 1) hB dX12_net_36 rfl (by decide) rfl ?_
        refine X_aload_n (i := 0) hB dX12_net_37 rfl rfl ?_
        refine X_callV hB kX12_177 cw10 hR.1.1 hR.1.2 (c_missing hR hF33 c c2 c3) (by decide) (by decide) rfl rfl (Nat.le_of_ble_eq_true rfl) dX12_net_38 (fun r38 S38 q38 => ?_)
        obtain ⟨rfl, rfl⟩ := q38
        refine X_topi (y := nI q) (hmi) ?_
        refine X_istore_n (i := 2) hB dX12_net_41 rfl (by decide) rfl ?_
        refine X_aload_n (i := 0) hB dX12_net_42 rfl rfl ?_
        refine X_getr hB cw10 fX12_7 rfl hR.1.1 hR.1.2 hF33.1 dX12_net_43 ?_
        refine X_bipush (v := 12) hB dX12_net_46 (by decide) ?_
        refine X_iload_n (i := 1) hB dX12_net_48 rfl rfl ?_
        refine X_if_ne (tgt := 56) hB dX12_net_49 (by decide) (fun c49 => ?_) (fun c49 => absurd c49 (by decide))
        refine X_aload_n (i := 0) hB dX12_net_56 rfl rfl ?_
        refine X_geti hB cw10 fX12_121 rfl hR.1.1 hR.1.2 dX12_net_57 ?_
        refine X_iconst (v := (-1)) hB dX12_net_60 (by decide) ?_
        refine X_icmp_eq (tgt := 68) hB dX12_net_61 (by decide) (fun c61 => ?_) (fun c61 => absurd e11' c61)
        refine X_iload_n (i := 2) hB dX12_net_68 rfl rfl ?_
        refine X_iconst (v := (-1)) hB dX12_net_69 (by decide) ?_
        refine X_icmp_eq (tgt := 77) hB dX12_net_70 (by decide) (fun c70 => absurd c70 hnq) (fun c70 => ?_)
        refine X_iconst (v := 3) hB dX12_net_73 (by decide) ?_
        refine X_goto (tgt := 78) hB dX12_net_74 (by decide) ?_
        refine X_iastN hB (12) hR.2.1.1 hR.2.1.2 (by decide) rfl (by decide) dX12_net_78 ?_
        refine X_aload_n (i := 0) hB dX12_net_79 rfl rfl ?_
        refine X_getr hB cw10 fX12_7 rfl hR.1.1 hR.1.2 hF33.1 dX12_net_80 ?_
        refine X_bipush (v := 13) hB dX12_net_83 (by decide) ?_
        refine X_iload_n (i := 1) hB dX12_net_85 rfl rfl ?_
        refine X_if_ne (tgt := 96) hB dX12_net_86 (by decide) (fun c86 => ?_) (fun c86 => absurd c86 (by decide))
        refine X_aload_n (i := 0) hB dX12_net_96 rfl rfl ?_
        refine X_geti hB cw10 fX12_121 rfl hR.1.1 hR.1.2 dX12_net_97 ?_
        refine X_iconst (v := (-1)) hB dX12_net_100 (by decide) ?_
        refine X_icmp_eq (tgt := 111) hB dX12_net_101 (by decide) (fun c101 => ?_) (fun c101 => absurd (b11.trans e11') c101)
        refine X_iload_n (i := 2) hB dX12_net_111 rfl rfl ?_
        refine X_iastN hB (13) hR.2.1.1 hR.2.1.2 (by decide) rfl (by decide) dX12_net_112 ?_
        have u1 : ∀ i, i ≠ 12 → i ≠ 13 → (setI (setI S33 (h + 1) 12 3) (h + 1) 13 (nI q)).1 (h + 1) i = S33.1 (h + 1) i := fun i q1 q2 => by rw [setI_ne _ _ (Or.inr q2), setI_ne _ _ (Or.inr q1)]
        have u2 : (setI (setI S33 (h + 1) 12 3) (h + 1) 13 (nI q)).1 (h + 1) 12 = 3 := by rw [setI_ne _ _ (Or.inr (by decide)), setI_at]
        have u3 : (setI (setI S33 (h + 1) 12 3) (h + 1) 13 (nI q)).1 (h + 1) 13 = (nI q) := setI_at _ _ _ _
        have fU : frT h [h + 1, h + 4, h + 5, h + 6] [0, 4, 5, 6, 7, 8, 10, 11, 16, 17, 18] S (setI (setI S33 (h + 1) 12 3) (h + 1) 13 (nI q)) := f33.tr ((frT.set (by simp) (by omega)).tr (frT.set (by simp) (by omega)))
        have a33 : ∀ i, i ≠ 11 → S33.1 (h + 1) i = S.1 (h + 1) i := fun i q => by rw [w1, setI_ne _ _ (Or.inr q), setI_row _ _ _ (by omega), setI_row _ _ _ (by omega)]
        have a11 : S33.1 (h + 1) 11 = 0 := by rw [w1, setI_at]
        have hse : ∀ k, (11 ≤ k ∧ k < 14) ∨ 2457 ≤ k → (setI (setI S33 (h + 1) 12 3) (h + 1) 13 (nI q)).1 (h + 1) k = nI (se3 σ B k) := fun k hk => by
          unfold se3
          by_cases q11 : k = 11
          · subst q11; rw [if_pos rfl, u1 _ (by decide) (by decide), a11]; rfl
          · rw [if_neg q11]
            by_cases q12 : k = 12
            · subst q12; rw [if_pos rfl, u2, er]; rfl
            · rw [if_neg q12]
              by_cases q13 : k = 13
              · subst q13; rw [if_pos rfl, u3, flN_I, er]; rfl
              · rw [if_neg q13, u1 k q12 q13, a33 k q11]; exact hN.1.1 k (by omega)
        refine X_aload_n (i := 0) hB dX12_net_113 rfl rfl ?_
        refine X_getr hB cw10 fX12_7 rfl hR.1.1 hR.1.2 hF33.1 dX12_net_114 ?_
        refine X_bipush (v := 12) hB dX12_net_117 (by decide) ?_
        refine X_ialdN hB (12) hR.2.1.1 hR.2.1.2 (by decide) rfl (by decide) u2 dX12_net_119 ?_
        refine X_if_eq (tgt := 125) hB dX12_net_120 (by decide) (fun c120 => absurd c120 (by decide)) (fun c120 => ?_)
        refine X_iconst (v := (-1)) hB dX12_net_123 (by decide) ?_
        refine X_iret hB rfl dX12_net_124 ?_
        rw [er]
        refine ⟨rfl, fU, ?_, fun i hi => ?_⟩
        · rw [if_neg (by exact (by decide : ¬ (3 : Nat) = 0))]
          refine netR_se hN hs (fun i h1 h2 => by rw [u1 i (by omega) (by omega), a33 i (by omega)]) (fun k hk => ?_)
          rcases hk with hk | hk
          · rw [u1 k (by omega) (by omega), a33 k (by omega)]
            unfold se3
            rw [if_neg (by omega), if_neg (by omega), if_neg (by omega)]
            exact hN.1.1 k (Or.inl hk)
          · exact hse k hk
        · rw [u1 i (by omega) (by omega)]; exact a33 i (by omega)
      | none =>
        rw [hm] at er hmi
        refine X_istore_n (i := 1) hB dX12_net_36 rfl (by decide) rfl ?_
        refine X_aload_n (i := 0) hB dX12_net_37 rfl rfl ?_
        refine X_callV hB kX12_177 cw10 hR.1.1 hR.1.2 (c_missing hR hF33 c c2 c3) (by decide) (by decide) rfl rfl (Nat.le_of_ble_eq_true rfl) dX12_net_38 (fun r38 S38 q38 => ?_)
        obtain ⟨rfl, rfl⟩ := q38
        refine X_topi (y := -1) (hmi) ?_
        refine X_istore_n (i := 2) hB dX12_net_41 rfl (by decide) rfl ?_
        refine X_aload_n (i := 0) hB dX12_net_42 rfl rfl ?_
        refine X_getr hB cw10 fX12_7 rfl hR.1.1 hR.1.2 hF33.1 dX12_net_43 ?_
        refine X_bipush (v := 12) hB dX12_net_46 (by decide) ?_
        refine X_iload_n (i := 1) hB dX12_net_48 rfl rfl ?_
        refine X_if_ne (tgt := 56) hB dX12_net_49 (by decide) (fun c49 => ?_) (fun c49 => absurd c49 (by decide))
        refine X_aload_n (i := 0) hB dX12_net_56 rfl rfl ?_
        refine X_geti hB cw10 fX12_121 rfl hR.1.1 hR.1.2 dX12_net_57 ?_
        refine X_iconst (v := (-1)) hB dX12_net_60 (by decide) ?_
        refine X_icmp_eq (tgt := 68) hB dX12_net_61 (by decide) (fun c61 => ?_) (fun c61 => absurd e11' c61)
        refine X_iload_n (i := 2) hB dX12_net_68 rfl rfl ?_
        refine X_iconst (v := (-1)) hB dX12_net_69 (by decide) ?_
        refine X_icmp_eq (tgt := 77) hB dX12_net_70 (by decide) (fun c70 => ?_) (fun c70 => absurd rfl c70)
        refine X_iconst (v := 0) hB dX12_net_77 (by decide) ?_
        refine X_iastN hB (12) hR.2.1.1 hR.2.1.2 (by decide) rfl (by decide) dX12_net_78 ?_
        refine X_aload_n (i := 0) hB dX12_net_79 rfl rfl ?_
        refine X_getr hB cw10 fX12_7 rfl hR.1.1 hR.1.2 hF33.1 dX12_net_80 ?_
        refine X_bipush (v := 13) hB dX12_net_83 (by decide) ?_
        refine X_iload_n (i := 1) hB dX12_net_85 rfl rfl ?_
        refine X_if_ne (tgt := 96) hB dX12_net_86 (by decide) (fun c86 => ?_) (fun c86 => absurd c86 (by decide))
        refine X_aload_n (i := 0) hB dX12_net_96 rfl rfl ?_
        refine X_geti hB cw10 fX12_121 rfl hR.1.1 hR.1.2 dX12_net_97 ?_
        refine X_iconst (v := (-1)) hB dX12_net_100 (by decide) ?_
        refine X_icmp_eq (tgt := 111) hB dX12_net_101 (by decide) (fun c101 => ?_) (fun c101 => absurd (b11.trans e11') c101)
        refine X_iload_n (i := 2) hB dX12_net_111 rfl rfl ?_
        refine X_iastN hB (13) hR.2.1.1 hR.2.1.2 (by decide) rfl (by decide) dX12_net_112 ?_
        have u1 : ∀ i, i ≠ 12 → i ≠ 13 → (setI (setI S33 (h + 1) 12 0) (h + 1) 13 (-1)).1 (h + 1) i = S33.1 (h + 1) i := fun i q1 q2 => by rw [setI_ne _ _ (Or.inr q2), setI_ne _ _ (Or.inr q1)]
        have u2 : (setI (setI S33 (h + 1) 12 0) (h + 1) 13 (-1)).1 (h + 1) 12 = 0 := by rw [setI_ne _ _ (Or.inr (by decide)), setI_at]
        have u3 : (setI (setI S33 (h + 1) 12 0) (h + 1) 13 (-1)).1 (h + 1) 13 = (-1) := setI_at _ _ _ _
        have fU : frT h [h + 1, h + 4, h + 5, h + 6] [0, 4, 5, 6, 7, 8, 10, 11, 16, 17, 18] S (setI (setI S33 (h + 1) 12 0) (h + 1) 13 (-1)) := f33.tr ((frT.set (by simp) (by omega)).tr (frT.set (by simp) (by omega)))
        have a33 : ∀ i, i ≠ 11 → S33.1 (h + 1) i = S.1 (h + 1) i := fun i q => by rw [w1, setI_ne _ _ (Or.inr q), setI_row _ _ _ (by omega), setI_row _ _ _ (by omega)]
        have a11 : S33.1 (h + 1) 11 = 0 := by rw [w1, setI_at]
        have hse : ∀ k, (11 ≤ k ∧ k < 14) ∨ 2457 ≤ k → (setI (setI S33 (h + 1) 12 0) (h + 1) 13 (-1)).1 (h + 1) k = nI (se3 σ B k) := fun k hk => by
          unfold se3
          by_cases q11 : k = 11
          · subst q11; rw [if_pos rfl, u1 _ (by decide) (by decide), a11]; rfl
          · rw [if_neg q11]
            by_cases q12 : k = 12
            · subst q12; rw [if_pos rfl, u2, er]; rfl
            · rw [if_neg q12]
              by_cases q13 : k = 13
              · subst q13; rw [if_pos rfl, u3, flN_I, er]; rfl
              · rw [if_neg q13, u1 k q12 q13, a33 k q11]; exact hN.1.1 k (by omega)
        have y0 : RRef (setI (setI S33 (h + 1) 12 0) (h + 1) 13 (-1)) h := hF33.of rfl
        have hEU : trE (setI (setI S33 (h + 1) 12 0) (h + 1) 13 (-1)) h s := by
          unfold trE
          rw [setI_row _ _ _ (by omega), setI_row _ _ _ (by omega), setI_row _ _ _ (by omega), setI_row _ _ _ (by omega), setI_row _ _ _ (by omega), setI_row _ _ _ (by omega), setI_ne _ _ (Or.inl (by omega)), setI_ne _ _ (Or.inl (by omega)), setI_ne _ _ (Or.inl (by omega)), setI_ne _ _ (Or.inl (by omega))]
          exact hE
        refine X_aload_n (i := 0) hB dX12_net_113 rfl rfl ?_
        refine X_getr hB cw10 fX12_7 rfl hR.1.1 hR.1.2 hF33.1 dX12_net_114 ?_
        refine X_bipush (v := 12) hB dX12_net_117 (by decide) ?_
        refine X_ialdN hB (12) hR.2.1.1 hR.2.1.2 (by decide) rfl (by decide) u2 dX12_net_119 ?_
        refine X_if_eq (tgt := 125) hB dX12_net_120 (by decide) (fun c120 => ?_) (fun c120 => absurd rfl c120)
        refine X_aload_n (i := 0) hB dX12_net_125 rfl rfl ?_
        refine X_callV hB kX12_163 cw10 hR.1.1 hR.1.2 (c_taken hR y0 s hEU (se3 σ B) hse) (by decide) (by decide) rfl rfl (Nat.le_of_ble_eq_true rfl) dX12_net_126 (fun r126 S126 q126 => ?_)
        obtain ⟨rfl, y1, y3, y4⟩ := q126
        have y2 := y1.ref y0
        refine X_aload_n (i := 0) hB dX12_net_129 rfl rfl ?_
        refine X_getr hB cw10 fX12_7 rfl hR.1.1 hR.1.2 y2.1 dX12_net_130 ?_
        refine X_iconst (v := 0) hB dX12_net_133 (by decide) ?_
        refine X_ialdN hB (0) hR.2.1.1 hR.2.1.2 (by decide) rfl (by decide) (y3.1.1 0 (by omega)) dX12_net_134 ?_
        refine X_iret hB rfl dX12_net_135 ?_
        rw [er]
        refine ⟨rfl, fU.tr (y1.t.mono (by simp) (by simp)), ?_, fun i hi => ?_⟩
        · exact y3
        · rw [y4 i hi, u1 i (by omega) (by omega)]; exact a33 i (by omega)
end REF
