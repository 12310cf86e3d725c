/-! the reference: at first, all lines, what is missing, what is taken -/
def misI (A : Nat → Int32) : Nat → Int32 → Int32
  | 0, at_ => at_
  | k + 1, at_ => misI A k (if A (8 - (k + 1)) ≠ -1 ∧ (at_ = -1 ∨ A (8 - (k + 1)) < at_) then A (8 - (k + 1)) else at_)
theorem misI_S {A : Nat → Int32} {s : Ps} (hs : psOk s) (hA : ∀ n, n < 8 → A n = akN (pNm s n)) : ∀ (k : Nat) (o : Option Nat), k ≤ 8 → (∀ a, o = some a → a < 1000) → misI A k (akN o) = akN (misS s k o)
  | 0, _, _, _ => rfl
  | k + 1, o, hk, ho => by
    rw [misS_su]
    show misI A k _ = _
    have hn : 8 - (k + 1) < 8 := by omega
    rw [hA _ hn]
    unfold mis1
    cases hz : pNm s (8 - (k + 1)) with
    | none =>
      rw [if_neg (fun q => q.1 rfl)]
      exact misI_S hs hA k o (by omega) ho
    | some a =>
      have ha := hs.2 _ a hz
      have hna : ¬ akN (some a) = -1 := nI_neg1 (by omega)
      cases o with
      | none =>
        rw [if_pos ⟨hna, Or.inl rfl⟩]
        exact misI_S hs hA k (some a) (by omega) (fun b e => by cases e; exact ha)
      | some q =>
        have hq := ho q rfl
        have hnq : ¬ akN (some q) = -1 := nI_neg1 (by omega)
        have hlt : akN (some a) < akN (some q) ↔ a < q := nI_ltI (by omega) (by omega)
        dsimp only
        by_cases c : a < q
        · rw [if_pos ⟨hna, Or.inr (hlt.mpr c)⟩, if_pos c]
          exact misI_S hs hA k (some a) (by omega) (fun b e => by cases e; exact ha)
        · rw [if_neg (fun z => z.2.elim hnq (fun y => c (hlt.mp y))), if_neg c]
          exact misI_S hs hA k (some q) (by omega) ho
theorem tkW_0 {B : List Nat} {p : Nat} (h : tkK B p ≠ 2) : (0 : Int64) = wd (tkW B p) := by
  unfold tkW; rw [if_neg h]; rfl
theorem clS_lt {B : List Nat} {w p q : Nat} {s s' : Ps} (hp : p ≤ B.length) (h : clS B w p s = .inr (q, s')) : p ≤ q := by
  have hg : ∀ z, z ≤ tkE B z := fun z => by
    have h1 := @tkB_ge B z
    by_cases c : tkK B z = 0
    · have : tkE B z = tkB B z := by unfold tkE; rw [if_pos (tkK_end.mp c)]
      omega
    · have := tkE_gt (B := B) (p := z) c
      omega
  have a := hg p
  have b := hg (tkE B p)
  unfold clS at h
  split at h
  · cases h
  · split at h
    · split at h
      · cases h
      · cases h; omega
    · cases h; exact a
theorem cl0_lt {B : List Nat} {p q : Nat} {s s' : Ps} (hp : p ≤ B.length) (hk : tkK B p ≠ 0) (h : cl0 B p s = .inr (q, s')) : p < q := by
  unfold cl0 at h
  have h1 := @tkB_ge B p
  have h2 := tkE_gt (B := B) (p := p) hk
  cases e : kwI (tkW B p) with
  | none => rw [e] at h; cases h
  | some w =>
    rw [e] at h
    have := clS_lt (tkE_le hp) h
    omega
theorem rowset {S : St} {a k : Nat} {v : Int32} {S0 : St} {h : Nat} {rows : List Nat} (hf : fr h rows [] S0 S) (ha : a ∈ rows) (hh : a ≠ h) : fr h rows [] S0 (setI S a k v) := hf.tr (fr.set ha hh)
section REF
variable {G : Gc} {S : St} {h : Nat}
set_option maxRecDepth 100000 in
set_option maxHeartbeats 4000000 in
theorem l_missing (hR : RLay G h) (hF : RRef S h) {E : Ev} (hB : Bd G E mX12_missing) {Q : Option Value → St → Prop} (fin : Int32) (kk : Q (some (.int fin)) S) :
    ∀ (j k : Nat) (at_ : Int32), k + j = 8 → misI (S.1 (h + 6)) j at_ = fin → X G E mX12_missing 0 Q S 9 [some (.ref h), some (.int at_), some (.int (nI k))] [] := by
  intro j
  induction j with
  | zero =>
    intro k at_ h1 h2
    have e9 : k = 8 := by omega
    subst e9
    subst h2
    refine X_iload_n (i := 2) hB dX12_missing_9 rfl rfl ?_
    refine X_bipush (v := 8) hB dX12_missing_10 (by decide) ?_
    refine X_icmp_ge (tgt := 57) hB dX12_missing_12 (by decide) (fun c12 => ?_) (fun c12 => absurd c12 (by simp (disch := omega) only [nlit, nI_leI, nI_ltI]; omega))
    refine X_iload_n (i := 1) hB dX12_missing_57 rfl rfl ?_
    refine X_iret hB rfl dX12_missing_58 ?_
    exact kk
  | succ j ih =>
    intro k at_ h1 h2
    have h2 : misI (S.1 (h + 6)) j (if S.1 (h + 6) (8 - (j + 1)) ≠ -1 ∧ (at_ = -1 ∨ S.1 (h + 6) (8 - (j + 1)) < at_) then S.1 (h + 6) (8 - (j + 1)) else at_) = fin := h2
    rw [show 8 - (j + 1) = k by omega] at h2
    refine X_iload_n (i := 2) hB dX12_missing_9 rfl rfl ?_
    refine X_bipush (v := 8) hB dX12_missing_10 (by decide) ?_
    refine X_icmp_ge (tgt := 57) hB dX12_missing_12 (by decide) (fun c12 => absurd c12 (by simp (disch := omega) only [nlit, nI_leI, nI_ltI]; omega)) (fun c12 => ?_)
    refine X_aload_n (i := 0) hB dX12_missing_15 rfl rfl ?_
    refine X_getr hB cw10 fX12_27 rfl hR.1.1 hR.1.2 hF.2.2.2.2.2.1 dX12_missing_16 ?_
    refine X_iload_n (i := 2) hB dX12_missing_19 rfl rfl ?_
    refine X_ialdN hB (k) hR.2.2.2.2.2.2.1.1 hR.2.2.2.2.2.2.1.2 (by decide) rfl (by first | omega | (simp only []; omega)) rfl dX12_missing_20 ?_
    refine X_iconst (v := (-1)) hB dX12_missing_21 (by decide) ?_
    refine X_icmp_eq (tgt := 49) hB dX12_missing_22 (by decide) (fun c22 => ?_) (fun c22 => ?_)
    · refine X_iload_n (i := 1) hB dX12_missing_49 rfl rfl ?_
      refine X_istore_n (i := 1) hB dX12_missing_50 rfl (by decide) rfl ?_
      refine X_iinc hB dX12_missing_51 rfl rfl (by decide) rfl ?_
      refine X_goto (tgt := 9) hB dX12_missing_54 (by decide) ?_
      rw [if_neg (fun q => q.1 c22)] at h2
      refine X_lv ?_ (ih (k + 1) _ (by omega) h2)
      · rw [nI_succ]; rfl
    · refine X_iload_n (i := 1) hB dX12_missing_25 rfl rfl ?_
      refine X_iconst (v := (-1)) hB dX12_missing_26 (by decide) ?_
      refine X_icmp_eq (tgt := 40) hB dX12_missing_27 (by decide) (fun c27 => ?_) (fun c27 => ?_)
      · refine X_aload_n (i := 0) hB dX12_missing_40 rfl rfl ?_
        refine X_getr hB cw10 fX12_27 rfl hR.1.1 hR.1.2 hF.2.2.2.2.2.1 dX12_missing_41 ?_
        refine X_iload_n (i := 2) hB dX12_missing_44 rfl rfl ?_
        refine X_ialdN hB (k) hR.2.2.2.2.2.2.1.1 hR.2.2.2.2.2.2.1.2 (by decide) rfl (by first | omega | (simp only []; omega)) rfl dX12_missing_45 ?_
        refine X_goto (tgt := 50) hB dX12_missing_46 (by decide) ?_
        refine X_istore_n (i := 1) hB dX12_missing_50 rfl (by decide) rfl ?_
        refine X_iinc hB dX12_missing_51 rfl rfl (by decide) rfl ?_
        refine X_goto (tgt := 9) hB dX12_missing_54 (by decide) ?_
        rw [if_pos ⟨c22, Or.inl c27⟩] at h2
        refine X_lv ?_ (ih (k + 1) _ (by omega) h2)
        · rw [nI_succ]; rfl
      · refine X_aload_n (i := 0) hB dX12_missing_30 rfl rfl ?_
        refine X_getr hB cw10 fX12_27 rfl hR.1.1 hR.1.2 hF.2.2.2.2.2.1 dX12_missing_31 ?_
        refine X_iload_n (i := 2) hB dX12_missing_34 rfl rfl ?_
        refine X_ialdN hB (k) hR.2.2.2.2.2.2.1.1 hR.2.2.2.2.2.2.1.2 (by decide) rfl (by first | omega | (simp only []; omega)) rfl dX12_missing_35 ?_
        refine X_iload_n (i := 1) hB dX12_missing_36 rfl rfl ?_
        refine X_icmp_ge (tgt := 49) hB dX12_missing_37 (by decide) (fun c37 => ?_) (fun c37 => ?_)
        · refine X_iload_n (i := 1) hB dX12_missing_49 rfl rfl ?_
          refine X_istore_n (i := 1) hB dX12_missing_50 rfl (by decide) rfl ?_
          refine X_iinc hB dX12_missing_51 rfl rfl (by decide) rfl ?_
          refine X_goto (tgt := 9) hB dX12_missing_54 (by decide) ?_
          rw [if_neg (fun q => q.2.elim c27 (fun z => absurd z (Int32.not_lt.mpr c37)))] at h2
          refine X_lv ?_ (ih (k + 1) _ (by omega) h2)
          · rw [nI_succ]; rfl
        · refine X_aload_n (i := 0) hB dX12_missing_40 rfl rfl ?_
          refine X_getr hB cw10 fX12_27 rfl hR.1.1 hR.1.2 hF.2.2.2.2.2.1 dX12_missing_41 ?_
          refine X_iload_n (i := 2) hB dX12_missing_44 rfl rfl ?_
          refine X_ialdN hB (k) hR.2.2.2.2.2.2.1.1 hR.2.2.2.2.2.2.1.2 (by decide) rfl (by first | omega | (simp only []; omega)) rfl dX12_missing_45 ?_
          refine X_goto (tgt := 50) hB dX12_missing_46 (by decide) ?_
          refine X_istore_n (i := 1) hB dX12_missing_50 rfl (by decide) rfl ?_
          refine X_iinc hB dX12_missing_51 rfl rfl (by decide) rfl ?_
          refine X_goto (tgt := 9) hB dX12_missing_54 (by decide) ?_
          rw [if_pos ⟨c22, Or.inr (Int32.not_le.mp c37)⟩] at h2
          refine X_lv ?_ (ih (k + 1) _ (by omega) h2)
          · rw [nI_succ]; rfl
set_option maxRecDepth 100000 in
set_option maxHeartbeats 4000000 in
theorem c_missing (hR : RLay G h) (hF : RRef S h) (c : Nat) (hc : c ≤ 8) (h0 : S.1 (h + 4) 0 = nI c) : C G mX12_missing 0 [.ref h] S (fun r S' => r = some (.int (misI (S.1 (h + 6)) (8 - c) (-1))) ∧ S = S') := by
  refine C.mk (lv := [some (.ref h), none, none]) (by decide) (Nat.le_of_ble_eq_true rfl) rfl (fun E hB => ?_)
  refine X_iconst (v := (-1)) hB dX12_missing_0 (by decide) ?_
  refine X_istore_n (i := 1) hB dX12_missing_1 rfl (by decide) rfl ?_
  refine X_aload_n (i := 0) hB dX12_missing_2 rfl rfl ?_
  refine X_getr hB cw10 fX12_21 rfl hR.1.1 hR.1.2 hF.2.2.2.1 dX12_missing_3 ?_
  refine X_iconst (v := 0) hB dX12_missing_6 (by decide) ?_
  refine X_ialdN hB (0) hR.2.2.2.2.1.1 hR.2.2.2.2.1.2 (by decide) rfl (by first | omega | (simp only []; omega)) h0 dX12_missing_7 ?_
  refine X_istore_n (i := 2) hB dX12_missing_8 rfl (by decide) rfl ?_
  exact l_missing hR hF hB _ ⟨rfl, rfl⟩ (8 - c) c (-1) (by omega) rfl
set_option maxRecDepth 100000 in
set_option maxHeartbeats 4000000 in
theorem u_atFirst (hR : RLay G h) (hF : RRef S h) {E : Ev} (hB : Bd G E mX12_atFirst) {Q : Option Value → St → Prop} (kk : ∀ S1 v, frT h [h + 5] [] S S1 → (∀ m, m < 64 → S1.1 (h + 5) m = 0) → X G E mX12_atFirst 0 Q S1 91 [some (.ref h), some (.int v)] []) :
    ∀ (j k : Nat) (S1 : St), k + j = 64 → frT h [h + 5] [] S S1 → (∀ m, m < k → S1.1 (h + 5) m = 0) → X G E mX12_atFirst 0 Q S1 72 [some (.ref h), some (.int (nI k))] [] := by
  intro j
  induction j with
  | zero =>
    intro k S1 h1 h2 h3
    have e9 : k = 64 := by omega
    subst e9
    refine X_iload_n (i := 1) hB dX12_atFirst_72 rfl rfl ?_
    refine X_bipush (v := 64) hB dX12_atFirst_73 (by decide) ?_
    refine X_icmp_ge (tgt := 91) hB dX12_atFirst_75 (by decide) (fun c75 => ?_) (fun c75 => absurd c75 (by simp (disch := omega) only [nlit, nI_leI, nI_ltI]; omega))
    exact kk S1 _ h2 h3
  | succ j ih =>
    intro k S1 h1 h2 h3
    have hF1 := h2.ref hF
    refine X_iload_n (i := 1) hB dX12_atFirst_72 rfl rfl ?_
    refine X_bipush (v := 64) hB dX12_atFirst_73 (by decide) ?_
    refine X_icmp_ge (tgt := 91) hB dX12_atFirst_75 (by decide) (fun c75 => absurd c75 (by simp (disch := omega) only [nlit, nI_leI, nI_ltI]; omega)) (fun c75 => ?_)
    refine X_aload_n (i := 0) hB dX12_atFirst_78 rfl rfl ?_
    refine X_getr hB cw10 fX12_24 rfl hR.1.1 hR.1.2 hF1.2.2.2.2.1 dX12_atFirst_79 ?_
    refine X_iload_n (i := 1) hB dX12_atFirst_82 rfl rfl ?_
    refine X_iconst (v := 0) hB dX12_atFirst_83 (by decide) ?_
    refine X_iastN hB (k) hR.2.2.2.2.2.1.1 hR.2.2.2.2.2.1.2 (by decide) rfl (by first | omega | (simp only []; omega)) dX12_atFirst_84 ?_
    refine X_iinc hB dX12_atFirst_85 rfl rfl (by decide) rfl ?_
    refine X_goto (tgt := 72) hB dX12_atFirst_88 (by decide) ?_
    refine X_lv ?_ (ih (k + 1) _ (by omega) (h2.tr (frT.set (by simp) (by omega))) (fun m hm => ?_))
    · rw [nI_succ]; rfl
    · by_cases z : m = k
      · rw [z, setI_at]
      · rw [setI_ne _ _ (Or.inr z)]; exact h3 m (by omega)
set_option maxRecDepth 100000 in
set_option maxHeartbeats 4000000 in
theorem f_atFirst (hR : RLay G h) (hF : RRef S h) {E : Ev} (hB : Bd G E mX12_atFirst) {Q : Option Value → St → Prop} (kk : ∀ S1 v, frT h [h + 6] [] S S1 → (∀ m, m < 8 → S1.1 (h + 6) m = -1) → X G E mX12_atFirst 0 Q S1 112 [some (.ref h), some (.int v)] []) :
    ∀ (j k : Nat) (S1 : St), k + j = 8 → frT h [h + 6] [] S S1 → (∀ m, m < k → S1.1 (h + 6) m = -1) → X G E mX12_atFirst 0 Q S1 93 [some (.ref h), some (.int (nI k))] [] := by
  intro j
  induction j with
  | zero =>
    intro k S1 h1 h2 h3
    have e9 : k = 8 := by omega
    subst e9
    refine X_iload_n (i := 1) hB dX12_atFirst_93 rfl rfl ?_
    refine X_bipush (v := 8) hB dX12_atFirst_94 (by decide) ?_
    refine X_icmp_ge (tgt := 112) hB dX12_atFirst_96 (by decide) (fun c96 => ?_) (fun c96 => absurd c96 (by simp (disch := omega) only [nlit, nI_leI, nI_ltI]; omega))
    exact kk S1 _ h2 h3
  | succ j ih =>
    intro k S1 h1 h2 h3
    have hF1 := h2.ref hF
    refine X_iload_n (i := 1) hB dX12_atFirst_93 rfl rfl ?_
    refine X_bipush (v := 8) hB dX12_atFirst_94 (by decide) ?_
    refine X_icmp_ge (tgt := 112) hB dX12_atFirst_96 (by decide) (fun c96 => absurd c96 (by simp (disch := omega) only [nlit, nI_leI, nI_ltI]; omega)) (fun c96 => ?_)
    refine X_aload_n (i := 0) hB dX12_atFirst_99 rfl rfl ?_
    refine X_getr hB cw10 fX12_27 rfl hR.1.1 hR.1.2 hF1.2.2.2.2.2.1 dX12_atFirst_100 ?_
    refine X_iload_n (i := 1) hB dX12_atFirst_103 rfl rfl ?_
    refine X_iconst (v := (-1)) hB dX12_atFirst_104 (by decide) ?_
    refine X_iastN hB (k) hR.2.2.2.2.2.2.1.1 hR.2.2.2.2.2.2.1.2 (by decide) rfl (by first | omega | (simp only []; omega)) dX12_atFirst_105 ?_
    refine X_iinc hB dX12_atFirst_106 rfl rfl (by decide) rfl ?_
    refine X_goto (tgt := 93) hB dX12_atFirst_109 (by decide) ?_
    refine X_lv ?_ (ih (k + 1) _ (by omega) (h2.tr (frT.set (by simp) (by omega))) (fun m hm => ?_))
    · rw [nI_succ]; rfl
    · by_cases z : m = k
      · rw [z, setI_at]
      · rw [setI_ne _ _ (Or.inr z)]; exact h3 m (by omega)
set_option maxRecDepth 100000 in
set_option maxHeartbeats 4000000 in
theorem c_atFirst (hR : RLay G h) (hF : RRef S h)  : C G mX12_atFirst 0 [.ref h] S (fun r S' => r = none ∧ frT h [h + 4, h + 5, h + 6] [4, 11, 16, 17] S S' ∧ S'.1 h 4 = nI 0 ∧ trR S' h ps0) := by
  refine C.mk (lv := [some (.ref h), none]) (by decide) (Nat.le_of_ble_eq_true rfl) rfl (fun E hB => ?_)
  refine X_aload_n (i := 0) hB dX12_atFirst_0 rfl rfl ?_
  refine X_getr hB cw10 fX12_21 rfl hR.1.1 hR.1.2 hF.2.2.2.1 dX12_atFirst_1 ?_
  refine X_iconst (v := 0) hB dX12_atFirst_4 (by decide) ?_
  refine X_iconst (v := 2) hB dX12_atFirst_5 (by decide) ?_
  refine X_iastN hB (0) hR.2.2.2.2.1.1 hR.2.2.2.2.1.2 (by decide) rfl (by decide) dX12_atFirst_6 ?_
  refine X_aload_n (i := 0) hB dX12_atFirst_7 rfl rfl ?_
  refine X_getr hB cw10 fX12_21 rfl hR.1.1 hR.1.2 hF.2.2.2.1 dX12_atFirst_8 ?_
  refine X_iconst (v := 1) hB dX12_atFirst_11 (by decide) ?_
  refine X_bipush (v := 7) hB dX12_atFirst_12 (by decide) ?_
  refine X_iastN hB (1) hR.2.2.2.2.1.1 hR.2.2.2.2.1.2 (by decide) rfl (by decide) dX12_atFirst_14 ?_
  refine X_aload_n (i := 0) hB dX12_atFirst_15 rfl rfl ?_
  refine X_getr hB cw10 fX12_21 rfl hR.1.1 hR.1.2 hF.2.2.2.1 dX12_atFirst_16 ?_
  refine X_iconst (v := 2) hB dX12_atFirst_19 (by decide) ?_
  refine X_iconst (v := 4) hB dX12_atFirst_20 (by decide) ?_
  refine X_iastN hB (2) hR.2.2.2.2.1.1 hR.2.2.2.2.1.2 (by decide) rfl (by decide) dX12_atFirst_21 ?_
  refine X_aload_n (i := 0) hB dX12_atFirst_22 rfl rfl ?_
  refine X_getr hB cw10 fX12_21 rfl hR.1.1 hR.1.2 hF.2.2.2.1 dX12_atFirst_23 ?_
  refine X_iconst (v := 3) hB dX12_atFirst_26 (by decide) ?_
  refine X_iconst (v := 4) hB dX12_atFirst_27 (by decide) ?_
  refine X_iastN hB (3) hR.2.2.2.2.1.1 hR.2.2.2.2.1.2 (by decide) rfl (by decide) dX12_atFirst_28 ?_
  refine X_aload_n (i := 0) hB dX12_atFirst_29 rfl rfl ?_
  refine X_getr hB cw10 fX12_21 rfl hR.1.1 hR.1.2 hF.2.2.2.1 dX12_atFirst_30 ?_
  refine X_iconst (v := 4) hB dX12_atFirst_33 (by decide) ?_
  refine X_iconst (v := 3) hB dX12_atFirst_34 (by decide) ?_
  refine X_iastN hB (4) hR.2.2.2.2.1.1 hR.2.2.2.2.1.2 (by decide) rfl (by decide) dX12_atFirst_35 ?_
  refine X_aload_n (i := 0) hB dX12_atFirst_36 rfl rfl ?_
  refine X_getr hB cw10 fX12_21 rfl hR.1.1 hR.1.2 hF.2.2.2.1 dX12_atFirst_37 ?_
  refine X_iconst (v := 5) hB dX12_atFirst_40 (by decide) ?_
  refine X_bipush (v := 9) hB dX12_atFirst_41 (by decide) ?_
  refine X_iastN hB (5) hR.2.2.2.2.1.1 hR.2.2.2.2.1.2 (by decide) rfl (by decide) dX12_atFirst_43 ?_
  refine X_aload_n (i := 0) hB dX12_atFirst_44 rfl rfl ?_
  refine X_getr hB cw10 fX12_21 rfl hR.1.1 hR.1.2 hF.2.2.2.1 dX12_atFirst_45 ?_
  refine X_bipush (v := 6) hB dX12_atFirst_48 (by decide) ?_
  refine X_iconst (v := 3) hB dX12_atFirst_50 (by decide) ?_
  refine X_iastN hB (6) hR.2.2.2.2.1.1 hR.2.2.2.2.1.2 (by decide) rfl (by decide) dX12_atFirst_51 ?_
  refine X_aload_n (i := 0) hB dX12_atFirst_52 rfl rfl ?_
  refine X_getr hB cw10 fX12_21 rfl hR.1.1 hR.1.2 hF.2.2.2.1 dX12_atFirst_53 ?_
  refine X_bipush (v := 7) hB dX12_atFirst_56 (by decide) ?_
  refine X_iconst (v := 1) hB dX12_atFirst_58 (by decide) ?_
  refine X_iastN hB (7) hR.2.2.2.2.1.1 hR.2.2.2.2.1.2 (by decide) rfl (by decide) dX12_atFirst_59 ?_
  refine X_aload_n (i := 0) hB dX12_atFirst_60 rfl rfl ?_
  refine X_iconst (v := 0) hB dX12_atFirst_61 (by decide) ?_
  refine X_puti hB cw10 fX12_150 rfl rfl hR.1.1 hR.1.2 dX12_atFirst_62 ?_
  refine X_aload_n (i := 0) hB dX12_atFirst_65 rfl rfl ?_
  refine X_iconst (v := 0) hB dX12_atFirst_66 (by decide) ?_
  refine X_puti hB cw10 fX12_153 rfl rfl hR.1.1 hR.1.2 dX12_atFirst_67 ?_
  refine X_iconst (v := 0) hB dX12_atFirst_70 (by decide) ?_
  refine X_istore_n (i := 1) hB dX12_atFirst_71 rfl (by decide) rfl ?_
  generalize hT : (setI (setI (setI (setI (setI (setI (setI (setI (setI (setI S (h + 4) 0 2) (h + 4) 1 7) (h + 4) 2 4) (h + 4) 3 4) (h + 4) 4 3) (h + 4) 5 9) (h + 4) 6 3) (h + 4) 7 1) h 16 0) h 17 0) = T
  have t1 : frT h [h + 4] [16, 17] S T := by
    rw [← hT]
    exact (((((((((frT.set (by simp) (by omega)).tr (frT.set (by simp) (by omega))).tr (frT.set (by simp) (by omega))).tr (frT.set (by simp) (by omega))).tr (frT.set (by simp) (by omega))).tr (frT.set (by simp) (by omega))).tr (frT.set (by simp) (by omega))).tr (frT.set (by simp) (by omega))).tr (frT.fld (by simp))).tr (frT.fld (by simp))
  have t2 : ∀ k, k < 8 → T.1 (h + 4) k = nI (pSe ps0 k) := fun k hk => by
    rw [← hT, setI_row _ _ _ (by omega), setI_row _ _ _ (by omega)]
    rcases (show k = 0 ∨ k = 1 ∨ k = 2 ∨ k = 3 ∨ k = 4 ∨ k = 5 ∨ k = 6 ∨ k = 7 by omega) with rfl | rfl | rfl | rfl | rfl | rfl | rfl | rfl
    · rw [setI_ne _ _ (Or.inr (by decide)), setI_ne _ _ (Or.inr (by decide)), setI_ne _ _ (Or.inr (by decide)), setI_ne _ _ (Or.inr (by decide)), setI_ne _ _ (Or.inr (by decide)), setI_ne _ _ (Or.inr (by decide)), setI_ne _ _ (Or.inr (by decide)), setI_at]; rfl
    · rw [setI_ne _ _ (Or.inr (by decide)), setI_ne _ _ (Or.inr (by decide)), setI_ne _ _ (Or.inr (by decide)), setI_ne _ _ (Or.inr (by decide)), setI_ne _ _ (Or.inr (by decide)), setI_ne _ _ (Or.inr (by decide)), setI_at]; rfl
    · rw [setI_ne _ _ (Or.inr (by decide)), setI_ne _ _ (Or.inr (by decide)), setI_ne _ _ (Or.inr (by decide)), setI_ne _ _ (Or.inr (by decide)), setI_ne _ _ (Or.inr (by decide)), setI_at]; rfl
    · rw [setI_ne _ _ (Or.inr (by decide)), setI_ne _ _ (Or.inr (by decide)), setI_ne _ _ (Or.inr (by decide)), setI_ne _ _ (Or.inr (by decide)), setI_at]; rfl
    · rw [setI_ne _ _ (Or.inr (by decide)), setI_ne _ _ (Or.inr (by decide)), setI_ne _ _ (Or.inr (by decide)), setI_at]; rfl
    · rw [setI_ne _ _ (Or.inr (by decide)), setI_ne _ _ (Or.inr (by decide)), setI_at]; rfl
    · rw [setI_ne _ _ (Or.inr (by decide)), setI_at]; rfl
    · rw [setI_at]; rfl
  have t3 : T.1 h 16 = 0 ∧ T.1 h 17 = 0 := by
    rw [← hT]
    exact ⟨by rw [setI_ne _ _ (Or.inr (by decide)), setI_at], setI_at _ _ _ _⟩
  clear hT
  have hF1 := t1.ref hF
  refine X_lv (lv' := [some (.ref h), some (.int (nI 0))]) (by rw [nI_0]; rfl) (u_atFirst (S := T) hR hF1 hB (fun S1 v1 a1 a2 => ?_) 64 0 T (by omega) frT.rf (fun m hm => by omega))
  have hF2 := a1.ref hF1
  refine X_iconst (v := 0) hB dX12_atFirst_91 (by decide) ?_
  refine X_istore_n (i := 1) hB dX12_atFirst_92 rfl (by decide) rfl ?_
  refine X_lv (lv' := [some (.ref h), some (.int (nI 0))]) (by rw [nI_0]; rfl) (f_atFirst (S := S1) hR hF2 hB (fun S2 v2 b1 b2 => ?_) 8 0 S1 (by omega) frT.rf (fun m hm => by omega))
  refine X_aload_n (i := 0) hB dX12_atFirst_112 rfl rfl ?_
  refine X_iconst (v := (-1)) hB dX12_atFirst_113 (by decide) ?_
  refine X_puti hB cw10 fX12_121 rfl rfl hR.1.1 hR.1.2 dX12_atFirst_114 ?_
  refine X_aload_n (i := 0) hB dX12_atFirst_117 rfl rfl ?_
  refine X_iconst (v := 0) hB dX12_atFirst_118 (by decide) ?_
  refine X_puti hB cw10 fX12_72 rfl rfl hR.1.1 hR.1.2 dX12_atFirst_119 ?_
  refine X_vret hB rfl dX12_atFirst_122 ?_
  have g4 : S2.1 (h + 4) = T.1 (h + 4) := (b1.2.2.1 _ (by simp) (by omega)).trans (a1.2.2.1 _ (by simp) (by omega))
  have g5 : S2.1 (h + 5) = S1.1 (h + 5) := b1.2.2.1 _ (by simp) (by omega)
  have gf : ∀ k, S2.1 h k = T.1 h k := fun k => (b1.2.2.2 k (by simp)).trans (a1.2.2.2 k (by simp))
  refine ⟨rfl, (((t1.mono (by simp) (by simp)).tr (a1.mono (by simp) (by simp))).tr (b1.mono (by simp) (by simp))).tr ((frT.fld (by simp)).tr (frT.fld (by simp))), ?_, ?_, ⟨2, by decide, by decide, ?_⟩, fun _ => ⟨fun n hn => ?_, fun k hk => ?_, fun a b ha hb => ?_, ?_, ?_⟩⟩
  · rw [setI_at]; rfl
  · rw [setI_ne _ _ (Or.inr (by decide)), setI_at]; rfl
  · rw [setI_row _ _ _ (by omega), setI_row _ _ _ (by omega), g4]; exact t2 0 (by decide)
  · rw [setI_row _ _ _ (by omega), setI_row _ _ _ (by omega)]; exact b2 n hn
  · rw [setI_row _ _ _ (by omega), setI_row _ _ _ (by omega), g4]; exact t2 k hk
  · rw [setI_row _ _ _ (by omega), setI_row _ _ _ (by omega), g5]; exact a2 _ (by omega)
  · rw [setI_ne _ _ (Or.inr (by decide)), setI_ne _ _ (Or.inr (by decide)), gf, t3.1]; exact congrArg nI (bts_f 8).symm
  · rw [setI_ne _ _ (Or.inr (by decide)), setI_ne _ _ (Or.inr (by decide)), gf, t3.2]; exact congrArg nI (bts_f 8).symm
def alQ (S S' : St) (h : Nat) (r : Option Value) (c : Nat ⊕ Ps) : Prop := frT h [h + 4, h + 5, h + 6] lnF S S' ∧ trC S' h ∧ match c with
  | .inl e => r = some (.int 0) ∧ S'.1 h 10 = nI e
  | .inr s => r = some (.int 1) ∧ trR S' h s ∧ psOk s
set_option maxRecDepth 100000 in
set_option maxHeartbeats 4000000 in
theorem l_allLines (hR : RLay G h) (hF : RRef S h) {E : Ev} (hB : Bd G E mX12_allLines) {Q : Option Value → St → Prop} (B : List Nat) (hx : txtR S h B) (kk : ∀ r S1, alQ S S1 h r (linS B 401 0 ps0) → Q r S1) :
    ∀ (j i p : Nat) (s : Ps) (S1 : St), i + j = 401 → linS B j p s = linS B 401 0 ps0 → p ≤ B.length → i ≤ p → frT h [h + 4, h + 5, h + 6] lnF S S1 → tokR S1 h B p → trR S1 h s → psOk s → X G E mX12_allLines 5 Q S1 2 [some (.ref h), some (.int 1)] [] := by
  have h400 := hx.2.1
  intro j
  induction j with
  | zero =>
    intro i p s S1 h1 h2 h3 h4
    exact absurd h3 (by omega)
  | succ j ih =>
    intro i p s S1 h1 h2 h3 h4 hf hQ hT hs
    have hF1 := hf.ref hF
    have hx1 := hx.fr hf (by decide) (by simp)
    have hk4 : tkK B p ≤ 4 := tkK_4
    by_cases hk : tkK B p = 0
    · have hl : linS B 401 0 ps0 = .inr s := by
        rw [← h2]
        show (if tkK B p = 0 then _ else _) = _
        rw [if_pos hk]
      rw [hl] at kk
      have s0 : S1.1 h 7 = 0 := by rw [hQ.2.2.1, hk]; rfl
      refine X_iload_n (i := 1) hB dX12_allLines_2 rfl rfl ?_
      refine X_if_eq (tgt := 62) hB dX12_allLines_3 (by decide) (fun c3 => absurd c3 (by decide)) (fun c3 => ?_)
      refine X_aload_n (i := 0) hB dX12_allLines_6 rfl rfl ?_
      refine X_geti hB cw10 fX12_89 rfl hR.1.1 hR.1.2 dX12_allLines_7 ?_
      refine X_if_eq (tgt := 62) hB dX12_allLines_10 (by decide) (fun c10 => ?_) (fun c10 => absurd s0 c10)
      refine X_iload_n (i := 1) hB dX12_allLines_62 rfl rfl ?_
      refine X_zret hB rfl (by first | exact Or.inl rfl | exact Or.inr rfl) dX12_allLines_63 ?_
      exact kk _ _ ⟨hf, hT.2.1, rfl, hT, hs⟩
    · have s0 : ¬ S1.1 h 7 = 0 := by
        rw [hQ.2.2.1]
        exact fun z => hk ((nI_eq (b := 0) (by omega) (by omega)).mp z)
      rw [linS_st hk, cl1_0] at h2
      refine X_iload_n (i := 1) hB dX12_allLines_2 rfl rfl ?_
      refine X_if_eq (tgt := 62) hB dX12_allLines_3 (by decide) (fun c3 => absurd c3 (by decide)) (fun c3 => ?_)
      refine X_aload_n (i := 0) hB dX12_allLines_6 rfl rfl ?_
      refine X_geti hB cw10 fX12_89 rfl hR.1.1 hR.1.2 dX12_allLines_7 ?_
      refine X_if_eq (tgt := 62) hB dX12_allLines_10 (by decide) (fun c10 => absurd c10 s0) (fun c10 => ?_)
      refine X_aload_n (i := 0) hB dX12_allLines_13 rfl rfl ?_
      refine X_aload_n (i := 0) hB dX12_allLines_14 rfl rfl ?_
      refine X_geti hB cw10 fX12_89 rfl hR.1.1 hR.1.2 dX12_allLines_15 ?_
      refine X_iconst (v := 2) hB dX12_allLines_18 (by decide) ?_
      refine X_icmp_ne (tgt := 29) hB dX12_allLines_19 (by decide) (fun c19 => ?_) (fun c19 => ?_)
      · refine X_lconst (v := 0) hB dX12_allLines_29 (by decide) ?_
        refine X_topl (y := wd (tkW B p)) (tkW_0 (fun z => c19 (by rw [hQ.2.2.1, z]; rfl))) ?_
        refine X_callV hB kX12_156 cw10 hR.1.1 hR.1.2 (c_line hR hF1 B hx1 p h3 hQ s hT hs) (by decide) (by decide) rfl rfl (Nat.le_of_ble_eq_true rfl) dX12_allLines_30 (fun r30 S30 q30 => ?_)
        unfold lnQ at q30
        obtain ⟨n1, n2, n3⟩ := q30
        have hf2 := hf.tr n1
        have hF2 := hf2.ref hF
        have hx2 := hx.fr hf2 (by decide) (by simp)
        cases hz : cl0 B p s with
        | inl e =>
          rw [hz] at n3 h2
          obtain ⟨rfl, n4⟩ := n3
          have h2 : (Sum.inl e : Nat ⊕ Ps) = linS B 401 0 ps0 := h2
          have kk : ∀ r S1, alQ S S1 h r (.inl e) → Q r S1 := by rw [h2]; exact kk
          refine X_istore_n (i := 1) hB dX12_allLines_33 rfl (by decide) rfl ?_
          refine X_iload_n (i := 1) hB dX12_allLines_34 rfl rfl ?_
          refine X_if_eq (tgt := 51) hB dX12_allLines_35 (by decide) (fun c35 => ?_) (fun c35 => absurd rfl c35)
          refine X_iload_n (i := 1) hB dX12_allLines_51 rfl rfl ?_
          refine X_if_eq (tgt := 2) hB dX12_allLines_52 (by decide) (fun c52 => ?_) (fun c52 => absurd rfl c52)
          refine X_iload_n (i := 1) hB dX12_allLines_2 rfl rfl ?_
          refine X_if_eq (tgt := 62) hB dX12_allLines_3 (by decide) (fun c3 => ?_) (fun c3 => absurd rfl c3)
          refine X_iload_n (i := 1) hB dX12_allLines_62 rfl rfl ?_
          refine X_zret hB rfl (by first | exact Or.inl rfl | exact Or.inr rfl) dX12_allLines_63 ?_
          exact kk _ _ ⟨hf2, n2, rfl, n4⟩
        | inr qs =>
          obtain ⟨q, s'⟩ := qs
          rw [hz] at n3 h2
          obtain ⟨rfl, n4, n5, n6, n7⟩ := n3
          have hq4 : tkK B q ≤ 4 := tkK_4
          have hpq : p < q := cl0_lt h3 hk hz
          dsimp only at h2
          by_cases e4 : tkK B q = 4
          · rw [if_pos e4] at h2
            dsimp only at h2
            have s4 : S30.1 h 7 = 4 := by rw [n4.2.2.1, e4]; rfl
            refine X_istore_n (i := 1) hB dX12_allLines_33 rfl (by decide) rfl ?_
            refine X_iload_n (i := 1) hB dX12_allLines_34 rfl rfl ?_
            refine X_if_eq (tgt := 51) hB dX12_allLines_35 (by decide) (fun c35 => absurd c35 (by decide)) (fun c35 => ?_)
            refine X_aload_n (i := 0) hB dX12_allLines_38 rfl rfl ?_
            refine X_geti hB cw10 fX12_89 rfl hR.1.1 hR.1.2 dX12_allLines_39 ?_
            refine X_iconst (v := 4) hB dX12_allLines_42 (by decide) ?_
            refine X_icmp_eq (tgt := 51) hB dX12_allLines_43 (by decide) (fun c43 => ?_) (fun c43 => absurd s4 c43)
            refine X_iload_n (i := 1) hB dX12_allLines_51 rfl rfl ?_
            refine X_if_eq (tgt := 2) hB dX12_allLines_52 (by decide) (fun c52 => absurd c52 (by decide)) (fun c52 => ?_)
            refine X_aload_n (i := 0) hB dX12_allLines_55 rfl rfl ?_
            refine X_callV hB kX12_124 cw10 hR.1.1 hR.1.2 (c_token hR hF2 B hx2 (tkE B q) n4.1 (tkE_le n5)) (by decide) (by decide) rfl rfl (Nat.le_of_ble_eq_true rfl) dX12_allLines_56 (fun r56 S56 q56 => ?_)
            obtain ⟨rfl, m1, m2⟩ := q56
            refine X_goto (tgt := 2) hB dX12_allLines_59 (by decide) ?_
            have hgq : q < tkE B q := by
              have h1 := @tkB_ge B q
              have h2 := tkE_gt (B := B) (p := q) (by omega)
              omega
            exact ih (i + 1) (tkE B q) s' S56 (by omega) h2 (tkE_le n5) (by omega) (hf2.tr (m1.mono (mR (Or.inl rfl)) (mF (Or.inl rfl)))) m2 (n6.fr m1 (by simp) (by simp) (by simp) (by simp) (by simp) (by simp)) n7
          · rw [if_neg e4] at h2
            dsimp only at h2
            have kk : ∀ r S1, alQ S S1 h r (.inl (tkB B q)) → Q r S1 := by rw [h2]; exact kk
            have s4 : ¬ S30.1 h 7 = 4 := by
              rw [n4.2.2.1]
              exact fun z => e4 ((nI_eq (b := 4) (by omega) (by omega)).mp z)
            refine X_istore_n (i := 1) hB dX12_allLines_33 rfl (by decide) rfl ?_
            refine X_iload_n (i := 1) hB dX12_allLines_34 rfl rfl ?_
            refine X_if_eq (tgt := 51) hB dX12_allLines_35 (by decide) (fun c35 => absurd c35 (by decide)) (fun c35 => ?_)
            refine X_aload_n (i := 0) hB dX12_allLines_38 rfl rfl ?_
            refine X_geti hB cw10 fX12_89 rfl hR.1.1 hR.1.2 dX12_allLines_39 ?_
            refine X_iconst (v := 4) hB dX12_allLines_42 (by decide) ?_
            refine X_icmp_eq (tgt := 51) hB dX12_allLines_43 (by decide) (fun c43 => absurd c43 s4) (fun c43 => ?_)
            refine X_aload_n (i := 0) hB dX12_allLines_46 rfl rfl ?_
            refine X_callV hB kX12_114 cw10 hR.1.1 hR.1.2 (c_fails hR hF2) (by decide) (by decide) rfl rfl (Nat.le_of_ble_eq_true rfl) dX12_allLines_47 (fun r47 S47 q47 => ?_)
            obtain ⟨rfl, rfl⟩ := q47
            refine X_istore_n (i := 1) hB dX12_allLines_50 rfl (by decide) rfl ?_
            refine X_iload_n (i := 1) hB dX12_allLines_51 rfl rfl ?_
            refine X_if_eq (tgt := 2) hB dX12_allLines_52 (by decide) (fun c52 => ?_) (fun c52 => absurd rfl c52)
            refine X_iload_n (i := 1) hB dX12_allLines_2 rfl rfl ?_
            refine X_if_eq (tgt := 62) hB dX12_allLines_3 (by decide) (fun c3 => ?_) (fun c3 => absurd rfl c3)
            refine X_iload_n (i := 1) hB dX12_allLines_62 rfl rfl ?_
            refine X_zret hB rfl (by first | exact Or.inl rfl | exact Or.inr rfl) dX12_allLines_63 ?_
            exact kk _ _ ⟨hf2.tr (frT.fld (by decide)), n2.fr (frT.fld (rows := []) (flds := [10]) (by simp)) (by simp), rfl, by rw [setI_at]; exact n4.2.1⟩
      · refine X_aload_n (i := 0) hB dX12_allLines_22 rfl rfl ?_
        refine X_getj hB cw10 fX12_85 rfl hR.1.1 hR.1.2 dX12_allLines_23 ?_
        refine X_goto (tgt := 30) hB dX12_allLines_26 (by decide) ?_
        refine X_topl (y := wd (tkW B p)) (hQ.2.2.2.2 ((nI_eq (b := 2) (by omega) (by omega)).mp (hQ.2.2.1.symm.trans c19))) ?_
        refine X_callV hB kX12_156 cw10 hR.1.1 hR.1.2 (c_line hR hF1 B hx1 p h3 hQ s hT hs) (by decide) (by decide) rfl rfl (Nat.le_of_ble_eq_true rfl) dX12_allLines_30 (fun r30 S30 q30 => ?_)
        unfold lnQ at q30
        obtain ⟨n1, n2, n3⟩ := q30
        have hf2 := hf.tr n1
        have hF2 := hf2.ref hF
        have hx2 := hx.fr hf2 (by decide) (by simp)
        cases hz : cl0 B p s with
        | inl e =>
          rw [hz] at n3 h2
          obtain ⟨rfl, n4⟩ := n3
          have h2 : (Sum.inl e : Nat ⊕ Ps) = linS B 401 0 ps0 := h2
          have kk : ∀ r S1, alQ S S1 h r (.inl e) → Q r S1 := by rw [h2]; exact kk
          refine X_istore_n (i := 1) hB dX12_allLines_33 rfl (by decide) rfl ?_
          refine X_iload_n (i := 1) hB dX12_allLines_34 rfl rfl ?_
          refine X_if_eq (tgt := 51) hB dX12_allLines_35 (by decide) (fun c35 => ?_) (fun c35 => absurd rfl c35)
          refine X_iload_n (i := 1) hB dX12_allLines_51 rfl rfl ?_
          refine X_if_eq (tgt := 2) hB dX12_allLines_52 (by decide) (fun c52 => ?_) (fun c52 => absurd rfl c52)
          refine X_iload_n (i := 1) hB dX12_allLines_2 rfl rfl ?_
          refine X_if_eq (tgt := 62) hB dX12_allLines_3 (by decide) (fun c3 => ?_) (fun c3 => absurd rfl c3)
          refine X_iload_n (i := 1) hB dX12_allLines_62 rfl rfl ?_
          refine X_zret hB rfl (by first | exact Or.inl rfl | exact Or.inr rfl) dX12_allLines_63 ?_
          exact kk _ _ ⟨hf2, n2, rfl, n4⟩
        | inr qs =>
          obtain ⟨q, s'⟩ := qs
          rw [hz] at n3 h2
          obtain ⟨rfl, n4, n5, n6, n7⟩ := n3
          have hq4 : tkK B q ≤ 4 := tkK_4
          have hpq : p < q := cl0_lt h3 hk hz
          dsimp only at h2
          by_cases e4 : tkK B q = 4
          · rw [if_pos e4] at h2
            dsimp only at h2
            have s4 : S30.1 h 7 = 4 := by rw [n4.2.2.1, e4]; rfl
            refine X_istore_n (i := 1) hB dX12_allLines_33 rfl (by decide) rfl ?_
            refine X_iload_n (i := 1) hB dX12_allLines_34 rfl rfl ?_
            refine X_if_eq (tgt := 51) hB dX12_allLines_35 (by decide) (fun c35 => absurd c35 (by decide)) (fun c35 => ?_)
            refine X_aload_n (i := 0) hB dX12_allLines_38 rfl rfl ?_
            refine X_geti hB cw10 fX12_89 rfl hR.1.1 hR.1.2 dX12_allLines_39 ?_
            refine X_iconst (v := 4) hB dX12_allLines_42 (by decide) ?_
            refine X_icmp_eq (tgt := 51) hB dX12_allLines_43 (by decide) (fun c43 => ?_) (fun c43 => absurd s4 c43)
            refine X_iload_n (i := 1) hB dX12_allLines_51 rfl rfl ?_
            refine X_if_eq (tgt := 2) hB dX12_allLines_52 (by decide) (fun c52 => absurd c52 (by decide)) (fun c52 => ?_)
            refine X_aload_n (i := 0) hB dX12_allLines_55 rfl rfl ?_
            refine X_callV hB kX12_124 cw10 hR.1.1 hR.1.2 (c_token hR hF2 B hx2 (tkE B q) n4.1 (tkE_le n5)) (by decide) (by decide) rfl rfl (Nat.le_of_ble_eq_true rfl) dX12_allLines_56 (fun r56 S56 q56 => ?_)
            obtain ⟨rfl, m1, m2⟩ := q56
            refine X_goto (tgt := 2) hB dX12_allLines_59 (by decide) ?_
            have hgq : q < tkE B q := by
              have h1 := @tkB_ge B q
              have h2 := tkE_gt (B := B) (p := q) (by omega)
              omega
            exact ih (i + 1) (tkE B q) s' S56 (by omega) h2 (tkE_le n5) (by omega) (hf2.tr (m1.mono (mR (Or.inl rfl)) (mF (Or.inl rfl)))) m2 (n6.fr m1 (by simp) (by simp) (by simp) (by simp) (by simp) (by simp)) n7
          · rw [if_neg e4] at h2
            dsimp only at h2
            have kk : ∀ r S1, alQ S S1 h r (.inl (tkB B q)) → Q r S1 := by rw [h2]; exact kk
            have s4 : ¬ S30.1 h 7 = 4 := by
              rw [n4.2.2.1]
              exact fun z => e4 ((nI_eq (b := 4) (by omega) (by omega)).mp z)
            refine X_istore_n (i := 1) hB dX12_allLines_33 rfl (by decide) rfl ?_
            refine X_iload_n (i := 1) hB dX12_allLines_34 rfl rfl ?_
            refine X_if_eq (tgt := 51) hB dX12_allLines_35 (by decide) (fun c35 => absurd c35 (by decide)) (fun c35 => ?_)
            refine X_aload_n (i := 0) hB dX12_allLines_38 rfl rfl ?_
            refine X_geti hB cw10 fX12_89 rfl hR.1.1 hR.1.2 dX12_allLines_39 ?_
            refine X_iconst (v := 4) hB dX12_allLines_42 (by decide) ?_
            refine X_icmp_eq (tgt := 51) hB dX12_allLines_43 (by decide) (fun c43 => absurd c43 s4) (fun c43 => ?_)
            refine X_aload_n (i := 0) hB dX12_allLines_46 rfl rfl ?_
            refine X_callV hB kX12_114 cw10 hR.1.1 hR.1.2 (c_fails hR hF2) (by decide) (by decide) rfl rfl (Nat.le_of_ble_eq_true rfl) dX12_allLines_47 (fun r47 S47 q47 => ?_)
            obtain ⟨rfl, rfl⟩ := q47
            refine X_istore_n (i := 1) hB dX12_allLines_50 rfl (by decide) rfl ?_
            refine X_iload_n (i := 1) hB dX12_allLines_51 rfl rfl ?_
            refine X_if_eq (tgt := 2) hB dX12_allLines_52 (by decide) (fun c52 => ?_) (fun c52 => absurd rfl c52)
            refine X_iload_n (i := 1) hB dX12_allLines_2 rfl rfl ?_
            refine X_if_eq (tgt := 62) hB dX12_allLines_3 (by decide) (fun c3 => ?_) (fun c3 => absurd rfl c3)
            refine X_iload_n (i := 1) hB dX12_allLines_62 rfl rfl ?_
            refine X_zret hB rfl (by first | exact Or.inl rfl | exact Or.inr rfl) dX12_allLines_63 ?_
            exact kk _ _ ⟨hf2.tr (frT.fld (by decide)), n2.fr (frT.fld (rows := []) (flds := [10]) (by simp)) (by simp), rfl, by rw [setI_at]; exact n4.2.1⟩
set_option maxRecDepth 100000 in
set_option maxHeartbeats 4000000 in
theorem c_allLines (hR : RLay G h) (hF : RRef S h) (B : List Nat) (hx : txtR S h B) (hQ : tokR S h B 0) (hT : trR S h ps0) : C G mX12_allLines 5 [.ref h] S (fun r S' => alQ S S' h r (linS B 401 0 ps0)) := by
  refine C.mk (lv := [some (.ref h), none]) (by decide) (Nat.le_of_ble_eq_true rfl) rfl (fun E hB => ?_)
  refine X_iconst (v := 1) hB dX12_allLines_0 (by decide) ?_
  refine X_istore_n (i := 1) hB dX12_allLines_1 rfl (by decide) rfl ?_
  exact l_allLines hR hF hB B hx (fun r S1 q => q) 401 0 0 ps0 S (by omega) rfl (Nat.zero_le _) (Nat.le_refl _) frT.rf hQ hT ps0_ok
end REF
