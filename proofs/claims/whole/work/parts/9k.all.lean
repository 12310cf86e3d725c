/-! the class: the whole text is read -/
def raQ (S S' : St) (d x : Nat) (B : List Nat) : Prop := chg d (d + 3) S S' ∧ rdF S' d x ∧ S'.1 d 4 = nI (reaF B).1 ∧ S'.1 d 5 = akN (reaF B).2.1 ∧ ((reaF B).1 = 0 → prE S' d (reaF B).2.2)
def rF3 (o : Option Nat) : Nat := match o with
  | none => 0
  | some _ => 3
theorem reaF_l {B : List Nat} {e : Nat} (h : linS B 401 0 ps0 = .inl e) : reaF B = (1, some e, ps0) := by unfold reaF; rw [h]
theorem reaF_b {B : List Nat} {s : Ps} {q : Nat} (h : linS B 401 0 ps0 = .inr s) (hb : pBd s = some q) : reaF B = (2, some q, s) := by unfold reaF; rw [h]; dsimp only; rw [hb]
theorem reaF_m {B : List Nat} {s : Ps} (h : linS B 401 0 ps0 = .inr s) (hb : pBd s = none) : reaF B = (rF3 (misS s (8 - pSe s 0) none), misS s (8 - pSe s 0) none, s) := by
  unfold reaF; rw [h]; dsimp only; rw [hb]; dsimp only
  cases misS s (8 - pSe s 0) none with
  | none => rfl
  | some q => rfl
theorem kdC_3 {k : Nat} (h : k ≠ 0) : ¬ nI (kdC k) = 3 := by
  unfold kdC
  rw [if_neg h]
  split
  · decide
  · split
    · decide
    · split <;> decide
def mis1 (o p : Option Nat) : Option Nat := match p with
  | none => o
  | some a => match o with
    | none => some a
    | some q => if a < q then some a else some q
theorem misS_su {s : Ps} {j : Nat} {o : Option Nat} : misS s (j + 1) o = misS s j (mis1 o (pNm s (8 - (j + 1)))) := by
  unfold mis1
  show misS s j _ = _
  cases pNm s (8 - (j + 1)) with
  | none => rfl
  | some a => cases o <;> rfl
theorem rF3_1 {o : Option Nat} : ¬ nI (rF3 o) = 1 := by
  cases o with
  | none => decide
  | some q => exact (by decide : ¬ nI 3 = 1)
theorem rF3_2 {o : Option Nat} : ¬ nI (rF3 o) = 2 := by
  cases o with
  | none => decide
  | some q => exact (by decide : ¬ nI 3 = 2)
def raK (d : Nat) (S S1 : St) : Prop := S1.2 = S.2 ∧ (∀ a, a ≠ d → S1.1 a = S.1 a) ∧ ∀ k, k ≠ 4 → k ≠ 5 → S1.1 d k = S.1 d k
theorem raK.rf {d : Nat} {S : St} : raK d S S := ⟨rfl, fun _ _ => rfl, fun _ _ _ => rfl⟩
theorem raK.st {d : Nat} {S S1 : St} {u v : Int32} (h : raK d S S1) : raK d S (setI (setI S1 d 4 u) d 5 v) := ⟨h.1, fun a ha => ((setI_row _ _ _ ha).trans (setI_row _ _ _ ha)).trans (h.2.1 a ha), fun k h1 h2 => by rw [setI_ne _ _ (Or.inr h2), setI_ne _ _ (Or.inr h1)]; exact h.2.2 k h1 h2⟩
theorem raK.E {d : Nat} {S S1 : St} {s : Ps} (h : raK d S S1) (hE : prE S d s) : prE S1 d s := ⟨fun k hk => by rw [h.2.1 _ (by omega)]; exact hE.1 k hk, by rw [h.1]; exact hE.2.1, by rw [h.2.2 2 (by decide) (by decide)]; exact hE.2.2.1, by rw [h.2.2 3 (by decide) (by decide)]; exact hE.2.2.2⟩
theorem raK.C {d : Nat} {S S1 : St} (h : raK d S S1) : chg d (d + 3) S S1 := fun a ha => ⟨h.2.1 a (by omega), by rw [h.1], by rw [h.1]⟩
section CLS
variable {G : Gc} {S : St}
set_option maxRecDepth 100000 in
set_option maxHeartbeats 4000000 in
theorem t_X6_readAll {E : Ev} (hB : Bd G E mX6_readAll) {Q : Option Value → St → Prop} (d x : Nat) (hL : RdLay G d) (h0 : S.2.2 d 0 = some (d + 1)) (hf : S.1 d 4 = 1 ∨ S.1 d 4 = 2) (v : Int32) (kk : Q none S) : X G E mX6_readAll 6 Q S 76 [some (.ref d), some (.ref x), some (.int v)] [] := by
  refine X_aload_n (i := 0) hB dX6_readAll_76 rfl rfl ?_
  refine X_getr hB cw5 fX6_9 rfl hL.1.1 hL.1.2 h0 dX6_readAll_77 ?_
  refine X_iconst (v := 0) hB dX6_readAll_80 (by decide) ?_
  refine X_ialdN hB (0) hL.2.1.1 hL.2.1.2 (by decide) rfl (by decide) rfl dX6_readAll_81 ?_
  refine X_istore_n (i := 2) hB dX6_readAll_82 rfl (by decide) rfl ?_
  refine X_iload_n (i := 2) hB dX6_readAll_83 rfl rfl ?_
  refine X_bipush (v := 8) hB dX6_readAll_84 (by decide) ?_
  refine X_icmp_ge (tgt := 156) hB dX6_readAll_86 (by decide) (fun c86 => ?_) (fun c86 => ?_)
  · refine X_vret hB rfl dX6_readAll_156 ?_
    exact kk
  · refine X_iload_n (i := 2) hB dX6_readAll_89 rfl rfl ?_
    refine X_if_lt (tgt := 156) hB dX6_readAll_90 (by decide) (fun c90 => ?_) (fun c90 => ?_)
    · refine X_vret hB rfl dX6_readAll_156 ?_
      exact kk
    · refine X_aload_n (i := 0) hB dX6_readAll_93 rfl rfl ?_
      refine X_geti hB cw5 fX6_38 rfl hL.1.1 hL.1.2 dX6_readAll_94 ?_
      refine X_iconst (v := 1) hB dX6_readAll_97 (by decide) ?_
      refine X_icmp_eq (tgt := 156) hB dX6_readAll_98 (by decide) (fun c98 => ?_) (fun c98 => ?_)
      · refine X_vret hB rfl dX6_readAll_156 ?_
        exact kk
      · refine X_aload_n (i := 0) hB dX6_readAll_101 rfl rfl ?_
        refine X_geti hB cw5 fX6_38 rfl hL.1.1 hL.1.2 dX6_readAll_102 ?_
        refine X_iconst (v := 2) hB dX6_readAll_105 (by decide) ?_
        refine X_icmp_eq (tgt := 156) hB dX6_readAll_106 (by decide) (fun c106 => ?_) (fun c106 => absurd (hf.resolve_left c98) c106)
        refine X_vret hB rfl dX6_readAll_156 ?_
        exact kk
set_option maxRecDepth 100000 in
set_option maxHeartbeats 4000000 in
theorem u_X6_readAll {E : Ev} (hB : Bd G E mX6_readAll) {Q : Option Value → St → Prop} (d x : Nat) (hL : RdLay G d) (h0 : S.2.2 d 0 = some (d + 1)) (hf : S.1 d 4 = 1) (v : Int32) (kk : Q none S) : X G E mX6_readAll 6 Q S 20 [some (.ref d), some (.ref x), some (.int v)] [] := by
  have hn : ¬ S.1 d 4 = 0 := by rw [hf]; decide
  refine X_iload_n (i := 2) hB dX6_readAll_20 rfl rfl ?_
  refine X_sipush (v := 400) hB dX6_readAll_21 (by decide) ?_
  refine X_icmp_gt (tgt := 52) hB dX6_readAll_24 (by decide) (fun c24 => ?_) (fun c24 => ?_)
  · refine X_aload_n (i := 0) hB dX6_readAll_52 rfl rfl ?_
    refine X_geti hB cw5 fX6_38 rfl hL.1.1 hL.1.2 dX6_readAll_53 ?_
    refine X_if_ne (tgt := 76) hB dX6_readAll_56 (by decide) (fun c56 => ?_) (fun c56 => absurd c56 hn)
    exact t_X6_readAll hB d x hL h0 (Or.inl hf) _ kk
  · refine X_aload_n (i := 0) hB dX6_readAll_27 rfl rfl ?_
    refine X_geti hB cw5 fX6_62 rfl hL.1.1 hL.1.2 dX6_readAll_28 ?_
    refine X_iconst (v := 3) hB dX6_readAll_31 (by decide) ?_
    refine X_icmp_eq (tgt := 52) hB dX6_readAll_32 (by decide) (fun c32 => ?_) (fun c32 => ?_)
    · refine X_aload_n (i := 0) hB dX6_readAll_52 rfl rfl ?_
      refine X_geti hB cw5 fX6_38 rfl hL.1.1 hL.1.2 dX6_readAll_53 ?_
      refine X_if_ne (tgt := 76) hB dX6_readAll_56 (by decide) (fun c56 => ?_) (fun c56 => absurd c56 hn)
      exact t_X6_readAll hB d x hL h0 (Or.inl hf) _ kk
    · refine X_aload_n (i := 0) hB dX6_readAll_35 rfl rfl ?_
      refine X_geti hB cw5 fX6_38 rfl hL.1.1 hL.1.2 dX6_readAll_36 ?_
      refine X_if_ne (tgt := 52) hB dX6_readAll_39 (by decide) (fun c39 => ?_) (fun c39 => absurd c39 hn)
      refine X_aload_n (i := 0) hB dX6_readAll_52 rfl rfl ?_
      refine X_geti hB cw5 fX6_38 rfl hL.1.1 hL.1.2 dX6_readAll_53 ?_
      refine X_if_ne (tgt := 76) hB dX6_readAll_56 (by decide) (fun c56 => ?_) (fun c56 => absurd c56 hn)
      exact t_X6_readAll hB d x hL h0 (Or.inl hf) _ kk
set_option maxRecDepth 100000 in
set_option maxHeartbeats 4000000 in
theorem n_X6_readAll {E : Ev} (hB : Bd G E mX6_readAll) {Q : Option Value → St → Prop} (d x : Nat) (hL : RdLay G d) (h11 : S.2.2 d 11 = some (d + 2)) (s : Ps) (hN : prN S d s) (hs : psOk s) (fin : Option Nat) (kk : ∀ S1, raK d S S1 → S1.1 d 4 = nI (rF3 fin) → S1.1 d 5 = akN fin → Q none S1) :
    ∀ (j n : Nat) (o : Option Nat) (S1 : St), n + j = 8 → raK d S S1 → S1.1 d 4 = nI (rF3 o) → S1.1 d 5 = akN o → (∀ a, o = some a → a < 1000) → misS s j o = fin → X G E mX6_readAll 6 Q S1 83 [some (.ref d), some (.ref x), some (.int (nI n))] [] := by
  intro j
  induction j with
  | zero =>
    intro n o S1 h1 h2 h4 h5 ho hm
    have e9 : n = 8 := by omega
    subst e9
    subst hm
    refine X_iload_n (i := 2) hB dX6_readAll_83 rfl rfl ?_
    refine X_bipush (v := 8) hB dX6_readAll_84 (by decide) ?_
    refine X_icmp_ge (tgt := 156) hB dX6_readAll_86 (by decide) (fun c86 => ?_) (fun c86 => absurd c86 (by simp (disch := omega) only [nlit, nI_leI, nI_ltI]; omega))
    refine X_vret hB rfl dX6_readAll_156 ?_
    exact kk S1 h2 h4 h5
  | succ j ih =>
    intro n o S1 h1 h2 h4 h5 ho hm
    have hn8 : n < 8 := by omega
    have q11 : S1.2.2 d 11 = some (d + 2) := by rw [h2.1]; exact h11
    have hrow : S1.1 (d + 2) n = akN (pNm s n) := by rw [h2.2.1 _ (by omega)]; exact hN.2 n hn8
    have e1 : ¬ S1.1 d 4 = 1 := by rw [h4]; exact rF3_1
    have e2 : ¬ S1.1 d 4 = 2 := by rw [h4]; exact rF3_2
    rw [misS_su, show 8 - (j + 1) = n by omega] at hm
    refine X_iload_n (i := 2) hB dX6_readAll_83 rfl rfl ?_
    refine X_bipush (v := 8) hB dX6_readAll_84 (by decide) ?_
    refine X_icmp_ge (tgt := 156) hB dX6_readAll_86 (by decide) (fun c86 => absurd c86 (by simp (disch := omega) only [nlit, nI_leI, nI_ltI]; omega)) (fun c86 => ?_)
    refine X_iload_n (i := 2) hB dX6_readAll_89 rfl rfl ?_
    refine X_if_lt (tgt := 156) hB dX6_readAll_90 (by decide) (fun c90 => absurd c90 (nI_pos (by omega))) (fun c90 => ?_)
    refine X_aload_n (i := 0) hB dX6_readAll_93 rfl rfl ?_
    refine X_geti hB cw5 fX6_38 rfl hL.1.1 hL.1.2 dX6_readAll_94 ?_
    refine X_iconst (v := 1) hB dX6_readAll_97 (by decide) ?_
    refine X_icmp_eq (tgt := 156) hB dX6_readAll_98 (by decide) (fun c98 => absurd c98 e1) (fun c98 => ?_)
    refine X_aload_n (i := 0) hB dX6_readAll_101 rfl rfl ?_
    refine X_geti hB cw5 fX6_38 rfl hL.1.1 hL.1.2 dX6_readAll_102 ?_
    refine X_iconst (v := 2) hB dX6_readAll_105 (by decide) ?_
    refine X_icmp_eq (tgt := 156) hB dX6_readAll_106 (by decide) (fun c106 => absurd c106 e2) (fun c106 => ?_)
    refine X_aload_n (i := 0) hB dX6_readAll_109 rfl rfl ?_
    refine X_getr hB cw5 fX6_15 rfl hL.1.1 hL.1.2 q11 dX6_readAll_110 ?_
    refine X_iload_n (i := 2) hB dX6_readAll_113 rfl rfl ?_
    refine X_ialdN hB (n) hL.2.2.1 hL.2.2.2 (by decide) rfl hn8 rfl dX6_readAll_114 ?_
    refine X_iconst (v := (-1)) hB dX6_readAll_115 (by decide) ?_
    refine X_icmp_eq (tgt := 150) hB dX6_readAll_116 (by decide) (fun c116 => ?_) (fun c116 => ?_)
    · refine X_iinc hB dX6_readAll_150 rfl rfl (by decide) rfl ?_
      refine X_goto (tgt := 83) hB dX6_readAll_153 (by decide) ?_
      rw [(akN_m1 (hs.2 n)).mp (hrow ▸ c116)] at hm
      refine X_lv ?_ (ih (n + 1) _ _ (by omega) h2 h4 h5 ho hm)
      · rw [nI_succ]; rfl
    · have hne : pNm s n ≠ none := fun z => c116 (by rw [hrow, z]; rfl)
      obtain ⟨a, ea⟩ := Option.ne_none_iff_exists'.mp hne
      have ha := hs.2 n a ea
      have hra : S1.1 (d + 2) n = nI a := by rw [hrow, ea]; rfl
      rw [ea] at hm
      refine X_aload_n (i := 0) hB dX6_readAll_119 rfl rfl ?_
      refine X_geti hB cw5 fX6_38 rfl hL.1.1 hL.1.2 dX6_readAll_120 ?_
      refine X_if_eq (tgt := 139) hB dX6_readAll_123 (by decide) (fun c123 => ?_) (fun c123 => ?_)
      · refine X_aload_n (i := 0) hB dX6_readAll_139 rfl rfl ?_
        refine X_iconst (v := 3) hB dX6_readAll_140 (by decide) ?_
        refine X_aload_n (i := 0) hB dX6_readAll_141 rfl rfl ?_
        refine X_getr hB cw5 fX6_15 rfl hL.1.1 hL.1.2 q11 dX6_readAll_142 ?_
        refine X_iload_n (i := 2) hB dX6_readAll_145 rfl rfl ?_
        refine X_ialdN hB (n) hL.2.2.1 hL.2.2.2 (by decide) rfl hn8 rfl dX6_readAll_146 ?_
        refine X_callV hB kX6_68 cw5 hL.1.1 hL.1.2 (c_X6_fail d hL _ _) (by decide) (by decide) rfl rfl (Nat.le_of_ble_eq_true rfl) dX6_readAll_147 (fun r147 S147 q147 => ?_)
        obtain ⟨rfl, rfl⟩ := q147
        refine X_iinc hB dX6_readAll_150 rfl rfl (by decide) rfl ?_
        refine X_goto (tgt := 83) hB dX6_readAll_153 (by decide) ?_
        rw [hra]
        refine X_lv ?_ (ih (n + 1) (some a) _ (by omega) h2.st (by rw [setI_ne _ _ (Or.inr (by decide)), setI_at]; rfl) (by rw [setI_at]; rfl) (fun b e => by cases e; exact ha) ?_)
        · rw [nI_succ]; rfl
        · cases o with
          | none => exact hm
          | some q => exact absurd (h4.symm.trans c123) (by decide : ¬ nI 3 = 0)
      · refine X_aload_n (i := 0) hB dX6_readAll_126 rfl rfl ?_
        refine X_getr hB cw5 fX6_15 rfl hL.1.1 hL.1.2 q11 dX6_readAll_127 ?_
        refine X_iload_n (i := 2) hB dX6_readAll_130 rfl rfl ?_
        refine X_ialdN hB (n) hL.2.2.1 hL.2.2.2 (by decide) rfl hn8 rfl dX6_readAll_131 ?_
        refine X_aload_n (i := 0) hB dX6_readAll_132 rfl rfl ?_
        refine X_geti hB cw5 fX6_41 rfl hL.1.1 hL.1.2 dX6_readAll_133 ?_
        refine X_icmp_ge (tgt := 150) hB dX6_readAll_136 (by decide) (fun c136 => ?_) (fun c136 => ?_)
        · refine X_iinc hB dX6_readAll_150 rfl rfl (by decide) rfl ?_
          refine X_goto (tgt := 83) hB dX6_readAll_153 (by decide) ?_
          cases o with
          | none => exact absurd h4 c123
          | some q =>
            have hq := ho q rfl
            rw [hra, h5, show akN (some q) = nI q from rfl, nI_leI (by omega) (by omega)] at c136
            have hm : misS s j (if a < q then some a else some q) = fin := hm
            rw [if_neg (by omega)] at hm
            refine X_lv ?_ (ih (n + 1) _ _ (by omega) h2 h4 h5 ho hm)
            · rw [nI_succ]; rfl
        · refine X_aload_n (i := 0) hB dX6_readAll_139 rfl rfl ?_
          refine X_iconst (v := 3) hB dX6_readAll_140 (by decide) ?_
          refine X_aload_n (i := 0) hB dX6_readAll_141 rfl rfl ?_
          refine X_getr hB cw5 fX6_15 rfl hL.1.1 hL.1.2 q11 dX6_readAll_142 ?_
          refine X_iload_n (i := 2) hB dX6_readAll_145 rfl rfl ?_
          refine X_ialdN hB (n) hL.2.2.1 hL.2.2.2 (by decide) rfl hn8 rfl dX6_readAll_146 ?_
          refine X_callV hB kX6_68 cw5 hL.1.1 hL.1.2 (c_X6_fail d hL _ _) (by decide) (by decide) rfl rfl (Nat.le_of_ble_eq_true rfl) dX6_readAll_147 (fun r147 S147 q147 => ?_)
          obtain ⟨rfl, rfl⟩ := q147
          refine X_iinc hB dX6_readAll_150 rfl rfl (by decide) rfl ?_
          refine X_goto (tgt := 83) hB dX6_readAll_153 (by decide) ?_
          rw [hra]
          refine X_lv ?_ (ih (n + 1) (some a) _ (by omega) h2.st (by rw [setI_ne _ _ (Or.inr (by decide)), setI_at]; rfl) (by rw [setI_at]; rfl) (fun b e => by cases e; exact ha) ?_)
          · rw [nI_succ]; rfl
          · cases o with
            | none => exact absurd h4 c123
            | some q =>
              have hq := ho q rfl
              rw [hra, h5, show akN (some q) = nI q from rfl, nI_leI (by omega) (by omega)] at c136
              have hm : misS s j (if a < q then some a else some q) = fin := hm
              rw [if_pos (by omega)] at hm
              exact hm
set_option maxRecDepth 100000 in
set_option maxHeartbeats 4000000 in
theorem l_X6_readAll {E : Ev} (hB : Bd G E mX6_readAll) {Q : Option Value → St → Prop} {q v : Nat} (hZ : ∀ U, gZ G U → zW G q v U) {tL tM : Nat} (hZL : ∀ U, gZ G U → zT G "LEAST" tL aL U) (hZM : ∀ U, gZ G U → zT G "MOST" tM aM U) (d x : Nat) (hL : RdLay G d) (hX : TxLay G x) (hdx : x + 2 ≤ d ∨ d + 3 ≤ x) (B : List Nat) (hF : rdF S d x) (hT : txC S x B) (kk : ∀ S1, raQ S S1 d x B → Q none S1) :
    ∀ (j i p : Nat) (s : Ps) (S1 : St), i + j = 401 → linS B j p s = linS B 401 0 ps0 → p ≤ B.length → i ≤ p → tkQ S1 d B p → S1.1 d 4 = 0 → S1.1 d 5 = -1 → prN S1 d s → (pBd s = none → prE S1 d s) → psOk s → psW s → chg d (d + 3) S S1 → S1.2.2 = S.2.2 → X G E mX6_readAll 6 Q S1 20 [some (.ref d), some (.ref x), some (.int (nI i))] [] := by
  have h400 := hT.2.2.1
  intro j
  induction j with
  | zero =>
    intro i p s S1 h1 h2 h3 h4
    exact absurd h3 (by omega)
  | succ j ih =>
    intro i p s S1 h1 h2 h3 h4 hQ f4 f5 hN hE hs hW hc hr
    have hF1 : rdF S1 d x := by unfold rdF; rw [hr]; exact hF
    have hT1 : txC S1 x B := hT.chg hc hdx
    by_cases hk : tkK B p = 0
    · have hl : linS B 401 0 ps0 = .inr s := by
        rw [← h2]
        show (if tkK B p = 0 then _ else _) = _
        rw [if_pos hk]
      have k3 : S1.1 d 7 = 3 := by rw [hQ.1, hk]; rfl
      refine X_iload_n (i := 2) hB dX6_readAll_20 rfl rfl ?_
      refine X_sipush (v := 400) hB dX6_readAll_21 (by decide) ?_
      refine X_icmp_gt (tgt := 52) hB dX6_readAll_24 (by decide) (fun c24 => absurd c24 (by simp (disch := omega) only [nlit, nI_leI, nI_ltI]; omega)) (fun c24 => ?_)
      refine X_aload_n (i := 0) hB dX6_readAll_27 rfl rfl ?_
      refine X_geti hB cw5 fX6_62 rfl hL.1.1 hL.1.2 dX6_readAll_28 ?_
      refine X_iconst (v := 3) hB dX6_readAll_31 (by decide) ?_
      refine X_icmp_eq (tgt := 52) hB dX6_readAll_32 (by decide) (fun c32 => ?_) (fun c32 => absurd k3 c32)
      refine X_aload_n (i := 0) hB dX6_readAll_52 rfl rfl ?_
      refine X_geti hB cw5 fX6_38 rfl hL.1.1 hL.1.2 dX6_readAll_53 ?_
      refine X_if_ne (tgt := 76) hB dX6_readAll_56 (by decide) (fun c56 => absurd f4 c56) (fun c56 => ?_)
      refine X_aload_n (i := 0) hB dX6_readAll_59 rfl rfl ?_
      refine X_geti hB cw5 fX6_44 rfl hL.1.1 hL.1.2 dX6_readAll_60 ?_
      refine X_iconst (v := (-1)) hB dX6_readAll_63 (by decide) ?_
      refine X_icmp_eq (tgt := 76) hB dX6_readAll_64 (by decide) (fun c64 => ?_) (fun c64 => ?_)
      · have hb : pBd s = none := (akN_m1 hs.1).mp (hN.1.symm.trans c64)
        obtain ⟨hse, -⟩ := hW hb
        have h8 := hse.1
        have hE1 := hE hb
        have e0 : S1.1 (d + 1) 0 = nI (pSe s 0) := hE1.1 0 (by decide)
        refine X_aload_n (i := 0) hB dX6_readAll_76 rfl rfl ?_
        refine X_getr hB cw5 fX6_9 rfl hL.1.1 hL.1.2 hF1.1 dX6_readAll_77 ?_
        refine X_iconst (v := 0) hB dX6_readAll_80 (by decide) ?_
        refine X_ialdN hB (0) hL.2.1.1 hL.2.1.2 (by decide) rfl (by decide) e0 dX6_readAll_81 ?_
        refine X_istore_n (i := 2) hB dX6_readAll_82 rfl (by decide) rfl ?_
        refine X_lv rfl (n_X6_readAll hB d x hL hF1.2.1 s hN hs (misS s (8 - pSe s 0) none) (fun S2 g1 g2 g3 => kk S2 ⟨hc.tr g1.C, ?_, ?_, ?_, ?_⟩) (8 - pSe s 0) (pSe s 0) none S1 (by omega) raK.rf f4 f5 (fun a e => by cases e) rfl)
        · unfold rdF; rw [g1.1]; exact hF1
        · rw [reaF_m hl hb]; exact g2
        · rw [reaF_m hl hb]; exact g3
        · rw [reaF_m hl hb]; exact fun _ => g1.E hE1
      · refine X_aload_n (i := 0) hB dX6_readAll_67 rfl rfl ?_
        refine X_iconst (v := 2) hB dX6_readAll_68 (by decide) ?_
        refine X_aload_n (i := 0) hB dX6_readAll_69 rfl rfl ?_
        refine X_geti hB cw5 fX6_44 rfl hL.1.1 hL.1.2 dX6_readAll_70 ?_
        refine X_callV hB kX6_68 cw5 hL.1.1 hL.1.2 (c_X6_fail d hL _ _) (by decide) (by decide) rfl rfl (Nat.le_of_ble_eq_true rfl) dX6_readAll_73 (fun r73 S73 q73 => ?_)
        obtain ⟨rfl, rfl⟩ := q73
        have hne : pBd s ≠ none := fun z => c64 (by rw [hN.1, z]; rfl)
        obtain ⟨a, ea⟩ := Option.ne_none_iff_exists'.mp hne
        refine t_X6_readAll (S := setI (setI S1 d 4 2) d 5 (S1.1 d 10)) hB d x hL hF1.1 (Or.inr (by rw [setI_ne _ _ (Or.inr (by decide)), setI_at])) _ (kk _ ⟨hc.tr (raK.C raK.rf.st), ?_, ?_, ?_, ?_⟩)
        · exact hF1
        · rw [reaF_b hl ea, setI_ne _ _ (Or.inr (by decide)), setI_at]; rfl
        · rw [reaF_b hl ea, setI_at, hN.1, ea]
        · rw [reaF_b hl ea]; exact fun z => by cases z
    · have n3 : ¬ S1.1 d 7 = 3 := by rw [hQ.1]; exact kdC_3 hk
      refine X_iload_n (i := 2) hB dX6_readAll_20 rfl rfl ?_
      refine X_sipush (v := 400) hB dX6_readAll_21 (by decide) ?_
      refine X_icmp_gt (tgt := 52) hB dX6_readAll_24 (by decide) (fun c24 => absurd c24 (by simp (disch := omega) only [nlit, nI_leI, nI_ltI]; omega)) (fun c24 => ?_)
      refine X_aload_n (i := 0) hB dX6_readAll_27 rfl rfl ?_
      refine X_geti hB cw5 fX6_62 rfl hL.1.1 hL.1.2 dX6_readAll_28 ?_
      refine X_iconst (v := 3) hB dX6_readAll_31 (by decide) ?_
      refine X_icmp_eq (tgt := 52) hB dX6_readAll_32 (by decide) (fun c32 => absurd c32 n3) (fun c32 => ?_)
      refine X_aload_n (i := 0) hB dX6_readAll_35 rfl rfl ?_
      refine X_geti hB cw5 fX6_38 rfl hL.1.1 hL.1.2 dX6_readAll_36 ?_
      refine X_if_ne (tgt := 52) hB dX6_readAll_39 (by decide) (fun c39 => absurd f4 c39) (fun c39 => ?_)
      refine X_aload_n (i := 0) hB dX6_readAll_42 rfl rfl ?_
      refine X_callV hB kX6_65 cw5 hL.1.1 hL.1.2 (c_X6_readClause hZ hZL hZM d x hL hX hdx B hF1 hT1 p h3 hQ hk f4 s hN hE hs) (by decide) (by decide) rfl rfl (Nat.le_of_ble_eq_true rfl) dX6_readAll_43 (fun r43 S43 q43 => ?_)
      obtain ⟨rfl, g1, g2, g3⟩ := q43
      rw [linS_st hk] at h2
      have g1 := hc.tr g1
      have g2 := g2.trans hr
      refine X_iinc hB dX6_readAll_46 rfl rfl (by decide) rfl ?_
      refine X_goto (tgt := 20) hB dX6_readAll_49 (by decide) ?_
      cases hz : cl1 B p s with
      | inl e =>
        rw [hz] at g3 h2
        refine u_X6_readAll hB d x hL (by rw [g2]; exact hF.1) g3.1 _ (kk S43 ⟨g1, ?_, ?_, ?_, ?_⟩)
        · unfold rdF; rw [g2]; exact hF
        · rw [reaF_l h2.symm]; exact g3.1
        · rw [reaF_l h2.symm]; exact g3.2
        · rw [reaF_l h2.symm]; exact fun z => by cases z
      | inr qs =>
        obtain ⟨q, s'⟩ := qs
        have hW' := cl1_W h3 hW hz
        rw [hz] at g3 h2
        obtain ⟨y1, y2, y3, y4, y5, y6, y7, y8⟩ := g3
        refine X_lv ?_ (ih (i + 1) q s' S43 (by omega) h2 y4 (by omega) y3 y1 (y2.trans f5) y6 y7 y8 hW' g1 g2)
        · rw [nI_succ]; rfl
set_option maxRecDepth 100000 in
set_option maxHeartbeats 4000000 in
theorem c_X6_readAll {q v : Nat} (hZ : ∀ U, gZ G U → zW G q v U) {tL tM : Nat} (hZL : ∀ U, gZ G U → zT G "LEAST" tL aL U) (hZM : ∀ U, gZ G U → zT G "MOST" tM aM U) {tF : Nat} (hZF : ∀ U, gZ G U → zT G "AT_FIRST" tF aF U) (d x : Nat) (hL : RdLay G d) (hX : TxLay G x) (hdx : x + 2 ≤ d ∨ d + 3 ≤ x) (B : List Nat) (h0 : S.2.2 d 0 = some (d + 1)) (h11 : S.2.2 d 11 = some (d + 2)) (hT : txC S x B) : C G mX6_readAll 6 [.ref d, .ref x] S (fun r S' => r = none ∧ raQ S S' d x B) := by
  refine C.mk (lv := [some (.ref d), some (.ref x), none]) (by decide) (Nat.le_of_ble_eq_true rfl) rfl (fun E hB => ?_)
  refine X_aload_n (i := 0) hB dX6_readAll_0 rfl rfl ?_
  refine X_callV hB kX6_47 cw5 hL.1.1 hL.1.2 (c_X6_begin hZF d hL h0 h11) (by decide) (by decide) rfl rfl (Nat.le_of_ble_eq_true rfl) dX6_readAll_1 (fun r1 S1 q1 => ?_)
  obtain ⟨rfl, g1, g2, g3, g4, g5, g6⟩ := q1
  refine X_aload_n (i := 0) hB dX6_readAll_4 rfl rfl ?_
  refine X_aload_n (i := 1) hB dX6_readAll_5 rfl rfl ?_
  refine X_putr hB cw5 fX6_50 rfl rfl hL.1.1 hL.1.2 dX6_readAll_6 ?_
  refine X_aload_n (i := 0) hB dX6_readAll_9 rfl rfl ?_
  refine X_iconst (v := 0) hB dX6_readAll_10 (by decide) ?_
  refine X_puti hB cw5 fX6_54 rfl rfl hL.1.1 hL.1.2 dX6_readAll_11 ?_
  have hF2 : rdF (setI (setR S1 d 6 (some x)) d 9 0) d x := by
    refine ⟨?_, ?_, setR_at _ _ _ _⟩
    · exact (setR_ne _ _ (Or.inr (by decide))).trans (by rw [g2]; exact h0)
    · exact (setR_ne _ _ (Or.inr (by decide))).trans (by rw [g2]; exact h11)
  have hc2 : chg d (d + 3) S (setI (setR S1 d 6 (some x)) d 9 0) := (g1.tr (chg.setR (Nat.le_refl _) (by omega))).tr (chg.setI (Nat.le_refl _) (by omega))
  have hT2 := hT.chg hc2 hdx
  refine X_aload_n (i := 0) hB dX6_readAll_14 rfl rfl ?_
  refine X_callV hB kX6_57 cw5 hL.1.1 hL.1.2 (c_X6_step d x hL hX hdx B hF2 hT2 0 (setI_at _ _ _ _) (Nat.zero_le _)) (by decide) (by decide) rfl rfl (Nat.le_of_ble_eq_true rfl) dX6_readAll_15 (fun r15 S15 q15 => ?_)
  obtain ⟨rfl, k1, k2⟩ := q15
  refine X_iconst (v := 0) hB dX6_readAll_18 (by decide) ?_
  refine X_istore_n (i := 2) hB dX6_readAll_19 rfl (by decide) rfl ?_
  have kT := k1.T hT2 hdx
  refine X_lv (lv' := [some (.ref d), some (.ref x), some (.int (nI 0))]) (by rw [nI_0]; rfl) (l_X6_readAll hB hZ hZL hZM d x hL hX hdx B (k1.F hF2) kT (fun S2 g => ⟨rfl, hc2.tr ((k1.C.mono (Nat.le_refl _) (by omega)).tr g.1), g.2⟩) 401 0 0 ps0 S15 (by omega) rfl (Nat.zero_le _) (Nat.le_refl _) k2 ?_ ?_ ?_ (fun _ => ?_) ps0_ok ps0_W chg.rf rfl)
  · rw [k1.2.2 4 (by decide) (by decide) (by decide), setI_ne _ _ (Or.inr (by decide))]; exact g3
  · rw [k1.2.2 5 (by decide) (by decide) (by decide), setI_ne _ _ (Or.inr (by decide))]; exact g4
  · refine ⟨?_, fun n hn => ?_⟩
    · rw [k1.2.2 10 (by decide) (by decide) (by decide), setI_ne _ _ (Or.inr (by decide))]; exact g5.1
    · rw [k1.2.1 _ (by omega), setI_row _ _ _ (by omega)]; exact g5.2 n hn
  · refine ⟨fun k hk => ?_, ?_, ?_, ?_⟩
    · rw [k1.2.1 _ (by omega), setI_row _ _ _ (by omega)]; exact g6.1 k hk
    · rw [k1.1]; exact g6.2.1
    · rw [k1.2.2 2 (by decide) (by decide) (by decide), setI_ne _ _ (Or.inr (by decide))]; exact g6.2.2.1
    · rw [k1.2.2 3 (by decide) (by decide) (by decide), setI_ne _ _ (Or.inr (by decide))]; exact g6.2.2.2
end CLS
