/-! the class: what is told; a clause -/
def tlK (d : Nat) (S S' : St) : Prop := S'.2.2 = S.2.2 ∧ (∀ a, a ≠ d → a ≠ d + 1 → S'.1 a = S.1 a) ∧ (∀ a, a ≠ d → S'.2.1 a = S.2.1 a) ∧ ∀ k, 4 ≤ k → S'.1 d k = S.1 d k
def teS (s : Ps) (w a b : Nat) : Ps := if w < 8 then psSe s w a else if w = 8 then psUp s a b else if w = 9 then psMp s a else psDf s a
theorem teS_N {s : Ps} {w a b : Nat} : pBd (teS s w a b) = pBd s ∧ pNm (teS s w a b) = pNm s := by
  unfold teS
  split
  · exact ⟨rfl, rfl⟩
  · split
    · exact ⟨rfl, rfl⟩
    · split
      · exact ⟨rfl, rfl⟩
      · exact ⟨rfl, rfl⟩
theorem tlK.N {d : Nat} {S S' : St} {s : Ps} {w a b : Nat} (h : tlK d S S') (hN : prN S d s) : prN S' d (teS s w a b) := by
  have e := @teS_N s w a b
  refine ⟨?_, fun n hn => ?_⟩
  · rw [h.2.2.2 10 (by decide), e.1]; exact hN.1
  · rw [h.2.1 _ (by omega) (by omega), e.2]; exact hN.2 n hn
theorem tlK.F {d x : Nat} {S S' : St} (a : tlK d S S') (h : rdF S d x) : rdF S' d x := by unfold rdF; rw [a.1]; exact h
theorem tlK.C {d : Nat} {S S' : St} (a : tlK d S S') : chg d (d + 3) S S' := fun b hb => ⟨a.2.1 b (by omega) (by omega), a.2.2.1 b (by omega), by rw [a.1]⟩
theorem tlK.Q {d p : Nat} {S S' : St} {B : List Nat} (a : tlK d S S') (h : tkQ S d B p) : tkQ S' d B p := ⟨by rw [a.2.2.2 7 (by decide)]; exact h.1, by rw [a.2.2.2 8 (by decide)]; exact h.2.1, fun q => by rw [a.2.2.2 9 (by decide)]; exact h.2.2 q⟩
section CLS
variable {G : Gc} {S : St}
set_option maxRecDepth 100000 in
set_option maxHeartbeats 4000000 in
theorem c_bothAny (a b : Int32) : C G mX4_both 0 [.int a, .int b] S (fun r S' => (∃ v, r = some (.long v)) ∧ S = S') := by
  refine C.mk (lv := [some (.int a), some (.int b)]) (by decide) (Nat.le_of_ble_eq_true rfl) rfl (fun E hB => ?_)
  refine X_lconst (v := 1) hB dX4_both_0 (by decide) ?_
  refine X_bipush (v := 8) hB dX4_both_1 (by decide) ?_
  refine X_iload_n (i := 0) hB dX4_both_3 rfl rfl ?_
  refine X_imul hB dX4_both_4 ?_
  refine X_iload_n (i := 1) hB dX4_both_5 rfl rfl ?_
  refine X_iadd hB dX4_both_6 ?_
  refine X_lshl hB dX4_both_7 ?_
  refine X_lconst (v := 1) hB dX4_both_8 (by decide) ?_
  refine X_bipush (v := 8) hB dX4_both_9 (by decide) ?_
  refine X_iload_n (i := 1) hB dX4_both_11 rfl rfl ?_
  refine X_imul hB dX4_both_12 ?_
  refine X_iload_n (i := 0) hB dX4_both_13 rfl rfl ?_
  refine X_iadd hB dX4_both_14 ?_
  refine X_lshl hB dX4_both_15 ?_
  refine X_lor hB dX4_both_16 ?_
  refine X_lret hB rfl dX4_both_17 ?_
  exact ⟨⟨_, rfl⟩, rfl⟩
set_option maxRecDepth 100000 in
set_option maxHeartbeats 4000000 in
theorem c_X6_tell (d : Nat) (hL : RdLay G d) (hF0 : S.2.2 d 0 = some (d + 1)) (w a b : Nat) (v : Int32) (hw : w < 11) (ha : a < 100) (s : Ps) (hv : w = 8 → v = nI b) : C G mX6_tell 1 [.ref d, .int (nI w), .int (nI a), .int v] S (fun r S' => r = none ∧ tlK d S S' ∧ ((prE S d s ∧ (8 ≤ w → a < 8) ∧ (w = 8 → b < 8)) → prE S' d (teS s w a b))) := by
  refine C.mk (lv := [some (.ref d), some (.int (nI w)), some (.int (nI a)), some (.int v)]) (by decide) (Nat.le_of_ble_eq_true rfl) rfl (fun E hB => ?_)
  refine X_iload_n (i := 1) hB dX6_tell_0 rfl rfl ?_
  refine X_if_lt (tgt := 20) hB dX6_tell_1 (by decide) (fun c1 => absurd c1 (nI_pos (by omega))) (fun c1 => ?_)
  refine X_iload_n (i := 1) hB dX6_tell_4 rfl rfl ?_
  refine X_bipush (v := 8) hB dX6_tell_5 (by decide) ?_
  refine X_icmp_ge (tgt := 20) hB dX6_tell_7 (by decide) (fun c7 => ?_) (fun c7 => ?_)
  · have e7 : ¬ w < 8 := by
      rw [show (8 : Int32) = nI 8 from rfl, nI_leI (by omega) (by omega)] at c7
      omega
    refine X_iload_n (i := 1) hB dX6_tell_20 rfl rfl ?_
    refine X_bipush (v := 8) hB dX6_tell_21 (by decide) ?_
    refine X_icmp_ne (tgt := 43) hB dX6_tell_23 (by decide) (fun c23 => ?_) (fun c23 => ?_)
    · have e23 : ¬ w = 8 := fun z => c23 (by rw [z]; rfl)
      refine X_iload_n (i := 1) hB dX6_tell_43 rfl rfl ?_
      refine X_bipush (v := 9) hB dX6_tell_44 (by decide) ?_
      refine X_icmp_ne (tgt := 64) hB dX6_tell_46 (by decide) (fun c46 => ?_) (fun c46 => ?_)
      · have e46 : ¬ w = 9 := fun z => c46 (by rw [z]; rfl)
        have hte : teS s w a b = psDf s a := by unfold teS; rw [if_neg e7, if_neg e23, if_neg e46]
        refine X_aload_n (i := 0) hB dX6_tell_64 rfl rfl ?_
        refine X_dup hB dX6_tell_65 rfl ?_
        refine X_geti hB cw5 fX6_35 rfl hL.1.1 hL.1.2 dX6_tell_66 ?_
        refine X_iconst (v := 1) hB dX6_tell_69 (by decide) ?_
        refine X_iload_n (i := 2) hB dX6_tell_70 rfl rfl ?_
        refine X_ishl hB dX6_tell_71 ?_
        refine X_ior hB dX6_tell_72 ?_
        refine X_puti hB cw5 fX6_35 rfl rfl hL.1.1 hL.1.2 dX6_tell_73 ?_
        refine X_vret hB rfl dX6_tell_76 ?_
        refine ⟨rfl, ⟨rfl, fun x hx _ => setI_row _ _ _ hx, fun _ _ => rfl, fun k hk => setI_ne _ _ (Or.inr (by omega))⟩, fun q => ?_⟩
        obtain ⟨c1, c2, c3⟩ := q
        have ha8 := c2 (by omega)
        refine ⟨fun k hk => ?_, ?_, ?_, ?_⟩
        · rw [setI_row _ _ _ (by omega), hte]; exact c1.1 k hk
        · rw [hte]; exact c1.2.1
        · rw [setI_ne _ _ (Or.inr (by decide)), hte]; exact c1.2.2.1
        · rw [setI_at, hte]
          have e0 := c1.2.2.2
          rw [e0, bts_set _ ha8]
          refine congrArg nI (bts_congr (fun j _ => ?_))
          show _ = if j = a then true else _
          by_cases z : j = a
          · rw [if_pos z, decide_eq_true z, Bool.true_or]
          · rw [if_neg z, decide_eq_false z, Bool.false_or]
      · have e46 : w = 9 := (nI_eq (b := 9) (by omega) (by omega)).mp c46
        have hte : teS s w a b = psMp s a := by unfold teS; rw [if_neg e7, if_neg e23, if_pos e46]
        refine X_aload_n (i := 0) hB dX6_tell_49 rfl rfl ?_
        refine X_dup hB dX6_tell_50 rfl ?_
        refine X_geti hB cw5 fX6_31 rfl hL.1.1 hL.1.2 dX6_tell_51 ?_
        refine X_iconst (v := 1) hB dX6_tell_54 (by decide) ?_
        refine X_iload_n (i := 2) hB dX6_tell_55 rfl rfl ?_
        refine X_ishl hB dX6_tell_56 ?_
        refine X_ior hB dX6_tell_57 ?_
        refine X_puti hB cw5 fX6_31 rfl rfl hL.1.1 hL.1.2 dX6_tell_58 ?_
        refine X_goto (tgt := 76) hB dX6_tell_61 (by decide) ?_
        refine X_vret hB rfl dX6_tell_76 ?_
        refine ⟨rfl, ⟨rfl, fun x hx _ => setI_row _ _ _ hx, fun _ _ => rfl, fun k hk => setI_ne _ _ (Or.inr (by omega))⟩, fun q => ?_⟩
        obtain ⟨c1, c2, c3⟩ := q
        have ha8 := c2 (by omega)
        refine ⟨fun k hk => ?_, ?_, ?_, ?_⟩
        · rw [setI_row _ _ _ (by omega), hte]; exact c1.1 k hk
        · rw [hte]; exact c1.2.1
        · rw [setI_at, hte]
          have e0 := c1.2.2.1
          rw [e0, bts_set _ ha8]
          refine congrArg nI (bts_congr (fun j _ => ?_))
          show _ = if j = a then true else _
          by_cases z : j = a
          · rw [if_pos z, decide_eq_true z, Bool.true_or]
          · rw [if_neg z, decide_eq_false z, Bool.false_or]
        · rw [setI_ne _ _ (Or.inr (by decide)), hte]; exact c1.2.2.2
    · have e23 : w = 8 := (nI_eq (b := 8) (by omega) (by omega)).mp c23
      have hte : teS s w a b = psUp s a b := by unfold teS; rw [if_neg e7, if_pos e23]
      refine X_aload_n (i := 0) hB dX6_tell_26 rfl rfl ?_
      refine X_dup hB dX6_tell_27 rfl ?_
      refine X_getj hB cw5 fX6_27 rfl hL.1.1 hL.1.2 dX6_tell_28 ?_
      refine X_iload_n (i := 2) hB dX6_tell_31 rfl rfl ?_
      refine X_iload_n (i := 3) hB dX6_tell_32 rfl rfl ?_
      by_cases hc : (prE S d s ∧ (8 ≤ w → a < 8) ∧ (w = 8 → b < 8))
      · obtain ⟨c1, c2, c3⟩ := hc
        have hv8 := hv e23
        subst hv8
        refine X_callS hB kX6_115 (c_X4_both (c2 (by omega)) (c3 e23)) (by decide) (by decide) rfl rfl (Nat.le_of_ble_eq_true rfl) dX6_tell_33 (fun r33 S33 q33 => ?_)
        obtain ⟨rfl, rfl⟩ := q33
        refine X_lor hB dX6_tell_36 ?_
        refine X_putj hB cw5 fX6_27 rfl rfl hL.1.1 hL.1.2 dX6_tell_37 ?_
        refine X_goto (tgt := 76) hB dX6_tell_40 (by decide) ?_
        refine X_vret hB rfl dX6_tell_76 ?_
        refine ⟨rfl, ⟨rfl, fun _ _ _ => rfl, fun x hx => ups_row_ne _ _ _ hx, fun _ _ => rfl⟩, fun _ => ⟨?_, ?_, ?_, ?_⟩⟩
        · intro k hk
          rw [hte]; exact c1.1 k hk
        · rw [setJ_at, hte]
          refine (lkR_or c1.2.1 (bJ_R (c2 (by omega)) (c3 e23))).congr (fun p q _ _ => ?_)
          show (if (p = a ∧ q = b) ∨ (p = b ∧ q = a) then true else pUp s p q) = _
          unfold prB
          by_cases z : (p = a ∧ q = b) ∨ (p = b ∧ q = a)
          · rw [if_pos z]; simp [z]
          · rw [if_neg z]; simp [z]
        · rw [hte]; exact c1.2.2.1
        · rw [hte]; exact c1.2.2.2
      · refine X_callS hB kX6_115 (c_bothAny (nI a) v) (by decide) (by decide) rfl rfl (Nat.le_of_ble_eq_true rfl) dX6_tell_33 (fun r33 S33 q33 => ?_)
        obtain ⟨⟨v9, rfl⟩, rfl⟩ := q33
        refine X_lor hB dX6_tell_36 ?_
        refine X_putj hB cw5 fX6_27 rfl rfl hL.1.1 hL.1.2 dX6_tell_37 ?_
        refine X_goto (tgt := 76) hB dX6_tell_40 (by decide) ?_
        refine X_vret hB rfl dX6_tell_76 ?_
        exact ⟨rfl, ⟨rfl, fun _ _ _ => rfl, fun x hx => ups_row_ne _ _ _ hx, fun _ _ => rfl⟩, fun q => absurd q hc⟩
  · have e7 : w < 8 := by
      rw [show (8 : Int32) = nI 8 from rfl, nI_leI (by omega) (by omega)] at c7
      omega
    have hte : teS s w a b = psSe s w a := by unfold teS; rw [if_pos e7]
    refine X_aload_n (i := 0) hB dX6_tell_10 rfl rfl ?_
    refine X_getr hB cw5 fX6_9 rfl hL.1.1 hL.1.2 hF0 dX6_tell_11 ?_
    refine X_iload_n (i := 1) hB dX6_tell_14 rfl rfl ?_
    refine X_iload_n (i := 2) hB dX6_tell_15 rfl rfl ?_
    refine X_iastN hB (w) hL.2.1.1 hL.2.1.2 (by decide) rfl (by omega) dX6_tell_16 ?_
    refine X_goto (tgt := 76) hB dX6_tell_17 (by decide) ?_
    refine X_vret hB rfl dX6_tell_76 ?_
    refine ⟨rfl, ⟨rfl, fun x _ hx => setI_row _ _ _ hx, fun _ _ => rfl, fun k hk => setI_ne _ _ (Or.inl (by omega))⟩, fun q => ?_⟩
    obtain ⟨c1, c2, c3⟩ := q
    refine ⟨fun k hk => ?_, ?_, ?_, ?_⟩
    · rw [hte]
      show _ = nI (updN (pSe s) w a k)
      by_cases z : k = w
      · rw [z, setI_at]; simp [updN]
      · rw [setI_ne _ _ (Or.inr z), c1.1 k hk]; simp [updN, z]
    · rw [hte]; exact c1.2.1
    · rw [hte, setI_ne _ _ (Or.inl (by omega))]; exact c1.2.2.1
    · rw [hte, setI_ne _ _ (Or.inl (by omega))]; exact c1.2.2.2
/-- one clause, from its word on: where it fails, or the place behind it and what is read -/
def cl1 (B : List Nat) (p : Nat) (s : Ps) : Nat ⊕ (Nat × Ps) := match kwI (tkW B p) with
  | none => .inl (tkB B p)
  | some w => match clS B w (tkE B p) s with
    | .inl e => .inl e
    | .inr (q, s') => if tkK B q = 4 then .inr (tkE B q, s') else .inl (tkB B q)
theorem linS_st {B : List Nat} {k p : Nat} {s : Ps} (h : tkK B p ≠ 0) : linS B (k + 1) p s = match cl1 B p s with
    | .inl e => .inl e
    | .inr (q, s') => linS B k q s' := by
  show (if tkK B p = 0 then _ else _) = _
  rw [if_neg h]
  unfold cl1
  cases kwI (tkW B p) with
  | none => rfl
  | some w =>
    dsimp only
    cases clS B w (tkE B p) s with
    | inl e => rfl
    | inr r =>
      obtain ⟨q, s'⟩ := r
      dsimp only
      by_cases c : tkK B q = 4
      · rw [if_pos c, if_pos c]
      · rw [if_neg c, if_neg c]
theorem clS_one {B : List Nat} {w p : Nat} {s : Ps} (h3 : tkK B p = 3) (h8 : w ≠ 8) : clS B w p s = .inr (tkE B p, teS (psT s w (tkV B p) (tkB B p) none) w (tkV B p) 0) := by
  unfold clS teS
  rw [if_neg (not_not_intro h3), if_neg h8]
  by_cases c : w < 8
  · rw [if_pos c, if_pos c]
  · rw [if_neg c, if_neg c, if_neg h8]
theorem clS_two {B : List Nat} {p : Nat} {s : Ps} (h3 : tkK B p = 3) (h4 : tkK B (tkE B p) = 3) : clS B 8 p s = .inr (tkE B (tkE B p), teS (psT (psT s 8 (tkV B p) (tkB B p) none) 8 (tkV B (tkE B p)) (tkB B (tkE B p)) (some (tkV B p))) 8 (tkV B p) (tkV B (tkE B p))) := by
  unfold clS teS
  rw [if_neg (not_not_intro h3), if_pos rfl, if_neg (not_not_intro h4)]
  rfl
theorem psT_E {S : St} {d : Nat} {s : Ps} {w v at_ : Nat} {but : Option Nat} (h : pBd s = none → prE S d s) (hb : pBd (psT s w v at_ but) = none) : prE S d (psT s w v at_ but) ∧ okV w v but = true ∧ pBd s = none := by
  have hb : (if okV w v but then pBd s else match pBd s with
    | none => some at_
    | some q => some q) = none := hb
  by_cases c : okV w v but = true
  · rw [if_pos c] at hb
    exact ⟨h hb, c, hb⟩
  · rw [if_neg c] at hb
    cases hz : pBd s with
    | none => rw [hz] at hb; cases hb
    | some q => rw [hz] at hb; cases hb
theorem okV_hi {w v : Nat} {but : Option Nat} (h : okV w v but = true) : v ≤ hiW w ∧ but ≠ some v := by
  unfold okV at h
  rw [Bool.and_eq_true, Bool.and_eq_true] at h
  exact ⟨of_decide_eq_true h.1.2, of_decide_eq_true h.2⟩
/-- what a clause leaves behind -/
def clQ (S' : St) (d : Nat) (B : List Nat) (p : Nat) (s : Ps) (pl : Int32) (c : Nat ⊕ (Nat × Ps)) : Prop := match c with
  | .inl e => S'.1 d 4 = 1 ∧ S'.1 d 5 = nI e
  | .inr (q, s') => S'.1 d 4 = 0 ∧ S'.1 d 5 = pl ∧ tkQ S' d B q ∧ q ≤ B.length ∧ p < q ∧ prN S' d s' ∧ (pBd s' = none → prE S' d s') ∧ psOk s' 
set_option maxRecDepth 100000 in
set_option maxHeartbeats 4000000 in
theorem e_X6_readClause {E : Ev} (hB : Bd G E mX6_readClause) {q v : Nat} (hZ : ∀ U, gZ G U → zW G q v U) {tL tM : Nat} (hZL : ∀ U, gZ G U → zT G "LEAST" tL aL U) (hZM : ∀ U, gZ G U → zT G "MOST" tM aM U) (d x : Nat) (hL : RdLay G d) (hX : TxLay G x) (hdx : x + 2 ≤ d ∨ d + 3 ≤ x) (B : List Nat) (hF : rdF S d x) (hT : txC S x B) (p : Nat) (hpl : p ≤ B.length) (hQ : tkQ S d B p) (h0 : tkK B p ≠ 0) (hf : S.1 d 4 = 0) (s : Ps) (hN : prN S d s) (hE : pBd s = none → prE S d s) (hs : psOk s) (w a b q : Nat) (v : Int32) (hw : w < 11) (ha : a < 100) (hv : w = 8 → v = nI b) (s2 : Ps) (S1 : St) (hc1 : chg d (d + 3) S S1) (hr1 : S1.2.2 = S.2.2) (hf1 : S1.1 d 4 = 0) (hp1 : S1.1 d 5 = S.1 d 5) (hq : tkQ S1 d B q) (hql : q ≤ B.length) (hpq : p < q) (hN1 : prN S1 d s2) (hE1 : pBd s2 = none → prE S1 d s2 ∧ (8 ≤ w → a < 8) ∧ (w = 8 → b < 8)) (hs2 : psOk s2) (hcl : cl1 B p s = if tkK B q = 4 then .inr (tkE B q, teS s2 w a b) else .inl (tkB B q)) :
    X G E mX6_readClause 5 (fun r S' => r = none ∧ chg d (d + 3) S S' ∧ S'.2.2 = S.2.2 ∧ clQ S' d B p s (S.1 d 5) (cl1 B p s)) S1 55 [some (.ref d), some (.int (nI w)), some (.int (nI a)), some (.int v)] [] := by
  have h4 := hT.2.2.1
  have hF1 : rdF S1 d x := by unfold rdF; rw [hr1]; exact hF
  have hT1 : txC S1 x B := hT.chg hc1 (by omega)
  have hqb := @tkB_ge B q
  have hqe := tkB_le hql
  have hk2 : kdC (tkK B q) = 2 ↔ tkK B q = 4 := by
    unfold kdC
    by_cases a : tkK B q = 0
    · rw [if_pos a]; omega
    · rw [if_neg a]
      by_cases b : tkK B q = 2
      · rw [if_pos b]; omega
      · rw [if_neg b]
        by_cases c : tkK B q = 3
        · rw [if_pos c]; omega
        · rw [if_neg c]; split <;> omega
  have hkl : kdC (tkK B q) ≤ 4 := by unfold kdC; repeat' split
                                     all_goals omega
  refine X_aload_n (i := 0) hB dX6_readClause_55 rfl rfl ?_
  refine X_geti hB cw5 fX6_38 rfl hL.1.1 hL.1.2 dX6_readClause_56 ?_
  refine X_topi (y := 0) (hf1) ?_
  refine X_if_ne (tgt := 79) hB dX6_readClause_59 (by decide) (fun c59 => absurd rfl c59) (fun c59 => ?_)
  refine X_aload_n (i := 0) hB dX6_readClause_62 rfl rfl ?_
  refine X_geti hB cw5 fX6_62 rfl hL.1.1 hL.1.2 dX6_readClause_63 ?_
  refine X_topi (y := nI (kdC (tkK B q))) (hq.1) ?_
  refine X_iconst (v := 2) hB dX6_readClause_66 (by decide) ?_
  refine X_icmp_eq (tgt := 79) hB dX6_readClause_67 (by decide) (fun c67 => ?_) (fun c67 => ?_)
  · have e67 : tkK B q = 4 := hk2.mp ((nI_eq (b := 2) (by omega) (by omega)).mp c67)
    refine X_aload_n (i := 0) hB dX6_readClause_79 rfl rfl ?_
    refine X_geti hB cw5 fX6_38 rfl hL.1.1 hL.1.2 dX6_readClause_80 ?_
    refine X_topi (y := 0) (hf1) ?_
    refine X_if_ne (tgt := 97) hB dX6_readClause_83 (by decide) (fun c83 => absurd rfl c83) (fun c83 => ?_)
    refine X_aload_n (i := 0) hB dX6_readClause_86 rfl rfl ?_
    refine X_callV hB kX6_57 cw5 hL.1.1 hL.1.2 (c_X6_step d x hL hX hdx B hF1 hT1 (tkE B q) (hq.2.2 (by omega)) (tkE_le hql)) (by decide) (by decide) rfl rfl (Nat.le_of_ble_eq_true rfl) dX6_readClause_87 (fun r87 S87 q87 => ?_)
    obtain ⟨rfl, y1, y2⟩ := q87
    refine X_aload_n (i := 0) hB dX6_readClause_90 rfl rfl ?_
    refine X_iload_n (i := 1) hB dX6_readClause_91 rfl rfl ?_
    refine X_iload_n (i := 2) hB dX6_readClause_92 rfl rfl ?_
    refine X_iload_n (i := 3) hB dX6_readClause_93 rfl rfl ?_
    refine X_callV hB kX6_97 cw5 hL.1.1 hL.1.2 (c_X6_tell d hL (y1.F hF1).1 w a b v hw ha s2 hv) (by decide) (by decide) rfl rfl (Nat.le_of_ble_eq_true rfl) dX6_readClause_94 (fun r94 S94 q94 => ?_)
    obtain ⟨rfl, z1, z2⟩ := q94
    refine X_vret hB rfl dX6_readClause_97 ?_
    rw [if_pos e67] at hcl
    refine ⟨rfl, hc1.tr ((y1.C.mono (Nat.le_refl _) (by omega)).tr z1.C), z1.1.trans ((by rw [y1.1]; exact hr1)), ?_⟩
    rw [hcl]
    have eN := @teS_N s2 w a b
    refine ⟨?_, ?_, z1.Q y2, tkE_le hql, Nat.lt_of_lt_of_le hpq (Nat.le_trans hqb (by have := tkE_gt (B := B) (p := q) (by omega); omega)), z1.N (y1.N hN1), fun hb => ?_, ⟨fun a9 e9 => hs2.1 a9 (by rw [← eN.1]; exact e9), fun n a9 e9 => hs2.2 n a9 (by rw [← eN.2]; exact e9)⟩⟩
    · rw [z1.2.2.2 4 (by decide), y1.2.2 4 (by decide) (by decide) (by decide)]; exact hf1
    · rw [z1.2.2.2 5 (by decide), y1.2.2 5 (by decide) (by decide) (by decide)]; exact hp1
    · rw [eN.1] at hb
      obtain ⟨x1, x2, x3⟩ := hE1 hb
      exact z2 ⟨y1.E x1, x2, x3⟩
  · have e67 : ¬ tkK B q = 4 := fun z => c67 (by rw [hk2.mpr z]; rfl)
    refine X_aload_n (i := 0) hB dX6_readClause_70 rfl rfl ?_
    refine X_iconst (v := 1) hB dX6_readClause_71 (by decide) ?_
    refine X_aload_n (i := 0) hB dX6_readClause_72 rfl rfl ?_
    refine X_geti hB cw5 fX6_72 rfl hL.1.1 hL.1.2 dX6_readClause_73 ?_
    refine X_topi (y := nI (tkB B q)) (hq.2.1) ?_
    refine X_callV hB kX6_68 cw5 hL.1.1 hL.1.2 (c_X6_fail d hL 1 (nI (tkB B q))) (by decide) (by decide) rfl rfl (Nat.le_of_ble_eq_true rfl) dX6_readClause_76 (fun r76 S76 q76 => ?_)
    obtain ⟨rfl, rfl⟩ := q76
    refine X_aload_n (i := 0) hB dX6_readClause_79 rfl rfl ?_
    refine X_geti hB cw5 fX6_38 rfl hL.1.1 hL.1.2 dX6_readClause_80 ?_
    refine X_topi (y := 1) (by rw [setI_ne _ _ (Or.inr (by decide)), setI_at]) ?_
    refine X_if_ne (tgt := 97) hB dX6_readClause_83 (by decide) (fun c83 => ?_) (fun c83 => absurd c83 (by decide))
    refine X_vret hB rfl dX6_readClause_97 ?_
    rw [if_neg e67] at hcl
    refine ⟨rfl, hc1.tr ((chg.setI (Nat.le_refl _) (by omega)).tr (chg.setI (Nat.le_refl _) (by omega))), hr1, ?_⟩
    rw [hcl]
    exact ⟨by rw [setI_ne _ _ (Or.inr (by decide)), setI_at], setI_at _ _ _ _⟩
set_option maxRecDepth 100000 in
set_option maxHeartbeats 4000000 in
theorem c_X6_readClause {q v : Nat} (hZ : ∀ U, gZ G U → zW G q v U) {tL tM : Nat} (hZL : ∀ U, gZ G U → zT G "LEAST" tL aL U) (hZM : ∀ U, gZ G U → zT G "MOST" tM aM U) (d x : Nat) (hL : RdLay G d) (hX : TxLay G x) (hdx : x + 2 ≤ d ∨ d + 3 ≤ x) (B : List Nat) (hF : rdF S d x) (hT : txC S x B) (p : Nat) (hpl : p ≤ B.length) (hQ : tkQ S d B p) (h0 : tkK B p ≠ 0) (hf : S.1 d 4 = 0) (s : Ps) (hN : prN S d s) (hE : pBd s = none → prE S d s) (hs : psOk s) : C G mX6_readClause 5 [.ref d] S (fun r S' => r = none ∧ chg d (d + 3) S S' ∧ S'.2.2 = S.2.2 ∧ clQ S' d B p s (S.1 d 5) (cl1 B p s)) := by
  have h4 := hT.2.2.1
  have hk9 : ∀ k, k < 11 → nI k ≠ -1 := fun k hk => nI_neg1 (by omega)
  have he1 : (tkE B p) ≤ B.length := tkE_le hpl
  have hgt : p < (tkE B p) := by
    have h1 := @tkB_ge B p
    have h2 := tkE_gt (B := B) (p := p) h0
    omega
  have hb1 := tkB_le hpl
  refine C.mk (lv := [some (.ref d), none, none, none]) (by decide) (Nat.le_of_ble_eq_true rfl) rfl (fun E hB => ?_)
  refine X_aload_n (i := 0) hB dX6_readClause_0 rfl rfl ?_
  refine X_callV hB kX6_89 cw5 hL.1.1 hL.1.2 (c_X6_findWord hZ d x hL hX hdx B hF hT p hpl hQ) (by decide) (by decide) rfl rfl (Nat.le_of_ble_eq_true rfl) dX6_readClause_1 (fun r1 S1 q1 => ?_)
  obtain ⟨rfl, rfl⟩ := q1
  cases hk : kwI (tkW B p) with
  | none =>
    have hcl : cl1 B p s = .inl (tkB B p) := by unfold cl1; rw [hk]
    refine X_istore_n (i := 1) hB dX6_readClause_4 rfl (by decide) rfl ?_
    refine X_iload_n (i := 1) hB dX6_readClause_5 rfl rfl ?_
    refine X_iconst (v := (-1)) hB dX6_readClause_6 (by decide) ?_
    refine X_icmp_ne (tgt := 20) hB dX6_readClause_7 (by decide) (fun c7 => absurd rfl c7) (fun c7 => ?_)
    refine X_aload_n (i := 0) hB dX6_readClause_10 rfl rfl ?_
    refine X_iconst (v := 1) hB dX6_readClause_11 (by decide) ?_
    refine X_aload_n (i := 0) hB dX6_readClause_12 rfl rfl ?_
    refine X_geti hB cw5 fX6_72 rfl hL.1.1 hL.1.2 dX6_readClause_13 ?_
    refine X_topi (y := nI (tkB B p)) (hQ.2.1) ?_
    refine X_callV hB kX6_68 cw5 hL.1.1 hL.1.2 (c_X6_fail d hL 1 (nI (tkB B p))) (by decide) (by decide) rfl rfl (Nat.le_of_ble_eq_true rfl) dX6_readClause_16 (fun r16 S16 q16 => ?_)
    obtain ⟨rfl, rfl⟩ := q16
    refine X_vret hB rfl dX6_readClause_19 ?_
    refine ⟨rfl, (chg.setI (Nat.le_refl _) (by omega)).tr (chg.setI (Nat.le_refl _) (by omega)), rfl, ?_⟩
    rw [hcl]
    exact ⟨by rw [setI_ne _ _ (Or.inr (by decide)), setI_at], setI_at _ _ _ _⟩
  | some w =>
    have hw : w < 11 := (kwI_some.mp hk).1
    have hk2 : tkK B p = 2 := Classical.byContradiction (fun z => by
      have : tkW B p = [] := by unfold tkW; rw [if_neg z]
      rw [this, show kwI [] = none by decide] at hk
      cases hk)
    have hsm : ∀ b : Nat, (none : Option Nat) = some b → b < 1000 := fun b e => by cases e
    refine X_istore_n (i := 1) hB dX6_readClause_4 rfl (by decide) rfl ?_
    refine X_iload_n (i := 1) hB dX6_readClause_5 rfl rfl ?_
    refine X_iconst (v := (-1)) hB dX6_readClause_6 (by decide) ?_
    refine X_icmp_ne (tgt := 20) hB dX6_readClause_7 (by decide) (fun c7 => ?_) (fun c7 => absurd c7 (hk9 w hw))
    refine X_aload_n (i := 0) hB dX6_readClause_20 rfl rfl ?_
    refine X_callV hB kX6_57 cw5 hL.1.1 hL.1.2 (c_X6_step d x hL hX hdx B hF hT (tkE B p) (hQ.2.2 (by omega)) he1) (by decide) (by decide) rfl rfl (Nat.le_of_ble_eq_true rfl) dX6_readClause_21 (fun r21 S21 q21 => ?_)
    obtain ⟨rfl, y1, y2⟩ := q21
    refine X_aload_n (i := 0) hB dX6_readClause_24 rfl rfl ?_
    refine X_iload_n (i := 1) hB dX6_readClause_25 rfl rfl ?_
    refine X_iconst (v := (-1)) hB dX6_readClause_26 (by decide) ?_
    refine X_callV hB kX6_93 cw5 hL.1.1 hL.1.2 (c_X6_readNumber hZL hZM d x hL hX hdx B (y1.F hF) (y1.T hT hdx) (tkE B p) w none hsm hw he1 y2 s (y1.N hN) hs) (by decide) (by decide) rfl rfl (Nat.le_of_ble_eq_true rfl) dX6_readClause_27 (fun r27 S27 q27 => ?_)
    by_cases h3 : tkK B (tkE B p) = 3
    · rw [if_pos h3] at q27
      obtain ⟨rfl, g1, g2, g3⟩ := q27
      have hF2 := g1.F (y1.F hF)
      have hc2 : chg d (d + 3) S S27 := (y1.C.mono (Nat.le_refl _) (by omega)).tr g1.C
      have hT2 : txC S27 x B := hT.chg hc2 (by omega)
      have hr2 : S27.2.2 = S.2.2 := by rw [g1.1, y1.1]
      have hf2 : S27.1 d 4 = 0 := by rw [g1.2.2 4 (by decide), y1.2.2 4 (by decide) (by decide) (by decide)]; exact hf
      have hp2 : S27.1 d 5 = S.1 d 5 := by rw [g1.2.2 5 (by decide), y1.2.2 5 (by decide) (by decide) (by decide)]
      have he2 : (tkE B (tkE B p)) ≤ B.length := tkE_le he1
      have hg2 : p < (tkE B (tkE B p)) := by
        have h1 := @tkB_ge B (tkE B p)
        have h2 := tkE_gt (B := B) (p := (tkE B p)) (by omega)
        omega
      have hv1 := tkV_lt he1 h3
      have hb2 := tkB_le he1
      have hok2 : psOk (psT s w (tkV B (tkE B p)) (tkB B (tkE B p)) none) := psT_ok hs (by omega)
      have hE2 : pBd s = none → prE S27 d s := fun z => g1.E (y1.E (hE z))
      by_cases h8 : w = 8
      · subst h8
        refine X_istore_n (i := 2) hB dX6_readClause_30 rfl (by decide) rfl ?_
        refine X_iload_n (i := 1) hB dX6_readClause_31 rfl rfl ?_
        refine X_bipush (v := 8) hB dX6_readClause_32 (by decide) ?_
        refine X_icmp_ne (tgt := 53) hB dX6_readClause_34 (by decide) (fun c34 => absurd rfl c34) (fun c34 => ?_)
        refine X_aload_n (i := 0) hB dX6_readClause_37 rfl rfl ?_
        refine X_geti hB cw5 fX6_38 rfl hL.1.1 hL.1.2 dX6_readClause_38 ?_
        refine X_topi (y := 0) (hf2) ?_
        refine X_if_ne (tgt := 53) hB dX6_readClause_41 (by decide) (fun c41 => absurd rfl c41) (fun c41 => ?_)
        refine X_aload_n (i := 0) hB dX6_readClause_44 rfl rfl ?_
        refine X_iload_n (i := 1) hB dX6_readClause_45 rfl rfl ?_
        refine X_iload_n (i := 2) hB dX6_readClause_46 rfl rfl ?_
        refine X_callV hB kX6_93 cw5 hL.1.1 hL.1.2 (c_X6_readNumber hZL hZM d x hL hX hdx B hF2 hT2 (tkE B (tkE B p)) 8 (some (tkV B (tkE B p))) (fun b e => by cases e; omega) (by decide) he2 g2 (psT s 8 (tkV B (tkE B p)) (tkB B (tkE B p)) none) g3 hok2) (by decide) (by decide) rfl rfl (Nat.le_of_ble_eq_true rfl) dX6_readClause_47 (fun r47 S47 q47 => ?_)
        by_cases h5 : tkK B (tkE B (tkE B p)) = 3
        · rw [if_pos h5] at q47
          obtain ⟨rfl, u1, u2, u3⟩ := q47
          have hv2 := tkV_lt he2 h5
          have hb3 := tkB_le he2
          have he3 : tkE B (tkE B (tkE B p)) ≤ B.length := tkE_le he2
          have hg3 : p < tkE B (tkE B (tkE B p)) := by
            have h1 := @tkB_ge B (tkE B (tkE B p))
            have h2 := tkE_gt (B := B) (p := (tkE B (tkE B p))) (by omega)
            omega
          have hcl : cl1 B p s = if tkK B (tkE B (tkE B (tkE B p))) = 4 then .inr (tkE B (tkE B (tkE B (tkE B p))), teS (psT (psT s 8 (tkV B (tkE B p)) (tkB B (tkE B p)) none) 8 (tkV B (tkE B (tkE B p))) (tkB B (tkE B (tkE B p))) (some (tkV B (tkE B p)))) 8 (tkV B (tkE B p)) (tkV B (tkE B (tkE B p)))) else .inl (tkB B (tkE B (tkE B (tkE B p)))) := by
            unfold cl1
            rw [hk]
            dsimp only
            rw [clS_two h3 h5]
          refine X_goto (tgt := 54) hB dX6_readClause_50 (by decide) ?_
          refine X_istore_n (i := 3) hB dX6_readClause_54 rfl (by decide) rfl ?_
          refine e_X6_readClause hB hZ hZL hZM d x hL hX hdx B hF hT p hpl hQ h0 hf s hN hE hs 8 (tkV B (tkE B p)) (tkV B (tkE B (tkE B p))) (tkE B (tkE B (tkE B p))) (nI (tkV B (tkE B (tkE B p)))) hw hv1 (fun _ => rfl) (psT (psT s 8 (tkV B (tkE B p)) (tkB B (tkE B p)) none) 8 (tkV B (tkE B (tkE B p))) (tkB B (tkE B (tkE B p))) (some (tkV B (tkE B p)))) S47 (hc2.tr u1.C) (by rw [u1.1]; exact hr2) (by rw [u1.2.2 4 (by decide)]; exact hf2) (by rw [u1.2.2 5 (by decide)]; exact hp2) u2 he3 hg3 u3 (fun hb => ?_) (psT_ok hok2 (by omega)) hcl
          obtain ⟨x1, x2, x3⟩ := psT_E (S := S47) (fun z => (psT_E (S := S47) (fun z => u1.E (hE2 z)) z).1) hb
          obtain ⟨x4, x5, x6⟩ := psT_E (S := S47) (fun z => u1.E (hE2 z)) x3
          have o1 := okV_hi x2
          have o2 := okV_hi x5
          have e8 : hiW 8 = 7 := by decide
          exact ⟨x1, fun _ => by omega, fun _ => by omega⟩
        · rw [if_neg h5] at q47
          obtain ⟨rfl, rfl⟩ := q47
          have hcl : cl1 B p s = .inl (tkB B (tkE B (tkE B p))) := by
            unfold cl1
            rw [hk]
            dsimp only
            unfold clS
            rw [if_neg (not_not_intro h3), if_pos rfl, if_pos h5]
          refine X_goto (tgt := 54) hB dX6_readClause_50 (by decide) ?_
          refine X_istore_n (i := 3) hB dX6_readClause_54 rfl (by decide) rfl ?_
          refine X_aload_n (i := 0) hB dX6_readClause_55 rfl rfl ?_
          refine X_geti hB cw5 fX6_38 rfl hL.1.1 hL.1.2 dX6_readClause_56 ?_
          refine X_topi (y := 1) (by rw [setI_ne _ _ (Or.inr (by decide)), setI_at]) ?_
          refine X_if_ne (tgt := 79) hB dX6_readClause_59 (by decide) (fun c59 => ?_) (fun c59 => absurd c59 (by decide))
          refine X_aload_n (i := 0) hB dX6_readClause_79 rfl rfl ?_
          refine X_geti hB cw5 fX6_38 rfl hL.1.1 hL.1.2 dX6_readClause_80 ?_
          refine X_topi (y := 1) (by rw [setI_ne _ _ (Or.inr (by decide)), setI_at]) ?_
          refine X_if_ne (tgt := 97) hB dX6_readClause_83 (by decide) (fun c83 => ?_) (fun c83 => absurd c83 (by decide))
          refine X_vret hB rfl dX6_readClause_97 ?_
          refine ⟨rfl, hc2.tr ((chg.setI (Nat.le_refl _) (by omega)).tr (chg.setI (Nat.le_refl _) (by omega))), hr2, ?_⟩
          rw [hcl]
          exact ⟨by rw [setI_ne _ _ (Or.inr (by decide)), setI_at], setI_at _ _ _ _⟩
      · have hcl : cl1 B p s = if tkK B (tkE B (tkE B p)) = 4 then .inr (tkE B (tkE B (tkE B p)), teS (psT s w (tkV B (tkE B p)) (tkB B (tkE B p)) none) w (tkV B (tkE B p)) 0) else .inl (tkB B (tkE B (tkE B p))) := by
          unfold cl1
          rw [hk]
          dsimp only
          rw [clS_one h3 h8]
        refine X_istore_n (i := 2) hB dX6_readClause_30 rfl (by decide) rfl ?_
        refine X_iload_n (i := 1) hB dX6_readClause_31 rfl rfl ?_
        refine X_bipush (v := 8) hB dX6_readClause_32 (by decide) ?_
        refine X_icmp_ne (tgt := 53) hB dX6_readClause_34 (by decide) (fun c34 => ?_) (fun c34 => absurd ((nI_eq (b := 8) (by omega) (by omega)).mp c34) h8)
        refine X_iconst (v := (-1)) hB dX6_readClause_53 (by decide) ?_
        refine X_istore_n (i := 3) hB dX6_readClause_54 rfl (by decide) rfl ?_
        refine e_X6_readClause hB hZ hZL hZM d x hL hX hdx B hF hT p hpl hQ h0 hf s hN hE hs w (tkV B (tkE B p)) 0 (tkE B (tkE B p)) (-1) hw hv1 (fun z => absurd z h8) (psT s w (tkV B (tkE B p)) (tkB B (tkE B p)) none) S27 hc2 hr2 hf2 hp2 g2 he2 hg2 g3 (fun hb => ?_) hok2 hcl
        obtain ⟨x1, x2, x3⟩ := psT_E (S := S27) hE2 hb
        have o1 := okV_hi x2
        exact ⟨x1, fun z => by have := ((hi_le w hw).2.2 z).2; omega, fun z => absurd z h8⟩
    · rw [if_neg h3] at q27
      obtain ⟨rfl, rfl⟩ := q27
      have hcl : cl1 B p s = .inl (tkB B (tkE B p)) := by
        unfold cl1
        rw [hk]
        dsimp only
        unfold clS
        rw [if_pos h3]
      refine X_istore_n (i := 2) hB dX6_readClause_30 rfl (by decide) rfl ?_
      refine X_iload_n (i := 1) hB dX6_readClause_31 rfl rfl ?_
      refine X_bipush (v := 8) hB dX6_readClause_32 (by decide) ?_
      refine X_icmp_ne (tgt := 53) hB dX6_readClause_34 (by decide) (fun c34 => ?_) (fun c34 => ?_)
      · refine X_iconst (v := (-1)) hB dX6_readClause_53 (by decide) ?_
        refine X_istore_n (i := 3) hB dX6_readClause_54 rfl (by decide) rfl ?_
        refine X_aload_n (i := 0) hB dX6_readClause_55 rfl rfl ?_
        refine X_geti hB cw5 fX6_38 rfl hL.1.1 hL.1.2 dX6_readClause_56 ?_
        refine X_topi (y := 1) (by rw [setI_ne _ _ (Or.inr (by decide)), setI_at]) ?_
        refine X_if_ne (tgt := 79) hB dX6_readClause_59 (by decide) (fun c59 => ?_) (fun c59 => absurd c59 (by decide))
        refine X_aload_n (i := 0) hB dX6_readClause_79 rfl rfl ?_
        refine X_geti hB cw5 fX6_38 rfl hL.1.1 hL.1.2 dX6_readClause_80 ?_
        refine X_topi (y := 1) (by rw [setI_ne _ _ (Or.inr (by decide)), setI_at]) ?_
        refine X_if_ne (tgt := 97) hB dX6_readClause_83 (by decide) (fun c83 => ?_) (fun c83 => absurd c83 (by decide))
        refine X_vret hB rfl dX6_readClause_97 ?_
        refine ⟨rfl, (y1.C.mono (Nat.le_refl _) (by omega)).tr ((chg.setI (Nat.le_refl _) (by omega)).tr (chg.setI (Nat.le_refl _) (by omega))), (by show S21.2.2 = _; rw [y1.1]), ?_⟩
        rw [hcl]
        exact ⟨by rw [setI_ne _ _ (Or.inr (by decide)), setI_at], setI_at _ _ _ _⟩
      · refine X_aload_n (i := 0) hB dX6_readClause_37 rfl rfl ?_
        refine X_geti hB cw5 fX6_38 rfl hL.1.1 hL.1.2 dX6_readClause_38 ?_
        refine X_topi (y := 1) (by rw [setI_ne _ _ (Or.inr (by decide)), setI_at]) ?_
        refine X_if_ne (tgt := 53) hB dX6_readClause_41 (by decide) (fun c41 => ?_) (fun c41 => absurd c41 (by decide))
        refine X_iconst (v := (-1)) hB dX6_readClause_53 (by decide) ?_
        refine X_istore_n (i := 3) hB dX6_readClause_54 rfl (by decide) rfl ?_
        refine X_aload_n (i := 0) hB dX6_readClause_55 rfl rfl ?_
        refine X_geti hB cw5 fX6_38 rfl hL.1.1 hL.1.2 dX6_readClause_56 ?_
        refine X_topi (y := 1) (by rw [setI_ne _ _ (Or.inr (by decide)), setI_at]) ?_
        refine X_if_ne (tgt := 79) hB dX6_readClause_59 (by decide) (fun c59 => ?_) (fun c59 => absurd c59 (by decide))
        refine X_aload_n (i := 0) hB dX6_readClause_79 rfl rfl ?_
        refine X_geti hB cw5 fX6_38 rfl hL.1.1 hL.1.2 dX6_readClause_80 ?_
        refine X_topi (y := 1) (by rw [setI_ne _ _ (Or.inr (by decide)), setI_at]) ?_
        refine X_if_ne (tgt := 97) hB dX6_readClause_83 (by decide) (fun c83 => ?_) (fun c83 => absurd c83 (by decide))
        refine X_vret hB rfl dX6_readClause_97 ?_
        refine ⟨rfl, (y1.C.mono (Nat.le_refl _) (by omega)).tr ((chg.setI (Nat.le_refl _) (by omega)).tr (chg.setI (Nat.le_refl _) (by omega))), (by show S21.2.2 = _; rw [y1.1]), ?_⟩
        rw [hcl]
        exact ⟨by rw [setI_ne _ _ (Or.inr (by decide)), setI_at], setI_at _ _ _ _⟩
end CLS
