/-! the class: a number is read; what is told -/
/-- the first number that can not be; where nodes stand first -/
def prN (S : St) (d : Nat) (s : Ps) : Prop := S.1 d 10 = akN (pBd s) ∧ ∀ n, n < 8 → S.1 (d + 2) n = akN (pNm s n)
def prE (S : St) (d : Nat) (s : Ps) : Prop := (∀ k, k < 8 → S.1 (d + 1) k = nI (pSe s k)) ∧ lkR (S.2.1 d 1) (pUp s) ∧ S.1 d 2 = nI (bts (pMp s) 8) ∧ S.1 d 3 = nI (bts (pDf s) 8)
def psOk (s : Ps) : Prop := (∀ a, pBd s = some a → a < 1000) ∧ ∀ n a, pNm s n = some a → a < 1000
theorem akN_m1 {o : Option Nat} (h : ∀ a, o = some a → a < 1000) : akN o = -1 ↔ o = none := by
  cases o with
  | none => exact ⟨fun _ => rfl, fun _ => rfl⟩
  | some a => exact ⟨fun q => absurd q (nI_neg1 (by have := h a rfl; omega)), fun q => by cases q⟩
theorem numV_lt {B : List Nat} {b : Nat} : ∀ (n : Nat), n ≤ 2 → (∀ i, b ≤ i → i < b + n → i < B.length ∧ isDg (B.getD i 0) = true) → numV (sub B b (b + n)) < 10 ^ n
  | 0, _, _ => by rw [Nat.add_zero, sub_nil]; decide
  | n + 1, hn, h => by
    have ih := numV_lt n (by omega) (fun i a c => h i a (by omega))
    have hd := h (b + n) (by omega) (by omega)
    rw [← Nat.add_assoc, sub_snoc (by omega) hd.1, numV_snoc]
    have := isDg_iff.mp hd.2
    rw [Nat.pow_succ]; omega
theorem tkV_lt {B : List Nat} {p : Nat} (hpl : p ≤ B.length) (h : tkK B p = 3) : tkV B p < 100 := by
  obtain ⟨h1, h2, h3⟩ := tkK3 h
  have hge := tkE_gt (B := B) (p := p) (by omega)
  have hin : ∀ i, tkB B p ≤ i → i < tkE B p → i < B.length ∧ isDg (B.getD i 0) = true := fun i a c => runE_in B.length (tkB B p) (by omega) i a (by rw [← h2]; exact c)
  have := numV_lt (B := B) (b := tkB B p) (tkE B p - tkB B p) (by omega) (fun i a c => hin i a (by omega))
  rw [show tkB B p + (tkE B p - tkB B p) = tkE B p by omega] at this
  unfold tkV
  rcases (show tkE B p - tkB B p = 1 ∨ tkE B p - tkB B p = 2 by omega) with e | e
  · rw [e] at this; omega
  · rw [e] at this; omega
theorem lo_at : ∀ w, w < 8 → aL.getD w 0 = loW w ∧ aM.getD w 0 = hiW w := by decide +kernel
theorem hi_le : ∀ w, w < 11 → loW w ≤ 2 ∧ hiW w ≤ 20 ∧ (8 ≤ w → loW w = 0 ∧ hiW w = 7) := by decide +kernel
def butV (o : Option Nat) : Int32 := match o with
  | none => -1
  | some b => nI b
/-- what reading a number leaves as it was -/
def rnK (d : Nat) (S S' : St) : Prop := S'.2 = S.2 ∧ (∀ a, a ≠ d → a ≠ d + 2 → S'.1 a = S.1 a) ∧ ∀ k, k < 7 → S'.1 d k = S.1 d k
theorem rnK.C {d : Nat} {S S' : St} (a : rnK d S S') : chg d (d + 3) S S' := fun b hb => ⟨a.2.1 b (by omega) (by omega), by rw [a.1], by rw [a.1]⟩
theorem rnK.F {d x : Nat} {S S' : St} (a : rnK d S S') (h : rdF S d x) : rdF S' d x := by unfold rdF; rw [a.1]; exact h
theorem rnK.E {d : Nat} {S S' : St} {s : Ps} (a : rnK d S S') (h : prE S d s) : prE S' d s := ⟨fun k hk => by rw [a.2.1 _ (by omega) (by omega)]; exact h.1 k hk, by rw [a.1]; exact h.2.1, by rw [a.2.2 2 (by decide)]; exact h.2.2.1, by rw [a.2.2 3 (by decide)]; exact h.2.2.2⟩
theorem stK.E {d : Nat} {S S' : St} {s : Ps} (a : stK d S S') (h : prE S d s) : prE S' d s := ⟨fun k hk => by rw [a.2.1 _ (by omega)]; exact h.1 k hk, by rw [a.1]; exact h.2.1, by rw [a.2.2 2 (by decide) (by decide) (by decide)]; exact h.2.2.1, by rw [a.2.2 3 (by decide) (by decide) (by decide)]; exact h.2.2.2⟩
theorem stK.N {d : Nat} {S S' : St} {s : Ps} (a : stK d S S') (h : prN S d s) : prN S' d s := ⟨by rw [a.2.2 10 (by decide) (by decide) (by decide)]; exact h.1, fun n hn => by rw [a.2.1 _ (by omega)]; exact h.2 n hn⟩
theorem psT_ok {s : Ps} {w v at_ : Nat} {but : Option Nat} (h : psOk s) (ha : at_ < 1000) : psOk (psT s w v at_ but) := by
  refine ⟨fun a e => ?_, fun n a e => ?_⟩
  · have e : (if okV w v but then pBd s else match pBd s with
      | none => some at_
      | some q => some q) = some a := e
    split at e
    · exact h.1 a e
    · cases hb : pBd s with
      | none => rw [hb] at e; cases e; exact ha
      | some q => rw [hb] at e; cases e; exact h.1 _ hb
  · have e : (if w < 8 then pNm s else fun n => if n = v then (match pNm s n with
      | none => some at_
      | some q => some q) else pNm s n) n = some a := e
    split at e
    · exact h.2 n a e
    · dsimp only at e
      split at e
      · cases hb : pNm s n with
        | none => rw [hb] at e; cases e; exact ha
        | some q => rw [hb] at e; cases e; exact h.2 n _ hb
      · exact h.2 n a e
section CLS
variable {G : Gc} {S : St}
set_option maxRecDepth 100000 in
set_option maxHeartbeats 4000000 in
theorem l_X6_readNumber {E : Ev} (hB : Bd G E mX6_readNumber) {Q : Option Value → St → Prop} (d x : Nat) (hL : RdLay G d) (hX : TxLay G x) (hdx : x + 2 ≤ d ∨ d + 3 ≤ x) (B : List Nat) (hF : rdF S d x) (hT : txC S x B) (p w : Nat) (bt : Option Nat) (hpl : p ≤ B.length) (hQ : tkQ S d B p) (h3 : tkK B p = 3) (kk : X G E mX6_readNumber 2 Q S 60 [some (.ref d), some (.int (nI w)), some (.int (butV bt)), some (.int (nI (tkV B p))), some (.int (nI (tkE B p))), none, none, none] []) :
    ∀ (j i : Nat), i + j = (tkE B p) → (tkB B p) ≤ i → X G E mX6_readNumber 2 Q S 27 [some (.ref d), some (.int (nI w)), some (.int (butV bt)), some (.int (nI (numV (sub B (tkB B p) i)))), some (.int (nI i)), none, none, none] [] := by
  have h4 := hT.2.2.1
  obtain ⟨k1, k2, k3⟩ := tkK3 h3
  have hge := tkE_gt (B := B) (p := p) (by omega)
  have hle : (tkE B p) ≤ B.length := tkE_le hpl
  have hin : ∀ i, (tkB B p) ≤ i → i < (tkE B p) → i < B.length ∧ isDg (B.getD i 0) = true := fun i a c => runE_in B.length (tkB B p) (by omega) i a (by rw [← k2]; exact c)
  intro j
  induction j with
  | zero =>
    intro i h1 h2
    have e9 : i = (tkE B p) := by omega
    subst e9
    refine X_iload hB dX6_readNumber_27 rfl ?_
    refine X_aload_n (i := 0) hB dX6_readNumber_29 rfl rfl ?_
    refine X_geti hB cw5 fX6_54 rfl hL.1.1 hL.1.2 dX6_readNumber_30 ?_
    refine X_topi (y := nI (tkE B p)) (hQ.2.2 (by omega)) ?_
    refine X_icmp_ge (tgt := 60) hB dX6_readNumber_33 (by decide) (fun c33 => ?_) (fun c33 => absurd c33 (by simp (disch := omega) only [nlit, nI_leI, nI_ltI]; omega))
    exact kk
  | succ j ih =>
    intro i h1 h2
    have hc := hin i h2 (by omega)
    have hdg := isDg_iff.mp hc.2
    have hnv := numV_lt (B := B) (b := (tkB B p)) (i - (tkB B p)) (by omega) (fun k a c => hin k a (by omega))
    rw [show (tkB B p) + (i - (tkB B p)) = i by omega] at hnv
    have hn10 : (numV (sub B (tkB B p) i)) < 100 := by
      rcases (show i - (tkB B p) = 0 ∨ i - (tkB B p) = 1 ∨ i - (tkB B p) = 2 by omega) with e | e | e <;> (rw [e] at hnv; omega)
    have hsn : (numV (sub B (tkB B p) (i + 1))) = 10 * (numV (sub B (tkB B p) i)) + (B.getD i 0 - 48) := by rw [sub_snoc h2 hc.1, numV_snoc]
    refine X_iload hB dX6_readNumber_27 rfl ?_
    refine X_aload_n (i := 0) hB dX6_readNumber_29 rfl rfl ?_
    refine X_geti hB cw5 fX6_54 rfl hL.1.1 hL.1.2 dX6_readNumber_30 ?_
    refine X_topi (y := nI (tkE B p)) (hQ.2.2 (by omega)) ?_
    refine X_icmp_ge (tgt := 60) hB dX6_readNumber_33 (by decide) (fun c33 => absurd c33 (by simp (disch := omega) only [nlit, nI_leI, nI_ltI]; omega)) (fun c33 => ?_)
    refine X_bipush (v := 10) hB dX6_readNumber_36 (by decide) ?_
    refine X_iload_n (i := 3) hB dX6_readNumber_38 rfl rfl ?_
    refine X_imul hB dX6_readNumber_39 ?_
    refine X_aload_n (i := 0) hB dX6_readNumber_40 rfl rfl ?_
    refine X_getr hB cw5 fX6_50 rfl hL.1.1 hL.1.2 hF.2.2 dX6_readNumber_41 ?_
    refine X_iload hB dX6_readNumber_44 rfl ?_
    refine X_callV hB kX6_75 cw7 hX.1.1 hX.1.2 (c_X9_byteAt x hX B hT i (by omega)) (by decide) (by decide) rfl rfl (Nat.le_of_ble_eq_true rfl) dX6_readNumber_46 (fun r46 S46 q46 => ?_)
    obtain ⟨rfl, rfl⟩ := q46
    refine X_topi (y := nI (B.getD i 0)) (by rw [chN, if_pos hc.1]) ?_
    refine X_iadd hB dX6_readNumber_49 ?_
    refine X_bipush (v := 48) hB dX6_readNumber_50 (by decide) ?_
    refine X_isub hB dX6_readNumber_52 ?_
    refine X_topi (y := nI (numV (sub B (tkB B p) (i + 1)))) (by rw [hsn, show (10 : Int32) = nI 10 from rfl, show (48 : Int32) = nI 48 from rfl, nI_mul, nI_add, nI_sub (by omega)]; congr 1; omega) ?_
    refine X_istore_n (i := 3) hB dX6_readNumber_53 rfl (by decide) rfl ?_
    refine X_iinc hB dX6_readNumber_54 rfl rfl (by decide) rfl ?_
    refine X_goto (tgt := 27) hB dX6_readNumber_57 (by decide) ?_
    refine X_dl [some (.ref d), some (.int (nI w)), some (.int (butV bt)), some (.int (nI (numV (sub B (tkB B p) (i + 1))))), some (.int (nI (i + 1))), none, none, none] ⟨rfl, rfl, rfl, rfl, by rw [nI_succ]; rfl, trivial⟩ (ih (i + 1) (by omega) (by omega))
set_option maxRecDepth 100000 in
set_option maxHeartbeats 4000000 in
theorem m_X6_readNumber {E : Ev} (hB : Bd G E mX6_readNumber) {Q : Option Value → St → Prop} (d x : Nat) (hL : RdLay G d) (hX : TxLay G x) (hdx : x + 2 ≤ d ∨ d + 3 ≤ x) (B : List Nat) (hF : rdF S d x) (hT : txC S x B) (p w : Nat) (bt : Option Nat) (hw : w < 11) (hpl : p ≤ B.length) (hQ : tkQ S d B p) (h3 : tkK B p = 3) (s : Ps) (hN : prN S d s) (hs : psOk s) (l1 l2 : Option Value) (kk : ∀ S1, rnK d S S1 → tkQ S1 d B (tkE B p) → prN S1 d (psT s w (tkV B p) (tkB B p) bt) → Q (some (.int (nI (tkV B p)))) S1) :
    X G E mX6_readNumber 2 Q S 134 [some (.ref d), some (.int (nI w)), some (.int (butV bt)), some (.int (nI (tkV B p))), some (.int (if w < 8 then 1 else 0)), l1, l2, some (.int (if okV w (tkV B p) bt then 0 else 1))] [] := by
  have h4 := hT.2.2.1
  have hv := tkV_lt hpl h3
  obtain ⟨k1, k2, k3⟩ := tkK3 h3
  have hge := tkE_gt (B := B) (p := p) (by omega)
  have hle : (tkE B p) ≤ B.length := tkE_le hpl
  have hb0 : pBd (psT s w (tkV B p) (tkB B p) bt) = if okV w (tkV B p) bt then pBd s else match pBd s with
    | none => some (tkB B p)
    | some q => some q := rfl
  have hn0 : ∀ n, pNm (psT s w (tkV B p) (tkB B p) bt) n = (if w < 8 then pNm s else fun n => if n = (tkV B p) then (match pNm s n with
    | none => some (tkB B p)
    | some q => some q) else pNm s n) n := fun n => rfl
  -- first where it can not be
  have hA : ∀ S1, (S1.2 = S.2 ∧ (∀ a, a ≠ d → S1.1 a = S.1 a) ∧ ∀ k, k ≠ 10 → S1.1 d k = S.1 d k) → S1.1 d 10 = akN (pBd (psT s w (tkV B p) (tkB B p) bt)) → X G E mX6_readNumber 2 Q S1 155 [some (.ref d), some (.int (nI w)), some (.int (butV bt)), some (.int (nI (tkV B p))), some (.int (if w < 8 then 1 else 0)), l1, l2, some (.int (if okV w (tkV B p) bt then 0 else 1))] [] := fun S1 h1 h10 => by
    have hF1 : rdF S1 d x := by unfold rdF; rw [h1.1]; exact hF
    have hT1 : txC S1 x B := hT.chg (lo := d) (hi := d + 1) (fun b hb => ⟨h1.2.1 b (by omega), by rw [h1.1], by rw [h1.1]⟩) (by omega)
    have hnm : ∀ n, n < 8 → S1.1 (d + 2) n = akN (pNm s n) := fun n hn => by rw [h1.2.1 _ (by omega)]; exact hN.2 n hn
    have hst : S1.1 d 8 = nI (tkB B p) := by rw [h1.2.2 8 (by decide)]; exact hQ.2.1
    have hB2 : ∀ S2, rnK d S S2 → S2.1 d 9 = nI (tkE B p) → prN S2 d (psT s w (tkV B p) (tkB B p) bt) → X G E mX6_readNumber 2 Q S2 186 [some (.ref d), some (.int (nI w)), some (.int (butV bt)), some (.int (nI (tkV B p))), some (.int (if w < 8 then 1 else 0)), l1, l2, some (.int (if okV w (tkV B p) bt then 0 else 1))] [] := fun S2 g1 g2 g3 => by
      have hF2 := g1.F hF
      have hT2 : txC S2 x B := hT.chg g1.C (by omega)
      refine X_aload_n (i := 0) hB dX6_readNumber_186 rfl rfl ?_
      refine X_callV hB kX6_57 cw5 hL.1.1 hL.1.2 (c_X6_step d x hL hX hdx B hF2 hT2 (tkE B p) g2 hle) (by decide) (by decide) rfl rfl (Nat.le_of_ble_eq_true rfl) dX6_readNumber_187 (fun r187 S187 q187 => ?_)
      obtain ⟨rfl, y1, y2⟩ := q187
      refine X_iload_n (i := 3) hB dX6_readNumber_190 rfl rfl ?_
      refine X_iret hB rfl dX6_readNumber_191 ?_
      exact kk S187 ⟨y1.1.trans g1.1, fun a a1 a2 => (y1.2.1 a a1).trans (g1.2.1 a a1 a2), fun k hk => (y1.2.2 k (by omega) (by omega) (by omega)).trans (g1.2.2 k hk)⟩ y2 (y1.N g3)
    have rn0 : rnK d S S1 := ⟨h1.1, fun a a1 _ => h1.2.1 a a1, fun k hk => h1.2.2 k (by omega)⟩
    have e9 : S1.1 d 9 = nI (tkE B p) := by rw [h1.2.2 9 (by decide)]; exact hQ.2.2 (by omega)
    by_cases hw8 : w < 8
    · rw [if_pos hw8]
      rw [if_pos hw8] at hB2
      refine X_iload hB dX6_readNumber_155 rfl ?_
      refine X_if_ne (tgt := 186) hB dX6_readNumber_157 (by decide) (fun c157 => ?_) (fun c157 => absurd c157 (by decide))
      exact hB2 S1 rn0 e9 ⟨h10, fun n hn => by rw [hn0, if_pos hw8]; exact hnm n hn⟩
    · rw [if_neg hw8]
      rw [if_neg hw8] at hB2
      have hnv : ∀ n, pNm (psT s w (tkV B p) (tkB B p) bt) n = if n = (tkV B p) then (match pNm s n with
        | none => some (tkB B p)
        | some q => some q) else pNm s n := fun n => by rw [hn0, if_neg hw8]
      refine X_iload hB dX6_readNumber_155 rfl ?_
      refine X_if_ne (tgt := 186) hB dX6_readNumber_157 (by decide) (fun c157 => absurd rfl c157) (fun c157 => ?_)
      refine X_iload_n (i := 3) hB dX6_readNumber_160 rfl rfl ?_
      refine X_bipush (v := 8) hB dX6_readNumber_161 (by decide) ?_
      refine X_icmp_ge (tgt := 186) hB dX6_readNumber_163 (by decide) (fun c163 => ?_) (fun c163 => ?_)
      · refine hB2 S1 rn0 e9 ⟨h10, fun n hn => ?_⟩
        rw [hnv, if_neg (fun z => ?_)]; (exact hnm n hn)
        rw [show (8 : Int32) = nI 8 from rfl, nI_leI (by omega) (by omega)] at c163
        omega
      · have e163 : (tkV B p) < 8 := by
          rw [show (8 : Int32) = nI 8 from rfl, nI_leI (by omega) (by omega)] at c163
          omega
        refine X_aload_n (i := 0) hB dX6_readNumber_166 rfl rfl ?_
        refine X_getr hB cw5 fX6_15 rfl hL.1.1 hL.1.2 hF1.2.1 dX6_readNumber_167 ?_
        refine X_iload_n (i := 3) hB dX6_readNumber_170 rfl rfl ?_
        refine X_ialdN hB ((tkV B p)) hL.2.2.1 hL.2.2.2 (by decide) rfl (by omega) (hnm (tkV B p) e163) dX6_readNumber_171 ?_
        refine X_iconst (v := (-1)) hB dX6_readNumber_172 (by decide) ?_
        refine X_icmp_ne (tgt := 186) hB dX6_readNumber_173 (by decide) (fun c173 => ?_) (fun c173 => ?_)
        · refine hB2 S1 rn0 e9 ⟨h10, fun n hn => ?_⟩
          rw [hnv]
          by_cases z : n = (tkV B p)
          · rw [if_pos z, z]
            have : pNm s (tkV B p) ≠ none := fun y => c173 (by rw [y]; rfl)
            rw [hnm (tkV B p) e163]
            cases hz : pNm s (tkV B p) with
            | none => exact absurd hz this
            | some q => rfl
          · rw [if_neg z]; exact hnm n hn
        · have e173 : pNm s (tkV B p) = none := (akN_m1 (hs.2 _)).mp c173
          refine X_aload_n (i := 0) hB dX6_readNumber_176 rfl rfl ?_
          refine X_getr hB cw5 fX6_15 rfl hL.1.1 hL.1.2 hF1.2.1 dX6_readNumber_177 ?_
          refine X_iload_n (i := 3) hB dX6_readNumber_180 rfl rfl ?_
          refine X_aload_n (i := 0) hB dX6_readNumber_181 rfl rfl ?_
          refine X_geti hB cw5 fX6_72 rfl hL.1.1 hL.1.2 dX6_readNumber_182 ?_
          refine X_topi (y := nI (tkB B p)) (hst) ?_
          refine X_iastN hB ((tkV B p)) hL.2.2.1 hL.2.2.2 (by decide) rfl (by omega) dX6_readNumber_185 ?_
          refine hB2 _ ⟨h1.1, fun a a1 a2 => (setI_row _ _ _ a2).trans (h1.2.1 a a1), fun k hk => (setI_ne _ _ (Or.inl (by omega))).trans (h1.2.2 k (by omega))⟩ ((setI_ne _ _ (Or.inl (by omega))).trans e9) ⟨(setI_ne _ _ (Or.inl (by omega))).trans h10, fun n hn => ?_⟩
          rw [hnv]
          by_cases z : n = (tkV B p)
          · rw [if_pos z, z, setI_at, e173]; rfl
          · rw [if_neg z, setI_ne _ _ (Or.inr z)]; exact hnm n hn
  by_cases hok : okV w (tkV B p) bt = true
  · rw [if_pos hok] at hb0
    rw [if_pos hok] at hA ⊢
    refine X_iload hB dX6_readNumber_134 rfl ?_
    refine X_if_eq (tgt := 155) hB dX6_readNumber_136 (by decide) (fun c136 => ?_) (fun c136 => absurd c136 (by decide))
    exact hA S ⟨rfl, fun _ _ => rfl, fun _ _ => rfl⟩ (by rw [hb0]; exact hN.1)
  · rw [if_neg hok] at hb0
    rw [if_neg hok] at hA ⊢
    refine X_iload hB dX6_readNumber_134 rfl ?_
    refine X_if_eq (tgt := 155) hB dX6_readNumber_136 (by decide) (fun c136 => absurd c136 (by decide)) (fun c136 => ?_)
    refine X_aload_n (i := 0) hB dX6_readNumber_139 rfl rfl ?_
    refine X_geti hB cw5 fX6_44 rfl hL.1.1 hL.1.2 dX6_readNumber_140 ?_
    refine X_topi (y := akN (pBd s)) (hN.1) ?_
    refine X_iconst (v := (-1)) hB dX6_readNumber_143 (by decide) ?_
    refine X_icmp_ne (tgt := 155) hB dX6_readNumber_144 (by decide) (fun c144 => ?_) (fun c144 => ?_)
    · have e144 : pBd s ≠ none := fun y => c144 (by rw [y]; rfl)
      refine hA S ⟨rfl, fun _ _ => rfl, fun _ _ => rfl⟩ ?_
      rw [hb0, hN.1]
      cases hz : pBd s with
      | none => exact absurd hz e144
      | some q => rfl
    · refine X_aload_n (i := 0) hB dX6_readNumber_147 rfl rfl ?_
      refine X_aload_n (i := 0) hB dX6_readNumber_148 rfl rfl ?_
      refine X_geti hB cw5 fX6_72 rfl hL.1.1 hL.1.2 dX6_readNumber_149 ?_
      refine X_topi (y := nI (tkB B p)) (hQ.2.1) ?_
      refine X_puti hB cw5 fX6_44 rfl rfl hL.1.1 hL.1.2 dX6_readNumber_152 ?_
      have e144 : pBd s = none := (akN_m1 hs.1).mp c144
      refine hA _ ⟨rfl, fun a ha => setI_row _ _ _ ha, fun k hk => setI_ne _ _ (Or.inr hk)⟩ ?_
      rw [hb0, setI_at, e144]; rfl
set_option maxRecDepth 100000 in
set_option maxHeartbeats 4000000 in
theorem c_X6_readNumber {tL tM : Nat} (hZL : ∀ U, gZ G U → zT G "LEAST" tL aL U) (hZM : ∀ U, gZ G U → zT G "MOST" tM aM U) (d x : Nat) (hL : RdLay G d) (hX : TxLay G x) (hdx : x + 2 ≤ d ∨ d + 3 ≤ x) (B : List Nat) (hF : rdF S d x) (hT : txC S x B) (p w : Nat) (bt : Option Nat) (hbt : ∀ b, bt = some b → b < 1000) (hw : w < 11) (hpl : p ≤ B.length) (hQ : tkQ S d B p) (s : Ps) (hN : prN S d s) (hs : psOk s) : C G mX6_readNumber 2 [.ref d, .int (nI w), .int (butV bt)] S (fun r S' => if tkK B p = 3 then r = some (.int (nI (tkV B p))) ∧ rnK d S S' ∧ tkQ S' d B (tkE B p) ∧ prN S' d (psT s w (tkV B p) (tkB B p) bt) else r = some (.int (-1)) ∧ S' = setI (setI S d 4 1) d 5 (nI (tkB B p))) := by
  have h4 := hT.2.2.1
  have hkd : S.1 d 7 = nI (kdC (tkK B p)) := hQ.1
  have hk1 : kdC (tkK B p) = 1 ↔ tkK B p = 3 := by
    unfold kdC
    by_cases a : tkK B p = 0
    · rw [if_pos a]; omega
    · rw [if_neg a]
      by_cases b : tkK B p = 2
      · rw [if_pos b]; omega
      · rw [if_neg b]
        by_cases c : tkK B p = 3
        · rw [if_pos c]; omega
        · rw [if_neg c]; split <;> omega
  have hkl : kdC (tkK B p) ≤ 4 := by unfold kdC; repeat' split
                                     all_goals omega
  refine C.mk (lv := [some (.ref d), some (.int (nI w)), some (.int (butV bt)), none, none, none, none, none]) (by decide) (Nat.le_of_ble_eq_true rfl) rfl (fun E hB => ?_)
  refine X_aload_n (i := 0) hB dX6_readNumber_0 rfl rfl ?_
  refine X_geti hB cw5 fX6_62 rfl hL.1.1 hL.1.2 dX6_readNumber_1 ?_
  refine X_topi (y := nI (kdC (tkK B p))) (hkd) ?_
  refine X_iconst (v := 1) hB dX6_readNumber_4 (by decide) ?_
  refine X_icmp_eq (tgt := 19) hB dX6_readNumber_5 (by decide) (fun c5 => ?_) (fun c5 => ?_)
  · have h3 : tkK B p = 3 := hk1.mp ((nI_eq (b := 1) (by omega) (by omega)).mp c5)
    refine X_iconst (v := 0) hB dX6_readNumber_19 (by decide) ?_
    refine X_istore_n (i := 3) hB dX6_readNumber_20 rfl (by decide) rfl ?_
    refine X_aload_n (i := 0) hB dX6_readNumber_21 rfl rfl ?_
    refine X_geti hB cw5 fX6_72 rfl hL.1.1 hL.1.2 dX6_readNumber_22 ?_
    refine X_topi (y := nI (tkB B p)) (hQ.2.1) ?_
    refine X_istore hB dX6_readNumber_25 (by decide) rfl ?_
    simp only [if_pos h3]
    have hv := tkV_lt hpl h3
    have hgt := tkE_gt (B := B) (p := p) (by omega)
    have hhi := hi_le w hw
    refine X_dl [some (.ref d), some (.int (nI w)), some (.int (butV bt)), some (.int (nI (numV (sub B (tkB B p) (tkB B p))))), some (.int (nI (tkB B p))), none, none, none] ⟨rfl, rfl, rfl, by rw [sub_nil]; rfl, rfl, trivial⟩ (l_X6_readNumber hB d x hL hX hdx B hF hT p w bt hpl hQ h3 ?_ ((tkE B p) - (tkB B p)) (tkB B p) (by omega) (Nat.le_refl _))
    have hend : ∀ l1 l2 : Option Value, X G E mX6_readNumber 2 (fun r S' => r = some (.int (nI (tkV B p))) ∧ rnK d S S' ∧ tkQ S' d B (tkE B p) ∧ prN S' d (psT s w (tkV B p) (tkB B p) bt)) S 134 [some (.ref d), some (.int (nI w)), some (.int (butV bt)), some (.int (nI (tkV B p))), some (.int (if w < 8 then 1 else 0)), l1, l2, some (.int (if okV w (tkV B p) bt then 0 else 1))] [] := fun l1 l2 => m_X6_readNumber hB d x hL hX hdx B hF hT p w bt hw hpl hQ h3 s hN hs l1 l2 (fun S1 g1 g2 g3 => ⟨rfl, g1, g2, g3⟩)
    have hcmp : X G E mX6_readNumber 2 (fun r S' => r = some (.int (nI (tkV B p))) ∧ rnK d S S' ∧ tkQ S' d B (tkE B p) ∧ prN S' d (psT s w (tkV B p) (tkB B p) bt)) S 110 [some (.ref d), some (.int (nI w)), some (.int (butV bt)), some (.int (nI (tkV B p))), some (.int (if w < 8 then 1 else 0)), some (.int (nI (loW w))), some (.int (nI (hiW w))), none] [] := by
      refine X_iload_n (i := 3) hB dX6_readNumber_110 rfl rfl ?_
      refine X_iload hB dX6_readNumber_111 rfl ?_
      refine X_icmp_lt (tgt := 127) hB dX6_readNumber_113 (by decide) (fun c113 => ?_) (fun c113 => ?_)
      · refine X_iconst (v := 1) hB dX6_readNumber_127 (by decide) ?_
        refine X_goto (tgt := 132) hB dX6_readNumber_128 (by decide) ?_
        refine X_istore hB dX6_readNumber_132 (by decide) rfl ?_
        refine X_dl [some (.ref d), some (.int (nI w)), some (.int (butV bt)), some (.int (nI (tkV B p))), some (.int (if w < 8 then 1 else 0)), some (.int (nI (loW w))), some (.int (nI (hiW w))), some (.int (if okV w (tkV B p) bt then 0 else 1))] ⟨rfl, rfl, rfl, rfl, rfl, rfl, rfl, ?_, trivial⟩ (hend _ _)
        have hok : okV w (tkV B p) bt = false := by
          unfold okV
          rw [nI_ltI (by omega) (by omega)] at c113
          rw [decide_eq_false (p := loW w ≤ _) (by omega), Bool.false_and, Bool.false_and]
        rw [hok]; rfl
      · refine X_iload_n (i := 3) hB dX6_readNumber_116 rfl rfl ?_
        refine X_iload hB dX6_readNumber_117 rfl ?_
        refine X_icmp_gt (tgt := 127) hB dX6_readNumber_119 (by decide) (fun c119 => ?_) (fun c119 => ?_)
        · refine X_iconst (v := 1) hB dX6_readNumber_127 (by decide) ?_
          refine X_goto (tgt := 132) hB dX6_readNumber_128 (by decide) ?_
          refine X_istore hB dX6_readNumber_132 (by decide) rfl ?_
          refine X_dl [some (.ref d), some (.int (nI w)), some (.int (butV bt)), some (.int (nI (tkV B p))), some (.int (if w < 8 then 1 else 0)), some (.int (nI (loW w))), some (.int (nI (hiW w))), some (.int (if okV w (tkV B p) bt then 0 else 1))] ⟨rfl, rfl, rfl, rfl, rfl, rfl, rfl, ?_, trivial⟩ (hend _ _)
          have hok : okV w (tkV B p) bt = false := by
            unfold okV
            rw [nI_ltI (by omega) (by omega)] at c119
            rw [decide_eq_false (p := _ ≤ hiW w) (by omega), Bool.and_false, Bool.false_and]
          rw [hok]; rfl
        · refine X_iload_n (i := 3) hB dX6_readNumber_122 rfl rfl ?_
          refine X_iload_n (i := 2) hB dX6_readNumber_123 rfl rfl ?_
          refine X_icmp_ne (tgt := 131) hB dX6_readNumber_124 (by decide) (fun c124 => ?_) (fun c124 => ?_)
          · refine X_iconst (v := 0) hB dX6_readNumber_131 (by decide) ?_
            refine X_istore hB dX6_readNumber_132 (by decide) rfl ?_
            refine X_dl [some (.ref d), some (.int (nI w)), some (.int (butV bt)), some (.int (nI (tkV B p))), some (.int (if w < 8 then 1 else 0)), some (.int (nI (loW w))), some (.int (nI (hiW w))), some (.int (if okV w (tkV B p) bt then 0 else 1))] ⟨rfl, rfl, rfl, rfl, rfl, rfl, rfl, ?_, trivial⟩ (hend _ _)
            have hok : okV w (tkV B p) bt = true := by
              rw [nI_ltI (by omega) (by omega)] at c113
              rw [nI_ltI (by omega) (by omega)] at c119
              unfold okV
              rw [decide_eq_true (by omega), decide_eq_true (by omega), decide_eq_true]; (rfl)
              intro z
              rw [z] at c124
              exact c124 rfl
            rw [if_pos hok]
          · refine X_iconst (v := 1) hB dX6_readNumber_127 (by decide) ?_
            refine X_goto (tgt := 132) hB dX6_readNumber_128 (by decide) ?_
            refine X_istore hB dX6_readNumber_132 (by decide) rfl ?_
            refine X_dl [some (.ref d), some (.int (nI w)), some (.int (butV bt)), some (.int (nI (tkV B p))), some (.int (if w < 8 then 1 else 0)), some (.int (nI (loW w))), some (.int (nI (hiW w))), some (.int (if okV w (tkV B p) bt then 0 else 1))] ⟨rfl, rfl, rfl, rfl, rfl, rfl, rfl, ?_, trivial⟩ (hend _ _)
            have hok : okV w (tkV B p) bt = false := by
              unfold okV
              have hz : bt = some (tkV B p) := by
                cases hb : bt with
                | none => rw [hb] at c124; exact absurd c124 (nI_neg1 (by omega))
                | some b =>
                  rw [hb] at c124
                  have := hbt b hb
                  rw [(nI_eq (by omega) (by omega)).mp c124]
              rw [decide_eq_false (not_not_intro hz), Bool.and_false]
            rw [hok]; rfl
    by_cases hw8 : w < 8
    · have hlo := lo_at w hw8
      rw [if_pos hw8] at hcmp
      refine X_iload_n (i := 1) hB dX6_readNumber_60 rfl rfl ?_
      refine X_if_lt (tgt := 74) hB dX6_readNumber_61 (by decide) (fun c61 => absurd c61 (nI_pos (by omega))) (fun c61 => ?_)
      refine X_iload_n (i := 1) hB dX6_readNumber_64 rfl rfl ?_
      refine X_bipush (v := 8) hB dX6_readNumber_65 (by decide) ?_
      refine X_icmp_ge (tgt := 74) hB dX6_readNumber_67 (by decide) (fun c67 => absurd c67 (by simp (disch := omega) only [nlit, nI_leI, nI_ltI]; omega)) (fun c67 => ?_)
      refine X_iconst (v := 1) hB dX6_readNumber_70 (by decide) ?_
      refine X_goto (tgt := 75) hB dX6_readNumber_71 (by decide) ?_
      refine X_istore hB dX6_readNumber_75 (by decide) rfl ?_
      refine X_iload hB dX6_readNumber_77 rfl ?_
      refine X_if_eq (tgt := 90) hB dX6_readNumber_79 (by decide) (fun c79 => absurd c79 (by decide)) (fun c79 => ?_)
      refine X_gets hB (hZL _ hB.2.2.2.2.2.2.2.2.2.1).1 zX6_109 dX6_readNumber_82 ?_
      refine X_iload_n (i := 1) hB dX6_readNumber_85 rfl rfl ?_
      refine X_ti (j := w) hB (hZL _ hB.2.2.2.2.2.2.2.2.2.1).2 rfl hw8 (by decide) dX6_readNumber_86 ?_
      refine X_topi (y := nI (loW w)) (by rw [hlo.1]) ?_
      refine X_goto (tgt := 91) hB dX6_readNumber_87 (by decide) ?_
      refine X_istore hB dX6_readNumber_91 (by decide) rfl ?_
      refine X_iload hB dX6_readNumber_93 rfl ?_
      refine X_if_eq (tgt := 106) hB dX6_readNumber_95 (by decide) (fun c95 => absurd c95 (by decide)) (fun c95 => ?_)
      refine X_gets hB (hZM _ hB.2.2.2.2.2.2.2.2.2.1).1 zX6_112 dX6_readNumber_98 ?_
      refine X_iload_n (i := 1) hB dX6_readNumber_101 rfl rfl ?_
      refine X_ti (j := w) hB (hZM _ hB.2.2.2.2.2.2.2.2.2.1).2 rfl hw8 (by decide) dX6_readNumber_102 ?_
      refine X_topi (y := nI (hiW w)) (by rw [hlo.2]) ?_
      refine X_goto (tgt := 108) hB dX6_readNumber_103 (by decide) ?_
      refine X_istore hB dX6_readNumber_108 (by decide) rfl ?_
      exact X_dl [some (.ref d), some (.int (nI w)), some (.int (butV bt)), some (.int (nI (tkV B p))), some (.int 1), some (.int (nI (loW w))), some (.int (nI (hiW w))), none] ⟨rfl, rfl, rfl, rfl, rfl, rfl, rfl, trivial⟩ hcmp
    · obtain ⟨hl0, hh7⟩ := hhi.2.2 (by omega)
      rw [if_neg hw8] at hcmp
      refine X_iload_n (i := 1) hB dX6_readNumber_60 rfl rfl ?_
      refine X_if_lt (tgt := 74) hB dX6_readNumber_61 (by decide) (fun c61 => absurd c61 (nI_pos (by omega))) (fun c61 => ?_)
      refine X_iload_n (i := 1) hB dX6_readNumber_64 rfl rfl ?_
      refine X_bipush (v := 8) hB dX6_readNumber_65 (by decide) ?_
      refine X_icmp_ge (tgt := 74) hB dX6_readNumber_67 (by decide) (fun c67 => ?_) (fun c67 => absurd c67 (by simp (disch := omega) only [nlit, nI_leI, nI_ltI]; omega))
      refine X_iconst (v := 0) hB dX6_readNumber_74 (by decide) ?_
      refine X_istore hB dX6_readNumber_75 (by decide) rfl ?_
      refine X_iload hB dX6_readNumber_77 rfl ?_
      refine X_if_eq (tgt := 90) hB dX6_readNumber_79 (by decide) (fun c79 => ?_) (fun c79 => absurd rfl c79)
      refine X_iconst (v := 0) hB dX6_readNumber_90 (by decide) ?_
      refine X_istore hB dX6_readNumber_91 (by decide) rfl ?_
      refine X_iload hB dX6_readNumber_93 rfl ?_
      refine X_if_eq (tgt := 106) hB dX6_readNumber_95 (by decide) (fun c95 => ?_) (fun c95 => absurd rfl c95)
      refine X_bipush (v := 7) hB dX6_readNumber_106 (by decide) ?_
      refine X_istore hB dX6_readNumber_108 (by decide) rfl ?_
      exact X_dl [some (.ref d), some (.int (nI w)), some (.int (butV bt)), some (.int (nI (tkV B p))), some (.int 0), some (.int (nI (loW w))), some (.int (nI (hiW w))), none] ⟨rfl, rfl, rfl, rfl, rfl, by rw [hl0]; rfl, by rw [hh7]; rfl, trivial⟩ hcmp
  · have h3 : ¬ tkK B p = 3 := fun z => c5 (by rw [hk1.mpr z]; rfl)
    refine X_aload_n (i := 0) hB dX6_readNumber_8 rfl rfl ?_
    refine X_iconst (v := 1) hB dX6_readNumber_9 (by decide) ?_
    refine X_aload_n (i := 0) hB dX6_readNumber_10 rfl rfl ?_
    refine X_geti hB cw5 fX6_72 rfl hL.1.1 hL.1.2 dX6_readNumber_11 ?_
    refine X_topi (y := nI (tkB B p)) (hQ.2.1) ?_
    refine X_callV hB kX6_68 cw5 hL.1.1 hL.1.2 (c_X6_fail d hL 1 (nI (tkB B p))) (by decide) (by decide) rfl rfl (Nat.le_of_ble_eq_true rfl) dX6_readNumber_14 (fun r14 S14 q14 => ?_)
    obtain ⟨rfl, rfl⟩ := q14
    refine X_iconst (v := (-1)) hB dX6_readNumber_17 (by decide) ?_
    refine X_iret hB rfl dX6_readNumber_18 ?_
    rw [if_neg h3]
    exact ⟨rfl, rfl⟩
end CLS
