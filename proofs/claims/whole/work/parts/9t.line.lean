/-! the reference: a line -/
def trE (S : St) (h : Nat) (s : Ps) : Prop := (∀ n, n < 8 → S.1 (h + 6) n = akN (pNm s n)) ∧ (∀ k, k < 8 → S.1 (h + 4) k = nI (pSe s k)) ∧ (∀ a b, a < 8 → b < 8 → S.1 (h + 5) (8 * a + b) = if pUp s a b then 1 else 0) ∧ S.1 h 16 = nI (bts (pMp s) 8) ∧ S.1 h 17 = nI (bts (pDf s) 8)
def trC (S : St) (h : Nat) : Prop := ∃ c, 2 ≤ c ∧ c ≤ 8 ∧ S.1 (h + 4) 0 = nI c
def trR (S : St) (h : Nat) (s : Ps) : Prop := S.1 h 11 = akN (pBd s) ∧ trC S h ∧ (pBd s = none → trE S h s)
theorem trC.fr {S S' : St} {h : Nat} {rows flds : List Nat} (hc : trC S h) (a : frT h rows flds S S') (h4 : h + 4 ∉ rows) : trC S' h := by
  obtain ⟨c, g1, g2, g3⟩ := hc
  exact ⟨c, g1, g2, by rw [a.2.2.1 _ h4 (by omega)]; exact g3⟩
theorem trR.fr {S S' : St} {h : Nat} {rows flds : List Nat} {s : Ps} (hc : trR S h s) (a : frT h rows flds S S') (h4 : h + 4 ∉ rows) (h5 : h + 5 ∉ rows) (h6 : h + 6 ∉ rows) (k11 : 11 ∉ flds) (k16 : 16 ∉ flds) (k17 : 17 ∉ flds) : trR S' h s := by
  obtain ⟨g1, g2, g3⟩ := hc
  refine ⟨by rw [a.2.2.2 _ k11]; exact g1, g2.fr a h4, fun q => ?_⟩
  unfold trE
  rw [a.2.2.1 _ h4 (by omega), a.2.2.1 _ h5 (by omega), a.2.2.1 _ h6 (by omega), a.2.2.2 _ k16, a.2.2.2 _ k17]
  exact g3 q
theorem tokR.set {S : St} {h a k : Nat} {B : List Nat} {p : Nat} {v : Int32} (hQ : tokR S h B p) (hk : a ≠ h ∨ (k ≠ 4 ∧ k ≠ 6 ∧ k ≠ 7 ∧ k ≠ 8)) : tokR (setI S a k v) h B p := by
  obtain ⟨g1, g2, g3, g4, g5⟩ := hQ
  exact ⟨by rw [setI_ne _ _ (by omega)]; exact g1, by rw [setI_ne _ _ (by omega)]; exact g2, by rw [setI_ne _ _ (by omega)]; exact g3, fun q => by rw [setI_ne _ _ (by omega)]; exact g4 q, g5⟩
theorem ok_iff {B : List Nat} {p w : Nat} {bt : Int32} {but : Option Nat} (hb : nI (tkV B p) ≠ bt ↔ but ≠ some (tkV B p)) : okT B p (loW w) (hiW w) bt ↔ okV w (tkV B p) but = true := by
  unfold okV
  rw [Bool.and_eq_true, Bool.and_eq_true, decide_eq_true_eq, decide_eq_true_eq, decide_eq_true_eq, ← hb]
  exact ⟨fun q => ⟨⟨q.1, q.2.1⟩, q.2.2⟩, fun q => ⟨q.1.1, q.1.2, q.2⟩⟩
theorem no_but {v : Nat} (hv : v < 100) : nI v ≠ -1 ↔ (none : Option Nat) ≠ some v := ⟨fun _ z => (by cases z), fun _ => nI_neg1 (by omega)⟩
theorem bd_eq {B : List Nat} {p lo hi w : Nat} {bt : Int32} {but : Option Nat} {s : Ps} (hs : psOk s) (hok : pBd s = none → (okT B p lo hi bt ↔ okV w (tkV B p) but = true)) : bdT B p lo hi bt (akN (pBd s)) = akN (pBd (psT s w (tkV B p) (tkB B p) but)) := by
  unfold bdT
  show _ = akN (if okV w (tkV B p) but then pBd s else match pBd s with
    | none => some (tkB B p)
    | some q => some q)
  cases hb : pBd s with
  | some q =>
    have hq := hs.1 q hb
    have hn : ¬ akN (some q) = -1 := nI_neg1 (by omega)
    rw [if_neg hn]
    dsimp only
    split <;> split <;> rfl
  | none =>
    have h := hok hb
    by_cases c : okT B p lo hi bt
    · rw [if_pos c, if_pos (h.mp c)]
    · rw [if_neg c, if_neg (fun z => c (h.mpr z))]
      rfl
theorem nm_eq {A : Nat → Int32} {s : Ps} {w v at_ n : Nat} {but : Option Nat} (hs : psOk s) (hA : ∀ n, n < 8 → A n = akN (pNm s n)) (hw : ¬ w < 8) (hv : v < 8) (hn : n < 8) : (if n = v then (if A v = -1 then nI at_ else A v) else A n) = akN (pNm (psT s w v at_ but) n) := by
  show _ = akN ((if w < 8 then pNm s else fun n => if n = v then (match pNm s n with
    | none => some at_
    | some q => some q) else pNm s n) n)
  rw [if_neg hw]
  first | dsimp only | skip
  by_cases c : n = v
  · rw [if_pos c, if_pos c, hA v hv, c]
    cases hz : pNm s v with
    | none => rfl
    | some q =>
      have := hs.2 v q hz
      rw [if_neg (show ¬ akN (some q) = -1 from nI_neg1 (by omega))]
  · rw [if_neg c, if_neg c]; exact hA n hn
/-- a setting is told -/
theorem tr_se {S S1 : St} {h w P : Nat} {B : List Nat} {s : Ps} (hw : w < 8) (hT : trR S h s) (hs : psOk s) (hv : tkV B P < 100) (hf : frT h [] [4, 6, 7, 8, 11, 18] S S1) (hb : S1.1 h 11 = bdT B P (loW w) (hiW w) (-1) (S.1 h 11)) : trR (setI S1 (h + 4) w (nI (if okT B P (loW w) (hiW w) (-1) then tkV B P else loW w))) h (teS (psT s w (tkV B P) (tkB B P) none) w (tkV B P) 0) := by
  obtain ⟨g1, ⟨c, c1, c2, c3⟩, g3⟩ := hT
  have hok := @ok_iff B P w (-1) none (no_but hv)
  have e : teS (psT s w (tkV B P) (tkB B P) none) w (tkV B P) 0 = psSe (psT s w (tkV B P) (tkB B P) none) w (tkV B P) := if_pos hw
  have h4 : S1.1 (h + 4) = S.1 (h + 4) := hf.2.2.1 _ (by simp) (by omega)
  have hlw : 2 ≤ loW 0 ∧ hiW 0 ≤ 8 := by decide
  rw [e]
  refine ⟨?_, ?_, fun q => ?_⟩
  · rw [setI_ne _ _ (Or.inl (by omega)), hb, g1]
    exact bd_eq hs (fun _ => hok)
  · by_cases z : w = 0
    · subst z
      refine ⟨_, ?_, ?_, setI_at _ _ _ _⟩
      · split
        · rename_i o; have := o.1; omega
        · omega
      · split
        · rename_i o; have := o.2.1; omega
        · decide
    · exact ⟨c, c1, c2, by rw [setI_ne _ _ (Or.inr (by omega)), h4]; exact c3⟩
  · have q : pBd (psT s w (tkV B P) (tkB B P) none) = none := q
    obtain ⟨o, hb0⟩ := psT_bd q
    obtain ⟨y1, y2, y3, y4, y5⟩ := g3 hb0
    rw [if_pos (hok.mpr o)]
    refine ⟨fun n hn => ?_, fun k hk => ?_, fun a b ha hb => ?_, ?_, ?_⟩
    · rw [setI_row _ _ _ (by omega), hf.2.2.1 _ (by simp) (by omega), y1 n hn]
      show _ = akN ((if w < 8 then pNm s else _) n)
      rw [if_pos hw]
    · show _ = nI (updN (pSe s) w (tkV B P) k)
      by_cases z : k = w
      · subst z; rw [setI_at]; simp [updN]
      · rw [setI_ne _ _ (Or.inr z), h4, y2 k hk]; simp [updN, z]
    · rw [setI_row _ _ _ (by omega), hf.2.2.1 _ (by simp) (by omega)]; exact y3 a b ha hb
    · rw [setI_ne _ _ (Or.inl (by omega)), hf.2.2.2 _ (by simp)]; exact y4
    · rw [setI_ne _ _ (Or.inl (by omega)), hf.2.2.2 _ (by simp)]; exact y5
/-- a node is told -/
theorem tr_nd {S S1 : St} {h w P rd : Nat} {B : List Nat} {s : Ps} {bt : Int32} {but : Option Nat} (hw : ¬ w < 8) (hT : trR S h s) (hs : psOk s) (hf : frT h [h + 6] [4, 6, 7, 8, 11, 18] S S1) (hb : S1.1 h 11 = bdT B P 0 7 bt (S.1 h 11)) (hrd : (if okT B P 0 7 bt then tkV B P else 0) = rd) (hA : S1.1 (h + 6) = fun k => if k = rd then (if S.1 (h + 6) rd = -1 then nI (tkB B P) else S.1 (h + 6) rd) else S.1 (h + 6) k) (hbt : pBd s = none → (nI (tkV B P) ≠ bt ↔ but ≠ some (tkV B P))) : trR S1 h (psT s w (tkV B P) (tkB B P) but) ∧ (pBd (psT s w (tkV B P) (tkB B P) but) = none → rd = tkV B P ∧ tkV B P < 8) := by
  obtain ⟨g1, g2, g3⟩ := hT
  have hlw : loW w = 0 ∧ hiW w = 7 := by
    unfold loW hiW
    rw [if_neg (by omega), if_neg (by omega), if_neg hw, if_neg (by omega), if_neg (by omega), if_neg (by omega), if_neg (by omega), if_neg (by omega), if_neg (by omega), if_neg (by omega)]
    exact ⟨rfl, rfl⟩
  have hok : pBd s = none → (okT B P 0 7 bt ↔ okV w (tkV B P) but = true) := fun z => by
    have := @ok_iff B P w bt but (hbt z)
    rw [hlw.1, hlw.2] at this
    exact this
  have hrv : pBd (psT s w (tkV B P) (tkB B P) but) = none → rd = tkV B P ∧ tkV B P < 8 := fun q => by
    obtain ⟨o, hb0⟩ := psT_bd q
    have o' := (hok hb0).mpr o
    rw [if_pos o'] at hrd
    have := o'.2.1
    exact ⟨hrd.symm, by omega⟩
  refine ⟨⟨?_, g2.fr hf (by simp), fun q => ?_⟩, hrv⟩
  · rw [hb, g1]
    exact bd_eq hs hok
  · obtain ⟨o, hb0⟩ := psT_bd q
    obtain ⟨y1, y2, y3, y4, y5⟩ := g3 hb0
    obtain ⟨rfl, v8⟩ := hrv q
    refine ⟨fun n hn => ?_, fun k hk => ?_, fun a b ha hb => ?_, ?_, ?_⟩
    · rw [hA]
      exact nm_eq hs y1 hw v8 hn
    · rw [hf.2.2.1 _ (by simp) (by omega)]; exact y2 k hk
    · rw [hf.2.2.1 _ (by simp) (by omega)]; exact y3 a b ha hb
    · rw [hf.2.2.2 _ (by simp)]; exact y4
    · rw [hf.2.2.2 _ (by simp)]; exact y5
theorem tr_16 {S : St} {h : Nat} {s : Ps} {v : Int32} {f : Nat → Bool} (hT : trR S h s) (hv : pBd s = none → v = nI (bts f 8)) : trR (setI S h 16 v) h (s.1, s.2.1, f, s.2.2.2) := by
  obtain ⟨g1, ⟨c, c1, c2, c3⟩, g3⟩ := hT
  refine ⟨by rw [setI_ne _ _ (Or.inr (by decide))]; exact g1, ⟨c, c1, c2, by rw [setI_row _ _ _ (by omega)]; exact c3⟩, fun q => ?_⟩
  obtain ⟨y1, y2, y3, y4, y5⟩ := g3 q
  unfold trE
  rw [setI_row _ _ _ (by omega), setI_row _ _ _ (by omega), setI_row _ _ _ (by omega), setI_at, setI_ne _ _ (Or.inr (by decide))]
  exact ⟨y1, y2, y3, hv q, y5⟩
theorem tr_17 {S : St} {h : Nat} {s : Ps} {v : Int32} {f : Nat → Bool} (hT : trR S h s) (hv : pBd s = none → v = nI (bts f 8)) : trR (setI S h 17 v) h (s.1, s.2.1, s.2.2.1, f, s.2.2.2.2) := by
  obtain ⟨g1, ⟨c, c1, c2, c3⟩, g3⟩ := hT
  refine ⟨by rw [setI_ne _ _ (Or.inr (by decide))]; exact g1, ⟨c, c1, c2, by rw [setI_row _ _ _ (by omega)]; exact c3⟩, fun q => ?_⟩
  obtain ⟨y1, y2, y3, y4, y5⟩ := g3 q
  unfold trE
  rw [setI_row _ _ _ (by omega), setI_row _ _ _ (by omega), setI_row _ _ _ (by omega), setI_at, setI_ne _ _ (Or.inr (by decide))]
  exact ⟨y1, y2, y3, y4, hv q⟩
theorem tr_z6 {S : St} {h : Nat} {s : Ps} (hT : trR S h s) : trR (setI S h 16 (S.1 h 16 ||| 0)) h s := tr_16 hT (fun q => by rw [Int32.or_zero]; exact (hT.2.2 q).2.2.2.1)
theorem tr_z7 {S : St} {h : Nat} {s : Ps} (hT : trR S h s) : trR (setI S h 17 (S.1 h 17 ||| 0)) h s := tr_17 hT (fun q => by rw [Int32.or_zero]; exact (hT.2.2 q).2.2.2.2)
theorem tr_mp {S : St} {h a rd : Nat} {s : Ps} (hT : trR S h s) (hr : pBd s = none → rd = a ∧ a < 8) : trR (setI S h 16 (S.1 h 16 ||| (1 <<< (nI rd &&& 31)))) h (psMp s a) := tr_16 hT (fun q => by
  obtain ⟨rfl, h8⟩ := hr q
  rw [(hT.2.2 q).2.2.2.1, bts_set _ h8]
  refine congrArg nI (bts_congr (fun j _ => ?_))
  by_cases c : j = rd
  · simp [c]
  · simp [c])
theorem tr_df {S : St} {h a rd : Nat} {s : Ps} (hT : trR S h s) (hr : pBd s = none → rd = a ∧ a < 8) : trR (setI S h 17 (S.1 h 17 ||| (1 <<< (nI rd &&& 31)))) h (psDf s a) := tr_17 hT (fun q => by
  obtain ⟨rfl, h8⟩ := hr q
  rw [(hT.2.2 q).2.2.2.2, bts_set _ h8]
  refine congrArg nI (bts_congr (fun j _ => ?_))
  by_cases c : j = rd
  · simp [c]
  · simp [c])
theorem tr_up {S : St} {h a b r1 r2 : Nat} {s : Ps} (hT : trR S h s) (hr : pBd s = none → (r1 = a ∧ a < 8) ∧ (r2 = b ∧ b < 8)) : trR (setI (setI S (h + 5) (8 * r1 + r2) 1) (h + 5) (8 * r2 + r1) 1) h (psUp s a b) := by
  obtain ⟨g1, ⟨c, c1, c2, c3⟩, g3⟩ := hT
  refine ⟨by rw [setI_ne _ _ (Or.inl (by omega)), setI_ne _ _ (Or.inl (by omega))]; exact g1, ⟨c, c1, c2, by rw [setI_row _ _ _ (by omega), setI_row _ _ _ (by omega)]; exact c3⟩, fun q => ?_⟩
  obtain ⟨y1, y2, y3, y4, y5⟩ := g3 q
  obtain ⟨⟨rfl, h1⟩, ⟨rfl, h2⟩⟩ := hr q
  refine ⟨fun n hn => ?_, fun k hk => ?_, fun x y hx hy => ?_, ?_, ?_⟩
  · rw [setI_row _ _ _ (by omega), setI_row _ _ _ (by omega)]; exact y1 n hn
  · rw [setI_row _ _ _ (by omega), setI_row _ _ _ (by omega)]; exact y2 k hk
  · show _ = if (if (x = r1 ∧ y = r2) ∨ (x = r2 ∧ y = r1) then true else pUp s x y) = true then (1 : Int32) else 0
    by_cases z2 : x = r2 ∧ y = r1
    · obtain ⟨rfl, rfl⟩ := z2
      rw [setI_at, if_pos (Or.inr ⟨rfl, rfl⟩), if_pos rfl]
    · rw [setI_ne _ _ (Or.inr (by omega))]
      by_cases z1 : x = r1 ∧ y = r2
      · obtain ⟨rfl, rfl⟩ := z1
        rw [setI_at, if_pos (Or.inl ⟨rfl, rfl⟩), if_pos rfl]
      · rw [setI_ne _ _ (Or.inr (by omega)), if_neg (show ¬ ((x = r1 ∧ y = r2) ∨ (x = r2 ∧ y = r1)) by omega)]; exact y3 x y hx hy
  · rw [setI_ne _ _ (Or.inl (by omega)), setI_ne _ _ (Or.inl (by omega))]; exact y4
  · rw [setI_ne _ _ (Or.inl (by omega)), setI_ne _ _ (Or.inl (by omega))]; exact y5
def cl0 (B : List Nat) (p : Nat) (s : Ps) : Nat ⊕ (Nat × Ps) := match kwI (tkW B p) with
  | none => .inl (tkB B p)
  | some w => clS B w (tkE B p) s
theorem cl1_0 {B : List Nat} {p : Nat} {s : Ps} : cl1 B p s = match cl0 B p s with
    | .inl e => .inl e
    | .inr (q, s') => if tkK B q = 4 then .inr (tkE B q, s') else .inl (tkB B q) := by
  unfold cl1 cl0
  cases kwI (tkW B p) <;> rfl
def lnF : List Nat := [4, 6, 7, 8, 10, 11, 16, 17, 18]
def lnQ (S S' : St) (h : Nat) (B : List Nat) (r : Option Value) (c : Nat ⊕ (Nat × Ps)) : Prop := frT h [h + 4, h + 5, h + 6] lnF S S' ∧ trC S' h ∧ match c with
  | .inl e => r = some (.int 0) ∧ S'.1 h 10 = nI e
  | .inr (q, s') => r = some (.int 1) ∧ tokR S' h B q ∧ q ≤ B.length ∧ trR S' h s' ∧ psOk s'
theorem mF {f : List Nat} (h : f = [4, 6, 7, 8] ∨ f = [4, 6, 7, 8, 11, 18] ∨ f = [10] ∨ f = [16] ∨ f = [17]) : ∀ x, x ∈ f → x ∈ lnF := by
  rcases h with rfl | rfl | rfl | rfl | rfl <;> decide
theorem mR {h : Nat} {f : List Nat} (hf : f = [] ∨ f = [h + 6] ∨ f = [h + 4] ∨ f = [h + 5]) : ∀ x, x ∈ f → x ∈ [h + 4, h + 5, h + 6] := by
  rcases hf with rfl | rfl | rfl | rfl <;> simp
section REF
variable {G : Gc} {S : St} {h : Nat}
set_option maxRecDepth 100000 in
set_option maxHeartbeats 4000000 in
theorem c_line (hR : RLay G h) (hF : RRef S h) (B : List Nat) (hx : txtR S h B) (p : Nat) (hpl : p ≤ B.length) (hQ : tokR S h B p) (s : Ps) (hT : trR S h s) (hs : psOk s)  : C G mX12_line 4 [.ref h, .long (wd (tkW B p))] S (fun r S' => lnQ S S' h B r (cl0 B p s)) := by
  have h400 := hx.2.1
  have hl := tkW_c (p := p) hx.2.2.1
  have hle : tkE B p ≤ B.length := tkE_le hpl
  refine C.mk (lv := [some (.ref h), some (.long (wd (tkW B p))), none, none, none]) (by decide) (Nat.le_of_ble_eq_true rfl) rfl (fun E hB => ?_)
  refine X_lload_n (i := 1) hB dX12_line_0 rfl rfl ?_
  refine X_callS hB kX12_130 (c_settingBy _ hl) (by decide) (by decide) rfl rfl (Nat.le_of_ble_eq_true rfl) dX12_line_1 (fun r1 S1 q1 => ?_)
  obtain ⟨rfl, rfl⟩ := q1
  unfold cl0
  cases hk : kwI (tkW B p) with
  | none =>
    refine X_topi (y := -1) (by unfold stI; rw [hk]) ?_
    refine X_istore_n (i := 3) hB dX12_line_4 rfl (by decide) rfl ?_
    refine X_iload_n (i := 3) hB dX12_line_5 rfl rfl ?_
    refine X_iconst (v := (-1)) hB dX12_line_6 (by decide) ?_
    refine X_icmp_ne (tgt := 39) hB dX12_line_7 (by decide) (fun c7 => absurd rfl c7) (fun c7 => ?_)
    refine X_lload_n (i := 1) hB dX12_line_10 rfl rfl ?_
    refine X_ldc2 hB qX12_134 dX12_line_11 ?_
    refine X_lcmp hB dX12_line_14 ?_
    refine X_if_eq (tgt := 39) hB dX12_line_15 (by decide) (fun c15 => absurd ((kwc (k := 8) hl (by decide) (by decide +kernel)).mp c15) (kwI_none.mp hk 8 (by decide))) (fun c15 => ?_)
    refine X_lload_n (i := 1) hB dX12_line_18 rfl rfl ?_
    refine X_ldc2 hB qX12_136 dX12_line_19 ?_
    refine X_lcmp hB dX12_line_22 ?_
    refine X_if_eq (tgt := 39) hB dX12_line_23 (by decide) (fun c23 => absurd ((kwc (k := 9) hl (by decide) (by decide +kernel)).mp c23) (kwI_none.mp hk 9 (by decide))) (fun c23 => ?_)
    refine X_lload_n (i := 1) hB dX12_line_26 rfl rfl ?_
    refine X_ldc2 hB qX12_138 dX12_line_27 ?_
    refine X_lcmp hB dX12_line_30 ?_
    refine X_if_eq (tgt := 39) hB dX12_line_31 (by decide) (fun c31 => absurd ((kwc (k := 10) hl (by decide) (by decide +kernel)).mp c31) (kwI_none.mp hk 10 (by decide))) (fun c31 => ?_)
    refine X_aload_n (i := 0) hB dX12_line_34 rfl rfl ?_
    refine X_callV hB kX12_114 cw10 hR.1.1 hR.1.2 (c_fails hR hF) (by decide) (by decide) rfl rfl (Nat.le_of_ble_eq_true rfl) dX12_line_35 (fun r35 S35 q35 => ?_)
    obtain ⟨rfl, rfl⟩ := q35
    refine X_zret hB rfl (by first | exact Or.inl rfl | exact Or.inr rfl) dX12_line_38 ?_
    exact ⟨frT.fld (by decide), hT.2.1.fr (frT.fld (rows := []) (flds := [10]) (by simp)) (by simp), rfl, by rw [setI_at]; exact hQ.2.1⟩
  | some w =>
    dsimp only
    have w11 := (kwI_some.mp hk).1
    by_cases w8 : w < 8
    · refine X_topi (y := nI w) (by unfold stI; rw [hk]; exact if_pos w8) ?_
      refine X_istore_n (i := 3) hB dX12_line_4 rfl (by decide) rfl ?_
      have hlo9 : loW w < 100 := by unfold loW; (repeat' split) <;> omega
      have hhi9 : hiW w < 100 := by unfold hiW; (repeat' split) <;> omega
      refine X_iload_n (i := 3) hB dX12_line_5 rfl rfl ?_
      refine X_iconst (v := (-1)) hB dX12_line_6 (by decide) ?_
      refine X_icmp_ne (tgt := 39) hB dX12_line_7 (by decide) (fun c7 => ?_) (fun c7 => absurd c7 (nI_neg1 (by omega)))
      refine X_aload_n (i := 0) hB dX12_line_39 rfl rfl ?_
      refine X_callV hB kX12_124 cw10 hR.1.1 hR.1.2 (c_token hR hF B hx (tkE B p) hQ.1 hle) (by decide) (by decide) rfl rfl (Nat.le_of_ble_eq_true rfl) dX12_line_40 (fun r40 S40 q40 => ?_)
      obtain ⟨rfl, k1, k2⟩ := q40
      have hx1 := hx.fr k1 (by simp) (by simp)
      have hF1 := k1.ref hF
      have hT1 : trR S40 h s := hT.fr k1 (by simp) (by simp) (by simp) (by simp) (by simp) (by simp)
      have f1 : frT h [h + 4, h + 5, h + 6] lnF S S40 := k1.mono (mR (Or.inl rfl)) (mF (Or.inl rfl))
      refine X_iload_n (i := 3) hB dX12_line_43 rfl rfl ?_
      refine X_iconst (v := (-1)) hB dX12_line_44 (by decide) ?_
      refine X_icmp_eq (tgt := 78) hB dX12_line_45 (by decide) (fun c45 => absurd c45 (nI_neg1 (by omega))) (fun c45 => ?_)
      refine X_aload_n (i := 0) hB dX12_line_48 rfl rfl ?_
      refine X_iload_n (i := 3) hB dX12_line_49 rfl rfl ?_
      refine X_callS hB kX12_140 (c_leastOf w w8) (by decide) (by decide) rfl rfl (Nat.le_of_ble_eq_true rfl) dX12_line_50 (fun r50 S50 q50 => ?_)
      obtain ⟨rfl, rfl⟩ := q50
      refine X_iload_n (i := 3) hB dX12_line_53 rfl rfl ?_
      refine X_callS hB kX12_144 (c_mostOf w w8) (by decide) (by decide) rfl rfl (Nat.le_of_ble_eq_true rfl) dX12_line_54 (fun r54 S54 q54 => ?_)
      obtain ⟨rfl, rfl⟩ := q54
      refine X_iconst (v := (-1)) hB dX12_line_57 (by decide) ?_
      refine X_callV hB kX12_127 cw10 hR.1.1 hR.1.2 (c_takes hR hF1 B hx1 (tkE B p) hle k2 (loW w) (hiW w) hlo9 hhi9 (-1)) (by decide) (by decide) rfl rfl (Nat.le_of_ble_eq_true rfl) dX12_line_58 (fun r58 S58 q58 => ?_)
      by_cases e3 : tkK B (tkE B p) = 3
      · rw [if_pos e3] at q58
        obtain ⟨rfl, m1, m2, m3, m4⟩ := q58
        have hF2 := m1.ref hF1
        have hv9 := tkV_lt hle e3
        refine X_if_ne (tgt := 66) hB dX12_line_61 (by decide) (fun c61 => ?_) (fun c61 => absurd c61 (by decide))
        refine X_aload_n (i := 0) hB dX12_line_66 rfl rfl ?_
        refine X_getr hB cw10 fX12_21 rfl hR.1.1 hR.1.2 hF2.2.2.2.1 dX12_line_67 ?_
        refine X_iload_n (i := 3) hB dX12_line_70 rfl rfl ?_
        refine X_aload_n (i := 0) hB dX12_line_71 rfl rfl ?_
        refine X_geti hB cw10 fX12_118 rfl hR.1.1 hR.1.2 dX12_line_72 ?_
        refine X_topi (y := nI (if okT B (tkE B p) (loW w) (hiW w) (-1) then tkV B (tkE B p) else loW w)) (m3) ?_
        refine X_iastN hB (w) hR.2.2.2.2.1.1 hR.2.2.2.2.1.2 (by decide) rfl (by first | omega | (simp only []; omega)) dX12_line_75 ?_
        refine X_iconst (v := 1) hB dX12_line_76 (by decide) ?_
        refine X_zret hB rfl (by first | exact Or.inl rfl | exact Or.inr rfl) dX12_line_77 ?_
        rw [clS_one e3 (by omega)]
        have hN := tr_se (w := w) w8 hT1 hs hv9 m1 m4
        refine ⟨(f1.tr (m1.mono (mR (Or.inl rfl)) (mF (Or.inr (Or.inl rfl))))).tr (frT.set (by simp) (by omega)), hN.2.1, rfl, m2.set (Or.inl (by omega)), tkE_le hle, hN, ?_⟩
        have := teS_N (s := psT s w (tkV B (tkE B p)) (tkB B (tkE B p)) none) (w := w) (a := tkV B (tkE B p)) (b := 0)
        unfold psOk
        rw [this.1, this.2]
        exact psT_ok hs (by have := tkB_le hle; omega)
      · rw [if_neg e3] at q58
        obtain ⟨rfl, rfl⟩ := q58
        refine X_if_ne (tgt := 66) hB dX12_line_61 (by decide) (fun c61 => absurd rfl c61) (fun c61 => ?_)
        refine X_iconst (v := 0) hB dX12_line_64 (by decide) ?_
        refine X_zret hB rfl (by first | exact Or.inl rfl | exact Or.inr rfl) dX12_line_65 ?_
        have ec : clS B w (tkE B p) s = .inl (tkB B (tkE B p)) := by unfold clS; rw [if_pos e3]
        rw [ec]
        exact ⟨f1.tr (frT.fld (by decide)), hT1.2.1.fr (frT.fld (rows := []) (flds := [10]) (by simp)) (by simp), rfl, setI_at _ _ _ _⟩
    · refine X_topi (y := -1) (by unfold stI; rw [hk]; exact if_neg w8) ?_
      refine X_istore_n (i := 3) hB dX12_line_4 rfl (by decide) rfl ?_
      rcases (show w = 8 ∨ w = 9 ∨ w = 10 by omega) with rfl | rfl | rfl
      · refine X_iload_n (i := 3) hB dX12_line_5 rfl rfl ?_
        refine X_iconst (v := (-1)) hB dX12_line_6 (by decide) ?_
        refine X_icmp_ne (tgt := 39) hB dX12_line_7 (by decide) (fun c7 => absurd rfl c7) (fun c7 => ?_)
        refine X_lload_n (i := 1) hB dX12_line_10 rfl rfl ?_
        refine X_ldc2 hB qX12_134 dX12_line_11 ?_
        refine X_lcmp hB dX12_line_14 ?_
        refine X_if_eq (tgt := 39) hB dX12_line_15 (by decide) (fun c15 => ?_) (fun c15 => absurd ((kwc (k := 8) hl (by decide) (by decide +kernel)).mpr ((kw_ne (k := 8) hk (by decide)).mpr rfl)) c15)
        refine X_aload_n (i := 0) hB dX12_line_39 rfl rfl ?_
        refine X_callV hB kX12_124 cw10 hR.1.1 hR.1.2 (c_token hR hF B hx (tkE B p) hQ.1 hle) (by decide) (by decide) rfl rfl (Nat.le_of_ble_eq_true rfl) dX12_line_40 (fun r40 S40 q40 => ?_)
        obtain ⟨rfl, k1, k2⟩ := q40
        have hx1 := hx.fr k1 (by simp) (by simp)
        have hF1 := k1.ref hF
        have hT1 : trR S40 h s := hT.fr k1 (by simp) (by simp) (by simp) (by simp) (by simp) (by simp)
        have f1 : frT h [h + 4, h + 5, h + 6] lnF S S40 := k1.mono (mR (Or.inl rfl)) (mF (Or.inl rfl))
        refine X_iload_n (i := 3) hB dX12_line_43 rfl rfl ?_
        refine X_iconst (v := (-1)) hB dX12_line_44 (by decide) ?_
        refine X_icmp_eq (tgt := 78) hB dX12_line_45 (by decide) (fun c45 => ?_) (fun c45 => absurd rfl c45)
        refine X_aload_n (i := 0) hB dX12_line_78 rfl rfl ?_
        refine X_iconst (v := (-1)) hB dX12_line_79 (by decide) ?_
        refine X_callV hB kX12_147 cw10 hR.1.1 hR.1.2 (c_takesNode hR hF1 B hx1 (tkE B p) hle k2 (-1)) (by decide) (by decide) rfl rfl (Nat.le_of_ble_eq_true rfl) dX12_line_80 (fun r80 S80 q80 => ?_)
        by_cases e3 : tkK B (tkE B p) = 3
        · rw [if_pos e3] at q80
          obtain ⟨rfl, m1, m2, m3, m4, m5⟩ := q80
          have hF2 := m1.ref hF1
          have hv9 := tkV_lt hle e3
          have hr8 : (if okT B (tkE B p) 0 7 (-1) then tkV B (tkE B p) else 0) < 8 := by
            split
            · rename_i ok; have := ok.2.1; omega
            · omega
          generalize hrd : (if okT B (tkE B p) 0 7 (-1) then tkV B (tkE B p) else 0) = rd at m3 m5 hr8
          refine X_if_ne (tgt := 88) hB dX12_line_83 (by decide) (fun c83 => ?_) (fun c83 => absurd c83 (by decide))
          refine X_aload_n (i := 0) hB dX12_line_88 rfl rfl ?_
          refine X_geti hB cw10 fX12_118 rfl hR.1.1 hR.1.2 dX12_line_89 ?_
          refine X_topi (y := nI rd) (m3) ?_
          refine X_istore hB dX12_line_92 (by decide) rfl ?_
          refine X_aload_n (i := 0) hB dX12_line_94 rfl rfl ?_
          refine X_dup hB dX12_line_95 rfl ?_
          refine X_geti hB cw10 fX12_150 rfl hR.1.1 hR.1.2 dX12_line_96 ?_
          refine X_lload_n (i := 1) hB dX12_line_99 rfl rfl ?_
          refine X_ldc2 hB qX12_136 dX12_line_100 ?_
          refine X_lcmp hB dX12_line_103 ?_
          refine X_if_ne (tgt := 114) hB dX12_line_104 (by decide) (fun c104 => ?_) (fun c104 => absurd ((kw_ne (k := 9) hk (by decide)).mp ((kwc (k := 9) hl (by decide) (by decide +kernel)).mp c104)) (by decide))
          refine X_iconst (v := 0) hB dX12_line_114 (by decide) ?_
          refine X_ior hB dX12_line_115 ?_
          refine X_puti hB cw10 fX12_150 rfl rfl hR.1.1 hR.1.2 dX12_line_116 ?_
          refine X_aload_n (i := 0) hB dX12_line_119 rfl rfl ?_
          refine X_dup hB dX12_line_120 rfl ?_
          refine X_geti hB cw10 fX12_153 rfl hR.1.1 hR.1.2 dX12_line_121 ?_
          refine X_lload_n (i := 1) hB dX12_line_124 rfl rfl ?_
          refine X_ldc2 hB qX12_138 dX12_line_125 ?_
          refine X_lcmp hB dX12_line_128 ?_
          refine X_if_ne (tgt := 139) hB dX12_line_129 (by decide) (fun c129 => ?_) (fun c129 => absurd ((kw_ne (k := 10) hk (by decide)).mp ((kwc (k := 10) hl (by decide) (by decide +kernel)).mp c129)) (by decide))
          refine X_iconst (v := 0) hB dX12_line_139 (by decide) ?_
          refine X_ior hB dX12_line_140 ?_
          refine X_puti hB cw10 fX12_153 rfl rfl hR.1.1 hR.1.2 dX12_line_141 ?_
          have hN := tr_nd (w := 8) (but := none) (by decide) hT1 hs m1 m4 hrd m5 (fun _ => no_but hv9)
          have hsk : psOk (psT s 8 (tkV B (tkE B p)) (tkB B (tkE B p)) none) := psT_ok hs (by have := tkB_le hle; omega)
          have hT2 := tr_z7 (tr_z6 hN.1)
          have f2 : frT h [h + 4, h + 5, h + 6] lnF S (setI (setI S80 h 16 (S80.1 h 16 ||| 0)) h 17 ((setI S80 h 16 (S80.1 h 16 ||| 0)).1 h 17 ||| 0)) := ((f1.tr (m1.mono (mR (Or.inr (Or.inl rfl))) (mF (Or.inr (Or.inl rfl))))).tr (frT.fld (by decide))).tr (frT.fld (by decide))
          have f3 : frT h [] [16, 17] S80 (setI (setI S80 h 16 (S80.1 h 16 ||| 0)) h 17 ((setI S80 h 16 (S80.1 h 16 ||| 0)).1 h 17 ||| 0)) := (frT.fld (by simp)).tr (frT.fld (by simp))
          have t2 : tokR (setI (setI S80 h 16 (S80.1 h 16 ||| 0)) h 17 ((setI S80 h 16 (S80.1 h 16 ||| 0)).1 h 17 ||| 0)) h B (tkE B (tkE B p)) := (m2.set (Or.inr (by decide))).set (Or.inr (by decide))
          have hx8 := hx1.fr m1 (by simp) (by simp)
          have hx2 := hx8.fr f3 (by simp) (by simp)
          have hle2 : (tkE B (tkE B p)) ≤ B.length := tkE_le hle
          have hF3 : RRef (setI (setI S80 h 16 (S80.1 h 16 ||| 0)) h 17 ((setI S80 h 16 (S80.1 h 16 ||| 0)).1 h 17 ||| 0)) h := f3.ref hF2
          have e18 : (setI (setI S80 h 16 (S80.1 h 16 ||| 0)) h 17 ((setI S80 h 16 (S80.1 h 16 ||| 0)).1 h 17 ||| 0)).1 h 18 = nI rd := by rw [f3.2.2.2 18 (by simp)]; exact m3
          
          refine X_lload_n (i := 1) hB dX12_line_144 rfl rfl ?_
          refine X_ldc2 hB qX12_134 dX12_line_145 ?_
          refine X_lcmp hB dX12_line_148 ?_
          refine X_if_ne (tgt := 195) hB dX12_line_149 (by decide) (fun c149 => absurd ((kwc (k := 8) hl (by decide) (by decide +kernel)).mpr ((kw_ne (k := 8) hk (by decide)).mpr rfl)) c149) (fun c149 => ?_)
          refine X_aload_n (i := 0) hB dX12_line_152 rfl rfl ?_
          refine X_iload hB dX12_line_153 rfl ?_
          refine X_callV hB kX12_147 cw10 hR.1.1 hR.1.2 (c_takesNode hR hF3 B hx2 (tkE B (tkE B p)) hle2 t2 (nI rd)) (by decide) (by decide) rfl rfl (Nat.le_of_ble_eq_true rfl) dX12_line_155 (fun r155 S155 q155 => ?_)
          by_cases e5 : tkK B (tkE B (tkE B p)) = 3
          · rw [if_pos e5] at q155
            obtain ⟨rfl, n1, n2, n3, n4, n5⟩ := q155
            have hv10 := tkV_lt hle2 e5
            have hF4 := n1.ref hF3
            have r28 : (if okT B (tkE B (tkE B p)) 0 7 (nI rd) then tkV B (tkE B (tkE B p)) else 0) < 8 := by
              split
              · rename_i ok; have := ok.2.1; omega
              · omega
            generalize hrd2 : (if okT B (tkE B (tkE B p)) 0 7 (nI rd) then tkV B (tkE B (tkE B p)) else 0) = r2 at n3 n5 r28
            have hN2 := tr_nd (w := 8) (but := some (tkV B (tkE B p))) (by decide) hT2 hsk n1 n4 hrd2 n5 (fun z => by
              obtain ⟨y1, y2⟩ := hN.2 z
              rw [y1]
              constructor
              · intro q1 q2; exact q1 (congrArg nI (Option.some.inj q2).symm)
              · intro q1 q2; exact q1 (congrArg some ((nI_eq (by omega) (by omega)).mp q2).symm))
            refine X_if_ne (tgt := 163) hB dX12_line_158 (by decide) (fun c158 => ?_) (fun c158 => absurd c158 (by decide))
            refine X_aload_n (i := 0) hB dX12_line_163 rfl rfl ?_
            refine X_getr hB cw10 fX12_24 rfl hR.1.1 hR.1.2 hF4.2.2.2.2.1 dX12_line_164 ?_
            refine X_bipush (v := 8) hB dX12_line_167 (by decide) ?_
            refine X_iload hB dX12_line_169 rfl ?_
            refine X_imul hB dX12_line_171 ?_
            refine X_aload_n (i := 0) hB dX12_line_172 rfl rfl ?_
            refine X_geti hB cw10 fX12_118 rfl hR.1.1 hR.1.2 dX12_line_173 ?_
            refine X_topi (y := nI r2) (n3) ?_
            refine X_iadd hB dX12_line_176 ?_
            refine X_iconst (v := 1) hB dX12_line_177 (by decide) ?_
            refine X_iastN hB (8 * rd + r2) hR.2.2.2.2.2.1.1 hR.2.2.2.2.2.1.2 (by decide) (by first | rfl | (simp (disch := omega) only [nlit, nI_add, nI_mul, nI_sub]; done) | (simp (disch := omega) only [nlit, nI_add, nI_mul, nI_sub]; (congr 1 <;> omega))) (by first | omega | (simp only []; omega)) dX12_line_178 ?_
            refine X_aload_n (i := 0) hB dX12_line_179 rfl rfl ?_
            refine X_getr hB cw10 fX12_24 rfl hR.1.1 hR.1.2 hF4.2.2.2.2.1 dX12_line_180 ?_
            refine X_bipush (v := 8) hB dX12_line_183 (by decide) ?_
            refine X_aload_n (i := 0) hB dX12_line_185 rfl rfl ?_
            refine X_geti hB cw10 fX12_118 rfl hR.1.1 hR.1.2 dX12_line_186 ?_
            refine X_topi (y := nI r2) ((setI_ne _ _ (Or.inl (by omega))).trans n3) ?_
            refine X_imul hB dX12_line_189 ?_
            refine X_iload hB dX12_line_190 rfl ?_
            refine X_iadd hB dX12_line_192 ?_
            refine X_iconst (v := 1) hB dX12_line_193 (by decide) ?_
            refine X_iastN hB (8 * r2 + rd) hR.2.2.2.2.2.1.1 hR.2.2.2.2.2.1.2 (by decide) (by first | rfl | (simp (disch := omega) only [nlit, nI_add, nI_mul, nI_sub]; done) | (simp (disch := omega) only [nlit, nI_add, nI_mul, nI_sub]; (congr 1 <;> omega))) (by first | omega | (simp only []; omega)) dX12_line_194 ?_
            refine X_iconst (v := 1) hB dX12_line_195 (by decide) ?_
            refine X_zret hB rfl (by first | exact Or.inl rfl | exact Or.inr rfl) dX12_line_196 ?_
            rw [clS_two e3 e5]
            have hT3 := tr_up (r1 := rd) (r2 := r2) (a := tkV B (tkE B p)) (b := tkV B (tkE B (tkE B p))) hN2.1 (fun z => ⟨hN.2 (psT_bd z).2, hN2.2 z⟩)
            refine ⟨(f2.tr (n1.mono (mR (Or.inr (Or.inl rfl))) (mF (Or.inr (Or.inl rfl))))).tr ((frT.set (by simp) (by omega)).tr (frT.set (by simp) (by omega))), hT3.2.1, rfl, (n2.set (Or.inl (by omega))).set (Or.inl (by omega)), tkE_le hle2, hT3, ?_⟩
            have := teS_N (s := psT (psT s 8 (tkV B (tkE B p)) (tkB B (tkE B p)) none) 8 (tkV B (tkE B (tkE B p))) (tkB B (tkE B (tkE B p))) (some (tkV B (tkE B p)))) (w := 8) (a := tkV B (tkE B p)) (b := tkV B (tkE B (tkE B p)))
            unfold psOk
            rw [this.1, this.2]
            exact psT_ok hsk (by have := tkB_le hle2; omega)
          · rw [if_neg e5] at q155
            obtain ⟨rfl, rfl⟩ := q155
            refine X_if_ne (tgt := 163) hB dX12_line_158 (by decide) (fun c158 => absurd rfl c158) (fun c158 => ?_)
            refine X_iconst (v := 0) hB dX12_line_161 (by decide) ?_
            refine X_zret hB rfl (by first | exact Or.inl rfl | exact Or.inr rfl) dX12_line_162 ?_
            have ec : clS B 8 (tkE B p) s = .inl (tkB B (tkE B (tkE B p))) := by unfold clS; rw [if_neg (not_not_intro e3), if_pos rfl, if_pos e5]
            rw [ec]
            exact ⟨f2.tr (frT.fld (by decide)), hT2.2.1.fr (frT.fld (rows := []) (flds := [10]) (by simp)) (by simp), rfl, setI_at _ _ _ _⟩
        · rw [if_neg e3] at q80
          obtain ⟨rfl, rfl⟩ := q80
          refine X_if_ne (tgt := 88) hB dX12_line_83 (by decide) (fun c83 => absurd rfl c83) (fun c83 => ?_)
          refine X_iconst (v := 0) hB dX12_line_86 (by decide) ?_
          refine X_zret hB rfl (by first | exact Or.inl rfl | exact Or.inr rfl) dX12_line_87 ?_
          have ec : clS B 8 (tkE B p) s = .inl (tkB B (tkE B p)) := by unfold clS; rw [if_pos e3]
          rw [ec]
          exact ⟨f1.tr (frT.fld (by decide)), hT1.2.1.fr (frT.fld (rows := []) (flds := [10]) (by simp)) (by simp), rfl, setI_at _ _ _ _⟩
      · refine X_iload_n (i := 3) hB dX12_line_5 rfl rfl ?_
        refine X_iconst (v := (-1)) hB dX12_line_6 (by decide) ?_
        refine X_icmp_ne (tgt := 39) hB dX12_line_7 (by decide) (fun c7 => absurd rfl c7) (fun c7 => ?_)
        refine X_lload_n (i := 1) hB dX12_line_10 rfl rfl ?_
        refine X_ldc2 hB qX12_134 dX12_line_11 ?_
        refine X_lcmp hB dX12_line_14 ?_
        refine X_if_eq (tgt := 39) hB dX12_line_15 (by decide) (fun c15 => absurd ((kw_ne (k := 8) hk (by decide)).mp ((kwc (k := 8) hl (by decide) (by decide +kernel)).mp c15)) (by decide)) (fun c15 => ?_)
        refine X_lload_n (i := 1) hB dX12_line_18 rfl rfl ?_
        refine X_ldc2 hB qX12_136 dX12_line_19 ?_
        refine X_lcmp hB dX12_line_22 ?_
        refine X_if_eq (tgt := 39) hB dX12_line_23 (by decide) (fun c23 => ?_) (fun c23 => absurd ((kwc (k := 9) hl (by decide) (by decide +kernel)).mpr ((kw_ne (k := 9) hk (by decide)).mpr rfl)) c23)
        refine X_aload_n (i := 0) hB dX12_line_39 rfl rfl ?_
        refine X_callV hB kX12_124 cw10 hR.1.1 hR.1.2 (c_token hR hF B hx (tkE B p) hQ.1 hle) (by decide) (by decide) rfl rfl (Nat.le_of_ble_eq_true rfl) dX12_line_40 (fun r40 S40 q40 => ?_)
        obtain ⟨rfl, k1, k2⟩ := q40
        have hx1 := hx.fr k1 (by simp) (by simp)
        have hF1 := k1.ref hF
        have hT1 : trR S40 h s := hT.fr k1 (by simp) (by simp) (by simp) (by simp) (by simp) (by simp)
        have f1 : frT h [h + 4, h + 5, h + 6] lnF S S40 := k1.mono (mR (Or.inl rfl)) (mF (Or.inl rfl))
        refine X_iload_n (i := 3) hB dX12_line_43 rfl rfl ?_
        refine X_iconst (v := (-1)) hB dX12_line_44 (by decide) ?_
        refine X_icmp_eq (tgt := 78) hB dX12_line_45 (by decide) (fun c45 => ?_) (fun c45 => absurd rfl c45)
        refine X_aload_n (i := 0) hB dX12_line_78 rfl rfl ?_
        refine X_iconst (v := (-1)) hB dX12_line_79 (by decide) ?_
        refine X_callV hB kX12_147 cw10 hR.1.1 hR.1.2 (c_takesNode hR hF1 B hx1 (tkE B p) hle k2 (-1)) (by decide) (by decide) rfl rfl (Nat.le_of_ble_eq_true rfl) dX12_line_80 (fun r80 S80 q80 => ?_)
        by_cases e3 : tkK B (tkE B p) = 3
        · rw [if_pos e3] at q80
          obtain ⟨rfl, m1, m2, m3, m4, m5⟩ := q80
          have hF2 := m1.ref hF1
          have hv9 := tkV_lt hle e3
          have hr8 : (if okT B (tkE B p) 0 7 (-1) then tkV B (tkE B p) else 0) < 8 := by
            split
            · rename_i ok; have := ok.2.1; omega
            · omega
          generalize hrd : (if okT B (tkE B p) 0 7 (-1) then tkV B (tkE B p) else 0) = rd at m3 m5 hr8
          refine X_if_ne (tgt := 88) hB dX12_line_83 (by decide) (fun c83 => ?_) (fun c83 => absurd c83 (by decide))
          refine X_aload_n (i := 0) hB dX12_line_88 rfl rfl ?_
          refine X_geti hB cw10 fX12_118 rfl hR.1.1 hR.1.2 dX12_line_89 ?_
          refine X_topi (y := nI rd) (m3) ?_
          refine X_istore hB dX12_line_92 (by decide) rfl ?_
          refine X_aload_n (i := 0) hB dX12_line_94 rfl rfl ?_
          refine X_dup hB dX12_line_95 rfl ?_
          refine X_geti hB cw10 fX12_150 rfl hR.1.1 hR.1.2 dX12_line_96 ?_
          refine X_lload_n (i := 1) hB dX12_line_99 rfl rfl ?_
          refine X_ldc2 hB qX12_136 dX12_line_100 ?_
          refine X_lcmp hB dX12_line_103 ?_
          refine X_if_ne (tgt := 114) hB dX12_line_104 (by decide) (fun c104 => absurd ((kwc (k := 9) hl (by decide) (by decide +kernel)).mpr ((kw_ne (k := 9) hk (by decide)).mpr rfl)) c104) (fun c104 => ?_)
          refine X_iconst (v := 1) hB dX12_line_107 (by decide) ?_
          refine X_iload hB dX12_line_108 rfl ?_
          refine X_ishl hB dX12_line_110 ?_
          refine X_goto (tgt := 115) hB dX12_line_111 (by decide) ?_
          refine X_ior hB dX12_line_115 ?_
          refine X_puti hB cw10 fX12_150 rfl rfl hR.1.1 hR.1.2 dX12_line_116 ?_
          refine X_aload_n (i := 0) hB dX12_line_119 rfl rfl ?_
          refine X_dup hB dX12_line_120 rfl ?_
          refine X_geti hB cw10 fX12_153 rfl hR.1.1 hR.1.2 dX12_line_121 ?_
          refine X_lload_n (i := 1) hB dX12_line_124 rfl rfl ?_
          refine X_ldc2 hB qX12_138 dX12_line_125 ?_
          refine X_lcmp hB dX12_line_128 ?_
          refine X_if_ne (tgt := 139) hB dX12_line_129 (by decide) (fun c129 => ?_) (fun c129 => absurd ((kw_ne (k := 10) hk (by decide)).mp ((kwc (k := 10) hl (by decide) (by decide +kernel)).mp c129)) (by decide))
          refine X_iconst (v := 0) hB dX12_line_139 (by decide) ?_
          refine X_ior hB dX12_line_140 ?_
          refine X_puti hB cw10 fX12_153 rfl rfl hR.1.1 hR.1.2 dX12_line_141 ?_
          refine X_lload_n (i := 1) hB dX12_line_144 rfl rfl ?_
          refine X_ldc2 hB qX12_134 dX12_line_145 ?_
          refine X_lcmp hB dX12_line_148 ?_
          refine X_if_ne (tgt := 195) hB dX12_line_149 (by decide) (fun c149 => ?_) (fun c149 => absurd ((kw_ne (k := 8) hk (by decide)).mp ((kwc (k := 8) hl (by decide) (by decide +kernel)).mp c149)) (by decide))
          refine X_iconst (v := 1) hB dX12_line_195 (by decide) ?_
          refine X_zret hB rfl (by first | exact Or.inl rfl | exact Or.inr rfl) dX12_line_196 ?_
          have hN := tr_nd (w := 9) (but := none) (by decide) hT1 hs m1 m4 hrd m5 (fun _ => no_but hv9)
          have hsk : psOk (psT s 9 (tkV B (tkE B p)) (tkB B (tkE B p)) none) := psT_ok hs (by have := tkB_le hle; omega)
          have hT2 := tr_z7 (tr_mp hN.1 hN.2)
          have f2 : frT h [h + 4, h + 5, h + 6] lnF S (setI (setI S80 h 16 (S80.1 h 16 ||| (1 <<< (nI rd &&& 31)))) h 17 ((setI S80 h 16 (S80.1 h 16 ||| (1 <<< (nI rd &&& 31)))).1 h 17 ||| 0)) := ((f1.tr (m1.mono (mR (Or.inr (Or.inl rfl))) (mF (Or.inr (Or.inl rfl))))).tr (frT.fld (by decide))).tr (frT.fld (by decide))
          have f3 : frT h [] [16, 17] S80 (setI (setI S80 h 16 (S80.1 h 16 ||| (1 <<< (nI rd &&& 31)))) h 17 ((setI S80 h 16 (S80.1 h 16 ||| (1 <<< (nI rd &&& 31)))).1 h 17 ||| 0)) := (frT.fld (by simp)).tr (frT.fld (by simp))
          have t2 : tokR (setI (setI S80 h 16 (S80.1 h 16 ||| (1 <<< (nI rd &&& 31)))) h 17 ((setI S80 h 16 (S80.1 h 16 ||| (1 <<< (nI rd &&& 31)))).1 h 17 ||| 0)) h B (tkE B (tkE B p)) := (m2.set (Or.inr (by decide))).set (Or.inr (by decide))
          rw [clS_one e3 (by decide)]
          exact ⟨f2, hT2.2.1, rfl, t2, tkE_le hle, hT2, hsk⟩
        · rw [if_neg e3] at q80
          obtain ⟨rfl, rfl⟩ := q80
          refine X_if_ne (tgt := 88) hB dX12_line_83 (by decide) (fun c83 => absurd rfl c83) (fun c83 => ?_)
          refine X_iconst (v := 0) hB dX12_line_86 (by decide) ?_
          refine X_zret hB rfl (by first | exact Or.inl rfl | exact Or.inr rfl) dX12_line_87 ?_
          have ec : clS B 9 (tkE B p) s = .inl (tkB B (tkE B p)) := by unfold clS; rw [if_pos e3]
          rw [ec]
          exact ⟨f1.tr (frT.fld (by decide)), hT1.2.1.fr (frT.fld (rows := []) (flds := [10]) (by simp)) (by simp), rfl, setI_at _ _ _ _⟩
      · refine X_iload_n (i := 3) hB dX12_line_5 rfl rfl ?_
        refine X_iconst (v := (-1)) hB dX12_line_6 (by decide) ?_
        refine X_icmp_ne (tgt := 39) hB dX12_line_7 (by decide) (fun c7 => absurd rfl c7) (fun c7 => ?_)
        refine X_lload_n (i := 1) hB dX12_line_10 rfl rfl ?_
        refine X_ldc2 hB qX12_134 dX12_line_11 ?_
        refine X_lcmp hB dX12_line_14 ?_
        refine X_if_eq (tgt := 39) hB dX12_line_15 (by decide) (fun c15 => absurd ((kw_ne (k := 8) hk (by decide)).mp ((kwc (k := 8) hl (by decide) (by decide +kernel)).mp c15)) (by decide)) (fun c15 => ?_)
        refine X_lload_n (i := 1) hB dX12_line_18 rfl rfl ?_
        refine X_ldc2 hB qX12_136 dX12_line_19 ?_
        refine X_lcmp hB dX12_line_22 ?_
        refine X_if_eq (tgt := 39) hB dX12_line_23 (by decide) (fun c23 => absurd ((kw_ne (k := 9) hk (by decide)).mp ((kwc (k := 9) hl (by decide) (by decide +kernel)).mp c23)) (by decide)) (fun c23 => ?_)
        refine X_lload_n (i := 1) hB dX12_line_26 rfl rfl ?_
        refine X_ldc2 hB qX12_138 dX12_line_27 ?_
        refine X_lcmp hB dX12_line_30 ?_
        refine X_if_eq (tgt := 39) hB dX12_line_31 (by decide) (fun c31 => ?_) (fun c31 => absurd ((kwc (k := 10) hl (by decide) (by decide +kernel)).mpr ((kw_ne (k := 10) hk (by decide)).mpr rfl)) c31)
        refine X_aload_n (i := 0) hB dX12_line_39 rfl rfl ?_
        refine X_callV hB kX12_124 cw10 hR.1.1 hR.1.2 (c_token hR hF B hx (tkE B p) hQ.1 hle) (by decide) (by decide) rfl rfl (Nat.le_of_ble_eq_true rfl) dX12_line_40 (fun r40 S40 q40 => ?_)
        obtain ⟨rfl, k1, k2⟩ := q40
        have hx1 := hx.fr k1 (by simp) (by simp)
        have hF1 := k1.ref hF
        have hT1 : trR S40 h s := hT.fr k1 (by simp) (by simp) (by simp) (by simp) (by simp) (by simp)
        have f1 : frT h [h + 4, h + 5, h + 6] lnF S S40 := k1.mono (mR (Or.inl rfl)) (mF (Or.inl rfl))
        refine X_iload_n (i := 3) hB dX12_line_43 rfl rfl ?_
        refine X_iconst (v := (-1)) hB dX12_line_44 (by decide) ?_
        refine X_icmp_eq (tgt := 78) hB dX12_line_45 (by decide) (fun c45 => ?_) (fun c45 => absurd rfl c45)
        refine X_aload_n (i := 0) hB dX12_line_78 rfl rfl ?_
        refine X_iconst (v := (-1)) hB dX12_line_79 (by decide) ?_
        refine X_callV hB kX12_147 cw10 hR.1.1 hR.1.2 (c_takesNode hR hF1 B hx1 (tkE B p) hle k2 (-1)) (by decide) (by decide) rfl rfl (Nat.le_of_ble_eq_true rfl) dX12_line_80 (fun r80 S80 q80 => ?_)
        by_cases e3 : tkK B (tkE B p) = 3
        · rw [if_pos e3] at q80
          obtain ⟨rfl, m1, m2, m3, m4, m5⟩ := q80
          have hF2 := m1.ref hF1
          have hv9 := tkV_lt hle e3
          have hr8 : (if okT B (tkE B p) 0 7 (-1) then tkV B (tkE B p) else 0) < 8 := by
            split
            · rename_i ok; have := ok.2.1; omega
            · omega
          generalize hrd : (if okT B (tkE B p) 0 7 (-1) then tkV B (tkE B p) else 0) = rd at m3 m5 hr8
          refine X_if_ne (tgt := 88) hB dX12_line_83 (by decide) (fun c83 => ?_) (fun c83 => absurd c83 (by decide))
          refine X_aload_n (i := 0) hB dX12_line_88 rfl rfl ?_
          refine X_geti hB cw10 fX12_118 rfl hR.1.1 hR.1.2 dX12_line_89 ?_
          refine X_topi (y := nI rd) (m3) ?_
          refine X_istore hB dX12_line_92 (by decide) rfl ?_
          refine X_aload_n (i := 0) hB dX12_line_94 rfl rfl ?_
          refine X_dup hB dX12_line_95 rfl ?_
          refine X_geti hB cw10 fX12_150 rfl hR.1.1 hR.1.2 dX12_line_96 ?_
          refine X_lload_n (i := 1) hB dX12_line_99 rfl rfl ?_
          refine X_ldc2 hB qX12_136 dX12_line_100 ?_
          refine X_lcmp hB dX12_line_103 ?_
          refine X_if_ne (tgt := 114) hB dX12_line_104 (by decide) (fun c104 => ?_) (fun c104 => absurd ((kw_ne (k := 9) hk (by decide)).mp ((kwc (k := 9) hl (by decide) (by decide +kernel)).mp c104)) (by decide))
          refine X_iconst (v := 0) hB dX12_line_114 (by decide) ?_
          refine X_ior hB dX12_line_115 ?_
          refine X_puti hB cw10 fX12_150 rfl rfl hR.1.1 hR.1.2 dX12_line_116 ?_
          refine X_aload_n (i := 0) hB dX12_line_119 rfl rfl ?_
          refine X_dup hB dX12_line_120 rfl ?_
          refine X_geti hB cw10 fX12_153 rfl hR.1.1 hR.1.2 dX12_line_121 ?_
          refine X_lload_n (i := 1) hB dX12_line_124 rfl rfl ?_
          refine X_ldc2 hB qX12_138 dX12_line_125 ?_
          refine X_lcmp hB dX12_line_128 ?_
          refine X_if_ne (tgt := 139) hB dX12_line_129 (by decide) (fun c129 => absurd ((kwc (k := 10) hl (by decide) (by decide +kernel)).mpr ((kw_ne (k := 10) hk (by decide)).mpr rfl)) c129) (fun c129 => ?_)
          refine X_iconst (v := 1) hB dX12_line_132 (by decide) ?_
          refine X_iload hB dX12_line_133 rfl ?_
          refine X_ishl hB dX12_line_135 ?_
          refine X_goto (tgt := 140) hB dX12_line_136 (by decide) ?_
          refine X_ior hB dX12_line_140 ?_
          refine X_puti hB cw10 fX12_153 rfl rfl hR.1.1 hR.1.2 dX12_line_141 ?_
          refine X_lload_n (i := 1) hB dX12_line_144 rfl rfl ?_
          refine X_ldc2 hB qX12_134 dX12_line_145 ?_
          refine X_lcmp hB dX12_line_148 ?_
          refine X_if_ne (tgt := 195) hB dX12_line_149 (by decide) (fun c149 => ?_) (fun c149 => absurd ((kw_ne (k := 8) hk (by decide)).mp ((kwc (k := 8) hl (by decide) (by decide +kernel)).mp c149)) (by decide))
          refine X_iconst (v := 1) hB dX12_line_195 (by decide) ?_
          refine X_zret hB rfl (by first | exact Or.inl rfl | exact Or.inr rfl) dX12_line_196 ?_
          have hN := tr_nd (w := 10) (but := none) (by decide) hT1 hs m1 m4 hrd m5 (fun _ => no_but hv9)
          have hsk : psOk (psT s 10 (tkV B (tkE B p)) (tkB B (tkE B p)) none) := psT_ok hs (by have := tkB_le hle; omega)
          have hT2 := tr_df (tr_z6 hN.1) hN.2
          have f2 : frT h [h + 4, h + 5, h + 6] lnF S (setI (setI S80 h 16 (S80.1 h 16 ||| 0)) h 17 ((setI S80 h 16 (S80.1 h 16 ||| 0)).1 h 17 ||| (1 <<< (nI rd &&& 31)))) := ((f1.tr (m1.mono (mR (Or.inr (Or.inl rfl))) (mF (Or.inr (Or.inl rfl))))).tr (frT.fld (by decide))).tr (frT.fld (by decide))
          have f3 : frT h [] [16, 17] S80 (setI (setI S80 h 16 (S80.1 h 16 ||| 0)) h 17 ((setI S80 h 16 (S80.1 h 16 ||| 0)).1 h 17 ||| (1 <<< (nI rd &&& 31)))) := (frT.fld (by simp)).tr (frT.fld (by simp))
          have t2 : tokR (setI (setI S80 h 16 (S80.1 h 16 ||| 0)) h 17 ((setI S80 h 16 (S80.1 h 16 ||| 0)).1 h 17 ||| (1 <<< (nI rd &&& 31)))) h B (tkE B (tkE B p)) := (m2.set (Or.inr (by decide))).set (Or.inr (by decide))
          rw [clS_one e3 (by decide)]
          exact ⟨f2, hT2.2.1, rfl, t2, tkE_le hle, hT2, hsk⟩
        · rw [if_neg e3] at q80
          obtain ⟨rfl, rfl⟩ := q80
          refine X_if_ne (tgt := 88) hB dX12_line_83 (by decide) (fun c83 => absurd rfl c83) (fun c83 => ?_)
          refine X_iconst (v := 0) hB dX12_line_86 (by decide) ?_
          refine X_zret hB rfl (by first | exact Or.inl rfl | exact Or.inr rfl) dX12_line_87 ?_
          have ec : clS B 10 (tkE B p) s = .inl (tkB B (tkE B p)) := by unfold clS; rw [if_pos e3]
          rw [ec]
          exact ⟨f1.tr (frT.fld (by decide)), hT1.2.1.fr (frT.fld (rows := []) (flds := [10]) (by simp)) (by simp), rfl, setI_at _ _ _ _⟩
end REF
