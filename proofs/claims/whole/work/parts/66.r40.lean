/-! the reference reads the text: tokens -/
def by8 (n : Nat) : Int32 := vp_nar .byte (nI n)
theorem by8_and : ∀ n, n < 256 → by8 n &&& 255 = nI n := by decide +kernel
theorem by8_nar : ∀ n, n < 256 → vp_nar .byte (by8 n) = by8 n := by decide +kernel
def frT (h : Nat) (rows flds : List Nat) (S S' : St) : Prop := S'.2.2 = S.2.2 ∧ (∀ b, b ≠ h → S'.2.1 b = S.2.1 b) ∧ (∀ b, b ∉ rows → b ≠ h → S'.1 b = S.1 b) ∧ ∀ k, k ∉ flds → S'.1 h k = S.1 h k
theorem frT.rf {h : Nat} {rows flds : List Nat} {S : St} : frT h rows flds S S := ⟨rfl, fun _ _ => rfl, fun _ _ _ => rfl, fun _ _ => rfl⟩
theorem frT.tr {h : Nat} {rows flds : List Nat} {S S1 S2 : St} (a : frT h rows flds S S1) (b : frT h rows flds S1 S2) : frT h rows flds S S2 := ⟨b.1.trans a.1, fun x hx => (b.2.1 x hx).trans (a.2.1 x hx), fun x h1 h2 => (b.2.2.1 x h1 h2).trans (a.2.2.1 x h1 h2), fun k hk => (b.2.2.2 k hk).trans (a.2.2.2 k hk)⟩
theorem frT.mono {h : Nat} {r1 f1 r2 f2 : List Nat} {S S' : St} (a : frT h r1 f1 S S') (hr : ∀ x, x ∈ r1 → x ∈ r2) (hf : ∀ x, x ∈ f1 → x ∈ f2) : frT h r2 f2 S S' := ⟨a.1, a.2.1, fun b h1 h2 => a.2.2.1 b (fun hx => h1 (hr b hx)) h2, fun k hk => a.2.2.2 k (fun hx => hk (hf k hx))⟩
theorem fr.t {h : Nat} {rows flds : List Nat} {S S' : St} (a : fr h rows flds S S') : frT h rows flds S S' := ⟨by rw [a.1], fun b _ => by rw [a.1], a.2.1, a.2.2⟩
theorem frT.fld {h k : Nat} {rows flds : List Nat} {S : St} {v : Int32} (hk : k ∈ flds) : frT h rows flds S (setI S h k v) := (fr.fld hk).t
theorem frT.fldJ {h k : Nat} {rows flds : List Nat} {S : St} {v : Int64} : frT h rows flds S (setJ S h k v) := ⟨rfl, fun b hb => ups_row_ne _ _ _ hb, fun _ _ _ => rfl, fun _ _ => rfl⟩
theorem frT.set {h a k : Nat} {rows flds : List Nat} {S : St} {v : Int32} (ha : a ∈ rows) (hh : a ≠ h) : frT h rows flds S (setI S a k v) := (fr.set ha hh).t
theorem frT.ref {h : Nat} {rows flds : List Nat} {S S' : St} (a : frT h rows flds S S') (hF : RRef S h) : RRef S' h := hF.of a.1
def txtR (S : St) (h : Nat) (B : List Nat) : Prop := S.1 h 5 = nI B.length ∧ B.length ≤ 400 ∧ (∀ c ∈ B, 0 < c ∧ c < 256) ∧ ∀ i, i < B.length → S.1 (h + 2) i = by8 (B.getD i 0)
theorem txtR.fr {h : Nat} {rows flds : List Nat} {S S' : St} {B : List Nat} (a : frT h rows flds S S') (hx : txtR S h B) (h5 : 5 ∉ flds) (h2 : h + 2 ∉ rows) : txtR S' h B := ⟨by rw [a.2.2.2 5 h5]; exact hx.1, hx.2.1, hx.2.2.1, fun i hi => by rw [a.2.2.1 (h + 2) h2 (by omega)]; exact hx.2.2.2 i hi⟩
def chN (B : List Nat) (p : Nat) : Int32 := if p < B.length then nI (B.getD p 0) else -1
theorem txt_c {B : List Nat} (hB : ∀ c ∈ B, 0 < c ∧ c < 256) {p : Nat} (hp : p < B.length) : 0 < B.getD p 0 ∧ B.getD p 0 < 256 := hB _ (getD_mem hp)
theorem see_in {B : List Nat} {p lo hi : Nat} (hB : ∀ c ∈ B, 0 < c ∧ c < 256) (hl : lo < 1000) (hh : hi < 1000) : (nI lo ≤ chN B p ∧ chN B p ≤ nI hi) ↔ (p < B.length ∧ lo ≤ B.getD p 0 ∧ B.getD p 0 ≤ hi) := by
  unfold chN
  split
  · rename_i q
    have := txt_c hB q
    rw [nI_leI (by omega) (by omega), nI_leI (by omega) (by omega)]
    exact ⟨fun x => ⟨q, x⟩, fun x => x.2⟩
  · rename_i q
    constructor
    · intro x
      have h1 := x.1
      rw [Int32.le_iff_toInt_le, nI_toInt (by omega)] at h1
      have : (-1 : Int32).toInt = -1 := by decide
      omega
    · intro x; exact absurd x.1 q
theorem see_eq {B : List Nat} {p c : Nat} (hB : ∀ c ∈ B, 0 < c ∧ c < 256) (hc : c < 1000) : chN B p = nI c ↔ (p < B.length ∧ B.getD p 0 = c) := by
  unfold chN
  split
  · rename_i q
    have := txt_c hB q
    rw [nI_eq (by omega) (by omega)]
    exact ⟨fun x => ⟨q, x⟩, fun x => x.2⟩
  · rename_i q
    constructor
    · intro x; exact absurd x.symm (nI_neg1 (by omega))
    · intro x; exact absurd x.1 q
theorem see_ge {B : List Nat} {p : Nat} (hB : ∀ c ∈ B, 0 < c ∧ c < 256) : (0 : Int32) ≤ chN B p ↔ p < B.length := by
  unfold chN
  split
  · rename_i q
    have := txt_c hB q
    exact ⟨fun _ => q, fun _ => nI_pos' (by omega)⟩
  · rename_i q
    exact ⟨fun x => absurd x (by decide), fun x => absurd x q⟩
theorem if_iff {P R : Prop} [Decidable P] [Decidable R] (h : P ↔ R) : (if P then (1 : Int32) else 0) = if R then 1 else 0 := by
  by_cases q : P
  · rw [if_pos q, if_pos (h.mp q)]
  · rw [if_neg q, if_neg (fun r => q (h.mpr r))]
def tokR (S : St) (h : Nat) (B : List Nat) (p : Nat) : Prop := S.1 h 4 = nI (tkE B p) ∧ S.1 h 6 = nI (tkB B p) ∧ S.1 h 7 = nI (tkK B p) ∧ (tkK B p = 3 → S.1 h 8 = nI (tkV B p)) ∧ (tkK B p = 2 → S.2.1 h 9 = wd (tkW B p))
section REF
variable {G : Gc} {S : St} {h : Nat}
set_option maxRecDepth 100000 in
set_option maxHeartbeats 4000000 in
theorem c_see (hR : RLay G h) (hF : RRef S h) (B : List Nat) (hx : txtR S h B) (p : Nat) (hp : S.1 h 4 = nI p) (hpl : p ≤ B.length) : C G mX12_see 0 [.ref h] S (fun r S' => r = some (.int (chN B p)) ∧ S = S') := by
  have h4 := hx.2.1
  refine C.mk (lv := [some (.ref h)]) (by decide) (Nat.le_of_ble_eq_true rfl) rfl (fun E hB => ?_)
  refine X_aload_n (i := 0) hB dX12_see_0 rfl rfl ?_
  refine X_geti hB cw10 fX12_72 rfl hR.1.1 hR.1.2 dX12_see_1 ?_
  refine X_topi (y := nI p) (hp) ?_
  refine X_aload_n (i := 0) hB dX12_see_4 rfl rfl ?_
  refine X_geti hB cw10 fX12_75 rfl hR.1.1 hR.1.2 dX12_see_5 ?_
  refine X_topi (y := nI B.length) (hx.1) ?_
  refine X_icmp_ge (tgt := 27) hB dX12_see_8 (by decide) (fun c8 => ?_) (fun c8 => ?_)
  · have e8 : ¬ p < B.length := by
      rw [nI_leI (by omega) (by omega)] at c8
      omega
    refine X_iconst (v := (-1)) hB dX12_see_27 (by decide) ?_
    refine X_topi (y := chN B p) (by first | rfl | (unfold chN; rw [if_neg e8])) ?_
    refine X_iret hB rfl dX12_see_28 ?_
    exact ⟨rfl, rfl⟩
  · have e8 : p < B.length := by
      rw [nI_leI (by omega) (by omega)] at c8
      omega
    refine X_aload_n (i := 0) hB dX12_see_11 rfl rfl ?_
    refine X_getr hB cw10 fX12_13 rfl hR.1.1 hR.1.2 hF.2.1 dX12_see_12 ?_
    refine X_aload_n (i := 0) hB dX12_see_15 rfl rfl ?_
    refine X_geti hB cw10 fX12_72 rfl hR.1.1 hR.1.2 dX12_see_16 ?_
    refine X_topi (y := nI p) (hp) ?_
    refine X_baldN hB (p) hR.2.2.1.1 hR.2.2.1.2 (by decide) (by first | rfl | (simp (disch := omega) only [nlit, nI_add, nI_mul, nI_sub]; done) | (simp (disch := omega) only [nlit, nI_add, nI_mul, nI_sub]; (congr 1 <;> omega))) (by first | omega | (simp only []; omega)) (hx.2.2.2 p e8) dX12_see_19 ?_
    refine X_sipush (v := 255) hB dX12_see_20 (by decide) ?_
    refine X_iand hB dX12_see_23 ?_
    refine X_topi (y := chN B p) (by unfold chN; rw [if_pos e8]; exact by8_and _ (txt_c hx.2.2.1 e8).2) ?_
    refine X_goto (tgt := 28) hB dX12_see_24 (by decide) ?_
    refine X_topi (y := chN B p) (by first | rfl | (unfold chN; rw [if_neg e8])) ?_
    refine X_iret hB rfl dX12_see_28 ?_
    exact ⟨rfl, rfl⟩
set_option maxRecDepth 100000 in
set_option maxHeartbeats 4000000 in
theorem l_tokA (hR : RLay G h) (hF : RRef S h) {E : Ev} (hB : Bd G E mX12_token) {Q : Option Value → St → Prop} (B : List Nat) (hx : txtR S h B) (lv1 lv2 : Option Value) (p0 : Nat) (kk : ∀ S1, frT h [] [4] S S1 → S1.1 h 4 = nI (tkB B p0) → X G E mX12_token 1 Q S1 31 [some (.ref h), lv1, lv2] []) :
    ∀ (k p : Nat) (S1 : St), B.length ≤ p + k → p ≤ B.length → tkB B p0 = runE isBl B p → frT h [] [4] S S1 → S1.1 h 4 = nI p → X G E mX12_token 1 Q S1 0 [some (.ref h), lv1, lv2] [] := by
  intro k
  induction k with
  | zero =>
    intro p S1 h1 hpl h2 hfr hp
    have hx1 := hx.fr hfr (by simp) (by simp)
    have hF1 := hfr.ref hF
    have e9 : tkB B p0 = p := by rw [h2, runE_no (by omega)]
    refine X_aload_n (i := 0) hB dX12_token_0 rfl rfl ?_
    refine X_callV hB kX12_78 cw10 hR.1.1 hR.1.2 (c_see hR hF1 B hx1 p hp hpl) (by decide) (by decide) rfl rfl (Nat.le_of_ble_eq_true rfl) dX12_token_1 (fun r1 S1 q1 => ?_)
    obtain ⟨rfl, rfl⟩ := q1
    refine X_bipush (v := 10) hB dX12_token_4 (by decide) ?_
    refine X_icmp_eq (tgt := 18) hB dX12_token_6 (by decide) (fun c6 => absurd ((see_eq (c := 10) hx.2.2.1 (by decide)).mp c6).1 (by omega)) (fun c6 => ?_)
    refine X_aload_n (i := 0) hB dX12_token_9 rfl rfl ?_
    refine X_callV hB kX12_78 cw10 hR.1.1 hR.1.2 (c_see hR hF1 B hx1 p hp hpl) (by decide) (by decide) rfl rfl (Nat.le_of_ble_eq_true rfl) dX12_token_10 (fun r10 S10 q10 => ?_)
    obtain ⟨rfl, rfl⟩ := q10
    refine X_bipush (v := 32) hB dX12_token_13 (by decide) ?_
    refine X_icmp_ne (tgt := 31) hB dX12_token_15 (by decide) (fun c15 => ?_) (fun c15 => absurd ((see_eq (c := 32) hx.2.2.1 (by decide)).mp c15).1 (by omega))
    exact kk S1 hfr (by rw [e9]; exact hp)
  | succ k ih =>
    intro p S1 h1 hpl h2 hfr hp
    have hx1 := hx.fr hfr (by simp) (by simp)
    have hF1 := hfr.ref hF
    refine X_aload_n (i := 0) hB dX12_token_0 rfl rfl ?_
    refine X_callV hB kX12_78 cw10 hR.1.1 hR.1.2 (c_see hR hF1 B hx1 p hp hpl) (by decide) (by decide) rfl rfl (Nat.le_of_ble_eq_true rfl) dX12_token_1 (fun r1 S1 q1 => ?_)
    obtain ⟨rfl, rfl⟩ := q1
    refine X_bipush (v := 10) hB dX12_token_4 (by decide) ?_
    refine X_icmp_eq (tgt := 18) hB dX12_token_6 (by decide) (fun c6 => ?_) (fun c6 => ?_)
    · have e6 : p < B.length ∧ isBl (B.getD p 0) = true := by
        first
          | (have q := (see_eq (c := 10) hx.2.2.1 (by decide)).mp c6
             exact ⟨q.1, isBl_iff.mpr (Or.inl q.2)⟩)
          | (have q := (see_eq (c := 32) hx.2.2.1 (by decide)).mp c15
             exact ⟨q.1, isBl_iff.mpr (Or.inr q.2)⟩)
      refine X_aload_n (i := 0) hB dX12_token_18 rfl rfl ?_
      refine X_dup hB dX12_token_19 rfl ?_
      refine X_geti hB cw10 fX12_72 rfl hR.1.1 hR.1.2 dX12_token_20 ?_
      refine X_topi (y := nI p) (hp) ?_
      refine X_iconst (v := 1) hB dX12_token_23 (by decide) ?_
      refine X_iadd hB dX12_token_24 ?_
      refine X_puti hB cw10 fX12_72 rfl rfl hR.1.1 hR.1.2 dX12_token_25 ?_
      refine X_goto (tgt := 0) hB dX12_token_28 (by decide) ?_
      refine ih (p + 1) _ (by omega) (by omega) (by rw [h2, runE_st e6.1 e6.2]) (hfr.tr (frT.fld (by simp))) ?_
      rw [setI_at, nI_1]
    · refine X_aload_n (i := 0) hB dX12_token_9 rfl rfl ?_
      refine X_callV hB kX12_78 cw10 hR.1.1 hR.1.2 (c_see hR hF1 B hx1 p hp hpl) (by decide) (by decide) rfl rfl (Nat.le_of_ble_eq_true rfl) dX12_token_10 (fun r10 S10 q10 => ?_)
      obtain ⟨rfl, rfl⟩ := q10
      refine X_bipush (v := 32) hB dX12_token_13 (by decide) ?_
      refine X_icmp_ne (tgt := 31) hB dX12_token_15 (by decide) (fun c15 => ?_) (fun c15 => ?_)
      · have e9 : tkB B p0 = p := by
          rw [h2, runE_no]
          intro q
          rcases isBl_iff.mp q.2 with e | e
          · exact c6 ((see_eq (c := 10) hx.2.2.1 (by decide)).mpr ⟨q.1, e⟩)
          · exact c15 ((see_eq (c := 32) hx.2.2.1 (by decide)).mpr ⟨q.1, e⟩)
        exact kk S1 hfr (by rw [e9]; exact hp)
      · have e6 : p < B.length ∧ isBl (B.getD p 0) = true := by
          first
            | (have q := (see_eq (c := 10) hx.2.2.1 (by decide)).mp c6
               exact ⟨q.1, isBl_iff.mpr (Or.inl q.2)⟩)
            | (have q := (see_eq (c := 32) hx.2.2.1 (by decide)).mp c15
               exact ⟨q.1, isBl_iff.mpr (Or.inr q.2)⟩)
        refine X_aload_n (i := 0) hB dX12_token_18 rfl rfl ?_
        refine X_dup hB dX12_token_19 rfl ?_
        refine X_geti hB cw10 fX12_72 rfl hR.1.1 hR.1.2 dX12_token_20 ?_
        refine X_topi (y := nI p) (hp) ?_
        refine X_iconst (v := 1) hB dX12_token_23 (by decide) ?_
        refine X_iadd hB dX12_token_24 ?_
        refine X_puti hB cw10 fX12_72 rfl rfl hR.1.1 hR.1.2 dX12_token_25 ?_
        refine X_goto (tgt := 0) hB dX12_token_28 (by decide) ?_
        refine ih (p + 1) _ (by omega) (by omega) (by rw [h2, runE_st e6.1 e6.2]) (hfr.tr (frT.fld (by simp))) ?_
        rw [setI_at, nI_1]
theorem pk_step {l : List Nat} {c : Nat} {v : Int64} (hv : l.length ≤ 8 → v = lN (wPk l)) (hc : c < 256) (hl : ∀ x ∈ l, x < 256) : (l ++ [c]).length ≤ 8 → v <<< ((8 : Int32).toInt64 &&& 63) ||| (nI c).toInt64 = lN (wPk (l ++ [c])) := by
  intro h8
  rw [List.length_append, List.length_singleton] at h8
  rw [hv (by omega), wPk_snoc, show (8 : Int32) = nI 8 from rfl, wb_shl _ (by decide), nI_l (by omega)]
  have h1 := wPk_lt l.length l rfl hl
  have h2 : (256 : Nat) ^ l.length ≤ 256 ^ 7 := Nat.pow_le_pow_right (by decide) (by omega)
  have h3 : (256 : Nat) ^ 7 = 72057594037927936 := by decide
  rw [show (2 : Nat) ^ 8 = 256 from rfl]
  exact g_or (k := 8) (by decide) hc (by omega)
set_option maxRecDepth 100000 in
set_option maxHeartbeats 4000000 in
theorem l_tokL (hR : RLay G h) (hF : RRef S h) {E : Ev} (hB : Bd G E mX12_token) {Q : Option Value → St → Prop} (B : List Nat) (hx : txtR S h B) (w1 : Int32) (b : Nat) (kk : ∀ S1, frT h [] [4] S S1 → S1.1 h 4 = nI (runE isLt B b) → ((sub B b (runE isLt B b)).length ≤ 8 → S1.2.1 h 9 = lN (wPk (sub B b (runE isLt B b)))) → X G E mX12_token 1 Q S1 121 [some (.ref h), some (.int w1), some (.int (nI (runE isLt B b - b)))] []) :
    ∀ (k p : Nat) (S1 : St), B.length ≤ p + k → p ≤ B.length → b ≤ p → runE isLt B b = runE isLt B p → frT h [] [4] S S1 → S1.1 h 4 = nI p → ((sub B b p).length ≤ 8 → S1.2.1 h 9 = lN (wPk (sub B b p))) → X G E mX12_token 1 Q S1 74 [some (.ref h), some (.int w1), some (.int (nI (p - b)))] [] := by
  intro k
  induction k with
  | zero =>
    intro p S1 h1 hpl hbp h2 hfr hp hw
    have hx1 := hx.fr hfr (by simp) (by simp)
    have hF1 := hfr.ref hF
    have e9 : runE isLt B b = p := by rw [h2, runE_no (by omega)]
    rw [e9] at kk
    refine X_aload_n (i := 0) hB dX12_token_74 rfl rfl ?_
    refine X_callV hB kX12_78 cw10 hR.1.1 hR.1.2 (c_see hR hF1 B hx1 p hp hpl) (by decide) (by decide) rfl rfl (Nat.le_of_ble_eq_true rfl) dX12_token_75 (fun r75 S75 q75 => ?_)
    obtain ⟨rfl, rfl⟩ := q75
    refine X_bipush (v := 97) hB dX12_token_78 (by decide) ?_
    refine X_bipush (v := 122) hB dX12_token_80 (by decide) ?_
    refine X_callS hB kX12_55 (c_in _ _ _) (by decide) (by decide) rfl rfl (Nat.le_of_ble_eq_true rfl) dX12_token_82 (fun r82 S82 q82 => ?_)
    obtain ⟨rfl, rfl⟩ := q82
    refine X_topi (y := if (p < B.length ∧ isLt (B.getD p 0) = true) then 1 else 0) (if_iff (by rw [isLt_iff]; exact see_in (lo := 97) (hi := 122) hx.2.2.1 (by decide) (by decide))) ?_
    refine X_if_eq (tgt := 121) hB dX12_token_85 (by decide) (fun c85 => ?_) (fun c85 => absurd (if1 c85).1 (by omega))
    exact kk S1 hfr hp hw
  | succ k ih =>
    intro p S1 h1 hpl hbp h2 hfr hp hw
    have hx1 := hx.fr hfr (by simp) (by simp)
    have hF1 := hfr.ref hF
    refine X_aload_n (i := 0) hB dX12_token_74 rfl rfl ?_
    refine X_callV hB kX12_78 cw10 hR.1.1 hR.1.2 (c_see hR hF1 B hx1 p hp hpl) (by decide) (by decide) rfl rfl (Nat.le_of_ble_eq_true rfl) dX12_token_75 (fun r75 S75 q75 => ?_)
    obtain ⟨rfl, rfl⟩ := q75
    refine X_bipush (v := 97) hB dX12_token_78 (by decide) ?_
    refine X_bipush (v := 122) hB dX12_token_80 (by decide) ?_
    refine X_callS hB kX12_55 (c_in _ _ _) (by decide) (by decide) rfl rfl (Nat.le_of_ble_eq_true rfl) dX12_token_82 (fun r82 S82 q82 => ?_)
    obtain ⟨rfl, rfl⟩ := q82
    refine X_topi (y := if (p < B.length ∧ isLt (B.getD p 0) = true) then 1 else 0) (if_iff (by rw [isLt_iff]; exact see_in (lo := 97) (hi := 122) hx.2.2.1 (by decide) (by decide))) ?_
    refine X_if_eq (tgt := 121) hB dX12_token_85 (by decide) (fun c85 => ?_) (fun c85 => ?_)
    · have e9 : runE isLt B b = p := by rw [h2, runE_no (if1n c85)]
      rw [e9] at kk
      exact kk S1 hfr hp hw
    · have e85 := if1 c85
      refine X_aload_n (i := 0) hB dX12_token_88 rfl rfl ?_
      refine X_aload_n (i := 0) hB dX12_token_89 rfl rfl ?_
      refine X_getj hB cw10 fX12_85 rfl hR.1.1 hR.1.2 dX12_token_90 ?_
      refine X_bipush (v := 8) hB dX12_token_93 (by decide) ?_
      refine X_lshl hB dX12_token_95 ?_
      refine X_aload_n (i := 0) hB dX12_token_96 rfl rfl ?_
      refine X_callV hB kX12_78 cw10 hR.1.1 hR.1.2 (c_see hR hF1 B hx1 p hp hpl) (by decide) (by decide) rfl rfl (Nat.le_of_ble_eq_true rfl) dX12_token_97 (fun r97 S97 q97 => ?_)
      obtain ⟨rfl, rfl⟩ := q97
      refine X_topi (y := nI (B.getD p 0)) (by unfold chN; rw [if_pos e85.1]) ?_
      refine X_i2l hB dX12_token_100 ?_
      refine X_lor hB dX12_token_101 ?_
      refine X_putj hB cw10 fX12_85 rfl rfl hR.1.1 hR.1.2 dX12_token_102 ?_
      generalize hS5 : setJ S1 h 9 _ = S5
      have f5 : frT h [] [4] S1 S5 := hS5 ▸ frT.fldJ
      have p5 : S5.1 h 4 = nI p := by rw [← hS5]; exact hp
      have w5 : (sub B b (p + 1)).length ≤ 8 → S5.2.1 h 9 = lN (wPk (sub B b (p + 1))) := by
        rw [sub_snoc hbp e85.1]
        intro q
        have e : S5.2.1 h 9 = S1.2.1 h 9 <<< ((8 : Int32).toInt64 &&& 63) ||| (nI (B.getD p 0)).toInt64 := by rw [← hS5]; simp [setJ, ups]
        rw [e]
        refine pk_step hw (txt_c hx.2.2.1 e85.1).2 (fun x hx9 => (hx.2.2.1 x ?_).2) q
        exact List.mem_of_mem_drop (List.mem_of_mem_take hx9)
      clear hS5
      refine X_aload_n (i := 0) hB dX12_token_105 rfl rfl ?_
      refine X_dup hB dX12_token_106 rfl ?_
      refine X_geti hB cw10 fX12_72 rfl hR.1.1 hR.1.2 dX12_token_107 ?_
      refine X_topi (y := nI p) (p5) ?_
      refine X_iconst (v := 1) hB dX12_token_110 (by decide) ?_
      refine X_iadd hB dX12_token_111 ?_
      refine X_puti hB cw10 fX12_72 rfl rfl hR.1.1 hR.1.2 dX12_token_112 ?_
      refine X_iinc hB dX12_token_115 rfl rfl (by decide) rfl ?_
      refine X_goto (tgt := 74) hB dX12_token_118 (by decide) ?_
      refine X_lv ?_ (ih (p + 1) _ (by omega) (by omega) (by omega) (by rw [h2, runE_st e85.1 e85.2]) (hfr.tr (f5.tr (frT.fld (by simp)))) (by rw [setI_at, nI_1]) (fun q => w5 q))
      rw [show p + 1 - b = p - b + 1 by omega, nI_succ]; rfl
set_option maxRecDepth 100000 in
set_option maxHeartbeats 4000000 in
theorem l_tokD (hR : RLay G h) (hF : RRef S h) {E : Ev} (hB : Bd G E mX12_token) {Q : Option Value → St → Prop} (B : List Nat) (hx : txtR S h B) (w1 : Int32) (b : Nat) (kk : ∀ S1, frT h [] [4, 8] S S1 → S1.1 h 4 = nI (runE isDg B b) → S1.1 h 8 = nI (numV ((sub B b (runE isDg B b)).take 2)) → X G E mX12_token 1 Q S1 224 [some (.ref h), some (.int w1), some (.int (nI (runE isDg B b - b)))] []) :
    ∀ (k p : Nat) (S1 : St), B.length ≤ p + k → p ≤ B.length → b ≤ p → runE isDg B b = runE isDg B p → frT h [] [4, 8] S S1 → S1.1 h 4 = nI p → S1.1 h 8 = nI (numV ((sub B b p).take 2)) → X G E mX12_token 1 Q S1 163 [some (.ref h), some (.int w1), some (.int (nI (p - b)))] [] := by
  have h400 := hx.2.1
  intro k
  induction k with
  | zero =>
    intro p S1 h1 hpl hbp h2 hfr hp hw
    have hx1 := hx.fr hfr (by simp) (by simp)
    have hF1 := hfr.ref hF
    have e9 : runE isDg B b = p := by rw [h2, runE_no (by omega)]
    rw [e9] at kk
    refine X_aload_n (i := 0) hB dX12_token_163 rfl rfl ?_
    refine X_callV hB kX12_78 cw10 hR.1.1 hR.1.2 (c_see hR hF1 B hx1 p hp hpl) (by decide) (by decide) rfl rfl (Nat.le_of_ble_eq_true rfl) dX12_token_164 (fun r164 S164 q164 => ?_)
    obtain ⟨rfl, rfl⟩ := q164
    refine X_bipush (v := 48) hB dX12_token_167 (by decide) ?_
    refine X_bipush (v := 57) hB dX12_token_169 (by decide) ?_
    refine X_callS hB kX12_55 (c_in _ _ _) (by decide) (by decide) rfl rfl (Nat.le_of_ble_eq_true rfl) dX12_token_171 (fun r171 S171 q171 => ?_)
    obtain ⟨rfl, rfl⟩ := q171
    refine X_topi (y := if (p < B.length ∧ isDg (B.getD p 0) = true) then 1 else 0) (if_iff (by rw [isDg_iff]; exact see_in (lo := 48) (hi := 57) hx.2.2.1 (by decide) (by decide))) ?_
    refine X_if_eq (tgt := 224) hB dX12_token_174 (by decide) (fun c174 => ?_) (fun c174 => absurd (if1 c174).1 (by omega))
    exact kk S1 hfr hp hw
  | succ k ih =>
    intro p S1 h1 hpl hbp h2 hfr hp hw
    have hx1 := hx.fr hfr (by simp) (by simp)
    have hF1 := hfr.ref hF
    refine X_aload_n (i := 0) hB dX12_token_163 rfl rfl ?_
    refine X_callV hB kX12_78 cw10 hR.1.1 hR.1.2 (c_see hR hF1 B hx1 p hp hpl) (by decide) (by decide) rfl rfl (Nat.le_of_ble_eq_true rfl) dX12_token_164 (fun r164 S164 q164 => ?_)
    obtain ⟨rfl, rfl⟩ := q164
    refine X_bipush (v := 48) hB dX12_token_167 (by decide) ?_
    refine X_bipush (v := 57) hB dX12_token_169 (by decide) ?_
    refine X_callS hB kX12_55 (c_in _ _ _) (by decide) (by decide) rfl rfl (Nat.le_of_ble_eq_true rfl) dX12_token_171 (fun r171 S171 q171 => ?_)
    obtain ⟨rfl, rfl⟩ := q171
    refine X_topi (y := if (p < B.length ∧ isDg (B.getD p 0) = true) then 1 else 0) (if_iff (by rw [isDg_iff]; exact see_in (lo := 48) (hi := 57) hx.2.2.1 (by decide) (by decide))) ?_
    refine X_if_eq (tgt := 224) hB dX12_token_174 (by decide) (fun c174 => ?_) (fun c174 => ?_)
    · have e9 : runE isDg B b = p := by rw [h2, runE_no (if1n c174)]
      rw [e9] at kk
      exact kk S1 hfr hp hw
    · have e174 := if1 c174
      have e48 := isDg_iff.mp e174.2
      have el : (sub B b p).length = p - b := sub_len hpl
      refine X_aload_n (i := 0) hB dX12_token_177 rfl rfl ?_
      refine X_iload_n (i := 2) hB dX12_token_178 rfl rfl ?_
      refine X_iconst (v := 2) hB dX12_token_179 (by decide) ?_
      refine X_icmp_ge (tgt := 201) hB dX12_token_180 (by decide) (fun c180 => ?_) (fun c180 => ?_)
      · have e180 : ¬ p - b < 2 := by
          rw [show (2 : Int32) = nI 2 from rfl, nI_leI (by omega) (by omega)] at c180
          omega
        refine X_aload_n (i := 0) hB dX12_token_201 rfl rfl ?_
        refine X_geti hB cw10 fX12_92 rfl hR.1.1 hR.1.2 dX12_token_202 ?_
        refine X_topi (y := nI (numV ((sub B b (p + 1)).take 2))) (by
          rw [sub_snoc hbp e174.1]
          first
            | (rw [hw]; exact congrArg (fun l => nI (numV l)) (by rw [List.take_append_of_le_length (by omega)]))
            | (rw [List.take_of_length_le (by omega), List.take_of_length_le (by rw [List.length_append, List.length_singleton]; omega), numV_snoc]
               rw [show (10 : Int32) = nI 10 from rfl, show (48 : Int32) = nI 48 from rfl, nI_mul, nI_add, nI_sub (by omega)]
               exact congrArg nI (by omega))) ?_
        refine X_puti hB cw10 fX12_92 rfl rfl hR.1.1 hR.1.2 dX12_token_205 ?_
        generalize hS5 : setI S1 h 8 _ = S5
        have f5 : frT h [] [4, 8] S1 S5 := hS5 ▸ frT.fld (by simp)
        have p5 : S5.1 h 4 = nI p := by rw [← hS5, setI_ne _ _ (Or.inr (by decide))]; exact hp
        have w5 : S5.1 h 8 = nI (numV ((sub B b (p + 1)).take 2)) := by rw [← hS5, setI_at]
        clear hS5
        refine X_aload_n (i := 0) hB dX12_token_208 rfl rfl ?_
        refine X_dup hB dX12_token_209 rfl ?_
        refine X_geti hB cw10 fX12_72 rfl hR.1.1 hR.1.2 dX12_token_210 ?_
        refine X_topi (y := nI p) (p5) ?_
        refine X_iconst (v := 1) hB dX12_token_213 (by decide) ?_
        refine X_iadd hB dX12_token_214 ?_
        refine X_puti hB cw10 fX12_72 rfl rfl hR.1.1 hR.1.2 dX12_token_215 ?_
        refine X_iinc hB dX12_token_218 rfl rfl (by decide) rfl ?_
        refine X_goto (tgt := 163) hB dX12_token_221 (by decide) ?_
        refine X_lv ?_ (ih (p + 1) _ (by omega) (by omega) (by omega) (by rw [h2, runE_st e174.1 e174.2]) (hfr.tr (f5.tr (frT.fld (by simp)))) (by rw [setI_at, nI_1]) (by rw [setI_ne _ _ (Or.inr (by decide))]; exact w5))
        rw [show p + 1 - b = p - b + 1 by omega, nI_succ]; rfl
      · have e180 : p - b < 2 := by
          rw [show (2 : Int32) = nI 2 from rfl, nI_leI (by omega) (by omega)] at c180
          omega
        refine X_bipush (v := 10) hB dX12_token_183 (by decide) ?_
        refine X_aload_n (i := 0) hB dX12_token_185 rfl rfl ?_
        refine X_geti hB cw10 fX12_92 rfl hR.1.1 hR.1.2 dX12_token_186 ?_
        refine X_topi (y := nI (numV ((sub B b p).take 2))) (hw) ?_
        refine X_imul hB dX12_token_189 ?_
        refine X_aload_n (i := 0) hB dX12_token_190 rfl rfl ?_
        refine X_callV hB kX12_78 cw10 hR.1.1 hR.1.2 (c_see hR hF1 B hx1 p hp hpl) (by decide) (by decide) rfl rfl (Nat.le_of_ble_eq_true rfl) dX12_token_191 (fun r191 S191 q191 => ?_)
        obtain ⟨rfl, rfl⟩ := q191
        refine X_topi (y := nI (B.getD p 0)) (by unfold chN; rw [if_pos e174.1]) ?_
        refine X_iadd hB dX12_token_194 ?_
        refine X_bipush (v := 48) hB dX12_token_195 (by decide) ?_
        refine X_isub hB dX12_token_197 ?_
        refine X_goto (tgt := 205) hB dX12_token_198 (by decide) ?_
        refine X_topi (y := nI (numV ((sub B b (p + 1)).take 2))) (by
          rw [sub_snoc hbp e174.1]
          first
            | (rw [hw]; exact congrArg (fun l => nI (numV l)) (by rw [List.take_append_of_le_length (by omega)]))
            | (rw [List.take_of_length_le (by omega), List.take_of_length_le (by rw [List.length_append, List.length_singleton]; omega), numV_snoc]
               rw [show (10 : Int32) = nI 10 from rfl, show (48 : Int32) = nI 48 from rfl, nI_mul, nI_add, nI_sub (by omega)]
               exact congrArg nI (by omega))) ?_
        refine X_puti hB cw10 fX12_92 rfl rfl hR.1.1 hR.1.2 dX12_token_205 ?_
        generalize hS5 : setI S1 h 8 _ = S5
        have f5 : frT h [] [4, 8] S1 S5 := hS5 ▸ frT.fld (by simp)
        have p5 : S5.1 h 4 = nI p := by rw [← hS5, setI_ne _ _ (Or.inr (by decide))]; exact hp
        have w5 : S5.1 h 8 = nI (numV ((sub B b (p + 1)).take 2)) := by rw [← hS5, setI_at]
        clear hS5
        refine X_aload_n (i := 0) hB dX12_token_208 rfl rfl ?_
        refine X_dup hB dX12_token_209 rfl ?_
        refine X_geti hB cw10 fX12_72 rfl hR.1.1 hR.1.2 dX12_token_210 ?_
        refine X_topi (y := nI p) (p5) ?_
        refine X_iconst (v := 1) hB dX12_token_213 (by decide) ?_
        refine X_iadd hB dX12_token_214 ?_
        refine X_puti hB cw10 fX12_72 rfl rfl hR.1.1 hR.1.2 dX12_token_215 ?_
        refine X_iinc hB dX12_token_218 rfl rfl (by decide) rfl ?_
        refine X_goto (tgt := 163) hB dX12_token_221 (by decide) ?_
        refine X_lv ?_ (ih (p + 1) _ (by omega) (by omega) (by omega) (by rw [h2, runE_st e174.1 e174.2]) (hfr.tr (f5.tr (frT.fld (by simp)))) (by rw [setI_at, nI_1]) (by rw [setI_ne _ _ (Or.inr (by decide))]; exact w5))
        rw [show p + 1 - b = p - b + 1 by omega, nI_succ]; rfl
set_option maxRecDepth 100000 in
set_option maxHeartbeats 4000000 in
theorem c_token (hR : RLay G h) (hF : RRef S h) (B : List Nat) (hx : txtR S h B) (p : Nat) (hp : S.1 h 4 = nI p) (hpl : p ≤ B.length) : C G mX12_token 1 [.ref h] S (fun r S' => r = none ∧ frT h [] [4, 6, 7, 8] S S' ∧ tokR S' h B p) := by
  have h400 := hx.2.1
  have hbl := tkB_le hpl
  refine C.mk (lv := [some (.ref h), none, none]) (by decide) (Nat.le_of_ble_eq_true rfl) rfl (fun E hB => ?_)
  refine l_tokA (S := S) hR hF hB B hx none none p (fun S0 f0 p0 => ?_) B.length p S (by omega) hpl rfl frT.rf hp
  have f0 := f0.mono (f2 := [4, 6, 7, 8]) (fun _ q => q) (by simp)
  refine X_aload_n (i := 0) hB dX12_token_31 rfl rfl ?_
  refine X_aload_n (i := 0) hB dX12_token_32 rfl rfl ?_
  refine X_geti hB cw10 fX12_72 rfl hR.1.1 hR.1.2 dX12_token_33 ?_
  refine X_topi (y := nI (tkB B p)) (p0) ?_
  refine X_puti hB cw10 fX12_82 rfl rfl hR.1.1 hR.1.2 dX12_token_36 ?_
  generalize hS1 : setI S0 h 6 (nI (tkB B p)) = S1
  have f1 : frT h [] [4, 6, 7, 8] S0 S1 := hS1 ▸ frT.fld (by simp)
  have p1 : S1.1 h 4 = nI (tkB B p) := by rw [← hS1, setI_ne _ _ (Or.inr (by decide))]; exact p0
  have b1 : S1.1 h 6 = nI (tkB B p) := by rw [← hS1, setI_at]
  clear hS1
  refine X_aload_n (i := 0) hB dX12_token_39 rfl rfl ?_
  refine X_callV hB kX12_78 cw10 hR.1.1 hR.1.2 (c_see hR (f1.ref (f0.ref hF)) B ((hx.fr f0 (by simp) (by simp)).fr f1 (by simp) (by simp)) (tkB B p) p1 hbl) (by decide) (by decide) rfl rfl (Nat.le_of_ble_eq_true rfl) dX12_token_40 (fun r40 S40 q40 => ?_)
  obtain ⟨rfl, rfl⟩ := q40
  refine X_istore_n (i := 1) hB dX12_token_43 rfl (by decide) rfl ?_
  refine X_aload_n (i := 0) hB dX12_token_44 rfl rfl ?_
  refine X_lconst (v := 0) hB dX12_token_45 (by decide) ?_
  refine X_putj hB cw10 fX12_85 rfl rfl hR.1.1 hR.1.2 dX12_token_46 ?_
  generalize hS2 : setJ S1 h 9 0 = S2
  have f2 : frT h [] [4, 6, 7, 8] S1 S2 := hS2 ▸ frT.fldJ
  have p2 : S2.1 h 4 = nI (tkB B p) := by rw [← hS2]; exact p1
  have b2 : S2.1 h 6 = nI (tkB B p) := by rw [← hS2]; exact b1
  have w2 : S2.2.1 h 9 = 0 := by rw [← hS2]; simp [setJ, ups]
  have hx2 := ((hx.fr f0 (by simp) (by simp)).fr f1 (by simp) (by simp)).fr f2 (by simp) (by simp)
  have hF2 := f2.ref (f1.ref (f0.ref hF))
  have f2' := f0.tr (f1.tr f2)
  clear hS2 f1 f2
  refine X_iconst (v := 0) hB dX12_token_49 (by decide) ?_
  refine X_istore_n (i := 2) hB dX12_token_50 rfl (by decide) rfl ?_
  refine X_iload_n (i := 1) hB dX12_token_51 rfl rfl ?_
  refine X_if_ge (tgt := 63) hB dX12_token_52 (by decide) (fun c52 => ?_) (fun c52 => ?_)
  · have e52 := (see_ge hx.2.2.1).mp c52
    refine X_iload_n (i := 1) hB dX12_token_63 rfl rfl ?_
    refine X_bipush (v := 97) hB dX12_token_64 (by decide) ?_
    refine X_bipush (v := 122) hB dX12_token_66 (by decide) ?_
    refine X_callS hB kX12_55 (c_in _ _ _) (by decide) (by decide) rfl rfl (Nat.le_of_ble_eq_true rfl) dX12_token_68 (fun r68 S68 q68 => ?_)
    obtain ⟨rfl, rfl⟩ := q68
    refine X_topi (y := if (tkB B p < B.length ∧ isLt (tkC B p) = true) then 1 else 0) (if_iff (by rw [isLt_iff]; exact see_in (lo := 97) (hi := 122) hx.2.2.1 (by decide) (by decide))) ?_
    refine X_if_eq (tgt := 147) hB dX12_token_71 (by decide) (fun c71 => ?_) (fun c71 => ?_)
    · have e71 : ¬ isLt (tkC B p) = true := fun q => if1n c71 ⟨e52, q⟩
      refine X_iload_n (i := 1) hB dX12_token_147 rfl rfl ?_
      refine X_bipush (v := 48) hB dX12_token_148 (by decide) ?_
      refine X_bipush (v := 57) hB dX12_token_150 (by decide) ?_
      refine X_callS hB kX12_55 (c_in _ _ _) (by decide) (by decide) rfl rfl (Nat.le_of_ble_eq_true rfl) dX12_token_152 (fun r152 S152 q152 => ?_)
      obtain ⟨rfl, rfl⟩ := q152
      refine X_topi (y := if (tkB B p < B.length ∧ isDg (tkC B p) = true) then 1 else 0) (if_iff (by rw [isDg_iff]; exact see_in (lo := 48) (hi := 57) hx.2.2.1 (by decide) (by decide))) ?_
      refine X_if_eq (tgt := 241) hB dX12_token_155 (by decide) (fun c155 => ?_) (fun c155 => ?_)
      · have e155 : ¬ isDg (tkC B p) = true := fun q => if1n c155 ⟨e52, q⟩
        refine X_aload_n (i := 0) hB dX12_token_241 rfl rfl ?_
        refine X_dup hB dX12_token_242 rfl ?_
        refine X_geti hB cw10 fX12_72 rfl hR.1.1 hR.1.2 dX12_token_243 ?_
        refine X_topi (y := nI (tkB B p)) (p2) ?_
        refine X_iconst (v := 1) hB dX12_token_246 (by decide) ?_
        refine X_iadd hB dX12_token_247 ?_
        refine X_puti hB cw10 fX12_72 rfl rfl hR.1.1 hR.1.2 dX12_token_248 ?_
        generalize hS5 : setI S2 h 4 _ = S5
        have f5 : frT h [] [4, 6, 7, 8] S2 S5 := hS5 ▸ frT.fld (by simp)
        have p5 : S5.1 h 4 = nI (tkB B p + 1) := by rw [← hS5, setI_at, nI_1]
        have b5 : S5.1 h 6 = nI (tkB B p) := by rw [← hS5, setI_ne _ _ (Or.inr (by decide))]; exact b2
        have eE : tkE B p = tkB B p + 1 := by unfold tkE; rw [if_neg (by omega), if_neg e71, if_neg e155]
        clear hS5
        refine X_aload_n (i := 0) hB dX12_token_251 rfl rfl ?_
        refine X_iload_n (i := 1) hB dX12_token_252 rfl rfl ?_
        refine X_bipush (v := 59) hB dX12_token_253 (by decide) ?_
        refine X_icmp_ne (tgt := 262) hB dX12_token_255 (by decide) (fun c255 => ?_) (fun c255 => ?_)
        · refine X_iconst (v := 1) hB dX12_token_262 (by decide) ?_
          have eK : tkK B p = if tkC B p = 59 then 4 else 1 := by unfold tkK; rw [if_neg (by omega), if_neg e71, if_neg e155]
          refine X_topi (y := nI (tkK B p)) (by
            rw [eK]
            first
              | (rw [if_pos (show tkC B p = 59 from ((see_eq (c := 59) hx.2.2.1 (by decide)).mp c255).2)]; rfl)
              | (rw [if_neg (show ¬ tkC B p = 59 from fun q => c255 ((see_eq (c := 59) hx.2.2.1 (by decide)).mpr ⟨e52, q⟩))]; rfl)) ?_
          refine X_puti hB cw10 fX12_89 rfl rfl hR.1.1 hR.1.2 dX12_token_263 ?_
          refine X_vret hB rfl dX12_token_266 ?_
          first
            | (refine ⟨rfl, f2'.tr (frT.fld (by simp)), ?_, ?_, ?_, ?_, ?_⟩
               · rw [setI_ne _ _ (Or.inr (by decide)), eE]; exact p2
               · rw [setI_ne _ _ (Or.inr (by decide))]; exact b2
               · rw [setI_at, eK]; rfl
               · intro q; rw [eK] at q; cases q
               · intro q; rw [eK] at q; cases q)
            | (refine ⟨rfl, f2'.tr (f5.tr (frT.fld (by simp))), ?_, ?_, ?_, ?_, ?_⟩
               · rw [setI_ne _ _ (Or.inr (by decide)), eE]; exact p5
               · rw [setI_ne _ _ (Or.inr (by decide))]; exact b5
               · rw [setI_at]
               · intro q; rw [eK] at q; (split at q <;> cases q)
               · intro q; rw [eK] at q; (split at q <;> cases q))
        · refine X_iconst (v := 4) hB dX12_token_258 (by decide) ?_
          refine X_goto (tgt := 263) hB dX12_token_259 (by decide) ?_
          have eK : tkK B p = if tkC B p = 59 then 4 else 1 := by unfold tkK; rw [if_neg (by omega), if_neg e71, if_neg e155]
          refine X_topi (y := nI (tkK B p)) (by
            rw [eK]
            first
              | (rw [if_pos (show tkC B p = 59 from ((see_eq (c := 59) hx.2.2.1 (by decide)).mp c255).2)]; rfl)
              | (rw [if_neg (show ¬ tkC B p = 59 from fun q => c255 ((see_eq (c := 59) hx.2.2.1 (by decide)).mpr ⟨e52, q⟩))]; rfl)) ?_
          refine X_puti hB cw10 fX12_89 rfl rfl hR.1.1 hR.1.2 dX12_token_263 ?_
          refine X_vret hB rfl dX12_token_266 ?_
          first
            | (refine ⟨rfl, f2'.tr (frT.fld (by simp)), ?_, ?_, ?_, ?_, ?_⟩
               · rw [setI_ne _ _ (Or.inr (by decide)), eE]; exact p2
               · rw [setI_ne _ _ (Or.inr (by decide))]; exact b2
               · rw [setI_at, eK]; rfl
               · intro q; rw [eK] at q; cases q
               · intro q; rw [eK] at q; cases q)
            | (refine ⟨rfl, f2'.tr (f5.tr (frT.fld (by simp))), ?_, ?_, ?_, ?_, ?_⟩
               · rw [setI_ne _ _ (Or.inr (by decide)), eE]; exact p5
               · rw [setI_ne _ _ (Or.inr (by decide))]; exact b5
               · rw [setI_at]
               · intro q; rw [eK] at q; (split at q <;> cases q)
               · intro q; rw [eK] at q; (split at q <;> cases q))
      · refine X_aload_n (i := 0) hB dX12_token_158 rfl rfl ?_
        refine X_iconst (v := 0) hB dX12_token_159 (by decide) ?_
        refine X_puti hB cw10 fX12_92 rfl rfl hR.1.1 hR.1.2 dX12_token_160 ?_
        have e155 : isDg (tkC B p) = true := (if1 c155).2
        generalize hSv : setI S2 h 8 0 = Sv
        have fv : frT h [] [4, 8] S2 Sv := hSv ▸ frT.fld (by simp)
        have pv : Sv.1 h 4 = nI (tkB B p) := by rw [← hSv, setI_ne _ _ (Or.inr (by decide))]; exact p2
        have bv : Sv.1 h 6 = nI (tkB B p) := by rw [← hSv, setI_ne _ _ (Or.inr (by decide))]; exact b2
        have vv : Sv.1 h 8 = 0 := by rw [← hSv, setI_at]
        clear hSv
        refine X_lv ?_ (l_tokD (S := Sv) hR (fv.ref hF2) hB B (hx2.fr fv (by simp) (by simp)) (chN B (tkB B p)) (tkB B p) (fun S3 f3 p3 w3 => ?_) B.length (tkB B p) Sv (by omega) hbl (Nat.le_refl _) rfl frT.rf pv (by rw [sub_nil]; exact vv))
        · rw [Nat.sub_self, nI_0]; rfl
        have eE : tkE B p = runE isDg B (tkB B p) := by unfold tkE; rw [if_neg (by omega), if_neg e71, if_pos e155]
        have eK : tkK B p = if runE isDg B (tkB B p) - tkB B p ≤ 2 then 3 else 1 := by unfold tkK; rw [if_neg (by omega), if_neg e71, if_pos e155]
        have eL : (sub B (tkB B p) (runE isDg B (tkB B p))).length = runE isDg B (tkB B p) - tkB B p := sub_len (runE_le hbl)
        have e4 : runE isDg B (tkB B p) ≤ B.length := runE_le hbl
        have b3 : S3.1 h 6 = nI (tkB B p) := (f3.2.2.2 6 (by simp)).trans bv
        have f3 := (fv.tr f3).mono (f2 := [4, 6, 7, 8]) (fun _ q => q) (by simp)
        refine X_aload_n (i := 0) hB dX12_token_224 rfl rfl ?_
        refine X_iload_n (i := 2) hB dX12_token_225 rfl rfl ?_
        refine X_iconst (v := 2) hB dX12_token_226 (by decide) ?_
        refine X_icmp_le (tgt := 234) hB dX12_token_227 (by decide) (fun c227 => ?_) (fun c227 => ?_)
        · refine X_iconst (v := 3) hB dX12_token_234 (by decide) ?_
          refine X_topi (y := nI (tkK B p)) (by
            rw [eK]
            rw [show (2 : Int32) = nI 2 from rfl, nI_leI (by omega) (by omega)] at c227
            first
              | (rw [if_pos c227]; rfl)
              | (rw [if_neg c227]; rfl)) ?_
          refine X_puti hB cw10 fX12_89 rfl rfl hR.1.1 hR.1.2 dX12_token_235 ?_
          refine X_goto (tgt := 266) hB dX12_token_238 (by decide) ?_
          refine X_vret hB rfl dX12_token_266 ?_
          refine ⟨rfl, f2'.tr (f3.tr (frT.fld (by simp))), ?_, ?_, ?_, ?_, ?_⟩
          · rw [setI_ne _ _ (Or.inr (by decide)), eE]; exact p3
          · rw [setI_ne _ _ (Or.inr (by decide))]; exact b3
          · rw [setI_at]
          · intro q; rw [setI_ne _ _ (Or.inr (by decide)), w3]; unfold tkV; rw [eE]; rw [eK] at q; (split at q; (rw [List.take_of_length_le (by omega)]); (cases q))
          · intro q; rw [eK] at q; (split at q <;> cases q)
        · refine X_iconst (v := 1) hB dX12_token_230 (by decide) ?_
          refine X_goto (tgt := 235) hB dX12_token_231 (by decide) ?_
          refine X_topi (y := nI (tkK B p)) (by
            rw [eK]
            rw [show (2 : Int32) = nI 2 from rfl, nI_leI (by omega) (by omega)] at c227
            first
              | (rw [if_pos c227]; rfl)
              | (rw [if_neg c227]; rfl)) ?_
          refine X_puti hB cw10 fX12_89 rfl rfl hR.1.1 hR.1.2 dX12_token_235 ?_
          refine X_goto (tgt := 266) hB dX12_token_238 (by decide) ?_
          refine X_vret hB rfl dX12_token_266 ?_
          refine ⟨rfl, f2'.tr (f3.tr (frT.fld (by simp))), ?_, ?_, ?_, ?_, ?_⟩
          · rw [setI_ne _ _ (Or.inr (by decide)), eE]; exact p3
          · rw [setI_ne _ _ (Or.inr (by decide))]; exact b3
          · rw [setI_at]
          · intro q; rw [setI_ne _ _ (Or.inr (by decide)), w3]; unfold tkV; rw [eE]; rw [eK] at q; (split at q; (rw [List.take_of_length_le (by omega)]); (cases q))
          · intro q; rw [eK] at q; (split at q <;> cases q)
    · have e71 : isLt (tkC B p) = true := (if1 c71).2
      refine X_lv ?_ (l_tokL (S := S2) hR hF2 hB B hx2 (chN B (tkB B p)) (tkB B p) (fun S3 f3 p3 w3 => ?_) B.length (tkB B p) S2 (by omega) hbl (Nat.le_refl _) rfl frT.rf p2 (fun _ => by rw [sub_nil]; exact w2))
      · rw [Nat.sub_self, nI_0]; rfl
      have eE : tkE B p = runE isLt B (tkB B p) := by unfold tkE; rw [if_neg (by omega), if_pos e71]
      have eK : tkK B p = 2 := by unfold tkK; rw [if_neg (by omega), if_pos e71]
      have eW : tkW B p = sub B (tkB B p) (runE isLt B (tkB B p)) := by unfold tkW; rw [if_pos eK, eE]
      have eL : (sub B (tkB B p) (runE isLt B (tkB B p))).length = runE isLt B (tkB B p) - tkB B p := sub_len (runE_le hbl)
      have e4 : runE isLt B (tkB B p) ≤ B.length := runE_le hbl
      have b3 : S3.1 h 6 = nI (tkB B p) := (f3.2.2.2 6 (by simp)).trans b2
      have f3 := f3.mono (f2 := [4, 6, 7, 8]) (fun _ q => q) (by simp)
      refine X_aload_n (i := 0) hB dX12_token_121 rfl rfl ?_
      refine X_iload_n (i := 2) hB dX12_token_122 rfl rfl ?_
      refine X_bipush (v := 8) hB dX12_token_123 (by decide) ?_
      refine X_icmp_le (tgt := 132) hB dX12_token_125 (by decide) (fun c125 => ?_) (fun c125 => ?_)
      · have e125 : runE isLt B (tkB B p) - tkB B p ≤ 8 := by
          rw [show (8 : Int32) = nI 8 from rfl, nI_leI (by omega) (by omega)] at c125
          exact c125
        refine X_aload_n (i := 0) hB dX12_token_132 rfl rfl ?_
        refine X_getj hB cw10 fX12_85 rfl hR.1.1 hR.1.2 dX12_token_133 ?_
        refine X_topl (y := wd (tkW B p)) (by
          rw [eW]; unfold wd
          first
            | (rw [if_pos (by omega)]; exact w3 (by omega))
            | rw [if_neg (by omega)]) ?_
        refine X_putj hB cw10 fX12_85 rfl rfl hR.1.1 hR.1.2 dX12_token_136 ?_
        refine X_aload_n (i := 0) hB dX12_token_139 rfl rfl ?_
        refine X_iconst (v := 2) hB dX12_token_140 (by decide) ?_
        refine X_puti hB cw10 fX12_89 rfl rfl hR.1.1 hR.1.2 dX12_token_141 ?_
        refine X_goto (tgt := 266) hB dX12_token_144 (by decide) ?_
        refine X_vret hB rfl dX12_token_266 ?_
        refine ⟨rfl, f2'.tr (f3.tr (frT.fldJ.tr (frT.fld (by simp)))), ?_, ?_, ?_, ?_, ?_⟩
        · rw [setI_ne _ _ (Or.inr (by decide)), eE]; exact p3
        · rw [setI_ne _ _ (Or.inr (by decide))]; exact b3
        · rw [setI_at, eK]; rfl
        · intro q; rw [eK] at q; cases q
        · intro _; simp [setI, setJ, ups]
      · have e125 : ¬ (runE isLt B (tkB B p) - tkB B p ≤ 8) := by
          rw [show (8 : Int32) = nI 8 from rfl, nI_leI (by omega) (by omega)] at c125
          exact c125
        refine X_lconst (v := 0) hB dX12_token_128 (by decide) ?_
        refine X_goto (tgt := 136) hB dX12_token_129 (by decide) ?_
        refine X_topl (y := wd (tkW B p)) (by
          rw [eW]; unfold wd
          first
            | (rw [if_pos (by omega)]; exact w3 (by omega))
            | rw [if_neg (by omega)]) ?_
        refine X_putj hB cw10 fX12_85 rfl rfl hR.1.1 hR.1.2 dX12_token_136 ?_
        refine X_aload_n (i := 0) hB dX12_token_139 rfl rfl ?_
        refine X_iconst (v := 2) hB dX12_token_140 (by decide) ?_
        refine X_puti hB cw10 fX12_89 rfl rfl hR.1.1 hR.1.2 dX12_token_141 ?_
        refine X_goto (tgt := 266) hB dX12_token_144 (by decide) ?_
        refine X_vret hB rfl dX12_token_266 ?_
        refine ⟨rfl, f2'.tr (f3.tr (frT.fldJ.tr (frT.fld (by simp)))), ?_, ?_, ?_, ?_, ?_⟩
        · rw [setI_ne _ _ (Or.inr (by decide)), eE]; exact p3
        · rw [setI_ne _ _ (Or.inr (by decide))]; exact b3
        · rw [setI_at, eK]; rfl
        · intro q; rw [eK] at q; cases q
        · intro _; simp [setI, setJ, ups]
  · have e52 : ¬ tkB B p < B.length := fun q => c52 ((see_ge hx.2.2.1).mpr q)
    have eK : tkK B p = 0 := tkK_end.mpr (by omega)
    have eE : tkE B p = tkB B p := by unfold tkE; rw [if_pos (by omega)]
    refine X_aload_n (i := 0) hB dX12_token_55 rfl rfl ?_
    refine X_iconst (v := 0) hB dX12_token_56 (by decide) ?_
    refine X_puti hB cw10 fX12_89 rfl rfl hR.1.1 hR.1.2 dX12_token_57 ?_
    refine X_goto (tgt := 266) hB dX12_token_60 (by decide) ?_
    refine X_vret hB rfl dX12_token_266 ?_
    first
      | (refine ⟨rfl, f2'.tr (frT.fld (by simp)), ?_, ?_, ?_, ?_, ?_⟩
         · rw [setI_ne _ _ (Or.inr (by decide)), eE]; exact p2
         · rw [setI_ne _ _ (Or.inr (by decide))]; exact b2
         · rw [setI_at, eK]; rfl
         · intro q; rw [eK] at q; cases q
         · intro q; rw [eK] at q; cases q)
      | (refine ⟨rfl, f2'.tr (f5.tr (frT.fld (by simp))), ?_, ?_, ?_, ?_, ?_⟩
         · rw [setI_ne _ _ (Or.inr (by decide)), eE]; exact p5
         · rw [setI_ne _ _ (Or.inr (by decide))]; exact b5
         · rw [setI_at]
         · intro q; rw [eK] at q; (split at q <;> cases q)
         · intro q; rw [eK] at q; (split at q <;> cases q))
end REF
