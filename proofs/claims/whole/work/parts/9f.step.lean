/-! the class: the reader goes on to the next token -/
def RdLay (G : Gc) (d : Nat) : Prop := (d ∈ gL G ∧ gK G d = .inl 5) ∧ (d + 1 ∈ gL G ∧ gK G (d + 1) = .inr (0, 8)) ∧ (d + 2 ∈ gL G ∧ gK G (d + 2) = .inr (0, 8))
def rdF (S : St) (d x : Nat) : Prop := S.2.2 d 0 = some (d + 1) ∧ S.2.2 d 11 = some (d + 2) ∧ S.2.2 d 6 = some x
def kdC (k : Nat) : Nat := if k = 0 then 3 else if k = 2 then 0 else if k = 3 then 1 else if k = 4 then 2 else 4
def tkQ (S : St) (d : Nat) (B : List Nat) (p : Nat) : Prop := S.1 d 7 = nI (kdC (tkK B p)) ∧ S.1 d 8 = nI (tkB B p) ∧ (tkK B p ≠ 1 → S.1 d 9 = nI (tkE B p))
/-- what a step leaves as it was -/
def stK (d : Nat) (S S' : St) : Prop := S'.2 = S.2 ∧ (∀ a, a ≠ d → S'.1 a = S.1 a) ∧ ∀ k, k ≠ 7 → k ≠ 8 → k ≠ 9 → S'.1 d k = S.1 d k
theorem stK.rf {d : Nat} {S : St} : stK d S S := ⟨rfl, fun _ _ => rfl, fun _ _ _ _ => rfl⟩
theorem stK.tr {d : Nat} {S S1 S2 : St} (a : stK d S S1) (b : stK d S1 S2) : stK d S S2 := ⟨b.1.trans a.1, fun x hx => (b.2.1 x hx).trans (a.2.1 x hx), fun k h1 h2 h3 => (b.2.2 k h1 h2 h3).trans (a.2.2 k h1 h2 h3)⟩
theorem stK.set {d k : Nat} {S : St} {v : Int32} (hk : k = 7 ∨ k = 8 ∨ k = 9) : stK d S (setI S d k v) := ⟨rfl, fun a ha => setI_row _ _ _ ha, fun j h1 h2 h3 => setI_ne _ _ (Or.inr (by omega))⟩
theorem stK.F {d x : Nat} {S S' : St} (a : stK d S S') (h : rdF S d x) : rdF S' d x := by unfold rdF; rw [a.1]; exact h
theorem stK.C {d : Nat} {S S' : St} (a : stK d S S') : chg d (d + 1) S S' := fun b hb => ⟨a.2.1 b (by omega), by rw [a.1], by rw [a.1]⟩
theorem stK.T {d x : Nat} {S S' : St} {B : List Nat} (a : stK d S S') (h : txC S x B) (hdx : x + 2 ≤ d ∨ d + 3 ≤ x) : txC S' x B := h.chg a.C (by omega)
section CLS
variable {G : Gc} {S : St}
set_option maxRecDepth 100000 in
set_option maxHeartbeats 4000000 in
theorem c_X6_isBlank (B : List Nat) (hB8 : ∀ c ∈ B, 0 < c ∧ c < 256) (p : Nat) : C G mX6_isBlank 0 [.int (chN B p)] S (fun r S' => r = some (.int (if p < B.length ∧ isBl (B.getD p 0) = true then 1 else 0)) ∧ S = S') := by
  refine C.mk (lv := [some (.int (chN B p))]) (by decide) (Nat.le_of_ble_eq_true rfl) rfl (fun E hB => ?_)
  refine X_iload_n (i := 0) hB dX6_isBlank_0 rfl rfl ?_
  refine X_bipush (v := 32) hB dX6_isBlank_1 (by decide) ?_
  refine X_icmp_eq (tgt := 12) hB dX6_isBlank_3 (by decide) (fun c3 => ?_) (fun c3 => ?_)
  · refine X_iconst (v := 1) hB dX6_isBlank_12 (by decide) ?_
    refine X_goto (tgt := 17) hB dX6_isBlank_13 (by decide) ?_
    refine X_zret hB rfl (by first | exact Or.inl rfl | exact Or.inr rfl) dX6_isBlank_17 ?_
    refine ⟨?_, rfl⟩
    rw [if_pos]
    first
      | (have h := (see_eq (c := 32) hB8 (by decide)).mp c3; exact ⟨h.1, isBl_iff.mpr (Or.inr h.2)⟩)
      | (have h := (see_eq (c := 10) hB8 (by decide)).mp c9; exact ⟨h.1, isBl_iff.mpr (Or.inl h.2)⟩)
  · refine X_iload_n (i := 0) hB dX6_isBlank_6 rfl rfl ?_
    refine X_bipush (v := 10) hB dX6_isBlank_7 (by decide) ?_
    refine X_icmp_ne (tgt := 16) hB dX6_isBlank_9 (by decide) (fun c9 => ?_) (fun c9 => ?_)
    · refine X_iconst (v := 0) hB dX6_isBlank_16 (by decide) ?_
      refine X_zret hB rfl (by first | exact Or.inl rfl | exact Or.inr rfl) dX6_isBlank_17 ?_
      refine ⟨?_, rfl⟩
      rw [if_neg]
      rintro ⟨h1, h2⟩
      rcases isBl_iff.mp h2 with h | h
      · exact c9 ((see_eq (c := 10) hB8 (by decide)).mpr ⟨h1, h⟩)
      · exact c3 ((see_eq (c := 32) hB8 (by decide)).mpr ⟨h1, h⟩)
    · refine X_iconst (v := 1) hB dX6_isBlank_12 (by decide) ?_
      refine X_goto (tgt := 17) hB dX6_isBlank_13 (by decide) ?_
      refine X_zret hB rfl (by first | exact Or.inl rfl | exact Or.inr rfl) dX6_isBlank_17 ?_
      refine ⟨?_, rfl⟩
      rw [if_pos]
      first
        | (have h := (see_eq (c := 32) hB8 (by decide)).mp c3; exact ⟨h.1, isBl_iff.mpr (Or.inr h.2)⟩)
        | (have h := (see_eq (c := 10) hB8 (by decide)).mp c9; exact ⟨h.1, isBl_iff.mpr (Or.inl h.2)⟩)
set_option maxRecDepth 100000 in
set_option maxHeartbeats 4000000 in
theorem c_X6_isLetter (B : List Nat) (hB8 : ∀ c ∈ B, 0 < c ∧ c < 256) (p : Nat) : C G mX6_isLetter 0 [.int (chN B p)] S (fun r S' => r = some (.int (if p < B.length ∧ isLt (B.getD p 0) = true then 1 else 0)) ∧ S = S') := by
  refine C.mk (lv := [some (.int (chN B p))]) (by decide) (Nat.le_of_ble_eq_true rfl) rfl (fun E hB => ?_)
  refine X_iload_n (i := 0) hB dX6_isLetter_0 rfl rfl ?_
  refine X_bipush (v := 97) hB dX6_isLetter_1 (by decide) ?_
  refine X_icmp_lt (tgt := 16) hB dX6_isLetter_3 (by decide) (fun c3 => ?_) (fun c3 => ?_)
  · refine X_iconst (v := 0) hB dX6_isLetter_16 (by decide) ?_
    refine X_zret hB rfl (by first | exact Or.inl rfl | exact Or.inr rfl) dX6_isLetter_17 ?_
    refine ⟨?_, rfl⟩
    rw [if_neg]
    rintro ⟨h1, h2⟩
    have h := (see_in (lo := 97) (hi := 122) hB8 (by decide) (by decide)).mpr ⟨h1, isLt_iff.mp h2⟩
    first
      | exact absurd h.1 (Int32.not_le.mpr c3)
      | exact absurd h.2 (Int32.not_le.mpr c9)
  · refine X_iload_n (i := 0) hB dX6_isLetter_6 rfl rfl ?_
    refine X_bipush (v := 122) hB dX6_isLetter_7 (by decide) ?_
    refine X_icmp_gt (tgt := 16) hB dX6_isLetter_9 (by decide) (fun c9 => ?_) (fun c9 => ?_)
    · refine X_iconst (v := 0) hB dX6_isLetter_16 (by decide) ?_
      refine X_zret hB rfl (by first | exact Or.inl rfl | exact Or.inr rfl) dX6_isLetter_17 ?_
      refine ⟨?_, rfl⟩
      rw [if_neg]
      rintro ⟨h1, h2⟩
      have h := (see_in (lo := 97) (hi := 122) hB8 (by decide) (by decide)).mpr ⟨h1, isLt_iff.mp h2⟩
      first
        | exact absurd h.1 (Int32.not_le.mpr c3)
        | exact absurd h.2 (Int32.not_le.mpr c9)
    · refine X_iconst (v := 1) hB dX6_isLetter_12 (by decide) ?_
      refine X_goto (tgt := 17) hB dX6_isLetter_13 (by decide) ?_
      refine X_zret hB rfl (by first | exact Or.inl rfl | exact Or.inr rfl) dX6_isLetter_17 ?_
      refine ⟨?_, rfl⟩
      rw [if_pos]
      have h := (see_in (lo := 97) (hi := 122) hB8 (by decide) (by decide)).mp ⟨Int32.not_lt.mp c3, Int32.not_lt.mp c9⟩
      exact ⟨h.1, isLt_iff.mpr h.2⟩
set_option maxRecDepth 100000 in
set_option maxHeartbeats 4000000 in
theorem c_X6_isDigit (B : List Nat) (hB8 : ∀ c ∈ B, 0 < c ∧ c < 256) (p : Nat) : C G mX6_isDigit 0 [.int (chN B p)] S (fun r S' => r = some (.int (if p < B.length ∧ isDg (B.getD p 0) = true then 1 else 0)) ∧ S = S') := by
  refine C.mk (lv := [some (.int (chN B p))]) (by decide) (Nat.le_of_ble_eq_true rfl) rfl (fun E hB => ?_)
  refine X_iload_n (i := 0) hB dX6_isDigit_0 rfl rfl ?_
  refine X_bipush (v := 48) hB dX6_isDigit_1 (by decide) ?_
  refine X_icmp_lt (tgt := 16) hB dX6_isDigit_3 (by decide) (fun c3 => ?_) (fun c3 => ?_)
  · refine X_iconst (v := 0) hB dX6_isDigit_16 (by decide) ?_
    refine X_zret hB rfl (by first | exact Or.inl rfl | exact Or.inr rfl) dX6_isDigit_17 ?_
    refine ⟨?_, rfl⟩
    rw [if_neg]
    rintro ⟨h1, h2⟩
    have h := (see_in (lo := 48) (hi := 57) hB8 (by decide) (by decide)).mpr ⟨h1, isDg_iff.mp h2⟩
    first
      | exact absurd h.1 (Int32.not_le.mpr c3)
      | exact absurd h.2 (Int32.not_le.mpr c9)
  · refine X_iload_n (i := 0) hB dX6_isDigit_6 rfl rfl ?_
    refine X_bipush (v := 57) hB dX6_isDigit_7 (by decide) ?_
    refine X_icmp_gt (tgt := 16) hB dX6_isDigit_9 (by decide) (fun c9 => ?_) (fun c9 => ?_)
    · refine X_iconst (v := 0) hB dX6_isDigit_16 (by decide) ?_
      refine X_zret hB rfl (by first | exact Or.inl rfl | exact Or.inr rfl) dX6_isDigit_17 ?_
      refine ⟨?_, rfl⟩
      rw [if_neg]
      rintro ⟨h1, h2⟩
      have h := (see_in (lo := 48) (hi := 57) hB8 (by decide) (by decide)).mpr ⟨h1, isDg_iff.mp h2⟩
      first
        | exact absurd h.1 (Int32.not_le.mpr c3)
        | exact absurd h.2 (Int32.not_le.mpr c9)
    · refine X_iconst (v := 1) hB dX6_isDigit_12 (by decide) ?_
      refine X_goto (tgt := 17) hB dX6_isDigit_13 (by decide) ?_
      refine X_zret hB rfl (by first | exact Or.inl rfl | exact Or.inr rfl) dX6_isDigit_17 ?_
      refine ⟨?_, rfl⟩
      rw [if_pos]
      have h := (see_in (lo := 48) (hi := 57) hB8 (by decide) (by decide)).mp ⟨Int32.not_lt.mp c3, Int32.not_lt.mp c9⟩
      exact ⟨h.1, isDg_iff.mpr h.2⟩
set_option maxRecDepth 100000 in
set_option maxHeartbeats 4000000 in
theorem b_X6_step {E : Ev} (hB : Bd G E mX6_step) {Q : Option Value → St → Prop} (d x : Nat) (hL : RdLay G d) (hX : TxLay G x) (hdx : x + 2 ≤ d ∨ d + 3 ≤ x) (B : List Nat) (hF : rdF S d x) (hT : txC S x B) (p : Nat) (kk : ∀ S1, stK d S S1 → S1.1 d 8 = nI (tkB B p) → X G E mX6_step 1 Q S1 48 [some (.ref d), none] []) :
    ∀ (j q : Nat) (S1 : St), B.length ≤ q + j → q ≤ B.length → runE isBl B q = tkB B p → stK d S S1 → S1.1 d 8 = nI q → X G E mX6_step 1 Q S1 8 [some (.ref d), none] [] := by
  have h4 := hT.2.2.1
  intro j
  induction j with
  | zero =>
    intro q S1 h1 h2 h3 h5 h6
    have hT1 := h5.T hT hdx
    have hF1 := h5.F hF
    have e9 : tkB B p = q := by rw [← h3, runE_no (by omega)]
    rw [e9] at kk
    refine X_aload_n (i := 0) hB dX6_step_8 rfl rfl ?_
    refine X_geti hB cw5 fX6_72 rfl hL.1.1 hL.1.2 dX6_step_9 ?_
    refine X_topi (y := nI q) (h6) ?_
    refine X_sipush (v := 400) hB dX6_step_12 (by decide) ?_
    refine X_icmp_ge (tgt := 48) hB dX6_step_15 (by decide) (fun c15 => ?_) (fun c15 => ?_)
    · exact kk S1 h5 h6
    · refine X_aload_n (i := 0) hB dX6_step_18 rfl rfl ?_
      refine X_getr hB cw5 fX6_50 rfl hL.1.1 hL.1.2 hF1.2.2 dX6_step_19 ?_
      refine X_aload_n (i := 0) hB dX6_step_22 rfl rfl ?_
      refine X_geti hB cw5 fX6_72 rfl hL.1.1 hL.1.2 dX6_step_23 ?_
      refine X_topi (y := nI q) (h6) ?_
      refine X_callV hB kX6_75 cw7 hX.1.1 hX.1.2 (c_X9_byteAt x hX B hT1 q (by omega)) (by decide) (by decide) rfl rfl (Nat.le_of_ble_eq_true rfl) dX6_step_26 (fun r26 S26 q26 => ?_)
      obtain ⟨rfl, rfl⟩ := q26
      refine X_callS hB kX6_79 (c_X6_isBlank B hT.2.2.2.1 q) (by decide) (by decide) rfl rfl (Nat.le_of_ble_eq_true rfl) dX6_step_29 (fun r29 S29 q29 => ?_)
      obtain ⟨rfl, rfl⟩ := q29
      refine X_if_eq (tgt := 48) hB dX6_step_32 (by decide) (fun c32 => ?_) (fun c32 => absurd c32 (by rw [if_neg (by omega)]; exact not_not_intro rfl))
      exact kk S1 h5 h6
  | succ j ih =>
    intro q S1 h1 h2 h3 h5 h6
    have hT1 := h5.T hT hdx
    have hF1 := h5.F hF
    refine X_aload_n (i := 0) hB dX6_step_8 rfl rfl ?_
    refine X_geti hB cw5 fX6_72 rfl hL.1.1 hL.1.2 dX6_step_9 ?_
    refine X_topi (y := nI q) (h6) ?_
    refine X_sipush (v := 400) hB dX6_step_12 (by decide) ?_
    refine X_icmp_ge (tgt := 48) hB dX6_step_15 (by decide) (fun c15 => ?_) (fun c15 => ?_)
    · have e9 : tkB B p = q := by
        rw [← h3, runE_no]
        intro z
        rw [show (400 : Int32) = nI 400 from rfl, nI_leI (by omega) (by omega)] at c15
        omega
      rw [e9] at kk
      exact kk S1 h5 h6
    · refine X_aload_n (i := 0) hB dX6_step_18 rfl rfl ?_
      refine X_getr hB cw5 fX6_50 rfl hL.1.1 hL.1.2 hF1.2.2 dX6_step_19 ?_
      refine X_aload_n (i := 0) hB dX6_step_22 rfl rfl ?_
      refine X_geti hB cw5 fX6_72 rfl hL.1.1 hL.1.2 dX6_step_23 ?_
      refine X_topi (y := nI q) (h6) ?_
      refine X_callV hB kX6_75 cw7 hX.1.1 hX.1.2 (c_X9_byteAt x hX B hT1 q (by omega)) (by decide) (by decide) rfl rfl (Nat.le_of_ble_eq_true rfl) dX6_step_26 (fun r26 S26 q26 => ?_)
      obtain ⟨rfl, rfl⟩ := q26
      refine X_callS hB kX6_79 (c_X6_isBlank B hT.2.2.2.1 q) (by decide) (by decide) rfl rfl (Nat.le_of_ble_eq_true rfl) dX6_step_29 (fun r29 S29 q29 => ?_)
      obtain ⟨rfl, rfl⟩ := q29
      refine X_if_eq (tgt := 48) hB dX6_step_32 (by decide) (fun c32 => ?_) (fun c32 => ?_)
      · have e9 : tkB B p = q := by
          rw [← h3, runE_no]
          intro z
          rw [if_pos z] at c32
          exact absurd c32 (by decide)
        rw [e9] at kk
        exact kk S1 h5 h6
      · have e32 : q < B.length ∧ isBl (B.getD q 0) = true := Classical.byContradiction (fun z => c32 (by rw [if_neg z]))
        refine X_aload_n (i := 0) hB dX6_step_35 rfl rfl ?_
        refine X_dup hB dX6_step_36 rfl ?_
        refine X_geti hB cw5 fX6_72 rfl hL.1.1 hL.1.2 dX6_step_37 ?_
        refine X_topi (y := nI q) (h6) ?_
        refine X_iconst (v := 1) hB dX6_step_40 (by decide) ?_
        refine X_iadd hB dX6_step_41 ?_
        refine X_topi (y := nI (q + 1)) (by first | rfl | (simp (disch := omega) only [nlit, nI_add, nI_mul, nI_sub]; done) | (simp (disch := omega) only [nlit, nI_add, nI_mul, nI_sub]; (congr 1 <;> omega))) ?_
        refine X_puti hB cw5 fX6_72 rfl rfl hL.1.1 hL.1.2 dX6_step_42 ?_
        refine X_goto (tgt := 8) hB dX6_step_45 (by decide) ?_
        exact ih (q + 1) _ (by omega) (by omega) (by rw [← runE_st e32.1 e32.2]; exact h3) (h5.tr (stK.set (by decide))) (setI_at _ _ _ _)
set_option maxRecDepth 100000 in
set_option maxHeartbeats 4000000 in
theorem l_X6_step {E : Ev} (hB : Bd G E mX6_step) {Q : Option Value → St → Prop} (d x : Nat) (hL : RdLay G d) (hX : TxLay G x) (hdx : x + 2 ≤ d ∨ d + 3 ≤ x) (B : List Nat) (hF : rdF S d x) (hT : txC S x B) (w : Option Value) (p : Nat) (kk : ∀ S1, stK d S S1 → S1.1 d 9 = nI (runE isLt B p) → S1.1 d 7 = S.1 d 7 → S1.1 d 8 = S.1 d 8 → X G E mX6_step 1 Q S1 232 [some (.ref d), w] []) :
    ∀ (j q : Nat) (S1 : St), B.length ≤ q + j → q ≤ B.length → runE isLt B q = runE isLt B p → stK d S S1 → S1.1 d 9 = nI q → S1.1 d 7 = S.1 d 7 → S1.1 d 8 = S.1 d 8 → X G E mX6_step 1 Q S1 117 [some (.ref d), w] [] := by
  have h4 := hT.2.2.1
  intro j
  induction j with
  | zero =>
    intro q S1 h1 h2 h3 h5 h6 h7 h8
    have hT1 := h5.T hT hdx
    have hF1 := h5.F hF
    have e9 : runE isLt B p = q := by rw [← h3, runE_no (by omega)]
    rw [e9] at kk
    refine X_aload_n (i := 0) hB dX6_step_117 rfl rfl ?_
    refine X_geti hB cw5 fX6_54 rfl hL.1.1 hL.1.2 dX6_step_118 ?_
    refine X_topi (y := nI q) (h6) ?_
    refine X_sipush (v := 400) hB dX6_step_121 (by decide) ?_
    refine X_icmp_ge (tgt := 232) hB dX6_step_124 (by decide) (fun c124 => ?_) (fun c124 => ?_)
    · exact kk S1 h5 h6 h7 h8
    · refine X_aload_n (i := 0) hB dX6_step_127 rfl rfl ?_
      refine X_getr hB cw5 fX6_50 rfl hL.1.1 hL.1.2 hF1.2.2 dX6_step_128 ?_
      refine X_aload_n (i := 0) hB dX6_step_131 rfl rfl ?_
      refine X_geti hB cw5 fX6_54 rfl hL.1.1 hL.1.2 dX6_step_132 ?_
      refine X_topi (y := nI q) (h6) ?_
      refine X_callV hB kX6_75 cw7 hX.1.1 hX.1.2 (c_X9_byteAt x hX B hT1 q (by omega)) (by decide) (by decide) rfl rfl (Nat.le_of_ble_eq_true rfl) dX6_step_135 (fun r135 S135 q135 => ?_)
      obtain ⟨rfl, rfl⟩ := q135
      refine X_callS hB kX6_83 (c_X6_isLetter B hT.2.2.2.1 q) (by decide) (by decide) rfl rfl (Nat.le_of_ble_eq_true rfl) dX6_step_138 (fun r138 S138 q138 => ?_)
      obtain ⟨rfl, rfl⟩ := q138
      refine X_if_eq (tgt := 232) hB dX6_step_141 (by decide) (fun c141 => ?_) (fun c141 => absurd c141 (by rw [if_neg (by omega)]; exact not_not_intro rfl))
      exact kk S1 h5 h6 h7 h8
  | succ j ih =>
    intro q S1 h1 h2 h3 h5 h6 h7 h8
    have hT1 := h5.T hT hdx
    have hF1 := h5.F hF
    refine X_aload_n (i := 0) hB dX6_step_117 rfl rfl ?_
    refine X_geti hB cw5 fX6_54 rfl hL.1.1 hL.1.2 dX6_step_118 ?_
    refine X_topi (y := nI q) (h6) ?_
    refine X_sipush (v := 400) hB dX6_step_121 (by decide) ?_
    refine X_icmp_ge (tgt := 232) hB dX6_step_124 (by decide) (fun c124 => ?_) (fun c124 => ?_)
    · have e9 : runE isLt B p = q := by
        rw [← h3, runE_no]
        intro z
        rw [show (400 : Int32) = nI 400 from rfl, nI_leI (by omega) (by omega)] at c124
        omega
      rw [e9] at kk
      exact kk S1 h5 h6 h7 h8
    · refine X_aload_n (i := 0) hB dX6_step_127 rfl rfl ?_
      refine X_getr hB cw5 fX6_50 rfl hL.1.1 hL.1.2 hF1.2.2 dX6_step_128 ?_
      refine X_aload_n (i := 0) hB dX6_step_131 rfl rfl ?_
      refine X_geti hB cw5 fX6_54 rfl hL.1.1 hL.1.2 dX6_step_132 ?_
      refine X_topi (y := nI q) (h6) ?_
      refine X_callV hB kX6_75 cw7 hX.1.1 hX.1.2 (c_X9_byteAt x hX B hT1 q (by omega)) (by decide) (by decide) rfl rfl (Nat.le_of_ble_eq_true rfl) dX6_step_135 (fun r135 S135 q135 => ?_)
      obtain ⟨rfl, rfl⟩ := q135
      refine X_callS hB kX6_83 (c_X6_isLetter B hT.2.2.2.1 q) (by decide) (by decide) rfl rfl (Nat.le_of_ble_eq_true rfl) dX6_step_138 (fun r138 S138 q138 => ?_)
      obtain ⟨rfl, rfl⟩ := q138
      refine X_if_eq (tgt := 232) hB dX6_step_141 (by decide) (fun c141 => ?_) (fun c141 => ?_)
      · have e9 : runE isLt B p = q := by
          rw [← h3, runE_no]
          intro z
          rw [if_pos z] at c141
          exact absurd c141 (by decide)
        rw [e9] at kk
        exact kk S1 h5 h6 h7 h8
      · have ei : q < B.length ∧ isLt (B.getD q 0) = true := Classical.byContradiction (fun z => c141 (by rw [if_neg z]))
        refine X_aload_n (i := 0) hB dX6_step_144 rfl rfl ?_
        refine X_dup hB dX6_step_145 rfl ?_
        refine X_geti hB cw5 fX6_54 rfl hL.1.1 hL.1.2 dX6_step_146 ?_
        refine X_topi (y := nI q) (h6) ?_
        refine X_iconst (v := 1) hB dX6_step_149 (by decide) ?_
        refine X_iadd hB dX6_step_150 ?_
        refine X_topi (y := nI (q + 1)) (by first | rfl | (simp (disch := omega) only [nlit, nI_add, nI_mul, nI_sub]; done) | (simp (disch := omega) only [nlit, nI_add, nI_mul, nI_sub]; (congr 1 <;> omega))) ?_
        refine X_puti hB cw5 fX6_54 rfl rfl hL.1.1 hL.1.2 dX6_step_151 ?_
        refine X_goto (tgt := 117) hB dX6_step_154 (by decide) ?_
        exact ih (q + 1) _ (by omega) (by omega) (by rw [← runE_st ei.1 ei.2]; exact h3) (h5.tr (stK.set (by decide))) (setI_at _ _ _ _) ((setI_ne _ _ (Or.inr (by decide))).trans h7) ((setI_ne _ _ (Or.inr (by decide))).trans h8)
set_option maxRecDepth 100000 in
set_option maxHeartbeats 4000000 in
theorem g_X6_step {E : Ev} (hB : Bd G E mX6_step) {Q : Option Value → St → Prop} (d x : Nat) (hL : RdLay G d) (hX : TxLay G x) (hdx : x + 2 ≤ d ∨ d + 3 ≤ x) (B : List Nat) (hF : rdF S d x) (hT : txC S x B) (w : Option Value) (p : Nat) (kk : ∀ S1, stK d S S1 → S1.1 d 9 = nI (runE isDg B p) → S1.1 d 7 = S.1 d 7 → S1.1 d 8 = S.1 d 8 → X G E mX6_step 1 Q S1 197 [some (.ref d), w] []) :
    ∀ (j q : Nat) (S1 : St), B.length ≤ q + j → q ≤ B.length → runE isDg B q = runE isDg B p → stK d S S1 → S1.1 d 9 = nI q → S1.1 d 7 = S.1 d 7 → S1.1 d 8 = S.1 d 8 → X G E mX6_step 1 Q S1 157 [some (.ref d), w] [] := by
  have h4 := hT.2.2.1
  intro j
  induction j with
  | zero =>
    intro q S1 h1 h2 h3 h5 h6 h7 h8
    have hT1 := h5.T hT hdx
    have hF1 := h5.F hF
    have e9 : runE isDg B p = q := by rw [← h3, runE_no (by omega)]
    rw [e9] at kk
    refine X_aload_n (i := 0) hB dX6_step_157 rfl rfl ?_
    refine X_geti hB cw5 fX6_54 rfl hL.1.1 hL.1.2 dX6_step_158 ?_
    refine X_topi (y := nI q) (h6) ?_
    refine X_sipush (v := 400) hB dX6_step_161 (by decide) ?_
    refine X_icmp_ge (tgt := 197) hB dX6_step_164 (by decide) (fun c164 => ?_) (fun c164 => ?_)
    · exact kk S1 h5 h6 h7 h8
    · refine X_aload_n (i := 0) hB dX6_step_167 rfl rfl ?_
      refine X_getr hB cw5 fX6_50 rfl hL.1.1 hL.1.2 hF1.2.2 dX6_step_168 ?_
      refine X_aload_n (i := 0) hB dX6_step_171 rfl rfl ?_
      refine X_geti hB cw5 fX6_54 rfl hL.1.1 hL.1.2 dX6_step_172 ?_
      refine X_topi (y := nI q) (h6) ?_
      refine X_callV hB kX6_75 cw7 hX.1.1 hX.1.2 (c_X9_byteAt x hX B hT1 q (by omega)) (by decide) (by decide) rfl rfl (Nat.le_of_ble_eq_true rfl) dX6_step_175 (fun r175 S175 q175 => ?_)
      obtain ⟨rfl, rfl⟩ := q175
      refine X_callS hB kX6_86 (c_X6_isDigit B hT.2.2.2.1 q) (by decide) (by decide) rfl rfl (Nat.le_of_ble_eq_true rfl) dX6_step_178 (fun r178 S178 q178 => ?_)
      obtain ⟨rfl, rfl⟩ := q178
      refine X_if_eq (tgt := 197) hB dX6_step_181 (by decide) (fun c181 => ?_) (fun c181 => absurd c181 (by rw [if_neg (by omega)]; exact not_not_intro rfl))
      exact kk S1 h5 h6 h7 h8
  | succ j ih =>
    intro q S1 h1 h2 h3 h5 h6 h7 h8
    have hT1 := h5.T hT hdx
    have hF1 := h5.F hF
    refine X_aload_n (i := 0) hB dX6_step_157 rfl rfl ?_
    refine X_geti hB cw5 fX6_54 rfl hL.1.1 hL.1.2 dX6_step_158 ?_
    refine X_topi (y := nI q) (h6) ?_
    refine X_sipush (v := 400) hB dX6_step_161 (by decide) ?_
    refine X_icmp_ge (tgt := 197) hB dX6_step_164 (by decide) (fun c164 => ?_) (fun c164 => ?_)
    · have e9 : runE isDg B p = q := by
        rw [← h3, runE_no]
        intro z
        rw [show (400 : Int32) = nI 400 from rfl, nI_leI (by omega) (by omega)] at c164
        omega
      rw [e9] at kk
      exact kk S1 h5 h6 h7 h8
    · refine X_aload_n (i := 0) hB dX6_step_167 rfl rfl ?_
      refine X_getr hB cw5 fX6_50 rfl hL.1.1 hL.1.2 hF1.2.2 dX6_step_168 ?_
      refine X_aload_n (i := 0) hB dX6_step_171 rfl rfl ?_
      refine X_geti hB cw5 fX6_54 rfl hL.1.1 hL.1.2 dX6_step_172 ?_
      refine X_topi (y := nI q) (h6) ?_
      refine X_callV hB kX6_75 cw7 hX.1.1 hX.1.2 (c_X9_byteAt x hX B hT1 q (by omega)) (by decide) (by decide) rfl rfl (Nat.le_of_ble_eq_true rfl) dX6_step_175 (fun r175 S175 q175 => ?_)
      obtain ⟨rfl, rfl⟩ := q175
      refine X_callS hB kX6_86 (c_X6_isDigit B hT.2.2.2.1 q) (by decide) (by decide) rfl rfl (Nat.le_of_ble_eq_true rfl) dX6_step_178 (fun r178 S178 q178 => ?_)
      obtain ⟨rfl, rfl⟩ := q178
      refine X_if_eq (tgt := 197) hB dX6_step_181 (by decide) (fun c181 => ?_) (fun c181 => ?_)
      · have e9 : runE isDg B p = q := by
          rw [← h3, runE_no]
          intro z
          rw [if_pos z] at c181
          exact absurd c181 (by decide)
        rw [e9] at kk
        exact kk S1 h5 h6 h7 h8
      · have ei : q < B.length ∧ isDg (B.getD q 0) = true := Classical.byContradiction (fun z => c181 (by rw [if_neg z]))
        refine X_aload_n (i := 0) hB dX6_step_184 rfl rfl ?_
        refine X_dup hB dX6_step_185 rfl ?_
        refine X_geti hB cw5 fX6_54 rfl hL.1.1 hL.1.2 dX6_step_186 ?_
        refine X_topi (y := nI q) (h6) ?_
        refine X_iconst (v := 1) hB dX6_step_189 (by decide) ?_
        refine X_iadd hB dX6_step_190 ?_
        refine X_topi (y := nI (q + 1)) (by first | rfl | (simp (disch := omega) only [nlit, nI_add, nI_mul, nI_sub]; done) | (simp (disch := omega) only [nlit, nI_add, nI_mul, nI_sub]; (congr 1 <;> omega))) ?_
        refine X_puti hB cw5 fX6_54 rfl rfl hL.1.1 hL.1.2 dX6_step_191 ?_
        refine X_goto (tgt := 157) hB dX6_step_194 (by decide) ?_
        exact ih (q + 1) _ (by omega) (by omega) (by rw [← runE_st ei.1 ei.2]; exact h3) (h5.tr (stK.set (by decide))) (setI_at _ _ _ _) ((setI_ne _ _ (Or.inr (by decide))).trans h7) ((setI_ne _ _ (Or.inr (by decide))).trans h8)
set_option maxRecDepth 100000 in
set_option maxHeartbeats 4000000 in
theorem c_X6_step (d x : Nat) (hL : RdLay G d) (hX : TxLay G x) (hdx : x + 2 ≤ d ∨ d + 3 ≤ x) (B : List Nat) (hF : rdF S d x) (hT : txC S x B) (p : Nat) (hp : S.1 d 9 = nI p) (hpl : p ≤ B.length) : C G mX6_step 1 [.ref d] S (fun r S' => r = none ∧ stK d S S' ∧ tkQ S' d B p) := by
  have h4 := hT.2.2.1
  have hge : p ≤ (tkB B p) := tkB_ge
  have hle : (tkB B p) ≤ B.length := tkB_le hpl
  have hB8 := hT.2.2.2.1
  refine C.mk (lv := [some (.ref d), none]) (by decide) (Nat.le_of_ble_eq_true rfl) rfl (fun E hB => ?_)
  refine X_aload_n (i := 0) hB dX6_step_0 rfl rfl ?_
  refine X_aload_n (i := 0) hB dX6_step_1 rfl rfl ?_
  refine X_geti hB cw5 fX6_54 rfl hL.1.1 hL.1.2 dX6_step_2 ?_
  refine X_topi (y := nI p) (hp) ?_
  refine X_puti hB cw5 fX6_72 rfl rfl hL.1.1 hL.1.2 dX6_step_5 ?_
  refine b_X6_step (S := S) hB d x hL hX hdx B hF hT p (fun S1 u1 u2 => ?_) B.length p _ (by omega) hpl rfl (stK.set (by decide)) (setI_at _ _ _ _)
  have hT0 := u1.T hT hdx
  have hF0 := u1.F hF
  refine X_aload_n (i := 0) hB dX6_step_48 rfl rfl ?_
  refine X_aload_n (i := 0) hB dX6_step_49 rfl rfl ?_
  refine X_geti hB cw5 fX6_72 rfl hL.1.1 hL.1.2 dX6_step_50 ?_
  refine X_topi (y := nI (tkB B p)) (u2) ?_
  refine X_puti hB cw5 fX6_54 rfl rfl hL.1.1 hL.1.2 dX6_step_53 ?_
  generalize hS2 : setI S1 d 9 (nI (tkB B p)) = S2
  have v1 : stK d S S2 := hS2 ▸ u1.tr (stK.set (by decide))
  have v2 : S2.1 d 8 = nI (tkB B p) := by rw [← hS2, setI_ne _ _ (Or.inr (by decide))]; exact u2
  have v3 : S2.1 d 9 = nI (tkB B p) := by rw [← hS2, setI_at]
  have hT1 := v1.T hT hdx
  have hF1 := v1.F hF
  clear hS2
  refine X_aload_n (i := 0) hB dX6_step_56 rfl rfl ?_
  refine X_getr hB cw5 fX6_50 rfl hL.1.1 hL.1.2 hF1.2.2 dX6_step_57 ?_
  refine X_aload_n (i := 0) hB dX6_step_60 rfl rfl ?_
  refine X_geti hB cw5 fX6_72 rfl hL.1.1 hL.1.2 dX6_step_61 ?_
  refine X_topi (y := nI (tkB B p)) (v2) ?_
  refine X_callV hB kX6_75 cw7 hX.1.1 hX.1.2 (c_X9_byteAt x hX B hT1 (tkB B p) (by omega)) (by decide) (by decide) rfl rfl (Nat.le_of_ble_eq_true rfl) dX6_step_64 (fun r64 S64 q64 => ?_)
  obtain ⟨rfl, rfl⟩ := q64
  refine X_istore_n (i := 1) hB dX6_step_67 rfl (by decide) rfl ?_
  refine X_iload_n (i := 1) hB dX6_step_68 rfl rfl ?_
  refine X_iconst (v := (-1)) hB dX6_step_69 (by decide) ?_
  refine X_icmp_ne (tgt := 81) hB dX6_step_70 (by decide) (fun c70 => ?_) (fun c70 => ?_)
  · have ek : (tkB B p) < B.length := Classical.byContradiction (fun z => c70 (by rw [chN, if_neg z]))
    have hc := txt_c hB8 ek
    refine X_iload_n (i := 1) hB dX6_step_81 rfl rfl ?_
    refine X_bipush (v := 59) hB dX6_step_82 (by decide) ?_
    refine X_icmp_ne (tgt := 105) hB dX6_step_84 (by decide) (fun c84 => ?_) (fun c84 => ?_)
    · have e84 : ¬ B.getD (tkB B p) 0 = 59 := fun z => c84 ((see_eq (c := 59) hB8 (by decide)).mpr ⟨ek, z⟩)
      refine X_iload_n (i := 1) hB dX6_step_105 rfl rfl ?_
      refine X_callS hB kX6_83 (c_X6_isLetter B hB8 (tkB B p)) (by decide) (by decide) rfl rfl (Nat.le_of_ble_eq_true rfl) dX6_step_106 (fun r106 S106 q106 => ?_)
      obtain ⟨rfl, rfl⟩ := q106
      refine X_if_eq (tgt := 157) hB dX6_step_109 (by decide) (fun c109 => ?_) (fun c109 => ?_)
      · have e109 : isLt (B.getD (tkB B p) 0) = false := by
          cases z : isLt (B.getD (tkB B p) 0)
          · rfl
          · rw [if_pos ⟨ek, z⟩] at c109; exact absurd c109 (by decide)
        have hend : ∀ S4, stK d S S4 → S4.1 d 9 = nI (runE isDg B (tkB B p)) → S4.1 d 8 = nI (tkB B p) → X G E mX6_step 1 (fun r S' => r = none ∧ stK d S S' ∧ tkQ S' d B p) S4 197 [some (.ref d), some (.int (chN B (tkB B p)))] [] := fun S4 y0 y1 y2 => by
          have hr1 := @runE_ge isDg B (tkB B p)
          have hr2 := runE_le (q := isDg) hle
          have fN1 : (runE isDg B (tkB B p) - (tkB B p) = 1 ∨ runE isDg B (tkB B p) - (tkB B p) = 2) → stK d S S4 → S4.1 d 9 = nI (runE isDg B (tkB B p)) → S4.1 d 8 = nI (tkB B p) → (none : Option Value) = none ∧ stK d S (setI S4 d 7 1) ∧ tkQ (setI S4 d 7 1) d B p := fun hn y0 y1 y2 => by
            have hdg : isDg (B.getD (tkB B p) 0) = true := by
              cases z : isDg (B.getD (tkB B p) 0)
              · have := runE_no (q := isDg) (B := B) (p := (tkB B p)) (fun q => by rw [z] at q; cases q.2)
                omega
              · rfl
            have hk : tkK B p = 3 := by
              rw [tkK, if_neg (by omega), if_neg (by unfold tkC; rw [e109]; exact fun q => by cases q), if_pos (show isDg (tkC B p) = true from hdg), if_pos (by omega)]
            refine ⟨rfl, y0.tr (stK.set (by decide)), ?_, ?_, fun _ => ?_⟩
            · rw [setI_at, hk]; rfl
            · rw [setI_ne _ _ (Or.inr (by decide))]; exact y2
            · rw [setI_ne _ _ (Or.inr (by decide)), y1, tkE, if_neg (by omega), if_neg (by unfold tkC; rw [e109]; exact fun q => by cases q), if_pos (show isDg (tkC B p) = true from hdg)]
          have fN0 : ¬ (runE isDg B (tkB B p) - (tkB B p) = 1 ∨ runE isDg B (tkB B p) - (tkB B p) = 2) → stK d S S4 → S4.1 d 9 = nI (runE isDg B (tkB B p)) → S4.1 d 8 = nI (tkB B p) → (none : Option Value) = none ∧ stK d S (setI S4 d 7 4) ∧ tkQ (setI S4 d 7 4) d B p := fun hn y0 y1 y2 => by
            have hk : tkK B p = 1 := by
              rw [tkK, if_neg (by omega), if_neg (by unfold tkC; rw [e109]; exact fun q => by cases q)]
              by_cases hdg : isDg (tkC B p) = true
              · rw [if_pos hdg, if_neg]
                have := runE_st (q := isDg) ek hdg
                have h2 := @runE_ge isDg B ((tkB B p) + 1)
                omega
              · rw [if_neg hdg]; exact if_neg e84
            refine ⟨rfl, y0.tr (stK.set (by decide)), ?_, ?_, fun q => absurd hk q⟩
            · rw [setI_at, hk]; rfl
            · rw [setI_ne _ _ (Or.inr (by decide))]; exact y2
          refine X_aload_n (i := 0) hB dX6_step_197 rfl rfl ?_
          refine X_aload_n (i := 0) hB dX6_step_198 rfl rfl ?_
          refine X_geti hB cw5 fX6_54 rfl hL.1.1 hL.1.2 dX6_step_199 ?_
          refine X_topi (y := nI (runE isDg B (tkB B p))) (y1) ?_
          refine X_aload_n (i := 0) hB dX6_step_202 rfl rfl ?_
          refine X_geti hB cw5 fX6_72 rfl hL.1.1 hL.1.2 dX6_step_203 ?_
          refine X_topi (y := nI (tkB B p)) (y2) ?_
          refine X_isub hB dX6_step_206 ?_
          refine X_topi (y := nI (runE isDg B (tkB B p) - (tkB B p))) (by first | rfl | (simp (disch := omega) only [nlit, nI_add, nI_mul, nI_sub]; done) | (simp (disch := omega) only [nlit, nI_add, nI_mul, nI_sub]; (congr 1 <;> omega))) ?_
          refine X_iconst (v := 1) hB dX6_step_207 (by decide) ?_
          refine X_icmp_eq (tgt := 224) hB dX6_step_208 (by decide) (fun c208 => ?_) (fun c208 => ?_)
          · refine X_iconst (v := 1) hB dX6_step_224 (by decide) ?_
            refine X_goto (tgt := 229) hB dX6_step_225 (by decide) ?_
            refine X_puti hB cw5 fX6_62 rfl rfl hL.1.1 hL.1.2 dX6_step_229 ?_
            refine X_vret hB rfl dX6_step_232 ?_
            have hn : runE isDg B (tkB B p) - (tkB B p) = 1 ∨ runE isDg B (tkB B p) - (tkB B p) = 2 := Or.inl ((nI_eq (b := 1) (by omega) (by omega)).mp c208)
            exact fN1 hn y0 y1 y2
          · refine X_aload_n (i := 0) hB dX6_step_211 rfl rfl ?_
            refine X_geti hB cw5 fX6_54 rfl hL.1.1 hL.1.2 dX6_step_212 ?_
            refine X_topi (y := nI (runE isDg B (tkB B p))) (y1) ?_
            refine X_aload_n (i := 0) hB dX6_step_215 rfl rfl ?_
            refine X_geti hB cw5 fX6_72 rfl hL.1.1 hL.1.2 dX6_step_216 ?_
            refine X_topi (y := nI (tkB B p)) (y2) ?_
            refine X_isub hB dX6_step_219 ?_
            refine X_topi (y := nI (runE isDg B (tkB B p) - (tkB B p))) (by first | rfl | (simp (disch := omega) only [nlit, nI_add, nI_mul, nI_sub]; done) | (simp (disch := omega) only [nlit, nI_add, nI_mul, nI_sub]; (congr 1 <;> omega))) ?_
            refine X_iconst (v := 2) hB dX6_step_220 (by decide) ?_
            refine X_icmp_ne (tgt := 228) hB dX6_step_221 (by decide) (fun c221 => ?_) (fun c221 => ?_)
            · refine X_iconst (v := 4) hB dX6_step_228 (by decide) ?_
              refine X_puti hB cw5 fX6_62 rfl rfl hL.1.1 hL.1.2 dX6_step_229 ?_
              refine X_vret hB rfl dX6_step_232 ?_
              have hn : ¬ (runE isDg B (tkB B p) - (tkB B p) = 1 ∨ runE isDg B (tkB B p) - (tkB B p) = 2) := fun z => z.elim (fun q => c208 (by rw [q]; rfl)) (fun q => c221 (by rw [q]; rfl))
              exact fN0 hn y0 y1 y2
            · refine X_iconst (v := 1) hB dX6_step_224 (by decide) ?_
              refine X_goto (tgt := 229) hB dX6_step_225 (by decide) ?_
              refine X_puti hB cw5 fX6_62 rfl rfl hL.1.1 hL.1.2 dX6_step_229 ?_
              refine X_vret hB rfl dX6_step_232 ?_
              have hn : runE isDg B (tkB B p) - (tkB B p) = 1 ∨ runE isDg B (tkB B p) - (tkB B p) = 2 := Or.inr ((nI_eq (b := 2) (by omega) (by omega)).mp c221)
              exact fN1 hn y0 y1 y2
        refine g_X6_step (S := S2) hB d x hL hX hdx B hF1 hT1 (some (.int (chN B (tkB B p)))) (tkB B p) (fun S4 z0 z1 z2 z3 => hend S4 (v1.tr z0) z1 (z3.trans v2)) B.length (tkB B p) S2 (by omega) hle rfl stK.rf v3 rfl rfl
      · have e109 : isLt (B.getD (tkB B p) 0) = true := (Classical.byContradiction (fun z => c109 (by rw [if_neg z])) : (tkB B p) < B.length ∧ isLt (B.getD (tkB B p) 0) = true).2
        refine X_aload_n (i := 0) hB dX6_step_112 rfl rfl ?_
        refine X_iconst (v := 0) hB dX6_step_113 (by decide) ?_
        refine X_puti hB cw5 fX6_62 rfl rfl hL.1.1 hL.1.2 dX6_step_114 ?_
        generalize hS3 : setI S2 d 7 0 = S3
        have y0 : stK d S S3 := hS3 ▸ v1.tr (stK.set (by decide))
        have y7 : S3.1 d 7 = 0 := by rw [← hS3, setI_at]
        have y8 : S3.1 d 8 = nI (tkB B p) := by rw [← hS3, setI_ne _ _ (Or.inr (by decide))]; exact v2
        have y9 : S3.1 d 9 = nI (tkB B p) := by rw [← hS3, setI_ne _ _ (Or.inr (by decide))]; exact v3
        clear hS3
        refine l_X6_step (S := S3) hB d x hL hX hdx B (y0.F hF) (y0.T hT hdx) (some (.int (chN B (tkB B p)))) (tkB B p) (fun S4 z0 z1 z2 z3 => ?_) B.length (tkB B p) S3 (by omega) hle rfl stK.rf y9 rfl rfl
        refine X_vret hB rfl dX6_step_232 ?_
        have hk : tkK B p = 2 := by rw [tkK, if_neg (by omega)]; exact if_pos e109
        refine ⟨rfl, y0.tr z0, ?_, ?_, fun _ => ?_⟩
        · rw [z2, y7, hk]; rfl
        · rw [z3, y8]
        · rw [z1, tkE, if_neg (by omega)]; exact (congrArg nI (if_pos e109)).symm
    · have e84 := ((see_eq (c := 59) hB8 (by decide)).mp c84).2
      refine X_aload_n (i := 0) hB dX6_step_87 rfl rfl ?_
      refine X_iconst (v := 2) hB dX6_step_88 (by decide) ?_
      refine X_puti hB cw5 fX6_62 rfl rfl hL.1.1 hL.1.2 dX6_step_89 ?_
      refine X_aload_n (i := 0) hB dX6_step_92 rfl rfl ?_
      refine X_dup hB dX6_step_93 rfl ?_
      refine X_geti hB cw5 fX6_54 rfl hL.1.1 hL.1.2 dX6_step_94 ?_
      refine X_topi (y := nI (tkB B p)) (by rw [setI_ne _ _ (Or.inr (by decide))]; exact v3) ?_
      refine X_iconst (v := 1) hB dX6_step_97 (by decide) ?_
      refine X_iadd hB dX6_step_98 ?_
      refine X_topi (y := nI ((tkB B p) + 1)) (by first | rfl | (simp (disch := omega) only [nlit, nI_add, nI_mul, nI_sub]; done) | (simp (disch := omega) only [nlit, nI_add, nI_mul, nI_sub]; (congr 1 <;> omega))) ?_
      refine X_puti hB cw5 fX6_54 rfl rfl hL.1.1 hL.1.2 dX6_step_99 ?_
      refine X_goto (tgt := 232) hB dX6_step_102 (by decide) ?_
      refine X_vret hB rfl dX6_step_232 ?_
      have hd9 : isLt (tkC B p) = false := by unfold tkC; rw [e84]; rfl
      have hg9 : isDg (tkC B p) = false := by unfold tkC; rw [e84]; rfl
      have hk : tkK B p = 4 := by rw [tkK, if_neg (by omega), hd9, hg9]; exact if_pos e84
      refine ⟨rfl, v1.tr ((stK.set (by decide)).tr (stK.set (by decide))), ?_, ?_, fun _ => ?_⟩
      · rw [setI_ne _ _ (Or.inr (by decide)), setI_at, hk]; rfl
      · rw [setI_ne _ _ (Or.inr (by decide)), setI_ne _ _ (Or.inr (by decide))]; exact v2
      · rw [setI_at, tkE, if_neg (by omega), hd9, hg9]; rfl
  · have ek : B.length ≤ (tkB B p) := Classical.byContradiction (fun z => by
      rw [chN, if_pos (by omega)] at c70
      exact nI_neg1 (by have := txt_c hB8 (show (tkB B p) < B.length by omega); omega) c70)
    refine X_aload_n (i := 0) hB dX6_step_73 rfl rfl ?_
    refine X_iconst (v := 3) hB dX6_step_74 (by decide) ?_
    refine X_puti hB cw5 fX6_62 rfl rfl hL.1.1 hL.1.2 dX6_step_75 ?_
    refine X_goto (tgt := 232) hB dX6_step_78 (by decide) ?_
    refine X_vret hB rfl dX6_step_232 ?_
    have hk : tkK B p = 0 := tkK_end.mpr ek
    refine ⟨rfl, v1.tr (stK.set (by decide)), ?_, ?_, fun _ => ?_⟩
    · rw [setI_at, hk]; rfl
    · rw [setI_ne _ _ (Or.inr (by decide))]; exact v2
    · rw [setI_ne _ _ (Or.inr (by decide)), v3, tkE, if_pos ek]
end CLS
