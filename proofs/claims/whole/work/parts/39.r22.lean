def isRt (row w : List Nat) (hops : Nat) : Prop := row.length + w.length - 1 ≤ hops ∧ ∀ y ∈ w, y ∉ row
def isRtB (row w : List Nat) (hops : Nat) : Bool := decide (row.length + w.length - 1 ≤ hops) && w.all (fun y => !row.contains y)
theorem isRt_iff {row w : List Nat} {hops : Nat} : isRt row w hops ↔ isRtB row w hops = true := by
  unfold isRt isRtB
  simp [List.all_eq_true]
def kwB (σ : Net) (z : Nat) (f : Fm) : Bool := decide (z ≠ fAb f) && (decide (wayN σ z (fAb f) ≠ []) && isRtB (fRo f) (wayN σ z (fAb f)) (nSe σ 1))
def answer (σ : Net) (z : Nat) (f : Fm) : Net := if z = fAb f ∨ kwB σ z f = true then (sendF σ (2, z, 0, 0, none, (fRo f ++ [z]) ++ (if kwB σ z f then (wayN σ z (fAb f)).tail else []))).1 else if (fRo f).length < nSe σ 1 then (sendF σ (1, z, fAb f, fNu f, fLk f, fRo f ++ [z])).1 else σ
section REF
variable {G : Gc} {S : St} {h : Nat}
set_option maxRecDepth 100000 in
set_option maxHeartbeats 4000000 in
theorem l_isRt0 (hR : RLay G h) (hF : RRef S h) {E : Ev} (hB : Bd G E mX12_isRoute) {Q : Option Value → St → Prop} (w : List Nat) (hw : wayR S h w) (hw8 : w.length ≤ 8) (hwx : ∀ x ∈ w, x < 8) (i : Int32) (kk : Q (some (.int 0)) S) : X G E mX12_isRoute 2 Q S 31 [some (.ref h), some (.int 0), some (.int i)] [] := by
  refine X_iload_n (i := 2) hB dX12_isRoute_31 rfl rfl ?_
  refine X_aload_n (i := 0) hB dX12_isRoute_32 rfl rfl ?_
  refine X_geti hB cw10 fX12_231 rfl hR.1.1 hR.1.2 dX12_isRoute_33 ?_
  refine X_icmp_ge (tgt := 69) hB dX12_isRoute_36 (by decide) (fun c36 => ?_) (fun c36 => ?_)
  · refine X_iload_n (i := 1) hB dX12_isRoute_69 rfl rfl ?_
    refine X_zret hB rfl (by first | exact Or.inl rfl | exact Or.inr rfl) dX12_isRoute_70 ?_
    exact kk
  · refine X_iload_n (i := 1) hB dX12_isRoute_39 rfl rfl ?_
    refine X_if_eq (tgt := 69) hB dX12_isRoute_40 (by decide) (fun c40 => ?_) (fun c40 => absurd rfl c40)
    refine X_iload_n (i := 1) hB dX12_isRoute_69 rfl rfl ?_
    refine X_zret hB rfl (by first | exact Or.inl rfl | exact Or.inr rfl) dX12_isRoute_70 ?_
    exact kk
set_option maxRecDepth 100000 in
set_option maxHeartbeats 4000000 in
theorem l_isRt1 (hR : RLay G h) (hF : RRef S h) {E : Ev} (hB : Bd G E mX12_isRoute) {Q : Option Value → St → Prop} (f : Fm) (hf : frS (S.1 (h + 12)) f) (hfl : (fRo f).length ≤ 8) (hfx : ∀ x ∈ fRo f, x < 8) (w : List Nat) (hw : wayR S h w) (hw8 : w.length ≤ 8) (hwx : ∀ x ∈ w, x < 8) (k1 : (∀ y ∈ w, y ∉ fRo f) → Q (some (.int 1)) S) (k0 : ¬ (∀ y ∈ w, y ∉ fRo f) → Q (some (.int 0)) S) :
    ∀ (k i : Nat), i + k = w.length → (∀ j, j < i → w.getD j 0 ∉ fRo f) → X G E mX12_isRoute 2 Q S 31 [some (.ref h), some (.int 1), some (.int (nI i))] [] := by
  intro k
  induction k with
  | zero =>
    intro i h1 h2
    refine X_iload_n (i := 2) hB dX12_isRoute_31 rfl rfl ?_
    refine X_aload_n (i := 0) hB dX12_isRoute_32 rfl rfl ?_
    refine X_geti hB cw10 fX12_231 rfl hR.1.1 hR.1.2 dX12_isRoute_33 ?_
    refine X_topi (y := nI w.length) (hw.1) ?_
    refine X_icmp_ge (tgt := 69) hB dX12_isRoute_36 (by decide) (fun c36 => ?_) (fun c36 => absurd c36 (by simp (disch := omega) only [nlit, nI_leI, nI_ltI]; omega))
    refine X_iload_n (i := 1) hB dX12_isRoute_69 rfl rfl ?_
    refine X_zret hB rfl (by first | exact Or.inl rfl | exact Or.inr rfl) dX12_isRoute_70 ?_
    refine k1 (fun y hy => ?_)
    obtain ⟨j, hj, e⟩ := List.mem_iff_getElem.mp hy
    rw [← e, ← getD_lt (d := 0) hj]
    exact h2 j (by omega)
  | succ k ih =>
    intro i h1 h2
    have b1 : w.getD i 0 < 8 := hwx _ (getD_mem (by omega))
    refine X_iload_n (i := 2) hB dX12_isRoute_31 rfl rfl ?_
    refine X_aload_n (i := 0) hB dX12_isRoute_32 rfl rfl ?_
    refine X_geti hB cw10 fX12_231 rfl hR.1.1 hR.1.2 dX12_isRoute_33 ?_
    refine X_topi (y := nI w.length) (hw.1) ?_
    refine X_icmp_ge (tgt := 69) hB dX12_isRoute_36 (by decide) (fun c36 => absurd c36 (by simp (disch := omega) only [nlit, nI_leI, nI_ltI]; omega)) (fun c36 => ?_)
    refine X_iload_n (i := 1) hB dX12_isRoute_39 rfl rfl ?_
    refine X_if_eq (tgt := 69) hB dX12_isRoute_40 (by decide) (fun c40 => absurd c40 (by decide)) (fun c40 => ?_)
    refine X_aload_n (i := 0) hB dX12_isRoute_43 rfl rfl ?_
    refine X_aload_n (i := 0) hB dX12_isRoute_44 rfl rfl ?_
    refine X_getr hB cw10 fX12_33 rfl hR.1.1 hR.1.2 hF.2.2.2.2.2.2.2.1 dX12_isRoute_45 ?_
    refine X_iload_n (i := 2) hB dX12_isRoute_48 rfl rfl ?_
    refine X_ialdN hB (i) hR.2.2.2.2.2.2.2.2.1.1 hR.2.2.2.2.2.2.2.2.1.2 (by decide) (by first | rfl | (simp (disch := omega) only [nlit, nI_add, nI_mul, nI_sub]; done) | (simp (disch := omega) only [nlit, nI_add, nI_mul, nI_sub]; (congr 1 <;> omega))) (by first | omega | (simp only []; omega)) (hw.2 i (by omega)) dX12_isRoute_49 ?_
    refine X_iconst (v := 0) hB dX12_isRoute_50 (by decide) ?_
    refine X_callV hB kX12_319 cw10 hR.1.1 hR.1.2 (c_isInRow hR (by exact hF.of rfl) f hf hfl hfx (w.getD i 0) 0 (by omega) (Nat.zero_le _)) (by decide) (by decide) rfl rfl (Nat.le_of_ble_eq_true rfl) dX12_isRoute_51 (fun r51 S51 q51 => ?_)
    obtain ⟨rfl, rfl⟩ := q51
    rw [List.drop_zero]
    refine X_if_ne (tgt := 61) hB dX12_isRoute_54 (by decide) (fun c54 => ?_) (fun c54 => ?_)
    · refine X_iconst (v := 0) hB dX12_isRoute_61 (by decide) ?_
      refine X_istore_n (i := 1) hB dX12_isRoute_62 rfl (by decide) rfl ?_
      refine X_iinc hB dX12_isRoute_63 rfl rfl (by decide) rfl ?_
      refine X_goto (tgt := 31) hB dX12_isRoute_66 (by decide) ?_
      by_cases hin : w.getD i 0 ∈ fRo f
      · first
        | (have e9 : (if w.getD i 0 ∈ fRo f then (1 : Int32) else 0) = 0 := by exact c54
           exact absurd e9 (by rw [if_pos hin]; decide))
        | exact l_isRt0 hR hF hB w hw hw8 hwx _ (k0 (fun q => q _ (getD_mem (by omega)) hin))
      · first
        | (have e9 : ¬ (if w.getD i 0 ∈ fRo f then (1 : Int32) else 0) = 0 := by exact c54
           exact absurd (by rw [if_neg hin]) e9)
        | (refine X_lv ?_ (ih (i + 1) (by omega) (fun j hj => ?_))
           · rw [nI_succ]; rfl
           · rcases Nat.lt_succ_iff_lt_or_eq.mp hj with hj | hj
             · exact h2 j hj
             · rw [hj]; exact hin)
    · refine X_iconst (v := 1) hB dX12_isRoute_57 (by decide) ?_
      refine X_goto (tgt := 62) hB dX12_isRoute_58 (by decide) ?_
      refine X_istore_n (i := 1) hB dX12_isRoute_62 rfl (by decide) rfl ?_
      refine X_iinc hB dX12_isRoute_63 rfl rfl (by decide) rfl ?_
      refine X_goto (tgt := 31) hB dX12_isRoute_66 (by decide) ?_
      by_cases hin : w.getD i 0 ∈ fRo f
      · first
        | (have e9 : (if w.getD i 0 ∈ fRo f then (1 : Int32) else 0) = 0 := by exact c54
           exact absurd e9 (by rw [if_pos hin]; decide))
        | exact l_isRt0 hR hF hB w hw hw8 hwx _ (k0 (fun q => q _ (getD_mem (by omega)) hin))
      · first
        | (have e9 : ¬ (if w.getD i 0 ∈ fRo f then (1 : Int32) else 0) = 0 := by exact c54
           exact absurd (by rw [if_neg hin]) e9)
        | (refine X_lv ?_ (ih (i + 1) (by omega) (fun j hj => ?_))
           · rw [nI_succ]; rfl
           · rcases Nat.lt_succ_iff_lt_or_eq.mp hj with hj | hj
             · exact h2 j hj
             · rw [hj]; exact hin)
set_option maxRecDepth 100000 in
set_option maxHeartbeats 4000000 in
theorem c_isRoute (hR : RLay G h) (hF : RRef S h) (f : Fm) (hf : frS (S.1 (h + 12)) f) (hfl : (fRo f).length ≤ 8) (hfx : ∀ x ∈ fRo f, x < 8) (hf1 : 1 ≤ (fRo f).length) (w : List Nat) (hw : wayR S h w) (hw8 : w.length ≤ 8) (hwx : ∀ x ∈ w, x < 8) (hops : Nat) (hh : hops ≤ 7) (hho : S.1 (h + 1) 1 = nI hops) : C G mX12_isRoute 2 [.ref h] S (fun r S' => r = some (.int (if isRtB (fRo f) w hops then 1 else 0)) ∧ S = S') := by
  refine C.mk (lv := [some (.ref h), none, none]) (by decide) (Nat.le_of_ble_eq_true rfl) rfl (fun E hB => ?_)
  refine X_aload_n (i := 0) hB dX12_isRoute_0 rfl rfl ?_
  refine X_getr hB cw10 fX12_45 rfl hR.1.1 hR.1.2 hF.2.2.2.2.2.2.2.2.2.2.2 dX12_isRoute_1 ?_
  refine X_bipush (v := 6) hB dX12_isRoute_4 (by decide) ?_
  refine X_ialdN hB (6) hR.2.2.2.2.2.2.2.2.2.2.2.2.1 hR.2.2.2.2.2.2.2.2.2.2.2.2.2 (by decide) (by first | rfl | (simp (disch := omega) only [nlit, nI_add, nI_mul, nI_sub]; done) | (simp (disch := omega) only [nlit, nI_add, nI_mul, nI_sub]; (congr 1 <;> omega))) (by first | omega | (simp only []; omega)) (show _ = nI (fRo f).length from hf.1 6 (by decide)) dX12_isRoute_6 ?_
  refine X_aload_n (i := 0) hB dX12_isRoute_7 rfl rfl ?_
  refine X_geti hB cw10 fX12_231 rfl hR.1.1 hR.1.2 dX12_isRoute_8 ?_
  refine X_topi (y := nI w.length) (hw.1) ?_
  refine X_iadd hB dX12_isRoute_11 ?_
  refine X_iconst (v := 1) hB dX12_isRoute_12 (by decide) ?_
  refine X_isub hB dX12_isRoute_13 ?_
  refine X_topi (y := nI ((fRo f).length + w.length - 1)) (by first | rfl | (simp (disch := omega) only [nlit, nI_add, nI_mul, nI_sub]; done) | (simp (disch := omega) only [nlit, nI_add, nI_mul, nI_sub]; (congr 1 <;> omega))) ?_
  refine X_aload_n (i := 0) hB dX12_isRoute_14 rfl rfl ?_
  refine X_getr hB cw10 fX12_7 rfl hR.1.1 hR.1.2 hF.1 dX12_isRoute_15 ?_
  refine X_iconst (v := 1) hB dX12_isRoute_18 (by decide) ?_
  refine X_ialdN hB (1) hR.2.1.1 hR.2.1.2 (by decide) (by first | rfl | (simp (disch := omega) only [nlit, nI_add, nI_mul, nI_sub]; done) | (simp (disch := omega) only [nlit, nI_add, nI_mul, nI_sub]; (congr 1 <;> omega))) (by first | omega | (simp only []; omega)) hho dX12_isRoute_19 ?_
  refine X_icmp_gt (tgt := 27) hB dX12_isRoute_20 (by decide) (fun c20 => ?_) (fun c20 => ?_)
  · refine X_iconst (v := 0) hB dX12_isRoute_27 (by decide) ?_
    refine X_istore_n (i := 1) hB dX12_isRoute_28 rfl (by decide) rfl ?_
    refine X_iconst (v := 0) hB dX12_isRoute_29 (by decide) ?_
    refine X_istore_n (i := 2) hB dX12_isRoute_30 rfl (by decide) rfl ?_
    first
    | (have hle : (fRo f).length + w.length - 1 ≤ hops := by (have c9 : ¬ nI hops < nI ((fRo f).length + w.length - 1) := by exact c20); simp (disch := omega) only [nlit, nI_leI, nI_ltI] at c9; omega
       exact X_lv (by rw [nI_0]; rfl) (l_isRt1 hR hF hB f hf hfl hfx w hw hw8 hwx (fun q => ⟨by rw [if_pos (isRt_iff.mp ⟨hle, q⟩)], rfl⟩) (fun q => ⟨by rw [if_neg (fun q9 => q (isRt_iff.mpr q9).2)], rfl⟩) w.length 0 (by omega) (fun j hj => by omega)))
    | (have hle : ¬ (fRo f).length + w.length - 1 ≤ hops := by (have c9 : nI hops < nI ((fRo f).length + w.length - 1) := by exact c20); simp (disch := omega) only [nlit, nI_leI, nI_ltI] at c9; omega
       exact l_isRt0 hR hF hB w hw hw8 hwx _ ⟨by rw [if_neg (fun q9 => hle (isRt_iff.mpr q9).1)], rfl⟩)
  · refine X_iconst (v := 1) hB dX12_isRoute_23 (by decide) ?_
    refine X_goto (tgt := 28) hB dX12_isRoute_24 (by decide) ?_
    refine X_istore_n (i := 1) hB dX12_isRoute_28 rfl (by decide) rfl ?_
    refine X_iconst (v := 0) hB dX12_isRoute_29 (by decide) ?_
    refine X_istore_n (i := 2) hB dX12_isRoute_30 rfl (by decide) rfl ?_
    first
    | (have hle : (fRo f).length + w.length - 1 ≤ hops := by (have c9 : ¬ nI hops < nI ((fRo f).length + w.length - 1) := by exact c20); simp (disch := omega) only [nlit, nI_leI, nI_ltI] at c9; omega
       exact X_lv (by rw [nI_0]; rfl) (l_isRt1 hR hF hB f hf hfl hfx w hw hw8 hwx (fun q => ⟨by rw [if_pos (isRt_iff.mp ⟨hle, q⟩)], rfl⟩) (fun q => ⟨by rw [if_neg (fun q9 => q (isRt_iff.mpr q9).2)], rfl⟩) w.length 0 (by omega) (fun j hj => by omega)))
    | (have hle : ¬ (fRo f).length + w.length - 1 ≤ hops := by (have c9 : nI hops < nI ((fRo f).length + w.length - 1) := by exact c20); simp (disch := omega) only [nlit, nI_leI, nI_ltI] at c9; omega
       exact l_isRt0 hR hF hB w hw hw8 hwx _ ⟨by rw [if_neg (fun q9 => hle (isRt_iff.mpr q9).1)], rfl⟩)
set_option maxRecDepth 100000 in
set_option maxHeartbeats 4000000 in
theorem l_an1 (hR : RLay G h) (hF : RRef S h) {E : Ev} (hB : Bd G E mX12_answers) {Q : Option Value → St → Prop} (f : Fm) (hf : frS (S.1 (h + 12)) f) (hfl : (fRo f).length ≤ 8) (hfx : ∀ x ∈ fRo f, x < 8) (z t : Nat) (kv : Int32) (g : Fm) (hg0 : fRo g = []) (kk : ∀ S2 v, fr h [h + 11] [] S S2 → frS (S2.1 (h + 11)) (g.1, g.2.1, g.2.2.1, g.2.2.2.1, g.2.2.2.2.1, fRo f) → X G E mX12_answers 5 Q S2 120 [some (.ref h), some (.int (nI z)), some (.int (nI t)), some (.int kv), some (.int v)] []) :
    ∀ (k i : Nat) (S1 : St), i + k = (fRo f).length → fr h [h + 11] [] S S1 → frS (S1.1 (h + 11)) (g.1, g.2.1, g.2.2.1, g.2.2.2.1, g.2.2.2.2.1, (fRo f).take i) → X G E mX12_answers 5 Q S1 92 [some (.ref h), some (.int (nI z)), some (.int (nI t)), some (.int kv), some (.int (nI i))] [] := by
  intro k
  induction k with
  | zero =>
    intro i S1 h1 hfr hg
    have hf1 : frS (S1.1 (h + 12)) f := by rw [hfr.2.1 _ (by simp) (by omega)]; exact hf
    refine X_iload hB dX12_answers_92 rfl ?_
    refine X_aload_n (i := 0) hB dX12_answers_94 rfl rfl ?_
    refine X_getr hB cw10 fX12_45 rfl hR.1.1 hR.1.2 (hfr.ref hF).2.2.2.2.2.2.2.2.2.2.2 dX12_answers_95 ?_
    refine X_bipush (v := 6) hB dX12_answers_98 (by decide) ?_
    refine X_ialdN hB (6) hR.2.2.2.2.2.2.2.2.2.2.2.2.1 hR.2.2.2.2.2.2.2.2.2.2.2.2.2 (by decide) (by first | rfl | (simp (disch := omega) only [nlit, nI_add, nI_mul, nI_sub]; done) | (simp (disch := omega) only [nlit, nI_add, nI_mul, nI_sub]; (congr 1 <;> omega))) (by first | omega | (simp only []; omega)) (show _ = nI (fRo f).length from hf1.1 6 (by decide)) dX12_answers_100 ?_
    refine X_icmp_ge (tgt := 120) hB dX12_answers_101 (by decide) (fun c101 => ?_) (fun c101 => absurd c101 (by simp (disch := omega) only [nlit, nI_leI, nI_ltI]; omega))
    rw [List.take_of_length_le (by omega)] at hg
    exact kk S1 _ hfr hg
  | succ k ih =>
    intro i S1 h1 hfr hg
    have hf1 : frS (S1.1 (h + 12)) f := by rw [hfr.2.1 _ (by simp) (by omega)]; exact hf
    refine X_iload hB dX12_answers_92 rfl ?_
    refine X_aload_n (i := 0) hB dX12_answers_94 rfl rfl ?_
    refine X_getr hB cw10 fX12_45 rfl hR.1.1 hR.1.2 (hfr.ref hF).2.2.2.2.2.2.2.2.2.2.2 dX12_answers_95 ?_
    refine X_bipush (v := 6) hB dX12_answers_98 (by decide) ?_
    refine X_ialdN hB (6) hR.2.2.2.2.2.2.2.2.2.2.2.2.1 hR.2.2.2.2.2.2.2.2.2.2.2.2.2 (by decide) (by first | rfl | (simp (disch := omega) only [nlit, nI_add, nI_mul, nI_sub]; done) | (simp (disch := omega) only [nlit, nI_add, nI_mul, nI_sub]; (congr 1 <;> omega))) (by first | omega | (simp only []; omega)) (show _ = nI (fRo f).length from hf1.1 6 (by decide)) dX12_answers_100 ?_
    refine X_icmp_ge (tgt := 120) hB dX12_answers_101 (by decide) (fun c101 => absurd c101 (by simp (disch := omega) only [nlit, nI_leI, nI_ltI]; omega)) (fun c101 => ?_)
    refine X_aload_n (i := 0) hB dX12_answers_104 rfl rfl ?_
    refine X_aload_n (i := 0) hB dX12_answers_105 rfl rfl ?_
    refine X_iload hB dX12_answers_106 rfl ?_
    refine X_callV hB kX12_274 cw10 hR.1.1 hR.1.2 (c_rowAt hR (hfr.ref hF) f hf1 hfl (i := i) (by omega)) (by decide) (by decide) rfl rfl (Nat.le_of_ble_eq_true rfl) dX12_answers_108 (fun r108 S108 q108 => ?_)
    obtain ⟨rfl, rfl⟩ := q108
    refine X_callV hB kX12_262 cw10 hR.1.1 hR.1.2 (c_addsFrame hR (hfr.ref hF) (g.1, g.2.1, g.2.2.1, g.2.2.2.1, g.2.2.2.2.1, (fRo f).take i) ((fRo f).getD i 0) (by show ((fRo f).take i).length ≤ 8; rw [List.length_take]; omega) hg) (by decide) (by decide) rfl rfl (Nat.le_of_ble_eq_true rfl) dX12_answers_111 (fun r111 S111 q111 => ?_)
    obtain ⟨rfl, f111, g111⟩ := q111
    refine X_iinc hB dX12_answers_114 rfl rfl (by decide) rfl ?_
    refine X_goto (tgt := 92) hB dX12_answers_117 (by decide) ?_
    refine X_lv ?_ (ih (i + 1) _ (by omega) (hfr.tr f111) ?_)
    · rw [nI_succ]; rfl
    · rw [List.take_succ_eq_append_getElem (show i < (fRo f).length by omega), ← getD_lt (d := 0)]
      exact g111
set_option maxRecDepth 100000 in
set_option maxHeartbeats 4000000 in
theorem l_an2 (hR : RLay G h) (hF : RRef S h) {E : Ev} (hB : Bd G E mX12_answers) {Q : Option Value → St → Prop} (w : List Nat) (hw : wayR S h w) (hw8 : w.length ≤ 8) (hwx : ∀ x ∈ w, x < 8) (z t : Nat) (fin : Fm) (kk : ∀ S2 v, fr h [h + 11] [] S S2 → frS (S2.1 (h + 11)) fin → X G E mX12_answers 5 Q S2 158 [some (.ref h), some (.int (nI z)), some (.int (nI t)), some (.int 1), some (.int v)] []) :
    ∀ (k i : Nat) (g : Fm) (S1 : St), i + k = w.length → (fRo g).length + k ≤ 8 → fr h [h + 11] [] S S1 → frS (S1.1 (h + 11)) g → (g.1, g.2.1, g.2.2.1, g.2.2.2.1, g.2.2.2.2.1, fRo g ++ w.drop i) = fin → X G E mX12_answers 5 Q S1 128 [some (.ref h), some (.int (nI z)), some (.int (nI t)), some (.int 1), some (.int (nI i))] [] := by
  intro k
  induction k with
  | zero =>
    intro i g S1 h1 h2 hfr hg hfin
    have hw1 : wayR S1 h w := hw.of (hfr.2.2 _ (by simp)) (hfr.2.1 _ (by simp) (by omega))
    refine X_iload_n (i := 3) hB dX12_answers_128 rfl rfl ?_
    refine X_if_eq (tgt := 158) hB dX12_answers_129 (by decide) (fun c129 => absurd c129 (by decide)) (fun c129 => ?_)
    refine X_iload hB dX12_answers_132 rfl ?_
    refine X_aload_n (i := 0) hB dX12_answers_134 rfl rfl ?_
    refine X_geti hB cw10 fX12_231 rfl hR.1.1 hR.1.2 dX12_answers_135 ?_
    refine X_topi (y := nI w.length) (hw1.1) ?_
    refine X_icmp_ge (tgt := 158) hB dX12_answers_138 (by decide) (fun c138 => ?_) (fun c138 => absurd c138 (by simp (disch := omega) only [nlit, nI_leI, nI_ltI]; omega))
    rw [List.drop_of_length_le (by omega), List.append_nil] at hfin
    exact kk S1 _ hfr (by rw [← hfin]; exact hg)
  | succ k ih =>
    intro i g S1 h1 h2 hfr hg hfin
    have hw1 : wayR S1 h w := hw.of (hfr.2.2 _ (by simp)) (hfr.2.1 _ (by simp) (by omega))
    refine X_iload_n (i := 3) hB dX12_answers_128 rfl rfl ?_
    refine X_if_eq (tgt := 158) hB dX12_answers_129 (by decide) (fun c129 => absurd c129 (by decide)) (fun c129 => ?_)
    refine X_iload hB dX12_answers_132 rfl ?_
    refine X_aload_n (i := 0) hB dX12_answers_134 rfl rfl ?_
    refine X_geti hB cw10 fX12_231 rfl hR.1.1 hR.1.2 dX12_answers_135 ?_
    refine X_topi (y := nI w.length) (hw1.1) ?_
    refine X_icmp_ge (tgt := 158) hB dX12_answers_138 (by decide) (fun c138 => absurd c138 (by simp (disch := omega) only [nlit, nI_leI, nI_ltI]; omega)) (fun c138 => ?_)
    refine X_aload_n (i := 0) hB dX12_answers_141 rfl rfl ?_
    refine X_aload_n (i := 0) hB dX12_answers_142 rfl rfl ?_
    refine X_getr hB cw10 fX12_33 rfl hR.1.1 hR.1.2 (hfr.ref hF).2.2.2.2.2.2.2.1 dX12_answers_143 ?_
    refine X_iload hB dX12_answers_146 rfl ?_
    refine X_ialdN hB (i) hR.2.2.2.2.2.2.2.2.1.1 hR.2.2.2.2.2.2.2.2.1.2 (by decide) (by first | rfl | (simp (disch := omega) only [nlit, nI_add, nI_mul, nI_sub]; done) | (simp (disch := omega) only [nlit, nI_add, nI_mul, nI_sub]; (congr 1 <;> omega))) (by first | omega | (simp only []; omega)) (hw1.2 i (by omega)) dX12_answers_148 ?_
    refine X_callV hB kX12_262 cw10 hR.1.1 hR.1.2 (c_addsFrame hR (hfr.ref hF) g (w.getD i 0) (by omega) hg) (by decide) (by decide) rfl rfl (Nat.le_of_ble_eq_true rfl) dX12_answers_149 (fun r149 S149 q149 => ?_)
    obtain ⟨rfl, f149, g149⟩ := q149
    refine X_iinc hB dX12_answers_152 rfl rfl (by decide) rfl ?_
    refine X_goto (tgt := 128) hB dX12_answers_155 (by decide) ?_
    refine X_lv ?_ (ih (i + 1) (fAdd g (w.getD i 0)) _ (by omega) (by show (fRo g ++ [_]).length + k ≤ 8; rw [List.length_append]; show (fRo g).length + 1 + k ≤ 8; omega) (hfr.tr f149) g149 ?_)
    · rw [nI_succ]; rfl
    · rw [← hfin]
      show (g.1, g.2.1, g.2.2.1, g.2.2.2.1, g.2.2.2.2.1, (fRo g ++ [w.getD i 0]) ++ w.drop (i + 1)) = _
      rw [List.append_assoc, List.drop_eq_getElem_cons (show i < w.length by omega), getD_lt (by omega)]
      rfl
end REF
