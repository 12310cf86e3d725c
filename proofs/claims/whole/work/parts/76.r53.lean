/-! the class: entries by age -/
section CLS
variable {G : Gc} {S : St}
set_option maxRecDepth 100000 in
set_option maxHeartbeats 4000000 in
theorem c_X7_get (a m : Nat) (hL : RcLay G a m) (es : List Int64) (hr : rcR S a es) (hm : es.length ≤ m) (v : Int32) : C G mX7_get 0 [.ref a, .int v] S (fun r S' => r = some (.long (match inN v es.length with
  | some i => es.getD i 0
  | none => 0)) ∧ S = S') := by
  have h100 := hL.2.2.2
  refine C.mk (lv := [some (.ref a), some (.int v)]) (by decide) (Nat.le_of_ble_eq_true rfl) rfl (fun E hB => ?_)
  refine X_iload_n (i := 1) hB dX7_get_0 rfl rfl ?_
  refine X_if_lt (tgt := 30) hB dX7_get_1 (by decide) (fun c1 => ?_) (fun c1 => ?_)
  · have e9 : inN v es.length = none := by
      unfold inN
      rw [if_neg]
      first
        | (rw [Int32.lt_iff_toInt_lt] at c1
           have : (0 : Int32).toInt = 0 := by decide
           omega)
        | (rw [nI_leI (by omega) hi31] at c9
           rw [nI_toInt hi31]
           omega)
    refine X_lconst (v := 0) hB dX7_get_30 (by decide) ?_
    refine X_lret hB rfl dX7_get_31 ?_
    exact ⟨by rw [e9], rfl⟩
  · obtain ⟨i, hi31, rfl⟩ := nI_of c1
    refine X_iload_n (i := 1) hB dX7_get_4 rfl rfl ?_
    refine X_aload_n (i := 0) hB dX7_get_5 rfl rfl ?_
    refine X_geti hB cw6 fX7_19 rfl hL.1.1 hL.1.2 dX7_get_6 ?_
    refine X_topi (y := nI es.length) (hr.2.1) ?_
    refine X_icmp_ge (tgt := 30) hB dX7_get_9 (by decide) (fun c9 => ?_) (fun c9 => ?_)
    · have e9 : inN (nI i) es.length = none := by
        unfold inN
        rw [if_neg]
        first
          | (rw [Int32.lt_iff_toInt_lt] at c1
             have : (0 : Int32).toInt = 0 := by decide
             omega)
          | (rw [nI_leI (by omega) hi31] at c9
             rw [nI_toInt hi31]
             omega)
      refine X_lconst (v := 0) hB dX7_get_30 (by decide) ?_
      refine X_lret hB rfl dX7_get_31 ?_
      exact ⟨by rw [e9], rfl⟩
    · have hi : i < es.length := by
        rw [nI_leI (by omega) hi31] at c9
        omega
      refine X_iload_n (i := 1) hB dX7_get_12 rfl rfl ?_
      refine X_aload_n (i := 0) hB dX7_get_13 rfl rfl ?_
      refine X_getr hB cw6 fX7_13 rfl hL.1.1 hL.1.2 hr.1 dX7_get_14 ?_
      refine X_alen hB hL.2.1.1 hL.2.1.2 (by decide) (v := nI m) rfl dX7_get_17 ?_
      refine X_icmp_ge (tgt := 30) hB dX7_get_18 (by decide) (fun c18 => absurd c18 (by simp (disch := omega) only [nlit, nI_leI, nI_ltI]; omega)) (fun c18 => ?_)
      refine X_aload_n (i := 0) hB dX7_get_21 rfl rfl ?_
      refine X_getr hB cw6 fX7_13 rfl hL.1.1 hL.1.2 hr.1 dX7_get_22 ?_
      refine X_iload_n (i := 1) hB dX7_get_25 rfl rfl ?_
      refine X_laldN hB (i) hL.2.1.1 hL.2.1.2 (by omega) (by first | rfl | (simp (disch := omega) only [nlit, nI_add, nI_mul, nI_sub]; done) | (simp (disch := omega) only [nlit, nI_add, nI_mul, nI_sub]; (congr 1 <;> omega))) (by omega) (hr.2.2 i hi) dX7_get_26 ?_
      refine X_goto (tgt := 31) hB dX7_get_27 (by decide) ?_
      refine X_lret hB rfl dX7_get_31 ?_
      rw [inN_nI hi hi31]
      exact ⟨rfl, rfl⟩
set_option maxRecDepth 100000 in
set_option maxHeartbeats 4000000 in
theorem l_X7_indexOf {E : Ev} (hB : Bd G E mX7_indexOf) {Q : Option Value → St → Prop} (a m : Nat) (hL : RcLay G a m) (es : List Int64) (hr : rcR S a es) (hm : es.length ≤ m) (e : Int64) (kk : Q (some (.int (nI (es.idxOf e)))) S) :
    ∀ (k j : Nat), j + k = es.length → (∀ i, i < j → es.getD i 0 ≠ e) → X G E mX7_indexOf 0 Q S 2 [some (.ref a), some (.long (e)), none, some (.int (nI j))] [] := by
  have h100 := hL.2.2.2
  intro k
  induction k with
  | zero =>
    intro j h1 h2
    have e9 : es.idxOf e = j := idxOf_J (by omega) h2 (fun q => by omega)
    rw [e9] at kk
    refine X_iload_n (i := 3) hB dX7_indexOf_2 rfl rfl ?_
    refine X_aload_n (i := 0) hB dX7_indexOf_3 rfl rfl ?_
    refine X_geti hB cw6 fX7_19 rfl hL.1.1 hL.1.2 dX7_indexOf_4 ?_
    refine X_topi (y := nI es.length) (hr.2.1) ?_
    refine X_icmp_ge (tgt := 36) hB dX7_indexOf_7 (by decide) (fun c7 => ?_) (fun c7 => absurd c7 (by simp (disch := omega) only [nlit, nI_leI, nI_ltI]; omega))
    refine X_iload_n (i := 3) hB dX7_indexOf_36 rfl rfl ?_
    refine X_iret hB rfl dX7_indexOf_37 ?_
    exact kk
  | succ k ih =>
    intro j h1 h2
    refine X_iload_n (i := 3) hB dX7_indexOf_2 rfl rfl ?_
    refine X_aload_n (i := 0) hB dX7_indexOf_3 rfl rfl ?_
    refine X_geti hB cw6 fX7_19 rfl hL.1.1 hL.1.2 dX7_indexOf_4 ?_
    refine X_topi (y := nI es.length) (hr.2.1) ?_
    refine X_icmp_ge (tgt := 36) hB dX7_indexOf_7 (by decide) (fun c7 => absurd c7 (by simp (disch := omega) only [nlit, nI_leI, nI_ltI]; omega)) (fun c7 => ?_)
    refine X_iload_n (i := 3) hB dX7_indexOf_10 rfl rfl ?_
    refine X_aload_n (i := 0) hB dX7_indexOf_11 rfl rfl ?_
    refine X_getr hB cw6 fX7_13 rfl hL.1.1 hL.1.2 hr.1 dX7_indexOf_12 ?_
    refine X_alen hB hL.2.1.1 hL.2.1.2 (by decide) (v := nI m) rfl dX7_indexOf_15 ?_
    refine X_icmp_ge (tgt := 36) hB dX7_indexOf_16 (by decide) (fun c16 => absurd c16 (by simp (disch := omega) only [nlit, nI_leI, nI_ltI]; omega)) (fun c16 => ?_)
    refine X_aload_n (i := 0) hB dX7_indexOf_19 rfl rfl ?_
    refine X_getr hB cw6 fX7_13 rfl hL.1.1 hL.1.2 hr.1 dX7_indexOf_20 ?_
    refine X_iload_n (i := 3) hB dX7_indexOf_23 rfl rfl ?_
    refine X_laldN hB (j) hL.2.1.1 hL.2.1.2 (by omega) (by first | rfl | (simp (disch := omega) only [nlit, nI_add, nI_mul, nI_sub]; done) | (simp (disch := omega) only [nlit, nI_add, nI_mul, nI_sub]; (congr 1 <;> omega))) (by omega) (hr.2.2 j (by omega)) dX7_indexOf_24 ?_
    refine X_lload_n (i := 1) hB dX7_indexOf_25 rfl rfl ?_
    refine X_lcmp hB dX7_indexOf_26 ?_
    refine X_if_eq (tgt := 36) hB dX7_indexOf_27 (by decide) (fun c27 => ?_) (fun c27 => ?_)
    · refine X_iload_n (i := 3) hB dX7_indexOf_36 rfl rfl ?_
      refine X_iret hB rfl dX7_indexOf_37 ?_
      have e9 : es.idxOf e = j := idxOf_J (by omega) h2 (fun _ => cmp_eq.mp c27)
      rw [e9] at kk
      exact kk
    · refine X_iinc hB dX7_indexOf_30 rfl rfl (by decide) rfl ?_
      refine X_goto (tgt := 2) hB dX7_indexOf_33 (by decide) ?_
      refine X_lv ?_ (ih (j + 1) (by omega) (fun i hi => ?_))
      · rw [nI_succ]; rfl
      · by_cases q : i = j
        · rw [q]; exact fun z => c27 (cmp_eq.mpr z)
        · exact h2 i (by omega)
set_option maxRecDepth 100000 in
set_option maxHeartbeats 4000000 in
theorem c_X7_indexOf (a m : Nat) (hL : RcLay G a m) (es : List Int64) (hr : rcR S a es) (hm : es.length ≤ m) (e : Int64) : C G mX7_indexOf 0 [.ref a, .long e] S (fun r S' => r = some (.int (nI (es.idxOf e))) ∧ S = S') := by
  refine C.mk (lv := [some (.ref a), some (.long e), none, none]) (by decide) (Nat.le_of_ble_eq_true rfl) rfl (fun E hB => ?_)
  refine X_iconst (v := 0) hB dX7_indexOf_0 (by decide) ?_
  refine X_istore_n (i := 3) hB dX7_indexOf_1 rfl (by decide) rfl ?_
  refine X_lv ?_ (l_X7_indexOf hB a m hL es hr hm e ⟨rfl, rfl⟩ es.length 0 (by omega) (fun i hi => by omega))
  rw [nI_0]; rfl
set_option maxRecDepth 100000 in
set_option maxHeartbeats 4000000 in
theorem c_X7_holds (a m : Nat) (hL : RcLay G a m) (es : List Int64) (hr : rcR S a es) (hm : es.length ≤ m) (e : Int64) : C G mX7_holds 1 [.ref a, .long e] S (fun r S' => r = some (.int (if e ∈ es then 1 else 0)) ∧ S = S') := by
  have h100 := hL.2.2.2
  have hix := List.idxOf_le_length (a := e) (l := es)
  refine C.mk (lv := [some (.ref a), some (.long e), none]) (by decide) (Nat.le_of_ble_eq_true rfl) rfl (fun E hB => ?_)
  refine X_aload_n (i := 0) hB dX7_holds_0 rfl rfl ?_
  refine X_lload_n (i := 1) hB dX7_holds_1 rfl rfl ?_
  refine X_callV hB kX7_23 cw6 hL.1.1 hL.1.2 (c_X7_indexOf a m hL es hr hm e) (by decide) (by decide) rfl rfl (Nat.le_of_ble_eq_true rfl) dX7_holds_2 (fun r2 S2 q2 => ?_)
  obtain ⟨rfl, rfl⟩ := q2
  refine X_aload_n (i := 0) hB dX7_holds_5 rfl rfl ?_
  refine X_geti hB cw6 fX7_19 rfl hL.1.1 hL.1.2 dX7_holds_6 ?_
  refine X_topi (y := nI es.length) (hr.2.1) ?_
  refine X_icmp_ge (tgt := 16) hB dX7_holds_9 (by decide) (fun c9 => ?_) (fun c9 => ?_)
  · refine X_iconst (v := 0) hB dX7_holds_16 (by decide) ?_
    refine X_zret hB rfl (by first | exact Or.inl rfl | exact Or.inr rfl) dX7_holds_17 ?_
    rw [nI_leI (by omega) (by omega)] at c9
    refine ⟨?_, rfl⟩
    first
      | rw [if_neg (fun q => absurd (memJ.mpr q) (by omega))]
      | rw [if_pos (memJ.mp (by omega))]
  · refine X_iconst (v := 1) hB dX7_holds_12 (by decide) ?_
    refine X_goto (tgt := 17) hB dX7_holds_13 (by decide) ?_
    refine X_zret hB rfl (by first | exact Or.inl rfl | exact Or.inr rfl) dX7_holds_17 ?_
    rw [nI_leI (by omega) (by omega)] at c9
    refine ⟨?_, rfl⟩
    first
      | rw [if_neg (fun q => absurd (memJ.mpr q) (by omega))]
      | rw [if_pos (memJ.mp (by omega))]
set_option maxRecDepth 100000 in
set_option maxHeartbeats 4000000 in
theorem l_X7_touch {E : Ev} (hB : Bd G E mX7_touch) {Q : Option Value → St → Prop} (a m : Nat) (hL : RcLay G a m) (es : List Int64) (e : Int64) (most k0 n1 : Nat) (hk0 : k0 < m) (hes : es.length ≤ m) (kk : ∀ S1, chg a (a + 2) S S1 → S1.2.2 = S.2.2 → S1.1 = S.1 → (∀ j, 1 ≤ j → j ≤ k0 → S1.2.1 (a + 1) j = S.2.1 (a + 1) (j - 1)) → (∀ j, k0 < j → S1.2.1 (a + 1) j = S.2.1 (a + 1) j) → X G E mX7_touch 1 Q S1 86 [some (.ref a), some (.long (e)), none, some (.int (nI most)), some (.int (nI (es.idxOf e))), some (.int 0)] []) (href : S.2.2 a 0 = some (a + 1)) :
    ∀ (i : Nat) (S1 : St), i ≤ k0 → chg a (a + 2) S S1 → S1.2.2 = S.2.2 → S1.1 = S.1 → (∀ j, i < j → j ≤ k0 → S1.2.1 (a + 1) j = S.2.1 (a + 1) (j - 1)) → (∀ j, k0 < j ∨ j ≤ i → S1.2.1 (a + 1) j = S.2.1 (a + 1) j) → X G E mX7_touch 1 Q S1 59 [some (.ref a), some (.long (e)), none, some (.int (nI most)), some (.int (nI (es.idxOf e))), some (.int (nI i))] [] := by
  have h100 := hL.2.2.2
  intro i
  induction i with
  | zero =>
    intro S1 h1 h2 h3 h4 h5 h6
    rw [nI_0]
    refine X_iload hB dX7_touch_59 rfl ?_
    refine X_if_le (tgt := 86) hB dX7_touch_61 (by decide) (fun c61 => ?_) (fun c61 => absurd (by decide) c61)
    exact kk S1 h2 h3 h4 (fun j q1 q2 => h5 j (by omega) q2) (fun j q => h6 j (Or.inl q))
  | succ i ih =>
    intro S1 h1 h2 h3 h4 h5 h6
    have href1 : S1.2.2 a 0 = some (a + 1) := by rw [h3]; exact href
    refine X_iload hB dX7_touch_59 rfl ?_
    refine X_if_le (tgt := 86) hB dX7_touch_61 (by decide) (fun c61 => absurd c61 (nI_nle (by omega) (by omega))) (fun c61 => ?_)
    refine X_aload_n (i := 0) hB dX7_touch_64 rfl rfl ?_
    refine X_getr hB cw6 fX7_13 rfl hL.1.1 hL.1.2 href1 dX7_touch_65 ?_
    refine X_iload hB dX7_touch_68 rfl ?_
    refine X_aload_n (i := 0) hB dX7_touch_70 rfl rfl ?_
    refine X_getr hB cw6 fX7_13 rfl hL.1.1 hL.1.2 href1 dX7_touch_71 ?_
    refine X_iload hB dX7_touch_74 rfl ?_
    refine X_iconst (v := 1) hB dX7_touch_76 (by decide) ?_
    refine X_isub hB dX7_touch_77 ?_
    refine X_laldN hB (i) hL.2.1.1 hL.2.1.2 (by omega) (by first | rfl | (simp (disch := omega) only [nlit, nI_add, nI_mul, nI_sub]; done) | (simp (disch := omega) only [nlit, nI_add, nI_mul, nI_sub]; (congr 1 <;> omega))) (by omega) (h6 i (Or.inr (by omega))) dX7_touch_78 ?_
    refine X_lastN hB (i + 1) hL.2.1.1 hL.2.1.2 (by omega) rfl (by omega) dX7_touch_79 ?_
    refine X_iinc hB dX7_touch_80 rfl rfl (by decide) rfl ?_
    refine X_goto (tgt := 59) hB dX7_touch_83 (by decide) ?_
    refine X_dl [some (.ref a), some (.long (e)), none, some (.int (nI most)), some (.int (nI (es.idxOf e))), some (.int (nI i))] ⟨rfl, rfl, rfl, rfl, by rw [show Int32.ofInt (-1) = (-1 : Int32) by decide, nI_m1 i], trivial⟩ (ih _ (by omega) (h2.tr (chg.setJ (by omega) (by omega))) h3 h4 (fun j q1 q2 => ?_) (fun j q => ?_))
    · by_cases c : j = i + 1
      · subst c; rw [setJ_at]; rfl
      · rw [setJ_ne _ _ (Or.inr c)]; exact h5 j (by omega) q2
    · rw [setJ_ne _ _ (Or.inr (by omega))]; exact h6 j (by omega)
theorem tch_R {a : Nat} {S S1 : St} {es : List Int64} {e : Int64} {most k0 : Nat} (hr : rcR S a es) (hl : es.length ≤ most) (h1 : 1 ≤ most) (hk0 : k0 = min (es.idxOf e) ((tch es e most).length - 1)) (g1 : ∀ j, 1 ≤ j → j ≤ k0 → S1.2.1 (a + 1) j = S.2.1 (a + 1) (j - 1)) (g2 : ∀ j, k0 < j → S1.2.1 (a + 1) j = S.2.1 (a + 1) j) : ∀ j, j < (tch es e most).length → (setJ S1 (a + 1) 0 e).2.1 (a + 1) j = (tch es e most).getD j 0 := by
  intro j hj
  rw [tch_get hl h1 j hj]
  have hlen := tch_len (e := e) hl h1
  by_cases c : j = 0
  · subst c; rw [setJ_at, if_pos rfl]
  · rw [setJ_ne _ _ (Or.inr c), if_neg c]
    by_cases c2 : j ≤ es.idxOf e
    · rw [if_pos c2, g1 j (by omega) (by omega)]
      refine hr.2.2 _ ?_
      have := List.idxOf_le_length (a := e) (l := es)
      omega
    · have hm : e ∈ es := Classical.byContradiction (fun q => by
        rw [if_neg q] at hlen
        rw [List.idxOf_eq_length q] at c2
        omega)
      rw [if_pos hm] at hlen
      rw [if_neg c2, g2 j (by omega)]
      exact hr.2.2 j (by omega)
set_option maxRecDepth 100000 in
set_option maxHeartbeats 4000000 in
theorem c_X7_touch (a m : Nat) (hL : RcLay G a m) (es : List Int64) (hr : rcR S a es) (hm : es.length ≤ m) (e : Int64) (most : Nat) (hl : es.length ≤ most) (h1 : 1 ≤ most) (hmm : most ≤ m) : C G mX7_touch 1 [.ref a, .long e, .int (nI most)] S (fun r S' => r = none ∧ chg a (a + 2) S S' ∧ S'.2.2 = S.2.2 ∧ rcR S' a (tch es e most)) := by
  have h100 := hL.2.2.2
  have hix := List.idxOf_le_length (a := e) (l := es)
  have hlen := tch_len (e := e) hl h1
  refine C.mk (lv := [some (.ref a), some (.long e), none, some (.int (nI most)), none, none]) (by decide) (Nat.le_of_ble_eq_true rfl) rfl (fun E hB => ?_)
  refine X_aload_n (i := 0) hB dX7_touch_0 rfl rfl ?_
  refine X_lload_n (i := 1) hB dX7_touch_1 rfl rfl ?_
  refine X_callV hB kX7_23 cw6 hL.1.1 hL.1.2 (c_X7_indexOf a m hL es hr hm e) (by decide) (by decide) rfl rfl (Nat.le_of_ble_eq_true rfl) dX7_touch_2 (fun r2 S2 q2 => ?_)
  obtain ⟨rfl, rfl⟩ := q2
  refine X_istore hB dX7_touch_5 (by decide) rfl ?_
  refine X_iload hB dX7_touch_7 rfl ?_
  refine X_aload_n (i := 0) hB dX7_touch_9 rfl rfl ?_
  refine X_geti hB cw6 fX7_19 rfl hL.1.1 hL.1.2 dX7_touch_10 ?_
  refine X_topi (y := nI es.length) (hr.2.1) ?_
  refine X_icmp_ne (tgt := 46) hB dX7_touch_13 (by decide) (fun c13 => ?_) (fun c13 => ?_)
  · have hm9 : e ∈ es := memJ.mp (by
      have : es.idxOf e ≠ es.length := fun q => c13 (by rw [q])
      omega)
    have e9 : (tch es e most).length = es.length := by rw [hlen, if_pos hm9]
    have hcnt : S.1 a 1 = nI (tch es e most).length := by rw [hr.2.1, e9]
    refine X_iload hB dX7_touch_46 rfl ?_
    refine X_aload_n (i := 0) hB dX7_touch_48 rfl rfl ?_
    refine X_geti hB cw6 fX7_19 rfl hL.1.1 hL.1.2 dX7_touch_49 ?_
    refine X_topi (y := nI (tch es e most).length) (hcnt) ?_
    refine X_iconst (v := 1) hB dX7_touch_52 (by decide) ?_
    refine X_isub hB dX7_touch_53 ?_
    have ht1 : 1 ≤ (tch es e most).length := by
      rw [e9]
      exact List.length_pos_of_mem hm9
    refine X_topi (y := nI ((tch es e most).length - 1)) (by first | rfl | (simp (disch := omega) only [nlit, nI_add, nI_mul, nI_sub]; done) | (simp (disch := omega) only [nlit, nI_add, nI_mul, nI_sub]; (congr 1 <;> omega))) ?_
    refine X_mmin hB kX7_27 (by decide) (Nat.le_of_ble_eq_true rfl) dX7_touch_54 ?_
    refine X_topi (y := nI (min (es.idxOf e) ((tch es e most).length - 1))) (min_nI (by omega) (by omega)) ?_
    refine X_istore hB dX7_touch_57 (by decide) rfl ?_
    have hk0 : min (es.idxOf e) ((tch es e most).length - 1) < m := by omega
    generalize hk : min (es.idxOf e) ((tch es e most).length - 1) = k0 at hk0
    have hk := hk.symm
    refine X_lv (lv' := [some (.ref a), some (.long (e)), none, some (.int (nI most)), some (.int (nI (es.idxOf e))), some (.int (nI k0))]) ?_ (l_X7_touch (S := S) hB a m hL es e most k0 0 hk0 hm (fun S1 g1 g2 g3 g4 g5 => ?_) hr.1 k0 S (Nat.le_refl _) chg.rf rfl rfl (fun j q1 q2 => by omega) (fun j q => rfl))
    · rfl
    refine X_aload_n (i := 0) hB dX7_touch_86 rfl rfl ?_
    refine X_getr hB cw6 fX7_13 rfl hL.1.1 hL.1.2 (show S1.2.2 a 0 = some (a + 1) by rw [g2]; exact hr.1) dX7_touch_87 ?_
    refine X_iconst (v := 0) hB dX7_touch_90 (by decide) ?_
    refine X_lload_n (i := 1) hB dX7_touch_91 rfl rfl ?_
    refine X_lastN hB (0) hL.2.1.1 hL.2.1.2 (by omega) rfl (by omega) dX7_touch_92 ?_
    refine X_vret hB rfl dX7_touch_93 ?_
    refine ⟨rfl, g1.tr (chg.setJ (by omega) (by omega)), g2, ?_, ?_, ?_⟩
    · show S1.2.2 a 0 = _
      rw [g2]; exact hr.1
    · show S1.1 a 1 = _
      rw [g3]; exact hcnt
    · exact tch_R hr hl h1 hk g4 g5
  · have e13 : es.idxOf e = es.length := (nI_eq (by omega) (by omega)).mp c13
    have hnm : e ∉ es := fun q => absurd (memJ.mpr q) (by omega)
    rw [if_neg hnm] at hlen
    refine X_aload_n (i := 0) hB dX7_touch_16 rfl rfl ?_
    refine X_geti hB cw6 fX7_19 rfl hL.1.1 hL.1.2 dX7_touch_17 ?_
    refine X_topi (y := nI es.length) (hr.2.1) ?_
    refine X_iload_n (i := 3) hB dX7_touch_20 rfl rfl ?_
    refine X_icmp_ge (tgt := 46) hB dX7_touch_21 (by decide) (fun c21 => ?_) (fun c21 => ?_)
    · rw [nI_leI (by omega) (by omega)] at c21
      have e9 : (tch es e most).length = es.length := by rw [hlen]; omega
      have hcnt : S.1 a 1 = nI (tch es e most).length := by rw [hr.2.1, e9]
      refine X_iload hB dX7_touch_46 rfl ?_
      refine X_aload_n (i := 0) hB dX7_touch_48 rfl rfl ?_
      refine X_geti hB cw6 fX7_19 rfl hL.1.1 hL.1.2 dX7_touch_49 ?_
      refine X_topi (y := nI (tch es e most).length) (hcnt) ?_
      refine X_iconst (v := 1) hB dX7_touch_52 (by decide) ?_
      refine X_isub hB dX7_touch_53 ?_
      have ht1 : 1 ≤ (tch es e most).length := by
        rw [e9]
        omega
      refine X_topi (y := nI ((tch es e most).length - 1)) (by first | rfl | (simp (disch := omega) only [nlit, nI_add, nI_mul, nI_sub]; done) | (simp (disch := omega) only [nlit, nI_add, nI_mul, nI_sub]; (congr 1 <;> omega))) ?_
      refine X_mmin hB kX7_27 (by decide) (Nat.le_of_ble_eq_true rfl) dX7_touch_54 ?_
      refine X_topi (y := nI (min (es.idxOf e) ((tch es e most).length - 1))) (min_nI (by omega) (by omega)) ?_
      refine X_istore hB dX7_touch_57 (by decide) rfl ?_
      have hk0 : min (es.idxOf e) ((tch es e most).length - 1) < m := by omega
      generalize hk : min (es.idxOf e) ((tch es e most).length - 1) = k0 at hk0
      have hk := hk.symm
      refine X_lv (lv' := [some (.ref a), some (.long (e)), none, some (.int (nI most)), some (.int (nI (es.idxOf e))), some (.int (nI k0))]) ?_ (l_X7_touch (S := S) hB a m hL es e most k0 0 hk0 hm (fun S1 g1 g2 g3 g4 g5 => ?_) hr.1 k0 S (Nat.le_refl _) chg.rf rfl rfl (fun j q1 q2 => by omega) (fun j q => rfl))
      · rfl
      refine X_aload_n (i := 0) hB dX7_touch_86 rfl rfl ?_
      refine X_getr hB cw6 fX7_13 rfl hL.1.1 hL.1.2 (show S1.2.2 a 0 = some (a + 1) by rw [g2]; exact hr.1) dX7_touch_87 ?_
      refine X_iconst (v := 0) hB dX7_touch_90 (by decide) ?_
      refine X_lload_n (i := 1) hB dX7_touch_91 rfl rfl ?_
      refine X_lastN hB (0) hL.2.1.1 hL.2.1.2 (by omega) rfl (by omega) dX7_touch_92 ?_
      refine X_vret hB rfl dX7_touch_93 ?_
      refine ⟨rfl, g1.tr (chg.setJ (by omega) (by omega)), g2, ?_, ?_, ?_⟩
      · show S1.2.2 a 0 = _
        rw [g2]; exact hr.1
      · show S1.1 a 1 = _
        rw [g3]; exact hcnt
      · exact tch_R hr hl h1 hk g4 g5
    · have e21 : es.length < most := by
        rw [nI_leI (by omega) (by omega)] at c21
        omega
      refine X_aload_n (i := 0) hB dX7_touch_24 rfl rfl ?_
      refine X_geti hB cw6 fX7_19 rfl hL.1.1 hL.1.2 dX7_touch_25 ?_
      refine X_topi (y := nI es.length) (hr.2.1) ?_
      refine X_aload_n (i := 0) hB dX7_touch_28 rfl rfl ?_
      refine X_getr hB cw6 fX7_13 rfl hL.1.1 hL.1.2 hr.1 dX7_touch_29 ?_
      refine X_alen hB hL.2.1.1 hL.2.1.2 (by decide) (v := nI m) rfl dX7_touch_32 ?_
      refine X_icmp_ge (tgt := 46) hB dX7_touch_33 (by decide) (fun c33 => absurd c33 (by simp (disch := omega) only [nlit, nI_leI, nI_ltI]; omega)) (fun c33 => ?_)
      refine X_aload_n (i := 0) hB dX7_touch_36 rfl rfl ?_
      refine X_dup hB dX7_touch_37 rfl ?_
      refine X_geti hB cw6 fX7_19 rfl hL.1.1 hL.1.2 dX7_touch_38 ?_
      refine X_topi (y := nI es.length) (hr.2.1) ?_
      refine X_iconst (v := 1) hB dX7_touch_41 (by decide) ?_
      refine X_iadd hB dX7_touch_42 ?_
      refine X_topi (y := nI (es.length + 1)) (by first | rfl | (simp (disch := omega) only [nlit, nI_add, nI_mul, nI_sub]; done) | (simp (disch := omega) only [nlit, nI_add, nI_mul, nI_sub]; (congr 1 <;> omega))) ?_
      refine X_puti hB cw6 fX7_19 rfl rfl hL.1.1 hL.1.2 dX7_touch_43 ?_
      have e9 : (tch es e most).length = es.length + 1 := by
        rw [hlen]; omega
      have hcnt : (setI S a 1 (nI (es.length + 1))).1 a 1 = nI (tch es e most).length := by rw [setI_at, e9]
      refine X_iload hB dX7_touch_46 rfl ?_
      refine X_aload_n (i := 0) hB dX7_touch_48 rfl rfl ?_
      refine X_geti hB cw6 fX7_19 rfl hL.1.1 hL.1.2 dX7_touch_49 ?_
      refine X_topi (y := nI (tch es e most).length) (hcnt) ?_
      refine X_iconst (v := 1) hB dX7_touch_52 (by decide) ?_
      refine X_isub hB dX7_touch_53 ?_
      have ht1 : 1 ≤ (tch es e most).length := by
        rw [e9]
        omega
      refine X_topi (y := nI ((tch es e most).length - 1)) (by first | rfl | (simp (disch := omega) only [nlit, nI_add, nI_mul, nI_sub]; done) | (simp (disch := omega) only [nlit, nI_add, nI_mul, nI_sub]; (congr 1 <;> omega))) ?_
      refine X_mmin hB kX7_27 (by decide) (Nat.le_of_ble_eq_true rfl) dX7_touch_54 ?_
      refine X_topi (y := nI (min (es.idxOf e) ((tch es e most).length - 1))) (min_nI (by omega) (by omega)) ?_
      refine X_istore hB dX7_touch_57 (by decide) rfl ?_
      have hk0 : min (es.idxOf e) ((tch es e most).length - 1) < m := by omega
      generalize hk : min (es.idxOf e) ((tch es e most).length - 1) = k0 at hk0
      have hk := hk.symm
      refine X_lv (lv' := [some (.ref a), some (.long (e)), none, some (.int (nI most)), some (.int (nI (es.idxOf e))), some (.int (nI k0))]) ?_ (l_X7_touch (S := (setI S a 1 (nI (es.length + 1)))) hB a m hL es e most k0 0 hk0 hm (fun S1 g1 g2 g3 g4 g5 => ?_) (show (setI S a 1 (nI (es.length + 1))).2.2 a 0 = some (a + 1) from hr.1) k0 (setI S a 1 (nI (es.length + 1))) (Nat.le_refl _) chg.rf rfl rfl (fun j q1 q2 => by omega) (fun j q => rfl))
      · rfl
      refine X_aload_n (i := 0) hB dX7_touch_86 rfl rfl ?_
      refine X_getr hB cw6 fX7_13 rfl hL.1.1 hL.1.2 (show S1.2.2 a 0 = some (a + 1) by rw [g2]; exact (show (setI S a 1 (nI (es.length + 1))).2.2 a 0 = some (a + 1) from hr.1)) dX7_touch_87 ?_
      refine X_iconst (v := 0) hB dX7_touch_90 (by decide) ?_
      refine X_lload_n (i := 1) hB dX7_touch_91 rfl rfl ?_
      refine X_lastN hB (0) hL.2.1.1 hL.2.1.2 (by omega) rfl (by omega) dX7_touch_92 ?_
      refine X_vret hB rfl dX7_touch_93 ?_
      refine ⟨rfl, (chg.setI (by omega) (by omega)).tr (g1.tr (chg.setJ (by omega) (by omega))), g2, ?_, ?_, ?_⟩
      · show S1.2.2 a 0 = _
        rw [g2]; exact (show (setI S a 1 (nI (es.length + 1))).2.2 a 0 = some (a + 1) from hr.1)
      · show S1.1 a 1 = _
        rw [g3]; exact hcnt
      · exact tch_R (S := S) hr hl h1 hk g4 g5
end CLS
