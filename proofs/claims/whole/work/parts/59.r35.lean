theorem inN_out {v : Int32} {c : Nat} (h : inN v c = none) : v.toInt < 0 ∨ (c : Int) - 1 < v.toInt := by
  unfold inN at h
  split at h
  · cases h
  · omega
theorem frOk_of {σ : Net} {b k : Nat} (hw : wfN σ b) (hk : k < (nAir σ).length) : frOk σ b ((nAir σ).getD k f0) := hw.2.2.2.1 _ (getD_mem hk)
section REF
variable {G : Gc} {S : St} {h : Nat}
set_option maxRecDepth 100000 in
set_option maxHeartbeats 4000000 in
theorem c_frameAt (hR : RLay G h) (hF : RRef S h) {k w : Nat} (hk : k < 40) (hw : w < 16) : C G mX12_frameAt 0 [.ref h, .int (nI k), .int (nI w)] S (fun r S' => r = some (.int (S.1 (h + 1) (777 + 16 * k + w))) ∧ S = S') := by
  refine C.mk (lv := [some (.ref h), some (.int (nI k)), some (.int (nI w))]) (by decide) (Nat.le_of_ble_eq_true rfl) rfl (fun E hB => ?_)
  refine X_aload_n (i := 0) hB dX12_frameAt_0 rfl rfl ?_
  refine X_getr hB cw10 fX12_7 rfl hR.1.1 hR.1.2 hF.1 dX12_frameAt_1 ?_
  refine X_sipush (v := 777) hB dX12_frameAt_4 (by decide) ?_
  refine X_bipush (v := 16) hB dX12_frameAt_7 (by decide) ?_
  refine X_iload_n (i := 1) hB dX12_frameAt_9 rfl rfl ?_
  refine X_imul hB dX12_frameAt_10 ?_
  refine X_iadd hB dX12_frameAt_11 ?_
  refine X_iload_n (i := 2) hB dX12_frameAt_12 rfl rfl ?_
  refine X_iadd hB dX12_frameAt_13 ?_
  refine X_ialdN hB (777 + 16 * k + w) hR.2.1.1 hR.2.1.2 (by decide) (by first | rfl | (simp (disch := omega) only [nlit, nI_add, nI_mul, nI_sub]; done) | (simp (disch := omega) only [nlit, nI_add, nI_mul, nI_sub]; (congr 1 <;> omega))) (by first | omega | (simp only []; omega)) rfl dX12_frameAt_14 ?_
  refine X_iret hB rfl dX12_frameAt_15 ?_
  exact ⟨rfl, rfl⟩
theorem c_frameAtE (hR : RLay G h) (hF : RRef S h) {k w : Nat} {x : Int32} (hx : x = nI w) (hk : k < 40) (hw : w < 16) : C G mX12_frameAt 0 [.ref h, .int (nI k), .int x] S (fun r S' => r = some (.int (S.1 (h + 1) (777 + 16 * k + w))) ∧ S = S') := by
  subst hx; exact c_frameAt hR hF hk hw
set_option maxRecDepth 100000 in
set_option maxHeartbeats 4000000 in
theorem l_whomOf (hR : RLay G h) (hF : RRef S h) {E : Ev} (hB : Bd G E mX12_whomOf) {Q : Option Value → St → Prop} (k : Nat) (hk40 : k < 40) (f : Fm) (hf : frS (fun w => S.1 (h + 1) (777 + 16 * k + w)) f) (hf8 : (fRo f).length ≤ 8) (hk3 : fKi f ≤ 3) (hfx : ∀ x ∈ fRo f, x < 8) (hfr : fFr f < 8) (hm : fFr f ∈ fRo f) (h0 : fKi f ≠ 0) (h1 : fKi f ≠ 1) (h2 : fKi f = 2 → (fRo f).getD 0 0 ≠ fFr f) (h3 : fKi f = 3 → 2 ≤ (fRo f).length ∧ (fRo f).getD 0 0 = fFr f) (kk : Q (some (.int (nI ((fRo f).getD (if fKi f = 2 then (fRo f).idxOf (fFr f) - 1 else (fRo f).idxOf (fFr f) + 1) 0)))) S) :
    ∀ (m i : Nat), i + m = (fRo f).idxOf (fFr f) → X G E mX12_whomOf 1 Q S 35 [some (.ref h), some (.int (nI k)), some (.int (nI (fKi f))), some (.int (nI (fRo f).length)), some (.int (nI i))] [] := by
  have hil := List.idxOf_lt_length_of_mem hm
  have hge := List.getElem_idxOf hil
  have hgi : (fRo f).getD ((fRo f).idxOf (fFr f)) 0 = fFr f := by rw [getD_lt hil]; exact hge
  intro m
  induction m with
  | zero =>
    intro i hi
    have hfi := hf.2 i (by omega)
    refine X_iload hB dX12_whomOf_35 rfl ?_
    refine X_iload_n (i := 3) hB dX12_whomOf_37 rfl rfl ?_
    refine X_icmp_ge (tgt := 96) hB dX12_whomOf_38 (by decide) (fun c38 => absurd c38 (by simp (disch := omega) only [nlit, nI_leI, nI_ltI]; omega)) (fun c38 => ?_)
    refine X_iload_n (i := 2) hB dX12_whomOf_41 rfl rfl ?_
    refine X_iconst (v := 1) hB dX12_whomOf_42 (by decide) ?_
    refine X_icmp_eq (tgt := 96) hB dX12_whomOf_43 (by decide) (fun c43 => absurd ((nI_eq (b := 1) (by omega) (by omega)).mp c43) h1) (fun c43 => ?_)
    refine X_aload_n (i := 0) hB dX12_whomOf_46 rfl rfl ?_
    refine X_iload_n (i := 1) hB dX12_whomOf_47 rfl rfl ?_
    refine X_bipush (v := 7) hB dX12_whomOf_48 (by decide) ?_
    refine X_iload hB dX12_whomOf_50 rfl ?_
    refine X_iadd hB dX12_whomOf_52 ?_
    refine X_callV hB kX12_398 cw10 hR.1.1 hR.1.2 (c_frameAtE (k := k) (w := 7 + i) hR hF (by first | rfl | (simp (disch := omega) only [nlit, nI_add, nI_mul, nI_sub]; done) | (simp (disch := omega) only [nlit, nI_add, nI_mul, nI_sub]; (congr 1 <;> omega))) (by omega) (by omega)) (by decide) (by decide) rfl rfl (Nat.le_of_ble_eq_true rfl) dX12_whomOf_53 (fun r53 S53 q53 => ?_)
    obtain ⟨rfl, rfl⟩ := q53
    refine X_topi (y := nI ((fRo f).getD i 0)) (hfi) ?_
    refine X_aload_n (i := 0) hB dX12_whomOf_56 rfl rfl ?_
    refine X_iload_n (i := 1) hB dX12_whomOf_57 rfl rfl ?_
    refine X_iconst (v := 1) hB dX12_whomOf_58 (by decide) ?_
    refine X_callV hB kX12_398 cw10 hR.1.1 hR.1.2 (c_frameAtE (k := k) (w := 1) hR hF (by first | rfl | (simp (disch := omega) only [nlit, nI_add, nI_mul, nI_sub]; done) | (simp (disch := omega) only [nlit, nI_add, nI_mul, nI_sub]; (congr 1 <;> omega))) (by omega) (by omega)) (by decide) (by decide) rfl rfl (Nat.le_of_ble_eq_true rfl) dX12_whomOf_59 (fun r59 S59 q59 => ?_)
    obtain ⟨rfl, rfl⟩ := q59
    refine X_topi (y := nI (fFr f)) (hf.1 1 (by omega)) ?_
    refine X_icmp_ne (tgt := 90) hB dX12_whomOf_62 (by decide) (fun c62 => absurd (congrArg nI ((congrArg (fun q => (fRo f).getD q 0) (show i = (fRo f).idxOf (fFr f) by omega)).trans hgi)) c62) (fun c62 => ?_)
    by_cases h2q : fKi f = 2
    · have hi1 : 1 ≤ i := by
        rcases Nat.eq_zero_or_pos i with q | q
        · exfalso
          apply h2 h2q
          have h9 : (fRo f).idxOf (fFr f) = 0 := by omega
          rw [h9] at hgi; exact hgi
        · exact q
      have hfq := hf.2 (i - 1) (by omega)
      refine X_aload_n (i := 0) hB dX12_whomOf_65 rfl rfl ?_
      refine X_iload_n (i := 1) hB dX12_whomOf_66 rfl rfl ?_
      refine X_bipush (v := 7) hB dX12_whomOf_67 (by decide) ?_
      refine X_iload_n (i := 2) hB dX12_whomOf_69 rfl rfl ?_
      refine X_iconst (v := 2) hB dX12_whomOf_70 (by decide) ?_
      refine X_icmp_ne (tgt := 81) hB dX12_whomOf_71 (by decide) (fun c71 => absurd (by rw [h2q]; rfl) c71) (fun c71 => ?_)
      refine X_iload hB dX12_whomOf_74 rfl ?_
      refine X_iconst (v := 1) hB dX12_whomOf_76 (by decide) ?_
      refine X_isub hB dX12_whomOf_77 ?_
      refine X_goto (tgt := 85) hB dX12_whomOf_78 (by decide) ?_
      refine X_iadd hB dX12_whomOf_85 ?_
      refine X_callV hB kX12_398 cw10 hR.1.1 hR.1.2 (c_frameAtE (k := k) (w := 7 + (i - 1)) hR hF (by first | rfl | (simp (disch := omega) only [nlit, nI_add, nI_mul, nI_sub]; done) | (simp (disch := omega) only [nlit, nI_add, nI_mul, nI_sub]; (congr 1 <;> omega))) (by omega) (by omega)) (by decide) (by decide) rfl rfl (Nat.le_of_ble_eq_true rfl) dX12_whomOf_86 (fun r86 S86 q86 => ?_)
      obtain ⟨rfl, rfl⟩ := q86
      refine X_topi (y := nI ((fRo f).getD (if fKi f = 2 then (fRo f).idxOf (fFr f) - 1 else (fRo f).idxOf (fFr f) + 1) 0)) (by rw [if_pos h2q, ← (show i = (fRo f).idxOf (fFr f) by omega)]; exact hfq) ?_
      refine X_iret hB rfl dX12_whomOf_89 ?_
      exact kk
    · have h3q := h3 (by omega)
      have hi0 : i = 0 := by
        rcases Nat.eq_zero_or_pos i with q | q
        · exact q
        · exfalso
          have : (fRo f).idxOf (fFr f) = 0 := by
            rw [← h3q.2]
            cases hr : fRo f with
            | nil => rw [hr] at hil; simp at hil
            | cons a t => simp
          omega
      have hfq := hf.2 (i + 1) (by omega)
      refine X_aload_n (i := 0) hB dX12_whomOf_65 rfl rfl ?_
      refine X_iload_n (i := 1) hB dX12_whomOf_66 rfl rfl ?_
      refine X_bipush (v := 7) hB dX12_whomOf_67 (by decide) ?_
      refine X_iload_n (i := 2) hB dX12_whomOf_69 rfl rfl ?_
      refine X_iconst (v := 2) hB dX12_whomOf_70 (by decide) ?_
      refine X_icmp_ne (tgt := 81) hB dX12_whomOf_71 (by decide) (fun c71 => ?_) (fun c71 => absurd ((nI_eq (b := 2) (by omega) (by omega)).mp c71) h2q)
      refine X_iload hB dX12_whomOf_81 rfl ?_
      refine X_iconst (v := 1) hB dX12_whomOf_83 (by decide) ?_
      refine X_iadd hB dX12_whomOf_84 ?_
      refine X_iadd hB dX12_whomOf_85 ?_
      refine X_callV hB kX12_398 cw10 hR.1.1 hR.1.2 (c_frameAtE (k := k) (w := 7 + (i + 1)) hR hF (by first | rfl | (simp (disch := omega) only [nlit, nI_add, nI_mul, nI_sub]; done) | (simp (disch := omega) only [nlit, nI_add, nI_mul, nI_sub]; (congr 1 <;> omega))) (by omega) (by omega)) (by decide) (by decide) rfl rfl (Nat.le_of_ble_eq_true rfl) dX12_whomOf_86 (fun r86 S86 q86 => ?_)
      obtain ⟨rfl, rfl⟩ := q86
      refine X_topi (y := nI ((fRo f).getD (if fKi f = 2 then (fRo f).idxOf (fFr f) - 1 else (fRo f).idxOf (fFr f) + 1) 0)) (by rw [if_neg h2q, ← (show i = (fRo f).idxOf (fFr f) by omega)]; exact hfq) ?_
      refine X_iret hB rfl dX12_whomOf_89 ?_
      exact kk
  | succ m ih =>
    intro i hi
    have hfi := hf.2 i (by omega)
    have hne : (fRo f).getD i 0 ≠ fFr f := by
      intro e
      rw [getD_lt (by omega)] at e
      have := List.not_of_lt_findIdx (p := (· == fFr f)) (xs := fRo f) (i := i) (by show i < (fRo f).idxOf (fFr f); omega)
      rw [e] at this
      simp at this
    have hlt : (fRo f).getD i 0 < 8 := hfx _ (getD_mem (by omega))
    refine X_iload hB dX12_whomOf_35 rfl ?_
    refine X_iload_n (i := 3) hB dX12_whomOf_37 rfl rfl ?_
    refine X_icmp_ge (tgt := 96) hB dX12_whomOf_38 (by decide) (fun c38 => absurd c38 (by simp (disch := omega) only [nlit, nI_leI, nI_ltI]; omega)) (fun c38 => ?_)
    refine X_iload_n (i := 2) hB dX12_whomOf_41 rfl rfl ?_
    refine X_iconst (v := 1) hB dX12_whomOf_42 (by decide) ?_
    refine X_icmp_eq (tgt := 96) hB dX12_whomOf_43 (by decide) (fun c43 => absurd ((nI_eq (b := 1) (by omega) (by omega)).mp c43) h1) (fun c43 => ?_)
    refine X_aload_n (i := 0) hB dX12_whomOf_46 rfl rfl ?_
    refine X_iload_n (i := 1) hB dX12_whomOf_47 rfl rfl ?_
    refine X_bipush (v := 7) hB dX12_whomOf_48 (by decide) ?_
    refine X_iload hB dX12_whomOf_50 rfl ?_
    refine X_iadd hB dX12_whomOf_52 ?_
    refine X_callV hB kX12_398 cw10 hR.1.1 hR.1.2 (c_frameAtE (k := k) (w := 7 + i) hR hF (by first | rfl | (simp (disch := omega) only [nlit, nI_add, nI_mul, nI_sub]; done) | (simp (disch := omega) only [nlit, nI_add, nI_mul, nI_sub]; (congr 1 <;> omega))) (by omega) (by omega)) (by decide) (by decide) rfl rfl (Nat.le_of_ble_eq_true rfl) dX12_whomOf_53 (fun r53 S53 q53 => ?_)
    obtain ⟨rfl, rfl⟩ := q53
    refine X_topi (y := nI ((fRo f).getD i 0)) (hfi) ?_
    refine X_aload_n (i := 0) hB dX12_whomOf_56 rfl rfl ?_
    refine X_iload_n (i := 1) hB dX12_whomOf_57 rfl rfl ?_
    refine X_iconst (v := 1) hB dX12_whomOf_58 (by decide) ?_
    refine X_callV hB kX12_398 cw10 hR.1.1 hR.1.2 (c_frameAtE (k := k) (w := 1) hR hF (by first | rfl | (simp (disch := omega) only [nlit, nI_add, nI_mul, nI_sub]; done) | (simp (disch := omega) only [nlit, nI_add, nI_mul, nI_sub]; (congr 1 <;> omega))) (by omega) (by omega)) (by decide) (by decide) rfl rfl (Nat.le_of_ble_eq_true rfl) dX12_whomOf_59 (fun r59 S59 q59 => ?_)
    obtain ⟨rfl, rfl⟩ := q59
    refine X_topi (y := nI (fFr f)) (hf.1 1 (by omega)) ?_
    refine X_icmp_ne (tgt := 90) hB dX12_whomOf_62 (by decide) (fun c62 => ?_) (fun c62 => absurd ((nI_eq (by omega) (by omega)).mp c62) hne)
    refine X_iinc hB dX12_whomOf_90 rfl rfl (by decide) rfl ?_
    refine X_goto (tgt := 35) hB dX12_whomOf_93 (by decide) ?_
    refine X_lv ?_ (ih (i + 1) (by omega))
    · rw [nI_succ]; rfl
set_option maxRecDepth 100000 in
set_option maxHeartbeats 4000000 in
theorem c_whomOf (hR : RLay G h) (hF : RRef S h) (σ : Net) (b : Nat) (hw : wfN σ b) (hN : netR (S.1 (h + 1)) σ) (k : Nat) (hk : k < (nAir σ).length) : C G mX12_whomOf 1 [.ref h, .int (nI k)] S (fun r S' => r = some (.int (whom σ ((nAir σ).getD k f0))) ∧ S = S') := by
  have hs := hw.sz
  have ha40 := hs.1
  have hd40 := hs.2.1
  have hf := hN.2.2.1 k hk
  have hfo := frOk_of hw hk
  have hf8 := air_getD hs hk
  generalize hff : (nAir σ).getD k f0 = f at *
  have hk3 := hfo.1.1
  refine C.mk (lv := [some (.ref h), some (.int (nI k)), none, none, none]) (by decide) (Nat.le_of_ble_eq_true rfl) rfl (fun E hB => ?_)
  refine X_aload_n (i := 0) hB dX12_whomOf_0 rfl rfl ?_
  refine X_iload_n (i := 1) hB dX12_whomOf_1 rfl rfl ?_
  refine X_iconst (v := 0) hB dX12_whomOf_2 (by decide) ?_
  refine X_callV hB kX12_398 cw10 hR.1.1 hR.1.2 (c_frameAtE (k := k) (w := 0) hR hF (by first | rfl | (simp (disch := omega) only [nlit, nI_add, nI_mul, nI_sub]; done) | (simp (disch := omega) only [nlit, nI_add, nI_mul, nI_sub]; (congr 1 <;> omega))) (by omega) (by omega)) (by decide) (by decide) rfl rfl (Nat.le_of_ble_eq_true rfl) dX12_whomOf_3 (fun r3 S3 q3 => ?_)
  obtain ⟨rfl, rfl⟩ := q3
  refine X_topi (y := nI (fKi f)) (hf.1 0 (by omega)) ?_
  refine X_istore_n (i := 2) hB dX12_whomOf_6 rfl (by decide) rfl ?_
  refine X_iload_n (i := 2) hB dX12_whomOf_7 rfl rfl ?_
  refine X_if_ne (tgt := 24) hB dX12_whomOf_8 (by decide) (fun c8 => ?_) (fun c8 => ?_)
  · refine X_aload_n (i := 0) hB dX12_whomOf_24 rfl rfl ?_
    refine X_iload_n (i := 1) hB dX12_whomOf_25 rfl rfl ?_
    refine X_bipush (v := 6) hB dX12_whomOf_26 (by decide) ?_
    refine X_callV hB kX12_398 cw10 hR.1.1 hR.1.2 (c_frameAtE (k := k) (w := 6) hR hF (by first | rfl | (simp (disch := omega) only [nlit, nI_add, nI_mul, nI_sub]; done) | (simp (disch := omega) only [nlit, nI_add, nI_mul, nI_sub]; (congr 1 <;> omega))) (by omega) (by omega)) (by decide) (by decide) rfl rfl (Nat.le_of_ble_eq_true rfl) dX12_whomOf_28 (fun r28 S28 q28 => ?_)
    obtain ⟨rfl, rfl⟩ := q28
    refine X_topi (y := nI (fRo f).length) (hf.1 6 (by omega)) ?_
    refine X_istore_n (i := 3) hB dX12_whomOf_31 rfl (by decide) rfl ?_
    refine X_iconst (v := 0) hB dX12_whomOf_32 (by decide) ?_
    refine X_istore hB dX12_whomOf_33 (by decide) rfl ?_
    have e8 : ¬ fKi f = 0 := fun q => c8 (by rw [q]; rfl)
    by_cases e1 : fKi f = 1
    · have hro : 1 ≤ (fRo f).length := List.length_pos_iff.mpr (hfo.2.2.1 e1).1
      refine X_iload hB dX12_whomOf_35 rfl ?_
      refine X_iload_n (i := 3) hB dX12_whomOf_37 rfl rfl ?_
      refine X_icmp_ge (tgt := 96) hB dX12_whomOf_38 (by decide) (fun c38 => absurd c38 (by rw [show (0 : Int32) = nI 0 from rfl, nI_leI (by omega) (by omega)]; omega)) (fun c38 => ?_)
      refine X_iload_n (i := 2) hB dX12_whomOf_41 rfl rfl ?_
      refine X_iconst (v := 1) hB dX12_whomOf_42 (by decide) ?_
      refine X_icmp_eq (tgt := 96) hB dX12_whomOf_43 (by decide) (fun c43 => ?_) (fun c43 => absurd (by rw [e1]; rfl) c43)
      refine X_iconst (v := (-1)) hB dX12_whomOf_96 (by decide) ?_
      refine X_iret hB rfl dX12_whomOf_97 ?_
      refine ⟨?_, rfl⟩
      rw [whom, if_neg e8, if_pos e1]
    · have hm : fFr f ∈ fRo f := by
        rcases (show fKi f = 2 ∨ fKi f = 3 by omega) with q | q
        · exact (hfo.2.2.2.1 q).1
        · have h3 := hfo.2.2.2.2 q
          rw [← h3.2.1]; exact getD_mem (by omega)
      refine X_lv ?_ (l_whomOf hR hF hB k (by omega) f hf hf8 hk3 hfo.1.2.2.2 hfo.1.2.1 hm e8 e1 (fun q => (hfo.2.2.2.1 q).2) (fun q => ⟨(hfo.2.2.2.2 q).1, (hfo.2.2.2.2 q).2.1⟩) ⟨by rw [whom, if_neg e8, if_neg e1], rfl⟩ ((fRo f).idxOf (fFr f)) 0 (by omega))
      rw [nI_0]; rfl
  · have e8 : fKi f = 0 := (nI_eq (b := 0) (by omega) (by omega)).mp c8
    have h0 := hfo.2.1 e8
    have hx := hN.2.2.2 (fAb f) h0.1
    have hr2 := ((hw.da h0.1).2.2.1 h0.2.1).1
    have hfa := h0.1
    refine X_aload_n (i := 0) hB dX12_whomOf_11 rfl rfl ?_
    refine X_aload_n (i := 0) hB dX12_whomOf_12 rfl rfl ?_
    refine X_iload_n (i := 1) hB dX12_whomOf_13 rfl rfl ?_
    refine X_iconst (v := 2) hB dX12_whomOf_14 (by decide) ?_
    refine X_callV hB kX12_398 cw10 hR.1.1 hR.1.2 (c_frameAtE (k := k) (w := 2) hR hF (by first | rfl | (simp (disch := omega) only [nlit, nI_add, nI_mul, nI_sub]; done) | (simp (disch := omega) only [nlit, nI_add, nI_mul, nI_sub]; (congr 1 <;> omega))) (by omega) (by omega)) (by decide) (by decide) rfl rfl (Nat.le_of_ble_eq_true rfl) dX12_whomOf_15 (fun r15 S15 q15 => ?_)
    obtain ⟨rfl, rfl⟩ := q15
    refine X_topi (y := nI (fAb f)) ((hf.1 2 (by omega)).trans (by simp [fwd_, e8])) ?_
    refine X_bipush (v := 19) hB dX12_whomOf_18 (by decide) ?_
    refine X_callV hB kX12_246 cw10 hR.1.1 hR.1.2 (c_ofDE (n := fAb f) (w := 19) hR hF rfl (by first | rfl | (simp (disch := omega) only [nlit, nI_add, nI_mul, nI_sub]; done) | (simp (disch := omega) only [nlit, nI_add, nI_mul, nI_sub]; (congr 1 <;> omega))) (by omega) (by omega)) (by decide) (by decide) rfl rfl (Nat.le_of_ble_eq_true rfl) dX12_whomOf_20 (fun r20 S20 q20 => ?_)
    obtain ⟨rfl, rfl⟩ := q20
    refine X_topi (y := whom σ f) (by rw [whom, if_pos e8]; exact hx.2.2.2.2.2.2.2.2.2.2.2 1 (by omega)) ?_
    refine X_iret hB rfl dX12_whomOf_23 ?_
    exact ⟨rfl, rfl⟩
set_option maxRecDepth 100000 in
set_option maxHeartbeats 4000000 in
theorem c_whatOf (hR : RLay G h) (hF : RRef S h) (σ : Net) (b : Nat) (hw : wfN σ b) (hN : netR (S.1 (h + 1)) σ) (k : Nat) (hk : k < (nAir σ).length) : C G mX12_whatOf 1 [.ref h, .int (nI k)] S (fun r S' => r = some (.int (whatF ((nAir σ).getD k f0))) ∧ S = S') := by
  have hs := hw.sz
  have ha40 := hs.1
  have hd40 := hs.2.1
  have hf := hN.2.2.1 k hk
  have hfo := frOk_of hw hk
  have hf8 := air_getD hs hk
  generalize hff : (nAir σ).getD k f0 = f at *
  have hk3 := hfo.1.1
  refine C.mk (lv := [some (.ref h), some (.int (nI k)), none]) (by decide) (Nat.le_of_ble_eq_true rfl) rfl (fun E hB => ?_)
  refine X_aload_n (i := 0) hB dX12_whatOf_0 rfl rfl ?_
  refine X_iload_n (i := 1) hB dX12_whatOf_1 rfl rfl ?_
  refine X_iconst (v := 0) hB dX12_whatOf_2 (by decide) ?_
  refine X_callV hB kX12_398 cw10 hR.1.1 hR.1.2 (c_frameAtE (k := k) (w := 0) hR hF (by first | rfl | (simp (disch := omega) only [nlit, nI_add, nI_mul, nI_sub]; done) | (simp (disch := omega) only [nlit, nI_add, nI_mul, nI_sub]; (congr 1 <;> omega))) (by omega) (by omega)) (by decide) (by decide) rfl rfl (Nat.le_of_ble_eq_true rfl) dX12_whatOf_3 (fun r3 S3 q3 => ?_)
  obtain ⟨rfl, rfl⟩ := q3
  refine X_topi (y := nI (fKi f)) (hf.1 0 (by omega)) ?_
  refine X_istore_n (i := 2) hB dX12_whatOf_6 rfl (by decide) rfl ?_
  refine X_iload_n (i := 2) hB dX12_whatOf_7 rfl rfl ?_
  refine X_iconst (v := 2) hB dX12_whatOf_8 (by decide) ?_
  refine X_icmp_ne (tgt := 30) hB dX12_whatOf_9 (by decide) (fun c9 => ?_) (fun c9 => ?_)
  · refine X_aload_n (i := 0) hB dX12_whatOf_30 rfl rfl ?_
    refine X_iload_n (i := 1) hB dX12_whatOf_31 rfl rfl ?_
    refine X_iload_n (i := 2) hB dX12_whatOf_32 rfl rfl ?_
    refine X_iconst (v := 3) hB dX12_whatOf_33 (by decide) ?_
    refine X_icmp_ne (tgt := 41) hB dX12_whatOf_34 (by decide) (fun c34 => ?_) (fun c34 => ?_)
    · have e34 : ¬ fKi f = 3 := fun q => c34 (by rw [q]; rfl)
      refine X_iconst (v := 2) hB dX12_whatOf_41 (by decide) ?_
      refine X_topi (y := nI (if fKi f = 3 then 5 else 2)) (by first | (rw [if_pos e34]; rfl) | (rw [if_neg e34]; rfl)) ?_
      refine X_callV hB kX12_398 cw10 hR.1.1 hR.1.2 (c_frameAt (k := k) (w := if fKi f = 3 then 5 else 2) hR hF (by omega) (by split <;> omega)) (by decide) (by decide) rfl rfl (Nat.le_of_ble_eq_true rfl) dX12_whatOf_42 (fun r42 S42 q42 => ?_)
      obtain ⟨rfl, rfl⟩ := q42
      refine X_topi (y := whatF f) (by
          have e9 : ¬ fKi f = 2 := fun q => c9 (by rw [q]; rfl)
          rw [whatF, if_neg e9]
          by_cases q : fKi f = 3
          · rw [if_pos q, if_pos q]; exact (hf.1 5 (by omega)).trans (by simp [fwd_, q])
          · rw [if_neg q, if_neg q]; exact (hf.1 2 (by omega)).trans (by simp only [fwd_]; rw [if_pos (by omega)])) ?_
      refine X_iret hB rfl dX12_whatOf_45 ?_
      exact ⟨rfl, rfl⟩
    · have e34 : fKi f = 3 := (nI_eq (b := 3) (by omega) (by omega)).mp c34
      refine X_iconst (v := 5) hB dX12_whatOf_37 (by decide) ?_
      refine X_goto (tgt := 42) hB dX12_whatOf_38 (by decide) ?_
      refine X_topi (y := nI (if fKi f = 3 then 5 else 2)) (by first | (rw [if_pos e34]; rfl) | (rw [if_neg e34]; rfl)) ?_
      refine X_callV hB kX12_398 cw10 hR.1.1 hR.1.2 (c_frameAt (k := k) (w := if fKi f = 3 then 5 else 2) hR hF (by omega) (by split <;> omega)) (by decide) (by decide) rfl rfl (Nat.le_of_ble_eq_true rfl) dX12_whatOf_42 (fun r42 S42 q42 => ?_)
      obtain ⟨rfl, rfl⟩ := q42
      refine X_topi (y := whatF f) (by
          have e9 : ¬ fKi f = 2 := fun q => c9 (by rw [q]; rfl)
          rw [whatF, if_neg e9]
          by_cases q : fKi f = 3
          · rw [if_pos q, if_pos q]; exact (hf.1 5 (by omega)).trans (by simp [fwd_, q])
          · rw [if_neg q, if_neg q]; exact (hf.1 2 (by omega)).trans (by simp only [fwd_]; rw [if_pos (by omega)])) ?_
      refine X_iret hB rfl dX12_whatOf_45 ?_
      exact ⟨rfl, rfl⟩
  · have e9 : fKi f = 2 := (nI_eq (b := 2) (by omega) (by omega)).mp c9
    have h1 : 1 ≤ (fRo f).length := by have := List.length_pos_of_mem (hfo.2.2.2.1 e9).1; omega
    refine X_aload_n (i := 0) hB dX12_whatOf_12 rfl rfl ?_
    refine X_iload_n (i := 1) hB dX12_whatOf_13 rfl rfl ?_
    refine X_bipush (v := 6) hB dX12_whatOf_14 (by decide) ?_
    refine X_aload_n (i := 0) hB dX12_whatOf_16 rfl rfl ?_
    refine X_iload_n (i := 1) hB dX12_whatOf_17 rfl rfl ?_
    refine X_bipush (v := 6) hB dX12_whatOf_18 (by decide) ?_
    refine X_callV hB kX12_398 cw10 hR.1.1 hR.1.2 (c_frameAtE (k := k) (w := 6) hR hF (by first | rfl | (simp (disch := omega) only [nlit, nI_add, nI_mul, nI_sub]; done) | (simp (disch := omega) only [nlit, nI_add, nI_mul, nI_sub]; (congr 1 <;> omega))) (by omega) (by omega)) (by decide) (by decide) rfl rfl (Nat.le_of_ble_eq_true rfl) dX12_whatOf_20 (fun r20 S20 q20 => ?_)
    obtain ⟨rfl, rfl⟩ := q20
    refine X_topi (y := nI (fRo f).length) (hf.1 6 (by omega)) ?_
    refine X_iadd hB dX12_whatOf_23 ?_
    refine X_callV hB kX12_398 cw10 hR.1.1 hR.1.2 (c_frameAtE (k := k) (w := 6 + (fRo f).length) hR hF (by first | rfl | (simp (disch := omega) only [nlit, nI_add, nI_mul, nI_sub]; done) | (simp (disch := omega) only [nlit, nI_add, nI_mul, nI_sub]; (congr 1 <;> omega))) (by omega) (by omega)) (by decide) (by decide) rfl rfl (Nat.le_of_ble_eq_true rfl) dX12_whatOf_24 (fun r24 S24 q24 => ?_)
    obtain ⟨rfl, rfl⟩ := q24
    refine X_topi (y := whatF f) (by rw [whatF, if_pos e9]; have this : S.1 (h + 1) (777 + 16 * k + (7 + ((fRo f).length - 1))) = _ := hf.2 ((fRo f).length - 1) (by omega); rw [← this]; exact congrArg _ (by omega)) ?_
    refine X_goto (tgt := 45) hB dX12_whatOf_27 (by decide) ?_
    refine X_iret hB rfl dX12_whatOf_45 ?_
    exact ⟨rfl, rfl⟩
set_option maxRecDepth 100000 in
set_option maxHeartbeats 4000000 in
theorem c_air (hR : RLay G h) (hF : RRef S h) (σ : Net) (b : Nat) (hw : wfN σ b) (hN : netR (S.1 (h + 1)) σ) (v w : Int32) : C G mX12_air 2 [.ref h, .int v, .int w] S (fun r S' => r = some (.int (aAir σ v w)) ∧ fr h [] [0] S S') := by
  have hs := hw.sz
  have hc8 := hw.1.1.2
  have ha40 := hs.1
  have hd40 := hs.2.1
  refine C.mk (lv := [some (.ref h), some (.int v), some (.int w)]) (by decide) (Nat.le_of_ble_eq_true rfl) rfl (fun E hB => ?_)
  refine X_aload_n (i := 0) hB dX12_air_0 rfl rfl ?_
  refine X_iconst (v := 0) hB dX12_air_1 (by decide) ?_
  refine X_puti hB cw10 fX12_51 rfl rfl hR.1.1 hR.1.2 dX12_air_2 ?_
  generalize hS0 : setI S h 0 0 = S0
  have fz : fr h [] [0] S S0 := hS0 ▸ fr.fld (by simp)
  have hF := fz.ref hF
  have hN : netR (S0.1 (h + 1)) σ := by rw [fz.2.1 (h + 1) (by simp) (by omega)]; exact hN
  clear hS0
  refine X_iload_n (i := 1) hB dX12_air_5 rfl rfl ?_
  refine X_iconst (v := 0) hB dX12_air_6 (by decide) ?_
  refine X_aload_n (i := 0) hB dX12_air_7 rfl rfl ?_
  refine X_getr hB cw10 fX12_7 rfl hR.1.1 hR.1.2 hF.1 dX12_air_8 ?_
  refine X_bipush (v := 10) hB dX12_air_11 (by decide) ?_
  refine X_ialdN hB (10) hR.2.1.1 hR.2.1.2 (by decide) (by first | rfl | (simp (disch := omega) only [nlit, nI_add, nI_mul, nI_sub]; done) | (simp (disch := omega) only [nlit, nI_add, nI_mul, nI_sub]; (congr 1 <;> omega))) (by first | omega | (simp only []; omega)) hN.1.2.2.2.1 dX12_air_13 ?_
  refine X_iconst (v := 1) hB dX12_air_14 (by decide) ?_
  refine X_isub hB dX12_air_15 ?_
  refine X_callS hB kX12_55 (c_in _ _ _) (by decide) (by decide) rfl rfl (Nat.le_of_ble_eq_true rfl) dX12_air_16 (fun r16 S16 q16 => ?_)
  obtain ⟨rfl, rfl⟩ := q16
  refine X_topi (y := if inN v ((nAir σ).length) = none then 0 else 1) (in_if (by omega)) ?_
  refine X_if_ne (tgt := 25) hB dX12_air_19 (by decide) (fun c19 => ?_) (fun c19 => ?_)
  · obtain ⟨k, e19⟩ := opt_ex (if0n c19)
    obtain ⟨l19, rfl⟩ := inN_some e19
    have hf := hN.2.2.1 k l19
    have hfo := frOk_of hw l19
    have hk3 := hfo.1.1
    refine X_iload_n (i := 2) hB dX12_air_25 rfl rfl ?_
    cases eW : inN w 6 with
    | none =>
      refine X_tableOut (tgt := 106) hB dX12_air_26 (by have := inN_out eW; omega) (by decide) ?_
      refine X_bipush (v := (-2)) hB dX12_air_106 (by decide) ?_
      refine X_iret hB rfl dX12_air_108 ?_
      refine ⟨?_, fz⟩
      simp only [aAir, e19, eW]
    | some y =>
      obtain ⟨ly, rfl⟩ := inN_some eW
      rcases (show y = 0 ∨ y = 1 ∨ y = 2 ∨ y = 3 ∨ y = 4 ∨ y = 5 by omega) with rfl | rfl | rfl | rfl | rfl | rfl
      · refine X_tableIn (tgt := 64) hB dX12_air_26 (by decide) (by decide) (by rfl) (by decide) ?_
        refine X_aload_n (i := 0) hB dX12_air_64 rfl rfl ?_
        refine X_iload_n (i := 1) hB dX12_air_65 rfl rfl ?_
        refine X_iload_n (i := 2) hB dX12_air_66 rfl rfl ?_
        refine X_callV hB kX12_398 cw10 hR.1.1 hR.1.2 (c_frameAtE (k := k) (w := 0) hR hF (by first | rfl | (simp (disch := omega) only [nlit, nI_add, nI_mul, nI_sub]; done) | (simp (disch := omega) only [nlit, nI_add, nI_mul, nI_sub]; (congr 1 <;> omega))) (by omega) (by omega)) (by decide) (by decide) rfl rfl (Nat.le_of_ble_eq_true rfl) dX12_air_67 (fun r67 S67 q67 => ?_)
        obtain ⟨rfl, rfl⟩ := q67
        refine X_topi (y := fwd_ ((nAir σ).getD k f0) 0) (hf.1 0 (by omega)) ?_
        refine X_iret hB rfl dX12_air_70 ?_
        refine ⟨?_, fz⟩
        simp only [aAir, e19, eW]; rfl
      · refine X_tableIn (tgt := 64) hB dX12_air_26 (by decide) (by decide) (by rfl) (by decide) ?_
        refine X_aload_n (i := 0) hB dX12_air_64 rfl rfl ?_
        refine X_iload_n (i := 1) hB dX12_air_65 rfl rfl ?_
        refine X_iload_n (i := 2) hB dX12_air_66 rfl rfl ?_
        refine X_callV hB kX12_398 cw10 hR.1.1 hR.1.2 (c_frameAtE (k := k) (w := 1) hR hF (by first | rfl | (simp (disch := omega) only [nlit, nI_add, nI_mul, nI_sub]; done) | (simp (disch := omega) only [nlit, nI_add, nI_mul, nI_sub]; (congr 1 <;> omega))) (by omega) (by omega)) (by decide) (by decide) rfl rfl (Nat.le_of_ble_eq_true rfl) dX12_air_67 (fun r67 S67 q67 => ?_)
        obtain ⟨rfl, rfl⟩ := q67
        refine X_topi (y := fwd_ ((nAir σ).getD k f0) 1) (hf.1 1 (by omega)) ?_
        refine X_iret hB rfl dX12_air_70 ?_
        refine ⟨?_, fz⟩
        simp only [aAir, e19, eW]; rfl
      · refine X_tableIn (tgt := 71) hB dX12_air_26 (by decide) (by decide) (by rfl) (by decide) ?_
        refine X_aload_n (i := 0) hB dX12_air_71 rfl rfl ?_
        refine X_iload_n (i := 1) hB dX12_air_72 rfl rfl ?_
        refine X_callV hB kX12_401 cw10 hR.1.1 hR.1.2 (c_whomOf hR hF σ b hw hN k l19) (by decide) (by decide) rfl rfl (Nat.le_of_ble_eq_true rfl) dX12_air_73 (fun r73 S73 q73 => ?_)
        obtain ⟨rfl, rfl⟩ := q73
        refine X_iret hB rfl dX12_air_76 ?_
        refine ⟨?_, fz⟩
        simp only [aAir, e19, eW]; rfl
      · refine X_tableIn (tgt := 77) hB dX12_air_26 (by decide) (by decide) (by rfl) (by decide) ?_
        refine X_aload_n (i := 0) hB dX12_air_77 rfl rfl ?_
        refine X_iload_n (i := 1) hB dX12_air_78 rfl rfl ?_
        refine X_callV hB kX12_404 cw10 hR.1.1 hR.1.2 (c_whatOf hR hF σ b hw hN k l19) (by decide) (by decide) rfl rfl (Nat.le_of_ble_eq_true rfl) dX12_air_79 (fun r79 S79 q79 => ?_)
        obtain ⟨rfl, rfl⟩ := q79
        refine X_iret hB rfl dX12_air_82 ?_
        refine ⟨?_, fz⟩
        simp only [aAir, e19, eW]; rfl
      · refine X_tableIn (tgt := 83) hB dX12_air_26 (by decide) (by decide) (by rfl) (by decide) ?_
        refine X_aload_n (i := 0) hB dX12_air_83 rfl rfl ?_
        refine X_iload_n (i := 1) hB dX12_air_84 rfl rfl ?_
        refine X_iconst (v := 0) hB dX12_air_85 (by decide) ?_
        refine X_callV hB kX12_398 cw10 hR.1.1 hR.1.2 (c_frameAtE (k := k) (w := 0) hR hF (by first | rfl | (simp (disch := omega) only [nlit, nI_add, nI_mul, nI_sub]; done) | (simp (disch := omega) only [nlit, nI_add, nI_mul, nI_sub]; (congr 1 <;> omega))) (by omega) (by omega)) (by decide) (by decide) rfl rfl (Nat.le_of_ble_eq_true rfl) dX12_air_86 (fun r86 S86 q86 => ?_)
        obtain ⟨rfl, rfl⟩ := q86
        refine X_topi (y := nI (fKi ((nAir σ).getD k f0))) (hf.1 0 (by omega)) ?_
        refine X_iconst (v := 1) hB dX12_air_89 (by decide) ?_
        refine X_icmp_ne (tgt := 104) hB dX12_air_90 (by decide) (fun c90 => ?_) (fun c90 => ?_)
        · have e90 : ¬ fKi ((nAir σ).getD k f0) = 1 := fun q => c90 (by rw [q]; rfl)
          refine X_iconst (v := (-1)) hB dX12_air_104 (by decide) ?_
          refine X_iret hB rfl dX12_air_105 ?_
          refine ⟨?_, fz⟩
          simp only [aAir, e19, eW, frW]
          first | (rw [if_neg e90]) | (simp only [fwd_, e90, if_true])
        · have e90 : fKi ((nAir σ).getD k f0) = 1 := (nI_eq (b := 1) (by omega) (by omega)).mp c90
          refine X_aload_n (i := 0) hB dX12_air_93 rfl rfl ?_
          refine X_iload_n (i := 1) hB dX12_air_94 rfl rfl ?_
          refine X_iload_n (i := 2) hB dX12_air_95 rfl rfl ?_
          refine X_iconst (v := 1) hB dX12_air_96 (by decide) ?_
          refine X_isub hB dX12_air_97 ?_
          refine X_callV hB kX12_398 cw10 hR.1.1 hR.1.2 (c_frameAtE (k := k) (w := 3) hR hF (by first | rfl | (simp (disch := omega) only [nlit, nI_add, nI_mul, nI_sub]; done) | (simp (disch := omega) only [nlit, nI_add, nI_mul, nI_sub]; (congr 1 <;> omega))) (by omega) (by omega)) (by decide) (by decide) rfl rfl (Nat.le_of_ble_eq_true rfl) dX12_air_98 (fun r98 S98 q98 => ?_)
          obtain ⟨rfl, rfl⟩ := q98
          refine X_topi (y := fwd_ ((nAir σ).getD k f0) 3) (hf.1 3 (by omega)) ?_
          refine X_goto (tgt := 105) hB dX12_air_101 (by decide) ?_
          refine X_iret hB rfl dX12_air_105 ?_
          refine ⟨?_, fz⟩
          simp only [aAir, e19, eW, frW]
          first | (rw [if_neg e90]) | (simp only [fwd_, e90, if_true])
      · refine X_tableIn (tgt := 83) hB dX12_air_26 (by decide) (by decide) (by rfl) (by decide) ?_
        refine X_aload_n (i := 0) hB dX12_air_83 rfl rfl ?_
        refine X_iload_n (i := 1) hB dX12_air_84 rfl rfl ?_
        refine X_iconst (v := 0) hB dX12_air_85 (by decide) ?_
        refine X_callV hB kX12_398 cw10 hR.1.1 hR.1.2 (c_frameAtE (k := k) (w := 0) hR hF (by first | rfl | (simp (disch := omega) only [nlit, nI_add, nI_mul, nI_sub]; done) | (simp (disch := omega) only [nlit, nI_add, nI_mul, nI_sub]; (congr 1 <;> omega))) (by omega) (by omega)) (by decide) (by decide) rfl rfl (Nat.le_of_ble_eq_true rfl) dX12_air_86 (fun r86 S86 q86 => ?_)
        obtain ⟨rfl, rfl⟩ := q86
        refine X_topi (y := nI (fKi ((nAir σ).getD k f0))) (hf.1 0 (by omega)) ?_
        refine X_iconst (v := 1) hB dX12_air_89 (by decide) ?_
        refine X_icmp_ne (tgt := 104) hB dX12_air_90 (by decide) (fun c90 => ?_) (fun c90 => ?_)
        · have e90 : ¬ fKi ((nAir σ).getD k f0) = 1 := fun q => c90 (by rw [q]; rfl)
          refine X_iconst (v := (-1)) hB dX12_air_104 (by decide) ?_
          refine X_iret hB rfl dX12_air_105 ?_
          refine ⟨?_, fz⟩
          simp only [aAir, e19, eW, frW]
          first | (rw [if_neg e90]) | (simp only [fwd_, e90, if_true])
        · have e90 : fKi ((nAir σ).getD k f0) = 1 := (nI_eq (b := 1) (by omega) (by omega)).mp c90
          refine X_aload_n (i := 0) hB dX12_air_93 rfl rfl ?_
          refine X_iload_n (i := 1) hB dX12_air_94 rfl rfl ?_
          refine X_iload_n (i := 2) hB dX12_air_95 rfl rfl ?_
          refine X_iconst (v := 1) hB dX12_air_96 (by decide) ?_
          refine X_isub hB dX12_air_97 ?_
          refine X_callV hB kX12_398 cw10 hR.1.1 hR.1.2 (c_frameAtE (k := k) (w := 4) hR hF (by first | rfl | (simp (disch := omega) only [nlit, nI_add, nI_mul, nI_sub]; done) | (simp (disch := omega) only [nlit, nI_add, nI_mul, nI_sub]; (congr 1 <;> omega))) (by omega) (by omega)) (by decide) (by decide) rfl rfl (Nat.le_of_ble_eq_true rfl) dX12_air_98 (fun r98 S98 q98 => ?_)
          obtain ⟨rfl, rfl⟩ := q98
          refine X_topi (y := fwd_ ((nAir σ).getD k f0) 4) (hf.1 4 (by omega)) ?_
          refine X_goto (tgt := 105) hB dX12_air_101 (by decide) ?_
          refine X_iret hB rfl dX12_air_105 ?_
          refine ⟨?_, fz⟩
          simp only [aAir, e19, eW, frW]
          first | (rw [if_neg e90]) | (simp only [fwd_, e90, if_true])
  · first
      | (have e19 := if0 c19
         refine X_bipush (v := (-2)) hB dX12_air_22 (by decide) ?_
         refine X_iret hB rfl dX12_air_24 ?_
         refine ⟨?_, fz⟩
         simp only [aAir, nth, e19])
set_option maxRecDepth 100000 in
set_option maxHeartbeats 4000000 in
theorem c_row (hR : RLay G h) (hF : RRef S h) (σ : Net) (b : Nat) (hw : wfN σ b) (hN : netR (S.1 (h + 1)) σ) (v w : Int32) : C G mX12_row 2 [.ref h, .int v, .int w] S (fun r S' => r = some (.int (aRow σ v w)) ∧ fr h [] [0] S S') := by
  have hs := hw.sz
  have hc8 := hw.1.1.2
  have ha40 := hs.1
  have hd40 := hs.2.1
  refine C.mk (lv := [some (.ref h), some (.int v), some (.int w)]) (by decide) (Nat.le_of_ble_eq_true rfl) rfl (fun E hB => ?_)
  refine X_aload_n (i := 0) hB dX12_row_0 rfl rfl ?_
  refine X_iconst (v := 0) hB dX12_row_1 (by decide) ?_
  refine X_puti hB cw10 fX12_51 rfl rfl hR.1.1 hR.1.2 dX12_row_2 ?_
  generalize hS0 : setI S h 0 0 = S0
  have fz : fr h [] [0] S S0 := hS0 ▸ fr.fld (by simp)
  have hF := fz.ref hF
  have hN : netR (S0.1 (h + 1)) σ := by rw [fz.2.1 (h + 1) (by simp) (by omega)]; exact hN
  clear hS0
  refine X_iload_n (i := 1) hB dX12_row_5 rfl rfl ?_
  refine X_iconst (v := 0) hB dX12_row_6 (by decide) ?_
  refine X_aload_n (i := 0) hB dX12_row_7 rfl rfl ?_
  refine X_getr hB cw10 fX12_7 rfl hR.1.1 hR.1.2 hF.1 dX12_row_8 ?_
  refine X_bipush (v := 10) hB dX12_row_11 (by decide) ?_
  refine X_ialdN hB (10) hR.2.1.1 hR.2.1.2 (by decide) (by first | rfl | (simp (disch := omega) only [nlit, nI_add, nI_mul, nI_sub]; done) | (simp (disch := omega) only [nlit, nI_add, nI_mul, nI_sub]; (congr 1 <;> omega))) (by first | omega | (simp only []; omega)) hN.1.2.2.2.1 dX12_row_13 ?_
  refine X_iconst (v := 1) hB dX12_row_14 (by decide) ?_
  refine X_isub hB dX12_row_15 ?_
  refine X_callS hB kX12_55 (c_in _ _ _) (by decide) (by decide) rfl rfl (Nat.le_of_ble_eq_true rfl) dX12_row_16 (fun r16 S16 q16 => ?_)
  obtain ⟨rfl, rfl⟩ := q16
  refine X_topi (y := if inN v ((nAir σ).length) = none then 0 else 1) (in_if (by omega)) ?_
  refine X_if_ne (tgt := 24) hB dX12_row_19 (by decide) (fun c19 => ?_) (fun c19 => ?_)
  · obtain ⟨k, e19⟩ := opt_ex (if0n c19)
    obtain ⟨l19, rfl⟩ := inN_some e19
    have hf := hN.2.2.1 k l19
    have hfo := frOk_of hw l19
    have hk3 := hfo.1.1
    have hf8 := air_getD hs l19
    generalize hff : (nAir σ).getD k f0 = f at *
    refine X_aload_n (i := 0) hB dX12_row_24 rfl rfl ?_
    refine X_iload_n (i := 1) hB dX12_row_25 rfl rfl ?_
    refine X_iconst (v := 0) hB dX12_row_26 (by decide) ?_
    refine X_callV hB kX12_398 cw10 hR.1.1 hR.1.2 (c_frameAtE (k := k) (w := 0) hR hF (by first | rfl | (simp (disch := omega) only [nlit, nI_add, nI_mul, nI_sub]; done) | (simp (disch := omega) only [nlit, nI_add, nI_mul, nI_sub]; (congr 1 <;> omega))) (by omega) (by omega)) (by decide) (by decide) rfl rfl (Nat.le_of_ble_eq_true rfl) dX12_row_27 (fun r27 S27 q27 => ?_)
    obtain ⟨rfl, rfl⟩ := q27
    refine X_topi (y := nI (fKi f)) (hf.1 0 (by omega)) ?_
    refine X_if_ne (tgt := 73) hB dX12_row_30 (by decide) (fun c30 => ?_) (fun c30 => ?_)
    · have e30 : ¬ fKi f = 0 := fun q => c30 (by rw [q]; rfl)
      refine X_iload_n (i := 2) hB dX12_row_73 rfl rfl ?_
      refine X_iconst (v := 0) hB dX12_row_74 (by decide) ?_
      refine X_aload_n (i := 0) hB dX12_row_75 rfl rfl ?_
      refine X_iload_n (i := 1) hB dX12_row_76 rfl rfl ?_
      refine X_bipush (v := 6) hB dX12_row_77 (by decide) ?_
      refine X_callV hB kX12_398 cw10 hR.1.1 hR.1.2 (c_frameAtE (k := k) (w := 6) hR hF (by first | rfl | (simp (disch := omega) only [nlit, nI_add, nI_mul, nI_sub]; done) | (simp (disch := omega) only [nlit, nI_add, nI_mul, nI_sub]; (congr 1 <;> omega))) (by omega) (by omega)) (by decide) (by decide) rfl rfl (Nat.le_of_ble_eq_true rfl) dX12_row_79 (fun r79 S79 q79 => ?_)
      obtain ⟨rfl, rfl⟩ := q79
      refine X_topi (y := nI (fRo f).length) (hf.1 6 (by omega)) ?_
      refine X_iconst (v := 1) hB dX12_row_82 (by decide) ?_
      refine X_isub hB dX12_row_83 ?_
      refine X_callS hB kX12_55 (c_in _ _ _) (by decide) (by decide) rfl rfl (Nat.le_of_ble_eq_true rfl) dX12_row_84 (fun r84 S84 q84 => ?_)
      obtain ⟨rfl, rfl⟩ := q84
      refine X_topi (y := if inN w ((fRo f).length) = none then 0 else 1) (in_if (by omega)) ?_
      refine X_if_eq (tgt := 102) hB dX12_row_87 (by decide) (fun c87 => ?_) (fun c87 => ?_)
      · first
          | (have e87 := if0 c87
             refine X_iconst (v := (-1)) hB dX12_row_102 (by decide) ?_
             refine X_iret hB rfl dX12_row_103 ?_
             refine ⟨?_, fz⟩
             simp only [aRow, nth, e19, hff, frL, if_neg e30, e87])
      · obtain ⟨j, e87⟩ := opt_ex (if0n c87)
        obtain ⟨l87, rfl⟩ := inN_some e87
        refine X_aload_n (i := 0) hB dX12_row_90 rfl rfl ?_
        refine X_iload_n (i := 1) hB dX12_row_91 rfl rfl ?_
        refine X_bipush (v := 7) hB dX12_row_92 (by decide) ?_
        refine X_iload_n (i := 2) hB dX12_row_94 rfl rfl ?_
        refine X_iadd hB dX12_row_95 ?_
        refine X_callV hB kX12_398 cw10 hR.1.1 hR.1.2 (c_frameAtE (k := k) (w := 7 + j) hR hF (by first | rfl | (simp (disch := omega) only [nlit, nI_add, nI_mul, nI_sub]; done) | (simp (disch := omega) only [nlit, nI_add, nI_mul, nI_sub]; (congr 1 <;> omega))) (by omega) (by omega)) (by decide) (by decide) rfl rfl (Nat.le_of_ble_eq_true rfl) dX12_row_96 (fun r96 S96 q96 => ?_)
        obtain ⟨rfl, rfl⟩ := q96
        refine X_topi (y := nI ((fRo f).getD j 0)) (hf.2 j l87) ?_
        refine X_goto (tgt := 103) hB dX12_row_99 (by decide) ?_
        refine X_iret hB rfl dX12_row_103 ?_
        first
          | (refine ⟨?_, fz⟩
             simp only [aRow, nth, e19, hff, frL, e30, if_true, e51])
          | (refine ⟨?_, fz⟩
             simp only [aRow, nth, e19, hff, frL, if_neg e30, e87])
    · have e30 : fKi f = 0 := (nI_eq (b := 0) (by omega) (by omega)).mp c30
      have h0 := hfo.2.1 e30
      have hx := hN.2.2.2 (fAb f) h0.1
      have hfa := h0.1
      have hr8 := dat_len hs hfa
      refine X_iload_n (i := 2) hB dX12_row_33 rfl rfl ?_
      refine X_iconst (v := 0) hB dX12_row_34 (by decide) ?_
      refine X_aload_n (i := 0) hB dX12_row_35 rfl rfl ?_
      refine X_aload_n (i := 0) hB dX12_row_36 rfl rfl ?_
      refine X_iload_n (i := 1) hB dX12_row_37 rfl rfl ?_
      refine X_iconst (v := 2) hB dX12_row_38 (by decide) ?_
      refine X_callV hB kX12_398 cw10 hR.1.1 hR.1.2 (c_frameAtE (k := k) (w := 2) hR hF (by first | rfl | (simp (disch := omega) only [nlit, nI_add, nI_mul, nI_sub]; done) | (simp (disch := omega) only [nlit, nI_add, nI_mul, nI_sub]; (congr 1 <;> omega))) (by omega) (by omega)) (by decide) (by decide) rfl rfl (Nat.le_of_ble_eq_true rfl) dX12_row_39 (fun r39 S39 q39 => ?_)
      obtain ⟨rfl, rfl⟩ := q39
      refine X_topi (y := nI (fAb f)) ((hf.1 2 (by omega)).trans (by simp [fwd_, e30])) ?_
      refine X_iconst (v := 5) hB dX12_row_42 (by decide) ?_
      refine X_callV hB kX12_246 cw10 hR.1.1 hR.1.2 (c_ofDE (n := fAb f) (w := 5) hR hF rfl (by first | rfl | (simp (disch := omega) only [nlit, nI_add, nI_mul, nI_sub]; done) | (simp (disch := omega) only [nlit, nI_add, nI_mul, nI_sub]; (congr 1 <;> omega))) (by omega) (by omega)) (by decide) (by decide) rfl rfl (Nat.le_of_ble_eq_true rfl) dX12_row_43 (fun r43 S43 q43 => ?_)
      obtain ⟨rfl, rfl⟩ := q43
      refine X_topi (y := nI (aRe (dat σ (fAb f))).length) (hx.2.2.2.2.2.1) ?_
      refine X_iconst (v := 1) hB dX12_row_46 (by decide) ?_
      refine X_isub hB dX12_row_47 ?_
      refine X_callS hB kX12_55 (c_in _ _ _) (by decide) (by decide) rfl rfl (Nat.le_of_ble_eq_true rfl) dX12_row_48 (fun r48 S48 q48 => ?_)
      obtain ⟨rfl, rfl⟩ := q48
      refine X_topi (y := if inN w ((aRe (dat σ (fAb f))).length) = none then 0 else 1) (in_if (by omega)) ?_
      refine X_if_eq (tgt := 71) hB dX12_row_51 (by decide) (fun c51 => ?_) (fun c51 => ?_)
      · first
          | (have e51 := if0 c51
             refine X_iconst (v := (-1)) hB dX12_row_71 (by decide) ?_
             refine X_iret hB rfl dX12_row_72 ?_
             refine ⟨?_, fz⟩
             simp only [aRow, nth, e19, hff, frL, e30, if_true, e51])
      · obtain ⟨j, e51⟩ := opt_ex (if0n c51)
        obtain ⟨l51, rfl⟩ := inN_some e51
        refine X_aload_n (i := 0) hB dX12_row_54 rfl rfl ?_
        refine X_aload_n (i := 0) hB dX12_row_55 rfl rfl ?_
        refine X_iload_n (i := 1) hB dX12_row_56 rfl rfl ?_
        refine X_iconst (v := 2) hB dX12_row_57 (by decide) ?_
        refine X_callV hB kX12_398 cw10 hR.1.1 hR.1.2 (c_frameAtE (k := k) (w := 2) hR hF (by first | rfl | (simp (disch := omega) only [nlit, nI_add, nI_mul, nI_sub]; done) | (simp (disch := omega) only [nlit, nI_add, nI_mul, nI_sub]; (congr 1 <;> omega))) (by omega) (by omega)) (by decide) (by decide) rfl rfl (Nat.le_of_ble_eq_true rfl) dX12_row_58 (fun r58 S58 q58 => ?_)
        obtain ⟨rfl, rfl⟩ := q58
        refine X_topi (y := nI (fAb f)) ((hf.1 2 (by omega)).trans (by simp [fwd_, e30])) ?_
        refine X_bipush (v := 18) hB dX12_row_61 (by decide) ?_
        refine X_iload_n (i := 2) hB dX12_row_63 rfl rfl ?_
        refine X_iadd hB dX12_row_64 ?_
        refine X_callV hB kX12_246 cw10 hR.1.1 hR.1.2 (c_ofDE (n := fAb f) (w := 18 + j) hR hF rfl (by first | rfl | (simp (disch := omega) only [nlit, nI_add, nI_mul, nI_sub]; done) | (simp (disch := omega) only [nlit, nI_add, nI_mul, nI_sub]; (congr 1 <;> omega))) (by omega) (by omega)) (by decide) (by decide) rfl rfl (Nat.le_of_ble_eq_true rfl) dX12_row_65 (fun r65 S65 q65 => ?_)
        obtain ⟨rfl, rfl⟩ := q65
        refine X_topi (y := nI ((aRe (dat σ (fAb f))).getD j 0)) (hx.2.2.2.2.2.2.2.2.2.2.2 j l51) ?_
        refine X_goto (tgt := 72) hB dX12_row_68 (by decide) ?_
        refine X_iret hB rfl dX12_row_72 ?_
        first
          | (refine ⟨?_, fz⟩
             simp only [aRow, nth, e19, hff, frL, e30, if_true, e51])
          | (refine ⟨?_, fz⟩
             simp only [aRow, nth, e19, hff, frL, if_neg e30, e87])
  · first
      | (have e19 := if0 c19
         refine X_iconst (v := (-1)) hB dX12_row_22 (by decide) ?_
         refine X_iret hB rfl dX12_row_23 ?_
         refine ⟨?_, fz⟩
         simp only [aRow, nth, e19])
end REF
