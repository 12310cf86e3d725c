theorem div8 : ∀ k : Nat, k < 64 → nI k / 8 = nI (k / 8) := by decide +kernel
theorem rem8 : ∀ k : Nat, k < 64 → nI k - nI k / 8 * 8 = nI (k % 8) := by decide +kernel
theorem upA {A : Nat → Int32} {σ : Net} (hN : netR A σ) {k : Nat} (hk : k < 64) : A (25 + k) = if nUp σ (k / 8) (k % 8) then 1 else 0 := by
  have h := hN.1.2.2.2.2.2 (k / 8) (k % 8) (by omega) (by omega)
  rw [← h]; exact congrArg _ (by omega)
theorem knR_less {K : Nat → Int32} {f : Nat → Nat → Bool} (hK : knR K f) {k : Nat} (hk : k < 64) : knR (upd (upd K k 0) (8 * (k % 8) + k / 8) 0) (lessL f (k / 8) (k % 8)) := by
  intro x y hx hy
  unfold lessL
  by_cases h1 : x = k / 8 ∧ y = k % 8
  · rw [if_pos (Or.inl h1)]
    by_cases h2 : 8 * x + y = 8 * (k % 8) + k / 8
    · rw [h2, upd_at]; rfl
    · rw [upd_ne _ _ h2, show 8 * x + y = k by omega, upd_at]; rfl
  · by_cases h2 : x = k % 8 ∧ y = k / 8
    · rw [if_pos (Or.inr h2), show 8 * x + y = 8 * (k % 8) + k / 8 by omega, upd_at]; rfl
    · simp only [if_neg (show ¬ ((x = k / 8 ∧ y = k % 8) ∨ (x = k % 8 ∧ y = k / 8)) from fun q => q.elim h1 h2)]
      rw [upd_ne _ _ (by omega), upd_ne _ _ (by omega)]
      exact hK x y hx hy
theorem chnB_no {f : Nat → Nat → Bool} {w : List Nat} {i : Nat} (h : chnB f w i = false) : ∀ j, i ≤ j → chnB f w j = false := by
  intro j hj
  induction j with
  | zero => rwa [show i = 0 by omega] at h
  | succ j ih =>
    by_cases e : i = j + 1
    · rwa [e] at h
    · unfold chnB; rw [ih (by omega)]; rfl
section REF
variable {G : Gc} {S : St} {h : Nat}
set_option maxRecDepth 100000 in
set_option maxHeartbeats 4000000 in
theorem l_laysUp (hR : RLay G h) (hF : RRef S h) {E : Ev} (hB : Bd G E mX12_laysUp) {Q : Option Value → St → Prop} (σ : Net) (hN : netR (S.1 (h + 1)) σ) (kk : ∀ K, (∀ j, j < 64 → K j = S.1 (h + 1) (25 + j)) → Q none (rowI S (h + 9) K)) :
    ∀ (k i : Nat) (K : Nat → Int32), i + k = 64 → (∀ j, j < i → K j = S.1 (h + 1) (25 + j)) → X G E mX12_laysUp 0 Q (rowI S (h + 9) K) 2 [some (.ref h), some (.int (nI i))] [] := by
  intro k
  induction k with
  | zero =>
    intro i K h1 h2
    refine X_iload_n (i := 1) hB dX12_laysUp_2 rfl rfl ?_
    refine X_bipush (v := 64) hB dX12_laysUp_3 (by decide) ?_
    refine X_icmp_ge (tgt := 38) hB dX12_laysUp_5 (by decide) (fun c5 => ?_) (fun c5 => absurd c5 (by simp (disch := omega) only [nlit, nI_leI, nI_ltI]; omega))
    refine X_vret hB rfl dX12_laysUp_38 ?_
    exact kk K (fun j hj => h2 j (by omega))
  | succ k ih =>
    intro i K h1 h2
    refine X_iload_n (i := 1) hB dX12_laysUp_2 rfl rfl ?_
    refine X_bipush (v := 64) hB dX12_laysUp_3 (by decide) ?_
    refine X_icmp_ge (tgt := 38) hB dX12_laysUp_5 (by decide) (fun c5 => absurd c5 (by simp (disch := omega) only [nlit, nI_leI, nI_ltI]; omega)) (fun c5 => ?_)
    refine X_aload_n (i := 0) hB dX12_laysUp_8 rfl rfl ?_
    refine X_getr hB cw10 fX12_36 rfl hR.1.1 hR.1.2 hF.2.2.2.2.2.2.2.2.1 dX12_laysUp_9 ?_
    refine X_iload_n (i := 1) hB dX12_laysUp_12 rfl rfl ?_
    refine X_aload_n (i := 0) hB dX12_laysUp_13 rfl rfl ?_
    refine X_getr hB cw10 fX12_7 rfl hR.1.1 hR.1.2 hF.1 dX12_laysUp_14 ?_
    refine X_bipush (v := 25) hB dX12_laysUp_17 (by decide) ?_
    refine X_iload_n (i := 1) hB dX12_laysUp_19 rfl rfl ?_
    refine X_iadd hB dX12_laysUp_20 ?_
    refine X_ialdN hB (25 + i) hR.2.1.1 hR.2.1.2 (by decide) (by first | rfl | (simp (disch := omega) only [nlit, nI_add, nI_mul, nI_sub]; done) | (simp (disch := omega) only [nlit, nI_add, nI_mul, nI_sub]; (congr 1 <;> omega))) (by first | omega | (simp only []; omega)) (show _ = S.1 (h + 1) (25 + i) by rw [rowI_ne _ _ (by omega)]) dX12_laysUp_21 ?_
    refine X_iconst (v := 1) hB dX12_laysUp_22 (by decide) ?_
    refine X_icmp_ne (tgt := 30) hB dX12_laysUp_23 (by decide) (fun c23 => ?_) (fun c23 => ?_)
    · refine X_iconst (v := 0) hB dX12_laysUp_30 (by decide) ?_
      refine X_zastN hB (i) hR.2.2.2.2.2.2.2.2.2.1.1 hR.2.2.2.2.2.2.2.2.2.1.2 (by decide) (by first | rfl | (simp (disch := omega) only [nlit, nI_add, nI_mul, nI_sub]; done) | (simp (disch := omega) only [nlit, nI_add, nI_mul, nI_sub]; (congr 1 <;> omega))) (by first | omega | (simp only []; omega)) (by first | exact Or.inl rfl | exact Or.inr rfl | assumption) dX12_laysUp_31 ?_
      refine X_iinc hB dX12_laysUp_32 rfl rfl (by decide) rfl ?_
      refine X_goto (tgt := 2) hB dX12_laysUp_35 (by decide) ?_
      rw [setI_rowI, rowI_rowI, rowI_at]
      refine X_lv ?_ (ih (i + 1) _ (by omega) (fun j hj => ?_))
      · rw [nI_succ]; rfl
      · by_cases e : j = i
        · subst e
          rw [upd_at]
          first
            | exact c23.symm
            | (rw [upA hN (by omega)] at c23 ⊢
               split at c23
               · exact absurd rfl c23
               · rename_i q; rw [if_neg q])
        · rw [upd_ne _ _ e]; exact h2 j (by omega)
    · refine X_iconst (v := 1) hB dX12_laysUp_26 (by decide) ?_
      refine X_goto (tgt := 31) hB dX12_laysUp_27 (by decide) ?_
      refine X_zastN hB (i) hR.2.2.2.2.2.2.2.2.2.1.1 hR.2.2.2.2.2.2.2.2.2.1.2 (by decide) (by first | rfl | (simp (disch := omega) only [nlit, nI_add, nI_mul, nI_sub]; done) | (simp (disch := omega) only [nlit, nI_add, nI_mul, nI_sub]; (congr 1 <;> omega))) (by first | omega | (simp only []; omega)) (by first | exact Or.inl rfl | exact Or.inr rfl | assumption) dX12_laysUp_31 ?_
      refine X_iinc hB dX12_laysUp_32 rfl rfl (by decide) rfl ?_
      refine X_goto (tgt := 2) hB dX12_laysUp_35 (by decide) ?_
      rw [setI_rowI, rowI_rowI, rowI_at]
      refine X_lv ?_ (ih (i + 1) _ (by omega) (fun j hj => ?_))
      · rw [nI_succ]; rfl
      · by_cases e : j = i
        · subst e
          rw [upd_at]
          first
            | exact c23.symm
            | (rw [upA hN (by omega)] at c23 ⊢
               split at c23
               · exact absurd rfl c23
               · rename_i q; rw [if_neg q])
        · rw [upd_ne _ _ e]; exact h2 j (by omega)
set_option maxRecDepth 100000 in
set_option maxHeartbeats 4000000 in
theorem c_laysUp (hR : RLay G h) (hF : RRef S h) (σ : Net) (hN : netR (S.1 (h + 1)) σ) : C G mX12_laysUp 0 [.ref h] S (fun r S' => r = none ∧ fr h [h + 9] [] S S' ∧ knR (S'.1 (h + 9)) (nUp σ)) := by
  refine C.mk (lv := [some (.ref h), none]) (by decide) (Nat.le_of_ble_eq_true rfl) rfl (fun E hB => ?_)
  refine X_iconst (v := 0) hB dX12_laysUp_0 (by decide) ?_
  refine X_istore_n (i := 1) hB dX12_laysUp_1 rfl (by decide) rfl ?_
  refine X_S (S' := rowI S (h + 9) (S.1 (h + 9))) (by rw [rowI_self]) (X_lv ?_ (l_laysUp hR hF hB σ hN (fun K g => ⟨rfl, fr.row (by simp) (by omega), fun x y hx hy => ?_⟩) 64 0 _ (by omega) (fun j hj => by omega)))
  · rw [nI_0]; rfl
  · rw [rowI_at, g _ (by omega)]
    exact (congrArg _ (by omega)).trans (hN.1.2.2.2.2.2 x y hx hy)
set_option maxRecDepth 100000 in
set_option maxHeartbeats 4000000 in
theorem c_far (hR : RLay G h) (hF : RRef S h) (σ : Net) (b : Nat) (hw : wfN σ b) (hN : netR (S.1 (h + 1)) σ) (v w : Int32) : C G mX12_far 2 [.ref h, .int v, .int w] S (fun r S' => r = some (.int (aFar σ v w)) ∧ fr h [h + 9, h + 10] [0] S S') := by
  have hs := hw.sz
  have hc8 := hw.1.1.2
  have ha40 := hs.1
  have hd40 := hs.2.1
  refine C.mk (lv := [some (.ref h), some (.int v), some (.int w)]) (by decide) (Nat.le_of_ble_eq_true rfl) rfl (fun E hB => ?_)
  refine X_aload_n (i := 0) hB dX12_far_0 rfl rfl ?_
  refine X_iconst (v := 0) hB dX12_far_1 (by decide) ?_
  refine X_puti hB cw10 fX12_51 rfl rfl hR.1.1 hR.1.2 dX12_far_2 ?_
  generalize hS0 : setI S h 0 0 = S0
  have fz : fr h [] [0] S S0 := hS0 ▸ fr.fld (by simp)
  have hF := fz.ref hF
  have hN : netR (S0.1 (h + 1)) σ := by rw [fz.2.1 (h + 1) (by simp) (by omega)]; exact hN
  clear hS0
  refine X_aload_n (i := 0) hB dX12_far_5 rfl rfl ?_
  refine X_iload_n (i := 1) hB dX12_far_6 rfl rfl ?_
  refine X_callV hB kX12_59 cw10 hR.1.1 hR.1.2 (c_isNode hR hF σ hN (by omega) v) (by decide) (by decide) rfl rfl (Nat.le_of_ble_eq_true rfl) dX12_far_7 (fun r7 S7 q7 => ?_)
  obtain ⟨rfl, rfl⟩ := q7
  refine X_if_eq (tgt := 21) hB dX12_far_10 (by decide) (fun c10 => ?_) (fun c10 => ?_)
  · first
      | (have e10 := if0 c10
         have fz := fz.mono (r2 := [h + 9, h + 10]) (f2 := [0]) (by simp) (by simp)
         refine X_iconst (v := (-1)) hB dX12_far_21 (by decide) ?_
         refine X_iret hB rfl dX12_far_22 ?_
         refine ⟨?_, fz⟩
         simp only [aFar, nth, e10])
      | (have e18 := if0 c18
         have fz := fz.mono (r2 := [h + 9, h + 10]) (f2 := [0]) (by simp) (by simp)
         refine X_iconst (v := (-1)) hB dX12_far_21 (by decide) ?_
         refine X_iret hB rfl dX12_far_22 ?_
         refine ⟨?_, fz⟩
         simp only [aFar, nth, e10, e18])
  · obtain ⟨x, e10⟩ := opt_ex (if0n c10)
    obtain ⟨l10, rfl⟩ := inN_some e10
    refine X_aload_n (i := 0) hB dX12_far_13 rfl rfl ?_
    refine X_iload_n (i := 2) hB dX12_far_14 rfl rfl ?_
    refine X_callV hB kX12_59 cw10 hR.1.1 hR.1.2 (c_isNode hR hF σ hN (by omega) w) (by decide) (by decide) rfl rfl (Nat.le_of_ble_eq_true rfl) dX12_far_15 (fun r15 S15 q15 => ?_)
    obtain ⟨rfl, rfl⟩ := q15
    refine X_if_ne (tgt := 23) hB dX12_far_18 (by decide) (fun c18 => ?_) (fun c18 => ?_)
    · obtain ⟨y, e18⟩ := opt_ex (if0n c18)
      obtain ⟨l18, rfl⟩ := inN_some e18
      refine X_aload_n (i := 0) hB dX12_far_23 rfl rfl ?_
      refine X_callV hB kX12_407 cw10 hR.1.1 hR.1.2 (c_laysUp hR hF σ hN) (by decide) (by decide) rfl rfl (Nat.le_of_ble_eq_true rfl) dX12_far_24 (fun r24 S24 q24 => ?_)
      obtain ⟨rfl, f24, k24⟩ := q24
      have hF24 := f24.ref hF
      refine X_aload_n (i := 0) hB dX12_far_27 rfl rfl ?_
      refine X_iload_n (i := 2) hB dX12_far_28 rfl rfl ?_
      refine X_callV hB kX12_228 cw10 hR.1.1 hR.1.2 (c_laysFar hR hF24 y (by omega) (nUp σ) k24) (by decide) (by decide) rfl rfl (Nat.le_of_ble_eq_true rfl) dX12_far_29 (fun r29 S29 q29 => ?_)
      obtain ⟨rfl, f29, k29⟩ := q29
      have hF := f29.ref hF24
      have hd := dst_99 (f := nUp σ) (to := y) (x := x)
      refine X_aload_n (i := 0) hB dX12_far_32 rfl rfl ?_
      refine X_getr hB cw10 fX12_39 rfl hR.1.1 hR.1.2 hF.2.2.2.2.2.2.2.2.2.1 dX12_far_33 ?_
      refine X_iload_n (i := 1) hB dX12_far_36 rfl rfl ?_
      refine X_ialdN hB (x) hR.2.2.2.2.2.2.2.2.2.2.1.1 hR.2.2.2.2.2.2.2.2.2.2.1.2 (by decide) (by first | rfl | (simp (disch := omega) only [nlit, nI_add, nI_mul, nI_sub]; done) | (simp (disch := omega) only [nlit, nI_add, nI_mul, nI_sub]; (congr 1 <;> omega))) (by first | omega | (simp only []; omega)) (k29 x (by omega)) dX12_far_37 ?_
      refine X_bipush (v := 99) hB dX12_far_38 (by decide) ?_
      refine X_icmp_ge (tgt := 52) hB dX12_far_40 (by decide) (fun c40 => ?_) (fun c40 => ?_)
      · refine X_iconst (v := (-1)) hB dX12_far_52 (by decide) ?_
        refine X_iret hB rfl dX12_far_53 ?_
        refine ⟨?_, ((fz.mono (by simp) (by simp)).tr (f24.mono (by simp) (by simp))).tr (f29.mono (by simp) (by simp))⟩
        simp only [aFar, e10, e18, dst1]
        rw [show (99 : Int32) = nI 99 from rfl, nI_leI (by omega) (by omega)] at c40
        first
          | rw [if_pos (by omega)]
          | rw [if_neg (by omega)]
      · refine X_aload_n (i := 0) hB dX12_far_43 rfl rfl ?_
        refine X_getr hB cw10 fX12_39 rfl hR.1.1 hR.1.2 hF.2.2.2.2.2.2.2.2.2.1 dX12_far_44 ?_
        refine X_iload_n (i := 1) hB dX12_far_47 rfl rfl ?_
        refine X_ialdN hB (x) hR.2.2.2.2.2.2.2.2.2.2.1.1 hR.2.2.2.2.2.2.2.2.2.2.1.2 (by decide) (by first | rfl | (simp (disch := omega) only [nlit, nI_add, nI_mul, nI_sub]; done) | (simp (disch := omega) only [nlit, nI_add, nI_mul, nI_sub]; (congr 1 <;> omega))) (by first | omega | (simp only []; omega)) (k29 x (by omega)) dX12_far_48 ?_
        refine X_goto (tgt := 53) hB dX12_far_49 (by decide) ?_
        refine X_iret hB rfl dX12_far_53 ?_
        refine ⟨?_, ((fz.mono (by simp) (by simp)).tr (f24.mono (by simp) (by simp))).tr (f29.mono (by simp) (by simp))⟩
        simp only [aFar, e10, e18, dst1]
        rw [show (99 : Int32) = nI 99 from rfl, nI_leI (by omega) (by omega)] at c40
        first
          | rw [if_pos (by omega)]
          | rw [if_neg (by omega)]
    · first
        | (have e10 := if0 c10
           have fz := fz.mono (r2 := [h + 9, h + 10]) (f2 := [0]) (by simp) (by simp)
           refine X_iconst (v := (-1)) hB dX12_far_21 (by decide) ?_
           refine X_iret hB rfl dX12_far_22 ?_
           refine ⟨?_, fz⟩
           simp only [aFar, nth, e10])
        | (have e18 := if0 c18
           have fz := fz.mono (r2 := [h + 9, h + 10]) (f2 := [0]) (by simp) (by simp)
           refine X_iconst (v := (-1)) hB dX12_far_21 (by decide) ?_
           refine X_iret hB rfl dX12_far_22 ?_
           refine ⟨?_, fz⟩
           simp only [aFar, nth, e10, e18])
set_option maxRecDepth 100000 in
set_option maxHeartbeats 4000000 in
theorem c_mapped (hR : RLay G h) (hF : RRef S h) (σ : Net) (b : Nat) (hw : wfN σ b) (hN : netR (S.1 (h + 1)) σ) (v w : Int32) : C G mX12_mapped 3 [.ref h, .int v, .int w] S (fun r S' => r = some (.int (aMapped σ v w)) ∧ fr h [h + 9, h + 10] [0] S S') := by
  have hs := hw.sz
  have hc8 := hw.1.1.2
  have ha40 := hs.1
  have hd40 := hs.2.1
  refine C.mk (lv := [some (.ref h), some (.int v), some (.int w)]) (by decide) (Nat.le_of_ble_eq_true rfl) rfl (fun E hB => ?_)
  refine X_aload_n (i := 0) hB dX12_mapped_0 rfl rfl ?_
  refine X_iconst (v := 0) hB dX12_mapped_1 (by decide) ?_
  refine X_puti hB cw10 fX12_51 rfl rfl hR.1.1 hR.1.2 dX12_mapped_2 ?_
  generalize hS0 : setI S h 0 0 = S0
  have fz : fr h [] [0] S S0 := hS0 ▸ fr.fld (by simp)
  have hF := fz.ref hF
  have hN : netR (S0.1 (h + 1)) σ := by rw [fz.2.1 (h + 1) (by simp) (by omega)]; exact hN
  clear hS0
  refine X_aload_n (i := 0) hB dX12_mapped_5 rfl rfl ?_
  refine X_iload_n (i := 1) hB dX12_mapped_6 rfl rfl ?_
  refine X_iload_n (i := 2) hB dX12_mapped_7 rfl rfl ?_
  refine X_callV hB kX12_373 cw10 hR.1.1 hR.1.2 (c_areTwo hR hF σ hN (by omega) v w) (by decide) (by decide) rfl rfl (Nat.le_of_ble_eq_true rfl) dX12_mapped_8 (fun r8 S8 q8 => ?_)
  obtain ⟨rfl, rfl⟩ := q8
  refine X_if_ne (tgt := 16) hB dX12_mapped_11 (by decide) (fun c11 => ?_) (fun c11 => ?_)
  · obtain ⟨⟨x, y⟩, e11⟩ := opt_ex (if0n c11)
    obtain ⟨rfl, rfl, lx, ly, hxy⟩ := two_some e11
    refine X_aload_n (i := 0) hB dX12_mapped_16 rfl rfl ?_
    refine X_iload_n (i := 1) hB dX12_mapped_17 rfl rfl ?_
    refine X_callV hB kX12_225 cw10 hR.1.1 hR.1.2 (c_laysKnown hR hF x (by omega) (dMap (nNd σ x)) (nSe σ 2) (dCa (nNd σ x)) (hs.2.2.1 x (by omega)).1 (hN.2.1 x (by omega)).2.2.1 (hN.2.1 x (by omega)).1) (by decide) (by decide) rfl rfl (Nat.le_of_ble_eq_true rfl) dX12_mapped_18 (fun r18 S18 q18 => ?_)
    obtain ⟨rfl, f18, k18⟩ := q18
    have hF18 := f18.ref hF
    refine X_aload_n (i := 0) hB dX12_mapped_21 rfl rfl ?_
    refine X_iload_n (i := 2) hB dX12_mapped_22 rfl rfl ?_
    refine X_callV hB kX12_228 cw10 hR.1.1 hR.1.2 (c_laysFar hR hF18 y (by omega) (kn (dCa (nNd σ x))) k18) (by decide) (by decide) rfl rfl (Nat.le_of_ble_eq_true rfl) dX12_mapped_23 (fun r23 S23 q23 => ?_)
    obtain ⟨rfl, f23, k23⟩ := q23
    have hN : netR (S23.1 (h + 1)) σ := by rw [f23.2.1 (h + 1) (by simp) (by omega), f18.2.1 (h + 1) (by simp) (by omega)]; exact hN
    have hF := f23.ref hF18
    have hd := dst_99 (f := kn (dCa (nNd σ x))) (to := y) (x := x)
    have hh := hw.1.2.1.2
    refine X_aload_n (i := 0) hB dX12_mapped_26 rfl rfl ?_
    refine X_getr hB cw10 fX12_39 rfl hR.1.1 hR.1.2 hF.2.2.2.2.2.2.2.2.2.1 dX12_mapped_27 ?_
    refine X_iload_n (i := 1) hB dX12_mapped_30 rfl rfl ?_
    refine X_ialdN hB (x) hR.2.2.2.2.2.2.2.2.2.2.1.1 hR.2.2.2.2.2.2.2.2.2.2.1.2 (by decide) (by first | rfl | (simp (disch := omega) only [nlit, nI_add, nI_mul, nI_sub]; done) | (simp (disch := omega) only [nlit, nI_add, nI_mul, nI_sub]; (congr 1 <;> omega))) (by first | omega | (simp only []; omega)) (k23 x (by omega)) dX12_mapped_31 ?_
    refine X_aload_n (i := 0) hB dX12_mapped_32 rfl rfl ?_
    refine X_getr hB cw10 fX12_7 rfl hR.1.1 hR.1.2 hF.1 dX12_mapped_33 ?_
    refine X_iconst (v := 1) hB dX12_mapped_36 (by decide) ?_
    refine X_ialdN hB (1) hR.2.1.1 hR.2.1.2 (by decide) (by first | rfl | (simp (disch := omega) only [nlit, nI_add, nI_mul, nI_sub]; done) | (simp (disch := omega) only [nlit, nI_add, nI_mul, nI_sub]; (congr 1 <;> omega))) (by first | omega | (simp only []; omega)) (hN.1.1 1 (by decide)) dX12_mapped_37 ?_
    refine X_icmp_gt (tgt := 50) hB dX12_mapped_38 (by decide) (fun c38 => ?_) (fun c38 => ?_)
    · refine X_iconst (v := (-1)) hB dX12_mapped_50 (by decide) ?_
      refine X_iret hB rfl dX12_mapped_51 ?_
      refine ⟨?_, ((fz.mono (by simp) (by simp)).tr (f18.mono (by simp) (by simp))).tr (f23.mono (by simp) (by simp))⟩
      simp only [aMapped, e11]
      rw [nI_ltI (by omega) (by omega)] at c38
      first
        | rw [if_pos (by omega)]
        | rw [if_neg (by omega)]
    · refine X_aload_n (i := 0) hB dX12_mapped_41 rfl rfl ?_
      refine X_getr hB cw10 fX12_39 rfl hR.1.1 hR.1.2 hF.2.2.2.2.2.2.2.2.2.1 dX12_mapped_42 ?_
      refine X_iload_n (i := 1) hB dX12_mapped_45 rfl rfl ?_
      refine X_ialdN hB (x) hR.2.2.2.2.2.2.2.2.2.2.1.1 hR.2.2.2.2.2.2.2.2.2.2.1.2 (by decide) (by first | rfl | (simp (disch := omega) only [nlit, nI_add, nI_mul, nI_sub]; done) | (simp (disch := omega) only [nlit, nI_add, nI_mul, nI_sub]; (congr 1 <;> omega))) (by first | omega | (simp only []; omega)) (k23 x (by omega)) dX12_mapped_46 ?_
      refine X_goto (tgt := 51) hB dX12_mapped_47 (by decide) ?_
      refine X_iret hB rfl dX12_mapped_51 ?_
      refine ⟨?_, ((fz.mono (by simp) (by simp)).tr (f18.mono (by simp) (by simp))).tr (f23.mono (by simp) (by simp))⟩
      simp only [aMapped, e11]
      rw [nI_ltI (by omega) (by omega)] at c38
      first
        | rw [if_pos (by omega)]
        | rw [if_neg (by omega)]
  · first
      | (have e11 := if0 c11
         have fz := fz.mono (r2 := [h + 9, h + 10]) (f2 := [0]) (by simp) (by simp)
         refine X_iconst (v := (-1)) hB dX12_mapped_14 (by decide) ?_
         refine X_iret hB rfl dX12_mapped_15 ?_
         refine ⟨?_, fz⟩
         simp only [aMapped, nth, e11])
set_option maxRecDepth 100000 in
set_option maxHeartbeats 4000000 in
theorem l_holders (hR : RLay G h) (hF : RRef S h) {E : Ev} (hB : Bd G E mX12_holders) {Q : Option Value → St → Prop} (σ : Net) (hN : netR (S.1 (h + 1)) σ) (hs : szN σ) (hc8 : nSe σ 0 ≤ 8) (x y : Nat) (hx : x < 8) (hy : y < 8) (kk : ∀ S1, fr h [h + 9, h + 10] [0] S S1 → Q (some (.int (nI (bts (fun n => kn (dCa (nNd σ n)) x y) (nSe σ 0))))) S1) :
    ∀ (k n : Nat) (S1 : St), n + k = nSe σ 0 → fr h [h + 9, h + 10] [0] S S1 → X G E mX12_holders 3 Q S1 21 [some (.ref h), some (.int (nI x)), some (.int (nI y)), some (.int (nI (bts (fun n => kn (dCa (nNd σ n)) x y) n))), some (.int (nI n))] [] := by
  intro k
  induction k with
  | zero =>
    intro n S1 h1 hfr
    have hF1 := hfr.ref hF
    have hN1 : netR (S1.1 (h + 1)) σ := by rw [hfr.2.1 (h + 1) (by simp) (by omega)]; exact hN
    refine X_iload hB dX12_holders_21 rfl ?_
    refine X_aload_n (i := 0) hB dX12_holders_23 rfl rfl ?_
    refine X_getr hB cw10 fX12_7 rfl hR.1.1 hR.1.2 hF1.1 dX12_holders_24 ?_
    refine X_iconst (v := 0) hB dX12_holders_27 (by decide) ?_
    refine X_ialdN hB (0) hR.2.1.1 hR.2.1.2 (by decide) (by first | rfl | (simp (disch := omega) only [nlit, nI_add, nI_mul, nI_sub]; done) | (simp (disch := omega) only [nlit, nI_add, nI_mul, nI_sub]; (congr 1 <;> omega))) (by first | omega | (simp only []; omega)) (hN1.1.1 0 (by decide)) dX12_holders_28 ?_
    refine X_icmp_ge (tgt := 69) hB dX12_holders_29 (by decide) (fun c29 => ?_) (fun c29 => absurd c29 (by simp (disch := omega) only [nlit, nI_leI, nI_ltI]; omega))
    refine X_iload_n (i := 3) hB dX12_holders_69 rfl rfl ?_
    refine X_iret hB rfl dX12_holders_70 ?_
    have e9 : n = nSe σ 0 := by omega
    subst e9
    exact kk S1 hfr
  | succ k ih =>
    intro n S1 h1 hfr
    have hF1 := hfr.ref hF
    have hN1 : netR (S1.1 (h + 1)) σ := by rw [hfr.2.1 (h + 1) (by simp) (by omega)]; exact hN
    refine X_iload hB dX12_holders_21 rfl ?_
    refine X_aload_n (i := 0) hB dX12_holders_23 rfl rfl ?_
    refine X_getr hB cw10 fX12_7 rfl hR.1.1 hR.1.2 hF1.1 dX12_holders_24 ?_
    refine X_iconst (v := 0) hB dX12_holders_27 (by decide) ?_
    refine X_ialdN hB (0) hR.2.1.1 hR.2.1.2 (by decide) (by first | rfl | (simp (disch := omega) only [nlit, nI_add, nI_mul, nI_sub]; done) | (simp (disch := omega) only [nlit, nI_add, nI_mul, nI_sub]; (congr 1 <;> omega))) (by first | omega | (simp only []; omega)) (hN1.1.1 0 (by decide)) dX12_holders_28 ?_
    refine X_icmp_ge (tgt := 69) hB dX12_holders_29 (by decide) (fun c29 => absurd c29 (by simp (disch := omega) only [nlit, nI_leI, nI_ltI]; omega)) (fun c29 => ?_)
    refine X_aload_n (i := 0) hB dX12_holders_32 rfl rfl ?_
    refine X_iload hB dX12_holders_33 rfl ?_
    refine X_callV hB kX12_225 cw10 hR.1.1 hR.1.2 (c_laysKnown hR hF1 n (by omega) (dMap (nNd σ n)) (nSe σ 2) (dCa (nNd σ n)) (hs.2.2.1 n (by omega)).1 (hN1.2.1 n (by omega)).2.2.1 (hN1.2.1 n (by omega)).1) (by decide) (by decide) rfl rfl (Nat.le_of_ble_eq_true rfl) dX12_holders_35 (fun r35 S35 q35 => ?_)
    obtain ⟨rfl, f35, k35⟩ := q35
    refine X_iload_n (i := 3) hB dX12_holders_38 rfl rfl ?_
    refine X_aload_n (i := 0) hB dX12_holders_39 rfl rfl ?_
    refine X_getr hB cw10 fX12_36 rfl hR.1.1 hR.1.2 (f35.ref hF1).2.2.2.2.2.2.2.2.1 dX12_holders_40 ?_
    refine X_bipush (v := 8) hB dX12_holders_43 (by decide) ?_
    refine X_iload_n (i := 1) hB dX12_holders_45 rfl rfl ?_
    refine X_imul hB dX12_holders_46 ?_
    refine X_iload_n (i := 2) hB dX12_holders_47 rfl rfl ?_
    refine X_iadd hB dX12_holders_48 ?_
    refine X_zaldN hB (8 * x + y) hR.2.2.2.2.2.2.2.2.2.1.1 hR.2.2.2.2.2.2.2.2.2.1.2 (by decide) (by first | rfl | (simp (disch := omega) only [nlit, nI_add, nI_mul, nI_sub]; done) | (simp (disch := omega) only [nlit, nI_add, nI_mul, nI_sub]; (congr 1 <;> omega))) (by first | omega | (simp only []; omega)) (k35 x y hx hy) dX12_holders_49 ?_
    refine X_if_eq (tgt := 60) hB dX12_holders_50 (by decide) (fun c50 => ?_) (fun c50 => ?_)
    · have e50 : (fun n => kn (dCa (nNd σ n)) x y) n = false := by simpa using if1n c50
      refine X_iconst (v := 0) hB dX12_holders_60 (by decide) ?_
      refine X_ior hB dX12_holders_61 ?_
      refine X_topi (y := nI (bts (fun n => kn (dCa (nNd σ n)) x y) (n + 1))) (by first | exact bts_st (by omega) e50 | exact bts_no e50) ?_
      refine X_istore_n (i := 3) hB dX12_holders_62 rfl (by decide) rfl ?_
      refine X_iinc hB dX12_holders_63 rfl rfl (by decide) rfl ?_
      refine X_goto (tgt := 21) hB dX12_holders_66 (by decide) ?_
      refine X_lv ?_ (ih (n + 1) _ (by omega) (hfr.tr (f35.mono (by simp) (by simp))))
      · rw [nI_succ]; rfl
    · have e50 : (fun n => kn (dCa (nNd σ n)) x y) n = true := if1 c50
      refine X_iconst (v := 1) hB dX12_holders_53 (by decide) ?_
      refine X_iload hB dX12_holders_54 rfl ?_
      refine X_ishl hB dX12_holders_56 ?_
      refine X_goto (tgt := 61) hB dX12_holders_57 (by decide) ?_
      refine X_ior hB dX12_holders_61 ?_
      refine X_topi (y := nI (bts (fun n => kn (dCa (nNd σ n)) x y) (n + 1))) (by first | exact bts_st (by omega) e50 | exact bts_no e50) ?_
      refine X_istore_n (i := 3) hB dX12_holders_62 rfl (by decide) rfl ?_
      refine X_iinc hB dX12_holders_63 rfl rfl (by decide) rfl ?_
      refine X_goto (tgt := 21) hB dX12_holders_66 (by decide) ?_
      refine X_lv ?_ (ih (n + 1) _ (by omega) (hfr.tr (f35.mono (by simp) (by simp))))
      · rw [nI_succ]; rfl
set_option maxRecDepth 100000 in
set_option maxHeartbeats 4000000 in
theorem c_holders (hR : RLay G h) (hF : RRef S h) (σ : Net) (b : Nat) (hw : wfN σ b) (hN : netR (S.1 (h + 1)) σ) (v w : Int32) : C G mX12_holders 3 [.ref h, .int v, .int w] S (fun r S' => r = some (.int (aHolders σ v w)) ∧ fr h [h + 9, h + 10] [0] S S') := by
  have hs := hw.sz
  have hc8 := hw.1.1.2
  have ha40 := hs.1
  have hd40 := hs.2.1
  refine C.mk (lv := [some (.ref h), some (.int v), some (.int w), none, none]) (by decide) (Nat.le_of_ble_eq_true rfl) rfl (fun E hB => ?_)
  refine X_aload_n (i := 0) hB dX12_holders_0 rfl rfl ?_
  refine X_iconst (v := 0) hB dX12_holders_1 (by decide) ?_
  refine X_puti hB cw10 fX12_51 rfl rfl hR.1.1 hR.1.2 dX12_holders_2 ?_
  generalize hS0 : setI S h 0 0 = S0
  have fz : fr h [] [0] S S0 := hS0 ▸ fr.fld (by simp)
  have hF := fz.ref hF
  have hN : netR (S0.1 (h + 1)) σ := by rw [fz.2.1 (h + 1) (by simp) (by omega)]; exact hN
  clear hS0
  refine X_aload_n (i := 0) hB dX12_holders_5 rfl rfl ?_
  refine X_iload_n (i := 1) hB dX12_holders_6 rfl rfl ?_
  refine X_iload_n (i := 2) hB dX12_holders_7 rfl rfl ?_
  refine X_callV hB kX12_373 cw10 hR.1.1 hR.1.2 (c_areTwo hR hF σ hN (by omega) v w) (by decide) (by decide) rfl rfl (Nat.le_of_ble_eq_true rfl) dX12_holders_8 (fun r8 S8 q8 => ?_)
  obtain ⟨rfl, rfl⟩ := q8
  refine X_if_ne (tgt := 16) hB dX12_holders_11 (by decide) (fun c11 => ?_) (fun c11 => ?_)
  · obtain ⟨⟨x, y⟩, e11⟩ := opt_ex (if0n c11)
    obtain ⟨rfl, rfl, lx, ly, hxy⟩ := two_some e11
    refine X_iconst (v := 0) hB dX12_holders_16 (by decide) ?_
    refine X_istore_n (i := 3) hB dX12_holders_17 rfl (by decide) rfl ?_
    refine X_iconst (v := 0) hB dX12_holders_18 (by decide) ?_
    refine X_istore hB dX12_holders_19 (by decide) rfl ?_
    refine X_lv ?_ (l_holders (S := S0) hR hF hB σ hN hs hc8 x y (by omega) (by omega) (fun S1 q => ⟨by simp only [aHolders, e11], (fz.mono (by simp) (by simp)).tr q⟩) (nSe σ 0) 0 S0 (by omega) fr.rf)
    rw [nI_0]; rfl
  · first
      | (have e11 := if0 c11
         have fz := fz.mono (r2 := [h + 9, h + 10]) (f2 := [0]) (by simp) (by simp)
         refine X_iconst (v := (-1)) hB dX12_holders_14 (by decide) ?_
         refine X_iret hB rfl dX12_holders_15 ?_
         refine ⟨?_, fz⟩
         simp only [aHolders, nth, e11])
set_option maxRecDepth 100000 in
set_option maxHeartbeats 4000000 in
theorem l_stale (hR : RLay G h) (hF : RRef S h) {E : Ev} (hB : Bd G E mX12_stale) {Q : Option Value → St → Prop} (σ : Net) (hN : netR (S.1 (h + 1)) σ) (x : Nat) (hK : knR (S.1 (h + 9)) (kn (dCa (nNd σ x)))) (kk : Q (some (.int (nI (cnB (fun k => kn (dCa (nNd σ x)) (k / 8) (k % 8) && decide (k / 8 < k % 8) && !nUp σ (k / 8) (k % 8)) 64)))) S) :
    ∀ (k n : Nat), n + k = 64 → X G E mX12_stale 3 Q S 24 [some (.ref h), some (.int (nI x)), some (.int (nI (cnB (fun k => kn (dCa (nNd σ x)) (k / 8) (k % 8) && decide (k / 8 < k % 8) && !nUp σ (k / 8) (k % 8)) n))), some (.int (nI n))] [] := by
  intro k
  induction k with
  | zero =>
    intro n h1
    refine X_iload_n (i := 3) hB dX12_stale_24 rfl rfl ?_
    refine X_bipush (v := 64) hB dX12_stale_25 (by decide) ?_
    refine X_icmp_ge (tgt := 76) hB dX12_stale_27 (by decide) (fun c27 => ?_) (fun c27 => absurd c27 (by simp (disch := omega) only [nlit, nI_leI, nI_ltI]; omega))
    refine X_iload_n (i := 2) hB dX12_stale_76 rfl rfl ?_
    refine X_iret hB rfl dX12_stale_77 ?_
    have e9 : n = 64 := by omega
    subst e9
    exact kk
  | succ k ih =>
    intro n h1
    have hkn : S.1 (h + 9) n = if kn (dCa (nNd σ x)) (n / 8) (n % 8) then 1 else 0 := by
      rw [← hK (n / 8) (n % 8) (by omega) (by omega)]; exact congrArg _ (by omega)
    have hdv := div8 n (by omega)
    have hrm := rem8 n (by omega)
    refine X_iload_n (i := 3) hB dX12_stale_24 rfl rfl ?_
    refine X_bipush (v := 64) hB dX12_stale_25 (by decide) ?_
    refine X_icmp_ge (tgt := 76) hB dX12_stale_27 (by decide) (fun c27 => absurd c27 (by simp (disch := omega) only [nlit, nI_leI, nI_ltI]; omega)) (fun c27 => ?_)
    refine X_iload_n (i := 2) hB dX12_stale_30 rfl rfl ?_
    refine X_aload_n (i := 0) hB dX12_stale_31 rfl rfl ?_
    refine X_getr hB cw10 fX12_36 rfl hR.1.1 hR.1.2 hF.2.2.2.2.2.2.2.2.1 dX12_stale_32 ?_
    refine X_iload_n (i := 3) hB dX12_stale_35 rfl rfl ?_
    refine X_zaldN hB (n) hR.2.2.2.2.2.2.2.2.2.1.1 hR.2.2.2.2.2.2.2.2.2.1.2 (by decide) (by first | rfl | (simp (disch := omega) only [nlit, nI_add, nI_mul, nI_sub]; done) | (simp (disch := omega) only [nlit, nI_add, nI_mul, nI_sub]; (congr 1 <;> omega))) (by first | omega | (simp only []; omega)) hkn dX12_stale_36 ?_
    refine X_if_eq (tgt := 67) hB dX12_stale_37 (by decide) (fun c37 => ?_) (fun c37 => ?_)
    · have e9 : (fun k => kn (dCa (nNd σ x)) (k / 8) (k % 8) && decide (k / 8 < k % 8) && !nUp σ (k / 8) (k % 8)) n = false := by
        first
          | (have q1 := if1n c37; simp [q1])
          | (rw [nI_leI (by omega) (by omega)] at c48; simp only [Bool.and_eq_false_iff, decide_eq_false_iff_not]; exact Or.inl (Or.inr (by omega)))
          | (have q3 := if1 c60; simp [q3])
      refine X_iconst (v := 0) hB dX12_stale_67 (by decide) ?_
      refine X_iadd hB dX12_stale_68 ?_
      refine X_topi (y := nI (cnB (fun k => kn (dCa (nNd σ x)) (k / 8) (k % 8) && decide (k / 8 < k % 8) && !nUp σ (k / 8) (k % 8)) (n + 1))) (by first | (simp only [cnB, e9, if_true]; rw [nI_1]) | (simp only [cnB, e9, Bool.false_eq_true, if_false, Nat.add_zero]; exact Int32.add_zero _)) ?_
      refine X_istore_n (i := 2) hB dX12_stale_69 rfl (by decide) rfl ?_
      refine X_iinc hB dX12_stale_70 rfl rfl (by decide) rfl ?_
      refine X_goto (tgt := 24) hB dX12_stale_73 (by decide) ?_
      refine X_lv ?_ (ih (n + 1) (by omega))
      · rw [nI_succ]; rfl
    · refine X_iload_n (i := 3) hB dX12_stale_40 rfl rfl ?_
      refine X_bipush (v := 8) hB dX12_stale_41 (by decide) ?_
      refine X_idiv hB dX12_stale_43 (by decide) ?_
      refine X_topi (y := nI (n / 8)) (hdv) ?_
      refine X_iload_n (i := 3) hB dX12_stale_44 rfl rfl ?_
      refine X_bipush (v := 8) hB dX12_stale_45 (by decide) ?_
      refine X_irem hB dX12_stale_47 (by decide) ?_
      refine X_topi (y := nI (n % 8)) (hrm) ?_
      refine X_icmp_ge (tgt := 67) hB dX12_stale_48 (by decide) (fun c48 => ?_) (fun c48 => ?_)
      · have e9 : (fun k => kn (dCa (nNd σ x)) (k / 8) (k % 8) && decide (k / 8 < k % 8) && !nUp σ (k / 8) (k % 8)) n = false := by
          first
            | (have q1 := if1n c37; simp [q1])
            | (rw [nI_leI (by omega) (by omega)] at c48; simp only [Bool.and_eq_false_iff, decide_eq_false_iff_not]; exact Or.inl (Or.inr (by omega)))
            | (have q3 := if1 c60; simp [q3])
        refine X_iconst (v := 0) hB dX12_stale_67 (by decide) ?_
        refine X_iadd hB dX12_stale_68 ?_
        refine X_topi (y := nI (cnB (fun k => kn (dCa (nNd σ x)) (k / 8) (k % 8) && decide (k / 8 < k % 8) && !nUp σ (k / 8) (k % 8)) (n + 1))) (by first | (simp only [cnB, e9, if_true]; rw [nI_1]) | (simp only [cnB, e9, Bool.false_eq_true, if_false, Nat.add_zero]; exact Int32.add_zero _)) ?_
        refine X_istore_n (i := 2) hB dX12_stale_69 rfl (by decide) rfl ?_
        refine X_iinc hB dX12_stale_70 rfl rfl (by decide) rfl ?_
        refine X_goto (tgt := 24) hB dX12_stale_73 (by decide) ?_
        refine X_lv ?_ (ih (n + 1) (by omega))
        · rw [nI_succ]; rfl
      · refine X_aload_n (i := 0) hB dX12_stale_51 rfl rfl ?_
        refine X_getr hB cw10 fX12_7 rfl hR.1.1 hR.1.2 hF.1 dX12_stale_52 ?_
        refine X_bipush (v := 25) hB dX12_stale_55 (by decide) ?_
        refine X_iload_n (i := 3) hB dX12_stale_57 rfl rfl ?_
        refine X_iadd hB dX12_stale_58 ?_
        refine X_ialdN hB (25 + n) hR.2.1.1 hR.2.1.2 (by decide) (by first | rfl | (simp (disch := omega) only [nlit, nI_add, nI_mul, nI_sub]; done) | (simp (disch := omega) only [nlit, nI_add, nI_mul, nI_sub]; (congr 1 <;> omega))) (by first | omega | (simp only []; omega)) (upA hN (by omega)) dX12_stale_59 ?_
        refine X_if_ne (tgt := 67) hB dX12_stale_60 (by decide) (fun c60 => ?_) (fun c60 => ?_)
        · have e9 : (fun k => kn (dCa (nNd σ x)) (k / 8) (k % 8) && decide (k / 8 < k % 8) && !nUp σ (k / 8) (k % 8)) n = false := by
            first
              | (have q1 := if1n c37; simp [q1])
              | (rw [nI_leI (by omega) (by omega)] at c48; simp only [Bool.and_eq_false_iff, decide_eq_false_iff_not]; exact Or.inl (Or.inr (by omega)))
              | (have q3 := if1 c60; simp [q3])
          refine X_iconst (v := 0) hB dX12_stale_67 (by decide) ?_
          refine X_iadd hB dX12_stale_68 ?_
          refine X_topi (y := nI (cnB (fun k => kn (dCa (nNd σ x)) (k / 8) (k % 8) && decide (k / 8 < k % 8) && !nUp σ (k / 8) (k % 8)) (n + 1))) (by first | (simp only [cnB, e9, if_true]; rw [nI_1]) | (simp only [cnB, e9, Bool.false_eq_true, if_false, Nat.add_zero]; exact Int32.add_zero _)) ?_
          refine X_istore_n (i := 2) hB dX12_stale_69 rfl (by decide) rfl ?_
          refine X_iinc hB dX12_stale_70 rfl rfl (by decide) rfl ?_
          refine X_goto (tgt := 24) hB dX12_stale_73 (by decide) ?_
          refine X_lv ?_ (ih (n + 1) (by omega))
          · rw [nI_succ]; rfl
        · have e9 : (fun k => kn (dCa (nNd σ x)) (k / 8) (k % 8) && decide (k / 8 < k % 8) && !nUp σ (k / 8) (k % 8)) n = true := by
            have q1 := if1 c37
            rw [nI_leI (by omega) (by omega)] at c48
            have q3 := if1n c60
            simp only [Bool.and_eq_true, decide_eq_true_eq, Bool.not_eq_true']
            exact ⟨⟨q1, by omega⟩, by simpa using q3⟩
          refine X_iconst (v := 1) hB dX12_stale_63 (by decide) ?_
          refine X_goto (tgt := 68) hB dX12_stale_64 (by decide) ?_
          refine X_iadd hB dX12_stale_68 ?_
          refine X_topi (y := nI (cnB (fun k => kn (dCa (nNd σ x)) (k / 8) (k % 8) && decide (k / 8 < k % 8) && !nUp σ (k / 8) (k % 8)) (n + 1))) (by first | (simp only [cnB, e9, if_true]; rw [nI_1]) | (simp only [cnB, e9, Bool.false_eq_true, if_false, Nat.add_zero]; exact Int32.add_zero _)) ?_
          refine X_istore_n (i := 2) hB dX12_stale_69 rfl (by decide) rfl ?_
          refine X_iinc hB dX12_stale_70 rfl rfl (by decide) rfl ?_
          refine X_goto (tgt := 24) hB dX12_stale_73 (by decide) ?_
          refine X_lv ?_ (ih (n + 1) (by omega))
          · rw [nI_succ]; rfl
set_option maxRecDepth 100000 in
set_option maxHeartbeats 4000000 in
theorem c_stale (hR : RLay G h) (hF : RRef S h) (σ : Net) (b : Nat) (hw : wfN σ b) (hN : netR (S.1 (h + 1)) σ) (v : Int32) : C G mX12_stale 3 [.ref h, .int v] S (fun r S' => r = some (.int (aStale σ v)) ∧ fr h [h + 9, h + 10] [0] S S') := by
  have hs := hw.sz
  have hc8 := hw.1.1.2
  have ha40 := hs.1
  have hd40 := hs.2.1
  refine C.mk (lv := [some (.ref h), some (.int v), none, none]) (by decide) (Nat.le_of_ble_eq_true rfl) rfl (fun E hB => ?_)
  refine X_aload_n (i := 0) hB dX12_stale_0 rfl rfl ?_
  refine X_iconst (v := 0) hB dX12_stale_1 (by decide) ?_
  refine X_puti hB cw10 fX12_51 rfl rfl hR.1.1 hR.1.2 dX12_stale_2 ?_
  generalize hS0 : setI S h 0 0 = S0
  have fz : fr h [] [0] S S0 := hS0 ▸ fr.fld (by simp)
  have hF := fz.ref hF
  have hN : netR (S0.1 (h + 1)) σ := by rw [fz.2.1 (h + 1) (by simp) (by omega)]; exact hN
  clear hS0
  refine X_aload_n (i := 0) hB dX12_stale_5 rfl rfl ?_
  refine X_iload_n (i := 1) hB dX12_stale_6 rfl rfl ?_
  refine X_callV hB kX12_59 cw10 hR.1.1 hR.1.2 (c_isNode hR hF σ hN (by omega) v) (by decide) (by decide) rfl rfl (Nat.le_of_ble_eq_true rfl) dX12_stale_7 (fun r7 S7 q7 => ?_)
  obtain ⟨rfl, rfl⟩ := q7
  refine X_if_ne (tgt := 15) hB dX12_stale_10 (by decide) (fun c10 => ?_) (fun c10 => ?_)
  · obtain ⟨x, e10⟩ := opt_ex (if0n c10)
    obtain ⟨l10, rfl⟩ := inN_some e10
    refine X_aload_n (i := 0) hB dX12_stale_15 rfl rfl ?_
    refine X_iload_n (i := 1) hB dX12_stale_16 rfl rfl ?_
    refine X_callV hB kX12_225 cw10 hR.1.1 hR.1.2 (c_laysKnown hR hF x (by omega) (dMap (nNd σ x)) (nSe σ 2) (dCa (nNd σ x)) (hs.2.2.1 x (by omega)).1 (hN.2.1 x (by omega)).2.2.1 (hN.2.1 x (by omega)).1) (by decide) (by decide) rfl rfl (Nat.le_of_ble_eq_true rfl) dX12_stale_17 (fun r17 S17 q17 => ?_)
    obtain ⟨rfl, f17, k17⟩ := q17
    have hN : netR (S17.1 (h + 1)) σ := by rw [f17.2.1 (h + 1) (by simp) (by omega)]; exact hN
    refine X_iconst (v := 0) hB dX12_stale_20 (by decide) ?_
    refine X_istore_n (i := 2) hB dX12_stale_21 rfl (by decide) rfl ?_
    refine X_iconst (v := 0) hB dX12_stale_22 (by decide) ?_
    refine X_istore_n (i := 3) hB dX12_stale_23 rfl (by decide) rfl ?_
    refine X_lv ?_ (l_stale hR (f17.ref hF) hB σ hN x k17 ⟨by simp only [aStale, e10], (fz.mono (by simp) (by simp)).tr (f17.mono (by simp) (by simp))⟩ 64 0 (by omega))
    rw [nI_0]; rfl
  · first
      | (have e10 := if0 c10
         have fz := fz.mono (r2 := [h + 9, h + 10]) (f2 := [0]) (by simp) (by simp)
         refine X_iconst (v := (-1)) hB dX12_stale_13 (by decide) ?_
         refine X_iret hB rfl dX12_stale_14 ?_
         refine ⟨?_, fz⟩
         simp only [aStale, nth, e10])
set_option maxRecDepth 100000 in
set_option maxHeartbeats 4000000 in
theorem l_sound (hR : RLay G h) (hF : RRef S h) {E : Ev} (hB : Bd G E mX12_sound) {Q : Option Value → St → Prop} (σ : Net) (hN : netR (S.1 (h + 1)) σ) (x y : Nat) (w : List Nat) (hw8 : w.length ≤ 8) (hwx : ∀ q ∈ w, q < 8) (hwy : wayR S h w) (hl : 1 ≤ w.length) (kk : Q (some (.int (if (chnB (nUp σ) w (w.length - 1)) then 1 else 0))) S) :
    ∀ (k i : Nat), i + k = w.length → 1 ≤ i → X G E mX12_sound 5 Q S 32 [some (.ref h), some (.int (nI x)), some (.int (nI y)), some (.int (if (chnB (nUp σ) w (i - 1)) then 1 else 0)), some (.int (nI i))] [] := by
  intro k
  induction k with
  | zero =>
    intro i h1 h2
    refine X_iload hB dX12_sound_32 rfl ?_
    refine X_aload_n (i := 0) hB dX12_sound_34 rfl rfl ?_
    refine X_geti hB cw10 fX12_231 rfl hR.1.1 hR.1.2 dX12_sound_35 ?_
    refine X_topi (y := nI w.length) (hwy.1) ?_
    refine X_icmp_ge (tgt := 72) hB dX12_sound_38 (by decide) (fun c38 => ?_) (fun c38 => absurd c38 (by simp (disch := omega) only [nlit, nI_leI, nI_ltI]; omega))
    refine X_iload_n (i := 3) hB dX12_sound_72 rfl rfl ?_
    refine X_zret hB rfl (by split <;> first | exact Or.inl rfl | exact Or.inr rfl) dX12_sound_73 ?_
    have e9 : i = w.length := by omega
    subst e9
    exact kk
  | succ k ih =>
    intro i h1 h2
    have ha : w.getD (i - 1) 0 < 8 := hwx _ (getD_mem (by omega))
    have hb : w.getD i 0 < 8 := hwx _ (getD_mem (by omega))
    refine X_iload hB dX12_sound_32 rfl ?_
    refine X_aload_n (i := 0) hB dX12_sound_34 rfl rfl ?_
    refine X_geti hB cw10 fX12_231 rfl hR.1.1 hR.1.2 dX12_sound_35 ?_
    refine X_topi (y := nI w.length) (hwy.1) ?_
    refine X_icmp_ge (tgt := 72) hB dX12_sound_38 (by decide) (fun c38 => absurd c38 (by simp (disch := omega) only [nlit, nI_leI, nI_ltI]; omega)) (fun c38 => ?_)
    refine X_iload_n (i := 3) hB dX12_sound_41 rfl rfl ?_
    refine X_if_eq (tgt := 72) hB dX12_sound_42 (by decide) (fun c42 => ?_) (fun c42 => ?_)
    · refine X_iload_n (i := 3) hB dX12_sound_72 rfl rfl ?_
      refine X_zret hB rfl (by split <;> first | exact Or.inl rfl | exact Or.inr rfl) dX12_sound_73 ?_
      have e42 : (chnB (nUp σ) w (i - 1)) = false := by simpa using if1n c42
      have e9 := chnB_no e42 (w.length - 1) (by omega)
      rw [e42]; rw [e9] at kk; exact kk
    · refine X_aload_n (i := 0) hB dX12_sound_45 rfl rfl ?_
      refine X_aload_n (i := 0) hB dX12_sound_46 rfl rfl ?_
      refine X_getr hB cw10 fX12_33 rfl hR.1.1 hR.1.2 hF.2.2.2.2.2.2.2.1 dX12_sound_47 ?_
      refine X_iload hB dX12_sound_50 rfl ?_
      refine X_iconst (v := 1) hB dX12_sound_52 (by decide) ?_
      refine X_isub hB dX12_sound_53 ?_
      refine X_ialdN hB (i - 1) hR.2.2.2.2.2.2.2.2.1.1 hR.2.2.2.2.2.2.2.2.1.2 (by decide) (by first | rfl | (simp (disch := omega) only [nlit, nI_add, nI_mul, nI_sub]; done) | (simp (disch := omega) only [nlit, nI_add, nI_mul, nI_sub]; (congr 1 <;> omega))) (by first | omega | (simp only []; omega)) (hwy.2 (i - 1) (by omega)) dX12_sound_54 ?_
      refine X_aload_n (i := 0) hB dX12_sound_55 rfl rfl ?_
      refine X_getr hB cw10 fX12_33 rfl hR.1.1 hR.1.2 hF.2.2.2.2.2.2.2.1 dX12_sound_56 ?_
      refine X_iload hB dX12_sound_59 rfl ?_
      refine X_ialdN hB (i) hR.2.2.2.2.2.2.2.2.1.1 hR.2.2.2.2.2.2.2.2.1.2 (by decide) (by first | rfl | (simp (disch := omega) only [nlit, nI_add, nI_mul, nI_sub]; done) | (simp (disch := omega) only [nlit, nI_add, nI_mul, nI_sub]; (congr 1 <;> omega))) (by first | omega | (simp only []; omega)) (hwy.2 i (by omega)) dX12_sound_61 ?_
      refine X_callV hB kX12_277 cw10 hR.1.1 hR.1.2 (c_isUp (u := nUp σ (w.getD (i - 1) 0) (w.getD i 0)) hR hF ha hb (hN.1.2.2.2.2.2 _ _ ha hb)) (by decide) (by decide) rfl rfl (Nat.le_of_ble_eq_true rfl) dX12_sound_62 (fun r62 S62 q62 => ?_)
      obtain ⟨rfl, rfl⟩ := q62
      refine X_istore_n (i := 3) hB dX12_sound_65 rfl (by decide) rfl ?_
      refine X_iinc hB dX12_sound_66 rfl rfl (by decide) rfl ?_
      refine X_goto (tgt := 32) hB dX12_sound_69 (by decide) ?_
      have e42 : (chnB (nUp σ) w (i - 1)) = true := if1 c42
      refine X_lv ?_ (ih (i + 1) (by omega) (by omega))
      have e9 : (chnB (nUp σ) w (i + 1 - 1)) = nUp σ (w.getD (i - 1) 0) (w.getD i 0) := by
        obtain ⟨j, rfl⟩ : ∃ j, i = j + 1 := ⟨i - 1, by omega⟩
        simp only [Nat.add_sub_cancel] at e42 ⊢
        simp only [chnB, e42, Bool.true_and]
      rw [e9, nI_succ]; rfl
set_option maxRecDepth 100000 in
set_option maxHeartbeats 4000000 in
theorem c_sound (hR : RLay G h) (hF : RRef S h) (σ : Net) (b : Nat) (hw : wfN σ b) (hN : netR (S.1 (h + 1)) σ) (v w : Int32) : C G mX12_sound 5 [.ref h, .int v, .int w] S (fun r S' => r = some (.int (if aSound σ v w then 1 else 0)) ∧ fr h [h + 8, h + 9, h + 10] [0, 22] S S') := by
  have hs := hw.sz
  have hc8 := hw.1.1.2
  have ha40 := hs.1
  have hd40 := hs.2.1
  refine C.mk (lv := [some (.ref h), some (.int v), some (.int w), none, none]) (by decide) (Nat.le_of_ble_eq_true rfl) rfl (fun E hB => ?_)
  refine X_aload_n (i := 0) hB dX12_sound_0 rfl rfl ?_
  refine X_iconst (v := 0) hB dX12_sound_1 (by decide) ?_
  refine X_puti hB cw10 fX12_51 rfl rfl hR.1.1 hR.1.2 dX12_sound_2 ?_
  generalize hS0 : setI S h 0 0 = S0
  have fz : fr h [] [0] S S0 := hS0 ▸ fr.fld (by simp)
  have hF := fz.ref hF
  have hN : netR (S0.1 (h + 1)) σ := by rw [fz.2.1 (h + 1) (by simp) (by omega)]; exact hN
  clear hS0
  refine X_aload_n (i := 0) hB dX12_sound_5 rfl rfl ?_
  refine X_iload_n (i := 1) hB dX12_sound_6 rfl rfl ?_
  refine X_iload_n (i := 2) hB dX12_sound_7 rfl rfl ?_
  refine X_callV hB kX12_373 cw10 hR.1.1 hR.1.2 (c_areTwo hR hF σ hN (by omega) v w) (by decide) (by decide) rfl rfl (Nat.le_of_ble_eq_true rfl) dX12_sound_8 (fun r8 S8 q8 => ?_)
  obtain ⟨rfl, rfl⟩ := q8
  refine X_if_eq (tgt := 27) hB dX12_sound_11 (by decide) (fun c11 => ?_) (fun c11 => ?_)
  · first
      | (have e11 := if0 c11
         have fz := fz.mono (r2 := [h + 8, h + 9, h + 10]) (f2 := [0, 22]) (by simp) (by simp)
         refine X_iconst (v := 0) hB dX12_sound_27 (by decide) ?_
         refine X_istore_n (i := 3) hB dX12_sound_28 rfl (by decide) rfl ?_
         refine X_iconst (v := 1) hB dX12_sound_29 (by decide) ?_
         refine X_istore hB dX12_sound_30 (by decide) rfl ?_
         refine X_iload hB dX12_sound_32 rfl ?_
         refine X_aload_n (i := 0) hB dX12_sound_34 rfl rfl ?_
         refine X_geti hB cw10 fX12_231 rfl hR.1.1 hR.1.2 dX12_sound_35 ?_
         refine X_icmp_ge (tgt := 72) hB dX12_sound_38 (by decide) (fun c38 => ?_) (fun c38 => ?_)
         · refine X_iload_n (i := 3) hB dX12_sound_72 rfl rfl ?_
           refine X_zret hB rfl (by first | exact Or.inl rfl | exact Or.inr rfl) dX12_sound_73 ?_
           exact ⟨by simp [aSound, e11], fz⟩
         · refine X_iload_n (i := 3) hB dX12_sound_41 rfl rfl ?_
           refine X_if_eq (tgt := 72) hB dX12_sound_42 (by decide) (fun c42 => ?_) (fun c42 => absurd rfl c42)
           refine X_iload_n (i := 3) hB dX12_sound_72 rfl rfl ?_
           refine X_zret hB rfl (by first | exact Or.inl rfl | exact Or.inr rfl) dX12_sound_73 ?_
           exact ⟨by simp [aSound, e11], fz⟩)
      | (have e20 : (wayN σ x y) = [] := if0 c20
         have fz := (fz.mono (r2 := [h + 8, h + 9, h + 10]) (f2 := [0, 22]) (by simp) (by simp)).tr (f17.mono (by simp) (by simp))
         refine X_iconst (v := 0) hB dX12_sound_27 (by decide) ?_
         refine X_istore_n (i := 3) hB dX12_sound_28 rfl (by decide) rfl ?_
         refine X_iconst (v := 1) hB dX12_sound_29 (by decide) ?_
         refine X_istore hB dX12_sound_30 (by decide) rfl ?_
         refine X_iload hB dX12_sound_32 rfl ?_
         refine X_aload_n (i := 0) hB dX12_sound_34 rfl rfl ?_
         refine X_geti hB cw10 fX12_231 rfl hR.1.1 hR.1.2 dX12_sound_35 ?_
         refine X_icmp_ge (tgt := 72) hB dX12_sound_38 (by decide) (fun c38 => ?_) (fun c38 => ?_)
         · refine X_iload_n (i := 3) hB dX12_sound_72 rfl rfl ?_
           refine X_zret hB rfl (by first | exact Or.inl rfl | exact Or.inr rfl) dX12_sound_73 ?_
           exact ⟨by simp [aSound, e11, e20], fz⟩
         · refine X_iload_n (i := 3) hB dX12_sound_41 rfl rfl ?_
           refine X_if_eq (tgt := 72) hB dX12_sound_42 (by decide) (fun c42 => ?_) (fun c42 => absurd rfl c42)
           refine X_iload_n (i := 3) hB dX12_sound_72 rfl rfl ?_
           refine X_zret hB rfl (by first | exact Or.inl rfl | exact Or.inr rfl) dX12_sound_73 ?_
           exact ⟨by simp [aSound, e11, e20], fz⟩)
  · obtain ⟨⟨x, y⟩, e11⟩ := opt_ex (if0n c11)
    obtain ⟨rfl, rfl, lx, ly, hxy⟩ := two_some e11
    refine X_aload_n (i := 0) hB dX12_sound_14 rfl rfl ?_
    refine X_iload_n (i := 1) hB dX12_sound_15 rfl rfl ?_
    refine X_iload_n (i := 2) hB dX12_sound_16 rfl rfl ?_
    refine X_callV hB kX12_265 cw10 hR.1.1 hR.1.2 (c_findsN hR hF σ hN hs (by have := hw.1.2.1.2; omega) x y (by omega) (by omega)) (by decide) (by decide) rfl rfl (Nat.le_of_ble_eq_true rfl) dX12_sound_17 (fun r17 S17 q17 => ?_)
    obtain ⟨rfl, f17, w17, l17, m17⟩ := q17
    have hF := f17.ref hF
    have hN : netR (S17.1 (h + 1)) σ := by rw [f17.2.1 (h + 1) (by simp) (by omega)]; exact hN
    refine X_if_eq (tgt := 27) hB dX12_sound_20 (by decide) (fun c20 => ?_) (fun c20 => ?_)
    · first
        | (have e11 := if0 c11
           have fz := fz.mono (r2 := [h + 8, h + 9, h + 10]) (f2 := [0, 22]) (by simp) (by simp)
           refine X_iconst (v := 0) hB dX12_sound_27 (by decide) ?_
           refine X_istore_n (i := 3) hB dX12_sound_28 rfl (by decide) rfl ?_
           refine X_iconst (v := 1) hB dX12_sound_29 (by decide) ?_
           refine X_istore hB dX12_sound_30 (by decide) rfl ?_
           refine X_iload hB dX12_sound_32 rfl ?_
           refine X_aload_n (i := 0) hB dX12_sound_34 rfl rfl ?_
           refine X_geti hB cw10 fX12_231 rfl hR.1.1 hR.1.2 dX12_sound_35 ?_
           refine X_icmp_ge (tgt := 72) hB dX12_sound_38 (by decide) (fun c38 => ?_) (fun c38 => ?_)
           · refine X_iload_n (i := 3) hB dX12_sound_72 rfl rfl ?_
             refine X_zret hB rfl (by first | exact Or.inl rfl | exact Or.inr rfl) dX12_sound_73 ?_
             exact ⟨by simp [aSound, e11], fz⟩
           · refine X_iload_n (i := 3) hB dX12_sound_41 rfl rfl ?_
             refine X_if_eq (tgt := 72) hB dX12_sound_42 (by decide) (fun c42 => ?_) (fun c42 => absurd rfl c42)
             refine X_iload_n (i := 3) hB dX12_sound_72 rfl rfl ?_
             refine X_zret hB rfl (by first | exact Or.inl rfl | exact Or.inr rfl) dX12_sound_73 ?_
             exact ⟨by simp [aSound, e11], fz⟩)
        | (have e20 : (wayN σ x y) = [] := if0 c20
           have fz := (fz.mono (r2 := [h + 8, h + 9, h + 10]) (f2 := [0, 22]) (by simp) (by simp)).tr (f17.mono (by simp) (by simp))
           refine X_iconst (v := 0) hB dX12_sound_27 (by decide) ?_
           refine X_istore_n (i := 3) hB dX12_sound_28 rfl (by decide) rfl ?_
           refine X_iconst (v := 1) hB dX12_sound_29 (by decide) ?_
           refine X_istore hB dX12_sound_30 (by decide) rfl ?_
           refine X_iload hB dX12_sound_32 rfl ?_
           refine X_aload_n (i := 0) hB dX12_sound_34 rfl rfl ?_
           refine X_geti hB cw10 fX12_231 rfl hR.1.1 hR.1.2 dX12_sound_35 ?_
           refine X_icmp_ge (tgt := 72) hB dX12_sound_38 (by decide) (fun c38 => ?_) (fun c38 => ?_)
           · refine X_iload_n (i := 3) hB dX12_sound_72 rfl rfl ?_
             refine X_zret hB rfl (by first | exact Or.inl rfl | exact Or.inr rfl) dX12_sound_73 ?_
             exact ⟨by simp [aSound, e11, e20], fz⟩
           · refine X_iload_n (i := 3) hB dX12_sound_41 rfl rfl ?_
             refine X_if_eq (tgt := 72) hB dX12_sound_42 (by decide) (fun c42 => ?_) (fun c42 => absurd rfl c42)
             refine X_iload_n (i := 3) hB dX12_sound_72 rfl rfl ?_
             refine X_zret hB rfl (by first | exact Or.inl rfl | exact Or.inr rfl) dX12_sound_73 ?_
             exact ⟨by simp [aSound, e11, e20], fz⟩)
    · refine X_iconst (v := 1) hB dX12_sound_23 (by decide) ?_
      refine X_goto (tgt := 28) hB dX12_sound_24 (by decide) ?_
      refine X_istore_n (i := 3) hB dX12_sound_28 rfl (by decide) rfl ?_
      refine X_iconst (v := 1) hB dX12_sound_29 (by decide) ?_
      refine X_istore hB dX12_sound_30 (by decide) rfl ?_
      have e20 : (wayN σ x y) ≠ [] := if0n c20
      have h1 : 1 ≤ (wayN σ x y).length := List.length_pos_iff.mpr e20
      refine X_lv ?_ (l_sound hR hF hB σ hN x y (wayN σ x y) l17 m17 w17 h1 ⟨by simp only [aSound, e11, decide_eq_true e20, Bool.true_and], (fz.mono (by simp) (by simp)).tr (f17.mono (by simp) (by simp))⟩ ((wayN σ x y).length - 1) 1 (by omega) (Nat.le_refl _))
      rfl
set_option maxRecDepth 100000 in
set_option maxHeartbeats 4000000 in
theorem l_bridges (hR : RLay G h) (hF : RRef S h) {E : Ev} (hB : Bd G E mX12_bridges) {Q : Option Value → St → Prop} (σ : Net) (hN : netR (S.1 (h + 1)) σ) (x y : Nat) (hx : x < 8) (hy : y < 8) (kk : ∀ S1, fr h [h + 9, h + 10] [0] S S1 → Q (some (.int (nI (cnB (fun k => decide (k / 8 < k % 8) && nUp σ (k / 8) (k % 8) && decide (99 ≤ dst (lessL (nUp σ) (k / 8) (k % 8)) y x)) 64)))) S1) :
    ∀ (k n : Nat) (S1 : St), n + k = 64 → fr h [h + 9, h + 10] [0] S S1 → X G E mX12_bridges 3 Q S1 48 [some (.ref h), some (.int (nI x)), some (.int (nI y)), some (.int (nI (cnB (fun k => decide (k / 8 < k % 8) && nUp σ (k / 8) (k % 8) && decide (99 ≤ dst (lessL (nUp σ) (k / 8) (k % 8)) y x)) n))), some (.int 1), some (.int (nI n))] [] := by
  intro k
  induction k with
  | zero =>
    intro n S1 h1 hfr
    refine X_iload hB dX12_bridges_48 rfl ?_
    refine X_bipush (v := 64) hB dX12_bridges_50 (by decide) ?_
    refine X_icmp_ge (tgt := 149) hB dX12_bridges_52 (by decide) (fun c52 => ?_) (fun c52 => absurd c52 (by simp (disch := omega) only [nlit, nI_leI, nI_ltI]; omega))
    refine X_iload_n (i := 3) hB dX12_bridges_149 rfl rfl ?_
    refine X_iret hB rfl dX12_bridges_150 ?_
    have e9 : n = 64 := by omega
    subst e9
    exact kk S1 hfr
  | succ k ih =>
    intro n S1 h1 hfr
    have hF1 := hfr.ref hF
    have hN1 : netR (S1.1 (h + 1)) σ := by rw [hfr.2.1 (h + 1) (by simp) (by omega)]; exact hN
    have hdv := div8 n (by omega)
    have hrm := rem8 n (by omega)
    refine X_iload hB dX12_bridges_48 rfl ?_
    refine X_bipush (v := 64) hB dX12_bridges_50 (by decide) ?_
    refine X_icmp_ge (tgt := 149) hB dX12_bridges_52 (by decide) (fun c52 => absurd c52 (by simp (disch := omega) only [nlit, nI_leI, nI_ltI]; omega)) (fun c52 => ?_)
    refine X_iload hB dX12_bridges_55 rfl ?_
    refine X_if_eq (tgt := 149) hB dX12_bridges_57 (by decide) (fun c57 => absurd c57 (by decide)) (fun c57 => ?_)
    refine X_iload hB dX12_bridges_60 rfl ?_
    refine X_bipush (v := 8) hB dX12_bridges_62 (by decide) ?_
    refine X_idiv hB dX12_bridges_64 (by decide) ?_
    refine X_topi (y := nI (n / 8)) (hdv) ?_
    refine X_iload hB dX12_bridges_65 rfl ?_
    refine X_bipush (v := 8) hB dX12_bridges_67 (by decide) ?_
    refine X_irem hB dX12_bridges_69 (by decide) ?_
    refine X_topi (y := nI (n % 8)) (hrm) ?_
    refine X_icmp_ge (tgt := 143) hB dX12_bridges_70 (by decide) (fun c70 => ?_) (fun c70 => ?_)
    · first
        | (refine X_iinc hB dX12_bridges_143 rfl rfl (by decide) rfl ?_
           refine X_goto (tgt := 48) hB dX12_bridges_146 (by decide) ?_
           refine X_lv ?_ (ih (n + 1) _ (by omega) (f118.tr (f121.mono (by simp) (by simp))))
           · rw [nI_succ]; rfl)
        | (have e9 : (fun k => decide (k / 8 < k % 8) && nUp σ (k / 8) (k % 8) && decide (99 ≤ dst (lessL (nUp σ) (k / 8) (k % 8)) y x)) n = false := by
             first
               | (rw [nI_leI (by omega) (by omega)] at c70; simp only [Bool.and_eq_false_iff, decide_eq_false_iff_not]; exact Or.inl (Or.inl (by omega)))
               | (have q2 : nUp σ (n / 8) (n % 8) = false := by
                    cases q : nUp σ (n / 8) (n % 8) with
                    | false => rfl
                    | true => rw [q] at c84; exact absurd rfl c84
                  simp [q2])
           refine X_iinc hB dX12_bridges_143 rfl rfl (by decide) rfl ?_
           refine X_goto (tgt := 48) hB dX12_bridges_146 (by decide) ?_
           refine X_lv ?_ (ih (n + 1) _ (by omega) hfr)
           simp only [cnB, e9, Bool.false_eq_true, if_false, Nat.add_zero]
           rw [nI_succ]; rfl)
    · refine X_aload_n (i := 0) hB dX12_bridges_73 rfl rfl ?_
      refine X_getr hB cw10 fX12_7 rfl hR.1.1 hR.1.2 hF1.1 dX12_bridges_74 ?_
      refine X_bipush (v := 25) hB dX12_bridges_77 (by decide) ?_
      refine X_iload hB dX12_bridges_79 rfl ?_
      refine X_iadd hB dX12_bridges_81 ?_
      refine X_ialdN hB (25 + n) hR.2.1.1 hR.2.1.2 (by decide) (by first | rfl | (simp (disch := omega) only [nlit, nI_add, nI_mul, nI_sub]; done) | (simp (disch := omega) only [nlit, nI_add, nI_mul, nI_sub]; (congr 1 <;> omega))) (by first | omega | (simp only []; omega)) (upA hN1 (by omega)) dX12_bridges_82 ?_
      refine X_iconst (v := 1) hB dX12_bridges_83 (by decide) ?_
      refine X_icmp_ne (tgt := 143) hB dX12_bridges_84 (by decide) (fun c84 => ?_) (fun c84 => ?_)
      · first
          | (refine X_iinc hB dX12_bridges_143 rfl rfl (by decide) rfl ?_
             refine X_goto (tgt := 48) hB dX12_bridges_146 (by decide) ?_
             refine X_lv ?_ (ih (n + 1) _ (by omega) (f118.tr (f121.mono (by simp) (by simp))))
             · rw [nI_succ]; rfl)
          | (have e9 : (fun k => decide (k / 8 < k % 8) && nUp σ (k / 8) (k % 8) && decide (99 ≤ dst (lessL (nUp σ) (k / 8) (k % 8)) y x)) n = false := by
               first
                 | (rw [nI_leI (by omega) (by omega)] at c70; simp only [Bool.and_eq_false_iff, decide_eq_false_iff_not]; exact Or.inl (Or.inl (by omega)))
                 | (have q2 : nUp σ (n / 8) (n % 8) = false := by
                      cases q : nUp σ (n / 8) (n % 8) with
                      | false => rfl
                      | true => rw [q] at c84; exact absurd rfl c84
                    simp [q2])
             refine X_iinc hB dX12_bridges_143 rfl rfl (by decide) rfl ?_
             refine X_goto (tgt := 48) hB dX12_bridges_146 (by decide) ?_
             refine X_lv ?_ (ih (n + 1) _ (by omega) hfr)
             simp only [cnB, e9, Bool.false_eq_true, if_false, Nat.add_zero]
             rw [nI_succ]; rfl)
      · refine X_aload_n (i := 0) hB dX12_bridges_87 rfl rfl ?_
        refine X_callV hB kX12_407 cw10 hR.1.1 hR.1.2 (c_laysUp hR hF1 σ hN1) (by decide) (by decide) rfl rfl (Nat.le_of_ble_eq_true rfl) dX12_bridges_88 (fun r88 S88 q88 => ?_)
        obtain ⟨rfl, f88, k88⟩ := q88
        refine X_aload_n (i := 0) hB dX12_bridges_91 rfl rfl ?_
        refine X_getr hB cw10 fX12_36 rfl hR.1.1 hR.1.2 (f88.ref hF1).2.2.2.2.2.2.2.2.1 dX12_bridges_92 ?_
        refine X_iload hB dX12_bridges_95 rfl ?_
        refine X_iconst (v := 0) hB dX12_bridges_97 (by decide) ?_
        refine X_zastN hB (n) hR.2.2.2.2.2.2.2.2.2.1.1 hR.2.2.2.2.2.2.2.2.2.1.2 (by decide) (by first | rfl | (simp (disch := omega) only [nlit, nI_add, nI_mul, nI_sub]; done) | (simp (disch := omega) only [nlit, nI_add, nI_mul, nI_sub]; (congr 1 <;> omega))) (by first | omega | (simp only []; omega)) (by first | exact Or.inl rfl | exact Or.inr rfl | assumption) dX12_bridges_98 ?_
        have hF98 : RRef (setI S88 (h + 9) n 0) h := (f88.ref hF1).of rfl
        refine X_aload_n (i := 0) hB dX12_bridges_99 rfl rfl ?_
        refine X_getr hB cw10 fX12_36 rfl hR.1.1 hR.1.2 hF98.2.2.2.2.2.2.2.2.1 dX12_bridges_100 ?_
        refine X_bipush (v := 8) hB dX12_bridges_103 (by decide) ?_
        refine X_iload hB dX12_bridges_105 rfl ?_
        refine X_bipush (v := 8) hB dX12_bridges_107 (by decide) ?_
        refine X_irem hB dX12_bridges_109 (by decide) ?_
        refine X_topi (y := nI (n % 8)) (hrm) ?_
        refine X_imul hB dX12_bridges_110 ?_
        refine X_iload hB dX12_bridges_111 rfl ?_
        refine X_bipush (v := 8) hB dX12_bridges_113 (by decide) ?_
        refine X_idiv hB dX12_bridges_115 (by decide) ?_
        refine X_topi (y := nI (n / 8)) (hdv) ?_
        refine X_iadd hB dX12_bridges_116 ?_
        refine X_iconst (v := 0) hB dX12_bridges_117 (by decide) ?_
        refine X_zastN hB (8 * (n % 8) + n / 8) hR.2.2.2.2.2.2.2.2.2.1.1 hR.2.2.2.2.2.2.2.2.2.1.2 (by decide) (by first | rfl | (simp (disch := omega) only [nlit, nI_add, nI_mul, nI_sub]; done) | (simp (disch := omega) only [nlit, nI_add, nI_mul, nI_sub]; (congr 1 <;> omega))) (by first | omega | (simp only []; omega)) (by first | exact Or.inl rfl | exact Or.inr rfl | assumption) dX12_bridges_118 ?_
        have hS118 : setI (setI S88 (h + 9) n 0) (h + 9) (8 * (n % 8) + n / 8) 0 = rowI S88 (h + 9) (upd (upd (S88.1 (h + 9)) n 0) (8 * (n % 8) + n / 8) 0) := by rw [setI_rowI, setI_rowI, rowI_rowI, rowI_at]
        rw [hS118]
        have f118 : fr h [h + 9, h + 10] [0] S (rowI S88 (h + 9) (upd (upd (S88.1 (h + 9)) n 0) (8 * (n % 8) + n / 8) 0)) := (hfr.tr (f88.mono (by simp) (by simp))).tr (fr.row (by simp) (by omega))
        have hF118 := f118.ref hF
        have hK118 : knR ((rowI S88 (h + 9) (upd (upd (S88.1 (h + 9)) n 0) (8 * (n % 8) + n / 8) 0)).1 (h + 9)) (lessL (nUp σ) (n / 8) (n % 8)) := by rw [rowI_at]; exact knR_less k88 (by omega)
        refine X_aload_n (i := 0) hB dX12_bridges_119 rfl rfl ?_
        refine X_iload_n (i := 2) hB dX12_bridges_120 rfl rfl ?_
        refine X_callV hB kX12_228 cw10 hR.1.1 hR.1.2 (c_laysFar hR hF118 y hy (lessL (nUp σ) (n / 8) (n % 8)) hK118) (by decide) (by decide) rfl rfl (Nat.le_of_ble_eq_true rfl) dX12_bridges_121 (fun r121 S121 q121 => ?_)
        obtain ⟨rfl, f121, k121⟩ := q121
        have hd := dst_99 (f := lessL (nUp σ) (n / 8) (n % 8)) (to := y) (x := x)
        refine X_iload_n (i := 3) hB dX12_bridges_124 rfl rfl ?_
        refine X_aload_n (i := 0) hB dX12_bridges_125 rfl rfl ?_
        refine X_getr hB cw10 fX12_39 rfl hR.1.1 hR.1.2 (f121.ref hF118).2.2.2.2.2.2.2.2.2.1 dX12_bridges_126 ?_
        refine X_iload_n (i := 1) hB dX12_bridges_129 rfl rfl ?_
        refine X_ialdN hB (x) hR.2.2.2.2.2.2.2.2.2.2.1.1 hR.2.2.2.2.2.2.2.2.2.2.1.2 (by decide) (by first | rfl | (simp (disch := omega) only [nlit, nI_add, nI_mul, nI_sub]; done) | (simp (disch := omega) only [nlit, nI_add, nI_mul, nI_sub]; (congr 1 <;> omega))) (by first | omega | (simp only []; omega)) (k121 x hx) dX12_bridges_130 ?_
        refine X_bipush (v := 99) hB dX12_bridges_131 (by decide) ?_
        refine X_icmp_ge (tgt := 140) hB dX12_bridges_133 (by decide) (fun c133 => ?_) (fun c133 => ?_)
        · have e9 : (fun k => decide (k / 8 < k % 8) && nUp σ (k / 8) (k % 8) && decide (99 ≤ dst (lessL (nUp σ) (k / 8) (k % 8)) y x)) n = true := by
            rw [show (99 : Int32) = nI 99 from rfl, nI_leI (by omega) (by omega)] at c133
            rw [nI_leI (by omega) (by omega)] at c70
            have q2 : nUp σ (n / 8) (n % 8) = true := by
              by_cases q : nUp σ (n / 8) (n % 8) = true
              · exact q
              · rw [if_neg q] at c84; exact absurd c84 (by decide)
            simp only [q2, Bool.and_true, Bool.and_eq_true, decide_eq_true_eq]
            exact ⟨by omega, c133⟩
          refine X_iconst (v := 1) hB dX12_bridges_140 (by decide) ?_
          refine X_iadd hB dX12_bridges_141 ?_
          refine X_topi (y := nI (cnB (fun k => decide (k / 8 < k % 8) && nUp σ (k / 8) (k % 8) && decide (99 ≤ dst (lessL (nUp σ) (k / 8) (k % 8)) y x)) (n + 1))) (by first | (simp only [cnB, e9, if_true]; rw [nI_1]) | (simp only [cnB, e9, Bool.false_eq_true, if_false, Nat.add_zero]; exact Int32.add_zero _)) ?_
          refine X_istore_n (i := 3) hB dX12_bridges_142 rfl (by decide) rfl ?_
          first
            | (refine X_iinc hB dX12_bridges_143 rfl rfl (by decide) rfl ?_
               refine X_goto (tgt := 48) hB dX12_bridges_146 (by decide) ?_
               refine X_lv ?_ (ih (n + 1) _ (by omega) (f118.tr (f121.mono (by simp) (by simp))))
               · rw [nI_succ]; rfl)
            | (have e9 : (fun k => decide (k / 8 < k % 8) && nUp σ (k / 8) (k % 8) && decide (99 ≤ dst (lessL (nUp σ) (k / 8) (k % 8)) y x)) n = false := by
                 first
                   | (rw [nI_leI (by omega) (by omega)] at c70; simp only [Bool.and_eq_false_iff, decide_eq_false_iff_not]; exact Or.inl (Or.inl (by omega)))
                   | (have q2 : nUp σ (n / 8) (n % 8) = false := by
                        cases q : nUp σ (n / 8) (n % 8) with
                        | false => rfl
                        | true => rw [q] at c84; exact absurd rfl c84
                      simp [q2])
               refine X_iinc hB dX12_bridges_143 rfl rfl (by decide) rfl ?_
               refine X_goto (tgt := 48) hB dX12_bridges_146 (by decide) ?_
               refine X_lv ?_ (ih (n + 1) _ (by omega) hfr)
               simp only [cnB, e9, Bool.false_eq_true, if_false, Nat.add_zero]
               rw [nI_succ]; rfl)
        · have e9 : (fun k => decide (k / 8 < k % 8) && nUp σ (k / 8) (k % 8) && decide (99 ≤ dst (lessL (nUp σ) (k / 8) (k % 8)) y x)) n = false := by
            rw [show (99 : Int32) = nI 99 from rfl, nI_leI (by omega) (by omega)] at c133
            simp [c133]
          refine X_iconst (v := 0) hB dX12_bridges_136 (by decide) ?_
          refine X_goto (tgt := 141) hB dX12_bridges_137 (by decide) ?_
          refine X_iadd hB dX12_bridges_141 ?_
          refine X_topi (y := nI (cnB (fun k => decide (k / 8 < k % 8) && nUp σ (k / 8) (k % 8) && decide (99 ≤ dst (lessL (nUp σ) (k / 8) (k % 8)) y x)) (n + 1))) (by first | (simp only [cnB, e9, if_true]; rw [nI_1]) | (simp only [cnB, e9, Bool.false_eq_true, if_false, Nat.add_zero]; exact Int32.add_zero _)) ?_
          refine X_istore_n (i := 3) hB dX12_bridges_142 rfl (by decide) rfl ?_
          first
            | (refine X_iinc hB dX12_bridges_143 rfl rfl (by decide) rfl ?_
               refine X_goto (tgt := 48) hB dX12_bridges_146 (by decide) ?_
               refine X_lv ?_ (ih (n + 1) _ (by omega) (f118.tr (f121.mono (by simp) (by simp))))
               · rw [nI_succ]; rfl)
            | (have e9 : (fun k => decide (k / 8 < k % 8) && nUp σ (k / 8) (k % 8) && decide (99 ≤ dst (lessL (nUp σ) (k / 8) (k % 8)) y x)) n = false := by
                 first
                   | (rw [nI_leI (by omega) (by omega)] at c70; simp only [Bool.and_eq_false_iff, decide_eq_false_iff_not]; exact Or.inl (Or.inl (by omega)))
                   | (have q2 : nUp σ (n / 8) (n % 8) = false := by
                        cases q : nUp σ (n / 8) (n % 8) with
                        | false => rfl
                        | true => rw [q] at c84; exact absurd rfl c84
                      simp [q2])
               refine X_iinc hB dX12_bridges_143 rfl rfl (by decide) rfl ?_
               refine X_goto (tgt := 48) hB dX12_bridges_146 (by decide) ?_
               refine X_lv ?_ (ih (n + 1) _ (by omega) hfr)
               simp only [cnB, e9, Bool.false_eq_true, if_false, Nat.add_zero]
               rw [nI_succ]; rfl)
set_option maxRecDepth 100000 in
set_option maxHeartbeats 4000000 in
theorem c_bridges (hR : RLay G h) (hF : RRef S h) (σ : Net) (b : Nat) (hw : wfN σ b) (hN : netR (S.1 (h + 1)) σ) (v w : Int32) : C G mX12_bridges 3 [.ref h, .int v, .int w] S (fun r S' => r = some (.int (aBridges σ v w)) ∧ fr h [h + 9, h + 10] [0] S S') := by
  have hs := hw.sz
  have hc8 := hw.1.1.2
  have ha40 := hs.1
  have hd40 := hs.2.1
  refine C.mk (lv := [some (.ref h), some (.int v), some (.int w), none, none, none]) (by decide) (Nat.le_of_ble_eq_true rfl) rfl (fun E hB => ?_)
  refine X_aload_n (i := 0) hB dX12_bridges_0 rfl rfl ?_
  refine X_iconst (v := 0) hB dX12_bridges_1 (by decide) ?_
  refine X_puti hB cw10 fX12_51 rfl rfl hR.1.1 hR.1.2 dX12_bridges_2 ?_
  generalize hS0 : setI S h 0 0 = S0
  have fz : fr h [] [0] S S0 := hS0 ▸ fr.fld (by simp)
  have hF := fz.ref hF
  have hN : netR (S0.1 (h + 1)) σ := by rw [fz.2.1 (h + 1) (by simp) (by omega)]; exact hN
  clear hS0
  refine X_aload_n (i := 0) hB dX12_bridges_5 rfl rfl ?_
  refine X_iload_n (i := 1) hB dX12_bridges_6 rfl rfl ?_
  refine X_iload_n (i := 2) hB dX12_bridges_7 rfl rfl ?_
  refine X_callV hB kX12_373 cw10 hR.1.1 hR.1.2 (c_areTwo hR hF σ hN (by omega) v w) (by decide) (by decide) rfl rfl (Nat.le_of_ble_eq_true rfl) dX12_bridges_8 (fun r8 S8 q8 => ?_)
  obtain ⟨rfl, rfl⟩ := q8
  refine X_if_ne (tgt := 16) hB dX12_bridges_11 (by decide) (fun c11 => ?_) (fun c11 => ?_)
  · obtain ⟨⟨x, y⟩, e11⟩ := opt_ex (if0n c11)
    obtain ⟨rfl, rfl, lx, ly, hxy⟩ := two_some e11
    refine X_aload_n (i := 0) hB dX12_bridges_16 rfl rfl ?_
    refine X_callV hB kX12_407 cw10 hR.1.1 hR.1.2 (c_laysUp hR hF σ hN) (by decide) (by decide) rfl rfl (Nat.le_of_ble_eq_true rfl) dX12_bridges_17 (fun r17 S17 q17 => ?_)
    obtain ⟨rfl, f17, k17⟩ := q17
    have hF17 := f17.ref hF
    refine X_aload_n (i := 0) hB dX12_bridges_20 rfl rfl ?_
    refine X_iload_n (i := 2) hB dX12_bridges_21 rfl rfl ?_
    refine X_callV hB kX12_228 cw10 hR.1.1 hR.1.2 (c_laysFar hR hF17 y (by omega) (nUp σ) k17) (by decide) (by decide) rfl rfl (Nat.le_of_ble_eq_true rfl) dX12_bridges_22 (fun r22 S22 q22 => ?_)
    obtain ⟨rfl, f22, k22⟩ := q22
    have hF := f22.ref hF17
    have hd := dst_99 (f := nUp σ) (to := y) (x := x)
    have hN : netR (S22.1 (h + 1)) σ := by rw [f22.2.1 (h + 1) (by simp) (by omega), f17.2.1 (h + 1) (by simp) (by omega)]; exact hN
    have fy := ((fz.mono (r2 := [h + 9, h + 10]) (f2 := [0]) (by simp) (by simp)).tr (f17.mono (by simp) (by simp))).tr (f22.mono (by simp) (by simp))
    refine X_iconst (v := 0) hB dX12_bridges_25 (by decide) ?_
    refine X_istore_n (i := 3) hB dX12_bridges_26 rfl (by decide) rfl ?_
    refine X_aload_n (i := 0) hB dX12_bridges_27 rfl rfl ?_
    refine X_getr hB cw10 fX12_39 rfl hR.1.1 hR.1.2 hF.2.2.2.2.2.2.2.2.2.1 dX12_bridges_28 ?_
    refine X_iload_n (i := 1) hB dX12_bridges_31 rfl rfl ?_
    refine X_ialdN hB (x) hR.2.2.2.2.2.2.2.2.2.2.1.1 hR.2.2.2.2.2.2.2.2.2.2.1.2 (by decide) (by first | rfl | (simp (disch := omega) only [nlit, nI_add, nI_mul, nI_sub]; done) | (simp (disch := omega) only [nlit, nI_add, nI_mul, nI_sub]; (congr 1 <;> omega))) (by first | omega | (simp only []; omega)) (k22 x (by omega)) dX12_bridges_32 ?_
    refine X_bipush (v := 99) hB dX12_bridges_33 (by decide) ?_
    refine X_icmp_ge (tgt := 42) hB dX12_bridges_35 (by decide) (fun c35 => ?_) (fun c35 => ?_)
    · refine X_iconst (v := 0) hB dX12_bridges_42 (by decide) ?_
      refine X_istore hB dX12_bridges_43 (by decide) rfl ?_
      refine X_iconst (v := 0) hB dX12_bridges_45 (by decide) ?_
      refine X_istore hB dX12_bridges_46 (by decide) rfl ?_
      first
        | (have e35 : dst (nUp σ) y x < 99 := by
             rw [show (99 : Int32) = nI 99 from rfl, nI_leI (by omega) (by omega)] at c35
             omega
           refine X_lv (lv' := [some (.ref h), some (.int (nI x)), some (.int (nI y)), some (.int (nI (cnB (fun k => decide (k / 8 < k % 8) && nUp σ (k / 8) (k % 8) && decide (99 ≤ dst (lessL (nUp σ) (k / 8) (k % 8)) y x)) 0))), some (.int 1), some (.int (nI 0))]) ?_ (l_bridges hR hF hB σ hN x y (by omega) (by omega) (fun S1 q => ⟨by simp only [aBridges, e11, if_pos e35], fy.tr q⟩) 64 0 _ (by omega) fr.rf)
           rw [nI_0]; rfl)
        | (have e35 : ¬ dst (nUp σ) y x < 99 := by
             rw [show (99 : Int32) = nI 99 from rfl, nI_leI (by omega) (by omega)] at c35
             omega
           refine X_iload hB dX12_bridges_48 rfl ?_
           refine X_bipush (v := 64) hB dX12_bridges_50 (by decide) ?_
           refine X_icmp_ge (tgt := 149) hB dX12_bridges_52 (by decide) (fun c52 => absurd c52 (by decide)) (fun c52 => ?_)
           refine X_iload hB dX12_bridges_55 rfl ?_
           refine X_if_eq (tgt := 149) hB dX12_bridges_57 (by decide) (fun c57 => ?_) (fun c57 => absurd rfl c57)
           refine X_iload_n (i := 3) hB dX12_bridges_149 rfl rfl ?_
           refine X_iret hB rfl dX12_bridges_150 ?_
           exact ⟨by simp only [aBridges, e11, if_neg e35], fy⟩)
    · refine X_iconst (v := 1) hB dX12_bridges_38 (by decide) ?_
      refine X_goto (tgt := 43) hB dX12_bridges_39 (by decide) ?_
      refine X_istore hB dX12_bridges_43 (by decide) rfl ?_
      refine X_iconst (v := 0) hB dX12_bridges_45 (by decide) ?_
      refine X_istore hB dX12_bridges_46 (by decide) rfl ?_
      first
        | (have e35 : dst (nUp σ) y x < 99 := by
             rw [show (99 : Int32) = nI 99 from rfl, nI_leI (by omega) (by omega)] at c35
             omega
           refine X_lv (lv' := [some (.ref h), some (.int (nI x)), some (.int (nI y)), some (.int (nI (cnB (fun k => decide (k / 8 < k % 8) && nUp σ (k / 8) (k % 8) && decide (99 ≤ dst (lessL (nUp σ) (k / 8) (k % 8)) y x)) 0))), some (.int 1), some (.int (nI 0))]) ?_ (l_bridges hR hF hB σ hN x y (by omega) (by omega) (fun S1 q => ⟨by simp only [aBridges, e11, if_pos e35], fy.tr q⟩) 64 0 _ (by omega) fr.rf)
           rw [nI_0]; rfl)
        | (have e35 : ¬ dst (nUp σ) y x < 99 := by
             rw [show (99 : Int32) = nI 99 from rfl, nI_leI (by omega) (by omega)] at c35
             omega
           refine X_iload hB dX12_bridges_48 rfl ?_
           refine X_bipush (v := 64) hB dX12_bridges_50 (by decide) ?_
           refine X_icmp_ge (tgt := 149) hB dX12_bridges_52 (by decide) (fun c52 => absurd c52 (by decide)) (fun c52 => ?_)
           refine X_iload hB dX12_bridges_55 rfl ?_
           refine X_if_eq (tgt := 149) hB dX12_bridges_57 (by decide) (fun c57 => ?_) (fun c57 => absurd rfl c57)
           refine X_iload_n (i := 3) hB dX12_bridges_149 rfl rfl ?_
           refine X_iret hB rfl dX12_bridges_150 ?_
           exact ⟨by simp only [aBridges, e11, if_neg e35], fy⟩)
  · first
      | (have e11 := if0 c11
         have fz := fz.mono (r2 := [h + 9, h + 10]) (f2 := [0]) (by simp) (by simp)
         refine X_iconst (v := (-1)) hB dX12_bridges_14 (by decide) ?_
         refine X_iret hB rfl dX12_bridges_15 ?_
         refine ⟨?_, fz⟩
         simp only [aBridges, nth, e11])
end REF
