theorem akN_ne {o : Option Nat} (h : ∀ s, o = some s → s < 2 ^ 31) : akN o = -1 ↔ o = none := by
  cases o with
  | none => simp [akN]
  | some s => simp only [akN]; constructor
              · exact fun e => absurd e (nI_neg1 (h s rfl))
              · exact fun e => by cases e
theorem bts_st {p : Nat → Bool} {k : Nat} (hk : k < 8) (hp : p k = true) : nI (bts p k) ||| (1 <<< (nI k &&& 31)) = nI (bts p (k + 1)) := by
  rw [bit_or _ (Nat.lt_of_lt_of_le (bts_lt p k) (Nat.pow_le_pow_right (by decide) (by omega : k ≤ 8))) k hk]
  simp only [bts, hp, if_true]
theorem bts_no {p : Nat → Bool} {k : Nat} (hp : p k = false) : nI (bts p k) ||| 0 = nI (bts p (k + 1)) := by
  simp only [bts, hp, Bool.false_eq_true, if_false, Nat.or_zero]
  exact Int32.or_zero
section REF
variable {G : Gc} {S : St} {h : Nat}
set_option maxRecDepth 100000 in
set_option maxHeartbeats 4000000 in
theorem l_asksFor (hR : RLay G h) (hF : RRef S h) {E : Ev} (hB : Bd G E mX12_asksFor) {Q : Option Value → St → Prop} (σ : Net) (hN : netR (S.1 (h + 1)) σ) (hs : szN σ) (hc8 : nSe σ 0 ≤ 8) (x : Nat) (hx : x < 8) (ha : ∀ t s, dAk (nNd σ x) t = some s → s < 2 ^ 31) (kk : ∀ S1, S = S1 → Q (some (.int (nI (bts (fun t => decide (dAk (nNd σ x) t ≠ none)) (nSe σ 0))))) S1) :
    ∀ (k t : Nat) (S1 : St), t + k = nSe σ 0 → S = S1 → X G E mX12_asksFor 1 Q S1 4 [some (.ref h), some (.int (nI x)), some (.int (nI (bts (fun t => decide (dAk (nNd σ x) t ≠ none)) t))), some (.int (nI t))] [] := by
  intro k
  induction k with
  | zero =>
    intro t S1 h1 hfr
    have hF1 : RRef S1 h := hfr ▸ hF
    have hN1 : netR (S1.1 (h + 1)) σ := hfr ▸ hN
    refine X_iload_n (i := 3) hB dX12_asksFor_4 rfl rfl ?_
    refine X_aload_n (i := 0) hB dX12_asksFor_5 rfl rfl ?_
    refine X_getr hB cw10 fX12_7 rfl hR.1.1 hR.1.2 hF1.1 dX12_asksFor_6 ?_
    refine X_iconst (v := 0) hB dX12_asksFor_9 (by decide) ?_
    refine X_ialdN hB (0) hR.2.1.1 hR.2.1.2 (by decide) (by first | rfl | (simp (disch := omega) only [nlit, nI_add, nI_mul, nI_sub]; done) | (simp (disch := omega) only [nlit, nI_add, nI_mul, nI_sub]; (congr 1 <;> omega))) (by first | omega | (simp only []; omega)) (hN1.1.1 0 (by decide)) dX12_asksFor_10 ?_
    refine X_icmp_ge (tgt := 43) hB dX12_asksFor_11 (by decide) (fun c11 => ?_) (fun c11 => absurd c11 (by simp (disch := omega) only [nlit, nI_leI, nI_ltI]; omega))
    refine X_iload_n (i := 2) hB dX12_asksFor_43 rfl rfl ?_
    refine X_iret hB rfl dX12_asksFor_44 ?_
    have e9 : t = nSe σ 0 := by omega
    subst e9
    exact kk S1 hfr
  | succ k ih =>
    intro t S1 h1 hfr
    have hF1 : RRef S1 h := hfr ▸ hF
    have hN1 : netR (S1.1 (h + 1)) σ := hfr ▸ hN
    refine X_iload_n (i := 3) hB dX12_asksFor_4 rfl rfl ?_
    refine X_aload_n (i := 0) hB dX12_asksFor_5 rfl rfl ?_
    refine X_getr hB cw10 fX12_7 rfl hR.1.1 hR.1.2 hF1.1 dX12_asksFor_6 ?_
    refine X_iconst (v := 0) hB dX12_asksFor_9 (by decide) ?_
    refine X_ialdN hB (0) hR.2.1.1 hR.2.1.2 (by decide) (by first | rfl | (simp (disch := omega) only [nlit, nI_add, nI_mul, nI_sub]; done) | (simp (disch := omega) only [nlit, nI_add, nI_mul, nI_sub]; (congr 1 <;> omega))) (by first | omega | (simp only []; omega)) (hN1.1.1 0 (by decide)) dX12_asksFor_10 ?_
    refine X_icmp_ge (tgt := 43) hB dX12_asksFor_11 (by decide) (fun c11 => absurd c11 (by simp (disch := omega) only [nlit, nI_leI, nI_ltI]; omega)) (fun c11 => ?_)
    refine X_iload_n (i := 2) hB dX12_asksFor_14 rfl rfl ?_
    refine X_aload_n (i := 0) hB dX12_asksFor_15 rfl rfl ?_
    refine X_iload_n (i := 1) hB dX12_asksFor_16 rfl rfl ?_
    refine X_bipush (v := 7) hB dX12_asksFor_17 (by decide) ?_
    refine X_iload_n (i := 3) hB dX12_asksFor_19 rfl rfl ?_
    refine X_iadd hB dX12_asksFor_20 ?_
    refine X_callV hB kX12_180 cw10 hR.1.1 hR.1.2 (c_ofE (n := x) (w := 7 + t) hR hF1 rfl (by first | rfl | (simp (disch := omega) only [nlit, nI_add, nI_mul, nI_sub]; done) | (simp (disch := omega) only [nlit, nI_add, nI_mul, nI_sub]; (congr 1 <;> omega))) (by omega) (by omega)) (by decide) (by decide) rfl rfl (Nat.le_of_ble_eq_true rfl) dX12_asksFor_21 (fun r21 S21 q21 => ?_)
    obtain ⟨rfl, rfl⟩ := q21
    refine X_topi (y := akN (dAk (nNd σ x) t)) ((hN1.2.1 x hx).2.2.2.2.2.2.2.1 t (by omega)) ?_
    refine X_iconst (v := (-1)) hB dX12_asksFor_24 (by decide) ?_
    refine X_icmp_ne (tgt := 32) hB dX12_asksFor_25 (by decide) (fun c25 => ?_) (fun c25 => ?_)
    · have e25 : (fun t => decide (dAk (nNd σ x) t ≠ none)) t = true := decide_eq_true (fun q => c25 ((akN_ne (ha t)).mpr q))
      refine X_iconst (v := 1) hB dX12_asksFor_32 (by decide) ?_
      refine X_iload_n (i := 3) hB dX12_asksFor_33 rfl rfl ?_
      refine X_ishl hB dX12_asksFor_34 ?_
      refine X_ior hB dX12_asksFor_35 ?_
      refine X_topi (y := nI (bts (fun t => decide (dAk (nNd σ x) t ≠ none)) (t + 1))) (by first | exact bts_st (by omega) e25 | exact bts_no e25) ?_
      refine X_istore_n (i := 2) hB dX12_asksFor_36 rfl (by decide) rfl ?_
      refine X_iinc hB dX12_asksFor_37 rfl rfl (by decide) rfl ?_
      refine X_goto (tgt := 4) hB dX12_asksFor_40 (by decide) ?_
      refine X_lv ?_ (ih (t + 1) _ (by omega) hfr)
      · rw [nI_succ]; rfl
    · have e25 : (fun t => decide (dAk (nNd σ x) t ≠ none)) t = false := decide_eq_false (fun q => q ((akN_ne (ha t)).mp c25))
      refine X_iconst (v := 0) hB dX12_asksFor_28 (by decide) ?_
      refine X_goto (tgt := 35) hB dX12_asksFor_29 (by decide) ?_
      refine X_ior hB dX12_asksFor_35 ?_
      refine X_topi (y := nI (bts (fun t => decide (dAk (nNd σ x) t ≠ none)) (t + 1))) (by first | exact bts_st (by omega) e25 | exact bts_no e25) ?_
      refine X_istore_n (i := 2) hB dX12_asksFor_36 rfl (by decide) rfl ?_
      refine X_iinc hB dX12_asksFor_37 rfl rfl (by decide) rfl ?_
      refine X_goto (tgt := 4) hB dX12_asksFor_40 (by decide) ?_
      refine X_lv ?_ (ih (t + 1) _ (by omega) hfr)
      · rw [nI_succ]; rfl
set_option maxRecDepth 100000 in
set_option maxHeartbeats 4000000 in
theorem c_asksFor (hR : RLay G h) (hF : RRef S h) (σ : Net) (hN : netR (S.1 (h + 1)) σ) (hs : szN σ) (hc8 : nSe σ 0 ≤ 8) (x : Nat) (hx : x < 8) (ha : ∀ t s, dAk (nNd σ x) t = some s → s < 2 ^ 31)  : C G mX12_asksFor 1 [.ref h, .int (nI x)] S (fun r S' => r = some (.int (nI (bts (fun t => decide (dAk (nNd σ x) t ≠ none)) (nSe σ 0)))) ∧ S = S') := by
  refine C.mk (lv := [some (.ref h), some (.int (nI x)), none, none]) (by decide) (Nat.le_of_ble_eq_true rfl) rfl (fun E hB => ?_)
  refine X_iconst (v := 0) hB dX12_asksFor_0 (by decide) ?_
  refine X_istore_n (i := 2) hB dX12_asksFor_1 rfl (by decide) rfl ?_
  refine X_iconst (v := 0) hB dX12_asksFor_2 (by decide) ?_
  refine X_istore_n (i := 3) hB dX12_asksFor_3 rfl (by decide) rfl ?_
  refine X_lv ?_ (l_asksFor hR hF hB σ hN hs hc8 x hx ha (fun S1 q => ⟨rfl, q⟩) (nSe σ 0) 0 S (by omega) rfl)
  rw [nI_0]; rfl
set_option maxRecDepth 100000 in
set_option maxHeartbeats 4000000 in
theorem l_waysOf (hR : RLay G h) (hF : RRef S h) {E : Ev} (hB : Bd G E mX12_waysOf) {Q : Option Value → St → Prop} (σ : Net) (hN : netR (S.1 (h + 1)) σ) (hs : szN σ) (hc8 : nSe σ 0 ≤ 8) (x : Nat) (hx : x < 8) (ha : nSe σ 1 ≤ 7) (kk : ∀ S1, fr h [h + 8, h + 9, h + 10] [22] S S1 → Q (some (.int (nI (bts (fun t => decide (wayN σ x t ≠ [])) (nSe σ 0))))) S1) :
    ∀ (k t : Nat) (S1 : St), t + k = nSe σ 0 → fr h [h + 8, h + 9, h + 10] [22] S S1 → X G E mX12_waysOf 5 Q S1 4 [some (.ref h), some (.int (nI x)), some (.int (nI (bts (fun t => decide (wayN σ x t ≠ [])) t))), some (.int (nI t))] [] := by
  intro k
  induction k with
  | zero =>
    intro t S1 h1 hfr
    have hF1 : RRef S1 h := hfr.ref hF
    have hN1 : netR (S1.1 (h + 1)) σ := by rw [hfr.2.1 (h + 1) (by simp) (by omega)]; exact hN
    refine X_iload_n (i := 3) hB dX12_waysOf_4 rfl rfl ?_
    refine X_aload_n (i := 0) hB dX12_waysOf_5 rfl rfl ?_
    refine X_getr hB cw10 fX12_7 rfl hR.1.1 hR.1.2 hF1.1 dX12_waysOf_6 ?_
    refine X_iconst (v := 0) hB dX12_waysOf_9 (by decide) ?_
    refine X_ialdN hB (0) hR.2.1.1 hR.2.1.2 (by decide) (by first | rfl | (simp (disch := omega) only [nlit, nI_add, nI_mul, nI_sub]; done) | (simp (disch := omega) only [nlit, nI_add, nI_mul, nI_sub]; (congr 1 <;> omega))) (by first | omega | (simp only []; omega)) (hN1.1.1 0 (by decide)) dX12_waysOf_10 ?_
    refine X_icmp_ge (tgt := 39) hB dX12_waysOf_11 (by decide) (fun c11 => ?_) (fun c11 => absurd c11 (by simp (disch := omega) only [nlit, nI_leI, nI_ltI]; omega))
    refine X_iload_n (i := 2) hB dX12_waysOf_39 rfl rfl ?_
    refine X_iret hB rfl dX12_waysOf_40 ?_
    have e9 : t = nSe σ 0 := by omega
    subst e9
    exact kk S1 hfr
  | succ k ih =>
    intro t S1 h1 hfr
    have hF1 : RRef S1 h := hfr.ref hF
    have hN1 : netR (S1.1 (h + 1)) σ := by rw [hfr.2.1 (h + 1) (by simp) (by omega)]; exact hN
    refine X_iload_n (i := 3) hB dX12_waysOf_4 rfl rfl ?_
    refine X_aload_n (i := 0) hB dX12_waysOf_5 rfl rfl ?_
    refine X_getr hB cw10 fX12_7 rfl hR.1.1 hR.1.2 hF1.1 dX12_waysOf_6 ?_
    refine X_iconst (v := 0) hB dX12_waysOf_9 (by decide) ?_
    refine X_ialdN hB (0) hR.2.1.1 hR.2.1.2 (by decide) (by first | rfl | (simp (disch := omega) only [nlit, nI_add, nI_mul, nI_sub]; done) | (simp (disch := omega) only [nlit, nI_add, nI_mul, nI_sub]; (congr 1 <;> omega))) (by first | omega | (simp only []; omega)) (hN1.1.1 0 (by decide)) dX12_waysOf_10 ?_
    refine X_icmp_ge (tgt := 39) hB dX12_waysOf_11 (by decide) (fun c11 => absurd c11 (by simp (disch := omega) only [nlit, nI_leI, nI_ltI]; omega)) (fun c11 => ?_)
    refine X_iload_n (i := 2) hB dX12_waysOf_14 rfl rfl ?_
    refine X_aload_n (i := 0) hB dX12_waysOf_15 rfl rfl ?_
    refine X_iload_n (i := 1) hB dX12_waysOf_16 rfl rfl ?_
    refine X_iload_n (i := 3) hB dX12_waysOf_17 rfl rfl ?_
    refine X_callV hB kX12_265 cw10 hR.1.1 hR.1.2 (c_findsN hR hF1 σ hN1 hs ha x t hx (by omega)) (by decide) (by decide) rfl rfl (Nat.le_of_ble_eq_true rfl) dX12_waysOf_18 (fun r18 S18 q18 => ?_)
    obtain ⟨rfl, f18, -⟩ := q18
    refine X_if_eq (tgt := 30) hB dX12_waysOf_21 (by decide) (fun c21 => ?_) (fun c21 => ?_)
    · have e21 : (fun t => decide (wayN σ x t ≠ [])) t = false := decide_eq_false (fun q => q (if0 c21))
      refine X_iconst (v := 0) hB dX12_waysOf_30 (by decide) ?_
      refine X_ior hB dX12_waysOf_31 ?_
      refine X_topi (y := nI (bts (fun t => decide (wayN σ x t ≠ [])) (t + 1))) (by first | exact bts_st (by omega) e21 | exact bts_no e21) ?_
      refine X_istore_n (i := 2) hB dX12_waysOf_32 rfl (by decide) rfl ?_
      refine X_iinc hB dX12_waysOf_33 rfl rfl (by decide) rfl ?_
      refine X_goto (tgt := 4) hB dX12_waysOf_36 (by decide) ?_
      refine X_lv ?_ (ih (t + 1) _ (by omega) (hfr.tr (f18.mono (by simp) (by simp))))
      · rw [nI_succ]; rfl
    · have e21 : (fun t => decide (wayN σ x t ≠ [])) t = true := decide_eq_true (if0n c21)
      refine X_iconst (v := 1) hB dX12_waysOf_24 (by decide) ?_
      refine X_iload_n (i := 3) hB dX12_waysOf_25 rfl rfl ?_
      refine X_ishl hB dX12_waysOf_26 ?_
      refine X_goto (tgt := 31) hB dX12_waysOf_27 (by decide) ?_
      refine X_ior hB dX12_waysOf_31 ?_
      refine X_topi (y := nI (bts (fun t => decide (wayN σ x t ≠ [])) (t + 1))) (by first | exact bts_st (by omega) e21 | exact bts_no e21) ?_
      refine X_istore_n (i := 2) hB dX12_waysOf_32 rfl (by decide) rfl ?_
      refine X_iinc hB dX12_waysOf_33 rfl rfl (by decide) rfl ?_
      refine X_goto (tgt := 4) hB dX12_waysOf_36 (by decide) ?_
      refine X_lv ?_ (ih (t + 1) _ (by omega) (hfr.tr (f18.mono (by simp) (by simp))))
      · rw [nI_succ]; rfl
set_option maxRecDepth 100000 in
set_option maxHeartbeats 4000000 in
theorem c_waysOf (hR : RLay G h) (hF : RRef S h) (σ : Net) (hN : netR (S.1 (h + 1)) σ) (hs : szN σ) (hc8 : nSe σ 0 ≤ 8) (x : Nat) (hx : x < 8) (ha : nSe σ 1 ≤ 7)  : C G mX12_waysOf 5 [.ref h, .int (nI x)] S (fun r S' => r = some (.int (nI (bts (fun t => decide (wayN σ x t ≠ [])) (nSe σ 0)))) ∧ fr h [h + 8, h + 9, h + 10] [22] S S') := by
  refine C.mk (lv := [some (.ref h), some (.int (nI x)), none, none]) (by decide) (Nat.le_of_ble_eq_true rfl) rfl (fun E hB => ?_)
  refine X_iconst (v := 0) hB dX12_waysOf_0 (by decide) ?_
  refine X_istore_n (i := 2) hB dX12_waysOf_1 rfl (by decide) rfl ?_
  refine X_iconst (v := 0) hB dX12_waysOf_2 (by decide) ?_
  refine X_istore_n (i := 3) hB dX12_waysOf_3 rfl (by decide) rfl ?_
  refine X_lv ?_ (l_waysOf hR hF hB σ hN hs hc8 x hx ha (fun S1 q => ⟨rfl, q⟩) (nSe σ 0) 0 S (by omega) fr.rf)
  rw [nI_0]; rfl
set_option maxRecDepth 100000 in
set_option maxHeartbeats 4000000 in
theorem l_upOf (hR : RLay G h) (hF : RRef S h) {E : Ev} (hB : Bd G E mX12_upOf) {Q : Option Value → St → Prop} (σ : Net) (hN : netR (S.1 (h + 1)) σ) (hs : szN σ) (hc8 : nSe σ 0 ≤ 8) (x : Nat) (hx : x < 8) (kk : ∀ S1, S = S1 → Q (some (.int (nI (bts (fun t => decide (t ≠ x ∧ nUp σ x t = true)) (nSe σ 0))))) S1) :
    ∀ (k t : Nat) (S1 : St), t + k = nSe σ 0 → S = S1 → X G E mX12_upOf 2 Q S1 4 [some (.ref h), some (.int (nI x)), some (.int (nI (bts (fun t => decide (t ≠ x ∧ nUp σ x t = true)) t))), some (.int (nI t))] [] := by
  intro k
  induction k with
  | zero =>
    intro t S1 h1 hfr
    have hF1 : RRef S1 h := hfr ▸ hF
    have hN1 : netR (S1.1 (h + 1)) σ := hfr ▸ hN
    refine X_iload_n (i := 3) hB dX12_upOf_4 rfl rfl ?_
    refine X_aload_n (i := 0) hB dX12_upOf_5 rfl rfl ?_
    refine X_getr hB cw10 fX12_7 rfl hR.1.1 hR.1.2 hF1.1 dX12_upOf_6 ?_
    refine X_iconst (v := 0) hB dX12_upOf_9 (by decide) ?_
    refine X_ialdN hB (0) hR.2.1.1 hR.2.1.2 (by decide) (by first | rfl | (simp (disch := omega) only [nlit, nI_add, nI_mul, nI_sub]; done) | (simp (disch := omega) only [nlit, nI_add, nI_mul, nI_sub]; (congr 1 <;> omega))) (by first | omega | (simp only []; omega)) (hN1.1.1 0 (by decide)) dX12_upOf_10 ?_
    refine X_icmp_ge (tgt := 39) hB dX12_upOf_11 (by decide) (fun c11 => ?_) (fun c11 => absurd c11 (by simp (disch := omega) only [nlit, nI_leI, nI_ltI]; omega))
    refine X_iload_n (i := 2) hB dX12_upOf_39 rfl rfl ?_
    refine X_iret hB rfl dX12_upOf_40 ?_
    have e9 : t = nSe σ 0 := by omega
    subst e9
    exact kk S1 hfr
  | succ k ih =>
    intro t S1 h1 hfr
    have hF1 : RRef S1 h := hfr ▸ hF
    have hN1 : netR (S1.1 (h + 1)) σ := hfr ▸ hN
    refine X_iload_n (i := 3) hB dX12_upOf_4 rfl rfl ?_
    refine X_aload_n (i := 0) hB dX12_upOf_5 rfl rfl ?_
    refine X_getr hB cw10 fX12_7 rfl hR.1.1 hR.1.2 hF1.1 dX12_upOf_6 ?_
    refine X_iconst (v := 0) hB dX12_upOf_9 (by decide) ?_
    refine X_ialdN hB (0) hR.2.1.1 hR.2.1.2 (by decide) (by first | rfl | (simp (disch := omega) only [nlit, nI_add, nI_mul, nI_sub]; done) | (simp (disch := omega) only [nlit, nI_add, nI_mul, nI_sub]; (congr 1 <;> omega))) (by first | omega | (simp only []; omega)) (hN1.1.1 0 (by decide)) dX12_upOf_10 ?_
    refine X_icmp_ge (tgt := 39) hB dX12_upOf_11 (by decide) (fun c11 => absurd c11 (by simp (disch := omega) only [nlit, nI_leI, nI_ltI]; omega)) (fun c11 => ?_)
    refine X_iload_n (i := 2) hB dX12_upOf_14 rfl rfl ?_
    refine X_aload_n (i := 0) hB dX12_upOf_15 rfl rfl ?_
    refine X_iload_n (i := 1) hB dX12_upOf_16 rfl rfl ?_
    refine X_iload_n (i := 3) hB dX12_upOf_17 rfl rfl ?_
    refine X_callV hB kX12_310 cw10 hR.1.1 hR.1.2 (c_isNear hR hF1 σ hN1 hx (by omega)) (by decide) (by decide) rfl rfl (Nat.le_of_ble_eq_true rfl) dX12_upOf_18 (fun r18 S18 q18 => ?_)
    obtain ⟨rfl, rfl⟩ := q18
    refine X_if_eq (tgt := 30) hB dX12_upOf_21 (by decide) (fun c21 => ?_) (fun c21 => ?_)
    · have e21 : (fun t => decide (t ≠ x ∧ nUp σ x t = true)) t = false := decide_eq_false (if1n c21)
      refine X_iconst (v := 0) hB dX12_upOf_30 (by decide) ?_
      refine X_ior hB dX12_upOf_31 ?_
      refine X_topi (y := nI (bts (fun t => decide (t ≠ x ∧ nUp σ x t = true)) (t + 1))) (by first | exact bts_st (by omega) e21 | exact bts_no e21) ?_
      refine X_istore_n (i := 2) hB dX12_upOf_32 rfl (by decide) rfl ?_
      refine X_iinc hB dX12_upOf_33 rfl rfl (by decide) rfl ?_
      refine X_goto (tgt := 4) hB dX12_upOf_36 (by decide) ?_
      refine X_lv ?_ (ih (t + 1) _ (by omega) hfr)
      · rw [nI_succ]; rfl
    · have e21 : (fun t => decide (t ≠ x ∧ nUp σ x t = true)) t = true := decide_eq_true (if1 c21)
      refine X_iconst (v := 1) hB dX12_upOf_24 (by decide) ?_
      refine X_iload_n (i := 3) hB dX12_upOf_25 rfl rfl ?_
      refine X_ishl hB dX12_upOf_26 ?_
      refine X_goto (tgt := 31) hB dX12_upOf_27 (by decide) ?_
      refine X_ior hB dX12_upOf_31 ?_
      refine X_topi (y := nI (bts (fun t => decide (t ≠ x ∧ nUp σ x t = true)) (t + 1))) (by first | exact bts_st (by omega) e21 | exact bts_no e21) ?_
      refine X_istore_n (i := 2) hB dX12_upOf_32 rfl (by decide) rfl ?_
      refine X_iinc hB dX12_upOf_33 rfl rfl (by decide) rfl ?_
      refine X_goto (tgt := 4) hB dX12_upOf_36 (by decide) ?_
      refine X_lv ?_ (ih (t + 1) _ (by omega) hfr)
      · rw [nI_succ]; rfl
set_option maxRecDepth 100000 in
set_option maxHeartbeats 4000000 in
theorem c_upOf (hR : RLay G h) (hF : RRef S h) (σ : Net) (hN : netR (S.1 (h + 1)) σ) (hs : szN σ) (hc8 : nSe σ 0 ≤ 8) (x : Nat) (hx : x < 8)  : C G mX12_upOf 2 [.ref h, .int (nI x)] S (fun r S' => r = some (.int (nI (bts (fun t => decide (t ≠ x ∧ nUp σ x t = true)) (nSe σ 0)))) ∧ S = S') := by
  refine C.mk (lv := [some (.ref h), some (.int (nI x)), none, none]) (by decide) (Nat.le_of_ble_eq_true rfl) rfl (fun E hB => ?_)
  refine X_iconst (v := 0) hB dX12_upOf_0 (by decide) ?_
  refine X_istore_n (i := 2) hB dX12_upOf_1 rfl (by decide) rfl ?_
  refine X_iconst (v := 0) hB dX12_upOf_2 (by decide) ?_
  refine X_istore_n (i := 3) hB dX12_upOf_3 rfl (by decide) rfl ?_
  refine X_lv ?_ (l_upOf hR hF hB σ hN hs hc8 x hx (fun S1 q => ⟨rfl, q⟩) (nSe σ 0) 0 S (by omega) rfl)
  rw [nI_0]; rfl
theorem ndR_w {A : Nat → Int32} {n k : Nat} {σ : Net} (hx : ndR A n (nNd σ n)) (hk : k < 7) : A (89 + 86 * n + k) = ndW σ n k := by
  obtain ⟨g0, g1, g2, g3, g4, g5, g6, g⟩ := hx
  match k, hk with
  | 0, _ => exact g0
  | 1, _ => exact g1
  | 2, _ => exact g2.1
  | 3, _ => exact g3
  | 4, _ => exact g4
  | 5, _ => exact g5
  | 6, _ => exact g6
set_option maxRecDepth 100000 in
set_option maxHeartbeats 4000000 in
theorem c_node (hR : RLay G h) (hF : RRef S h) (σ : Net) (b : Nat) (hw : wfN σ b) (hN : netR (S.1 (h + 1)) σ) (v w : Int32) : C G mX12_node 6 [.ref h, .int v, .int w] S (fun r S' => r = some (.int (aNode σ v w)) ∧ fr h [h + 8, h + 9, h + 10] [0, 22] S S') := by
  have hs := hw.sz
  have hc8 := hw.1.1.2
  have ha40 := hs.1
  have hd40 := hs.2.1
  refine C.mk (lv := [some (.ref h), some (.int v), some (.int w)]) (by decide) (Nat.le_of_ble_eq_true rfl) rfl (fun E hB => ?_)
  refine X_aload_n (i := 0) hB dX12_node_0 rfl rfl ?_
  refine X_iconst (v := 0) hB dX12_node_1 (by decide) ?_
  refine X_puti hB cw10 fX12_51 rfl rfl hR.1.1 hR.1.2 dX12_node_2 ?_
  generalize hS0 : setI S h 0 0 = S0
  have fz : fr h [] [0] S S0 := hS0 ▸ fr.fld (by simp)
  have hF := fz.ref hF
  have hN : netR (S0.1 (h + 1)) σ := by rw [fz.2.1 (h + 1) (by simp) (by omega)]; exact hN
  clear hS0
  refine X_aload_n (i := 0) hB dX12_node_5 rfl rfl ?_
  refine X_iload_n (i := 1) hB dX12_node_6 rfl rfl ?_
  refine X_callV hB kX12_59 cw10 hR.1.1 hR.1.2 (c_isNode hR hF σ hN (by omega) v) (by decide) (by decide) rfl rfl (Nat.le_of_ble_eq_true rfl) dX12_node_7 (fun r7 S7 q7 => ?_)
  obtain ⟨rfl, rfl⟩ := q7
  refine X_if_eq (tgt := 23) hB dX12_node_10 (by decide) (fun c10 => ?_) (fun c10 => ?_)
  · first
      | (have e10 := if0 c10
         have fz := fz.mono (r2 := [h + 8, h + 9, h + 10]) (f2 := [0, 22]) (by simp) (by simp)
         refine X_bipush (v := (-2)) hB dX12_node_23 (by decide) ?_
         refine X_iret hB rfl dX12_node_25 ?_
         refine ⟨?_, fz⟩
         simp only [aNode, nth, e10])
      | (have e20 := if0 c20
         have fz := fz.mono (r2 := [h + 8, h + 9, h + 10]) (f2 := [0, 22]) (by simp) (by simp)
         refine X_bipush (v := (-2)) hB dX12_node_23 (by decide) ?_
         refine X_iret hB rfl dX12_node_25 ?_
         refine ⟨?_, fz⟩
         simp only [aNode, nth, e10, e20])
  · obtain ⟨x, e10⟩ := opt_ex (if0n c10)
    obtain ⟨l10, rfl⟩ := inN_some e10
    have hx := hN.2.1 x (by omega)
    have hsx := hs.2.2.1 x (by omega)
    refine X_iload_n (i := 2) hB dX12_node_13 rfl rfl ?_
    refine X_iconst (v := 0) hB dX12_node_14 (by decide) ?_
    refine X_bipush (v := 9) hB dX12_node_15 (by decide) ?_
    refine X_callS hB kX12_55 (c_in _ _ _) (by decide) (by decide) rfl rfl (Nat.le_of_ble_eq_true rfl) dX12_node_17 (fun r17 S17 q17 => ?_)
    obtain ⟨rfl, rfl⟩ := q17
    refine X_topi (y := if inN w 10 = none then 0 else 1) (in_if (c := 10) (by omega)) ?_
    refine X_if_ne (tgt := 26) hB dX12_node_20 (by decide) (fun c20 => ?_) (fun c20 => ?_)
    · obtain ⟨k, e20⟩ := opt_ex (if0n c20)
      obtain ⟨l20, rfl⟩ := inN_some e20
      refine X_iload_n (i := 2) hB dX12_node_26 rfl rfl ?_
      refine X_bipush (v := 7) hB dX12_node_27 (by decide) ?_
      refine X_icmp_ne (tgt := 40) hB dX12_node_29 (by decide) (fun c29 => ?_) (fun c29 => ?_)
      · refine X_iload_n (i := 2) hB dX12_node_40 rfl rfl ?_
        refine X_bipush (v := 8) hB dX12_node_41 (by decide) ?_
        refine X_icmp_ne (tgt := 54) hB dX12_node_43 (by decide) (fun c43 => ?_) (fun c43 => ?_)
        · refine X_iload_n (i := 2) hB dX12_node_54 rfl rfl ?_
          refine X_bipush (v := 9) hB dX12_node_55 (by decide) ?_
          refine X_icmp_ne (tgt := 68) hB dX12_node_57 (by decide) (fun c57 => ?_) (fun c57 => ?_)
          · refine X_aload_n (i := 0) hB dX12_node_68 rfl rfl ?_
            refine X_iload_n (i := 1) hB dX12_node_69 rfl rfl ?_
            refine X_iload_n (i := 2) hB dX12_node_70 rfl rfl ?_
            refine X_callV hB kX12_180 cw10 hR.1.1 hR.1.2 (c_ofE (n := x) (w := k) hR hF rfl rfl (by omega) (by omega)) (by decide) (by decide) rfl rfl (Nat.le_of_ble_eq_true rfl) dX12_node_71 (fun r71 S71 q71 => ?_)
            obtain ⟨rfl, rfl⟩ := q71
            refine X_topi (y := ndW σ x k) (ndR_w hx (by have : ¬ k = 7 := fun q => c29 (by rw [q]; rfl); have : ¬ k = 8 := fun q => c43 (by rw [q]; rfl); have : ¬ k = 9 := fun q => c57 (by rw [q]; rfl); omega)) ?_
            refine X_iret hB rfl dX12_node_74 ?_
            first
              | (refine ⟨?_, (fz.mono (by simp) (by simp)).tr (f48.mono (by simp) (by simp))⟩
                 simp only [aNode, e10, e20]; rfl)
              | (refine ⟨?_, fz.mono (by simp) (by simp)⟩
                 simp only [aNode, e10, e20]; try rfl)
          · have e57 : k = 9 := (nI_eq (b := 9) (by omega) (by omega)).mp c57
            subst e57
            refine X_aload_n (i := 0) hB dX12_node_60 rfl rfl ?_
            refine X_iload_n (i := 1) hB dX12_node_61 rfl rfl ?_
            refine X_callV hB kX12_391 cw10 hR.1.1 hR.1.2 (c_upOf hR hF σ hN hs hc8 x (by omega)) (by decide) (by decide) rfl rfl (Nat.le_of_ble_eq_true rfl) dX12_node_62 (fun r62 S62 q62 => ?_)
            obtain ⟨rfl, rfl⟩ := q62
            refine X_goto (tgt := 74) hB dX12_node_65 (by decide) ?_
            refine X_iret hB rfl dX12_node_74 ?_
            first
              | (refine ⟨?_, (fz.mono (by simp) (by simp)).tr (f48.mono (by simp) (by simp))⟩
                 simp only [aNode, e10, e20]; rfl)
              | (refine ⟨?_, fz.mono (by simp) (by simp)⟩
                 simp only [aNode, e10, e20]; try rfl)
        · have e43 : k = 8 := (nI_eq (b := 8) (by omega) (by omega)).mp c43
          subst e43
          refine X_aload_n (i := 0) hB dX12_node_46 rfl rfl ?_
          refine X_iload_n (i := 1) hB dX12_node_47 rfl rfl ?_
          refine X_callV hB kX12_388 cw10 hR.1.1 hR.1.2 (c_waysOf hR hF σ hN hs hc8 x (by omega) (by have := hw.1.2.1.2; omega)) (by decide) (by decide) rfl rfl (Nat.le_of_ble_eq_true rfl) dX12_node_48 (fun r48 S48 q48 => ?_)
          obtain ⟨rfl, f48⟩ := q48
          refine X_goto (tgt := 74) hB dX12_node_51 (by decide) ?_
          refine X_iret hB rfl dX12_node_74 ?_
          first
            | (refine ⟨?_, (fz.mono (by simp) (by simp)).tr (f48.mono (by simp) (by simp))⟩
               simp only [aNode, e10, e20]; rfl)
            | (refine ⟨?_, fz.mono (by simp) (by simp)⟩
               simp only [aNode, e10, e20]; try rfl)
      · have e29 : k = 7 := (nI_eq (b := 7) (by omega) (by omega)).mp c29
        subst e29
        refine X_aload_n (i := 0) hB dX12_node_32 rfl rfl ?_
        refine X_iload_n (i := 1) hB dX12_node_33 rfl rfl ?_
        refine X_callV hB kX12_385 cw10 hR.1.1 hR.1.2 (c_asksFor hR hF σ hN hs hc8 x (by omega) (fun t s q => by have := ((hw.2.2.1 x (by omega)).2.2.2.2.2.2.2.2 t s q).1; have := hw.2.2.2.2.2.2.2.2.1; omega)) (by decide) (by decide) rfl rfl (Nat.le_of_ble_eq_true rfl) dX12_node_34 (fun r34 S34 q34 => ?_)
        obtain ⟨rfl, rfl⟩ := q34
        refine X_goto (tgt := 74) hB dX12_node_37 (by decide) ?_
        refine X_iret hB rfl dX12_node_74 ?_
        first
          | (refine ⟨?_, (fz.mono (by simp) (by simp)).tr (f48.mono (by simp) (by simp))⟩
             simp only [aNode, e10, e20]; rfl)
          | (refine ⟨?_, fz.mono (by simp) (by simp)⟩
             simp only [aNode, e10, e20]; try rfl)
    · first
        | (have e10 := if0 c10
           have fz := fz.mono (r2 := [h + 8, h + 9, h + 10]) (f2 := [0, 22]) (by simp) (by simp)
           refine X_bipush (v := (-2)) hB dX12_node_23 (by decide) ?_
           refine X_iret hB rfl dX12_node_25 ?_
           refine ⟨?_, fz⟩
           simp only [aNode, nth, e10])
        | (have e20 := if0 c20
           have fz := fz.mono (r2 := [h + 8, h + 9, h + 10]) (f2 := [0, 22]) (by simp) (by simp)
           refine X_bipush (v := (-2)) hB dX12_node_23 (by decide) ?_
           refine X_iret hB rfl dX12_node_25 ?_
           refine ⟨?_, fz⟩
           simp only [aNode, nth, e10, e20])
set_option maxRecDepth 100000 in
set_option maxHeartbeats 4000000 in
theorem c_kept (hR : RLay G h) (hF : RRef S h) (σ : Net) (b : Nat) (hw : wfN σ b) (hN : netR (S.1 (h + 1)) σ) (v w i : Int32) : C G mX12_kept 3 [.ref h, .int v, .int w, .int i] S (fun r S' => r = some (.int (aKept σ v w i)) ∧ fr h [] [0] S S') := by
  have hs := hw.sz
  have hc8 := hw.1.1.2
  have ha40 := hs.1
  have hd40 := hs.2.1
  refine C.mk (lv := [some (.ref h), some (.int v), some (.int w), some (.int i)]) (by decide) (Nat.le_of_ble_eq_true rfl) rfl (fun E hB => ?_)
  refine X_aload_n (i := 0) hB dX12_kept_0 rfl rfl ?_
  refine X_iconst (v := 0) hB dX12_kept_1 (by decide) ?_
  refine X_puti hB cw10 fX12_51 rfl rfl hR.1.1 hR.1.2 dX12_kept_2 ?_
  generalize hS0 : setI S h 0 0 = S0
  have fz : fr h [] [0] S S0 := hS0 ▸ fr.fld (by simp)
  have hF := fz.ref hF
  have hN : netR (S0.1 (h + 1)) σ := by rw [fz.2.1 (h + 1) (by simp) (by omega)]; exact hN
  clear hS0
  refine X_aload_n (i := 0) hB dX12_kept_5 rfl rfl ?_
  refine X_iload_n (i := 1) hB dX12_kept_6 rfl rfl ?_
  refine X_callV hB kX12_59 cw10 hR.1.1 hR.1.2 (c_isNode hR hF σ hN (by omega) v) (by decide) (by decide) rfl rfl (Nat.le_of_ble_eq_true rfl) dX12_kept_7 (fun r7 S7 q7 => ?_)
  obtain ⟨rfl, rfl⟩ := q7
  refine X_if_eq (tgt := 29) hB dX12_kept_10 (by decide) (fun c10 => ?_) (fun c10 => ?_)
  · first
      | (have e10 := if0 c10
         refine X_iconst (v := (-1)) hB dX12_kept_29 (by decide) ?_
         refine X_iret hB rfl dX12_kept_30 ?_
         refine ⟨?_, fz⟩
         simp only [aKept, nth, e10])
      | (have e26 := if0 c26
         refine X_iconst (v := (-1)) hB dX12_kept_29 (by decide) ?_
         refine X_iret hB rfl dX12_kept_30 ?_
         refine ⟨?_, fz⟩
         simp only [aKept, nth, e10, e26])
  · obtain ⟨x, e10⟩ := opt_ex (if0n c10)
    obtain ⟨l10, rfl⟩ := inN_some e10
    have hx := hN.2.1 x (by omega)
    have hsx := hs.2.2.1 x (by omega)
    have hw54 := hsx.1.w
    have hcl := hsx.1.2.1
    have hrm := hsx.1.2.2.2.1
    have hc18 : (dCa (nNd σ x)).length ≤ 18 := by split at hcl <;> omega
    refine X_iload_n (i := 2) hB dX12_kept_13 rfl rfl ?_
    refine X_iconst (v := 0) hB dX12_kept_14 (by decide) ?_
    refine X_aload_n (i := 0) hB dX12_kept_15 rfl rfl ?_
    refine X_iload_n (i := 1) hB dX12_kept_16 rfl rfl ?_
    refine X_iconst (v := 2) hB dX12_kept_17 (by decide) ?_
    refine X_callV hB kX12_180 cw10 hR.1.1 hR.1.2 (c_ofE (w := 2) hR (by exact hF.of rfl) rfl (by first | rfl | (simp (disch := omega) only [nlit, nI_add, nI_mul, nI_sub]; done) | (simp (disch := omega) only [nlit, nI_add, nI_mul, nI_sub]; (congr 1 <;> omega))) (by omega) (by omega)) (by decide) (by decide) rfl rfl (Nat.le_of_ble_eq_true rfl) dX12_kept_18 (fun r18 S18 q18 => ?_)
    obtain ⟨rfl, rfl⟩ := q18
    refine X_topi (y := nI (dCa (nNd σ x)).length) (hx.2.2.1.1) ?_
    refine X_iconst (v := 1) hB dX12_kept_21 (by decide) ?_
    refine X_isub hB dX12_kept_22 ?_
    refine X_callS hB kX12_55 (c_in _ _ _) (by decide) (by decide) rfl rfl (Nat.le_of_ble_eq_true rfl) dX12_kept_23 (fun r23 S23 q23 => ?_)
    obtain ⟨rfl, rfl⟩ := q23
    refine X_topi (y := if inN w ((dCa (nNd σ x)).length) = none then 0 else 1) (in_if (by omega)) ?_
    refine X_if_ne (tgt := 31) hB dX12_kept_26 (by decide) (fun c26 => ?_) (fun c26 => ?_)
    · obtain ⟨k, e26⟩ := opt_ex (if0n c26)
      obtain ⟨l26, rfl⟩ := inN_some e26
      refine X_aload_n (i := 0) hB dX12_kept_31 rfl rfl ?_
      refine X_iload_n (i := 1) hB dX12_kept_32 rfl rfl ?_
      refine X_iconst (v := 0) hB dX12_kept_33 (by decide) ?_
      refine X_callV hB kX12_180 cw10 hR.1.1 hR.1.2 (c_ofE (w := 0) hR (by exact hF.of rfl) rfl (by first | rfl | (simp (disch := omega) only [nlit, nI_add, nI_mul, nI_sub]; done) | (simp (disch := omega) only [nlit, nI_add, nI_mul, nI_sub]; (congr 1 <;> omega))) (by omega) (by omega)) (by decide) (by decide) rfl rfl (Nat.le_of_ble_eq_true rfl) dX12_kept_34 (fun r34 S34 q34 => ?_)
      obtain ⟨rfl, rfl⟩ := q34
      refine X_topi (y := if dMap (nNd σ x) then 1 else 0) (hx.1) ?_
      refine X_iconst (v := 1) hB dX12_kept_37 (by decide) ?_
      refine X_icmp_ne (tgt := 68) hB dX12_kept_38 (by decide) (fun c38 => ?_) (fun c38 => ?_)
      · have hm : dMap (nNd σ x) = false := by
          cases hq : dMap (nNd σ x) with
          | false => rfl
          | true => rw [hq] at c38; exact absurd rfl c38
        rw [hm] at hcl hw54
        have hpt := (hm ▸ hx.2.2.1 : cacheR (S0.1 (h + 1)) x false (dCa (nNd σ x))).2 k l26
        unfold entR at hpt
        simp only [Bool.false_eq_true, if_false] at hpt hcl
        have hk6 : k < 6 := by omega
        have hl8 := hsx.1.len ((dCa (nNd σ x)).getD k []) (getD_mem l26)
        refine X_iload_n (i := 3) hB dX12_kept_68 rfl rfl ?_
        refine X_iconst (v := 0) hB dX12_kept_69 (by decide) ?_
        refine X_aload_n (i := 0) hB dX12_kept_70 rfl rfl ?_
        refine X_iload_n (i := 1) hB dX12_kept_71 rfl rfl ?_
        refine X_iload_n (i := 2) hB dX12_kept_72 rfl rfl ?_
        refine X_callV hB kX12_183 cw10 hR.1.1 hR.1.2 (c_pathMany hR hF (by omega) (by omega)) (by decide) (by decide) rfl rfl (Nat.le_of_ble_eq_true rfl) dX12_kept_73 (fun r73 S73 q73 => ?_)
        obtain ⟨rfl, rfl⟩ := q73
        refine X_topi (y := nI ((dCa (nNd σ x)).getD k []).length) (hpt.1) ?_
        refine X_iconst (v := 1) hB dX12_kept_76 (by decide) ?_
        refine X_isub hB dX12_kept_77 ?_
        refine X_callS hB kX12_55 (c_in _ _ _) (by decide) (by decide) rfl rfl (Nat.le_of_ble_eq_true rfl) dX12_kept_78 (fun r78 S78 q78 => ?_)
        obtain ⟨rfl, rfl⟩ := q78
        refine X_topi (y := if inN i (((dCa (nNd σ x)).getD k []).length) = none then 0 else 1) (in_if (by omega)) ?_
        refine X_if_eq (tgt := 94) hB dX12_kept_81 (by decide) (fun c81 => ?_) (fun c81 => ?_)
        · first
            | (have e81 := if0 c81
               refine X_iconst (v := (-1)) hB dX12_kept_94 (by decide) ?_
               refine X_iret hB rfl dX12_kept_95 ?_
               refine ⟨?_, fz⟩
               simp only [aKept, nth, e10, e26, e81])
        · obtain ⟨j, e81⟩ := opt_ex (if0n c81)
          obtain ⟨l81, rfl⟩ := inN_some e81
          refine X_aload_n (i := 0) hB dX12_kept_84 rfl rfl ?_
          refine X_iload_n (i := 1) hB dX12_kept_85 rfl rfl ?_
          refine X_iload_n (i := 2) hB dX12_kept_86 rfl rfl ?_
          refine X_iload_n (i := 3) hB dX12_kept_87 rfl rfl ?_
          refine X_callV hB kX12_189 cw10 hR.1.1 hR.1.2 (c_pathAt (i := j) hR hF (by omega) (by omega) (by omega)) (by decide) (by decide) rfl rfl (Nat.le_of_ble_eq_true rfl) dX12_kept_88 (fun r88 S88 q88 => ?_)
          obtain ⟨rfl, rfl⟩ := q88
          refine X_topi (y := nI (((dCa (nNd σ x)).getD k []).getD j 0)) (hpt.2 j (by omega)) ?_
          refine X_goto (tgt := 95) hB dX12_kept_91 (by decide) ?_
          refine X_iret hB rfl dX12_kept_95 ?_
          first
            | (refine ⟨?_, fz⟩
               simp only [aKept, nth, e10, e26, e47])
            | (refine ⟨?_, fz⟩
               simp only [aKept, nth, e10, e26, e81])
      · have hm : dMap (nNd σ x) = true := by
          cases hq : dMap (nNd σ x) with
          | true => rfl
          | false => rw [hq] at c38; exact absurd c38 (by decide)
        rw [hm] at hcl hw54
        have hlk := cacheR.link (hm ▸ hx.2.2.1) l26
        simp only [if_true] at hcl
        have hk18 : k < 18 := by omega
        have hl2 := hlk.1
        refine X_iload_n (i := 3) hB dX12_kept_41 rfl rfl ?_
        refine X_iconst (v := 0) hB dX12_kept_42 (by decide) ?_
        refine X_iconst (v := 1) hB dX12_kept_43 (by decide) ?_
        refine X_callS hB kX12_55 (c_in _ _ _) (by decide) (by decide) rfl rfl (Nat.le_of_ble_eq_true rfl) dX12_kept_44 (fun r44 S44 q44 => ?_)
        obtain ⟨rfl, rfl⟩ := q44
        refine X_topi (y := if inN i ((dCa (nNd σ x)).getD k []).length = none then 0 else 1) (by rw [hlk.1]; exact in_if (c := 2) (by omega)) ?_
        refine X_if_eq (tgt := 66) hB dX12_kept_47 (by decide) (fun c47 => ?_) (fun c47 => ?_)
        · first
            | (have e47 := if0 c47
               refine X_iconst (v := (-1)) hB dX12_kept_66 (by decide) ?_
               refine X_iret hB rfl dX12_kept_67 ?_
               refine ⟨?_, fz⟩
               simp only [aKept, nth, e10, e26, e47])
        · obtain ⟨j, e47⟩ := opt_ex (if0n c47)
          obtain ⟨l47, rfl⟩ := inN_some e47
          rw [hl2] at l47
          refine X_aload_n (i := 0) hB dX12_kept_50 rfl rfl ?_
          refine X_iload_n (i := 1) hB dX12_kept_51 rfl rfl ?_
          refine X_bipush (v := 15) hB dX12_kept_52 (by decide) ?_
          refine X_iconst (v := 2) hB dX12_kept_54 (by decide) ?_
          refine X_iload_n (i := 2) hB dX12_kept_55 rfl rfl ?_
          refine X_imul hB dX12_kept_56 ?_
          refine X_iadd hB dX12_kept_57 ?_
          refine X_iload_n (i := 3) hB dX12_kept_58 rfl rfl ?_
          refine X_iadd hB dX12_kept_59 ?_
          refine X_callV hB kX12_180 cw10 hR.1.1 hR.1.2 (c_ofE (w := 15 + 2 * k + j) hR (by exact hF.of rfl) rfl (by first | rfl | (simp (disch := omega) only [nlit, nI_add, nI_mul, nI_sub]; done) | (simp (disch := omega) only [nlit, nI_add, nI_mul, nI_sub]; (congr 1 <;> omega))) (by omega) (by omega)) (by decide) (by decide) rfl rfl (Nat.le_of_ble_eq_true rfl) dX12_kept_60 (fun r60 S60 q60 => ?_)
          obtain ⟨rfl, rfl⟩ := q60
          refine X_topi (y := nI (((dCa (nNd σ x)).getD k []).getD j 0)) (by rcases (show j = 0 ∨ j = 1 by omega) with rfl | rfl; (rw [show 89 + 86 * x + (15 + 2 * k + 0) = 89 + 86 * x + 15 + 2 * k by omega]; exact hlk.2.1); (rw [show 89 + 86 * x + (15 + 2 * k + 1) = 89 + 86 * x + 15 + 2 * k + 1 by omega]; exact hlk.2.2)) ?_
          refine X_goto (tgt := 67) hB dX12_kept_63 (by decide) ?_
          refine X_iret hB rfl dX12_kept_67 ?_
          first
            | (refine ⟨?_, fz⟩
               simp only [aKept, nth, e10, e26, e47])
            | (refine ⟨?_, fz⟩
               simp only [aKept, nth, e10, e26, e81])
    · first
        | (have e10 := if0 c10
           refine X_iconst (v := (-1)) hB dX12_kept_29 (by decide) ?_
           refine X_iret hB rfl dX12_kept_30 ?_
           refine ⟨?_, fz⟩
           simp only [aKept, nth, e10])
        | (have e26 := if0 c26
           refine X_iconst (v := (-1)) hB dX12_kept_29 (by decide) ?_
           refine X_iret hB rfl dX12_kept_30 ?_
           refine ⟨?_, fz⟩
           simp only [aKept, nth, e10, e26])
end REF
