theorem if0 {P : Prop} [Decidable P] (h : (if P then (0 : Int32) else 1) = 0) : P := by
  by_cases e : P
  · exact e
  · rw [if_neg e] at h; exact absurd h (by decide)
theorem if0n {P : Prop} [Decidable P] (h : ¬ (if P then (0 : Int32) else 1) = 0) : ¬ P := fun e => h (if_pos e)
theorem if1 {P : Prop} [Decidable P] (h : ¬ (if P then (1 : Int32) else 0) = 0) : P := by
  by_cases e : P
  · exact e
  · exact absurd (if_neg e) h
theorem if1n {P : Prop} [Decidable P] (h : (if P then (1 : Int32) else 0) = 0) : ¬ P := fun e => by rw [if_pos e] at h; exact absurd h (by decide)
theorem inN_0 (v : Int32) : inN v 0 = none := by unfold inN; rw [if_neg]; omega
theorem daR_w {A : Nat → Int32} {d k : Nat} {x : Da} (hx : daR A d x) (hk : k < 9) : A (1417 + 26 * d + k) = daW x k := by
  obtain ⟨g0, g1, g2, g3, g4, g5, g6, g7, g8, g⟩ := hx
  match k, hk with
  | 0, _ => exact g0
  | 1, _ => exact g1
  | 2, _ => exact g2
  | 3, _ => exact g3
  | 4, _ => exact g4
  | 5, _ => exact g5
  | 6, _ => exact g6
  | 7, _ => exact g7
  | 8, _ => exact g8
section REF
variable {G : Gc} {S : St} {h : Nat}
set_option maxRecDepth 100000 in
set_option maxHeartbeats 4000000 in
theorem c_isNode (hR : RLay G h) (hF : RRef S h) (σ : Net) (hN : netR (S.1 (h + 1)) σ) (hc8 : nSe σ 0 ≤ 8) (v : Int32) : C G mX12_isNode 1 [.ref h, .int v] S (fun r S' => r = some (.int (if inN v (nSe σ 0) = none then 0 else 1)) ∧ S = S') := by
  refine C.mk (lv := [some (.ref h), some (.int v)]) (by decide) (Nat.le_of_ble_eq_true rfl) rfl (fun E hB => ?_)
  refine X_iload_n (i := 1) hB dX12_isNode_0 rfl rfl ?_
  refine X_iconst (v := 0) hB dX12_isNode_1 (by decide) ?_
  refine X_aload_n (i := 0) hB dX12_isNode_2 rfl rfl ?_
  refine X_getr hB cw10 fX12_7 rfl hR.1.1 hR.1.2 hF.1 dX12_isNode_3 ?_
  refine X_iconst (v := 0) hB dX12_isNode_6 (by decide) ?_
  refine X_ialdN hB (0) hR.2.1.1 hR.2.1.2 (by decide) (by first | rfl | (simp (disch := omega) only [nlit, nI_add, nI_mul, nI_sub]; done) | (simp (disch := omega) only [nlit, nI_add, nI_mul, nI_sub]; (congr 1 <;> omega))) (by first | omega | (simp only []; omega)) (hN.1.1 0 (by decide)) dX12_isNode_7 ?_
  refine X_iconst (v := 1) hB dX12_isNode_8 (by decide) ?_
  refine X_isub hB dX12_isNode_9 ?_
  refine X_callS hB kX12_55 (c_in _ _ _) (by decide) (by decide) rfl rfl (Nat.le_of_ble_eq_true rfl) dX12_isNode_10 (fun r10 S10 q10 => ?_)
  obtain ⟨rfl, rfl⟩ := q10
  refine X_topi (y := if inN v (nSe σ 0) = none then 0 else 1) (in_if (by omega)) ?_
  refine X_zret hB rfl (by split <;> first | exact Or.inl rfl | exact Or.inr rfl) dX12_isNode_13 ?_
  exact ⟨rfl, rfl⟩
set_option maxRecDepth 100000 in
set_option maxHeartbeats 4000000 in
theorem c_areTwo (hR : RLay G h) (hF : RRef S h) (σ : Net) (hN : netR (S.1 (h + 1)) σ) (hc8 : nSe σ 0 ≤ 8) (v w : Int32) : C G mX12_areTwo 2 [.ref h, .int v, .int w] S (fun r S' => r = some (.int (if two σ v w = none then 0 else 1)) ∧ S = S') := by
  refine C.mk (lv := [some (.ref h), some (.int v), some (.int w)]) (by decide) (Nat.le_of_ble_eq_true rfl) rfl (fun E hB => ?_)
  refine X_aload_n (i := 0) hB dX12_areTwo_0 rfl rfl ?_
  refine X_iload_n (i := 1) hB dX12_areTwo_1 rfl rfl ?_
  refine X_callV hB kX12_59 cw10 hR.1.1 hR.1.2 (c_isNode hR hF σ hN hc8 v) (by decide) (by decide) rfl rfl (Nat.le_of_ble_eq_true rfl) dX12_areTwo_2 (fun r2 S2 q2 => ?_)
  obtain ⟨rfl, rfl⟩ := q2
  refine X_if_eq (tgt := 25) hB dX12_areTwo_5 (by decide) (fun c5 => ?_) (fun c5 => ?_)
  · first
      | (have e5 := if0 c5
         refine X_iconst (v := 0) hB dX12_areTwo_25 (by decide) ?_
         refine X_zret hB rfl (by first | exact Or.inl rfl | exact Or.inr rfl) dX12_areTwo_26 ?_
         refine ⟨?_, rfl⟩
         rw [if_pos (by unfold two; rw [e5])])
      | (have e13 := if0 c13
         refine X_iconst (v := 0) hB dX12_areTwo_25 (by decide) ?_
         refine X_zret hB rfl (by first | exact Or.inl rfl | exact Or.inr rfl) dX12_areTwo_26 ?_
         refine ⟨?_, rfl⟩
         rw [if_pos (by unfold two; rw [e5, e13])])
      | (have e18 : x = y := (nI_eq (by omega) (by omega)).mp c18
         refine X_iconst (v := 0) hB dX12_areTwo_25 (by decide) ?_
         refine X_zret hB rfl (by first | exact Or.inl rfl | exact Or.inr rfl) dX12_areTwo_26 ?_
         refine ⟨?_, rfl⟩
         rw [if_pos (by unfold two; rw [e5, e13]; exact if_pos e18)])
  · obtain ⟨x, e5⟩ := opt_ex (if0n c5)
    obtain ⟨l5, rfl⟩ := inN_some e5
    refine X_aload_n (i := 0) hB dX12_areTwo_8 rfl rfl ?_
    refine X_iload_n (i := 2) hB dX12_areTwo_9 rfl rfl ?_
    refine X_callV hB kX12_59 cw10 hR.1.1 hR.1.2 (c_isNode hR hF σ hN hc8 w) (by decide) (by decide) rfl rfl (Nat.le_of_ble_eq_true rfl) dX12_areTwo_10 (fun r10 S10 q10 => ?_)
    obtain ⟨rfl, rfl⟩ := q10
    refine X_if_eq (tgt := 25) hB dX12_areTwo_13 (by decide) (fun c13 => ?_) (fun c13 => ?_)
    · first
        | (have e5 := if0 c5
           refine X_iconst (v := 0) hB dX12_areTwo_25 (by decide) ?_
           refine X_zret hB rfl (by first | exact Or.inl rfl | exact Or.inr rfl) dX12_areTwo_26 ?_
           refine ⟨?_, rfl⟩
           rw [if_pos (by unfold two; rw [e5])])
        | (have e13 := if0 c13
           refine X_iconst (v := 0) hB dX12_areTwo_25 (by decide) ?_
           refine X_zret hB rfl (by first | exact Or.inl rfl | exact Or.inr rfl) dX12_areTwo_26 ?_
           refine ⟨?_, rfl⟩
           rw [if_pos (by unfold two; rw [e5, e13])])
        | (have e18 : x = y := (nI_eq (by omega) (by omega)).mp c18
           refine X_iconst (v := 0) hB dX12_areTwo_25 (by decide) ?_
           refine X_zret hB rfl (by first | exact Or.inl rfl | exact Or.inr rfl) dX12_areTwo_26 ?_
           refine ⟨?_, rfl⟩
           rw [if_pos (by unfold two; rw [e5, e13]; exact if_pos e18)])
    · obtain ⟨y, e13⟩ := opt_ex (if0n c13)
      obtain ⟨l13, rfl⟩ := inN_some e13
      refine X_iload_n (i := 1) hB dX12_areTwo_16 rfl rfl ?_
      refine X_iload_n (i := 2) hB dX12_areTwo_17 rfl rfl ?_
      refine X_icmp_eq (tgt := 25) hB dX12_areTwo_18 (by decide) (fun c18 => ?_) (fun c18 => ?_)
      · first
          | (have e5 := if0 c5
             refine X_iconst (v := 0) hB dX12_areTwo_25 (by decide) ?_
             refine X_zret hB rfl (by first | exact Or.inl rfl | exact Or.inr rfl) dX12_areTwo_26 ?_
             refine ⟨?_, rfl⟩
             rw [if_pos (by unfold two; rw [e5])])
          | (have e13 := if0 c13
             refine X_iconst (v := 0) hB dX12_areTwo_25 (by decide) ?_
             refine X_zret hB rfl (by first | exact Or.inl rfl | exact Or.inr rfl) dX12_areTwo_26 ?_
             refine ⟨?_, rfl⟩
             rw [if_pos (by unfold two; rw [e5, e13])])
          | (have e18 : x = y := (nI_eq (by omega) (by omega)).mp c18
             refine X_iconst (v := 0) hB dX12_areTwo_25 (by decide) ?_
             refine X_zret hB rfl (by first | exact Or.inl rfl | exact Or.inr rfl) dX12_areTwo_26 ?_
             refine ⟨?_, rfl⟩
             rw [if_pos (by unfold two; rw [e5, e13]; exact if_pos e18)])
      · refine X_iconst (v := 1) hB dX12_areTwo_21 (by decide) ?_
        refine X_goto (tgt := 26) hB dX12_areTwo_22 (by decide) ?_
        refine X_zret hB rfl (by first | exact Or.inl rfl | exact Or.inr rfl) dX12_areTwo_26 ?_
        have e18 : ¬ x = y := fun q => c18 (by rw [q])
        refine ⟨?_, rfl⟩
        rw [if_neg (by unfold two; rw [e5, e13]; simp [e18])]
set_option maxRecDepth 100000 in
set_option maxHeartbeats 4000000 in
theorem c_hasP (hR : RLay G h) (hF : RRef S h) (σ : Net) (b : Nat) (hw : wfN σ b) (hN : netR (S.1 (h + 1)) σ) (w : Int32) : C G mX12_has_ 1 [.ref h, .int w] S (fun r S' => r = some (.int (aHas σ w)) ∧ fr h [] [0] S S') := by
  have hs := hw.sz
  have hc8 := hw.1.1.2
  have ha40 := hs.1
  have hd40 := hs.2.1
  refine C.mk (lv := [some (.ref h), some (.int w)]) (by decide) (Nat.le_of_ble_eq_true rfl) rfl (fun E hB => ?_)
  refine X_aload_n (i := 0) hB dX12_has__0 rfl rfl ?_
  refine X_iconst (v := 0) hB dX12_has__1 (by decide) ?_
  refine X_puti hB cw10 fX12_51 rfl rfl hR.1.1 hR.1.2 dX12_has__2 ?_
  generalize hS0 : setI S h 0 0 = S0
  have fz : fr h [] [0] S S0 := hS0 ▸ fr.fld (by simp)
  have hF := fz.ref hF
  have hN : netR (S0.1 (h + 1)) σ := by rw [fz.2.1 (h + 1) (by simp) (by omega)]; exact hN
  clear hS0
  refine X_iload_n (i := 1) hB dX12_has__5 rfl rfl ?_
  refine X_iconst (v := 0) hB dX12_has__6 (by decide) ?_
  refine X_bipush (v := 11) hB dX12_has__7 (by decide) ?_
  refine X_callS hB kX12_55 (c_in _ _ _) (by decide) (by decide) rfl rfl (Nat.le_of_ble_eq_true rfl) dX12_has__9 (fun r9 S9 q9 => ?_)
  obtain ⟨rfl, rfl⟩ := q9
  refine X_topi (y := if inN w 12 = none then 0 else 1) (in_if (c := 12) (by omega)) ?_
  refine X_if_eq (tgt := 24) hB dX12_has__12 (by decide) (fun c12 => ?_) (fun c12 => ?_)
  · have e12 := if0 c12
    refine X_iconst (v := (-1)) hB dX12_has__24 (by decide) ?_
    refine X_iret hB rfl dX12_has__25 ?_
    refine ⟨?_, fz⟩
    unfold aHas; rw [e12]
  · obtain ⟨k, e12⟩ := opt_ex (if0n c12)
    obtain ⟨l12, rfl⟩ := inN_some e12
    refine X_aload_n (i := 0) hB dX12_has__15 rfl rfl ?_
    refine X_getr hB cw10 fX12_7 rfl hR.1.1 hR.1.2 hF.1 dX12_has__16 ?_
    refine X_iload_n (i := 1) hB dX12_has__19 rfl rfl ?_
    refine X_ialdN hB (k) hR.2.1.1 hR.2.1.2 (by decide) (by first | rfl | (simp (disch := omega) only [nlit, nI_add, nI_mul, nI_sub]; done) | (simp (disch := omega) only [nlit, nI_add, nI_mul, nI_sub]; (congr 1 <;> omega))) (by first | omega | (simp only []; omega)) (show _ = aHas σ (nI k) by unfold aHas; rw [e12]; show _ = if k = 8 then _ else _; split; (next q => subst q; exact hN.1.2.1); split; (next q => subst q; exact hN.1.2.2.1); split; (next q => subst q; exact hN.1.2.2.2.1); exact hN.1.1 k (by omega)) dX12_has__20 ?_
    refine X_goto (tgt := 25) hB dX12_has__21 (by decide) ?_
    refine X_iret hB rfl dX12_has__25 ?_
    exact ⟨rfl, fz⟩
set_option maxRecDepth 100000 in
set_option maxHeartbeats 4000000 in
theorem c_tallyP (hR : RLay G h) (hF : RRef S h) (σ : Net) (b : Nat) (hw : wfN σ b) (hN : netR (S.1 (h + 1)) σ) (w : Int32) : C G mX12_tally_ 1 [.ref h, .int w] S (fun r S' => r = some (.int (aTally σ w)) ∧ fr h [] [0] S S') := by
  have hs := hw.sz
  have hc8 := hw.1.1.2
  have ha40 := hs.1
  have hd40 := hs.2.1
  refine C.mk (lv := [some (.ref h), some (.int w)]) (by decide) (Nat.le_of_ble_eq_true rfl) rfl (fun E hB => ?_)
  refine X_aload_n (i := 0) hB dX12_tally__0 rfl rfl ?_
  refine X_iconst (v := 0) hB dX12_tally__1 (by decide) ?_
  refine X_puti hB cw10 fX12_51 rfl rfl hR.1.1 hR.1.2 dX12_tally__2 ?_
  generalize hS0 : setI S h 0 0 = S0
  have fz : fr h [] [0] S S0 := hS0 ▸ fr.fld (by simp)
  have hF := fz.ref hF
  have hN : netR (S0.1 (h + 1)) σ := by rw [fz.2.1 (h + 1) (by simp) (by omega)]; exact hN
  clear hS0
  refine X_iload_n (i := 1) hB dX12_tally__5 rfl rfl ?_
  refine X_iconst (v := 0) hB dX12_tally__6 (by decide) ?_
  refine X_bipush (v := 10) hB dX12_tally__7 (by decide) ?_
  refine X_callS hB kX12_55 (c_in _ _ _) (by decide) (by decide) rfl rfl (Nat.le_of_ble_eq_true rfl) dX12_tally__9 (fun r9 S9 q9 => ?_)
  obtain ⟨rfl, rfl⟩ := q9
  refine X_topi (y := if inN w 11 = none then 0 else 1) (in_if (c := 11) (by omega)) ?_
  refine X_if_eq (tgt := 27) hB dX12_tally__12 (by decide) (fun c12 => ?_) (fun c12 => ?_)
  · have e12 := if0 c12
    refine X_iconst (v := (-1)) hB dX12_tally__27 (by decide) ?_
    refine X_iret hB rfl dX12_tally__28 ?_
    refine ⟨?_, fz⟩
    unfold aTally; rw [e12]
  · obtain ⟨k, e12⟩ := opt_ex (if0n c12)
    obtain ⟨l12, rfl⟩ := inN_some e12
    refine X_aload_n (i := 0) hB dX12_tally__15 rfl rfl ?_
    refine X_getr hB cw10 fX12_7 rfl hR.1.1 hR.1.2 hF.1 dX12_tally__16 ?_
    refine X_bipush (v := 14) hB dX12_tally__19 (by decide) ?_
    refine X_iload_n (i := 1) hB dX12_tally__21 rfl rfl ?_
    refine X_iadd hB dX12_tally__22 ?_
    refine X_ialdN hB (14 + k) hR.2.1.1 hR.2.1.2 (by decide) (by first | rfl | (simp (disch := omega) only [nlit, nI_add, nI_mul, nI_sub]; done) | (simp (disch := omega) only [nlit, nI_add, nI_mul, nI_sub]; (congr 1 <;> omega))) (by first | omega | (simp only []; omega)) (show _ = aTally σ (nI k) by unfold aTally; rw [e12]; exact hN.1.2.2.2.2.1 k (by omega)) dX12_tally__23 ?_
    refine X_goto (tgt := 28) hB dX12_tally__24 (by decide) ?_
    refine X_iret hB rfl dX12_tally__28 ?_
    exact ⟨rfl, fz⟩
set_option maxRecDepth 100000 in
set_option maxHeartbeats 4000000 in
theorem c_waits (hR : RLay G h) (hF : RRef S h) (σ : Net) (b : Nat) (hw : wfN σ b) (hN : netR (S.1 (h + 1)) σ) (v w : Int32) : C G mX12_waits 2 [.ref h, .int v, .int w] S (fun r S' => r = some (.int (aWaits σ v w)) ∧ fr h [] [0] S S') := by
  have hs := hw.sz
  have hc8 := hw.1.1.2
  have ha40 := hs.1
  have hd40 := hs.2.1
  refine C.mk (lv := [some (.ref h), some (.int v), some (.int w)]) (by decide) (Nat.le_of_ble_eq_true rfl) rfl (fun E hB => ?_)
  refine X_aload_n (i := 0) hB dX12_waits_0 rfl rfl ?_
  refine X_iconst (v := 0) hB dX12_waits_1 (by decide) ?_
  refine X_puti hB cw10 fX12_51 rfl rfl hR.1.1 hR.1.2 dX12_waits_2 ?_
  generalize hS0 : setI S h 0 0 = S0
  have fz : fr h [] [0] S S0 := hS0 ▸ fr.fld (by simp)
  have hF := fz.ref hF
  have hN : netR (S0.1 (h + 1)) σ := by rw [fz.2.1 (h + 1) (by simp) (by omega)]; exact hN
  clear hS0
  refine X_aload_n (i := 0) hB dX12_waits_5 rfl rfl ?_
  refine X_iload_n (i := 1) hB dX12_waits_6 rfl rfl ?_
  refine X_callV hB kX12_59 cw10 hR.1.1 hR.1.2 (c_isNode hR hF σ hN (by omega) v) (by decide) (by decide) rfl rfl (Nat.le_of_ble_eq_true rfl) dX12_waits_7 (fun r7 S7 q7 => ?_)
  obtain ⟨rfl, rfl⟩ := q7
  refine X_if_eq (tgt := 41) hB dX12_waits_10 (by decide) (fun c10 => ?_) (fun c10 => ?_)
  · first
      | (have e10 := if0 c10
         refine X_iconst (v := (-1)) hB dX12_waits_41 (by decide) ?_
         refine X_iret hB rfl dX12_waits_42 ?_
         refine ⟨?_, fz⟩
         simp only [aWaits, nth, e10])
      | (have e26 := if0 c26
         refine X_iconst (v := (-1)) hB dX12_waits_41 (by decide) ?_
         refine X_iret hB rfl dX12_waits_42 ?_
         refine ⟨?_, fz⟩
         simp only [aWaits, nth, e10, e26])
  · obtain ⟨x, e10⟩ := opt_ex (if0n c10)
    obtain ⟨l10, rfl⟩ := inN_some e10
    have hx := hN.2.1 x (by omega)
    have hsx := hs.2.2.1 x (by omega)
    refine X_iload_n (i := 2) hB dX12_waits_13 rfl rfl ?_
    refine X_iconst (v := 0) hB dX12_waits_14 (by decide) ?_
    refine X_aload_n (i := 0) hB dX12_waits_15 rfl rfl ?_
    refine X_iload_n (i := 1) hB dX12_waits_16 rfl rfl ?_
    refine X_iconst (v := 3) hB dX12_waits_17 (by decide) ?_
    refine X_callV hB kX12_180 cw10 hR.1.1 hR.1.2 (c_ofE (w := 3) hR (by exact hF.of rfl) rfl (by first | rfl | (simp (disch := omega) only [nlit, nI_add, nI_mul, nI_sub]; done) | (simp (disch := omega) only [nlit, nI_add, nI_mul, nI_sub]; (congr 1 <;> omega))) (by omega) (by omega)) (by decide) (by decide) rfl rfl (Nat.le_of_ble_eq_true rfl) dX12_waits_18 (fun r18 S18 q18 => ?_)
    obtain ⟨rfl, rfl⟩ := q18
    refine X_topi (y := nI (dBu (nNd σ x)).length) (hx.2.2.2.1) ?_
    refine X_iconst (v := 1) hB dX12_waits_21 (by decide) ?_
    refine X_isub hB dX12_waits_22 ?_
    refine X_callS hB kX12_55 (c_in _ _ _) (by decide) (by decide) rfl rfl (Nat.le_of_ble_eq_true rfl) dX12_waits_23 (fun r23 S23 q23 => ?_)
    obtain ⟨rfl, rfl⟩ := q23
    refine X_topi (y := if inN w ((dBu (nNd σ x)).length) = none then 0 else 1) (in_if (by omega)) ?_
    refine X_if_eq (tgt := 41) hB dX12_waits_26 (by decide) (fun c26 => ?_) (fun c26 => ?_)
    · first
        | (have e10 := if0 c10
           refine X_iconst (v := (-1)) hB dX12_waits_41 (by decide) ?_
           refine X_iret hB rfl dX12_waits_42 ?_
           refine ⟨?_, fz⟩
           simp only [aWaits, nth, e10])
        | (have e26 := if0 c26
           refine X_iconst (v := (-1)) hB dX12_waits_41 (by decide) ?_
           refine X_iret hB rfl dX12_waits_42 ?_
           refine ⟨?_, fz⟩
           simp only [aWaits, nth, e10, e26])
    · obtain ⟨k, e26⟩ := opt_ex (if0n c26)
      obtain ⟨l26, rfl⟩ := inN_some e26
      refine X_aload_n (i := 0) hB dX12_waits_29 rfl rfl ?_
      refine X_iload_n (i := 1) hB dX12_waits_30 rfl rfl ?_
      refine X_bipush (v := 81) hB dX12_waits_31 (by decide) ?_
      refine X_iload_n (i := 2) hB dX12_waits_33 rfl rfl ?_
      refine X_iadd hB dX12_waits_34 ?_
      refine X_callV hB kX12_180 cw10 hR.1.1 hR.1.2 (c_ofE (w := 81 + k) hR (by exact hF.of rfl) rfl (by first | rfl | (simp (disch := omega) only [nlit, nI_add, nI_mul, nI_sub]; done) | (simp (disch := omega) only [nlit, nI_add, nI_mul, nI_sub]; (congr 1 <;> omega))) (by omega) (by omega)) (by decide) (by decide) rfl rfl (Nat.le_of_ble_eq_true rfl) dX12_waits_35 (fun r35 S35 q35 => ?_)
      obtain ⟨rfl, rfl⟩ := q35
      refine X_topi (y := nI ((dBu (nNd σ x)).getD k 0)) (hx.2.2.2.2.2.2.2.2.2 k l26) ?_
      refine X_goto (tgt := 42) hB dX12_waits_38 (by decide) ?_
      refine X_iret hB rfl dX12_waits_42 ?_
      refine ⟨?_, fz⟩
      simp only [aWaits, nth, e10, e26]
set_option maxRecDepth 100000 in
set_option maxHeartbeats 4000000 in
theorem c_seen (hR : RLay G h) (hF : RRef S h) (σ : Net) (b : Nat) (hw : wfN σ b) (hN : netR (S.1 (h + 1)) σ) (v w : Int32) : C G mX12_seen 2 [.ref h, .int v, .int w] S (fun r S' => r = some (.int (aSeen σ v w)) ∧ fr h [] [0] S S') := by
  have hs := hw.sz
  have hc8 := hw.1.1.2
  have ha40 := hs.1
  have hd40 := hs.2.1
  refine C.mk (lv := [some (.ref h), some (.int v), some (.int w)]) (by decide) (Nat.le_of_ble_eq_true rfl) rfl (fun E hB => ?_)
  refine X_aload_n (i := 0) hB dX12_seen_0 rfl rfl ?_
  refine X_iconst (v := 0) hB dX12_seen_1 (by decide) ?_
  refine X_puti hB cw10 fX12_51 rfl rfl hR.1.1 hR.1.2 dX12_seen_2 ?_
  generalize hS0 : setI S h 0 0 = S0
  have fz : fr h [] [0] S S0 := hS0 ▸ fr.fld (by simp)
  have hF := fz.ref hF
  have hN : netR (S0.1 (h + 1)) σ := by rw [fz.2.1 (h + 1) (by simp) (by omega)]; exact hN
  clear hS0
  refine X_aload_n (i := 0) hB dX12_seen_5 rfl rfl ?_
  refine X_iload_n (i := 1) hB dX12_seen_6 rfl rfl ?_
  refine X_callV hB kX12_59 cw10 hR.1.1 hR.1.2 (c_isNode hR hF σ hN (by omega) v) (by decide) (by decide) rfl rfl (Nat.le_of_ble_eq_true rfl) dX12_seen_7 (fun r7 S7 q7 => ?_)
  obtain ⟨rfl, rfl⟩ := q7
  refine X_if_eq (tgt := 62) hB dX12_seen_10 (by decide) (fun c10 => ?_) (fun c10 => ?_)
  · first
      | (have e10 := if0 c10
         refine X_iconst (v := (-1)) hB dX12_seen_62 (by decide) ?_
         refine X_iret hB rfl dX12_seen_63 ?_
         refine ⟨?_, fz⟩
         simp only [aSeen, nth, e10])
      | (have e27 := if0 c27
         refine X_iconst (v := (-1)) hB dX12_seen_62 (by decide) ?_
         refine X_iret hB rfl dX12_seen_63 ?_
         refine ⟨?_, fz⟩
         simp only [aSeen, nth, e10, e27])
  · obtain ⟨x, e10⟩ := opt_ex (if0n c10)
    obtain ⟨l10, rfl⟩ := inN_some e10
    have hx := hN.2.1 x (by omega)
    have hsx := hs.2.2.1 x (by omega)
    refine X_iload_n (i := 2) hB dX12_seen_13 rfl rfl ?_
    refine X_iconst (v := 0) hB dX12_seen_14 (by decide) ?_
    refine X_aload_n (i := 0) hB dX12_seen_15 rfl rfl ?_
    refine X_iload_n (i := 1) hB dX12_seen_16 rfl rfl ?_
    refine X_bipush (v := 6) hB dX12_seen_17 (by decide) ?_
    refine X_callV hB kX12_180 cw10 hR.1.1 hR.1.2 (c_ofE (w := 6) hR (by exact hF.of rfl) rfl (by first | rfl | (simp (disch := omega) only [nlit, nI_add, nI_mul, nI_sub]; done) | (simp (disch := omega) only [nlit, nI_add, nI_mul, nI_sub]; (congr 1 <;> omega))) (by omega) (by omega)) (by decide) (by decide) rfl rfl (Nat.le_of_ble_eq_true rfl) dX12_seen_19 (fun r19 S19 q19 => ?_)
    obtain ⟨rfl, rfl⟩ := q19
    refine X_topi (y := nI (dTb (nNd σ x)).length) (hx.2.2.2.2.2.2.1) ?_
    refine X_iconst (v := 1) hB dX12_seen_22 (by decide) ?_
    refine X_isub hB dX12_seen_23 ?_
    refine X_callS hB kX12_55 (c_in _ _ _) (by decide) (by decide) rfl rfl (Nat.le_of_ble_eq_true rfl) dX12_seen_24 (fun r24 S24 q24 => ?_)
    obtain ⟨rfl, rfl⟩ := q24
    refine X_topi (y := if inN w ((dTb (nNd σ x)).length) = none then 0 else 1) (in_if (by omega)) ?_
    refine X_if_eq (tgt := 62) hB dX12_seen_27 (by decide) (fun c27 => ?_) (fun c27 => ?_)
    · first
        | (have e10 := if0 c10
           refine X_iconst (v := (-1)) hB dX12_seen_62 (by decide) ?_
           refine X_iret hB rfl dX12_seen_63 ?_
           refine ⟨?_, fz⟩
           simp only [aSeen, nth, e10])
        | (have e27 := if0 c27
           refine X_iconst (v := (-1)) hB dX12_seen_62 (by decide) ?_
           refine X_iret hB rfl dX12_seen_63 ?_
           refine ⟨?_, fz⟩
           simp only [aSeen, nth, e10, e27])
    · obtain ⟨k, e27⟩ := opt_ex (if0n c27)
      obtain ⟨l27, rfl⟩ := inN_some e27
      refine X_ldcw hB qX12_394 dX12_seen_30 ?_
      refine X_aload_n (i := 0) hB dX12_seen_33 rfl rfl ?_
      refine X_iload_n (i := 1) hB dX12_seen_34 rfl rfl ?_
      refine X_bipush (v := 69) hB dX12_seen_35 (by decide) ?_
      refine X_iconst (v := 2) hB dX12_seen_37 (by decide) ?_
      refine X_iload_n (i := 2) hB dX12_seen_38 rfl rfl ?_
      refine X_imul hB dX12_seen_39 ?_
      refine X_iadd hB dX12_seen_40 ?_
      refine X_callV hB kX12_180 cw10 hR.1.1 hR.1.2 (c_ofE (w := 69 + 2 * k) hR (by exact hF.of rfl) rfl (by first | rfl | (simp (disch := omega) only [nlit, nI_add, nI_mul, nI_sub]; done) | (simp (disch := omega) only [nlit, nI_add, nI_mul, nI_sub]; (congr 1 <;> omega))) (by omega) (by omega)) (by decide) (by decide) rfl rfl (Nat.le_of_ble_eq_true rfl) dX12_seen_41 (fun r41 S41 q41 => ?_)
      obtain ⟨rfl, rfl⟩ := q41
      refine X_topi (y := nI ((dTb (nNd σ x)).getD k (0, 0)).1) ((hx.2.2.2.2.2.2.2.2.1 k l27).1) ?_
      refine X_imul hB dX12_seen_44 ?_
      refine X_aload_n (i := 0) hB dX12_seen_45 rfl rfl ?_
      refine X_iload_n (i := 1) hB dX12_seen_46 rfl rfl ?_
      refine X_bipush (v := 69) hB dX12_seen_47 (by decide) ?_
      refine X_iconst (v := 2) hB dX12_seen_49 (by decide) ?_
      refine X_iload_n (i := 2) hB dX12_seen_50 rfl rfl ?_
      refine X_imul hB dX12_seen_51 ?_
      refine X_iadd hB dX12_seen_52 ?_
      refine X_iconst (v := 1) hB dX12_seen_53 (by decide) ?_
      refine X_iadd hB dX12_seen_54 ?_
      refine X_callV hB kX12_180 cw10 hR.1.1 hR.1.2 (c_ofE (w := 69 + 2 * k + 1) hR (by exact hF.of rfl) rfl (by first | rfl | (simp (disch := omega) only [nlit, nI_add, nI_mul, nI_sub]; done) | (simp (disch := omega) only [nlit, nI_add, nI_mul, nI_sub]; (congr 1 <;> omega))) (by omega) (by omega)) (by decide) (by decide) rfl rfl (Nat.le_of_ble_eq_true rfl) dX12_seen_55 (fun r55 S55 q55 => ?_)
      obtain ⟨rfl, rfl⟩ := q55
      refine X_topi (y := nI ((dTb (nNd σ x)).getD k (0, 0)).2) ((hx.2.2.2.2.2.2.2.2.1 k l27).2) ?_
      refine X_iadd hB dX12_seen_58 ?_
      refine X_goto (tgt := 63) hB dX12_seen_59 (by decide) ?_
      refine X_iret hB rfl dX12_seen_63 ?_
      refine ⟨?_, fz⟩
      simp only [aSeen, e10, e27]
      rw [show (100000 : Int32) = nI 100000 from rfl, nI_mul, nI_add]
set_option maxRecDepth 100000 in
set_option maxHeartbeats 4000000 in
theorem c_ofDatum (hR : RLay G h) (hF : RRef S h) (σ : Net) (hN : netR (S.1 (h + 1)) σ) (hs : szN σ) (d : Nat) (hd : d < (nDa σ).length) (w : Int32) : C G mX12_ofDatum 1 [.ref h, .int (nI d), .int w] S (fun r S' => r = some (.int (aDat (dat σ d) w)) ∧ S = S') := by
  have hd40 := hs.2.1
  have hx := hN.2.2.2 d hd
  refine C.mk (lv := [some (.ref h), some (.int (nI d)), some (.int w)]) (by decide) (Nat.le_of_ble_eq_true rfl) rfl (fun E hB => ?_)
  refine X_iload_n (i := 2) hB dX12_ofDatum_0 rfl rfl ?_
  refine X_iconst (v := 0) hB dX12_ofDatum_1 (by decide) ?_
  refine X_bipush (v := 8) hB dX12_ofDatum_2 (by decide) ?_
  refine X_callS hB kX12_55 (c_in _ _ _) (by decide) (by decide) rfl rfl (Nat.le_of_ble_eq_true rfl) dX12_ofDatum_4 (fun r4 S4 q4 => ?_)
  obtain ⟨rfl, rfl⟩ := q4
  refine X_topi (y := if inN w 9 = none then 0 else 1) (in_if (c := 9) (by omega)) ?_
  refine X_if_eq (tgt := 19) hB dX12_ofDatum_7 (by decide) (fun c7 => ?_) (fun c7 => ?_)
  · have e7 := if0 c7
    refine X_bipush (v := (-2)) hB dX12_ofDatum_19 (by decide) ?_
    refine X_iret hB rfl dX12_ofDatum_21 ?_
    refine ⟨?_, rfl⟩
    simp only [aDat, e7]
  · obtain ⟨k, e7⟩ := opt_ex (if0n c7)
    obtain ⟨l7, rfl⟩ := inN_some e7
    refine X_aload_n (i := 0) hB dX12_ofDatum_10 rfl rfl ?_
    refine X_iload_n (i := 1) hB dX12_ofDatum_11 rfl rfl ?_
    refine X_iload_n (i := 2) hB dX12_ofDatum_12 rfl rfl ?_
    refine X_callV hB kX12_246 cw10 hR.1.1 hR.1.2 (c_ofDE (w := k) hR (by exact hF.of rfl) rfl (by first | rfl | (simp (disch := omega) only [nlit, nI_add, nI_mul, nI_sub]; done) | (simp (disch := omega) only [nlit, nI_add, nI_mul, nI_sub]; (congr 1 <;> omega))) (by omega) (by omega)) (by decide) (by decide) rfl rfl (Nat.le_of_ble_eq_true rfl) dX12_ofDatum_13 (fun r13 S13 q13 => ?_)
    obtain ⟨rfl, rfl⟩ := q13
    refine X_topi (y := aDat (dat σ d) (nI k)) (by simp only [aDat, e7]; exact daR_w hx l7) ?_
    refine X_goto (tgt := 21) hB dX12_ofDatum_16 (by decide) ?_
    refine X_iret hB rfl dX12_ofDatum_21 ?_
    exact ⟨rfl, rfl⟩
set_option maxRecDepth 100000 in
set_option maxHeartbeats 4000000 in
theorem c_data (hR : RLay G h) (hF : RRef S h) (σ : Net) (b : Nat) (hw : wfN σ b) (hN : netR (S.1 (h + 1)) σ) (v w : Int32) : C G mX12_data 2 [.ref h, .int v, .int w] S (fun r S' => r = some (.int (aData σ v w)) ∧ fr h [] [0] S S') := by
  have hs := hw.sz
  have hc8 := hw.1.1.2
  have ha40 := hs.1
  have hd40 := hs.2.1
  refine C.mk (lv := [some (.ref h), some (.int v), some (.int w)]) (by decide) (Nat.le_of_ble_eq_true rfl) rfl (fun E hB => ?_)
  refine X_aload_n (i := 0) hB dX12_data_0 rfl rfl ?_
  refine X_iconst (v := 0) hB dX12_data_1 (by decide) ?_
  refine X_puti hB cw10 fX12_51 rfl rfl hR.1.1 hR.1.2 dX12_data_2 ?_
  generalize hS0 : setI S h 0 0 = S0
  have fz : fr h [] [0] S S0 := hS0 ▸ fr.fld (by simp)
  have hF := fz.ref hF
  have hN : netR (S0.1 (h + 1)) σ := by rw [fz.2.1 (h + 1) (by simp) (by omega)]; exact hN
  clear hS0
  refine X_iload_n (i := 1) hB dX12_data_5 rfl rfl ?_
  refine X_iconst (v := 0) hB dX12_data_6 (by decide) ?_
  refine X_aload_n (i := 0) hB dX12_data_7 rfl rfl ?_
  refine X_getr hB cw10 fX12_7 rfl hR.1.1 hR.1.2 hF.1 dX12_data_8 ?_
  refine X_bipush (v := 9) hB dX12_data_11 (by decide) ?_
  refine X_ialdN hB (9) hR.2.1.1 hR.2.1.2 (by decide) (by first | rfl | (simp (disch := omega) only [nlit, nI_add, nI_mul, nI_sub]; done) | (simp (disch := omega) only [nlit, nI_add, nI_mul, nI_sub]; (congr 1 <;> omega))) (by first | omega | (simp only []; omega)) hN.1.2.2.1 dX12_data_13 ?_
  refine X_iconst (v := 1) hB dX12_data_14 (by decide) ?_
  refine X_isub hB dX12_data_15 ?_
  refine X_callS hB kX12_55 (c_in _ _ _) (by decide) (by decide) rfl rfl (Nat.le_of_ble_eq_true rfl) dX12_data_16 (fun r16 S16 q16 => ?_)
  obtain ⟨rfl, rfl⟩ := q16
  refine X_topi (y := if inN v ((nDa σ).length) = none then 0 else 1) (in_if (by omega)) ?_
  refine X_if_eq (tgt := 31) hB dX12_data_19 (by decide) (fun c19 => ?_) (fun c19 => ?_)
  · first
      | (have e19 := if0 c19
         refine X_bipush (v := (-2)) hB dX12_data_31 (by decide) ?_
         refine X_iret hB rfl dX12_data_33 ?_
         refine ⟨?_, fz⟩
         simp only [aData, nth, e19])
  · obtain ⟨d, e19⟩ := opt_ex (if0n c19)
    obtain ⟨l19, rfl⟩ := inN_some e19
    refine X_aload_n (i := 0) hB dX12_data_22 rfl rfl ?_
    refine X_iload_n (i := 1) hB dX12_data_23 rfl rfl ?_
    refine X_iload_n (i := 2) hB dX12_data_24 rfl rfl ?_
    refine X_callV hB kX12_395 cw10 hR.1.1 hR.1.2 (c_ofDatum hR hF σ hN hs d l19 w) (by decide) (by decide) rfl rfl (Nat.le_of_ble_eq_true rfl) dX12_data_25 (fun r25 S25 q25 => ?_)
    obtain ⟨rfl, rfl⟩ := q25
    refine X_goto (tgt := 33) hB dX12_data_28 (by decide) ?_
    refine X_iret hB rfl dX12_data_33 ?_
    refine ⟨?_, fz⟩
    simp only [aData, e19]
set_option maxRecDepth 100000 in
set_option maxHeartbeats 4000000 in
theorem c_trailF (hR : RLay G h) (hF : RRef S h) (σ : Net) (b : Nat) (hw : wfN σ b) (hN : netR (S.1 (h + 1)) σ) (v w : Int32) : C G mX12_trail 2 [.ref h, .int v, .int w, .int 0] S (fun r S' => r = some (.int (aTrail σ v w false)) ∧ fr h [] [0] S S') := by
  have hs := hw.sz
  have hc8 := hw.1.1.2
  have ha40 := hs.1
  have hd40 := hs.2.1
  refine C.mk (lv := [some (.ref h), some (.int v), some (.int w), some (.int 0)]) (by decide) (Nat.le_of_ble_eq_true rfl) rfl (fun E hB => ?_)
  refine X_aload_n (i := 0) hB dX12_trail_0 rfl rfl ?_
  refine X_iconst (v := 0) hB dX12_trail_1 (by decide) ?_
  refine X_puti hB cw10 fX12_51 rfl rfl hR.1.1 hR.1.2 dX12_trail_2 ?_
  generalize hS0 : setI S h 0 0 = S0
  have fz : fr h [] [0] S S0 := hS0 ▸ fr.fld (by simp)
  have hF := fz.ref hF
  have hN : netR (S0.1 (h + 1)) σ := by rw [fz.2.1 (h + 1) (by simp) (by omega)]; exact hN
  clear hS0
  refine X_iload_n (i := 1) hB dX12_trail_5 rfl rfl ?_
  refine X_iconst (v := 0) hB dX12_trail_6 (by decide) ?_
  refine X_aload_n (i := 0) hB dX12_trail_7 rfl rfl ?_
  refine X_getr hB cw10 fX12_7 rfl hR.1.1 hR.1.2 hF.1 dX12_trail_8 ?_
  refine X_bipush (v := 9) hB dX12_trail_11 (by decide) ?_
  refine X_ialdN hB (9) hR.2.1.1 hR.2.1.2 (by decide) (by first | rfl | (simp (disch := omega) only [nlit, nI_add, nI_mul, nI_sub]; done) | (simp (disch := omega) only [nlit, nI_add, nI_mul, nI_sub]; (congr 1 <;> omega))) (by first | omega | (simp only []; omega)) hN.1.2.2.1 dX12_trail_13 ?_
  refine X_iconst (v := 1) hB dX12_trail_14 (by decide) ?_
  refine X_isub hB dX12_trail_15 ?_
  refine X_callS hB kX12_55 (c_in _ _ _) (by decide) (by decide) rfl rfl (Nat.le_of_ble_eq_true rfl) dX12_trail_16 (fun r16 S16 q16 => ?_)
  obtain ⟨rfl, rfl⟩ := q16
  refine X_topi (y := if inN v ((nDa σ).length) = none then 0 else 1) (in_if (by omega)) ?_
  refine X_if_eq (tgt := 46) hB dX12_trail_19 (by decide) (fun c19 => ?_) (fun c19 => ?_)
  · first
      | (have e19 := if0 c19
         refine X_iconst (v := (-1)) hB dX12_trail_46 (by decide) ?_
         refine X_iret hB rfl dX12_trail_47 ?_
         refine ⟨?_, fz⟩
         simp only [aTrail, nth, e19])
      | (have e43 := if0 c43
         refine X_iconst (v := (-1)) hB dX12_trail_46 (by decide) ?_
         refine X_iret hB rfl dX12_trail_47 ?_
         refine ⟨?_, fz⟩
         simp only [aTrail, nth, e19, e43, if_true, Bool.false_eq_true, if_false])
  · obtain ⟨d, e19⟩ := opt_ex (if0n c19)
    obtain ⟨l19, rfl⟩ := inN_some e19
    have hx := hN.2.2.2 d l19
    have hl8 := dat_len hs l19
    refine X_iload_n (i := 2) hB dX12_trail_22 rfl rfl ?_
    refine X_iconst (v := 0) hB dX12_trail_23 (by decide) ?_
    refine X_aload_n (i := 0) hB dX12_trail_24 rfl rfl ?_
    refine X_iload_n (i := 1) hB dX12_trail_25 rfl rfl ?_
    refine X_iload_n (i := 3) hB dX12_trail_26 rfl rfl ?_
    refine X_if_eq (tgt := 34) hB dX12_trail_27 (by decide) (fun c27 => ?_) (fun c27 => absurd rfl c27)
    refine X_iconst (v := 4) hB dX12_trail_34 (by decide) ?_
    refine X_callV hB kX12_246 cw10 hR.1.1 hR.1.2 (c_ofDE (w := 4) hR (by exact hF.of rfl) rfl (by first | rfl | (simp (disch := omega) only [nlit, nI_add, nI_mul, nI_sub]; done) | (simp (disch := omega) only [nlit, nI_add, nI_mul, nI_sub]; (congr 1 <;> omega))) (by omega) (by omega)) (by decide) (by decide) rfl rfl (Nat.le_of_ble_eq_true rfl) dX12_trail_35 (fun r35 S35 q35 => ?_)
    obtain ⟨rfl, rfl⟩ := q35
    refine X_topi (y := nI (aTr (dat σ d)).length) (hx.2.2.2.2.1) ?_
    refine X_iconst (v := 1) hB dX12_trail_38 (by decide) ?_
    refine X_isub hB dX12_trail_39 ?_
    refine X_callS hB kX12_55 (c_in _ _ _) (by decide) (by decide) rfl rfl (Nat.le_of_ble_eq_true rfl) dX12_trail_40 (fun r40 S40 q40 => ?_)
    obtain ⟨rfl, rfl⟩ := q40
    refine X_topi (y := if inN w ((aTr (dat σ d)).length) = none then 0 else 1) (in_if (by omega)) ?_
    refine X_if_ne (tgt := 48) hB dX12_trail_43 (by decide) (fun c43 => ?_) (fun c43 => ?_)
    · obtain ⟨k, e43⟩ := opt_ex (if0n c43)
      obtain ⟨l43, rfl⟩ := inN_some e43
      refine X_aload_n (i := 0) hB dX12_trail_48 rfl rfl ?_
      refine X_iload_n (i := 1) hB dX12_trail_49 rfl rfl ?_
      refine X_iload_n (i := 3) hB dX12_trail_50 rfl rfl ?_
      refine X_if_eq (tgt := 59) hB dX12_trail_51 (by decide) (fun c51 => ?_) (fun c51 => absurd rfl c51)
      refine X_bipush (v := 10) hB dX12_trail_59 (by decide) ?_
      refine X_iload_n (i := 2) hB dX12_trail_61 rfl rfl ?_
      refine X_iadd hB dX12_trail_62 ?_
      refine X_callV hB kX12_246 cw10 hR.1.1 hR.1.2 (c_ofDE (w := 10 + k) hR (by exact hF.of rfl) rfl (by first | rfl | (simp (disch := omega) only [nlit, nI_add, nI_mul, nI_sub]; done) | (simp (disch := omega) only [nlit, nI_add, nI_mul, nI_sub]; (congr 1 <;> omega))) (by omega) (by omega)) (by decide) (by decide) rfl rfl (Nat.le_of_ble_eq_true rfl) dX12_trail_63 (fun r63 S63 q63 => ?_)
      obtain ⟨rfl, rfl⟩ := q63
      refine X_topi (y := nI ((aTr (dat σ d)).getD k 0)) (hx.2.2.2.2.2.2.2.2.2.2.1 k l43) ?_
      refine X_iret hB rfl dX12_trail_66 ?_
      refine ⟨?_, fz⟩
      simp only [aTrail, nth, e19, e43, if_true, Bool.false_eq_true, if_false]
    · first
        | (have e19 := if0 c19
           refine X_iconst (v := (-1)) hB dX12_trail_46 (by decide) ?_
           refine X_iret hB rfl dX12_trail_47 ?_
           refine ⟨?_, fz⟩
           simp only [aTrail, nth, e19])
        | (have e43 := if0 c43
           refine X_iconst (v := (-1)) hB dX12_trail_46 (by decide) ?_
           refine X_iret hB rfl dX12_trail_47 ?_
           refine ⟨?_, fz⟩
           simp only [aTrail, nth, e19, e43, if_true, Bool.false_eq_true, if_false])
set_option maxRecDepth 100000 in
set_option maxHeartbeats 4000000 in
theorem c_trailR (hR : RLay G h) (hF : RRef S h) (σ : Net) (b : Nat) (hw : wfN σ b) (hN : netR (S.1 (h + 1)) σ) (v w : Int32) : C G mX12_trail 2 [.ref h, .int v, .int w, .int 1] S (fun r S' => r = some (.int (aTrail σ v w true)) ∧ fr h [] [0] S S') := by
  have hs := hw.sz
  have hc8 := hw.1.1.2
  have ha40 := hs.1
  have hd40 := hs.2.1
  refine C.mk (lv := [some (.ref h), some (.int v), some (.int w), some (.int 1)]) (by decide) (Nat.le_of_ble_eq_true rfl) rfl (fun E hB => ?_)
  refine X_aload_n (i := 0) hB dX12_trail_0 rfl rfl ?_
  refine X_iconst (v := 0) hB dX12_trail_1 (by decide) ?_
  refine X_puti hB cw10 fX12_51 rfl rfl hR.1.1 hR.1.2 dX12_trail_2 ?_
  generalize hS0 : setI S h 0 0 = S0
  have fz : fr h [] [0] S S0 := hS0 ▸ fr.fld (by simp)
  have hF := fz.ref hF
  have hN : netR (S0.1 (h + 1)) σ := by rw [fz.2.1 (h + 1) (by simp) (by omega)]; exact hN
  clear hS0
  refine X_iload_n (i := 1) hB dX12_trail_5 rfl rfl ?_
  refine X_iconst (v := 0) hB dX12_trail_6 (by decide) ?_
  refine X_aload_n (i := 0) hB dX12_trail_7 rfl rfl ?_
  refine X_getr hB cw10 fX12_7 rfl hR.1.1 hR.1.2 hF.1 dX12_trail_8 ?_
  refine X_bipush (v := 9) hB dX12_trail_11 (by decide) ?_
  refine X_ialdN hB (9) hR.2.1.1 hR.2.1.2 (by decide) (by first | rfl | (simp (disch := omega) only [nlit, nI_add, nI_mul, nI_sub]; done) | (simp (disch := omega) only [nlit, nI_add, nI_mul, nI_sub]; (congr 1 <;> omega))) (by first | omega | (simp only []; omega)) hN.1.2.2.1 dX12_trail_13 ?_
  refine X_iconst (v := 1) hB dX12_trail_14 (by decide) ?_
  refine X_isub hB dX12_trail_15 ?_
  refine X_callS hB kX12_55 (c_in _ _ _) (by decide) (by decide) rfl rfl (Nat.le_of_ble_eq_true rfl) dX12_trail_16 (fun r16 S16 q16 => ?_)
  obtain ⟨rfl, rfl⟩ := q16
  refine X_topi (y := if inN v ((nDa σ).length) = none then 0 else 1) (in_if (by omega)) ?_
  refine X_if_eq (tgt := 46) hB dX12_trail_19 (by decide) (fun c19 => ?_) (fun c19 => ?_)
  · first
      | (have e19 := if0 c19
         refine X_iconst (v := (-1)) hB dX12_trail_46 (by decide) ?_
         refine X_iret hB rfl dX12_trail_47 ?_
         refine ⟨?_, fz⟩
         simp only [aTrail, nth, e19])
      | (have e43 := if0 c43
         refine X_iconst (v := (-1)) hB dX12_trail_46 (by decide) ?_
         refine X_iret hB rfl dX12_trail_47 ?_
         refine ⟨?_, fz⟩
         simp only [aTrail, nth, e19, e43, if_true, Bool.false_eq_true, if_false])
  · obtain ⟨d, e19⟩ := opt_ex (if0n c19)
    obtain ⟨l19, rfl⟩ := inN_some e19
    have hx := hN.2.2.2 d l19
    have hl8 := dat_len hs l19
    refine X_iload_n (i := 2) hB dX12_trail_22 rfl rfl ?_
    refine X_iconst (v := 0) hB dX12_trail_23 (by decide) ?_
    refine X_aload_n (i := 0) hB dX12_trail_24 rfl rfl ?_
    refine X_iload_n (i := 1) hB dX12_trail_25 rfl rfl ?_
    refine X_iload_n (i := 3) hB dX12_trail_26 rfl rfl ?_
    refine X_if_eq (tgt := 34) hB dX12_trail_27 (by decide) (fun c27 => absurd c27 (by decide)) (fun c27 => ?_)
    refine X_iconst (v := 5) hB dX12_trail_30 (by decide) ?_
    refine X_goto (tgt := 35) hB dX12_trail_31 (by decide) ?_
    refine X_callV hB kX12_246 cw10 hR.1.1 hR.1.2 (c_ofDE (w := 5) hR (by exact hF.of rfl) rfl (by first | rfl | (simp (disch := omega) only [nlit, nI_add, nI_mul, nI_sub]; done) | (simp (disch := omega) only [nlit, nI_add, nI_mul, nI_sub]; (congr 1 <;> omega))) (by omega) (by omega)) (by decide) (by decide) rfl rfl (Nat.le_of_ble_eq_true rfl) dX12_trail_35 (fun r35 S35 q35 => ?_)
    obtain ⟨rfl, rfl⟩ := q35
    refine X_topi (y := nI (aRe (dat σ d)).length) (hx.2.2.2.2.2.1) ?_
    refine X_iconst (v := 1) hB dX12_trail_38 (by decide) ?_
    refine X_isub hB dX12_trail_39 ?_
    refine X_callS hB kX12_55 (c_in _ _ _) (by decide) (by decide) rfl rfl (Nat.le_of_ble_eq_true rfl) dX12_trail_40 (fun r40 S40 q40 => ?_)
    obtain ⟨rfl, rfl⟩ := q40
    refine X_topi (y := if inN w ((aRe (dat σ d)).length) = none then 0 else 1) (in_if (by omega)) ?_
    refine X_if_ne (tgt := 48) hB dX12_trail_43 (by decide) (fun c43 => ?_) (fun c43 => ?_)
    · obtain ⟨k, e43⟩ := opt_ex (if0n c43)
      obtain ⟨l43, rfl⟩ := inN_some e43
      refine X_aload_n (i := 0) hB dX12_trail_48 rfl rfl ?_
      refine X_iload_n (i := 1) hB dX12_trail_49 rfl rfl ?_
      refine X_iload_n (i := 3) hB dX12_trail_50 rfl rfl ?_
      refine X_if_eq (tgt := 59) hB dX12_trail_51 (by decide) (fun c51 => absurd c51 (by decide)) (fun c51 => ?_)
      refine X_bipush (v := 18) hB dX12_trail_54 (by decide) ?_
      refine X_goto (tgt := 61) hB dX12_trail_56 (by decide) ?_
      refine X_iload_n (i := 2) hB dX12_trail_61 rfl rfl ?_
      refine X_iadd hB dX12_trail_62 ?_
      refine X_callV hB kX12_246 cw10 hR.1.1 hR.1.2 (c_ofDE (w := 18 + k) hR (by exact hF.of rfl) rfl (by first | rfl | (simp (disch := omega) only [nlit, nI_add, nI_mul, nI_sub]; done) | (simp (disch := omega) only [nlit, nI_add, nI_mul, nI_sub]; (congr 1 <;> omega))) (by omega) (by omega)) (by decide) (by decide) rfl rfl (Nat.le_of_ble_eq_true rfl) dX12_trail_63 (fun r63 S63 q63 => ?_)
      obtain ⟨rfl, rfl⟩ := q63
      refine X_topi (y := nI ((aRe (dat σ d)).getD k 0)) (hx.2.2.2.2.2.2.2.2.2.2.2 k l43) ?_
      refine X_iret hB rfl dX12_trail_66 ?_
      refine ⟨?_, fz⟩
      simp only [aTrail, nth, e19, e43, if_true, Bool.false_eq_true, if_false]
    · first
        | (have e19 := if0 c19
           refine X_iconst (v := (-1)) hB dX12_trail_46 (by decide) ?_
           refine X_iret hB rfl dX12_trail_47 ?_
           refine ⟨?_, fz⟩
           simp only [aTrail, nth, e19])
        | (have e43 := if0 c43
           refine X_iconst (v := (-1)) hB dX12_trail_46 (by decide) ?_
           refine X_iret hB rfl dX12_trail_47 ?_
           refine ⟨?_, fz⟩
           simp only [aTrail, nth, e19, e43, if_true, Bool.false_eq_true, if_false])
set_option maxRecDepth 100000 in
set_option maxHeartbeats 4000000 in
theorem c_hops (hR : RLay G h) (hF : RRef S h) (σ : Net) (b : Nat) (hw : wfN σ b) (hN : netR (S.1 (h + 1)) σ) (v w : Int32) : C G mX12_hops 5 [.ref h, .int v, .int w] S (fun r S' => r = some (.int (aHops σ v w)) ∧ fr h [h + 8, h + 9, h + 10] [0, 22] S S') := by
  have hs := hw.sz
  have hc8 := hw.1.1.2
  have ha40 := hs.1
  have hd40 := hs.2.1
  refine C.mk (lv := [some (.ref h), some (.int v), some (.int w)]) (by decide) (Nat.le_of_ble_eq_true rfl) rfl (fun E hB => ?_)
  refine X_aload_n (i := 0) hB dX12_hops_0 rfl rfl ?_
  refine X_iconst (v := 0) hB dX12_hops_1 (by decide) ?_
  refine X_puti hB cw10 fX12_51 rfl rfl hR.1.1 hR.1.2 dX12_hops_2 ?_
  generalize hS0 : setI S h 0 0 = S0
  have fz : fr h [] [0] S S0 := hS0 ▸ fr.fld (by simp)
  have hF := fz.ref hF
  have hN : netR (S0.1 (h + 1)) σ := by rw [fz.2.1 (h + 1) (by simp) (by omega)]; exact hN
  clear hS0
  refine X_aload_n (i := 0) hB dX12_hops_5 rfl rfl ?_
  refine X_iload_n (i := 1) hB dX12_hops_6 rfl rfl ?_
  refine X_iload_n (i := 2) hB dX12_hops_7 rfl rfl ?_
  refine X_callV hB kX12_373 cw10 hR.1.1 hR.1.2 (c_areTwo hR hF σ hN (by omega) v w) (by decide) (by decide) rfl rfl (Nat.le_of_ble_eq_true rfl) dX12_hops_8 (fun r8 S8 q8 => ?_)
  obtain ⟨rfl, rfl⟩ := q8
  refine X_if_eq (tgt := 32) hB dX12_hops_11 (by decide) (fun c11 => ?_) (fun c11 => ?_)
  · first
      | (have e11 := if0 c11
         have fz := fz.mono (r2 := [h + 8, h + 9, h + 10]) (f2 := [0, 22]) (by simp) (by simp)
         refine X_iconst (v := (-1)) hB dX12_hops_32 (by decide) ?_
         refine X_iret hB rfl dX12_hops_33 ?_
         refine ⟨?_, fz⟩
         simp only [aHops, nth, e11])
      | (have e20 : wayN σ x y = [] := if0 c20
         have fz := (fz.mono (r2 := [h + 8, h + 9, h + 10]) (f2 := [0, 22]) (by simp) (by simp)).tr (f17.mono (by simp) (by simp))
         refine X_iconst (v := (-1)) hB dX12_hops_32 (by decide) ?_
         refine X_iret hB rfl dX12_hops_33 ?_
         refine ⟨?_, fz⟩
         simp only [aHops, nth, e11, e20, if_true])
  · obtain ⟨⟨x, y⟩, e11⟩ := opt_ex (if0n c11)
    obtain ⟨rfl, rfl, lx, ly, hxy⟩ := two_some e11
    refine X_aload_n (i := 0) hB dX12_hops_14 rfl rfl ?_
    refine X_iload_n (i := 1) hB dX12_hops_15 rfl rfl ?_
    refine X_iload_n (i := 2) hB dX12_hops_16 rfl rfl ?_
    refine X_callV hB kX12_265 cw10 hR.1.1 hR.1.2 (c_findsN hR hF σ hN hs (by have := hw.1.2.1.2; omega) x y (by omega) (by omega)) (by decide) (by decide) rfl rfl (Nat.le_of_ble_eq_true rfl) dX12_hops_17 (fun r17 S17 q17 => ?_)
    obtain ⟨rfl, f17, w17, l17, m17⟩ := q17
    refine X_if_eq (tgt := 32) hB dX12_hops_20 (by decide) (fun c20 => ?_) (fun c20 => ?_)
    · first
        | (have e11 := if0 c11
           have fz := fz.mono (r2 := [h + 8, h + 9, h + 10]) (f2 := [0, 22]) (by simp) (by simp)
           refine X_iconst (v := (-1)) hB dX12_hops_32 (by decide) ?_
           refine X_iret hB rfl dX12_hops_33 ?_
           refine ⟨?_, fz⟩
           simp only [aHops, nth, e11])
        | (have e20 : wayN σ x y = [] := if0 c20
           have fz := (fz.mono (r2 := [h + 8, h + 9, h + 10]) (f2 := [0, 22]) (by simp) (by simp)).tr (f17.mono (by simp) (by simp))
           refine X_iconst (v := (-1)) hB dX12_hops_32 (by decide) ?_
           refine X_iret hB rfl dX12_hops_33 ?_
           refine ⟨?_, fz⟩
           simp only [aHops, nth, e11, e20, if_true])
    · have e20 : wayN σ x y ≠ [] := if0n c20
      refine X_aload_n (i := 0) hB dX12_hops_23 rfl rfl ?_
      refine X_geti hB cw10 fX12_231 rfl hR.1.1 hR.1.2 dX12_hops_24 ?_
      refine X_topi (y := nI (wayN σ x y).length) (w17.1) ?_
      refine X_iconst (v := 1) hB dX12_hops_27 (by decide) ?_
      refine X_isub hB dX12_hops_28 ?_
      refine X_goto (tgt := 33) hB dX12_hops_29 (by decide) ?_
      refine X_iret hB rfl dX12_hops_33 ?_
      refine ⟨?_, (fz.mono (by simp) (by simp)).tr (f17.mono (by simp) (by simp))⟩
      simp only [aHops, e11, if_neg e20]
      have h1 : 1 ≤ (wayN σ x y).length := by
        cases hq : wayN σ x y with
        | nil => exact absurd hq e20
        | cons a t => simp
      rw [show (1 : Int32) = nI 1 from rfl, nI_sub h1]
set_option maxRecDepth 100000 in
set_option maxHeartbeats 4000000 in
theorem c_way (hR : RLay G h) (hF : RRef S h) (σ : Net) (b : Nat) (hw : wfN σ b) (hN : netR (S.1 (h + 1)) σ) (v w i : Int32) : C G mX12_way 5 [.ref h, .int v, .int w, .int i] S (fun r S' => r = some (.int (aWay σ v w i)) ∧ fr h [h + 8, h + 9, h + 10] [0, 22] S S') := by
  have hs := hw.sz
  have hc8 := hw.1.1.2
  have ha40 := hs.1
  have hd40 := hs.2.1
  refine C.mk (lv := [some (.ref h), some (.int v), some (.int w), some (.int i)]) (by decide) (Nat.le_of_ble_eq_true rfl) rfl (fun E hB => ?_)
  refine X_aload_n (i := 0) hB dX12_way_0 rfl rfl ?_
  refine X_iconst (v := 0) hB dX12_way_1 (by decide) ?_
  refine X_puti hB cw10 fX12_51 rfl rfl hR.1.1 hR.1.2 dX12_way_2 ?_
  generalize hS0 : setI S h 0 0 = S0
  have fz : fr h [] [0] S S0 := hS0 ▸ fr.fld (by simp)
  have hF := fz.ref hF
  have hN : netR (S0.1 (h + 1)) σ := by rw [fz.2.1 (h + 1) (by simp) (by omega)]; exact hN
  clear hS0
  refine X_aload_n (i := 0) hB dX12_way_5 rfl rfl ?_
  refine X_iload_n (i := 1) hB dX12_way_6 rfl rfl ?_
  refine X_iload_n (i := 2) hB dX12_way_7 rfl rfl ?_
  refine X_callV hB kX12_373 cw10 hR.1.1 hR.1.2 (c_areTwo hR hF σ hN (by omega) v w) (by decide) (by decide) rfl rfl (Nat.le_of_ble_eq_true rfl) dX12_way_8 (fun r8 S8 q8 => ?_)
  obtain ⟨rfl, rfl⟩ := q8
  refine X_if_eq (tgt := 46) hB dX12_way_11 (by decide) (fun c11 => ?_) (fun c11 => ?_)
  · first
      | (have e11 := if0 c11
         have fz := fz.mono (r2 := [h + 8, h + 9, h + 10]) (f2 := [0, 22]) (by simp) (by simp)
         refine X_iconst (v := (-1)) hB dX12_way_46 (by decide) ?_
         refine X_iret hB rfl dX12_way_47 ?_
         refine ⟨?_, fz⟩
         simp only [aWay, nth, e11])
      | (have e20 : wayN σ x y = [] := if0 c20
         have fz := (fz.mono (r2 := [h + 8, h + 9, h + 10]) (f2 := [0, 22]) (by simp) (by simp)).tr (f17.mono (by simp) (by simp))
         refine X_iconst (v := (-1)) hB dX12_way_46 (by decide) ?_
         refine X_iret hB rfl dX12_way_47 ?_
         refine ⟨?_, fz⟩
         simp only [aWay, nth, e11, e20, List.length_nil, inN_0])
      | (have e34 := if0 c34
         have fz := (fz.mono (r2 := [h + 8, h + 9, h + 10]) (f2 := [0, 22]) (by simp) (by simp)).tr (f17.mono (by simp) (by simp))
         refine X_iconst (v := (-1)) hB dX12_way_46 (by decide) ?_
         refine X_iret hB rfl dX12_way_47 ?_
         refine ⟨?_, fz⟩
         simp only [aWay, nth, e11, e34])
  · obtain ⟨⟨x, y⟩, e11⟩ := opt_ex (if0n c11)
    obtain ⟨rfl, rfl, lx, ly, hxy⟩ := two_some e11
    refine X_aload_n (i := 0) hB dX12_way_14 rfl rfl ?_
    refine X_iload_n (i := 1) hB dX12_way_15 rfl rfl ?_
    refine X_iload_n (i := 2) hB dX12_way_16 rfl rfl ?_
    refine X_callV hB kX12_265 cw10 hR.1.1 hR.1.2 (c_findsN hR hF σ hN hs (by have := hw.1.2.1.2; omega) x y (by omega) (by omega)) (by decide) (by decide) rfl rfl (Nat.le_of_ble_eq_true rfl) dX12_way_17 (fun r17 S17 q17 => ?_)
    obtain ⟨rfl, f17, w17, l17, m17⟩ := q17
    have hF := f17.ref hF
    refine X_if_eq (tgt := 46) hB dX12_way_20 (by decide) (fun c20 => ?_) (fun c20 => ?_)
    · first
        | (have e11 := if0 c11
           have fz := fz.mono (r2 := [h + 8, h + 9, h + 10]) (f2 := [0, 22]) (by simp) (by simp)
           refine X_iconst (v := (-1)) hB dX12_way_46 (by decide) ?_
           refine X_iret hB rfl dX12_way_47 ?_
           refine ⟨?_, fz⟩
           simp only [aWay, nth, e11])
        | (have e20 : wayN σ x y = [] := if0 c20
           have fz := (fz.mono (r2 := [h + 8, h + 9, h + 10]) (f2 := [0, 22]) (by simp) (by simp)).tr (f17.mono (by simp) (by simp))
           refine X_iconst (v := (-1)) hB dX12_way_46 (by decide) ?_
           refine X_iret hB rfl dX12_way_47 ?_
           refine ⟨?_, fz⟩
           simp only [aWay, nth, e11, e20, List.length_nil, inN_0])
        | (have e34 := if0 c34
           have fz := (fz.mono (r2 := [h + 8, h + 9, h + 10]) (f2 := [0, 22]) (by simp) (by simp)).tr (f17.mono (by simp) (by simp))
           refine X_iconst (v := (-1)) hB dX12_way_46 (by decide) ?_
           refine X_iret hB rfl dX12_way_47 ?_
           refine ⟨?_, fz⟩
           simp only [aWay, nth, e11, e34])
    · have e20 : wayN σ x y ≠ [] := if0n c20
      refine X_iload_n (i := 3) hB dX12_way_23 rfl rfl ?_
      refine X_iconst (v := 0) hB dX12_way_24 (by decide) ?_
      refine X_aload_n (i := 0) hB dX12_way_25 rfl rfl ?_
      refine X_geti hB cw10 fX12_231 rfl hR.1.1 hR.1.2 dX12_way_26 ?_
      refine X_topi (y := nI (wayN σ x y).length) (w17.1) ?_
      refine X_iconst (v := 1) hB dX12_way_29 (by decide) ?_
      refine X_isub hB dX12_way_30 ?_
      refine X_callS hB kX12_55 (c_in _ _ _) (by decide) (by decide) rfl rfl (Nat.le_of_ble_eq_true rfl) dX12_way_31 (fun r31 S31 q31 => ?_)
      obtain ⟨rfl, rfl⟩ := q31
      refine X_topi (y := if inN i ((wayN σ x y).length) = none then 0 else 1) (in_if (by omega)) ?_
      refine X_if_eq (tgt := 46) hB dX12_way_34 (by decide) (fun c34 => ?_) (fun c34 => ?_)
      · first
          | (have e11 := if0 c11
             have fz := fz.mono (r2 := [h + 8, h + 9, h + 10]) (f2 := [0, 22]) (by simp) (by simp)
             refine X_iconst (v := (-1)) hB dX12_way_46 (by decide) ?_
             refine X_iret hB rfl dX12_way_47 ?_
             refine ⟨?_, fz⟩
             simp only [aWay, nth, e11])
          | (have e20 : wayN σ x y = [] := if0 c20
             have fz := (fz.mono (r2 := [h + 8, h + 9, h + 10]) (f2 := [0, 22]) (by simp) (by simp)).tr (f17.mono (by simp) (by simp))
             refine X_iconst (v := (-1)) hB dX12_way_46 (by decide) ?_
             refine X_iret hB rfl dX12_way_47 ?_
             refine ⟨?_, fz⟩
             simp only [aWay, nth, e11, e20, List.length_nil, inN_0])
          | (have e34 := if0 c34
             have fz := (fz.mono (r2 := [h + 8, h + 9, h + 10]) (f2 := [0, 22]) (by simp) (by simp)).tr (f17.mono (by simp) (by simp))
             refine X_iconst (v := (-1)) hB dX12_way_46 (by decide) ?_
             refine X_iret hB rfl dX12_way_47 ?_
             refine ⟨?_, fz⟩
             simp only [aWay, nth, e11, e34])
      · obtain ⟨k, e34⟩ := opt_ex (if0n c34)
        obtain ⟨l34, rfl⟩ := inN_some e34
        refine X_aload_n (i := 0) hB dX12_way_37 rfl rfl ?_
        refine X_getr hB cw10 fX12_33 rfl hR.1.1 hR.1.2 hF.2.2.2.2.2.2.2.1 dX12_way_38 ?_
        refine X_iload_n (i := 3) hB dX12_way_41 rfl rfl ?_
        refine X_ialdN hB (k) hR.2.2.2.2.2.2.2.2.1.1 hR.2.2.2.2.2.2.2.2.1.2 (by decide) (by first | rfl | (simp (disch := omega) only [nlit, nI_add, nI_mul, nI_sub]; done) | (simp (disch := omega) only [nlit, nI_add, nI_mul, nI_sub]; (congr 1 <;> omega))) (by first | omega | (simp only []; omega)) (w17.2 k l34) dX12_way_42 ?_
        refine X_goto (tgt := 47) hB dX12_way_43 (by decide) ?_
        refine X_iret hB rfl dX12_way_47 ?_
        refine ⟨?_, (fz.mono (by simp) (by simp)).tr (f17.mono (by simp) (by simp))⟩
        simp only [aWay, nth, e11, e34]
end REF
