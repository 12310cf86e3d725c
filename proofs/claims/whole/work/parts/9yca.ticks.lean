/-! the class: ticks, ahead -/
theorem lt1 {v : Int32} (c : ¬ v < 1) : ¬ v < 0 := fun z => c (by
  rw [Int32.lt_iff_toInt_lt] at z ⊢
  have h0 : (0 : Int32).toInt = 0 := by decide
  have h1 : (1 : Int32).toInt = 1 := by decide
  omega)
section CLS
variable {G : Gc} {S : St}
set_option maxRecDepth 100000 in
set_option maxHeartbeats 4000000 in
theorem c_X11_ticks (x : Nat) (hX : SLay G x) (hS : SF S x) (σ : Net) (hw : worldR S (x + 6) σ) (b : Nat) (hN : wfN σ b) (hnow : nNow σ ≤ 900) (hb : b + 700 < 100000) (v : Int32) : C G mX11_ticks 7 [.ref x, .int v] S (fun r S' => r = some (.int (aTicks σ v).1) ∧ worldR S' (x + 6) (aTicks σ v).2 ∧ chg (x + 6) (x + 158) S S') := by
  have hW := hX.2.2.2.1
  have hc8 := hN.1.1.2
  have h40 := hw.l40
  refine C.mk (lv := [some (.ref x), some (.int v), none]) (by decide) (Nat.le_of_ble_eq_true rfl) rfl (fun E hB => ?_)
  refine X_iload_n (i := 1) hB dX11_ticks_0 rfl rfl ?_
  refine X_iconst (v := 1) hB dX11_ticks_1 (by decide) ?_
  refine X_icmp_lt (tgt := 26) hB dX11_ticks_2 (by decide) (fun c2 => ?_) (fun c2 => ?_)
  · refine X_iconst (v := (-1)) hB dX11_ticks_26 (by decide) ?_
    refine X_iret hB rfl dX11_ticks_27 ?_
    have ea : aTicks σ v = (-1, σ) := by
      unfold aTicks
      cases e : inN v 7 with
      | none => rfl
      | some k =>
        obtain ⟨hk, rfl⟩ := inN_some e
        rw [show (1 : Int32) = nI 1 from rfl, nI_ltI (by omega) (by omega)] at c2
        dsimp only
        rw [if_neg (by omega)]
    rw [ea]
    exact ⟨rfl, hw, chg.rf⟩
  · obtain ⟨k, hk31, rfl⟩ := nI_of (x := v) (lt1 c2)
    have hk1 : 1 ≤ k := by
      rw [show (1 : Int32) = nI 1 from rfl, nI_ltI hk31 (by omega)] at c2
      omega
    refine X_iload_n (i := 1) hB dX11_ticks_5 rfl rfl ?_
    refine X_bipush (v := 6) hB dX11_ticks_6 (by decide) ?_
    refine X_icmp_gt (tgt := 26) hB dX11_ticks_8 (by decide) (fun c8 => ?_) (fun c8 => ?_)
    · refine X_iconst (v := (-1)) hB dX11_ticks_26 (by decide) ?_
      refine X_iret hB rfl dX11_ticks_27 ?_
      have ea : aTicks σ (nI k) = (-1, σ) := by
        rw [show (6 : Int32) = nI 6 from rfl, nI_ltI (by omega) hk31] at c8
        unfold aTicks
        rw [inN_no (by decide) (Or.inr ((nI_leI (by omega) hk31).mpr (by omega)))]
      rw [ea]
      exact ⟨rfl, hw, chg.rf⟩
    · have hk6 : k ≤ 6 := by
        rw [show (6 : Int32) = nI 6 from rfl, nI_ltI (by omega) hk31] at c8
        omega
      refine X_aload_n (i := 0) hB dX11_ticks_11 rfl rfl ?_
      refine X_getr hB cw9 fX11_26 rfl hX.1.1 hX.1.2 hS.2.2.1 dX11_ticks_12 ?_
      refine X_geti hB cw8 fX11_94 rfl hW.1.1 hW.1.2 dX11_ticks_15 ?_
      refine X_topi (y := nI (nNow σ)) (hw.2.1.2.2.2.1) ?_
      refine X_iload_n (i := 1) hB dX11_ticks_18 rfl rfl ?_
      refine X_iadd hB dX11_ticks_19 ?_
      refine X_topi (y := nI (nNow σ + k)) (nI_add _ _) ?_
      refine X_sipush (v := 900) hB dX11_ticks_20 (by decide) ?_
      refine X_icmp_le (tgt := 28) hB dX11_ticks_23 (by decide) (fun c23 => ?_) (fun c23 => ?_)
      · have h9 : nNow σ + k ≤ 900 := by
          rw [show (900 : Int32) = nI 900 from rfl, nI_leI (by omega) (by omega)] at c23
          exact c23
        have ea : aTicks σ (nI k) = (nI (nNow σ + k), tkN_ k σ) := by unfold aTicks; rw [inN_nI (by omega) hk31]; dsimp only; rw [if_pos ⟨hk1, h9⟩]
        rw [ea]
        refine X_iconst (v := 0) hB dX11_ticks_28 (by decide) ?_
        refine X_istore_n (i := 2) hB dX11_ticks_29 rfl (by decide) rfl ?_
        refine X_lv (lv' := [some (.ref x), some (.int (nI k)), some (.int (nI 0))]) (by rw [nI_0]; rfl) (l_X11_ticks hB x hX hS σ b hN k hk6 (by omega) hb (fun S1 g1 g2 => ?_) k 0 S (by omega) hw chg.rf)
        obtain ⟨q1, q2, q3, q4, q5⟩ := hN.tks k (by omega) (by omega)
        refine X_aload_n (i := 0) hB dX11_ticks_49 rfl rfl ?_
        refine X_getr hB cw9 fX11_26 rfl hX.1.1 hX.1.2 (show S1.2.2 x 2 = some (x + 6) by rw [(g2 x (by omega)).2.2]; exact hS.2.2.1) dX11_ticks_50 ?_
        refine X_geti hB cw8 fX11_94 rfl hW.1.1 hW.1.2 dX11_ticks_53 ?_
        refine X_iret hB rfl dX11_ticks_56 ?_
        exact ⟨congrArg (fun z => some (Value.int z)) (g1.2.1.2.2.2.1.trans (congrArg nI q3)), g1, g2⟩
      · refine X_iconst (v := (-1)) hB dX11_ticks_26 (by decide) ?_
        refine X_iret hB rfl dX11_ticks_27 ?_
        have ea : aTicks σ (nI k) = (-1, σ) := by
          rw [show (900 : Int32) = nI 900 from rfl, nI_leI (by omega) (by omega)] at c23
          unfold aTicks
          rw [inN_nI (by omega) hk31]
          dsimp only
          rw [if_neg (by omega)]
        rw [ea]
        exact ⟨rfl, hw, chg.rf⟩
set_option maxRecDepth 100000 in
set_option maxHeartbeats 4000000 in
theorem c_X11_ahead (x : Nat) (hX : SLay G x) (hS : SF S x) (σ : Net) (hw : worldR S (x + 6) σ) (b : Nat) (hN : wfN σ b) (hD : wdD S (x + 158)) (hnow : nNow σ ≤ 900) (hb : b + 3000 < 100000) (hbc : bcN σ) (u v : Int32) : C G mX11_ahead 7 [.ref x, .int u, .int v] S (fun r S' => r = some (.int (aAhead σ u v)) ∧ chg (x + 158) (x + 310) S S' ∧ wdD S' (x + 158)) := by
  have hW := hX.2.2.2.1
  have hc8 := hN.1.1.2
  have h40 := hw.l40
  refine C.mk (lv := [some (.ref x), some (.int u), some (.int v), none]) (by decide) (Nat.le_of_ble_eq_true rfl) rfl (fun E hB => ?_)
  refine X_iload_n (i := 1) hB dX11_ahead_0 rfl rfl ?_
  refine X_callS hB kX11_221 (c_X11_mayGoBy u) (by decide) (by decide) rfl rfl (Nat.le_of_ble_eq_true rfl) dX11_ahead_1 (fun r1 S1 q1 => ?_)
  obtain ⟨rfl, rfl⟩ := q1
  cases e4 : inN u 7 with
  | none =>
    refine X_topi (y := 0) (if_pos rfl) ?_
    refine X_if_ne (tgt := 9) hB dX11_ahead_4 (by decide) (fun c4 => absurd rfl c4) (fun c4 => ?_)
    refine X_iconst (v := (-1)) hB dX11_ahead_7 (by decide) ?_
    refine X_iret hB rfl dX11_ahead_8 ?_
    exact ⟨by unfold aAhead; rw [e4], chg.rf, hD⟩
  | some t =>
    obtain ⟨ht, rfl⟩ := inN_some e4
    refine X_topi (y := 1) (if_neg (fun z => by cases z)) ?_
    refine X_if_ne (tgt := 9) hB dX11_ahead_4 (by decide) (fun c4 => ?_) (fun c4 => absurd c4 (by decide))
    have hV := hX.2.2.2.2.1
    have hor : ∀ d, d < (nDa σ).length → aOr (dat σ d) < 8 := fun d hd => (hN.da hd).1.1
    refine X_aload_n (i := 0) hB dX11_ahead_9 rfl rfl ?_
    refine X_getr hB cw9 fX11_30 rfl hX.1.1 hX.1.2 hS.2.2.2.1 dX11_ahead_10 ?_
    refine X_aload_n (i := 0) hB dX11_ahead_13 rfl rfl ?_
    refine X_getr hB cw9 fX11_26 rfl hX.1.1 hX.1.2 hS.2.2.1 dX11_ahead_14 ?_
    refine X_callV hB kX11_224 cw8 hV.1.1 hV.1.2 (c_X10_copyFrom (x + 158) (x + 6) hV hW (by omega) σ hD hw hor) (by decide) (by decide) rfl rfl (Nat.le_of_ble_eq_true rfl) dX11_ahead_17 (fun r17 S17 q17 => ?_)
    obtain ⟨rfl, w1, w2⟩ := q17
    have s1 : SF S17 x := hS.chg w2 (by omega) (by omega) (by omega)
    refine X_iconst (v := 0) hB dX11_ahead_20 (by decide) ?_
    refine X_istore_n (i := 3) hB dX11_ahead_21 rfl (by decide) rfl ?_
    refine X_lv (lv' := [some (.ref x), some (.int (nI t)), some (.int v), some (.int (nI 0))]) (by rw [nI_0]; rfl) (l_X11_ahead hB x hX s1 σ b hN t (by omega) (by omega) (by omega) v (fun S3 g1 g2 => ?_) t 0 S17 (by omega) w1 chg.rf)
    obtain ⟨q1, q2, q3, q4, q5⟩ := hN.tks t (by omega) (by omega)
    have qb := hbc.tks hN t (by omega) (by omega)
    refine X_aload_n (i := 0) hB dX11_ahead_41 rfl rfl ?_
    refine X_getr hB cw9 fX11_30 rfl hX.1.1 hX.1.2 (show S3.2.2 x 3 = some (x + 158) by rw [(g2 x (by omega)).2.2]; exact s1.2.2.2.1) dX11_ahead_42 ?_
    refine X_iload_n (i := 2) hB dX11_ahead_45 rfl rfl ?_
    refine X_callV hB kX11_228 cw8 hV.1.1 hV.1.2 (c_X10_tellCount (x + 158) hV (tkN_ t σ) g1 (b + 104 * t) q1 qb v) (by decide) (by decide) rfl rfl (Nat.le_of_ble_eq_true rfl) dX11_ahead_46 (fun r46 S46 q46 => ?_)
    obtain ⟨rfl, rfl⟩ := q46
    refine X_iret hB rfl dX11_ahead_49 ?_
    refine ⟨?_, w2.tr g2, g1.D⟩
    unfold aAhead
    rw [e4]
    unfold cntW
    cases inN v 13 <;> rfl
end CLS
