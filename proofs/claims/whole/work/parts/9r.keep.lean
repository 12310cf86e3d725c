theorem reaF_le {B : List Nat} : (reaF B).1 ≤ 3 := by
  unfold reaF
  split
  · exact (by decide : (1 : Nat) ≤ 3)
  · split
    · exact (by decide : (2 : Nat) ≤ 3)
    · split
      · exact (by decide : (3 : Nat) ≤ 3)
      · exact (by decide : (0 : Nat) ≤ 3)
theorem reaF_z {B : List Nat} (h : nI (reaF B).1 = 0) : (reaF B).1 = 0 := by
  have h3 := @reaF_le B
  exact (nI_eq (b := 0) (by omega) (by omega)).mp h
/-! the class: images, a net -/
section CLS
variable {G : Gc} {S : St}
set_option maxRecDepth 100000 in
set_option maxHeartbeats 4000000 in
theorem c_X11_image (x : Nat) (hX : SLay G x) (hS : SF S x) (σ : Net) (hw : worldR S (x + 6) σ) (b : Nat) (hN : wfN σ b) (B : List Nat) (hT : tx13 S (x + 1) σ B) (pb : Nat → Bool) (hpb : S.1 x 6 = nI (bts pb 8)) (hkd : ∀ k, k < 3 → txD S (x + 312 + 154 * k) ∧ wdD S (x + 314 + 154 * k)) (v : Int32) : C G mX11_image 6 [.ref x, .int v] S (fun r S' => (match inN v 3 with
  | some k => r = some (.int 1) ∧ chg (x + 312 + 154 * k) (x + 466 + 154 * k) (setI S x 6 (nI (bts (fun j => decide (j = k) || pb j) 8))) S' ∧ tx13 S' (x + 312 + 154 * k) σ B ∧ worldR S' (x + 314 + 154 * k) σ
  | none => r = some (.int 0) ∧ S = S')) := by
  have hW := hX.2.2.2.1
  have hc8 := hN.1.1.2
  have h40 := hw.l40
  refine C.mk (lv := [some (.ref x), some (.int v)]) (by decide) (Nat.le_of_ble_eq_true rfl) rfl (fun E hB => ?_)
  refine X_iload_n (i := 1) hB dX11_image_0 rfl rfl ?_
  refine X_if_lt (tgt := 9) hB dX11_image_1 (by decide) (fun c1 => ?_) (fun c1 => ?_)
  · refine X_iconst (v := 0) hB dX11_image_9 (by decide) ?_
    refine X_zret hB rfl (by first | exact Or.inl rfl | exact Or.inr rfl) dX11_image_10 ?_
    rw [inN_no (by decide) (Or.inl c1)]
    exact ⟨rfl, rfl⟩
  · refine X_iload_n (i := 1) hB dX11_image_4 rfl rfl ?_
    refine X_iconst (v := 3) hB dX11_image_5 (by decide) ?_
    refine X_icmp_lt (tgt := 11) hB dX11_image_6 (by decide) (fun c6 => ?_) (fun c6 => ?_)
    · obtain ⟨k, hk31, rfl⟩ := nI_of c1
      have hk : k < 3 := by
        rw [show (3 : Int32) = nI 3 from rfl, nI_ltI hk31 (by omega)] at c6
        omega
      obtain ⟨hKT, hKW⟩ := hX.2.2.2.2.2.2.2 k hk
      obtain ⟨rT, rW⟩ := hS.2.2.2.2.2.2 k hk
      have eK : inN (nI k) 3 = some k := inN_nI hk hk31
      have hor : ∀ d, d < (nDa σ).length → aOr (dat σ d) < 8 := fun d hd => (hN.da hd).1.1
      rw [eK]
      dsimp only
      refine X_aload_n (i := 0) hB dX11_image_11 rfl rfl ?_
      refine X_dup hB dX11_image_12 rfl ?_
      refine X_geti hB cw9 fX11_242 rfl hX.1.1 hX.1.2 dX11_image_13 ?_
      refine X_topi (y := nI (bts pb 8)) (hpb) ?_
      refine X_iconst (v := 1) hB dX11_image_16 (by decide) ?_
      refine X_iload_n (i := 1) hB dX11_image_17 rfl rfl ?_
      refine X_ishl hB dX11_image_18 ?_
      refine X_ior hB dX11_image_19 ?_
      refine X_topi (y := nI (bts (fun j => decide (j = k) || pb j) 8)) (bts_set pb (by omega)) ?_
      refine X_puti hB cw9 fX11_242 rfl rfl hX.1.1 hX.1.2 dX11_image_20 ?_
      have c0 : chg x (x + 1) S (setI S x 6 (nI (bts (fun j => decide (j = k) || pb j) 8))) := chg.setI (Nat.le_refl _) (by omega)
      have hT0 : txC (setI S x 6 (nI (bts (fun j => decide (j = k) || pb j) 8))) (x + 1) B := hT.1.chg c0 (by omega)
      have hw0 : worldR (setI S x 6 (nI (bts (fun j => decide (j = k) || pb j) 8))) (x + 6) σ := hw.chg c0 (by omega)
      have hd0 : txD (setI S x 6 (nI (bts (fun j => decide (j = k) || pb j) 8))) (x + 312 + 154 * k) := (hkd k hk).1.chg c0 (by omega)
      have hW0 : wdD (setI S x 6 (nI (bts (fun j => decide (j = k) || pb j) 8))) (x + 314 + 154 * k) := (hkd k hk).2.chg c0 (by omega)
      refine X_aload_n (i := 0) hB dX11_image_23 rfl rfl ?_
      refine X_getr hB cw9 fX11_33 rfl hX.1.1 hX.1.2 hS.2.2.2.2.1 dX11_image_24 ?_
      refine X_iload_n (i := 1) hB dX11_image_27 rfl rfl ?_
      refine X_aaldN hB (k) hX.2.2.2.2.2.1.1 hX.2.2.2.2.2.1.2 (by decide) rfl (by decide) rfl hk (show (setI S x 6 (nI (bts (fun j => decide (j = k) || pb j) 8))).2.2 (x + 310) k = some (x + 312 + 154 * k) from rT) dX11_image_28 ?_
      refine X_aload_n (i := 0) hB dX11_image_29 rfl rfl ?_
      refine X_getr hB cw9 fX11_10 rfl hX.1.1 hX.1.2 hS.1 dX11_image_30 ?_
      refine X_callV hB kX11_245 cw7 hKT.1.1 hKT.1.2 (c_X9_copyFrom (x + 312 + 154 * k) (x + 1) hKT hX.2.1 (by omega) hd0 B hT0) (by decide) (by decide) rfl rfl (Nat.le_of_ble_eq_true rfl) dX11_image_33 (fun r33 S33 q33 => ?_)
      obtain ⟨rfl, k1, k2, k3, k4, k5⟩ := q33
      refine X_aload_n (i := 0) hB dX11_image_36 rfl rfl ?_
      refine X_getr hB cw9 fX11_37 rfl hX.1.1 hX.1.2 (show S33.2.2 x 5 = some (x + 311) by rw [k2]; exact hS.2.2.2.2.2.1) dX11_image_37 ?_
      refine X_iload_n (i := 1) hB dX11_image_40 rfl rfl ?_
      refine X_aaldN hB (k) hX.2.2.2.2.2.2.1.1 hX.2.2.2.2.2.2.1.2 (by decide) rfl (by decide) rfl hk (show S33.2.2 (x + 311) k = some (x + 314 + 154 * k) by rw [k2]; exact rW) dX11_image_41 ?_
      refine X_aload_n (i := 0) hB dX11_image_42 rfl rfl ?_
      refine X_getr hB cw9 fX11_26 rfl hX.1.1 hX.1.2 (show S33.2.2 x 2 = some (x + 6) by rw [k2]; exact hS.2.2.1) dX11_image_43 ?_
      refine X_callV hB kX11_224 cw8 hKW.1.1 hKW.1.2 (c_X10_copyFrom (x + 314 + 154 * k) (x + 6) hKW hW (by omega) σ (hW0.chg k1 (by omega)) (hw0.chg k1 (by omega)) hor) (by decide) (by decide) rfl rfl (Nat.le_of_ble_eq_true rfl) dX11_image_46 (fun r46 S46 q46 => ?_)
      obtain ⟨rfl, m1, m2⟩ := q46
      refine X_iconst (v := 1) hB dX11_image_49 (by decide) ?_
      refine X_zret hB rfl (by first | exact Or.inl rfl | exact Or.inr rfl) dX11_image_50 ?_
      refine ⟨rfl, (k1.mono (by omega) (by omega)).tr (m2.mono (by omega) (by omega)), ⟨k3.chg m2 (by omega), hT.2.1, ?_, ?_⟩, m1⟩
      · rw [(m2 _ (by omega)).1, k4, (c0 _ (by omega)).1]; exact hT.2.2.1
      · rw [(m2 _ (by omega)).1, k5, (c0 _ (by omega)).1]; exact hT.2.2.2
    · refine X_iconst (v := 0) hB dX11_image_9 (by decide) ?_
      refine X_zret hB rfl (by first | exact Or.inl rfl | exact Or.inr rfl) dX11_image_10 ?_
      rw [inN_no (by decide) (Or.inr (Int32.not_lt.mp c6))]
      exact ⟨rfl, rfl⟩
set_option maxRecDepth 100000 in
set_option maxHeartbeats 4000000 in
theorem c_X11_again (x : Nat) (hX : SLay G x) (hS : SF S x) (σ : Net) (hw : worldR S (x + 6) σ) (b : Nat) (hN : wfN σ b) (hTd : txD S (x + 1)) (pb : Nat → Bool) (hpb : S.1 x 6 = nI (bts pb 8)) (σi : Nat → Net) (Bi : Nat → List Nat) (bi : Nat → Nat) (hki : ∀ k, k < 3 → pb k = true → tx13 S (x + 312 + 154 * k) (σi k) (Bi k) ∧ worldR S (x + 314 + 154 * k) (σi k) ∧ wfN (σi k) (bi k)) (v : Int32) : C G mX11_again 6 [.ref x, .int v] S (fun r S' => (match inN v 3 with
  | some k => if pb k then (r = some (.int 1) ∧ (∃ T, chg (x + 1) (x + 3) S T ∧ chg (x + 6) (x + 158) T S') ∧ tx13 S' (x + 1) (σi k) (Bi k) ∧ worldR S' (x + 6) (σi k)) else (r = some (.int 0) ∧ S = S')
  | none => r = some (.int 0) ∧ S = S')) := by
  have hW := hX.2.2.2.1
  have hc8 := hN.1.1.2
  have h40 := hw.l40
  refine C.mk (lv := [some (.ref x), some (.int v)]) (by decide) (Nat.le_of_ble_eq_true rfl) rfl (fun E hB => ?_)
  refine X_iload_n (i := 1) hB dX11_again_0 rfl rfl ?_
  refine X_if_lt (tgt := 20) hB dX11_again_1 (by decide) (fun c1 => ?_) (fun c1 => ?_)
  · refine X_iconst (v := 0) hB dX11_again_20 (by decide) ?_
    refine X_zret hB rfl (by first | exact Or.inl rfl | exact Or.inr rfl) dX11_again_21 ?_
    rw [inN_no (by decide) (Or.inl c1)]
    exact ⟨rfl, rfl⟩
  · refine X_iload_n (i := 1) hB dX11_again_4 rfl rfl ?_
    refine X_iconst (v := 3) hB dX11_again_5 (by decide) ?_
    refine X_icmp_ge (tgt := 20) hB dX11_again_6 (by decide) (fun c6 => ?_) (fun c6 => ?_)
    · refine X_iconst (v := 0) hB dX11_again_20 (by decide) ?_
      refine X_zret hB rfl (by first | exact Or.inl rfl | exact Or.inr rfl) dX11_again_21 ?_
      rw [inN_no (by decide) (Or.inr c6)]
      exact ⟨rfl, rfl⟩
    · obtain ⟨k, hk31, rfl⟩ := nI_of c1
      have hk : k < 3 := by
        rw [show (3 : Int32) = nI 3 from rfl, nI_leI (by omega) hk31] at c6
        omega
      obtain ⟨hKT, hKW⟩ := hX.2.2.2.2.2.2.2 k hk
      obtain ⟨rT, rW⟩ := hS.2.2.2.2.2.2 k hk
      have eK : inN (nI k) 3 = some k := inN_nI hk hk31
      rw [eK]
      dsimp only
      refine X_aload_n (i := 0) hB dX11_again_9 rfl rfl ?_
      refine X_geti hB cw9 fX11_242 rfl hX.1.1 hX.1.2 dX11_again_10 ?_
      refine X_topi (y := nI (bts pb 8)) (hpb) ?_
      refine X_iload_n (i := 1) hB dX11_again_13 rfl rfl ?_
      refine X_ishr hB dX11_again_14 ?_
      refine X_iconst (v := 1) hB dX11_again_15 (by decide) ?_
      refine X_iand hB dX11_again_16 ?_
      refine X_topi (y := if pb k then 1 else 0) (bts_tst _ (by omega)) ?_
      refine X_if_ne (tgt := 22) hB dX11_again_17 (by decide) (fun c17 => ?_) (fun c17 => ?_)
      · have ep : pb k = true := if1 c17
        simp only [if_pos ep]
        obtain ⟨iT, iW, iN⟩ := hki k hk ep
        have hor : ∀ d, d < (nDa (σi k)).length → aOr (dat (σi k) d) < 8 := fun d hd => (iN.da hd).1.1
        refine X_aload_n (i := 0) hB dX11_again_22 rfl rfl ?_
        refine X_getr hB cw9 fX11_10 rfl hX.1.1 hX.1.2 hS.1 dX11_again_23 ?_
        refine X_aload_n (i := 0) hB dX11_again_26 rfl rfl ?_
        refine X_getr hB cw9 fX11_33 rfl hX.1.1 hX.1.2 hS.2.2.2.2.1 dX11_again_27 ?_
        refine X_iload_n (i := 1) hB dX11_again_30 rfl rfl ?_
        refine X_aaldN hB (k) hX.2.2.2.2.2.1.1 hX.2.2.2.2.2.1.2 (by decide) rfl (by decide) rfl hk (show S.2.2 (x + 310) k = some (x + 312 + 154 * k) from rT) dX11_again_31 ?_
        refine X_callV hB kX11_245 cw7 hX.2.1.1.1 hX.2.1.1.2 (c_X9_copyFrom (x + 1) (x + 312 + 154 * k) hX.2.1 hKT (by omega) hTd (Bi k) iT.1) (by decide) (by decide) rfl rfl (Nat.le_of_ble_eq_true rfl) dX11_again_32 (fun r32 S32 q32 => ?_)
        obtain ⟨rfl, k1, k2, k3, k4, k5⟩ := q32
        refine X_aload_n (i := 0) hB dX11_again_35 rfl rfl ?_
        refine X_getr hB cw9 fX11_26 rfl hX.1.1 hX.1.2 (show S32.2.2 x 2 = some (x + 6) by rw [k2]; exact hS.2.2.1) dX11_again_36 ?_
        refine X_aload_n (i := 0) hB dX11_again_39 rfl rfl ?_
        refine X_getr hB cw9 fX11_37 rfl hX.1.1 hX.1.2 (show S32.2.2 x 5 = some (x + 311) by rw [k2]; exact hS.2.2.2.2.2.1) dX11_again_40 ?_
        refine X_iload_n (i := 1) hB dX11_again_43 rfl rfl ?_
        refine X_aaldN hB (k) hX.2.2.2.2.2.2.1.1 hX.2.2.2.2.2.2.1.2 (by decide) rfl (by decide) rfl hk (show S32.2.2 (x + 311) k = some (x + 314 + 154 * k) by rw [k2]; exact rW) dX11_again_44 ?_
        refine X_callV hB kX11_224 cw8 hW.1.1 hW.1.2 (c_X10_copyFrom (x + 6) (x + 314 + 154 * k) hW hKW (by omega) (σi k) (hw.D.chg k1 (by omega)) (iW.chg k1 (by omega)) hor) (by decide) (by decide) rfl rfl (Nat.le_of_ble_eq_true rfl) dX11_again_45 (fun r45 S45 q45 => ?_)
        obtain ⟨rfl, m1, m2⟩ := q45
        refine X_iconst (v := 1) hB dX11_again_48 (by decide) ?_
        refine X_zret hB rfl (by first | exact Or.inl rfl | exact Or.inr rfl) dX11_again_49 ?_
        refine ⟨rfl, ⟨S32, k1, m2⟩, ⟨k3.chg m2 (by omega), iT.2.1, ?_, ?_⟩, m1⟩
        · rw [(m2 _ (by omega)).1, k4]; exact iT.2.2.1
        · rw [(m2 _ (by omega)).1, k5]; exact iT.2.2.2
      · refine X_iconst (v := 0) hB dX11_again_20 (by decide) ?_
        refine X_zret hB rfl (by first | exact Or.inl rfl | exact Or.inr rfl) dX11_again_21 ?_
        rw [if_neg (if1n c17)]
        exact ⟨rfl, rfl⟩
set_option maxRecDepth 100000 in
set_option maxHeartbeats 4000000 in
theorem c_X11_net {q v : Nat} (hZ : ∀ U, gZ G U → zW G q v U) {tL tM : Nat} (hZL : ∀ U, gZ G U → zT G "LEAST" tL aL U) (hZM : ∀ U, gZ G U → zT G "MOST" tM aM U) {tF : Nat} (hZF : ∀ U, gZ G U → zT G "AT_FIRST" tF aF U) (x : Nat) (hX : SLay G x) (hS : SF S x) (σ : Net) (hw : worldR S (x + 6) σ) (b : Nat) (hN : wfN σ b) (h0 : S.2.2 (x + 3) 0 = some (x + 3 + 1)) (h11 : S.2.2 (x + 3) 11 = some (x + 3 + 2)) (B : List Nat) (hT : txC S (x + 1) B) (se : Nat → Nat) : C G mX11_net 7 [.ref x] S (fun r S' => r = some (.int (if (reaF B).1 = 0 then nI (pSe (reaF B).2.2 0) else -1)) ∧ chg (x + 1) (x + 158) S S' ∧ S'.2.2 (x + 3) 0 = some (x + 3 + 1) ∧ S'.2.2 (x + 3) 11 = some (x + 3 + 2) ∧ txC S' (x + 1) [] ∧ S'.1 (x + 1) 2 = nI (reaF B).1 ∧ S'.1 (x + 1) 3 = akN (reaF B).2.1 ∧ worldR S' (x + 6) (if (reaF B).1 = 0 then nwN (reaF B).2.2 se else σ)) := by
  have hW := hX.2.2.2.1
  have hc8 := hN.1.1.2
  have h40 := hw.l40
  have hR := hX.2.2.1
  have hTL := hX.2.1
  refine C.mk (lv := [some (.ref x)]) (by decide) (Nat.le_of_ble_eq_true rfl) rfl (fun E hB => ?_)
  refine X_aload_n (i := 0) hB dX11_net_0 rfl rfl ?_
  refine X_getr hB cw9 fX11_19 rfl hX.1.1 hX.1.2 hS.2.1 dX11_net_1 ?_
  refine X_aload_n (i := 0) hB dX11_net_4 rfl rfl ?_
  refine X_getr hB cw9 fX11_10 rfl hX.1.1 hX.1.2 hS.1 dX11_net_5 ?_
  refine X_callV hB kX11_52 cw5 hX.2.2.1.1.1 hX.2.2.1.1.2 (c_X6_readAll hZ hZL hZM hZF (x + 3) (x + 1) hR hTL (by omega) B h0 h11 hT) (by decide) (by decide) rfl rfl (Nat.le_of_ble_eq_true rfl) dX11_net_8 (fun r8 S8 q8 => ?_)
  obtain ⟨rfl, k1, k2, k3, k4, k5⟩ := q8
  have kx := k1 x (by omega)
  have u1 : S8.2.2 x 0 = some (x + 1) := by rw [kx.2.2]; exact hS.1
  have u2 : S8.2.2 x 1 = some (x + 3) := by rw [kx.2.2]; exact hS.2.1
  have u3 : S8.2.2 x 2 = some (x + 6) := by rw [kx.2.2]; exact hS.2.2.1
  have hf4 : reaF B = reaF B := rfl
  refine X_aload_n (i := 0) hB dX11_net_11 rfl rfl ?_
  refine X_getr hB cw9 fX11_10 rfl hX.1.1 hX.1.2 u1 dX11_net_12 ?_
  refine X_iconst (v := 0) hB dX11_net_15 (by decide) ?_
  refine X_puti hB cw7 fX11_56 rfl rfl hX.2.1.1.1 hX.2.1.1.2 dX11_net_16 ?_
  refine X_aload_n (i := 0) hB dX11_net_19 rfl rfl ?_
  refine X_getr hB cw9 fX11_10 rfl hX.1.1 hX.1.2 u1 dX11_net_20 ?_
  refine X_aload_n (i := 0) hB dX11_net_23 rfl rfl ?_
  refine X_getr hB cw9 fX11_19 rfl hX.1.1 hX.1.2 u2 dX11_net_24 ?_
  refine X_geti hB cw5 fX11_60 rfl hX.2.2.1.1.1 hX.2.2.1.1.2 dX11_net_27 ?_
  have e30 : (setI S8 (x + 1) 1 0).1 (x + 3) 4 = S8.1 (x + 3) 4 := setI_ne _ _ (Or.inl (by omega))
  rw [e30]
  refine X_puti hB cw7 fX11_63 rfl rfl hX.2.1.1.1 hX.2.1.1.2 dX11_net_30 ?_
  refine X_aload_n (i := 0) hB dX11_net_33 rfl rfl ?_
  refine X_getr hB cw9 fX11_10 rfl hX.1.1 hX.1.2 u1 dX11_net_34 ?_
  refine X_aload_n (i := 0) hB dX11_net_37 rfl rfl ?_
  refine X_getr hB cw9 fX11_19 rfl hX.1.1 hX.1.2 u2 dX11_net_38 ?_
  refine X_geti hB cw5 fX11_64 rfl hX.2.2.1.1.1 hX.2.2.1.1.2 dX11_net_41 ?_
  have e44 : (setI (setI S8 (x + 1) 1 0) (x + 1) 2 (S8.1 (x + 3) 4)).1 (x + 3) 5 = S8.1 (x + 3) 5 := (setI_ne _ _ (Or.inl (by omega))).trans (setI_ne _ _ (Or.inl (by omega)))
  rw [e44]
  refine X_puti hB cw7 fX11_67 rfl rfl hX.2.1.1.1 hX.2.1.1.2 dX11_net_44 ?_
  have cU : chg (x + 1) (x + 2) S8 (setI (setI (setI S8 (x + 1) 1 0) (x + 1) 2 (S8.1 (x + 3) 4)) (x + 1) 3 (S8.1 (x + 3) 5)) := ((chg.setI (Nat.le_refl _) (by omega)).tr (chg.setI (Nat.le_refl _) (by omega))).tr (chg.setI (Nat.le_refl _) (by omega))
  have v2 : (setI (setI (setI S8 (x + 1) 1 0) (x + 1) 2 (S8.1 (x + 3) 4)) (x + 1) 3 (S8.1 (x + 3) 5)).1 (x + 1) 2 = nI (reaF B).1 := by rw [setI_ne _ _ (Or.inr (by decide)), setI_at]; exact k3
  have v3 : (setI (setI (setI S8 (x + 1) 1 0) (x + 1) 2 (S8.1 (x + 3) 4)) (x + 1) 3 (S8.1 (x + 3) 5)).1 (x + 1) 3 = akN (reaF B).2.1 := by rw [setI_at]; exact k4
  have v1 : (setI (setI (setI S8 (x + 1) 1 0) (x + 1) 2 (S8.1 (x + 3) 4)) (x + 1) 3 (S8.1 (x + 3) 5)).1 (x + 1) 1 = 0 := by rw [setI_ne _ _ (Or.inr (by decide)), setI_ne _ _ (Or.inr (by decide)), setI_at]
  have vR : (setI (setI (setI S8 (x + 1) 1 0) (x + 1) 2 (S8.1 (x + 3) 4)) (x + 1) 3 (S8.1 (x + 3) 5)).2.2 = S8.2.2 := rfl
  have hTx : txC (setI (setI (setI S8 (x + 1) 1 0) (x + 1) 2 (S8.1 (x + 3) 4)) (x + 1) 3 (S8.1 (x + 3) 5)) (x + 1) [] := by
    have h8 := (hT.chg k1 (by omega)).1
    refine ⟨⟨h8.1, fun i hi => ?_⟩, v1, Nat.zero_le _, fun c hc => absurd hc List.not_mem_nil, fun i hi => absurd hi (Nat.not_lt_zero _)⟩
    rw [(cU (x + 1 + 1) (by omega)).1]; exact h8.2 i hi
  generalize (setI (setI (setI S8 (x + 1) 1 0) (x + 1) 2 (S8.1 (x + 3) 4)) (x + 1) 3 (S8.1 (x + 3) 5)) = U1 at cU v2 v3 v1 vR hTx ⊢
  have u1 : U1.2.2 x 0 = some (x + 1) := by rw [vR]; exact u1
  have u2 : U1.2.2 x 1 = some (x + 3) := by rw [vR]; exact u2
  have u3 : U1.2.2 x 2 = some (x + 6) := by rw [vR]; exact u3
  have c2 : chg (x + 1) (x + 6) S U1 := (k1.mono (by omega) (by omega)).tr (cU.mono (by omega) (by omega))
  have hw2 : worldR U1 (x + 6) σ := hw.chg c2 (by omega)
  have r0 : U1.2.2 (x + 3) 0 = some (x + 3 + 1) := by rw [vR]; exact k2.1
  have r11 : U1.2.2 (x + 3) 11 = some (x + 3 + 2) := by rw [vR]; exact k2.2.1
  refine X_aload_n (i := 0) hB dX11_net_47 rfl rfl ?_
  refine X_getr hB cw9 fX11_19 rfl hX.1.1 hX.1.2 u2 dX11_net_48 ?_
  refine X_geti hB cw5 fX11_60 rfl hX.2.2.1.1.1 hX.2.2.1.1.2 dX11_net_51 ?_
  refine X_topi (y := nI (reaF B).1) ((congrFun (cU _ (by omega)).1 4).trans k3) ?_
  refine X_if_eq (tgt := 59) hB dX11_net_54 (by decide) (fun c54 => ?_) (fun c54 => ?_)
  · have hf0 : (reaF B).1 = 0 := reaF_z c54
    obtain ⟨hse, hup, -, -⟩ := reaF_W hf0
    have hE : prE U1 (x + 3) (reaF B).2.2 := by
      have hE := k5 hf0
      have a3 := cU (x + 3) (by omega)
      have a4 := cU (x + 3 + 1) (by omega)
      unfold prE at hE ⊢
      rw [a3.1, a3.2.1, a4.1]
      exact hE
    refine X_aload_n (i := 0) hB dX11_net_59 rfl rfl ?_
    refine X_getr hB cw9 fX11_26 rfl hX.1.1 hX.1.2 u3 dX11_net_60 ?_
    refine X_aload_n (i := 0) hB dX11_net_63 rfl rfl ?_
    refine X_getr hB cw9 fX11_19 rfl hX.1.1 hX.1.2 u2 dX11_net_64 ?_
    refine X_callV hB kX11_44 cw8 hW.1.1 hW.1.2 (c_X10_become (x + 6) (x + 3) hW hR (by omega) hw2.D (by obtain ⟨s, p, ha⟩ := hw2.2.2.1; exact ⟨s, ha.1, ha.2.1⟩) r0 (reaF B).2.2 se hse hE) (by decide) (by decide) rfl rfl (Nat.le_of_ble_eq_true rfl) dX11_net_67 (fun r67 S67 q67 => ?_)
    obtain ⟨rfl, m2, m3⟩ := q67
    have u4 : S67.2.2 x 2 = some (x + 6) := by rw [m3.2.1]; exact u3
    refine X_aload_n (i := 0) hB dX11_net_70 rfl rfl ?_
    refine X_getr hB cw9 fX11_26 rfl hX.1.1 hX.1.2 u4 dX11_net_71 ?_
    refine X_getr hB cw8 fX11_68 rfl hW.1.1 hW.1.2 m2.1.1 dX11_net_74 ?_
    refine X_iconst (v := 0) hB dX11_net_77 (by decide) ?_
    refine X_ialdN hB (0) hW.2.1.1 hW.2.1.2 (by decide) rfl (by decide) (m2.2.1.1 0 (by decide)) dX11_net_78 ?_
    refine X_iret hB rfl dX11_net_79 ?_
    rw [if_pos hf0, if_pos hf0]
    refine ⟨rfl, (c2.mono (by omega) (by omega)).tr (m3.1.mono (by omega) (by omega)), ?_, ?_, hTx.chg m3.1 (by omega), ?_, ?_, m2⟩
    · rw [m3.2.1]; exact r0
    · rw [m3.2.1]; exact r11
    · rw [(m3.1 _ (by omega)).1]; exact v2
    · rw [(m3.1 _ (by omega)).1]; exact v3
  · refine X_iconst (v := (-1)) hB dX11_net_57 (by decide) ?_
    refine X_iret hB rfl dX11_net_58 ?_
    have hf0 : ¬ (reaF B).1 = 0 := fun z => c54 (by rw [z]; rfl)
    rw [if_neg hf0, if_neg hf0]
    exact ⟨rfl, c2.mono (by omega) (by omega), r0, r11, hTx, v2, v3, hw2⟩
end CLS
