/-! the class: frames are sent, data are done, nodes ask and serve -/
section CLS
variable {G : Gc} {S : St}
set_option maxRecDepth 100000 in
set_option maxHeartbeats 4000000 in
theorem c_X10_emit (w : Nat) (hW : WLay G w) (σ : Net) (hw : worldR S w σ) (s : Nat) (p : Nat → Nat) (ha : arR S w σ s p) (k : Nat) (hk : k ≤ 3) (fr t b : Int32) (v : Int64) : C G mX10_emit 1 [.ref w, .int (nI k), .int fr, .int t, .int b, .long v] S (fun r S' => if (nAir σ).length = 40 then r = some .null ∧ S' = setI S (w + 2) 8 (nI (nTa σ 8 + 1)) else r = some (.ref (p ((s + (nAir σ).length) % 40))) ∧ emD S S' w σ (p ((s + (nAir σ).length) % 40)) k ∧ S'.1 (p ((s + (nAir σ).length) % 40)) 0 = nI k ∧ S'.1 (p ((s + (nAir σ).length) % 40)) 1 = fr ∧ S'.1 (p ((s + (nAir σ).length) % 40)) 2 = t ∧ S'.1 (p ((s + (nAir σ).length) % 40)) 3 = b ∧ S'.1 (p ((s + (nAir σ).length) % 40)) 4 = -1 ∧ S'.1 (p ((s + (nAir σ).length) % 40)) 5 = -1 ∧ S'.2.1 (p ((s + (nAir σ).length) % 40)) 6 = v) := by
  have h40 := hw.l40.1
  have hs := ha.1
  have hq := ha.2.2.2.2.2.1 ((s + (nAir σ).length) % 40) (by omega)
  have hfr := hW.2.2.2.2.2.1 _ hq.1 hq.2
  refine C.mk (lv := [some (.ref w), some (.int (nI k)), some (.int fr), some (.int t), some (.int b), some (.long v), none, none]) (by decide) (Nat.le_of_ble_eq_true rfl) rfl (fun E hB => ?_)
  refine X_aload_n (i := 0) hB dX10_emit_0 rfl rfl ?_
  refine X_getr hB cw8 fX10_21 rfl hW.1.1 hW.1.2 hw.1.2.2.1 dX10_emit_1 ?_
  refine X_callV hB kX10_244 cw0 hW.2.2.2.1.1 hW.2.2.2.1.2 (c_X0_add w hW σ hw s p ha) (by decide) (by decide) rfl rfl (Nat.le_of_ble_eq_true rfl) dX10_emit_4 (fun r4 S4 q4 => ?_)
  by_cases hl : (nAir σ).length = 40
  · rw [if_pos hl] at q4
    obtain ⟨rfl, rfl⟩ := q4
    refine X_astoreN hB dX10_emit_7 (by decide) rfl ?_
    refine X_aloadN hB dX10_emit_9 rfl ?_
    refine X_ifnonnullN hB dX10_emit_11 ?_
    refine X_aload_n (i := 0) hB dX10_emit_14 rfl rfl ?_
    refine X_getr hB cw8 fX10_15 rfl hW.1.1 hW.1.2 hw.1.2.1 dX10_emit_15 ?_
    refine X_bipush (v := 8) hB dX10_emit_18 (by decide) ?_
    refine X_dup2_11 hB dX10_emit_20 rfl rfl ?_
    refine X_ialdN hB (8) hW.2.2.1.1 hW.2.2.1.2 (by decide) rfl (by omega) (hw.2.1.2.1 8 (by decide)) dX10_emit_21 ?_
    refine X_iconst (v := 1) hB dX10_emit_22 (by decide) ?_
    refine X_iadd hB dX10_emit_23 ?_
    refine X_topi (y := nI (nTa σ 8 + 1)) (by first | rfl | (simp (disch := omega) only [nlit, nI_add, nI_mul, nI_sub]; done) | (simp (disch := omega) only [nlit, nI_add, nI_mul, nI_sub]; (congr 1 <;> omega))) ?_
    refine X_iastN hB (8) hW.2.2.1.1 hW.2.2.1.2 (by decide) rfl (by omega) dX10_emit_24 ?_
    refine X_null hB dX10_emit_25 ?_
    refine X_aret (v := none) hB rfl dX10_emit_26 ?_
    rw [if_pos hl]
    exact ⟨rfl, rfl⟩
  · rw [if_neg hl] at q4
    obtain ⟨rfl, rfl⟩ := q4
    refine X_astore hB dX10_emit_7 (by decide) rfl ?_
    refine X_aload hB dX10_emit_9 rfl ?_
    refine X_ifnonnull (tgt := 27) hB dX10_emit_11 (by decide) ?_
    refine X_aload hB dX10_emit_27 rfl ?_
    refine X_iload_n (i := 1) hB dX10_emit_29 rfl rfl ?_
    refine X_iload_n (i := 2) hB dX10_emit_30 rfl rfl ?_
    refine X_iload_n (i := 3) hB dX10_emit_31 rfl rfl ?_
    refine X_iload hB dX10_emit_32 rfl ?_
    refine X_lload hB dX10_emit_34 rfl ?_
    refine X_callV hB kX10_247 cw3 hfr.1 hfr.2 (c_X3_begin (p ((s + (nAir σ).length) % 40)) hfr (nI k) fr t b v) (by decide) (by decide) rfl rfl (Nat.le_of_ble_eq_true rfl) dX10_emit_36 (fun r36 S36 q36 => ?_)
    obtain ⟨rfl, g1, g2, g3⟩ := q36
    have q22 := g1 (w + 2) (by omega)
    have q21 : S36.1 (w + 2) = S.1 (w + 2) := q22.1.trans (setI_row _ _ _ (by omega))
    refine X_iload_n (i := 1) hB dX10_emit_39 rfl rfl ?_
    refine X_if_lt (tgt := 59) hB dX10_emit_40 (by decide) (fun c40 => absurd c40 (nI_pos (by omega))) (fun c40 => ?_)
    refine X_iload_n (i := 1) hB dX10_emit_43 rfl rfl ?_
    refine X_bipush (v := 11) hB dX10_emit_44 (by decide) ?_
    refine X_icmp_ge (tgt := 59) hB dX10_emit_46 (by decide) (fun c46 => absurd c46 (by simp (disch := omega) only [nlit, nI_leI, nI_ltI]; omega)) (fun c46 => ?_)
    refine X_aload_n (i := 0) hB dX10_emit_49 rfl rfl ?_
    refine X_getr hB cw8 fX10_15 rfl hW.1.1 hW.1.2 (show S36.2.2 w 1 = some (w + 2) by rw [g2]; exact hw.1.2.1) dX10_emit_50 ?_
    refine X_iload_n (i := 1) hB dX10_emit_53 rfl rfl ?_
    refine X_dup2_11 hB dX10_emit_54 rfl rfl ?_
    refine X_ialdN hB (k) hW.2.2.1.1 hW.2.2.1.2 (by decide) rfl (by omega) (show _ = nI (nTa σ k) by rw [q21]; exact hw.2.1.2.1 k (by omega)) dX10_emit_55 ?_
    refine X_iconst (v := 1) hB dX10_emit_56 (by decide) ?_
    refine X_iadd hB dX10_emit_57 ?_
    refine X_topi (y := nI (nTa σ k + 1)) (by first | rfl | (simp (disch := omega) only [nlit, nI_add, nI_mul, nI_sub]; done) | (simp (disch := omega) only [nlit, nI_add, nI_mul, nI_sub]; (congr 1 <;> omega))) ?_
    refine X_iastN hB (k) hW.2.2.1.1 hW.2.2.1.2 (by decide) rfl (by omega) dX10_emit_58 ?_
    refine X_aload hB dX10_emit_59 rfl ?_
    refine X_aret (v := some (p ((s + (nAir σ).length) % 40))) hB rfl dX10_emit_61 ?_
    rw [if_neg hl]
    refine ⟨rfl, ⟨?_, ?_, ?_, ?_, ?_, fun b h1 h2 h3 => ?_⟩, ?_⟩
    · show S36.2.2 = S.2.2
      rw [g2]; rfl
    · rw [setI_ne _ _ (Or.inl (by omega)), (g1 (w + 3) (by omega)).1, setI_ne _ _ (Or.inr (by decide))]
    · rw [setI_ne _ _ (Or.inl (by omega)), (g1 (w + 3) (by omega)).1, setI_at]
    · rw [setI_rowI, rowI_at, q21]
    · show S36.2.1 (w + 2) = S.2.1 (w + 2)
      rw [q22.2.1]; rfl
    · refine ⟨?_, ?_⟩
      · rw [setI_row _ _ _ h3, (g1 b (by omega)).1, setI_row _ _ _ h1]
      · show S36.2.1 b = S.2.1 b
        rw [(g1 b (by omega)).2.1]; rfl
    · rw [setI_row _ _ _ (show (p ((s + (nAir σ).length) % 40)) ≠ w + 2 by omega)]
      exact g3
set_option maxRecDepth 100000 in
set_option maxHeartbeats 4000000 in
theorem c_emitF (w : Nat) (hW : WLay G w) (σ : Net) (hw : worldR S w σ) (f : Fm) (hf3 : fKi f ≤ 3) (hf1 : fKi f ≠ 1) : C G mX10_emit 1 [.ref w, .int (nI (fKi f)), .int (nI (fFr f)), .int (whom σ f), .int (whatF f), .long (rJ (frL σ f))] S (fun r S' => (r = some .null ∧ (sendF σ f).2 = false ∨ (∃ a, r = some (.ref a)) ∧ (sendF σ f).2 = true) ∧ worldR S' w (sendF σ f).1 ∧ wch w S S') := by
  obtain ⟨s, p, ha⟩ := hw.2.2.1
  refine C.mono (c_X10_emit w hW σ hw s p ha (fKi f) hf3 (nI (fFr f)) (whom σ f) (whatF f) (rJ (frL σ f))) (fun r S' q => ?_)
  have h40 := hw.l40.1
  by_cases hl : (nAir σ).length = 40
  · rw [if_pos hl] at q
    obtain ⟨rfl, rfl⟩ := q
    exact ⟨Or.inl ⟨rfl, by unfold sendF; rw [if_pos hl]⟩, jam_world hw hl⟩
  · rw [if_neg hl] at q
    obtain ⟨rfl, g1, g2⟩ := q
    refine ⟨Or.inr ⟨⟨_, rfl⟩, by unfold sendF; rw [if_neg hl]⟩, em_world hw ha (by omega) (by omega) g1 ?_⟩
    obtain ⟨k0, k1, k2, k3, k4, k5, k6⟩ := g2
    exact ⟨k0, k1, k2, k3, by rw [if_neg hf1]; exact k4, by rw [if_neg hf1]; exact k5, k6⟩
set_option maxRecDepth 100000 in
set_option maxHeartbeats 4000000 in
theorem c_X10_emitRequest (w : Nat) (hW : WLay G w) (σ : Net) (hw : worldR S w σ) (f : Fm) (hf1 : fKi f = 1) : C G mX10_emitRequest 2 [.ref w, .int (nI (fFr f)), .int (nI (fAb f)), .int (nI (fNu f)), .int (lkN (fLk f)), .long (rJ (fRo f))] S (fun r S' => r = none ∧ worldR S' w (sendF σ f).1 ∧ wch w S S') := by
  obtain ⟨s, p, ha⟩ := hw.2.2.1
  have h40 := hw.l40.1
  have hs := ha.1
  have hq := ha.2.2.2.2.2.1 ((s + (nAir σ).length) % 40) (by omega)
  have hfr := hW.2.2.2.2.2.1 _ hq.1 hq.2
  refine C.mk (lv := [some (.ref w), some (.int (nI (fFr f))), some (.int (nI (fAb f))), some (.int (nI (fNu f))), some (.int (lkN (fLk f))), some (.long (rJ (fRo f))), none, none]) (by decide) (Nat.le_of_ble_eq_true rfl) rfl (fun E hB => ?_)
  refine X_aload_n (i := 0) hB dX10_emitRequest_0 rfl rfl ?_
  refine X_iconst (v := 1) hB dX10_emitRequest_1 (by decide) ?_
  refine X_iload_n (i := 1) hB dX10_emitRequest_2 rfl rfl ?_
  refine X_iconst (v := (-1)) hB dX10_emitRequest_3 (by decide) ?_
  refine X_iload_n (i := 2) hB dX10_emitRequest_4 rfl rfl ?_
  refine X_lload hB dX10_emitRequest_5 rfl ?_
  refine X_callV hB kX10_250 cw8 hW.1.1 hW.1.2 (c_X10_emit w hW σ hw s p ha 1 (by decide) (nI (fFr f)) (-1) (nI (fAb f)) (rJ (fRo f))) (by decide) (by decide) rfl rfl (Nat.le_of_ble_eq_true rfl) dX10_emitRequest_7 (fun r7 S7 q7 => ?_)
  by_cases hl : (nAir σ).length = 40
  · rw [if_pos hl] at q7
    obtain ⟨rfl, rfl⟩ := q7
    refine X_astoreN hB dX10_emitRequest_10 (by decide) rfl ?_
    refine X_aloadN hB dX10_emitRequest_12 rfl ?_
    refine X_ifnullN (tgt := 30) hB dX10_emitRequest_14 (by decide) ?_
    refine X_vret hB rfl dX10_emitRequest_30 ?_
    exact ⟨rfl, jam_world hw hl⟩
  · rw [if_neg hl] at q7
    obtain ⟨rfl, g1, g2⟩ := q7
    refine X_astore hB dX10_emitRequest_10 (by decide) rfl ?_
    refine X_aload hB dX10_emitRequest_12 rfl ?_
    refine X_ifnull hB dX10_emitRequest_14 ?_
    refine X_aload hB dX10_emitRequest_17 rfl ?_
    refine X_iload_n (i := 3) hB dX10_emitRequest_19 rfl rfl ?_
    refine X_puti hB cw3 fX10_254 rfl rfl hfr.1 hfr.2 dX10_emitRequest_20 ?_
    refine X_aload hB dX10_emitRequest_23 rfl ?_
    refine X_iload hB dX10_emitRequest_25 rfl ?_
    refine X_puti hB cw3 fX10_255 rfl rfl hfr.1 hfr.2 dX10_emitRequest_27 ?_
    refine X_vret hB rfl dX10_emitRequest_30 ?_
    refine ⟨rfl, em_world hw ha (by omega) (by omega) ?_ ?_⟩
    · obtain ⟨e1, e2, e3, e4, e5, e6⟩ := g1
      rw [hf1]
      refine ⟨e1, by rw [setI_ne _ _ (Or.inl (by omega)), setI_ne _ _ (Or.inl (by omega))]; exact e2, by rw [setI_ne _ _ (Or.inl (by omega)), setI_ne _ _ (Or.inl (by omega))]; exact e3, by rw [setI_row _ _ _ (by omega), setI_row _ _ _ (by omega)]; exact e4, e5, fun b h1 h2 h3 => ?_⟩
      rw [setI_row _ _ _ h2, setI_row _ _ _ h2]
      exact e6 b h1 h2 h3
    · obtain ⟨k0, k1, k2, k3, k4, k5, k6⟩ := g2
      refine ⟨?_, ?_, ?_, ?_, ?_, ?_, ?_⟩
      · rw [setI_ne _ _ (Or.inr (by decide)), setI_ne _ _ (Or.inr (by decide)), hf1]; exact k0
      · rw [setI_ne _ _ (Or.inr (by decide)), setI_ne _ _ (Or.inr (by decide))]; exact k1
      · rw [setI_ne _ _ (Or.inr (by decide)), setI_ne _ _ (Or.inr (by decide)), k2]; unfold whom; rw [if_neg (by omega), if_pos hf1]
      · rw [setI_ne _ _ (Or.inr (by decide)), setI_ne _ _ (Or.inr (by decide)), k3]; unfold whatF; rw [if_neg (by omega), if_neg (by omega)]
      · rw [setI_ne _ _ (Or.inr (by decide)), setI_at, if_pos hf1]
      · rw [setI_at, if_pos hf1]
      · show S7.2.1 (p ((s + (nAir σ).length) % 40)) 6 = _
        rw [k6]; unfold frL; rw [if_neg (by omega)]
set_option maxRecDepth 100000 in
set_option maxHeartbeats 4000000 in
theorem c_X10_emitReply (w : Nat) (hW : WLay G w) (σ : Net) (hw : worldR S w σ) (x : Nat) (ro : List Nat) (hx : x < 8) (hro : okR ro) (hin : x ∈ ro) (h0 : ro.getD 0 0 ≠ x) : C G mX10_emitReply 2 [.ref w, .int (nI x), .long (rJ ro)] S (fun r S' => r = none ∧ worldR S' w (sendF σ (2, x, 0, 0, none, ro)).1 ∧ wch w S S') := by
  have h8 := hro.1
  have hix := List.idxOf_lt_length_of_mem hin
  have hi1 : 1 ≤ ro.idxOf x := Nat.pos_of_ne_zero (fun q => h0 (by
    have := List.getElem_idxOf hix
    rw [getD_lt (by omega)]
    simpa [q] using this))
  have ex : ixR ro x = nI (ro.idxOf x) := by unfold ixR; rw [if_pos hin]
  refine C.mk (lv := [some (.ref w), some (.int (nI x)), some (.long (rJ ro)), none, none]) (by decide) (Nat.le_of_ble_eq_true rfl) rfl (fun E hB => ?_)
  refine X_lload_n (i := 2) hB dX10_emitReply_0 rfl rfl ?_
  refine X_lload_n (i := 2) hB dX10_emitReply_1 rfl rfl ?_
  refine X_iload_n (i := 1) hB dX10_emitReply_2 rfl rfl ?_
  refine X_callS hB kX10_256 (c_X8_indexOf ro hro x hx) (by decide) (by decide) rfl rfl (Nat.le_of_ble_eq_true rfl) dX10_emitReply_3 (fun r3 S3 q3 => ?_)
  obtain ⟨rfl, rfl⟩ := q3
  refine X_topi (y := nI (ro.idxOf x)) (ex) ?_
  refine X_iconst (v := 1) hB dX10_emitReply_6 (by decide) ?_
  refine X_isub hB dX10_emitReply_7 ?_
  refine X_topi (y := nI (ro.idxOf x - 1)) (by first | rfl | (simp (disch := omega) only [nlit, nI_add, nI_mul, nI_sub]; done) | (simp (disch := omega) only [nlit, nI_add, nI_mul, nI_sub]; (congr 1 <;> omega))) ?_
  refine X_callS hB kX10_259 (c_X8_at ro hro (nI (ro.idxOf x - 1))) (by decide) (by decide) rfl rfl (Nat.le_of_ble_eq_true rfl) dX10_emitReply_8 (fun r8 S8 q8 => ?_)
  obtain ⟨rfl, rfl⟩ := q8
  refine X_topi (y := whom σ (2, x, 0, 0, none, ro)) (nth_in (by omega) h8) ?_
  refine X_istore hB dX10_emitReply_11 (by decide) rfl ?_
  refine X_aload_n (i := 0) hB dX10_emitReply_13 rfl rfl ?_
  refine X_iconst (v := 2) hB dX10_emitReply_14 (by decide) ?_
  refine X_iload_n (i := 1) hB dX10_emitReply_15 rfl rfl ?_
  refine X_iload hB dX10_emitReply_16 rfl ?_
  refine X_lload_n (i := 2) hB dX10_emitReply_18 rfl rfl ?_
  refine X_lload_n (i := 2) hB dX10_emitReply_19 rfl rfl ?_
  refine X_callS hB kX10_174 (c_X8_length ro hro) (by decide) (by decide) rfl rfl (Nat.le_of_ble_eq_true rfl) dX10_emitReply_20 (fun r20 S20 q20 => ?_)
  obtain ⟨rfl, rfl⟩ := q20
  refine X_iconst (v := 1) hB dX10_emitReply_23 (by decide) ?_
  refine X_isub hB dX10_emitReply_24 ?_
  refine X_topi (y := nI (ro.length - 1)) (by first | rfl | (simp (disch := omega) only [nlit, nI_add, nI_mul, nI_sub]; done) | (simp (disch := omega) only [nlit, nI_add, nI_mul, nI_sub]; (congr 1 <;> omega))) ?_
  refine X_callS hB kX10_259 (c_X8_at ro hro (nI (ro.length - 1))) (by decide) (by decide) rfl rfl (Nat.le_of_ble_eq_true rfl) dX10_emitReply_25 (fun r25 S25 q25 => ?_)
  obtain ⟨rfl, rfl⟩ := q25
  refine X_topi (y := whatF (2, x, 0, 0, none, ro)) (nth_in (by omega) h8) ?_
  refine X_lload_n (i := 2) hB dX10_emitReply_28 rfl rfl ?_
  refine X_callV hB kX10_250 cw8 hW.1.1 hW.1.2 (c_emitF w hW σ hw (2, x, 0, 0, none, ro) (by decide : 2 ≤ 3) (by decide : (2 : Nat) ≠ 1)) (by decide) (by decide) rfl rfl (Nat.le_of_ble_eq_true rfl) dX10_emitReply_29 (fun r29 S29 q29 => ?_)
  obtain ⟨hor, g1, g2⟩ := q29
  rcases hor with ⟨rfl, _⟩ | ⟨⟨a, rfl⟩, _⟩
  · refine X_pop hB dX10_emitReply_32 rfl ?_
    refine X_vret hB rfl dX10_emitReply_33 ?_
    exact ⟨rfl, g1, g2⟩
  · refine X_pop hB dX10_emitReply_32 rfl ?_
    refine X_vret hB rfl dX10_emitReply_33 ?_
    exact ⟨rfl, g1, g2⟩
end CLS
