/-! the class: who hears, who shortens -/
theorem upOk.sym {c : Nat} {u : Nat → Nat → Bool} (h : upOk c u) (a b : Nat) : u a b = u b a := by
  cases q : u a b with
  | true => exact (h a b q).2.2.2.symm
  | false =>
    cases r : u b a with
    | false => rfl
    | true => rw [(h b a r).2.2.2] at q; cases q
theorem idx_tail {l : List Nat} {z : Nat} (h1 : 1 ≤ l.length) (h0 : l.getD 0 0 ≠ z) : l.idxOf z = l.tail.idxOf z + 1 := by
  match l, h1 with
  | a :: t, _ =>
    have h0 : a ≠ z := by simpa using h0
    rw [List.idxOf_cons, show (a == z) = false by simpa using h0]
    rfl
theorem mem_tail {l : List Nat} {z : Nat} (h1 : 1 ≤ l.length) (h0 : l.getD 0 0 ≠ z) : z ∈ l ↔ z ∈ l.tail := by
  match l, h1 with
  | a :: t, _ =>
    have h0 : a ≠ z := by simpa using h0
    simp [Ne.symm h0]
section CLS
variable {G : Gc} {S : St}
set_option maxRecDepth 100000 in
set_option maxHeartbeats 4000000 in
theorem c_X10_overhears (w : Nat) (hW : WLay G w) (σ : Net) (hw : worldR S w σ) (hup : ∀ a b, nUp σ a b = nUp σ b a) (z x : Nat) (hz : z < 8) (hx : x < 8) : C G mX10_overhears 2 [.ref w, .int (nI z), .int (nI x)] S (fun r S' => r = some (.int (if (nUp σ z x && dLis (nNd σ z)) = true then 1 else 0)) ∧ S = S') := by
  have hPo := hW.po hz
  refine C.mk (lv := [some (.ref w), some (.int (nI z)), some (.int (nI x))]) (by decide) (Nat.le_of_ble_eq_true rfl) rfl (fun E hB => ?_)
  refine X_aload_n (i := 0) hB dX10_overhears_0 rfl rfl ?_
  refine X_getj hB cw8 fX10_64 rfl hW.1.1 hW.1.2 dX10_overhears_1 ?_
  refine X_iload_n (i := 1) hB dX10_overhears_4 rfl rfl ?_
  refine X_iload_n (i := 2) hB dX10_overhears_5 rfl rfl ?_
  refine X_callS hB kX10_222 (c_X4_hold hw.2.1.2.2.2.2 hz hx (hup z x)) (by decide) (by decide) rfl rfl (Nat.le_of_ble_eq_true rfl) dX10_overhears_6 (fun r6 S6 q6 => ?_)
  obtain ⟨rfl, rfl⟩ := q6
  refine X_if_eq (tgt := 27) hB dX10_overhears_9 (by decide) (fun c9 => ?_) (fun c9 => ?_)
  · refine X_iconst (v := 0) hB dX10_overhears_27 (by decide) ?_
    refine X_zret hB rfl (by first | exact Or.inl rfl | exact Or.inr rfl) dX10_overhears_28 ?_
    rw [if_neg (fun q => if1n c9 (by simp at q; exact q.1))]
    exact ⟨rfl, rfl⟩
  · refine X_aload_n (i := 0) hB dX10_overhears_12 rfl rfl ?_
    refine X_iload_n (i := 1) hB dX10_overhears_13 rfl rfl ?_
    refine X_callV hB kX10_102 cw8 hW.1.1 hW.1.2 (c_X10_post w hW hw.1 z hz) (by decide) (by decide) rfl rfl (Nat.le_of_ble_eq_true rfl) dX10_overhears_14 (fun r14 S14 q14 => ?_)
    obtain ⟨rfl, rfl⟩ := q14
    refine X_geti hB cw4 fX10_116 rfl hPo.1.1 hPo.1.2 dX10_overhears_17 ?_
    refine X_topi (y := if dLis (nNd σ z) then 1 else 0) ((hw.po hz).2.1.2.2.2.2.1) ?_
    refine X_if_eq (tgt := 27) hB dX10_overhears_20 (by decide) (fun c20 => ?_) (fun c20 => ?_)
    · refine X_iconst (v := 0) hB dX10_overhears_27 (by decide) ?_
      refine X_zret hB rfl (by first | exact Or.inl rfl | exact Or.inr rfl) dX10_overhears_28 ?_
      rw [if_neg (fun q => if1n c20 (by simp at q; exact q.2))]
      exact ⟨rfl, rfl⟩
    · refine X_iconst (v := 1) hB dX10_overhears_23 (by decide) ?_
      refine X_goto (tgt := 28) hB dX10_overhears_24 (by decide) ?_
      refine X_zret hB rfl (by first | exact Or.inl rfl | exact Or.inr rfl) dX10_overhears_28 ?_
      rw [if_pos (by rw [if1 c9, if1 c20]; rfl)]
      exact ⟨rfl, rfl⟩
set_option maxRecDepth 100000 in
set_option maxHeartbeats 4000000 in
theorem c_X10_shorten (w : Nat) (hW : WLay G w) (σ : Net) (hw : worldR S w σ) (d : Nat) (hd : d < (nDa σ).length) (z : Nat) (hz : z < 8) (hT2 : 2 ≤ (aTr (dat σ d)).length) (hR1 : 1 ≤ (aRe (dat σ d)).length) (hnd : ((aTr (dat σ d)) ++ (aRe (dat σ d)).tail).Nodup) (hT8 : ∀ y ∈ (aTr (dat σ d)), y < 8) (hR8 : ∀ y ∈ (aRe (dat σ d)), y < 8) (hsh : aSh (dat σ d) < 256) (hzT : z ∉ (aTr (dat σ d))) (hR0 : (aRe (dat σ d)).getD 0 0 ∈ (aTr (dat σ d))) : C G mX10_shorten 3 [.ref w, .ref (dA w d), .int (nI z)] S (fun r S' => r = none ∧ worldR S' w (shortenD σ d z) ∧ wch w S S') := by
  have hd40 := hw.l40.2
  have hD := hW.dd (show d < 40 by omega)
  obtain ⟨z1, z2, z3, z4, z5, z6, z7, z8, z9, z10⟩ := hw.dc hd
  have hnd' := List.nodup_append.mp hnd
  have hTR : okR (aTr (dat σ d)) := okR.of hnd'.1 hT8
  have hz0 : (aRe (dat σ d)).getD 0 0 ≠ z := fun q => hzT (q ▸ hR0)
  have hRt : okR (aRe (dat σ d)).tail := okR.of hnd'.2.1 (fun y hy => hR8 y (List.mem_of_mem_tail hy))
  have hl8 : (aTr (dat σ d)).length + (aRe (dat σ d)).tail.length ≤ 8 := by
    have := nodup8 hnd (fun y hy => (List.mem_append.mp hy).elim (hT8 y) (hRt.2 y))
    rwa [List.length_append] at this
  have hRl : (aRe (dat σ d)).length = (aRe (dat σ d)).tail.length + 1 := by rw [List.length_tail]; omega
  have hRR : okR (aRe (dat σ d)) := ⟨by omega, hR8⟩
  have hm := mem_tail hR1 hz0
  have hTl := hTR.1
  have hRl8 := hRR.1
  refine C.mk (lv := [some (.ref w), some (.ref (dA w d)), some (.int (nI z)), none, none, none]) (by decide) (Nat.le_of_ble_eq_true rfl) rfl (fun E hB => ?_)
  refine X_aload_n (i := 1) hB dX10_shorten_0 rfl rfl ?_
  refine X_getj hB cw2 fX10_178 rfl hD.1 hD.2 dX10_shorten_1 ?_
  refine X_topl (y := rJ (aRe (dat σ d))) (z5) ?_
  refine X_iload_n (i := 2) hB dX10_shorten_4 rfl rfl ?_
  refine X_callS hB kX10_256 (c_X8_indexOf (aRe (dat σ d)) hRR z hz) (by decide) (by decide) rfl rfl (Nat.le_of_ble_eq_true rfl) dX10_shorten_5 (fun r5 S5 q5 => ?_)
  obtain ⟨rfl, rfl⟩ := q5
  refine X_istore_n (i := 3) hB dX10_shorten_8 rfl (by decide) rfl ?_
  refine X_iload_n (i := 3) hB dX10_shorten_9 rfl rfl ?_
  refine X_iconst (v := (-1)) hB dX10_shorten_10 (by decide) ?_
  refine X_icmp_eq (tgt := 25) hB dX10_shorten_11 (by decide) (fun c11 => ?_) (fun c11 => ?_)
  · refine X_vret hB rfl dX10_shorten_25 ?_
    have e9 : shortenD σ d z = σ := by
      unfold shortenD
      rw [if_neg]
      exact fun q => (ixR_neg hRR.1).mp c11 (hm.mpr q.1)
    rw [e9]
    exact ⟨rfl, hw, wch.rf⟩
  · have e11 : z ∈ (aRe (dat σ d)) := Classical.byContradiction (fun q => c11 ((ixR_neg hRR.1).mpr q))
    have eix := idx_tail hR1 hz0
    have ei1 := List.idxOf_lt_length_of_mem e11
    have ex : ixR (aRe (dat σ d)) z = nI ((aRe (dat σ d)).idxOf z) := by unfold ixR; rw [if_pos e11]
    refine X_aload_n (i := 1) hB dX10_shorten_14 rfl rfl ?_
    refine X_geti hB cw2 fX10_187 rfl hD.1 hD.2 dX10_shorten_15 ?_
    refine X_topi (y := nI (aSh (dat σ d))) (z10) ?_
    refine X_iload_n (i := 2) hB dX10_shorten_18 rfl rfl ?_
    refine X_ishr hB dX10_shorten_19 ?_
    refine X_iconst (v := 1) hB dX10_shorten_20 (by decide) ?_
    refine X_iand hB dX10_shorten_21 ?_
    refine X_topi (y := if (aSh (dat σ d)).testBit z then 1 else 0) (shr1 _ _ hsh hz) ?_
    refine X_if_eq (tgt := 26) hB dX10_shorten_22 (by decide) (fun c22 => ?_) (fun c22 => ?_)
    · have e22 : (aSh (dat σ d)).testBit z = false := by simpa using if1n c22
      refine X_aload_n (i := 1) hB dX10_shorten_26 rfl rfl ?_
      refine X_dup hB dX10_shorten_27 rfl ?_
      refine X_geti hB cw2 fX10_187 rfl hD.1 hD.2 dX10_shorten_28 ?_
      refine X_topi (y := nI (aSh (dat σ d))) (z10) ?_
      refine X_iconst (v := 1) hB dX10_shorten_31 (by decide) ?_
      refine X_iload_n (i := 2) hB dX10_shorten_32 rfl rfl ?_
      refine X_ishl hB dX10_shorten_33 ?_
      refine X_ior hB dX10_shorten_34 ?_
      refine X_topi (y := nI (aSh (dat σ d) ||| 1 <<< z)) (by rw [sh1 z hz, nI_or]) ?_
      refine X_puti hB cw2 fX10_187 rfl rfl hD.1 hD.2 dX10_shorten_35 ?_
      generalize hS1 : setI S (dA w d) 10 (nI (aSh (dat σ d) ||| 1 <<< z)) = S1
      obtain ⟨hw1, hc1⟩ : worldR S1 w (uDa σ d (dSh (dat σ d) (aSh (dat σ d) ||| 1 <<< z))) ∧ wch w S S1 := by
        refine worldR_da hw hd (hS1 ▸ chg.setI (Nat.le_refl _) (by omega)) (by rw [← hS1]; rfl) (by rw [← hS1]; simp [setI, ups]) ⟨?_, ?_, ?_, ?_, ?_, ?_, ?_, ?_, ?_, ?_⟩ (fun f h1 h2 h3 => rfl) (hw.cv.da hd rfl rfl)
        · rw [← hS1]; simp [setI, ups]; exact z1
        · rw [← hS1]; simp [setI, ups]; exact z2
        · rw [← hS1]; simp [setI, ups]; exact z3
        · rw [← hS1]; simp [setI, ups]; exact z4
        · rw [← hS1]; exact z5
        · rw [← hS1]; exact z6
        · rw [← hS1]; simp [setI, ups]; exact z7
        · rw [← hS1]; simp [setI, ups]; exact z8
        · intro q; rw [← hS1]; simp [setI, ups]; exact z9 q
        · rw [← hS1]; simp [setI, ups]; rfl
      have v5 : S1.2.1 (dA w d) 5 = rJ (aRe (dat σ d)) := by rw [← hS1]; exact z5
      have v6 : S1.2.1 (dA w d) 6 = rJ (aTr (dat σ d)) := by rw [← hS1]; exact z6
      clear hS1
      refine X_aload_n (i := 0) hB dX10_shorten_38 rfl rfl ?_
      refine X_getr hB cw8 fX10_15 rfl hW.1.1 hW.1.2 hw1.1.2.1 dX10_shorten_39 ?_
      refine X_iconst (v := 5) hB dX10_shorten_42 (by decide) ?_
      refine X_dup2_11 hB dX10_shorten_43 rfl rfl ?_
      refine X_ialdN hB (5) hW.2.2.1.1 hW.2.2.1.2 (by decide) rfl (by omega) (hw1.2.1.2.1 5 (by decide)) dX10_shorten_44 ?_
      refine X_iconst (v := 1) hB dX10_shorten_45 (by decide) ?_
      refine X_iadd hB dX10_shorten_46 ?_
      refine X_topi (y := nI (nTa (uDa σ d (dSh (dat σ d) (aSh (dat σ d) ||| 1 <<< z))) 5 + 1)) (by first | rfl | (simp (disch := omega) only [nlit, nI_add, nI_mul, nI_sub]; done) | (simp (disch := omega) only [nlit, nI_add, nI_mul, nI_sub]; (congr 1 <;> omega))) ?_
      refine X_iastN hB (5) hW.2.2.1.1 hW.2.2.1.2 (by decide) rfl (by omega) dX10_shorten_47 ?_
      generalize hS2 : setI S1 (w + 2) 5 (nI (nTa (uDa σ d (dSh (dat σ d) (aSh (dat σ d) ||| 1 <<< z))) 5 + 1)) = S2
      obtain ⟨hw2, hc2⟩ : worldR S2 w (uTa (uDa σ d (dSh (dat σ d) (aSh (dat σ d) ||| 1 <<< z))) 5) ∧ wch w S1 S2 := hS2 ▸ worldR_ta hw1 (by decide)
      have v5 : S2.2.1 (dA w d) 5 = rJ (aRe (dat σ d)) := by rw [← hS2]; exact v5
      have v6 : S2.2.1 (dA w d) 6 = rJ (aTr (dat σ d)) := by rw [← hS2]; exact v6
      clear hS2
      refine X_aload_n (i := 1) hB dX10_shorten_48 rfl rfl ?_
      refine X_getj hB cw2 fX10_171 rfl hD.1 hD.2 dX10_shorten_49 ?_
      refine X_topl (y := rJ (aTr (dat σ d))) (v6) ?_
      refine X_aload_n (i := 1) hB dX10_shorten_52 rfl rfl ?_
      refine X_getj hB cw2 fX10_171 rfl hD.1 hD.2 dX10_shorten_53 ?_
      refine X_topl (y := rJ (aTr (dat σ d))) (v6) ?_
      refine X_callS hB kX10_174 (c_X8_length (aTr (dat σ d)) hTR) (by decide) (by decide) rfl rfl (Nat.le_of_ble_eq_true rfl) dX10_shorten_56 (fun r56 S56 q56 => ?_)
      obtain ⟨rfl, rfl⟩ := q56
      refine X_iconst (v := 1) hB dX10_shorten_59 (by decide) ?_
      refine X_isub hB dX10_shorten_60 ?_
      refine X_topi (y := nI ((aTr (dat σ d)).length - 1)) (by first | rfl | (simp (disch := omega) only [nlit, nI_add, nI_mul, nI_sub]; done) | (simp (disch := omega) only [nlit, nI_add, nI_mul, nI_sub]; (congr 1 <;> omega))) ?_
      refine X_callS hB kX10_335 (c_X8_first (aTr (dat σ d)) hTR ((aTr (dat σ d)).length - 1) (by omega)) (by decide) (by decide) rfl rfl (Nat.le_of_ble_eq_true rfl) dX10_shorten_61 (fun r61 S61 q61 => ?_)
      obtain ⟨rfl, rfl⟩ := q61
      refine X_lstore hB dX10_shorten_64 (by decide) rfl ?_
      refine X_aload_n (i := 0) hB dX10_shorten_66 rfl rfl ?_
      refine X_iload_n (i := 2) hB dX10_shorten_67 rfl rfl ?_
      refine X_lload hB dX10_shorten_68 rfl ?_
      refine X_aload_n (i := 1) hB dX10_shorten_70 rfl rfl ?_
      refine X_getj hB cw2 fX10_178 rfl hD.1 hD.2 dX10_shorten_71 ?_
      refine X_topl (y := rJ (aRe (dat σ d))) (v5) ?_
      refine X_iload_n (i := 3) hB dX10_shorten_74 rfl rfl ?_
      refine X_topi (y := nI ((aRe (dat σ d)).idxOf z)) (ex) ?_
      refine X_callS hB kX10_314 (c_X8_from (aRe (dat σ d)) hRR ((aRe (dat σ d)).idxOf z) (by omega)) (by decide) (by decide) rfl rfl (Nat.le_of_ble_eq_true rfl) dX10_shorten_75 (fun r75 S75 q75 => ?_)
      obtain ⟨rfl, rfl⟩ := q75
      refine X_callS hB kX10_338 (c_X8_joined ((aTr (dat σ d)).take ((aTr (dat σ d)).length - 1)) (hTR.take _) ((aRe (dat σ d)).drop ((aRe (dat σ d)).idxOf z)) (hRR.drop _) (fun _ => by rw [List.length_take, List.length_drop]; omega)) (by decide) (by decide) rfl rfl (Nat.le_of_ble_eq_true rfl) dX10_shorten_78 (fun r78 S78 q78 => ?_)
      obtain ⟨rfl, rfl⟩ := q78
      have hdj : ∀ x ∈ (aTr (dat σ d)).take ((aTr (dat σ d)).length - 1), x ∉ (aRe (dat σ d)).drop ((aRe (dat σ d)).idxOf z) := fun x h1 h2 => by
        rw [eix, show (aRe (dat σ d)).drop ((aRe (dat σ d)).tail.idxOf z + 1) = (aRe (dat σ d)).tail.drop ((aRe (dat σ d)).tail.idxOf z) by rw [← List.drop_one, List.drop_drop, Nat.add_comm]] at h2
        exact hnd'.2.2 x (List.mem_of_mem_take h1) x (List.mem_of_mem_drop h2) rfl
      have hsE : (aTr (dat σ d)).take ((aTr (dat σ d)).length - 1) ++ (aRe (dat σ d)).drop ((aRe (dat σ d)).idxOf z) = shR σ d z := by unfold shR; rw [eix]
      refine X_topl (y := rJ (shR σ d z)) (by rw [if_pos hdj, hsE]) ?_
      have hsR : okR (shR σ d z) := by
        rw [← hsE]
        exact (hTR.take _).app (hRR.drop _) (by rw [List.length_take, List.length_drop]; omega)
      have hzin : z ∈ shR σ d z := by
        rw [← hsE]
        refine List.mem_append_right _ ?_
        have h1 := List.idxOf_lt_length_of_mem e11
        rw [List.drop_eq_getElem_cons h1, List.getElem_idxOf h1]
        exact List.mem_cons_self
      have hs0 : (shR σ d z).getD 0 0 ≠ z := by
        rw [← hsE, getD_apl (by rw [List.length_take]; omega)]
        intro q
        refine hzT (List.mem_of_mem_take (i := (aTr (dat σ d)).length - 1) (q ▸ getD_mem (by rw [List.length_take]; omega)))
      refine X_callV hB kX10_342 cw8 hW.1.1 hW.1.2 (c_X10_emitReply w hW (uTa (uDa σ d (dSh (dat σ d) (aSh (dat σ d) ||| 1 <<< z))) 5) hw2 z (shR σ d z) hz hsR hzin hs0) (by decide) (by decide) rfl rfl (Nat.le_of_ble_eq_true rfl) dX10_shorten_81 (fun r81 S81 q81 => ?_)
      obtain ⟨rfl, g1, g2⟩ := q81
      refine X_vret hB rfl dX10_shorten_84 ?_
      refine ⟨rfl, ?_, hc1.tr (hc2.tr g2)⟩
      unfold shortenD
      rw [if_pos ⟨hm.mp e11, e22⟩]
      exact g1
    · refine X_vret hB rfl dX10_shorten_25 ?_
      have e9 : shortenD σ d z = σ := by
        unfold shortenD
        rw [if_neg]
        exact fun q => by rw [if1 c22] at q; cases q.2
      rw [e9]
      exact ⟨rfl, hw, wch.rf⟩
end CLS
