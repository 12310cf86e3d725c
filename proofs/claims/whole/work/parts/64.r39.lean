section REF
variable {G : Gc} {S : St} {h : Nat}
set_option maxRecDepth 100000 in
set_option maxHeartbeats 4000000 in
theorem l_copiesText (hR : RLay G h) (hF : RRef S h) {E : Ev} (hB : Bd G E mX12_copiesText) {Q : Option Value → St → Prop} (fm to : Nat) (hfm : fm < 5) (hto : to < 5) (hne : fm ≠ to) (hT : txB (S.1 (h + 2))) (kk : Q none (rowI S (h + 2) (cpX (S.1 (h + 2)) fm to))) :
    ∀ (k j : Nat), j + k = 400 → X G E mX12_copiesText 1 Q (rowI S (h + 2) (cpA (S.1 (h + 2)) (400 * to) (fun k => S.1 (h + 2) (400 * fm + k)) j)) 8 [some (.ref h), some (.int (nI fm)), some (.int (nI to)), some (.int (nI j))] [] := by
  intro k
  induction k with
  | zero =>
    intro j h1
    refine X_iload_n (i := 3) hB dX12_copiesText_8 rfl rfl ?_
    refine X_sipush (v := 400) hB dX12_copiesText_9 (by decide) ?_
    refine X_icmp_ge (tgt := 45) hB dX12_copiesText_12 (by decide) (fun c12 => ?_) (fun c12 => absurd c12 (by simp (disch := omega) only [nlit, nI_leI, nI_ltI]; omega))
    refine X_vret hB rfl dX12_copiesText_45 ?_
    have e9 : j = 400 := by omega
    subst e9
    exact kk
  | succ k ih =>
    intro j h1
    refine X_iload_n (i := 3) hB dX12_copiesText_8 rfl rfl ?_
    refine X_sipush (v := 400) hB dX12_copiesText_9 (by decide) ?_
    refine X_icmp_ge (tgt := 45) hB dX12_copiesText_12 (by decide) (fun c12 => absurd c12 (by simp (disch := omega) only [nlit, nI_leI, nI_ltI]; omega)) (fun c12 => ?_)
    refine X_aload_n (i := 0) hB dX12_copiesText_15 rfl rfl ?_
    refine X_getr hB cw10 fX12_13 rfl hR.1.1 hR.1.2 hF.2.1 dX12_copiesText_16 ?_
    refine X_sipush (v := 400) hB dX12_copiesText_19 (by decide) ?_
    refine X_iload_n (i := 2) hB dX12_copiesText_22 rfl rfl ?_
    refine X_imul hB dX12_copiesText_23 ?_
    refine X_iload_n (i := 3) hB dX12_copiesText_24 rfl rfl ?_
    refine X_iadd hB dX12_copiesText_25 ?_
    refine X_aload_n (i := 0) hB dX12_copiesText_26 rfl rfl ?_
    refine X_getr hB cw10 fX12_13 rfl hR.1.1 hR.1.2 hF.2.1 dX12_copiesText_27 ?_
    refine X_sipush (v := 400) hB dX12_copiesText_30 (by decide) ?_
    refine X_iload_n (i := 1) hB dX12_copiesText_33 rfl rfl ?_
    refine X_imul hB dX12_copiesText_34 ?_
    refine X_iload_n (i := 3) hB dX12_copiesText_35 rfl rfl ?_
    refine X_iadd hB dX12_copiesText_36 ?_
    refine X_baldN hB (400 * fm + j) hR.2.2.1.1 hR.2.2.1.2 (by decide) (by first | rfl | (simp (disch := omega) only [nlit, nI_add, nI_mul, nI_sub]; done) | (simp (disch := omega) only [nlit, nI_add, nI_mul, nI_sub]; (congr 1 <;> omega))) (by first | omega | (simp only []; omega)) (show _ = S.1 (h + 2) (400 * fm + j) by rw [rowI_at]; exact cpA_out (by omega)) dX12_copiesText_37 ?_
    refine X_bastN hB (400 * to + j) hR.2.2.1.1 hR.2.2.1.2 (by decide) (by first | rfl | (simp (disch := omega) only [nlit, nI_add, nI_mul, nI_sub]; done) | (simp (disch := omega) only [nlit, nI_add, nI_mul, nI_sub]; (congr 1 <;> omega))) (by first | omega | (simp only []; omega)) dX12_copiesText_38 ?_
    refine X_iinc hB dX12_copiesText_39 rfl rfl (by decide) rfl ?_
    refine X_goto (tgt := 8) hB dX12_copiesText_42 (by decide) ?_
    rw [setI_rowI, rowI_rowI, rowI_at, hT _ (by omega), cpA_step (F := fun k => S.1 (h + 2) (400 * fm + k))]
    refine X_lv ?_ (ih (j + 1) (by omega))
    · rw [nI_succ]; rfl
set_option maxRecDepth 100000 in
set_option maxHeartbeats 4000000 in
theorem c_copiesTextN (hR : RLay G h) (hF : RRef S h) (fm to : Nat) (hfm : fm < 5) (hto : to < 5) (hne : fm ≠ to) (hT : txB (S.1 (h + 2))) : C G mX12_copiesText 1 [.ref h, .int (nI fm), .int (nI to)] S (fun r S' => r = none ∧ S' = rowI (rowI S (h + 1) (cpT (S.1 (h + 1)) fm to)) (h + 2) (cpX (S.1 (h + 2)) fm to)) := by
  refine C.mk (lv := [some (.ref h), some (.int (nI fm)), some (.int (nI to)), none]) (by decide) (Nat.le_of_ble_eq_true rfl) rfl (fun E hB => ?_)
  refine X_aload_n (i := 0) hB dX12_copiesText_0 rfl rfl ?_
  refine X_iload_n (i := 1) hB dX12_copiesText_1 rfl rfl ?_
  refine X_iload_n (i := 2) hB dX12_copiesText_2 rfl rfl ?_
  refine X_callV hB kX12_410 cw10 hR.1.1 hR.1.2 (c_copies hR hF fm to rfl rfl hfm hto hne) (by decide) (by decide) rfl rfl (Nat.le_of_ble_eq_true rfl) dX12_copiesText_3 (fun r3 S3 q3 => ?_)
  obtain ⟨rfl, rfl⟩ := q3
  have eT : (rowI S (h + 1) (cpT (S.1 (h + 1)) fm to)).1 (h + 2) = S.1 (h + 2) := rowI_ne _ _ (by omega)
  refine X_iconst (v := 0) hB dX12_copiesText_6 (by decide) ?_
  refine X_istore_n (i := 3) hB dX12_copiesText_7 rfl (by decide) rfl ?_
  refine X_S (S' := rowI (rowI S (h + 1) (cpT (S.1 (h + 1)) fm to)) (h + 2) (cpA ((rowI S (h + 1) (cpT (S.1 (h + 1)) fm to)).1 (h + 2)) (400 * to) (fun k => (rowI S (h + 1) (cpT (S.1 (h + 1)) fm to)).1 (h + 2) (400 * fm + k)) 0)) (by rw [cpA_0, rowI_self]) (X_lv ?_ (l_copiesText (S := rowI S (h + 1) (cpT (S.1 (h + 1)) fm to)) hR (hF.of rfl) hB fm to hfm hto hne (by rw [eT]; exact hT) ⟨rfl, by rw [eT]⟩ 400 0 (by omega)))
  rw [nI_0]; rfl
theorem c_copiesText (hR : RLay G h) (hF : RRef S h) {x y : Int32} (fm to : Nat) (hx : x = nI fm) (hy : y = nI to) (hfm : fm < 5) (hto : to < 5) (hne : fm ≠ to) (hT : txB (S.1 (h + 2))) : C G mX12_copiesText 1 [.ref h, .int x, .int y] S (fun r S' => r = none ∧ S' = rowI (rowI S (h + 1) (cpT (S.1 (h + 1)) fm to)) (h + 2) (cpX (S.1 (h + 2)) fm to)) := by subst hx; subst hy; exact c_copiesTextN hR hF fm to hfm hto hne hT
set_option maxRecDepth 100000 in
set_option maxHeartbeats 4000000 in
theorem c_image (hR : RLay G h) (hF : RRef S h) (σ : Net) (b : Nat) (hw : wfN σ b) (hN : netR (S.1 (h + 1)) σ) (hT : txB (S.1 (h + 2))) (v : Int32) : C G mX12_image 2 [.ref h, .int v] S (fun r S' => match inN v 3 with
  | some k => r = some (.int 1) ∧ fr h [h + 1, h + 2, h + 3] [0] S S' ∧ S'.1 (h + 1) = cpT (S.1 (h + 1)) 0 (k + 1) ∧ S'.1 (h + 2) = cpX (S.1 (h + 2)) 0 (k + 1) ∧ S'.1 (h + 3) = upd (S.1 (h + 3)) k 1
  | none => r = some (.int 0) ∧ fr h [] [0] S S') := by
  have hs := hw.sz
  have hc8 := hw.1.1.2
  have ha40 := hs.1
  have hd40 := hs.2.1
  refine C.mk (lv := [some (.ref h), some (.int v)]) (by decide) (Nat.le_of_ble_eq_true rfl) rfl (fun E hB => ?_)
  refine X_aload_n (i := 0) hB dX12_image_0 rfl rfl ?_
  refine X_iconst (v := 0) hB dX12_image_1 (by decide) ?_
  refine X_puti hB cw10 fX12_51 rfl rfl hR.1.1 hR.1.2 dX12_image_2 ?_
  generalize hS0 : setI S h 0 0 = S0
  have fz : fr h [] [0] S S0 := hS0 ▸ fr.fld (by simp)
  have hF := fz.ref hF
  have hN : netR (S0.1 (h + 1)) σ := by rw [fz.2.1 (h + 1) (by simp) (by omega)]; exact hN
  clear hS0
  refine X_iload_n (i := 1) hB dX12_image_5 rfl rfl ?_
  refine X_iconst (v := 0) hB dX12_image_6 (by decide) ?_
  refine X_iconst (v := 2) hB dX12_image_7 (by decide) ?_
  refine X_callS hB kX12_55 (c_in _ _ _) (by decide) (by decide) rfl rfl (Nat.le_of_ble_eq_true rfl) dX12_image_8 (fun r8 S8 q8 => ?_)
  obtain ⟨rfl, rfl⟩ := q8
  refine X_topi (y := if inN v 3 = none then 0 else 1) (in_if (c := 3) (by omega)) ?_
  refine X_if_ne (tgt := 16) hB dX12_image_11 (by decide) (fun c11 => ?_) (fun c11 => ?_)
  · obtain ⟨k, e11⟩ := opt_ex (if0n c11)
    obtain ⟨l11, rfl⟩ := inN_some e11
    refine X_aload_n (i := 0) hB dX12_image_16 rfl rfl ?_
    refine X_iconst (v := 0) hB dX12_image_17 (by decide) ?_
    refine X_iload_n (i := 1) hB dX12_image_18 rfl rfl ?_
    refine X_iconst (v := 1) hB dX12_image_19 (by decide) ?_
    refine X_iadd hB dX12_image_20 ?_
    refine X_callV hB kX12_428 cw10 hR.1.1 hR.1.2 (c_copiesText hR hF 0 (k + 1) rfl (by first | rfl | (simp (disch := omega) only [nlit, nI_add, nI_mul, nI_sub]; done) | (simp (disch := omega) only [nlit, nI_add, nI_mul, nI_sub]; (congr 1 <;> omega))) (by decide) (by omega) (by omega) (by rw [fz.2.1 (h + 2) (by simp) (by omega)]; exact hT)) (by decide) (by decide) rfl rfl (Nat.le_of_ble_eq_true rfl) dX12_image_21 (fun r21 S21 q21 => ?_)
    obtain ⟨rfl, rfl⟩ := q21
    refine X_aload_n (i := 0) hB dX12_image_24 rfl rfl ?_
    refine X_getr hB cw10 fX12_17 rfl hR.1.1 hR.1.2 (show RRef (rowI (rowI S0 (h + 1) _) (h + 2) _) h from hF.of rfl).2.2.1 dX12_image_25 ?_
    refine X_iload_n (i := 1) hB dX12_image_28 rfl rfl ?_
    refine X_iconst (v := 1) hB dX12_image_29 (by decide) ?_
    refine X_zastN hB (k) hR.2.2.2.1.1 hR.2.2.2.1.2 (by decide) (by first | rfl | (simp (disch := omega) only [nlit, nI_add, nI_mul, nI_sub]; done) | (simp (disch := omega) only [nlit, nI_add, nI_mul, nI_sub]; (congr 1 <;> omega))) (by first | omega | (simp only []; omega)) (by first | exact Or.inl rfl | exact Or.inr rfl | assumption) dX12_image_30 ?_
    refine X_iconst (v := 1) hB dX12_image_31 (by decide) ?_
    refine X_zret hB rfl (by first | exact Or.inl rfl | exact Or.inr rfl) dX12_image_32 ?_
    rw [e11, setI_rowI]
    have e1 := fz.2.1 (h + 1) (by simp) (by omega)
    have e2 := fz.2.1 (h + 2) (by simp) (by omega)
    have e3 := fz.2.1 (h + 3) (by simp) (by omega)
    refine ⟨rfl, (fz.mono (by simp) (by simp)).tr ((fr.row (by simp) (by omega)).tr ((fr.row (by simp) (by omega)).tr (fr.row (by simp) (by omega)))), ?_, ?_, ?_⟩
    · rw [rowI_ne _ _ (by omega), rowI_ne _ _ (by omega), rowI_at, e1]
    · rw [rowI_ne _ _ (by omega), rowI_at, e2]
    · rw [rowI_at, rowI_ne _ _ (by omega), rowI_ne _ _ (by omega), e3]
  · have e11 := if0 c11
    refine X_iconst (v := 0) hB dX12_image_14 (by decide) ?_
    refine X_zret hB rfl (by first | exact Or.inl rfl | exact Or.inr rfl) dX12_image_15 ?_
    rw [e11]
    exact ⟨rfl, fz⟩
set_option maxRecDepth 100000 in
set_option maxHeartbeats 4000000 in
theorem c_again (hR : RLay G h) (hF : RRef S h) (σ : Net) (b : Nat) (hw : wfN σ b) (hN : netR (S.1 (h + 1)) σ) (hT : txB (S.1 (h + 2))) (v : Int32) (sv : Nat → Bool) (hsv : ∀ k, k < 3 → S.1 (h + 3) k = if sv k then 1 else 0) : C G mX12_again 2 [.ref h, .int v] S (fun r S' => match inN v 3 with
  | some k => if sv k then r = some (.int 1) ∧ fr h [h + 1, h + 2, h + 3] [0] S S' ∧ S'.1 (h + 1) = cpT (S.1 (h + 1)) (k + 1) 0 ∧ S'.1 (h + 2) = cpX (S.1 (h + 2)) (k + 1) 0 ∧ S'.1 (h + 3) = S.1 (h + 3) else r = some (.int 0) ∧ fr h [] [0] S S'
  | none => r = some (.int 0) ∧ fr h [] [0] S S') := by
  have hs := hw.sz
  have hc8 := hw.1.1.2
  have ha40 := hs.1
  have hd40 := hs.2.1
  refine C.mk (lv := [some (.ref h), some (.int v)]) (by decide) (Nat.le_of_ble_eq_true rfl) rfl (fun E hB => ?_)
  refine X_aload_n (i := 0) hB dX12_again_0 rfl rfl ?_
  refine X_iconst (v := 0) hB dX12_again_1 (by decide) ?_
  refine X_puti hB cw10 fX12_51 rfl rfl hR.1.1 hR.1.2 dX12_again_2 ?_
  generalize hS0 : setI S h 0 0 = S0
  have fz : fr h [] [0] S S0 := hS0 ▸ fr.fld (by simp)
  have hF := fz.ref hF
  have hN : netR (S0.1 (h + 1)) σ := by rw [fz.2.1 (h + 1) (by simp) (by omega)]; exact hN
  clear hS0
  refine X_iload_n (i := 1) hB dX12_again_5 rfl rfl ?_
  refine X_iconst (v := 0) hB dX12_again_6 (by decide) ?_
  refine X_iconst (v := 2) hB dX12_again_7 (by decide) ?_
  refine X_callS hB kX12_55 (c_in _ _ _) (by decide) (by decide) rfl rfl (Nat.le_of_ble_eq_true rfl) dX12_again_8 (fun r8 S8 q8 => ?_)
  obtain ⟨rfl, rfl⟩ := q8
  refine X_topi (y := if inN v 3 = none then 0 else 1) (in_if (c := 3) (by omega)) ?_
  refine X_if_eq (tgt := 23) hB dX12_again_11 (by decide) (fun c11 => ?_) (fun c11 => ?_)
  · first
      | (have e11 := if0 c11
         refine X_iconst (v := 0) hB dX12_again_23 (by decide) ?_
         refine X_zret hB rfl (by first | exact Or.inl rfl | exact Or.inr rfl) dX12_again_24 ?_
         rw [e11]
         exact ⟨rfl, fz⟩)
      | (have e20 := if1n c20
         refine X_iconst (v := 0) hB dX12_again_23 (by decide) ?_
         refine X_zret hB rfl (by first | exact Or.inl rfl | exact Or.inr rfl) dX12_again_24 ?_
         rw [e11]
         show ite (sv k = true) _ _
         rw [if_neg e20]
         exact ⟨rfl, fz⟩)
  · obtain ⟨k, e11⟩ := opt_ex (if0n c11)
    obtain ⟨l11, rfl⟩ := inN_some e11
    refine X_aload_n (i := 0) hB dX12_again_14 rfl rfl ?_
    refine X_getr hB cw10 fX12_17 rfl hR.1.1 hR.1.2 hF.2.2.1 dX12_again_15 ?_
    refine X_iload_n (i := 1) hB dX12_again_18 rfl rfl ?_
    refine X_zaldN hB (k) hR.2.2.2.1.1 hR.2.2.2.1.2 (by decide) (by first | rfl | (simp (disch := omega) only [nlit, nI_add, nI_mul, nI_sub]; done) | (simp (disch := omega) only [nlit, nI_add, nI_mul, nI_sub]; (congr 1 <;> omega))) (by first | omega | (simp only []; omega)) (show _ = if sv k then 1 else 0 by rw [fz.2.1 (h + 3) (by simp) (by omega)]; exact hsv k (by omega)) dX12_again_19 ?_
    refine X_if_ne (tgt := 25) hB dX12_again_20 (by decide) (fun c20 => ?_) (fun c20 => ?_)
    · refine X_aload_n (i := 0) hB dX12_again_25 rfl rfl ?_
      refine X_iload_n (i := 1) hB dX12_again_26 rfl rfl ?_
      refine X_iconst (v := 1) hB dX12_again_27 (by decide) ?_
      refine X_iadd hB dX12_again_28 ?_
      refine X_iconst (v := 0) hB dX12_again_29 (by decide) ?_
      refine X_callV hB kX12_428 cw10 hR.1.1 hR.1.2 (c_copiesText hR hF (k + 1) 0 (by first | rfl | (simp (disch := omega) only [nlit, nI_add, nI_mul, nI_sub]; done) | (simp (disch := omega) only [nlit, nI_add, nI_mul, nI_sub]; (congr 1 <;> omega))) rfl (by omega) (by decide) (by omega) (by rw [fz.2.1 (h + 2) (by simp) (by omega)]; exact hT)) (by decide) (by decide) rfl rfl (Nat.le_of_ble_eq_true rfl) dX12_again_30 (fun r30 S30 q30 => ?_)
      obtain ⟨rfl, rfl⟩ := q30
      refine X_iconst (v := 1) hB dX12_again_33 (by decide) ?_
      refine X_zret hB rfl (by first | exact Or.inl rfl | exact Or.inr rfl) dX12_again_34 ?_
      rw [e11]
      show ite (sv k = true) _ _
      rw [if_pos (if1 c20)]
      have e1 := fz.2.1 (h + 1) (by simp) (by omega)
      have e2 := fz.2.1 (h + 2) (by simp) (by omega)
      have e3 := fz.2.1 (h + 3) (by simp) (by omega)
      refine ⟨rfl, (fz.mono (by simp) (by simp)).tr ((fr.row (by simp) (by omega)).tr (fr.row (by simp) (by omega))), ?_, ?_, ?_⟩
      · rw [rowI_ne _ _ (by omega), rowI_at, e1]
      · rw [rowI_at, e2]
      · rw [rowI_ne _ _ (by omega), rowI_ne _ _ (by omega), e3]
    · first
        | (have e11 := if0 c11
           refine X_iconst (v := 0) hB dX12_again_23 (by decide) ?_
           refine X_zret hB rfl (by first | exact Or.inl rfl | exact Or.inr rfl) dX12_again_24 ?_
           rw [e11]
           exact ⟨rfl, fz⟩)
        | (have e20 := if1n c20
           refine X_iconst (v := 0) hB dX12_again_23 (by decide) ?_
           refine X_zret hB rfl (by first | exact Or.inl rfl | exact Or.inr rfl) dX12_again_24 ?_
           rw [e11]
           show ite (sv k = true) _ _
           rw [if_neg e20]
           exact ⟨rfl, fz⟩)
set_option maxRecDepth 100000 in
set_option maxHeartbeats 4000000 in
theorem c_send (hR : RLay G h) (hF : RRef S h) (σ : Net) (b : Nat) (hw : wfN σ b) (hN : netR (S.1 (h + 1)) σ) (hb : b + 1 < 100000) (v w : Int32) : C G mX12_send 7 [.ref h, .int v, .int w] S (fun r S' => r = some (.int (aSend σ v w).1) ∧ fr h [h + 1, h + 8, h + 9, h + 10, h + 11] [0, 22] S S' ∧ netR (S'.1 (h + 1)) (aSend σ v w).2) := by
  have hs := hw.sz
  have hc8 := hw.1.1.2
  have ha40 := hs.1
  have hd40 := hs.2.1
  refine C.mk (lv := [some (.ref h), some (.int v), some (.int w)]) (by decide) (Nat.le_of_ble_eq_true rfl) rfl (fun E hB => ?_)
  refine X_aload_n (i := 0) hB dX12_send_0 rfl rfl ?_
  refine X_iconst (v := 0) hB dX12_send_1 (by decide) ?_
  refine X_puti hB cw10 fX12_51 rfl rfl hR.1.1 hR.1.2 dX12_send_2 ?_
  generalize hS0 : setI S h 0 0 = S0
  have fz : fr h [] [0] S S0 := hS0 ▸ fr.fld (by simp)
  have hF := fz.ref hF
  have hN : netR (S0.1 (h + 1)) σ := by rw [fz.2.1 (h + 1) (by simp) (by omega)]; exact hN
  clear hS0
  refine X_aload_n (i := 0) hB dX12_send_5 rfl rfl ?_
  refine X_iload_n (i := 1) hB dX12_send_6 rfl rfl ?_
  refine X_iload_n (i := 2) hB dX12_send_7 rfl rfl ?_
  refine X_callV hB kX12_373 cw10 hR.1.1 hR.1.2 (c_areTwo hR hF σ hN (by omega) v w) (by decide) (by decide) rfl rfl (Nat.le_of_ble_eq_true rfl) dX12_send_8 (fun r8 S8 q8 => ?_)
  obtain ⟨rfl, rfl⟩ := q8
  refine X_if_eq (tgt := 35) hB dX12_send_11 (by decide) (fun c11 => ?_) (fun c11 => ?_)
  · first
      | (have e11 := if0 c11
         refine X_iconst (v := (-1)) hB dX12_send_35 (by decide) ?_
         refine X_iret hB rfl dX12_send_36 ?_
         rw [show aSend σ v w = (-1, σ) by simp only [aSend, e11]]
         exact ⟨rfl, fz.mono (by simp) (by simp), hN⟩)
      | (have e23 : ¬ (nDa σ).length < 40 := by
           rw [show (40 : Int32) = nI 40 from rfl, nI_leI (by omega) (by omega)] at c23
           omega
         refine X_iconst (v := (-1)) hB dX12_send_35 (by decide) ?_
         refine X_iret hB rfl dX12_send_36 ?_
         rw [show aSend σ (nI x) (nI y) = (-1, σ) by simp only [aSend, e11, if_neg e23]]
         exact ⟨rfl, fz.mono (by simp) (by simp), hN⟩)
  · obtain ⟨⟨x, y⟩, e11⟩ := opt_ex (if0n c11)
    obtain ⟨rfl, rfl, lx, ly, hxy⟩ := two_some e11
    refine X_aload_n (i := 0) hB dX12_send_14 rfl rfl ?_
    refine X_getr hB cw10 fX12_7 rfl hR.1.1 hR.1.2 hF.1 dX12_send_15 ?_
    refine X_bipush (v := 9) hB dX12_send_18 (by decide) ?_
    refine X_ialdN hB (9) hR.2.1.1 hR.2.1.2 (by decide) (by first | rfl | (simp (disch := omega) only [nlit, nI_add, nI_mul, nI_sub]; done) | (simp (disch := omega) only [nlit, nI_add, nI_mul, nI_sub]; (congr 1 <;> omega))) (by first | omega | (simp only []; omega)) hN.1.2.2.1 dX12_send_20 ?_
    refine X_bipush (v := 40) hB dX12_send_21 (by decide) ?_
    refine X_icmp_ge (tgt := 35) hB dX12_send_23 (by decide) (fun c23 => ?_) (fun c23 => ?_)
    · first
        | (have e11 := if0 c11
           refine X_iconst (v := (-1)) hB dX12_send_35 (by decide) ?_
           refine X_iret hB rfl dX12_send_36 ?_
           rw [show aSend σ v w = (-1, σ) by simp only [aSend, e11]]
           exact ⟨rfl, fz.mono (by simp) (by simp), hN⟩)
        | (have e23 : ¬ (nDa σ).length < 40 := by
             rw [show (40 : Int32) = nI 40 from rfl, nI_leI (by omega) (by omega)] at c23
             omega
           refine X_iconst (v := (-1)) hB dX12_send_35 (by decide) ?_
           refine X_iret hB rfl dX12_send_36 ?_
           rw [show aSend σ (nI x) (nI y) = (-1, σ) by simp only [aSend, e11, if_neg e23]]
           exact ⟨rfl, fz.mono (by simp) (by simp), hN⟩)
    · have e23 : (nDa σ).length < 40 := by
        rw [show (40 : Int32) = nI 40 from rfl, nI_leI (by omega) (by omega)] at c23
        omega
      refine X_aload_n (i := 0) hB dX12_send_26 rfl rfl ?_
      refine X_iload_n (i := 1) hB dX12_send_27 rfl rfl ?_
      refine X_iload_n (i := 2) hB dX12_send_28 rfl rfl ?_
      refine X_callV hB kX12_376 cw10 hR.1.1 hR.1.2 (c_comes hR hF σ b hw hN x y (by omega) (by omega) e23) (by decide) (by decide) rfl rfl (Nat.le_of_ble_eq_true rfl) dX12_send_29 (fun r29 S29 q29 => ?_)
      obtain ⟨rfl, f29, n29⟩ := q29
      refine X_goto (tgt := 36) hB dX12_send_32 (by decide) ?_
      refine X_iret hB rfl dX12_send_36 ?_
      rw [show aSend σ (nI x) (nI y) = (nI (nDa σ).length, comeN σ x y) by simp only [aSend, e11, if_pos e23]]
      exact ⟨rfl, (fz.mono (by simp) (by simp)).tr (f29.mono (by simp) (by simp)), n29⟩
set_option maxRecDepth 100000 in
set_option maxHeartbeats 4000000 in
theorem c_turnF (hR : RLay G h) (hF : RRef S h) (σ : Net) (b : Nat) (hw : wfN σ b) (hN : netR (S.1 (h + 1)) σ) (v w : Int32) : C G mX12_turn 3 [.ref h, .int v, .int w, .int 0] S (fun r S' => r = some (.int (if (aTurn σ v w false).1 then 1 else 0)) ∧ fr h [h + 1] [0] S S' ∧ netR (S'.1 (h + 1)) (aTurn σ v w false).2) := by
  have hs := hw.sz
  have hc8 := hw.1.1.2
  have ha40 := hs.1
  have hd40 := hs.2.1
  refine C.mk (lv := [some (.ref h), some (.int v), some (.int w), some (.int 0)]) (by decide) (Nat.le_of_ble_eq_true rfl) rfl (fun E hB => ?_)
  refine X_aload_n (i := 0) hB dX12_turn_0 rfl rfl ?_
  refine X_iconst (v := 0) hB dX12_turn_1 (by decide) ?_
  refine X_puti hB cw10 fX12_51 rfl rfl hR.1.1 hR.1.2 dX12_turn_2 ?_
  generalize hS0 : setI S h 0 0 = S0
  have fz : fr h [] [0] S S0 := hS0 ▸ fr.fld (by simp)
  have hF := fz.ref hF
  have hN : netR (S0.1 (h + 1)) σ := by rw [fz.2.1 (h + 1) (by simp) (by omega)]; exact hN
  clear hS0
  refine X_aload_n (i := 0) hB dX12_turn_5 rfl rfl ?_
  refine X_iload_n (i := 1) hB dX12_turn_6 rfl rfl ?_
  refine X_iload_n (i := 2) hB dX12_turn_7 rfl rfl ?_
  refine X_callV hB kX12_373 cw10 hR.1.1 hR.1.2 (c_areTwo hR hF σ hN (by omega) v w) (by decide) (by decide) rfl rfl (Nat.le_of_ble_eq_true rfl) dX12_turn_8 (fun r8 S8 q8 => ?_)
  obtain ⟨rfl, rfl⟩ := q8
  refine X_if_eq (tgt := 24) hB dX12_turn_11 (by decide) (fun c11 => ?_) (fun c11 => ?_)
  · first
      | (have e11 := if0 c11
         refine X_iconst (v := 0) hB dX12_turn_24 (by decide) ?_
         refine X_zret hB rfl (by first | exact Or.inl rfl | exact Or.inr rfl) dX12_turn_25 ?_
         rw [show aTurn σ v w false = (false, σ) by simp only [aTurn, e11]]
         exact ⟨rfl, fz.mono (by simp) (by simp), hN⟩)
      | (have e21 : ¬ nUp σ x y = false := fun q => c21 (by rw [q]; rfl)
         refine X_iconst (v := 0) hB dX12_turn_24 (by decide) ?_
         refine X_zret hB rfl (by first | exact Or.inl rfl | exact Or.inr rfl) dX12_turn_25 ?_
         rw [show aTurn σ (nI x) (nI y) false = (false, σ) by simp only [aTurn, e11, if_neg e21]]
         exact ⟨rfl, fz.mono (by simp) (by simp), hN⟩)
  · obtain ⟨⟨x, y⟩, e11⟩ := opt_ex (if0n c11)
    obtain ⟨rfl, rfl, lx, ly, hxy⟩ := two_some e11
    refine X_aload_n (i := 0) hB dX12_turn_14 rfl rfl ?_
    refine X_iload_n (i := 1) hB dX12_turn_15 rfl rfl ?_
    refine X_iload_n (i := 2) hB dX12_turn_16 rfl rfl ?_
    refine X_callV hB kX12_277 cw10 hR.1.1 hR.1.2 (c_isUp (u := nUp σ x y) hR hF (by omega) (by omega) (hN.1.2.2.2.2.2 x y (by omega) (by omega))) (by decide) (by decide) rfl rfl (Nat.le_of_ble_eq_true rfl) dX12_turn_17 (fun r17 S17 q17 => ?_)
    obtain ⟨rfl, rfl⟩ := q17
    refine X_iload_n (i := 3) hB dX12_turn_20 rfl rfl ?_
    refine X_icmp_eq (tgt := 26) hB dX12_turn_21 (by decide) (fun c21 => ?_) (fun c21 => ?_)
    · refine X_aload_n (i := 0) hB dX12_turn_26 rfl rfl ?_
      refine X_iload_n (i := 1) hB dX12_turn_27 rfl rfl ?_
      refine X_iload_n (i := 2) hB dX12_turn_28 rfl rfl ?_
      refine X_iload_n (i := 3) hB dX12_turn_29 rfl rfl ?_
      refine X_if_eq (tgt := 37) hB dX12_turn_30 (by decide) (fun c30 => ?_) (fun c30 => absurd rfl c30)
      refine X_iconst (v := 1) hB dX12_turn_37 (by decide) ?_
      refine X_callV hB kX12_379 cw10 hR.1.1 hR.1.2 (c_layUp hR hF (by omega) (by omega) _) (by decide) (by decide) rfl rfl (Nat.le_of_ble_eq_true rfl) dX12_turn_38 (fun r38 S38 q38 => ?_)
      obtain ⟨rfl, rfl⟩ := q38
      refine X_iconst (v := 1) hB dX12_turn_41 (by decide) ?_
      refine X_zret hB rfl (by first | exact Or.inl rfl | exact Or.inr rfl) dX12_turn_42 ?_
      have e21 : nUp σ x y = false := by
        cases q : nUp σ x y with
        | true => rw [q] at c21; exact absurd c21 (by decide)
        | false => rfl
      rw [show aTurn σ (nI x) (nI y) false = (true, uUp σ x y (!nUp σ x y)) by simp only [aTurn, e11, if_pos e21]]
      rw [setI_rowI, setI_rowI, rowI_rowI, rowI_at]
      refine ⟨rfl, (fz.mono (by simp) (by simp)).tr (fr.row (by simp) (by omega)), ?_⟩
      rw [rowI_at]
      have q := netR_up (x := x) (y := y) (v := !nUp σ x y) hN hs (by omega) (by omega)
      rw [e21] at q ⊢
      exact q
    · first
        | (have e11 := if0 c11
           refine X_iconst (v := 0) hB dX12_turn_24 (by decide) ?_
           refine X_zret hB rfl (by first | exact Or.inl rfl | exact Or.inr rfl) dX12_turn_25 ?_
           rw [show aTurn σ v w false = (false, σ) by simp only [aTurn, e11]]
           exact ⟨rfl, fz.mono (by simp) (by simp), hN⟩)
        | (have e21 : ¬ nUp σ x y = false := fun q => c21 (by rw [q]; rfl)
           refine X_iconst (v := 0) hB dX12_turn_24 (by decide) ?_
           refine X_zret hB rfl (by first | exact Or.inl rfl | exact Or.inr rfl) dX12_turn_25 ?_
           rw [show aTurn σ (nI x) (nI y) false = (false, σ) by simp only [aTurn, e11, if_neg e21]]
           exact ⟨rfl, fz.mono (by simp) (by simp), hN⟩)
set_option maxRecDepth 100000 in
set_option maxHeartbeats 4000000 in
theorem c_turnT (hR : RLay G h) (hF : RRef S h) (σ : Net) (b : Nat) (hw : wfN σ b) (hN : netR (S.1 (h + 1)) σ) (v w : Int32) : C G mX12_turn 3 [.ref h, .int v, .int w, .int 1] S (fun r S' => r = some (.int (if (aTurn σ v w true).1 then 1 else 0)) ∧ fr h [h + 1] [0] S S' ∧ netR (S'.1 (h + 1)) (aTurn σ v w true).2) := by
  have hs := hw.sz
  have hc8 := hw.1.1.2
  have ha40 := hs.1
  have hd40 := hs.2.1
  refine C.mk (lv := [some (.ref h), some (.int v), some (.int w), some (.int 1)]) (by decide) (Nat.le_of_ble_eq_true rfl) rfl (fun E hB => ?_)
  refine X_aload_n (i := 0) hB dX12_turn_0 rfl rfl ?_
  refine X_iconst (v := 0) hB dX12_turn_1 (by decide) ?_
  refine X_puti hB cw10 fX12_51 rfl rfl hR.1.1 hR.1.2 dX12_turn_2 ?_
  generalize hS0 : setI S h 0 0 = S0
  have fz : fr h [] [0] S S0 := hS0 ▸ fr.fld (by simp)
  have hF := fz.ref hF
  have hN : netR (S0.1 (h + 1)) σ := by rw [fz.2.1 (h + 1) (by simp) (by omega)]; exact hN
  clear hS0
  refine X_aload_n (i := 0) hB dX12_turn_5 rfl rfl ?_
  refine X_iload_n (i := 1) hB dX12_turn_6 rfl rfl ?_
  refine X_iload_n (i := 2) hB dX12_turn_7 rfl rfl ?_
  refine X_callV hB kX12_373 cw10 hR.1.1 hR.1.2 (c_areTwo hR hF σ hN (by omega) v w) (by decide) (by decide) rfl rfl (Nat.le_of_ble_eq_true rfl) dX12_turn_8 (fun r8 S8 q8 => ?_)
  obtain ⟨rfl, rfl⟩ := q8
  refine X_if_eq (tgt := 24) hB dX12_turn_11 (by decide) (fun c11 => ?_) (fun c11 => ?_)
  · first
      | (have e11 := if0 c11
         refine X_iconst (v := 0) hB dX12_turn_24 (by decide) ?_
         refine X_zret hB rfl (by first | exact Or.inl rfl | exact Or.inr rfl) dX12_turn_25 ?_
         rw [show aTurn σ v w true = (false, σ) by simp only [aTurn, e11]]
         exact ⟨rfl, fz.mono (by simp) (by simp), hN⟩)
      | (have e21 : ¬ nUp σ x y = true := fun q => c21 (by rw [q]; rfl)
         refine X_iconst (v := 0) hB dX12_turn_24 (by decide) ?_
         refine X_zret hB rfl (by first | exact Or.inl rfl | exact Or.inr rfl) dX12_turn_25 ?_
         rw [show aTurn σ (nI x) (nI y) true = (false, σ) by simp only [aTurn, e11, if_neg e21]]
         exact ⟨rfl, fz.mono (by simp) (by simp), hN⟩)
  · obtain ⟨⟨x, y⟩, e11⟩ := opt_ex (if0n c11)
    obtain ⟨rfl, rfl, lx, ly, hxy⟩ := two_some e11
    refine X_aload_n (i := 0) hB dX12_turn_14 rfl rfl ?_
    refine X_iload_n (i := 1) hB dX12_turn_15 rfl rfl ?_
    refine X_iload_n (i := 2) hB dX12_turn_16 rfl rfl ?_
    refine X_callV hB kX12_277 cw10 hR.1.1 hR.1.2 (c_isUp (u := nUp σ x y) hR hF (by omega) (by omega) (hN.1.2.2.2.2.2 x y (by omega) (by omega))) (by decide) (by decide) rfl rfl (Nat.le_of_ble_eq_true rfl) dX12_turn_17 (fun r17 S17 q17 => ?_)
    obtain ⟨rfl, rfl⟩ := q17
    refine X_iload_n (i := 3) hB dX12_turn_20 rfl rfl ?_
    refine X_icmp_eq (tgt := 26) hB dX12_turn_21 (by decide) (fun c21 => ?_) (fun c21 => ?_)
    · refine X_aload_n (i := 0) hB dX12_turn_26 rfl rfl ?_
      refine X_iload_n (i := 1) hB dX12_turn_27 rfl rfl ?_
      refine X_iload_n (i := 2) hB dX12_turn_28 rfl rfl ?_
      refine X_iload_n (i := 3) hB dX12_turn_29 rfl rfl ?_
      refine X_if_eq (tgt := 37) hB dX12_turn_30 (by decide) (fun c30 => absurd c30 (by decide)) (fun c30 => ?_)
      refine X_iconst (v := 0) hB dX12_turn_33 (by decide) ?_
      refine X_goto (tgt := 38) hB dX12_turn_34 (by decide) ?_
      refine X_callV hB kX12_379 cw10 hR.1.1 hR.1.2 (c_layUp hR hF (by omega) (by omega) _) (by decide) (by decide) rfl rfl (Nat.le_of_ble_eq_true rfl) dX12_turn_38 (fun r38 S38 q38 => ?_)
      obtain ⟨rfl, rfl⟩ := q38
      refine X_iconst (v := 1) hB dX12_turn_41 (by decide) ?_
      refine X_zret hB rfl (by first | exact Or.inl rfl | exact Or.inr rfl) dX12_turn_42 ?_
      have e21 : nUp σ x y = true := by
        cases q : nUp σ x y with
        | false => rw [q] at c21; exact absurd c21 (by decide)
        | true => rfl
      rw [show aTurn σ (nI x) (nI y) true = (true, uUp σ x y (!nUp σ x y)) by simp only [aTurn, e11, if_pos e21]]
      rw [setI_rowI, setI_rowI, rowI_rowI, rowI_at]
      refine ⟨rfl, (fz.mono (by simp) (by simp)).tr (fr.row (by simp) (by omega)), ?_⟩
      rw [rowI_at]
      have q := netR_up (x := x) (y := y) (v := !nUp σ x y) hN hs (by omega) (by omega)
      rw [e21] at q ⊢
      exact q
    · first
        | (have e11 := if0 c11
           refine X_iconst (v := 0) hB dX12_turn_24 (by decide) ?_
           refine X_zret hB rfl (by first | exact Or.inl rfl | exact Or.inr rfl) dX12_turn_25 ?_
           rw [show aTurn σ v w true = (false, σ) by simp only [aTurn, e11]]
           exact ⟨rfl, fz.mono (by simp) (by simp), hN⟩)
        | (have e21 : ¬ nUp σ x y = true := fun q => c21 (by rw [q]; rfl)
           refine X_iconst (v := 0) hB dX12_turn_24 (by decide) ?_
           refine X_zret hB rfl (by first | exact Or.inl rfl | exact Or.inr rfl) dX12_turn_25 ?_
           rw [show aTurn σ (nI x) (nI y) true = (false, σ) by simp only [aTurn, e11, if_neg e21]]
           exact ⟨rfl, fz.mono (by simp) (by simp), hN⟩)
set_option maxRecDepth 100000 in
set_option maxHeartbeats 4000000 in
theorem l_ticks (hR : RLay G h) (hF : RRef S h) {E : Ev} (hB : Bd G E mX12_ticks) {Q : Option Value → St → Prop} (σ : Net) (b : Nat) (hw : wfN σ b) (n : Nat) (hn : n ≤ 6) (hnow : nNow σ + n ≤ 900) (hb : b + 104 * n < 100000) (kk : ∀ S1, fr h [h + 1, h + 7, h + 8, h + 9, h + 10, h + 11, h + 12] [20, 22] S S1 → netR (S1.1 (h + 1)) (tkN_ n σ) → Q (some (.int (nI (nNow σ + n)))) S1) :
    ∀ (k j : Nat) (S1 : St), j + k = n → fr h [h + 1, h + 7, h + 8, h + 9, h + 10, h + 11, h + 12] [20, 22] S S1 → netR (S1.1 (h + 1)) (tkN_ j σ) → X G E mX12_ticks 11 Q S1 34 [some (.ref h), some (.int (nI n)), some (.int (nI j))] [] := by
  intro k
  induction k with
  | zero =>
    intro j S1 h1 hfr hN1
    have hI := hw.tks j (by omega) (by omega)
    refine X_iload_n (i := 2) hB dX12_ticks_34 rfl rfl ?_
    refine X_iload_n (i := 1) hB dX12_ticks_35 rfl rfl ?_
    refine X_icmp_ge (tgt := 49) hB dX12_ticks_36 (by decide) (fun c36 => ?_) (fun c36 => absurd c36 (by simp (disch := omega) only [nlit, nI_leI, nI_ltI]; omega))
    refine X_aload_n (i := 0) hB dX12_ticks_49 rfl rfl ?_
    refine X_getr hB cw10 fX12_7 rfl hR.1.1 hR.1.2 (hfr.ref hF).1 dX12_ticks_50 ?_
    refine X_bipush (v := 8) hB dX12_ticks_53 (by decide) ?_
    refine X_ialdN hB (8) hR.2.1.1 hR.2.1.2 (by decide) (by first | rfl | (simp (disch := omega) only [nlit, nI_add, nI_mul, nI_sub]; done) | (simp (disch := omega) only [nlit, nI_add, nI_mul, nI_sub]; (congr 1 <;> omega))) (by first | omega | (simp only []; omega)) (show _ = nI (nNow σ + j) by rw [hN1.1.2.1, hI.2.2.1]) dX12_ticks_55 ?_
    refine X_iret hB rfl dX12_ticks_56 ?_
    have e9 : j = n := by omega
    subst e9
    exact kk S1 hfr hN1
  | succ k ih =>
    intro j S1 h1 hfr hN1
    have hI := hw.tks j (by omega) (by omega)
    refine X_iload_n (i := 2) hB dX12_ticks_34 rfl rfl ?_
    refine X_iload_n (i := 1) hB dX12_ticks_35 rfl rfl ?_
    refine X_icmp_ge (tgt := 49) hB dX12_ticks_36 (by decide) (fun c36 => absurd c36 (by simp (disch := omega) only [nlit, nI_leI, nI_ltI]; omega)) (fun c36 => ?_)
    refine X_aload_n (i := 0) hB dX12_ticks_39 rfl rfl ?_
    refine X_callV hB kX12_382 cw10 hR.1.1 hR.1.2 (c_tick hR (hfr.ref hF) (tkN_ j σ) (b + 104 * j) hI.1 (by rw [hI.2.2.1]; omega) (by omega) hN1) (by decide) (by decide) rfl rfl (Nat.le_of_ble_eq_true rfl) dX12_ticks_40 (fun r40 S40 q40 => ?_)
    obtain ⟨rfl, f8, n8⟩ := q40
    refine X_iinc hB dX12_ticks_43 rfl rfl (by decide) rfl ?_
    refine X_goto (tgt := 34) hB dX12_ticks_46 (by decide) ?_
    refine X_lv ?_ (ih (j + 1) _ (by omega) (hfr.tr f8) n8)
    · rw [nI_succ]; rfl
set_option maxRecDepth 100000 in
set_option maxHeartbeats 4000000 in
theorem c_ticks (hR : RLay G h) (hF : RRef S h) (σ : Net) (b : Nat) (hw : wfN σ b) (hN : netR (S.1 (h + 1)) σ) (hn9 : nNow σ ≤ 900) (hb : b + 3000 < 100000) (v : Int32) : C G mX12_ticks 11 [.ref h, .int v] S (fun r S' => r = some (.int (aTicks σ v).1) ∧ fr h [h + 1, h + 7, h + 8, h + 9, h + 10, h + 11, h + 12] [0, 20, 22] S S' ∧ netR (S'.1 (h + 1)) (aTicks σ v).2) := by
  have hs := hw.sz
  have hc8 := hw.1.1.2
  have ha40 := hs.1
  have hd40 := hs.2.1
  refine C.mk (lv := [some (.ref h), some (.int v), none]) (by decide) (Nat.le_of_ble_eq_true rfl) rfl (fun E hB => ?_)
  refine X_aload_n (i := 0) hB dX12_ticks_0 rfl rfl ?_
  refine X_iconst (v := 0) hB dX12_ticks_1 (by decide) ?_
  refine X_puti hB cw10 fX12_51 rfl rfl hR.1.1 hR.1.2 dX12_ticks_2 ?_
  generalize hS0 : setI S h 0 0 = S0
  have fz : fr h [] [0] S S0 := hS0 ▸ fr.fld (by simp)
  have hF := fz.ref hF
  have hN : netR (S0.1 (h + 1)) σ := by rw [fz.2.1 (h + 1) (by simp) (by omega)]; exact hN
  clear hS0
  refine X_iload_n (i := 1) hB dX12_ticks_5 rfl rfl ?_
  refine X_iconst (v := 1) hB dX12_ticks_6 (by decide) ?_
  refine X_bipush (v := 6) hB dX12_ticks_7 (by decide) ?_
  refine X_callS hB kX12_55 (c_in _ _ _) (by decide) (by decide) rfl rfl (Nat.le_of_ble_eq_true rfl) dX12_ticks_9 (fun r9 S9 q9 => ?_)
  obtain ⟨rfl, rfl⟩ := q9
  refine X_if_eq (tgt := 30) hB dX12_ticks_12 (by decide) (fun c12 => ?_) (fun c12 => ?_)
  · first
      | (have e12 := fun q => if1n c12 (in16.mpr q)
         refine X_iconst (v := (-1)) hB dX12_ticks_30 (by decide) ?_
         refine X_iret hB rfl dX12_ticks_31 ?_
         have e : aTicks σ v = (-1, σ) := by
           unfold aTicks
           split
           · rename_i k hk
             rw [if_neg (fun q => e12 ⟨k, hk, q.1⟩)]
           · rfl
         rw [e]
         exact ⟨rfl, fz.mono (by simp) (by simp), hN⟩)
      | (have e27 : ¬ (nNow σ + k ≤ 900) := by
           rw [show (900 : Int32) = nI 900 from rfl, nI_leI (by omega) (by omega)] at c27
           exact c27
         refine X_iconst (v := (-1)) hB dX12_ticks_30 (by decide) ?_
         refine X_iret hB rfl dX12_ticks_31 ?_
         rw [show aTicks σ (nI k) = (-1, σ) by simp only [aTicks, e12, if_neg (show ¬ (1 ≤ k ∧ nNow σ + k ≤ 900) from fun q => e27 q.2)]]
         exact ⟨rfl, fz.mono (by simp) (by simp), hN⟩)
  · obtain ⟨k, e12, k1⟩ := in16.mp (if1 c12)
    obtain ⟨l12, rfl⟩ := inN_some e12
    refine X_aload_n (i := 0) hB dX12_ticks_15 rfl rfl ?_
    refine X_getr hB cw10 fX12_7 rfl hR.1.1 hR.1.2 hF.1 dX12_ticks_16 ?_
    refine X_bipush (v := 8) hB dX12_ticks_19 (by decide) ?_
    refine X_ialdN hB (8) hR.2.1.1 hR.2.1.2 (by decide) (by first | rfl | (simp (disch := omega) only [nlit, nI_add, nI_mul, nI_sub]; done) | (simp (disch := omega) only [nlit, nI_add, nI_mul, nI_sub]; (congr 1 <;> omega))) (by first | omega | (simp only []; omega)) hN.1.2.1 dX12_ticks_21 ?_
    refine X_iload_n (i := 1) hB dX12_ticks_22 rfl rfl ?_
    refine X_iadd hB dX12_ticks_23 ?_
    refine X_topi (y := nI (nNow σ + k)) (by first | rfl | (simp (disch := omega) only [nlit, nI_add, nI_mul, nI_sub]; done) | (simp (disch := omega) only [nlit, nI_add, nI_mul, nI_sub]; (congr 1 <;> omega))) ?_
    refine X_sipush (v := 900) hB dX12_ticks_24 (by decide) ?_
    refine X_icmp_le (tgt := 32) hB dX12_ticks_27 (by decide) (fun c27 => ?_) (fun c27 => ?_)
    · refine X_iconst (v := 0) hB dX12_ticks_32 (by decide) ?_
      refine X_istore_n (i := 2) hB dX12_ticks_33 rfl (by decide) rfl ?_
      have e27 : nNow σ + k ≤ 900 := by
        rw [show (900 : Int32) = nI 900 from rfl, nI_leI (by omega) (by omega)] at c27
        exact c27
      refine X_lv ?_ (l_ticks (S := S0) hR hF hB σ b hw k (by omega) e27 (by omega) (fun S9 g1 g2 => ?_) k 0 _ (by omega) fr.rf hN)
      · rw [nI_0]; rfl
      · rw [show aTicks σ (nI k) = (nI (nNow σ + k), tkN_ k σ) by simp only [aTicks, e12, if_pos (show 1 ≤ k ∧ nNow σ + k ≤ 900 from ⟨k1, e27⟩)]]
        exact ⟨rfl, (fz.mono (by simp) (by simp)).tr (g1.mono (by simp) (by simp)), g2⟩
    · first
        | (have e12 := fun q => if1n c12 (in16.mpr q)
           refine X_iconst (v := (-1)) hB dX12_ticks_30 (by decide) ?_
           refine X_iret hB rfl dX12_ticks_31 ?_
           have e : aTicks σ v = (-1, σ) := by
             unfold aTicks
             split
             · rename_i k hk
               rw [if_neg (fun q => e12 ⟨k, hk, q.1⟩)]
             · rfl
           rw [e]
           exact ⟨rfl, fz.mono (by simp) (by simp), hN⟩)
        | (have e27 : ¬ (nNow σ + k ≤ 900) := by
             rw [show (900 : Int32) = nI 900 from rfl, nI_leI (by omega) (by omega)] at c27
             exact c27
           refine X_iconst (v := (-1)) hB dX12_ticks_30 (by decide) ?_
           refine X_iret hB rfl dX12_ticks_31 ?_
           rw [show aTicks σ (nI k) = (-1, σ) by simp only [aTicks, e12, if_neg (show ¬ (1 ≤ k ∧ nNow σ + k ≤ 900) from fun q => e27 q.2)]]
           exact ⟨rfl, fz.mono (by simp) (by simp), hN⟩)
end REF
