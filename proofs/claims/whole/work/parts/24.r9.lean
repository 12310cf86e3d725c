section REF
variable {G : Gc} {S : St} {h : Nat}
set_option maxRecDepth 100000 in
set_option maxHeartbeats 4000000 in
theorem l_lF0 (hR : RLay G h) (hF : RRef S h) {E : Ev} (hB : Bd G E mX12_laysFar) {Q : Option Value → St → Prop} (to : Nat) (hto : to < 8) (kk : ∀ F v, farR F (fun x => if x = to then 0 else 99) → X G E mX12_laysFar 1 Q (rowI S (h + 10) F) 31 [some (.ref h), some (.int (nI to)), some (.int v), none] []) :
    ∀ (k i : Nat) (F : Nat → Int32), i + k = 8 → (∀ x, x < i → F x = nI (if x = to then 0 else 99)) → X G E mX12_laysFar 1 Q (rowI S (h + 10) F) 2 [some (.ref h), some (.int (nI to)), some (.int (nI i)), none] [] := by
  intro k
  induction k with
  | zero =>
    intro i F h1 h2
    refine X_iload_n (i := 2) hB dX12_laysFar_2 rfl rfl ?_
    refine X_bipush (v := 8) hB dX12_laysFar_3 (by decide) ?_
    refine X_icmp_ge (tgt := 31) hB dX12_laysFar_5 (by decide) (fun c5 => ?_) (fun c5 => absurd c5 (by simp (disch := omega) only [nlit, nI_leI, nI_ltI]; omega))
    exact kk F _ (fun x hx => h2 x (by omega))
  | succ k ih =>
    intro i F h1 h2
    refine X_iload_n (i := 2) hB dX12_laysFar_2 rfl rfl ?_
    refine X_bipush (v := 8) hB dX12_laysFar_3 (by decide) ?_
    refine X_icmp_ge (tgt := 31) hB dX12_laysFar_5 (by decide) (fun c5 => absurd c5 (by simp (disch := omega) only [nlit, nI_leI, nI_ltI]; omega)) (fun c5 => ?_)
    refine X_aload_n (i := 0) hB dX12_laysFar_8 rfl rfl ?_
    refine X_getr hB cw10 fX12_39 rfl hR.1.1 hR.1.2 hF.2.2.2.2.2.2.2.2.2.1 dX12_laysFar_9 ?_
    refine X_iload_n (i := 2) hB dX12_laysFar_12 rfl rfl ?_
    refine X_iload_n (i := 2) hB dX12_laysFar_13 rfl rfl ?_
    refine X_iload_n (i := 1) hB dX12_laysFar_14 rfl rfl ?_
    refine X_icmp_ne (tgt := 22) hB dX12_laysFar_15 (by decide) (fun c15 => ?_) (fun c15 => ?_)
    · refine X_bipush (v := 99) hB dX12_laysFar_22 (by decide) ?_
      refine X_iastN hB (i) hR.2.2.2.2.2.2.2.2.2.2.1.1 hR.2.2.2.2.2.2.2.2.2.2.1.2 (by decide) (by first | rfl | (simp (disch := omega) only [nlit, nI_add, nI_mul, nI_sub]; done) | (simp (disch := omega) only [nlit, nI_add, nI_mul, nI_sub]; congr 1; omega)) (by first | omega | (simp only []; omega)) dX12_laysFar_24 ?_
      refine X_iinc hB dX12_laysFar_25 rfl rfl (by decide) rfl ?_
      refine X_goto (tgt := 2) hB dX12_laysFar_28 (by decide) ?_
      rw [setI_rowI, rowI_rowI, rowI_at]
      refine X_lv ?_ (ih (i + 1) _ (by omega) (fun x hx => ?_))
      · rw [nI_succ]; rfl
      · by_cases hji : x = i
        · subst hji; rw [upd_at]
          first
          | (rw [if_pos (i32_inj (by omega) (by omega) (by first | exact c15 | exact Decidable.not_not.mp c15))]; rfl)
          | (rw [if_neg (fun e9 => c15 (by rw [e9]))]; rfl)
        · rw [upd_ne _ _ hji]; exact h2 x (by omega)
    · refine X_iconst (v := 0) hB dX12_laysFar_18 (by decide) ?_
      refine X_goto (tgt := 24) hB dX12_laysFar_19 (by decide) ?_
      refine X_iastN hB (i) hR.2.2.2.2.2.2.2.2.2.2.1.1 hR.2.2.2.2.2.2.2.2.2.2.1.2 (by decide) (by first | rfl | (simp (disch := omega) only [nlit, nI_add, nI_mul, nI_sub]; done) | (simp (disch := omega) only [nlit, nI_add, nI_mul, nI_sub]; congr 1; omega)) (by first | omega | (simp only []; omega)) dX12_laysFar_24 ?_
      refine X_iinc hB dX12_laysFar_25 rfl rfl (by decide) rfl ?_
      refine X_goto (tgt := 2) hB dX12_laysFar_28 (by decide) ?_
      rw [setI_rowI, rowI_rowI, rowI_at]
      refine X_lv ?_ (ih (i + 1) _ (by omega) (fun x hx => ?_))
      · rw [nI_succ]; rfl
      · by_cases hji : x = i
        · subst hji; rw [upd_at]
          first
          | (rw [if_pos (i32_inj (by omega) (by omega) (by first | exact c15 | exact Decidable.not_not.mp c15))]; rfl)
          | (rw [if_neg (fun e9 => c15 (by rw [e9]))]; rfl)
        · rw [upd_ne _ _ hji]; exact h2 x (by omega)
set_option maxRecDepth 100000 in
set_option maxHeartbeats 4000000 in
theorem l_lF1 (hR : RLay G h) (hF : RRef S h) {E : Ev} (hB : Bd G E mX12_laysFar) {Q : Option Value → St → Prop} (to : Nat) (hto : to < 8) (f : Nat → Nat → Bool) (hK : knR (S.1 (h + 9)) f) (r : Nat) (hr : r < 8) (kk : ∀ F fn v, farR F fn → fSo f to fn → fCo f to r fn → fPa f to r 64 fn → X G E mX12_laysFar 1 Q (rowI S (h + 10) F) 94 [some (.ref h), some (.int (nI to)), some (.int (nI r)), some (.int v)] []) :
    ∀ (k j : Nat) (F : Nat → Int32) (fn : Nat → Nat), j + k = 64 → farR F fn → fSo f to fn → fCo f to r fn → fPa f to r j fn → X G E mX12_laysFar 1 Q (rowI S (h + 10) F) 41 [some (.ref h), some (.int (nI to)), some (.int (nI r)), some (.int (nI j))] [] := by
  intro k
  induction k with
  | zero =>
    intro j F fn h1 hF1 h2 h3 h4
    refine X_iload_n (i := 3) hB dX12_laysFar_41 rfl rfl ?_
    refine X_bipush (v := 64) hB dX12_laysFar_42 (by decide) ?_
    refine X_icmp_ge (tgt := 94) hB dX12_laysFar_44 (by decide) (fun c44 => ?_) (fun c44 => absurd c44 (by simp (disch := omega) only [nlit, nI_leI, nI_ltI]; omega))
    have e9 : j = 64 := by omega
    subst e9
    exact kk F fn _ hF1 h2 h3 h4
  | succ k ih =>
    intro j F fn h1 hF1 h2 h3 h4
    have hdv := nI_div8 j (by omega)
    have b1 := (h2 (j / 8) (by omega)).1
    have b2 := (h2 (j % 8) (by omega)).1
    have hkj : (rowI S (h + 10) F).1 (h + 9) j = if f (j / 8) (j % 8) then 1 else 0 := by
      rw [rowI_ne _ _ (by omega), ← hK (j / 8) (j % 8) (by omega) (by omega)]; exact congrArg _ (by omega)
    refine X_iload_n (i := 3) hB dX12_laysFar_41 rfl rfl ?_
    refine X_bipush (v := 64) hB dX12_laysFar_42 (by decide) ?_
    refine X_icmp_ge (tgt := 94) hB dX12_laysFar_44 (by decide) (fun c44 => absurd c44 (by simp (disch := omega) only [nlit, nI_leI, nI_ltI]; omega)) (fun c44 => ?_)
    refine X_aload_n (i := 0) hB dX12_laysFar_47 rfl rfl ?_
    refine X_getr hB cw10 fX12_36 rfl hR.1.1 hR.1.2 hF.2.2.2.2.2.2.2.2.1 dX12_laysFar_48 ?_
    refine X_iload_n (i := 3) hB dX12_laysFar_51 rfl rfl ?_
    refine X_zaldN hB (j) hR.2.2.2.2.2.2.2.2.2.1.1 hR.2.2.2.2.2.2.2.2.2.1.2 (by decide) (by first | rfl | (simp (disch := omega) only [nlit, nI_add, nI_mul, nI_sub]; done) | (simp (disch := omega) only [nlit, nI_add, nI_mul, nI_sub]; congr 1; omega)) (by first | omega | (simp only []; omega)) hkj dX12_laysFar_52 ?_
    refine X_if_eq (tgt := 88) hB dX12_laysFar_53 (by decide) (fun c53 => ?_) (fun c53 => ?_)
    · refine X_iinc hB dX12_laysFar_88 rfl rfl (by decide) rfl ?_
      refine X_goto (tgt := 41) hB dX12_laysFar_91 (by decide) ?_
      first
      | (rw [setI_rowI, rowI_rowI, rowI_at]
         have hfj : f (j / 8) (j % 8) = true := by
           cases hq : f (j / 8) (j % 8) with
           | true => rfl
           | false => rw [hq] at c53; exact absurd rfl c53
         obtain ⟨g1, g2, g3⟩ := far_step (by omega) h2 h3 h4 hfj
         refine X_lv ?_ (ih (j + 1) _ (updN fn (j / 8) (min (fn (j / 8)) (fn (j % 8) + 1))) (by omega) (fun x hx => ?_) g1 g2 g3)
         · rw [nI_succ]; rfl
         · by_cases hx9 : x = j / 8
           · subst hx9; rw [upd_at, updN_at]
           · rw [upd_ne _ _ hx9, updN_ne _ _ hx9]; exact hF1 x hx)
      | (have hfj : f (j / 8) (j % 8) = false := by
           cases hq : f (j / 8) (j % 8) with
           | false => rfl
           | true => rw [hq] at c53; exact absurd c53 (by decide)
         refine X_lv ?_ (ih (j + 1) F fn (by omega) hF1 h2 h3 (far_skip (by omega) h4 hfj))
         · rw [nI_succ]; rfl)
    · refine X_aload_n (i := 0) hB dX12_laysFar_56 rfl rfl ?_
      refine X_getr hB cw10 fX12_39 rfl hR.1.1 hR.1.2 hF.2.2.2.2.2.2.2.2.2.1 dX12_laysFar_57 ?_
      refine X_iload_n (i := 3) hB dX12_laysFar_60 rfl rfl ?_
      refine X_bipush (v := 8) hB dX12_laysFar_61 (by decide) ?_
      refine X_idiv hB dX12_laysFar_63 (by decide) ?_
      refine X_aload_n (i := 0) hB dX12_laysFar_64 rfl rfl ?_
      refine X_getr hB cw10 fX12_39 rfl hR.1.1 hR.1.2 hF.2.2.2.2.2.2.2.2.2.1 dX12_laysFar_65 ?_
      refine X_iload_n (i := 3) hB dX12_laysFar_68 rfl rfl ?_
      refine X_bipush (v := 8) hB dX12_laysFar_69 (by decide) ?_
      refine X_idiv hB dX12_laysFar_71 (by decide) ?_
      refine X_ialdN hB (j / 8) hR.2.2.2.2.2.2.2.2.2.2.1.1 hR.2.2.2.2.2.2.2.2.2.2.1.2 (by decide) hdv.1 (by first | omega | (simp only []; omega)) (show _ = nI (fn (j / 8)) by rw [rowI_at]; exact hF1 _ (by omega)) dX12_laysFar_72 ?_
      refine X_aload_n (i := 0) hB dX12_laysFar_73 rfl rfl ?_
      refine X_getr hB cw10 fX12_39 rfl hR.1.1 hR.1.2 hF.2.2.2.2.2.2.2.2.2.1 dX12_laysFar_74 ?_
      refine X_iload_n (i := 3) hB dX12_laysFar_77 rfl rfl ?_
      refine X_bipush (v := 8) hB dX12_laysFar_78 (by decide) ?_
      refine X_irem hB dX12_laysFar_80 (by decide) ?_
      refine X_ialdN hB (j % 8) hR.2.2.2.2.2.2.2.2.2.2.1.1 hR.2.2.2.2.2.2.2.2.2.2.1.2 (by decide) hdv.2 (by first | omega | (simp only []; omega)) (show _ = nI (fn (j % 8)) by rw [rowI_at]; exact hF1 _ (by omega)) dX12_laysFar_81 ?_
      refine X_iconst (v := 1) hB dX12_laysFar_82 (by decide) ?_
      refine X_iadd hB dX12_laysFar_83 ?_
      refine X_topi (y := nI (fn (j % 8) + 1)) (by first | rfl | (simp (disch := omega) only [nlit, nI_add, nI_mul, nI_sub]; done) | (simp (disch := omega) only [nlit, nI_add, nI_mul, nI_sub]; congr 1; omega)) ?_
      refine X_callS hB kX12_63 (c_lesserN (by omega) (by omega)) (by decide) (by decide) rfl rfl (Nat.le_of_ble_eq_true rfl) dX12_laysFar_84 (fun r84 S84 q84 => ?_)
      obtain ⟨rfl, rfl⟩ := q84
      refine X_iastN hB (j / 8) hR.2.2.2.2.2.2.2.2.2.2.1.1 hR.2.2.2.2.2.2.2.2.2.2.1.2 (by decide) hdv.1 (by first | omega | (simp only []; omega)) dX12_laysFar_87 ?_
      refine X_iinc hB dX12_laysFar_88 rfl rfl (by decide) rfl ?_
      refine X_goto (tgt := 41) hB dX12_laysFar_91 (by decide) ?_
      first
      | (rw [setI_rowI, rowI_rowI, rowI_at]
         have hfj : f (j / 8) (j % 8) = true := by
           cases hq : f (j / 8) (j % 8) with
           | true => rfl
           | false => rw [hq] at c53; exact absurd rfl c53
         obtain ⟨g1, g2, g3⟩ := far_step (by omega) h2 h3 h4 hfj
         refine X_lv ?_ (ih (j + 1) _ (updN fn (j / 8) (min (fn (j / 8)) (fn (j % 8) + 1))) (by omega) (fun x hx => ?_) g1 g2 g3)
         · rw [nI_succ]; rfl
         · by_cases hx9 : x = j / 8
           · subst hx9; rw [upd_at, updN_at]
           · rw [upd_ne _ _ hx9, updN_ne _ _ hx9]; exact hF1 x hx)
      | (have hfj : f (j / 8) (j % 8) = false := by
           cases hq : f (j / 8) (j % 8) with
           | false => rfl
           | true => rw [hq] at c53; exact absurd c53 (by decide)
         refine X_lv ?_ (ih (j + 1) F fn (by omega) hF1 h2 h3 (far_skip (by omega) h4 hfj))
         · rw [nI_succ]; rfl)
set_option maxRecDepth 100000 in
set_option maxHeartbeats 4000000 in
theorem l_lF2 (hR : RLay G h) (hF : RRef S h) {E : Ev} (hB : Bd G E mX12_laysFar) {Q : Option Value → St → Prop} (to : Nat) (hto : to < 8) (f : Nat → Nat → Bool) (hK : knR (S.1 (h + 9)) f) (kk : ∀ F, farR F (dst f to) → Q none (rowI S (h + 10) F)) :
    ∀ (k r : Nat) (F : Nat → Int32) (fn : Nat → Nat), r + k = 8 → farR F fn → fSo f to fn → fCo f to r fn → X G E mX12_laysFar 1 Q (rowI S (h + 10) F) 33 [some (.ref h), some (.int (nI to)), some (.int (nI r)), none] [] := by
  intro k
  induction k with
  | zero =>
    intro r F fn h1 hF1 h2 h3
    refine X_iload_n (i := 2) hB dX12_laysFar_33 rfl rfl ?_
    refine X_bipush (v := 8) hB dX12_laysFar_34 (by decide) ?_
    refine X_icmp_ge (tgt := 100) hB dX12_laysFar_36 (by decide) (fun c36 => ?_) (fun c36 => absurd c36 (by simp (disch := omega) only [nlit, nI_leI, nI_ltI]; omega))
    refine X_vret hB rfl dX12_laysFar_100 ?_
    have e9 : r = 8 := by omega
    subst e9
    exact kk F (fun x hx => by rw [← far_end hto h2 h3 x hx]; exact hF1 x hx)
  | succ k ih =>
    intro r F fn h1 hF1 h2 h3
    refine X_iload_n (i := 2) hB dX12_laysFar_33 rfl rfl ?_
    refine X_bipush (v := 8) hB dX12_laysFar_34 (by decide) ?_
    refine X_icmp_ge (tgt := 100) hB dX12_laysFar_36 (by decide) (fun c36 => absurd c36 (by simp (disch := omega) only [nlit, nI_leI, nI_ltI]; omega)) (fun c36 => ?_)
    refine X_iconst (v := 0) hB dX12_laysFar_39 (by decide) ?_
    refine X_istore_n (i := 3) hB dX12_laysFar_40 rfl (by decide) rfl ?_
    refine X_lv ?_ (l_lF1 hR hF hB to hto f hK r (by omega) (fun F2 fn2 v9 g1 g2 g3 g4 => ?_) 64 0 F fn (by omega) hF1 h2 h3 (fun x y _ _ h9 => by omega))
    · rw [nI_0]; rfl
    refine X_iinc hB dX12_laysFar_94 rfl rfl (by decide) rfl ?_
    refine X_goto (tgt := 33) hB dX12_laysFar_97 (by decide) ?_
    exact X_dl [some (.ref h), some (.int (nI to)), some (.int (nI (r + 1))), none] (by simp [lle, lset, nI_succ]) (ih (r + 1) F2 fn2 (by omega) g1 g2 (far_round g3 g4))
set_option maxRecDepth 100000 in
set_option maxHeartbeats 4000000 in
theorem c_laysFar (hR : RLay G h) (hF : RRef S h) (to : Nat) (hto : to < 8) (f : Nat → Nat → Bool) (hK : knR (S.1 (h + 9)) f) : C G mX12_laysFar 1 [.ref h, .int (nI to)] S (fun r S' => r = none ∧ fr h [h + 10] [] S S' ∧ farR (S'.1 (h + 10)) (dst f to)) := by
  refine C.mk (lv := [some (.ref h), some (.int (nI to)), none, none]) (by decide) (Nat.le_of_ble_eq_true rfl) rfl (fun E hB => ?_)
  refine X_iconst (v := 0) hB dX12_laysFar_0 (by decide) ?_
  refine X_istore_n (i := 2) hB dX12_laysFar_1 rfl (by decide) rfl ?_
  refine X_S (S' := rowI S (h + 10) (S.1 (h + 10))) (by rw [rowI_self]) (X_lv ?_ (l_lF0 hR hF hB to hto (fun F v9 hF1 => ?_) 8 0 _ (by omega) (fun x hx => by omega)))
  · rw [nI_0]; rfl
  refine X_iconst (v := 0) hB dX12_laysFar_31 (by decide) ?_
  refine X_istore_n (i := 2) hB dX12_laysFar_32 rfl (by decide) rfl ?_
  refine X_lv (lv' := [some (.ref h), some (.int (nI to)), some (.int (nI 0)), none]) (by rw [nI_0]; rfl) (l_lF2 hR hF hB to hto f hK (fun F2 g => ⟨rfl, fr.row (by simp) (by omega), by rw [rowI_at]; exact g⟩) 8 0 F _ (by omega) hF1 (fun x hx => ?_) (fun d x hd hx hw => ?_))
  · split
    · rename_i e9; exact ⟨by omega, fun _ => by simp [wtn, e9]⟩
    · exact ⟨by omega, fun h9 => by omega⟩
  · have e8 : d = 0 := by omega
    subst e8
    simp [wtn] at hw
    simp [hw]
end REF
