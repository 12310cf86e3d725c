section REF
variable {G : Gc} {S : St} {h : Nat}
set_option maxRecDepth 100000 in
set_option maxHeartbeats 4000000 in
theorem t_an0 (hR : RLay G h) (hF : RRef S h) {E : Ev} (hB : Bd G E mX12_answers) {Q : Option Value → St → Prop} (σ : Net) (hN : netR (S.1 (h + 1)) σ) (hs : szN σ) (f : Fm) (hf : frS (S.1 (h + 12)) f) (hfl : (fRo f).length ≤ 7) (hfx : ∀ x ∈ fRo f, x < 8) (z t : Nat) (g : Fm) (hg0 : fRo g = []) (hgk : fKi g ≤ 3) (hg : frS (S.1 (h + 11)) g) (kk : ∀ S2, fr h [h + 1, h + 11] [] S S2 → netR (S2.1 (h + 1)) (sendF σ (g.1, g.2.1, g.2.2.1, g.2.2.2.1, g.2.2.2.2.1, (fRo f ++ [z]) ++ [])).1 → Q none S2) : X G E mX12_answers 5 Q S 89 [some (.ref h), some (.int (nI z)), some (.int (nI t)), some (.int 0), none] [] := by
  have hg1 : frS (S.1 (h + 11)) (g.1, g.2.1, g.2.2.1, g.2.2.2.1, g.2.2.2.2.1, (fRo f).take 0) := by
    rw [List.take_zero, ← hg0]; exact hg
  refine X_iconst (v := 0) hB dX12_answers_89 (by decide) ?_
  refine X_istore hB dX12_answers_90 (by decide) rfl ?_
  refine X_lv (lv' := [some (.ref h), some (.int (nI z)), some (.int (nI t)), some (.int 0), some (.int (nI 0))]) (by rw [nI_0]; rfl) (l_an1 hR hF hB f hf (by omega) hfx z t 0 g hg0 (fun S9 v9 k1 k2 => ?_) (fRo f).length 0 S (by omega) fr.rf hg1)
  refine X_aload_n (i := 0) hB dX12_answers_120 rfl rfl ?_
  refine X_iload_n (i := 1) hB dX12_answers_121 rfl rfl ?_
  refine X_callV hB kX12_262 cw10 hR.1.1 hR.1.2 (c_addsFrame hR (k1.ref hF) (g.1, g.2.1, g.2.2.1, g.2.2.2.1, g.2.2.2.2.1, fRo f) z (by show (fRo f).length ≤ 8; omega) k2) (by decide) (by decide) rfl rfl (Nat.le_of_ble_eq_true rfl) dX12_answers_122 (fun r122 S122 q122 => ?_)
  obtain ⟨rfl, f122, g122⟩ := q122
  have n122 : netR (S122.1 (h + 1)) σ := by rw [f122.2.1 _ (by simp) (by omega), k1.2.1 _ (by simp) (by omega)]; exact hN
  refine X_iconst (v := 1) hB dX12_answers_125 (by decide) ?_
  refine X_istore hB dX12_answers_126 (by decide) rfl ?_
  refine X_iload_n (i := 3) hB dX12_answers_128 rfl rfl ?_
  refine X_if_eq (tgt := 158) hB dX12_answers_129 (by decide) (fun c129 => ?_) (fun c129 => absurd rfl c129)
  refine X_aload_n (i := 0) hB dX12_answers_158 rfl rfl ?_
  refine X_callV hB kX12_253 cw10 hR.1.1 hR.1.2 (c_sends hR (f122.ref (k1.ref hF)) σ (g.1, g.2.1, g.2.2.1, g.2.2.2.1, g.2.2.2.2.1, (fRo f ++ [z]) ++ []) n122 hs hgk (by rw [List.append_nil]; exact g122) (by show ((fRo f ++ [z]) ++ []).length ≤ 8; rw [List.append_nil, List.length_append]; show (fRo f).length + 1 ≤ 8; omega)) (by decide) (by decide) rfl rfl (Nat.le_of_ble_eq_true rfl) dX12_answers_159 (fun r159 S159 q159 => ?_)
  obtain ⟨rfl, f159, n159⟩ := q159
  refine X_istore hB dX12_answers_162 (by decide) rfl ?_
  refine X_vret hB rfl dX12_answers_164 ?_
  exact kk _ ((k1.mono (by simp) (by simp)).tr ((f122.mono (by simp) (by simp)).tr (f159.mono (by simp) (by simp)))) n159
set_option maxRecDepth 100000 in
set_option maxHeartbeats 4000000 in
theorem t_an1 (hR : RLay G h) (hF : RRef S h) {E : Ev} (hB : Bd G E mX12_answers) {Q : Option Value → St → Prop} (σ : Net) (hN : netR (S.1 (h + 1)) σ) (hs : szN σ) (f : Fm) (hf : frS (S.1 (h + 12)) f) (hfl : (fRo f).length ≤ 7) (hfx : ∀ x ∈ fRo f, x < 8) (w : List Nat) (hw : wayR S h w) (hw8 : w.length ≤ 8) (hwx : ∀ x ∈ w, x < 8) (hwl : 1 ≤ w.length ∧ (fRo f).length + 1 + (w.length - 1) ≤ 8) (z t : Nat) (g : Fm) (hg0 : fRo g = []) (hgk : fKi g ≤ 3) (hg : frS (S.1 (h + 11)) g) (kk : ∀ S2, fr h [h + 1, h + 11] [] S S2 → netR (S2.1 (h + 1)) (sendF σ (g.1, g.2.1, g.2.2.1, g.2.2.2.1, g.2.2.2.2.1, (fRo f ++ [z]) ++ w.tail)).1 → Q none S2) : X G E mX12_answers 5 Q S 89 [some (.ref h), some (.int (nI z)), some (.int (nI t)), some (.int 1), none] [] := by
  have hg1 : frS (S.1 (h + 11)) (g.1, g.2.1, g.2.2.1, g.2.2.2.1, g.2.2.2.2.1, (fRo f).take 0) := by
    rw [List.take_zero, ← hg0]; exact hg
  refine X_iconst (v := 0) hB dX12_answers_89 (by decide) ?_
  refine X_istore hB dX12_answers_90 (by decide) rfl ?_
  refine X_lv (lv' := [some (.ref h), some (.int (nI z)), some (.int (nI t)), some (.int 1), some (.int (nI 0))]) (by rw [nI_0]; rfl) (l_an1 hR hF hB f hf (by omega) hfx z t 1 g hg0 (fun S9 v9 k1 k2 => ?_) (fRo f).length 0 S (by omega) fr.rf hg1)
  refine X_aload_n (i := 0) hB dX12_answers_120 rfl rfl ?_
  refine X_iload_n (i := 1) hB dX12_answers_121 rfl rfl ?_
  refine X_callV hB kX12_262 cw10 hR.1.1 hR.1.2 (c_addsFrame hR (k1.ref hF) (g.1, g.2.1, g.2.2.1, g.2.2.2.1, g.2.2.2.2.1, fRo f) z (by show (fRo f).length ≤ 8; omega) k2) (by decide) (by decide) rfl rfl (Nat.le_of_ble_eq_true rfl) dX12_answers_122 (fun r122 S122 q122 => ?_)
  obtain ⟨rfl, f122, g122⟩ := q122
  have n122 : netR (S122.1 (h + 1)) σ := by rw [f122.2.1 _ (by simp) (by omega), k1.2.1 _ (by simp) (by omega)]; exact hN
  have w122 : wayR S122 h w := hw.of ((f122.2.2 _ (by simp)).trans (k1.2.2 _ (by simp))) ((f122.2.1 _ (by simp) (by omega)).trans (k1.2.1 _ (by simp) (by omega)))
  refine X_iconst (v := 1) hB dX12_answers_125 (by decide) ?_
  refine X_istore hB dX12_answers_126 (by decide) rfl ?_
  refine X_lv (lv' := [some (.ref h), some (.int (nI z)), some (.int (nI t)), some (.int 1), some (.int (nI 1))]) rfl (l_an2 (S := S122) hR (f122.ref (k1.ref hF)) hB w w122 hw8 hwx z t (g.1, g.2.1, g.2.2.1, g.2.2.2.1, g.2.2.2.2.1, (fRo f ++ [z]) ++ w.tail) (fun S8 v8 m1 m2 => ?_) (w.length - 1) 1 (fAdd (g.1, g.2.1, g.2.2.1, g.2.2.2.1, g.2.2.2.2.1, fRo f) z) S122 (by omega) (by show (fRo f ++ [z]).length + (w.length - 1) ≤ 8; rw [List.length_append]; show (fRo f).length + 1 + (w.length - 1) ≤ 8; omega) fr.rf g122 (by rw [List.drop_one]; rfl))
  have n8 : netR (S8.1 (h + 1)) σ := by rw [m1.2.1 _ (by simp) (by omega)]; exact n122
  refine X_aload_n (i := 0) hB dX12_answers_158 rfl rfl ?_
  refine X_callV hB kX12_253 cw10 hR.1.1 hR.1.2 (c_sends hR (m1.ref (f122.ref (k1.ref hF))) σ (g.1, g.2.1, g.2.2.1, g.2.2.2.1, g.2.2.2.2.1, (fRo f ++ [z]) ++ w.tail) n8 hs hgk m2 (by show ((fRo f ++ [z]) ++ w.tail).length ≤ 8; rw [List.length_append, List.length_append, List.length_tail]; show (fRo f).length + 1 + (w.length - 1) ≤ 8; omega)) (by decide) (by decide) rfl rfl (Nat.le_of_ble_eq_true rfl) dX12_answers_159 (fun r159 S159 q159 => ?_)
  obtain ⟨rfl, f159, n159⟩ := q159
  refine X_istore hB dX12_answers_162 (by decide) rfl ?_
  refine X_vret hB rfl dX12_answers_164 ?_
  exact kk _ ((k1.mono (by simp) (by simp)).tr ((f122.mono (by simp) (by simp)).tr ((m1.mono (by simp) (by simp)).tr (f159.mono (by simp) (by simp))))) n159
set_option maxRecDepth 100000 in
set_option maxHeartbeats 4000000 in
theorem c_answers (hR : RLay G h) (hF : RRef S h) (σ : Net) (hN : netR (S.1 (h + 1)) σ) (hs : szN σ) (f : Fm) (hf : frS (S.1 (h + 12)) f) (hfl : (fRo f).length ≤ 7) (hfx : ∀ x ∈ fRo f, x < 8) (hf1 : 1 ≤ (fRo f).length) (hk1 : fKi f = 1) (hh : nSe σ 1 ≤ 7) (z : Nat) (hz : z < 8) (ht : fAb f < 8) : C G mX12_answers 5 [.ref h, .int (nI z), .int (nI (fAb f))] S (fun r S' => r = none ∧ fr h [h + 1, h + 8, h + 9, h + 10, h + 11] [22] S S' ∧ netR (S'.1 (h + 1)) (answer σ z f)) := by
  refine C.mk (lv := [some (.ref h), some (.int (nI z)), some (.int (nI (fAb f))), none, none]) (by decide) (Nat.le_of_ble_eq_true rfl) rfl (fun E hB => ?_)
  refine X_iload_n (i := 1) hB dX12_answers_0 rfl rfl ?_
  refine X_iload_n (i := 2) hB dX12_answers_1 rfl rfl ?_
  refine X_icmp_eq (tgt := 25) hB dX12_answers_2 (by decide) (fun c2 => ?_) (fun c2 => ?_)
  · have hzt : z = fAb f := i32_inj (by omega) (by omega) c2
    have hkw : kwB σ z f = false := by unfold kwB; rw [show decide (z ≠ fAb f) = false by simp [hzt]]; rfl
    refine X_iconst (v := 0) hB dX12_answers_25 (by decide) ?_
    refine X_istore_n (i := 3) hB dX12_answers_26 rfl (by decide) rfl ?_
    refine X_iload_n (i := 1) hB dX12_answers_27 rfl rfl ?_
    refine X_iload_n (i := 2) hB dX12_answers_28 rfl rfl ?_
    refine X_icmp_eq (tgt := 36) hB dX12_answers_29 (by decide) (fun c29 => ?_) (fun c29 => absurd (by rw [hzt]) c29)
    refine X_aload_n (i := 0) hB dX12_answers_36 rfl rfl ?_
    refine X_iconst (v := 2) hB dX12_answers_37 (by decide) ?_
    refine X_iload_n (i := 1) hB dX12_answers_38 rfl rfl ?_
    refine X_iconst (v := (-1)) hB dX12_answers_39 (by decide) ?_
    refine X_iconst (v := (-1)) hB dX12_answers_40 (by decide) ?_
    refine X_iconst (v := (-1)) hB dX12_answers_41 (by decide) ?_
    refine X_iconst (v := (-1)) hB dX12_answers_42 (by decide) ?_
    refine X_callV hB kX12_249 cw10 hR.1.1 hR.1.2 (c_beginsFrame hR hF (2, z, 0, 0, none, []) rfl) (by decide) (by decide) rfl rfl (Nat.le_of_ble_eq_true rfl) dX12_answers_43 (fun r43 S43 q43 => ?_)
    obtain ⟨rfl, f43, g43⟩ := q43
    have n43 : netR (S43.1 (h + 1)) σ := by rw [f43.2.1 _ (by simp) (by omega)]; exact hN
    have h43 : frS (S43.1 (h + 12)) f := by rw [f43.2.1 _ (by simp) (by omega)]; exact hf
    refine X_goto (tgt := 89) hB dX12_answers_46 (by decide) ?_
    refine t_an0 (S := S43) hR (f43.ref hF) hB σ n43 hs f h43 hfl hfx z (fAb f) (2, z, 0, 0, none, []) rfl (by show 2 ≤ 3; omega) g43 (fun S9 m1 m2 => ⟨rfl, fr.rf.tr ((f43.mono (by simp) (by simp)).tr (m1.mono (by simp) (by simp))), ?_⟩)
    unfold answer
    rw [if_pos (Or.inl hzt), hkw]
    rw [if_neg (by decide)]
    exact m2
  · have hzt : ¬ z = fAb f := fun q => c2 (by rw [q])
    refine X_aload_n (i := 0) hB dX12_answers_5 rfl rfl ?_
    refine X_iload_n (i := 1) hB dX12_answers_6 rfl rfl ?_
    refine X_iload_n (i := 2) hB dX12_answers_7 rfl rfl ?_
    refine X_callV hB kX12_265 cw10 hR.1.1 hR.1.2 (c_findsN hR (by exact hF.of rfl) σ hN hs hh z (fAb f) hz ht) (by decide) (by decide) rfl rfl (Nat.le_of_ble_eq_true rfl) dX12_answers_8 (fun r8 S8 q8 => ?_)
    obtain ⟨rfl, f8, w8, l8, t8⟩ := q8
    have hF8 := f8.ref hF
    have n8 : netR (S8.1 (h + 1)) σ := by rw [f8.2.1 _ (by simp) (by omega)]; exact hN
    have h8 : frS (S8.1 (h + 12)) f := by rw [f8.2.1 _ (by simp) (by omega)]; exact hf
    have hfr8 : fr h [h + 1, h + 8, h + 9, h + 10, h + 11] [22] S S8 := f8.mono (by simp) (by simp)
    refine X_if_eq (tgt := 25) hB dX12_answers_11 (by decide) (fun c11 => ?_) (fun c11 => ?_)
    · have hkw : kwB σ z f = false := by
        unfold kwB
        first
        | (have e9 : (if wayN σ z (fAb f) = [] then (0 : Int32) else 1) = 0 := by exact c11
           have e8 : wayN σ z (fAb f) = [] := Decidable.byContradiction fun q => absurd e9 (by rw [if_neg q]; decide)
           rw [show decide (wayN σ z (fAb f) ≠ []) = false by simp [e8]]; simp)
        | (have e9 : (if isRtB (fRo f) (wayN σ z (fAb f)) (nSe σ 1) = true then (1 : Int32) else 0) = 0 := by exact c18
           have e8 : isRtB (fRo f) (wayN σ z (fAb f)) (nSe σ 1) = false := by
             cases hq : isRtB (fRo f) (wayN σ z (fAb f)) (nSe σ 1) with
             | false => rfl
             | true => rw [hq] at e9; exact absurd e9 (by decide)
           rw [e8]; simp)
      refine X_iconst (v := 0) hB dX12_answers_25 (by decide) ?_
      refine X_istore_n (i := 3) hB dX12_answers_26 rfl (by decide) rfl ?_
      refine X_iload_n (i := 1) hB dX12_answers_27 rfl rfl ?_
      refine X_iload_n (i := 2) hB dX12_answers_28 rfl rfl ?_
      refine X_icmp_eq (tgt := 36) hB dX12_answers_29 (by decide) (fun c29 => absurd (i32_inj (by omega) (by omega) c29) hzt) (fun c29 => ?_)
      refine X_iload_n (i := 3) hB dX12_answers_32 rfl rfl ?_
      refine X_if_eq (tgt := 49) hB dX12_answers_33 (by decide) (fun c33 => ?_) (fun c33 => absurd rfl c33)
      refine X_aload_n (i := 0) hB dX12_answers_49 rfl rfl ?_
      refine X_getr hB cw10 fX12_45 rfl hR.1.1 hR.1.2 hF8.2.2.2.2.2.2.2.2.2.2.2 dX12_answers_50 ?_
      refine X_bipush (v := 6) hB dX12_answers_53 (by decide) ?_
      refine X_ialdN hB (6) hR.2.2.2.2.2.2.2.2.2.2.2.2.1 hR.2.2.2.2.2.2.2.2.2.2.2.2.2 (by decide) (by first | rfl | (simp (disch := omega) only [nlit, nI_add, nI_mul, nI_sub]; done) | (simp (disch := omega) only [nlit, nI_add, nI_mul, nI_sub]; (congr 1 <;> omega))) (by first | omega | (simp only []; omega)) (show _ = nI (fRo f).length from h8.1 6 (by decide)) dX12_answers_55 ?_
      refine X_aload_n (i := 0) hB dX12_answers_56 rfl rfl ?_
      refine X_getr hB cw10 fX12_7 rfl hR.1.1 hR.1.2 hF8.1 dX12_answers_57 ?_
      refine X_iconst (v := 1) hB dX12_answers_60 (by decide) ?_
      refine X_ialdN hB (1) hR.2.1.1 hR.2.1.2 (by decide) (by first | rfl | (simp (disch := omega) only [nlit, nI_add, nI_mul, nI_sub]; done) | (simp (disch := omega) only [nlit, nI_add, nI_mul, nI_sub]; (congr 1 <;> omega))) (by first | omega | (simp only []; omega)) (n8.1.1 1 (by decide)) dX12_answers_61 ?_
      refine X_icmp_ge (tgt := 88) hB dX12_answers_62 (by decide) (fun c62 => ?_) (fun c62 => ?_)
      · refine X_vret hB rfl dX12_answers_88 ?_
        have hge : ¬ (fRo f).length < nSe σ 1 := by (have c9 := c62); simp (disch := omega) only [nlit, nI_leI, nI_ltI] at c9; omega
        refine ⟨rfl, hfr8, ?_⟩
        unfold answer
        rw [if_neg (fun q => q.elim hzt (fun q9 => by rw [hkw] at q9; cases q9)), if_neg hge]
        exact n8
      · refine X_aload_n (i := 0) hB dX12_answers_65 rfl rfl ?_
        refine X_iconst (v := 1) hB dX12_answers_66 (by decide) ?_
        refine X_iload_n (i := 1) hB dX12_answers_67 rfl rfl ?_
        refine X_iload_n (i := 2) hB dX12_answers_68 rfl rfl ?_
        refine X_aload_n (i := 0) hB dX12_answers_69 rfl rfl ?_
        refine X_getr hB cw10 fX12_45 rfl hR.1.1 hR.1.2 hF8.2.2.2.2.2.2.2.2.2.2.2 dX12_answers_70 ?_
        refine X_iconst (v := 3) hB dX12_answers_73 (by decide) ?_
        refine X_ialdN hB (3) hR.2.2.2.2.2.2.2.2.2.2.2.2.1 hR.2.2.2.2.2.2.2.2.2.2.2.2.2 (by decide) (by first | rfl | (simp (disch := omega) only [nlit, nI_add, nI_mul, nI_sub]; done) | (simp (disch := omega) only [nlit, nI_add, nI_mul, nI_sub]; (congr 1 <;> omega))) (by first | omega | (simp only []; omega)) (show _ = nI (fNu f) by rw [h8.1 3 (by decide)]; simp only [fwd_]; rw [if_pos hk1]) dX12_answers_74 ?_
        refine X_aload_n (i := 0) hB dX12_answers_75 rfl rfl ?_
        refine X_getr hB cw10 fX12_45 rfl hR.1.1 hR.1.2 hF8.2.2.2.2.2.2.2.2.2.2.2 dX12_answers_76 ?_
        refine X_iconst (v := 4) hB dX12_answers_79 (by decide) ?_
        refine X_ialdN hB (4) hR.2.2.2.2.2.2.2.2.2.2.2.2.1 hR.2.2.2.2.2.2.2.2.2.2.2.2.2 (by decide) (by first | rfl | (simp (disch := omega) only [nlit, nI_add, nI_mul, nI_sub]; done) | (simp (disch := omega) only [nlit, nI_add, nI_mul, nI_sub]; (congr 1 <;> omega))) (by first | omega | (simp only []; omega)) (show _ = lkN (fLk f) by rw [h8.1 4 (by decide)]; simp only [fwd_]; rw [if_pos hk1]) dX12_answers_80 ?_
        refine X_iconst (v := (-1)) hB dX12_answers_81 (by decide) ?_
        refine X_callV hB kX12_249 cw10 hR.1.1 hR.1.2 (c_beginsFrame hR hF8 (1, z, fAb f, fNu f, fLk f, []) rfl) (by decide) (by decide) rfl rfl (Nat.le_of_ble_eq_true rfl) dX12_answers_82 (fun r82 S82 q82 => ?_)
        obtain ⟨rfl, f82, g82⟩ := q82
        have n82 : netR (S82.1 (h + 1)) σ := by rw [f82.2.1 _ (by simp) (by omega)]; exact n8
        have h82 : frS (S82.1 (h + 12)) f := by rw [f82.2.1 _ (by simp) (by omega)]; exact h8
        have hlt : (fRo f).length < nSe σ 1 := by (have c9 := c62); simp (disch := omega) only [nlit, nI_leI, nI_ltI] at c9; omega
        refine X_goto (tgt := 89) hB dX12_answers_85 (by decide) ?_
        refine t_an0 (S := S82) hR (f82.ref hF8) hB σ n82 hs f h82 hfl hfx z (fAb f) (1, z, fAb f, fNu f, fLk f, []) rfl (by show 1 ≤ 3; omega) g82 (fun S9 m1 m2 => ⟨rfl, hfr8.tr ((f82.mono (by simp) (by simp)).tr (m1.mono (by simp) (by simp))), ?_⟩)
        unfold answer
        rw [if_neg (fun q => q.elim hzt (fun q9 => by rw [hkw] at q9; cases q9)), if_pos hlt]
        rw [List.append_nil] at m2
        exact m2
    · refine X_aload_n (i := 0) hB dX12_answers_14 rfl rfl ?_
      refine X_callV hB kX12_322 cw10 hR.1.1 hR.1.2 (c_isRoute hR hF8 f h8 (by omega) hfx hf1 (wayN σ z (fAb f)) w8 l8 t8 (nSe σ 1) hh (n8.1.1 1 (by decide))) (by decide) (by decide) rfl rfl (Nat.le_of_ble_eq_true rfl) dX12_answers_15 (fun r15 S15 q15 => ?_)
      obtain ⟨rfl, rfl⟩ := q15
      refine X_if_eq (tgt := 25) hB dX12_answers_18 (by decide) (fun c18 => ?_) (fun c18 => ?_)
      · have hkw : kwB σ z f = false := by
          unfold kwB
          first
          | (have e9 : (if wayN σ z (fAb f) = [] then (0 : Int32) else 1) = 0 := by exact c11
             have e8 : wayN σ z (fAb f) = [] := Decidable.byContradiction fun q => absurd e9 (by rw [if_neg q]; decide)
             rw [show decide (wayN σ z (fAb f) ≠ []) = false by simp [e8]]; simp)
          | (have e9 : (if isRtB (fRo f) (wayN σ z (fAb f)) (nSe σ 1) = true then (1 : Int32) else 0) = 0 := by exact c18
             have e8 : isRtB (fRo f) (wayN σ z (fAb f)) (nSe σ 1) = false := by
               cases hq : isRtB (fRo f) (wayN σ z (fAb f)) (nSe σ 1) with
               | false => rfl
               | true => rw [hq] at e9; exact absurd e9 (by decide)
             rw [e8]; simp)
        refine X_iconst (v := 0) hB dX12_answers_25 (by decide) ?_
        refine X_istore_n (i := 3) hB dX12_answers_26 rfl (by decide) rfl ?_
        refine X_iload_n (i := 1) hB dX12_answers_27 rfl rfl ?_
        refine X_iload_n (i := 2) hB dX12_answers_28 rfl rfl ?_
        refine X_icmp_eq (tgt := 36) hB dX12_answers_29 (by decide) (fun c29 => absurd (i32_inj (by omega) (by omega) c29) hzt) (fun c29 => ?_)
        refine X_iload_n (i := 3) hB dX12_answers_32 rfl rfl ?_
        refine X_if_eq (tgt := 49) hB dX12_answers_33 (by decide) (fun c33 => ?_) (fun c33 => absurd rfl c33)
        refine X_aload_n (i := 0) hB dX12_answers_49 rfl rfl ?_
        refine X_getr hB cw10 fX12_45 rfl hR.1.1 hR.1.2 hF8.2.2.2.2.2.2.2.2.2.2.2 dX12_answers_50 ?_
        refine X_bipush (v := 6) hB dX12_answers_53 (by decide) ?_
        refine X_ialdN hB (6) hR.2.2.2.2.2.2.2.2.2.2.2.2.1 hR.2.2.2.2.2.2.2.2.2.2.2.2.2 (by decide) (by first | rfl | (simp (disch := omega) only [nlit, nI_add, nI_mul, nI_sub]; done) | (simp (disch := omega) only [nlit, nI_add, nI_mul, nI_sub]; (congr 1 <;> omega))) (by first | omega | (simp only []; omega)) (show _ = nI (fRo f).length from h8.1 6 (by decide)) dX12_answers_55 ?_
        refine X_aload_n (i := 0) hB dX12_answers_56 rfl rfl ?_
        refine X_getr hB cw10 fX12_7 rfl hR.1.1 hR.1.2 hF8.1 dX12_answers_57 ?_
        refine X_iconst (v := 1) hB dX12_answers_60 (by decide) ?_
        refine X_ialdN hB (1) hR.2.1.1 hR.2.1.2 (by decide) (by first | rfl | (simp (disch := omega) only [nlit, nI_add, nI_mul, nI_sub]; done) | (simp (disch := omega) only [nlit, nI_add, nI_mul, nI_sub]; (congr 1 <;> omega))) (by first | omega | (simp only []; omega)) (n8.1.1 1 (by decide)) dX12_answers_61 ?_
        refine X_icmp_ge (tgt := 88) hB dX12_answers_62 (by decide) (fun c62 => ?_) (fun c62 => ?_)
        · refine X_vret hB rfl dX12_answers_88 ?_
          have hge : ¬ (fRo f).length < nSe σ 1 := by (have c9 := c62); simp (disch := omega) only [nlit, nI_leI, nI_ltI] at c9; omega
          refine ⟨rfl, hfr8, ?_⟩
          unfold answer
          rw [if_neg (fun q => q.elim hzt (fun q9 => by rw [hkw] at q9; cases q9)), if_neg hge]
          exact n8
        · refine X_aload_n (i := 0) hB dX12_answers_65 rfl rfl ?_
          refine X_iconst (v := 1) hB dX12_answers_66 (by decide) ?_
          refine X_iload_n (i := 1) hB dX12_answers_67 rfl rfl ?_
          refine X_iload_n (i := 2) hB dX12_answers_68 rfl rfl ?_
          refine X_aload_n (i := 0) hB dX12_answers_69 rfl rfl ?_
          refine X_getr hB cw10 fX12_45 rfl hR.1.1 hR.1.2 hF8.2.2.2.2.2.2.2.2.2.2.2 dX12_answers_70 ?_
          refine X_iconst (v := 3) hB dX12_answers_73 (by decide) ?_
          refine X_ialdN hB (3) hR.2.2.2.2.2.2.2.2.2.2.2.2.1 hR.2.2.2.2.2.2.2.2.2.2.2.2.2 (by decide) (by first | rfl | (simp (disch := omega) only [nlit, nI_add, nI_mul, nI_sub]; done) | (simp (disch := omega) only [nlit, nI_add, nI_mul, nI_sub]; (congr 1 <;> omega))) (by first | omega | (simp only []; omega)) (show _ = nI (fNu f) by rw [h8.1 3 (by decide)]; simp only [fwd_]; rw [if_pos hk1]) dX12_answers_74 ?_
          refine X_aload_n (i := 0) hB dX12_answers_75 rfl rfl ?_
          refine X_getr hB cw10 fX12_45 rfl hR.1.1 hR.1.2 hF8.2.2.2.2.2.2.2.2.2.2.2 dX12_answers_76 ?_
          refine X_iconst (v := 4) hB dX12_answers_79 (by decide) ?_
          refine X_ialdN hB (4) hR.2.2.2.2.2.2.2.2.2.2.2.2.1 hR.2.2.2.2.2.2.2.2.2.2.2.2.2 (by decide) (by first | rfl | (simp (disch := omega) only [nlit, nI_add, nI_mul, nI_sub]; done) | (simp (disch := omega) only [nlit, nI_add, nI_mul, nI_sub]; (congr 1 <;> omega))) (by first | omega | (simp only []; omega)) (show _ = lkN (fLk f) by rw [h8.1 4 (by decide)]; simp only [fwd_]; rw [if_pos hk1]) dX12_answers_80 ?_
          refine X_iconst (v := (-1)) hB dX12_answers_81 (by decide) ?_
          refine X_callV hB kX12_249 cw10 hR.1.1 hR.1.2 (c_beginsFrame hR hF8 (1, z, fAb f, fNu f, fLk f, []) rfl) (by decide) (by decide) rfl rfl (Nat.le_of_ble_eq_true rfl) dX12_answers_82 (fun r82 S82 q82 => ?_)
          obtain ⟨rfl, f82, g82⟩ := q82
          have n82 : netR (S82.1 (h + 1)) σ := by rw [f82.2.1 _ (by simp) (by omega)]; exact n8
          have h82 : frS (S82.1 (h + 12)) f := by rw [f82.2.1 _ (by simp) (by omega)]; exact h8
          have hlt : (fRo f).length < nSe σ 1 := by (have c9 := c62); simp (disch := omega) only [nlit, nI_leI, nI_ltI] at c9; omega
          refine X_goto (tgt := 89) hB dX12_answers_85 (by decide) ?_
          refine t_an0 (S := S82) hR (f82.ref hF8) hB σ n82 hs f h82 hfl hfx z (fAb f) (1, z, fAb f, fNu f, fLk f, []) rfl (by show 1 ≤ 3; omega) g82 (fun S9 m1 m2 => ⟨rfl, hfr8.tr ((f82.mono (by simp) (by simp)).tr (m1.mono (by simp) (by simp))), ?_⟩)
          unfold answer
          rw [if_neg (fun q => q.elim hzt (fun q9 => by rw [hkw] at q9; cases q9)), if_pos hlt]
          rw [List.append_nil] at m2
          exact m2
      · have hwn : wayN σ z (fAb f) ≠ [] := fun q => c11 (by rw [if_pos q])
        have hrt : isRtB (fRo f) (wayN σ z (fAb f)) (nSe σ 1) = true := Decidable.byContradiction fun q => c18 (by rw [if_neg q])
        have hkw : kwB σ z f = true := by unfold kwB; rw [hrt]; simp [hzt, hwn]
        have hrl := (isRt_iff.mpr hrt).1
        have hw1 : 1 ≤ (wayN σ z (fAb f)).length := List.length_pos_iff.mpr hwn
        refine X_iconst (v := 1) hB dX12_answers_21 (by decide) ?_
        refine X_goto (tgt := 26) hB dX12_answers_22 (by decide) ?_
        refine X_istore_n (i := 3) hB dX12_answers_26 rfl (by decide) rfl ?_
        refine X_iload_n (i := 1) hB dX12_answers_27 rfl rfl ?_
        refine X_iload_n (i := 2) hB dX12_answers_28 rfl rfl ?_
        refine X_icmp_eq (tgt := 36) hB dX12_answers_29 (by decide) (fun c29 => absurd (i32_inj (by omega) (by omega) c29) hzt) (fun c29 => ?_)
        refine X_iload_n (i := 3) hB dX12_answers_32 rfl rfl ?_
        refine X_if_eq (tgt := 49) hB dX12_answers_33 (by decide) (fun c33 => absurd c33 (by decide)) (fun c33 => ?_)
        refine X_aload_n (i := 0) hB dX12_answers_36 rfl rfl ?_
        refine X_iconst (v := 2) hB dX12_answers_37 (by decide) ?_
        refine X_iload_n (i := 1) hB dX12_answers_38 rfl rfl ?_
        refine X_iconst (v := (-1)) hB dX12_answers_39 (by decide) ?_
        refine X_iconst (v := (-1)) hB dX12_answers_40 (by decide) ?_
        refine X_iconst (v := (-1)) hB dX12_answers_41 (by decide) ?_
        refine X_iconst (v := (-1)) hB dX12_answers_42 (by decide) ?_
        refine X_callV hB kX12_249 cw10 hR.1.1 hR.1.2 (c_beginsFrame hR hF8 (2, z, 0, 0, none, []) rfl) (by decide) (by decide) rfl rfl (Nat.le_of_ble_eq_true rfl) dX12_answers_43 (fun r43 S43 q43 => ?_)
        obtain ⟨rfl, f43, g43⟩ := q43
        have n43 : netR (S43.1 (h + 1)) σ := by rw [f43.2.1 _ (by simp) (by omega)]; exact n8
        have h43 : frS (S43.1 (h + 12)) f := by rw [f43.2.1 _ (by simp) (by omega)]; exact h8
        refine X_goto (tgt := 89) hB dX12_answers_46 (by decide) ?_
        refine t_an1 (S := S43) hR (f43.ref hF8) hB σ n43 hs f h43 hfl hfx (wayN σ z (fAb f)) (w8.of (f43.2.2 _ (by simp)) (f43.2.1 _ (by simp) (by omega))) l8 t8 ⟨hw1, by omega⟩ z (fAb f) (2, z, 0, 0, none, []) rfl (by show 2 ≤ 3; omega) g43 (fun S9 m1 m2 => ⟨rfl, hfr8.tr ((f43.mono (by simp) (by simp)).tr (m1.mono (by simp) (by simp))), ?_⟩)
        unfold answer
        rw [if_pos (Or.inr hkw), hkw]
        rw [if_pos rfl]
        exact m2
end REF
