def errStep (f : Fm) (y z : Nat) (σ : Net) : Net := if (z ≠ fFr f ∧ nUp σ (fFr f) z = true) ∧ z ≠ y ∧ dLis (nNd σ z) = true then forgetON σ z (fLk f) else σ
def erLa (σ : Net) (f : Fm) : Net := forgetON σ ((fRo f).getD 1 0) (fLk f)
def erLb (σ : Net) (f : Fm) : Net := if (fRo f).length = 2 then uNd (erLa σ f) ((fRo f).getD 1 0) (xNw (nNd (erLa σ f) ((fRo f).getD 1 0)) (fLk f)) else (sendF (erLa σ f) (3, (fRo f).getD 1 0, 0, 0, fLk f, (fRo f).drop 1)).1
def arrErr (σ : Net) (f : Fm) : Net := if nUp σ (fFr f) ((fRo f).getD 1 0) = true then iterN (errStep f ((fRo f).getD 1 0)) (nSe σ 0) (erLb σ f) else forgetN σ (fFr f) (fFr f) ((fRo f).getD 1 0)
section REF
variable {G : Gc} {S : St} {h : Nat}
set_option maxRecDepth 100000 in
set_option maxHeartbeats 4000000 in
theorem l_er1 (hR : RLay G h) (hF : RRef S h) {E : Ev} (hB : Bd G E mX12_errorComes) {Q : Option Value → St → Prop} (f : Fm) (hf : frS (S.1 (h + 12)) f) (hfl : (fRo f).length ≤ 8) (hfx : ∀ x ∈ fRo f, x < 8) (fin : Fm) (kk : ∀ S2 v, fr h [h + 11] [] S S2 → frS (S2.1 (h + 11)) fin → X G E mX12_errorComes 7 Q S2 110 [some (.ref h), some (.int (nI (fFr f))), some (.int (nI ((fRo f).getD 1 0))), some (.int v)] []) :
    ∀ (k i : Nat) (g : Fm) (S1 : St), i + k = (fRo f).length → (fRo g).length + k ≤ 8 → fr h [h + 11] [] S S1 → frS (S1.1 (h + 11)) g → (g.1, g.2.1, g.2.2.1, g.2.2.2.1, g.2.2.2.2.1, fRo g ++ (fRo f).drop i) = fin → X G E mX12_errorComes 7 Q S1 84 [some (.ref h), some (.int (nI (fFr f))), some (.int (nI ((fRo f).getD 1 0))), some (.int (nI i))] [] := by
  intro k
  induction k with
  | zero =>
    intro i g S1 h1 h2 hfr hg hfin
    have hf1 : frS (S1.1 (h + 12)) f := by rw [hfr.2.1 _ (by simp) (by omega)]; exact hf
    refine X_iload_n (i := 3) hB dX12_errorComes_84 rfl rfl ?_
    refine X_aload_n (i := 0) hB dX12_errorComes_85 rfl rfl ?_
    refine X_getr hB cw10 fX12_45 rfl hR.1.1 hR.1.2 (hfr.ref hF).2.2.2.2.2.2.2.2.2.2.2 dX12_errorComes_86 ?_
    refine X_bipush (v := 6) hB dX12_errorComes_89 (by decide) ?_
    refine X_ialdN hB (6) hR.2.2.2.2.2.2.2.2.2.2.2.2.1 hR.2.2.2.2.2.2.2.2.2.2.2.2.2 (by decide) (by first | rfl | (simp (disch := omega) only [nlit, nI_add, nI_mul, nI_sub]; done) | (simp (disch := omega) only [nlit, nI_add, nI_mul, nI_sub]; (congr 1 <;> omega))) (by first | omega | (simp only []; omega)) (show _ = nI (fRo f).length from hf1.1 6 (by decide)) dX12_errorComes_91 ?_
    refine X_icmp_ge (tgt := 110) hB dX12_errorComes_92 (by decide) (fun c92 => ?_) (fun c92 => absurd c92 (by simp (disch := omega) only [nlit, nI_leI, nI_ltI]; omega))
    rw [List.drop_of_length_le (by omega), List.append_nil] at hfin
    exact kk S1 _ hfr (by rw [← hfin]; exact hg)
  | succ k ih =>
    intro i g S1 h1 h2 hfr hg hfin
    have hf1 : frS (S1.1 (h + 12)) f := by rw [hfr.2.1 _ (by simp) (by omega)]; exact hf
    refine X_iload_n (i := 3) hB dX12_errorComes_84 rfl rfl ?_
    refine X_aload_n (i := 0) hB dX12_errorComes_85 rfl rfl ?_
    refine X_getr hB cw10 fX12_45 rfl hR.1.1 hR.1.2 (hfr.ref hF).2.2.2.2.2.2.2.2.2.2.2 dX12_errorComes_86 ?_
    refine X_bipush (v := 6) hB dX12_errorComes_89 (by decide) ?_
    refine X_ialdN hB (6) hR.2.2.2.2.2.2.2.2.2.2.2.2.1 hR.2.2.2.2.2.2.2.2.2.2.2.2.2 (by decide) (by first | rfl | (simp (disch := omega) only [nlit, nI_add, nI_mul, nI_sub]; done) | (simp (disch := omega) only [nlit, nI_add, nI_mul, nI_sub]; (congr 1 <;> omega))) (by first | omega | (simp only []; omega)) (show _ = nI (fRo f).length from hf1.1 6 (by decide)) dX12_errorComes_91 ?_
    refine X_icmp_ge (tgt := 110) hB dX12_errorComes_92 (by decide) (fun c92 => absurd c92 (by simp (disch := omega) only [nlit, nI_leI, nI_ltI]; omega)) (fun c92 => ?_)
    refine X_aload_n (i := 0) hB dX12_errorComes_95 rfl rfl ?_
    refine X_aload_n (i := 0) hB dX12_errorComes_96 rfl rfl ?_
    refine X_iload_n (i := 3) hB dX12_errorComes_97 rfl rfl ?_
    refine X_callV hB kX12_274 cw10 hR.1.1 hR.1.2 (c_rowAt hR (hfr.ref hF) f hf1 hfl (i := i) (by omega)) (by decide) (by decide) rfl rfl (Nat.le_of_ble_eq_true rfl) dX12_errorComes_98 (fun r98 S98 q98 => ?_)
    obtain ⟨rfl, rfl⟩ := q98
    refine X_callV hB kX12_262 cw10 hR.1.1 hR.1.2 (c_addsFrame hR (hfr.ref hF) g ((fRo f).getD i 0) (by omega) hg) (by decide) (by decide) rfl rfl (Nat.le_of_ble_eq_true rfl) dX12_errorComes_101 (fun r101 S101 q101 => ?_)
    obtain ⟨rfl, f101, g101⟩ := q101
    refine X_iinc hB dX12_errorComes_104 rfl rfl (by decide) rfl ?_
    refine X_goto (tgt := 84) hB dX12_errorComes_107 (by decide) ?_
    refine X_lv ?_ (ih (i + 1) (fAdd g ((fRo f).getD i 0)) _ (by omega) (by show (fRo g ++ [_]).length + k ≤ 8; rw [List.length_append]; show (fRo g).length + 1 + k ≤ 8; omega) (hfr.tr f101) g101 ?_)
    · rw [nI_succ]; rfl
    · rw [← hfin]
      show (g.1, g.2.1, g.2.2.1, g.2.2.2.1, g.2.2.2.2.1, (fRo g ++ [(fRo f).getD i 0]) ++ (fRo f).drop (i + 1)) = _
      rw [List.append_assoc, List.drop_eq_getElem_cons (show i < (fRo f).length by omega), getD_lt (by omega)]
      rfl
set_option maxRecDepth 100000 in
set_option maxHeartbeats 4000000 in
theorem l_er2 (hR : RLay G h) (hF : RRef S h) {E : Ev} (hB : Bd G E mX12_errorComes) {Q : Option Value → St → Prop} (f : Fm) (hf : frS (S.1 (h + 12)) f) (hfl : (fRo f).length ≤ 8) (hfx : ∀ x ∈ fRo f, x < 8) (σ : Net) (hse : seOk (nSe σ)) (hfk : fKi f = 3) (hfr8 : fFr f < 8) (h2l : 2 ≤ (fRo f).length) (hlk : lkOk (fLk f)) (σ3 : Net) (kk : ∀ S2, fr h [h + 1, h + 7, h + 8, h + 9, h + 10, h + 11] [20, 22] S S2 → netR (S2.1 (h + 1)) (iterN (errStep f ((fRo f).getD 1 0)) (nSe σ 0) σ3) → Q none S2) :
    ∀ (k z : Nat) (S1 : St), z + k = nSe σ 0 → fr h [h + 1, h + 7, h + 8, h + 9, h + 10, h + 11] [20, 22] S S1 → netR (S1.1 (h + 1)) (iterN (errStep f ((fRo f).getD 1 0)) z σ3) → kI σ (iterN (errStep f ((fRo f).getD 1 0)) z σ3) → X G E mX12_errorComes 7 Q S1 117 [some (.ref h), some (.int (nI (fFr f))), some (.int (nI ((fRo f).getD 1 0))), some (.int (nI z))] [] := by
  have hc8 := hse.1.2
  have hy8 : ((fRo f).getD 1 0) < 8 := hfx _ (getD_mem (by omega))
  intro k
  induction k with
  | zero =>
    intro z S1 h1 hfr hN1 hI
    refine X_iload_n (i := 3) hB dX12_errorComes_117 rfl rfl ?_
    refine X_aload_n (i := 0) hB dX12_errorComes_118 rfl rfl ?_
    refine X_getr hB cw10 fX12_7 rfl hR.1.1 hR.1.2 (hfr.ref hF).1 dX12_errorComes_119 ?_
    refine X_iconst (v := 0) hB dX12_errorComes_122 (by decide) ?_
    refine X_ialdN hB (0) hR.2.1.1 hR.2.1.2 (by decide) (by first | rfl | (simp (disch := omega) only [nlit, nI_add, nI_mul, nI_sub]; done) | (simp (disch := omega) only [nlit, nI_add, nI_mul, nI_sub]; (congr 1 <;> omega))) (by first | omega | (simp only []; omega)) (show _ = nI (nSe σ 0) by rw [hN1.1.1 0 (by decide), hI.1]) dX12_errorComes_123 ?_
    refine X_icmp_ge (tgt := 168) hB dX12_errorComes_124 (by decide) (fun c124 => ?_) (fun c124 => absurd c124 (by simp (disch := omega) only [nlit, nI_leI, nI_ltI]; omega))
    refine X_vret hB rfl dX12_errorComes_168 ?_
    have e9 : z = nSe σ 0 := by omega
    subst e9
    exact kk S1 hfr hN1
  | succ k ih =>
    intro z S1 h1 hfr hN1 hI
    generalize hσz : iterN (errStep f ((fRo f).getD 1 0)) z σ3 = σz at hN1 hI
    have hstep : iterN (errStep f ((fRo f).getD 1 0)) (z + 1) σ3 = errStep f ((fRo f).getD 1 0) z σz := by rw [← hσz]; rfl
    obtain ⟨i1, i2, i3⟩ := id hI
    have hz8 : z < 8 := by omega
    have hcm : frS (S1.1 (h + 12)) f := by rw [hfr.2.1 _ (by simp) (by omega)]; exact hf
    have hF1 := hfr.ref hF
    have hnz := hN1.2.1 z hz8
    refine X_iload_n (i := 3) hB dX12_errorComes_117 rfl rfl ?_
    refine X_aload_n (i := 0) hB dX12_errorComes_118 rfl rfl ?_
    refine X_getr hB cw10 fX12_7 rfl hR.1.1 hR.1.2 (hfr.ref hF).1 dX12_errorComes_119 ?_
    refine X_iconst (v := 0) hB dX12_errorComes_122 (by decide) ?_
    refine X_ialdN hB (0) hR.2.1.1 hR.2.1.2 (by decide) (by first | rfl | (simp (disch := omega) only [nlit, nI_add, nI_mul, nI_sub]; done) | (simp (disch := omega) only [nlit, nI_add, nI_mul, nI_sub]; (congr 1 <;> omega))) (by first | omega | (simp only []; omega)) (show _ = nI (nSe σ 0) by rw [hN1.1.1 0 (by decide), i1]) dX12_errorComes_123 ?_
    refine X_icmp_ge (tgt := 168) hB dX12_errorComes_124 (by decide) (fun c124 => absurd c124 (by simp (disch := omega) only [nlit, nI_leI, nI_ltI]; omega)) (fun c124 => ?_)
    refine X_aload_n (i := 0) hB dX12_errorComes_127 rfl rfl ?_
    refine X_iload_n (i := 1) hB dX12_errorComes_128 rfl rfl ?_
    refine X_iload_n (i := 3) hB dX12_errorComes_129 rfl rfl ?_
    refine X_callV hB kX12_310 cw10 hR.1.1 hR.1.2 (c_isNear hR hF1 σz hN1 hfr8 hz8) (by decide) (by decide) rfl rfl (Nat.le_of_ble_eq_true rfl) dX12_errorComes_130 (fun r130 S130 q130 => ?_)
    obtain ⟨rfl, rfl⟩ := q130
    refine X_if_eq (tgt := 162) hB dX12_errorComes_133 (by decide) (fun c133 => ?_) (fun c133 => ?_)
    · first
      | (have e1 : (if z ≠ fFr f ∧ nUp σz (fFr f) z = true then (1 : Int32) else 0) = 0 := by exact c133
         refine X_iinc hB dX12_errorComes_162 rfl rfl (by decide) rfl ?_
         refine X_goto (tgt := 117) hB dX12_errorComes_165 (by decide) ?_
         have hno : errStep f ((fRo f).getD 1 0) z σz = σz := by
           unfold errStep
           rw [if_neg]
           intro q
           exact absurd e1 (by rw [if_pos q.1]; decide)
         rw [hno] at hstep
         refine X_lv ?_ (ih (z + 1) S1 (by omega) hfr (by rw [hstep]; exact hN1) (by rw [hstep]; exact hI))
         rw [nI_succ]; rfl)
      | (have e2 : nI z = nI ((fRo f).getD 1 0) := by exact c138
         refine X_iinc hB dX12_errorComes_162 rfl rfl (by decide) rfl ?_
         refine X_goto (tgt := 117) hB dX12_errorComes_165 (by decide) ?_
         have hno : errStep f ((fRo f).getD 1 0) z σz = σz := by
           unfold errStep
           rw [if_neg]
           intro q
           exact q.2.1 (i32_inj (by omega) (by omega) e2)
         rw [hno] at hstep
         refine X_lv ?_ (ih (z + 1) S1 (by omega) hfr (by rw [hstep]; exact hN1) (by rw [hstep]; exact hI))
         rw [nI_succ]; rfl)
      | (have e3 : ¬ (if dLis (nNd σz z) = true then (1 : Int32) else 0) = 1 := by exact c148
         refine X_iinc hB dX12_errorComes_162 rfl rfl (by decide) rfl ?_
         refine X_goto (tgt := 117) hB dX12_errorComes_165 (by decide) ?_
         have hno : errStep f ((fRo f).getD 1 0) z σz = σz := by
           unfold errStep
           rw [if_neg]
           intro q
           exact e3 (by rw [if_pos q.2.2])
         rw [hno] at hstep
         refine X_lv ?_ (ih (z + 1) S1 (by omega) hfr (by rw [hstep]; exact hN1) (by rw [hstep]; exact hI))
         rw [nI_succ]; rfl)
    · refine X_iload_n (i := 3) hB dX12_errorComes_136 rfl rfl ?_
      refine X_iload_n (i := 2) hB dX12_errorComes_137 rfl rfl ?_
      refine X_icmp_eq (tgt := 162) hB dX12_errorComes_138 (by decide) (fun c138 => ?_) (fun c138 => ?_)
      · first
        | (have e1 : (if z ≠ fFr f ∧ nUp σz (fFr f) z = true then (1 : Int32) else 0) = 0 := by exact c133
           refine X_iinc hB dX12_errorComes_162 rfl rfl (by decide) rfl ?_
           refine X_goto (tgt := 117) hB dX12_errorComes_165 (by decide) ?_
           have hno : errStep f ((fRo f).getD 1 0) z σz = σz := by
             unfold errStep
             rw [if_neg]
             intro q
             exact absurd e1 (by rw [if_pos q.1]; decide)
           rw [hno] at hstep
           refine X_lv ?_ (ih (z + 1) S1 (by omega) hfr (by rw [hstep]; exact hN1) (by rw [hstep]; exact hI))
           rw [nI_succ]; rfl)
        | (have e2 : nI z = nI ((fRo f).getD 1 0) := by exact c138
           refine X_iinc hB dX12_errorComes_162 rfl rfl (by decide) rfl ?_
           refine X_goto (tgt := 117) hB dX12_errorComes_165 (by decide) ?_
           have hno : errStep f ((fRo f).getD 1 0) z σz = σz := by
             unfold errStep
             rw [if_neg]
             intro q
             exact q.2.1 (i32_inj (by omega) (by omega) e2)
           rw [hno] at hstep
           refine X_lv ?_ (ih (z + 1) S1 (by omega) hfr (by rw [hstep]; exact hN1) (by rw [hstep]; exact hI))
           rw [nI_succ]; rfl)
        | (have e3 : ¬ (if dLis (nNd σz z) = true then (1 : Int32) else 0) = 1 := by exact c148
           refine X_iinc hB dX12_errorComes_162 rfl rfl (by decide) rfl ?_
           refine X_goto (tgt := 117) hB dX12_errorComes_165 (by decide) ?_
           have hno : errStep f ((fRo f).getD 1 0) z σz = σz := by
             unfold errStep
             rw [if_neg]
             intro q
             exact e3 (by rw [if_pos q.2.2])
           rw [hno] at hstep
           refine X_lv ?_ (ih (z + 1) S1 (by omega) hfr (by rw [hstep]; exact hN1) (by rw [hstep]; exact hI))
           rw [nI_succ]; rfl)
      · refine X_aload_n (i := 0) hB dX12_errorComes_141 rfl rfl ?_
        refine X_iload_n (i := 3) hB dX12_errorComes_142 rfl rfl ?_
        refine X_iconst (v := 1) hB dX12_errorComes_143 (by decide) ?_
        refine X_callV hB kX12_180 cw10 hR.1.1 hR.1.2 (c_ofE (n := z) (w := 1) hR hF1 rfl rfl (by omega) (by omega)) (by decide) (by decide) rfl rfl (Nat.le_of_ble_eq_true rfl) dX12_errorComes_144 (fun r144 S144 q144 => ?_)
        obtain ⟨rfl, rfl⟩ := q144
        refine X_topi (y := if dLis (nNd σz z) then 1 else 0) (hnz.2.1) ?_
        refine X_iconst (v := 1) hB dX12_errorComes_147 (by decide) ?_
        refine X_icmp_ne (tgt := 162) hB dX12_errorComes_148 (by decide) (fun c148 => ?_) (fun c148 => ?_)
        · first
          | (have e1 : (if z ≠ fFr f ∧ nUp σz (fFr f) z = true then (1 : Int32) else 0) = 0 := by exact c133
             refine X_iinc hB dX12_errorComes_162 rfl rfl (by decide) rfl ?_
             refine X_goto (tgt := 117) hB dX12_errorComes_165 (by decide) ?_
             have hno : errStep f ((fRo f).getD 1 0) z σz = σz := by
               unfold errStep
               rw [if_neg]
               intro q
               exact absurd e1 (by rw [if_pos q.1]; decide)
             rw [hno] at hstep
             refine X_lv ?_ (ih (z + 1) S1 (by omega) hfr (by rw [hstep]; exact hN1) (by rw [hstep]; exact hI))
             rw [nI_succ]; rfl)
          | (have e2 : nI z = nI ((fRo f).getD 1 0) := by exact c138
             refine X_iinc hB dX12_errorComes_162 rfl rfl (by decide) rfl ?_
             refine X_goto (tgt := 117) hB dX12_errorComes_165 (by decide) ?_
             have hno : errStep f ((fRo f).getD 1 0) z σz = σz := by
               unfold errStep
               rw [if_neg]
               intro q
               exact q.2.1 (i32_inj (by omega) (by omega) e2)
             rw [hno] at hstep
             refine X_lv ?_ (ih (z + 1) S1 (by omega) hfr (by rw [hstep]; exact hN1) (by rw [hstep]; exact hI))
             rw [nI_succ]; rfl)
          | (have e3 : ¬ (if dLis (nNd σz z) = true then (1 : Int32) else 0) = 1 := by exact c148
             refine X_iinc hB dX12_errorComes_162 rfl rfl (by decide) rfl ?_
             refine X_goto (tgt := 117) hB dX12_errorComes_165 (by decide) ?_
             have hno : errStep f ((fRo f).getD 1 0) z σz = σz := by
               unfold errStep
               rw [if_neg]
               intro q
               exact e3 (by rw [if_pos q.2.2])
             rw [hno] at hstep
             refine X_lv ?_ (ih (z + 1) S1 (by omega) hfr (by rw [hstep]; exact hN1) (by rw [hstep]; exact hI))
             rw [nI_succ]; rfl)
        · have hnear : z ≠ fFr f ∧ nUp σz (fFr f) z = true := Decidable.byContradiction fun q => c133 (by rw [if_neg q])
          have hzy : z ≠ ((fRo f).getD 1 0) := fun q => c138 (by rw [q])
          have hlis : dLis (nNd σz z) = true := by
            cases hq : dLis (nNd σz z) with
            | true => rfl
            | false => rw [hq] at c148; exact absurd c148 (by decide)
          refine X_aload_n (i := 0) hB dX12_errorComes_151 rfl rfl ?_
          refine X_iload_n (i := 3) hB dX12_errorComes_152 rfl rfl ?_
          refine X_aload_n (i := 0) hB dX12_errorComes_153 rfl rfl ?_
          refine X_getr hB cw10 fX12_45 rfl hR.1.1 hR.1.2 (hfr.ref hF).2.2.2.2.2.2.2.2.2.2.2 dX12_errorComes_154 ?_
          refine X_iconst (v := 5) hB dX12_errorComes_157 (by decide) ?_
          refine X_ialdN hB (5) hR.2.2.2.2.2.2.2.2.2.2.2.2.1 hR.2.2.2.2.2.2.2.2.2.2.2.2.2 (by decide) (by first | rfl | (simp (disch := omega) only [nlit, nI_add, nI_mul, nI_sub]; done) | (simp (disch := omega) only [nlit, nI_add, nI_mul, nI_sub]; (congr 1 <;> omega))) (by first | omega | (simp only []; omega)) (show _ = lkN (fLk f) by rw [hcm.1 5 (by decide)]; simp only [fwd_]; rw [if_pos hfk]) dX12_errorComes_158 ?_
          refine X_callV hB kX12_325 cw10 hR.1.1 hR.1.2 (c_forgetsON hR hF1 σz hN1 i3 z (fLk f) hz8 hlk) (by decide) (by decide) rfl rfl (Nat.le_of_ble_eq_true rfl) dX12_errorComes_159 (fun r159 S159 q159 => ?_)
          obtain ⟨rfl, f159, n159, s159⟩ := q159
          refine X_iinc hB dX12_errorComes_162 rfl rfl (by decide) rfl ?_
          refine X_goto (tgt := 117) hB dX12_errorComes_165 (by decide) ?_
          have hyes : errStep f ((fRo f).getD 1 0) z σz = forgetON σz z (fLk f) := by unfold errStep; rw [if_pos ⟨hnear, hzy, hlis⟩]
          rw [hyes] at hstep
          refine X_lv ?_ (ih (z + 1) _ (by omega) (hfr.tr (f159.mono (by simp) (by simp))) (by rw [hstep]; exact n159) (by rw [hstep]; exact ⟨i1, i2, s159⟩))
          rw [nI_succ]; rfl
set_option maxRecDepth 100000 in
set_option maxHeartbeats 4000000 in
theorem c_errorComes (hR : RLay G h) (hF : RRef S h) (f : Fm) (hf : frS (S.1 (h + 12)) f) (hfl : (fRo f).length ≤ 8) (hfx : ∀ x ∈ fRo f, x < 8) (σ : Net) (hse : seOk (nSe σ)) (hfk : fKi f = 3) (hfr8 : fFr f < 8) (h2l : 2 ≤ (fRo f).length) (hlk : lkOk (fLk f)) (hN : netR (S.1 (h + 1)) σ) (hs : szN σ) : C G mX12_errorComes 7 [.ref h] S (fun r S' => r = none ∧ fr h [h + 1, h + 7, h + 8, h + 9, h + 10, h + 11] [20, 22] S S' ∧ netR (S'.1 (h + 1)) (arrErr σ f)) := by
  have hy8 : ((fRo f).getD 1 0) < 8 := hfx _ (getD_mem (by omega))
  refine C.mk (lv := [some (.ref h), none, none, none]) (by decide) (Nat.le_of_ble_eq_true rfl) rfl (fun E hB => ?_)
  refine X_aload_n (i := 0) hB dX12_errorComes_0 rfl rfl ?_
  refine X_getr hB cw10 fX12_45 rfl hR.1.1 hR.1.2 hF.2.2.2.2.2.2.2.2.2.2.2 dX12_errorComes_1 ?_
  refine X_iconst (v := 1) hB dX12_errorComes_4 (by decide) ?_
  refine X_ialdN hB (1) hR.2.2.2.2.2.2.2.2.2.2.2.2.1 hR.2.2.2.2.2.2.2.2.2.2.2.2.2 (by decide) (by first | rfl | (simp (disch := omega) only [nlit, nI_add, nI_mul, nI_sub]; done) | (simp (disch := omega) only [nlit, nI_add, nI_mul, nI_sub]; (congr 1 <;> omega))) (by first | omega | (simp only []; omega)) (show _ = nI (fFr f) from hf.1 1 (by decide)) dX12_errorComes_5 ?_
  refine X_istore_n (i := 1) hB dX12_errorComes_6 rfl (by decide) rfl ?_
  refine X_aload_n (i := 0) hB dX12_errorComes_7 rfl rfl ?_
  refine X_iconst (v := 1) hB dX12_errorComes_8 (by decide) ?_
  refine X_callV hB kX12_274 cw10 hR.1.1 hR.1.2 (c_rowAt hR (by exact hF.of rfl) f hf hfl (i := 1) (by omega)) (by decide) (by decide) rfl rfl (Nat.le_of_ble_eq_true rfl) dX12_errorComes_9 (fun r9 S9 q9 => ?_)
  obtain ⟨rfl, rfl⟩ := q9
  refine X_istore_n (i := 2) hB dX12_errorComes_12 rfl (by decide) rfl ?_
  refine X_aload_n (i := 0) hB dX12_errorComes_13 rfl rfl ?_
  refine X_iload_n (i := 1) hB dX12_errorComes_14 rfl rfl ?_
  refine X_iload_n (i := 2) hB dX12_errorComes_15 rfl rfl ?_
  refine X_callV hB kX12_277 cw10 hR.1.1 hR.1.2 (c_isUp hR (by exact hF.of rfl) hfr8 hy8 (hN.1.2.2.2.2.2 _ _ hfr8 hy8)) (by decide) (by decide) rfl rfl (Nat.le_of_ble_eq_true rfl) dX12_errorComes_16 (fun r16 S16 q16 => ?_)
  obtain ⟨rfl, rfl⟩ := q16
  refine X_if_ne (tgt := 30) hB dX12_errorComes_19 (by decide) (fun c19 => ?_) (fun c19 => ?_)
  · have hup : nUp σ (fFr f) ((fRo f).getD 1 0) = true := Decidable.byContradiction fun q => c19 (by rw [if_neg q])
    refine X_aload_n (i := 0) hB dX12_errorComes_30 rfl rfl ?_
    refine X_iload_n (i := 2) hB dX12_errorComes_31 rfl rfl ?_
    refine X_aload_n (i := 0) hB dX12_errorComes_32 rfl rfl ?_
    refine X_getr hB cw10 fX12_45 rfl hR.1.1 hR.1.2 hF.2.2.2.2.2.2.2.2.2.2.2 dX12_errorComes_33 ?_
    refine X_iconst (v := 5) hB dX12_errorComes_36 (by decide) ?_
    refine X_ialdN hB (5) hR.2.2.2.2.2.2.2.2.2.2.2.2.1 hR.2.2.2.2.2.2.2.2.2.2.2.2.2 (by decide) (by first | rfl | (simp (disch := omega) only [nlit, nI_add, nI_mul, nI_sub]; done) | (simp (disch := omega) only [nlit, nI_add, nI_mul, nI_sub]; (congr 1 <;> omega))) (by first | omega | (simp only []; omega)) (show _ = lkN (fLk f) by rw [hf.1 5 (by decide)]; simp only [fwd_]; rw [if_pos hfk]) dX12_errorComes_37 ?_
    refine X_callV hB kX12_325 cw10 hR.1.1 hR.1.2 (c_forgetsON hR (by exact hF.of rfl) σ hN hs ((fRo f).getD 1 0) (fLk f) hy8 hlk) (by decide) (by decide) rfl rfl (Nat.le_of_ble_eq_true rfl) dX12_errorComes_38 (fun r38 S38 q38 => ?_)
    obtain ⟨rfl, f38, n38, s38⟩ := q38
    have n38 : netR (S38.1 (h + 1)) (erLa σ f) := n38
    have s38 : szN (erLa σ f) := s38
    have hF38 := f38.ref hF
    have hfr38 : fr h [h + 1, h + 7, h + 8, h + 9, h + 10, h + 11] [20, 22] S S38 := f38.mono (by simp) (by simp)
    have h38 : frS (S38.1 (h + 12)) f := by rw [f38.2.1 _ (by simp) (by omega)]; exact hf
    refine X_aload_n (i := 0) hB dX12_errorComes_41 rfl rfl ?_
    refine X_getr hB cw10 fX12_45 rfl hR.1.1 hR.1.2 hF38.2.2.2.2.2.2.2.2.2.2.2 dX12_errorComes_42 ?_
    refine X_bipush (v := 6) hB dX12_errorComes_45 (by decide) ?_
    refine X_ialdN hB (6) hR.2.2.2.2.2.2.2.2.2.2.2.2.1 hR.2.2.2.2.2.2.2.2.2.2.2.2.2 (by decide) (by first | rfl | (simp (disch := omega) only [nlit, nI_add, nI_mul, nI_sub]; done) | (simp (disch := omega) only [nlit, nI_add, nI_mul, nI_sub]; (congr 1 <;> omega))) (by first | omega | (simp only []; omega)) (show _ = nI (fRo f).length from h38.1 6 (by decide)) dX12_errorComes_47 ?_
    refine X_iconst (v := 2) hB dX12_errorComes_48 (by decide) ?_
    refine X_icmp_ne (tgt := 67) hB dX12_errorComes_49 (by decide) (fun c49 => ?_) (fun c49 => ?_)
    · refine X_aload_n (i := 0) hB dX12_errorComes_67 rfl rfl ?_
      refine X_iconst (v := 3) hB dX12_errorComes_68 (by decide) ?_
      refine X_iload_n (i := 2) hB dX12_errorComes_69 rfl rfl ?_
      refine X_iconst (v := (-1)) hB dX12_errorComes_70 (by decide) ?_
      refine X_iconst (v := (-1)) hB dX12_errorComes_71 (by decide) ?_
      refine X_iconst (v := (-1)) hB dX12_errorComes_72 (by decide) ?_
      refine X_aload_n (i := 0) hB dX12_errorComes_73 rfl rfl ?_
      refine X_getr hB cw10 fX12_45 rfl hR.1.1 hR.1.2 hF38.2.2.2.2.2.2.2.2.2.2.2 dX12_errorComes_74 ?_
      refine X_iconst (v := 5) hB dX12_errorComes_77 (by decide) ?_
      refine X_ialdN hB (5) hR.2.2.2.2.2.2.2.2.2.2.2.2.1 hR.2.2.2.2.2.2.2.2.2.2.2.2.2 (by decide) (by first | rfl | (simp (disch := omega) only [nlit, nI_add, nI_mul, nI_sub]; done) | (simp (disch := omega) only [nlit, nI_add, nI_mul, nI_sub]; (congr 1 <;> omega))) (by first | omega | (simp only []; omega)) (show _ = lkN (fLk f) by rw [h38.1 5 (by decide)]; simp only [fwd_]; rw [if_pos hfk]) dX12_errorComes_78 ?_
      refine X_callV hB kX12_249 cw10 hR.1.1 hR.1.2 (c_beginsFrame hR hF38 (3, ((fRo f).getD 1 0), 0, 0, fLk f, []) rfl) (by decide) (by decide) rfl rfl (Nat.le_of_ble_eq_true rfl) dX12_errorComes_79 (fun r79 S79 q79 => ?_)
      obtain ⟨rfl, f79, g79⟩ := q79
      have h79 : frS (S79.1 (h + 12)) f := by rw [f79.2.1 _ (by simp) (by omega)]; exact h38
      refine X_iconst (v := 1) hB dX12_errorComes_82 (by decide) ?_
      refine X_istore_n (i := 3) hB dX12_errorComes_83 rfl (by decide) rfl ?_
      have e2l : ¬ (fRo f).length = 2 := fun q => c49 (by rw [q]; rfl)
      refine X_lv (lv' := [some (.ref h), some (.int (nI (fFr f))), some (.int (nI ((fRo f).getD 1 0))), some (.int (nI 1))]) rfl (l_er1 (S := S79) hR (f79.ref hF38) hB f h79 hfl hfx (3, ((fRo f).getD 1 0), 0, 0, fLk f, (fRo f).drop 1) (fun S8 v8 m1 m2 => ?_) ((fRo f).length - 1) 1 (3, ((fRo f).getD 1 0), 0, 0, fLk f, []) S79 (by omega) (by show 0 + _ ≤ 8; omega) fr.rf g79 rfl)
      have n8 : netR (S8.1 (h + 1)) (erLa σ f) := by rw [m1.2.1 _ (by simp) (by omega), f79.2.1 _ (by simp) (by omega)]; exact n38
      have h8 : frS (S8.1 (h + 12)) f := by rw [m1.2.1 _ (by simp) (by omega)]; exact h79
      refine X_aload_n (i := 0) hB dX12_errorComes_110 rfl rfl ?_
      refine X_callV hB kX12_253 cw10 hR.1.1 hR.1.2 (c_sends hR (m1.ref (f79.ref hF38)) (erLa σ f) (3, ((fRo f).getD 1 0), 0, 0, fLk f, (fRo f).drop 1) n8 s38 (by show 3 ≤ 3; omega) m2 (by show ((fRo f).drop 1).length ≤ 8; rw [List.length_drop]; omega)) (by decide) (by decide) rfl rfl (Nat.le_of_ble_eq_true rfl) dX12_errorComes_111 (fun r111 S111 q111 => ?_)
      obtain ⟨rfl, f111, n111⟩ := q111
      have hr2 : erLb σ f = (sendF (erLa σ f) (3, ((fRo f).getD 1 0), 0, 0, fLk f, (fRo f).drop 1)).1 := by unfold erLb; rw [if_neg e2l]
      have n111 : netR (S111.1 (h + 1)) (erLb σ f) := by rw [hr2]; exact n111
      have s111 : szN (erLb σ f) := by rw [hr2]; exact szN_send s38 (by show ((fRo f).drop 1).length ≤ 8; rw [List.length_drop]; omega)
      have hfr111 : fr h [h + 1, h + 7, h + 8, h + 9, h + 10, h + 11] [20, 22] S S111 := hfr38.tr ((f79.mono (by simp) (by simp)).tr ((m1.mono (by simp) (by simp)).tr (f111.mono (by simp) (by simp))))
      have h111 : frS (S111.1 (h + 12)) f := by rw [f111.2.1 _ (by simp) (by omega)]; exact h8
      have k111 : kI σ (erLb σ f) := ⟨by rw [hr2]; exact (se_send (σ := erLa σ f)).trans rfl, by rw [hr2]; exact (up_send (σ := erLa σ f)).trans rfl, s111⟩
      refine X_istore_n (i := 3) hB dX12_errorComes_114 rfl (by decide) rfl ?_
      refine X_iconst (v := 0) hB dX12_errorComes_115 (by decide) ?_
      refine X_istore_n (i := 3) hB dX12_errorComes_116 rfl (by decide) rfl ?_
      refine X_lv (lv' := [some (.ref h), some (.int (nI (fFr f))), some (.int (nI ((fRo f).getD 1 0))), some (.int (nI 0))]) (by rw [nI_0]; rfl) (l_er2 hR (hfr111.ref hF) hB f h111 hfl hfx σ hse hfk hfr8 h2l hlk (erLb σ f) (fun S9 g1 g2 => ⟨rfl, hfr111.tr g1, ?_⟩) (nSe σ 0) 0 _ (by omega) fr.rf n111 k111)
      unfold arrErr
      rw [if_pos hup]
      exact g2
    · refine X_aload_n (i := 0) hB dX12_errorComes_52 rfl rfl ?_
      refine X_iload_n (i := 2) hB dX12_errorComes_53 rfl rfl ?_
      refine X_iconst (v := 5) hB dX12_errorComes_54 (by decide) ?_
      refine X_aload_n (i := 0) hB dX12_errorComes_55 rfl rfl ?_
      refine X_getr hB cw10 fX12_45 rfl hR.1.1 hR.1.2 hF38.2.2.2.2.2.2.2.2.2.2.2 dX12_errorComes_56 ?_
      refine X_iconst (v := 5) hB dX12_errorComes_59 (by decide) ?_
      refine X_ialdN hB (5) hR.2.2.2.2.2.2.2.2.2.2.2.2.1 hR.2.2.2.2.2.2.2.2.2.2.2.2.2 (by decide) (by first | rfl | (simp (disch := omega) only [nlit, nI_add, nI_mul, nI_sub]; done) | (simp (disch := omega) only [nlit, nI_add, nI_mul, nI_sub]; (congr 1 <;> omega))) (by first | omega | (simp only []; omega)) (show _ = lkN (fLk f) by rw [h38.1 5 (by decide)]; simp only [fwd_]; rw [if_pos hfk]) dX12_errorComes_60 ?_
      refine X_callV hB kX12_170 cw10 hR.1.1 hR.1.2 (c_layE (n := ((fRo f).getD 1 0)) (w := 5) hR hF38 rfl rfl (by omega) (by omega)) (by decide) (by decide) rfl rfl (Nat.le_of_ble_eq_true rfl) dX12_errorComes_61 (fun r61 S61 q61 => ?_)
      obtain ⟨rfl, rfl⟩ := q61
      rw [setI_rowI]
      have e2l : (fRo f).length = 2 := i32_inj (by omega) (by omega) (by first | exact c49 | exact Decidable.not_not.mp c49)
      have hsx := s38.2.2.1 ((fRo f).getD 1 0) hy8
      have hr2 : erLb σ f = uNd (erLa σ f) ((fRo f).getD 1 0) (xNw (nNd (erLa σ f) ((fRo f).getD 1 0)) (fLk f)) := by unfold erLb; rw [if_pos e2l]
      have s61 : szN (erLb σ f) := by rw [hr2]; exact szN_nd s38 hsx.1 hsx.2.1 hsx.2.2
      have n61 : netR ((rowI S38 (h + 1) (upd (S38.1 (h + 1)) (89 + 86 * ((fRo f).getD 1 0) + 5) (lkN (fLk f)))).1 (h + 1)) (erLb σ f) := by
        rw [rowI_at, hr2]
        exact netR_nd n38 s38 hy8 (ndR_nw (n38.2.1 _ hy8) hsx.1) (fun i hi => by rw [upd_ne _ _ (by omega)])
      have hfr61 : fr h [h + 1, h + 7, h + 8, h + 9, h + 10, h + 11] [20, 22] S (rowI S38 (h + 1) (upd (S38.1 (h + 1)) (89 + 86 * ((fRo f).getD 1 0) + 5) (lkN (fLk f)))) := hfr38.tr (fr.row (by simp) (by omega))
      have h61 : frS ((rowI S38 (h + 1) (upd (S38.1 (h + 1)) (89 + 86 * ((fRo f).getD 1 0) + 5) (lkN (fLk f)))).1 (h + 12)) f := by rw [rowI_ne _ _ (by omega)]; exact h38
      have k61 : kI σ (erLb σ f) := ⟨by rw [hr2]; rfl, by rw [hr2]; rfl, s61⟩
      refine X_goto (tgt := 115) hB dX12_errorComes_64 (by decide) ?_
      refine X_iconst (v := 0) hB dX12_errorComes_115 (by decide) ?_
      refine X_istore_n (i := 3) hB dX12_errorComes_116 rfl (by decide) rfl ?_
      refine X_lv (lv' := [some (.ref h), some (.int (nI (fFr f))), some (.int (nI ((fRo f).getD 1 0))), some (.int (nI 0))]) (by rw [nI_0]; rfl) (l_er2 hR (hfr61.ref hF) hB f h61 hfl hfx σ hse hfk hfr8 h2l hlk (erLb σ f) (fun S9 g1 g2 => ⟨rfl, hfr61.tr g1, ?_⟩) (nSe σ 0) 0 _ (by omega) fr.rf n61 k61)
      unfold arrErr
      rw [if_pos hup]
      exact g2
  · have hup : ¬ nUp σ (fFr f) ((fRo f).getD 1 0) = true := fun q => absurd c19 (by rw [if_pos q]; decide)
    refine X_aload_n (i := 0) hB dX12_errorComes_22 rfl rfl ?_
    refine X_iload_n (i := 1) hB dX12_errorComes_23 rfl rfl ?_
    refine X_iload_n (i := 1) hB dX12_errorComes_24 rfl rfl ?_
    refine X_iload_n (i := 2) hB dX12_errorComes_25 rfl rfl ?_
    refine X_callV hB kX12_218 cw10 hR.1.1 hR.1.2 (c_forgetsN hR (by exact hF.of rfl) σ hN hs (fFr f) (fFr f) ((fRo f).getD 1 0) hfr8 hfr8 hy8) (by decide) (by decide) rfl rfl (Nat.le_of_ble_eq_true rfl) dX12_errorComes_26 (fun r26 S26 q26 => ?_)
    obtain ⟨rfl, f26, n26, s26⟩ := q26
    refine X_vret hB rfl dX12_errorComes_29 ?_
    refine ⟨rfl, f26.mono (by simp) (by simp), ?_⟩
    unfold arrErr
    rw [if_neg hup]
    exact n26
end REF
