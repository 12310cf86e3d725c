theorem cpA_self {A F : Nat → Int32} {base n : Nat} (h : ∀ i, i < n → F i = A (base + i)) : cpA A base F n = A := by
  funext x; unfold cpA
  by_cases e : base ≤ x ∧ x < base + n
  · rw [if_pos e, h _ (by omega)]; exact congrArg A (by omega)
  · rw [if_neg e]
def txB (T : Nat → Int32) : Prop := ∀ i, i < 2000 → vp_nar .byte (T i) = T i
def cpX (T : Nat → Int32) (fm to : Nat) : Nat → Int32 := cpA T (400 * to) (fun k => T (400 * fm + k)) 400
section REF
variable {G : Gc} {S : St} {h : Nat}
set_option maxRecDepth 100000 in
set_option maxHeartbeats 4000000 in
theorem l_isRequested (hR : RLay G h) (hF : RRef S h) {E : Ev} (hB : Bd G E mX12_isRequested) {Q : Option Value → St → Prop} (σ : Net) (hN : netR (S.1 (h + 1)) σ) (hs : szN σ) (hki : ∀ f ∈ nAir σ, fKi f ≤ 3) (kk : Q (some (.int (if reqB σ then 1 else 0))) S) :
    ∀ (k j : Nat), j + k = (nAir σ).length → (∀ i, i < j → fKi ((nAir σ).getD i f0) ≠ 1) → X G E mX12_isRequested 1 Q S 2 [some (.ref h), some (.int (nI j))] [] := by
  have ha40 := hs.1
  intro k
  induction k with
  | zero =>
    intro j h1 h2
    have e9 : reqB σ = false := by
      unfold reqB
      rw [List.any_eq_false]
      intro f hf
      obtain ⟨i, hi, e⟩ := List.mem_iff_getElem.mp hf
      have := h2 i (by omega)
      rw [getD_lt hi, e] at this
      simpa using this
    rw [e9] at kk
    refine X_iload_n (i := 1) hB dX12_isRequested_2 rfl rfl ?_
    refine X_aload_n (i := 0) hB dX12_isRequested_3 rfl rfl ?_
    refine X_getr hB cw10 fX12_7 rfl hR.1.1 hR.1.2 hF.1 dX12_isRequested_4 ?_
    refine X_bipush (v := 10) hB dX12_isRequested_7 (by decide) ?_
    refine X_ialdN hB (10) hR.2.1.1 hR.2.1.2 (by decide) (by first | rfl | (simp (disch := omega) only [nlit, nI_add, nI_mul, nI_sub]; done) | (simp (disch := omega) only [nlit, nI_add, nI_mul, nI_sub]; (congr 1 <;> omega))) (by first | omega | (simp only []; omega)) hN.1.2.2.2.1 dX12_isRequested_9 ?_
    refine X_icmp_ge (tgt := 31) hB dX12_isRequested_10 (by decide) (fun c10 => ?_) (fun c10 => absurd c10 (by simp (disch := omega) only [nlit, nI_leI, nI_ltI]; omega))
    refine X_iconst (v := 0) hB dX12_isRequested_31 (by decide) ?_
    refine X_zret hB rfl (by first | exact Or.inl rfl | exact Or.inr rfl) dX12_isRequested_32 ?_
    exact kk
  | succ k ih =>
    intro j h1 h2
    have hj := hki _ (getD_mem (d := f0) (show j < (nAir σ).length by omega))
    have hfr := (hN.2.2.1 j (by omega)).1 0 (by decide)
    refine X_iload_n (i := 1) hB dX12_isRequested_2 rfl rfl ?_
    refine X_aload_n (i := 0) hB dX12_isRequested_3 rfl rfl ?_
    refine X_getr hB cw10 fX12_7 rfl hR.1.1 hR.1.2 hF.1 dX12_isRequested_4 ?_
    refine X_bipush (v := 10) hB dX12_isRequested_7 (by decide) ?_
    refine X_ialdN hB (10) hR.2.1.1 hR.2.1.2 (by decide) (by first | rfl | (simp (disch := omega) only [nlit, nI_add, nI_mul, nI_sub]; done) | (simp (disch := omega) only [nlit, nI_add, nI_mul, nI_sub]; (congr 1 <;> omega))) (by first | omega | (simp only []; omega)) hN.1.2.2.2.1 dX12_isRequested_9 ?_
    refine X_icmp_ge (tgt := 31) hB dX12_isRequested_10 (by decide) (fun c10 => absurd c10 (by simp (disch := omega) only [nlit, nI_leI, nI_ltI]; omega)) (fun c10 => ?_)
    refine X_aload_n (i := 0) hB dX12_isRequested_13 rfl rfl ?_
    refine X_iload_n (i := 1) hB dX12_isRequested_14 rfl rfl ?_
    refine X_iconst (v := 0) hB dX12_isRequested_15 (by decide) ?_
    refine X_callV hB kX12_398 cw10 hR.1.1 hR.1.2 (c_frameAtE (k := j) (w := 0) hR hF rfl (by omega) (by omega)) (by decide) (by decide) rfl rfl (Nat.le_of_ble_eq_true rfl) dX12_isRequested_16 (fun r16 S16 q16 => ?_)
    obtain ⟨rfl, rfl⟩ := q16
    refine X_topi (y := nI (fKi ((nAir σ).getD j f0))) (hfr) ?_
    refine X_iconst (v := 1) hB dX12_isRequested_19 (by decide) ?_
    refine X_icmp_ne (tgt := 25) hB dX12_isRequested_20 (by decide) (fun c20 => ?_) (fun c20 => ?_)
    · refine X_iinc hB dX12_isRequested_25 rfl rfl (by decide) rfl ?_
      refine X_goto (tgt := 2) hB dX12_isRequested_28 (by decide) ?_
      refine X_lv ?_ (ih (j + 1) (by omega) (fun i hi => ?_))
      · rw [nI_succ]; rfl
      · by_cases e : i = j
        · subst e
          intro q
          exact c20 (by rw [q]; rfl)
        · exact h2 i (by omega)
    · refine X_iconst (v := 1) hB dX12_isRequested_23 (by decide) ?_
      refine X_zret hB rfl (by first | exact Or.inl rfl | exact Or.inr rfl) dX12_isRequested_24 ?_
      have e20 : fKi ((nAir σ).getD j f0) = 1 := by rw [show (1 : Int32) = nI 1 from rfl, nI_eq (by omega) (by omega)] at c20; exact c20
      have e9 : reqB σ = true := by
        unfold reqB
        rw [List.any_eq_true]
        exact ⟨_, getD_mem (show j < (nAir σ).length by omega), by simpa using e20⟩
      rw [e9] at kk
      exact kk
set_option maxRecDepth 100000 in
set_option maxHeartbeats 4000000 in
theorem c_isRequested (hR : RLay G h) (hF : RRef S h) (σ : Net) (hN : netR (S.1 (h + 1)) σ) (hs : szN σ) (hki : ∀ f ∈ nAir σ, fKi f ≤ 3) : C G mX12_isRequested 1 [.ref h] S (fun r S' => r = some (.int (if reqB σ then 1 else 0)) ∧ S = S') := by
  refine C.mk (lv := [some (.ref h), none]) (by decide) (Nat.le_of_ble_eq_true rfl) rfl (fun E hB => ?_)
  refine X_iconst (v := 0) hB dX12_isRequested_0 (by decide) ?_
  refine X_istore_n (i := 1) hB dX12_isRequested_1 rfl (by decide) rfl ?_
  refine X_lv ?_ (l_isRequested hR hF hB σ hN hs hki ⟨rfl, rfl⟩ (nAir σ).length 0 (by omega) (fun i hi => by omega))
  rw [nI_0]; rfl
set_option maxRecDepth 100000 in
set_option maxHeartbeats 4000000 in
theorem c_isQuiet (hR : RLay G h) (hF : RRef S h) (σ : Net) (hN : netR (S.1 (h + 1)) σ) (hs : szN σ) (hst : ∀ d, d < (nDa σ).length → aSt (dat σ d) ≤ 3) : C G mX12_isQuiet 2 [.ref h] S (fun r S' => r = some (.int (if quB σ then 1 else 0)) ∧ S = S') := by
  have ha40 := hs.1
  have hd40 := hs.2.1
  have hcn := cnB_le (fun d => decide (aSt (dat σ d) = 0)) (nDa σ).length
  refine C.mk (lv := [some (.ref h)]) (by decide) (Nat.le_of_ble_eq_true rfl) rfl (fun E hB => ?_)
  refine X_aload_n (i := 0) hB dX12_isQuiet_0 rfl rfl ?_
  refine X_getr hB cw10 fX12_7 rfl hR.1.1 hR.1.2 hF.1 dX12_isQuiet_1 ?_
  refine X_bipush (v := 10) hB dX12_isQuiet_4 (by decide) ?_
  refine X_ialdN hB (10) hR.2.1.1 hR.2.1.2 (by decide) (by first | rfl | (simp (disch := omega) only [nlit, nI_add, nI_mul, nI_sub]; done) | (simp (disch := omega) only [nlit, nI_add, nI_mul, nI_sub]; (congr 1 <;> omega))) (by first | omega | (simp only []; omega)) hN.1.2.2.2.1 dX12_isQuiet_6 ?_
  refine X_if_ne (tgt := 23) hB dX12_isQuiet_7 (by decide) (fun c7 => ?_) (fun c7 => ?_)
  · have e9 : quB σ = false := by
      unfold quB
      first
        | (have q : (nAir σ).length ≠ 0 := fun q => c7 (by rw [q]; rfl)
           simp only [decide_eq_false q, Bool.false_and])
        | (have q : cnB (fun d => decide (aSt (dat σ d) = 0)) (nDa σ).length ≠ 0 := fun q => c16 (by rw [q]; rfl)
           simp only [decide_eq_false q, Bool.and_false])
    refine X_iconst (v := 0) hB dX12_isQuiet_23 (by decide) ?_
    refine X_zret hB rfl (by first | exact Or.inl rfl | exact Or.inr rfl) dX12_isQuiet_24 ?_
    exact ⟨by rw [e9]; rfl, rfl⟩
  · refine X_aload_n (i := 0) hB dX12_isQuiet_10 rfl rfl ?_
    refine X_bipush (v := 12) hB dX12_isQuiet_11 (by decide) ?_
    refine X_callV hB kX12_416 cw10 hR.1.1 hR.1.2 (c_asAhead hR hF σ hN hs hst 12 (by decide)) (by decide) (by decide) rfl rfl (Nat.le_of_ble_eq_true rfl) dX12_isQuiet_13 (fun r13 S13 q13 => ?_)
    obtain ⟨rfl, rfl⟩ := q13
    refine X_topi (y := nI (cnB (fun d => decide (aSt (dat σ d) = 0)) (nDa σ).length)) (by unfold cntA; rw [if_neg (by decide), if_neg (by decide)]) ?_
    refine X_if_ne (tgt := 23) hB dX12_isQuiet_16 (by decide) (fun c16 => ?_) (fun c16 => ?_)
    · have e9 : quB σ = false := by
        unfold quB
        first
          | (have q : (nAir σ).length ≠ 0 := fun q => c7 (by rw [q]; rfl)
             simp only [decide_eq_false q, Bool.false_and])
          | (have q : cnB (fun d => decide (aSt (dat σ d) = 0)) (nDa σ).length ≠ 0 := fun q => c16 (by rw [q]; rfl)
             simp only [decide_eq_false q, Bool.and_false])
      refine X_iconst (v := 0) hB dX12_isQuiet_23 (by decide) ?_
      refine X_zret hB rfl (by first | exact Or.inl rfl | exact Or.inr rfl) dX12_isQuiet_24 ?_
      exact ⟨by rw [e9]; rfl, rfl⟩
    · refine X_iconst (v := 1) hB dX12_isQuiet_19 (by decide) ?_
      refine X_goto (tgt := 24) hB dX12_isQuiet_20 (by decide) ?_
      refine X_zret hB rfl (by first | exact Or.inl rfl | exact Or.inr rfl) dX12_isQuiet_24 ?_
      have e7 : (nAir σ).length = 0 := by rw [show (0 : Int32) = nI 0 from rfl, nI_eq (by omega) (by omega)] at c7; exact c7
      have e16 : cnB (fun d => decide (aSt (dat σ d) = 0)) (nDa σ).length = 0 := by rw [show (0 : Int32) = nI 0 from rfl, nI_eq (by omega) (by omega)] at c16; exact c16
      refine ⟨?_, rfl⟩
      unfold quB
      rw [decide_eq_true e7, decide_eq_true e16]; rfl
set_option maxRecDepth 100000 in
set_option maxHeartbeats 4000000 in
theorem l_flood (hR : RLay G h) (hF : RRef S h) {E : Ev} (hB : Bd G E mX12_flood) {Q : Option Value → St → Prop} (x y t : Nat) (z v0 : Int32) (ht : t < 11) (P9 : Net → Prop) (kk : ∀ S1 j σ9 b9, fr h [h + 1, h + 7, h + 8, h + 9, h + 10, h + 11, h + 12] [20, 22] S S1 → netR (S1.1 (h + 1)) σ9 → wfN σ9 b9 → P9 σ9 → X G E mX12_flood 10 Q S1 86 [some (.ref h), some (.int (nI x)), some (.int (nI y)), some (.int z), some (.int (nI (14 + t))), some (.int v0), some (.int j)] []) :
    ∀ (k j : Nat) (S1 : St) (σ1 : Net) (b1 : Nat), j + k = 20 → fr h [h + 1, h + 7, h + 8, h + 9, h + 10, h + 11, h + 12] [20, 22] S S1 → netR (S1.1 (h + 1)) σ1 → wfN σ1 b1 → nNow σ1 + k ≤ 1000 → b1 + 40 * k < 100000 → (∀ τ, τ = flA k σ1 → P9 τ) → X G E mX12_flood 10 Q S1 62 [some (.ref h), some (.int (nI x)), some (.int (nI y)), some (.int z), some (.int (nI (14 + t))), some (.int v0), some (.int (nI j))] [] := by
  intro k
  induction k with
  | zero =>
    intro j S1 σ1 b1 h1 hfr hN1 hw1 hn1 hb1 hP
    refine X_iload hB dX12_flood_62 rfl ?_
    refine X_bipush (v := 20) hB dX12_flood_64 (by decide) ?_
    refine X_icmp_ge (tgt := 86) hB dX12_flood_66 (by decide) (fun c66 => ?_) (fun c66 => absurd c66 (by simp (disch := omega) only [nlit, nI_leI, nI_ltI]; omega))
    exact kk S1 _ σ1 b1 hfr hN1 hw1 (hP _ rfl)
  | succ k ih =>
    intro j S1 σ1 b1 h1 hfr hN1 hw1 hn1 hb1 hP
    have hI := hw1.aal (by omega) (by omega)
    refine X_iload hB dX12_flood_62 rfl ?_
    refine X_bipush (v := 20) hB dX12_flood_64 (by decide) ?_
    refine X_icmp_ge (tgt := 86) hB dX12_flood_66 (by decide) (fun c66 => absurd c66 (by simp (disch := omega) only [nlit, nI_leI, nI_ltI]; omega)) (fun c66 => ?_)
    refine X_aload_n (i := 0) hB dX12_flood_69 rfl rfl ?_
    refine X_callV hB kX12_422 cw10 hR.1.1 hR.1.2 (c_isRequested hR (hfr.ref hF) σ1 hN1 hw1.sz (fun f hf => (hw1.2.2.2.1 f hf).1.1)) (by decide) (by decide) rfl rfl (Nat.le_of_ble_eq_true rfl) dX12_flood_70 (fun r70 S70 q70 => ?_)
    obtain ⟨rfl, rfl⟩ := q70
    refine X_if_eq (tgt := 86) hB dX12_flood_73 (by decide) (fun c73 => ?_) (fun c73 => ?_)
    · exact kk S1 _ σ1 b1 hfr hN1 hw1 (hP _ (show flA (k + 1) σ1 = _ from if_neg (if1n c73)).symm)
    · refine X_aload_n (i := 0) hB dX12_flood_76 rfl rfl ?_
      refine X_callV hB kX12_364 cw10 hR.1.1 hR.1.2 (c_arriveAll hR (hfr.ref hF) σ1 b1 hw1 (by omega) (by omega) hN1) (by decide) (by decide) rfl rfl (Nat.le_of_ble_eq_true rfl) dX12_flood_77 (fun r77 S77 q77 => ?_)
      obtain ⟨rfl, f77, n77⟩ := q77
      refine X_iinc hB dX12_flood_80 rfl rfl (by decide) rfl ?_
      refine X_goto (tgt := 62) hB dX12_flood_83 (by decide) ?_
      refine X_lv ?_ (ih (j + 1) _ (arrAll σ1) (b1 + 40) (by omega) (hfr.tr f77) n77 hI.1 (by rw [hI.2.2.1]; omega) (by omega) (fun τ hτ => hP τ (by rw [hτ]; exact (show flA (k + 1) σ1 = _ from if_pos (if1 c73)).symm)))
      · rw [nI_succ]; rfl
end REF
theorem flA_se : ∀ (k : Nat) {σ : Net} {b : Nat}, wfN σ b → nNow σ + k ≤ 1000 → b + 40 * k < 100000 → nSe (flA k σ) = nSe σ
  | 0, σ, b, _, _, _ => rfl
  | k + 1, σ, b, h, h1, h2 => by
    unfold flA
    split
    · obtain ⟨g1, g2, g3, g4, g5⟩ := h.aal (by omega) (by omega)
      rw [flA_se k g1 (by rw [g3]; omega) (by omega), g2]
    · rfl
section REF
variable {G : Gc} {S : St} {h : Nat}
set_option maxRecDepth 100000 in
set_option maxHeartbeats 4000000 in
theorem c_floodF (hR : RLay G h) (hF : RRef S h) (σ : Net) (b : Nat) (hw : wfN σ b) (hN : netR (S.1 (h + 1)) σ) (hnow : nNow σ ≤ 900) (hb : b + 3000 < 100000) (v w : Int32) : C G mX12_flood 10 [.ref h, .int v, .int w, .int 0] S (fun r S' => r = some (.int (aFlood (reSe σ (cpT (S.1 (h + 1)) 0 4)) v w false)) ∧ fr h [h + 1, h + 7, h + 8, h + 9, h + 10, h + 11, h + 12] [0, 20, 22] S S' ∧ ∀ i, i < 9828 → S'.1 (h + 1) i = S.1 (h + 1) i) := by
  have hs := hw.sz
  have hc8 := hw.1.1.2
  have ha40 := hs.1
  have hd40 := hs.2.1
  refine C.mk (lv := [some (.ref h), some (.int v), some (.int w), some (.int 0), none, none, none]) (by decide) (Nat.le_of_ble_eq_true rfl) rfl (fun E hB => ?_)
  refine X_aload_n (i := 0) hB dX12_flood_0 rfl rfl ?_
  refine X_iconst (v := 0) hB dX12_flood_1 (by decide) ?_
  refine X_puti hB cw10 fX12_51 rfl rfl hR.1.1 hR.1.2 dX12_flood_2 ?_
  generalize hS0 : setI S h 0 0 = S0
  have fz : fr h [] [0] S S0 := hS0 ▸ fr.fld (by simp)
  have hF := fz.ref hF
  have hN : netR (S0.1 (h + 1)) σ := by rw [fz.2.1 (h + 1) (by simp) (by omega)]; exact hN
  clear hS0
  refine X_aload_n (i := 0) hB dX12_flood_5 rfl rfl ?_
  refine X_iload_n (i := 1) hB dX12_flood_6 rfl rfl ?_
  refine X_iload_n (i := 2) hB dX12_flood_7 rfl rfl ?_
  refine X_callV hB kX12_373 cw10 hR.1.1 hR.1.2 (c_areTwo hR hF σ hN (by omega) v w) (by decide) (by decide) rfl rfl (Nat.le_of_ble_eq_true rfl) dX12_flood_8 (fun r8 S8 q8 => ?_)
  obtain ⟨rfl, rfl⟩ := q8
  refine X_if_ne (tgt := 16) hB dX12_flood_11 (by decide) (fun c11 => ?_) (fun c11 => ?_)
  · obtain ⟨⟨x, y⟩, e11⟩ := opt_ex (if0n c11)
    obtain ⟨rfl, rfl, lx, ly, hxy⟩ := two_some e11
    refine X_aload_n (i := 0) hB dX12_flood_16 rfl rfl ?_
    refine X_iconst (v := 0) hB dX12_flood_17 (by decide) ?_
    refine X_iconst (v := 4) hB dX12_flood_18 (by decide) ?_
    refine X_callV hB kX12_410 cw10 hR.1.1 hR.1.2 (c_copies hR hF 0 4 rfl rfl (by decide) (by decide) (by decide)) (by decide) (by decide) rfl rfl (Nat.le_of_ble_eq_true rfl) dX12_flood_19 (fun r19 S19 q19 => ?_)
    obtain ⟨rfl, rfl⟩ := q19
    generalize hSc : rowI S0 (h + 1) (cpT (S0.1 (h + 1)) 0 4) = Sc
    have eA : S0.1 (h + 1) = S.1 (h + 1) := fz.2.1 (h + 1) (by simp) (by omega)
    have fc : fr h [h + 1, h + 7, h + 8, h + 9, h + 10, h + 11, h + 12] [20, 22] S0 Sc := hSc ▸ fr.row (by simp) (by omega)
    have hFc := fc.ref hF
    have hNc : netR (Sc.1 (h + 1)) (reSe σ (cpT (S.1 (h + 1)) 0 4)) := by rw [← hSc, rowI_at, eA]; exact netR_re (by rw [← eA]; exact hN) hs (fun i hi => cpT_lo (by omega))
    have hNr : netR (cpT (S.1 (h + 1)) 0 4) (reSe σ (cpT (S.1 (h + 1)) 0 4)) := by rw [← hSc, rowI_at, eA] at hNc; exact hNc
    have hwc : wfN (reSe σ (cpT (S.1 (h + 1)) 0 4)) b := wfN_re hw
    have hnc : nNow (reSe σ (cpT (S.1 (h + 1)) 0 4)) ≤ 900 := hnow
    clear hSc
    refine X_bipush (v := 14) hB dX12_flood_22 (by decide) ?_
    refine X_iload_n (i := 3) hB dX12_flood_24 rfl rfl ?_
    refine X_if_eq (tgt := 32) hB dX12_flood_25 (by decide) (fun c25 => ?_) (fun c25 => absurd rfl c25)
    refine X_iconst (v := 1) hB dX12_flood_32 (by decide) ?_
    refine X_iadd hB dX12_flood_33 ?_
    refine X_topi (y := nI (14 + 1)) rfl ?_
    refine X_istore hB dX12_flood_34 (by decide) rfl ?_
    refine X_aload_n (i := 0) hB dX12_flood_36 rfl rfl ?_
    refine X_getr hB cw10 fX12_7 rfl hR.1.1 hR.1.2 hFc.1 dX12_flood_37 ?_
    refine X_iload hB dX12_flood_40 rfl ?_
    refine X_ialdN hB (14 + 1) hR.2.1.1 hR.2.1.2 (by decide) (by first | rfl | (simp (disch := omega) only [nlit, nI_add, nI_mul, nI_sub]; done) | (simp (disch := omega) only [nlit, nI_add, nI_mul, nI_sub]; (congr 1 <;> omega))) (by first | omega | (simp only []; omega)) (hNc.1.2.2.2.2.1 1 (by decide)) dX12_flood_42 ?_
    refine X_istore hB dX12_flood_43 (by decide) rfl ?_
    refine X_aload_n (i := 0) hB dX12_flood_45 rfl rfl ?_
    refine X_getr hB cw10 fX12_7 rfl hR.1.1 hR.1.2 hFc.1 dX12_flood_46 ?_
    refine X_bipush (v := 10) hB dX12_flood_49 (by decide) ?_
    refine X_iconst (v := 0) hB dX12_flood_51 (by decide) ?_
    refine X_iastN hB (10) hR.2.1.1 hR.2.1.2 (by decide) (by first | rfl | (simp (disch := omega) only [nlit, nI_add, nI_mul, nI_sub]; done) | (simp (disch := omega) only [nlit, nI_add, nI_mul, nI_sub]; (congr 1 <;> omega))) (by first | omega | (simp only []; omega)) dX12_flood_52 ?_
    rw [setI_rowI]
    generalize hSu : rowI Sc (h + 1) _ = Su
    have fu : fr h [h + 1, h + 7, h + 8, h + 9, h + 10, h + 11, h + 12] [20, 22] Sc Su := hSu ▸ fr.row (by simp) (by omega)
    have hFu := fu.ref hFc
    have hNu : netR (Su.1 (h + 1)) (uAir (reSe σ (cpT (S.1 (h + 1)) 0 4)) []) := by
      rw [← hSu, rowI_at]
      exact netR_air0 hNc hwc.sz
    clear hSu
    refine X_aload_n (i := 0) hB dX12_flood_53 rfl rfl ?_
    refine X_iload_n (i := 1) hB dX12_flood_54 rfl rfl ?_
    refine X_iload_n (i := 2) hB dX12_flood_55 rfl rfl ?_
    refine X_callV hB kX12_271 cw10 hR.1.1 hR.1.2 (c_asks hR hFu (uAir (reSe σ (cpT (S.1 (h + 1)) 0 4)) []) hNu hwc.air0.sz x y (by omega) (by omega)) (by decide) (by decide) rfl rfl (Nat.le_of_ble_eq_true rfl) dX12_flood_56 (fun r56 S56 q56 => ?_)
    obtain ⟨rfl, f56, n56⟩ := q56
    have hF5 := f56.ref hFu
    have hw5 : wfN (fl0 (reSe σ (cpT (S.1 (h + 1)) 0 4)) x y) (b + 1) := hwc.fl (by omega) (by omega) (by omega)
    have hn5 : nNow (fl0 (reSe σ (cpT (S.1 (h + 1)) 0 4)) x y) ≤ 900 := by
      have : geN (uAir (reSe σ (cpT (S.1 (h + 1)) 0 4)) []) (fl0 (reSe σ (cpT (S.1 (h + 1)) 0 4)) x y) := geN.as
      rw [this.2.1]; exact hnow
    have hs5 : nSe (fl0 (reSe σ (cpT (S.1 (h + 1)) 0 4)) x y) = nSe (reSe σ (cpT (S.1 (h + 1)) 0 4)) := (geN.as : geN (uAir (reSe σ (cpT (S.1 (h + 1)) 0 4)) []) (fl0 (reSe σ (cpT (S.1 (h + 1)) 0 4)) x y)).1
    refine X_iconst (v := 0) hB dX12_flood_59 (by decide) ?_
    refine X_istore hB dX12_flood_60 (by decide) rfl ?_
    refine X_lv ?_ (l_flood (S := S56) hR hF5 hB x y 1 0 (nI (nTa (reSe σ (cpT (S.1 (h + 1)) 0 4)) 1)) (by decide) (fun τ => τ = flA 20 (fl0 (reSe σ (cpT (S.1 (h + 1)) 0 4)) x y) ∧ nSe τ = nSe (reSe σ (cpT (S.1 (h + 1)) 0 4))) (fun S9 j9 σ9 b9 g1 g2 g3 g4 => ?_) 20 0 _ (fl0 (reSe σ (cpT (S.1 (h + 1)) 0 4)) x y) (b + 1) (by omega) fr.rf n56 hw5 (by omega) (by omega) (fun τ hτ => ⟨hτ, by rw [hτ, flA_se 20 hw5 (by omega) (by omega)]; exact hs5⟩))
    · rw [nI_0]; rfl
    refine X_aload_n (i := 0) hB dX12_flood_86 rfl rfl ?_
    refine X_aload_n (i := 0) hB dX12_flood_87 rfl rfl ?_
    refine X_getr hB cw10 fX12_7 rfl hR.1.1 hR.1.2 (g1.ref hF5).1 dX12_flood_88 ?_
    refine X_iload hB dX12_flood_91 rfl ?_
    refine X_ialdN hB (14 + 1) hR.2.1.1 hR.2.1.2 (by decide) (by first | rfl | (simp (disch := omega) only [nlit, nI_add, nI_mul, nI_sub]; done) | (simp (disch := omega) only [nlit, nI_add, nI_mul, nI_sub]; (congr 1 <;> omega))) (by first | omega | (simp only []; omega)) (g2.1.2.2.2.2.1 1 (by decide)) dX12_flood_93 ?_
    refine X_iload hB dX12_flood_94 rfl ?_
    refine X_isub hB dX12_flood_96 ?_
    refine X_callV hB kX12_419 cw10 hR.1.1 hR.1.2 (c_back hR (g1.ref hF5) _) (by decide) (by decide) rfl rfl (Nat.le_of_ble_eq_true rfl) dX12_flood_97 (fun r97 S97 q97 => ?_)
    obtain ⟨rfl, rfl⟩ := q97
    refine X_iret hB rfl dX12_flood_100 ?_
    refine ⟨?_, ?_, ?_⟩
    · simp only [aFlood, two_re, e11]
      rw [g4.1]; rfl
    · exact ((fz.mono (by simp) (by simp)).tr (fc.mono (by simp) (by simp))).tr (((fu.mono (by simp) (by simp)).tr ((f56.mono (by simp) (by simp)).tr (g1.mono (by simp) (by simp)))).tr (fr.row (by simp) (by omega)))
    · rw [rowI_at]; exact back_eq hNr g2 g4.2
  · first
      | (have e11 := if0 c11
         refine X_iconst (v := (-1)) hB dX12_flood_14 (by decide) ?_
         refine X_iret hB rfl dX12_flood_15 ?_
         refine ⟨?_, (⟨fz.mono (by simp) (by simp), fun i _ => by rw [fz.2.1 (h + 1) (by simp) (by omega)]⟩ : fr h [h + 1, h + 7, h + 8, h + 9, h + 10, h + 11, h + 12] [0, 20, 22] S S0 ∧ ∀ i, i < 9828 → S0.1 (h + 1) i = S.1 (h + 1) i)⟩
         simp only [aFlood, two_re, e11])
set_option maxRecDepth 100000 in
set_option maxHeartbeats 4000000 in
theorem c_floodT (hR : RLay G h) (hF : RRef S h) (σ : Net) (b : Nat) (hw : wfN σ b) (hN : netR (S.1 (h + 1)) σ) (hnow : nNow σ ≤ 900) (hb : b + 3000 < 100000) (v w : Int32) : C G mX12_flood 10 [.ref h, .int v, .int w, .int 1] S (fun r S' => r = some (.int (aFlood (reSe σ (cpT (S.1 (h + 1)) 0 4)) v w true)) ∧ fr h [h + 1, h + 7, h + 8, h + 9, h + 10, h + 11, h + 12] [0, 20, 22] S S' ∧ ∀ i, i < 9828 → S'.1 (h + 1) i = S.1 (h + 1) i) := by
  have hs := hw.sz
  have hc8 := hw.1.1.2
  have ha40 := hs.1
  have hd40 := hs.2.1
  refine C.mk (lv := [some (.ref h), some (.int v), some (.int w), some (.int 1), none, none, none]) (by decide) (Nat.le_of_ble_eq_true rfl) rfl (fun E hB => ?_)
  refine X_aload_n (i := 0) hB dX12_flood_0 rfl rfl ?_
  refine X_iconst (v := 0) hB dX12_flood_1 (by decide) ?_
  refine X_puti hB cw10 fX12_51 rfl rfl hR.1.1 hR.1.2 dX12_flood_2 ?_
  generalize hS0 : setI S h 0 0 = S0
  have fz : fr h [] [0] S S0 := hS0 ▸ fr.fld (by simp)
  have hF := fz.ref hF
  have hN : netR (S0.1 (h + 1)) σ := by rw [fz.2.1 (h + 1) (by simp) (by omega)]; exact hN
  clear hS0
  refine X_aload_n (i := 0) hB dX12_flood_5 rfl rfl ?_
  refine X_iload_n (i := 1) hB dX12_flood_6 rfl rfl ?_
  refine X_iload_n (i := 2) hB dX12_flood_7 rfl rfl ?_
  refine X_callV hB kX12_373 cw10 hR.1.1 hR.1.2 (c_areTwo hR hF σ hN (by omega) v w) (by decide) (by decide) rfl rfl (Nat.le_of_ble_eq_true rfl) dX12_flood_8 (fun r8 S8 q8 => ?_)
  obtain ⟨rfl, rfl⟩ := q8
  refine X_if_ne (tgt := 16) hB dX12_flood_11 (by decide) (fun c11 => ?_) (fun c11 => ?_)
  · obtain ⟨⟨x, y⟩, e11⟩ := opt_ex (if0n c11)
    obtain ⟨rfl, rfl, lx, ly, hxy⟩ := two_some e11
    refine X_aload_n (i := 0) hB dX12_flood_16 rfl rfl ?_
    refine X_iconst (v := 0) hB dX12_flood_17 (by decide) ?_
    refine X_iconst (v := 4) hB dX12_flood_18 (by decide) ?_
    refine X_callV hB kX12_410 cw10 hR.1.1 hR.1.2 (c_copies hR hF 0 4 rfl rfl (by decide) (by decide) (by decide)) (by decide) (by decide) rfl rfl (Nat.le_of_ble_eq_true rfl) dX12_flood_19 (fun r19 S19 q19 => ?_)
    obtain ⟨rfl, rfl⟩ := q19
    generalize hSc : rowI S0 (h + 1) (cpT (S0.1 (h + 1)) 0 4) = Sc
    have eA : S0.1 (h + 1) = S.1 (h + 1) := fz.2.1 (h + 1) (by simp) (by omega)
    have fc : fr h [h + 1, h + 7, h + 8, h + 9, h + 10, h + 11, h + 12] [20, 22] S0 Sc := hSc ▸ fr.row (by simp) (by omega)
    have hFc := fc.ref hF
    have hNc : netR (Sc.1 (h + 1)) (reSe σ (cpT (S.1 (h + 1)) 0 4)) := by rw [← hSc, rowI_at, eA]; exact netR_re (by rw [← eA]; exact hN) hs (fun i hi => cpT_lo (by omega))
    have hNr : netR (cpT (S.1 (h + 1)) 0 4) (reSe σ (cpT (S.1 (h + 1)) 0 4)) := by rw [← hSc, rowI_at, eA] at hNc; exact hNc
    have hwc : wfN (reSe σ (cpT (S.1 (h + 1)) 0 4)) b := wfN_re hw
    have hnc : nNow (reSe σ (cpT (S.1 (h + 1)) 0 4)) ≤ 900 := hnow
    clear hSc
    refine X_bipush (v := 14) hB dX12_flood_22 (by decide) ?_
    refine X_iload_n (i := 3) hB dX12_flood_24 rfl rfl ?_
    refine X_if_eq (tgt := 32) hB dX12_flood_25 (by decide) (fun c25 => absurd c25 (by decide)) (fun c25 => ?_)
    refine X_iconst (v := 2) hB dX12_flood_28 (by decide) ?_
    refine X_goto (tgt := 33) hB dX12_flood_29 (by decide) ?_
    refine X_iadd hB dX12_flood_33 ?_
    refine X_topi (y := nI (14 + 2)) rfl ?_
    refine X_istore hB dX12_flood_34 (by decide) rfl ?_
    refine X_aload_n (i := 0) hB dX12_flood_36 rfl rfl ?_
    refine X_getr hB cw10 fX12_7 rfl hR.1.1 hR.1.2 hFc.1 dX12_flood_37 ?_
    refine X_iload hB dX12_flood_40 rfl ?_
    refine X_ialdN hB (14 + 2) hR.2.1.1 hR.2.1.2 (by decide) (by first | rfl | (simp (disch := omega) only [nlit, nI_add, nI_mul, nI_sub]; done) | (simp (disch := omega) only [nlit, nI_add, nI_mul, nI_sub]; (congr 1 <;> omega))) (by first | omega | (simp only []; omega)) (hNc.1.2.2.2.2.1 2 (by decide)) dX12_flood_42 ?_
    refine X_istore hB dX12_flood_43 (by decide) rfl ?_
    refine X_aload_n (i := 0) hB dX12_flood_45 rfl rfl ?_
    refine X_getr hB cw10 fX12_7 rfl hR.1.1 hR.1.2 hFc.1 dX12_flood_46 ?_
    refine X_bipush (v := 10) hB dX12_flood_49 (by decide) ?_
    refine X_iconst (v := 0) hB dX12_flood_51 (by decide) ?_
    refine X_iastN hB (10) hR.2.1.1 hR.2.1.2 (by decide) (by first | rfl | (simp (disch := omega) only [nlit, nI_add, nI_mul, nI_sub]; done) | (simp (disch := omega) only [nlit, nI_add, nI_mul, nI_sub]; (congr 1 <;> omega))) (by first | omega | (simp only []; omega)) dX12_flood_52 ?_
    rw [setI_rowI]
    generalize hSu : rowI Sc (h + 1) _ = Su
    have fu : fr h [h + 1, h + 7, h + 8, h + 9, h + 10, h + 11, h + 12] [20, 22] Sc Su := hSu ▸ fr.row (by simp) (by omega)
    have hFu := fu.ref hFc
    have hNu : netR (Su.1 (h + 1)) (uAir (reSe σ (cpT (S.1 (h + 1)) 0 4)) []) := by
      rw [← hSu, rowI_at]
      exact netR_air0 hNc hwc.sz
    clear hSu
    refine X_aload_n (i := 0) hB dX12_flood_53 rfl rfl ?_
    refine X_iload_n (i := 1) hB dX12_flood_54 rfl rfl ?_
    refine X_iload_n (i := 2) hB dX12_flood_55 rfl rfl ?_
    refine X_callV hB kX12_271 cw10 hR.1.1 hR.1.2 (c_asks hR hFu (uAir (reSe σ (cpT (S.1 (h + 1)) 0 4)) []) hNu hwc.air0.sz x y (by omega) (by omega)) (by decide) (by decide) rfl rfl (Nat.le_of_ble_eq_true rfl) dX12_flood_56 (fun r56 S56 q56 => ?_)
    obtain ⟨rfl, f56, n56⟩ := q56
    have hF5 := f56.ref hFu
    have hw5 : wfN (fl0 (reSe σ (cpT (S.1 (h + 1)) 0 4)) x y) (b + 1) := hwc.fl (by omega) (by omega) (by omega)
    have hn5 : nNow (fl0 (reSe σ (cpT (S.1 (h + 1)) 0 4)) x y) ≤ 900 := by
      have : geN (uAir (reSe σ (cpT (S.1 (h + 1)) 0 4)) []) (fl0 (reSe σ (cpT (S.1 (h + 1)) 0 4)) x y) := geN.as
      rw [this.2.1]; exact hnow
    have hs5 : nSe (fl0 (reSe σ (cpT (S.1 (h + 1)) 0 4)) x y) = nSe (reSe σ (cpT (S.1 (h + 1)) 0 4)) := (geN.as : geN (uAir (reSe σ (cpT (S.1 (h + 1)) 0 4)) []) (fl0 (reSe σ (cpT (S.1 (h + 1)) 0 4)) x y)).1
    refine X_iconst (v := 0) hB dX12_flood_59 (by decide) ?_
    refine X_istore hB dX12_flood_60 (by decide) rfl ?_
    refine X_lv ?_ (l_flood (S := S56) hR hF5 hB x y 2 1 (nI (nTa (reSe σ (cpT (S.1 (h + 1)) 0 4)) 2)) (by decide) (fun τ => τ = flA 20 (fl0 (reSe σ (cpT (S.1 (h + 1)) 0 4)) x y) ∧ nSe τ = nSe (reSe σ (cpT (S.1 (h + 1)) 0 4))) (fun S9 j9 σ9 b9 g1 g2 g3 g4 => ?_) 20 0 _ (fl0 (reSe σ (cpT (S.1 (h + 1)) 0 4)) x y) (b + 1) (by omega) fr.rf n56 hw5 (by omega) (by omega) (fun τ hτ => ⟨hτ, by rw [hτ, flA_se 20 hw5 (by omega) (by omega)]; exact hs5⟩))
    · rw [nI_0]; rfl
    refine X_aload_n (i := 0) hB dX12_flood_86 rfl rfl ?_
    refine X_aload_n (i := 0) hB dX12_flood_87 rfl rfl ?_
    refine X_getr hB cw10 fX12_7 rfl hR.1.1 hR.1.2 (g1.ref hF5).1 dX12_flood_88 ?_
    refine X_iload hB dX12_flood_91 rfl ?_
    refine X_ialdN hB (14 + 2) hR.2.1.1 hR.2.1.2 (by decide) (by first | rfl | (simp (disch := omega) only [nlit, nI_add, nI_mul, nI_sub]; done) | (simp (disch := omega) only [nlit, nI_add, nI_mul, nI_sub]; (congr 1 <;> omega))) (by first | omega | (simp only []; omega)) (g2.1.2.2.2.2.1 2 (by decide)) dX12_flood_93 ?_
    refine X_iload hB dX12_flood_94 rfl ?_
    refine X_isub hB dX12_flood_96 ?_
    refine X_callV hB kX12_419 cw10 hR.1.1 hR.1.2 (c_back hR (g1.ref hF5) _) (by decide) (by decide) rfl rfl (Nat.le_of_ble_eq_true rfl) dX12_flood_97 (fun r97 S97 q97 => ?_)
    obtain ⟨rfl, rfl⟩ := q97
    refine X_iret hB rfl dX12_flood_100 ?_
    refine ⟨?_, ?_, ?_⟩
    · simp only [aFlood, two_re, e11]
      rw [g4.1]; rfl
    · exact ((fz.mono (by simp) (by simp)).tr (fc.mono (by simp) (by simp))).tr (((fu.mono (by simp) (by simp)).tr ((f56.mono (by simp) (by simp)).tr (g1.mono (by simp) (by simp)))).tr (fr.row (by simp) (by omega)))
    · rw [rowI_at]; exact back_eq hNr g2 g4.2
  · first
      | (have e11 := if0 c11
         refine X_iconst (v := (-1)) hB dX12_flood_14 (by decide) ?_
         refine X_iret hB rfl dX12_flood_15 ?_
         refine ⟨?_, (⟨fz.mono (by simp) (by simp), fun i _ => by rw [fz.2.1 (h + 1) (by simp) (by omega)]⟩ : fr h [h + 1, h + 7, h + 8, h + 9, h + 10, h + 11, h + 12] [0, 20, 22] S S0 ∧ ∀ i, i < 9828 → S0.1 (h + 1) i = S.1 (h + 1) i)⟩
         simp only [aFlood, two_re, e11])
set_option maxRecDepth 100000 in
set_option maxHeartbeats 4000000 in
theorem l_quiet (hR : RLay G h) (hF : RRef S h) {E : Ev} (hB : Bd G E mX12_quiet) {Q : Option Value → St → Prop} (σ : Net) (kk : ∀ S1 v σ9, fr h [h + 1, h + 7, h + 8, h + 9, h + 10, h + 11, h + 12] [20, 22] S S1 → netR (S1.1 (h + 1)) σ9 → nSe σ9 = nSe σ → v = aQuiet σ → Q (some (.int v)) (rowI S1 (h + 1) (cpT (S1.1 (h + 1)) 4 0))) :
    ∀ (k j : Nat) (S1 : St) (σ1 : Net) (b1 : Nat), j + k = 13 → fr h [h + 1, h + 7, h + 8, h + 9, h + 10, h + 11, h + 12] [20, 22] S S1 → netR (S1.1 (h + 1)) σ1 → wfN σ1 b1 → nSe σ1 = nSe σ → nNow σ1 + k ≤ 1000 → b1 + 104 * k < 100000 → quN k j σ1 = aQuiet σ → X G E mX12_quiet 11 Q S1 13 [some (.ref h), some (.int (nI j))] [] := by
  intro k
  induction k with
  | zero =>
    intro j S1 σ1 b1 h1 hfr hN1 hw1 hse hn1 hb1 hP
    refine X_iload_n (i := 1) hB dX12_quiet_13 rfl rfl ?_
    refine X_bipush (v := 12) hB dX12_quiet_14 (by decide) ?_
    refine X_icmp_gt (tgt := 42) hB dX12_quiet_16 (by decide) (fun c16 => ?_) (fun c16 => absurd c16 (by simp (disch := omega) only [nlit, nI_leI, nI_ltI]; omega))
    refine X_aload_n (i := 0) hB dX12_quiet_42 rfl rfl ?_
    refine X_iconst (v := (-1)) hB dX12_quiet_43 (by decide) ?_
    refine X_callV hB kX12_419 cw10 hR.1.1 hR.1.2 (c_back hR (hfr.ref hF) _) (by decide) (by decide) rfl rfl (Nat.le_of_ble_eq_true rfl) dX12_quiet_44 (fun r44 S44 q44 => ?_)
    obtain ⟨rfl, rfl⟩ := q44
    refine X_iret hB rfl dX12_quiet_47 ?_
    exact kk S1 _ σ1 hfr hN1 hse hP
  | succ k ih =>
    intro j S1 σ1 b1 h1 hfr hN1 hw1 hse hn1 hb1 hP
    have hI := hw1.tick (by omega) (by omega)
    refine X_iload_n (i := 1) hB dX12_quiet_13 rfl rfl ?_
    refine X_bipush (v := 12) hB dX12_quiet_14 (by decide) ?_
    refine X_icmp_gt (tgt := 42) hB dX12_quiet_16 (by decide) (fun c16 => absurd c16 (by simp (disch := omega) only [nlit, nI_leI, nI_ltI]; omega)) (fun c16 => ?_)
    refine X_aload_n (i := 0) hB dX12_quiet_19 rfl rfl ?_
    refine X_callV hB kX12_425 cw10 hR.1.1 hR.1.2 (c_isQuiet hR (hfr.ref hF) σ1 hN1 hw1.sz (fun d hd => (hw1.da hd).1.2.2.2.1)) (by decide) (by decide) rfl rfl (Nat.le_of_ble_eq_true rfl) dX12_quiet_20 (fun r20 S20 q20 => ?_)
    obtain ⟨rfl, rfl⟩ := q20
    refine X_if_eq (tgt := 32) hB dX12_quiet_23 (by decide) (fun c23 => ?_) (fun c23 => ?_)
    · refine X_aload_n (i := 0) hB dX12_quiet_32 rfl rfl ?_
      refine X_callV hB kX12_382 cw10 hR.1.1 hR.1.2 (c_tick hR (hfr.ref hF) σ1 b1 hw1 (by omega) (by omega) hN1) (by decide) (by decide) rfl rfl (Nat.le_of_ble_eq_true rfl) dX12_quiet_33 (fun r33 S33 q33 => ?_)
      obtain ⟨rfl, f33, n33⟩ := q33
      refine X_iinc hB dX12_quiet_36 rfl rfl (by decide) rfl ?_
      refine X_goto (tgt := 13) hB dX12_quiet_39 (by decide) ?_
      refine X_lv ?_ (ih (j + 1) _ (tickN σ1) (b1 + 104) (by omega) (hfr.tr f33) n33 hI.1 (hI.2.1.trans hse) (by rw [hI.2.2.1]; omega) (by omega) (by rw [← hP]; exact (show quN (k + 1) j σ1 = _ from if_neg (if1n c23)).symm))
      · rw [nI_succ]; rfl
    · refine X_aload_n (i := 0) hB dX12_quiet_26 rfl rfl ?_
      refine X_iload_n (i := 1) hB dX12_quiet_27 rfl rfl ?_
      refine X_callV hB kX12_419 cw10 hR.1.1 hR.1.2 (c_back hR (hfr.ref hF) _) (by decide) (by decide) rfl rfl (Nat.le_of_ble_eq_true rfl) dX12_quiet_28 (fun r28 S28 q28 => ?_)
      obtain ⟨rfl, rfl⟩ := q28
      refine X_iret hB rfl dX12_quiet_31 ?_
      refine kk S1 _ σ1 hfr hN1 hse ?_
      rw [← hP]; exact (show quN (k + 1) j σ1 = _ from if_pos (if1 c23)).symm
set_option maxRecDepth 100000 in
set_option maxHeartbeats 4000000 in
theorem c_quiet (hR : RLay G h) (hF : RRef S h) (σ : Net) (b : Nat) (hw : wfN σ b) (hN : netR (S.1 (h + 1)) σ) (hnow : nNow σ ≤ 900) (hb : b + 3000 < 100000)  : C G mX12_quiet 11 [.ref h] S (fun r S' => r = some (.int (aQuiet (reSe σ (cpT (S.1 (h + 1)) 0 4)))) ∧ fr h [h + 1, h + 7, h + 8, h + 9, h + 10, h + 11, h + 12] [0, 20, 22] S S' ∧ ∀ i, i < 9828 → S'.1 (h + 1) i = S.1 (h + 1) i) := by
  have hs := hw.sz
  have hc8 := hw.1.1.2
  have ha40 := hs.1
  have hd40 := hs.2.1
  refine C.mk (lv := [some (.ref h), none]) (by decide) (Nat.le_of_ble_eq_true rfl) rfl (fun E hB => ?_)
  refine X_aload_n (i := 0) hB dX12_quiet_0 rfl rfl ?_
  refine X_iconst (v := 0) hB dX12_quiet_1 (by decide) ?_
  refine X_puti hB cw10 fX12_51 rfl rfl hR.1.1 hR.1.2 dX12_quiet_2 ?_
  generalize hS0 : setI S h 0 0 = S0
  have fz : fr h [] [0] S S0 := hS0 ▸ fr.fld (by simp)
  have hF := fz.ref hF
  have hN : netR (S0.1 (h + 1)) σ := by rw [fz.2.1 (h + 1) (by simp) (by omega)]; exact hN
  clear hS0
  refine X_aload_n (i := 0) hB dX12_quiet_5 rfl rfl ?_
  refine X_iconst (v := 0) hB dX12_quiet_6 (by decide) ?_
  refine X_iconst (v := 4) hB dX12_quiet_7 (by decide) ?_
  refine X_callV hB kX12_410 cw10 hR.1.1 hR.1.2 (c_copies hR hF 0 4 rfl rfl (by decide) (by decide) (by decide)) (by decide) (by decide) rfl rfl (Nat.le_of_ble_eq_true rfl) dX12_quiet_8 (fun r8 S8 q8 => ?_)
  obtain ⟨rfl, rfl⟩ := q8
  generalize hSc : rowI S0 (h + 1) (cpT (S0.1 (h + 1)) 0 4) = Sc
  have eA : S0.1 (h + 1) = S.1 (h + 1) := fz.2.1 (h + 1) (by simp) (by omega)
  have fc : fr h [h + 1, h + 7, h + 8, h + 9, h + 10, h + 11, h + 12] [20, 22] S0 Sc := hSc ▸ fr.row (by simp) (by omega)
  have hFc := fc.ref hF
  have hNc : netR (Sc.1 (h + 1)) (reSe σ (cpT (S.1 (h + 1)) 0 4)) := by rw [← hSc, rowI_at, eA]; exact netR_re (by rw [← eA]; exact hN) hs (fun i hi => cpT_lo (by omega))
  have hNr : netR (cpT (S.1 (h + 1)) 0 4) (reSe σ (cpT (S.1 (h + 1)) 0 4)) := by rw [← hSc, rowI_at, eA] at hNc; exact hNc
  have hwc : wfN (reSe σ (cpT (S.1 (h + 1)) 0 4)) b := wfN_re hw
  have hnc : nNow (reSe σ (cpT (S.1 (h + 1)) 0 4)) ≤ 900 := hnow
  clear hSc
  refine X_iconst (v := 0) hB dX12_quiet_11 (by decide) ?_
  refine X_istore_n (i := 1) hB dX12_quiet_12 rfl (by decide) rfl ?_
  refine X_lv ?_ (l_quiet (S := Sc) hR hFc hB (reSe σ (cpT (S.1 (h + 1)) 0 4)) (fun S9 v9 σ9 g1 g2 g3 g4 => ⟨by rw [g4], ?_, ?_⟩) 13 0 _ (reSe σ (cpT (S.1 (h + 1)) 0 4)) b (by omega) fr.rf hNc hwc rfl (by omega) (by omega) rfl)
  · rw [nI_0]; rfl
  · exact ((fz.mono (by simp) (by simp)).tr (fc.mono (by simp) (by simp))).tr ((g1.mono (by simp) (by simp)).tr (fr.row (by simp) (by omega)))
  · rw [rowI_at]; exact back_eq hNr g2 g3
end REF
