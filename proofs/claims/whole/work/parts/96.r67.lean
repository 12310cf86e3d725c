/-! the class: the first frame leaves the air; a tick -/
def pX (p : Nat → Nat) (s i : Nat) : Nat := if i = s then p 40 else if i = 40 then p s else p i
theorem pop_world {S S' : St} {w s : Nat} {p : Nat → Nat} {σ : Net} (h : worldR S w σ) (ha : arR S w σ s p) (hl : 1 ≤ (nAir σ).length) (hI : ∀ a, a ≠ w + 3 → S'.1 a = S.1 a) (hI1 : S'.1 (w + 3) 1 = nI ((s + 1) % 40)) (hI2 : S'.1 (w + 3) 2 = nI ((nAir σ).length - 1)) (hJ : S'.2.1 = S.2.1) (hR0 : S'.2.2 (w + 3) 0 = S.2.2 (w + 3) 0) (hR3 : S'.2.2 (w + 3) 3 = some (p s)) (hR4 : ∀ i, i ≠ s → S'.2.2 (w + 4) i = S.2.2 (w + 4) i) (hR5 : S'.2.2 (w + 4) s = some (p 40)) (hRo : ∀ a, a ≠ w + 3 → a ≠ w + 4 → S'.2.2 a = S.2.2 a) : worldR S' w (popA σ) ∧ chg w (w + 152) S S' ∧ fmR S' (p s) (popA σ) (hdF σ) := by
  obtain ⟨h1, h2, _, h4, h5, h6, h7, h8⟩ := h
  obtain ⟨g1, g2, g3, g4, g5, g6, g7, g8⟩ := ha
  have hlen : (nAir (popA σ)).length = (nAir σ).length - 1 := by show (nAir σ).tail.length = _; rw [List.length_tail]
  have hcP : ∀ a, w + 46 ≤ a → S'.1 a = S.1 a ∧ S'.2.1 a = S.2.1 a ∧ S'.2.2 a = S.2.2 a := fun a h => ⟨hI a (by omega), by rw [hJ], hRo a (by omega) (by omega)⟩
  have hch : chg (w + 3) (w + 46) S S' := fun a h => by
    rcases h with h | h
    · exact ⟨hI a (by omega), by rw [hJ], hRo a (by omega) (by omega)⟩
    · exact hcP a h
  have q40 := g6 40 (by omega)
  have qs := g6 s (by omega)
  refine ⟨⟨?_, hdC_same (σ := popA σ) h2 ⟨hI w (by omega), by rw [hJ]⟩ (hI _ (by omega)) (hI _ (by omega)), ⟨(s + 1) % 40, pX p s, by omega, hI1, by rw [hI2, hlen], ?_, fun i hi => ?_, fun i hi => ?_, fun i j hi hj e => ?_, fun k hk => ?_⟩, fun n hn => (h4 n hn).chg hch (by unfold pA; omega), fun k hk => daC_same (h5 k hk) (hcP (dA w k) (by unfold dA; omega)).1 (hcP (dA w k) (by unfold dA; omega)).2.1, h6, by rw [hlen]; omega, h8⟩, hch.mono (by omega) (by omega), ?_⟩
  · obtain ⟨e1, e2, e3, e4, e5, e6, e7, e8⟩ := h1
    exact ⟨by rw [hRo _ (by omega) (by omega)]; exact e1, by rw [hRo _ (by omega) (by omega)]; exact e2, by rw [hRo _ (by omega) (by omega)]; exact e3, by rw [hRo _ (by omega) (by omega)]; exact e4, by rw [hRo _ (by omega) (by omega)]; exact e5, by rw [hR0]; exact e6, fun n hn => by rw [hRo _ (by omega) (by omega)]; exact e7 n hn, fun k hk => ⟨by rw [hRo _ (by omega) (by omega)]; exact (e8 k hk).1, by rw [hI _ (by unfold dA; omega)]; exact (e8 k hk).2⟩⟩
  · rw [hR3]; unfold pX; rw [if_neg (by omega), if_pos rfl]
  · unfold pX
    by_cases e : i = s
    · rw [if_pos e, e]; exact hR5
    · rw [if_neg e, if_neg (by omega), hR4 i e]; exact g5 i hi
  · unfold pX
    by_cases e : i = s
    · rw [if_pos e]; exact q40
    · rw [if_neg e]
      by_cases e2 : i = 40
      · rw [if_pos e2]; exact qs
      · rw [if_neg e2]; exact g6 i hi
  · unfold pX at e
    by_cases c1 : i = s <;> by_cases c2 : j = s
    · omega
    · rw [if_pos c1, if_neg c2] at e
      by_cases c3 : j = 40
      · rw [if_pos c3] at e; have := g7 _ _ (by omega) (by omega) e; omega
      · rw [if_neg c3] at e; have := g7 _ _ (by omega) (by omega) e; omega
    · rw [if_neg c1, if_pos c2] at e
      by_cases c3 : i = 40
      · rw [if_pos c3] at e; have := g7 _ _ (by omega) (by omega) e; omega
      · rw [if_neg c3] at e; have := g7 _ _ (by omega) (by omega) e; omega
    · rw [if_neg c1, if_neg c2] at e
      by_cases c3 : i = 40 <;> by_cases c4 : j = 40
      · omega
      · rw [if_pos c3, if_neg c4] at e; have := g7 _ _ (by omega) (by omega) e; omega
      · rw [if_neg c3, if_pos c4] at e; have := g7 _ _ (by omega) (by omega) e; omega
      · rw [if_neg c3, if_neg c4] at e; exact g7 _ _ hi hj e
  · rw [hlen] at hk
    have e1 : pX p s (((s + 1) % 40 + k) % 40) = p ((s + (k + 1)) % 40) := by
      unfold pX
      rw [if_neg (by omega), if_neg (by omega)]
      congr 1
      omega
    have e2 : (nAir (popA σ)).getD k f0 = (nAir σ).getD (k + 1) f0 := by
      show (nAir σ).tail.getD k f0 = _
      cases nAir σ with
      | nil => rfl
      | cons a t => rfl
    rw [e1, e2]
    have q := g6 ((s + (k + 1)) % 40) (by omega)
    exact fmR_net (fmR_same (g8 (k + 1) (by omega)) (hI _ (by omega)) (by rw [hJ])) (fun _ => rfl)
  · have := g8 0 (by omega)
    rw [Nat.add_zero, Nat.mod_eq_of_lt g1] at this
    exact fmR_net (fmR_same this (hI _ (by omega)) (by rw [hJ])) (fun _ => rfl)
theorem now_world {S : St} {w : Nat} {σ : Net} (h : worldR S w σ) : worldR (setI S w 6 (nI (nNow σ + 1))) w (uNow σ) ∧ wch w S (setI S w 6 (nI (nNow σ + 1))) := by
  obtain ⟨h1, h2, ⟨s, p, h3⟩, h4, h5, h6, h7, h8⟩ := h
  have hc : chg w (w + 1) S (setI S w 6 (nI (nNow σ + 1))) := chg.setI (Nat.le_refl _) (by omega)
  have hc0 : ∀ a, a ≠ w → (setI S w 6 (nI (nNow σ + 1))).1 a = S.1 a := fun a ha => setI_row _ _ _ ha
  refine ⟨⟨wdF_same h1 (fun a q1 q2 => rfl) (fun q hq => by rw [hc0 _ (by unfold dA; omega)]), ⟨fun j hj => by rw [hc0 _ (by omega)]; exact h2.1 j hj, fun j hj => by rw [hc0 _ (by omega)]; exact h2.2.1 j hj, by rw [setI_ne _ _ (Or.inr (by decide))]; exact h2.2.2.1, setI_at _ _ _ _, h2.2.2.2.2⟩, ⟨s, p, ?_⟩, fun m hm => (h4 m hm).chg hc (by unfold pA; omega), fun q hq => daC_same (h5 q hq) (hc0 _ (by unfold dA; omega)) rfl, h6, h7, h8⟩, hc.mono (by omega) (by omega), rfl, fun a ha => ?_⟩
  · have := arR_same (S' := setI S w 6 (nI (nNow σ + 1))) h3 (hc0 _ (by omega)) rfl rfl (fun a q1 q2 => ⟨hc0 a (by omega), rfl⟩)
    exact this
  · rw [h3.2.2.2.1] at ha
    have ha := Option.some.inj ha
    have q := h3.2.2.2.2.2.1 40 (by omega)
    exact ⟨hc0 a (by omega), rfl⟩
theorem wfN.pop0 {σ : Net} {b : Nat} (h : wfN σ b) (hne : 1 ≤ (nAir σ).length) (hk : fKi (hdF σ) = 0) : wfO (popA σ) b (fAb (hdF σ)) := by
  have hm : hdF σ ∈ nAir σ := getD_mem (by omega)
  obtain ⟨⟨f1, f2, f3, f4⟩, k0, k1, k2, k3⟩ := h.2.2.2.1 _ hm
  obtain ⟨g1, g2, g3, g4⟩ := k0 hk
  refine h.pop.op (o := fAb (hdF σ)) (fun f hf hfk e => ?_) (fun n hn hd => ?_)
  · have h6 := h.2.2.2.2.2.1
    have hc : nAir σ = hdF σ :: (nAir σ).tail := by
      unfold hdF
      cases hA : nAir σ with
      | nil => rw [hA] at hne; simp at hne
      | cons a t => rfl
    rw [hc, List.filter_cons_of_pos (by simpa using hk), List.map_cons, List.nodup_cons] at h6
    exact h6.1 (e ▸ List.mem_map.mpr ⟨f, List.mem_filter.mpr ⟨hf, by simpa using hfk⟩, rfl⟩)
  · have := (h.2.2.2.2.2.2.2.1 n hn _ hd).2.1
    omega
theorem node_cv {σ : Net} {n : Nat} (h : cvN σ) (hn : nSe σ 0 ≤ n) (hn8 : n < 8) : nodeStep n σ = σ := by
  obtain ⟨q1, q2, q3⟩ := h.2.1 n hn hn8
  unfold nodeStep drainN
  rw [q2]
  show askOnN σ n = σ
  unfold askOnN
  exact iterN_ind (P := fun _ τ => τ = σ) (nSe σ 0) rfl (fun z τ _ q => by rw [q]; exact askStep_0 (q3 z))
section CLS
variable {G : Gc} {S : St}
set_option maxRecDepth 100000 in
set_option maxHeartbeats 4000000 in
theorem c_X0_take (w : Nat) (hW : WLay G w) (σ : Net) (hw : worldR S w σ) (s : Nat) (p : Nat → Nat) (ha : arR S w σ s p) (hl : 1 ≤ (nAir σ).length) : C G mX0_take 0 [.ref (w + 3)] S (fun r S' => r = some (.ref (p s)) ∧ S'.2.2 (w + 3) 3 = some (p s) ∧ worldR S' w (popA σ) ∧ chg w (w + 152) S S' ∧ fmR S' (p s) (popA σ) (hdF σ)) := by
  have h40 := hw.2.2.2.2.2.2.1
  have hs := ha.1
  have hq := ha.2.2.2.2.2.1 40 (by omega)
  have hf40 := hW.2.2.2.2.2.1 _ hq.1 hq.2
  refine C.mk (lv := [some (.ref (w + 3)), none]) (by decide) (Nat.le_of_ble_eq_true rfl) rfl (fun E hB => ?_)
  refine X_aload_n (i := 0) hB dX0_take_0 rfl rfl ?_
  refine X_getr hB cw0 fX0_11 rfl hW.2.2.2.1.1 hW.2.2.2.1.2 hw.1.2.2.2.2.2.1 dX0_take_1 ?_
  refine X_aload_n (i := 0) hB dX0_take_4 rfl rfl ?_
  refine X_geti hB cw0 fX0_24 rfl hW.2.2.2.1.1 hW.2.2.2.1.2 dX0_take_5 ?_
  refine X_topi (y := nI s) (ha.2.1) ?_
  refine X_aaldN hB (s) hW.2.2.2.2.1.1 hW.2.2.2.2.1.2 (by decide) rfl (by decide) rfl (by omega) (ha.2.2.2.2.1 _ hs) dX0_take_8 ?_
  refine X_astore_n (i := 1) hB dX0_take_9 rfl (by decide) rfl ?_
  refine X_aload_n (i := 0) hB dX0_take_10 rfl rfl ?_
  refine X_getr hB cw0 fX0_11 rfl hW.2.2.2.1.1 hW.2.2.2.1.2 hw.1.2.2.2.2.2.1 dX0_take_11 ?_
  refine X_aload_n (i := 0) hB dX0_take_14 rfl rfl ?_
  refine X_geti hB cw0 fX0_24 rfl hW.2.2.2.1.1 hW.2.2.2.1.2 dX0_take_15 ?_
  refine X_topi (y := nI s) (ha.2.1) ?_
  refine X_aload_n (i := 0) hB dX0_take_18 rfl rfl ?_
  refine X_getr hB cw0 fX0_16 rfl hW.2.2.2.1.1 hW.2.2.2.1.2 ha.2.2.2.1 dX0_take_19 ?_
  refine X_aast hB cw3 hW.2.2.2.2.1.1 hW.2.2.2.2.1.2 (by decide) rfl hf40.1 hf40.2 (vp_in_nI hs (by decide)) dX0_take_22 ?_
  refine X_aload_n (i := 0) hB dX0_take_23 rfl rfl ?_
  refine X_aload_n (i := 1) hB dX0_take_24 rfl rfl ?_
  refine X_putr hB cw0 fX0_16 rfl rfl hW.2.2.2.1.1 hW.2.2.2.1.2 dX0_take_25 ?_
  refine X_aload_n (i := 0) hB dX0_take_28 rfl rfl ?_
  refine X_aload_n (i := 0) hB dX0_take_29 rfl rfl ?_
  refine X_geti hB cw0 fX0_24 rfl hW.2.2.2.1.1 hW.2.2.2.1.2 dX0_take_30 ?_
  refine X_topi (y := nI s) (ha.2.1) ?_
  refine X_iconst (v := 1) hB dX0_take_33 (by decide) ?_
  refine X_iadd hB dX0_take_34 ?_
  refine X_topi (y := nI (s + 1)) (by first | rfl | (simp (disch := omega) only [nlit, nI_add, nI_mul, nI_sub]; done) | (simp (disch := omega) only [nlit, nI_add, nI_mul, nI_sub]; (congr 1 <;> omega))) ?_
  refine X_bipush (v := 40) hB dX0_take_35 (by decide) ?_
  refine X_irem hB dX0_take_37 (by decide) ?_
  refine X_topi (y := nI ((s + 1) % 40)) (rem40 (by omega)) ?_
  refine X_puti hB cw0 fX0_24 rfl rfl hW.2.2.2.1.1 hW.2.2.2.1.2 dX0_take_38 ?_
  refine X_aload_n (i := 0) hB dX0_take_41 rfl rfl ?_
  refine X_dup hB dX0_take_42 rfl ?_
  refine X_geti hB cw0 fX0_20 rfl hW.2.2.2.1.1 hW.2.2.2.1.2 dX0_take_43 ?_
  refine X_topi (y := nI (nAir σ).length) (by rw [setI_ne _ _ (Or.inr (by decide))]; exact ha.2.2.1) ?_
  refine X_iconst (v := 1) hB dX0_take_46 (by decide) ?_
  refine X_isub hB dX0_take_47 ?_
  refine X_topi (y := nI ((nAir σ).length - 1)) (by first | rfl | (simp (disch := omega) only [nlit, nI_add, nI_mul, nI_sub]; done) | (simp (disch := omega) only [nlit, nI_add, nI_mul, nI_sub]; (congr 1 <;> omega))) ?_
  refine X_puti hB cw0 fX0_20 rfl rfl hW.2.2.2.1.1 hW.2.2.2.1.2 dX0_take_48 ?_
  refine X_aload_n (i := 1) hB dX0_take_51 rfl rfl ?_
  refine X_aret (v := some (p s)) hB rfl dX0_take_52 ?_
  refine ⟨rfl, ?_, pop_world hw ha hl (fun a h => ?_) ?_ ?_ rfl ?_ ?_ (fun i hi => ?_) ?_ (fun a h1 h2 => ?_)⟩
  · exact setR_at _ _ _ _
  · rw [setI_row _ _ _ h, setI_row _ _ _ h]; rfl
  · rw [setI_ne _ _ (Or.inr (by decide)), setI_at]
  · rw [setI_at]
  · show (setR (setR S (w + 4) (nI s).toNatClampNeg (some (p 40))) (w + 3) 3 (some (p s))).2.2 (w + 3) 0 = _
    rw [setR_ne _ _ (Or.inr (by decide)), setR_ne _ _ (Or.inl (by omega))]
  · exact setR_at _ _ _ _
  · show (setR (setR S (w + 4) (nI s).toNatClampNeg (some (p 40))) (w + 3) 3 (some (p s))).2.2 (w + 4) i = _
    rw [nI_clamp (by omega), setR_ne _ _ (Or.inl (by omega)), setR_ne _ _ (Or.inr hi)]
  · show (setR (setR S (w + 4) (nI s).toNatClampNeg (some (p 40))) (w + 3) 3 (some (p s))).2.2 (w + 4) s = _
    rw [nI_clamp (by omega), setR_ne _ _ (Or.inl (by omega)), setR_at]
  · show (setR (setR S (w + 4) (nI s).toNatClampNeg (some (p 40))) (w + 3) 3 (some (p s))).2.2 a = _
    rw [show (setR (setR S (w + 4) (nI s).toNatClampNeg (some (p 40))) (w + 3) 3 (some (p s))).2.2 a = (setR S (w + 4) (nI s).toNatClampNeg (some (p 40))).2.2 a from ups_row_ne _ _ _ h1]
    exact ups_row_ne _ _ _ h2
set_option maxRecDepth 100000 in
set_option maxHeartbeats 4000000 in
theorem l_X10_tick {E : Ev} (hB : Bd G E mX10_tick) {Q : Option Value → St → Prop} (w : Nat) (hW : WLay G w) (σ : Net) (b : Nat) (al : Bool) (hN : wfN σ b) (hnw : nNow σ < 1000) (hb : b + 104 < 100000) (kk : ∀ S1, chg w (w + 152) S S1 → worldR S1 w (arrAll σ) → X G E mX10_tick 6 Q S1 134 [some (.ref w), some (.int (if al then 1 else 0)), none, some (.int (nI (nAir σ).length)), none] []) :
    ∀ (j k : Nat) (S1 : St), k + j = (nAir σ).length → chg w (w + 152) S S1 → worldR S1 w (iterN (fun _ τ => arrive τ) k (uNow σ)) → X G E mX10_tick 6 Q S1 20 [some (.ref w), some (.int (if al then 1 else 0)), some (.int (nI (nAir σ).length)), some (.int (nI k)), none] [] := by
  have h40 := hN.2.1.1
  intro j
  induction j with
  | zero =>
    intro k S1 h1 h2 h3
    have e9 : k = (nAir σ).length := by omega
    subst e9
    refine X_iload_n (i := 3) hB dX10_tick_20 rfl rfl ?_
    refine X_iload_n (i := 2) hB dX10_tick_21 rfl rfl ?_
    refine X_icmp_ge (tgt := 134) hB dX10_tick_22 (by decide) (fun c22 => ?_) (fun c22 => absurd c22 (by simp (disch := omega) only [nlit, nI_leI, nI_ltI]; omega))
    refine X_dl [some (.ref w), some (.int (if al then 1 else 0)), none, some (.int (nI (nAir σ).length)), none] ⟨rfl, rfl, rfl, trivial⟩ (kk S1 h2 h3)
  | succ j ih =>
    intro k S1 h1 h2 h3
    have hk40 : k < 40 := by omega
    obtain ⟨hA1, hA2, hA3, hA4, hA5, hA6⟩ := aaN.all hN hnw (by omega) k (by omega)
    obtain ⟨s, p, ha⟩ := h3.2.2.1
    have hs := ha.1
    have hq := ha.2.2.2.2.2.1 s (by omega)
    have hfk := hW.2.2.2.2.2.1 _ hq.1 hq.2
    have hlt : 1 ≤ (nAir (iterN (fun _ τ => arrive τ) k (uNow σ))).length := by omega
    have hst : (iterN (fun _ τ => arrive τ) (k + 1) (uNow σ)) = arrive (iterN (fun _ τ => arrive τ) k (uNow σ)) := rfl
    generalize (iterN (fun _ τ => arrive τ) k (uNow σ)) = τ at h3 ha hA1 hA2 hA3 hA4 hA5 hA6 hlt hst
    have hm : hdF τ ∈ nAir τ := getD_mem (by omega)
    obtain ⟨⟨f1, f2, f3, f4⟩, k0, k1, k2, k3⟩ := hA1.2.2.2.1 _ hm
    have hp := hA1.pop
    have hup := hA1.2.2.2.2.2.2.1.sym
    refine X_iload_n (i := 3) hB dX10_tick_20 rfl rfl ?_
    refine X_iload_n (i := 2) hB dX10_tick_21 rfl rfl ?_
    refine X_icmp_ge (tgt := 134) hB dX10_tick_22 (by decide) (fun c22 => absurd c22 (by simp (disch := omega) only [nlit, nI_leI, nI_ltI]; omega)) (fun c22 => ?_)
    refine X_iload_n (i := 3) hB dX10_tick_25 rfl rfl ?_
    refine X_bipush (v := 40) hB dX10_tick_26 (by decide) ?_
    refine X_icmp_ge (tgt := 134) hB dX10_tick_28 (by decide) (fun c28 => absurd c28 (by simp (disch := omega) only [nlit, nI_leI, nI_ltI]; omega)) (fun c28 => ?_)
    refine X_aload_n (i := 0) hB dX10_tick_31 rfl rfl ?_
    refine X_getr hB cw8 fX10_21 rfl hW.1.1 hW.1.2 h3.1.2.2.1 dX10_tick_32 ?_
    refine X_callV hB kX10_203 cw0 hW.2.2.2.1.1 hW.2.2.2.1.2 (c_X0_take w hW τ h3 s p ha hlt) (by decide) (by decide) rfl rfl (Nat.le_of_ble_eq_true rfl) dX10_tick_35 (fun r35 S35 q35 => ?_)
    obtain ⟨rfl, hR3, w4, g3, hfm⟩ := q35
    refine X_astore hB dX10_tick_38 (by decide) rfl ?_
    have hkc : fKi (hdF τ) = 0 ∨ fKi (hdF τ) = 1 ∨ fKi (hdF τ) = 2 ∨ fKi (hdF τ) = 3 := by omega
    rcases hkc with hk | hk | hk | hk
    · obtain ⟨g1, g2, g5, hx⟩ := k0 hk
      generalize hdd : fAb (hdF τ) = d at g1 g2 hx
      have hO : wfO (popA τ) (b + k) d := hdd ▸ hA1.pop0 hlt hk
      have hdk := hA1.da g1
      obtain ⟨y, re, hre, hy8, hyT, hTn, hT8, hnd, hR8, hRn, hRe, hwm, hI⟩ := da_in hO g1 hdk g2
      have hyy : (aRe (dat τ d)).getD 1 0 = y := by rw [show aRe (dat τ d) = _ from hre]; rfl
      have hy8 : (aRe (dat τ d)).getD 1 0 < 8 := by rw [hyy]; exact hy8
      have hyT : (aRe (dat τ d)).getD 1 0 ∉ aTr (dat τ d) := by rw [hyy]; exact hyT
      have hye : trL (dat τ d) ≠ aEn (dat τ d) := fun q => by
        have hd : trL (dat τ d) ∈ aTr (dat τ d) := getD_mem (by have := hdk.b.2.1; omega)
        have he : aEn (dat τ d) ∈ y :: re := by
          have : (y :: re).getD re.length 0 ∈ y :: re := getD_mem (by simp)
          rw [hRe] at this
          exact this
        have hnd : (aTr (dat τ d) ++ [y] ++ re).Nodup := hnd
        rw [List.append_assoc, List.nodup_append] at hnd
        exact hnd.2.2 _ hd _ he q
      have hwy : S35.1 (p s) 2 = nI ((aRe (dat τ d)).getD 1 0) := by rw [hfm.2.2.1]; unfold whom; rw [if_pos hk, hdd]; rfl
      have hfm0 : fmR S35 (p s) (popA τ) (0, trL (dat (popA τ) d), d, 0, none, []) := by
        obtain ⟨q0, q1, q2, q3, q4, q5, q6⟩ := hfm
        refine ⟨by rw [q0, hk], by rw [q1, hx]; rfl, ?_, ?_, ?_, ?_, ?_⟩
        · rw [q2]; unfold whom; rw [if_pos hk, hdd]; rfl
        · rw [q3]; unfold whatF; rw [if_neg (by omega), if_neg (by omega), hdd]; rfl
        · rw [q4, if_neg (by omega)]; rfl
        · rw [q5, if_neg (by omega)]; rfl
        · rw [q6]; unfold frL; rw [if_pos hk, hdd]; rfl
      refine X_aload hB dX10_tick_40 rfl ?_
      refine X_geti hB cw3 fX10_207 rfl hfk.1 hfk.2 dX10_tick_42 ?_
      refine X_topi (y := nI 0) (by rw [hfm.1, hk]) ?_
      refine X_iconst (v := 1) hB dX10_tick_45 (by decide) ?_
      refine X_icmp_ne (tgt := 58) hB dX10_tick_46 (by decide) (fun c46 => ?_) (fun c46 => absurd c46 (by decide))
      refine X_aload_n (i := 0) hB dX10_tick_58 rfl rfl ?_
      refine X_getj hB cw8 fX10_64 rfl hW.1.1 hW.1.2 dX10_tick_59 ?_
      refine X_aload hB dX10_tick_62 rfl ?_
      refine X_geti hB cw3 fX10_216 rfl hfk.1 hfk.2 dX10_tick_64 ?_
      refine X_topi (y := nI (trL (dat τ d))) (hfm.2.1.trans (by rw [hx])) ?_
      refine X_aload hB dX10_tick_67 rfl ?_
      refine X_geti hB cw3 fX10_219 rfl hfk.1 hfk.2 dX10_tick_69 ?_
      refine X_topi (y := nI ((aRe (dat τ d)).getD 1 0)) (hwy) ?_
      refine X_callS hB kX10_222 (c_X4_hold (v := S35.2.1 w 7) w4.2.1.2.2.2.2 (by rw [← hx]; exact f2) hy8 (hup _ _)) (by decide) (by decide) rfl rfl (Nat.le_of_ble_eq_true rfl) dX10_tick_72 (fun r72 S72 q72 => ?_)
      obtain ⟨rfl, rfl⟩ := q72
      refine X_if_ne (tgt := 87) hB dX10_tick_75 (by decide) (fun c75 => ?_) (fun c75 => ?_)
      · have e75 : nUp (popA τ) (trL (dat τ d)) ((aRe (dat (popA τ) d)).getD 1 0) = true := if1 c75
        refine X_aload hB dX10_tick_87 rfl ?_
        refine X_geti hB cw3 fX10_207 rfl hfk.1 hfk.2 dX10_tick_89 ?_
        refine X_topi (y := nI 0) (by rw [hfm.1, hk]) ?_
        refine X_if_ne (tgt := 104) hB dX10_tick_92 (by decide) (fun c92 => absurd (show nI 0 = 0 from rfl) c92) (fun c92 => ?_)
        refine X_aload_n (i := 0) hB dX10_tick_95 rfl rfl ?_
        refine X_aload hB dX10_tick_96 rfl ?_
        refine X_callV hB kX10_229 cw8 hW.1.1 hW.1.2 (c_X10_dataArrives w hW (popA τ) w4 (b + k) d (p s) hO g1 hdk g2 e75 hR3 hq hfm0) (by decide) (by decide) rfl rfl (Nat.le_of_ble_eq_true rfl) dX10_tick_98 (fun r98 S98 q98 => ?_)
        obtain ⟨rfl, y1, y2⟩ := q98
        have y1 : worldR S98 w (arrive τ) := by
          unfold arrive
          rw [if_pos hk, hx, hdd]
          exact y1
        refine X_goto (tgt := 128) hB dX10_tick_101 (by decide) ?_
        refine X_iinc hB dX10_tick_128 rfl rfl (by decide) rfl ?_
        refine X_goto (tgt := 20) hB dX10_tick_131 (by decide) ?_
        refine X_dl [some (.ref w), some (.int (if al then 1 else 0)), some (.int (nI (nAir σ).length)), some (.int (nI (k + 1))), none] ⟨rfl, rfl, rfl, by rw [nI_succ]; rfl, trivial⟩ (ih (k + 1) S98 (by omega) (h2.tr (g3.tr y2.1)) (by rw [hst]; exact y1))
      · have e75 : ¬ nUp (popA τ) (trL (dat τ d)) ((aRe (dat (popA τ) d)).getD 1 0) = true := if1n c75
        refine X_aload_n (i := 0) hB dX10_tick_78 rfl rfl ?_
        refine X_aload hB dX10_tick_79 rfl ?_
        refine X_callV hB kX10_226 cw8 hW.1.1 hW.1.2 (c_X10_meetDown w hW (popA τ) w4 (b + k) d (p s) ((aRe (dat τ d)).getD 1 0) hO g1 hdk g2 hy8 hyT hye hR3 hq (by rw [hfm.1, hk]; rfl) (by rw [hfm.2.1, hx]; rfl) hwy (by rw [hfm.2.2.2.1]; unfold whatF; rw [if_neg (by omega), if_neg (by omega), hdd])) (by decide) (by decide) rfl rfl (Nat.le_of_ble_eq_true rfl) dX10_tick_81 (fun r81 S81 q81 => ?_)
        obtain ⟨rfl, y1, y2⟩ := q81
        have y1 : worldR S81 w (arrive τ) := by
          unfold arrive
          rw [if_pos hk, hx, hdd]
          unfold arrData
          rw [if_neg e75]
          exact y1
        refine X_goto (tgt := 128) hB dX10_tick_84 (by decide) ?_
        refine X_iinc hB dX10_tick_128 rfl rfl (by decide) rfl ?_
        refine X_goto (tgt := 20) hB dX10_tick_131 (by decide) ?_
        refine X_dl [some (.ref w), some (.int (if al then 1 else 0)), some (.int (nI (nAir σ).length)), some (.int (nI (k + 1))), none] ⟨rfl, rfl, rfl, by rw [nI_succ]; rfl, trivial⟩ (ih (k + 1) S81 (by omega) (h2.tr (g3.tr y2.1)) (by rw [hst]; exact y1))
    · obtain ⟨g10, g15, g12, g13, g14⟩ := k1 hk
      have g11 : 1 ≤ (fRo (hdF τ)).length := by
        cases hr : fRo (hdF τ) with
        | nil => exact absurd hr g10
        | cons a t => simp
      refine X_aload hB dX10_tick_40 rfl ?_
      refine X_geti hB cw3 fX10_207 rfl hfk.1 hfk.2 dX10_tick_42 ?_
      refine X_topi (y := nI 1) (by rw [hfm.1, hk]) ?_
      refine X_iconst (v := 1) hB dX10_tick_45 (by decide) ?_
      refine X_icmp_ne (tgt := 58) hB dX10_tick_46 (by decide) (fun c46 => absurd (show nI 1 = 1 from rfl) c46) (fun c46 => ?_)
      refine X_aload_n (i := 0) hB dX10_tick_49 rfl rfl ?_
      refine X_aload hB dX10_tick_50 rfl ?_
      refine X_callV hB kX10_212 cw8 hW.1.1 hW.1.2 (c_X10_requestArrives w hW (popA τ) w4 (b + k) 40 (p s) (hdF τ) hp.o f2 f3 f4 g11 g12 g13 g14 hR3 hq hfm hk) (by decide) (by decide) rfl rfl (Nat.le_of_ble_eq_true rfl) dX10_tick_52 (fun r52 S52 q52 => ?_)
      obtain ⟨rfl, y1, y2⟩ := q52
      have y1 : worldR S52 w (arrive τ) := by unfold arrive; rw [if_neg (by omega), if_pos hk]; exact y1
      refine X_goto (tgt := 128) hB dX10_tick_55 (by decide) ?_
      refine X_iinc hB dX10_tick_128 rfl rfl (by decide) rfl ?_
      refine X_goto (tgt := 20) hB dX10_tick_131 (by decide) ?_
      refine X_dl [some (.ref w), some (.int (if al then 1 else 0)), some (.int (nI (nAir σ).length)), some (.int (nI (k + 1))), none] ⟨rfl, rfl, rfl, by rw [nI_succ]; rfl, trivial⟩ (ih (k + 1) S52 (by omega) (h2.tr (g3.tr y2.1)) (by rw [hst]; exact y1))
    · have hai := List.idxOf_lt_length_of_mem (k2 hk).1
      have hat1 : 1 ≤ (fRo (hdF τ)).idxOf (fFr (hdF τ)) := Nat.pos_of_ne_zero (fun q => (k2 hk).2 (by
        have := List.getElem_idxOf hai
        rw [getD_lt (by omega)]
        simpa [q] using this))
      have hy8 : rpY (hdF τ) < 8 := f4 _ (getD_mem (by omega))
      have hxy : fFr (hdF τ) ≠ rpY (hdF τ) := fun q => by
        have e1 := List.getElem_idxOf hai
        unfold rpY at q
        rw [getD_lt (show (fRo (hdF τ)).idxOf (fFr (hdF τ)) - 1 < (fRo (hdF τ)).length by omega)] at q
        have := List.pairwise_iff_getElem.mp f3 ((fRo (hdF τ)).idxOf (fFr (hdF τ)) - 1) ((fRo (hdF τ)).idxOf (fFr (hdF τ))) (by omega) hai (by omega)
        exact this (q.symm.trans e1.symm)
      have hwy : S35.1 (p s) 2 = nI (rpY (hdF τ)) := by rw [hfm.2.2.1]; unfold whom; rw [if_neg (by omega), if_neg (by omega), if_pos hk]; rfl
      refine X_aload hB dX10_tick_40 rfl ?_
      refine X_geti hB cw3 fX10_207 rfl hfk.1 hfk.2 dX10_tick_42 ?_
      refine X_topi (y := nI 2) (by rw [hfm.1, hk]) ?_
      refine X_iconst (v := 1) hB dX10_tick_45 (by decide) ?_
      refine X_icmp_ne (tgt := 58) hB dX10_tick_46 (by decide) (fun c46 => ?_) (fun c46 => absurd c46 (by decide))
      refine X_aload_n (i := 0) hB dX10_tick_58 rfl rfl ?_
      refine X_getj hB cw8 fX10_64 rfl hW.1.1 hW.1.2 dX10_tick_59 ?_
      refine X_aload hB dX10_tick_62 rfl ?_
      refine X_geti hB cw3 fX10_216 rfl hfk.1 hfk.2 dX10_tick_64 ?_
      refine X_topi (y := nI (fFr (hdF τ))) (hfm.2.1) ?_
      refine X_aload hB dX10_tick_67 rfl ?_
      refine X_geti hB cw3 fX10_219 rfl hfk.1 hfk.2 dX10_tick_69 ?_
      refine X_topi (y := nI (rpY (hdF τ))) (hwy) ?_
      refine X_callS hB kX10_222 (c_X4_hold (v := S35.2.1 w 7) w4.2.1.2.2.2.2 f2 hy8 (hup _ _)) (by decide) (by decide) rfl rfl (Nat.le_of_ble_eq_true rfl) dX10_tick_72 (fun r72 S72 q72 => ?_)
      obtain ⟨rfl, rfl⟩ := q72
      refine X_if_ne (tgt := 87) hB dX10_tick_75 (by decide) (fun c75 => ?_) (fun c75 => ?_)
      · have e75 : nUp (popA τ) (fFr (hdF τ)) (rpY (hdF τ)) = true := if1 c75
        refine X_aload hB dX10_tick_87 rfl ?_
        refine X_geti hB cw3 fX10_207 rfl hfk.1 hfk.2 dX10_tick_89 ?_
        refine X_topi (y := nI 2) (by rw [hfm.1, hk]) ?_
        refine X_if_ne (tgt := 104) hB dX10_tick_92 (by decide) (fun c92 => ?_) (fun c92 => absurd c92 (by decide))
        refine X_aload hB dX10_tick_104 rfl ?_
        refine X_geti hB cw3 fX10_207 rfl hfk.1 hfk.2 dX10_tick_106 ?_
        refine X_topi (y := nI 2) (by rw [hfm.1, hk]) ?_
        refine X_iconst (v := 2) hB dX10_tick_109 (by decide) ?_
        refine X_icmp_ne (tgt := 122) hB dX10_tick_110 (by decide) (fun c110 => absurd (show nI 2 = 2 from rfl) c110) (fun c110 => ?_)
        refine X_aload_n (i := 0) hB dX10_tick_113 rfl rfl ?_
        refine X_aload hB dX10_tick_114 rfl ?_
        refine X_callV hB kX10_232 cw8 hW.1.1 hW.1.2 (c_X10_replyArrives w hW (popA τ) w4 (b + k) 40 (p s) (hdF τ) hp.o f2 f3 f4 (k2 hk).1 (k2 hk).2 e75 hR3 hq hfm hk) (by decide) (by decide) rfl rfl (Nat.le_of_ble_eq_true rfl) dX10_tick_116 (fun r116 S116 q116 => ?_)
        obtain ⟨rfl, y1, y2⟩ := q116
        have y1 : worldR S116 w (arrive τ) := by
          unfold arrive
          rw [if_neg (by omega), if_neg (by omega), if_pos hk]
          exact y1
        refine X_goto (tgt := 128) hB dX10_tick_119 (by decide) ?_
        refine X_iinc hB dX10_tick_128 rfl rfl (by decide) rfl ?_
        refine X_goto (tgt := 20) hB dX10_tick_131 (by decide) ?_
        refine X_dl [some (.ref w), some (.int (if al then 1 else 0)), some (.int (nI (nAir σ).length)), some (.int (nI (k + 1))), none] ⟨rfl, rfl, rfl, by rw [nI_succ]; rfl, trivial⟩ (ih (k + 1) S116 (by omega) (h2.tr (g3.tr y2.1)) (by rw [hst]; exact y1))
      · have e75 : ¬ nUp (popA τ) (fFr (hdF τ)) (rpY (hdF τ)) = true := if1n c75
        refine X_aload_n (i := 0) hB dX10_tick_78 rfl rfl ?_
        refine X_aload hB dX10_tick_79 rfl ?_
        refine X_callV hB kX10_226 cw8 hW.1.1 hW.1.2 (c_X10_meetDownO w hW (popA τ) w4 (p s) (fFr (hdF τ)) (rpY (hdF τ)) 2 f2 hy8 hxy (Or.inl rfl) hR3 hq (by rw [hfm.1, hk]) hfm.2.1 hwy) (by decide) (by decide) rfl rfl (Nat.le_of_ble_eq_true rfl) dX10_tick_81 (fun r81 S81 q81 => ?_)
        obtain ⟨rfl, y1, y2⟩ := q81
        have y1 : worldR S81 w (arrive τ) := by
          unfold arrive
          rw [if_neg (by omega), if_neg (by omega), if_pos hk]
          unfold arrRep
          rw [if_neg e75]
          exact y1
        refine X_goto (tgt := 128) hB dX10_tick_84 (by decide) ?_
        refine X_iinc hB dX10_tick_128 rfl rfl (by decide) rfl ?_
        refine X_goto (tgt := 20) hB dX10_tick_131 (by decide) ?_
        refine X_dl [some (.ref w), some (.int (if al then 1 else 0)), some (.int (nI (nAir σ).length)), some (.int (nI (k + 1))), none] ⟨rfl, rfl, rfl, by rw [nI_succ]; rfl, trivial⟩ (ih (k + 1) S81 (by omega) (h2.tr (g3.tr y2.1)) (by rw [hst]; exact y1))
    · obtain ⟨g31, g32, g33, g34⟩ := k3 hk
      have hy8 : (fRo (hdF τ)).getD 1 0 < 8 := f4 _ (getD_mem (by omega))
      have hxy : fFr (hdF τ) ≠ (fRo (hdF τ)).getD 1 0 := fun q => by
        rw [← g32, getD_lt (by omega), getD_lt (by omega)] at q
        exact List.pairwise_iff_getElem.mp f3 0 1 (by omega) (by omega) (by omega) q
      have hx0 : (fRo (hdF τ)).idxOf (fFr (hdF τ)) = 0 := (idxOf_iff (by omega) g32 (fun j hj => by omega)).2
      have hwy : S35.1 (p s) 2 = nI ((fRo (hdF τ)).getD 1 0) := by rw [hfm.2.2.1]; unfold whom; rw [if_neg (by omega), if_neg (by omega), if_neg (by omega), hx0]
      refine X_aload hB dX10_tick_40 rfl ?_
      refine X_geti hB cw3 fX10_207 rfl hfk.1 hfk.2 dX10_tick_42 ?_
      refine X_topi (y := nI 3) (by rw [hfm.1, hk]) ?_
      refine X_iconst (v := 1) hB dX10_tick_45 (by decide) ?_
      refine X_icmp_ne (tgt := 58) hB dX10_tick_46 (by decide) (fun c46 => ?_) (fun c46 => absurd c46 (by decide))
      refine X_aload_n (i := 0) hB dX10_tick_58 rfl rfl ?_
      refine X_getj hB cw8 fX10_64 rfl hW.1.1 hW.1.2 dX10_tick_59 ?_
      refine X_aload hB dX10_tick_62 rfl ?_
      refine X_geti hB cw3 fX10_216 rfl hfk.1 hfk.2 dX10_tick_64 ?_
      refine X_topi (y := nI (fFr (hdF τ))) (hfm.2.1) ?_
      refine X_aload hB dX10_tick_67 rfl ?_
      refine X_geti hB cw3 fX10_219 rfl hfk.1 hfk.2 dX10_tick_69 ?_
      refine X_topi (y := nI ((fRo (hdF τ)).getD 1 0)) (hwy) ?_
      refine X_callS hB kX10_222 (c_X4_hold (v := S35.2.1 w 7) w4.2.1.2.2.2.2 f2 hy8 (hup _ _)) (by decide) (by decide) rfl rfl (Nat.le_of_ble_eq_true rfl) dX10_tick_72 (fun r72 S72 q72 => ?_)
      obtain ⟨rfl, rfl⟩ := q72
      refine X_if_ne (tgt := 87) hB dX10_tick_75 (by decide) (fun c75 => ?_) (fun c75 => ?_)
      · have e75 : nUp (popA τ) (fFr (hdF τ)) ((fRo (hdF τ)).getD 1 0) = true := if1 c75
        refine X_aload hB dX10_tick_87 rfl ?_
        refine X_geti hB cw3 fX10_207 rfl hfk.1 hfk.2 dX10_tick_89 ?_
        refine X_topi (y := nI 3) (by rw [hfm.1, hk]) ?_
        refine X_if_ne (tgt := 104) hB dX10_tick_92 (by decide) (fun c92 => ?_) (fun c92 => absurd c92 (by decide))
        refine X_aload hB dX10_tick_104 rfl ?_
        refine X_geti hB cw3 fX10_207 rfl hfk.1 hfk.2 dX10_tick_106 ?_
        refine X_topi (y := nI 3) (by rw [hfm.1, hk]) ?_
        refine X_iconst (v := 2) hB dX10_tick_109 (by decide) ?_
        refine X_icmp_ne (tgt := 122) hB dX10_tick_110 (by decide) (fun c110 => ?_) (fun c110 => absurd c110 (by decide))
        refine X_aload_n (i := 0) hB dX10_tick_122 rfl rfl ?_
        refine X_aload hB dX10_tick_123 rfl ?_
        refine X_callV hB kX10_235 cw8 hW.1.1 hW.1.2 (c_X10_errorArrives w hW (popA τ) w4 (b + k) 40 (p s) (hdF τ) hp.o f2 f3 f4 g31 g32 g33 g34 e75 hR3 hq hfm hk) (by decide) (by decide) rfl rfl (Nat.le_of_ble_eq_true rfl) dX10_tick_125 (fun r125 S125 q125 => ?_)
        obtain ⟨rfl, y1, y2⟩ := q125
        have y1 : worldR S125 w (arrive τ) := by
          unfold arrive
          rw [if_neg (by omega), if_neg (by omega), if_neg (by omega)]
          exact y1
        refine X_iinc hB dX10_tick_128 rfl rfl (by decide) rfl ?_
        refine X_goto (tgt := 20) hB dX10_tick_131 (by decide) ?_
        refine X_dl [some (.ref w), some (.int (if al then 1 else 0)), some (.int (nI (nAir σ).length)), some (.int (nI (k + 1))), none] ⟨rfl, rfl, rfl, by rw [nI_succ]; rfl, trivial⟩ (ih (k + 1) S125 (by omega) (h2.tr (g3.tr y2.1)) (by rw [hst]; exact y1))
      · have e75 : ¬ nUp (popA τ) (fFr (hdF τ)) ((fRo (hdF τ)).getD 1 0) = true := if1n c75
        refine X_aload_n (i := 0) hB dX10_tick_78 rfl rfl ?_
        refine X_aload hB dX10_tick_79 rfl ?_
        refine X_callV hB kX10_226 cw8 hW.1.1 hW.1.2 (c_X10_meetDownO w hW (popA τ) w4 (p s) (fFr (hdF τ)) ((fRo (hdF τ)).getD 1 0) 3 f2 hy8 hxy (Or.inr rfl) hR3 hq (by rw [hfm.1, hk]) hfm.2.1 hwy) (by decide) (by decide) rfl rfl (Nat.le_of_ble_eq_true rfl) dX10_tick_81 (fun r81 S81 q81 => ?_)
        obtain ⟨rfl, y1, y2⟩ := q81
        have y1 : worldR S81 w (arrive τ) := by
          unfold arrive
          rw [if_neg (by omega), if_neg (by omega), if_neg (by omega)]
          unfold arrErr
          rw [if_neg e75]
          exact y1
        refine X_goto (tgt := 128) hB dX10_tick_84 (by decide) ?_
        refine X_iinc hB dX10_tick_128 rfl rfl (by decide) rfl ?_
        refine X_goto (tgt := 20) hB dX10_tick_131 (by decide) ?_
        refine X_dl [some (.ref w), some (.int (if al then 1 else 0)), some (.int (nI (nAir σ).length)), some (.int (nI (k + 1))), none] ⟨rfl, rfl, rfl, by rw [nI_succ]; rfl, trivial⟩ (ih (k + 1) S81 (by omega) (h2.tr (g3.tr y2.1)) (by rw [hst]; exact y1))
set_option maxRecDepth 100000 in
set_option maxHeartbeats 4000000 in
theorem n_X10_tick {E : Ev} (hB : Bd G E mX10_tick) {Q : Option Value → St → Prop} (w : Nat) (hW : WLay G w) (σ : Net) (b : Nat) (hN : wfN σ b) (hnw : nNow σ < 1000) (hb : b + 104 < 100000) (kk : ∀ S1, chg w (w + 152) S S1 → worldR S1 w (tickN σ) → Q none S1) :
    ∀ (j n : Nat) (S1 : St), n + j = 8 → chg w (w + 152) S S1 → worldR S1 w (iterN nodeStep (min n (nSe σ 0)) (arrAll σ)) → X G E mX10_tick 6 Q S1 136 [some (.ref w), some (.int 0), none, some (.int (nI n)), none] [] := by
  have hc8 := hN.1.1.2
  intro j
  induction j with
  | zero =>
    intro n S1 h1 h2 h3
    have e9 : n = 8 := by omega
    subst e9
    rw [Nat.min_eq_right hc8] at h3
    refine X_iload_n (i := 3) hB dX10_tick_136 rfl rfl ?_
    refine X_bipush (v := 8) hB dX10_tick_137 (by decide) ?_
    refine X_icmp_ge (tgt := 162) hB dX10_tick_139 (by decide) (fun c139 => ?_) (fun c139 => absurd c139 (by simp (disch := omega) only [nlit, nI_leI, nI_ltI]; omega))
    refine X_vret hB rfl dX10_tick_162 ?_
    exact kk S1 h2 h3
  | succ j ih =>
    intro n S1 h1 h2 h3
    have hn8 : n < 8 := by omega
    obtain ⟨hT1, hT2, hT3, hT4, hT5⟩ := tkN.all hN hnw hb (min n (nSe σ 0)) (by omega)
    have hb2 : b + 40 + 8 * min n (nSe σ 0) + 8 < 100000 := by omega
    have hst : nodeStep n (iterN nodeStep (min n (nSe σ 0)) (arrAll σ)) = (iterN nodeStep (min (n + 1) (nSe σ 0)) (arrAll σ)) := by
      by_cases q : n < nSe σ 0
      · rw [Nat.min_eq_left (by omega), Nat.min_eq_left (by omega)]; rfl
      · have e := node_cv h3.cv (by rw [hT2]; omega) hn8
        rw [e, Nat.min_eq_right (by omega), Nat.min_eq_right (by omega)]
    generalize (iterN nodeStep (min n (nSe σ 0)) (arrAll σ)) = τ at h3 hT1 hst
    have hd1 : wfN (drainN τ n) (b + 40 + 8 * min n (nSe σ 0)) := wfN.drn hn8 (dBu (nNd τ n)) [] τ hT1 rfl
    refine X_iload_n (i := 3) hB dX10_tick_136 rfl rfl ?_
    refine X_bipush (v := 8) hB dX10_tick_137 (by decide) ?_
    refine X_icmp_ge (tgt := 162) hB dX10_tick_139 (by decide) (fun c139 => absurd c139 (by simp (disch := omega) only [nlit, nI_leI, nI_ltI]; omega)) (fun c139 => ?_)
    refine X_iload_n (i := 1) hB dX10_tick_142 rfl rfl ?_
    refine X_if_ne (tgt := 162) hB dX10_tick_143 (by decide) (fun c143 => absurd rfl c143) (fun c143 => ?_)
    refine X_aload_n (i := 0) hB dX10_tick_146 rfl rfl ?_
    refine X_iload_n (i := 3) hB dX10_tick_147 rfl rfl ?_
    refine X_callV hB kX10_238 cw8 hW.1.1 hW.1.2 (c_X10_drain w hW τ h3 (b + 40 + 8 * min n (nSe σ 0)) n hn8 hT1) (by decide) (by decide) rfl rfl (Nat.le_of_ble_eq_true rfl) dX10_tick_148 (fun r148 S148 q148 => ?_)
    obtain ⟨rfl, w1, c1⟩ := q148
    refine X_aload_n (i := 0) hB dX10_tick_151 rfl rfl ?_
    refine X_iload_n (i := 3) hB dX10_tick_152 rfl rfl ?_
    refine X_callV hB kX10_241 cw8 hW.1.1 hW.1.2 (c_X10_askOn w hW (drainN τ n) w1 (b + 40 + 8 * min n (nSe σ 0)) n hn8 hd1 hb2) (by decide) (by decide) rfl rfl (Nat.le_of_ble_eq_true rfl) dX10_tick_153 (fun r153 S153 q153 => ?_)
    obtain ⟨rfl, w2, c2⟩ := q153
    refine X_iinc hB dX10_tick_156 rfl rfl (by decide) rfl ?_
    refine X_goto (tgt := 136) hB dX10_tick_159 (by decide) ?_
    refine X_dl [some (.ref w), some (.int 0), none, some (.int (nI (n + 1))), none] ⟨rfl, rfl, by rw [nI_succ]; rfl, trivial⟩ (ih (n + 1) S153 (by omega) (h2.tr (c1.1.tr c2.1)) (by rw [← hst]; exact w2))
set_option maxRecDepth 100000 in
set_option maxHeartbeats 4000000 in
theorem c_X10_tick (w : Nat) (hW : WLay G w) (σ : Net) (hw : worldR S w σ) (b : Nat) (al : Bool) (hN : wfN σ b) (hnw : nNow σ < 1000) (hb : b + 104 < 100000) : C G mX10_tick 6 [.ref w, .int (if al then 1 else 0)] S (fun r S' => r = none ∧ worldR S' w (if al then arrAll σ else tickN σ) ∧ chg w (w + 152) S S') := by
  obtain ⟨s, p, ha⟩ := hw.2.2.1
  refine C.mk (lv := [some (.ref w), some (.int (if al then 1 else 0)), none, none, none]) (by decide) (Nat.le_of_ble_eq_true rfl) rfl (fun E hB => ?_)
  refine X_aload_n (i := 0) hB dX10_tick_0 rfl rfl ?_
  refine X_dup hB dX10_tick_1 rfl ?_
  refine X_geti hB cw8 fX10_57 rfl hW.1.1 hW.1.2 dX10_tick_2 ?_
  refine X_topi (y := nI (nNow σ)) (hw.2.1.2.2.2.1) ?_
  refine X_iconst (v := 1) hB dX10_tick_5 (by decide) ?_
  refine X_iadd hB dX10_tick_6 ?_
  refine X_topi (y := nI (nNow σ + 1)) (by first | rfl | (simp (disch := omega) only [nlit, nI_add, nI_mul, nI_sub]; done) | (simp (disch := omega) only [nlit, nI_add, nI_mul, nI_sub]; (congr 1 <;> omega))) ?_
  refine X_puti hB cw8 fX10_57 rfl rfl hW.1.1 hW.1.2 dX10_tick_7 ?_
  obtain ⟨hw1, hc1⟩ := now_world hw
  refine X_aload_n (i := 0) hB dX10_tick_10 rfl rfl ?_
  refine X_getr hB cw8 fX10_21 rfl hW.1.1 hW.1.2 hw1.1.2.2.1 dX10_tick_11 ?_
  refine X_geti hB cw0 fX10_50 rfl hW.2.2.2.1.1 hW.2.2.2.1.2 dX10_tick_14 ?_
  refine X_topi (y := nI (nAir σ).length) (by rw [setI_row _ _ _ (by omega)]; exact ha.2.2.1) ?_
  refine X_istore_n (i := 2) hB dX10_tick_17 rfl (by decide) rfl ?_
  refine X_iconst (v := 0) hB dX10_tick_18 (by decide) ?_
  refine X_istore_n (i := 3) hB dX10_tick_19 rfl (by decide) rfl ?_
  refine X_lv (lv' := [some (.ref w), some (.int (if al then 1 else 0)), some (.int (nI (nAir σ).length)), some (.int (nI 0)), none]) (by rw [nI_0]; rfl) (l_X10_tick (S := S) hB w hW σ b al hN hnw hb (fun S1 g1 g2 => ?_) (nAir σ).length 0 _ (by omega) hc1.1 hw1)
  cases al
  · refine X_dl [some (.ref w), some (.int 0), none, some (.int (nI (nAir σ).length)), none] ⟨rfl, rfl, rfl, trivial⟩ ?_
    refine X_iconst (v := 0) hB dX10_tick_134 (by decide) ?_
    refine X_istore_n (i := 3) hB dX10_tick_135 rfl (by decide) rfl ?_
    refine X_dl [some (.ref w), some (.int 0), none, some (.int (nI 0)), none] ⟨rfl, rfl, by rw [nI_0], trivial⟩ (n_X10_tick (S := S) hB w hW σ b hN hnw hb (fun S2 q1 q2 => ⟨rfl, q2, q1⟩) 8 0 S1 (by omega) g1 (by rw [Nat.zero_min]; exact g2))
  · refine X_dl [some (.ref w), some (.int 1), none, some (.int (nI (nAir σ).length)), none] ⟨rfl, rfl, rfl, trivial⟩ ?_
    refine X_iconst (v := 0) hB dX10_tick_134 (by decide) ?_
    refine X_istore_n (i := 3) hB dX10_tick_135 rfl (by decide) rfl ?_
    refine X_iload_n (i := 3) hB dX10_tick_136 rfl rfl ?_
    refine X_bipush (v := 8) hB dX10_tick_137 (by decide) ?_
    refine X_icmp_ge (tgt := 162) hB dX10_tick_139 (by decide) (fun c139 => absurd c139 (by decide)) (fun c139 => ?_)
    refine X_iload_n (i := 1) hB dX10_tick_142 rfl rfl ?_
    refine X_if_ne (tgt := 162) hB dX10_tick_143 (by decide) (fun c143 => ?_) (fun c143 => absurd c143 (by decide))
    refine X_vret hB rfl dX10_tick_162 ?_
    exact ⟨rfl, g2, g1⟩
end CLS
