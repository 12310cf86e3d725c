/-! the class: data, frames, the air, worlds are copied -/
/-- the frames of an air, whatever they hold -/
def arD (S : St) (w : Nat) (p : Nat → Nat) : Prop := S.2.2 (w + 3) 3 = some (p 40) ∧ (∀ i, i < 40 → S.2.2 (w + 4) i = some (p i)) ∧ (∀ i, i ≤ 40 → w + 5 ≤ p i ∧ p i < w + 46) ∧ (∀ i j, i ≤ 40 → j ≤ 40 → p i = p j → i = j)
/-- what a world is made of, whatever it holds -/
def wdD (S : St) (w : Nat) : Prop := wdF S w ∧ (∃ p, arD S w p) ∧ ∀ n, n < 8 → poD S (pA w n) n
theorem worldR.D {S : St} {w : Nat} {σ : Net} (h : worldR S w σ) : wdD S w := by
  obtain ⟨s, p, ha⟩ := h.2.2.1
  exact ⟨h.1, ⟨p, ha.2.2.2.1, ha.2.2.2.2.1, ha.2.2.2.2.2.1, ha.2.2.2.2.2.2.1⟩, fun n hn => (h.po hn).D⟩
theorem poD.chg {lo hi p n : Nat} {S S' : St} (h : poD S p n) (hc : chg lo hi S S') (ho : p + 8 ≤ lo ∨ hi ≤ p) : poD S' p n := by
  obtain ⟨⟨f1, f2, f3, f4⟩, d5, d6, d7, d8, d9⟩ := h
  have q := hc p (by omega)
  have q1 := hc (p + 1) (by omega)
  have q5 := hc (p + 5) (by omega)
  have q6 := hc (p + 6) (by omega)
  exact ⟨⟨by rw [q.2.2]; exact f1, by rw [q.2.2]; exact f2, by rw [q.2.2]; exact f3, by rw [q.2.2]; exact f4⟩, by rw [q5.1]; exact d5, by rw [q5.2.2]; exact d6, by rw [q6.2.2]; exact d7, by rw [q1.2.2]; exact d8, d9⟩
theorem wdD.chg {lo hi w : Nat} {S S' : St} (h : wdD S w) (hc : chg lo hi S S') (ho : w + 152 ≤ lo ∨ hi ≤ w) : wdD S' w := by
  obtain ⟨h1, ⟨p, a1, a2, a3, a4⟩, h3⟩ := h
  refine ⟨wdF_same h1 (fun a q1 q2 => (hc a (by omega)).2.2) (fun k hk => by rw [(hc (dA w k) (by unfold dA; omega)).1]), ⟨p, by rw [(hc _ (by omega)).2.2]; exact a1, fun i hi => by rw [(hc _ (by omega)).2.2]; exact a2 i hi, a3, a4⟩, fun n hn => (h3 n hn).chg hc (by unfold pA; omega)⟩
def cpP (S S1 : St) (w : Nat) (σ : Net) (p : Nat → Nat) (np nd : Nat) : Prop := chg w (w + 152) S S1 ∧ S1.2.2 = S.2.2 ∧ (∀ k, k < 8 → S1.1 (w + 1) k = nI (nSe σ k)) ∧ (∀ k, k < 11 → S1.1 (w + 2) k = nI (nTa σ k)) ∧ arR S1 w σ 0 p ∧ (∀ m, m < np → poR S1 (pA w m) m (nSe σ) (nNd σ m)) ∧ (∀ m, np ≤ m → m < 8 → poD S1 (pA w m) m) ∧ (∀ j, j < nd → daC S1 (dA w j) (dat σ j)) ∧ ∀ j, j < 40 → S1.1 (dA w j) 0 = nI j
theorem cpP.po {S S1 S2 : St} {w np nd : Nat} {σ : Net} {p : Nat → Nat} (h : cpP S S1 w σ p np nd) (hn : np < 8) (hc : chg (pA w np) (pA w np + 8) S1 S2) (hr : S2.2.2 = S1.2.2) (hp : poR S2 (pA w np) np (nSe σ) (nNd σ np)) : cpP S S2 w σ p (np + 1) nd := by
  obtain ⟨h1, h2, h3, h4, h5, h6, h7, h8, h9⟩ := h
  have o : ∀ a, a < w + 48 ∨ w + 112 ≤ a → S2.1 a = S1.1 a ∧ S2.2.1 a = S1.2.1 a ∧ S2.2.2 a = S1.2.2 a := fun a ha => hc a (by unfold pA; omega)
  refine ⟨h1.tr (hc.mono (by unfold pA; omega) (by unfold pA; omega)), hr.trans h2, fun k hk => by rw [(o _ (by omega)).1]; exact h3 k hk, fun k hk => by rw [(o _ (by omega)).1]; exact h4 k hk, arR_same h5 (o _ (by omega)).1 (o _ (by omega)).2.2 (o _ (by omega)).2.2 (fun a q1 q2 => ⟨(o a (by omega)).1, (o a (by omega)).2.1⟩), fun m hm => ?_, fun m q1 q2 => (h7 m (by omega) q2).chg hc (by unfold pA; omega), fun j hj => daC_same (h8 j hj) (o _ (by unfold dA; omega)).1 (o _ (by unfold dA; omega)).2.1, fun j hj => by rw [(o _ (by unfold dA; omega)).1]; exact h9 j hj⟩
  by_cases e : m = np
  · subst e; exact hp
  · exact (h6 m (by omega)).chg hc (by unfold pA; omega)
theorem cpP.w {S S1 : St} {w np nd k : Nat} {v : Int32} {σ : Net} {p : Nat → Nat} (h : cpP S S1 w σ p np nd) : cpP S (setI S1 w k v) w σ p np nd := by
  obtain ⟨h1, h2, h3, h4, h5, h6, h7, h8, h9⟩ := h
  have hc : chg w (w + 1) S1 (setI S1 w k v) := chg.setI (Nat.le_refl _) (by omega)
  have o : ∀ a, w < a → (setI S1 w k v).1 a = S1.1 a := fun a ha => setI_row _ _ _ (by omega)
  exact ⟨h1.tr (hc.mono (by omega) (by omega)), h2, fun k hk => by rw [o _ (by omega)]; exact h3 k hk, fun k hk => by rw [o _ (by omega)]; exact h4 k hk, arR_same h5 (o _ (by omega)) rfl rfl (fun a q1 q2 => ⟨o a (by omega), rfl⟩), fun m hm => (h6 m hm).chg hc (by unfold pA; omega), fun m q1 q2 => (h7 m q1 q2).chg hc (by unfold pA; omega), fun j hj => daC_same (h8 j hj) (o _ (by unfold dA; omega)) rfl, fun j hj => by rw [o _ (by unfold dA; omega)]; exact h9 j hj⟩
theorem cpP.da {S S1 S2 : St} {w np nd : Nat} {σ : Net} {p : Nat → Nat} (h : cpP S S1 w σ p np nd) (hn : nd < 40) (hc : chg (dA w nd) (dA w nd + 1) S1 S2) (hr : S2.2.2 = S1.2.2) (h0 : S2.1 (dA w nd) 0 = S1.1 (dA w nd) 0) (hp : daC S2 (dA w nd) (dat σ nd)) : cpP S S2 w σ p np (nd + 1) := by
  obtain ⟨h1, h2, h3, h4, h5, h6, h7, h8, h9⟩ := h
  have o : ∀ a, a ≠ dA w nd → S2.1 a = S1.1 a ∧ S2.2.1 a = S1.2.1 a ∧ S2.2.2 a = S1.2.2 a := fun a ha => hc a (by omega)
  refine ⟨h1.tr (hc.mono (by unfold dA; omega) (by unfold dA; omega)), hr.trans h2, fun k hk => by rw [(o _ (by unfold dA; omega)).1]; exact h3 k hk, fun k hk => by rw [(o _ (by unfold dA; omega)).1]; exact h4 k hk, arR_same h5 (o _ (by unfold dA; omega)).1 (o _ (by unfold dA; omega)).2.2 (o _ (by unfold dA; omega)).2.2 (fun a q1 q2 => ⟨(o a (by unfold dA; omega)).1, (o a (by unfold dA; omega)).2.1⟩), fun m hm => ?_, fun m q1 q2 => (h7 m q1 q2).chg hc (by unfold pA dA; omega), fun j hj => ?_, fun j hj => ?_⟩
  · by_cases q : m < 8
    · exact (h6 m hm).chg hc (by unfold pA dA; omega)
    · have := (h6 m hm).D.2.2.2.2.2
      omega
  · by_cases e : j = nd
    · subst e; exact hp
    · exact daC_same (h8 j (by omega)) (o _ (by unfold dA; omega)).1 (o _ (by unfold dA; omega)).2.1
  · by_cases e : j = nd
    · subst e; rw [h0]; exact h9 j hj
    · rw [(o _ (by unfold dA; omega)).1]; exact h9 j hj
section CLS
variable {G : Gc} {S : St}
set_option maxRecDepth 100000 in
set_option maxHeartbeats 4000000 in
theorem c_X2_copyFrom (a b : Nat) (ha : a ∈ gL G ∧ gK G a = .inl 2) (hb : b ∈ gL G ∧ gK G b = .inl 2) (hab : b ≠ a) (x : Da) (ho : aOr x < 8) (hx : daC S b x) : C G mX2_copyFrom 3 [.ref a, .ref b] S (fun r S' => r = none ∧ chg a (a + 1) S S' ∧ S'.2.2 = S.2.2 ∧ S'.1 a 0 = S.1 a 0 ∧ daC S' a x) := by
  obtain ⟨z1, z2, z3, z4, z5, z6, z7, z8, z9, z10⟩ := hx
  refine C.mk (lv := [some (.ref a), some (.ref b)]) (by decide) (Nat.le_of_ble_eq_true rfl) rfl (fun E hB => ?_)
  refine X_aload_n (i := 0) hB dX2_copyFrom_0 rfl rfl ?_
  refine X_aload_n (i := 1) hB dX2_copyFrom_1 rfl rfl ?_
  refine X_geti hB cw2 fX2_15 rfl hb.1 hb.2 dX2_copyFrom_2 ?_
  refine X_topi (y := nI (aOr x)) (z1) ?_
  refine X_aload_n (i := 1) hB dX2_copyFrom_5 rfl rfl ?_
  refine X_geti hB cw2 fX2_18 rfl hb.1 hb.2 dX2_copyFrom_6 ?_
  refine X_topi (y := nI (aEn x)) (z2) ?_
  refine X_aload_n (i := 1) hB dX2_copyFrom_9 rfl rfl ?_
  refine X_geti hB cw2 fX2_40 rfl hb.1 hb.2 dX2_copyFrom_10 ?_
  refine X_topi (y := nI (aCm x)) (z7) ?_
  refine X_callV hB kX2_52 cw2 ha.1 ha.2 (c_X2_begin a ha (aOr x) ho (nI (aEn x)) (nI (aCm x))) (by decide) (by decide) rfl rfl (Nat.le_of_ble_eq_true rfl) dX2_copyFrom_13 (fun r13 S13 q13 => ?_)
  obtain ⟨rfl, g1, g2, y0, y1, y2, y3, y4, y5, y6, y7, y8, y9, y10⟩ := q13
  have hq := g1 b (by omega)
  refine X_aload_n (i := 0) hB dX2_copyFrom_16 rfl rfl ?_
  refine X_aload_n (i := 1) hB dX2_copyFrom_17 rfl rfl ?_
  refine X_geti hB cw2 fX2_21 rfl hb.1 hb.2 dX2_copyFrom_18 ?_
  refine X_topi (y := nI (aSt x)) (by rw [hq.1]; exact z3) ?_
  refine X_aload_n (i := 1) hB dX2_copyFrom_21 rfl rfl ?_
  refine X_getj hB cw2 fX2_29 rfl hb.1 hb.2 dX2_copyFrom_22 ?_
  refine X_topl (y := rJ (aRe x)) (by rw [hq.2.1]; exact z5) ?_
  refine X_callV hB kX2_56 cw2 ha.1 ha.2 (c_X2_stand a ha (nI (aSt x)) (rJ (aRe x))) (by decide) (by decide) rfl rfl (Nat.le_of_ble_eq_true rfl) dX2_copyFrom_25 (fun r25 S25 q25 => ?_)
  obtain ⟨rfl, rfl⟩ := q25
  refine X_aload_n (i := 0) hB dX2_copyFrom_28 rfl rfl ?_
  refine X_aload_n (i := 1) hB dX2_copyFrom_29 rfl rfl ?_
  refine X_geti hB cw2 fX2_24 rfl hb.1 hb.2 dX2_copyFrom_30 ?_
  refine X_puti hB cw2 fX2_24 rfl rfl ha.1 ha.2 dX2_copyFrom_33 ?_
  refine X_aload_n (i := 0) hB dX2_copyFrom_36 rfl rfl ?_
  refine X_aload_n (i := 1) hB dX2_copyFrom_37 rfl rfl ?_
  refine X_getj hB cw2 fX2_37 rfl hb.1 hb.2 dX2_copyFrom_38 ?_
  refine X_putj hB cw2 fX2_37 rfl rfl ha.1 ha.2 dX2_copyFrom_41 ?_
  refine X_aload_n (i := 0) hB dX2_copyFrom_44 rfl rfl ?_
  refine X_aload_n (i := 1) hB dX2_copyFrom_45 rfl rfl ?_
  refine X_geti hB cw2 fX2_43 rfl hb.1 hb.2 dX2_copyFrom_46 ?_
  refine X_puti hB cw2 fX2_43 rfl rfl ha.1 ha.2 dX2_copyFrom_49 ?_
  refine X_aload_n (i := 0) hB dX2_copyFrom_52 rfl rfl ?_
  refine X_aload_n (i := 1) hB dX2_copyFrom_53 rfl rfl ?_
  refine X_geti hB cw2 fX2_46 rfl hb.1 hb.2 dX2_copyFrom_54 ?_
  refine X_puti hB cw2 fX2_46 rfl rfl ha.1 ha.2 dX2_copyFrom_57 ?_
  refine X_aload_n (i := 0) hB dX2_copyFrom_60 rfl rfl ?_
  refine X_aload_n (i := 1) hB dX2_copyFrom_61 rfl rfl ?_
  refine X_geti hB cw2 fX2_49 rfl hb.1 hb.2 dX2_copyFrom_62 ?_
  refine X_puti hB cw2 fX2_49 rfl rfl ha.1 ha.2 dX2_copyFrom_65 ?_
  refine X_vret hB rfl dX2_copyFrom_68 ?_
  refine ⟨rfl, g1.tr ((chg.setI (Nat.le_refl _) (by omega)).tr ((chg.setJ (Nat.le_refl _) (by omega)).tr ((chg.setI (Nat.le_refl _) (by omega)).tr ((chg.setJ (Nat.le_refl _) (by omega)).tr ((chg.setI (Nat.le_refl _) (by omega)).tr ((chg.setI (Nat.le_refl _) (by omega)).tr (chg.setI (Nat.le_refl _) (by omega)))))))), g2, ?_, ?_, ?_, ?_, ?_, ?_, ?_, ?_, ?_, fun q => ?_, ?_⟩
  · simp [setI, setJ, ups]; exact y0
  · simp [setI, setJ, ups]; exact y1
  · simp [setI, setJ, ups]; exact y2
  · simp [setI, setJ, ups]
  · simp [setI, setJ, ups, hab, hq.1]; exact z4
  · simp [setI, setJ, ups]
  · simp [setI, setJ, ups, hab, hq.2.1]; exact z6
  · simp [setI, setJ, ups]; exact y7
  · simp [setI, setJ, ups, hab, hq.1]; exact z8
  · simp [setI, setJ, ups, hab, hq.1]; exact z9 q
  · simp [setI, setJ, ups, hab, hq.1]; exact z10
set_option maxRecDepth 100000 in
set_option maxHeartbeats 4000000 in
theorem c_X3_copyFrom (a b : Nat) (ha : a ∈ gL G ∧ gK G a = .inl 3) (hb : b ∈ gL G ∧ gK G b = .inl 3) (hab : b ≠ a) (σ : Net) (f : Fm) (hf : fmR S b σ f) : C G mX3_copyFrom 1 [.ref a, .ref b] S (fun r S' => r = none ∧ chg a (a + 1) S S' ∧ S'.2.2 = S.2.2 ∧ fmR S' a σ f) := by
  obtain ⟨q0, q1, q2, q3, q4, q5, q6⟩ := hf
  refine C.mk (lv := [some (.ref a), some (.ref b)]) (by decide) (Nat.le_of_ble_eq_true rfl) rfl (fun E hB => ?_)
  refine X_aload_n (i := 0) hB dX3_copyFrom_0 rfl rfl ?_
  refine X_aload_n (i := 1) hB dX3_copyFrom_1 rfl rfl ?_
  refine X_geti hB cw3 fX3_9 rfl hb.1 hb.2 dX3_copyFrom_2 ?_
  refine X_topi (y := nI (fKi f)) (q0) ?_
  refine X_aload_n (i := 1) hB dX3_copyFrom_5 rfl rfl ?_
  refine X_geti hB cw3 fX3_15 rfl hb.1 hb.2 dX3_copyFrom_6 ?_
  refine X_topi (y := nI (fFr f)) (q1) ?_
  refine X_aload_n (i := 1) hB dX3_copyFrom_9 rfl rfl ?_
  refine X_geti hB cw3 fX3_18 rfl hb.1 hb.2 dX3_copyFrom_10 ?_
  refine X_topi (y := whom σ f) (q2) ?_
  refine X_aload_n (i := 1) hB dX3_copyFrom_13 rfl rfl ?_
  refine X_geti hB cw3 fX3_21 rfl hb.1 hb.2 dX3_copyFrom_14 ?_
  refine X_topi (y := whatF f) (q3) ?_
  refine X_aload_n (i := 1) hB dX3_copyFrom_17 rfl rfl ?_
  refine X_getj hB cw3 fX3_30 rfl hb.1 hb.2 dX3_copyFrom_18 ?_
  refine X_topl (y := rJ (frL σ f)) (q6) ?_
  refine X_callV hB kX3_34 cw3 ha.1 ha.2 (c_X3_begin a ha (nI (fKi f)) (nI (fFr f)) (whom σ f) (whatF f) (rJ (frL σ f))) (by decide) (by decide) rfl rfl (Nat.le_of_ble_eq_true rfl) dX3_copyFrom_21 (fun r21 S21 q21 => ?_)
  obtain ⟨rfl, g1, g2, y0, y1, y2, y3, y4, y5, y6⟩ := q21
  have hq := g1 b (by omega)
  refine X_aload_n (i := 0) hB dX3_copyFrom_24 rfl rfl ?_
  refine X_aload_n (i := 1) hB dX3_copyFrom_25 rfl rfl ?_
  refine X_geti hB cw3 fX3_24 rfl hb.1 hb.2 dX3_copyFrom_26 ?_
  refine X_puti hB cw3 fX3_24 rfl rfl ha.1 ha.2 dX3_copyFrom_29 ?_
  refine X_aload_n (i := 0) hB dX3_copyFrom_32 rfl rfl ?_
  refine X_aload_n (i := 1) hB dX3_copyFrom_33 rfl rfl ?_
  refine X_geti hB cw3 fX3_27 rfl hb.1 hb.2 dX3_copyFrom_34 ?_
  refine X_puti hB cw3 fX3_27 rfl rfl ha.1 ha.2 dX3_copyFrom_37 ?_
  refine X_vret hB rfl dX3_copyFrom_40 ?_
  refine ⟨rfl, g1.tr ((chg.setI (Nat.le_refl _) (by omega)).tr (chg.setI (Nat.le_refl _) (by omega))), g2, ?_, ?_, ?_, ?_, ?_, ?_, ?_⟩
  · simp [setI, ups]; exact y0
  · simp [setI, ups]; exact y1
  · simp [setI, ups]; exact y2
  · simp [setI, ups]; exact y3
  · simp [setI, ups, hab, hq.1]; exact q4
  · simp [setI, ups, hab, hq.1]; exact q5
  · exact y6
set_option maxRecDepth 100000 in
set_option maxHeartbeats 4000000 in
theorem l_X0_copyFrom {E : Ev} (hB : Bd G E mX0_copyFrom) {Q : Option Value → St → Prop} (w u : Nat) (hW : WLay G w) (hU : WLay G u) (hwu : w + 152 ≤ u ∨ u + 152 ≤ w) (σ : Net) (p : Nat → Nat) (h0 : S.2.2 (w + 3) 0 = some (w + 4)) (hp : arD S w p) (hu : worldR S u σ) (kk : ∀ S1, chg (w + 3) (w + 46) S S1 → S1.2.2 = S.2.2 → arR S1 w σ 0 p → Q none S1) :
    ∀ (j k : Nat) (S1 : St), k + j = (nAir σ).length → chg (w + 3) (w + 46) S S1 → S1.2.2 = S.2.2 → S1.1 (w + 3) 1 = nI 0 → S1.1 (w + 3) 2 = nI (nAir σ).length → (∀ i, i < k → fmR S1 (p i) σ ((nAir σ).getD i f0)) → X G E mX0_copyFrom 2 Q S1 15 [some (.ref (w + 3)), some (.ref (u + 3)), some (.int (nI k))] [] := by
  have h40 := hu.l40.1
  intro j
  induction j with
  | zero =>
    intro k S1 h1 h2 h3 h4 h5 h6
    have e9 : k = (nAir σ).length := by omega
    refine X_iload_n (i := 2) hB dX0_copyFrom_15 rfl rfl ?_
    refine X_aload_n (i := 0) hB dX0_copyFrom_16 rfl rfl ?_
    refine X_geti hB cw0 fX0_20 rfl hW.2.2.2.1.1 hW.2.2.2.1.2 dX0_copyFrom_17 ?_
    refine X_topi (y := nI (nAir σ).length) (h5) ?_
    refine X_icmp_ge (tgt := 58) hB dX0_copyFrom_20 (by decide) (fun c20 => ?_) (fun c20 => absurd c20 (by simp (disch := omega) only [nlit, nI_leI, nI_ltI]; omega))
    refine X_vret hB rfl dX0_copyFrom_58 ?_
    refine kk S1 h2 h3 ⟨by decide, h4, h5, by rw [h3]; exact hp.1, fun i hi => by rw [h3]; exact hp.2.1 i hi, hp.2.2.1, hp.2.2.2, fun i hi => ?_⟩
    rw [Nat.zero_add, Nat.mod_eq_of_lt (by omega)]
    exact h6 i (by omega)
  | succ j ih =>
    intro k S1 h1 h2 h3 h4 h5 h6
    have hu1 : worldR S1 u σ := hu.chg h2 (by omega)
    obtain ⟨s, p2, ha⟩ := hu1.2.2.1
    have hs := ha.1
    have b1 := hp.2.2.1 k (by omega)
    have b2 := ha.2.2.2.2.2.1 ((s + k) % 40) (by omega)
    have hfa := hW.2.2.2.2.2.1 _ b1.1 b1.2
    have hfb := hU.2.2.2.2.2.1 _ b2.1 b2.2
    have hfm := ha.2.2.2.2.2.2.2 k (by omega)
    refine X_iload_n (i := 2) hB dX0_copyFrom_15 rfl rfl ?_
    refine X_aload_n (i := 0) hB dX0_copyFrom_16 rfl rfl ?_
    refine X_geti hB cw0 fX0_20 rfl hW.2.2.2.1.1 hW.2.2.2.1.2 dX0_copyFrom_17 ?_
    refine X_topi (y := nI (nAir σ).length) (h5) ?_
    refine X_icmp_ge (tgt := 58) hB dX0_copyFrom_20 (by decide) (fun c20 => absurd c20 (by simp (disch := omega) only [nlit, nI_leI, nI_ltI]; omega)) (fun c20 => ?_)
    refine X_iload_n (i := 2) hB dX0_copyFrom_23 rfl rfl ?_
    refine X_bipush (v := 40) hB dX0_copyFrom_24 (by decide) ?_
    refine X_icmp_ge (tgt := 58) hB dX0_copyFrom_26 (by decide) (fun c26 => absurd c26 (by simp (disch := omega) only [nlit, nI_leI, nI_ltI]; omega)) (fun c26 => ?_)
    refine X_aload_n (i := 0) hB dX0_copyFrom_29 rfl rfl ?_
    refine X_getr hB cw0 fX0_11 rfl hW.2.2.2.1.1 hW.2.2.2.1.2 (show S1.2.2 (w + 3) 0 = some (w + 4) by rw [h3]; exact h0) dX0_copyFrom_30 ?_
    refine X_iload_n (i := 2) hB dX0_copyFrom_33 rfl rfl ?_
    refine X_aaldN hB (k) hW.2.2.2.2.1.1 hW.2.2.2.2.1.2 (by decide) rfl (by decide) rfl (by omega) (show S1.2.2 (w + 4) k = some (p k) by rw [h3]; exact hp.2.1 k (by omega)) dX0_copyFrom_34 ?_
    refine X_aload_n (i := 1) hB dX0_copyFrom_35 rfl rfl ?_
    refine X_getr hB cw0 fX0_11 rfl hU.2.2.2.1.1 hU.2.2.2.1.2 hu1.1.2.2.2.2.2.1 dX0_copyFrom_36 ?_
    refine X_aload_n (i := 1) hB dX0_copyFrom_39 rfl rfl ?_
    refine X_geti hB cw0 fX0_24 rfl hU.2.2.2.1.1 hU.2.2.2.1.2 dX0_copyFrom_40 ?_
    refine X_topi (y := nI s) (ha.2.1) ?_
    refine X_iload_n (i := 2) hB dX0_copyFrom_43 rfl rfl ?_
    refine X_iadd hB dX0_copyFrom_44 ?_
    refine X_topi (y := nI (s + k)) (by first | rfl | (simp (disch := omega) only [nlit, nI_add, nI_mul, nI_sub]; done) | (simp (disch := omega) only [nlit, nI_add, nI_mul, nI_sub]; (congr 1 <;> omega))) ?_
    refine X_bipush (v := 40) hB dX0_copyFrom_45 (by decide) ?_
    refine X_irem hB dX0_copyFrom_47 (by decide) ?_
    refine X_topi (y := nI ((s + k) % 40)) (rem40 (by omega)) ?_
    refine X_aaldN hB ((s + k) % 40) hU.2.2.2.2.1.1 hU.2.2.2.2.1.2 (by decide) rfl (by decide) rfl (by omega) (ha.2.2.2.2.1 _ (by omega)) dX0_copyFrom_48 ?_
    refine X_callV hB kX0_30 cw3 hfa.1 hfa.2 (c_X3_copyFrom (p k) (p2 ((s + k) % 40)) hfa hfb (by omega) σ ((nAir σ).getD k f0) hfm) (by decide) (by decide) rfl rfl (Nat.le_of_ble_eq_true rfl) dX0_copyFrom_49 (fun r49 S49 q49 => ?_)
    obtain ⟨rfl, g1, g2, g3⟩ := q49
    refine X_iinc hB dX0_copyFrom_52 rfl rfl (by decide) rfl ?_
    refine X_goto (tgt := 15) hB dX0_copyFrom_55 (by decide) ?_
    refine X_lv ?_ (ih (k + 1) S49 (by omega) (h2.tr (g1.mono (by omega) (by omega))) (g2.trans h3) (by rw [(g1 _ (by omega)).1]; exact h4) (by rw [(g1 _ (by omega)).1]; exact h5) (fun i hi => ?_))
    · rw [nI_succ]; rfl
    · by_cases q : i = k
      · rw [q]; exact g3
      · have q2 := hp.2.2.1 i (by omega)
        have hne : p i ≠ p k := fun z => q (hp.2.2.2 i k (by omega) (by omega) z)
        exact fmR_same (h6 i (by omega)) (g1 _ (by omega)).1 (g1 _ (by omega)).2.1
set_option maxRecDepth 100000 in
set_option maxHeartbeats 4000000 in
theorem c_X0_copyFrom (w u : Nat) (hW : WLay G w) (hU : WLay G u) (hwu : w + 152 ≤ u ∨ u + 152 ≤ w) (σ : Net) (p : Nat → Nat) (h0 : S.2.2 (w + 3) 0 = some (w + 4)) (hp : arD S w p) (hu : worldR S u σ) : C G mX0_copyFrom 2 [.ref (w + 3), .ref (u + 3)] S (fun r S' => r = none ∧ chg (w + 3) (w + 46) S S' ∧ S'.2.2 = S.2.2 ∧ arR S' w σ 0 p) := by
  obtain ⟨s, p2, ha⟩ := hu.2.2.1
  refine C.mk (lv := [some (.ref (w + 3)), some (.ref (u + 3)), none]) (by decide) (Nat.le_of_ble_eq_true rfl) rfl (fun E hB => ?_)
  refine X_aload_n (i := 0) hB dX0_copyFrom_0 rfl rfl ?_
  refine X_iconst (v := 0) hB dX0_copyFrom_1 (by decide) ?_
  refine X_puti hB cw0 fX0_24 rfl rfl hW.2.2.2.1.1 hW.2.2.2.1.2 dX0_copyFrom_2 ?_
  refine X_aload_n (i := 0) hB dX0_copyFrom_5 rfl rfl ?_
  refine X_aload_n (i := 1) hB dX0_copyFrom_6 rfl rfl ?_
  refine X_geti hB cw0 fX0_20 rfl hU.2.2.2.1.1 hU.2.2.2.1.2 dX0_copyFrom_7 ?_
  refine X_topi (y := nI (nAir σ).length) (by rw [setI_ne _ _ (Or.inl (by omega))]; exact ha.2.2.1) ?_
  refine X_puti hB cw0 fX0_20 rfl rfl hW.2.2.2.1.1 hW.2.2.2.1.2 dX0_copyFrom_10 ?_
  refine X_iconst (v := 0) hB dX0_copyFrom_13 (by decide) ?_
  refine X_istore_n (i := 2) hB dX0_copyFrom_14 rfl (by decide) rfl ?_
  refine X_lv (lv' := [some (.ref (w + 3)), some (.ref (u + 3)), some (.int (nI 0))]) (by rw [nI_0]; rfl) (l_X0_copyFrom (S := S) hB w u hW hU hwu σ p h0 hp hu (fun S1 g1 g2 g3 => ⟨rfl, g1, g2, g3⟩) (nAir σ).length 0 _ (by omega) ((chg.setI (Nat.le_refl _) (by omega)).tr (chg.setI (Nat.le_refl _) (by omega))) rfl ?_ ?_ (fun i hi => by omega))
  · rw [setI_ne _ _ (Or.inr (by decide)), setI_at]; rfl
  · rw [setI_at]
set_option maxRecDepth 100000 in
set_option maxHeartbeats 4000000 in
theorem d_X10_copyFrom {E : Ev} (hB : Bd G E mX10_copyFrom) {Q : Option Value → St → Prop} (w u : Nat) (hW : WLay G w) (hU : WLay G u) (hwu : w + 152 ≤ u ∨ u + 152 ≤ w) (σ : Net) (hwd : wdF S w) (hu : worldR S u σ) (hor : ∀ d, d < (nDa σ).length → aOr (dat σ d) < 8) (p : Nat → Nat) (kk : ∀ S1, worldR S1 w σ → chg w (w + 152) S S1 → Q none S1) :
    ∀ (j k : Nat) (S1 : St), k + j = (nDa σ).length → S1.1 w 5 = nI (nDa σ).length → cpP S S1 w σ p 8 k → X G E mX10_copyFrom 5 Q S1 80 [some (.ref w), some (.ref u), some (.int (nI k))] [] := by
  have h40 := hu.l40.2
  intro j
  induction j with
  | zero =>
    intro k S1 h1 h2 h3
    have e9 : k = (nDa σ).length := by omega
    have hu1 := hu.chg h3.1 (by omega)
    refine X_iload_n (i := 2) hB dX10_copyFrom_80 rfl rfl ?_
    refine X_aload_n (i := 0) hB dX10_copyFrom_81 rfl rfl ?_
    refine X_geti hB cw8 fX10_54 rfl hW.1.1 hW.1.2 dX10_copyFrom_82 ?_
    refine X_topi (y := nI (nDa σ).length) (h2) ?_
    refine X_icmp_ge (tgt := 115) hB dX10_copyFrom_85 (by decide) (fun c85 => ?_) (fun c85 => absurd c85 (by simp (disch := omega) only [nlit, nI_leI, nI_ltI]; omega))
    refine X_aload_n (i := 0) hB dX10_copyFrom_115 rfl rfl ?_
    refine X_aload_n (i := 1) hB dX10_copyFrom_116 rfl rfl ?_
    refine X_geti hB cw8 fX10_57 rfl hU.1.1 hU.1.2 dX10_copyFrom_117 ?_
    refine X_topi (y := nI (nNow σ)) (hu1.2.1.2.2.2.1) ?_
    refine X_puti hB cw8 fX10_57 rfl rfl hW.1.1 hW.1.2 dX10_copyFrom_120 ?_
    refine X_aload_n (i := 0) hB dX10_copyFrom_123 rfl rfl ?_
    refine X_aload_n (i := 1) hB dX10_copyFrom_124 rfl rfl ?_
    refine X_getj hB cw8 fX10_64 rfl hU.1.1 hU.1.2 dX10_copyFrom_125 ?_
    refine X_putj hB cw8 fX10_64 rfl rfl hW.1.1 hW.1.2 dX10_copyFrom_128 ?_
    refine X_vret hB rfl dX10_copyFrom_131 ?_
    obtain ⟨g1, g2, g3, g4, g5, g6, g7, g8, g9⟩ := h3
    refine kk _ ⟨?_, ⟨fun k hk => ?_, fun k hk => ?_, ?_, ?_, ?_⟩, ⟨0, p, ?_⟩, fun n hn => ?_, fun k hk => ?_, hu.cv, hu.l40⟩ ?_
    · exact wdF_same hwd (fun a q1 q2 => by show S1.2.2 a = _; rw [g2]) (fun k hk => by
        show (setI S1 w 6 _).1 (dA w k) 0 = _
        rw [setI_row _ _ _ (by unfold dA; omega), g9 k hk, (hwd.2.2.2.2.2.2.2 k hk).2])
    · show (setI S1 w 6 _).1 (w + 1) k = _
      rw [setI_row _ _ _ (by omega)]; exact g3 k hk
    · show (setI S1 w 6 _).1 (w + 2) k = _
      rw [setI_row _ _ _ (by omega)]; exact g4 k hk
    · show (setI S1 w 6 _).1 w 5 = _
      rw [setI_ne _ _ (Or.inr (by decide))]; exact h2
    · show (setI S1 w 6 _).1 w 6 = _
      rw [setI_at]
    · rw [setJ_at]
      show lkR ((setI S1 w 6 (nI (nNow σ))).2.1 u 7) _
      exact hu1.2.1.2.2.2.2
    · exact arR_same g5 (setI_row _ _ _ (by omega)) rfl rfl (fun a q1 q2 => ⟨setI_row _ _ _ (by omega), ups_row_ne _ _ _ (by omega)⟩)
    · exact ((g6 n hn).chg (chg.setI (lo := w) (hi := w + 1) (Nat.le_refl _) (by omega)) (by unfold pA; omega)).chg (chg.setJ (lo := w) (hi := w + 1) (Nat.le_refl _) (by omega)) (by unfold pA; omega)
    · exact daC_same (g8 k (by omega)) (setI_row _ _ _ (by unfold dA; omega)) (ups_row_ne _ _ _ (by unfold dA; omega))
    · exact g1.tr ((chg.setI (Nat.le_refl _) (by omega)).tr (chg.setJ (Nat.le_refl _) (by omega)))
  | succ j ih =>
    intro k S1 h1 h2 h3
    have hu1 := hu.chg h3.1 (by omega)
    have hr := h3.2.1
    have hDa := hW.dd (show k < 40 by omega)
    have hDb := hU.dd (show k < 40 by omega)
    refine X_iload_n (i := 2) hB dX10_copyFrom_80 rfl rfl ?_
    refine X_aload_n (i := 0) hB dX10_copyFrom_81 rfl rfl ?_
    refine X_geti hB cw8 fX10_54 rfl hW.1.1 hW.1.2 dX10_copyFrom_82 ?_
    refine X_topi (y := nI (nDa σ).length) (h2) ?_
    refine X_icmp_ge (tgt := 115) hB dX10_copyFrom_85 (by decide) (fun c85 => absurd c85 (by simp (disch := omega) only [nlit, nI_leI, nI_ltI]; omega)) (fun c85 => ?_)
    refine X_iload_n (i := 2) hB dX10_copyFrom_88 rfl rfl ?_
    refine X_bipush (v := 40) hB dX10_copyFrom_89 (by decide) ?_
    refine X_icmp_ge (tgt := 115) hB dX10_copyFrom_91 (by decide) (fun c91 => absurd c91 (by simp (disch := omega) only [nlit, nI_leI, nI_ltI]; omega)) (fun c91 => ?_)
    refine X_aload_n (i := 0) hB dX10_copyFrom_94 rfl rfl ?_
    refine X_getr hB cw8 fX10_33 rfl hW.1.1 hW.1.2 (show S1.2.2 w 4 = some (w + 47) by rw [hr]; exact hwd.2.2.2.2.1) dX10_copyFrom_95 ?_
    refine X_iload_n (i := 2) hB dX10_copyFrom_98 rfl rfl ?_
    refine X_aaldN hB (k) hW.2.2.2.2.2.2.2.1.1 hW.2.2.2.2.2.2.2.1.2 (by decide) rfl (by decide) rfl (by omega) (show S1.2.2 (w + 47) k = some (dA w k) by rw [hr]; exact (hwd.2.2.2.2.2.2.2 k (by omega)).1) dX10_copyFrom_99 ?_
    refine X_aload_n (i := 1) hB dX10_copyFrom_100 rfl rfl ?_
    refine X_getr hB cw8 fX10_33 rfl hU.1.1 hU.1.2 hu1.1.2.2.2.2.1 dX10_copyFrom_101 ?_
    refine X_iload_n (i := 2) hB dX10_copyFrom_104 rfl rfl ?_
    refine X_aaldN hB (k) hU.2.2.2.2.2.2.2.1.1 hU.2.2.2.2.2.2.2.1.2 (by decide) rfl (by decide) rfl (by omega) (hu1.1.2.2.2.2.2.2.2 k (by omega)).1 dX10_copyFrom_105 ?_
    refine X_callV hB kX10_91 cw2 hDa.1 hDa.2 (c_X2_copyFrom (dA w k) (dA u k) hDa hDb (by unfold dA; omega) (dat σ k) (hor k (by omega)) (hu1.dc (by omega))) (by decide) (by decide) rfl rfl (Nat.le_of_ble_eq_true rfl) dX10_copyFrom_106 (fun r106 S106 q106 => ?_)
    obtain ⟨rfl, g1, g2, g3, g4⟩ := q106
    refine X_iinc hB dX10_copyFrom_109 rfl rfl (by decide) rfl ?_
    refine X_goto (tgt := 80) hB dX10_copyFrom_112 (by decide) ?_
    refine X_lv ?_ (ih (k + 1) S106 (by omega) (by rw [(g1 _ (by unfold dA; omega)).1]; exact h2) (h3.da (by omega) g1 g2 g3 g4))
    · rw [nI_succ]; rfl
set_option maxRecDepth 100000 in
set_option maxHeartbeats 4000000 in
theorem p_X10_copyFrom {E : Ev} (hB : Bd G E mX10_copyFrom) {Q : Option Value → St → Prop} (w u : Nat) (hW : WLay G w) (hU : WLay G u) (hwu : w + 152 ≤ u ∨ u + 152 ≤ w) (σ : Net) (hwd : wdF S w) (hu : worldR S u σ) (hor : ∀ d, d < (nDa σ).length → aOr (dat σ d) < 8) (p : Nat → Nat) (kk : ∀ S1, worldR S1 w σ → chg w (w + 152) S S1 → Q none S1) :
    ∀ (j n : Nat) (S1 : St), n + j = 8 → cpP S S1 w σ p n 0 → X G E mX10_copyFrom 5 Q S1 43 [some (.ref w), some (.ref u), some (.int (nI n))] [] := by
  intro j
  induction j with
  | zero =>
    intro n S1 h1 h3
    have e9 : n = 8 := by omega
    subst e9
    have hu1 := hu.chg h3.1 (by omega)
    refine X_iload_n (i := 2) hB dX10_copyFrom_43 rfl rfl ?_
    refine X_bipush (v := 8) hB dX10_copyFrom_44 (by decide) ?_
    refine X_icmp_ge (tgt := 70) hB dX10_copyFrom_46 (by decide) (fun c46 => ?_) (fun c46 => absurd c46 (by simp (disch := omega) only [nlit, nI_leI, nI_ltI]; omega))
    refine X_aload_n (i := 0) hB dX10_copyFrom_70 rfl rfl ?_
    refine X_aload_n (i := 1) hB dX10_copyFrom_71 rfl rfl ?_
    refine X_geti hB cw8 fX10_54 rfl hU.1.1 hU.1.2 dX10_copyFrom_72 ?_
    refine X_topi (y := nI (nDa σ).length) (hu1.2.1.2.2.1) ?_
    refine X_puti hB cw8 fX10_54 rfl rfl hW.1.1 hW.1.2 dX10_copyFrom_75 ?_
    refine X_iconst (v := 0) hB dX10_copyFrom_78 (by decide) ?_
    refine X_istore_n (i := 2) hB dX10_copyFrom_79 rfl (by decide) rfl ?_
    refine X_lv (lv' := [some (.ref w), some (.ref u), some (.int (nI 0))]) (by rw [nI_0]; rfl) (d_X10_copyFrom (S := S) hB w u hW hU hwu σ hwd hu hor p kk (nDa σ).length 0 _ (by omega) (setI_at _ _ _ _) h3.w)
  | succ j ih =>
    intro n S1 h1 h3
    have hn8 : n < 8 := by omega
    have hu1 := hu.chg h3.1 (by omega)
    have hr := h3.2.1
    have hPa := hW.po hn8
    have hPb := hU.po hn8
    refine X_iload_n (i := 2) hB dX10_copyFrom_43 rfl rfl ?_
    refine X_bipush (v := 8) hB dX10_copyFrom_44 (by decide) ?_
    refine X_icmp_ge (tgt := 70) hB dX10_copyFrom_46 (by decide) (fun c46 => absurd c46 (by simp (disch := omega) only [nlit, nI_leI, nI_ltI]; omega)) (fun c46 => ?_)
    refine X_aload_n (i := 0) hB dX10_copyFrom_49 rfl rfl ?_
    refine X_getr hB cw8 fX10_27 rfl hW.1.1 hW.1.2 (show S1.2.2 w 3 = some (w + 46) by rw [hr]; exact hwd.2.2.2.1) dX10_copyFrom_50 ?_
    refine X_iload_n (i := 2) hB dX10_copyFrom_53 rfl rfl ?_
    refine X_aaldN hB (n) hW.2.2.2.2.2.2.1.1 hW.2.2.2.2.2.2.1.2 (by decide) rfl (by decide) rfl (by omega) (show S1.2.2 (w + 46) n = some (pA w n) by rw [hr]; exact hwd.2.2.2.2.2.2.1 n hn8) dX10_copyFrom_54 ?_
    refine X_aload_n (i := 1) hB dX10_copyFrom_55 rfl rfl ?_
    refine X_getr hB cw8 fX10_27 rfl hU.1.1 hU.1.2 hu1.1.2.2.2.1 dX10_copyFrom_56 ?_
    refine X_iload_n (i := 2) hB dX10_copyFrom_59 rfl rfl ?_
    refine X_aaldN hB (n) hU.2.2.2.2.2.2.1.1 hU.2.2.2.2.2.2.1.2 (by decide) rfl (by decide) rfl (by omega) (hu1.1.2.2.2.2.2.2.1 n hn8) dX10_copyFrom_60 ?_
    refine X_callV hB kX10_88 cw4 hPa.1.1 hPa.1.2 (c_X5_copyFrom (pA w n) (pA u n) n hPa hPb (by unfold pA; omega) (h3.2.2.2.2.2.2.1 n (Nat.le_refl _) hn8) (nSe σ) (nNd σ n) (hu1.po hn8)) (by decide) (by decide) rfl rfl (Nat.le_of_ble_eq_true rfl) dX10_copyFrom_61 (fun r61 S61 q61 => ?_)
    obtain ⟨rfl, g1, g2, g3⟩ := q61
    refine X_iinc hB dX10_copyFrom_64 rfl rfl (by decide) rfl ?_
    refine X_goto (tgt := 43) hB dX10_copyFrom_67 (by decide) ?_
    refine X_lv ?_ (ih (n + 1) S61 (by omega) (h3.po hn8 g1 g2 g3))
    · rw [nI_succ]; rfl
set_option maxRecDepth 100000 in
set_option maxHeartbeats 4000000 in
theorem c_X10_copyFrom (w u : Nat) (hW : WLay G w) (hU : WLay G u) (hwu : w + 152 ≤ u ∨ u + 152 ≤ w) (σ : Net) (hwD : wdD S w) (hu : worldR S u σ) (hor : ∀ d, d < (nDa σ).length → aOr (dat σ d) < 8) : C G mX10_copyFrom 5 [.ref w, .ref u] S (fun r S' => r = none ∧ worldR S' w σ ∧ chg w (w + 152) S S') := by
  obtain ⟨hwd, ⟨p, hp⟩, hpo⟩ := hwD
  have hc1 : chg (w + 1) (w + 3) S (cpI (cpI S (u + 1) (w + 1) 8) (u + 2) (w + 2) 11) := (cpI_chg.mono (by omega) (by omega)).tr (cpI_chg.mono (by omega) (by omega))
  refine C.mk (lv := [some (.ref w), some (.ref u), none]) (by decide) (Nat.le_of_ble_eq_true rfl) rfl (fun E hB => ?_)
  refine X_aload_n (i := 1) hB dX10_copyFrom_0 rfl rfl ?_
  refine X_getr hB cw8 fX10_9 rfl hU.1.1 hU.1.2 hu.1.1 dX10_copyFrom_1 ?_
  refine X_iconst (v := 0) hB dX10_copyFrom_4 (by decide) ?_
  refine X_aload_n (i := 0) hB dX10_copyFrom_5 rfl rfl ?_
  refine X_getr hB cw8 fX10_9 rfl hW.1.1 hW.1.2 hwd.1 dX10_copyFrom_6 ?_
  refine X_iconst (v := 0) hB dX10_copyFrom_9 (by decide) ?_
  refine X_bipush (v := 8) hB dX10_copyFrom_10 (by decide) ?_
  refine X_copyi hB 0 (8) (by decide) kCX10_44 hU.2.1.1 hU.2.1.2 hW.2.1.1 hW.2.1.2 rfl (by decide) (by decide) (by decide) (fun i _ => rfl) (by decide) (Nat.le_of_ble_eq_true rfl) dX10_copyFrom_12 ?_
  refine X_aload_n (i := 1) hB dX10_copyFrom_15 rfl rfl ?_
  refine X_getr hB cw8 fX10_15 rfl hU.1.1 hU.1.2 hu.1.2.1 dX10_copyFrom_16 ?_
  refine X_iconst (v := 0) hB dX10_copyFrom_19 (by decide) ?_
  refine X_aload_n (i := 0) hB dX10_copyFrom_20 rfl rfl ?_
  refine X_getr hB cw8 fX10_15 rfl hW.1.1 hW.1.2 hwd.2.1 dX10_copyFrom_21 ?_
  refine X_iconst (v := 0) hB dX10_copyFrom_24 (by decide) ?_
  refine X_bipush (v := 11) hB dX10_copyFrom_25 (by decide) ?_
  refine X_copyi hB 0 (11) (by decide) kCX10_44 hU.2.2.1.1 hU.2.2.1.2 hW.2.2.1.1 hW.2.2.1.2 rfl (by decide) (by decide) (by decide) (fun i _ => rfl) (by decide) (Nat.le_of_ble_eq_true rfl) dX10_copyFrom_27 ?_
  refine X_aload_n (i := 0) hB dX10_copyFrom_30 rfl rfl ?_
  refine X_getr hB cw8 fX10_21 rfl hW.1.1 hW.1.2 hwd.2.2.1 dX10_copyFrom_31 ?_
  refine X_aload_n (i := 1) hB dX10_copyFrom_34 rfl rfl ?_
  refine X_getr hB cw8 fX10_21 rfl hU.1.1 hU.1.2 hu.1.2.2.1 dX10_copyFrom_35 ?_
  refine X_callV hB kX10_84 cw0 hW.2.2.2.1.1 hW.2.2.2.1.2 (c_X0_copyFrom w u hW hU hwu σ p hwd.2.2.2.2.2.1 hp (hu.chg hc1 (by omega))) (by decide) (by decide) rfl rfl (Nat.le_of_ble_eq_true rfl) dX10_copyFrom_38 (fun r38 S38 q38 => ?_)
  obtain ⟨rfl, g1, g2, g3⟩ := q38
  refine X_iconst (v := 0) hB dX10_copyFrom_41 (by decide) ?_
  refine X_istore_n (i := 2) hB dX10_copyFrom_42 rfl (by decide) rfl ?_
  have hsh : ∀ k, k < 8 → (cpI (cpI S (u + 1) (w + 1) 8) (u + 2) (w + 2) 11).1 (w + 1) k = nI (nSe σ k) := fun k hk => by
    rw [(cpI_oth _ _ _ _ (w + 1) (by omega)).1, cpI_lt hk]; exact hu.2.1.1 k hk
  have hth : ∀ k, k < 11 → (cpI (cpI S (u + 1) (w + 1) 8) (u + 2) (w + 2) 11).1 (w + 2) k = nI (nTa σ k) := fun k hk => by
    rw [cpI_lt hk, (cpI_oth _ _ _ _ (u + 2) (by omega)).1]; exact hu.2.1.2.1 k hk
  refine X_lv (lv' := [some (.ref w), some (.ref u), some (.int (nI 0))]) (by rw [nI_0]; rfl) (p_X10_copyFrom (S := S) hB w u hW hU hwu σ hwd hu hor p (fun S1 k1 k2 => ⟨rfl, k1, k2⟩) 8 0 S38 (by omega) ⟨(hc1.mono (by omega) (by omega)).tr (g1.mono (by omega) (by omega)), g2, fun k hk => ?_, fun k hk => ?_, g3, fun m hm => by omega, fun m _ hm => ?_, fun j hj => by omega, fun j hj => ?_⟩)
  · rw [(g1 _ (by omega)).1]; exact hsh k hk
  · rw [(g1 _ (by omega)).1]; exact hth k hk
  · exact ((hpo m hm).chg hc1 (by unfold pA; omega)).chg g1 (by unfold pA; omega)
  · rw [(g1 _ (by unfold dA; omega)).1, (hc1 _ (by unfold dA; omega)).1]; exact (hwd.2.2.2.2.2.2.2 j hj).2
end CLS
