/-! images: the class and the reference hold the same -/
theorem cpT_in {A : Nat → Int32} {fm to i : Nat} (h : i < 2457) : cpT A fm to (2457 * to + i) = A (2457 * fm + i) := by
  unfold cpT
  rw [cpA_in (by omega), show 2457 * to + i - 2457 * to = i by omega]
theorem cpT_out {A : Nat → Int32} {fm to i : Nat} (h : i < 2457 * to ∨ 2457 * to + 2457 ≤ i) : cpT A fm to i = A i := by
  unfold cpT
  exact cpA_out (by omega)
theorem cpX_in {A : Nat → Int32} {fm to i : Nat} (h : i < 400) : cpX A fm to (400 * to + i) = A (400 * fm + i) := by
  unfold cpX
  rw [cpA_in (by omega), show 400 * to + i - 400 * to = i by omega]
theorem cpX_out {A : Nat → Int32} {fm to i : Nat} (h : i < 400 * to ∨ 400 * to + 400 ≤ i) : cpX A fm to i = A i := by
  unfold cpX
  exact cpA_out (by omega)
theorem cpX_txB {A : Nat → Int32} {fm to : Nat} (h : txB A) (hf : fm < 5) : txB (cpX A fm to) := fun i hi => by
  by_cases c : 400 * to ≤ i ∧ i < 400 * to + 400
  · rw [show i = 400 * to + (i - 400 * to) by omega, cpX_in (by omega)]
    exact h _ (by omega)
  · rw [cpX_out (by omega)]; exact h i hi
theorem rtB_of {T T' : Nat → Int32} {B : List Nat} (h : rtB T B) (e : ∀ i, i < 400 → T' i = T i) : rtB T' B := ⟨h.1, h.2.1, fun i hi => by
  have := h.1
  rw [e i (by omega)]; exact h.2.2 i hi⟩
theorem netR_cut {A A' : Nat → Int32} {σ : Net} (hN : netR A σ) (hs : szN σ) (h : ∀ i, i < 2457 → A' i = A i) (hg : ∀ i, 2457 ≤ i → A' i = nI (nSe σ i)) : netR A' σ := by
  have := netR_se (g := nSe σ) hN hs (A' := A') (fun i hi _ => h i hi) (fun k hk => by
    by_cases c : k < 2457
    · rw [h k c]; exact hN.1.1 k hk
    · exact hg k (by omega))
  exact this
section PR
variable {G : Gc} {x h : Nat}
theorem pr_image (hX : SLay G x) (hR : RLay G h) (hh : h = x + 774) (v : Int32) : prS G x h mX11_image 6 mX12_image 2 [.int v] := by
  rintro S ⟨σ, B, sv, σi, Bi, h1, h2, h3, h4⟩
  have hC1 := c_X11_image x hX h3.1 σ h3.2.2.2.1 _ h1.1 B h3.2.1 sv h3.2.2.2.2.2.1 (fun k hk => (h3.2.2.2.2.2.2 k hk).1) v
  cases e : inN v 3 with
  | none =>
    rw [e] at hC1
    refine ⟨0, fun S1 => S = S1, hC1, fun S1 q => ?_⟩
    subst q
    have hC2 := c_image hR h4.1 σ _ h1.1 h4.2.1 h4.2.2.2.1 v
    rw [e] at hC2
    refine C.mono hC2 (fun r S' z => ⟨z.1, ?_⟩)
    exact ⟨σ, B, sv, σi, Bi, h1, h2, h3.cg (fr_cg z.2.t (by simp)) (by omega), h4.fr z.2 (by simp) (by simp) (by simp)⟩
  | some k =>
    have hk := (inN_some e).1
    rw [e] at hC1
    refine ⟨1, _, hC1, fun S1 q => ?_⟩
    obtain ⟨q1, q2, q3⟩ := q
    have c0 : chg x (x + 1) S (setI S x 6 (nI (bts (fun j => decide (j = k) || sv j) 8))) := chg.setI (Nat.le_refl _) (by omega)
    have h4' := (h4.cg c0 (by omega)).cg q1 (by omega)
    have hC2 := c_image hR h4'.1 σ _ h1.1 h4'.2.1 h4'.2.2.2.1 v
    rw [e] at hC2
    refine C.mono hC2 (fun r S' z => ⟨z.1, ?_⟩)
    obtain ⟨-, z2, z3, z4, z5⟩ := z
    have cz := fr_cg z2.t (by simp)
    have hre : ∀ k, k < 14 → (reSe σ (S'.1 (h + 1))).1 k = nSe σ k := fun k hk => reSe_lt (by omega)
    have hN : netR (S'.1 (h + 1)) (reSe σ (S'.1 (h + 1))) := netR_re h4'.2.1 h1.1.sz (fun i hi => by rw [z3, cpT_out (by omega)])
    obtain ⟨p1, p2, p3, p4, p5, p6, p7⟩ := h3
    have hc : clsI S1 x σ B (fun j => decide (j = k) || sv j) (fun j => if j = k then σ else σi j) (fun j => if j = k then B else Bi j) := by
      refine ⟨?_, (p2.cg c0 (by omega)).cg q1 (by omega), ?_, (p4.chg c0 (by omega)).chg q1 (by omega), (p5.chg c0 (by omega)).chg q1 (by omega), ?_, fun j hj => ?_⟩
      · have s1 : SF (setI S x 6 (nI (bts (fun j => decide (j = k) || sv j) 8))) x := p1
        exact s1.chg q1 (by omega) (by omega) (by omega)
      · rw [(q1 _ (by omega)).2.2]; exact p3
      · rw [(q1 _ (by omega)).1, setI_at]
      · by_cases c : j = k
        · subst c
          refine ⟨⟨q2.1.1, q3.D⟩, fun _ => ?_⟩
          dsimp only
          rw [if_pos rfl, if_pos rfl]
          exact ⟨q2, q3⟩
        · refine ⟨⟨((p7 j hj).1.1.chg c0 (by omega)).chg q1 (by omega), ((p7 j hj).1.2.chg c0 (by omega)).chg q1 (by omega)⟩, fun z => ?_⟩
          have z : sv j = true := by simpa [c] using z
          dsimp only
          rw [if_neg c, if_neg c]
          exact ⟨(((p7 j hj).2 z).1.cg c0 (by omega)).cg q1 (by omega), (((p7 j hj).2 z).2.chg c0 (by omega)).chg q1 (by omega)⟩
    obtain ⟨r1, r2, r3, r4, r5⟩ := h4'
    refine ⟨reSe σ (S'.1 (h + 1)), B, (fun j => decide (j = k) || sv j), (fun j => if j = k then σ else σi j), (fun j => if j = k then B else Bi j), h1.se (fun k hk => hre k (by omega)), fun j hj z => ?_, (hc.cg cz (by omega)).se hre, z2.ref r1, hN, ?_, ?_, fun j hj => ⟨?_, fun z => ?_⟩⟩
    · by_cases c : j = k
      · dsimp only; rw [if_pos c]; exact h1
      · dsimp only; rw [if_neg c]; exact h2 j hj (by simpa [c] using z)
    · rw [z4]; exact rtB_of r3 (fun i hi => cpX_out (by omega))
    · rw [z4]; exact cpX_txB r4 (by decide)
    · rw [z5]
      by_cases c : j = k
      · subst c; rw [upd_at]; simp
      · rw [upd_ne _ _ c, (r5 j hj).1]; simp [c]
    · by_cases c : j = k
      · subst c
        dsimp only
        rw [if_pos rfl, if_pos rfl]
        refine ⟨netR_cut r2 h1.1.sz (fun i hi => ?_) (fun i hi => ?_), ?_⟩
        · rw [if_pos hi, z3, cpT_in hi]; simp
        · rw [if_neg (by omega)]
        · rw [z4]; exact rtB_of r3 (fun i hi => by rw [cpX_in hi]; simp)
      · dsimp only
        rw [if_neg c, if_neg c]
        obtain ⟨y1, y2⟩ := (r5 j hj).2 (by simpa [c] using z)
        refine ⟨?_, ?_⟩
        · unfold imR at y1 ⊢
          rw [show (fun i => if i < 2457 then S'.1 (h + 1) (2457 * (j + 1) + i) else nI (nSe (σi j) i)) = fun i => if i < 2457 then S1.1 (h + 1) (2457 * (j + 1) + i) else nI (nSe (σi j) i) from funext (fun i => by
            by_cases q : i < 2457
            · rw [if_pos q, if_pos q, z3, cpT_out (by omega)]
            · rw [if_neg q, if_neg q])]
          exact y1
        · exact rtB_of y2 (fun i hi => by rw [z4, cpX_out (by omega)])
theorem pr_again (hX : SLay G x) (hR : RLay G h) (hh : h = x + 774) (v : Int32) : prS G x h mX11_again 6 mX12_again 2 [.int v] := by
  rintro S ⟨σ, B, sv, σi, Bi, h1, h2, h3, h4⟩
  have hC1 := c_X11_again x hX h3.1 σ h3.2.2.2.1 _ h1.1 h3.2.1.1.1 sv h3.2.2.2.2.2.1 σi Bi (fun k => 104 * nNow (σi k) + (nDa (σi k)).length) (fun k hk z => ⟨((h3.2.2.2.2.2.2 k hk).2 z).1, ((h3.2.2.2.2.2.2 k hk).2 z).2, (h2 k hk z).1⟩) v
  have hno : ∀ S', fr h [] [0] S S' → LI x h S' := fun S' f => ⟨σ, B, sv, σi, Bi, h1, h2, h3.cg (fr_cg f.t (by simp)) (by omega), h4.fr f (by simp) (by simp) (by simp)⟩
  cases e : inN v 3 with
  | none =>
    rw [e] at hC1
    refine ⟨0, fun S1 => S = S1, hC1, fun S1 q => ?_⟩
    subst q
    have hC2 := c_again hR h4.1 σ _ h1.1 h4.2.1 h4.2.2.2.1 v sv (fun k hk => (h4.2.2.2.2 k hk).1)
    rw [e] at hC2
    exact C.mono hC2 (fun r S' z => ⟨z.1, hno S' z.2⟩)
  | some k =>
    have hk := (inN_some e).1
    rw [e] at hC1
    cases hs : sv k with
    | false =>
      simp only [hs, Bool.false_eq_true, if_false] at hC1
      refine ⟨0, fun S1 => S = S1, hC1, fun S1 q => ?_⟩
      subst q
      have hC2 := c_again hR h4.1 σ _ h1.1 h4.2.1 h4.2.2.2.1 v sv (fun k hk => (h4.2.2.2.2 k hk).1)
      rw [e] at hC2
      simp only [hs, Bool.false_eq_true, if_false] at hC2
      exact C.mono hC2 (fun r S' z => ⟨z.1, hno S' z.2⟩)
    | true =>
      simp only [hs, if_true] at hC1
      refine ⟨1, _, hC1, fun S1 q => ?_⟩
      obtain ⟨⟨T, t1, t2⟩, q2, q3⟩ := q
      have h4' := (h4.cg t1 (by omega)).cg t2 (by omega)
      have hC2 := c_again hR h4'.1 σ _ h1.1 h4'.2.1 h4'.2.2.2.1 v sv (fun k hk => (h4'.2.2.2.2 k hk).1)
      rw [e] at hC2
      simp only [hs, if_true] at hC2
      refine C.mono hC2 (fun r S' z => ⟨z.1, ?_⟩)
      obtain ⟨-, z2, z3, z4, z5⟩ := z
      have cz := fr_cg z2.t (by simp)
      have hinv := h2 k hk hs
      have hre : ∀ j, j < 14 → (reSe (σi k) (S'.1 (h + 1))).1 j = nSe (σi k) j := fun j hj => reSe_lt (by omega)
      obtain ⟨r1, r2, r3, r4, r5⟩ := h4'
      obtain ⟨y1, y2⟩ := (r5 k hk).2 hs
      have hN : netR (S'.1 (h + 1)) (reSe (σi k) (S'.1 (h + 1))) := netR_re y1 hinv.1.sz (fun i hi => by
        rw [if_pos hi, z3]
        have := cpT_in (A := S1.1 (h + 1)) (fm := k + 1) (to := 0) hi
        simpa using this)
      have cc : chg (x + 1) (x + 158) S S1 := (t1.mono (by omega) (by omega)).tr (t2.mono (by omega) (by omega))
      have hc := h3.wd cc (by omega) q2 ((t2 _ (by omega)).2.2.trans (t1 _ (by omega)).2.2) q3
      refine ⟨reSe (σi k) (S'.1 (h + 1)), Bi k, sv, σi, Bi, hinv.se (fun j hj => hre j (by omega)), h2, (hc.cg cz (by omega)).se hre, z2.ref r1, hN, ?_, ?_, fun j hj => ⟨?_, fun z => ?_⟩⟩
      · refine rtB_of y2 (fun i hi => ?_)
        rw [z4]
        have := cpX_in (A := S1.1 (h + 2)) (fm := k + 1) (to := 0) hi
        simpa using this
      · rw [z4]; exact cpX_txB r4 (by omega)
      · rw [z5]; exact (r5 j hj).1
      · obtain ⟨u1, u2⟩ := (r5 j hj).2 z
        refine ⟨?_, rtB_of u2 (fun i hi => by rw [z4, cpX_out (by omega)])⟩
        unfold imR at u1 ⊢
        rw [show (fun i => if i < 2457 then S'.1 (h + 1) (2457 * (j + 1) + i) else nI (nSe (σi j) i)) = fun i => if i < 2457 then S1.1 (h + 1) (2457 * (j + 1) + i) else nI (nSe (σi j) i) from funext (fun i => by
          by_cases q : i < 2457
          · rw [if_pos q, if_pos q, z3, cpT_out (by omega)]
          · rw [if_neg q, if_neg q])]
        exact u1
end PR
