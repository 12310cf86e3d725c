/-! images: what lies behind the net's own row; many ticks -/
theorem nI_any (x : Int32) : nI x.toBitVec.toNat = x := by
  refine Int32.toBitVec_inj.mp ?_
  show BitVec.ofNat 32 x.toBitVec.toNat = x.toBitVec
  rw [BitVec.ofNat_toNat, BitVec.setWidth_eq]
def reSe (σ : Net) (A : Nat → Int32) : Net := ((fun k => if k < 2457 then σ.1 k else (A k).toBitVec.toNat), σ.2)
theorem reSe_lt {σ : Net} {A : Nat → Int32} {k : Nat} (h : k < 2457) : nSe (reSe σ A) k = nSe σ k := if_pos h
theorem reSe_ge {σ : Net} {A : Nat → Int32} {k : Nat} (h : 2457 ≤ k) : nI (nSe (reSe σ A) k) = A k := by
  show nI (if k < 2457 then _ else _) = _
  rw [if_neg (by omega)]; exact nI_any _
def cpT (A : Nat → Int32) (fm to : Nat) : Nat → Int32 := cpA A (2457 * to) (fun k => A (2457 * fm + k)) 2457
theorem netR_re {A A' : Nat → Int32} {σ : Net} (hN : netR A σ) (hs : szN σ) (h : ∀ i, i < 2457 → A' i = A i) : netR A' (reSe σ A') := by
  obtain ⟨⟨g1, g2, g3, g4, g5, g6⟩, h2, h3, h4⟩ := hN
  have ha := hs.1
  have hd := hs.2.1
  refine ⟨⟨fun k hk => ?_, by rw [h _ (by omega)]; exact g2, by rw [h _ (by omega)]; exact g3, by rw [h _ (by omega)]; exact g4, fun k hk => by rw [h _ (by omega)]; exact g5 k hk, fun a b ha hb => by rw [h _ (by omega)]; exact g6 a b ha hb⟩, fun n hn => ?_, fun k hk => ?_, fun d hd => ?_⟩
  · by_cases e : k < 2457
    · rw [reSe_lt e, h k e]; exact g1 k hk
    · rw [reSe_ge (by omega)]
  · exact ndR_same (h2 n hn) (hs.2.2.1 n hn).1 (hs.2.2.1 n hn).2.1 (hs.2.2.1 n hn).2.2 (fun i q1 q2 => h i (by omega))
  · have hk2 : k < (nAir σ).length := hk
    exact frS_same (h3 k hk) (air_getD hs hk) (fun w hw => h _ (by omega))
  · have hd2 : d < (nDa σ).length := hd
    exact daR_same (h4 d hd2) (dat_len hs hd2).1 (dat_len hs hd2).2 (fun i q1 q2 => h i (by omega))
theorem seOk_re {σ : Net} {A : Nat → Int32} (h : seOk (nSe σ)) : seOk (nSe (reSe σ A)) := by
  unfold seOk at *
  rw [reSe_lt (k := 0) (by decide), reSe_lt (k := 1) (by decide), reSe_lt (k := 2) (by decide), reSe_lt (k := 3) (by decide), reSe_lt (k := 4) (by decide), reSe_lt (k := 5) (by decide), reSe_lt (k := 6) (by decide), reSe_lt (k := 7) (by decide)]
  exact h
theorem wfN_re {σ : Net} {b : Nat} {A : Nat → Int32} (h : wfN σ b) : wfN (reSe σ A) b := by
  obtain ⟨h1, h2, h3, h4, h5, h6, h7, h8, h9, h10⟩ := h
  refine ⟨seOk_re h1, h2, fun n hn => ?_, h4, h5, h6, ?_, h8, h9, h10⟩
  · have g := h3 n hn
    unfold ndOk at *
    rw [reSe_lt (k := 2) (by decide), reSe_lt (k := 3) (by decide), reSe_lt (k := 4) (by decide)]
    exact g
  · rw [reSe_lt (k := 0) (by decide)]; exact h7
theorem two_re {σ : Net} {A : Nat → Int32} {v w : Int32} : two (reSe σ A) v w = two σ v w := by
  unfold two; rw [reSe_lt (k := 0) (by decide)]
/-- what was kept as the fifth comes back -/
theorem back_eq {A A9 : Nat → Int32} {σ1 σ9 : Net} (h1 : netR (cpT A 0 4) σ1) (h9 : netR A9 σ9) (hse : nSe σ9 = nSe σ1) : ∀ i, i < 9828 → cpT A9 4 0 i = A i := by
  have hb : ∀ i, 2457 ≤ i → A9 i = cpT A 0 4 i := fun i hi => by rw [h9.1.1 i (by omega), h1.1.1 i (by omega), hse]
  intro i hi
  by_cases e : i < 2457
  · unfold cpT
    rw [cpA_in (by omega)]
    rw [hb _ (by omega)]
    unfold cpT
    rw [cpA_in (by omega)]
    exact congrArg A (by omega)
  · unfold cpT
    rw [cpA_out (by omega), hb _ (by omega)]
    unfold cpT
    exact cpA_out (by omega)
theorem cpT_lo {A : Nat → Int32} {i : Nat} (h : i < 9828) : cpT A 0 4 i = A i := by unfold cpT; exact cpA_out (by omega)
theorem wfN.tks {σ : Net} {b : Nat} (h : wfN σ b) : ∀ k, nNow σ + k ≤ 1000 → b + 104 * k < 100000 → wfN (tkN_ k σ) (b + 104 * k) ∧ nSe (tkN_ k σ) = nSe σ ∧ nNow (tkN_ k σ) = nNow σ + k ∧ nUp (tkN_ k σ) = nUp σ ∧ (nDa (tkN_ k σ)).length = (nDa σ).length
  | 0, _, _ => ⟨h, rfl, rfl, rfl, rfl⟩
  | k + 1, h1, h2 => by
    obtain ⟨g1, g2, g3, g4, g5⟩ := wfN.tks h k (by omega) (by omega)
    obtain ⟨q1, q2, q3, q4, q5⟩ := g1.tick (by omega) (by omega)
    refine ⟨?_, q2.trans g2, ?_, q4.trans g4, q5.trans g5⟩
    · have e : b + 104 * (k + 1) = b + 104 * k + 104 := by omega
      rw [e]; exact q1
    · show nNow (tickN (tkN_ k σ)) = _
      rw [q3, g3]; omega
theorem wfN.air0 {σ : Net} {b : Nat} (h : wfN σ b) : wfN (uAir σ []) b := by
  obtain ⟨h1, h2, h3, h4, h5, h6, h7, h8, h9, h10⟩ := h
  exact ⟨h1, ⟨Nat.zero_le _, h2.2⟩, h3, fun f hf => absurd hf (List.not_mem_nil), h5, List.Pairwise.nil, h7, h8, h9, h10⟩
theorem wfN.uup {σ : Net} {b x y : Nat} {v : Bool} (h : wfN σ b) (hx : x < nSe σ 0) (hy : y < nSe σ 0) (hne : x ≠ y) : wfN (uUp σ x y v) b := by
  obtain ⟨h1, h2, h3, h4, h5, h6, h7, h8, h9, h10⟩ := h
  refine ⟨h1, h2, h3, h4, h5, h6, fun p q hpq => ?_, h8, h9, h10⟩
  have e : nUp (uUp σ x y v) = fun p q => if (p = x ∧ q = y) ∨ (p = y ∧ q = x) then v else nUp σ p q := rfl
  rw [e] at hpq ⊢
  by_cases c : (p = x ∧ q = y) ∨ (p = y ∧ q = x)
  · simp only [if_pos c] at hpq
    have c2 : (q = x ∧ p = y) ∨ (q = y ∧ p = x) := by omega
    simp only [if_pos c2]
    exact ⟨show p < nSe σ 0 by omega, show q < nSe σ 0 by omega, by omega, hpq⟩
  · simp only [if_neg c] at hpq
    have c2 : ¬ ((q = x ∧ p = y) ∨ (q = y ∧ p = x)) := by omega
    simp only [if_neg c2]
    exact h7 p q hpq
theorem netR_up {A : Nat → Int32} {σ : Net} {x y : Nat} {v : Bool} (hN : netR A σ) (hs : szN σ) (hx : x < 8) (hy : y < 8) : netR (upd (upd A (25 + 8 * x + y) (if v then 1 else 0)) (25 + 8 * y + x) (if v then 1 else 0)) (uUp σ x y v) := by
  obtain ⟨⟨g1, g2, g3, g4, g5, g6⟩, h2, h3, h4⟩ := hN
  have ha := hs.1
  have hd := hs.2.1
  have o : ∀ i, (i < 25 ∨ 89 ≤ i) → upd (upd A (25 + 8 * x + y) (if v then 1 else 0)) (25 + 8 * y + x) (if v then 1 else 0) i = A i := fun i hi => by rw [upd_ne _ _ (by omega), upd_ne _ _ (by omega)]
  refine ⟨⟨fun k hk => by rw [o _ (by omega)]; exact g1 k hk, by rw [o _ (by omega)]; exact g2, by rw [o _ (by omega)]; exact g3, by rw [o _ (by omega)]; exact g4, fun k hk => by rw [o _ (by omega)]; exact g5 k hk, fun p q hp hq => ?_⟩, fun n hn => ?_, fun k hk => ?_, fun d hd => ?_⟩
  · have e : nUp (uUp σ x y v) p q = if (p = x ∧ q = y) ∨ (p = y ∧ q = x) then v else nUp σ p q := rfl
    rw [e]
    by_cases c : (p = x ∧ q = y) ∨ (p = y ∧ q = x)
    · rw [if_pos c]
      by_cases c2 : 25 + 8 * p + q = 25 + 8 * y + x
      · rw [c2, upd_at]
      · rw [upd_ne _ _ c2, show 25 + 8 * p + q = 25 + 8 * x + y by omega, upd_at]
    · rw [if_neg c, upd_ne _ _ (by omega), upd_ne _ _ (by omega)]
      exact g6 p q hp hq
  · exact ndR_same (h2 n hn) (hs.2.2.1 n hn).1 (hs.2.2.1 n hn).2.1 (hs.2.2.1 n hn).2.2 (fun i q1 q2 => o i (by omega))
  · have hk2 : k < (nAir σ).length := hk
    exact frS_same (h3 k hk) (air_getD hs hk) (fun w hw => o _ (by omega))
  · have hd2 : d < (nDa σ).length := hd
    exact daR_same (h4 d hd2) (dat_len hs hd2).1 (dat_len hs hd2).2 (fun i q1 q2 => o i (by omega))
theorem netR_air0 {A : Nat → Int32} {σ : Net} (hN : netR A σ) (hs : szN σ) : netR (upd A 10 0) (uAir σ []) := by
  obtain ⟨⟨g1, g2, g3, g4, g5, g6⟩, h2, h3, h4⟩ := hN
  have hd := hs.2.1
  refine ⟨⟨fun k hk => by rw [upd_ne _ _ (by omega)]; exact g1 k hk, by rw [upd_ne _ _ (by omega)]; exact g2, by rw [upd_ne _ _ (by omega)]; exact g3, by rw [upd_at]; rfl, fun k hk => by rw [upd_ne _ _ (by omega)]; exact g5 k hk, fun a b ha hb => by rw [upd_ne _ _ (by omega)]; exact g6 a b ha hb⟩, fun n hn => ?_, fun k hk => absurd hk (Nat.not_lt_zero k), fun d hd => ?_⟩
  · exact ndR_same (h2 n hn) (hs.2.2.1 n hn).1 (hs.2.2.1 n hn).2.1 (hs.2.2.1 n hn).2.2 (fun i q1 q2 => upd_ne _ _ (by omega))
  · have hd2 : d < (nDa σ).length := hd
    exact daR_same (h4 d hd2) (dat_len hs hd2).1 (dat_len hs hd2).2 (fun i q1 q2 => upd_ne _ _ (by omega))
theorem in16 {v : Int32} : ((1 : Int32) ≤ v ∧ v ≤ 6) ↔ ∃ k, inN v 7 = some k ∧ 1 ≤ k := by
  have h1 : (1 : Int32).toInt = 1 := by decide
  have h6 : (6 : Int32).toInt = 6 := by decide
  rw [Int32.le_iff_toInt_le, Int32.le_iff_toInt_le, h1, h6]
  unfold inN
  constructor
  · intro h
    rw [if_pos (by omega)]
    exact ⟨_, rfl, by omega⟩
  · rintro ⟨k, h, hk⟩
    split at h
    · cases h; omega
    · cases h
theorem wfN.fl {σ : Net} {b x y : Nat} (h : wfN σ b) (hx : x < 8) (hy : y < 8) (hb : b + 1 < 100000) : wfN (fl0 σ x y) (b + 1) := (h.air0.o.as hb hx hy).n40
theorem wfN.aal {σ : Net} {b : Nat} (h : wfN σ b) (hn : nNow σ < 1000) (hb : b + 40 < 100000) : wfN (arrAll σ) (b + 40) ∧ nSe (arrAll σ) = nSe σ ∧ nNow (arrAll σ) = nNow σ + 1 ∧ nUp (arrAll σ) = nUp σ ∧ (nDa (arrAll σ)).length = (nDa σ).length := by
  obtain ⟨g1, g2, g3⟩ := aaN.all h hn hb _ (Nat.le_refl _)
  exact ⟨(g1.o.up (by have := h.2.1.1; omega) hb).n40, g3⟩
