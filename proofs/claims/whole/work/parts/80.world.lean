/-! a world of the class: where its cells lie, how they hold a net -/
def pA (w n : Nat) : Nat := w + 48 + 8 * n
def dA (w k : Nat) : Nat := w + 112 + k
def PoLay (G : Gc) (p : Nat) : Prop := (p ∈ gL G ∧ gK G p = .inl 4) ∧ RcLay G (p + 1) 6 ∧ (p + 3 ∈ gL G ∧ gK G (p + 3) = .inr (0, 4)) ∧ (p + 4 ∈ gL G ∧ gK G (p + 4) = .inr (0, 8)) ∧ CaLay G (p + 5)
def WLay (G : Gc) (w : Nat) : Prop := (w ∈ gL G ∧ gK G w = .inl 8) ∧ (w + 1 ∈ gL G ∧ gK G (w + 1) = .inr (0, 8)) ∧ (w + 2 ∈ gL G ∧ gK G (w + 2) = .inr (0, 11)) ∧ (w + 3 ∈ gL G ∧ gK G (w + 3) = .inl 0) ∧ (w + 4 ∈ gL G ∧ gK G (w + 4) = .inr (4, 40)) ∧ (∀ a, w + 5 ≤ a → a < w + 46 → a ∈ gL G ∧ gK G a = .inl 3) ∧ (w + 46 ∈ gL G ∧ gK G (w + 46) = .inr (5, 8)) ∧ (w + 47 ∈ gL G ∧ gK G (w + 47) = .inr (6, 40)) ∧ (∀ n, n < 8 → PoLay G (pA w n)) ∧ ∀ k, k < 40 → dA w k ∈ gL G ∧ gK G (dA w k) = .inl 2
def tbJ (q : Nat × Nat) : Int64 := lN (100000 * q.1 + q.2)
def poF (S : St) (p : Nat) : Prop := S.2.2 p 0 = some (p + 5) ∧ S.2.2 p 1 = some (p + 1) ∧ S.2.2 p 2 = some (p + 3) ∧ S.2.2 p 7 = some (p + 4)
def poI (S : St) (p : Nat) (x : Nd) : Prop := S.1 p 3 = nI (dBu x).length ∧ S.1 p 4 = nI (dRq x) ∧ S.1 p 5 = lkN (dNw x) ∧ S.1 p 6 = nI (bts (fun t => decide (dAk x t ≠ none)) 8) ∧ S.1 p 8 = (if dLis x then 1 else 0) ∧ (∀ k, k < (dBu x).length → S.1 (p + 3) k = nI ((dBu x).getD k 0)) ∧ ∀ t, t < 8 → ∀ s, dAk x t = some s → S.1 (p + 4) t = nI s
def poR (S : St) (p n : Nat) (s : Nat → Nat) (x : Nd) : Prop := poF S p ∧ poI S p x ∧ caR S (p + 5) n (dMap x) (s 1) (s 2) (dCa x) ∧ rcR S (p + 1) ((dTb x).map tbJ) ∧ (dTb x).length ≤ 6 ∧ (dBu x).length ≤ 4
def fmR (S : St) (a : Nat) (σ : Net) (f : Fm) : Prop := S.1 a 0 = nI (fKi f) ∧ S.1 a 1 = nI (fFr f) ∧ S.1 a 2 = whom σ f ∧ S.1 a 3 = whatF f ∧ S.1 a 4 = (if fKi f = 1 then nI (fNu f) else -1) ∧ S.1 a 5 = (if fKi f = 1 then lkN (fLk f) else -1) ∧ S.2.1 a 6 = rJ (frL σ f)
def daC (S : St) (a : Nat) (x : Da) : Prop := S.1 a 1 = nI (aOr x) ∧ S.1 a 2 = nI (aEn x) ∧ S.1 a 3 = nI (aSt x) ∧ S.1 a 4 = nI (aSv x) ∧ S.2.1 a 5 = rJ (aRe x) ∧ S.2.1 a 6 = rJ (aTr x) ∧ S.1 a 7 = nI (aCm x) ∧ S.1 a 8 = akN (aDo x) ∧ (aSt x = 0 → S.1 a 9 = nI (aSi x)) ∧ S.1 a 10 = nI (aSh x)
def arR (S : St) (w : Nat) (σ : Net) (s : Nat) (p : Nat → Nat) : Prop := s < 40 ∧ S.1 (w + 3) 1 = nI s ∧ S.1 (w + 3) 2 = nI (nAir σ).length ∧ S.2.2 (w + 3) 3 = some (p 40) ∧ (∀ i, i < 40 → S.2.2 (w + 4) i = some (p i)) ∧ (∀ i, i ≤ 40 → w + 5 ≤ p i ∧ p i < w + 46) ∧ (∀ i j, i ≤ 40 → j ≤ 40 → p i = p j → i = j) ∧ ∀ k, k < (nAir σ).length → fmR S (p ((s + k) % 40)) σ ((nAir σ).getD k f0)
def wdF (S : St) (w : Nat) : Prop := S.2.2 w 0 = some (w + 1) ∧ S.2.2 w 1 = some (w + 2) ∧ S.2.2 w 2 = some (w + 3) ∧ S.2.2 w 3 = some (w + 46) ∧ S.2.2 w 4 = some (w + 47) ∧ S.2.2 (w + 3) 0 = some (w + 4) ∧ (∀ n, n < 8 → S.2.2 (w + 46) n = some (pA w n)) ∧ ∀ k, k < 40 → S.2.2 (w + 47) k = some (dA w k) ∧ S.1 (dA w k) 0 = nI k
def cvN (σ : Net) : Prop := (∀ d, d < (nDa σ).length → aOr (dat σ d) < nSe σ 0 ∧ aEn (dat σ d) < nSe σ 0) ∧ (∀ n, nSe σ 0 ≤ n → n < 8 → dCa (nNd σ n) = [] ∧ dBu (nNd σ n) = [] ∧ ∀ t, dAk (nNd σ n) t = none) ∧ ∀ n t, n < 8 → dAk (nNd σ n) t ≠ none → t < nSe σ 0
def hdC (S : St) (w : Nat) (σ : Net) : Prop := (∀ k, k < 8 → S.1 (w + 1) k = nI (nSe σ k)) ∧ (∀ k, k < 11 → S.1 (w + 2) k = nI (nTa σ k)) ∧ S.1 w 5 = nI (nDa σ).length ∧ S.1 w 6 = nI (nNow σ) ∧ lkR (S.2.1 w 7) (nUp σ)
def worldR (S : St) (w : Nat) (σ : Net) : Prop := wdF S w ∧ hdC S w σ ∧ (∃ s p, arR S w σ s p) ∧ (∀ n, n < 8 → poR S (pA w n) n (nSe σ) (nNd σ n)) ∧ (∀ k, k < (nDa σ).length → daC S (dA w k) (dat σ k)) ∧ cvN σ ∧ (nAir σ).length ≤ 40 ∧ (nDa σ).length ≤ 40
/-- what stays: all outside of the world, all references, the frame that is arriving -/
def wch (w : Nat) (S S' : St) : Prop := chg w (w + 152) S S' ∧ S'.2.2 = S.2.2 ∧ ∀ a, S.2.2 (w + 3) 3 = some a → S'.1 a = S.1 a ∧ S'.2.1 a = S.2.1 a
theorem wch.rf {w : Nat} {S : St} : wch w S S := ⟨chg.rf, rfl, fun _ _ => ⟨rfl, rfl⟩⟩
theorem wch.tr {w : Nat} {S S1 S2 : St} (a : wch w S S1) (b : wch w S1 S2) : wch w S S2 := ⟨a.1.tr b.1, b.2.1.trans a.2.1, fun x hx => by
  have h1 := a.2.2 x hx
  have h2 := b.2.2 x (by rw [a.2.1]; exact hx)
  exact ⟨h2.1.trans h1.1, h2.2.trans h1.2⟩⟩
theorem fmR_same {S S' : St} {a : Nat} {σ : Net} {f : Fm} (h : fmR S a σ f) (h1 : S'.1 a = S.1 a) (h2 : S'.2.1 a = S.2.1 a) : fmR S' a σ f := by unfold fmR; rw [h1, h2]; exact h
theorem fmR_net {S : St} {a : Nat} {σ σ' : Net} {f : Fm} (h : fmR S a σ f) (h1 : fKi f = 0 → aRe (dat σ' (fAb f)) = aRe (dat σ (fAb f))) : fmR S a σ' f := by
  obtain ⟨g0, g1, g2, g3, g4, g5, g6⟩ := h
  refine ⟨g0, g1, ?_, g3, g4, g5, ?_⟩
  · rw [g2]; unfold whom
    by_cases c : fKi f = 0
    · rw [if_pos c, if_pos c, h1 c]
    · rw [if_neg c, if_neg c]
  · rw [g6]; unfold frL
    by_cases c : fKi f = 0
    · rw [if_pos c, if_pos c, h1 c]
    · rw [if_neg c, if_neg c]
theorem daC_same {S S' : St} {a : Nat} {x : Da} (h : daC S a x) (h1 : S'.1 a = S.1 a) (h2 : S'.2.1 a = S.2.1 a) : daC S' a x := by unfold daC; rw [h1, h2]; exact h
theorem poR.chg {lo hi p n : Nat} {S S' : St} {s : Nat → Nat} {x : Nd} (h : poR S p n s x) (hc : chg lo hi S S') (ho : p + 8 ≤ lo ∨ hi ≤ p) : poR S' p n s x := by
  obtain ⟨⟨f1, f2, f3, f4⟩, ⟨i1, i2, i3, i4, i5, i6, i7⟩, h3, h4, h5, h6⟩ := h
  have q := hc p (by omega)
  have q3 := hc (p + 3) (by omega)
  have q4 := hc (p + 4) (by omega)
  exact ⟨⟨by rw [q.2.2]; exact f1, by rw [q.2.2]; exact f2, by rw [q.2.2]; exact f3, by rw [q.2.2]; exact f4⟩, ⟨by rw [q.1]; exact i1, by rw [q.1]; exact i2, by rw [q.1]; exact i3, by rw [q.1]; exact i4, by rw [q.1]; exact i5, fun k hk => by rw [q3.1]; exact i6 k hk, fun t ht s hs => by rw [q4.1]; exact i7 t ht s hs⟩, h3.chg hc (by omega), h4.chg hc (by omega), h5, h6⟩
theorem arR_same {S S' : St} {w s : Nat} {σ : Net} {p : Nat → Nat} (h : arR S w σ s p) (h3 : S'.1 (w + 3) = S.1 (w + 3)) (hr3 : S'.2.2 (w + 3) = S.2.2 (w + 3)) (hr4 : S'.2.2 (w + 4) = S.2.2 (w + 4)) (hf : ∀ a, w + 5 ≤ a → a < w + 46 → S'.1 a = S.1 a ∧ S'.2.1 a = S.2.1 a) : arR S' w σ s p := by
  obtain ⟨g1, g2, g3, g4, g5, g6, g7, g8⟩ := h
  refine ⟨g1, by rw [h3]; exact g2, by rw [h3]; exact g3, by rw [hr3]; exact g4, fun i hi => by rw [hr4]; exact g5 i hi, g6, g7, fun k hk => ?_⟩
  have q := g6 ((s + k) % 40) (by omega)
  exact fmR_same (g8 k hk) (hf _ q.1 q.2).1 (hf _ q.1 q.2).2
theorem wdF_same {S S' : St} {w : Nat} (h : wdF S w) (hr : ∀ a, w ≤ a → a < w + 48 → S'.2.2 a = S.2.2 a) (hn : ∀ k, k < 40 → S'.1 (dA w k) 0 = S.1 (dA w k) 0) : wdF S' w := by
  obtain ⟨g1, g2, g3, g4, g5, g6, g7, g8⟩ := h
  exact ⟨by rw [hr _ (by omega) (by omega)]; exact g1, by rw [hr _ (by omega) (by omega)]; exact g2, by rw [hr _ (by omega) (by omega)]; exact g3, by rw [hr _ (by omega) (by omega)]; exact g4, by rw [hr _ (by omega) (by omega)]; exact g5, by rw [hr _ (by omega) (by omega)]; exact g6, fun n hn => by rw [hr _ (by omega) (by omega)]; exact g7 n hn, fun k hk => ⟨by rw [hr _ (by omega) (by omega)]; exact (g8 k hk).1, by rw [hn k hk]; exact (g8 k hk).2⟩⟩
theorem hdC_same {S S' : St} {w : Nat} {σ : Net} (h : hdC S w σ) (h0 : S'.1 w = S.1 w ∧ S'.2.1 w = S.2.1 w) (h1 : S'.1 (w + 1) = S.1 (w + 1)) (h2 : S'.1 (w + 2) = S.1 (w + 2)) : hdC S' w σ := by
  unfold hdC; rw [h0.1, h0.2, h1, h2]; exact h
theorem worldR.chg {lo hi w : Nat} {S S' : St} {σ : Net} (h : worldR S w σ) (hc : chg lo hi S S') (ho : w + 152 ≤ lo ∨ hi ≤ w) : worldR S' w σ := by
  obtain ⟨h1, h2, ⟨s, p, h3⟩, h4, h5, h6, h7, h8⟩ := h
  refine ⟨wdF_same h1 (fun a q1 q2 => (hc a (by omega)).2.2) (fun k hk => by rw [(hc (dA w k) (by unfold dA; omega)).1]), hdC_same h2 ⟨(hc w (by omega)).1, (hc w (by omega)).2.1⟩ (hc (w + 1) (by omega)).1 (hc (w + 2) (by omega)).1, ⟨s, p, arR_same h3 (hc (w + 3) (by omega)).1 (hc (w + 3) (by omega)).2.2 (hc (w + 4) (by omega)).2.2 (fun a q1 q2 => ⟨(hc a (by omega)).1, (hc a (by omega)).2.1⟩)⟩, fun n hn => (h4 n hn).chg hc (by unfold pA; omega), fun k hk => daC_same (h5 k hk) (hc (dA w k) (by unfold dA; omega)).1 (hc (dA w k) (by unfold dA; omega)).2.1, h6, h7, h8⟩
/-- one node's part has changed -/
theorem worldR_nd {S S' : St} {w n : Nat} {σ : Net} {x : Nd} (h : worldR S w σ) (hn : n < 8) (hc : chg (pA w n) (pA w n + 8) S S') (hr : S'.2.2 = S.2.2) (hp : poR S' (pA w n) n (nSe σ) x) (hv : cvN (uNd σ n x)) : worldR S' w (uNd σ n x) ∧ wch w S S' := by
  obtain ⟨h1, h2, ⟨s, p, h3⟩, h4, h5, h6, h7, h8⟩ := h
  have hc0 : ∀ a, a < w + 48 → S'.1 a = S.1 a ∧ S'.2.1 a = S.2.1 a ∧ S'.2.2 a = S.2.2 a := fun a ha => hc a (by unfold pA; omega)
  have hcd : ∀ k, S'.1 (dA w k) = S.1 (dA w k) ∧ S'.2.1 (dA w k) = S.2.1 (dA w k) ∧ S'.2.2 (dA w k) = S.2.2 (dA w k) := fun k => hc _ (by unfold pA dA; omega)
  refine ⟨⟨wdF_same h1 (fun a q1 q2 => (hc0 a (by omega)).2.2) (fun k hk => by rw [(hcd k).1]), hdC_same (σ := uNd σ n x) h2 ⟨(hc0 w (by omega)).1, (hc0 w (by omega)).2.1⟩ (hc0 (w + 1) (by omega)).1 (hc0 (w + 2) (by omega)).1, ⟨s, p, arR_same (σ := uNd σ n x) h3 (hc0 (w + 3) (by omega)).1 (hc0 (w + 3) (by omega)).2.2 (hc0 (w + 4) (by omega)).2.2 (fun a q1 q2 => ⟨(hc0 a (by omega)).1, (hc0 a (by omega)).2.1⟩)⟩, fun m hm => ?_, fun k hk => daC_same (h5 k hk) (hcd k).1 (hcd k).2.1, hv, h7, h8⟩, hc.mono (by unfold pA; omega) (by unfold pA; omega), hr, fun a ha => ?_⟩
  · by_cases e : m = n
    · subst e
      show poR S' (pA w m) m (nSe σ) (if m = m then x else _)
      rw [if_pos rfl]; exact hp
    · show poR S' (pA w m) m (nSe σ) (if m = n then x else nNd σ m)
      rw [if_neg e]
      exact (h4 m hm).chg hc (by unfold pA; omega)
  · rw [h3.2.2.2.1] at ha
    have ha := Option.some.inj ha
    have q := h3.2.2.2.2.2.1 40 (by omega)
    exact ⟨(hc0 a (by omega)).1, (hc0 a (by omega)).2.1⟩
/-- one data's part has changed -/
theorem worldR_da {S S' : St} {w d : Nat} {σ : Net} {x : Da} (h : worldR S w σ) (hd : d < (nDa σ).length) (hc : chg (dA w d) (dA w d + 1) S S') (hr : S'.2.2 = S.2.2) (h0 : S'.1 (dA w d) 0 = S.1 (dA w d) 0) (hx : daC S' (dA w d) x) (hno : ∀ f ∈ nAir σ, fKi f = 0 → fAb f = d → aRe x = aRe (dat σ d)) (hv : cvN (uDa σ d x)) : worldR S' w (uDa σ d x) ∧ wch w S S' := by
  obtain ⟨h1, h2, ⟨s, p, h3⟩, h4, h5, h6, h7, h8⟩ := h
  have hc0 : ∀ a, a < w + 112 → S'.1 a = S.1 a ∧ S'.2.1 a = S.2.1 a ∧ S'.2.2 a = S.2.2 a := fun a ha => hc a (by unfold dA; omega)
  have hcd : ∀ k, k ≠ d → S'.1 (dA w k) = S.1 (dA w k) ∧ S'.2.1 (dA w k) = S.2.1 (dA w k) ∧ S'.2.2 (dA w k) = S.2.2 (dA w k) := fun k hk => hc _ (by unfold dA; omega)
  have hlen : (nDa (uDa σ d x)).length = (nDa σ).length := len_set
  refine ⟨⟨wdF_same h1 (fun a q1 q2 => (hc0 a (by omega)).2.2) (fun k hk => ?_), ?_, ⟨s, p, ?_⟩, fun m hm => (h4 m hm).chg hc (by unfold pA dA; omega), fun k hk => ?_, hv, h7, by rw [hlen]; exact h8⟩, hc.mono (by unfold dA; omega) (by unfold dA; omega), hr, fun a ha => ?_⟩
  · by_cases e : k = d
    · subst e; exact h0
    · rw [(hcd k e).1]
  · have q := hdC_same (S' := S') h2 ⟨(hc0 w (by omega)).1, (hc0 w (by omega)).2.1⟩ (hc0 (w + 1) (by omega)).1 (hc0 (w + 2) (by omega)).1
    exact ⟨q.1, q.2.1, by rw [hlen]; exact q.2.2.1, q.2.2.2⟩
  · have q := arR_same (S' := S') h3 (hc0 (w + 3) (by omega)).1 (hc0 (w + 3) (by omega)).2.2 (hc0 (w + 4) (by omega)).2.2 (fun a q1 q2 => ⟨(hc0 a (by omega)).1, (hc0 a (by omega)).2.1⟩)
    obtain ⟨g1, g2, g3, g4, g5, g6, g7, g8⟩ := q
    refine ⟨g1, g2, g3, g4, g5, g6, g7, fun k hk => fmR_net (g8 k hk) (fun z => ?_)⟩
    by_cases e : fAb ((nAir σ).getD k f0) = d
    · show aRe (dat (uDa σ d x) (fAb ((nAir σ).getD k f0))) = aRe (dat σ (fAb ((nAir σ).getD k f0)))
      rw [e, dat_eq hd]
      exact hno _ (getD_mem hk) z e
    · show aRe (dat (uDa σ d x) (fAb ((nAir σ).getD k f0))) = aRe (dat σ (fAb ((nAir σ).getD k f0)))
      rw [dat_ne e]
  · rw [hlen] at hk
    by_cases e : k = d
    · subst e; rw [dat_eq hd]; exact hx
    · rw [dat_ne e]; exact daC_same (h5 k hk) (hcd k e).1 (hcd k e).2.1
  · rw [h3.2.2.2.1] at ha
    have ha := Option.some.inj ha
    have q := h3.2.2.2.2.2.1 40 (by omega)
    exact ⟨(hc0 a (by omega)).1, (hc0 a (by omega)).2.1⟩
theorem chg2_of {S : St} {w k : Nat} {v : Int32} : chg (w + 2) (w + 3) S (setI S (w + 2) k v) := chg.setI (Nat.le_refl _) (by omega)
/-- a tally grows -/
theorem worldR_ta {S : St} {w k : Nat} {σ : Net} (h : worldR S w σ) (hk : k < 11) : worldR (setI S (w + 2) k (nI (nTa σ k + 1))) w (uTa σ k) ∧ wch w S (setI S (w + 2) k (nI (nTa σ k + 1))) := by
  obtain ⟨h1, h2, ⟨s, p, h3⟩, h4, h5, h6, h7, h8⟩ := h
  have hc := @chg2_of S w k (nI (nTa σ k + 1))
  have hc0 : ∀ a, a ≠ w + 2 → (setI S (w + 2) k (nI (nTa σ k + 1))).1 a = S.1 a := fun a ha => (hc a (by omega)).1
  refine ⟨⟨wdF_same h1 (fun a q1 q2 => rfl) (fun q hq => by rw [hc0 _ (by unfold dA; omega)]), ⟨fun j hj => by rw [hc0 _ (by omega)]; exact h2.1 j hj, fun j hj => ?_, by rw [hc0 _ (by omega)]; exact h2.2.2.1, by rw [hc0 _ (by omega)]; exact h2.2.2.2.1, h2.2.2.2.2⟩, ⟨s, p, arR_same (σ := uTa σ k) h3 (hc0 _ (by omega)) rfl rfl (fun a q1 q2 => ⟨hc0 a (by omega), rfl⟩)⟩, fun m hm => (h4 m hm).chg hc (by unfold pA; omega), fun q hq => daC_same (h5 q hq) (hc0 _ (by unfold dA; omega)) rfl, h6, h7, h8⟩, hc.mono (by omega) (by omega), rfl, fun a ha => ?_⟩
  · by_cases e : j = k
    · subst e; rw [setI_at]; simp [nTa, uTa, updN]
    · rw [setI_ne _ _ (Or.inr e), h2.2.1 j hj]; simp [nTa, uTa, updN, e]
  · rw [h3.2.2.2.1] at ha
    have ha := Option.some.inj ha
    have q := h3.2.2.2.2.2.1 40 (by omega)
    exact ⟨hc0 a (by omega), rfl⟩
/-- a frame comes into the air -/
theorem worldR_push {S S' : St} {w s : Nat} {p : Nat → Nat} {σ : Net} {f : Fm} (h : worldR S w σ) (ha : arR S w σ s p) (hl : (nAir σ).length < 40) (hr : S'.2.2 = S.2.2) (hf : fmR S' (p ((s + (nAir σ).length) % 40)) σ f) (h31 : S'.1 (w + 3) 1 = S.1 (w + 3) 1) (h32 : S'.1 (w + 3) 2 = nI ((nAir σ).length + 1)) (hc : ∀ a, a ≠ w + 3 → a ≠ p ((s + (nAir σ).length) % 40) → S'.1 a = S.1 a ∧ S'.2.1 a = S.2.1 a) : worldR S' w (uAir σ (nAir σ ++ [f])) ∧ wch w S S' := by
  obtain ⟨h1, h2, _, h4, h5, h6, h7, h8⟩ := h
  obtain ⟨g1, g2, g3, g4, g5, g6, g7, g8⟩ := ha
  have hq := g6 ((s + (nAir σ).length) % 40) (by omega)
  have hch : chg (w + 3) (w + 46) S S' := fun a ha => by
    have := hc a (by omega) (by omega)
    exact ⟨this.1, this.2, by rw [hr]⟩
  have hlen : (nAir (uAir σ (nAir σ ++ [f]))).length = (nAir σ).length + 1 := by simp [nAir, uAir]
  refine ⟨⟨wdF_same h1 (fun a q1 q2 => by rw [hr]) (fun k hk => by rw [(hch (dA w k) (by unfold dA; omega)).1]), hdC_same (σ := uAir σ (nAir σ ++ [f])) h2 ⟨(hch w (by omega)).1, (hch w (by omega)).2.1⟩ (hch (w + 1) (by omega)).1 (hch (w + 2) (by omega)).1, ⟨s, p, g1, by rw [h31]; exact g2, by rw [h32, hlen], by rw [hr]; exact g4, fun i hi => by rw [hr]; exact g5 i hi, g6, g7, fun k hk => ?_⟩, fun m hm => (h4 m hm).chg hch (by unfold pA; omega), fun k hk => daC_same (h5 k hk) (hch (dA w k) (by unfold dA; omega)).1 (hch (dA w k) (by unfold dA; omega)).2.1, h6, by rw [hlen]; omega, h8⟩, hch.mono (by omega) (by omega), hr, fun a ha => ?_⟩
  · rw [hlen] at hk
    by_cases e : k = (nAir σ).length
    · subst e
      rw [show (nAir (uAir σ (nAir σ ++ [f]))).getD (nAir σ).length f0 = f by simp [nAir, uAir]]
      exact hf
    · have hk2 : k < (nAir σ).length := by omega
      rw [show (nAir (uAir σ (nAir σ ++ [f]))).getD k f0 = (nAir σ).getD k f0 by simp [nAir, uAir, List.getElem?_append_left hk2]]
      have q := g6 ((s + k) % 40) (by omega)
      have hne : p ((s + k) % 40) ≠ p ((s + (nAir σ).length) % 40) := fun z => by
        have := g7 _ _ (by omega) (by omega) z
        omega
      have := hc (p ((s + k) % 40)) (by omega) hne
      exact fmR_same (g8 k hk2) this.1 this.2
  · rw [g4] at ha
    have ha := Option.some.inj ha
    have q := g6 40 (by omega)
    refine hc a (by omega) (fun z => ?_)
    have := g7 _ _ (by omega) (by omega) (ha.trans z)
    omega
