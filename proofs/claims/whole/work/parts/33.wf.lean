/-! a net as it may be -/
def seOk (s : Nat → Nat) : Prop := (2 ≤ s 0 ∧ s 0 ≤ 8) ∧ (1 ≤ s 1 ∧ s 1 ≤ 7) ∧ (1 ≤ s 2 ∧ s 2 ≤ 6) ∧ (1 ≤ s 3 ∧ s 3 ≤ 6) ∧ (1 ≤ s 4 ∧ s 4 ≤ 4) ∧ (1 ≤ s 5 ∧ s 5 ≤ 20) ∧ (1 ≤ s 6 ∧ s 6 ≤ 9) ∧ s 7 ≤ 3
def lkOk (o : Option (Nat × Nat)) : Prop := ∀ q, o = some q → q.1 < q.2 ∧ q.2 < 8
def daOk (x : Da) : Prop := (aOr x < 8 ∧ aEn x < 8 ∧ aOr x ≠ aEn x ∧ aSt x ≤ 3 ∧ aSh x < 256 ∧ aSv x ≤ 3) ∧ (1 ≤ (aTr x).length ∧ (aTr x ++ (aRe x).tail).Nodup ∧ (∀ y ∈ aTr x, y < 8) ∧ (∀ y ∈ aRe x, y < 8) ∧ (aTr x).getD 0 0 = aOr x) ∧ (aSt x = 1 → 2 ≤ (aRe x).length ∧ (aRe x).getD 0 0 = trL x ∧ (aRe x).getD ((aRe x).length - 1) 0 = aEn x) ∧ (aSt x ≠ 1 → aRe x = [])
def frOk (σ : Net) (b : Nat) (f : Fm) : Prop := (fKi f ≤ 3 ∧ fFr f < 8 ∧ (fRo f).Nodup ∧ ∀ x ∈ fRo f, x < 8) ∧ (fKi f = 0 → fAb f < (nDa σ).length ∧ aSt (dat σ (fAb f)) = 1 ∧ fRo f = [] ∧ fFr f = trL (dat σ (fAb f))) ∧ (fKi f = 1 → fRo f ≠ [] ∧ (fRo f).getD ((fRo f).length - 1) 0 = fFr f ∧ fAb f < 8 ∧ fNu f ≤ b ∧ lkOk (fLk f)) ∧ (fKi f = 2 → fFr f ∈ fRo f ∧ (fRo f).getD 0 0 ≠ fFr f) ∧ (fKi f = 3 → 2 ≤ (fRo f).length ∧ (fRo f).getD 0 0 = fFr f ∧ lkOk (fLk f) ∧ fLk f ≠ none)
def ndOk (s : Nat → Nat) (now b n : Nat) (x : Nd) : Prop := okC (dMap x) (s 2) (dCa x) ∧ (dMap x = false → ∀ e ∈ dCa x, e.getD 0 0 = n) ∧ (dTb x).length ≤ s 3 ∧ (∀ q ∈ dTb x, q.1 < 8 ∧ q.2 ≤ b) ∧ (dBu x).length ≤ s 4 ∧ (dBu x).Nodup ∧ dRq x ≤ b ∧ lkOk (dNw x) ∧ ∀ t k, dAk x t = some k → k ≤ now ∧ t < 8
def upOk (c : Nat) (u : Nat → Nat → Bool) : Prop := ∀ a b, u a b = true → a < c ∧ b < c ∧ a ≠ b ∧ u b a = true
def wfN (σ : Net) (b : Nat) : Prop := seOk (nSe σ) ∧ ((nAir σ).length ≤ 40 ∧ (nDa σ).length ≤ 40) ∧ (∀ n, n < 8 → ndOk (nSe σ) (nNow σ) b n (nNd σ n)) ∧ (∀ f ∈ nAir σ, frOk σ b f) ∧ (∀ x ∈ nDa σ, daOk x) ∧ (((nAir σ).filter (fun f => fKi f = 0)).map fAb).Nodup ∧ upOk (nSe σ 0) (nUp σ) ∧ (∀ n, n < 8 → ∀ d ∈ dBu (nNd σ n), d < (nDa σ).length ∧ aSt (dat σ d) = 0 ∧ aOr (dat σ d) = n ∧ aSi (dat σ d) ≤ nNow σ ∧ (aTr (dat σ d)).length = 1) ∧ nNow σ ≤ 1000 ∧ b < 100000
theorem nodup8 {l : List Nat} (h1 : l.Nodup) (h2 : ∀ x ∈ l, x < 8) : l.length ≤ 8 := by
  have h := h1.length_le_of_subset (l₂ := List.range 8) (fun x hx => List.mem_range.mpr (h2 x hx))
  simpa using h
theorem daOk_len {x : Da} (h : daOk x) : (aTr x).length ≤ 8 ∧ (aRe x).length ≤ 8 := by
  obtain ⟨h1, ⟨h2, h3, h4, h5, h6⟩, h7, h8⟩ := h
  rw [List.nodup_append] at h3
  refine ⟨nodup8 h3.1 h4, ?_⟩
  by_cases hs : aSt x = 1
  · have h9 := nodup8 (l := aTr x ++ (aRe x).tail) (List.nodup_append.mpr h3) (fun y hy => (List.mem_append.mp hy).elim (h4 y) (fun q => h5 y (List.mem_of_mem_tail q)))
    rw [List.length_append, List.length_tail] at h9
    omega
  · rw [h8 hs]; simp
theorem wfN.sz {σ : Net} {b : Nat} (h : wfN σ b) : szN σ := by
  obtain ⟨h1, h2, h3, h4, h5, h6, h7, h8, h9, h10⟩ := h
  refine ⟨h2.1, h2.2, fun n hn => ⟨(h3 n hn).1, ?_, ?_⟩, fun f hf => nodup8 (h4 f hf).1.2.2.1 (h4 f hf).1.2.2.2, fun x hx => daOk_len (h5 x hx)⟩
  · have := (h3 n hn).2.2.1; have := h1.2.2.2.1.2; omega
  · have := (h3 n hn).2.2.2.2.1; have := h1.2.2.2.2.1.2; omega
theorem wfN.da {σ : Net} {b d : Nat} (h : wfN σ b) (hd : d < (nDa σ).length) : daOk (dat σ d) := h.2.2.2.2.1 _ (getD_mem hd)
/-- what serving a data needs of a net -/
def srvOk (σ : Net) (d : Nat) : Prop := d < (nDa σ).length ∧ 1 ≤ (aTr (dat σ d)).length ∧ aOr (dat σ d) < 8 ∧ aEn (dat σ d) < 8 ∧ nSe σ 1 ≤ 7 ∧ ((dBu (nNd σ (aOr (dat σ d)))).length ≤ nSe σ 4 ∧ nSe σ 4 ≤ 4) ∧ ∀ n t, n < 8 → t < 8 → ∀ s, dAk (nNd σ n) t = some s → s < 2 ^ 31
theorem wfN.srv {σ : Net} {b d : Nat} (h : wfN σ b) (hd : d < (nDa σ).length) : srvOk σ d := by
  have hx := h.da hd
  refine ⟨hd, hx.2.1.1, hx.1.1, hx.1.2.1, h.1.2.1.2, ⟨(h.2.2.1 _ hx.1.1).2.2.2.2.1, h.1.2.2.2.2.1.2⟩, fun n t hn _ s hs => ?_⟩
  have := ((h.2.2.1 n hn).2.2.2.2.2.2.2.2 t s hs).1
  have := h.2.2.2.2.2.2.2.2.1
  omega
