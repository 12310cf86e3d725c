/-! the net: its parts, and how the reference's row holds it -/
abbrev Nd : Type := Bool × Bool × List (List Nat) × List (Nat × Nat) × List Nat × Nat × Option (Nat × Nat) × (Nat → Option Nat)
abbrev Fm : Type := Nat × Nat × Nat × Nat × Option (Nat × Nat) × List Nat
abbrev Da : Type := Nat × Nat × Nat × Nat × List Nat × List Nat × Nat × Option Nat × Nat × Nat
abbrev Net : Type := (Nat → Nat) × Nat × (Nat → Nat) × (Nat → Nat → Bool) × (Nat → Nd) × List Fm × List Da
abbrev dMap (x : Nd) : Bool := x.1
abbrev dLis (x : Nd) : Bool := x.2.1
abbrev dCa (x : Nd) : List (List Nat) := x.2.2.1
abbrev dTb (x : Nd) : List (Nat × Nat) := x.2.2.2.1
abbrev dBu (x : Nd) : List Nat := x.2.2.2.2.1
abbrev dRq (x : Nd) : Nat := x.2.2.2.2.2.1
abbrev dNw (x : Nd) : Option (Nat × Nat) := x.2.2.2.2.2.2.1
abbrev dAk (x : Nd) : Nat → Option Nat := x.2.2.2.2.2.2.2
abbrev fKi (f : Fm) : Nat := f.1
abbrev fFr (f : Fm) : Nat := f.2.1
abbrev fAb (f : Fm) : Nat := f.2.2.1
abbrev fNu (f : Fm) : Nat := f.2.2.2.1
abbrev fLk (f : Fm) : Option (Nat × Nat) := f.2.2.2.2.1
abbrev fRo (f : Fm) : List Nat := f.2.2.2.2.2
abbrev aOr (d : Da) : Nat := d.1
abbrev aEn (d : Da) : Nat := d.2.1
abbrev aSt (d : Da) : Nat := d.2.2.1
abbrev aSv (d : Da) : Nat := d.2.2.2.1
abbrev aTr (d : Da) : List Nat := d.2.2.2.2.1
abbrev aRe (d : Da) : List Nat := d.2.2.2.2.2.1
abbrev aCm (d : Da) : Nat := d.2.2.2.2.2.2.1
abbrev aDo (d : Da) : Option Nat := d.2.2.2.2.2.2.2.1
abbrev aSh (d : Da) : Nat := d.2.2.2.2.2.2.2.2.1
abbrev aSi (d : Da) : Nat := d.2.2.2.2.2.2.2.2.2
abbrev nSe (σ : Net) : Nat → Nat := σ.1
abbrev nNow (σ : Net) : Nat := σ.2.1
abbrev nTa (σ : Net) : Nat → Nat := σ.2.2.1
abbrev nUp (σ : Net) : Nat → Nat → Bool := σ.2.2.2.1
abbrev nNd (σ : Net) : Nat → Nd := σ.2.2.2.2.1
abbrev nAir (σ : Net) : List Fm := σ.2.2.2.2.2.1
abbrev nDa (σ : Net) : List Da := σ.2.2.2.2.2.2
def d0 : Da := (0, 0, 0, 0, [], [], 0, none, 0, 0)
def f0 : Fm := (0, 0, 0, 0, none, [])
abbrev dat (σ : Net) (d : Nat) : Da := (nDa σ).getD d d0
def uTa (σ : Net) (k : Nat) : Net := (σ.1, σ.2.1, updN σ.2.2.1 k (σ.2.2.1 k + 1), σ.2.2.2)
def uNd (σ : Net) (n : Nat) (x : Nd) : Net := (σ.1, σ.2.1, σ.2.2.1, σ.2.2.2.1, (fun m => if m = n then x else σ.2.2.2.2.1 m), σ.2.2.2.2.2)
def uAir (σ : Net) (l : List Fm) : Net := (σ.1, σ.2.1, σ.2.2.1, σ.2.2.2.1, σ.2.2.2.2.1, l, σ.2.2.2.2.2.2)
def uDa (σ : Net) (d : Nat) (x : Da) : Net := (σ.1, σ.2.1, σ.2.2.1, σ.2.2.2.1, σ.2.2.2.2.1, σ.2.2.2.2.2.1, σ.2.2.2.2.2.2.set d x)
def akN (x : Option Nat) : Int32 := match x with
  | none => -1
  | some s => nI s
def bN (b : Bool) : Int32 := if b then 1 else 0
def hdR (A : Nat → Int32) (σ : Net) : Prop := (∀ k, (k < 8 ∨ (11 ≤ k ∧ k < 14) ∨ 2457 ≤ k) → A k = nI (nSe σ k)) ∧ A 8 = nI (nNow σ) ∧ A 9 = nI (nDa σ).length ∧ A 10 = nI (nAir σ).length ∧ (∀ k, k < 11 → A (14 + k) = nI (nTa σ k)) ∧ ∀ a b, a < 8 → b < 8 → A (25 + 8 * a + b) = if nUp σ a b then 1 else 0
def ndR (A : Nat → Int32) (n : Nat) (x : Nd) : Prop := A (89 + 86 * n + 0) = (if dMap x then 1 else 0) ∧ A (89 + 86 * n + 1) = (if dLis x then 1 else 0) ∧ cacheR A n (dMap x) (dCa x) ∧ A (89 + 86 * n + 3) = nI (dBu x).length ∧ A (89 + 86 * n + 4) = nI (dRq x) ∧ A (89 + 86 * n + 5) = lkN (dNw x) ∧ A (89 + 86 * n + 6) = nI (dTb x).length ∧ (∀ t, t < 8 → A (89 + 86 * n + (7 + t)) = akN (dAk x t)) ∧ (∀ k, k < (dTb x).length → A (89 + 86 * n + (69 + 2 * k)) = nI ((dTb x).getD k (0, 0)).1 ∧ A (89 + 86 * n + (69 + 2 * k + 1)) = nI ((dTb x).getD k (0, 0)).2) ∧ ∀ k, k < (dBu x).length → A (89 + 86 * n + (81 + k)) = nI ((dBu x).getD k 0)
def fwd_ (f : Fm) (w : Nat) : Int32 := match w with
  | 0 => nI (fKi f)
  | 1 => nI (fFr f)
  | 2 => if fKi f ≤ 1 then nI (fAb f) else -1
  | 3 => if fKi f = 1 then nI (fNu f) else -1
  | 4 => if fKi f = 1 then lkN (fLk f) else -1
  | 5 => if fKi f = 3 then lkN (fLk f) else -1
  | _ => nI (fRo f).length
def frS (F : Nat → Int32) (f : Fm) : Prop := (∀ w, w < 7 → F w = fwd_ f w) ∧ ∀ i, i < (fRo f).length → F (7 + i) = nI ((fRo f).getD i 0)
def daR (A : Nat → Int32) (d : Nat) (x : Da) : Prop := A (1417 + 26 * d + 0) = nI (aOr x) ∧ A (1417 + 26 * d + 1) = nI (aEn x) ∧ A (1417 + 26 * d + 2) = nI (aSt x) ∧ A (1417 + 26 * d + 3) = nI (aSv x) ∧ A (1417 + 26 * d + 4) = nI (aTr x).length ∧ A (1417 + 26 * d + 5) = nI (aRe x).length ∧ A (1417 + 26 * d + 6) = nI (aCm x) ∧ A (1417 + 26 * d + 7) = akN (aDo x) ∧ A (1417 + 26 * d + 8) = nI (aSh x) ∧ (aSt x = 0 → A (1417 + 26 * d + 9) = nI (aSi x)) ∧ (∀ i, i < (aTr x).length → A (1417 + 26 * d + (10 + i)) = nI ((aTr x).getD i 0)) ∧ ∀ i, i < (aRe x).length → A (1417 + 26 * d + (18 + i)) = nI ((aRe x).getD i 0)
def netR (A : Nat → Int32) (σ : Net) : Prop := hdR A σ ∧ (∀ n, n < 8 → ndR A n (nNd σ n)) ∧ (∀ k, k < (nAir σ).length → frS (fun w => A (777 + 16 * k + w)) ((nAir σ).getD k f0)) ∧ ∀ d, d < (nDa σ).length → daR A d (dat σ d)
/-- the sizes that a net keeps to -/
def szN (σ : Net) : Prop := (nAir σ).length ≤ 40 ∧ (nDa σ).length ≤ 40 ∧ (∀ n, n < 8 → okC (dMap (nNd σ n)) (nSe σ 2) (dCa (nNd σ n)) ∧ (dTb (nNd σ n)).length ≤ 6 ∧ (dBu (nNd σ n)).length ≤ 4) ∧ (∀ f ∈ nAir σ, (fRo f).length ≤ 8) ∧ ∀ x ∈ nDa σ, (aTr x).length ≤ 8 ∧ (aRe x).length ≤ 8
theorem cacheR_same {A A' : Nat → Int32} {n : Nat} {mp : Bool} {c : List (List Nat)} (hc : cacheR A n mp c) (h8 : ∀ e ∈ c, e.length ≤ 8) (hw : wdt mp * c.length ≤ 54) (h : ∀ i, 89 + 86 * n ≤ i → i < 89 + 86 * n + 86 → A' i = A i) : cacheR A' n mp c := by
  refine ⟨by rw [h _ (by omega) (by omega)]; exact hc.1, fun k hk => entR_eq (hc.2 k hk) (h8 _ (getD_mem hk)) (fun j hj => h _ (by omega) ?_)⟩
  have : wdt mp * (k + 1) ≤ wdt mp * c.length := Nat.mul_le_mul_left _ hk
  rw [Nat.mul_add] at this
  omega
theorem ndR_same {A A' : Nat → Int32} {n : Nat} {x : Nd} {room : Nat} (hx : ndR A n x) (hok : okC (dMap x) room (dCa x)) (ht : (dTb x).length ≤ 6) (hb : (dBu x).length ≤ 4) (h : ∀ i, 89 + 86 * n ≤ i → i < 89 + 86 * n + 86 → A' i = A i) : ndR A' n x := by
  obtain ⟨h1, h2, h3, h4, h5, h6, h7, h8, h9, h10⟩ := hx
  exact ⟨by rw [h _ (by omega) (by omega)]; exact h1, by rw [h _ (by omega) (by omega)]; exact h2, cacheR_same h3 hok.len hok.w h, by rw [h _ (by omega) (by omega)]; exact h4, by rw [h _ (by omega) (by omega)]; exact h5, by rw [h _ (by omega) (by omega)]; exact h6, by rw [h _ (by omega) (by omega)]; exact h7, fun t q => by rw [h _ (by omega) (by omega)]; exact h8 t q, fun k q => by rw [h _ (by omega) (by omega), h _ (by omega) (by omega)]; exact h9 k q, fun k q => by rw [h _ (by omega) (by omega)]; exact h10 k q⟩
theorem frS_same {F F' : Nat → Int32} {f : Fm} (hf : frS F f) (hl : (fRo f).length ≤ 8) (h : ∀ w, w < 15 → F' w = F w) : frS F' f := ⟨fun w hw => by rw [h w (by omega)]; exact hf.1 w hw, fun i hi => by rw [h _ (by omega)]; exact hf.2 i hi⟩
theorem daR_same {A A' : Nat → Int32} {d : Nat} {x : Da} (hx : daR A d x) (h1 : (aTr x).length ≤ 8) (h2 : (aRe x).length ≤ 8) (h : ∀ i, 1417 + 26 * d ≤ i → i < 1417 + 26 * d + 26 → A' i = A i) : daR A' d x := by
  obtain ⟨g1, g2, g3, g4, g5, g6, g7, g8, g9, g10, g11, g12⟩ := hx
  exact ⟨by rw [h _ (by omega) (by omega)]; exact g1, by rw [h _ (by omega) (by omega)]; exact g2, by rw [h _ (by omega) (by omega)]; exact g3, by rw [h _ (by omega) (by omega)]; exact g4, by rw [h _ (by omega) (by omega)]; exact g5, by rw [h _ (by omega) (by omega)]; exact g6, by rw [h _ (by omega) (by omega)]; exact g7, by rw [h _ (by omega) (by omega)]; exact g8, by rw [h _ (by omega) (by omega)]; exact g9, fun q => by rw [h _ (by omega) (by omega)]; exact g10 q, fun i q => by rw [h _ (by omega) (by omega)]; exact g11 i q, fun i q => by rw [h _ (by omega) (by omega)]; exact g12 i q⟩
theorem hdR_same {A A' : Nat → Int32} {σ : Net} (hx : hdR A σ) (h : ∀ i, (i < 89 ∨ 2457 ≤ i) → A' i = A i) : hdR A' σ := by
  obtain ⟨h1, h2, h3, h4, h5, h6⟩ := hx
  exact ⟨fun k hk => by rw [h _ (by omega)]; exact h1 k hk, by rw [h _ (by omega)]; exact h2, by rw [h _ (by omega)]; exact h3, by rw [h _ (by omega)]; exact h4, fun k hk => by rw [h _ (by omega)]; exact h5 k hk, fun a b ha hb => by rw [h _ (by omega)]; exact h6 a b ha hb⟩
theorem air_getD {σ : Net} (hs : szN σ) {k : Nat} (hk : k < (nAir σ).length) : (fRo ((nAir σ).getD k f0)).length ≤ 8 := hs.2.2.2.1 _ (getD_mem hk)
theorem dat_len {σ : Net} (hs : szN σ) {d : Nat} (hd : d < (nDa σ).length) : (aTr (dat σ d)).length ≤ 8 ∧ (aRe (dat σ d)).length ≤ 8 := hs.2.2.2.2 _ (getD_mem hd)
/-- one node's part has changed -/
theorem netR_nd {A A' : Nat → Int32} {σ : Net} {n : Nat} {x : Nd} (hR : netR A σ) (hs : szN σ) (hn : n < 8) (hx : ndR A' n x) (h : ∀ i, ¬ (89 + 86 * n ≤ i ∧ i < 89 + 86 * n + 86) → A' i = A i) : netR A' (uNd σ n x) := by
  obtain ⟨h1, h2, h3, h4⟩ := hR
  refine ⟨hdR_same (σ := uNd σ n x) h1 (fun i hi => h i (by omega)), fun m hm => ?_, fun k hk => ?_, fun d hd => ?_⟩
  · by_cases hmn : m = n
    · subst hmn; simp only [nNd, uNd, if_true]; exact hx
    · simp only [nNd, uNd, if_neg hmn]
      exact ndR_same (h2 m hm) (hs.2.2.1 m hm).1 (hs.2.2.1 m hm).2.1 (hs.2.2.1 m hm).2.2 (fun i q1 q2 => h i (by omega))
  · exact frS_same (h3 k hk) (air_getD hs hk) (fun w hw => h _ (by have := hs.1; have : k < (nAir σ).length := hk; omega))
  · exact daR_same (h4 d hd) (dat_len hs hd).1 (dat_len hs hd).2 (fun i q1 q2 => h i (by have := hs.2.1; have : d < (nDa σ).length := hd; omega))
/-- one data's part has changed -/
theorem netR_da {A A' : Nat → Int32} {σ : Net} {d : Nat} {x : Da} (hR : netR A σ) (hs : szN σ) (hd : d < (nDa σ).length) (hx : daR A' d x) (h : ∀ i, ¬ (1417 + 26 * d ≤ i ∧ i < 1417 + 26 * d + 26) → A' i = A i) : netR A' (uDa σ d x) := by
  obtain ⟨h1, h2, h3, h4⟩ := hR
  have hd40 := hs.2.1
  refine ⟨?_, fun m hm => ?_, fun k hk => ?_, fun e he => ?_⟩
  · have := hdR_same (σ := σ) (A' := A') h1 (fun i hi => h i (by omega))
    obtain ⟨g1, g2, g3, g4⟩ := this
    exact ⟨g1, g2, by rw [g3]; simp [nDa, uDa], g4⟩
  · exact ndR_same (h2 m hm) (hs.2.2.1 m hm).1 (hs.2.2.1 m hm).2.1 (hs.2.2.1 m hm).2.2 (fun i q1 q2 => h i (by omega))
  · exact frS_same (h3 k hk) (air_getD hs hk) (fun w hw => h _ (by have := hs.1; have : k < (nAir σ).length := hk; omega))
  · have he' : e < (nDa σ).length := by simpa [nDa, uDa] using he
    by_cases hed : e = d
    · subst hed
      have : dat (uDa σ e x) e = x := by simp [nDa, uDa, he']
      rw [this]; exact hx
    · have : dat (uDa σ d x) e = dat σ e := by simp [nDa, uDa, List.getElem?_set_ne (Ne.symm hed)]
      rw [this]
      exact daR_same (h4 e he') (dat_len hs he').1 (dat_len hs he').2 (fun i q1 q2 => h i (by omega))
/-- a tally grows -/
theorem netR_ta {A : Nat → Int32} {σ : Net} {k : Nat} (hR : netR A σ) (hs : szN σ) (hk : k < 11) : netR (upd A (14 + k) (A (14 + k) + 1)) (uTa σ k) := by
  obtain ⟨h1, h2, h3, h4⟩ := hR
  have hd40 := hs.2.1
  have ha40 := hs.1
  obtain ⟨g1, g2, g3, g4, g5, g6⟩ := h1
  refine ⟨⟨fun j hj => by rw [upd_ne _ _ (by omega)]; exact g1 j hj, by rw [upd_ne _ _ (by omega)]; exact g2, by rw [upd_ne _ _ (by omega)]; exact g3, by rw [upd_ne _ _ (by omega)]; exact g4, fun j hj => ?_, fun a b ha hb => by rw [upd_ne _ _ (by omega)]; exact g6 a b ha hb⟩, fun m hm => ?_, fun j hj => ?_, fun d hd => ?_⟩
  · by_cases hjk : j = k
    · subst hjk; rw [upd_at, g5 j hj, nI_1]; simp [nTa, uTa, updN]
    · rw [upd_ne _ _ (by omega), g5 j hj]; simp [nTa, uTa, updN, hjk]
  · exact ndR_same (h2 m hm) (hs.2.2.1 m hm).1 (hs.2.2.1 m hm).2.1 (hs.2.2.1 m hm).2.2 (fun i q1 q2 => upd_ne _ _ (by omega))
  · exact frS_same (h3 j hj) (air_getD hs hj) (fun w hw => upd_ne _ _ (by omega))
  · exact daR_same (h4 d hd) (dat_len hs hd).1 (dat_len hs hd).2 (fun i q1 q2 => upd_ne _ _ (by omega))
/-- a frame comes into the air -/
theorem netR_push {A A' : Nat → Int32} {σ : Net} {f : Fm} (hR : netR A σ) (hs : szN σ) (hl : (nAir σ).length < 40) (hf : frS (fun w => A' (777 + 16 * (nAir σ).length + w)) f) (h10 : A' 10 = nI ((nAir σ).length + 1)) (h : ∀ i, i ≠ 10 → ¬ (777 + 16 * (nAir σ).length ≤ i ∧ i < 777 + 16 * (nAir σ).length + 16) → A' i = A i) : netR A' (uAir σ (nAir σ ++ [f])) := by
  obtain ⟨h1, h2, h3, h4⟩ := hR
  have hd40 := hs.2.1
  obtain ⟨g1, g2, g3, g4, g5, g6⟩ := h1
  refine ⟨⟨fun j hj => by rw [h _ (by omega) (by omega)]; exact g1 j hj, by rw [h _ (by omega) (by omega)]; exact g2, by rw [h _ (by omega) (by omega)]; exact g3, by rw [h10]; simp [nAir, uAir], fun j hj => by rw [h _ (by omega) (by omega)]; exact g5 j hj, fun a b ha hb => by rw [h _ (by omega) (by omega)]; exact g6 a b ha hb⟩, fun m hm => ?_, fun j hj => ?_, fun d hd => ?_⟩
  · exact ndR_same (h2 m hm) (hs.2.2.1 m hm).1 (hs.2.2.1 m hm).2.1 (hs.2.2.1 m hm).2.2 (fun i q1 q2 => h i (by omega) (by omega))
  · have hj' : j < (nAir σ).length + 1 := by simpa [nAir, uAir] using hj
    by_cases hjl : j = (nAir σ).length
    · subst hjl
      have : (nAir (uAir σ (nAir σ ++ [f]))).getD (nAir σ).length f0 = f := by simp [nAir, uAir]
      rw [this]; exact hf
    · have hlt : j < (nAir σ).length := by omega
      have : (nAir (uAir σ (nAir σ ++ [f]))).getD j f0 = (nAir σ).getD j f0 := by simp [nAir, uAir, List.getElem?_append_left hlt]
      rw [this]
      exact frS_same (h3 j hlt) (air_getD hs hlt) (fun w hw => h _ (by omega) (by omega))
  · exact daR_same (h4 d hd) (dat_len hs hd).1 (dat_len hs hd).2 (fun i q1 q2 => h i (by omega) (by omega))
