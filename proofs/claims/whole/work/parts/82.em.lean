/-! a frame is sent; a data is done; what stays of a net's bounds -/
def emD (S S' : St) (w : Nat) (σ : Net) (a k : Nat) : Prop := S'.2.2 = S.2.2 ∧ S'.1 (w + 3) 1 = S.1 (w + 3) 1 ∧ S'.1 (w + 3) 2 = nI ((nAir σ).length + 1) ∧ S'.1 (w + 2) = upd (S.1 (w + 2)) k (nI (nTa σ k + 1)) ∧ S'.2.1 (w + 2) = S.2.1 (w + 2) ∧ ∀ b, b ≠ w + 3 → b ≠ a → b ≠ w + 2 → S'.1 b = S.1 b ∧ S'.2.1 b = S.2.1 b
theorem em_world {S S' : St} {w s : Nat} {p : Nat → Nat} {σ : Net} {f : Fm} (hw : worldR S w σ) (ha : arR S w σ s p) (hl : (nAir σ).length < 40) (hk : fKi f < 11) (he : emD S S' w σ (p ((s + (nAir σ).length) % 40)) (fKi f)) (hf : fmR S' (p ((s + (nAir σ).length) % 40)) σ f) : worldR S' w (sendF σ f).1 ∧ wch w S S' := by
  obtain ⟨e1, e2, e3, e4, e5, e6⟩ := he
  have hq := ha.2.2.2.2.2.1 ((s + (nAir σ).length) % 40) (by omega)
  generalize hS1 : rowI S' (w + 2) (S.1 (w + 2)) = S1
  have q1 : ∀ b, b ≠ w + 2 → S1.1 b = S'.1 b := fun b hb => by rw [← hS1]; exact rowI_ne _ _ hb
  have q2 : S1.1 (w + 2) = S.1 (w + 2) := by rw [← hS1]; exact rowI_at _ _ _
  have q3 : S1.2 = S'.2 := by rw [← hS1]; rfl
  obtain ⟨g1, g2⟩ := worldR_push (S' := S1) (f := f) hw ha hl (by rw [q3]; exact e1) (fmR_same hf (q1 _ (by omega)) (by rw [q3])) (by rw [q1 _ (by omega)]; exact e2) (by rw [q1 _ (by omega)]; exact e3) (fun b h1 h2 => by
    by_cases c : b = w + 2
    · subst c; exact ⟨q2, by rw [q3]; exact e5⟩
    · rw [q1 b c, q3]; exact e6 b h1 h2 c)
  obtain ⟨g3, g4⟩ := worldR_ta (k := fKi f) g1 hk
  have e7 : setI S1 (w + 2) (fKi f) (nI (nTa (uAir σ (nAir σ ++ [f])) (fKi f) + 1)) = S' := by
    rw [setI_rowI, q2, ← hS1, rowI_rowI]
    show rowI S' (w + 2) (upd (S.1 (w + 2)) (fKi f) (nI (nTa σ (fKi f) + 1))) = S'
    rw [← e4, rowI_self]
  rw [e7] at g3 g4
  refine ⟨?_, g2.tr g4⟩
  unfold sendF
  rw [if_neg (by omega)]
  exact g3
theorem jam_world {S : St} {w : Nat} {σ : Net} {f : Fm} (hw : worldR S w σ) (hl : (nAir σ).length = 40) : worldR (setI S (w + 2) 8 (nI (nTa σ 8 + 1))) w (sendF σ f).1 ∧ wch w S (setI S (w + 2) 8 (nI (nTa σ 8 + 1))) := by
  unfold sendF
  rw [if_pos hl]
  exact worldR_ta hw (by decide)
theorem cvN.da {σ : Net} {d : Nat} {x : Da} (h : cvN σ) (hd : d < (nDa σ).length) (h1 : aOr x = aOr (dat σ d)) (h2 : aEn x = aEn (dat σ d)) : cvN (uDa σ d x) := by
  refine ⟨fun e he => ?_, h.2.1, h.2.2⟩
  rw [len_set] at he
  by_cases c : e = d
  · subst c; rw [dat_eq hd, h1, h2]; exact h.1 e he
  · rw [dat_ne c]; exact h.1 e he
theorem cvN.nd {σ : Net} {n : Nat} {x : Nd} (h : cvN σ) (h1 : nSe σ 0 ≤ n → n < 8 → dCa x = [] ∧ dBu x = [] ∧ ∀ t, dAk x t = none) (h2 : ∀ t, n < 8 → dAk x t ≠ none → t < nSe σ 0) : cvN (uNd σ n x) := by
  refine ⟨h.1, fun m hm hm8 => ?_, fun m t hm ht => ?_⟩
  · show dCa (if m = n then x else nNd σ m) = [] ∧ dBu (if m = n then x else nNd σ m) = [] ∧ ∀ t, dAk (if m = n then x else nNd σ m) t = none
    by_cases c : m = n
    · subst c; rw [if_pos rfl]; exact h1 hm hm8
    · rw [if_neg c]; exact h.2.1 m hm hm8
  · have ht : dAk (if m = n then x else nNd σ m) t ≠ none := ht
    by_cases c : m = n
    · subst c; rw [if_pos rfl] at ht; exact h2 t hm ht
    · rw [if_neg c] at ht; exact h.2.2 m t hm ht
/-- a node that is there -/
theorem cvN.nd' {σ : Net} {n : Nat} {x : Nd} (h : cvN σ) (hn : n < nSe σ 0) (h2 : ∀ t, n < 8 → dAk x t ≠ none → t < nSe σ 0) : cvN (uNd σ n x) := h.nd (fun q => by omega) h2
theorem bts_set (p : Nat → Bool) {t : Nat} (ht : t < 8) : nI (bts p 8) ||| ((1 : Int32) <<< (nI t &&& 31)) = nI (bts (fun x => decide (x = t) || p x) 8) := by
  rw [sh_to t ht, nI_or, bts_or]
  exact congrArg nI (bts_congr (fun j _ => by rw [Bool.or_comm]))
theorem bts_clr (p : Nat → Bool) {t : Nat} (ht : t < 8) : nI (bts p 8) &&& (((1 : Int32) <<< (nI t &&& 31)) ^^^ (-1)) = nI (bts (fun x => p x && !decide (x = t)) 8) := by
  rw [sh_to t ht, bts_not]
theorem bts_tst (p : Nat → Bool) {t : Nat} (ht : t < 8) : (nI (bts p 8) >>> (nI t &&& 31)) &&& 1 = if p t then 1 else 0 := by
  rw [shr1 _ _ (bts_8 p) ht, bts_bit, decide_eq_true ht, Bool.true_and]
/-- facts that a data's cell gives -/
theorem worldR.dc {S : St} {w d : Nat} {σ : Net} (h : worldR S w σ) (hd : d < (nDa σ).length) : daC S (dA w d) (dat σ d) := h.2.2.2.2.1 d hd
theorem worldR.po {S : St} {w n : Nat} {σ : Net} (h : worldR S w σ) (hn : n < 8) : poR S (pA w n) n (nSe σ) (nNd σ n) := h.2.2.2.1 n hn
theorem worldR.l40 {S : St} {w : Nat} {σ : Net} (h : worldR S w σ) : (nAir σ).length ≤ 40 ∧ (nDa σ).length ≤ 40 := h.2.2.2.2.2.2
theorem worldR.cv {S : St} {w : Nat} {σ : Net} (h : worldR S w σ) : cvN σ := h.2.2.2.2.2.1
theorem WLay.po {G : Gc} {w n : Nat} (h : WLay G w) (hn : n < 8) : PoLay G (pA w n) := h.2.2.2.2.2.2.2.2.1 n hn
theorem WLay.dd {G : Gc} {w d : Nat} (h : WLay G w) (hd : d < 40) : dA w d ∈ gL G ∧ gK G (dA w d) = .inl 2 := h.2.2.2.2.2.2.2.2.2 d hd
theorem worldR.nu {S : St} {w d : Nat} {σ : Net} (h : worldR S w σ) (hd : d < 40) : S.1 (dA w d) 0 = nI d := (h.1.2.2.2.2.2.2.2 d hd).2
theorem wch.wd {w : Nat} {S S' : St} {σ : Net} (a : worldR S' w σ) : wdF S' w := a.1
/-- a way's nodes -/
theorem goodW.R {n to : Nat} {wy : List Nat} (h : goodW n to wy) : okR wy := okR.of h.1 h.2.2.2.2
