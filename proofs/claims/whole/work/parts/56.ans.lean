/-! what is asked and answered -/
def inN (v : Int32) (c : Nat) : Option Nat := if 0 ≤ v.toInt ∧ v.toInt.toNat < c then some v.toInt.toNat else none
theorem inN_some {v : Int32} {c k : Nat} (h : inN v c = some k) : k < c ∧ v = nI k := by
  unfold inN at h
  split at h
  · rename_i hq
    cases h
    refine ⟨hq.2, ?_⟩
    rw [i32_eq, nI_toInt (by have := Int32.toInt_lt v; omega)]
    omega
  · cases h
theorem inN_nI {c k : Nat} (hk : k < c) (hc : k < 2 ^ 31) : inN (nI k) c = some k := by
  unfold inN
  rw [nI_toInt hc, if_pos]
  · simp
  · refine ⟨by omega, ?_⟩; simpa using hk
theorem in_iff {v : Int32} {c : Nat} (hc : c < 2 ^ 31) : ((0 : Int32) ≤ v ∧ v ≤ nI c - 1) ↔ inN v c ≠ none := by
  have h1 : (nI c - 1 : Int32).toInt = (c : Int) - 1 := by
    cases c with
    | zero => decide
    | succ k =>
      rw [show (1 : Int32) = nI 1 from rfl, nI_sub (by omega), nI_toInt (by omega)]; omega
  rw [Int32.le_iff_toInt_le, Int32.le_iff_toInt_le, h1]
  have h0 : (0 : Int32).toInt = 0 := by decide
  rw [h0]
  unfold inN
  split
  · rename_i hq; simp; omega
  · rename_i hq; simp; omega
theorem in_if {v : Int32} {c : Nat} (hc : c < 2 ^ 31) : (if (0 : Int32) ≤ v ∧ v ≤ nI c - 1 then (1 : Int32) else 0) = if inN v c = none then 0 else 1 := by
  by_cases h : inN v c = none
  · rw [if_pos h, if_neg]; rw [in_iff hc]; simp [h]
  · rw [if_neg h, if_pos]; rw [in_iff hc]; exact h
def two (σ : Net) (a b : Int32) : Option (Nat × Nat) := match inN a (nSe σ 0), inN b (nSe σ 0) with
  | some x, some y => if x = y then none else some (x, y)
  | _, _ => none
theorem two_some {σ : Net} {a b : Int32} {x y : Nat} (h : two σ a b = some (x, y)) : a = nI x ∧ b = nI y ∧ x < nSe σ 0 ∧ y < nSe σ 0 ∧ x ≠ y := by
  unfold two at h
  split at h
  · rename_i p q hp hq
    split at h
    · cases h
    · rename_i hne
      cases h
      exact ⟨(inN_some hp).2, (inN_some hq).2, (inN_some hp).1, (inN_some hq).1, hne⟩
  · cases h
theorem opt_ex {α : Type} {o : Option α} (h : o ≠ none) : ∃ x, o = some x := by
  cases o with
  | none => exact absurd rfl h
  | some x => exact ⟨x, rfl⟩
def bts (p : Nat → Bool) : Nat → Nat
  | 0 => 0
  | k + 1 => bts p k ||| if p k then 1 <<< k else 0
theorem bts_lt (p : Nat → Bool) : ∀ k, bts p k < 2 ^ k
  | 0 => by simp [bts]
  | k + 1 => by
    unfold bts
    refine Nat.or_lt_two_pow (Nat.lt_of_lt_of_le (bts_lt p k) (Nat.pow_le_pow_right (by decide) (by omega))) ?_
    split
    · rw [Nat.one_shiftLeft]; exact Nat.pow_lt_pow_right (by decide) (by omega)
    · exact Nat.two_pow_pos _
def cnB (p : Nat → Bool) : Nat → Nat
  | 0 => 0
  | k + 1 => cnB p k + if p k then 1 else 0
theorem cnB_le (p : Nat → Bool) : ∀ k, cnB p k ≤ k
  | 0 => Nat.le_refl _
  | k + 1 => by have := cnB_le p k; unfold cnB; split <;> omega
def tkN_ (k : Nat) (σ : Net) : Net := iterN (fun _ τ => tickN τ) k σ
def uUp (σ : Net) (x y : Nat) (v : Bool) : Net := (σ.1, σ.2.1, σ.2.2.1, (fun p q => if (p = x ∧ q = y) ∨ (p = y ∧ q = x) then v else σ.2.2.2.1 p q), σ.2.2.2.2)
def aSend (σ : Net) (a b : Int32) : Int32 × Net := match two σ a b with
  | some (x, y) => if (nDa σ).length < 40 then (nI (nDa σ).length, comeN σ x y) else (-1, σ)
  | none => (-1, σ)
def aTurn (σ : Net) (a b : Int32) (d : Bool) : Bool × Net := match two σ a b with
  | some (x, y) => if nUp σ x y = d then (true, uUp σ x y (!nUp σ x y)) else (false, σ)
  | none => (false, σ)
def aTicks (σ : Net) (n : Int32) : Int32 × Net := match inN n 7 with
  | some k => if 1 ≤ k ∧ nNow σ + k ≤ 900 then (nI (nNow σ + k), tkN_ k σ) else (-1, σ)
  | none => (-1, σ)
def aHas (σ : Net) (w : Int32) : Int32 := match inN w 12 with
  | some k => if k = 8 then nI (nNow σ) else if k = 9 then nI (nDa σ).length else if k = 10 then nI (nAir σ).length else nI (nSe σ k)
  | none => -1
def ndW (σ : Net) (n w : Nat) : Int32 := match w with
  | 0 => if dMap (nNd σ n) then 1 else 0
  | 1 => if dLis (nNd σ n) then 1 else 0
  | 2 => nI (dCa (nNd σ n)).length
  | 3 => nI (dBu (nNd σ n)).length
  | 4 => nI (dRq (nNd σ n))
  | 5 => lkN (dNw (nNd σ n))
  | 6 => nI (dTb (nNd σ n)).length
  | 7 => nI (bts (fun t => decide (dAk (nNd σ n) t ≠ none)) (nSe σ 0))
  | 8 => nI (bts (fun t => decide (wayN σ n t ≠ [])) (nSe σ 0))
  | _ => nI (bts (fun t => decide (t ≠ n ∧ nUp σ n t = true)) (nSe σ 0))
def aNode (σ : Net) (n w : Int32) : Int32 := match inN n (nSe σ 0), inN w 10 with
  | some x, some y => ndW σ x y
  | _, _ => -2
def nth (l : List Nat) (i : Int32) : Int32 := match inN i l.length with
  | some j => nI (l.getD j 0)
  | none => -1
def aKept (σ : Net) (n k i : Int32) : Int32 := match inN n (nSe σ 0) with
  | some x => match inN k (dCa (nNd σ x)).length with
    | some p => nth ((dCa (nNd σ x)).getD p []) i
    | none => -1
  | none => -1
def aSeen (σ : Net) (n k : Int32) : Int32 := match inN n (nSe σ 0) with
  | some x => match inN k (dTb (nNd σ x)).length with
    | some p => nI (100000 * ((dTb (nNd σ x)).getD p (0, 0)).1 + ((dTb (nNd σ x)).getD p (0, 0)).2)
    | none => -1
  | none => -1
def aWaits (σ : Net) (n k : Int32) : Int32 := match inN n (nSe σ 0) with
  | some x => nth (dBu (nNd σ x)) k
  | none => -1
def aWay (σ : Net) (a b i : Int32) : Int32 := match two σ a b with
  | some (x, y) => nth (wayN σ x y) i
  | none => -1
def aHops (σ : Net) (a b : Int32) : Int32 := match two σ a b with
  | some (x, y) => if wayN σ x y = [] then -1 else nI ((wayN σ x y).length - 1)
  | none => -1
def daW (x : Da) (w : Nat) : Int32 := match w with
  | 0 => nI (aOr x)
  | 1 => nI (aEn x)
  | 2 => nI (aSt x)
  | 3 => nI (aSv x)
  | 4 => nI (aTr x).length
  | 5 => nI (aRe x).length
  | 6 => nI (aCm x)
  | 7 => akN (aDo x)
  | _ => nI (aSh x)
def aDat (x : Da) (w : Int32) : Int32 := match inN w 9 with
  | some k => daW x k
  | none => -2
def aData (σ : Net) (d w : Int32) : Int32 := match inN d (nDa σ).length with
  | some k => aDat (dat σ k) w
  | none => -2
def aTrail (σ : Net) (d i : Int32) (r : Bool) : Int32 := match inN d (nDa σ).length with
  | some k => nth (if r then aRe (dat σ k) else aTr (dat σ k)) i
  | none => -1
def whom (σ : Net) (f : Fm) : Int32 := if fKi f = 0 then nI ((aRe (dat σ (fAb f))).getD 1 0) else if fKi f = 1 then -1 else nI ((fRo f).getD (if fKi f = 2 then (fRo f).idxOf (fFr f) - 1 else (fRo f).idxOf (fFr f) + 1) 0)
def whatF (f : Fm) : Int32 := if fKi f = 2 then nI ((fRo f).getD ((fRo f).length - 1) 0) else if fKi f = 3 then lkN (fLk f) else nI (fAb f)
def frW (σ : Net) (f : Fm) (w : Nat) : Int32 := match w with
  | 0 => nI (fKi f)
  | 1 => nI (fFr f)
  | 2 => whom σ f
  | 3 => whatF f
  | 4 => if fKi f = 1 then nI (fNu f) else -1
  | _ => if fKi f = 1 then lkN (fLk f) else -1
def aAir (σ : Net) (k w : Int32) : Int32 := match inN k (nAir σ).length, inN w 6 with
  | some i, some y => frW σ ((nAir σ).getD i f0) y
  | _, _ => -2
def frL (σ : Net) (f : Fm) : List Nat := if fKi f = 0 then aRe (dat σ (fAb f)) else fRo f
def aRow (σ : Net) (k i : Int32) : Int32 := match inN k (nAir σ).length with
  | some j => nth (frL σ ((nAir σ).getD j f0)) i
  | none => -1
def aTally (σ : Net) (w : Int32) : Int32 := match inN w 11 with
  | some k => nI (nTa σ k)
  | none => -1
def dst1 (d : Nat) : Int32 := if d < 99 then nI d else -1
def aFar (σ : Net) (a b : Int32) : Int32 := match inN a (nSe σ 0), inN b (nSe σ 0) with
  | some x, some y => dst1 (dst (nUp σ) y x)
  | _, _ => -1
def aHolders (σ : Net) (a b : Int32) : Int32 := match two σ a b with
  | some (x, y) => nI (bts (fun n => kn (dCa (nNd σ n)) x y) (nSe σ 0))
  | none => -1
def aStale (σ : Net) (n : Int32) : Int32 := match inN n (nSe σ 0) with
  | some x => nI (cnB (fun k => kn (dCa (nNd σ x)) (k / 8) (k % 8) && decide (k / 8 < k % 8) && !nUp σ (k / 8) (k % 8)) 64)
  | none => -1
def chnB (f : Nat → Nat → Bool) (w : List Nat) : Nat → Bool
  | 0 => true
  | k + 1 => chnB f w k && f (w.getD k 0) (w.getD (k + 1) 0)
def aSound (σ : Net) (a b : Int32) : Bool := match two σ a b with
  | some (x, y) => decide (wayN σ x y ≠ []) && chnB (nUp σ) (wayN σ x y) ((wayN σ x y).length - 1)
  | none => false
def aMapped (σ : Net) (a b : Int32) : Int32 := match two σ a b with
  | some (x, y) => if dst (kn (dCa (nNd σ x))) y x ≤ nSe σ 1 then nI (dst (kn (dCa (nNd σ x))) y x) else -1
  | none => -1
def lessL (f : Nat → Nat → Bool) (x y : Nat) : Nat → Nat → Bool := fun p q => if (p = x ∧ q = y) ∨ (p = y ∧ q = x) then false else f p q
def aBridges (σ : Net) (a b : Int32) : Int32 := match two σ a b with
  | some (x, y) => if dst (nUp σ) y x < 99 then nI (cnB (fun k => decide (k / 8 < k % 8) && nUp σ (k / 8) (k % 8) && decide (99 ≤ dst (lessL (nUp σ) (k / 8) (k % 8)) y x)) 64) else 0
  | none => -1
def cntA (σ : Net) (w : Nat) : Int32 := if w < 11 then nI (nTa σ w) else if w = 11 then nI (nAir σ).length else nI (cnB (fun d => decide (aSt (dat σ d) = 0)) (nDa σ).length)
def aAhead (σ : Net) (t w : Int32) : Int32 := match inN t 7, inN w 13 with
  | some k, some y => cntA (tkN_ k σ) y
  | _, _ => -1
def aTurned (σ : Net) (a b t w : Int32) : Int32 := match two σ a b with
  | some (x, y) => aAhead (uUp σ x y (!nUp σ x y)) t w
  | none => -1
def aSent (σ : Net) (a b t w : Int32) : Int32 := match two σ a b with
  | some (x, y) => if (nDa σ).length < 40 then (match inN t 7 with
    | some k => aDat (dat (tkN_ k (comeN σ x y)) (nDa σ).length) w
    | none => -2) else -2
  | none => -2
def reqB (σ : Net) : Bool := (nAir σ).any (fun f => decide (fKi f = 1))
/-- arrivals alone, as long as a request is there -/
def flA : Nat → Net → Net
  | 0, σ => σ
  | k + 1, σ => if reqB σ then flA k (arrAll σ) else σ
def fl0 (σ : Net) (x y : Nat) : Net := ask (uAir σ []) x y
def aFlood (σ : Net) (a b : Int32) (r : Bool) : Int32 := match two σ a b with
  | some (x, y) => nI (nTa (flA 20 (fl0 σ x y)) (if r then 2 else 1)) - nI (nTa σ (if r then 2 else 1))
  | none => -1
def quB (σ : Net) : Bool := decide ((nAir σ).length = 0) && decide (cnB (fun d => decide (aSt (dat σ d) = 0)) (nDa σ).length = 0)
def quN : Nat → Nat → Net → Int32
  | 0, _, _ => -1
  | k + 1, n, σ => if quB σ then nI n else quN k (n + 1) (tickN σ)
def aQuiet (σ : Net) : Int32 := quN 13 0 σ
