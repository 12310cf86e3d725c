/-! what the net is, in lists: caches -/
def ins (most : Nat) (e : List Nat) (c : List (List Nat)) : List (List Nat) := (e :: c.erase e).take most
def lnk (a b : Nat) : List Nat := [min a b, max a b]
def insL (most : Nat) : List Nat → List (List Nat) → List (List Nat)
  | a :: b :: t, c => insL most (b :: t) (ins most (lnk a b) c)
  | _, c => c
def learnL (mp : Bool) (hops room : Nat) (L : List Nat) (c : List (List Nat)) : List (List Nat) :=
  if (L.take (hops + 1)).length < 2 then c else if mp then insL (3 * room) (L.take (hops + 1)) c else ins room (L.take (hops + 1)) c
def cutAt (a b : Nat) : List Nat → List Nat
  | x :: y :: t => if (x = a ∧ y = b) ∨ (x = b ∧ y = a) then [x] else x :: cutAt a b (y :: t)
  | l => l
/-- those of two and more that are not among those ahead -/
def keepL (acc : List (List Nat)) : List (List Nat) → List (List Nat)
  | [] => acc
  | e :: t => if e.length < 2 ∨ e ∈ acc then keepL acc t else keepL (acc ++ [e]) t
def forgetL (mp : Bool) (a b : Nat) (c : List (List Nat)) : List (List Nat) := if mp then c.erase (lnk a b) else keepL [] (c.map (cutAt a b))
def wayP (to : Nat) (w : List Nat) : List (List Nat) → List Nat
  | [] => w
  | p :: t => wayP to (if 0 < p.idxOf to ∧ p.idxOf to < p.length ∧ (w = [] ∨ p.idxOf to + 1 < w.length) then p.take (p.idxOf to + 1) else w) t
/-- how an entry lies: a link as two, a path as its length and its nodes -/
def entR (mp : Bool) (f : Nat → Int32) (e : List Nat) : Prop := if mp then e.length = 2 ∧ f 0 = nI (e.getD 0 0) ∧ f 1 = nI (e.getD 1 0) else f 0 = nI e.length ∧ ∀ i, i < e.length → f (1 + i) = nI (e.getD i 0)
def wdt (mp : Bool) : Nat := if mp then 2 else 9
/-- a cache in the reference's row: node n's -/
def cacheR (A : Nat → Int32) (n : Nat) (mp : Bool) (c : List (List Nat)) : Prop := A (89 + 86 * n + 2) = nI c.length ∧ ∀ k, k < c.length → entR mp (fun j => A (89 + 86 * n + 15 + wdt mp * k + j)) (c.getD k [])
/-- nothing but node n's cache has changed -/
def chC (A A' : Nat → Int32) (n : Nat) : Prop := ∀ i, i ≠ 89 + 86 * n + 2 → ¬ (89 + 86 * n + 15 ≤ i ∧ i < 89 + 86 * n + 69) → A' i = A i
theorem chC.rf {A : Nat → Int32} {n : Nat} : chC A A n := fun _ _ _ => rfl
theorem chC.tr {A B D : Nat → Int32} {n : Nat} (h1 : chC A B n) (h2 : chC B D n) : chC A D n := fun i a b => (h2 i a b).trans (h1 i a b)
/-- paths and links as they may be -/
def okE (mp : Bool) (e : List Nat) : Prop := e.length ≤ 8 ∧ 2 ≤ e.length ∧ (∀ x ∈ e, x < 8) ∧ e.Nodup ∧ (mp = true → e.length = 2)
theorem entR_eq {mp : Bool} {f g : Nat → Int32} {e : List Nat} (h : entR mp f e) (hl : e.length ≤ 8) (hfg : ∀ j, j < wdt mp → g j = f j) : entR mp g e := by
  unfold entR at *
  cases mp with
  | true =>
    simp only [if_true] at *
    have e0 := hfg 0 (by decide)
    have e1 := hfg 1 (by decide)
    exact ⟨h.1, by rw [e0]; exact h.2.1, by rw [e1]; exact h.2.2⟩
  | false =>
    simp only [Bool.false_eq_true, if_false] at *
    have e0 := hfg 0 (by decide)
    exact ⟨by rw [e0]; exact h.1, fun i hi => by rw [hfg (1 + i) (by simp only [wdt, Bool.false_eq_true, if_false]; omega)]; exact h.2 i hi⟩
theorem getD_lt {α : Type} {l : List α} {k : Nat} {d : α} (h : k < l.length) : l.getD k d = l[k] := by simp [h]
theorem getD_mem {α : Type} {l : List α} {k : Nat} {d : α} (h : k < l.length) : l.getD k d ∈ l := by rw [getD_lt h]; exact List.getElem_mem h
