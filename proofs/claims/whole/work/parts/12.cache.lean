/-! caches in the reference's row: an entry goes, one comes -/
theorem nodup_map_wdt (mp : Bool) : wdt mp = 2 ∨ wdt mp = 9 := by cases mp <;> simp [wdt]
theorem cacheR_drop {A : Nat → Int32} {n p : Nat} {mp : Bool} {c : List (List Nat)} (hc : cacheR A n mp c) (hok : ∀ e ∈ c, e.length ≤ 8) (hp : p < c.length) (hw : wdt mp * c.length ≤ 54) :
    cacheR (upd (shA A (89 + 86 * n + (15 + wdt mp * p)) (89 + 86 * n + (15 + wdt mp * (c.length - 1))) (wdt mp)) (89 + 86 * n + 2) (nI (c.length - 1))) n mp (c.eraseIdx p) := by
  obtain ⟨h1, h2⟩ := hc
  have hlen : (c.eraseIdx p).length = c.length - 1 := by rw [List.length_eraseIdx, if_pos hp]
  refine ⟨by rw [upd_at, hlen], fun k hk => ?_⟩
  rw [hlen] at hk
  by_cases hkp : k < p
  · have e1 : (c.eraseIdx p).getD k [] = c.getD k [] := by
      simp only [List.getD_eq_getElem?_getD, List.getElem?_eraseIdx, if_pos hkp]
    rw [e1]
    refine entR_eq (h2 k (by omega)) (hok _ (getD_mem (by omega))) (fun j hj => ?_)
    rcases nodup_map_wdt mp with e | e <;> rw [e] at hj hw ⊢ <;> rw [upd_ne _ _ (by omega), shA_out (by omega)]
  · have e1 : (c.eraseIdx p).getD k [] = c.getD (k + 1) [] := by
      simp only [List.getD_eq_getElem?_getD, List.getElem?_eraseIdx, if_neg hkp]
    rw [e1]
    refine entR_eq (h2 (k + 1) (by omega)) (hok _ (getD_mem (by omega))) (fun j hj => ?_)
    rcases nodup_map_wdt mp with e | e <;> rw [e] at hj hw ⊢ <;> rw [upd_ne _ _ (by omega), shA_in (by omega)] <;> exact congrArg _ (by omega)
theorem chC_drop {A : Nat → Int32} {n p m w : Nat} {v : Int32} (hw : w * m ≤ 54) : chC A (upd (shA A (89 + 86 * n + (15 + w * p)) (89 + 86 * n + (15 + w * (m - 1))) w) (89 + 86 * n + 2) v) n := by
  intro i h1 h2
  have h3 : w * (m - 1) ≤ w * m := Nat.mul_le_mul_left w (by omega)
  rw [upd_ne _ _ h1, shA_out (by omega)]
theorem cacheR_push {A A' : Nat → Int32} {n m : Nat} {mp : Bool} {c : List (List Nat)} {e : List Nat} (hc : cacheR A n mp c) (hok : ∀ x ∈ c, x.length ≤ 8) (hm : m ≤ c.length)
    (h1 : A' (89 + 86 * n + 2) = nI (m + 1)) (h2 : ∀ k j, k < m → j < wdt mp → A' (89 + 86 * n + 15 + wdt mp * (k + 1) + j) = A (89 + 86 * n + 15 + wdt mp * k + j)) (h3 : entR mp (fun j => A' (89 + 86 * n + 15 + j)) e) : cacheR A' n mp (e :: c.take m) := by
  obtain ⟨g1, g2⟩ := hc
  have hlen : (e :: c.take m).length = m + 1 := by rw [List.length_cons, List.length_take]; omega
  refine ⟨by rw [hlen]; exact h1, fun k hk => ?_⟩
  rw [hlen] at hk
  cases k with
  | zero => exact h3
  | succ k =>
    have e1 : (e :: c.take m).getD (k + 1) [] = c.getD k [] := by
      simp only [List.getD_eq_getElem?_getD, List.getElem?_cons_succ]
      rw [List.getElem?_take_of_lt (by omega)]
    rw [e1]
    exact entR_eq (g2 k (by omega)) (hok _ (getD_mem (by omega))) (fun j hj => h2 k j (by omega) hj)
theorem ins_eq {most : Nat} {e : List Nat} {c : List (List Nat)} (h1 : 1 ≤ most) (h2 : (c.erase e).length ≤ most) : ins most e c = e :: (c.erase e).take (min (c.erase e).length (most - 1)) := by
  unfold ins
  obtain ⟨k, rfl⟩ : ∃ k, most = k + 1 := ⟨most - 1, by omega⟩
  rw [List.take_succ_cons]
  congr 1
  rw [Nat.add_sub_cancel]
  by_cases h : (c.erase e).length ≤ k
  · rw [List.take_of_length_le h, Nat.min_eq_left h, List.take_length]
  · rw [Nat.min_eq_right (by omega)]
theorem ext_getD {l m : List Nat} (h : l.length = m.length) (hx : ∀ i, i < m.length → l.getD i 0 = m.getD i 0) : l = m := by
  refine List.ext_getElem h fun i h1 h2 => ?_
  have := hx i h2
  rwa [getD_lt h1, getD_lt h2] at this
def wrL (A : Nat → Int32) (base : Nat) (L : List Nat) (i : Nat) : Nat → Int32 := fun x => if base ≤ x ∧ x < base + i then nI (L.getD (x - base) 0) else A x
theorem wrL_out {A : Nat → Int32} {base : Nat} {L : List Nat} {i x : Nat} (h : x < base ∨ base + i ≤ x) : wrL A base L i x = A x := by unfold wrL; rw [if_neg (by omega)]
theorem wrL_in {A : Nat → Int32} {base : Nat} {L : List Nat} {i x : Nat} (h : base ≤ x ∧ x < base + i) : wrL A base L i x = nI (L.getD (x - base) 0) := by unfold wrL; rw [if_pos h]
theorem wrL_step {A : Nat → Int32} {base : Nat} {L : List Nat} {i : Nat} : upd (wrL A base L i) (base + i) (nI (L.getD i 0)) = wrL A base L (i + 1) := by
  funext x
  by_cases hx : x = base + i
  · subst hx; rw [upd_at]; unfold wrL; rw [if_pos (by omega)]; congr 2; omega
  · rw [upd_ne _ _ hx]; unfold wrL
    by_cases h2 : base ≤ x ∧ x < base + i
    · rw [if_pos h2, if_pos (by omega)]
    · rw [if_neg h2, if_neg (by omega)]
theorem wrL_0 {A : Nat → Int32} {base : Nat} {L : List Nat} : wrL A base L 0 = A := by funext x; unfold wrL; rw [if_neg (by omega)]
/-- the lesson, the way in the reference -/
def lesR (S : St) (h : Nat) (L : List Nat) : Prop := S.1 h 20 = nI L.length ∧ ∀ i, i < L.length → S.1 (h + 7) i = nI (L.getD i 0)
def wayR (S : St) (h : Nat) (L : List Nat) : Prop := S.1 h 22 = nI L.length ∧ ∀ i, i < L.length → S.1 (h + 8) i = nI (L.getD i 0)
theorem lesR.of {S S' : St} {h : Nat} {L : List Nat} (hl : lesR S h L) (h1 : S'.1 h 20 = S.1 h 20) (h2 : S'.1 (h + 7) = S.1 (h + 7)) : lesR S' h L := ⟨h1.trans hl.1, fun i hi => by rw [h2]; exact hl.2 i hi⟩
theorem lesR.row {S : St} {h a : Nat} {L : List Nat} {f : Nat → Int32} (hl : lesR S h L) (h1 : a ≠ h) (h2 : a ≠ h + 7) : lesR (rowI S a f) h L := hl.of (by rw [rowI_ne _ _ (Ne.symm h1)]) (by rw [rowI_ne _ _ (Ne.symm h2)])
theorem wayR.of {S S' : St} {h : Nat} {L : List Nat} (hl : wayR S h L) (h1 : S'.1 h 22 = S.1 h 22) (h2 : S'.1 (h + 8) = S.1 (h + 8)) : wayR S' h L := ⟨h1.trans hl.1, fun i hi => by rw [h2]; exact hl.2 i hi⟩
/-- a cache as it may be -/
def okC (mp : Bool) (room : Nat) (c : List (List Nat)) : Prop := (∀ e ∈ c, okE mp e) ∧ c.length ≤ (if mp then 3 * room else room) ∧ 1 ≤ room ∧ room ≤ 6 ∧ c.Nodup
theorem okC.w {mp : Bool} {room : Nat} {c : List (List Nat)} (h : okC mp room c) : wdt mp * c.length ≤ 54 := by
  obtain ⟨-, h2, -, h4, -⟩ := h
  cases mp <;> simp [wdt] at * <;> omega
theorem okC.len {mp : Bool} {room : Nat} {c : List (List Nat)} (h : okC mp room c) : ∀ e ∈ c, e.length ≤ 8 := fun e he => (h.1 e he).1
