/-! what a method of the reference leaves as it was: all but some rows, all but some fields -/
def fr (h : Nat) (rows flds : List Nat) (S S' : St) : Prop := S'.2 = S.2 ∧ (∀ b, b ∉ rows → b ≠ h → S'.1 b = S.1 b) ∧ ∀ k, k ∉ flds → S'.1 h k = S.1 h k
theorem fr.rf {h : Nat} {rows flds : List Nat} {S : St} : fr h rows flds S S := ⟨rfl, fun _ _ _ => rfl, fun _ _ => rfl⟩
theorem fr.tr {h : Nat} {rows flds : List Nat} {S S1 S2 : St} (a : fr h rows flds S S1) (b : fr h rows flds S1 S2) : fr h rows flds S S2 := ⟨b.1.trans a.1, fun x h1 h2 => (b.2.1 x h1 h2).trans (a.2.1 x h1 h2), fun k hk => (b.2.2 k hk).trans (a.2.2 k hk)⟩
theorem fr.mono {h : Nat} {r1 f1 r2 f2 : List Nat} {S S' : St} (a : fr h r1 f1 S S') (hr : ∀ x, x ∈ r1 → x ∈ r2) (hf : ∀ x, x ∈ f1 → x ∈ f2) : fr h r2 f2 S S' := ⟨a.1, fun b h1 h2 => a.2.1 b (fun hx => h1 (hr b hx)) h2, fun k hk => a.2.2 k (fun hx => hk (hf k hx))⟩
theorem fr.row {h a : Nat} {rows flds : List Nat} {S : St} {f : Nat → Int32} (ha : a ∈ rows) (hh : a ≠ h) : fr h rows flds S (rowI S a f) := ⟨rfl, fun b h1 _ => rowI_ne _ _ (fun e => h1 (e ▸ ha)), fun k _ => by rw [rowI_ne _ _ (Ne.symm hh)]⟩
theorem fr.set {h a k : Nat} {rows flds : List Nat} {S : St} {v : Int32} (ha : a ∈ rows) (hh : a ≠ h) : fr h rows flds S (setI S a k v) := by rw [setI_rowI]; exact fr.row ha hh
theorem fr.fld {h k : Nat} {rows flds : List Nat} {S : St} {v : Int32} (hk : k ∈ flds) : fr h rows flds S (setI S h k v) := ⟨rfl, fun b _ h2 => setI_row _ _ _ h2, fun j hj => setI_ne _ _ (Or.inr (fun e => hj (e ▸ hk)))⟩
theorem fr.ref {h : Nat} {rows flds : List Nat} {S S' : St} (a : fr h rows flds S S') (hF : RRef S h) : RRef S' h := hF.of (by rw [a.1])
theorem okE_take {L : List Nat} {k : Nat} (h1 : L.length ≤ 8) (h2 : 2 ≤ (L.take k).length) (h3 : ∀ x ∈ L, x < 8) (h4 : L.Nodup) : okE false (L.take k) := ⟨by rw [List.length_take]; omega, h2, fun x hx => h3 x (List.mem_of_mem_take hx), h4.sublist (List.take_sublist k L), fun h => by cases h⟩
theorem lnk_ok {a b : Nat} (ha : a < 8) (hb : b < 8) (hab : a ≠ b) : okE true (lnk a b) := by
  refine ⟨by simp [lnk], by simp [lnk], fun x hx => ?_, ?_, fun _ => by simp [lnk]⟩
  · simp [lnk] at hx; omega
  · simp [lnk]; omega
theorem okC_ins {mp : Bool} {room : Nat} {c : List (List Nat)} {e : List Nat} (h : okC mp room c) (he : okE mp e) : okC mp room (ins (if mp then 3 * room else room) e c) := by
  obtain ⟨h1, h2, h3, h4, h5⟩ := h
  refine ⟨fun x hx => ?_, ?_, h3, h4, ?_⟩
  · have := List.mem_of_mem_take hx
    rcases List.mem_cons.mp this with rfl | hm
    · exact he
    · exact h1 x (List.mem_of_mem_erase hm)
  · unfold ins; rw [List.length_take]; omega
  · unfold ins
    refine List.Nodup.sublist (List.take_sublist _ _) (List.nodup_cons.mpr ⟨?_, h5.erase e⟩)
    exact List.Nodup.not_mem_erase h5
theorem cacheR.link {A : Nat → Int32} {n p : Nat} {c : List (List Nat)} (hc : cacheR A n true c) (hp : p < c.length) : (c.getD p []).length = 2 ∧ A (89 + 86 * n + 15 + 2 * p) = nI ((c.getD p []).getD 0 0) ∧ A (89 + 86 * n + 15 + 2 * p + 1) = nI ((c.getD p []).getD 1 0) := by
  have h := hc.2 p hp
  unfold entR at h
  rw [if_pos rfl] at h
  exact h
theorem two_eq {e : List Nat} {a b : Nat} (h : e.length = 2) (h0 : e.getD 0 0 = a) (h1 : e.getD 1 0 = b) : e = [a, b] := by
  match e, h with
  | [x, y], _ => simp at h0 h1; rw [h0, h1]
/-- where an entry stands, as the reference answers it -/
def lkI (c : List (List Nat)) (e : List Nat) : Int32 := if e ∈ c then nI (c.idxOf e) else -1
theorem idxOf_ne {a b : List Nat} {l : List (List Nat)} (h : a ≠ b) : (a :: l).idxOf b = l.idxOf b + 1 := by rw [List.idxOf_cons, show (a == b) = false by simpa using h]; rfl
theorem idxOf_at {c : List (List Nat)} {L : List Nat} {p : Nat} (hp : p < c.length) (h1 : c.getD p [] = L) (h2 : ∀ j, j < p → c.getD j [] ≠ L) : c.idxOf L = p ∧ L ∈ c := by
  refine ⟨?_, h1 ▸ getD_mem hp⟩
  induction c generalizing p with
  | nil => simp at hp
  | cons a t ih =>
    cases p with
    | zero => simp at h1; subst h1; simp
    | succ p =>
      have h0 : a ≠ L := by simpa using h2 0 (by omega)
      rw [idxOf_ne h0, ih (by simpa using hp) (by simpa using h1) (fun j hj => by simpa using h2 (j + 1) (by omega))]
theorem not_in {c : List (List Nat)} {L : List Nat} (h2 : ∀ j, j < c.length → c.getD j [] ≠ L) : L ∉ c := by
  intro hm
  obtain ⟨i, hi, e⟩ := List.mem_iff_getElem.mp hm
  exact h2 i hi (by rw [getD_lt hi]; exact e)
theorem idxOf_get {c : List (List Nat)} {L : List Nat} (h : L ∈ c) : c.idxOf L < c.length ∧ c.getD (c.idxOf L) [] = L ∧ ∀ j, j < c.idxOf L → c.getD j [] ≠ L := by
  have hl := List.idxOf_lt_length_of_mem h
  refine ⟨hl, by rw [getD_lt hl]; exact List.getElem_idxOf hl, fun j hj he => ?_⟩
  induction c generalizing j with
  | nil => simp at hl
  | cons a t ih =>
    by_cases h0 : a = L
    · subst h0; simp at hj
    · rw [idxOf_ne h0] at hj hl
      cases j with
      | zero => exact h0 (by simpa using he)
      | succ j =>
        have hm : L ∈ t := by rcases List.mem_cons.mp h with h | h; exact absurd h.symm h0; exact h
        exact ih hm (by simpa using hl) j (by omega) (by simpa using he)
theorem erase_at {c : List (List Nat)} {L : List Nat} (h : L ∈ c) : c.erase L = c.eraseIdx (c.idxOf L) := by
  obtain ⟨h1, h2, h3⟩ := idxOf_get h
  exact erase_idx h1 h2 h3
