/-! locals that are needed no more; lists cut one by one -/
def lle : List (Option Value) → List (Option Value) → Prop
  | [], _ => True
  | none :: t, _ :: t' => lle t t'
  | some v :: t, some w :: t' => v = w ∧ lle t t'
  | _, _ => False
theorem lle_lg : ∀ (a b : List (Option Value)), lle a b → ∀ j v, lg a j = some v → lg b j = some v
  | [], _, _, j, v, h => by simp [lg] at h
  | none :: t, [], h, _, _, _ => by simp [lle] at h
  | none :: t, _ :: t', h, 0, v, hj => by simp [lg] at hj
  | none :: t, _ :: t', h, j + 1, v, hj => lle_lg t t' h j v hj
  | some a :: t, [], h, _, _, _ => by simp [lle] at h
  | some a :: t, none :: t', h, _, _, _ => by simp [lle] at h
  | some a :: t, some b :: t', h, 0, v, hj => by rw [← h.1]; exact hj
  | some a :: t, some b :: t', h, j + 1, v, hj => lle_lg t t' h.2 j v hj
theorem X_dl {G : Gc} {E : Ev} {md : Md} {n : Nat} {Q : Option Value → St → Prop} {S : St} {pc : Nat} {lv : List (Option Value)} {st : List Value} (lv' : List (Option Value)) (h : lle lv' lv) (k : X G E md n Q S pc lv' st) : X G E md n Q S pc lv st := X_drop (lle_lg lv' lv h) k
def mixc (a b : Nat) (c : List (List Nat)) (p : Nat) : List (List Nat) := (c.take p).map (cutAt a b) ++ c.drop p
theorem mixc_0 {a b : Nat} {c : List (List Nat)} : mixc a b c 0 = c := by simp [mixc]
theorem mixc_len {a b p : Nat} {c : List (List Nat)} : (mixc a b c p).length = c.length := by simp [mixc]; omega
theorem mixc_all {a b : Nat} {c : List (List Nat)} : mixc a b c c.length = c.map (cutAt a b) := by simp [mixc]
theorem mixc_at {a b p : Nat} {c : List (List Nat)} (hp : p < c.length) : (mixc a b c p).getD p [] = c.getD p [] := by
  unfold mixc
  simp only [List.getD_eq_getElem?_getD]
  rw [List.getElem?_append_right (by simp; omega)]
  simp [Nat.min_eq_left (Nat.le_of_lt hp)]
theorem mixc_set {a b p : Nat} {c : List (List Nat)} (hp : p < c.length) : (mixc a b c p).set p (cutAt a b (c.getD p [])) = mixc a b c (p + 1) := by
  unfold mixc
  have hl : ((c.take p).map (cutAt a b)).length = p := by simp; omega
  rw [List.set_append_right _ _ (by omega), hl, Nat.sub_self, List.drop_eq_getElem_cons hp, List.set_cons_zero, List.take_succ_eq_append_getElem hp, List.map_append, List.append_assoc, getD_lt hp]
  rfl
theorem mixc_mem {a b p : Nat} {c : List (List Nat)} {e : List Nat} (h : e ∈ mixc a b c p) : ∃ x ∈ c, e <+: x := by
  rcases List.mem_append.mp h with h | h
  · obtain ⟨x, hx, rfl⟩ := List.mem_map.mp h
    exact ⟨x, List.mem_of_mem_take hx, cutAt_pre x⟩
  · exact ⟨e, List.mem_of_mem_drop h, List.prefix_rfl⟩
/-- of a path in a cache only the first part is left -/
theorem cacheR_cut {A : Nat → Int32} {n p i : Nat} {c : List (List Nat)} (hc : cacheR A n false c) (hok : ∀ e ∈ c, e.length ≤ 8) (hl : c.length ≤ 6) (hp : p < c.length) (hi : i ≤ (c.getD p []).length) : cacheR (upd A (89 + 86 * n + (15 + 9 * p)) (nI i)) n false (c.set p ((c.getD p []).take i)) := by
  refine ⟨by rw [upd_ne _ _ (by omega), List.length_set]; exact hc.1, fun k hk => ?_⟩
  rw [List.length_set] at hk
  by_cases hkp : k = p
  · subst hkp
    have e1 : (c.set k ((c.getD k []).take i)).getD k [] = (c.getD k []).take i := by simp [hk]
    rw [e1]
    have hq := hc.path hk
    have h8 := hok _ (getD_mem (d := []) hk)
    unfold entR
    rw [if_neg (by decide)]
    refine ⟨?_, fun j hj => ?_⟩
    · dsimp only
      simp only [wdt, Bool.false_eq_true, if_false]
      rw [show 89 + 86 * n + 15 + 9 * k + 0 = 89 + 86 * n + (15 + 9 * k) by omega, upd_at, List.length_take, Nat.min_eq_left hi]
    · rw [List.length_take] at hj
      dsimp only
      simp only [wdt, Bool.false_eq_true, if_false]
      rw [upd_ne _ _ (by omega), hq.2 j (by omega)]
      congr 1
      simp only [List.getD_eq_getElem?_getD, List.getElem?_take_of_lt (show j < i by omega)]
  · have e1 : (c.set p ((c.getD p []).take i)).getD k [] = c.getD k [] := by
      simp only [List.getD_eq_getElem?_getD, List.getElem?_set_ne (Ne.symm hkp)]
    rw [e1]
    refine entR_eq (hc.2 k hk) (hok _ (getD_mem hk)) (fun j hj => ?_)
    simp only [wdt, Bool.false_eq_true, if_false] at hj ⊢
    rw [upd_ne _ _ (by omega)]
theorem keepL_vain {acc t : List (List Nat)} {e : List Nat} (h : e.length < 2 ∨ e ∈ acc) : keepL acc (e :: t) = keepL acc t := by rw [keepL, if_pos h]
theorem keepL_new {acc t : List (List Nat)} {e : List Nat} (h : ¬ (e.length < 2 ∨ e ∈ acc)) : keepL acc (e :: t) = keepL (acc ++ [e]) t := by rw [keepL, if_neg h]
