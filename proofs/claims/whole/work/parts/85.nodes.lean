/-! a node's cache, table, news change -/
theorem poR_ca {S S' : St} {p n : Nat} {s : Nat → Nat} {x : Nd} {cs : List (List Nat)} (h : poR S p n s x) (hc : chg (p + 6) (p + 8) S S') (hr : S'.2.2 = S.2.2) (hca : caR S' (p + 5) n (dMap x) (s 1) (s 2) cs) : poR S' p n s (xCa x cs) := by
  obtain ⟨⟨f1, f2, f3, f4⟩, ⟨i1, i2, i3, i4, i5, i6, i7⟩, p3, p4, p5, p6⟩ := h
  have q := hc p (by omega)
  have q3 := hc (p + 3) (by omega)
  have q4 := hc (p + 4) (by omega)
  exact ⟨⟨by rw [hr]; exact f1, by rw [hr]; exact f2, by rw [hr]; exact f3, by rw [hr]; exact f4⟩, ⟨by rw [q.1]; exact i1, by rw [q.1]; exact i2, by rw [q.1]; exact i3, by rw [q.1]; exact i4, by rw [q.1]; exact i5, fun k hk => by rw [q3.1]; exact i6 k hk, fun t ht s hs => by rw [q4.1]; exact i7 t ht s hs⟩, hca, p4.chg hc (by omega), p5, p6⟩
theorem ca_world {S S' : St} {w n : Nat} {σ : Net} {cs : List (List Nat)} (h : worldR S w σ) (hn : n < 8) (hc : chg (pA w n + 6) (pA w n + 8) S S') (hr : S'.2.2 = S.2.2) (hca : caR S' (pA w n + 5) n (dMap (nNd σ n)) (nSe σ 1) (nSe σ 2) cs) (hv : nSe σ 0 ≤ n → cs = []) : worldR S' w (uNd σ n (xCa (nNd σ n) cs)) ∧ wch w S S' :=
  worldR_nd h hn (hc.mono (by omega) (by omega)) hr (poR_ca (h.po hn) hc hr hca) (h.cv.nd (fun q1 q2 => ⟨hv q1, (h.cv.2.1 n q1 q2).2⟩) (fun t q1 q2 => h.cv.2.2 n t q1 q2))
theorem forgetO_nil {mp : Bool} {o : Option (Nat × Nat)} : forgetO mp o [] = [] := by
  cases o with
  | none => rfl
  | some q => cases mp <;> rfl
theorem cutAt_sym {a b : Nat} : ∀ l : List Nat, cutAt a b l = cutAt b a l
  | [] => rfl
  | [_] => rfl
  | x :: y :: t => by
    unfold cutAt
    rw [cutAt_sym (y :: t)]
    by_cases c : (x = a ∧ y = b) ∨ (x = b ∧ y = a)
    · rw [if_pos c, if_pos c.symm]
    · rw [if_neg c, if_neg (fun z => c z.symm)]
theorem lnk_sym {a b : Nat} : lnk a b = lnk b a := by unfold lnk; rw [Nat.min_comm, Nat.max_comm]
theorem forgetL_sym {mp : Bool} {a b : Nat} {c : List (List Nat)} : forgetL mp a b c = forgetL mp b a c := by
  unfold forgetL
  rw [lnk_sym, show cutAt a b = cutAt b a from funext cutAt_sym]
theorem forgetN_lk {σ : Net} {n a b : Nat} : forgetON σ n (some (lkP a b)) = forgetN σ n a b := by
  unfold forgetON forgetN forgetO lkP
  by_cases h : a ≤ b
  · simp only [Nat.min_eq_left h, Nat.max_eq_right h]
  · have h : b ≤ a := by omega
    simp only [Nat.min_eq_right h, Nat.max_eq_left h]
    rw [forgetL_sym]
theorem lkN_lk {a b : Nat} : lkN (some (lkP a b)) = nI (10 * min a b + max a b) := rfl
/-- the news of a node -/
theorem nw_world {S : St} {w n : Nat} {σ : Net} {o : Option (Nat × Nat)} (h : worldR S w σ) (hn : n < 8) : worldR (setI S (pA w n) 5 (lkN o)) w (uNd σ n (xNw (nNd σ n) o)) ∧ wch w S (setI S (pA w n) 5 (lkN o)) := by
  obtain ⟨⟨f1, f2, f3, f4⟩, ⟨i1, i2, i3, i4, i5, i6, i7⟩, p3, p4, p5, p6⟩ := h.po hn
  have hc : chg (pA w n) (pA w n + 1) S (setI S (pA w n) 5 (lkN o)) := chg.setI (Nat.le_refl _) (by omega)
  refine worldR_nd h hn (hc.mono (Nat.le_refl _) (by omega)) rfl ⟨⟨f1, f2, f3, f4⟩, ⟨?_, ?_, ?_, ?_, ?_, fun k hk => ?_, fun t ht s hs => ?_⟩, p3.chg hc (by omega), p4.chg hc (by omega), p5, p6⟩ (h.cv.nd (fun q1 q2 => h.cv.2.1 n q1 q2) (fun t q1 q2 => h.cv.2.2 n t q1 q2))
  · rw [setI_ne _ _ (Or.inr (by decide))]; exact i1
  · rw [setI_ne _ _ (Or.inr (by decide))]; exact i2
  · rw [setI_at]; rfl
  · rw [setI_ne _ _ (Or.inr (by decide))]; exact i4
  · rw [setI_ne _ _ (Or.inr (by decide))]; exact i5
  · rw [setI_ne _ _ (Or.inl (by omega))]; exact i6 k hk
  · rw [setI_ne _ _ (Or.inl (by omega))]; exact i7 t ht s hs
/-- entries of a table -/
theorem tbJ_inj {q r : Nat × Nat} (h1 : q.1 < 8 ∧ q.2 < 100000) (h2 : r.1 < 8 ∧ r.2 < 100000) (h : tbJ q = tbJ r) : q = r := by
  have := lN_inj (a := 100000 * q.1 + q.2) (b := 100000 * r.1 + r.2) (by omega) (by omega) h
  exact Prod.ext (by omega) (by omega)
theorem tb_mem {tb : List (Nat × Nat)} {q : Nat × Nat} (h : ∀ r ∈ tb, r.1 < 8 ∧ r.2 < 100000) (hq : q.1 < 8 ∧ q.2 < 100000) : tbJ q ∈ tb.map tbJ ↔ q ∈ tb := by
  rw [List.mem_map]
  constructor
  · rintro ⟨r, hr, e⟩
    rw [← tbJ_inj (h r hr) hq e]; exact hr
  · intro z; exact ⟨q, z, rfl⟩
theorem tb_tch {tb : List (Nat × Nat)} {q : Nat × Nat} {most : Nat} (hn : tbJ q ∉ tb.map tbJ) : tch (tb.map tbJ) (tbJ q) most = ((q :: tb).take most).map tbJ := by
  unfold tch
  rw [List.erase_of_not_mem hn, ← List.map_cons, List.map_take]
theorem tb_world {S S' : St} {w n : Nat} {σ : Net} {tb : List (Nat × Nat)} (h : worldR S w σ) (hn : n < 8) (hc : chg (pA w n + 1) (pA w n + 3) S S') (hr : S'.2.2 = S.2.2) (hrc : rcR S' (pA w n + 1) (tb.map tbJ)) (hl : tb.length ≤ 6) : worldR S' w (uNd σ n (xTb (nNd σ n) tb)) ∧ wch w S S' := by
  obtain ⟨⟨f1, f2, f3, f4⟩, ⟨i1, i2, i3, i4, i5, i6, i7⟩, p3, p4, p5, p6⟩ := h.po hn
  have q := hc (pA w n) (by omega)
  have q3 := hc (pA w n + 3) (by omega)
  have q4 := hc (pA w n + 4) (by omega)
  exact worldR_nd h hn (hc.mono (by omega) (by omega)) hr ⟨⟨by rw [hr]; exact f1, by rw [hr]; exact f2, by rw [hr]; exact f3, by rw [hr]; exact f4⟩, ⟨by rw [q.1]; exact i1, by rw [q.1]; exact i2, by rw [q.1]; exact i3, by rw [q.1]; exact i4, by rw [q.1]; exact i5, fun k hk => by rw [q3.1]; exact i6 k hk, fun t ht s hs => by rw [q4.1]; exact i7 t ht s hs⟩, p3.chg hc (by omega), hrc, hl, p6⟩ (h.cv.nd (fun q1 q2 => h.cv.2.1 n q1 q2) (fun t q1 q2 => h.cv.2.2 n t q1 q2))
/-- the buffer of a node -/
theorem bu_world {S S' : St} {w n : Nat} {σ : Net} {bu : List Nat} (h : worldR S w σ) (hn : n < 8) (hc : chg (pA w n) (pA w n + 4) S S') (hr : S'.2.2 = S.2.2) (h1 : ∀ a, a ≠ pA w n → a ≠ pA w n + 3 → S'.1 a = S.1 a) (hJ : S'.2.1 = S.2.1) (h3 : S'.1 (pA w n) 3 = nI bu.length) (ho : ∀ k, k ≠ 3 → S'.1 (pA w n) k = S.1 (pA w n) k) (hb : ∀ k, k < bu.length → S'.1 (pA w n + 3) k = nI (bu.getD k 0)) (hl : bu.length ≤ 4) (hv : nSe σ 0 ≤ n → bu = []) : worldR S' w (uNd σ n (xBu (nNd σ n) bu)) ∧ wch w S S' := by
  obtain ⟨⟨f1, f2, f3, f4⟩, ⟨i1, i2, i3, i4, i5, i6, i7⟩, p3, p4, p5, p6⟩ := h.po hn
  have hc5 : chg (pA w n) (pA w n + 1) S (rowI S (pA w n) (S'.1 (pA w n))) := fun a ha => ⟨rowI_ne _ _ (by omega), rfl, rfl⟩
  have hca : caR S' (pA w n + 5) n (dMap (nNd σ n)) (nSe σ 1) (nSe σ 2) (dCa (nNd σ n)) := p3.chg hc (by omega)
  have hrc : rcR S' (pA w n + 1) ((dTb (nNd σ n)).map tbJ) := ⟨by rw [hr]; exact p4.1, by rw [h1 _ (by omega) (by omega)]; exact p4.2.1, fun i hi => by rw [hJ]; exact p4.2.2 i hi⟩
  refine worldR_nd h hn (hc.mono (Nat.le_refl _) (by omega)) hr ⟨⟨by rw [hr]; exact f1, by rw [hr]; exact f2, by rw [hr]; exact f3, by rw [hr]; exact f4⟩, ⟨h3, ?_, ?_, ?_, ?_, hb, fun t ht s hs => ?_⟩, hca, hrc, p5, hl⟩ (h.cv.nd (fun q1 q2 => ⟨(h.cv.2.1 n q1 q2).1, hv q1, (h.cv.2.1 n q1 q2).2.2⟩) (fun t q1 q2 => h.cv.2.2 n t q1 q2))
  · rw [ho _ (by decide)]; exact i2
  · rw [ho _ (by decide)]; exact i3
  · rw [ho _ (by decide)]; exact i4
  · rw [ho _ (by decide)]; exact i5
  · rw [h1 _ (by omega) (by omega)]; exact i7 t ht s hs
theorem getD_apl {α : Type} {l m : List α} {k : Nat} {z : α} (h : k < l.length) : (l ++ m).getD k z = l.getD k z := by simp [List.getElem?_append_left h]
theorem getD_lst {α : Type} {l : List α} {x z : α} : (l ++ [x]).getD l.length z = x := by simp
