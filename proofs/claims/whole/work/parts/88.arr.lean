/-! a data arrives, a link is down: what holds on the way -/
theorem da_in {σ : Net} {b o : Nat} (h : wfO σ b o) (ho : o < (nDa σ).length) (hd : daOk (dat σ o)) (hst : aSt (dat σ o) = 1) : ∃ y re, aRe (dat σ o) = trL (dat σ o) :: y :: re ∧ y < 8 ∧ y ∉ aTr (dat σ o) ∧ (aTr (dat σ o) ++ [y]).Nodup ∧ (∀ z ∈ aTr (dat σ o) ++ [y], z < 8) ∧ ((aTr (dat σ o) ++ [y]) ++ re).Nodup ∧ (∀ z ∈ y :: re, z < 8) ∧ (y :: re).Nodup ∧ (y :: re).getD (re.length) 0 = aEn (dat σ o) ∧ wfO (mvD σ o y) b o ∧ hrO b o (aTr (dat σ o) ++ [y]) (y :: re) (aEn (dat σ o)) (nUp σ) (lrnD σ o y) := by
  have hB := hd.b
  obtain ⟨⟨a1, a2, a3, a4, a5, a6⟩, ⟨b1, b2, b3, b4, b5⟩, c1, c2⟩ := hd
  obtain ⟨r1, r2, r3⟩ := c1 hst
  generalize hre : aRe (dat σ o) = re at *
  obtain ⟨r, re, rfl⟩ : ∃ a t, re = a :: t := by cases re with
    | nil => simp at r1
    | cons a t => exact ⟨a, t, rfl⟩
  obtain ⟨y, re, rfl⟩ : ∃ a t, re = a :: t := by cases re with
    | nil => simp at r1
    | cons a t => exact ⟨a, t, rfl⟩
  have r2 : r = trL (dat σ o) := r2
  have hy8 : y < 8 := b4 y (by simp)
  simp only [List.tail_cons] at b2
  have hnd' := b2
  rw [List.nodup_append] at b2
  obtain ⟨m1, m2, m3⟩ := b2
  have hyT : y ∉ aTr (dat σ o) := fun q => m3 y q y (by simp) rfl
  have hmv : mvD σ o y = uDa σ o (dRe (dTr (dat σ o) (aTr (dat σ o) ++ [y])) (y :: re)) := by unfold mvD; rw [hre]; rfl
  have e1 : dat (mvD σ o y) o = dRe (dTr (dat σ o) (aTr (dat σ o) ++ [y])) (y :: re) := by rw [hmv]; exact dat_eq ho
  have h1 : wfO (mvD σ o y) b o := by rw [hmv]; exact h.da
  have hT : (aTr (dat σ o) ++ [y]).Nodup := by
    rw [List.nodup_append]; exact ⟨m1, by simp, fun p hp q hq => m3 p hp q (by rw [List.mem_singleton.mp hq]; simp)⟩
  have hT8 : ∀ z ∈ aTr (dat σ o) ++ [y], z < 8 := fun z hz => (List.mem_append.mp hz).elim (b3 z) (fun q => by rw [List.mem_singleton.mp q]; exact hy8)
  have h2 : wfO (lrnD σ o y) b o := by
    unfold lrnD
    rw [hre]
    refine (h1.learn hy8 (fun z hz => b4 z (List.mem_cons_of_mem _ hz)) m2 rfl).learn hy8 (fun z hz => hT8 z (List.mem_reverse.mp hz)) (nodup_rev hT) ?_
    rw [List.reverse_append]; rfl
  have hI : hrO b o (aTr (dat σ o) ++ [y]) (y :: re) (aEn (dat σ o)) (nUp σ) (lrnD σ o y) := by
    refine ⟨h2, ?_, ?_, ?_, ?_, ?_, rfl⟩
    · show o < (nDa (mvD σ o y)).length; rw [hmv, len_set]; exact ho
    · show aTr (dat (mvD σ o y) o) = _; rw [e1]; rfl
    · show aRe (dat (mvD σ o y) o) = _; rw [e1]; rfl
    · show aEn (dat (mvD σ o y) o) = _; rw [e1]; rfl
    · show daB (dat (mvD σ o y) o)
      rw [e1]
      refine ⟨⟨a1, a2, a3, a5, a6⟩, ?_, hT, hT8, ?_⟩
      · show 1 ≤ (aTr (dat σ o) ++ [y]).length; rw [List.length_append]; omega
      · show (aTr (dat σ o) ++ [y]).getD 0 0 = aOr (dat σ o)
        rw [← b5, getD_lt (by rw [List.length_append]; omega), getD_lt (by omega), List.getElem_append_left]
  exact ⟨y, re, by rw [r2], hy8, hyT, hT, hT8, by simpa using hnd', fun p hp => b4 p (List.mem_cons_of_mem _ hp), m2, by simpa using r3, h1, hI⟩
theorem rev_drop1 {l : List Nat} : l.reverse.drop 1 = (l.take (l.length - 1)).reverse := by
  rw [List.drop_one, List.tail_reverse, List.dropLast_eq_take]
/-- a way is fresh: nobody of the trail but its first -/
theorem fresh_iff {x to : Nat} {wy tr : List Nat} (hg : goodW x to wy) (hx : x ∈ tr) : msk wy &&& msk tr = 1 <<< x ↔ clrB wy tr = true := by
  obtain ⟨g1, g2, g3, g4, g5⟩ := hg
  have hb : ∀ z, (msk wy &&& msk tr).testBit z = (wy.contains z && tr.contains z) := fun z => by rw [Nat.testBit_and, msk_bit _ wy rfl, msk_bit _ tr rfl]
  have h1 : ∀ z, (1 <<< x).testBit z = decide (x = z) := fun z => by rw [Nat.one_shiftLeft, Nat.testBit_two_pow]
  constructor
  · intro h
    unfold clrB
    rw [List.all_eq_true]
    intro i hi
    have hi := List.mem_range.mp hi
    by_cases c : i = 0
    · simp [c]
    · have hz := congrArg (fun n => n.testBit (wy.getD i 0)) h
      simp only [hb, h1] at hz
      by_cases m : wy.getD i 0 ∈ tr
      · have m1 : wy.getD i 0 ∈ wy := getD_mem hi
        rw [show (wy.contains (wy.getD i 0) && tr.contains (wy.getD i 0)) = true by simp only [List.contains_eq_mem, decide_eq_true m1, decide_eq_true m, Bool.and_self]] at hz
        have e : x = wy.getD i 0 := by simpa using hz.symm
        rw [← g2, getD_lt (by omega), getD_lt hi] at e
        exact absurd ((List.getElem_inj g1).mp e) (by omega)
      · have : tr.contains (wy.getD i 0) = false := by simpa using m
        rw [this]; simp
  · intro h
    unfold clrB at h
    rw [List.all_eq_true] at h
    refine Nat.eq_of_testBit_eq (fun z => ?_)
    rw [hb, h1]
    by_cases c : x = z
    · subst c
      have m1 : x ∈ wy := g2 ▸ getD_mem (by omega)
      simp only [List.contains_eq_mem, decide_eq_true m1, decide_eq_true hx, Bool.and_self, decide_true]
    · rw [decide_eq_false c]
      by_cases m : z ∈ wy
      · obtain ⟨i, hi, e⟩ := List.mem_iff_getElem.mp m
        have q := h i (List.mem_range.mpr hi)
        rw [getD_lt hi, e] at q
        have hi0 : i ≠ 0 := fun q0 => by
          subst q0
          rw [← g2, getD_lt hi, e] at c
          exact c rfl
        simp only [decide_eq_false hi0, Bool.false_or, Bool.not_eq_true'] at q
        rw [q, Bool.and_false]
      · rw [show wy.contains z = false by simpa using m, Bool.false_and]
theorem hearD_out {σ : Net} {x d z : Nat} (hu : upOk (nSe σ 0) (nUp σ)) (hz : nSe σ 0 ≤ z) : hearD x d z σ = σ := by
  unfold hearD
  rw [if_neg]
  intro q
  have := (hu x z q.1.2).2.1
  omega
/-- steps beyond the nodes that are there do nothing -/
theorem iterN_out {f : Nat → Net → Net} {σ : Net} {c : Nat} (h : ∀ z τ, c ≤ z → τ = iterN f c σ → f z τ = τ) : ∀ k, iterN f (c + k) σ = iterN f c σ
  | 0 => rfl
  | k + 1 => by
    show f (c + k) (iterN f (c + k) σ) = _
    rw [iterN_out h k]
    exact h _ _ (by omega) rfl
theorem hearD_yes {σ : Net} {x d z : Nat} {T : List Nat} (hT : aTr (dat σ d) = T) (h1 : z ≠ x) (h2 : nUp σ x z = true) (h3 : dLis (nNd σ z) = true) (h4 : z ∉ T) : hearD x d z σ = shortenD (learnN σ z (z :: (T.take (T.length - 1)).reverse)) d z := by
  subst hT
  exact if_pos ⟨⟨h1, h2⟩, h3, h4⟩
theorem hearD_no {σ : Net} {x d z : Nat} {T : List Nat} (hT : aTr (dat σ d) = T) (h : nUp σ x z = true → dLis (nNd σ z) = true → z ∈ T) : hearD x d z σ = σ := by
  subst hT
  exact if_neg (fun q => q.2.2 (h q.1.2 q.2.1))
