/-! arrivals keep what may be -/
theorem iterN_ind {P : Nat → Net → Prop} {f : Nat → Net → Net} {σ : Net} : ∀ k, P 0 σ → (∀ z τ, z < k → P z τ → P (z + 1) (f z τ)) → P k (iterN f k σ)
  | 0, h, _ => h
  | k + 1, h, hs => hs k _ (Nat.lt_succ_self k) (iterN_ind k h (fun z τ hz => hs z τ (Nat.lt_succ_of_lt hz)))
/-- the data that is on its way, as those around hear it -/
def hrO (b o : Nat) (T R : List Nat) (en : Nat) (up : Nat → Nat → Bool) (σ : Net) : Prop := wfO σ b o ∧ o < (nDa σ).length ∧ aTr (dat σ o) = T ∧ aRe (dat σ o) = R ∧ aEn (dat σ o) = en ∧ daB (dat σ o) ∧ nUp σ = up
theorem hrO.sh {b o en z : Nat} {T R : List Nat} {up : Nat → Nat → Bool} {σ : Net} (h : hrO b o T R en up σ) (hz : z < 8) (hT : 2 ≤ T.length) (hnd : (T ++ R.tail).Nodup) (hR8 : ∀ y ∈ R, y < 8) : hrO b o T R en up (shortenD σ o z) := by
  obtain ⟨h1, h2, h3, h4, h5, h6, h7⟩ := h
  unfold shortenD
  split
  · rename_i hq
    obtain ⟨q1, q2⟩ := hq
    have e1 : dat (uTa (uDa σ o (dSh (dat σ o) (aSh (dat σ o) ||| 1 <<< z))) 5) o = dSh (dat σ o) (aSh (dat σ o) ||| 1 <<< z) := dat_eq h2
    have e2 : ∀ f, dat (sendF (uTa (uDa σ o (dSh (dat σ o) (aSh (dat σ o) ||| 1 <<< z))) 5) f).1 o = dSh (dat σ o) (aSh (dat σ o) ||| 1 <<< z) := fun f => by unfold dat; rw [nDa_send]; exact e1
    have hw : wfO (uTa (uDa σ o (dSh (dat σ o) (aSh (dat σ o) ||| 1 <<< z))) 5) b o := h1.da.ta
    rw [List.nodup_append] at hnd
    obtain ⟨n1, n2, n3⟩ := hnd
    rw [h4] at q1
    have hT8 : ∀ y ∈ T, y < 8 := h3 ▸ h6.2.2.2.1
    have hsr : shR σ o z = T.take (T.length - 1) ++ R.tail.drop (R.tail.idxOf z) := by
      unfold shR; rw [h3, h4]
      rw [show R.drop (R.tail.idxOf z + 1) = R.tail.drop (R.tail.idxOf z) by rw [← List.drop_one, List.drop_drop, Nat.add_comm]]
    have hil := List.idxOf_lt_length_of_mem q1
    have hmz : z ∈ R.tail.drop (R.tail.idxOf z) := by
      rw [List.drop_eq_getElem_cons hil, List.getElem_idxOf hil]; exact List.mem_cons_self
    refine ⟨hw.send (fr2 hz ?_ ?_ ?_ ?_) (show (2 : Nat) ≠ 0 by decide), ?_, ?_, ?_, ?_, ?_, ?_⟩
    · rw [hsr, List.nodup_append]
      exact ⟨n1.sublist (List.take_sublist _ _), n2.sublist (List.drop_sublist _ _), fun x hx y hy => n3 x (List.mem_of_mem_take hx) y (List.mem_of_mem_drop hy)⟩
    · rw [hsr]
      intro y hy
      rcases List.mem_append.mp hy with q | q
      · exact hT8 y (List.mem_of_mem_take q)
      · exact hR8 y (List.mem_of_mem_tail (List.mem_of_mem_drop q))
    · rw [hsr]; exact List.mem_append.mpr (Or.inr hmz)
    · rw [hsr]
      intro e
      have hl : (T.take (T.length - 1)).length = T.length - 1 := by rw [List.length_take]; omega
      have hm : z ∈ T.take (T.length - 1) := by
        rw [← e, getD_lt (by rw [List.length_append]; omega), List.getElem_append_left (by omega)]
        exact List.getElem_mem _
      exact n3 z (List.mem_of_mem_take hm) z q1 rfl
    · rw [nDa_send]; show o < (nDa (uDa σ o _)).length; rw [len_set]; exact h2
    · rw [e2]; exact h3
    · rw [e2]; exact h4
    · rw [e2]; exact h5
    · rw [e2]
      obtain ⟨⟨a1, a2, a3, a5, a6⟩, b1⟩ := h6
      refine ⟨⟨a1, a2, a3, ?_, a6⟩, b1⟩
      show aSh (dat σ o) ||| 1 <<< z < 256
      exact Nat.or_lt_two_pow (n := 8) a5 (by rw [Nat.one_shiftLeft]; exact Nat.pow_lt_pow_right (by decide) hz)
    · rw [← h7]; unfold sendF; split <;> rfl
  · exact ⟨h1, h2, h3, h4, h5, h6, h7⟩
theorem hrO.hr {b o en z x : Nat} {T R : List Nat} {up : Nat → Nat → Bool} {σ : Net} (h : hrO b o T R en up σ) (hz : z < 8) (hT : 2 ≤ T.length) (hnd : (T ++ R.tail).Nodup) (hR8 : ∀ y ∈ R, y < 8) : hrO b o T R en up (hearD x o z σ) := by
  unfold hearD
  split
  · rename_i hq
    obtain ⟨q1, q2, q3⟩ := hq
    have hcp := h
    obtain ⟨h1, h2, h3, h4, h5, h6, h7⟩ := h
    have ht : ((aTr (dat σ o)).take ((aTr (dat σ o)).length - 1)).Nodup := h6.2.2.1.sublist (List.take_sublist _ _)
    refine hrO.sh (σ := learnN σ z _) ⟨h1.learn hz (fun y hy => ?_) (List.nodup_cons.mpr ⟨fun hm => q3 (List.mem_of_mem_take (List.mem_reverse.mp hm)), nodup_rev ht⟩) rfl, h2, h3, h4, h5, h6, h7⟩ hz hT hnd hR8
    rcases List.mem_cons.mp hy with rfl | q
    · exact hz
    · exact h6.2.2.2.1 y (List.mem_of_mem_take (List.mem_reverse.mp q))
  · exact h
theorem wfO.ad {σ : Net} {b o x : Nat} (h : wfO σ b o) (hb : b + 1 < 100000) (ho : o < (nDa σ).length) (hd : daOk (dat σ o)) (hst : aSt (dat σ o) = 1) (hx : trL (dat σ o) = x) : wfN (arrData σ o x) (b + 1) := by
  have hup : ∀ {τ : Net}, wfN τ b → wfN τ (b + 1) := fun q => (q.o.up (Nat.le_succ b) hb).n40
  have hB := hd.b
  obtain ⟨⟨a1, a2, a3, a4, a5, a6⟩, ⟨b1, b2, b3, b4, b5⟩, c1, c2⟩ := hd
  obtain ⟨r1, r2, r3⟩ := c1 hst
  have hs0 := h.1.1.2
  generalize hre : aRe (dat σ o) = re at *
  obtain ⟨r, re, rfl⟩ : ∃ a t, re = a :: t := by cases re with
    | nil => simp at r1
    | cons a t => exact ⟨a, t, rfl⟩
  obtain ⟨y, re, rfl⟩ : ∃ a t, re = a :: t := by cases re with
    | nil => simp at r1
    | cons a t => exact ⟨a, t, rfl⟩
  have hy8 : y < 8 := b4 y (by simp)
  simp only [List.tail_cons] at b2
  have hnd' := b2
  rw [List.nodup_append] at b2
  obtain ⟨m1, m2, m3⟩ := b2
  have hyT : y ∉ aTr (dat σ o) := fun q => m3 y q y (by simp) rfl
  have hxy : x ≠ y := fun e => hyT (e ▸ hx ▸ hB.tl.2)
  unfold arrData
  rw [hre]
  simp only [show (r :: y :: re).getD 1 0 = y from rfl]
  split
  · have hmv : mvD σ o y = uDa σ o (dRe (dTr (dat σ o) (aTr (dat σ o) ++ [y])) (y :: re)) := by unfold mvD; rw [hre]; rfl
    have e1 : dat (mvD σ o y) o = dRe (dTr (dat σ o) (aTr (dat σ o) ++ [y])) (y :: re) := by rw [hmv]; exact dat_eq ho
    have h1 : wfO (mvD σ o y) b o := by rw [hmv]; exact h.da
    have hT : (aTr (dat σ o) ++ [y]).Nodup := by
      rw [List.nodup_append]; exact ⟨m1, by simp, fun p hp q hq => m3 p hp q (by rw [List.mem_singleton.mp hq]; simp)⟩
    have hT8 : ∀ z ∈ aTr (dat σ o) ++ [y], z < 8 := fun z hz => (List.mem_append.mp hz).elim (b3 z) (fun q => by rw [List.mem_singleton.mp q]; exact hy8)
    have h2 : wfO (lrnD σ o y) b o := by
      unfold lrnD
      rw [hre]
      refine (h1.learn hy8 (fun z hz => b4 z (List.mem_cons_of_mem _ hz)) m2 rfl).learn hy8 (fun z hz => hT8 z (List.mem_reverse.mp hz)) (nodup_rev hT) ?_
      rw [List.reverse_append]; rfl
    have hI : hrO b o (aTr (dat σ o) ++ [y]) (y :: re) (aEn (dat σ o)) (nUp σ) (lrnD σ o y) := by
      refine ⟨h2, ?_, ?_, ?_, ?_, ?_, rfl⟩
      · show o < (nDa (mvD σ o y)).length; rw [hmv, len_set]; exact ho
      · show aTr (dat (mvD σ o y) o) = _; rw [e1]; rfl
      · show aRe (dat (mvD σ o y) o) = _; rw [e1]; rfl
      · show aEn (dat (mvD σ o y) o) = _; rw [e1]; rfl
      · show daB (dat (mvD σ o y) o)
        rw [e1]
        refine ⟨⟨a1, a2, a3, a5, a6⟩, ?_, hT, hT8, ?_⟩
        · show 1 ≤ (aTr (dat σ o) ++ [y]).length; rw [List.length_append]; omega
        · show (aTr (dat σ o) ++ [y]).getD 0 0 = aOr (dat σ o)
          rw [← b5, getD_lt (by rw [List.length_append]; omega), getD_lt (by omega), List.getElem_append_left]
    have hnd2 : ((aTr (dat σ o) ++ [y]) ++ (y :: re).tail).Nodup := by
      simpa using hnd'
    have hJ := iterN_ind (P := fun _ τ => hrO b o (aTr (dat σ o) ++ [y]) (y :: re) (aEn (dat σ o)) (nUp σ) τ) (f := hearD x o) (nSe σ 0) hI (fun z τ hz q => q.hr (by omega) (by rw [List.length_append, List.length_singleton]; omega) hnd2 (fun p hp => b4 p (List.mem_cons_of_mem _ hp)))
    generalize iterN (hearD x o) (nSe σ 0) (lrnD σ o y) = τ at hJ
    obtain ⟨j1, j2, j3, j4, j5, j6, j7⟩ := hJ
    split
    · exact hup (j1.done j2 j6 (Or.inl rfl))
    · rename_i hne
      refine hup (j1.fo j2 ?_)
      obtain ⟨⟨p1, p2, p3, p5, p6⟩, p7, p8, p9, p10⟩ := j6
      refine ⟨⟨p1, p2, p3, show 1 ≤ 3 by omega, p5, p6⟩, ⟨p7, ?_, p9, ?_, p10⟩, fun _ => ?_, fun q => absurd rfl q⟩
      · show (aTr (dat τ o) ++ (aRe (dat τ o)).tail).Nodup
        rw [j3, j4]; exact hnd2
      · show ∀ y ∈ aRe (dat τ o), y < 8
        rw [j4]; exact fun p hp => b4 p (List.mem_cons_of_mem _ hp)
      · show 2 ≤ (aRe (dat τ o)).length ∧ (aRe (dat τ o)).getD 0 0 = (aTr (dat τ o)).getD ((aTr (dat τ o)).length - 1) 0 ∧ (aRe (dat τ o)).getD ((aRe (dat τ o)).length - 1) 0 = aEn (dat τ o)
        rw [j3, j4, j5]
        have hr3 : (y :: re).getD ((y :: re).length - 1) 0 = aEn (dat σ o) := r3
        refine ⟨?_, ?_, hr3⟩
        · cases re with
          | nil => exact absurd hr3 hne
          | cons a t => simp
        · simp
  · exact h.br hb ho hB hx hy8 hxy
