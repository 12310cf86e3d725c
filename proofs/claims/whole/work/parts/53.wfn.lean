/-! requests, replies, errors -/
theorem hd_cons {w : List Nat} {z : Nat} (h : 1 ≤ w.length) (h0 : w.getD 0 0 = z) : w = z :: w.tail := by
  cases w with
  | nil => simp at h
  | cons a t => simp at h0; rw [h0]; rfl
theorem snd_ne {l : List Nat} {z : Nat} {t : List Nat} (h1 : 1 ≤ l.length) (hz : z ∉ l) : (l ++ t).getD 0 0 ≠ z := by
  intro e
  rw [getD_lt (by rw [List.length_append]; omega), List.getElem_append_left (by omega)] at e
  exact hz (e ▸ List.getElem_mem _)
theorem wfO.an {σ : Net} {b o z : Nat} {f : Fm} (h : wfO σ b o) (hz : z < 8) (hnd : (fRo f).Nodup) (h8 : ∀ y ∈ fRo f, y < 8) (h1 : 1 ≤ (fRo f).length) (hab : fAb f < 8) (hnu : fNu f ≤ b) (hlk : lkOk (fLk f)) (hzr : z ∉ fRo f) : wfO (answer σ z f) b o := by
  have hnz : (fRo f ++ [z]).Nodup := by
    rw [List.nodup_append]; exact ⟨hnd, by simp, fun p hp q hq e => hzr (by rw [List.mem_singleton.mp hq] at e; exact e ▸ hp)⟩
  have h8z : ∀ y ∈ fRo f ++ [z], y < 8 := fun y hy => (List.mem_append.mp hy).elim (h8 y) (fun q => by rw [List.mem_singleton.mp q]; exact hz)
  unfold answer
  split
  · refine h.send ?_ (show (2 : Nat) ≠ 0 by decide)
    by_cases hk : kwB σ z f = true
    · rw [if_pos hk]
      unfold kwB isRtB at hk
      simp only [Bool.and_eq_true, decide_eq_true_eq, List.all_eq_true] at hk
      obtain ⟨k1, k2, k3, k4⟩ := hk
      have hg := wayN_good (b := b) hz h.1 (h.no hz) k2
      have hw := hd_cons (by have := hg.2.2.2.1; omega) hg.2.1
      have e : (fRo f ++ [z]) ++ (wayN σ z (fAb f)).tail = fRo f ++ wayN σ z (fAb f) := by
        rw [List.append_assoc]; congr 1; exact hw.symm
      rw [e]
      refine fr2 hz ?_ ?_ ?_ ?_
      · rw [List.nodup_append]
        refine ⟨hnd, hg.1, fun p hp q hq e => ?_⟩
        have := k4 q hq
        subst e
        simp [hp] at this
      · intro y hy
        rcases List.mem_append.mp hy with q | q
        · exact h8 y q
        · exact hg.2.2.2.2 y q
      · rw [hw]; simp
      · exact snd_ne h1 hzr
    · rw [if_neg hk, List.append_nil]
      exact fr2 hz hnz h8z (by simp) (snd_ne h1 hzr)
  · split
    · refine h.send (fr1 hz hnz h8z (by rw [List.length_append]; omega) ?_ hab hnu hlk) (show (1 : Nat) ≠ 0 by decide)
      simp
    · exact h
theorem wfO.rq {σ : Net} {b o z : Nat} {f : Fm} (h : wfO σ b o) (hz : z < 8) (hnd : (fRo f).Nodup) (h8 : ∀ y ∈ fRo f, y < 8) (h1 : 1 ≤ (fRo f).length) (hab : fAb f < 8) (hnu : fNu f ≤ b) (hlk : lkOk (fLk f)) : wfO (reqStep f z σ) b o := by
  unfold reqStep
  split
  · split
    · exact (h.forgetO hz).ta
    · rename_i hq
      have hzr : z ∉ fRo f := fun e => hq (Or.inl e)
      have h0 : (fRo f).getD 0 0 < 8 := h8 _ (getD_mem (by omega))
      refine (((h.forgetO hz).see hz h0 hnu).learn hz ?_ (List.nodup_cons.mpr ⟨fun q => hzr (List.mem_reverse.mp q), nodup_rev hnd⟩) rfl).an hz hnd h8 h1 hab hnu hlk hzr
      intro y hy
      rcases List.mem_cons.mp hy with rfl | q
      · exact hz
      · exact h8 y (List.mem_reverse.mp q)
  · exact h
theorem wfO.arq {σ : Net} {b o : Nat} {f : Fm} (h : wfO σ b o) (hnd : (fRo f).Nodup) (h8 : ∀ y ∈ fRo f, y < 8) (h1 : 1 ≤ (fRo f).length) (hab : fAb f < 8) (hnu : fNu f ≤ b) (hlk : lkOk (fLk f)) : wfO (arrReq σ f) b o :=
  iterN_ind (P := fun _ τ => wfO τ b o) (nSe σ 0) h (fun z τ hz q => q.rq (by have := h.1.1.2; omega) hnd h8 h1 hab hnu hlk)
theorem wfO.rp {σ : Net} {b o z y at_ : Nat} {f : Fm} (h : wfO σ b o) (hz : z < 8) (hnd : (fRo f).Nodup) (h8 : ∀ y ∈ fRo f, y < 8) : wfO (repStep f y at_ z σ) b o := by
  unfold repStep
  split
  · rename_i hq
    refine h.learn hz (fun p hp => ?_) (List.nodup_cons.mpr ⟨hq.2.2.2, hnd.sublist (List.drop_sublist _ _)⟩) rfl
    rcases List.mem_cons.mp hp with rfl | q
    · exact hz
    · exact h8 p (List.mem_of_mem_drop q)
  · exact h
theorem drop_hd {l : List Nat} {i : Nat} : (l.drop i).getD 0 0 = l.getD i 0 := by simp [List.getD_eq_getElem?_getD]
theorem wfO.arp {σ : Net} {b o : Nat} {f : Fm} (h : wfO σ b o) (hfr : fFr f < 8) (hnd : (fRo f).Nodup) (h8 : ∀ y ∈ fRo f, y < 8) (hm : fFr f ∈ fRo f) (hne : (fRo f).getD 0 0 ≠ fFr f) : wfO (arrRep σ f) b o := by
  have hil := List.idxOf_lt_length_of_mem hm
  have hi0 : 1 ≤ (fRo f).idxOf (fFr f) := by
    rcases Nat.eq_zero_or_pos ((fRo f).idxOf (fFr f)) with q | q
    · exfalso; apply hne
      have := List.getElem_idxOf hil
      rw [getD_lt (by omega)]
      simpa [q] using this
    · exact q
  have hym : rpY f ∈ fRo f := getD_mem (by omega)
  have hy8 : rpY f < 8 := h8 _ hym
  unfold arrRep
  split
  · have ha : wfO (rpLa σ f) b o := by
      unfold rpLa
      exact h.learn hy8 (fun p hp => h8 p (List.mem_of_mem_drop hp)) (hnd.sublist (List.drop_sublist _ _)) drop_hd
    have hb : wfO (rpLb σ f) b o := by
      unfold rpLb
      split
      · rename_i hgt
        refine ha.send (fr2 hy8 hnd h8 hym (fun e => ?_)) (show (2 : Nat) ≠ 0 by decide)
        unfold rpY at e
        rw [getD_lt (by omega), getD_lt (by omega)] at e
        have := (List.getElem_inj hnd).mp e
        omega
      · exact ha
    exact iterN_ind (P := fun _ τ => wfO τ b o) (nSe σ 0) hb (fun z τ hz q => q.rp (by have := h.1.1.2; omega) hnd h8)
  · exact h.forget hfr
theorem wfO.ae {σ : Net} {b o : Nat} {f : Fm} (h : wfO σ b o) (hfr : fFr f < 8) (hnd : (fRo f).Nodup) (h8 : ∀ y ∈ fRo f, y < 8) (h2 : 2 ≤ (fRo f).length) (hlk : lkOk (fLk f)) (hnn : fLk f ≠ none) : wfO (arrErr σ f) b o := by
  have hy8 : (fRo f).getD 1 0 < 8 := h8 _ (getD_mem (by omega))
  unfold arrErr
  split
  · have ha : wfO (erLa σ f) b o := h.forgetO hy8
    have hb : wfO (erLb σ f) b o := by
      unfold erLb
      split
      · exact ha.nw hy8 hlk
      · refine ha.send (fr3 hy8 (hnd.sublist (List.drop_sublist _ _)) (fun p hp => h8 p (List.mem_of_mem_drop hp)) ?_ drop_hd hlk hnn) (show (3 : Nat) ≠ 0 by decide)
        rw [List.length_drop]; omega
    refine iterN_ind (P := fun _ τ => wfO τ b o) (nSe σ 0) hb (fun z τ hz q => ?_)
    unfold errStep
    split
    · exact q.forgetO (by have := h.1.1.2; omega)
    · exact q
  · exact h.forget hfr
theorem wfN.pop {σ : Net} {b : Nat} (h : wfN σ b) : wfN (popA σ) b := by
  obtain ⟨h1, h2, h3, h4, h5, h6, h7, h8, h9, h10⟩ := h
  refine ⟨h1, ⟨?_, h2.2⟩, h3, fun f hf => h4 f (List.mem_of_mem_tail hf), h5, ?_, h7, h8, h9, h10⟩
  · show (nAir σ).tail.length ≤ 40; rw [List.length_tail]; omega
  · exact h6.sublist (List.Sublist.map _ (List.Sublist.filter _ (List.tail_sublist _)))
theorem wfN.ar {σ : Net} {b : Nat} (h : wfN σ b) (hb : b + 1 < 100000) (hne : 1 ≤ (nAir σ).length) : wfN (arrive σ) (b + 1) := by
  have hup : ∀ {τ : Net}, wfO τ b 40 → wfN τ (b + 1) := fun q => (q.up (Nat.le_succ b) hb).n40
  have hm : hdF σ ∈ nAir σ := getD_mem (by omega)
  obtain ⟨⟨f1, f2, f3, f4⟩, k0, k1, k2, k3⟩ := h.2.2.2.1 _ hm
  have hp := h.pop
  unfold arrive
  split
  · rename_i hk
    obtain ⟨g1, g2, g3, g4⟩ := k0 hk
    refine (hp.op (o := fAb (hdF σ)) (fun f hf hfk e => ?_) (fun n hn hd => ?_)).ad hb g1 (h.da g1) g2 g4.symm
    · have h6 := h.2.2.2.2.2.1
      have hc : nAir σ = hdF σ :: (nAir σ).tail := by
        unfold hdF
        cases hA : nAir σ with
        | nil => rw [hA] at hne; simp at hne
        | cons a t => rfl
      rw [hc, List.filter_cons_of_pos (by simpa using hk), List.map_cons, List.nodup_cons] at h6
      exact h6.1 (e ▸ List.mem_map.mpr ⟨f, List.mem_filter.mpr ⟨hf, by simpa using hfk⟩, rfl⟩)
    · have := (h.2.2.2.2.2.2.2.1 n hn _ hd).2.1
      omega
  · split
    · rename_i hk
      obtain ⟨g1, g2, g3, g4, g5⟩ := k1 hk
      exact hup (hp.o.arq f3 f4 (by cases hr : fRo (hdF σ) with
        | nil => exact absurd hr g1
        | cons a t => simp) g3 g4 g5)
    · split
      · rename_i hk
        exact hup (hp.o.arp f2 f3 f4 (k2 hk).1 (k2 hk).2)
      · obtain ⟨g1, g2, g3, g4⟩ := k3 (by omega)
        exact hup (hp.o.ae f2 f3 f4 g1 g3 g4)
