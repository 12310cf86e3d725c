/-! a buffer drains, step by step -/
theorem drn_st {n b : Nat} (hn : n < 8) {d : Nat} {t pre : List Nat} {σ : Net} (h : wfN σ b) (hq : dBu (nNd σ n) = pre ++ d :: t) : (d < (nDa σ).length ∧ aSt (dat σ d) = 0 ∧ aOr (dat σ d) = n ∧ aSi (dat σ d) ≤ nNow σ ∧ (aTr (dat σ d)).length = 1) ∧ daB (dat σ d) ∧ wfO (leaveN σ n pre.length) b d ∧ leaveN σ n pre.length = uNd σ n (xBu (nNd σ n) (pre ++ t)) ∧ (wayN σ n (aEn (dat σ d)) ≠ [] → wfN (flyBy (leaveN σ n pre.length) d (wayN σ n (aEn (dat σ d)))) b ∧ dBu (nNd (flyBy (leaveN σ n pre.length) d (wayN σ n (aEn (dat σ d)))) n) = pre ++ t) ∧ (wfN (doneD (leaveN σ n pre.length) d 3) b ∧ dBu (nNd (doneD (leaveN σ n pre.length) d 3) n) = pre ++ t) := by
  have hmd : d ∈ dBu (nNd σ n) := by rw [hq]; simp
  obtain ⟨u1, u2, u3, u4, u5⟩ := h.o.bu hn d hmd |>.1
  have hdB := (h.da u1).b
  obtain ⟨t1, t2⟩ := tr_one hdB u5
  have hlv : leaveN σ n pre.length = uNd σ n (xBu (nNd σ n) (pre ++ t)) := by
    unfold leaveN; rw [hq, List.eraseIdx_append_of_length_le (Nat.le_refl _), Nat.sub_self]; rfl
  obtain ⟨k1, k2, k3, k4, k5, k6, k7, k8, k9⟩ := h.o.no hn
  rw [hq] at k5 k6
  have hnd := k6
  rw [List.nodup_append] at hnd
  obtain ⟨p1, p2, p3⟩ := hnd
  rw [List.nodup_cons] at p2
  have hdn : d ∉ pre ++ t := fun hm => (List.mem_append.mp hm).elim (fun q => p3 d q d (by simp) rfl) p2.1
  have hsub : (pre ++ t).Sublist (pre ++ d :: t) := List.Sublist.append_left (List.sublist_cons_self d t) pre
  have hl : wfN (leaveN σ n pre.length) b := by
    rw [hlv]
    refine (h.o.nd (x := xBu (nNd σ n) (pre ++ t)) ⟨k1, k2, k3, k4, ?_, k6.sublist hsub, k7, k8, k9⟩ (fun e he => h.o.bu hn e ?_)).n40
    · have := hsub.length_le; exact Nat.le_trans this k5
    · rw [hq]; exact hsub.subset he
  have ho : wfO (leaveN σ n pre.length) b d := by
    refine hl.op (fun f hf hfk e => ?_) (fun m hm hmd' => ?_)
    · have := ((h.2.2.2.1 f (by rw [hlv] at hf; exact hf)).2.1 hfk).2.1
      rw [e] at this; omega
    · rw [hlv] at hmd'
      by_cases hmn : m = n
      · subst hmn; simp only [nNd, uNd, if_true] at hmd'; exact hdn hmd'
      · simp only [nNd, uNd, if_neg hmn] at hmd'
        have := (h.o.bu hm d hmd').1.2.2.1
        omega
  have hbu : dBu (nNd (leaveN σ n pre.length) n) = pre ++ t := by rw [hlv]; simp only [nNd, uNd, if_true]; rfl
  have hda : nDa (leaveN σ n pre.length) = nDa σ := by rw [hlv]; rfl
  have hdd : dat (leaveN σ n pre.length) d = dat σ d := by unfold dat; rw [hda]
  refine ⟨⟨u1, u2, u3, u4, u5⟩, hdB, ho, hlv, fun hne => ?_, ?_⟩
  · have hg := wayN_good (b := b) hn h.1 (h.2.2.1 n hn) hne
    refine ⟨ho.fb (by rw [hda]; exact u1) (by rw [hdd]; exact hdB) ?_ ?_, ?_⟩
    · rw [hdd, t2, u3]; exact hg
    · rw [hdd, t1, u3]
      intro i hi hil hm
      rw [List.mem_singleton] at hm
      have hm := hm.trans hg.2.1.symm
      rw [getD_lt hil, getD_lt (by omega)] at hm
      have := (List.getElem_inj hg.1).mp hm
      omega
    · rw [← hbu, kpD_flyBy.2.2.2.1]
  · refine ⟨ho.done (by rw [hda]; exact u1) (by rw [hdd]; exact hdB) (Or.inr rfl), ?_⟩
    rw [← hbu, kpD_done.2.2.2.1]
/-- a change of nodes alone -/
def tN (g : (Nat → Nd) → Nat → Nd) (σ : Net) : Net := (σ.1, σ.2.1, σ.2.2.1, σ.2.2.2.1, g σ.2.2.2.2.1, σ.2.2.2.2.2.1, σ.2.2.2.2.2.2)
theorem send_T {g : (Nat → Nd) → Nat → Nd} {σ : Net} {f : Fm} : sendF (tN g σ) f = (tN g (sendF σ f).1, (sendF σ f).2) := by
  unfold sendF
  by_cases h : (nAir σ).length = 40
  · have h' : (nAir (tN g σ)).length = 40 := h
    rw [if_pos h, if_pos h']; rfl
  · have h' : ¬ (nAir (tN g σ)).length = 40 := h
    rw [if_neg h, if_neg h']; rfl
theorem done_T {g : (Nat → Nd) → Nat → Nd} {σ : Net} {d st : Nat} : doneD (tN g σ) d st = tN g (doneD σ d st) := rfl
theorem flyOn_T {g : (Nat → Nd) → Nat → Nd} {σ : Net} {d : Nat} : flyOn (tN g σ) d = tN g (flyOn σ d) := by
  unfold flyOn
  have e : uDa (tN g σ) d (dSt (dat (tN g σ) d) 1) = tN g (uDa σ d (dSt (dat σ d) 1)) := rfl
  have e2 : trL (dat (tN g σ) d) = trL (dat σ d) := rfl
  rw [e, e2, send_T]
  generalize sendF (uDa σ d (dSt (dat σ d) 1)) (0, trL (dat σ d), d, 0, none, []) = r
  show (if r.2 = true then tN g r.1 else doneD (tN g r.1) d 3) = tN g (if r.2 = true then r.1 else doneD r.1 d 3)
  by_cases h : r.2 = true
  · rw [if_pos h, if_pos h]
  · rw [if_neg h, if_neg h]; rfl
theorem fly_T {g : (Nat → Nd) → Nat → Nd} {σ : Net} {d : Nat} {wy : List Nat} : flyBy (tN g σ) d wy = tN g (flyBy σ d wy) := by
  unfold flyBy
  have e : uDa (tN g σ) d (dRe (dat (tN g σ) d) wy) = tN g (uDa σ d (dRe (dat σ d) wy)) := rfl
  rw [e]
  exact flyOn_T
/-- a node's buffer -/
def bu (σ : Net) (n : Nat) (L : List Nat) : Net := uNd σ n (xBu (nNd σ n) L)
theorem bu_tN {σ : Net} {n : Nat} {L : List Nat} : bu σ n L = tN (fun q m => if m = n then xBu (q n) L else q m) σ := rfl
theorem nNd_bu {σ : Net} {n : Nat} {L : List Nat} : nNd (bu σ n L) n = xBu (nNd σ n) L := by
  show (if n = n then _ else _) = _
  rw [if_pos rfl]
theorem bu_bu {σ : Net} {n : Nat} {L M : List Nat} : bu (bu σ n L) n M = bu σ n M := by
  unfold bu
  refine Prod.ext rfl (Prod.ext rfl (Prod.ext rfl (Prod.ext rfl (Prod.ext ?_ rfl))))
  funext m
  show (if m = n then xBu (if n = n then xBu (nNd σ n) L else _) M else if m = n then _ else nNd σ m) = if m = n then xBu (nNd σ n) M else nNd σ m
  by_cases c : m = n
  · rw [if_pos c, if_pos c, if_pos rfl]; rfl
  · rw [if_neg c, if_neg c, if_neg c]
theorem bu_self {σ : Net} {n : Nat} : bu σ n (dBu (nNd σ n)) = σ := by
  unfold bu
  refine Prod.ext rfl (Prod.ext rfl (Prod.ext rfl (Prod.ext rfl (Prod.ext ?_ rfl))))
  funext m
  show (if m = n then xBu (nNd σ n) (dBu (nNd σ n)) else nNd σ m) = nNd σ m
  by_cases c : m = n
  · rw [if_pos c, c]; rfl
  · rw [if_neg c]
theorem fly_bu {σ : Net} {n d : Nat} {L wy : List Nat} : flyBy (bu σ n L) d wy = bu (flyBy σ d wy) n L := by rw [bu_tN, fly_T]; rfl
theorem done_bu {σ : Net} {n d st : Nat} {L : List Nat} : doneD (bu σ n L) d st = bu (doneD σ d st) n L := rfl
theorem way_bu {σ : Net} {n to : Nat} {L : List Nat} : wayN (bu σ n L) n to = wayN σ n to := by unfold wayN; rw [nNd_bu]; rfl
