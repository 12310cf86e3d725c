/-! a data's own facts, whatever its route -/
def daB (x : Da) : Prop := (aOr x < 8 ∧ aEn x < 8 ∧ aOr x ≠ aEn x ∧ aSh x < 256 ∧ aSv x ≤ 3) ∧ 1 ≤ (aTr x).length ∧ (aTr x).Nodup ∧ (∀ y ∈ aTr x, y < 8) ∧ (aTr x).getD 0 0 = aOr x
theorem daOk.b {x : Da} (h : daOk x) : daB x := by
  obtain ⟨⟨a1, a2, a3, a4, a5, a6⟩, ⟨b1, b2, b3, b4, b5⟩, c1, c2⟩ := h
  exact ⟨⟨a1, a2, a3, a5, a6⟩, b1, (List.nodup_append.mp b2).1, b3, b5⟩
theorem daB.ok {x : Da} (h : daB x) (hs : aSt x ≤ 3) (hs1 : aSt x ≠ 1) (hr : aRe x = []) : daOk x := by
  obtain ⟨⟨a1, a2, a3, a5, a6⟩, b1, b2, b3, b4⟩ := h
  refine ⟨⟨a1, a2, a3, hs, a5, a6⟩, ⟨b1, ?_, b3, ?_, b4⟩, fun q => absurd q hs1, fun _ => hr⟩
  · rw [hr]; simpa using b2
  · rw [hr]; intro y hy; cases hy
theorem daB.tl {x : Da} (h : daB x) : trL x < 8 ∧ trL x ∈ aTr x := by
  have := h.2.1
  have hm : trL x ∈ aTr x := getD_mem (by omega)
  exact ⟨h.2.2.2.1 _ hm, hm⟩
theorem wfO.done {σ : Net} {b o st : Nat} (h : wfO σ b o) (ho : o < (nDa σ).length) (hd : daB (dat σ o)) (hst : st = 2 ∨ st = 3) : wfN (doneD σ o st) b := by
  refine ((h.da (y := dRe (dDo (dSt (dat σ o) st) (some (nNow σ))) [])).ta (k := if st = 2 then 9 else 10)).n (fun _ => ?_)
  show daOk (dat (uDa σ o _) o)
  rw [dat_eq ho]
  exact daB.ok (x := dRe (dDo (dSt (dat σ o) st) (some (nNow σ))) []) hd (show st ≤ 3 by omega) (show st ≠ 1 by omega) rfl
theorem wfO.fo {σ : Net} {b o : Nat} (h : wfO σ b o) (ho : o < (nDa σ).length) (hd : daOk (dSt (dat σ o) 1)) : wfN (flyOn σ o) b := by
  have hb : daB (dat σ o) := daOk.b (x := dSt (dat σ o) 1) hd
  have h1 : wfO (uDa σ o (dSt (dat σ o) 1)) b o := h.da
  have ho1 : o < (nDa (uDa σ o (dSt (dat σ o) 1))).length := by rw [len_set]; exact ho
  have e1 : dat (uDa σ o (dSt (dat σ o) 1)) o = dSt (dat σ o) 1 := dat_eq ho
  unfold flyOn
  generalize hτ : uDa σ o (dSt (dat σ o) 1) = τ at h1 ho1 e1
  by_cases hl : (nAir τ).length = 40
  · have e : ∀ f, sendF τ f = (uTa τ 8, false) := fun f => if_pos hl
    rw [e]
    exact (h1.ta (k := 8)).done ho1 (by show daB (dat τ o); rw [e1]; exact hb) (Or.inr rfl)
  · have e : ∀ f, sendF τ f = (uTa (uAir τ (nAir τ ++ [f])) (fKi f), true) := fun f => if_neg hl
    rw [e]
    exact h1.fly ho1 (by rw [e1]; exact hd) (by rw [e1]; rfl) (by rw [e1]; rfl) hl
theorem wfO.fb {σ : Net} {b o : Nat} {w : List Nat} (h : wfO σ b o) (ho : o < (nDa σ).length) (hd : daB (dat σ o)) (hw : goodW (trL (dat σ o)) (aEn (dat σ o)) w) (hc : clr w (aTr (dat σ o))) : wfN (flyBy σ o w) b := by
  have h1 : wfO (uDa σ o (dRe (dat σ o) w)) b o := h.da
  refine h1.fo (by rw [len_set]; exact ho) ?_
  rw [dat_eq ho]
  obtain ⟨⟨a1, a2, a3, a5, a6⟩, b1, b2, b3, b4⟩ := hd
  obtain ⟨w1, w2, w3, w4, w5⟩ := hw
  refine ⟨⟨a1, a2, a3, show 1 ≤ 3 by omega, a5, a6⟩, ⟨b1, ?_, b3, w5, b4⟩, fun _ => ⟨w4, w2, w3⟩, fun q => absurd rfl q⟩
  show (aTr (dat σ o) ++ w.tail).Nodup
  rw [List.nodup_append]
  refine ⟨b2, w1.sublist (List.tail_sublist w), fun x hx y hy e => ?_⟩
  subst e
  obtain ⟨i, hi, e⟩ := List.mem_iff_getElem.mp hy
  rw [List.length_tail] at hi
  have := hc (i + 1) (by omega) (by omega)
  rw [getD_lt (by omega)] at this
  rw [List.getElem_tail] at e
  exact this (e ▸ hx)
theorem wfO.wt {σ : Net} {b o : Nat} (h : wfO σ b o) (ho : o < (nDa σ).length) (hd : daB (dat σ o)) (ht : (aTr (dat σ o)).length = 1) (hl : (dBu (nNd σ (aOr (dat σ o)))).length ≠ nSe σ 4) : wfN (wait σ o) b := by
  have hor : aOr (dat σ o) < 8 := hd.1.1
  have h1 : wfO (uDa σ o (dSi (dRe (dSt (dat σ o) 0) []) (nNow σ))) b o := h.da
  have e1 : dat (uDa σ o (dSi (dRe (dSt (dat σ o) 0) []) (nNow σ))) o = dSi (dRe (dSt (dat σ o) 0) []) (nNow σ) := dat_eq ho
  have ho1 : o < (nDa (uDa σ o (dSi (dRe (dSt (dat σ o) 0) []) (nNow σ)))).length := by rw [len_set]; exact ho
  have h2 := (h1.n (fun _ => by rw [e1]; exact daB.ok (x := dSi (dRe (dSt (dat σ o) 0) []) (nNow σ)) hd (show 0 ≤ 3 by omega) (show 0 ≠ 1 by omega) rfl)).o
  obtain ⟨k1, k2, k3, k4, k5, k6, k7, k8, k9⟩ := h.no hor
  refine (h2.nd (n := aOr (dat σ o)) (x := xBu (nNd σ (aOr (dat σ o))) (dBu (nNd σ (aOr (dat σ o))) ++ [o])) ⟨k1, k2, k3, k4, ?_, ?_, k7, k8, k9⟩ (fun d hdm => ?_)).n40
  · show (dBu (nNd σ (aOr (dat σ o))) ++ [o]).length ≤ nSe σ 4
    rw [List.length_append, List.length_singleton]; omega
  · show (dBu (nNd σ (aOr (dat σ o))) ++ [o]).Nodup
    rw [List.nodup_append]
    refine ⟨k6, by simp, fun x hx y hy e => ?_⟩
    rw [List.mem_singleton.mp hy] at e
    exact (h.bu hor x hx).2 e
  · rcases List.mem_append.mp hdm with q | q
    · exact h2.bu hor d q
    · rw [List.mem_singleton.mp q]
      refine ⟨⟨ho1, by rw [e1]; rfl, by rw [e1]; rfl, by rw [e1]; exact Nat.le_refl _, by rw [e1]; exact ht⟩, ?_⟩
      have := h.2.1.2; omega
theorem fr1 {σ : Net} {b x t k : Nat} {lk : Option (Nat × Nat)} {ro : List Nat} (hx : x < 8) (hd : ro.Nodup) (h8 : ∀ y ∈ ro, y < 8) (h1 : 1 ≤ ro.length) (hl : ro.getD (ro.length - 1) 0 = x) (ht : t < 8) (hk : k ≤ b) (hlk : lkOk lk) : frOk σ b (1, x, t, k, lk, ro) := ⟨⟨show 1 ≤ 3 by omega, hx, hd, h8⟩, fun q => absurd q (show (1 : Nat) ≠ 0 by decide), fun _ => ⟨fun (e : ro = []) => by rw [e] at h1; simp at h1, hl, ht, hk, hlk⟩, fun q => absurd q (show (1 : Nat) ≠ 2 by decide), fun q => absurd q (show (1 : Nat) ≠ 3 by decide)⟩
theorem fr2 {σ : Net} {b x t k : Nat} {lk : Option (Nat × Nat)} {ro : List Nat} (hx : x < 8) (hd : ro.Nodup) (h8 : ∀ y ∈ ro, y < 8) (hm : x ∈ ro) (hh : ro.getD 0 0 ≠ x) : frOk σ b (2, x, t, k, lk, ro) := ⟨⟨show 2 ≤ 3 by omega, hx, hd, h8⟩, fun q => absurd q (show (2 : Nat) ≠ 0 by decide), fun q => absurd q (show (2 : Nat) ≠ 1 by decide), fun _ => ⟨hm, hh⟩, fun q => absurd q (show (2 : Nat) ≠ 3 by decide)⟩
theorem fr3 {σ : Net} {b x t k : Nat} {lk : Option (Nat × Nat)} {ro : List Nat} (hx : x < 8) (hd : ro.Nodup) (h8 : ∀ y ∈ ro, y < 8) (h2 : 2 ≤ ro.length) (hh : ro.getD 0 0 = x) (hlk : lkOk lk) (hn : lk ≠ none) : frOk σ b (3, x, t, k, lk, ro) := ⟨⟨show 3 ≤ 3 by omega, hx, hd, h8⟩, fun q => absurd q (show (3 : Nat) ≠ 0 by decide), fun q => absurd q (show (3 : Nat) ≠ 1 by decide), fun q => absurd q (show (3 : Nat) ≠ 2 by decide), fun _ => ⟨h2, hh, hlk, hn⟩⟩
theorem wfO.as {σ : Net} {b o n to : Nat} (h : wfO σ b o) (hb : b + 1 < 100000) (hn : n < 8) (hto : to < 8) : wfO (ask σ n to) (b + 1) o := by
  have h0 := h.up (Nat.le_succ b) hb
  obtain ⟨h1, h2, h3, h4, h5, h6, h7, h8, h9⟩ := h.no hn
  have hx : wfO (uNd σ n (xAsk (nNd σ n) to (nNow σ))) (b + 1) o := by
    refine h0.nd ⟨h1, h2, h3, fun q hq => ⟨(h4 q hq).1, Nat.le_succ_of_le (h4 q hq).2⟩, h5, h6, Nat.succ_le_succ h7, h8, fun u k hu => ?_⟩ (h0.bu hn)
    simp only [dAk, xAsk] at hu
    split at hu
    · rename_i e; subst e; cases hu; exact ⟨Nat.le_refl _, hto⟩
    · exact h9 u k hu
  exact hx.send (fr1 hn (List.nodup_cons.mpr ⟨by simp, List.nodup_nil⟩) (fun x q => by rw [List.mem_singleton.mp q]; exact hn) (Nat.le_refl 1) rfl hto (Nat.succ_le_succ h7) h8) (show (1 : Nat) ≠ 0 by decide)
theorem tr_one {x : Da} (h : daB x) (ht : (aTr x).length = 1) : aTr x = [aOr x] ∧ trL x = aOr x := by
  have h4 := h.2.2.2.2
  unfold trL
  match hh : aTr x, ht with
  | [y], _ => rw [hh] at h4; simp at h4; simp [h4]
theorem wfO.sv {σ : Net} {b o : Nat} (h : wfO σ b o) (hb : b + 1 < 100000) (ho : o < (nDa σ).length) (hd : daB (dat σ o)) (ht : (aTr (dat σ o)).length = 1) : wfN (serve σ o) (b + 1) := by
  obtain ⟨t1, t2⟩ := tr_one hd ht
  have hup : ∀ {τ : Net}, wfN τ b → wfN τ (b + 1) := fun q => (q.o.up (Nat.le_succ b) hb).n40
  unfold serve
  split
  · rename_i hne
    have hg := wayN_good (b := b) hd.1.1 h.1 (h.no hd.1.1) hne
    refine hup (h.fb ho hd (by rw [t2]; exact hg) ?_)
    rw [t1]
    intro i hi hil hm
    rw [List.mem_singleton] at hm
    obtain ⟨g1, g2, g3, g4, g5⟩ := hg
    have hm := hm.trans g2.symm
    rw [getD_lt hil, getD_lt (by omega)] at hm
    have := (List.getElem_inj g1).mp hm
    omega
  · split
    · exact hup (h.done ho hd (Or.inr rfl))
    · rename_i hl
      have hw := h.wt ho hd ht hl
      split
      · exact (hw.o.as hb hd.1.1 hd.1.2.1).n40
      · exact hup hw
theorem nDa_send {σ : Net} {f : Fm} : nDa (sendF σ f).1 = nDa σ := by unfold sendF; split <;> rfl
theorem nSe_send {σ : Net} {f : Fm} : nSe (sendF σ f).1 = nSe σ := by unfold sendF; split <;> rfl
theorem lkP_ok {x y : Nat} (hx : x < 8) (hy : y < 8) (h : x ≠ y) : lkOk (some (lkP x y)) := by
  intro q hq
  cases hq
  simp only [lkP]
  omega
theorem rev_hd {t : List Nat} (h : 1 ≤ t.length) : t.reverse.getD 0 0 = t.getD (t.length - 1) 0 := by
  rw [getD_lt (by rw [List.length_reverse]; omega), getD_lt (by omega), List.getElem_reverse]
  congr 1
theorem wfO.br {σ : Net} {b o x y : Nat} (h : wfO σ b o) (hb : b + 1 < 100000) (ho : o < (nDa σ).length) (hd : daB (dat σ o)) (hx : trL (dat σ o) = x) (hy : y < 8) (hxy : x ≠ y) : wfN (breakD σ o x y) (b + 1) := by
  have hx8 : x < 8 := hx ▸ hd.tl.1
  have hup : ∀ {τ : Net}, wfN τ b → wfN τ (b + 1) := fun q => (q.o.up (Nat.le_succ b) hb).n40
  have h2 : wfO (brk2 σ x y) b o := (h.ta (k := 6)).forget hx8
  unfold breakD
  split
  · rename_i hxo
    refine (h2.nw hx8 (lkP_ok hx8 hy hxy)).sv hb ho hd ?_
    show (aTr (dat σ o)).length = 1
    have h1 := hd.2.1
    have hnd := hd.2.2.1
    have e : (aTr (dat σ o)).getD ((aTr (dat σ o)).length - 1) 0 = (aTr (dat σ o)).getD 0 0 := by rw [hd.2.2.2.2, ← hxo]; exact hx
    rw [getD_lt (by omega), getD_lt (by omega)] at e
    have := (List.getElem_inj hnd).mp e
    omega
  · rename_i hxo
    have h1 := hd.2.1
    have hl2 : 2 ≤ (aTr (dat σ o)).length := by
      rcases Nat.lt_or_ge 1 (aTr (dat σ o)).length with q | q
      · exact q
      · exact absurd (by rw [← hx]; exact (tr_one hd (by omega)).2) hxo
    have h3 : wfO (brk3 σ o x y) b o := by
      refine h2.send (fr3 hx8 (nodup_rev hd.2.2.1) (fun z hz => hd.2.2.2.1 z (List.mem_reverse.mp hz)) (by rw [List.length_reverse]; exact hl2) ((rev_hd h1).trans hx) (lkP_ok hx8 hy hxy) (fun q => by cases q)) (show (3 : Nat) ≠ 0 by decide)
    have e3 : nDa (brk3 σ o x y) = nDa σ := nDa_send
    have e4 : dat (brk3 σ o x y) o = dat σ o := by unfold dat; rw [e3]
    split
    · rename_i hq
      obtain ⟨q1, q2, q3⟩ := hq
      have hg := wayN_good (b := b) hx8 h3.1 (h3.no hx8) q2
      have hs7 : nSe σ 7 ≤ 3 := h.1.2.2.2.2.2.2.2
      have h5 : wfO (uTa (uDa (brk3 σ o x y) o (dSv (dat σ o) (aSv (dat σ o) + 1))) 4) b o := h3.da.ta
      have e5 : dat (uTa (uDa (brk3 σ o x y) o (dSv (dat σ o) (aSv (dat σ o) + 1))) 4) o = dSv (dat σ o) (aSv (dat σ o) + 1) := dat_eq (by rw [e3]; exact ho)
      refine hup (h5.fb ?_ ?_ ?_ ?_)
      · show o < (nDa (uDa (brk3 σ o x y) o _)).length
        rw [len_set, e3]; exact ho
      · rw [e5]
        obtain ⟨⟨a1, a2, a3, a5, a6⟩, b1⟩ := hd
        exact ⟨⟨a1, a2, a3, a5, show aSv (dat σ o) + 1 ≤ 3 by omega⟩, b1⟩
      · rw [e5, show trL (dSv (dat σ o) (aSv (dat σ o) + 1)) = x from hx]; exact hg
      · rw [e5]; exact clr_iff.mpr q3
    · exact hup (h3.done (by rw [e3]; exact ho) (by rw [e4]; exact hd) (Or.inr rfl))
