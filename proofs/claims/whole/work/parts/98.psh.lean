/-! a new data; sums of buffers -/
theorem psh_wfO {σ : Net} {b : Nat} {x : Da} (h : wfN σ b) (hl : (nDa σ).length < 40) : wfO (pushD σ x) b (nDa σ).length := by
  obtain ⟨h1, h2, h3, h4, h5, h6, h7, h8, h9, h10⟩ := h
  have hlen : (nDa (pushD σ x)).length = (nDa σ).length + 1 := by show (nDa σ ++ [_]).length = _; rw [List.length_append, List.length_singleton]
  have hold : ∀ e, e < (nDa σ).length → dat (pushD σ x) e = dat σ e := fun e he => by
    show (nDa σ ++ [_]).getD e d0 = _
    simp [List.getElem?_append_left he]
  refine ⟨h1, ⟨h2.1, by rw [hlen]; omega⟩, h3, fun f hf => ⟨?_, fun q => ?_⟩, fun d hd hne => ?_, h6, h7, fun n hn d hd => ?_, h9, h10⟩
  · obtain ⟨g1, g2, g3, g4, g5⟩ := h4 f hf
    refine ⟨g1, fun q => ?_, g3, g4, g5⟩
    obtain ⟨q1, q2, q3, q4⟩ := g2 q
    rw [hold _ q1, hlen]
    exact ⟨by omega, q2, q3, q4⟩
  · have := ((h4 f hf).2.1 q).1; omega
  · have hd' : d < (nDa σ).length := by rw [hlen] at hd; omega
    rw [hold d hd']; exact h5 _ (getD_mem hd')
  · obtain ⟨u1, u2, u3, u4, u5⟩ := h8 n hn d hd
    refine ⟨?_, by omega⟩
    unfold buOk
    rw [hold d u1, hlen]
    exact ⟨by omega, u2, u3, u4, u5⟩
theorem psh_len {σ : Net} {x : Da} : (nDa (pushD σ x)).length = (nDa σ).length + 1 := by show (nDa σ ++ [_]).length = _; rw [List.length_append, List.length_singleton]
theorem psh_old {σ : Net} {x : Da} {e : Nat} (he : e < (nDa σ).length) : dat (pushD σ x) e = dat σ e := by
  show (nDa σ ++ [_]).getD e d0 = _
  simp [List.getElem?_append_left he]
theorem psh_new {σ : Net} {x : Da} : dat (pushD σ x) (nDa σ).length = x := by
  show (nDa σ ++ [_]).getD (nDa σ).length d0 = _
  simp
theorem psh_world {S S' : St} {w : Nat} {σ : Net} {x : Da} (h : worldR S w σ) (hl : (nDa σ).length < 40) (hfr : ∀ f ∈ nAir σ, fKi f = 0 → fAb f < (nDa σ).length) (hor : aOr x < nSe σ 0 ∧ aEn x < nSe σ 0) (hr : S'.2.2 = S.2.2) (hc : ∀ a, a ≠ w → a ≠ dA w (nDa σ).length → S'.1 a = S.1 a ∧ S'.2.1 a = S.2.1 a) (hw5 : S'.1 w 5 = nI ((nDa σ).length + 1)) (hw6 : S'.1 w 6 = S.1 w 6) (hw7 : S'.2.1 w = S.2.1 w) (h0 : S'.1 (dA w (nDa σ).length) 0 = S.1 (dA w (nDa σ).length) 0) (hx : daC S' (dA w (nDa σ).length) x) : worldR S' w (pushD σ x) ∧ wch w S S' := by
  obtain ⟨h1, h2, ⟨s, p, h3⟩, h4, h5, h6, h7, h8⟩ := h
  have hc0 : ∀ a, w < a → a < w + 112 → S'.1 a = S.1 a ∧ S'.2.1 a = S.2.1 a := fun a q1 q2 => hc a (by omega) (by unfold dA; omega)
  have hcd : ∀ k, k ≠ (nDa σ).length → S'.1 (dA w k) = S.1 (dA w k) ∧ S'.2.1 (dA w k) = S.2.1 (dA w k) := fun k hk => hc _ (by unfold dA; omega) (by unfold dA; omega)
  have hch : ∀ n, n < 8 → chg w (w + 1) (S'.1, S'.2.1, S'.2.2) S' := fun _ _ => chg.rf
  refine ⟨⟨wdF_same h1 (fun a q1 q2 => by rw [hr]) (fun k hk => ?_), ⟨fun k hk => by rw [(hc0 _ (by omega) (by omega)).1]; exact h2.1 k hk, fun k hk => by rw [(hc0 _ (by omega) (by omega)).1]; exact h2.2.1 k hk, by rw [hw5, psh_len], by rw [hw6]; exact h2.2.2.2.1, by rw [hw7]; exact h2.2.2.2.2⟩, ⟨s, p, ?_⟩, fun m hm => ?_, fun k hk => ?_, ⟨fun d hd => ?_, h6.2.1, h6.2.2⟩, h7, by rw [psh_len]; omega⟩, fun a ha => ?_, hr, fun a ha => ?_⟩
  · by_cases e : k = (nDa σ).length
    · rw [e]; exact h0
    · rw [(hcd k e).1]
  · have q := arR_same (S' := S') h3 (hc0 (w + 3) (by omega) (by omega)).1 (by rw [hr]) (by rw [hr]) (fun a q1 q2 => hc0 a (by omega) (by omega))
    obtain ⟨g1, g2, g3, g4, g5, g6, g7, g8⟩ := q
    exact ⟨g1, g2, g3, g4, g5, g6, g7, fun k hk => fmR_net (g8 k hk) (fun z => by
      have := hfr _ (getD_mem hk) z
      exact congrArg aRe (psh_old this))⟩
  · have hm' : chg w (w + 48) S (fun a => if a < w + 48 ∨ w + 112 ≤ a then S'.1 a else S.1 a, fun a => if a < w + 48 ∨ w + 112 ≤ a then S'.2.1 a else S.2.1 a, S.2.2) ∨ True := Or.inr trivial
    clear hm'
    obtain ⟨⟨f1, f2, f3, f4⟩, ⟨i1, i2, i3, i4, i5, i6, i7⟩, p3, p4, p5, p6⟩ := h4 m hm
    have key : ∀ a, pA w m ≤ a → a < pA w m + 8 → S'.1 a = S.1 a ∧ S'.2.1 a = S.2.1 a := fun a q1 q2 => hc0 a (by unfold pA at q1; omega) (by unfold pA at q2; omega)
    have k0 := key (pA w m) (by omega) (by omega)
    have k3 := key (pA w m + 3) (by omega) (by omega)
    have k4 := key (pA w m + 4) (by omega) (by omega)
    have hcg : chg 0 (pA w m) S (fun a => if pA w m ≤ a then S.1 a else S'.1 a, fun a => if pA w m ≤ a then S.2.1 a else S'.2.1 a, S.2.2) := fun a ha => by
      have : pA w m ≤ a := by omega
      exact ⟨if_pos this, if_pos this, rfl⟩
    have hcg2 : chg (pA w m + 8) (pA w m + 8 + (w + 200)) (fun a => if pA w m ≤ a then S.1 a else S'.1 a, fun a => if pA w m ≤ a then S.2.1 a else S'.2.1 a, S.2.2) S' := fun a ha => by
      rcases ha with ha | ha
      · by_cases c : pA w m ≤ a
        · exact ⟨by rw [(key a c ha).1]; exact (if_pos c).symm, by rw [(key a c ha).2]; exact (if_pos c).symm, by rw [hr]⟩
        · exact ⟨(if_neg c).symm, (if_neg c).symm, by rw [hr]⟩
      · have c : pA w m ≤ a := by omega
        have := hc a (by unfold pA at ha; omega) (by unfold pA at ha; unfold dA; omega)
        exact ⟨by rw [this.1]; exact (if_pos c).symm, by rw [this.2]; exact (if_pos c).symm, by rw [hr]⟩
    exact ((h4 m hm).chg hcg (Or.inr (Nat.le_refl _))).chg hcg2 (Or.inl (Nat.le_refl _))
  · rw [psh_len] at hk
    by_cases e : k = (nDa σ).length
    · rw [e, psh_new]; exact hx
    · rw [psh_old (by omega)]; exact daC_same (h5 k (by omega)) (hcd k e).1 (hcd k e).2
  · rw [psh_len] at hd
    by_cases e : d = (nDa σ).length
    · rw [e, psh_new]; exact hor
    · rw [psh_old (by omega)]; exact h6.1 d (by omega)
  · have := hc a (by omega) (by unfold dA; omega)
    exact ⟨this.1, this.2, by rw [hr]⟩
  · rw [h3.2.2.2.1] at ha
    have ha := Option.some.inj ha
    have q := h3.2.2.2.2.2.1 40 (by omega)
    exact hc0 a (by omega) (by omega)
/-- since when a data waits, where it doesn't -/
def sI (σ : Net) (d v : Nat) : Net := uDa σ d (dSi (dat σ d) v)
theorem sI_world {S : St} {w d v : Nat} {σ : Net} (h : worldR S w σ) (hd : d < (nDa σ).length) (hs : aSt (dat σ d) ≠ 0) : worldR S w (sI σ d v) := by
  refine (worldR_da (x := dSi (dat σ d) v) h hd chg.rf rfl rfl ?_ (fun f _ _ _ => rfl) (h.cv.da hd rfl rfl)).1
  obtain ⟨z1, z2, z3, z4, z5, z6, z7, z8, z9, z10⟩ := h.dc hd
  exact ⟨z1, z2, z3, z4, z5, z6, z7, z8, fun q => absurd q hs, z10⟩
theorem dat_si {σ : Net} {d v : Nat} (hd : d < (nDa σ).length) : dat (sI σ d v) d = dSi (dat σ d) v := dat_eq hd
theorem uDa_self {σ : Net} {d : Nat} (hd : d < (nDa σ).length) : uDa σ d (dat σ d) = σ := by
  have h : (nDa σ).set d (dat σ d) = nDa σ := by
    refine List.ext_getElem? (fun i => ?_)
    rw [List.getElem?_set]
    split
    · rename_i q
      subst q
      have hd' : d < σ.2.2.2.2.2.2.length := hd
      simp [hd']
    · rfl
  unfold uDa
  exact (show (σ.1, σ.2.1, σ.2.2.1, σ.2.2.2.1, σ.2.2.2.2.1, σ.2.2.2.2.2.1, (nDa σ).set d (dat σ d)) = σ by rw [h])
theorem sI_sI {σ : Net} {d v : Nat} (hd : d < (nDa σ).length) : sI (sI σ d v) d (aSi (dat σ d)) = σ := by
  have e : sI (sI σ d v) d (aSi (dat σ d)) = uDa (uDa σ d (dSi (dat σ d) v)) d (dSi (dat (sI σ d v) d) (aSi (dat σ d))) := rfl
  rw [e, uDa_uDa, dat_si hd]
  exact uDa_self hd
theorem send_da {σ : Net} {d : Nat} {x : Da} {f : Fm} : sendF (uDa σ d x) f = (uDa (sendF σ f).1 d x, (sendF σ f).2) := by
  unfold sendF
  by_cases h : (nAir σ).length = 40
  · have h' : (nAir (uDa σ d x)).length = 40 := h
    rw [if_pos h, if_pos h']; rfl
  · have h' : ¬ (nAir (uDa σ d x)).length = 40 := h
    rw [if_neg h, if_neg h']; rfl
theorem dat_sdF {σ : Net} {d : Nat} {f : Fm} : dat (sendF σ f).1 d = dat σ d := by unfold sendF; split <;> rfl
theorem done_si {σ : Net} {d v st : Nat} (hd : d < (nDa σ).length) : doneD (sI σ d v) d st = sI (doneD σ d st) d v := by
  have e : doneD (sI σ d v) d st = uTa (uDa (uDa σ d (dSi (dat σ d) v)) d (dRe (dDo (dSt (dat (sI σ d v) d) st) (some (nNow σ))) [])) (if st = 2 then 9 else 10) := rfl
  rw [e, uDa_uDa, dat_si hd]
  have e2 : sI (doneD σ d st) d v = uTa (uDa (uDa σ d (dRe (dDo (dSt (dat σ d) st) (some (nNow σ))) [])) d (dSi (dat (doneD σ d st) d) v)) (if st = 2 then 9 else 10) := rfl
  rw [e2, uDa_uDa, show dat (doneD σ d st) d = dRe (dDo (dSt (dat σ d) st) (some (nNow σ))) [] from dat_eq hd]
  rfl
theorem fly_si {σ : Net} {d v : Nat} {wy : List Nat} (hd : d < (nDa σ).length) : flyBy (sI σ d v) d wy = sI (flyBy σ d wy) d v := by
  have hd2 : d < (nDa (sI σ d v)).length := by unfold sI; rw [len_set]; exact hd
  rw [flyBy_eq hd, flyBy_eq hd2]
  have e1 : flX (sI σ d v) d wy = uDa (flX σ d wy) d (dSi (dSt (dRe (dat σ d) wy) 1) v) := by
    have a : flX (sI σ d v) d wy = uDa (uDa σ d (dSi (dat σ d) v)) d (dSt (dRe (dat (sI σ d v) d) wy) 1) := rfl
    have c : uDa (flX σ d wy) d (dSi (dSt (dRe (dat σ d) wy) 1) v) = uDa (uDa σ d (dSt (dRe (dat σ d) wy) 1)) d (dSi (dSt (dRe (dat σ d) wy) 1) v) := rfl
    rw [a, c, uDa_uDa, uDa_uDa, dat_si hd]; rfl
  have e2 : flF (sI σ d v) d = flF σ d := by unfold flF; rw [dat_si hd]; rfl
  have hd3 : d < (nDa (sendF (flX σ d wy) (flF σ d)).1).length := by rw [nDa_send]; unfold flX; rw [len_set]; exact hd
  have e3 : uDa (sendF (flX σ d wy) (flF σ d)).1 d (dSi (dSt (dRe (dat σ d) wy) 1) v) = sI (sendF (flX σ d wy) (flF σ d)).1 d v := by
    unfold sI
    rw [dat_sdF, show dat (flX σ d wy) d = dSt (dRe (dat σ d) wy) 1 from dat_eq hd]
  rw [e1, e2, send_da, e3]
  generalize sendF (flX σ d wy) (flF σ d) = r at hd3
  show (if r.2 = true then sI r.1 d v else doneD (sI r.1 d v) d 3) = sI (if r.2 = true then r.1 else doneD r.1 d 3) d v
  by_cases h : r.2 = true
  · rw [if_pos h, if_pos h]
  · rw [if_neg h, if_neg h, done_si hd3]
theorem wait_si {σ : Net} {d v : Nat} (hd : d < (nDa σ).length) : wait (sI σ d v) d = wait σ d := by
  have e : dat (sI σ d v) d = dSi (dat σ d) v := dat_si hd
  unfold wait
  rw [e]
  have e2 : uDa (sI σ d v) d (dSi (dRe (dSt (dSi (dat σ d) v) 0) []) (nNow (sI σ d v))) = uDa σ d (dSi (dRe (dSt (dat σ d) 0) []) (nNow σ)) := by
    have a : uDa (sI σ d v) d (dSi (dRe (dSt (dSi (dat σ d) v) 0) []) (nNow (sI σ d v))) = uDa (uDa σ d (dSi (dat σ d) v)) d (dSi (dRe (dSt (dat σ d) 0) []) (nNow σ)) := rfl
    rw [a, uDa_uDa]
  rw [e2]; rfl
theorem sv_si {S : St} {w d v : Nat} {σ : Net} (hd : d < (nDa σ).length) (h : worldR S w (serve (sI σ d v) d)) : worldR S w (serve σ d) := by
  have e : dat (sI σ d v) d = dSi (dat σ d) v := dat_si hd
  have back : ∀ τ, d < (nDa τ).length → aSt (dat τ d) ≠ 0 → worldR S w (sI τ d v) → worldR S w τ := fun τ hτ hs q => by
    have := sI_world (v := aSi (dat τ d)) q (by unfold sI; rw [len_set]; exact hτ) (by rw [dat_si hτ]; exact hs)
    rw [sI_sI hτ] at this
    exact this
  have hwy : wayN (sI σ d v) (aOr (dat (sI σ d v) d)) (aEn (dat (sI σ d v) d)) = wayN σ (aOr (dat σ d)) (aEn (dat σ d)) := by rw [e]; rfl
  have ho : aOr (dat (sI σ d v) d) = aOr (dat σ d) := by rw [e]; rfl
  have hen : aEn (dat (sI σ d v) d) = aEn (dat σ d) := by rw [e]; rfl
  unfold serve at h ⊢
  rw [hwy, ho, hen] at h
  by_cases c1 : wayN σ (aOr (dat σ d)) (aEn (dat σ d)) ≠ []
  · rw [if_pos c1] at h ⊢
    rw [fly_si hd] at h
    exact back _ (by rw [kpD_flyBy.2.2.2.2.1]; exact hd) (st_fb hd) h
  · rw [if_neg c1] at h ⊢
    have hn : nNd (sI σ d v) = nNd σ := rfl
    have hse : nSe (sI σ d v) = nSe σ := rfl
    rw [hn, hse] at h
    by_cases c2 : (dBu (nNd σ (aOr (dat σ d)))).length = nSe σ 4
    · rw [if_pos c2] at h ⊢
      rw [done_si hd] at h
      exact back _ (by rw [kpD_done.2.2.2.2.1]; exact hd) (by rw [st_done hd]; decide) h
    · rw [if_neg c2] at h ⊢
      rw [wait_si hd] at h
      exact h
/-! sums -/
def smN (f : Nat → Nat) : Nat → Nat
  | 0 => 0
  | k + 1 => smN f k + f k
theorem smN_congr {f g : Nat → Nat} : ∀ {k : Nat}, (∀ j, j < k → f j = g j) → smN f k = smN g k
  | 0, _ => rfl
  | k + 1, h => by unfold smN; rw [smN_congr (fun j hj => h j (by omega)), h k (by omega)]
theorem smN_add {f g : Nat → Nat} : ∀ k, smN (fun j => f j + g j) k = smN f k + smN g k
  | 0 => rfl
  | k + 1 => by unfold smN; rw [smN_add k]; omega
theorem smN_one {o : Nat} {p : Bool} : ∀ k, smN (fun n => if p && decide (o = n) then 1 else 0) k = if p && decide (o < k) then 1 else 0
  | 0 => by simp [smN]
  | k + 1 => by
    unfold smN
    rw [smN_one k]
    cases p
    · simp
    · by_cases c : o = k
      · subst c; simp
      · by_cases c2 : o < k
        · simp [c, c2, show o < k + 1 by omega]
        · simp [c, c2, show ¬ o < k + 1 by omega]
theorem cnB_ins {p : Nat → Bool} {a : Nat} (ha : p a = false) : ∀ m, a < m → cnB (fun d => decide (d = a) || p d) m = cnB p m + 1
  | 0, h => by omega
  | m + 1, h => by
    unfold cnB
    by_cases c : m = a
    · subst c
      rw [cnB_congr (q := p) (fun j hj => by rw [decide_eq_false (by omega), Bool.false_or])]
      simp [ha]
    · rw [cnB_ins ha m (by omega), decide_eq_false c, Bool.false_or]; omega
theorem cnB_mem {m : Nat} : ∀ (B : List Nat), B.Nodup → (∀ d ∈ B, d < m) → cnB (fun d => decide (d ∈ B)) m = B.length
  | [], _, _ => by
    have : ∀ m, cnB (fun d => decide (d ∈ ([] : List Nat))) m = 0 := fun m => by
      induction m with
      | zero => rfl
      | succ m ih => unfold cnB; rw [ih]; simp
    exact this m
  | a :: B, hn, hl => by
    rw [List.nodup_cons] at hn
    have ih := cnB_mem B hn.2 (fun d hd => hl d (List.mem_cons_of_mem _ hd))
    rw [List.length_cons, ← ih, ← cnB_ins (p := fun d => decide (d ∈ B)) (a := a) (by simpa using hn.1) m (hl a (by simp))]
    refine cnB_congr (fun j hj => ?_)
    rw [Bool.eq_iff_iff]; simp
theorem cnB_sum {p : Nat → Bool} {o : Nat → Nat} {c : Nat} : ∀ m, (∀ d, d < m → p d = true → o d < c) → cnB p m = smN (fun n => cnB (fun d => p d && decide (o d = n)) m) c
  | 0, _ => by
    have : ∀ c, smN (fun _ => 0) c = 0 := fun c => by
      induction c with
      | zero => rfl
      | succ c ih => unfold smN; rw [ih]
    exact (this c).symm
  | m + 1, h => by
    have ih := cnB_sum (p := p) (o := o) (c := c) m (fun d hd => h d (by omega))
    show cnB p m + (if p m then 1 else 0) = smN (fun n => cnB (fun d => p d && decide (o d = n)) m + if p m && decide (o m = n) then 1 else 0) c
    rw [smN_add, smN_one, ← ih]
    congr 1
    cases hp : p m
    · simp
    · simp [h m (by omega) hp]
theorem bcN.sum {σ : Net} {b : Nat} (hN : wfN σ b) (h : bcN σ) : smN (fun n => (dBu (nNd σ n)).length) 8 = cnB (fun d => decide (aSt (dat σ d) = 0)) (nDa σ).length := by
  rw [cnB_sum (o := fun d => aOr (dat σ d)) (c := 8) _ (fun d hd _ => (hN.da hd).b.1.1)]
  refine smN_congr (fun n hn => ?_)
  have hb := hN.2.2.2.2.2.2.2.1 n hn
  rw [← cnB_mem (m := (nDa σ).length) (dBu (nNd σ n)) (hN.o.no hn).2.2.2.2.2.1 (fun d hd => (hb d hd).1)]
  refine cnB_congr (fun d hd => ?_)
  rw [Bool.eq_iff_iff]
  simp only [decide_eq_true_eq, Bool.and_eq_true]
  constructor
  · intro q; exact ⟨(hb d q).2.1, (hb d q).2.2.1⟩
  · intro q
    have := h d hd q.1
    rw [q.2] at this
    exact this
