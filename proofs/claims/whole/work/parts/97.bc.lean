/-! what is buffered lies in a buffer -/
def bgN (σ τ : Net) : Prop := (∀ d, aOr (dat τ d) = aOr (dat σ d)) ∧ (∀ n d, d ∈ dBu (nNd σ n) → d ∈ dBu (nNd τ n)) ∧ (∀ d, aSt (dat τ d) = 0 → aSt (dat σ d) = 0 ∨ d ∈ dBu (nNd τ (aOr (dat τ d)))) ∧ (nDa τ).length = (nDa σ).length
theorem bgN.rf {σ : Net} : bgN σ σ := ⟨fun _ => rfl, fun _ _ h => h, fun _ h => Or.inl h, rfl⟩
theorem bgN.tr {σ τ υ : Net} (a : bgN σ τ) (b : bgN τ υ) : bgN σ υ := ⟨fun d => (b.1 d).trans (a.1 d), fun n d h => b.2.1 n d (a.2.1 n d h), fun d h => (b.2.2.1 d h).elim (fun q => (a.2.2.1 d q).elim Or.inl (fun z => Or.inr (by rw [b.1 d]; exact b.2.1 _ d z))) Or.inr, b.2.2.2.trans a.2.2.2⟩
theorem bgN.ta {σ : Net} {k : Nat} : bgN σ (uTa σ k) := bgN.rf
theorem bgN.air {σ : Net} {l : List Fm} : bgN σ (uAir σ l) := bgN.rf
theorem bgN.nd {σ : Net} {n : Nat} {x : Nd} (h : dBu x = dBu (nNd σ n)) : bgN σ (uNd σ n x) := by
  refine ⟨fun _ => rfl, fun m d hd => ?_, fun _ h => Or.inl h, rfl⟩
  show d ∈ dBu (if m = n then x else nNd σ m)
  by_cases c : m = n
  · rw [if_pos c, h]; exact c ▸ hd
  · rw [if_neg c]; exact hd
theorem dat_out {σ : Net} {d : Nat} {x : Da} (h : ¬ d < (nDa σ).length) : dat (uDa σ d x) d = dat σ d := by
  unfold dat
  show ((nDa σ).set d x).getD d d0 = _
  rw [List.set_eq_of_length_le (by omega)]
theorem bgN.da {σ : Net} {d : Nat} {x : Da} (h1 : aOr x = aOr (dat σ d)) (h2 : aSt x = 0 → aSt (dat σ d) = 0) : bgN σ (uDa σ d x) := by
  refine ⟨fun e => ?_, fun _ _ h => h, fun e he => Or.inl ?_, len_set⟩
  · by_cases c : e = d
    · subst c
      by_cases q : e < (nDa σ).length
      · rw [dat_eq q]; exact h1
      · rw [dat_out q]
    · rw [dat_ne c]
  · by_cases c : e = d
    · subst c
      by_cases q : e < (nDa σ).length
      · rw [dat_eq q] at he; exact h2 he
      · rw [dat_out q] at he; exact he
    · rw [dat_ne c] at he; exact he
theorem bgN.send {σ : Net} {f : Fm} : bgN σ (sendF σ f).1 := by
  unfold sendF
  split
  · exact bgN.ta
  · exact bgN.rf
theorem bgN.done {σ : Net} {d st : Nat} (h : st ≠ 0) : bgN σ (doneD σ d st) := (bgN.da (x := dRe (dDo (dSt (dat σ d) st) (some (nNow σ))) []) rfl (fun q => absurd q h)).tr bgN.ta
theorem bgN.fo {σ : Net} {d : Nat} : bgN σ (flyOn σ d) := by
  have h1 : bgN σ (uDa σ d (dSt (dat σ d) 1)) := bgN.da rfl (fun q => absurd q (show ¬ (1 : Nat) = 0 by decide))
  unfold flyOn
  split
  · exact h1.tr bgN.send
  · exact (h1.tr bgN.send).tr (bgN.done (by decide))
theorem bgN.fb {σ : Net} {d : Nat} {w : List Nat} : bgN σ (flyBy σ d w) := (bgN.da (x := dRe (dat σ d) w) rfl (fun q => q)).tr bgN.fo
theorem bgN.as {σ : Net} {n to : Nat} : bgN σ (ask σ n to) := (bgN.nd (x := xAsk (nNd σ n) to (nNow σ)) rfl).tr bgN.send
theorem or_da {σ : Net} {d : Nat} {x : Da} (h1 : aOr x = aOr (dat σ d)) (e : Nat) : aOr (dat (uDa σ d x) e) = aOr (dat σ e) := by
  by_cases c : e = d
  · subst c
    by_cases q : e < (nDa σ).length
    · rw [dat_eq q]; exact h1
    · rw [dat_out q]
  · rw [dat_ne c]
theorem bgN.wt {σ : Net} {d : Nat} : bgN σ (wait σ d) := by
  have hm : ∀ m e, e ∈ dBu (nNd (wait σ d) m) ↔ (e ∈ dBu (nNd σ m) ∨ (m = aOr (dat σ d) ∧ e = d)) := fun m e => by
    show e ∈ dBu (if m = aOr (dat σ d) then xBu (nNd σ (aOr (dat σ d))) (dBu (nNd σ (aOr (dat σ d))) ++ [d]) else nNd σ m) ↔ _
    by_cases c : m = aOr (dat σ d)
    · rw [if_pos c, c]
      show e ∈ dBu (nNd σ (aOr (dat σ d))) ++ [d] ↔ _
      simp
    · rw [if_neg c]; exact ⟨Or.inl, fun q => q.elim id (fun z => absurd z.1 c)⟩
  have hor : ∀ e, aOr (dat (wait σ d) e) = aOr (dat σ e) := or_da (σ := σ) (d := d) (x := dSi (dRe (dSt (dat σ d) 0) []) (nNow σ)) rfl
  refine ⟨hor, fun n e he => (hm n e).mpr (Or.inl he), fun e he => ?_, len_set⟩
  by_cases c : e = d
  · refine Or.inr ((hm _ _).mpr (Or.inr ⟨?_, c⟩))
    rw [hor, c]
  · left
    have : dat (wait σ d) e = dat σ e := dat_ne (σ := σ) c
    rw [this] at he; exact he
theorem bgN.sv {σ : Net} {d : Nat} : bgN σ (serve σ d) := by
  unfold serve
  split
  · exact bgN.fb
  · split
    · exact bgN.done (by decide)
    · split
      · exact bgN.wt.tr bgN.as
      · exact bgN.wt
theorem bgN.br {σ : Net} {d x y : Nat} : bgN σ (breakD σ d x y) := by
  have h2 : bgN σ (brk2 σ x y) := bgN.ta.tr (bgN.nd rfl)
  have h3 : bgN σ (brk3 σ d x y) := h2.tr bgN.send
  unfold breakD
  split
  · exact (h2.tr (bgN.nd (x := xNw (nNd (brk2 σ x y) x) (some (lkP x y))) rfl)).tr bgN.sv
  · split
    · have e : dat (brk3 σ d x y) d = dat σ d := by
        unfold brk3 sendF
        split <;> rfl
      exact ((h3.tr (bgN.da (x := dSv (dat σ d) (aSv (dat σ d) + 1)) (by rw [e]; rfl) (fun q => by rw [e]; exact q))).tr bgN.ta).tr bgN.fb
    · exact h3.tr (bgN.done (by decide))
theorem bgN.ln {σ : Net} {n : Nat} {L : List Nat} : bgN σ (learnN σ n L) := bgN.nd rfl
theorem bgN.sh {σ : Net} {d z : Nat} : bgN σ (shortenD σ d z) := by
  unfold shortenD
  split
  · exact ((bgN.da (x := dSh (dat σ d) (aSh (dat σ d) ||| 1 <<< z)) rfl (fun q => q)).tr bgN.ta).tr bgN.send
  · exact bgN.rf
theorem bgN.it {f : Nat → Net → Net} (hf : ∀ z τ, bgN τ (f z τ)) (k : Nat) (σ : Net) : bgN σ (iterN f k σ) := iterN_ind (P := fun _ τ => bgN σ τ) k bgN.rf (fun z τ _ q => q.tr (hf z τ))
theorem bgN.ad {σ : Net} {d x : Nat} : bgN σ (arrData σ d x) := by
  have hh : ∀ z τ, bgN τ (hearD x d z τ) := fun z τ => by
    unfold hearD
    split
    · exact bgN.ln.tr bgN.sh
    · exact bgN.rf
  have hl : ∀ y, bgN σ (lrnD σ d y) := fun y => ((bgN.da (x := dRe (dTr (dat σ d) (aTr (dat σ d) ++ [y])) (aRe (dat σ d)).tail) rfl (fun q => q)).tr bgN.ln).tr bgN.ln
  unfold arrData
  split
  · split
    · exact ((hl _).tr (bgN.it hh _ _)).tr (bgN.done (by decide))
    · exact ((hl _).tr (bgN.it hh _ _)).tr bgN.fo
  · exact bgN.br
theorem bgN.fg {σ : Net} {z : Nat} {o : Option (Nat × Nat)} : bgN σ (forgetON σ z o) := bgN.nd rfl
theorem bgN.see {σ : Net} {z i num : Nat} : bgN σ (seeN σ z i num) := bgN.nd rfl
theorem bgN.arq {σ : Net} {f : Fm} : bgN σ (arrReq σ f) := by
  refine bgN.it (fun z τ => ?_) _ _
  have ha : ∀ υ, bgN υ (answer υ z f) := fun υ => by
    unfold answer
    split
    · exact bgN.send
    · split
      · exact bgN.send
      · exact bgN.rf
  unfold reqStep
  split
  · split
    · exact bgN.fg.tr bgN.ta
    · exact ((bgN.fg.tr bgN.see).tr bgN.ln).tr (ha _)
  · exact bgN.rf
theorem bgN.arp {σ : Net} {f : Fm} : bgN σ (arrRep σ f) := by
  unfold arrRep
  split
  · refine bgN.tr (τ := rpLb σ f) ?_ (bgN.it (fun z τ => ?_) _ _)
    · unfold rpLb
      split
      · exact bgN.ln.tr bgN.send
      · exact bgN.ln
    · unfold repStep
      split
      · exact bgN.ln
      · exact bgN.rf
  · exact bgN.nd rfl
theorem bgN.ae {σ : Net} {f : Fm} : bgN σ (arrErr σ f) := by
  unfold arrErr
  split
  · refine bgN.tr (τ := erLb σ f) ?_ (bgN.it (fun z τ => ?_) _ _)
    · unfold erLb
      split
      · exact bgN.fg.tr (bgN.nd rfl)
      · exact bgN.fg.tr bgN.send
    · unfold errStep
      split
      · exact bgN.fg
      · exact bgN.rf
  · exact bgN.nd rfl
theorem bgN.ar {σ : Net} : bgN σ (arrive σ) := by
  refine bgN.tr (τ := popA σ) bgN.air ?_
  unfold arrive
  split
  · exact bgN.ad
  · split
    · exact bgN.arq
    · split
      · exact bgN.arp
      · exact bgN.ae
theorem bgN.ao {σ : Net} {n : Nat} : bgN σ (askOnN σ n) := by
  refine bgN.it (fun t τ => ?_) _ _
  unfold askStep
  split
  · exact bgN.rf
  · split
    · split
      · exact bgN.as
      · exact bgN.rf
    · exact bgN.nd rfl
theorem bgN.aal {σ : Net} : bgN σ (arrAll σ) := by
  have h : bgN σ (uNow σ) := bgN.rf
  exact h.tr (bgN.it (fun _ τ => bgN.ar) _ _)
/-- all that is buffered lies in its origin's buffer -/
def bcN (σ : Net) : Prop := ∀ d, d < (nDa σ).length → aSt (dat σ d) = 0 → d ∈ dBu (nNd σ (aOr (dat σ d)))
theorem bcN.bg {σ τ : Net} (h : bcN σ) (g : bgN σ τ) : bcN τ := fun d hd h0 => by
  rcases g.2.2.1 d h0 with q | q
  · have := g.2.1 _ d (h d (by rw [← g.2.2.2]; exact hd) q)
    rw [g.1 d]; exact this
  · exact q
theorem st_done {σ : Net} {d st : Nat} (hd : d < (nDa σ).length) : aSt (dat (doneD σ d st) d) = st := by
  have : dat (doneD σ d st) d = dRe (dDo (dSt (dat σ d) st) (some (nNow σ))) [] := dat_eq hd
  rw [this]; rfl
theorem st_fb {σ : Net} {d : Nat} {w : List Nat} (hd : d < (nDa σ).length) : aSt (dat (flyBy σ d w) d) ≠ 0 := by
  rw [flyBy_eq hd]
  have hd1 : d < (nDa (flX σ d w)).length := by unfold flX; rw [len_set]; exact hd
  split
  · have e : dat (sendF (flX σ d w) (flF σ d)).1 d = dat (flX σ d w) d := by unfold sendF; split <;> rfl
    rw [e, show dat (flX σ d w) d = dSt (dRe (dat σ d) w) 1 from dat_eq hd]
    exact (show ¬ (1 : Nat) = 0 by decide)
  · rw [st_done (by rw [nDa_send]; exact hd1)]; decide
theorem bcN.drn {n b : Nat} (hn : n < 8) : ∀ (l pre : List Nat) (σ : Net), wfN σ b → dBu (nNd σ n) = pre ++ l → bcN σ → bcN (drainL n l pre.length σ)
  | [], _, _, _, _, h => h
  | d :: t, pre, σ, hN, hq, h => by
    obtain ⟨⟨u1, u2, u3, u4, u5⟩, hdB, hO, hlv, hfy, hdn⟩ := drn_st hn hN hq
    have key : ∀ τ, kpD d (leaveN σ n pre.length) τ → (∀ e, aOr (dat τ e) = aOr (dat σ e)) → aSt (dat τ d) ≠ 0 → bcN τ := fun τ hk ho hs e he h0 => by
      have hed : e ≠ d := fun q => hs (q ▸ h0)
      have hl : (nDa τ).length = (nDa σ).length := hk.2.2.2.2.1.trans (by rw [hlv]; rfl)
      have hde : dat τ e = dat σ e := (hk.2.2.2.2.2 e hed).trans (by rw [hlv]; rfl)
      have := h e (by rw [← hl]; exact he) (by rw [← hde]; exact h0)
      rw [ho e, hk.2.2.2.1, hlv]
      show e ∈ dBu (if aOr (dat σ e) = n then xBu (nNd σ n) (pre ++ t) else nNd σ (aOr (dat σ e)))
      by_cases c : aOr (dat σ e) = n
      · rw [if_pos c]
        rw [c, hq] at this
        show e ∈ pre ++ t
        rcases List.mem_append.mp this with q | q
        · exact List.mem_append_left _ q
        · rcases List.mem_cons.mp q with q | q
          · exact absurd q hed
          · exact List.mem_append_right _ q
      · rw [if_neg c]; exact this
    have hl1 : d < (nDa (leaveN σ n pre.length)).length := by rw [hlv]; exact u1
    have hor : ∀ e, aOr (dat (leaveN σ n pre.length) e) = aOr (dat σ e) := fun e => by rw [hlv]; rfl
    unfold drainL
    split
    · rename_i hw
      obtain ⟨g1, g2⟩ := hfy hw
      refine bcN.drn hn t pre _ g1 g2 (key _ kpD_flyBy (fun e => (bgN.fb.1 e).trans (hor e)) (st_fb hl1))
    · split
      · obtain ⟨g1, g2⟩ := hdn
        refine bcN.drn hn t pre _ g1 g2 (key _ kpD_done (fun e => ((bgN.done (by decide)).1 e).trans (hor e)) (by rw [st_done hl1]; decide))
      · have := bcN.drn hn t (pre ++ [d]) σ hN (by rw [hq]; simp) h
        rwa [List.length_append, List.length_singleton] at this
theorem bcN.node {σ : Net} {n b : Nat} (hn : n < 8) (hN : wfN σ b) (h : bcN σ) : bcN (nodeStep n σ) := (bcN.drn hn (dBu (nNd σ n)) [] σ hN rfl h).bg bgN.ao
theorem bcN.tick {σ : Net} {b : Nat} (hN : wfN σ b) (hw : nNow σ < 1000) (hb : b + 104 < 100000) (h : bcN σ) : bcN (tickN σ) := by
  have h8 := hN.1.1.2
  have key : ∀ n, n ≤ nSe σ 0 → bcN (iterN nodeStep n (arrAll σ)) := fun n => by
    induction n with
    | zero => intro _; exact h.bg bgN.aal
    | succ n ih =>
      intro hn
      exact bcN.node (by omega) (tkN.all hN hw hb n (by omega)).1 (ih (by omega))
  exact key _ (Nat.le_refl _)
theorem bcN.tks {σ : Net} {b : Nat} (hN : wfN σ b) (h : bcN σ) : ∀ k, nNow σ + k ≤ 1000 → b + 104 * k < 100000 → bcN (tkN_ k σ)
  | 0, _, _ => h
  | k + 1, h1, h2 => by
    obtain ⟨g1, g2, g3, g4, g5⟩ := hN.tks k (by omega) (by omega)
    show bcN (tickN (tkN_ k σ))
    exact bcN.tick g1 (by rw [g3]; omega) (by omega) (bcN.tks hN h k (by omega) (by omega))
theorem st_sv {σ : Net} {d : Nat} (hd : d < (nDa σ).length) (h0 : aSt (dat (serve σ d) d) = 0) : d ∈ dBu (nNd (serve σ d) (aOr (dat (serve σ d) d))) := by
  have hb : bgN (wait σ d) (serve σ d) ∨ aSt (dat (serve σ d) d) ≠ 0 := by
    unfold serve
    split
    · exact Or.inr (st_fb hd)
    · split
      · exact Or.inr (by rw [st_done hd]; decide)
      · split
        · exact Or.inl bgN.as
        · exact Or.inl bgN.rf
  rcases hb with q | q
  · rw [q.1]
    refine q.2.1 _ _ ?_
    have e : aOr (dat (wait σ d) d) = aOr (dat σ d) := bgN.wt.1 d
    rw [e]
    show d ∈ dBu (if aOr (dat σ d) = aOr (dat σ d) then xBu (nNd σ (aOr (dat σ d))) (dBu (nNd σ (aOr (dat σ d))) ++ [d]) else _)
    rw [if_pos rfl]
    show d ∈ dBu (nNd σ (aOr (dat σ d))) ++ [d]
    simp
  · exact absurd h0 q
theorem bcN.come {σ : Net} {fm to : Nat} (h : bcN σ) : bcN (comeN σ fm to) := by
  have hlen : (nDa (pushD σ (newD fm to (nNow σ)))).length = (nDa σ).length + 1 := by show (nDa σ ++ [_]).length = _; rw [List.length_append, List.length_singleton]
  have hold : ∀ e, e < (nDa σ).length → dat (pushD σ (newD fm to (nNow σ))) e = dat σ e := fun e he => by
    show (nDa σ ++ [_]).getD e d0 = _
    simp [List.getElem?_append_left he]
  intro d hd h0
  have hg : bgN (pushD σ (newD fm to (nNow σ))) (comeN σ fm to) := bgN.sv
  by_cases c : d = (nDa σ).length
  · subst c
    exact st_sv (by rw [hlen]; omega) h0
  · have hd' : d < (nDa σ).length := by rw [hg.2.2.2, hlen] at hd; omega
    rcases hg.2.2.1 d h0 with q | q
    · rw [hg.1 d]
      refine hg.2.1 _ _ ?_
      rw [hold d hd'] at q ⊢
      exact h d hd' q
    · exact q
