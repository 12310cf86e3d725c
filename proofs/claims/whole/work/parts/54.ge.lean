/-! what no arrival changes: settings, now, links, how many data; the air but grows -/
def geN (σ τ : Net) : Prop := nSe τ = nSe σ ∧ nNow τ = nNow σ ∧ nUp τ = nUp σ ∧ (nDa τ).length = (nDa σ).length ∧ (nAir σ).length ≤ (nAir τ).length
theorem geN.rf {σ : Net} : geN σ σ := ⟨rfl, rfl, rfl, rfl, Nat.le_refl _⟩
theorem geN.tr {σ τ υ : Net} (a : geN σ τ) (b : geN τ υ) : geN σ υ := ⟨b.1.trans a.1, b.2.1.trans a.2.1, b.2.2.1.trans a.2.2.1, b.2.2.2.1.trans a.2.2.2.1, Nat.le_trans a.2.2.2.2 b.2.2.2.2⟩
theorem geN.ta {σ : Net} {k : Nat} : geN σ (uTa σ k) := ⟨rfl, rfl, rfl, rfl, Nat.le_refl _⟩
theorem geN.nd {σ : Net} {n : Nat} {x : Nd} : geN σ (uNd σ n x) := ⟨rfl, rfl, rfl, rfl, Nat.le_refl _⟩
theorem geN.da {σ : Net} {d : Nat} {x : Da} : geN σ (uDa σ d x) := ⟨rfl, rfl, rfl, len_set, Nat.le_refl _⟩
theorem geN.send {σ : Net} {f : Fm} : geN σ (sendF σ f).1 := by
  unfold sendF
  split
  · exact geN.ta
  · exact ⟨rfl, rfl, rfl, rfl, by show (nAir σ).length ≤ (nAir σ ++ [f]).length; rw [List.length_append]; omega⟩
theorem geN.done {σ : Net} {d st : Nat} : geN σ (doneD σ d st) := geN.da.tr geN.ta
theorem geN.fo {σ : Net} {d : Nat} : geN σ (flyOn σ d) := by
  unfold flyOn
  split
  · exact geN.da.tr geN.send
  · exact (geN.da.tr geN.send).tr geN.done
theorem geN.fb {σ : Net} {d : Nat} {w : List Nat} : geN σ (flyBy σ d w) := geN.da.tr geN.fo
theorem geN.as {σ : Net} {n to : Nat} : geN σ (ask σ n to) := geN.nd.tr geN.send
theorem geN.wt {σ : Net} {d : Nat} : geN σ (wait σ d) := geN.da.tr geN.nd
theorem geN.sv {σ : Net} {d : Nat} : geN σ (serve σ d) := by
  unfold serve
  split
  · exact geN.fb
  · split
    · exact geN.done
    · split
      · exact geN.wt.tr geN.as
      · exact geN.wt
theorem geN.br {σ : Net} {d x y : Nat} : geN σ (breakD σ d x y) := by
  have h2 : geN σ (brk2 σ x y) := geN.ta.tr geN.nd
  have h3 : geN σ (brk3 σ d x y) := h2.tr geN.send
  unfold breakD
  split
  · exact (h2.tr geN.nd).tr geN.sv
  · split
    · exact ((h3.tr geN.da).tr geN.ta).tr geN.fb
    · exact h3.tr geN.done
theorem geN.sh {σ : Net} {d z : Nat} : geN σ (shortenD σ d z) := by
  unfold shortenD
  split
  · exact (geN.da.tr geN.ta).tr geN.send
  · exact geN.rf
theorem geN.it {f : Nat → Net → Net} (hf : ∀ z τ, geN τ (f z τ)) (k : Nat) (σ : Net) : geN σ (iterN f k σ) := iterN_ind (P := fun _ τ => geN σ τ) k geN.rf (fun z τ _ q => q.tr (hf z τ))
theorem geN.ad {σ : Net} {d x : Nat} : geN σ (arrData σ d x) := by
  have hh : ∀ z τ, geN τ (hearD x d z τ) := fun z τ => by
    unfold hearD
    split
    · exact geN.tr (σ := τ) geN.nd geN.sh
    · exact geN.rf
  have hl : ∀ y, geN σ (lrnD σ d y) := fun y => (geN.da.tr geN.nd).tr geN.nd
  unfold arrData
  split
  · split
    · exact ((hl _).tr (geN.it hh _ _)).tr geN.done
    · exact ((hl _).tr (geN.it hh _ _)).tr geN.fo
  · exact geN.br
theorem geN.arq {σ : Net} {f : Fm} : geN σ (arrReq σ f) := by
  refine geN.it (fun z τ => ?_) _ _
  unfold reqStep
  split
  · split
    · exact geN.tr (σ := τ) geN.nd geN.ta
    · have ha : ∀ υ, geN υ (answer υ z f) := fun υ => by
        unfold answer
        split
        · exact geN.send
        · split
          · exact geN.send
          · exact geN.rf
      exact (((geN.nd (σ := τ)).tr geN.nd).tr geN.nd).tr (ha _)
  · exact geN.rf
theorem geN.arp {σ : Net} {f : Fm} : geN σ (arrRep σ f) := by
  unfold arrRep
  split
  · refine geN.tr (τ := rpLb σ f) ?_ (geN.it (fun z τ => ?_) _ _)
    · unfold rpLb
      split
      · exact geN.tr (σ := σ) geN.nd geN.send
      · exact geN.nd
    · unfold repStep
      split
      · exact geN.nd
      · exact geN.rf
  · exact geN.nd
theorem geN.ae {σ : Net} {f : Fm} : geN σ (arrErr σ f) := by
  unfold arrErr
  split
  · refine geN.tr (τ := erLb σ f) ?_ (geN.it (fun z τ => ?_) _ _)
    · unfold erLb
      split
      · exact geN.tr (σ := σ) geN.nd geN.nd
      · exact geN.tr (σ := σ) geN.nd geN.send
    · unfold errStep
      split
      · exact geN.nd
      · exact geN.rf
  · exact geN.nd
theorem geN.ar {σ : Net} : geN (popA σ) (arrive σ) := by
  unfold arrive
  split
  · exact geN.ad
  · split
    · exact geN.arq
    · split
      · exact geN.arp
      · exact geN.ae
theorem geN.dr {n : Nat} : ∀ (l : List Nat) (k : Nat) (σ : Net), geN σ (drainL n l k σ)
  | [], _, _ => geN.rf
  | d :: t, k, σ => by
    unfold drainL
    split
    · exact (geN.tr (σ := σ) geN.nd geN.fb).tr (geN.dr t k _)
    · split
      · exact (geN.tr (σ := σ) geN.nd geN.done).tr (geN.dr t k _)
      · exact geN.dr t (k + 1) σ
theorem geN.ao {σ : Net} {n : Nat} : geN σ (askOnN σ n) := by
  refine geN.it (fun t τ => ?_) _ _
  unfold askStep
  split
  · exact geN.rf
  · split
    · split
      · exact geN.as
      · exact geN.rf
    · exact geN.nd
/-! a tick -/
def uNow (σ : Net) : Net := (σ.1, σ.2.1 + 1, σ.2.2)
def arrAll (σ : Net) : Net := iterN (fun _ τ => arrive τ) (nAir σ).length (uNow σ)
def nodeStep (n : Nat) (σ : Net) : Net := askOnN (drainN σ n) n
def tickN (σ : Net) : Net := iterN nodeStep (nSe σ 0) (arrAll σ)
theorem wfN.drn {n b : Nat} (hn : n < 8) : ∀ (l pre : List Nat) (σ : Net), wfN σ b → dBu (nNd σ n) = pre ++ l → wfN (drainL n l pre.length σ) b
  | [], _, _, h, _ => h
  | d :: t, pre, σ, h, hq => by
    have hmd : d ∈ dBu (nNd σ n) := by rw [hq]; simp
    obtain ⟨u1, u2, u3, u4, u5⟩ := h.o.bu hn d hmd |>.1
    have hdB := (h.da u1).b
    obtain ⟨t1, t2⟩ := tr_one hdB u5
    have hlv : leaveN σ n pre.length = uNd σ n (xBu (nNd σ n) (pre ++ t)) := by
      unfold leaveN; rw [hq, List.eraseIdx_append_of_length_le (Nat.le_refl _), Nat.sub_self]; rfl
    obtain ⟨k1, k2, k3, k4, k5, k6, k7, k8, k9⟩ := h.o.no hn
    rw [hq] at k5 k6
    have hnd := k6
    rw [List.nodup_append] at hnd
    obtain ⟨p1, p2, p3⟩ := hnd
    rw [List.nodup_cons] at p2
    have hdn : d ∉ pre ++ t := fun hm => (List.mem_append.mp hm).elim (fun q => p3 d q d (by simp) rfl) p2.1
    have hsub : (pre ++ t).Sublist (pre ++ d :: t) := List.Sublist.append_left (List.sublist_cons_self d t) pre
    have hl : wfN (leaveN σ n pre.length) b := by
      rw [hlv]
      refine (h.o.nd (x := xBu (nNd σ n) (pre ++ t)) ⟨k1, k2, k3, k4, ?_, k6.sublist hsub, k7, k8, k9⟩ (fun e he => h.o.bu hn e ?_)).n40
      · have := hsub.length_le; exact Nat.le_trans this k5
      · rw [hq]; exact hsub.subset he
    have ho : wfO (leaveN σ n pre.length) b d := by
      refine hl.op (fun f hf hfk e => ?_) (fun m hm hmd' => ?_)
      · have := ((h.2.2.2.1 f (by rw [hlv] at hf; exact hf)).2.1 hfk).2.1
        rw [e] at this; omega
      · rw [hlv] at hmd'
        by_cases hmn : m = n
        · subst hmn; simp only [nNd, uNd, if_true] at hmd'; exact hdn hmd'
        · simp only [nNd, uNd, if_neg hmn] at hmd'
          have := (h.o.bu hm d hmd').1.2.2.1
          omega
    have hbu : dBu (nNd (leaveN σ n pre.length) n) = pre ++ t := by rw [hlv]; simp only [nNd, uNd, if_true]; rfl
    have hda : nDa (leaveN σ n pre.length) = nDa σ := by rw [hlv]; rfl
    have hdd : dat (leaveN σ n pre.length) d = dat σ d := by unfold dat; rw [hda]
    unfold drainL
    split
    · rename_i hne
      have hg := wayN_good (b := b) hn h.1 (h.2.2.1 n hn) hne
      refine wfN.drn hn t pre _ (ho.fb (by rw [hda]; exact u1) (by rw [hdd]; exact hdB) ?_ ?_) ?_
      · rw [hdd, t2, u3]; exact hg
      · rw [hdd, t1, u3]
        intro i hi hil hm
        rw [List.mem_singleton] at hm
        have hm := hm.trans hg.2.1.symm
        rw [getD_lt hil, getD_lt (by omega)] at hm
        have := (List.getElem_inj hg.1).mp hm
        omega
      · rw [← hbu, kpD_flyBy.2.2.2.1]
    · split
      · refine wfN.drn hn t pre _ (ho.done (by rw [hda]; exact u1) (by rw [hdd]; exact hdB) (Or.inr rfl)) ?_
        rw [← hbu, kpD_done.2.2.2.1]
      · have := wfN.drn hn t (pre ++ [d]) σ h (by rw [hq]; simp)
        rwa [List.length_append, List.length_singleton] at this
theorem wfN.ao {σ : Net} {n b : Nat} (hn : n < 8) (h : wfN σ b) (hb : b + 8 < 100000) : wfN (askOnN σ n) (b + 8) := by
  have h0 := h.1.1.2
  have : wfN (askOnN σ n) (b + nSe σ 0) := by
    refine iterN_ind (P := fun t τ => wfN τ (b + t)) (nSe σ 0) h (fun t τ ht q => ?_)
    have hup : ∀ {υ : Net}, wfN υ (b + t) → wfN υ (b + (t + 1)) := fun q => (q.o.up (Nat.le_succ _) (by omega)).n40
    unfold askStep
    split
    · exact hup q
    · split
      · split
        · exact (q.o.as (by omega) hn (by omega)).n40
        · exact hup q
      · exact hup (q.o.ako hn).n40
  exact (this.o.up (by omega) hb).n40
theorem wfN.now {σ : Net} {b : Nat} (h : wfN σ b) (hn : nNow σ < 1000) : wfN (uNow σ) b := by
  obtain ⟨h1, h2, h3, h4, h5, h6, h7, h8, h9, h10⟩ := h
  refine ⟨h1, h2, fun n hn => ?_, h4, h5, h6, h7, fun n hn d hd => ?_, hn, h10⟩
  · obtain ⟨k1, k2, k3, k4, k5, k6, k7, k8, k9⟩ := h3 n hn
    exact ⟨k1, k2, k3, k4, k5, k6, k7, k8, fun t k q => ⟨Nat.le_succ_of_le (k9 t k q).1, (k9 t k q).2⟩⟩
  · obtain ⟨u1, u2, u3, u4, u5⟩ := h8 n hn d hd
    exact ⟨u1, u2, u3, Nat.le_succ_of_le u4, u5⟩
/-- when k of them have come in -/
def aaN (σ : Net) (b k : Nat) (τ : Net) : Prop := wfN τ (b + k) ∧ (nAir σ).length ≤ (nAir τ).length + k ∧ nSe τ = nSe σ ∧ nNow τ = nNow σ + 1 ∧ nUp τ = nUp σ ∧ (nDa τ).length = (nDa σ).length
theorem aaN.st {σ τ : Net} {b k : Nat} (h : aaN σ b k τ) (hb : b + (k + 1) < 100000) (hk : k < (nAir σ).length) : aaN σ b (k + 1) (arrive τ) := by
  obtain ⟨h1, h2, h3, h4, h5, h6⟩ := h
  obtain ⟨g1, g2, g3, g4, g5⟩ := geN.ar (σ := τ)
  refine ⟨h1.ar hb (by omega), ?_, g1.trans h3, g2.trans h4, g3.trans h5, g4.trans h6⟩
  have : (nAir (popA τ)).length = (nAir τ).length - 1 := by show (nAir τ).tail.length = _; rw [List.length_tail]
  omega
theorem aaN.all {σ : Net} {b : Nat} (h : wfN σ b) (hn : nNow σ < 1000) (hb : b + 40 < 100000) : ∀ k, k ≤ (nAir σ).length → aaN σ b k (iterN (fun _ τ => arrive τ) k (uNow σ))
  | 0, _ => ⟨h.now hn, Nat.le_refl _, rfl, rfl, rfl, rfl⟩
  | k + 1, hk => (aaN.all h hn hb k (by omega)).st (by have := h.2.1.1; omega) (by omega)
/-- when n nodes have had their turn -/
def tkN (σ : Net) (b n : Nat) (τ : Net) : Prop := wfN τ (b + 40 + 8 * n) ∧ nSe τ = nSe σ ∧ nNow τ = nNow σ + 1 ∧ nUp τ = nUp σ ∧ (nDa τ).length = (nDa σ).length
theorem tkN.st {σ τ : Net} {b n : Nat} (h : tkN σ b n τ) (hb : b + 104 < 100000) (hn : n < 8) : tkN σ b (n + 1) (nodeStep n τ) := by
  obtain ⟨h1, h3, h4, h5, h6⟩ := h
  obtain ⟨g1, g2, g3, g4, g5⟩ := (geN.dr (n := n) (dBu (nNd τ n)) 0 τ).tr (geN.ao (n := n))
  refine ⟨?_, g1.trans h3, g2.trans h4, g3.trans h5, g4.trans h6⟩
  exact (wfN.drn hn (dBu (nNd τ n)) [] τ h1 rfl).ao hn (show b + 40 + 8 * n + 8 < 100000 by omega)
theorem tkN.z {σ : Net} {b : Nat} (h : wfN σ b) (hn : nNow σ < 1000) (hb : b + 104 < 100000) : tkN σ b 0 (arrAll σ) := by
  obtain ⟨h1, h2, h3, h4, h5, h6⟩ := aaN.all h hn (by omega) _ (Nat.le_refl _)
  exact ⟨(h1.o.up (by have := h.2.1.1; omega) (by omega)).n40, h3, h4, h5, h6⟩
theorem tkN.all {σ : Net} {b : Nat} (h : wfN σ b) (hn : nNow σ < 1000) (hb : b + 104 < 100000) : ∀ n, n ≤ nSe σ 0 → tkN σ b n (iterN nodeStep n (arrAll σ))
  | 0, _ => tkN.z h hn hb
  | n + 1, hk => (tkN.all h hn hb n (by omega)).st hb (by have := h.1.1.2; omega)
theorem wfN.tick {σ : Net} {b : Nat} (h : wfN σ b) (hn : nNow σ < 1000) (hb : b + 104 < 100000) : wfN (tickN σ) (b + 104) ∧ nSe (tickN σ) = nSe σ ∧ nNow (tickN σ) = nNow σ + 1 ∧ nUp (tickN σ) = nUp σ ∧ (nDa (tickN σ)).length = (nDa σ).length := by
  obtain ⟨h1, h2⟩ := tkN.all h hn hb _ (Nat.le_refl _)
  exact ⟨(h1.o.up (by have := h.1.1.2; omega) hb).n40, h2⟩
theorem wfN.come {σ : Net} {b fm to : Nat} (h : wfN σ b) (hfm : fm < 8) (hto : to < 8) (hne : fm ≠ to) (hl : (nDa σ).length < 40) (hb : b + 1 < 100000) : wfN (comeN σ fm to) (b + 1) := by
  obtain ⟨h1, h2, h3, h4, h5, h6, h7, h8, h9, h10⟩ := h
  have hlen : (nDa (pushD σ (newD fm to (nNow σ)))).length = (nDa σ).length + 1 := by show (nDa σ ++ [_]).length = _; rw [List.length_append, List.length_singleton]
  have hold : ∀ e, e < (nDa σ).length → dat (pushD σ (newD fm to (nNow σ))) e = dat σ e := fun e he => by
    show (nDa σ ++ [_]).getD e d0 = _
    simp [List.getElem?_append_left he]
  have hnew : dat (pushD σ (newD fm to (nNow σ))) (nDa σ).length = newD fm to (nNow σ) := by
    show (nDa σ ++ [_]).getD (nDa σ).length d0 = _
    simp
  have hw : wfO (pushD σ (newD fm to (nNow σ))) b (nDa σ).length := by
    refine ⟨h1, ⟨h2.1, by rw [hlen]; omega⟩, h3, fun f hf => ⟨?_, fun q => ?_⟩, fun d hd hne => ?_, h6, h7, fun n hn d hd => ?_, h9, h10⟩
    · obtain ⟨g1, g2, g3, g4, g5⟩ := h4 f hf
      refine ⟨g1, fun q => ?_, g3, g4, g5⟩
      obtain ⟨q1, q2, q3, q4⟩ := g2 q
      rw [hold _ q1, hlen]
      exact ⟨by omega, q2, q3, q4⟩
    · have := ((h4 f hf).2.1 q).1; omega
    · have hd' : d < (nDa σ).length := by rw [hlen] at hd; omega
      rw [hold d hd']; exact h5 _ (getD_mem hd')
    · obtain ⟨u1, u2, u3, u4, u5⟩ := h8 n hn d hd
      refine ⟨?_, by omega⟩
      unfold buOk
      rw [hold d u1, hlen]
      exact ⟨by omega, u2, u3, u4, u5⟩
  refine hw.sv hb (by rw [hlen]; omega) ?_ (by rw [hnew]; rfl)
  rw [hnew]
  exact ⟨⟨hfm, hto, hne, show 0 < 256 by omega, show 0 ≤ 3 by omega⟩, Nat.le_refl 1, List.nodup_cons.mpr ⟨by simp, List.nodup_nil⟩, fun y hy => by rw [List.mem_singleton.mp hy]; exact hfm, rfl⟩
