/-! what may be is kept: with one data in no one's hand -/
def buOk (σ : Net) (n d : Nat) : Prop := d < (nDa σ).length ∧ aSt (dat σ d) = 0 ∧ aOr (dat σ d) = n ∧ aSi (dat σ d) ≤ nNow σ ∧ (aTr (dat σ d)).length = 1
def wfO (σ : Net) (b o : Nat) : Prop := seOk (nSe σ) ∧ ((nAir σ).length ≤ 40 ∧ (nDa σ).length ≤ 40) ∧ (∀ n, n < 8 → ndOk (nSe σ) (nNow σ) b n (nNd σ n)) ∧ (∀ f ∈ nAir σ, frOk σ b f ∧ (fKi f = 0 → fAb f ≠ o)) ∧ (∀ d, d < (nDa σ).length → d ≠ o → daOk (dat σ d)) ∧ (((nAir σ).filter (fun f => fKi f = 0)).map fAb).Nodup ∧ upOk (nSe σ 0) (nUp σ) ∧ (∀ n, n < 8 → ∀ d ∈ dBu (nNd σ n), buOk σ n d ∧ d ≠ o) ∧ nNow σ ≤ 1000 ∧ b < 100000
theorem mem_getD {l : List Da} {x : Da} (h : x ∈ l) : ∃ i, i < l.length ∧ l.getD i d0 = x := by
  obtain ⟨i, hi, e⟩ := List.mem_iff_getElem.mp h
  exact ⟨i, hi, by rw [getD_lt hi]; exact e⟩
theorem wfN.op {σ : Net} {b o : Nat} (h : wfN σ b) (ha : ∀ f ∈ nAir σ, fKi f = 0 → fAb f ≠ o) (hb : ∀ n, n < 8 → o ∉ dBu (nNd σ n)) : wfO σ b o := by
  obtain ⟨h1, h2, h3, h4, h5, h6, h7, h8, h9, h10⟩ := h
  exact ⟨h1, h2, h3, fun f hf => ⟨h4 f hf, ha f hf⟩, fun d hd _ => h5 _ (getD_mem hd), h6, h7, fun n hn d hd => ⟨h8 n hn d hd, fun e => hb n hn (e ▸ hd)⟩, h9, h10⟩
theorem wfN.o {σ : Net} {b : Nat} (h : wfN σ b) : wfO σ b 40 := by
  have h2 := h.2.1.2
  exact h.op (fun f hf hk => by have := ((h.2.2.2.1 f hf).2.1 hk).1; omega) (fun n hn hd => by have := (h.2.2.2.2.2.2.2.1 n hn 40 hd).1; omega)
theorem wfO.n {σ : Net} {b o : Nat} (h : wfO σ b o) (ho : o < (nDa σ).length → daOk (dat σ o)) : wfN σ b := by
  obtain ⟨h1, h2, h3, h4, h5, h6, h7, h8, h9, h10⟩ := h
  refine ⟨h1, h2, h3, fun f hf => (h4 f hf).1, fun x hx => ?_, h6, h7, fun n hn d hd => (h8 n hn d hd).1, h9, h10⟩
  obtain ⟨i, hi, rfl⟩ := mem_getD hx
  by_cases e : i = o
  · subst e; exact ho hi
  · exact h5 i hi e
theorem wfO.n40 {σ : Net} {b : Nat} (h : wfO σ b 40) : wfN σ b := h.n (fun q => by have := h.2.1.2; omega)
theorem wfO.ta {σ : Net} {b o k : Nat} (h : wfO σ b o) : wfO (uTa σ k) b o := h
theorem ndOk.up {s : Nat → Nat} {now b b' n : Nat} {x : Nd} (h : ndOk s now b n x) (hb : b ≤ b') : ndOk s now b' n x := by
  obtain ⟨h1, h2, h3, h4, h5, h6, h7, h8, h9⟩ := h
  exact ⟨h1, h2, h3, fun q hq => ⟨(h4 q hq).1, Nat.le_trans (h4 q hq).2 hb⟩, h5, h6, Nat.le_trans h7 hb, h8, h9⟩
theorem frOk.up {σ : Net} {b b' : Nat} {f : Fm} (h : frOk σ b f) (hb : b ≤ b') : frOk σ b' f := by
  obtain ⟨h1, h2, h3, h4, h5⟩ := h
  exact ⟨h1, h2, fun q => ⟨(h3 q).1, (h3 q).2.1, (h3 q).2.2.1, Nat.le_trans (h3 q).2.2.2.1 hb, (h3 q).2.2.2.2⟩, h4, h5⟩
theorem wfO.up {σ : Net} {b b' o : Nat} (h : wfO σ b o) (hb : b ≤ b') (hb' : b' < 100000) : wfO σ b' o := by
  obtain ⟨h1, h2, h3, h4, h5, h6, h7, h8, h9, h10⟩ := h
  exact ⟨h1, h2, fun n hn => (h3 n hn).up hb, fun f hf => ⟨(h4 f hf).1.up hb, (h4 f hf).2⟩, h5, h6, h7, h8, h9, hb'⟩
theorem wfO.nd {σ : Net} {b o n : Nat} {x : Nd} (h : wfO σ b o) (hx : ndOk (nSe σ) (nNow σ) b n x) (hb : ∀ d ∈ dBu x, buOk σ n d ∧ d ≠ o) : wfO (uNd σ n x) b o := by
  obtain ⟨h1, h2, h3, h4, h5, h6, h7, h8, h9, h10⟩ := h
  refine ⟨h1, h2, fun m hm => ?_, h4, h5, h6, h7, fun m hm d hd => ?_, h9, h10⟩
  · by_cases e : m = n
    · subst e; simp only [nNd, uNd, if_true]; exact hx
    · simp only [nNd, uNd, if_neg e]; exact h3 m hm
  · by_cases e : m = n
    · subst e; simp only [nNd, uNd, if_true] at hd; exact hb d hd
    · simp only [nNd, uNd, if_neg e] at hd; exact h8 m hm d hd
theorem wfO.bu {σ : Net} {b o n : Nat} (h : wfO σ b o) (hn : n < 8) : ∀ d ∈ dBu (nNd σ n), buOk σ n d ∧ d ≠ o := h.2.2.2.2.2.2.2.1 n hn
theorem wfO.no {σ : Net} {b o n : Nat} (h : wfO σ b o) (hn : n < 8) : ndOk (nSe σ) (nNow σ) b n (nNd σ n) := h.2.2.1 n hn
theorem wfO.ca {σ : Net} {b o n : Nat} {c : List (List Nat)} (h : wfO σ b o) (hn : n < 8) (hc : okC (dMap (nNd σ n)) (nSe σ 2) c) (hp : dMap (nNd σ n) = false → ∀ e ∈ c, e.getD 0 0 = n) : wfO (uNd σ n (xCa (nNd σ n) c)) b o := by
  obtain ⟨g1, g2, g3⟩ := h.no hn
  exact h.nd ⟨hc, hp, g3⟩ (h.bu hn)
theorem wfO.learn {σ : Net} {b o n : Nat} {L : List Nat} (h : wfO σ b o) (hn : n < 8) (hx : ∀ x ∈ L, x < 8) (hd : L.Nodup) (hh : L.getD 0 0 = n) : wfO (learnN σ n L) b o := by
  obtain ⟨g1, g2, g3⟩ := h.no hn
  refine h.ca hn (okC_learn g1 (nodup8 hd hx) hx hd) (fun hm e he => ?_)
  rw [hm] at he
  exact learn_head (g2 hm) hh e he
theorem wfO.forget {σ : Net} {b o n x y : Nat} (h : wfO σ b o) (hn : n < 8) : wfO (forgetN σ n x y) b o := by
  obtain ⟨g1, g2, g3⟩ := h.no hn
  refine h.ca hn (okC_forget g1) (fun hm e he => ?_)
  rw [hm] at he
  exact forget_head (g2 hm) e he
theorem wfO.forgetO {σ : Net} {b o n : Nat} {q : Option (Nat × Nat)} (h : wfO σ b o) (hn : n < 8) : wfO (forgetON σ n q) b o := by
  cases q with
  | none => exact h.ca hn (h.no hn).1 (h.no hn).2.1
  | some q => exact h.forget (x := q.1) (y := q.2) hn
theorem wfO.nw {σ : Net} {b o n : Nat} {q : Option (Nat × Nat)} (h : wfO σ b o) (hn : n < 8) (hq : lkOk q) : wfO (uNd σ n (xNw (nNd σ n) q)) b o := by
  obtain ⟨h1, h2, h3, h4, h5, h6, h7, h8, h9⟩ := h.no hn
  exact h.nd ⟨h1, h2, h3, h4, h5, h6, h7, hq, h9⟩ (h.bu hn)
theorem wfO.see {σ : Net} {b o n i k : Nat} (h : wfO σ b o) (hn : n < 8) (hi : i < 8) (hk : k ≤ b) : wfO (seeN σ n i k) b o := by
  obtain ⟨h1, h2, h3, h4, h5, h6, h7, h8, h9⟩ := h.no hn
  refine h.nd ⟨h1, h2, by simp only [dTb, xTb, List.length_take]; omega, fun q hq => ?_, h5, h6, h7, h8, h9⟩ (h.bu hn)
  rcases List.mem_cons.mp (List.mem_of_mem_take hq) with rfl | q
  · exact ⟨hi, hk⟩
  · exact h4 _ q
theorem wfO.ako {σ : Net} {b o n t : Nat} (h : wfO σ b o) (hn : n < 8) : wfO (uNd σ n (xAkO (nNd σ n) t)) b o := by
  obtain ⟨h1, h2, h3, h4, h5, h6, h7, h8, h9⟩ := h.no hn
  refine h.nd ⟨h1, h2, h3, h4, h5, h6, h7, h8, fun u k hu => ?_⟩ (h.bu hn)
  simp only [dAk, xAkO] at hu
  split at hu
  · cases hu
  · exact h9 u k hu
theorem wfO.send {σ : Net} {b o : Nat} {f : Fm} (h : wfO σ b o) (hf : frOk σ b f) (hk : fKi f ≠ 0) : wfO (sendF σ f).1 b o := by
  unfold sendF
  split
  · exact h
  · rename_i hl
    obtain ⟨h1, h2, h3, h4, h5, h6, h7, h8, h9, h10⟩ := h
    refine ⟨h1, ⟨?_, h2.2⟩, h3, fun g hg => ?_, h5, ?_, h7, h8, h9, h10⟩
    · simp only [nAir, uAir, uTa, List.length_append, List.length_singleton]; have := h2.1; simp only [nAir] at this hl; omega
    · rcases List.mem_append.mp hg with q | q
      · exact h4 g q
      · rw [List.mem_singleton.mp q]; exact ⟨hf, fun e => absurd e hk⟩
    · simp only [nAir, uAir, uTa, List.filter_append]
      rw [List.filter_cons_of_neg (by simpa using hk), List.filter_nil, List.append_nil]
      exact h6
theorem dat_ne {σ : Net} {o e : Nat} {y : Da} (h : e ≠ o) : dat (uDa σ o y) e = dat σ e := by simp [nDa, uDa, List.getElem?_set_ne (Ne.symm h)]
theorem dat_eq {σ : Net} {o : Nat} {y : Da} (h : o < (nDa σ).length) : dat (uDa σ o y) o = y := by simp [nDa, uDa, show o < σ.2.2.2.2.2.2.length from h]
theorem frOk_da {σ σ' : Net} {b : Nat} {f : Fm} (h : frOk σ b f) (hl : (nDa σ').length = (nDa σ).length) (hd : fKi f = 0 → dat σ' (fAb f) = dat σ (fAb f)) : frOk σ' b f := by
  obtain ⟨h1, h2, h3, h4, h5⟩ := h
  refine ⟨h1, fun q => ?_, h3, h4, h5⟩
  rw [hd q, hl]; exact h2 q
theorem wfO.da {σ : Net} {b o : Nat} {y : Da} (h : wfO σ b o) : wfO (uDa σ o y) b o := by
  obtain ⟨h1, h2, h3, h4, h5, h6, h7, h8, h9, h10⟩ := h
  have hl : (nDa (uDa σ o y)).length = (nDa σ).length := len_set
  refine ⟨h1, ⟨h2.1, by rw [hl]; exact h2.2⟩, h3, fun f hf => ⟨frOk_da (h4 f hf).1 hl (fun q => dat_ne ((h4 f hf).2 q)), (h4 f hf).2⟩, fun d hd hne => ?_, h6, h7, fun n hn d hd => ⟨?_, (h8 n hn d hd).2⟩, h9, h10⟩
  · rw [dat_ne hne]; exact h5 d (by rw [← hl]; exact hd) hne
  · have := (h8 n hn d hd).1
    unfold buOk at this ⊢
    rw [dat_ne (h8 n hn d hd).2, hl]
    exact this
/-- the data that is in no one's hand goes on -/
theorem wfO.fly {σ : Net} {b o x : Nat} (h : wfO σ b o) (ho : o < (nDa σ).length) (hd : daOk (dat σ o)) (h1 : aSt (dat σ o) = 1) (hx : x = trL (dat σ o)) (hl : (nAir σ).length ≠ 40) : wfN (uTa (uAir σ (nAir σ ++ [(0, x, o, 0, none, [])])) 0) b := by
  subst hx
  obtain ⟨g1, g2, g3, g4, g5, g6, g7, g8, g9, g10⟩ := h
  have ht : trL (dat σ o) < 8 := by
    obtain ⟨k1, k2, k3⟩ := hd
    exact k2.2.2.1 _ (getD_mem (by omega))
  refine ⟨g1, ⟨?_, g2.2⟩, g3, fun f hf => ?_, fun y hy => ?_, ?_, g7, fun n hn d hd => (g8 n hn d hd).1, g9, g10⟩
  · simp only [nAir, uAir, uTa, List.length_append, List.length_singleton]; have := g2.1; simp only [nAir] at this hl; omega
  · rcases List.mem_append.mp hf with q | q
    · exact (g4 f q).1
    · rw [List.mem_singleton.mp q]
      refine ⟨⟨Nat.zero_le 3, ht, List.nodup_nil, fun y hy => by cases hy⟩, fun _ => ⟨ho, h1, rfl, rfl⟩, fun q => ?_, fun q => ?_, fun q => ?_⟩ <;> simp [fKi] at q
  · obtain ⟨i, hi, rfl⟩ := mem_getD (l := nDa σ) hy
    by_cases e : i = o
    · subst e; exact hd
    · exact g5 i hi e
  · simp only [nAir, uAir, uTa, List.filter_append, List.map_append]
    rw [List.filter_cons_of_pos (by simp), List.filter_nil]
    simp only [List.map_cons, List.map_nil]
    rw [List.nodup_append]
    refine ⟨g6, by simp, fun a ha c hc => ?_⟩
    obtain ⟨f, hf, rfl⟩ := List.mem_map.mp ha
    rw [List.mem_singleton.mp hc]
    obtain ⟨hf1, hf2⟩ := List.mem_filter.mp hf
    exact (g4 f hf1).2 (by simpa using hf2)
