/-! a flood ends: each request has one node more in its row than the one that it came from -/
def exA (P : Fm → Prop) (σ τ : Net) : Prop := ∃ e, nAir τ = nAir σ ++ e ∧ ∀ f ∈ e, P f
theorem exA.of {P : Fm → Prop} {σ τ : Net} (h : nAir τ = nAir σ) : exA P σ τ := ⟨[], by rw [h, List.append_nil], fun f hf => absurd hf List.not_mem_nil⟩
theorem exA.tr {P : Fm → Prop} {σ τ υ : Net} (a : exA P σ τ) (b : exA P τ υ) : exA P σ υ := by
  obtain ⟨e, h1, h2⟩ := a
  obtain ⟨g, h3, h4⟩ := b
  refine ⟨e ++ g, by rw [h3, h1, List.append_assoc], fun f hf => ?_⟩
  rcases List.mem_append.mp hf with q | q
  · exact h2 f q
  · exact h4 f q
theorem exA.send {P : Fm → Prop} {σ : Net} {f : Fm} (h : P f) : exA P σ (sendF σ f).1 := by
  unfold sendF
  split
  · exact exA.of rfl
  · exact ⟨[f], rfl, fun g hg => by rw [List.mem_singleton.mp hg]; exact h⟩
theorem exA.it {P : Fm → Prop} {f : Nat → Net → Net} (hf : ∀ z τ, exA P τ (f z τ)) (k : Nat) (σ : Net) : exA P σ (iterN f k σ) := iterN_ind (P := fun _ τ => exA P σ τ) k (exA.of rfl) (fun z τ _ q => q.tr (hf z τ))
/-- no data, and a request's row is so long -/
def rqL (L : Nat) (f : Fm) : Prop := fKi f ≠ 0 ∧ (fKi f = 1 → (fRo f).length = L)
theorem exA.arq {σ : Net} {f : Fm} : exA (rqL ((fRo f).length + 1)) σ (arrReq σ f) := by
  refine exA.it (fun z τ => ?_) _ _
  have ha : ∀ υ, exA (rqL ((fRo f).length + 1)) υ (answer υ z f) := fun υ => by
    unfold answer
    split
    · exact exA.send ⟨(by decide : (2 : Nat) ≠ 0), fun q => absurd q (by decide : ¬ (2 : Nat) = 1)⟩
    · split
      · refine exA.send ⟨(by decide : (1 : Nat) ≠ 0), fun _ => ?_⟩
        show (fRo f ++ [z]).length = _
        rw [List.length_append]; rfl
      · exact exA.of rfl
  unfold reqStep
  split
  · split
    · exact exA.of rfl
    · exact (exA.of rfl).tr (ha _)
  · exact exA.of rfl
theorem exA.arp {L : Nat} {σ : Net} {f : Fm} : exA (rqL L) σ (arrRep σ f) := by
  unfold arrRep
  split
  · refine exA.tr (τ := rpLb σ f) ?_ (exA.it (fun z τ => ?_) _ _)
    · unfold rpLb
      split
      · exact (exA.of (τ := rpLa σ f) rfl).tr (exA.send ⟨(by decide : (2 : Nat) ≠ 0), fun q => absurd q (by decide : ¬ (2 : Nat) = 1)⟩)
      · exact exA.of rfl
    · unfold repStep
      split
      · exact exA.of rfl
      · exact exA.of rfl
  · exact exA.of rfl
theorem exA.ae {L : Nat} {σ : Net} {f : Fm} : exA (rqL L) σ (arrErr σ f) := by
  unfold arrErr
  split
  · refine exA.tr (τ := erLb σ f) ?_ (exA.it (fun z τ => ?_) _ _)
    · unfold erLb
      split
      · exact exA.of rfl
      · exact (exA.of (τ := erLa σ f) rfl).tr (exA.send ⟨(by decide : (3 : Nat) ≠ 0), fun q => absurd q (by decide : ¬ (3 : Nat) = 1)⟩)
    · unfold errStep
      split
      · exact exA.of rfl
      · exact exA.of rfl
  · exact exA.of rfl
theorem exA.ar {L : Nat} {σ : Net} (h : rqL L (hdF σ)) : exA (rqL (L + 1)) (popA σ) (arrive σ) := by
  unfold arrive
  rw [if_neg h.1]
  split
  · rename_i q
    have := @exA.arq (popA σ) (hdF σ)
    rw [h.2 q] at this
    exact this
  · split
    · exact exA.arp
    · exact exA.ae
theorem rqL_all {L : Nat} {σ : Net} (h : ∀ f ∈ nAir σ, rqL L f) : ∀ f ∈ nAir (arrAll σ), rqL (L + 1) f := by
  have key : ∀ i, i ≤ (nAir σ).length → ∃ e, nAir (iterN (fun _ τ => arrive τ) i (uNow σ)) = (nAir σ).drop i ++ e ∧ ∀ f ∈ e, rqL (L + 1) f := fun i => by
    induction i with
    | zero => exact fun _ => ⟨[], by rw [List.append_nil]; rfl, fun f hf => absurd hf List.not_mem_nil⟩
    | succ i ih =>
      intro hi
      obtain ⟨e, h1, h2⟩ := ih (by omega)
      have hd : (nAir σ).drop i = (nAir σ)[i] :: (nAir σ).drop (i + 1) := List.drop_eq_getElem_cons (by omega)
      rw [hd, List.cons_append] at h1
      have hh : hdF (iterN (fun _ τ => arrive τ) i (uNow σ)) = (nAir σ)[i] := by
        unfold hdF
        rw [h1]; rfl
      obtain ⟨g, g1, g2⟩ := exA.ar (L := L) (σ := iterN (fun _ τ => arrive τ) i (uNow σ)) (by rw [hh]; exact h _ (List.getElem_mem _))
      refine ⟨e ++ g, ?_, fun f hf => ?_⟩
      · show nAir (arrive (iterN (fun _ τ => arrive τ) i (uNow σ))) = _
        rw [g1]
        show (nAir (iterN (fun _ τ => arrive τ) i (uNow σ))).tail ++ g = _
        rw [h1, List.tail_cons, List.append_assoc]
      · rcases List.mem_append.mp hf with q | q
        · exact h2 f q
        · exact g2 f q
  obtain ⟨e, h1, h2⟩ := key _ (Nat.le_refl _)
  intro f hf
  have hf : f ∈ nAir (iterN (fun _ τ => arrive τ) (nAir σ).length (uNow σ)) := hf
  rw [h1, List.drop_length, List.nil_append] at hf
  exact h2 f hf
theorem flA_stop : ∀ (k m L : Nat) (σ : Net) (b : Nat), wfN σ b → nNow σ + k ≤ 1000 → b + 40 * k < 100000 → (∀ f ∈ nAir σ, rqL L f) → 9 ≤ L + k → k ≤ m → flA m σ = flA k σ
  | 0, m, L, σ, b, hN, _, _, hf, hL, _ => by
    have hr : reqB σ = false := by
      unfold reqB
      rw [List.any_eq_false]
      intro f hm
      simp only [decide_eq_true_eq]
      intro hk
      have h1 := (hf f hm).2 hk
      have h2 := (hN.2.2.2.1 f hm).1
      have := nodup8 h2.2.2.1 h2.2.2.2
      omega
    cases m with
    | zero => rfl
    | succ m =>
      show (if reqB σ then _ else σ) = σ
      rw [hr]; rfl
  | k + 1, m, L, σ, b, hN, hn, hb, hf, hL, hm => by
    cases m with
    | zero => omega
    | succ m =>
      show (if reqB σ then flA m (arrAll σ) else σ) = if reqB σ then flA k (arrAll σ) else σ
      obtain ⟨g1, -, g3, -⟩ := hN.aal (by omega) (by omega)
      rw [flA_stop k m (L + 1) (arrAll σ) (b + 40) g1 (by omega) (by omega) (rqL_all hf) (by omega) (by omega)]
theorem fl0_rq {σ : Net} {x y : Nat} : ∀ f ∈ nAir (fl0 σ x y), rqL 1 f := by
  intro f hf
  have h : exA (rqL 1) (uAir σ []) (fl0 σ x y) := (exA.of (τ := uNd (uAir σ []) x (xAsk (nNd (uAir σ []) x) y (nNow (uAir σ [])))) rfl).tr (exA.send ⟨(by decide : (1 : Nat) ≠ 0), fun _ => rfl⟩)
  obtain ⟨e, h1, h2⟩ := h
  rw [h1] at hf
  exact h2 f hf
theorem flA_8 {σ : Net} {b x y : Nat} (hN : wfN (fl0 σ x y) b) (hn : nNow (fl0 σ x y) ≤ 900) (hb : b + 400 < 100000) : flA 20 (fl0 σ x y) = flA 8 (fl0 σ x y) := flA_stop 8 20 1 _ b hN (by omega) (by omega) fl0_rq (by omega) (by omega)
/-- the air is made empty -/
theorem worldR_air0 {S : St} {w : Nat} {σ : Net} (h : worldR S w σ) : worldR (setI S (w + 3) 2 0) w (uAir σ []) ∧ wch w S (setI S (w + 3) 2 0) := by
  obtain ⟨h1, h2, ⟨s, p, h3⟩, h4, h5, h6, h7, h8⟩ := h
  have hc : chg (w + 3) (w + 4) S (setI S (w + 3) 2 0) := chg.setI (Nat.le_refl _) (by omega)
  have hc0 : ∀ a, a ≠ w + 3 → (setI S (w + 3) 2 0).1 a = S.1 a := fun a ha => setI_row _ _ _ ha
  refine ⟨⟨wdF_same h1 (fun a q1 q2 => rfl) (fun q hq => by rw [hc0 _ (by unfold dA; omega)]), ⟨fun j hj => by rw [hc0 _ (by omega)]; exact h2.1 j hj, fun j hj => by rw [hc0 _ (by omega)]; exact h2.2.1 j hj, by rw [hc0 _ (by omega)]; exact h2.2.2.1, by rw [hc0 _ (by omega)]; exact h2.2.2.2.1, h2.2.2.2.2⟩, ⟨s, p, h3.1, by rw [setI_ne _ _ (Or.inr (by decide))]; exact h3.2.1, setI_at _ _ _ _, h3.2.2.2.1, h3.2.2.2.2.1, h3.2.2.2.2.2.1, h3.2.2.2.2.2.2.1, fun k hk => absurd hk (Nat.not_lt_zero _)⟩, fun m hm => (h4 m hm).chg hc (by unfold pA; omega), fun q hq => daC_same (h5 q hq) (hc0 _ (by unfold dA; omega)) rfl, h6, Nat.zero_le _, h8⟩, hc.mono (by omega) (by omega), rfl, fun a ha => ?_⟩
  rw [h3.2.2.2.1] at ha
  have ha := Option.some.inj ha
  have q := h3.2.2.2.2.2.1 40 (by omega)
  exact ⟨hc0 a (by omega), rfl⟩
theorem worldR_se {S : St} {w : Nat} {σ : Net} {g : Nat → Nat} (h : worldR S w σ) (hg : ∀ k, k < 8 → g k = nSe σ k) : worldR S w (g, σ.2) := by
  obtain ⟨h1, h2, ⟨s, p, h3⟩, h4, h5, h6, h7, h8⟩ := h
  have hnd : ∀ n, n < 8 → poR S (pA w n) n g (nNd σ n) := fun n hn => by
    have := h4 n hn
    unfold poR at this ⊢
    rw [hg 1 (by decide), hg 2 (by decide)]
    exact this
  refine ⟨h1, ⟨fun k hk => ?_, h2.2⟩, ⟨s, p, h3⟩, hnd, h5, ?_, h7, h8⟩
  · show _ = nI (g k)
    rw [hg k hk]; exact h2.1 k hk
  · unfold cvN at h6 ⊢
    show (∀ d, d < (nDa σ).length → aOr (dat σ d) < g 0 ∧ aEn (dat σ d) < g 0) ∧ (∀ n, g 0 ≤ n → n < 8 → _) ∧ ∀ n t, n < 8 → _ → t < g 0
    rw [hg 0 (by decide)]
    exact h6
