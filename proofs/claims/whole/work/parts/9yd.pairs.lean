/-! the class and the reference hold the same -/
def inv (σ : Net) : Prop := wfN σ (104 * nNow σ + (nDa σ).length) ∧ bcN σ ∧ nNow σ ≤ 900
theorem inv.b {σ : Net} (h : inv σ) : 104 * nNow σ + (nDa σ).length + 3000 < 100000 := by
  have h1 := h.1.2.1.2
  have h2 := h.2.2
  omega
theorem wfN_se {σ : Net} {b : Nat} {g : Nat → Nat} (h : wfN σ b) (e : ∀ k, k < 8 → g k = nSe σ k) : wfN (g, σ.2) b := by
  obtain ⟨h1, h2, h3, h4, h5, h6, h7, h8, h9, h10⟩ := h
  refine ⟨?_, h2, fun n hn => ?_, h4, h5, h6, ?_, h8, h9, h10⟩
  · show seOk g
    unfold seOk
    rw [e 0 (by decide), e 1 (by decide), e 2 (by decide), e 3 (by decide), e 4 (by decide), e 5 (by decide), e 6 (by decide), e 7 (by decide)]
    exact h1
  · show ndOk g _ _ _ _
    unfold ndOk
    rw [e 2 (by decide), e 3 (by decide), e 4 (by decide)]
    exact h3 n hn
  · show upOk (g 0) _
    rw [e 0 (by decide)]; exact h7
theorem seN_at {σ : Net} {v : Nat} : nSe (seN σ 11 v) 11 = v := by simp [nSe, seN, updN]
theorem seN_ne {σ : Net} {v k : Nat} (h : k ≠ 11) : nSe (seN σ 11 v) k = nSe σ k := by simp [nSe, seN, updN, h]
theorem inv.se {σ : Net} {g : Nat → Nat} (h : inv σ) (e : ∀ k, k < 8 → g k = nSe σ k) : inv (g, σ.2) := ⟨wfN_se h.1 e, h.2.1, h.2.2⟩
def imR (A : Nat → Int32) (k : Nat) (σ : Net) : Prop := netR (fun i => if i < 2457 then A (2457 * (k + 1) + i) else nI (nSe σ i)) σ
def clsI (S : St) (x : Nat) (σ : Net) (B : List Nat) (sv : Nat → Bool) (σi : Nat → Net) (Bi : Nat → List Nat) : Prop := SF S x ∧ tx13 S (x + 1) σ B ∧ (S.2.2 (x + 3) 0 = some (x + 3 + 1) ∧ S.2.2 (x + 3) 11 = some (x + 3 + 2)) ∧ worldR S (x + 6) σ ∧ wdD S (x + 158) ∧ S.1 x 6 = nI (bts sv 8) ∧ ∀ k, k < 3 → (txD S (x + 312 + 154 * k) ∧ wdD S (x + 314 + 154 * k)) ∧ (sv k = true → tx13 S (x + 312 + 154 * k) (σi k) (Bi k) ∧ worldR S (x + 314 + 154 * k) (σi k))
def refI (S : St) (h : Nat) (σ : Net) (B : List Nat) (sv : Nat → Bool) (σi : Nat → Net) (Bi : Nat → List Nat) : Prop := RRef S h ∧ netR (S.1 (h + 1)) σ ∧ rtB (S.1 (h + 2)) B ∧ txB (S.1 (h + 2)) ∧ ∀ k, k < 3 → S.1 (h + 3) k = (if sv k then 1 else 0) ∧ (sv k = true → imR (S.1 (h + 1)) k (σi k) ∧ rtB (fun i => S.1 (h + 2) (400 * (k + 1) + i)) (Bi k))
def LI (x h : Nat) (S : St) : Prop := ∃ (σ : Net) (B : List Nat) (sv : Nat → Bool) (σi : Nat → Net) (Bi : Nat → List Nat), inv σ ∧ (∀ k, k < 3 → sv k = true → inv (σi k)) ∧ clsI S x σ B sv σi Bi ∧ refI S h σ B sv σi Bi
theorem tx13.cg {S S' : St} {t lo hi : Nat} {σ : Net} {B : List Nat} (h : tx13 S t σ B) (hc : chg lo hi S S') (ho : t + 2 ≤ lo ∨ hi ≤ t) : tx13 S' t σ B := ⟨h.1.chg hc ho, h.2.1, by rw [(hc t (by omega)).1]; exact h.2.2.1, by rw [(hc t (by omega)).1]; exact h.2.2.2⟩
theorem clsI.cg {S S' : St} {x lo hi : Nat} {σ : Net} {B : List Nat} {sv : Nat → Bool} {σi : Nat → Net} {Bi : Nat → List Nat} (h : clsI S x σ B sv σi Bi) (hc : chg lo hi S S') (ho : x + 774 ≤ lo ∨ hi ≤ x) : clsI S' x σ B sv σi Bi := by
  obtain ⟨h1, h2, h3, h4, h5, h6, h7⟩ := h
  exact ⟨h1.chg hc (by omega) (by omega) (by omega), h2.cg hc (by omega), by rw [(hc _ (by omega)).2.2]; exact h3, h4.chg hc (by omega), h5.chg hc (by omega), by rw [(hc _ (by omega)).1]; exact h6, fun k hk => ⟨⟨(h7 k hk).1.1.chg hc (by omega), (h7 k hk).1.2.chg hc (by omega)⟩, fun q => ⟨((h7 k hk).2 q).1.cg hc (by omega), ((h7 k hk).2 q).2.chg hc (by omega)⟩⟩⟩
/-- the trial world changes -/
theorem clsI.tr {S S' : St} {x : Nat} {σ : Net} {B : List Nat} {sv : Nat → Bool} {σi : Nat → Net} {Bi : Nat → List Nat} (h : clsI S x σ B sv σi Bi) (hc : chg (x + 158) (x + 310) S S') (hd : wdD S' (x + 158)) : clsI S' x σ B sv σi Bi := by
  obtain ⟨h1, h2, h3, h4, h5, h6, h7⟩ := h
  exact ⟨h1.chg hc (by omega) (by omega) (by omega), h2.cg hc (by omega), by rw [(hc _ (by omega)).2.2]; exact h3, h4.chg hc (by omega), hd, by rw [(hc _ (by omega)).1]; exact h6, fun k hk => ⟨⟨(h7 k hk).1.1.chg hc (by omega), (h7 k hk).1.2.chg hc (by omega)⟩, fun q => ⟨((h7 k hk).2 q).1.cg hc (by omega), ((h7 k hk).2 q).2.chg hc (by omega)⟩⟩⟩
/-- the world, the text change -/
theorem clsI.wd {S S' : St} {x lo : Nat} {σ τ : Net} {B B' : List Nat} {sv : Nat → Bool} {σi : Nat → Net} {Bi : Nat → List Nat} (h : clsI S x σ B sv σi Bi) (hc : chg lo (x + 158) S S') (hlo : x < lo) (ht : tx13 S' (x + 1) τ B') (hr : S'.2.2 (x + 3) = S.2.2 (x + 3)) (hw : worldR S' (x + 6) τ) : clsI S' x τ B' sv σi Bi := by
  obtain ⟨h1, h2, h3, h4, h5, h6, h7⟩ := h
  exact ⟨h1.chg hc (by omega) (by omega) (by omega), ht, by rw [hr]; exact h3, hw, h5.chg hc (by omega), by rw [(hc _ (by omega)).1]; exact h6, fun k hk => ⟨⟨(h7 k hk).1.1.chg hc (by omega), (h7 k hk).1.2.chg hc (by omega)⟩, fun q => ⟨((h7 k hk).2 q).1.cg hc (by omega), ((h7 k hk).2 q).2.chg hc (by omega)⟩⟩⟩
theorem clsI.se {S : St} {x : Nat} {σ : Net} {B : List Nat} {sv : Nat → Bool} {σi : Nat → Net} {Bi : Nat → List Nat} {g : Nat → Nat} (h : clsI S x σ B sv σi Bi) (e : ∀ k, k < 14 → g k = nSe σ k) : clsI S x (g, σ.2) B sv σi Bi := by
  obtain ⟨h1, h2, h3, h4, h5⟩ := h
  refine ⟨h1, ⟨h2.1, ?_, ?_, ?_⟩, h3, worldR_se h4 (fun k hk => e k (by omega)), h5⟩
  · show B.length = g 11
    rw [e 11 (by decide)]; exact h2.2.1
  · show _ = nI (g 12)
    rw [e 12 (by decide)]; exact h2.2.2.1
  · show _ = nI (g 13)
    rw [e 13 (by decide)]; exact h2.2.2.2
theorem refI.cg {S S' : St} {h lo hi : Nat} {σ : Net} {B : List Nat} {sv : Nat → Bool} {σi : Nat → Net} {Bi : Nat → List Nat} (q : refI S h σ B sv σi Bi) (hc : chg lo hi S S') (ho : h + 13 ≤ lo ∨ hi ≤ h) : refI S' h σ B sv σi Bi := by
  unfold refI RRef at q ⊢
  rw [(hc h (by omega)).2.2, (hc (h + 1) (by omega)).1, (hc (h + 2) (by omega)).1, (hc (h + 3) (by omega)).1]
  exact q
theorem refI.fr {S S' : St} {h : Nat} {rows flds : List Nat} {σ : Net} {B : List Nat} {sv : Nat → Bool} {σi : Nat → Net} {Bi : Nat → List Nat} (q : refI S h σ B sv σi Bi) (f : fr h rows flds S S') (r1 : h + 1 ∉ rows) (r2 : h + 2 ∉ rows) (r3 : h + 3 ∉ rows) : refI S' h σ B sv σi Bi := by
  unfold refI RRef at q ⊢
  rw [show S'.2.2 = S.2.2 by rw [f.1], f.2.1 _ r1 (by omega), f.2.1 _ r2 (by omega), f.2.1 _ r3 (by omega)]
  exact q
/-- the row of all changes ahead of the images -/
theorem refI.al {S S' : St} {h : Nat} {rows flds : List Nat} {σ τ : Net} {B B' : List Nat} {sv : Nat → Bool} {σi : Nat → Net} {Bi : Nat → List Nat} (q : refI S h σ B sv σi Bi) (f : frT h rows flds S S') (r3 : h + 3 ∉ rows) (hN : netR (S'.1 (h + 1)) τ) (hI : ∀ i, 2457 ≤ i → i < 9828 → S'.1 (h + 1) i = S.1 (h + 1) i) (hB : rtB (S'.1 (h + 2)) B') (hb : txB (S'.1 (h + 2))) (hT : ∀ i, 400 ≤ i → S'.1 (h + 2) i = S.1 (h + 2) i) : refI S' h τ B' sv σi Bi := by
  obtain ⟨q1, q2, q3, q4, q5⟩ := q
  refine ⟨f.ref q1, hN, hB, hb, fun k hk => ⟨by rw [f.2.2.1 _ r3 (by omega)]; exact (q5 k hk).1, fun z => ⟨?_, ?_⟩⟩⟩
  · have := ((q5 k hk).2 z).1
    unfold imR at this ⊢
    rw [show (fun i => if i < 2457 then S'.1 (h + 1) (2457 * (k + 1) + i) else nI (nSe (σi k) i)) = fun i => if i < 2457 then S.1 (h + 1) (2457 * (k + 1) + i) else nI (nSe (σi k) i) from funext (fun i => by
      by_cases c : i < 2457
      · rw [if_pos c, if_pos c, hI _ (by omega) (by omega)]
      · rw [if_neg c, if_neg c])]
    exact this
  · rw [show (fun i => S'.1 (h + 2) (400 * (k + 1) + i)) = fun i => S.1 (h + 2) (400 * (k + 1) + i) from funext (fun i => hT _ (by omega))]
    exact ((q5 k hk).2 z).2
theorem fr_cg {S S' : St} {h : Nat} {rows flds : List Nat} (f : frT h rows flds S S') (hr : ∀ r ∈ rows, h < r ∧ r < h + 13) : chg h (h + 13) S S' := fun a ha => ⟨f.2.2.1 a (fun z => by have := hr a z; omega) (by omega), f.2.1 a (by omega), by rw [f.1]⟩
def prS (G : Gc) (x h : Nat) (m1 : Md) (n1 : Nat) (m2 : Md) (n2 : Nat) (As : List Value) : Prop := ∀ S, LI x h S → ∃ (v : Int32) (P : St → Prop), C G m1 n1 (.ref x :: As) S (fun r S1 => r = some (.int v) ∧ P S1) ∧ ∀ S1, P S1 → C G m2 n2 (.ref h :: As) S1 (fun r S2 => r = some (.int v) ∧ LI x h S2)
section PR
variable {G : Gc} {x h : Nat}
/-- a question that changes nothing -/
theorem prS_q {m1 m2 : Md} {n1 n2 : Nat} {As : List Value} {rows flds : List Nat} (f : Net → Int32) (hh : h = x + 774) (hr : ∀ r ∈ rows, h + 3 < r ∧ r < h + 13) (q1 : ∀ S σ B sv σi Bi, inv σ → clsI S x σ B sv σi Bi → C G m1 n1 (.ref x :: As) S (fun r S1 => r = some (.int (f σ)) ∧ S = S1)) (q2 : ∀ S σ, RRef S h → netR (S.1 (h + 1)) σ → inv σ → C G m2 n2 (.ref h :: As) S (fun r S' => r = some (.int (f σ)) ∧ fr h rows flds S S')) : prS G x h m1 n1 m2 n2 As := by
  rintro S ⟨σ, B, sv, σi, Bi, h1, h2, h3, h4⟩
  refine ⟨f σ, fun S1 => S = S1, q1 S σ B sv σi Bi h1 h3, fun S1 e => ?_⟩
  subst e
  refine C.mono (q2 S σ h4.1 h4.2.1 h1) (fun r S' q => ⟨q.1, ?_⟩)
  exact ⟨σ, B, sv, σi, Bi, h1, h2, h3.cg (fr_cg q.2.t (fun r z => by have := hr r z; omega)) (by omega), h4.fr q.2 (fun z => by have := hr _ z; omega) (fun z => by have := hr _ z; omega) (fun z => by have := hr _ z; omega)⟩
/-- a question on what would come -/
theorem prS_if {m1 m2 : Md} {n1 n2 : Nat} {As : List Value} (f : Net → Int32) (hh : h = x + 774) (q1 : ∀ S σ B sv σi Bi, inv σ → clsI S x σ B sv σi Bi → C G m1 n1 (.ref x :: As) S (fun r S1 => r = some (.int (f σ)) ∧ chg (x + 158) (x + 310) S S1 ∧ wdD S1 (x + 158))) (q2 : ∀ S σ, RRef S h → netR (S.1 (h + 1)) σ → inv σ → C G m2 n2 (.ref h :: As) S (fun r S' => r = some (.int (f (reSe σ (cpT (S.1 (h + 1)) 0 4)))) ∧ fr h [h + 1, h + 7, h + 8, h + 9, h + 10, h + 11, h + 12] [0, 20, 22] S S' ∧ ∀ i, i < 9828 → S'.1 (h + 1) i = S.1 (h + 1) i)) : prS G x h m1 n1 m2 n2 As := by
  rintro S ⟨σ, B, sv, σi, Bi, h1, h2, h3, h4⟩
  have hre : ∀ A, ∀ k, k < 14 → (reSe σ A).1 k = nSe σ k := fun A k hk => reSe_lt (by omega)
  have hc' := h3.se (g := (reSe σ (cpT (S.1 (h + 1)) 0 4)).1) (hre _)
  have hi' : inv (reSe σ (cpT (S.1 (h + 1)) 0 4)) := h1.se (fun k hk => hre _ k (by omega))
  refine ⟨f (reSe σ (cpT (S.1 (h + 1)) 0 4)), fun S1 => chg (x + 158) (x + 310) S S1 ∧ wdD S1 (x + 158), q1 S _ B sv σi Bi hi' hc', fun S1 q => ?_⟩
  have h3' := h3.tr q.1 q.2
  have h4' := h4.cg q.1 (by omega)
  have e1 : S1.1 (h + 1) = S.1 (h + 1) := (q.1 _ (by omega)).1
  have c2 := q2 S1 σ h4'.1 h4'.2.1 h1
  rw [e1] at c2
  refine C.mono c2 (fun r S' z => ⟨z.1, ?_⟩)
  obtain ⟨-, z2, z3⟩ := z
  have hN := netR_re (A' := S'.1 (h + 1)) (by rw [← e1]; exact h4'.2.1) h1.1.sz (fun i hi => z3 i (by omega))
  have hz2 : S'.1 (h + 2) = S1.1 (h + 2) := z2.2.1 _ (by simp) (by omega)
  exact ⟨reSe σ (S'.1 (h + 1)), B, sv, σi, Bi, h1.se (fun k hk => hre _ k (by omega)), h2, (h3'.cg (fr_cg z2.t (by simp)) (by omega)).se (hre _), h4'.al z2.t (by simp) hN (fun i _ hi => by rw [z3 i hi, e1]) (by rw [hz2]; exact h4'.2.2.1) (by rw [hz2]; exact h4'.2.2.2.1) (fun i _ => by rw [hz2])⟩

theorem pr_node (hX : SLay G x) (hR : RLay G h) (hh : h = x + 774) (u v : Int32) : prS G x h mX11_node 7 mX12_node 6 [.int u, .int v] :=
  prS_q (fun σ => aNode σ u v) hh (by simp) (fun S σ B sv σi Bi hi hc => c_X11_node x hX hc.1 σ hc.2.2.2.1 _ hi.1 u v) (fun S σ hF hN hi => c_node hR hF σ _ hi.1 hN u v)
theorem pr_kept (hX : SLay G x) (hR : RLay G h) (hh : h = x + 774) (u v w : Int32) : prS G x h mX11_kept 1 mX12_kept 3 [.int u, .int v, .int w] :=
  prS_q (fun σ => aKept σ u v w) hh (by simp) (fun S σ B sv σi Bi hi hc => c_X11_kept x hX hc.1 σ hc.2.2.2.1 _ hi.1 u v w) (fun S σ hF hN hi => c_kept hR hF σ _ hi.1 hN u v w)
theorem pr_seen (hX : SLay G x) (hR : RLay G h) (hh : h = x + 774) (u v : Int32) : prS G x h mX11_seen 1 mX12_seen 2 [.int u, .int v] :=
  prS_q (fun σ => aSeen σ u v) hh (by simp) (fun S σ B sv σi Bi hi hc => c_X11_seen x hX hc.1 σ hc.2.2.2.1 _ hi.1 u v) (fun S σ hF hN hi => c_seen hR hF σ _ hi.1 hN u v)
theorem pr_waits (hX : SLay G x) (hR : RLay G h) (hh : h = x + 774) (u v : Int32) : prS G x h mX11_waits 1 mX12_waits 2 [.int u, .int v] :=
  prS_q (fun σ => aWaits σ u v) hh (by simp) (fun S σ B sv σi Bi hi hc => c_X11_waits x hX hc.1 σ hc.2.2.2.1 _ hi.1 u v) (fun S σ hF hN hi => c_waits hR hF σ _ hi.1 hN u v)
theorem pr_way (hX : SLay G x) (hR : RLay G h) (hh : h = x + 774) (u v w : Int32) : prS G x h mX11_way 5 mX12_way 5 [.int u, .int v, .int w] :=
  prS_q (fun σ => aWay σ u v w) hh (by simp) (fun S σ B sv σi Bi hi hc => c_X11_way x hX hc.1 σ hc.2.2.2.1 _ hi.1 u v w) (fun S σ hF hN hi => c_way hR hF σ _ hi.1 hN u v w)
theorem pr_hops (hX : SLay G x) (hR : RLay G h) (hh : h = x + 774) (u v : Int32) : prS G x h mX11_hops 5 mX12_hops 5 [.int u, .int v] :=
  prS_q (fun σ => aHops σ u v) hh (by simp) (fun S σ B sv σi Bi hi hc => c_X11_hops x hX hc.1 σ hc.2.2.2.1 _ hi.1 u v) (fun S σ hF hN hi => c_hops hR hF σ _ hi.1 hN u v)
theorem pr_data (hX : SLay G x) (hR : RLay G h) (hh : h = x + 774) (u v : Int32) : prS G x h mX11_data 2 mX12_data 2 [.int u, .int v] :=
  prS_q (fun σ => aData σ u v) hh (by simp) (fun S σ B sv σi Bi hi hc => c_X11_data x hX hc.1 σ hc.2.2.2.1 _ hi.1 u v) (fun S σ hF hN hi => c_data hR hF σ _ hi.1 hN u v)
theorem pr_air (hX : SLay G x) (hR : RLay G h) (hh : h = x + 774) (u v : Int32) : prS G x h mX11_air 1 mX12_air 2 [.int u, .int v] :=
  prS_q (fun σ => aAir σ u v) hh (by simp) (fun S σ B sv σi Bi hi hc => c_X11_air x hX hc.1 σ hc.2.2.2.1 _ hi.1 u v) (fun S σ hF hN hi => c_air hR hF σ _ hi.1 hN u v)
theorem pr_row (hX : SLay G x) (hR : RLay G h) (hh : h = x + 774) (u v : Int32) : prS G x h mX11_row 1 mX12_row 2 [.int u, .int v] :=
  prS_q (fun σ => aRow σ u v) hh (by simp) (fun S σ B sv σi Bi hi hc => c_X11_row x hX hc.1 σ hc.2.2.2.1 _ hi.1 u v) (fun S σ hF hN hi => c_row hR hF σ _ hi.1 hN u v)
theorem pr_tally (hX : SLay G x) (hR : RLay G h) (hh : h = x + 774) (u : Int32) : prS G x h mX11_tally 0 mX12_tally_ 1 [.int u] :=
  prS_q (fun σ => aTally σ u) hh (by simp) (fun S σ B sv σi Bi hi hc => c_X11_tally x hX hc.1 σ hc.2.2.2.1 _ hi.1 u) (fun S σ hF hN hi => c_tallyP hR hF σ _ hi.1 hN u)
theorem pr_far (hX : SLay G x) (hR : RLay G h) (hh : h = x + 774) (u v : Int32) : prS G x h mX11_far 2 mX12_far 2 [.int u, .int v] :=
  prS_q (fun σ => aFar σ u v) hh (by simp) (fun S σ B sv σi Bi hi hc => c_X11_far x hX hc.1 σ hc.2.2.2.1 _ hi.1 u v) (fun S σ hF hN hi => c_far hR hF σ _ hi.1 hN u v)
theorem pr_holders (hX : SLay G x) (hR : RLay G h) (hh : h = x + 774) (u v : Int32) : prS G x h mX11_holders 3 mX12_holders 3 [.int u, .int v] :=
  prS_q (fun σ => aHolders σ u v) hh (by simp) (fun S σ B sv σi Bi hi hc => c_X11_holders x hX hc.1 σ hc.2.2.2.1 _ hi.1 u v) (fun S σ hF hN hi => c_holders hR hF σ _ hi.1 hN u v)
theorem pr_stale (hX : SLay G x) (hR : RLay G h) (hh : h = x + 774) (u : Int32) : prS G x h mX11_stale 3 mX12_stale 3 [.int u] :=
  prS_q (fun σ => aStale σ u) hh (by simp) (fun S σ B sv σi Bi hi hc => c_X11_stale x hX hc.1 σ hc.2.2.2.1 _ hi.1 u) (fun S σ hF hN hi => c_stale hR hF σ _ hi.1 hN u)
theorem pr_sound (hX : SLay G x) (hR : RLay G h) (hh : h = x + 774) (u v : Int32) : prS G x h mX11_sound 5 mX12_sound 5 [.int u, .int v] :=
  prS_q (fun σ => if aSound σ u v then 1 else 0) hh (by simp) (fun S σ B sv σi Bi hi hc => c_X11_sound x hX hc.1 σ hc.2.2.2.1 _ hi.1 u v) (fun S σ hF hN hi => c_sound hR hF σ _ hi.1 hN u v)
theorem pr_mapped (hX : SLay G x) (hR : RLay G h) (hh : h = x + 774) (u v : Int32) : prS G x h mX11_mapped 3 mX12_mapped 3 [.int u, .int v] :=
  prS_q (fun σ => aMapped σ u v) hh (by simp) (fun S σ B sv σi Bi hi hc => c_X11_mapped x hX hc.1 σ hc.2.2.2.1 _ hi.1 u v) (fun S σ hF hN hi => c_mapped hR hF σ _ hi.1 hN u v)
theorem pr_bridges (hX : SLay G x) (hR : RLay G h) (hh : h = x + 774) (u v : Int32) : prS G x h mX11_bridges 2 mX12_bridges 3 [.int u, .int v] :=
  prS_q (fun σ => aBridges σ u v) hh (by simp) (fun S σ B sv σi Bi hi hc => c_X11_bridges x hX hc.1 σ hc.2.2.2.1 _ hi.1 u v) (fun S σ hF hN hi => c_bridges hR hF σ _ hi.1 hN u v)
theorem pr_has (hX : SLay G x) (hR : RLay G h) (hh : h = x + 774) (v : Int32) : prS G x h mX11_has 0 mX12_has_ 1 [.int v] :=
  prS_q (fun σ => aHas σ v) hh (by simp) (fun S σ B sv σi Bi hi hc => c_X11_has x hX hc.1 σ hc.2.2.2.1 _ hi.1 B hc.2.1 v) (fun S σ hF hN hi => c_hasP hR hF σ _ hi.1 hN v)
theorem pr_fault (hX : SLay G x) (hR : RLay G h) (hh : h = x + 774) (p : Bool) : prS G x h mX11_fault 0 mX12_fault 0 [.int (if p then 1 else 0)] :=
  prS_q (fun σ => nI (nSe σ (if p then 13 else 12))) hh (by simp) (fun S σ B sv σi Bi hi hc => c_X11_fault x hX hc.1 σ B hc.2.1 p) (fun S σ hF hN hi => c_fault hR hF σ hN p)
theorem pr_trail (hX : SLay G x) (hR : RLay G h) (hh : h = x + 774) (u v : Int32) (p : Bool) : prS G x h mX11_trail 1 mX12_trail 2 [.int u, .int v, .int (if p then 1 else 0)] :=
  prS_q (rows := []) (flds := [0]) (fun σ => aTrail σ u v p) hh (by simp) (fun S σ B sv σi Bi hi hc => c_X11_trail x hX hc.1 σ hc.2.2.2.1 _ hi.1 u v p) (fun S σ hF hN hi => by
    cases p
    · exact c_trailF hR hF σ _ hi.1 hN u v
    · exact c_trailR hR hF σ _ hi.1 hN u v)
theorem pr_ahead (hX : SLay G x) (hR : RLay G h) (hh : h = x + 774) (u v : Int32) : prS G x h mX11_ahead 7 mX12_ahead 12 [.int u, .int v] :=
  prS_if (fun σ => aAhead σ u v) hh (fun S σ B sv σi Bi hi hc => c_X11_ahead x hX hc.1 σ hc.2.2.2.1 _ hi.1 hc.2.2.2.2.1 hi.2.2 hi.b hi.2.1 u v) (fun S σ hF hN hi => c_ahead hR hF σ _ hi.1 hN hi.2.2 hi.b u v)
theorem pr_turned (hX : SLay G x) (hR : RLay G h) (hh : h = x + 774) (u v w z : Int32) : prS G x h mX11_turned 7 mX12_turned 12 [.int u, .int v, .int w, .int z] :=
  prS_if (fun σ => aTurned σ u v w z) hh (fun S σ B sv σi Bi hi hc => c_X11_turned x hX hc.1 σ hc.2.2.2.1 _ hi.1 hc.2.2.2.2.1 hi.2.2 hi.b hi.2.1 u v w z) (fun S σ hF hN hi => c_turned hR hF σ _ hi.1 hN hi.2.2 hi.b u v w z)
theorem pr_sent (hX : SLay G x) (hR : RLay G h) (hh : h = x + 774) (u v w z : Int32) : prS G x h mX11_sent 7 mX12_sent 12 [.int u, .int v, .int w, .int z] :=
  prS_if (fun σ => aSent σ u v w z) hh (fun S σ B sv σi Bi hi hc => c_X11_sent x hX hc.1 σ hc.2.2.2.1 _ hi.1 hc.2.2.2.2.1 hi.2.2 hi.b u v w z) (fun S σ hF hN hi => c_sent hR hF σ _ hi.1 hN hi.2.2 hi.b u v w z)
theorem pr_quiet (hX : SLay G x) (hR : RLay G h) (hh : h = x + 774) : prS G x h mX11_quiet 7 mX12_quiet 11 [] :=
  prS_if (fun σ => aQuiet σ) hh (fun S σ B sv σi Bi hi hc => c_X11_quiet x hX hc.1 σ hc.2.2.2.1 _ hi.1 hc.2.2.2.2.1 hi.2.2 hi.b hi.2.1) (fun S σ hF hN hi => c_quiet hR hF σ _ hi.1 hN hi.2.2 hi.b)
theorem pr_flood (hX : SLay G x) (hR : RLay G h) (hh : h = x + 774) (u v : Int32) (p : Bool) : prS G x h mX11_flood 7 mX12_flood 10 [.int u, .int v, .int (if p then 1 else 0)] :=
  prS_if (fun σ => aFlood σ u v p) hh (fun S σ B sv σi Bi hi hc => c_X11_flood x hX hc.1 σ hc.2.2.2.1 _ hi.1 hc.2.2.2.2.1 hi.2.2 hi.b u v p) (fun S σ hF hN hi => by
    cases p
    · exact c_floodF hR hF σ _ hi.1 hN hi.2.2 hi.b u v
    · exact c_floodT hR hF σ _ hi.1 hN hi.2.2 hi.b u v)
theorem ge_all {A A' : Nat → Int32} {σ τ : Net} (h1 : netR A σ) (h2 : netR A' τ) (e : nSe τ = nSe σ) (i : Nat) (hi : 2457 ≤ i) : A' i = A i := by
  rw [h2.1.1 i (by omega), h1.1.1 i (by omega), e]
theorem pr_send (hX : SLay G x) (hR : RLay G h) (hh : h = x + 774) (u v : Int32) : prS G x h mX11_send 6 mX12_send 7 [.int u, .int v] := by
  rintro S ⟨σ, B, sv, σi, Bi, h1, h2, h3, h4⟩
  have hb := h1.b
  have hse : nSe (aSend σ u v).2 = nSe σ := by
    unfold aSend
    split
    · split
      · exact come_keeps.1
      · rfl
    · rfl
  have hinv : inv (aSend σ u v).2 := by
    unfold aSend
    cases e : two σ u v with
    | none => exact h1
    | some pq =>
      obtain ⟨p, q⟩ := pq
      obtain ⟨-, -, hp, hq, hpq⟩ := two_some e
      have h8 := h1.1.1.1.2
      dsimp only
      split
      · rename_i hl
        obtain ⟨k1, k2, k3⟩ := @come_keeps σ p q
        refine ⟨?_, h1.2.1.come, by rw [k2]; exact h1.2.2⟩
        rw [k2, k3]
        exact h1.1.come (by omega) (by omega) hpq hl (by omega)
      · exact h1
  refine ⟨(aSend σ u v).1, fun S1 => worldR S1 (x + 6) (aSend σ u v).2 ∧ wch (x + 6) S S1, c_X11_send x hX h3.1 σ h3.2.2.2.1 _ h1.1 (by omega) u v, fun S1 q => ?_⟩
  have ht : tx13 S1 (x + 1) (aSend σ u v).2 B := by
    have := h3.2.1.cg q.2.1 (by omega)
    unfold tx13 at this ⊢
    rw [hse]; exact this
  have h3' := h3.wd (q.2.1.mono (Nat.le_refl _) (by omega)) (by omega) ht (q.2.1 _ (by omega)).2.2 q.1
  have h4' := h4.cg q.2.1 (by omega)
  refine C.mono (c_send hR h4'.1 σ _ h1.1 h4'.2.1 (by omega) u v) (fun r S' z => ⟨z.1, ?_⟩)
  obtain ⟨-, z2, z3⟩ := z
  have hz2 : S'.1 (h + 2) = S1.1 (h + 2) := z2.2.1 _ (by simp) (by omega)
  exact ⟨(aSend σ u v).2, B, sv, σi, Bi, hinv, h2, h3'.cg (fr_cg z2.t (by simp)) (by omega), h4'.al z2.t (by simp) z3 (fun i hi _ => ge_all h4'.2.1 z3 hse i hi) (by rw [hz2]; exact h4'.2.2.1) (by rw [hz2]; exact h4'.2.2.2.1) (fun i _ => by rw [hz2])⟩
theorem pr_ticks (hX : SLay G x) (hR : RLay G h) (hh : h = x + 774) (v : Int32) : prS G x h mX11_ticks 7 mX12_ticks 11 [.int v] := by
  rintro S ⟨σ, B, sv, σi, Bi, h1, h2, h3, h4⟩
  have hb := h1.b
  have hall : nSe (aTicks σ v).2 = nSe σ ∧ inv (aTicks σ v).2 := by
    unfold aTicks
    cases e : inN v 7 with
    | none => exact ⟨rfl, h1⟩
    | some k =>
      have hk := (inN_some e).1
      dsimp only
      split
      · rename_i q
        obtain ⟨k1, k2, k3, k4, k5⟩ := h1.1.tks k (by omega) (by omega)
        refine ⟨k2, ?_, h1.2.1.tks h1.1 k (by omega) (by omega), by rw [k3]; exact q.2⟩
        rw [k3, k5, show 104 * (nNow σ + k) + (nDa σ).length = 104 * nNow σ + (nDa σ).length + 104 * k by omega]
        exact k1
      · exact ⟨rfl, h1⟩
  obtain ⟨hse, hinv⟩ := hall
  refine ⟨(aTicks σ v).1, fun S1 => worldR S1 (x + 6) (aTicks σ v).2 ∧ chg (x + 6) (x + 158) S S1, c_X11_ticks x hX h3.1 σ h3.2.2.2.1 _ h1.1 h1.2.2 (by omega) v, fun S1 q => ?_⟩
  have ht : tx13 S1 (x + 1) (aTicks σ v).2 B := by
    have := h3.2.1.cg q.2 (by omega)
    unfold tx13 at this ⊢
    rw [hse]; exact this
  have h3' := h3.wd q.2 (by omega) ht (q.2 _ (by omega)).2.2 q.1
  have h4' := h4.cg q.2 (by omega)
  refine C.mono (c_ticks hR h4'.1 σ _ h1.1 h4'.2.1 h1.2.2 hb v) (fun r S' z => ⟨z.1, ?_⟩)
  obtain ⟨-, z2, z3⟩ := z
  have hz2 : S'.1 (h + 2) = S1.1 (h + 2) := z2.2.1 _ (by simp) (by omega)
  exact ⟨(aTicks σ v).2, B, sv, σi, Bi, hinv, h2, h3'.cg (fr_cg z2.t (by simp)) (by omega), h4'.al z2.t (by simp) z3 (fun i hi _ => ge_all h4'.2.1 z3 hse i hi) (by rw [hz2]; exact h4'.2.2.1) (by rw [hz2]; exact h4'.2.2.2.1) (fun i _ => by rw [hz2])⟩
theorem pr_turn (hX : SLay G x) (hR : RLay G h) (hh : h = x + 774) (u v : Int32) (p : Bool) : prS G x h mX11_turn 2 mX12_turn 3 [.int u, .int v, .int (if p then 1 else 0)] := by
  rintro S ⟨σ, B, sv, σi, Bi, h1, h2, h3, h4⟩
  have hall : nSe (aTurn σ u v p).2 = nSe σ ∧ inv (aTurn σ u v p).2 := by
    unfold aTurn
    cases e : two σ u v with
    | none => exact ⟨rfl, h1⟩
    | some pq =>
      obtain ⟨a, c⟩ := pq
      obtain ⟨-, -, hp, hq, hpq⟩ := two_some e
      dsimp only
      split
      · exact ⟨rfl, h1.1.uup hp hq hpq, h1.2.1, h1.2.2⟩
      · exact ⟨rfl, h1⟩
  obtain ⟨hse, hinv⟩ := hall
  refine ⟨if (aTurn σ u v p).1 then 1 else 0, fun S1 => worldR S1 (x + 6) (aTurn σ u v p).2 ∧ wch (x + 6) S S1, c_X11_turn x hX h3.1 σ h3.2.2.2.1 _ h1.1 u v p, fun S1 q => ?_⟩
  have ht : tx13 S1 (x + 1) (aTurn σ u v p).2 B := by
    have := h3.2.1.cg q.2.1 (by omega)
    unfold tx13 at this ⊢
    rw [hse]; exact this
  have h3' := h3.wd (q.2.1.mono (Nat.le_refl _) (by omega)) (by omega) ht (q.2.1 _ (by omega)).2.2 q.1
  have h4' := h4.cg q.2.1 (by omega)
  have hC : C G mX12_turn 3 [.ref h, .int u, .int v, .int (if p then 1 else 0)] S1 (fun r S' => r = some (.int (if (aTurn σ u v p).1 then 1 else 0)) ∧ fr h [h + 1] [0] S1 S' ∧ netR (S'.1 (h + 1)) (aTurn σ u v p).2) := by
    cases p
    · exact c_turnF hR h4'.1 σ _ h1.1 h4'.2.1 u v
    · exact c_turnT hR h4'.1 σ _ h1.1 h4'.2.1 u v
  refine C.mono hC (fun r S' z => ⟨z.1, ?_⟩)
  obtain ⟨-, z2, z3⟩ := z
  have hz2 : S'.1 (h + 2) = S1.1 (h + 2) := z2.2.1 _ (by simp) (by omega)
  exact ⟨(aTurn σ u v p).2, B, sv, σi, Bi, hinv, h2, h3'.cg (fr_cg z2.t (by simp)) (by omega), h4'.al z2.t (by simp) z3 (fun i hi _ => ge_all h4'.2.1 z3 hse i hi) (by rw [hz2]; exact h4'.2.2.1) (by rw [hz2]; exact h4'.2.2.2.1) (fun i _ => by rw [hz2])⟩
theorem pr_say (hX : SLay G x) (hR : RLay G h) (hh : h = x + 774) (v : Int64) : prS G x h mX11_say 1 mX12_say 0 [.long v] := by
  rintro S ⟨σ, B, sv, σi, Bi, h1, h2, h3, h4⟩
  have hg : ∀ k, k < 8 → (seN σ 11 (sayA B v).2.length).1 k = nSe σ k := fun k hk => by
    exact seN_ne (by omega)
  have hinv : inv (seN σ 11 (sayA B v).2.length) := h1.se hg
  refine ⟨(sayA B v).1, _, c_X11_say x hX h3.1 B h3.2.1.1 v, fun S1 q => ?_⟩
  obtain ⟨q1, q2, q3, q4, q5⟩ := q
  have ht : tx13 S1 (x + 1) (seN σ 11 (sayA B v).2.length) (sayA B v).2 := ⟨q3, seN_at.symm, by rw [q4, seN_ne (by decide)]; exact h3.2.1.2.2.1, by rw [q5, seN_ne (by decide)]; exact h3.2.1.2.2.2⟩
  have h3' := h3.wd (q1.mono (Nat.le_refl _) (by omega)) (by omega) ht (q1 _ (by omega)).2.2 (worldR_se (h3.2.2.2.1.chg q1 (by omega)) hg)
  have h4' := h4.cg q1 (by omega)
  refine C.mono (c_say hR h4'.1 σ h4'.2.1 h1.1.sz B h4'.2.2.1 h3.2.1.2.1 h4'.2.2.2.1 v) (fun r S' z => ⟨z.1, ?_⟩)
  obtain ⟨-, z2, z3, z4, z5, z6, z7⟩ := z
  exact ⟨seN σ 11 (sayA B v).2.length, (sayA B v).2, sv, σi, Bi, hinv, h2, h3'.cg (fr_cg z2.t (by simp)) (by omega), h4'.al z2.t (by simp) z3 (fun i hi _ => z6 i (by omega)) z4 z5 z7⟩
theorem pr_net (hX : SLay G x) (hR : RLay G h) (hh : h = x + 774) {q v : Nat} (hZ : ∀ U, gZ G U → zW G q v U) {tL tM : Nat} (hZL : ∀ U, gZ G U → zT G "LEAST" tL aL U) (hZM : ∀ U, gZ G U → zT G "MOST" tM aM U) {tF : Nat} (hZF : ∀ U, gZ G U → zT G "AT_FIRST" tF aF U) : prS G x h mX11_net 7 mX12_net 6 [] := by
  rintro S ⟨σ, B, sv, σi, Bi, h1, h2, h3, h4⟩
  have hg : ∀ k, k < 8 → se3 σ B k = nSe σ k := fun k hk => by
    unfold se3
    rw [if_neg (by omega), if_neg (by omega), if_neg (by omega)]
  have hall : inv (if (reaF B).1 = 0 then nwN (reaF B).2.2 (se3 σ B) else (se3 σ B, σ.2)) := by
    split
    · rename_i hf
      obtain ⟨w1, w2, -, -⟩ := reaF_W hf
      exact ⟨nwN_wf (b := 0) w1 w2 (by decide), nwN_bc, Nat.zero_le _⟩
    · exact h1.se hg
  have hs : ∀ k, 11 ≤ k → k < 14 → nSe (if (reaF B).1 = 0 then nwN (reaF B).2.2 (se3 σ B) else (se3 σ B, σ.2)) k = se3 σ B k := fun k k1 k2 => by
    split
    · show (if k < 8 then _ else se3 σ B k) = _
      rw [if_neg (by omega)]
    · rfl
  refine ⟨_, _, c_X11_net hZ hZL hZM hZF x hX h3.1 σ h3.2.2.2.1 _ h1.1 h3.2.2.1.1 h3.2.2.1.2 B h3.2.1.1 (se3 σ B), fun S1 q => ?_⟩
  obtain ⟨q1, q2, q3, q4, q5, q6, q7⟩ := q
  have hw : worldR S1 (x + 6) (if (reaF B).1 = 0 then nwN (reaF B).2.2 (se3 σ B) else (se3 σ B, σ.2)) := by
    by_cases hf : (reaF B).1 = 0
    · rw [if_pos hf] at q7 ⊢; exact q7
    · rw [if_neg hf] at q7 ⊢; exact worldR_se q7 hg
  have ht : tx13 S1 (x + 1) (if (reaF B).1 = 0 then nwN (reaF B).2.2 (se3 σ B) else (se3 σ B, σ.2)) [] := by
    refine ⟨q4, ?_, ?_, ?_⟩
    · rw [hs 11 (by decide) (by decide)]; rfl
    · rw [hs 12 (by decide) (by decide)]; exact q5
    · rw [hs 13 (by decide) (by decide)]
      show _ = nI (flN (reaF B).2.1)
      rw [flN_I]; exact q6
  obtain ⟨p1, p2, p3, p4, p5, p6, p7⟩ := h3
  have h3' : clsI S1 x (if (reaF B).1 = 0 then nwN (reaF B).2.2 (se3 σ B) else (se3 σ B, σ.2)) [] sv σi Bi := ⟨p1.chg q1 (by omega) (by omega) (by omega), ht, ⟨q2, q3⟩, hw, p5.chg q1 (by omega), by rw [(q1 _ (by omega)).1]; exact p6, fun k hk => ⟨⟨(p7 k hk).1.1.chg q1 (by omega), (p7 k hk).1.2.chg q1 (by omega)⟩, fun z => ⟨((p7 k hk).2 z).1.cg q1 (by omega), ((p7 k hk).2 z).2.chg q1 (by omega)⟩⟩⟩
  have h4' := h4.cg q1 (by omega)
  refine C.mono (c_net hR h4'.1 σ h4'.2.1 h1.1.sz B h4'.2.2.1 p2.2.1) (fun r S' z => ⟨z.1, ?_⟩)
  obtain ⟨-, z2, z3, z4⟩ := z
  have hz2 : S'.1 (h + 2) = S1.1 (h + 2) := z2.2.2.1 _ (by simp) (by omega)
  exact ⟨_, [], sv, σi, Bi, hall, h2, h3'.cg (fr_cg z2 (by simp)) (by omega), h4'.al z2 (by simp) z3 (fun i hi _ => z4 i hi) ⟨Nat.zero_le _, fun c hc => absurd hc List.not_mem_nil, fun i hi => absurd hi (Nat.not_lt_zero _)⟩ (by rw [hz2]; exact h4'.2.2.2.1) (fun i _ => by rw [hz2])⟩
end PR
