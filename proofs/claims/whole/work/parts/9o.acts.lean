/-! the class: ticks, what would come -/
theorem SF.chg {lo hi x : Nat} {S S' : St} (h : SF S x) (hc : chg lo hi S S') (h1 : x < lo ∨ hi ≤ x) (h2 : x + 310 < lo ∨ hi ≤ x + 310) (h3 : x + 311 < lo ∨ hi ≤ x + 311) : SF S' x := by
  unfold SF at h ⊢
  rw [(hc x (by omega)).2.2, (hc (x + 310) (by omega)).2.2, (hc (x + 311) (by omega)).2.2]
  exact h
theorem wfN.up {σ : Net} {b b' : Nat} (h : wfN σ b) (hb : b ≤ b') (hb' : b' < 100000) : wfN σ b' := (h.o.up hb hb').n40
theorem come_keeps {σ : Net} {x y : Nat} : nSe (comeN σ x y) = nSe σ ∧ nNow (comeN σ x y) = nNow σ ∧ (nDa (comeN σ x y)).length = (nDa σ).length + 1 := by
  have hg : geN (pushD σ (newD x y (nNow σ))) (comeN σ x y) := geN.sv
  exact ⟨hg.1, hg.2.1, by rw [hg.2.2.2.1, len_push]⟩
theorem send_wf {σ : Net} {b : Nat} {u v : Int32} (hN : wfN σ b) (hb : b + 1 < 100000) : wfN (aSend σ u v).2 (b + 1) ∧ nNow (aSend σ u v).2 = nNow σ := by
  unfold aSend
  cases e : two σ u v with
  | none => exact ⟨hN.up (by omega) hb, rfl⟩
  | some pq =>
    obtain ⟨p, q⟩ := pq
    obtain ⟨-, -, hp, hq, hpq⟩ := two_some e
    have h8 := hN.1.1.2
    dsimp only
    split
    · rename_i hl; exact ⟨hN.come (by omega) (by omega) hpq hl hb, come_keeps.2.1⟩
    · exact ⟨hN.up (by omega) hb, rfl⟩
section CLS
variable {G : Gc} {S : St}
set_option maxRecDepth 100000 in
set_option maxHeartbeats 4000000 in
theorem c_X11_mayGoBy (v : Int32) : C G mX11_mayGoBy 0 [.int v] S (fun r S' => r = some (.int (if inN v 7 = none then 0 else 1)) ∧ S = S') := by
  refine C.mk (lv := [some (.int v)]) (by decide) (Nat.le_of_ble_eq_true rfl) rfl (fun E hB => ?_)
  refine X_iload_n (i := 0) hB dX11_mayGoBy_0 rfl rfl ?_
  refine X_if_lt (tgt := 14) hB dX11_mayGoBy_1 (by decide) (fun c1 => ?_) (fun c1 => ?_)
  · refine X_iconst (v := 0) hB dX11_mayGoBy_14 (by decide) ?_
    refine X_zret hB rfl (by first | exact Or.inl rfl | exact Or.inr rfl) dX11_mayGoBy_15 ?_
    rw [if_pos (inN_no (by decide) (Or.inl c1))]
    exact ⟨rfl, rfl⟩
  · refine X_iload_n (i := 0) hB dX11_mayGoBy_4 rfl rfl ?_
    refine X_bipush (v := 6) hB dX11_mayGoBy_5 (by decide) ?_
    refine X_icmp_gt (tgt := 14) hB dX11_mayGoBy_7 (by decide) (fun c7 => ?_) (fun c7 => ?_)
    · refine X_iconst (v := 0) hB dX11_mayGoBy_14 (by decide) ?_
      refine X_zret hB rfl (by first | exact Or.inl rfl | exact Or.inr rfl) dX11_mayGoBy_15 ?_
      rw [if_pos (inN_no (c := 7) (by decide) (Or.inr ?_))]
      · exact ⟨rfl, rfl⟩
      · rw [Int32.lt_iff_toInt_lt] at c7
        rw [Int32.le_iff_toInt_le]
        have : (6 : Int32).toInt = 6 := by decide
        have : (nI 7).toInt = 7 := by decide
        omega
    · refine X_iconst (v := 1) hB dX11_mayGoBy_10 (by decide) ?_
      refine X_goto (tgt := 15) hB dX11_mayGoBy_11 (by decide) ?_
      refine X_zret hB rfl (by first | exact Or.inl rfl | exact Or.inr rfl) dX11_mayGoBy_15 ?_
      obtain ⟨k, hk31, rfl⟩ := nI_of c1
      rw [show (6 : Int32) = nI 6 from rfl, nI_ltI (by omega) hk31] at c7
      rw [if_neg (by rw [inN_nI (show k < 7 by omega) hk31]; exact fun z => by cases z)]
      exact ⟨rfl, rfl⟩
set_option maxRecDepth 100000 in
set_option maxHeartbeats 4000000 in
theorem l_X11_ticks {E : Ev} (hB : Bd G E mX11_ticks) {Q : Option Value → St → Prop} (x : Nat) (hX : SLay G x) (hS : SF S x) (τ : Net) (b : Nat) (hN : wfN τ b) (t : Nat) (ht : t ≤ 6) (hnow : nNow τ + t ≤ 910) (hb : b + 700 < 100000)  (kk : ∀ S1, worldR S1 (x + 6) (tkN_ t τ) → chg (x + 6) (x + 6 + 152) S S1 → X G E mX11_ticks 7 Q S1 49 [some (.ref x), some (.int (nI t)), some (.int (nI t))] []) :
    ∀ (j k : Nat) (S1 : St), k + j = t → worldR S1 (x + 6) (tkN_ k τ) → chg (x + 6) (x + 6 + 152) S S1 → X G E mX11_ticks 7 Q S1 30 [some (.ref x), some (.int (nI t)), some (.int (nI k))] [] := by
  have hV := hX.2.2.2.1
  intro j
  induction j with
  | zero =>
    intro k S1 h1 h2 h3
    have e9 : k = t := by omega
    subst e9
    refine X_iload_n (i := 2) hB dX11_ticks_30 rfl rfl ?_
    refine X_iload_n (i := 1) hB dX11_ticks_31 rfl rfl ?_
    refine X_icmp_ge (tgt := 49) hB dX11_ticks_32 (by decide) (fun c32 => ?_) (fun c32 => absurd c32 (by simp (disch := omega) only [nlit, nI_leI, nI_ltI]; omega))
    exact kk S1 h2 h3
  | succ j ih =>
    intro k S1 h1 h2 h3
    obtain ⟨g1, g2, g3, g4, g5⟩ := hN.tks k (by omega) (by omega)
    have hr : S1.2.2 x 2 = some (x + 6) := by rw [(h3 x (by omega)).2.2]; exact hS.2.2.1
    refine X_iload_n (i := 2) hB dX11_ticks_30 rfl rfl ?_
    refine X_iload_n (i := 1) hB dX11_ticks_31 rfl rfl ?_
    refine X_icmp_ge (tgt := 49) hB dX11_ticks_32 (by decide) (fun c32 => absurd c32 (by simp (disch := omega) only [nlit, nI_leI, nI_ltI]; omega)) (fun c32 => ?_)
    refine X_aload_n (i := 0) hB dX11_ticks_35 rfl rfl ?_
    refine X_getr hB cw9 fX11_26 rfl hX.1.1 hX.1.2 hr dX11_ticks_36 ?_
    refine X_iconst (v := 0) hB dX11_ticks_39 (by decide) ?_
    refine X_callV hB kX11_97 cw8 hV.1.1 hV.1.2 (c_X10_tick (x + 6) hV (tkN_ k τ) h2 (b + 104 * k) false g1 (by omega) (by omega)) (by decide) (by decide) rfl rfl (Nat.le_of_ble_eq_true rfl) dX11_ticks_40 (fun r40 S40 q40 => ?_)
    obtain ⟨rfl, w1, w2⟩ := q40
    refine X_iinc hB dX11_ticks_43 rfl rfl (by decide) rfl ?_
    refine X_goto (tgt := 30) hB dX11_ticks_46 (by decide) ?_
    refine X_lv ?_ (ih (k + 1) _ (by omega) w1 (h3.tr w2))
    · rw [nI_succ]; rfl
set_option maxRecDepth 100000 in
set_option maxHeartbeats 4000000 in
theorem l_X11_ahead {E : Ev} (hB : Bd G E mX11_ahead) {Q : Option Value → St → Prop} (x : Nat) (hX : SLay G x) (hS : SF S x) (τ : Net) (b : Nat) (hN : wfN τ b) (t : Nat) (ht : t ≤ 6) (hnow : nNow τ + t ≤ 910) (hb : b + 700 < 100000) (v : Int32) (kk : ∀ S1, worldR S1 (x + 158) (tkN_ t τ) → chg (x + 158) (x + 158 + 152) S S1 → X G E mX11_ahead 7 Q S1 41 [some (.ref x), some (.int (nI t)), some (.int v), some (.int (nI t))] []) :
    ∀ (j k : Nat) (S1 : St), k + j = t → worldR S1 (x + 158) (tkN_ k τ) → chg (x + 158) (x + 158 + 152) S S1 → X G E mX11_ahead 7 Q S1 22 [some (.ref x), some (.int (nI t)), some (.int v), some (.int (nI k))] [] := by
  have hV := hX.2.2.2.2.1
  intro j
  induction j with
  | zero =>
    intro k S1 h1 h2 h3
    have e9 : k = t := by omega
    subst e9
    refine X_iload_n (i := 3) hB dX11_ahead_22 rfl rfl ?_
    refine X_iload_n (i := 1) hB dX11_ahead_23 rfl rfl ?_
    refine X_icmp_ge (tgt := 41) hB dX11_ahead_24 (by decide) (fun c24 => ?_) (fun c24 => absurd c24 (by simp (disch := omega) only [nlit, nI_leI, nI_ltI]; omega))
    exact kk S1 h2 h3
  | succ j ih =>
    intro k S1 h1 h2 h3
    obtain ⟨g1, g2, g3, g4, g5⟩ := hN.tks k (by omega) (by omega)
    have hr : S1.2.2 x 3 = some (x + 158) := by rw [(h3 x (by omega)).2.2]; exact hS.2.2.2.1
    refine X_iload_n (i := 3) hB dX11_ahead_22 rfl rfl ?_
    refine X_iload_n (i := 1) hB dX11_ahead_23 rfl rfl ?_
    refine X_icmp_ge (tgt := 41) hB dX11_ahead_24 (by decide) (fun c24 => absurd c24 (by simp (disch := omega) only [nlit, nI_leI, nI_ltI]; omega)) (fun c24 => ?_)
    refine X_aload_n (i := 0) hB dX11_ahead_27 rfl rfl ?_
    refine X_getr hB cw9 fX11_30 rfl hX.1.1 hX.1.2 hr dX11_ahead_28 ?_
    refine X_iconst (v := 0) hB dX11_ahead_31 (by decide) ?_
    refine X_callV hB kX11_97 cw8 hV.1.1 hV.1.2 (c_X10_tick (x + 158) hV (tkN_ k τ) h2 (b + 104 * k) false g1 (by omega) (by omega)) (by decide) (by decide) rfl rfl (Nat.le_of_ble_eq_true rfl) dX11_ahead_32 (fun r32 S32 q32 => ?_)
    obtain ⟨rfl, w1, w2⟩ := q32
    refine X_iinc hB dX11_ahead_35 rfl rfl (by decide) rfl ?_
    refine X_goto (tgt := 22) hB dX11_ahead_38 (by decide) ?_
    refine X_lv ?_ (ih (k + 1) _ (by omega) w1 (h3.tr w2))
    · rw [nI_succ]; rfl
end CLS
