/-! the class: what would come, more -/
section CLS
variable {G : Gc} {S : St}
set_option maxRecDepth 100000 in
set_option maxHeartbeats 4000000 in
theorem l_X11_turned {E : Ev} (hB : Bd G E mX11_turned) {Q : Option Value → St → Prop} (x : Nat) (hX : SLay G x) (hS : SF S x) (τ : Net) (b : Nat) (hN : wfN τ b) (t : Nat) (ht : t ≤ 6) (hnow : nNow τ + t ≤ 910) (hb : b + 700 < 100000) (p q : Nat) (v : Int32) (kk : ∀ S1, worldR S1 (x + 158) (tkN_ t τ) → chg (x + 158) (x + 158 + 152) S S1 → X G E mX11_turned 7 Q S1 72 [some (.ref x), some (.int (nI p)), some (.int (nI q)), some (.int (nI t)), some (.int v), some (.int (nI t))] []) :
    ∀ (j k : Nat) (S1 : St), k + j = t → worldR S1 (x + 158) (tkN_ k τ) → chg (x + 158) (x + 158 + 152) S S1 → X G E mX11_turned 7 Q S1 52 [some (.ref x), some (.int (nI p)), some (.int (nI q)), some (.int (nI t)), some (.int v), some (.int (nI k))] [] := by
  have hV := hX.2.2.2.2.1
  intro j
  induction j with
  | zero =>
    intro k S1 h1 h2 h3
    have e9 : k = t := by omega
    subst e9
    refine X_iload hB dX11_turned_52 rfl ?_
    refine X_iload_n (i := 3) hB dX11_turned_54 rfl rfl ?_
    refine X_icmp_ge (tgt := 72) hB dX11_turned_55 (by decide) (fun c55 => ?_) (fun c55 => absurd c55 (by simp (disch := omega) only [nlit, nI_leI, nI_ltI]; omega))
    exact kk S1 h2 h3
  | succ j ih =>
    intro k S1 h1 h2 h3
    obtain ⟨g1, g2, g3, g4, g5⟩ := hN.tks k (by omega) (by omega)
    have hr : S1.2.2 x 3 = some (x + 158) := by rw [(h3 x (by omega)).2.2]; exact hS.2.2.2.1
    refine X_iload hB dX11_turned_52 rfl ?_
    refine X_iload_n (i := 3) hB dX11_turned_54 rfl rfl ?_
    refine X_icmp_ge (tgt := 72) hB dX11_turned_55 (by decide) (fun c55 => absurd c55 (by simp (disch := omega) only [nlit, nI_leI, nI_ltI]; omega)) (fun c55 => ?_)
    refine X_aload_n (i := 0) hB dX11_turned_58 rfl rfl ?_
    refine X_getr hB cw9 fX11_30 rfl hX.1.1 hX.1.2 hr dX11_turned_59 ?_
    refine X_iconst (v := 0) hB dX11_turned_62 (by decide) ?_
    refine X_callV hB kX11_97 cw8 hV.1.1 hV.1.2 (c_X10_tick (x + 158) hV (tkN_ k τ) h2 (b + 104 * k) false g1 (by omega) (by omega)) (by decide) (by decide) rfl rfl (Nat.le_of_ble_eq_true rfl) dX11_turned_63 (fun r63 S63 q63 => ?_)
    obtain ⟨rfl, w1, w2⟩ := q63
    refine X_iinc hB dX11_turned_66 rfl rfl (by decide) rfl ?_
    refine X_goto (tgt := 52) hB dX11_turned_69 (by decide) ?_
    refine X_lv ?_ (ih (k + 1) _ (by omega) w1 (h3.tr w2))
    · rw [nI_succ]; rfl
set_option maxRecDepth 100000 in
set_option maxHeartbeats 4000000 in
theorem c_X11_turned (x : Nat) (hX : SLay G x) (hS : SF S x) (σ : Net) (hw : worldR S (x + 6) σ) (b : Nat) (hN : wfN σ b) (hD : wdD S (x + 158)) (hnow : nNow σ ≤ 900) (hb : b + 3000 < 100000) (hbc : bcN σ) (u z a v : Int32) : C G mX11_turned 7 [.ref x, .int u, .int z, .int a, .int v] S (fun r S' => r = some (.int (aTurned σ u z a v)) ∧ chg (x + 158) (x + 310) S S' ∧ wdD S' (x + 158)) := by
  have hW := hX.2.2.2.1
  have hc8 := hN.1.1.2
  have h40 := hw.l40
  refine C.mk (lv := [some (.ref x), some (.int u), some (.int z), some (.int a), some (.int v), none]) (by decide) (Nat.le_of_ble_eq_true rfl) rfl (fun E hB => ?_)
  refine X_aload_n (i := 0) hB dX11_turned_0 rfl rfl ?_
  refine X_getr hB cw9 fX11_26 rfl hX.1.1 hX.1.2 hS.2.2.1 dX11_turned_1 ?_
  refine X_iload_n (i := 1) hB dX11_turned_4 rfl rfl ?_
  refine X_iload_n (i := 2) hB dX11_turned_5 rfl rfl ?_
  refine X_callV hB kX11_76 cw8 hW.1.1 hW.1.2 (c_X10_areTwo (x + 6) hW σ hw hc8 u z) (by decide) (by decide) rfl rfl (Nat.le_of_ble_eq_true rfl) dX11_turned_6 (fun r6 S6 q6 => ?_)
  obtain ⟨rfl, rfl⟩ := q6
  cases e9 : two σ u z with
  | none =>
    refine X_topi (y := 0) (if_pos rfl) ?_
    refine X_if_eq (tgt := 19) hB dX11_turned_9 (by decide) (fun c9 => ?_) (fun c9 => absurd rfl c9)
    refine X_iconst (v := (-1)) hB dX11_turned_19 (by decide) ?_
    refine X_iret hB rfl dX11_turned_20 ?_
    exact ⟨by unfold aTurned; rw [e9], chg.rf, hD⟩
  | some pq =>
    obtain ⟨p, q⟩ := pq
    obtain ⟨rfl, rfl, hp, hq, hpq⟩ := two_some e9
    refine X_topi (y := 1) (if_neg (fun z => by cases z)) ?_
    have hp8 : p < 8 := by omega
    have hq8 : q < 8 := by omega
    have hPp := hW.po hp8
    refine X_if_eq (tgt := 19) hB dX11_turned_9 (by decide) (fun c9 => absurd c9 (by decide)) (fun c9 => ?_)
    refine X_iload_n (i := 3) hB dX11_turned_12 rfl rfl ?_
    refine X_callS hB kX11_221 (c_X11_mayGoBy a) (by decide) (by decide) rfl rfl (Nat.le_of_ble_eq_true rfl) dX11_turned_13 (fun r13 S13 q13 => ?_)
    obtain ⟨rfl, rfl⟩ := q13
    cases e16 : inN a 7 with
    | none =>
      refine X_topi (y := 0) (if_pos rfl) ?_
      refine X_if_ne (tgt := 21) hB dX11_turned_16 (by decide) (fun c16 => absurd rfl c16) (fun c16 => ?_)
      refine X_iconst (v := (-1)) hB dX11_turned_19 (by decide) ?_
      refine X_iret hB rfl dX11_turned_20 ?_
      exact ⟨by unfold aTurned aAhead; rw [e9]; dsimp only; rw [e16], chg.rf, hD⟩
    | some t =>
      obtain ⟨ht, rfl⟩ := inN_some e16
      refine X_topi (y := 1) (if_neg (fun z => by cases z)) ?_
      refine X_if_ne (tgt := 21) hB dX11_turned_16 (by decide) (fun c16 => ?_) (fun c16 => absurd c16 (by decide))
      have hV := hX.2.2.2.2.1
      have hor : ∀ d, d < (nDa σ).length → aOr (dat σ d) < 8 := fun d hd => (hN.da hd).1.1
      refine X_aload_n (i := 0) hB dX11_turned_21 rfl rfl ?_
      refine X_getr hB cw9 fX11_30 rfl hX.1.1 hX.1.2 hS.2.2.2.1 dX11_turned_22 ?_
      refine X_aload_n (i := 0) hB dX11_turned_25 rfl rfl ?_
      refine X_getr hB cw9 fX11_26 rfl hX.1.1 hX.1.2 hS.2.2.1 dX11_turned_26 ?_
      refine X_callV hB kX11_224 cw8 hV.1.1 hV.1.2 (c_X10_copyFrom (x + 158) (x + 6) hV hW (by omega) σ hD hw hor) (by decide) (by decide) rfl rfl (Nat.le_of_ble_eq_true rfl) dX11_turned_29 (fun r29 S29 q29 => ?_)
      obtain ⟨rfl, w1, w2⟩ := q29
      have s1 : SF S29 x := hS.chg w2 (by omega) (by omega) (by omega)
      refine X_aload_n (i := 0) hB dX11_turned_32 rfl rfl ?_
      refine X_getr hB cw9 fX11_30 rfl hX.1.1 hX.1.2 s1.2.2.2.1 dX11_turned_33 ?_
      refine X_dup hB dX11_turned_36 rfl ?_
      refine X_getj hB cw8 fX11_80 rfl hV.1.1 hV.1.2 dX11_turned_37 ?_
      refine X_iload_n (i := 1) hB dX11_turned_40 rfl rfl ?_
      refine X_iload_n (i := 2) hB dX11_turned_41 rfl rfl ?_
      refine X_callS hB kX11_90 (c_X4_both hp8 hq8) (by decide) (by decide) rfl rfl (Nat.le_of_ble_eq_true rfl) dX11_turned_42 (fun r42 S42 q42 => ?_)
      obtain ⟨rfl, rfl⟩ := q42
      refine X_lxor hB dX11_turned_45 ?_
      refine X_putj hB cw8 fX11_80 rfl rfl hV.1.1 hV.1.2 dX11_turned_46 ?_
      refine X_iconst (v := 0) hB dX11_turned_49 (by decide) ?_
      refine X_istore hB dX11_turned_50 (by decide) rfl ?_
      have w3 := worldR_up (x := p) (y := q) (u := !nUp σ p q) w1 (lkR_turn w1.2.1.2.2.2.2 (upS hN) hp8 hq8)
      have w4 := (w2.tr (wch_J (k := 7) (v := S29.2.1 (x + 158) 7 ^^^ bJ p q) w1).1)
      have hNu : wfN (uUp σ p q (!nUp σ p q)) b := hN.uup hp hq hpq
      refine X_lv (lv' := [some (.ref x), some (.int (nI p)), some (.int (nI q)), some (.int (nI t)), some (.int v), some (.int (nI 0))]) (by rw [nI_0]; rfl) (l_X11_turned (S := S) hB x hX hS (uUp σ p q (!nUp σ p q)) b hNu t (by omega) (show nNow σ + t ≤ 910 by omega) (by omega) p q v (fun S3 g1 g2 => ?_) t 0 _ (by omega) w3 w4)
      obtain ⟨q1, q2, q3, q4, q5⟩ := hNu.tks t (show nNow σ + t ≤ 1000 by omega) (by omega)
      have qb := (show bcN (uUp σ p q (!nUp σ p q)) from hbc).tks hNu t (show nNow σ + t ≤ 1000 by omega) (by omega)
      refine X_aload_n (i := 0) hB dX11_turned_72 rfl rfl ?_
      refine X_getr hB cw9 fX11_30 rfl hX.1.1 hX.1.2 (show S3.2.2 x 3 = some (x + 158) by rw [(g2 x (by omega)).2.2]; exact hS.2.2.2.1) dX11_turned_73 ?_
      refine X_iload hB dX11_turned_76 rfl ?_
      refine X_callV hB kX11_228 cw8 hV.1.1 hV.1.2 (c_X10_tellCount (x + 158) hV (tkN_ t (uUp σ p q (!nUp σ p q))) g1 (b + 104 * t) q1 qb v) (by decide) (by decide) rfl rfl (Nat.le_of_ble_eq_true rfl) dX11_turned_78 (fun r78 S78 q78 => ?_)
      obtain ⟨rfl, rfl⟩ := q78
      refine X_iret hB rfl dX11_turned_81 ?_
      refine ⟨?_, g2, g1.D⟩
      unfold aTurned aAhead
      rw [e9]
      dsimp only
      rw [e16]
      unfold cntW
      cases inN v 13 <;> rfl
set_option maxRecDepth 100000 in
set_option maxHeartbeats 4000000 in
theorem l_X11_sent {E : Ev} (hB : Bd G E mX11_sent) {Q : Option Value → St → Prop} (x : Nat) (hX : SLay G x) (hS : SF S x) (τ : Net) (b : Nat) (hN : wfN τ b) (t : Nat) (ht : t ≤ 6) (hnow : nNow τ + t ≤ 910) (hb : b + 700 < 100000) (u z v nn : Int32) (kk : ∀ S1, worldR S1 (x + 158) (tkN_ t τ) → chg (x + 158) (x + 158 + 152) S S1 → X G E mX11_sent 7 Q S1 55 [some (.ref x), some (.int u), some (.int z), some (.int (nI t)), some (.int v), some (.int nn), some (.int (nI t))] []) :
    ∀ (j k : Nat) (S1 : St), k + j = t → worldR S1 (x + 158) (tkN_ k τ) → chg (x + 158) (x + 158 + 152) S S1 → X G E mX11_sent 7 Q S1 35 [some (.ref x), some (.int u), some (.int z), some (.int (nI t)), some (.int v), some (.int nn), some (.int (nI k))] [] := by
  have hV := hX.2.2.2.2.1
  intro j
  induction j with
  | zero =>
    intro k S1 h1 h2 h3
    have e9 : k = t := by omega
    subst e9
    refine X_iload hB dX11_sent_35 rfl ?_
    refine X_iload_n (i := 3) hB dX11_sent_37 rfl rfl ?_
    refine X_icmp_ge (tgt := 55) hB dX11_sent_38 (by decide) (fun c38 => ?_) (fun c38 => absurd c38 (by simp (disch := omega) only [nlit, nI_leI, nI_ltI]; omega))
    exact kk S1 h2 h3
  | succ j ih =>
    intro k S1 h1 h2 h3
    obtain ⟨g1, g2, g3, g4, g5⟩ := hN.tks k (by omega) (by omega)
    have hr : S1.2.2 x 3 = some (x + 158) := by rw [(h3 x (by omega)).2.2]; exact hS.2.2.2.1
    refine X_iload hB dX11_sent_35 rfl ?_
    refine X_iload_n (i := 3) hB dX11_sent_37 rfl rfl ?_
    refine X_icmp_ge (tgt := 55) hB dX11_sent_38 (by decide) (fun c38 => absurd c38 (by simp (disch := omega) only [nlit, nI_leI, nI_ltI]; omega)) (fun c38 => ?_)
    refine X_aload_n (i := 0) hB dX11_sent_41 rfl rfl ?_
    refine X_getr hB cw9 fX11_30 rfl hX.1.1 hX.1.2 hr dX11_sent_42 ?_
    refine X_iconst (v := 0) hB dX11_sent_45 (by decide) ?_
    refine X_callV hB kX11_97 cw8 hV.1.1 hV.1.2 (c_X10_tick (x + 158) hV (tkN_ k τ) h2 (b + 104 * k) false g1 (by omega) (by omega)) (by decide) (by decide) rfl rfl (Nat.le_of_ble_eq_true rfl) dX11_sent_46 (fun r46 S46 q46 => ?_)
    obtain ⟨rfl, w1, w2⟩ := q46
    refine X_iinc hB dX11_sent_49 rfl rfl (by decide) rfl ?_
    refine X_goto (tgt := 35) hB dX11_sent_52 (by decide) ?_
    refine X_lv ?_ (ih (k + 1) _ (by omega) w1 (h3.tr w2))
    · rw [nI_succ]; rfl
set_option maxRecDepth 100000 in
set_option maxHeartbeats 4000000 in
theorem c_X11_sent (x : Nat) (hX : SLay G x) (hS : SF S x) (σ : Net) (hw : worldR S (x + 6) σ) (b : Nat) (hN : wfN σ b) (hD : wdD S (x + 158)) (hnow : nNow σ ≤ 900) (hb : b + 3000 < 100000) (u z a v : Int32) : C G mX11_sent 7 [.ref x, .int u, .int z, .int a, .int v] S (fun r S' => r = some (.int (aSent σ u z a v)) ∧ chg (x + 158) (x + 310) S S' ∧ wdD S' (x + 158)) := by
  have hW := hX.2.2.2.1
  have hc8 := hN.1.1.2
  have h40 := hw.l40
  refine C.mk (lv := [some (.ref x), some (.int u), some (.int z), some (.int a), some (.int v), none, none]) (by decide) (Nat.le_of_ble_eq_true rfl) rfl (fun E hB => ?_)
  refine X_iload_n (i := 3) hB dX11_sent_0 rfl rfl ?_
  refine X_callS hB kX11_221 (c_X11_mayGoBy a) (by decide) (by decide) rfl rfl (Nat.le_of_ble_eq_true rfl) dX11_sent_1 (fun r1 S1 q1 => ?_)
  obtain ⟨rfl, rfl⟩ := q1
  cases e4 : inN a 7 with
  | none =>
    refine X_topi (y := 0) (if_pos rfl) ?_
    refine X_if_ne (tgt := 10) hB dX11_sent_4 (by decide) (fun c4 => absurd rfl c4) (fun c4 => ?_)
    refine X_bipush (v := (-2)) hB dX11_sent_7 (by decide) ?_
    refine X_iret hB rfl dX11_sent_9 ?_
    refine ⟨?_, chg.rf, hD⟩
    unfold aSent
    rw [e4]
    cases two σ u z with
    | none => rfl
    | some pq =>
      dsimp only
      split <;> rfl
  | some t =>
    obtain ⟨ht, rfl⟩ := inN_some e4
    refine X_topi (y := 1) (if_neg (fun z => by cases z)) ?_
    refine X_if_ne (tgt := 10) hB dX11_sent_4 (by decide) (fun c4 => ?_) (fun c4 => absurd c4 (by decide))
    have hV := hX.2.2.2.2.1
    have hor : ∀ d, d < (nDa σ).length → aOr (dat σ d) < 8 := fun d hd => (hN.da hd).1.1
    refine X_aload_n (i := 0) hB dX11_sent_10 rfl rfl ?_
    refine X_getr hB cw9 fX11_30 rfl hX.1.1 hX.1.2 hS.2.2.2.1 dX11_sent_11 ?_
    refine X_aload_n (i := 0) hB dX11_sent_14 rfl rfl ?_
    refine X_getr hB cw9 fX11_26 rfl hX.1.1 hX.1.2 hS.2.2.1 dX11_sent_15 ?_
    refine X_callV hB kX11_224 cw8 hV.1.1 hV.1.2 (c_X10_copyFrom (x + 158) (x + 6) hV hW (by omega) σ hD hw hor) (by decide) (by decide) rfl rfl (Nat.le_of_ble_eq_true rfl) dX11_sent_18 (fun r18 S18 q18 => ?_)
    obtain ⟨rfl, w1, w2⟩ := q18
    have s1 : SF S18 x := hS.chg w2 (by omega) (by omega) (by omega)
    refine X_aload_n (i := 0) hB dX11_sent_21 rfl rfl ?_
    refine X_getr hB cw9 fX11_30 rfl hX.1.1 hX.1.2 s1.2.2.2.1 dX11_sent_22 ?_
    refine X_iload_n (i := 1) hB dX11_sent_25 rfl rfl ?_
    refine X_iload_n (i := 2) hB dX11_sent_26 rfl rfl ?_
    refine X_callV hB kX11_72 cw8 hV.1.1 hV.1.2 (c_X10_bring (x + 158) hV σ w1 b hN (by omega) u z) (by decide) (by decide) rfl rfl (Nat.le_of_ble_eq_true rfl) dX11_sent_27 (fun r27 S27 q27 => ?_)
    obtain ⟨rfl, w3, w4⟩ := q27
    obtain ⟨hNs, hns⟩ := send_wf (u := u) (v := z) hN (show b + 1 < 100000 by omega)
    refine X_istore hB dX11_sent_30 (by decide) rfl ?_
    refine X_iconst (v := 0) hB dX11_sent_32 (by decide) ?_
    refine X_istore hB dX11_sent_33 (by decide) rfl ?_
    refine X_lv (lv' := [some (.ref x), some (.int u), some (.int z), some (.int (nI t)), some (.int v), some (.int (aSend σ u z).1), some (.int (nI 0))]) (by rw [nI_0]; rfl) (l_X11_sent (S := S) hB x hX hS (aSend σ u z).2 (b + 1) hNs t (by omega) (by rw [hns]; omega) (by omega) u z v (aSend σ u z).1 (fun S3 g1 g2 => ?_) t 0 _ (by omega) w3 (w2.tr w4.1))
    obtain ⟨q1, q2, q3, q4, q5⟩ := hNs.tks t (by rw [hns]; omega) (by omega)
    refine X_aload_n (i := 0) hB dX11_sent_55 rfl rfl ?_
    refine X_getr hB cw9 fX11_30 rfl hX.1.1 hX.1.2 (show S3.2.2 x 3 = some (x + 158) by rw [(g2 x (by omega)).2.2]; exact hS.2.2.2.1) dX11_sent_56 ?_
    refine X_iload hB dX11_sent_59 rfl ?_
    refine X_iload hB dX11_sent_61 rfl ?_
    refine X_callV hB kX11_160 cw8 hV.1.1 hV.1.2 (c_X10_tellData (x + 158) hV (tkN_ t (aSend σ u z).2) g1 (b + 1 + 104 * t) q1 _ v) (by decide) (by decide) rfl rfl (Nat.le_of_ble_eq_true rfl) dX11_sent_63 (fun r63 S63 q63 => ?_)
    obtain ⟨rfl, rfl⟩ := q63
    refine X_iret hB rfl dX11_sent_66 ?_
    refine ⟨?_, g2, g1.D⟩
    clear g1 g2 q1 w3 w4
    unfold aSend at q5 ⊢
    unfold aSent
    rw [e4]
    cases e : two σ u z with
    | none =>
      rw [e] at q5
      have q5 : (nDa (tkN_ t σ)).length = (nDa σ).length := q5
      exact congrArg (fun y => some (Value.int y)) (show aData (tkN_ t σ) (-1) v = -2 by unfold aData; rw [inN_no (by have h1 := (hN.2.1).2; omega) (Or.inl (by decide))])
    | some pq =>
      rw [e] at q5
      dsimp only at q5 ⊢
      by_cases hl : (nDa σ).length < 40
      · rw [if_pos hl] at q5 ⊢
        dsimp only at q5 ⊢
        rw [if_pos hl]
        rw [come_keeps.2.2] at q5
        exact congrArg (fun y => some (Value.int y)) (show aData _ (nI (nDa σ).length) v = _ by unfold aData; rw [inN_nI (by omega) (by omega)])
      · rw [if_neg hl] at q5 ⊢
        dsimp only at q5 ⊢
        rw [if_neg hl]
        exact congrArg (fun y => some (Value.int y)) (show aData _ (-1) v = -2 by unfold aData; rw [inN_no (by have h1 := (hN.2.1).2; omega) (Or.inl (by decide))])
set_option maxRecDepth 100000 in
set_option maxHeartbeats 4000000 in
theorem l_X11_quiet {E : Ev} (hB : Bd G E mX11_quiet) {Q : Option Value → St → Prop} (x : Nat) (hX : SLay G x) (hS : SF S x) (σ : Net) (b : Nat) (hN : wfN σ b) (hbc : bcN σ) (hnow : nNow σ ≤ 900) (hb : b + 3000 < 100000) (hw0 : S.1 (x + 6) 6 = nI (nNow σ)) (kk : ∀ S1 τ, worldR S1 (x + 158) τ → chg (x + 158) (x + 310) S S1 → Q (some (.int (aQuiet σ))) S1) :
    ∀ (j k : Nat) (S1 : St), k + j = 12 → worldR S1 (x + 158) (tkN_ k σ) → chg (x + 158) (x + 310) S S1 → quN (j + 1) k (tkN_ k σ) = aQuiet σ → X G E mX11_quiet 7 Q S1 13 [some (.ref x), some (.int (nI k))] [] := by
  have hV := hX.2.2.2.2.1
  have hW := hX.2.2.2.1
  intro j
  induction j with
  | zero =>
    intro k S1 h1 h2 h3 h4
    have e9 : k = 12 := by omega
    subst e9
    obtain ⟨g1, g2, g3, g4, g5⟩ := hN.tks 12 (by omega) (by omega)
    have qb := hbc.tks hN 12 (by omega) (by omega)
    have hr : S1.2.2 x 3 = some (x + 158) := by rw [(h3 x (by omega)).2.2]; exact hS.2.2.2.1
    have hr6 : S1.2.2 x 2 = some (x + 6) := by rw [(h3 x (by omega)).2.2]; exact hS.2.2.1
    have h4 : (if quB (tkN_ 12 σ) then nI 12 else -1) = aQuiet σ := h4
    refine X_iload_n (i := 1) hB dX11_quiet_13 rfl rfl ?_
    refine X_bipush (v := 12) hB dX11_quiet_14 (by decide) ?_
    refine X_icmp_ge (tgt := 43) hB dX11_quiet_16 (by decide) (fun c16 => ?_) (fun c16 => absurd c16 (by simp (disch := omega) only [nlit, nI_leI, nI_ltI]; omega))
    refine X_aload_n (i := 0) hB dX11_quiet_43 rfl rfl ?_
    refine X_getr hB cw9 fX11_30 rfl hX.1.1 hX.1.2 hr dX11_quiet_44 ?_
    refine X_callV hB kX11_238 cw8 hV.1.1 hV.1.2 (c_X10_isQuiet (x + 158) hV (tkN_ 12 σ) h2 (b + 104 * 12) g1 qb) (by decide) (by decide) rfl rfl (Nat.le_of_ble_eq_true rfl) dX11_quiet_47 (fun r47 S47 q47 => ?_)
    obtain ⟨rfl, rfl⟩ := q47
    refine X_if_eq (tgt := 71) hB dX11_quiet_50 (by decide) (fun c50 => ?_) (fun c50 => ?_)
    · refine X_iconst (v := (-1)) hB dX11_quiet_71 (by decide) ?_
      refine X_iret hB rfl dX11_quiet_72 ?_
      rw [if_neg (if1n c50)] at h4
      rw [h4]
      exact kk S1 _ h2 h3
    · refine X_aload_n (i := 0) hB dX11_quiet_53 rfl rfl ?_
      refine X_getr hB cw9 fX11_30 rfl hX.1.1 hX.1.2 hr dX11_quiet_54 ?_
      refine X_geti hB cw8 fX11_94 rfl hV.1.1 hV.1.2 dX11_quiet_57 ?_
      refine X_topi (y := nI (nNow σ + 12)) (h2.2.1.2.2.2.1.trans (congrArg nI g3)) ?_
      refine X_aload_n (i := 0) hB dX11_quiet_60 rfl rfl ?_
      refine X_getr hB cw9 fX11_26 rfl hX.1.1 hX.1.2 hr6 dX11_quiet_61 ?_
      refine X_geti hB cw8 fX11_94 rfl hW.1.1 hW.1.2 dX11_quiet_64 ?_
      refine X_topi (y := nI (nNow σ)) ((congrFun (h3 _ (by omega)).1 6).trans hw0) ?_
      refine X_isub hB dX11_quiet_67 ?_
      refine X_goto (tgt := 72) hB dX11_quiet_68 (by decide) ?_
      refine X_iret hB rfl dX11_quiet_72 ?_
      rw [if_pos (if1 c50)] at h4
      rw [nI_sub (by omega), show nNow σ + 12 - nNow σ = 12 by omega, h4]
      exact kk S1 _ h2 h3
  | succ j ih =>
    intro k S1 h1 h2 h3 h4
    obtain ⟨g1, g2, g3, g4, g5⟩ := hN.tks k (by omega) (by omega)
    have qb := hbc.tks hN k (by omega) (by omega)
    have hr : S1.2.2 x 3 = some (x + 158) := by rw [(h3 x (by omega)).2.2]; exact hS.2.2.2.1
    have hr6 : S1.2.2 x 2 = some (x + 6) := by rw [(h3 x (by omega)).2.2]; exact hS.2.2.1
    have h4 : (if quB (tkN_ k σ) then nI k else quN (j + 1) (k + 1) (tickN (tkN_ k σ))) = aQuiet σ := h4
    refine X_iload_n (i := 1) hB dX11_quiet_13 rfl rfl ?_
    refine X_bipush (v := 12) hB dX11_quiet_14 (by decide) ?_
    refine X_icmp_ge (tgt := 43) hB dX11_quiet_16 (by decide) (fun c16 => absurd c16 (by simp (disch := omega) only [nlit, nI_leI, nI_ltI]; omega)) (fun c16 => ?_)
    refine X_aload_n (i := 0) hB dX11_quiet_19 rfl rfl ?_
    refine X_getr hB cw9 fX11_30 rfl hX.1.1 hX.1.2 hr dX11_quiet_20 ?_
    refine X_callV hB kX11_238 cw8 hV.1.1 hV.1.2 (c_X10_isQuiet (x + 158) hV (tkN_ k σ) h2 (b + 104 * k) g1 qb) (by decide) (by decide) rfl rfl (Nat.le_of_ble_eq_true rfl) dX11_quiet_23 (fun r23 S23 q23 => ?_)
    obtain ⟨rfl, rfl⟩ := q23
    refine X_if_ne (tgt := 43) hB dX11_quiet_26 (by decide) (fun c26 => ?_) (fun c26 => ?_)
    · refine X_aload_n (i := 0) hB dX11_quiet_43 rfl rfl ?_
      refine X_getr hB cw9 fX11_30 rfl hX.1.1 hX.1.2 hr dX11_quiet_44 ?_
      refine X_callV hB kX11_238 cw8 hV.1.1 hV.1.2 (c_X10_isQuiet (x + 158) hV (tkN_ k σ) h2 (b + 104 * k) g1 qb) (by decide) (by decide) rfl rfl (Nat.le_of_ble_eq_true rfl) dX11_quiet_47 (fun r47 S47 q47 => ?_)
      obtain ⟨rfl, rfl⟩ := q47
      refine X_if_eq (tgt := 71) hB dX11_quiet_50 (by decide) (fun c50 => absurd (if1 c26) (if1n c50)) (fun c50 => ?_)
      refine X_aload_n (i := 0) hB dX11_quiet_53 rfl rfl ?_
      refine X_getr hB cw9 fX11_30 rfl hX.1.1 hX.1.2 hr dX11_quiet_54 ?_
      refine X_geti hB cw8 fX11_94 rfl hV.1.1 hV.1.2 dX11_quiet_57 ?_
      refine X_topi (y := nI (nNow σ + k)) (h2.2.1.2.2.2.1.trans (congrArg nI g3)) ?_
      refine X_aload_n (i := 0) hB dX11_quiet_60 rfl rfl ?_
      refine X_getr hB cw9 fX11_26 rfl hX.1.1 hX.1.2 hr6 dX11_quiet_61 ?_
      refine X_geti hB cw8 fX11_94 rfl hW.1.1 hW.1.2 dX11_quiet_64 ?_
      refine X_topi (y := nI (nNow σ)) ((congrFun (h3 _ (by omega)).1 6).trans hw0) ?_
      refine X_isub hB dX11_quiet_67 ?_
      refine X_goto (tgt := 72) hB dX11_quiet_68 (by decide) ?_
      refine X_iret hB rfl dX11_quiet_72 ?_
      rw [if_pos (if1 c26)] at h4
      rw [nI_sub (by omega), show nNow σ + k - nNow σ = k by omega, h4]
      exact kk S1 _ h2 h3
    · refine X_aload_n (i := 0) hB dX11_quiet_29 rfl rfl ?_
      refine X_getr hB cw9 fX11_30 rfl hX.1.1 hX.1.2 hr dX11_quiet_30 ?_
      refine X_iconst (v := 0) hB dX11_quiet_33 (by decide) ?_
      refine X_callV hB kX11_97 cw8 hV.1.1 hV.1.2 (c_X10_tick (x + 158) hV (tkN_ k σ) h2 (b + 104 * k) false g1 (by omega) (by omega)) (by decide) (by decide) rfl rfl (Nat.le_of_ble_eq_true rfl) dX11_quiet_34 (fun r34 S34 q34 => ?_)
      obtain ⟨rfl, w1, w2⟩ := q34
      refine X_iinc hB dX11_quiet_37 rfl rfl (by decide) rfl ?_
      refine X_goto (tgt := 13) hB dX11_quiet_40 (by decide) ?_
      rw [if_neg (if1n c26)] at h4
      refine X_lv ?_ (ih (k + 1) _ (by omega) w1 (h3.tr w2) h4)
      · rw [nI_succ]; rfl
set_option maxRecDepth 100000 in
set_option maxHeartbeats 4000000 in
theorem c_X11_quiet (x : Nat) (hX : SLay G x) (hS : SF S x) (σ : Net) (hw : worldR S (x + 6) σ) (b : Nat) (hN : wfN σ b) (hD : wdD S (x + 158)) (hnow : nNow σ ≤ 900) (hb : b + 3000 < 100000) (hbc : bcN σ) : C G mX11_quiet 7 [.ref x] S (fun r S' => r = some (.int (aQuiet σ)) ∧ chg (x + 158) (x + 310) S S' ∧ wdD S' (x + 158)) := by
  have hW := hX.2.2.2.1
  have hc8 := hN.1.1.2
  have h40 := hw.l40
  refine C.mk (lv := [some (.ref x), none]) (by decide) (Nat.le_of_ble_eq_true rfl) rfl (fun E hB => ?_)
  refine X_aload_n (i := 0) hB dX11_quiet_0 rfl rfl ?_
  have hV := hX.2.2.2.2.1
  have hor : ∀ d, d < (nDa σ).length → aOr (dat σ d) < 8 := fun d hd => (hN.da hd).1.1
  refine X_getr hB cw9 fX11_30 rfl hX.1.1 hX.1.2 hS.2.2.2.1 dX11_quiet_1 ?_
  refine X_aload_n (i := 0) hB dX11_quiet_4 rfl rfl ?_
  refine X_getr hB cw9 fX11_26 rfl hX.1.1 hX.1.2 hS.2.2.1 dX11_quiet_5 ?_
  refine X_callV hB kX11_224 cw8 hV.1.1 hV.1.2 (c_X10_copyFrom (x + 158) (x + 6) hV hW (by omega) σ hD hw hor) (by decide) (by decide) rfl rfl (Nat.le_of_ble_eq_true rfl) dX11_quiet_8 (fun r8 S8 q8 => ?_)
  obtain ⟨rfl, w1, w2⟩ := q8
  have s1 : SF S8 x := hS.chg w2 (by omega) (by omega) (by omega)
  refine X_iconst (v := 0) hB dX11_quiet_11 (by decide) ?_
  refine X_istore_n (i := 1) hB dX11_quiet_12 rfl (by decide) rfl ?_
  refine X_lv (lv' := [some (.ref x), some (.int (nI 0))]) (by rw [nI_0]; rfl) (l_X11_quiet (S := S) hB x hX hS σ b hN hbc hnow hb hw.2.1.2.2.2.1 (fun S3 τ g1 g2 => ⟨rfl, g2, g1.D⟩) 12 0 S8 (by omega) w1 w2 rfl)
set_option maxRecDepth 100000 in
set_option maxHeartbeats 4000000 in
theorem l_X11_flood {E : Ev} (hB : Bd G E mX11_flood) {Q : Option Value → St → Prop} (x : Nat) (hX : SLay G x) (hS : SF S x) (p q : Nat) (rp : Bool) (fin : Net) (kk : ∀ S1 (v : Int32), worldR S1 (x + 158) fin → chg (x + 158) (x + 310) S S1 → X G E mX11_flood 7 Q S1 83 [some (.ref x), some (.int (nI p)), some (.int (nI q)), some (.int (if rp then 1 else 0)), some (.int v)] []) :
    ∀ (j k b : Nat) (τ : Net) (S1 : St), k + j = 8 → wfN τ b → nNow τ + j ≤ 1000 → b + 104 * (j + 1) < 100000 → worldR S1 (x + 158) τ → chg (x + 158) (x + 310) S S1 → flA j τ = fin → X G E mX11_flood 7 Q S1 48 [some (.ref x), some (.int (nI p)), some (.int (nI q)), some (.int (if rp then 1 else 0)), some (.int (nI k))] [] := by
  have hV := hX.2.2.2.2.1
  intro j
  induction j with
  | zero =>
    intro k b τ S1 h1 hN hn hb h2 h3 h4
    have e9 : k = 8 := by omega
    subst e9
    subst h4
    refine X_iload hB dX11_flood_48 rfl ?_
    refine X_bipush (v := 8) hB dX11_flood_50 (by decide) ?_
    refine X_icmp_ge (tgt := 83) hB dX11_flood_52 (by decide) (fun c52 => ?_) (fun c52 => absurd c52 (by simp (disch := omega) only [nlit, nI_leI, nI_ltI]; omega))
    exact kk S1 _ h2 h3
  | succ j ih =>
    intro k b τ S1 h1 hN hn hb h2 h3 h4
    obtain ⟨g1, g2, g3, g4, g5⟩ := hN.aal (by omega) (by omega)
    have hr : S1.2.2 x 3 = some (x + 158) := by rw [(h3 x (by omega)).2.2]; exact hS.2.2.2.1
    have h4 : (if reqB τ then flA j (arrAll τ) else τ) = fin := h4
    refine X_iload hB dX11_flood_48 rfl ?_
    refine X_bipush (v := 8) hB dX11_flood_50 (by decide) ?_
    refine X_icmp_ge (tgt := 83) hB dX11_flood_52 (by decide) (fun c52 => absurd c52 (by simp (disch := omega) only [nlit, nI_leI, nI_ltI]; omega)) (fun c52 => ?_)
    refine X_aload_n (i := 0) hB dX11_flood_55 rfl rfl ?_
    refine X_getr hB cw9 fX11_30 rfl hX.1.1 hX.1.2 hr dX11_flood_56 ?_
    refine X_getr hB cw8 fX11_104 rfl hV.1.1 hV.1.2 h2.1.2.2.1 dX11_flood_59 ?_
    refine X_iconst (v := 1) hB dX11_flood_62 (by decide) ?_
    refine X_callV hB kX11_235 cw0 hV.2.2.2.1.1 hV.2.2.2.1.2 (c_X0_hasKind (x + 158) hV τ h2 1 (by decide) (fun f hf => (hN.2.2.2.1 f hf).1.1)) (by decide) (by decide) rfl rfl (Nat.le_of_ble_eq_true rfl) dX11_flood_63 (fun r63 S63 q63 => ?_)
    obtain ⟨rfl, rfl⟩ := q63
    refine X_if_eq (tgt := 83) hB dX11_flood_66 (by decide) (fun c66 => ?_) (fun c66 => ?_)
    · rw [if_neg (show ¬ reqB τ = true from if1n c66)] at h4
      subst h4
      exact kk S1 _ h2 h3
    · refine X_aload_n (i := 0) hB dX11_flood_69 rfl rfl ?_
      refine X_getr hB cw9 fX11_30 rfl hX.1.1 hX.1.2 hr dX11_flood_70 ?_
      refine X_iconst (v := 1) hB dX11_flood_73 (by decide) ?_
      refine X_callV hB kX11_97 cw8 hV.1.1 hV.1.2 (c_X10_tick (x + 158) hV τ h2 b true hN (by omega) (by omega)) (by decide) (by decide) rfl rfl (Nat.le_of_ble_eq_true rfl) dX11_flood_74 (fun r74 S74 q74 => ?_)
      obtain ⟨rfl, w1, w2⟩ := q74
      refine X_iinc hB dX11_flood_77 rfl rfl (by decide) rfl ?_
      refine X_goto (tgt := 48) hB dX11_flood_80 (by decide) ?_
      rw [if_pos (show reqB τ = true from if1 c66)] at h4
      refine X_lv ?_ (ih (k + 1) (b + 40) (arrAll τ) _ (by omega) g1 (by omega) (by omega) w1 (h3.tr w2) h4)
      · rw [nI_succ]; rfl
set_option maxRecDepth 100000 in
set_option maxHeartbeats 4000000 in
theorem c_X11_flood (x : Nat) (hX : SLay G x) (hS : SF S x) (σ : Net) (hw : worldR S (x + 6) σ) (b : Nat) (hN : wfN σ b) (hD : wdD S (x + 158)) (hnow : nNow σ ≤ 900) (hb : b + 3000 < 100000) (u z : Int32) (rp : Bool) : C G mX11_flood 7 [.ref x, .int u, .int z, .int (if rp then 1 else 0)] S (fun r S' => r = some (.int (aFlood σ u z rp)) ∧ chg (x + 158) (x + 310) S S' ∧ wdD S' (x + 158)) := by
  have hW := hX.2.2.2.1
  have hc8 := hN.1.1.2
  have h40 := hw.l40
  refine C.mk (lv := [some (.ref x), some (.int u), some (.int z), some (.int (if rp then 1 else 0)), none]) (by decide) (Nat.le_of_ble_eq_true rfl) rfl (fun E hB => ?_)
  refine X_aload_n (i := 0) hB dX11_flood_0 rfl rfl ?_
  refine X_getr hB cw9 fX11_26 rfl hX.1.1 hX.1.2 hS.2.2.1 dX11_flood_1 ?_
  refine X_iload_n (i := 1) hB dX11_flood_4 rfl rfl ?_
  refine X_iload_n (i := 2) hB dX11_flood_5 rfl rfl ?_
  refine X_callV hB kX11_76 cw8 hW.1.1 hW.1.2 (c_X10_areTwo (x + 6) hW σ hw hc8 u z) (by decide) (by decide) rfl rfl (Nat.le_of_ble_eq_true rfl) dX11_flood_6 (fun r6 S6 q6 => ?_)
  obtain ⟨rfl, rfl⟩ := q6
  cases e9 : two σ u z with
  | none =>
    refine X_topi (y := 0) (if_pos rfl) ?_
    refine X_if_ne (tgt := 14) hB dX11_flood_9 (by decide) (fun c9 => absurd rfl c9) (fun c9 => ?_)
    refine X_iconst (v := (-1)) hB dX11_flood_12 (by decide) ?_
    refine X_iret hB rfl dX11_flood_13 ?_
    exact ⟨by unfold aFlood; rw [e9], chg.rf, hD⟩
  | some pq =>
    obtain ⟨p, q⟩ := pq
    obtain ⟨rfl, rfl, hp, hq, hpq⟩ := two_some e9
    refine X_topi (y := 1) (if_neg (fun z => by cases z)) ?_
    have hp8 : p < 8 := by omega
    have hq8 : q < 8 := by omega
    have hPp := hW.po hp8
    refine X_if_ne (tgt := 14) hB dX11_flood_9 (by decide) (fun c9 => ?_) (fun c9 => absurd c9 (by decide))
    have hV := hX.2.2.2.2.1
    have hor : ∀ d, d < (nDa σ).length → aOr (dat σ d) < 8 := fun d hd => (hN.da hd).1.1
    refine X_aload_n (i := 0) hB dX11_flood_14 rfl rfl ?_
    refine X_getr hB cw9 fX11_30 rfl hX.1.1 hX.1.2 hS.2.2.2.1 dX11_flood_15 ?_
    refine X_aload_n (i := 0) hB dX11_flood_18 rfl rfl ?_
    refine X_getr hB cw9 fX11_26 rfl hX.1.1 hX.1.2 hS.2.2.1 dX11_flood_19 ?_
    refine X_callV hB kX11_224 cw8 hV.1.1 hV.1.2 (c_X10_copyFrom (x + 158) (x + 6) hV hW (by omega) σ hD hw hor) (by decide) (by decide) rfl rfl (Nat.le_of_ble_eq_true rfl) dX11_flood_22 (fun r22 S22 q22 => ?_)
    obtain ⟨rfl, w1, w2⟩ := q22
    have s1 : SF S22 x := hS.chg w2 (by omega) (by omega) (by omega)
    refine X_aload_n (i := 0) hB dX11_flood_25 rfl rfl ?_
    refine X_getr hB cw9 fX11_30 rfl hX.1.1 hX.1.2 s1.2.2.2.1 dX11_flood_26 ?_
    refine X_getr hB cw8 fX11_104 rfl hV.1.1 hV.1.2 w1.1.2.2.1 dX11_flood_29 ?_
    refine X_iconst (v := 0) hB dX11_flood_32 (by decide) ?_
    refine X_puti hB cw0 fX11_108 rfl rfl hV.2.2.2.1.1 hV.2.2.2.1.2 dX11_flood_33 ?_
    obtain ⟨w3, w4⟩ := worldR_air0 w1
    have s2 := s1.chg w4.1 (by omega) (by omega) (by omega)
    refine X_aload_n (i := 0) hB dX11_flood_36 rfl rfl ?_
    refine X_getr hB cw9 fX11_30 rfl hX.1.1 hX.1.2 s2.2.2.2.1 dX11_flood_37 ?_
    refine X_iload_n (i := 1) hB dX11_flood_40 rfl rfl ?_
    refine X_iload_n (i := 2) hB dX11_flood_41 rfl rfl ?_
    refine X_callV hB kX11_231 cw8 hV.1.1 hV.1.2 (c_X10_ask (x + 158) hV (uAir σ []) w3 p q hp hq hc8) (by decide) (by decide) rfl rfl (Nat.le_of_ble_eq_true rfl) dX11_flood_42 (fun r42 S42 q42 => ?_)
    obtain ⟨rfl, w5, w6⟩ := q42
    refine X_iconst (v := 0) hB dX11_flood_45 (by decide) ?_
    refine X_istore hB dX11_flood_46 (by decide) rfl ?_
    have hN0 : wfN (fl0 σ p q) (b + 1) := hN.fl hp8 hq8 (by omega)
    have hn0 : nNow (fl0 σ p q) = nNow σ := (geN.as (σ := uAir σ []) (n := p) (to := q)).2.1
    have hf8 := flA_8 (b := b + 1) hN0 (by rw [hn0]; exact hnow) (by omega)
    refine X_lv (lv' := [some (.ref x), some (.int (nI p)), some (.int (nI q)), some (.int (if rp then 1 else 0)), some (.int (nI 0))]) (by rw [nI_0]; rfl) (l_X11_flood (S := S) hB x hX hS p q rp (flA 20 (fl0 σ p q)) (fun S3 v3 g1 g2 => ?_) 8 0 (b + 1) (fl0 σ p q) S42 (by omega) hN0 (by rw [hn0]; omega) (by omega) w5 ((w2.tr w4.1).tr w6.1) hf8.symm)
    have hr : S3.2.2 x 3 = some (x + 158) := by rw [(g2 x (by omega)).2.2]; exact hS.2.2.2.1
    have hr6 : S3.2.2 x 2 = some (x + 6) := by rw [(g2 x (by omega)).2.2]; exact hS.2.2.1
    have w6' : worldR S3 (x + 6) σ := hw.chg g2 (by omega)
    refine X_iload_n (i := 3) hB dX11_flood_83 rfl rfl ?_
    refine X_if_eq (tgt := 91) hB dX11_flood_84 (by decide) (fun c84 => ?_) (fun c84 => ?_)
    · refine X_iconst (v := 1) hB dX11_flood_91 (by decide) ?_
      have er : rp = false := by
        cases rp
        · first | rfl | exact absurd rfl c84
        · first | rfl | exact absurd c84 (by decide)
      subst er
      refine X_istore hB dX11_flood_92 (by decide) rfl ?_
      refine X_aload_n (i := 0) hB dX11_flood_94 rfl rfl ?_
      refine X_getr hB cw9 fX11_30 rfl hX.1.1 hX.1.2 hr dX11_flood_95 ?_
      refine X_getr hB cw8 fX11_202 rfl hV.1.1 hV.1.2 g1.1.2.1 dX11_flood_98 ?_
      refine X_iload hB dX11_flood_101 rfl ?_
      refine X_ialdN hB (1) hV.2.2.1.1 hV.2.2.1.2 (by decide) rfl (by decide) (g1.2.1.2.1 1 (by decide)) dX11_flood_103 ?_
      refine X_aload_n (i := 0) hB dX11_flood_104 rfl rfl ?_
      refine X_getr hB cw9 fX11_26 rfl hX.1.1 hX.1.2 hr6 dX11_flood_105 ?_
      refine X_getr hB cw8 fX11_202 rfl hW.1.1 hW.1.2 w6'.1.2.1 dX11_flood_108 ?_
      refine X_iload hB dX11_flood_111 rfl ?_
      refine X_ialdN hB (1) hW.2.2.1.1 hW.2.2.1.2 (by decide) rfl (by decide) (w6'.2.1.2.1 1 (by decide)) dX11_flood_113 ?_
      refine X_isub hB dX11_flood_114 ?_
      refine X_iret hB rfl dX11_flood_115 ?_
      refine ⟨?_, g2, g1.D⟩
      unfold aFlood
      rw [e9]
      rfl
    · refine X_iconst (v := 2) hB dX11_flood_87 (by decide) ?_
      refine X_goto (tgt := 92) hB dX11_flood_88 (by decide) ?_
      have er : rp = true := by
        cases rp
        · first | rfl | exact absurd rfl c84
        · first | rfl | exact absurd c84 (by decide)
      subst er
      refine X_istore hB dX11_flood_92 (by decide) rfl ?_
      refine X_aload_n (i := 0) hB dX11_flood_94 rfl rfl ?_
      refine X_getr hB cw9 fX11_30 rfl hX.1.1 hX.1.2 hr dX11_flood_95 ?_
      refine X_getr hB cw8 fX11_202 rfl hV.1.1 hV.1.2 g1.1.2.1 dX11_flood_98 ?_
      refine X_iload hB dX11_flood_101 rfl ?_
      refine X_ialdN hB (2) hV.2.2.1.1 hV.2.2.1.2 (by decide) rfl (by decide) (g1.2.1.2.1 2 (by decide)) dX11_flood_103 ?_
      refine X_aload_n (i := 0) hB dX11_flood_104 rfl rfl ?_
      refine X_getr hB cw9 fX11_26 rfl hX.1.1 hX.1.2 hr6 dX11_flood_105 ?_
      refine X_getr hB cw8 fX11_202 rfl hW.1.1 hW.1.2 w6'.1.2.1 dX11_flood_108 ?_
      refine X_iload hB dX11_flood_111 rfl ?_
      refine X_ialdN hB (2) hW.2.2.1.1 hW.2.2.1.2 (by decide) rfl (by decide) (w6'.2.1.2.1 2 (by decide)) dX11_flood_113 ?_
      refine X_isub hB dX11_flood_114 ?_
      refine X_iret hB rfl dX11_flood_115 ?_
      refine ⟨?_, g2, g1.D⟩
      unfold aFlood
      rw [e9]
      rfl
end CLS
