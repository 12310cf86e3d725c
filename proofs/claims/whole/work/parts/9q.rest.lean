/-! the class: holders, bridges, images, a net -/
def brF (σ : Net) (p q : Nat) : Nat → Bool := fun k => decide (k / 8 < k % 8) && nUp σ (k / 8) (k % 8) && decide (99 ≤ dst (lessL (nUp σ) (k / 8) (k % 8)) q p)
theorem brF_at {σ : Net} {p q m n : Nat} (hn : n < 8) : brF σ p q (8 * m + n) = (decide (m < n) && nUp σ m n && decide (99 ≤ dst (lessL (nUp σ) m n) q p)) := by
  unfold brF
  rw [show (8 * m + n) / 8 = m by omega, show (8 * m + n) % 8 = n by omega]
theorem brF_lo {σ : Net} {p q m : Nat} (hm : m < 8) : ∀ i, i ≤ m + 1 → cnB (brF σ p q) (8 * m + i) = cnB (brF σ p q) (8 * m)
  | 0, _ => rfl
  | i + 1, hi => by
    show cnB (brF σ p q) (8 * m + i) + (if brF σ p q (8 * m + i) then 1 else 0) = _
    rw [brF_lo hm i (by omega), brF_at (by omega), decide_eq_false (show ¬ m < i by omega)]
    rfl
theorem lkR_less {v : Int64} {f : Nat → Nat → Bool} {m n : Nat} (hv : lkR v f) (hm : m < 8) (hn : n < 8) : lkR (v &&& (bJ m n ^^^ (-1))) (lessL f m n) := (lkR_not hv (bJ_R hm hn)).congr (fun a b ha hb => by
  unfold lessL
  by_cases c : (a = m ∧ b = n) ∨ (a = n ∧ b = m)
  · rw [if_pos c, show prB m n a b = true from decide_eq_true c]; simp
  · rw [if_neg c, show prB m n a b = false from decide_eq_false c]; simp)
theorem less_sym {f : Nat → Nat → Bool} {m n : Nat} (hs : symB f) : symB (lessL f m n) := fun a b ha hb => by
  unfold lessL
  by_cases c : (a = m ∧ b = n) ∨ (a = n ∧ b = m)
  · rw [if_pos c, if_pos (by omega)]
  · rw [if_neg c, if_neg (by omega)]; exact hs a b ha hb
theorem dst1_m1 {f : Nat → Nat → Bool} {q p : Nat} : dst1 (dst f q p) = -1 ↔ 99 ≤ dst f q p := by
  unfold dst1
  have := @dst_99 f q p
  split
  · exact ⟨fun z => absurd z (nI_neg1 (by omega)), fun z => by omega⟩
  · exact ⟨fun _ => by omega, fun _ => rfl⟩
section CLS
variable {G : Gc} {S : St}
set_option maxRecDepth 100000 in
set_option maxHeartbeats 4000000 in
theorem l_X11_holders {E : Ev} (hB : Bd G E mX11_holders) {Q : Option Value → St → Prop} (x : Nat) (hX : SLay G x) (hS : SF S x) (σ : Net) (hw : worldR S (x + 6) σ) (b : Nat) (hN : wfN σ b) (p q : Nat) (hp8 : p < 8) (hq8 : q < 8) (kk : Q (some (.int (nI (bts (fun n => kn (dCa (nNd σ n)) p q) 8)))) S) :
    ∀ (j n : Nat), n + j = 8 → X G E mX11_holders 3 Q S 19 [some (.ref x), some (.int (nI p)), some (.int (nI q)), some (.int (nI (bts (fun n => kn (dCa (nNd σ n)) p q) n))), some (.int (nI n))] [] := by
  have hW := hX.2.2.2.1
  have hc8 := hN.1.1.2
  have h40 := hw.l40
  intro j
  induction j with
  | zero =>
    intro n h1
    have e9 : n = 8 := by omega
    subst e9
    refine X_iload hB dX11_holders_19 rfl ?_
    refine X_bipush (v := 8) hB dX11_holders_21 (by decide) ?_
    refine X_icmp_ge (tgt := 62) hB dX11_holders_23 (by decide) (fun c23 => ?_) (fun c23 => absurd c23 (by simp (disch := omega) only [nlit, nI_leI, nI_ltI]; omega))
    refine X_iload_n (i := 3) hB dX11_holders_62 rfl rfl ?_
    refine X_iret hB rfl dX11_holders_63 ?_
    exact kk
  | succ j ih =>
    intro n h1
    have hn8 : n < 8 := by omega
    have hPn := hW.po hn8
    obtain ⟨⟨f1, f2, f3, f4⟩, -, p3, -⟩ := hw.po hn8
    refine X_iload hB dX11_holders_19 rfl ?_
    refine X_bipush (v := 8) hB dX11_holders_21 (by decide) ?_
    refine X_icmp_ge (tgt := 62) hB dX11_holders_23 (by decide) (fun c23 => absurd c23 (by simp (disch := omega) only [nlit, nI_leI, nI_ltI]; omega)) (fun c23 => ?_)
    refine X_aload_n (i := 0) hB dX11_holders_26 rfl rfl ?_
    refine X_getr hB cw9 fX11_26 rfl hX.1.1 hX.1.2 hS.2.2.1 dX11_holders_27 ?_
    refine X_iload hB dX11_holders_30 rfl ?_
    refine X_callV hB kX11_118 cw8 hW.1.1 hW.1.2 (c_X10_post (x + 6) hW hw.1 n hn8) (by decide) (by decide) rfl rfl (Nat.le_of_ble_eq_true rfl) dX11_holders_32 (fun r32 S32 q32 => ?_)
    obtain ⟨rfl, rfl⟩ := q32
    refine X_getr hB cw4 fX11_122 rfl hPn.1.1 hPn.1.2 f1 dX11_holders_35 ?_
    refine X_callV hB kX11_209 cw1 hPn.2.2.2.2.1.1 hPn.2.2.2.2.1.2 (c_X1_links (pA (x + 6) n + 5) n _ _ _ _ hPn.2.2.2.2 p3) (by decide) (by decide) rfl rfl (Nat.le_of_ble_eq_true rfl) dX11_holders_38 (fun r38 S38 q38 => ?_)
    obtain ⟨⟨vl, rfl, hvl⟩, rfl⟩ := q38
    refine X_iload_n (i := 1) hB dX11_holders_41 rfl rfl ?_
    refine X_iload_n (i := 2) hB dX11_holders_42 rfl rfl ?_
    refine X_callS hB kX11_84 (c_X4_hold hvl hp8 hq8 (kn_sym p q)) (by decide) (by decide) rfl rfl (Nat.le_of_ble_eq_true rfl) dX11_holders_43 (fun r43 S43 q43 => ?_)
    obtain ⟨rfl, rfl⟩ := q43
    refine X_if_eq (tgt := 56) hB dX11_holders_46 (by decide) (fun c46 => ?_) (fun c46 => ?_)
    · refine X_iinc hB dX11_holders_56 rfl rfl (by decide) rfl ?_
      refine X_goto (tgt := 19) hB dX11_holders_59 (by decide) ?_
      have e46 : ¬ kn (dCa (nNd σ n)) p q = true := if1n c46
      refine X_lv ?_ (ih (n + 1) (by omega))
      rw [← bts_no (p := (fun n => kn (dCa (nNd σ n)) p q)) (k := n) (by simpa using e46), Int32.or_zero, nI_succ]; rfl
    · refine X_iload_n (i := 3) hB dX11_holders_49 rfl rfl ?_
      refine X_iconst (v := 1) hB dX11_holders_50 (by decide) ?_
      refine X_iload hB dX11_holders_51 rfl ?_
      refine X_ishl hB dX11_holders_53 ?_
      refine X_ior hB dX11_holders_54 ?_
      refine X_istore_n (i := 3) hB dX11_holders_55 rfl (by decide) rfl ?_
      refine X_iinc hB dX11_holders_56 rfl rfl (by decide) rfl ?_
      refine X_goto (tgt := 19) hB dX11_holders_59 (by decide) ?_
      have e46 : kn (dCa (nNd σ n)) p q = true := if1 c46
      refine X_lv ?_ (ih (n + 1) (by omega))
      rw [← bts_st (p := (fun n => kn (dCa (nNd σ n)) p q)) (k := n) hn8 e46, nI_succ]; rfl
set_option maxRecDepth 100000 in
set_option maxHeartbeats 4000000 in
theorem c_X11_holders (x : Nat) (hX : SLay G x) (hS : SF S x) (σ : Net) (hw : worldR S (x + 6) σ) (b : Nat) (hN : wfN σ b) (u v : Int32) : C G mX11_holders 3 [.ref x, .int u, .int v] S (fun r S' => r = some (.int (aHolders σ u v)) ∧ S = S') := by
  have hW := hX.2.2.2.1
  have hc8 := hN.1.1.2
  have h40 := hw.l40
  refine C.mk (lv := [some (.ref x), some (.int u), some (.int v), none, none]) (by decide) (Nat.le_of_ble_eq_true rfl) rfl (fun E hB => ?_)
  refine X_aload_n (i := 0) hB dX11_holders_0 rfl rfl ?_
  refine X_getr hB cw9 fX11_26 rfl hX.1.1 hX.1.2 hS.2.2.1 dX11_holders_1 ?_
  refine X_iload_n (i := 1) hB dX11_holders_4 rfl rfl ?_
  refine X_iload_n (i := 2) hB dX11_holders_5 rfl rfl ?_
  refine X_callV hB kX11_76 cw8 hW.1.1 hW.1.2 (c_X10_areTwo (x + 6) hW σ hw hc8 u v) (by decide) (by decide) rfl rfl (Nat.le_of_ble_eq_true rfl) dX11_holders_6 (fun r6 S6 q6 => ?_)
  obtain ⟨rfl, rfl⟩ := q6
  cases e9 : two σ u v with
  | none =>
    refine X_topi (y := 0) (if_pos rfl) ?_
    refine X_if_ne (tgt := 14) hB dX11_holders_9 (by decide) (fun c9 => absurd rfl c9) (fun c9 => ?_)
    refine X_iconst (v := (-1)) hB dX11_holders_12 (by decide) ?_
    refine X_iret hB rfl dX11_holders_13 ?_
    exact ⟨by unfold aHolders; rw [e9], rfl⟩
  | some pq =>
    obtain ⟨p, q⟩ := pq
    obtain ⟨rfl, rfl, hp, hq, hpq⟩ := two_some e9
    refine X_topi (y := 1) (if_neg (fun z => by cases z)) ?_
    have hp8 : p < 8 := by omega
    have hq8 : q < 8 := by omega
    have hPp := hW.po hp8
    refine X_if_ne (tgt := 14) hB dX11_holders_9 (by decide) (fun c9 => ?_) (fun c9 => absurd c9 (by decide))
    refine X_iconst (v := 0) hB dX11_holders_14 (by decide) ?_
    refine X_istore_n (i := 3) hB dX11_holders_15 rfl (by decide) rfl ?_
    refine X_iconst (v := 0) hB dX11_holders_16 (by decide) ?_
    refine X_istore hB dX11_holders_17 (by decide) rfl ?_
    refine X_lv ?_ (l_X11_holders hB x hX hS σ hw b hN p q hp8 hq8 ⟨?_, rfl⟩ 8 0 (by omega))
    · rw [show bts (fun n => kn (dCa (nNd σ n)) p q) 0 = 0 from rfl, nI_0]; rfl
    · unfold aHolders
      rw [e9]
      dsimp only
      rw [bts_cut hc8 (fun j h1 h2 => by rw [(hw.cv.2.1 j h1 h2).1]; rfl)]
set_option maxRecDepth 100000 in
set_option maxHeartbeats 4000000 in
theorem i_X11_bridges {E : Ev} (hB : Bd G E mX11_bridges) {Q : Option Value → St → Prop} (x : Nat) (hX : SLay G x) (hS : SF S x) (σ : Net) (hw : worldR S (x + 6) σ) (b : Nat) (hN : wfN σ b) (p q : Nat) (hp8 : p < 8) (hq8 : q < 8) (m : Nat) (hm : m < 8) (kk : X G E mX11_bridges 2 Q S 111 [some (.ref x), some (.int (nI p)), some (.int (nI q)), some (.int (nI (cnB (brF σ p q) (8 * m + 8)))), some (.int (nI m)), some (.int (nI 8))] []) :
    ∀ (j n : Nat), n + j = 8 → m < n → X G E mX11_bridges 2 Q S 50 [some (.ref x), some (.int (nI p)), some (.int (nI q)), some (.int (nI (cnB (brF σ p q) (8 * m + n)))), some (.int (nI m)), some (.int (nI n))] [] := by
  have hW := hX.2.2.2.1
  have hc8 := hN.1.1.2
  have h40 := hw.l40
  intro j
  induction j with
  | zero =>
    intro n h1 h2
    have e9 : n = 8 := by omega
    subst e9
    refine X_iload hB dX11_bridges_50 rfl ?_
    refine X_bipush (v := 8) hB dX11_bridges_52 (by decide) ?_
    refine X_icmp_ge (tgt := 111) hB dX11_bridges_54 (by decide) (fun c54 => ?_) (fun c54 => absurd c54 (by simp (disch := omega) only [nlit, nI_leI, nI_ltI]; omega))
    exact kk
  | succ j ih =>
    intro n h1 h2
    have hn8 : n < 8 := by omega
    have hs : cnB (brF σ p q) (8 * m + (n + 1)) = cnB (brF σ p q) (8 * m + n) + (if brF σ p q (8 * m + n) then 1 else 0) := rfl
    rw [brF_at hn8, decide_eq_true h2, Bool.true_and] at hs
    refine X_iload hB dX11_bridges_50 rfl ?_
    refine X_bipush (v := 8) hB dX11_bridges_52 (by decide) ?_
    refine X_icmp_ge (tgt := 111) hB dX11_bridges_54 (by decide) (fun c54 => absurd c54 (by simp (disch := omega) only [nlit, nI_leI, nI_ltI]; omega)) (fun c54 => ?_)
    refine X_aload_n (i := 0) hB dX11_bridges_57 rfl rfl ?_
    refine X_getr hB cw9 fX11_26 rfl hX.1.1 hX.1.2 hS.2.2.1 dX11_bridges_58 ?_
    refine X_getj hB cw8 fX11_80 rfl hW.1.1 hW.1.2 dX11_bridges_61 ?_
    refine X_iload hB dX11_bridges_64 rfl ?_
    refine X_iload hB dX11_bridges_66 rfl ?_
    refine X_callS hB kX11_84 (c_X4_hold hw.2.1.2.2.2.2 hm hn8 (upS hN m n hm hn8)) (by decide) (by decide) rfl rfl (Nat.le_of_ble_eq_true rfl) dX11_bridges_68 (fun r68 S68 q68 => ?_)
    obtain ⟨rfl, rfl⟩ := q68
    refine X_if_eq (tgt := 105) hB dX11_bridges_71 (by decide) (fun c71 => ?_) (fun c71 => ?_)
    · refine X_iinc hB dX11_bridges_105 rfl rfl (by decide) rfl ?_
      refine X_goto (tgt := 50) hB dX11_bridges_108 (by decide) ?_
      have e71 : nUp σ m n = false := by simpa using if1n c71
      rw [e71] at hs
      simp only [Bool.false_and, Bool.and_false, Bool.true_and, Bool.false_eq_true, if_false, Nat.add_zero] at hs
      refine X_lv ?_ (ih (n + 1) (by omega) (by omega))
      rw [hs, nI_succ]; rfl
    · refine X_aload_n (i := 0) hB dX11_bridges_74 rfl rfl ?_
      refine X_getr hB cw9 fX11_26 rfl hX.1.1 hX.1.2 hS.2.2.1 dX11_bridges_75 ?_
      refine X_getj hB cw8 fX11_80 rfl hW.1.1 hW.1.2 dX11_bridges_78 ?_
      refine X_iload hB dX11_bridges_81 rfl ?_
      refine X_iload hB dX11_bridges_83 rfl ?_
      refine X_callS hB kX11_90 (c_X4_both hm hn8) (by decide) (by decide) rfl rfl (Nat.le_of_ble_eq_true rfl) dX11_bridges_85 (fun r85 S85 q85 => ?_)
      obtain ⟨rfl, rfl⟩ := q85
      refine X_ldc2 hB qX11_213 dX11_bridges_88 ?_
      refine X_lxor hB dX11_bridges_91 ?_
      refine X_land hB dX11_bridges_92 ?_
      refine X_iload_n (i := 1) hB dX11_bridges_93 rfl rfl ?_
      refine X_iload_n (i := 2) hB dX11_bridges_94 rfl rfl ?_
      refine X_callS hB kX11_205 (c_X4_distance (lkR_less hw.2.1.2.2.2.2 hm hn8) (less_sym (upS hN)) hq8 hp8) (by decide) (by decide) rfl rfl (Nat.le_of_ble_eq_true rfl) dX11_bridges_95 (fun r95 S95 q95 => ?_)
      obtain ⟨rfl, rfl⟩ := q95
      refine X_iconst (v := (-1)) hB dX11_bridges_98 (by decide) ?_
      refine X_icmp_ne (tgt := 105) hB dX11_bridges_99 (by decide) (fun c99 => ?_) (fun c99 => ?_)
      · refine X_iinc hB dX11_bridges_105 rfl rfl (by decide) rfl ?_
        refine X_goto (tgt := 50) hB dX11_bridges_108 (by decide) ?_
        have e71 : nUp σ m n = true := if1 c71
        have e99 : ¬ 99 ≤ dst (lessL (nUp σ) m n) q p := fun z => c99 (dst1_m1.mpr z)
        rw [e71, decide_eq_false e99] at hs
        simp only [Bool.false_and, Bool.and_false, Bool.true_and, Bool.false_eq_true, if_false, Nat.add_zero] at hs
        refine X_lv ?_ (ih (n + 1) (by omega) (by omega))
        rw [hs, nI_succ]; rfl
      · refine X_iinc hB dX11_bridges_102 rfl rfl (by decide) rfl ?_
        refine X_iinc hB dX11_bridges_105 rfl rfl (by decide) rfl ?_
        refine X_goto (tgt := 50) hB dX11_bridges_108 (by decide) ?_
        have e71 : nUp σ m n = true := if1 c71
        have e99 : 99 ≤ dst (lessL (nUp σ) m n) q p := dst1_m1.mp c99
        rw [e71, decide_eq_true e99] at hs
        simp only [Bool.true_and, if_true] at hs
        refine X_lv ?_ (ih (n + 1) (by omega) (by omega))
        rw [hs, nI_succ, nI_succ]; rfl
set_option maxRecDepth 100000 in
set_option maxHeartbeats 4000000 in
theorem o_X11_bridges {E : Ev} (hB : Bd G E mX11_bridges) {Q : Option Value → St → Prop} (x : Nat) (hX : SLay G x) (hS : SF S x) (σ : Net) (hw : worldR S (x + 6) σ) (b : Nat) (hN : wfN σ b) (p q : Nat) (hp8 : p < 8) (hq8 : q < 8) (kk : Q (some (.int (nI (cnB (brF σ p q) (64))))) S) :
    ∀ (j m : Nat), m + j = 8 → X G E mX11_bridges 2 Q S 37 [some (.ref x), some (.int (nI p)), some (.int (nI q)), some (.int (nI (cnB (brF σ p q) (8 * m)))), some (.int (nI m)), none] [] := by
  have hW := hX.2.2.2.1
  have hc8 := hN.1.1.2
  have h40 := hw.l40
  intro j
  induction j with
  | zero =>
    intro m h1
    have e9 : m = 8 := by omega
    subst e9
    refine X_iload hB dX11_bridges_37 rfl ?_
    refine X_bipush (v := 8) hB dX11_bridges_39 (by decide) ?_
    refine X_icmp_ge (tgt := 117) hB dX11_bridges_41 (by decide) (fun c41 => ?_) (fun c41 => absurd c41 (by simp (disch := omega) only [nlit, nI_leI, nI_ltI]; omega))
    refine X_iload_n (i := 3) hB dX11_bridges_117 rfl rfl ?_
    refine X_iret hB rfl dX11_bridges_118 ?_
    exact kk
  | succ j ih =>
    intro m h1
    have hm8 : m < 8 := by omega
    refine X_iload hB dX11_bridges_37 rfl ?_
    refine X_bipush (v := 8) hB dX11_bridges_39 (by decide) ?_
    refine X_icmp_ge (tgt := 117) hB dX11_bridges_41 (by decide) (fun c41 => absurd c41 (by simp (disch := omega) only [nlit, nI_leI, nI_ltI]; omega)) (fun c41 => ?_)
    refine X_iload hB dX11_bridges_44 rfl ?_
    refine X_iconst (v := 1) hB dX11_bridges_46 (by decide) ?_
    refine X_iadd hB dX11_bridges_47 ?_
    refine X_istore hB dX11_bridges_48 (by decide) rfl ?_
    refine X_lv (lv' := [some (.ref x), some (.int (nI p)), some (.int (nI q)), some (.int (nI (cnB (brF σ p q) (8 * m + (m + 1))))), some (.int (nI m)), some (.int (nI (m + 1)))]) ?_ (i_X11_bridges hB x hX hS σ hw b hN p q hp8 hq8 m hm8 ?_ (8 - (m + 1)) (m + 1) (by omega) (by omega))
    · rw [brF_lo hm8 (m + 1) (by omega), nI_succ]; rfl
    · refine X_iinc hB dX11_bridges_111 rfl rfl (by decide) rfl ?_
      refine X_goto (tgt := 37) hB dX11_bridges_114 (by decide) ?_
      refine X_dl [some (.ref x), some (.int (nI p)), some (.int (nI q)), some (.int (nI (cnB (brF σ p q) (8 * (m + 1))))), some (.int (nI (m + 1))), none] ⟨rfl, rfl, rfl, rfl, by rw [nI_succ]; rfl, trivial⟩ (ih (m + 1) (by omega))
set_option maxRecDepth 100000 in
set_option maxHeartbeats 4000000 in
theorem c_X11_bridges (x : Nat) (hX : SLay G x) (hS : SF S x) (σ : Net) (hw : worldR S (x + 6) σ) (b : Nat) (hN : wfN σ b) (u v : Int32) : C G mX11_bridges 2 [.ref x, .int u, .int v] S (fun r S' => r = some (.int (aBridges σ u v)) ∧ S = S') := by
  have hW := hX.2.2.2.1
  have hc8 := hN.1.1.2
  have h40 := hw.l40
  refine C.mk (lv := [some (.ref x), some (.int u), some (.int v), none, none, none]) (by decide) (Nat.le_of_ble_eq_true rfl) rfl (fun E hB => ?_)
  refine X_aload_n (i := 0) hB dX11_bridges_0 rfl rfl ?_
  refine X_getr hB cw9 fX11_26 rfl hX.1.1 hX.1.2 hS.2.2.1 dX11_bridges_1 ?_
  refine X_iload_n (i := 1) hB dX11_bridges_4 rfl rfl ?_
  refine X_iload_n (i := 2) hB dX11_bridges_5 rfl rfl ?_
  refine X_callV hB kX11_76 cw8 hW.1.1 hW.1.2 (c_X10_areTwo (x + 6) hW σ hw hc8 u v) (by decide) (by decide) rfl rfl (Nat.le_of_ble_eq_true rfl) dX11_bridges_6 (fun r6 S6 q6 => ?_)
  obtain ⟨rfl, rfl⟩ := q6
  cases e9 : two σ u v with
  | none =>
    refine X_topi (y := 0) (if_pos rfl) ?_
    refine X_if_ne (tgt := 14) hB dX11_bridges_9 (by decide) (fun c9 => absurd rfl c9) (fun c9 => ?_)
    refine X_iconst (v := (-1)) hB dX11_bridges_12 (by decide) ?_
    refine X_iret hB rfl dX11_bridges_13 ?_
    exact ⟨by unfold aBridges; rw [e9], rfl⟩
  | some pq =>
    obtain ⟨p, q⟩ := pq
    obtain ⟨rfl, rfl, hp, hq, hpq⟩ := two_some e9
    refine X_topi (y := 1) (if_neg (fun z => by cases z)) ?_
    have hp8 : p < 8 := by omega
    have hq8 : q < 8 := by omega
    have hPp := hW.po hp8
    refine X_if_ne (tgt := 14) hB dX11_bridges_9 (by decide) (fun c9 => ?_) (fun c9 => absurd c9 (by decide))
    refine X_aload_n (i := 0) hB dX11_bridges_14 rfl rfl ?_
    refine X_getr hB cw9 fX11_26 rfl hX.1.1 hX.1.2 hS.2.2.1 dX11_bridges_15 ?_
    refine X_getj hB cw8 fX11_80 rfl hW.1.1 hW.1.2 dX11_bridges_18 ?_
    refine X_iload_n (i := 1) hB dX11_bridges_21 rfl rfl ?_
    refine X_iload_n (i := 2) hB dX11_bridges_22 rfl rfl ?_
    refine X_callS hB kX11_205 (c_X4_distance hw.2.1.2.2.2.2 (upS hN) hq8 hp8) (by decide) (by decide) rfl rfl (Nat.le_of_ble_eq_true rfl) dX11_bridges_23 (fun r23 S23 q23 => ?_)
    obtain ⟨rfl, rfl⟩ := q23
    refine X_iconst (v := (-1)) hB dX11_bridges_26 (by decide) ?_
    refine X_icmp_ne (tgt := 32) hB dX11_bridges_27 (by decide) (fun c27 => ?_) (fun c27 => ?_)
    · refine X_iconst (v := 0) hB dX11_bridges_32 (by decide) ?_
      refine X_istore_n (i := 3) hB dX11_bridges_33 rfl (by decide) rfl ?_
      refine X_iconst (v := 0) hB dX11_bridges_34 (by decide) ?_
      refine X_istore hB dX11_bridges_35 (by decide) rfl ?_
      refine X_lv (lv' := [some (.ref x), some (.int (nI p)), some (.int (nI q)), some (.int (nI (cnB (brF σ p q) (8 * 0)))), some (.int (nI 0)), none]) ?_ (o_X11_bridges hB x hX hS σ hw b hN p q hp8 hq8 ⟨?_, rfl⟩ 8 0 (by omega))
      · rw [show cnB (brF σ p q) (8 * 0) = 0 from rfl, nI_0]; rfl
      · unfold aBridges
        rw [e9]
        dsimp only
        rw [if_pos (by have := (not_congr (dst1_m1 (f := nUp σ) (q := q) (p := p))).mp c27; omega)]
        rfl
    · refine X_iconst (v := 0) hB dX11_bridges_30 (by decide) ?_
      refine X_iret hB rfl dX11_bridges_31 ?_
      refine ⟨?_, rfl⟩
      unfold aBridges
      rw [e9]
      dsimp only
      have := dst1_m1.mp c27
      rw [if_neg (by omega)]
end CLS
