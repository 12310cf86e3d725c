/-! the class: what a world tells; a data comes -/
theorem bts_cut {p : Nat → Bool} {c : Nat} (hc : c ≤ 8) (h : ∀ j, c ≤ j → j < 8 → p j = false) : bts p 8 = bts p c := by
  have key : ∀ k, c + k ≤ 8 → bts p (c + k) = bts p c := fun k => by
    induction k with
    | zero => intro _; rfl
    | succ k ih =>
      intro hk
      show bts p (c + k) ||| (if p (c + k) then 1 <<< (c + k) else 0) = bts p c
      rw [ih (by omega), h (c + k) (by omega) (by omega)]
      simp
  have := key (8 - c) (by omega)
  rwa [show c + (8 - c) = 8 by omega] at this
theorem bts_ext2 {p q : Nat → Bool} : ∀ {k : Nat}, (∀ j, j < k → p j = q j) → bts p k = bts q k
  | 0, _ => rfl
  | k + 1, h => by unfold bts; rw [bts_ext2 (fun j hj => h j (by omega)), h k (by omega)]
section CLS
variable {G : Gc} {S : St}
set_option maxRecDepth 100000 in
set_option maxHeartbeats 4000000 in
theorem l_X10_buffered {E : Ev} (hB : Bd G E mX10_buffered) {Q : Option Value → St → Prop} (w : Nat) (hW : WLay G w) (σ : Net) (hw : worldR S w σ) (kk : Q (some (.int (nI (smN (fun n => (dBu (nNd σ n)).length) 8)))) S) :
    ∀ (j n : Nat), n + j = 8 → (smN (fun n => (dBu (nNd σ n)).length) n) ≤ 4 * n → X G E mX10_buffered 0 Q S 4 [some (.ref w), some (.int (nI (smN (fun n => (dBu (nNd σ n)).length) n))), some (.int (nI n))] [] := by
  intro j
  induction j with
  | zero =>
    intro n h1 h2
    have e9 : n = 8 := by omega
    subst e9
    refine X_iload_n (i := 2) hB dX10_buffered_4 rfl rfl ?_
    refine X_bipush (v := 8) hB dX10_buffered_5 (by decide) ?_
    refine X_icmp_ge (tgt := 28) hB dX10_buffered_7 (by decide) (fun c7 => ?_) (fun c7 => absurd c7 (by simp (disch := omega) only [nlit, nI_leI, nI_ltI]; omega))
    refine X_iload_n (i := 1) hB dX10_buffered_28 rfl rfl ?_
    refine X_iret hB rfl dX10_buffered_29 ?_
    exact kk
  | succ j ih =>
    intro n h1 h2
    have hn8 : n < 8 := by omega
    have hPo := hW.po hn8
    obtain ⟨⟨f1, f2, f3, f4⟩, ⟨i1, i2, i3, i4, i5, i6, i7⟩, p3, p4, p5, p6⟩ := hw.po hn8
    have hsm : (smN (fun n => (dBu (nNd σ n)).length) (n + 1)) = (smN (fun n => (dBu (nNd σ n)).length) n) + (dBu (nNd σ n)).length := rfl
    refine X_iload_n (i := 2) hB dX10_buffered_4 rfl rfl ?_
    refine X_bipush (v := 8) hB dX10_buffered_5 (by decide) ?_
    refine X_icmp_ge (tgt := 28) hB dX10_buffered_7 (by decide) (fun c7 => absurd c7 (by simp (disch := omega) only [nlit, nI_leI, nI_ltI]; omega)) (fun c7 => ?_)
    refine X_iload_n (i := 1) hB dX10_buffered_10 rfl rfl ?_
    refine X_aload_n (i := 0) hB dX10_buffered_11 rfl rfl ?_
    refine X_getr hB cw8 fX10_27 rfl hW.1.1 hW.1.2 hw.1.2.2.2.1 dX10_buffered_12 ?_
    refine X_iload_n (i := 2) hB dX10_buffered_15 rfl rfl ?_
    refine X_aaldN hB (n) hW.2.2.2.2.2.2.1.1 hW.2.2.2.2.2.2.1.2 (by decide) rfl (by decide) rfl (by omega) (hw.1.2.2.2.2.2.2.1 n (by omega)) dX10_buffered_16 ?_
    refine X_geti hB cw4 fX10_126 rfl hPo.1.1 hPo.1.2 dX10_buffered_17 ?_
    refine X_topi (y := nI (dBu (nNd σ n)).length) (i1) ?_
    refine X_iadd hB dX10_buffered_20 ?_
    refine X_topi (y := nI (smN (fun n => (dBu (nNd σ n)).length) (n + 1))) (by rw [nI_add, hsm]) ?_
    refine X_istore_n (i := 1) hB dX10_buffered_21 rfl (by decide) rfl ?_
    refine X_iinc hB dX10_buffered_22 rfl rfl (by decide) rfl ?_
    refine X_goto (tgt := 4) hB dX10_buffered_25 (by decide) ?_
    refine X_lv ?_ (ih (n + 1) (by omega) (by rw [hsm]; omega))
    · rw [nI_succ]; rfl
set_option maxRecDepth 100000 in
set_option maxHeartbeats 4000000 in
theorem c_X10_buffered (w : Nat) (hW : WLay G w) (σ : Net) (hw : worldR S w σ)  : C G mX10_buffered 0 [.ref w] S (fun r S' => r = some (.int (nI (smN (fun n => (dBu (nNd σ n)).length) 8))) ∧ S = S') := by
  refine C.mk (lv := [some (.ref w), none, none]) (by decide) (Nat.le_of_ble_eq_true rfl) rfl (fun E hB => ?_)
  refine X_iconst (v := 0) hB dX10_buffered_0 (by decide) ?_
  refine X_istore_n (i := 1) hB dX10_buffered_1 rfl (by decide) rfl ?_
  refine X_iconst (v := 0) hB dX10_buffered_2 (by decide) ?_
  refine X_istore_n (i := 2) hB dX10_buffered_3 rfl (by decide) rfl ?_
  refine X_lv ?_ (l_X10_buffered hB w hW σ hw ⟨rfl, rfl⟩ 8 0 (by omega) (Nat.le_refl _))
  rw [show (smN (fun n => (dBu (nNd σ n)).length) 0) = 0 from rfl, nI_0]; rfl
set_option maxRecDepth 100000 in
set_option maxHeartbeats 4000000 in
theorem c_X10_isQuiet (w : Nat) (hW : WLay G w) (σ : Net) (hw : worldR S w σ) (b : Nat) (hN : wfN σ b) (hb : bcN σ) : C G mX10_isQuiet 1 [.ref w] S (fun r S' => r = some (.int (if quB σ then 1 else 0)) ∧ S = S') := by
  obtain ⟨s, p, ha⟩ := hw.2.2.1
  have h40 := hw.l40
  have hsm := bcN.sum hN hb
  have hle := cnB_le (fun d => decide (aSt (dat σ d) = 0)) (nDa σ).length
  refine C.mk (lv := [some (.ref w)]) (by decide) (Nat.le_of_ble_eq_true rfl) rfl (fun E hB => ?_)
  refine X_aload_n (i := 0) hB dX10_isQuiet_0 rfl rfl ?_
  refine X_getr hB cw8 fX10_21 rfl hW.1.1 hW.1.2 hw.1.2.2.1 dX10_isQuiet_1 ?_
  refine X_geti hB cw0 fX10_50 rfl hW.2.2.2.1.1 hW.2.2.2.1.2 dX10_isQuiet_4 ?_
  refine X_topi (y := nI (nAir σ).length) (ha.2.2.1) ?_
  refine X_if_ne (tgt := 21) hB dX10_isQuiet_7 (by decide) (fun c7 => ?_) (fun c7 => ?_)
  · have eq : quB σ = false := by
      unfold quB
      rw [decide_eq_false (fun q => c7 (by rw [q]; rfl)), Bool.false_and]
    refine X_iconst (v := 0) hB dX10_isQuiet_21 (by decide) ?_
    refine X_zret hB rfl (by first | exact Or.inl rfl | exact Or.inr rfl) dX10_isQuiet_22 ?_
    rw [eq]
    exact ⟨rfl, rfl⟩
  · refine X_aload_n (i := 0) hB dX10_isQuiet_10 rfl rfl ?_
    refine X_callV hB kX10_190 cw8 hW.1.1 hW.1.2 (c_X10_buffered w hW σ hw) (by decide) (by decide) rfl rfl (Nat.le_of_ble_eq_true rfl) dX10_isQuiet_11 (fun r11 S11 q11 => ?_)
    obtain ⟨rfl, rfl⟩ := q11
    refine X_if_ne (tgt := 21) hB dX10_isQuiet_14 (by decide) (fun c14 => ?_) (fun c14 => ?_)
    · have eq : quB σ = false := by
        unfold quB
        rw [← hsm, decide_eq_false (p := (smN (fun n => (dBu (nNd σ n)).length) 8) = 0) (fun q => c14 (by rw [q]; rfl)), Bool.and_false]
      refine X_iconst (v := 0) hB dX10_isQuiet_21 (by decide) ?_
      refine X_zret hB rfl (by first | exact Or.inl rfl | exact Or.inr rfl) dX10_isQuiet_22 ?_
      rw [eq]
      exact ⟨rfl, rfl⟩
    · have e7 : (nAir σ).length = 0 := (nI_eq (b := 0) (by omega) (by omega)).mp c7
      have e14 : (smN (fun n => (dBu (nNd σ n)).length) 8) = 0 := (nI_eq (b := 0) (by omega) (by omega)).mp c14
      rw [hsm] at e14
      have eq : quB σ = true := by unfold quB; rw [decide_eq_true e7, decide_eq_true e14]; rfl
      refine X_iconst (v := 1) hB dX10_isQuiet_17 (by decide) ?_
      refine X_goto (tgt := 22) hB dX10_isQuiet_18 (by decide) ?_
      refine X_zret hB rfl (by first | exact Or.inl rfl | exact Or.inr rfl) dX10_isQuiet_22 ?_
      rw [eq]
      exact ⟨rfl, rfl⟩
set_option maxRecDepth 100000 in
set_option maxHeartbeats 4000000 in
theorem l_X0_hasKind {E : Ev} (hB : Bd G E mX0_hasKind) {Q : Option Value → St → Prop} (w : Nat) (hW : WLay G w) (σ : Net) (hw : worldR S w σ) (kd : Nat) (hkd : kd ≤ 3) (hks : ∀ f ∈ nAir σ, fKi f ≤ 3) (kk : Q (some (.int (if ((nAir σ).any (fun f => decide (fKi f = kd))) then 1 else 0))) S) :
    ∀ (j k : Nat), k + j = (nAir σ).length → (∀ i, i < k → fKi ((nAir σ).getD i f0) ≠ kd) → X G E mX0_hasKind 0 Q S 2 [some (.ref (w + 3)), some (.int (nI kd)), some (.int (nI k))] [] := by
  obtain ⟨s, p, ha⟩ := hw.2.2.1
  have h40 := hw.l40.1
  have hs := ha.1
  intro j
  induction j with
  | zero =>
    intro k h1 h2
    have en : ((nAir σ).any (fun f => decide (fKi f = kd))) = false := by
      rw [List.any_eq_false]
      intro d hd
      obtain ⟨i, hi, e⟩ := List.getElem_of_mem hd
      have := h2 i (by omega)
      rw [getD_lt hi, e] at this
      simpa using this
    rw [en] at kk
    refine X_iload_n (i := 2) hB dX0_hasKind_2 rfl rfl ?_
    refine X_aload_n (i := 0) hB dX0_hasKind_3 rfl rfl ?_
    refine X_geti hB cw0 fX0_20 rfl hW.2.2.2.1.1 hW.2.2.2.1.2 dX0_hasKind_4 ?_
    refine X_topi (y := nI (nAir σ).length) (ha.2.2.1) ?_
    refine X_icmp_ge (tgt := 39) hB dX0_hasKind_7 (by decide) (fun c7 => ?_) (fun c7 => absurd c7 (by simp (disch := omega) only [nlit, nI_leI, nI_ltI]; omega))
    refine X_iconst (v := 0) hB dX0_hasKind_39 (by decide) ?_
    refine X_zret hB rfl (by first | exact Or.inl rfl | exact Or.inr rfl) dX0_hasKind_40 ?_
    exact kk
  | succ j ih =>
    intro k h1 h2
    have hq := ha.2.2.2.2.2.1 ((s + k) % 40) (by omega)
    have hfk := hW.2.2.2.2.2.1 _ hq.1 hq.2
    have hm : (nAir σ).getD k f0 ∈ nAir σ := getD_mem (by omega)
    have h3 := hks _ hm
    have hf0 := (ha.2.2.2.2.2.2.2 k (by omega)).1
    refine X_iload_n (i := 2) hB dX0_hasKind_2 rfl rfl ?_
    refine X_aload_n (i := 0) hB dX0_hasKind_3 rfl rfl ?_
    refine X_geti hB cw0 fX0_20 rfl hW.2.2.2.1.1 hW.2.2.2.1.2 dX0_hasKind_4 ?_
    refine X_topi (y := nI (nAir σ).length) (ha.2.2.1) ?_
    refine X_icmp_ge (tgt := 39) hB dX0_hasKind_7 (by decide) (fun c7 => absurd c7 (by simp (disch := omega) only [nlit, nI_leI, nI_ltI]; omega)) (fun c7 => ?_)
    refine X_aload_n (i := 0) hB dX0_hasKind_10 rfl rfl ?_
    refine X_getr hB cw0 fX0_11 rfl hW.2.2.2.1.1 hW.2.2.2.1.2 hw.1.2.2.2.2.2.1 dX0_hasKind_11 ?_
    refine X_aload_n (i := 0) hB dX0_hasKind_14 rfl rfl ?_
    refine X_geti hB cw0 fX0_24 rfl hW.2.2.2.1.1 hW.2.2.2.1.2 dX0_hasKind_15 ?_
    refine X_topi (y := nI s) (ha.2.1) ?_
    refine X_iload_n (i := 2) hB dX0_hasKind_18 rfl rfl ?_
    refine X_iadd hB dX0_hasKind_19 ?_
    refine X_topi (y := nI (s + k)) (by first | rfl | (simp (disch := omega) only [nlit, nI_add, nI_mul, nI_sub]; done) | (simp (disch := omega) only [nlit, nI_add, nI_mul, nI_sub]; (congr 1 <;> omega))) ?_
    refine X_bipush (v := 40) hB dX0_hasKind_20 (by decide) ?_
    refine X_irem hB dX0_hasKind_22 (by decide) ?_
    refine X_topi (y := nI ((s + k) % 40)) (rem40 (by omega)) ?_
    refine X_aaldN hB ((s + k) % 40) hW.2.2.2.2.1.1 hW.2.2.2.2.1.2 (by decide) rfl (by decide) rfl (by omega) (ha.2.2.2.2.1 _ (by omega)) dX0_hasKind_23 ?_
    refine X_geti hB cw3 fX0_27 rfl hfk.1 hfk.2 dX0_hasKind_24 ?_
    refine X_topi (y := nI (fKi ((nAir σ).getD k f0))) (hf0) ?_
    refine X_iload_n (i := 1) hB dX0_hasKind_27 rfl rfl ?_
    refine X_icmp_ne (tgt := 33) hB dX0_hasKind_28 (by decide) (fun c28 => ?_) (fun c28 => ?_)
    · refine X_iinc hB dX0_hasKind_33 rfl rfl (by decide) rfl ?_
      refine X_goto (tgt := 2) hB dX0_hasKind_36 (by decide) ?_
      refine X_lv ?_ (ih (k + 1) (by omega) (fun i hi => ?_))
      · rw [nI_succ]; rfl
      · by_cases q : i = k
        · rw [q]; exact fun z => c28 (by rw [z])
        · exact h2 i (by omega)
    · refine X_iconst (v := 1) hB dX0_hasKind_31 (by decide) ?_
      refine X_zret hB rfl (by first | exact Or.inl rfl | exact Or.inr rfl) dX0_hasKind_32 ?_
      have e28 : fKi ((nAir σ).getD k f0) = kd := (nI_eq (by omega) (by omega)).mp c28
      have en : ((nAir σ).any (fun f => decide (fKi f = kd))) = true := by
        rw [List.any_eq_true]
        exact ⟨_, hm, by simpa using e28⟩
      rw [en] at kk
      exact kk
set_option maxRecDepth 100000 in
set_option maxHeartbeats 4000000 in
theorem c_X0_hasKind (w : Nat) (hW : WLay G w) (σ : Net) (hw : worldR S w σ) (kd : Nat) (hkd : kd ≤ 3) (hks : ∀ f ∈ nAir σ, fKi f ≤ 3) : C G mX0_hasKind 0 [.ref (w + 3), .int (nI kd)] S (fun r S' => r = some (.int (if ((nAir σ).any (fun f => decide (fKi f = kd))) then 1 else 0)) ∧ S = S') := by
  refine C.mk (lv := [some (.ref (w + 3)), some (.int (nI kd)), none]) (by decide) (Nat.le_of_ble_eq_true rfl) rfl (fun E hB => ?_)
  refine X_iconst (v := 0) hB dX0_hasKind_0 (by decide) ?_
  refine X_istore_n (i := 2) hB dX0_hasKind_1 rfl (by decide) rfl ?_
  refine X_lv ?_ (l_X0_hasKind hB w hW σ hw kd hkd hks ⟨rfl, rfl⟩ (nAir σ).length 0 (by omega) (fun i hi => by omega))
  rw [nI_0]; rfl
set_option maxRecDepth 100000 in
set_option maxHeartbeats 4000000 in
theorem c_X10_wayOf (w : Nat) (hW : WLay G w) (σ : Net) (hw : worldR S w σ) (hc8 : nSe σ 0 ≤ 8) (v u : Int32) : C G mX10_wayOf 4 [.ref w, .int v, .int u] S (fun r S' => r = some (.long (match two σ v u with
  | some (x, y) => rJ (wayN σ x y)
  | none => rJ [])) ∧ S = S') := by
  refine C.mk (lv := [some (.ref w), some (.int v), some (.int u)]) (by decide) (Nat.le_of_ble_eq_true rfl) rfl (fun E hB => ?_)
  refine X_aload_n (i := 0) hB dX10_wayOf_0 rfl rfl ?_
  refine X_iload_n (i := 1) hB dX10_wayOf_1 rfl rfl ?_
  refine X_iload_n (i := 2) hB dX10_wayOf_2 rfl rfl ?_
  refine X_callV hB kX10_98 cw8 hW.1.1 hW.1.2 (c_X10_areTwo w hW σ hw hc8 v u) (by decide) (by decide) rfl rfl (Nat.le_of_ble_eq_true rfl) dX10_wayOf_3 (fun r3 S3 q3 => ?_)
  obtain ⟨rfl, rfl⟩ := q3
  refine X_if_eq (tgt := 24) hB dX10_wayOf_6 (by decide) (fun c6 => ?_) (fun c6 => ?_)
  · refine X_lconst (v := 0) hB dX10_wayOf_24 (by decide) ?_
    refine X_lret hB rfl dX10_wayOf_25 ?_
    rw [if0 c6]
    exact ⟨rfl, rfl⟩
  · obtain ⟨⟨x, y⟩, e6⟩ := opt_ex (if0n c6)
    obtain ⟨rfl, rfl, hx, hy, hne⟩ := two_some e6
    have hx8 : x < 8 := by omega
    have hPo := hW.po hx8
    refine X_aload_n (i := 0) hB dX10_wayOf_9 rfl rfl ?_
    refine X_iload_n (i := 1) hB dX10_wayOf_10 rfl rfl ?_
    refine X_callV hB kX10_102 cw8 hW.1.1 hW.1.2 (c_X10_post w hW hw.1 x hx8) (by decide) (by decide) rfl rfl (Nat.le_of_ble_eq_true rfl) dX10_wayOf_11 (fun r11 S11 q11 => ?_)
    obtain ⟨rfl, rfl⟩ := q11
    refine X_getr hB cw4 fX10_72 rfl hPo.1.1 hPo.1.2 (hw.po hx8).1.1 dX10_wayOf_14 ?_
    refine X_iload_n (i := 2) hB dX10_wayOf_17 rfl rfl ?_
    refine X_callV hB kX10_106 cw1 hPo.2.2.2.2.1.1 hPo.2.2.2.2.1.2 (c_X1_wayTo (pA w x + 5) x (nSe σ 1) (nSe σ 2) (dMap (nNd σ x)) (dCa (nNd σ x)) (hW.po hx8).2.2.2.2 (hw.po hx8).2.2.1 y (by omega) hne) (by decide) (by decide) rfl rfl (Nat.le_of_ble_eq_true rfl) dX10_wayOf_18 (fun r18 S18 q18 => ?_)
    obtain ⟨rfl, rfl⟩ := q18
    refine X_goto (tgt := 25) hB dX10_wayOf_21 (by decide) ?_
    refine X_lret hB rfl dX10_wayOf_25 ?_
    rw [e6]
    exact ⟨rfl, rfl⟩
theorem sh_bts : ∀ t, t < 8 → bts (fun x => decide (x = t)) 8 = 1 <<< t := by decide +kernel
theorem or_to {p : Nat → Bool} {t : Nat} (ht : t < 8) (c : Bool) (h : p t = c) : nI (bts p t) ||| (if c then (1 : Int32) <<< (nI t &&& 31) else 0) = nI (bts p (t + 1)) := by
  show _ = nI (bts p t ||| if p t then 1 <<< t else 0)
  rw [h]
  cases c
  · simp
  · simp only [if_true]
    rw [sh_to t ht, nI_or, sh_bts t ht]
set_option maxRecDepth 100000 in
set_option maxHeartbeats 4000000 in
theorem l_X10_reached {E : Ev} (hB : Bd G E mX10_reached) {Q : Option Value → St → Prop} (w : Nat) (hW : WLay G w) (σ : Net) (hw : worldR S w σ) (b : Nat) (hN : wfN σ b) (n : Nat) (hn : n < nSe σ 0) (kk : Q (some (.int (nI (bts (fun t => decide (wayN σ n t ≠ []) && decide (t < nSe σ 0)) 8)))) S) :
    ∀ (j t : Nat), t + j = 8 → X G E mX10_reached 5 Q S 4 [some (.ref w), some (.int (nI n)), some (.int (nI (bts (fun t => decide (wayN σ n t ≠ []) && decide (t < nSe σ 0)) t))), some (.int (nI t))] [] := by
  have hc8 := hN.1.1.2
  intro j
  induction j with
  | zero =>
    intro t h1
    have e9 : t = 8 := by omega
    subst e9
    refine X_iload_n (i := 3) hB dX10_reached_4 rfl rfl ?_
    refine X_bipush (v := 8) hB dX10_reached_5 (by decide) ?_
    refine X_icmp_ge (tgt := 37) hB dX10_reached_7 (by decide) (fun c7 => ?_) (fun c7 => absurd c7 (by simp (disch := omega) only [nlit, nI_leI, nI_ltI]; omega))
    refine X_iload_n (i := 2) hB dX10_reached_37 rfl rfl ?_
    refine X_iret hB rfl dX10_reached_38 ?_
    exact kk
  | succ j ih =>
    intro t h1
    have ht8 : t < 8 := by omega
    have hn8 : n < 8 := by omega
    have hwr : okR (wayN σ n t) := by
      by_cases q : wayN σ n t = []
      · rw [q]; exact okR.nil
      · exact (wayN_good hn8 hN.1 (hN.o.no hn8) q).R
    have htw : two σ (nI n) (nI t) = if t < nSe σ 0 ∧ n ≠ t then some (n, t) else none := by
      unfold two
      rw [inN_nI hn (by omega)]
      by_cases q : t < nSe σ 0
      · rw [inN_nI q (by omega)]
        by_cases q2 : n = t
        · simp [q2]
        · simp [q, q2]
      · have : inN (nI t) (nSe σ 0) = none := by
          unfold inN
          rw [if_neg]
          rw [nI_toInt (by omega)]
          omega
        rw [this]; simp [q]
    have hself : n = t → wayN σ n t = [] := fun q => by unfold wayN wayOf; rw [if_pos q]
    have hval : (match two σ (nI n) (nI t) with
      | some (x, y) => rJ (wayN σ x y)
      | none => rJ []) = rJ (if t < nSe σ 0 then wayN σ n t else []) := by
      rw [htw]
      by_cases q : t < nSe σ 0
      · by_cases q2 : n = t
        · rw [if_neg (fun z => z.2 q2), if_pos q, hself q2]
        · rw [if_pos ⟨q, q2⟩, if_pos q]
      · rw [if_neg (fun z => q z.1), if_neg q]
    have hok : okR (if t < nSe σ 0 then wayN σ n t else []) := by split; (exact hwr); (exact okR.nil)
    refine X_iload_n (i := 3) hB dX10_reached_4 rfl rfl ?_
    refine X_bipush (v := 8) hB dX10_reached_5 (by decide) ?_
    refine X_icmp_ge (tgt := 37) hB dX10_reached_7 (by decide) (fun c7 => absurd c7 (by simp (disch := omega) only [nlit, nI_leI, nI_ltI]; omega)) (fun c7 => ?_)
    refine X_iload_n (i := 2) hB dX10_reached_10 rfl rfl ?_
    refine X_aload_n (i := 0) hB dX10_reached_11 rfl rfl ?_
    refine X_iload_n (i := 1) hB dX10_reached_12 rfl rfl ?_
    refine X_iload_n (i := 3) hB dX10_reached_13 rfl rfl ?_
    refine X_callV hB kX10_151 cw8 hW.1.1 hW.1.2 (c_X10_wayOf w hW σ hw hc8 (nI n) (nI t)) (by decide) (by decide) rfl rfl (Nat.le_of_ble_eq_true rfl) dX10_reached_14 (fun r14 S14 q14 => ?_)
    obtain ⟨rfl, rfl⟩ := q14
    refine X_topl (y := rJ (if t < nSe σ 0 then wayN σ n t else [])) (hval) ?_
    refine X_lconst (v := 0) hB dX10_reached_17 (by decide) ?_
    refine X_lcmp hB dX10_reached_18 ?_
    refine X_if_eq (tgt := 28) hB dX10_reached_19 (by decide) (fun c19 => ?_) (fun c19 => ?_)
    · refine X_iconst (v := 0) hB dX10_reached_28 (by decide) ?_
      have eb : (fun t => decide (wayN σ n t ≠ []) && decide (t < nSe σ 0)) t = false := by
        have := (cmp_0 hok).mp c19
        by_cases q : t < nSe σ 0
        · rw [if_pos q] at this
          simp only [this, ne_eq, not_true_eq_false, decide_false, Bool.false_and]
        · simp only [q, decide_false, Bool.and_false]
      refine X_topi (y := if false = true then (1 : Int32) <<< (nI t &&& 31) else 0) (rfl) ?_
      refine X_ior hB dX10_reached_29 ?_
      refine X_topi (y := nI (bts (fun t => decide (wayN σ n t ≠ []) && decide (t < nSe σ 0)) (t + 1))) (or_to ht8 false eb) ?_
      refine X_istore_n (i := 2) hB dX10_reached_30 rfl (by decide) rfl ?_
      refine X_iinc hB dX10_reached_31 rfl rfl (by decide) rfl ?_
      refine X_goto (tgt := 4) hB dX10_reached_34 (by decide) ?_
      refine X_lv ?_ (ih (t + 1) (by omega))
      · rw [nI_succ]; rfl
    · refine X_iconst (v := 1) hB dX10_reached_22 (by decide) ?_
      refine X_iload_n (i := 3) hB dX10_reached_23 rfl rfl ?_
      refine X_ishl hB dX10_reached_24 ?_
      refine X_goto (tgt := 29) hB dX10_reached_25 (by decide) ?_
      have eb : (fun t => decide (wayN σ n t ≠ []) && decide (t < nSe σ 0)) t = true := by
        have := (not_congr (cmp_0 hok)).mp c19
        by_cases q : t < nSe σ 0
        · rw [if_pos q] at this
          simp only [this, q, ne_eq, not_false_eq_true, decide_true, Bool.and_self]
        · rw [if_neg q] at this; exact absurd rfl this
      refine X_topi (y := if true then (1 : Int32) <<< (nI t &&& 31) else 0) (rfl) ?_
      refine X_ior hB dX10_reached_29 ?_
      refine X_topi (y := nI (bts (fun t => decide (wayN σ n t ≠ []) && decide (t < nSe σ 0)) (t + 1))) (or_to ht8 true eb) ?_
      refine X_istore_n (i := 2) hB dX10_reached_30 rfl (by decide) rfl ?_
      refine X_iinc hB dX10_reached_31 rfl rfl (by decide) rfl ?_
      refine X_goto (tgt := 4) hB dX10_reached_34 (by decide) ?_
      refine X_lv ?_ (ih (t + 1) (by omega))
      · rw [nI_succ]; rfl
set_option maxRecDepth 100000 in
set_option maxHeartbeats 4000000 in
theorem c_X10_reached (w : Nat) (hW : WLay G w) (σ : Net) (hw : worldR S w σ) (b : Nat) (hN : wfN σ b) (n : Nat) (hn : n < nSe σ 0) : C G mX10_reached 5 [.ref w, .int (nI n)] S (fun r S' => r = some (.int (nI (bts (fun t => decide (wayN σ n t ≠ [])) (nSe σ 0)))) ∧ S = S') := by
  have hc8 := hN.1.1.2
  have he : bts (fun t => decide (wayN σ n t ≠ []) && decide (t < nSe σ 0)) 8 = bts (fun t => decide (wayN σ n t ≠ [])) (nSe σ 0) := by
    rw [bts_cut hc8 (fun j h1 h2 => by rw [decide_eq_false (p := j < nSe σ 0) (by omega), Bool.and_false])]
    exact bts_ext2 (fun j hj => by rw [decide_eq_true (p := j < nSe σ 0) hj, Bool.and_true])
  refine C.mk (lv := [some (.ref w), some (.int (nI n)), none, none]) (by decide) (Nat.le_of_ble_eq_true rfl) rfl (fun E hB => ?_)
  refine X_iconst (v := 0) hB dX10_reached_0 (by decide) ?_
  refine X_istore_n (i := 2) hB dX10_reached_1 rfl (by decide) rfl ?_
  refine X_iconst (v := 0) hB dX10_reached_2 (by decide) ?_
  refine X_istore_n (i := 3) hB dX10_reached_3 rfl (by decide) rfl ?_
  refine X_lv ?_ (l_X10_reached hB w hW σ hw b hN n hn ⟨by rw [he], rfl⟩ 8 0 (by omega))
  rw [show bts (fun t => decide (wayN σ n t ≠ []) && decide (t < nSe σ 0)) 0 = 0 from rfl, nI_0]; rfl
set_option maxRecDepth 100000 in
set_option maxHeartbeats 4000000 in
theorem c_X5_waitingAt (p n : Nat) (hP : PoLay G p) (s : Nat → Nat) (x : Nd) (hp : poR S p n s x) (v : Int32) : C G mX5_waitingAt 0 [.ref p, .int v] S (fun r S' => r = some (.int (nth (dBu x) v)) ∧ S = S') := by
  obtain ⟨⟨f1, f2, f3, f4⟩, ⟨i1, i2, i3, i4, i5, i6, i7⟩, p3, p4, p5, p6⟩ := hp
  refine C.mk (lv := [some (.ref p), some (.int v)]) (by decide) (Nat.le_of_ble_eq_true rfl) rfl (fun E hB => ?_)
  refine X_iload_n (i := 1) hB dX5_waitingAt_0 rfl rfl ?_
  refine X_if_lt (tgt := 26) hB dX5_waitingAt_1 (by decide) (fun c1 => ?_) (fun c1 => ?_)
  · refine X_iconst (v := (-1)) hB dX5_waitingAt_26 (by decide) ?_
    refine X_iret hB rfl dX5_waitingAt_27 ?_
    have e9 : inN v (dBu x).length = none := by
      unfold inN
      rw [if_neg]
      rw [Int32.lt_iff_toInt_lt] at c1
      have : (0 : Int32).toInt = 0 := by decide
      omega
    unfold nth
    rw [e9]
    exact ⟨rfl, rfl⟩
  · obtain ⟨k, hk31, rfl⟩ := nI_of c1
    refine X_iload_n (i := 1) hB dX5_waitingAt_4 rfl rfl ?_
    refine X_aload_n (i := 0) hB dX5_waitingAt_5 rfl rfl ?_
    refine X_geti hB cw4 fX5_38 rfl hP.1.1 hP.1.2 dX5_waitingAt_6 ?_
    refine X_topi (y := nI (dBu x).length) (i1) ?_
    refine X_icmp_ge (tgt := 26) hB dX5_waitingAt_9 (by decide) (fun c9 => ?_) (fun c9 => ?_)
    · refine X_iconst (v := (-1)) hB dX5_waitingAt_26 (by decide) ?_
      refine X_iret hB rfl dX5_waitingAt_27 ?_
      have e9 : inN (nI k) (dBu x).length = none := by
        unfold inN
        rw [if_neg]
        rw [nI_leI (by omega) hk31] at c9
        rw [nI_toInt hk31]
        omega
      unfold nth
      rw [e9]
      exact ⟨rfl, rfl⟩
    · have hk : k < (dBu x).length := by
        rw [nI_leI (by omega) hk31] at c9
        omega
      refine X_iload_n (i := 1) hB dX5_waitingAt_12 rfl rfl ?_
      refine X_iconst (v := 4) hB dX5_waitingAt_13 (by decide) ?_
      refine X_icmp_ge (tgt := 26) hB dX5_waitingAt_14 (by decide) (fun c14 => absurd c14 (by simp (disch := omega) only [nlit, nI_leI, nI_ltI]; omega)) (fun c14 => ?_)
      refine X_aload_n (i := 0) hB dX5_waitingAt_17 rfl rfl ?_
      refine X_getr hB cw4 fX5_20 rfl hP.1.1 hP.1.2 f3 dX5_waitingAt_18 ?_
      refine X_iload_n (i := 1) hB dX5_waitingAt_21 rfl rfl ?_
      refine X_ialdN hB (k) hP.2.2.1.1 hP.2.2.1.2 (by decide) rfl (by omega) (i6 k hk) dX5_waitingAt_22 ?_
      refine X_goto (tgt := 27) hB dX5_waitingAt_23 (by decide) ?_
      refine X_iret hB rfl dX5_waitingAt_27 ?_
      unfold nth
      rw [inN_nI hk hk31]
      exact ⟨rfl, rfl⟩
set_option maxRecDepth 100000 in
set_option maxHeartbeats 4000000 in
theorem c_X10_tellNode (w : Nat) (hW : WLay G w) (σ : Net) (hw : worldR S w σ) (b : Nat) (hN : wfN σ b) (n : Nat) (hn : n < nSe σ 0) (v : Int32) : C G mX10_tellNode 6 [.ref w, .int (nI n), .int v] S (fun r S' => r = some (.int (match inN v 10 with
  | some y => ndW σ n y
  | none => -2)) ∧ S = S') := by
  have hc8 := hN.1.1.2
  have hn8 : n < 8 := by omega
  have hPo := hW.po hn8
  have hCa := hPo.2.2.2.2
  obtain ⟨⟨f1, f2, f3, f4⟩, ⟨i1, i2, i3, i4, i5, i6, i7⟩, p3, p4, p5, p6⟩ := hw.po hn8
  have hcr := p3.1
  have hcm := p3.2.2.1
  have hcc : S.1 (pA w n + 5 + 1) 1 = nI (dCa (nNd σ n)).length := p3.rc.2.1.trans (by rw [List.length_map])
  refine C.mk (lv := [some (.ref w), some (.int (nI n)), some (.int v), none]) (by decide) (Nat.le_of_ble_eq_true rfl) rfl (fun E hB => ?_)
  refine X_aload_n (i := 0) hB dX10_tellNode_0 rfl rfl ?_
  refine X_iload_n (i := 1) hB dX10_tellNode_1 rfl rfl ?_
  refine X_callV hB kX10_102 cw8 hW.1.1 hW.1.2 (c_X10_post w hW hw.1 n hn8) (by decide) (by decide) rfl rfl (Nat.le_of_ble_eq_true rfl) dX10_tellNode_2 (fun r2 S2 q2 => ?_)
  obtain ⟨rfl, rfl⟩ := q2
  refine X_astore_n (i := 3) hB dX10_tellNode_5 rfl (by decide) rfl ?_
  refine X_iload_n (i := 2) hB dX10_tellNode_6 rfl rfl ?_
  cases eW : inN v 10 with
  | none =>
    refine X_tableOut (tgt := 143) hB dX10_tellNode_7 (by have := inN_out eW; omega) (by decide) ?_
    refine X_bipush (v := (-2)) hB dX10_tellNode_143 (by decide) ?_
    refine X_iret hB rfl dX10_tellNode_145 ?_
    exact ⟨rfl, rfl⟩
  | some y =>
    obtain ⟨ly, rfl⟩ := inN_some eW
    rcases (show y = 0 ∨ y = 1 ∨ y = 2 ∨ y = 3 ∨ y = 4 ∨ y = 5 ∨ y = 6 ∨ y = 7 ∨ y = 8 ∨ y = 9 by omega) with rfl | rfl | rfl | rfl | rfl | rfl | rfl | rfl | rfl | rfl
    · refine X_tableIn (tgt := 60) hB dX10_tellNode_7 (by decide) (by decide) (by rfl) (by decide) ?_
      refine X_aload_n (i := 3) hB dX10_tellNode_60 rfl rfl ?_
      refine X_getr hB cw4 fX10_72 rfl hPo.1.1 hPo.1.2 f1 dX10_tellNode_61 ?_
      refine X_geti hB cw1 fX10_112 rfl hPo.2.2.2.2.1.1 hPo.2.2.2.2.1.2 dX10_tellNode_64 ?_
      refine X_topi (y := if dMap (nNd σ n) then 1 else 0) (hcm) ?_
      refine X_if_eq (tgt := 74) hB dX10_tellNode_67 (by decide) (fun c67 => ?_) (fun c67 => ?_)
      · refine X_iconst (v := 0) hB dX10_tellNode_74 (by decide) ?_
        refine X_iret hB rfl dX10_tellNode_75 ?_
        have e0 := if1n c67
        exact ⟨by show _ = some (Value.int (if dMap (nNd σ n) then 1 else 0)); rw [if_neg e0], rfl⟩
      · refine X_iconst (v := 1) hB dX10_tellNode_70 (by decide) ?_
        refine X_goto (tgt := 75) hB dX10_tellNode_71 (by decide) ?_
        refine X_iret hB rfl dX10_tellNode_75 ?_
        have e0 := if1 c67
        exact ⟨by show _ = some (Value.int (if dMap (nNd σ n) then 1 else 0)); rw [if_pos e0], rfl⟩
    · refine X_tableIn (tgt := 76) hB dX10_tellNode_7 (by decide) (by decide) (by rfl) (by decide) ?_
      refine X_aload_n (i := 3) hB dX10_tellNode_76 rfl rfl ?_
      refine X_geti hB cw4 fX10_116 rfl hPo.1.1 hPo.1.2 dX10_tellNode_77 ?_
      refine X_topi (y := if dLis (nNd σ n) then 1 else 0) (i5) ?_
      refine X_if_eq (tgt := 87) hB dX10_tellNode_80 (by decide) (fun c80 => ?_) (fun c80 => ?_)
      · refine X_iconst (v := 0) hB dX10_tellNode_87 (by decide) ?_
        refine X_iret hB rfl dX10_tellNode_88 ?_
        have e0 := if1n c80
        exact ⟨by show _ = some (Value.int (if dLis (nNd σ n) then 1 else 0)); rw [if_neg e0], rfl⟩
      · refine X_iconst (v := 1) hB dX10_tellNode_83 (by decide) ?_
        refine X_goto (tgt := 88) hB dX10_tellNode_84 (by decide) ?_
        refine X_iret hB rfl dX10_tellNode_88 ?_
        have e0 := if1 c80
        exact ⟨by show _ = some (Value.int (if dLis (nNd σ n) then 1 else 0)); rw [if_pos e0], rfl⟩
    · refine X_tableIn (tgt := 89) hB dX10_tellNode_7 (by decide) (by decide) (by rfl) (by decide) ?_
      refine X_aload_n (i := 3) hB dX10_tellNode_89 rfl rfl ?_
      refine X_getr hB cw4 fX10_72 rfl hPo.1.1 hPo.1.2 f1 dX10_tellNode_90 ?_
      refine X_getr hB cw1 fX10_119 rfl hPo.2.2.2.2.1.1 hPo.2.2.2.2.1.2 hcr dX10_tellNode_93 ?_
      refine X_geti hB cw6 fX10_123 rfl hCa.2.1.1 hCa.2.1.2 dX10_tellNode_96 ?_
      refine X_iret hB rfl dX10_tellNode_99 ?_
      refine ⟨?_, rfl⟩
      exact congrArg (fun z => some (Value.int z)) hcc
    · refine X_tableIn (tgt := 100) hB dX10_tellNode_7 (by decide) (by decide) (by rfl) (by decide) ?_
      refine X_aload_n (i := 3) hB dX10_tellNode_100 rfl rfl ?_
      refine X_geti hB cw4 fX10_126 rfl hPo.1.1 hPo.1.2 dX10_tellNode_101 ?_
      refine X_iret hB rfl dX10_tellNode_104 ?_
      refine ⟨?_, rfl⟩
      exact congrArg (fun z => some (Value.int z)) i1
    · refine X_tableIn (tgt := 105) hB dX10_tellNode_7 (by decide) (by decide) (by rfl) (by decide) ?_
      refine X_aload_n (i := 3) hB dX10_tellNode_105 rfl rfl ?_
      refine X_geti hB cw4 fX10_129 rfl hPo.1.1 hPo.1.2 dX10_tellNode_106 ?_
      refine X_iret hB rfl dX10_tellNode_109 ?_
      refine ⟨?_, rfl⟩
      exact congrArg (fun z => some (Value.int z)) i2
    · refine X_tableIn (tgt := 110) hB dX10_tellNode_7 (by decide) (by decide) (by rfl) (by decide) ?_
      refine X_aload_n (i := 3) hB dX10_tellNode_110 rfl rfl ?_
      refine X_geti hB cw4 fX10_132 rfl hPo.1.1 hPo.1.2 dX10_tellNode_111 ?_
      refine X_iret hB rfl dX10_tellNode_114 ?_
      refine ⟨?_, rfl⟩
      exact congrArg (fun z => some (Value.int z)) i3
    · refine X_tableIn (tgt := 115) hB dX10_tellNode_7 (by decide) (by decide) (by rfl) (by decide) ?_
      refine X_aload_n (i := 3) hB dX10_tellNode_115 rfl rfl ?_
      refine X_getr hB cw4 fX10_135 rfl hPo.1.1 hPo.1.2 f2 dX10_tellNode_116 ?_
      refine X_geti hB cw6 fX10_123 rfl hPo.2.1.1.1 hPo.2.1.1.2 dX10_tellNode_119 ?_
      refine X_iret hB rfl dX10_tellNode_122 ?_
      refine ⟨?_, rfl⟩
      exact congrArg (fun z => some (Value.int z)) (p4.2.1.trans (show nI ((dTb (nNd σ n)).map tbJ).length = nI (dTb (nNd σ n)).length by rw [List.length_map]))
    · refine X_tableIn (tgt := 123) hB dX10_tellNode_7 (by decide) (by decide) (by rfl) (by decide) ?_
      refine X_aload_n (i := 3) hB dX10_tellNode_123 rfl rfl ?_
      refine X_geti hB cw4 fX10_138 rfl hPo.1.1 hPo.1.2 dX10_tellNode_124 ?_
      refine X_iret hB rfl dX10_tellNode_127 ?_
      refine ⟨?_, rfl⟩
      refine congrArg (fun z => some (Value.int z)) (i4.trans (congrArg nI (bts_cut hc8 (fun j h1 h2 => ?_))))
      exact decide_eq_false (fun q => absurd (hw.cv.2.2 n j hn8 q) (by omega))
    · refine X_tableIn (tgt := 128) hB dX10_tellNode_7 (by decide) (by decide) (by rfl) (by decide) ?_
      refine X_aload_n (i := 0) hB dX10_tellNode_128 rfl rfl ?_
      refine X_iload_n (i := 1) hB dX10_tellNode_129 rfl rfl ?_
      refine X_callV hB kX10_141 cw8 hW.1.1 hW.1.2 (c_X10_reached w hW σ hw b hN n hn) (by decide) (by decide) rfl rfl (Nat.le_of_ble_eq_true rfl) dX10_tellNode_130 (fun r130 S130 q130 => ?_)
      obtain ⟨rfl, rfl⟩ := q130
      refine X_iret hB rfl dX10_tellNode_133 ?_
      refine ⟨?_, rfl⟩
      rfl
    · refine X_tableIn (tgt := 134) hB dX10_tellNode_7 (by decide) (by decide) (by rfl) (by decide) ?_
      refine X_aload_n (i := 0) hB dX10_tellNode_134 rfl rfl ?_
      refine X_getj hB cw8 fX10_64 rfl hW.1.1 hW.1.2 dX10_tellNode_135 ?_
      refine X_iload_n (i := 1) hB dX10_tellNode_138 rfl rfl ?_
      refine X_callS hB kX10_145 (c_X4_near hw.2.1.2.2.2.2 hn8) (by decide) (by decide) rfl rfl (Nat.le_of_ble_eq_true rfl) dX10_tellNode_139 (fun r139 S139 q139 => ?_)
      obtain ⟨rfl, rfl⟩ := q139
      refine X_iret hB rfl dX10_tellNode_142 ?_
      refine ⟨?_, rfl⟩
      have hu := hN.2.2.2.2.2.2.1
      refine congrArg (fun z => some (Value.int (nI z))) ((bts_cut hc8 (fun j h1 h2 => ?_)).trans (bts_ext2 (fun j hj => ?_)))
      · cases q : nUp σ n j
        · rfl
        · have := (hu _ _ q).2.1; omega
      · cases q : nUp σ n j
        · simp [q]
        · have := (hu _ _ q).2.2.1
          rw [decide_eq_true ⟨fun z => this z.symm, rfl⟩]
set_option maxRecDepth 100000 in
set_option maxHeartbeats 4000000 in
theorem c_X10_tellData (w : Nat) (hW : WLay G w) (σ : Net) (hw : worldR S w σ) (b : Nat) (hN : wfN σ b) (u v : Int32) : C G mX10_tellData 1 [.ref w, .int u, .int v] S (fun r S' => r = some (.int (aData σ u v)) ∧ S = S') := by
  have h40 := hw.l40.2
  refine C.mk (lv := [some (.ref w), some (.int u), some (.int v), none]) (by decide) (Nat.le_of_ble_eq_true rfl) rfl (fun E hB => ?_)
  refine X_iload_n (i := 1) hB dX10_tellData_0 rfl rfl ?_
  refine X_if_lt (tgt := 12) hB dX10_tellData_1 (by decide) (fun c1 => ?_) (fun c1 => ?_)
  · refine X_bipush (v := (-2)) hB dX10_tellData_12 (by decide) ?_
    refine X_iret hB rfl dX10_tellData_14 ?_
    have e9 : inN u (nDa σ).length = none := by
      unfold inN
      rw [if_neg]
      rw [Int32.lt_iff_toInt_lt] at c1
      have : (0 : Int32).toInt = 0 := by decide
      omega
    unfold aData
    rw [e9]
    exact ⟨rfl, rfl⟩
  · obtain ⟨k, hk31, rfl⟩ := nI_of c1
    refine X_iload_n (i := 1) hB dX10_tellData_4 rfl rfl ?_
    refine X_aload_n (i := 0) hB dX10_tellData_5 rfl rfl ?_
    refine X_geti hB cw8 fX10_54 rfl hW.1.1 hW.1.2 dX10_tellData_6 ?_
    refine X_topi (y := nI (nDa σ).length) (hw.2.1.2.2.1) ?_
    refine X_icmp_lt (tgt := 15) hB dX10_tellData_9 (by decide) (fun c9 => ?_) (fun c9 => ?_)
    · have hk : k < (nDa σ).length := by
        rw [nI_ltI hk31 (by omega)] at c9
        omega
      have hD := hW.dd (show k < 40 by omega)
      have hdk := hN.da hk
      obtain ⟨z1, z2, z3, z4, z5, z6, z7, z8, z9, z10⟩ := hw.dc hk
      have ed : aData σ (nI k) v = aDat (dat σ k) v := by unfold aData; rw [inN_nI hk hk31]
      rw [ed]
      unfold aDat
      refine X_aload_n (i := 0) hB dX10_tellData_15 rfl rfl ?_
      refine X_iload_n (i := 1) hB dX10_tellData_16 rfl rfl ?_
      refine X_callV hB kX10_155 cw8 hW.1.1 hW.1.2 (c_X10_datum w hW hw.1 k (by omega)) (by decide) (by decide) rfl rfl (Nat.le_of_ble_eq_true rfl) dX10_tellData_17 (fun r17 S17 q17 => ?_)
      obtain ⟨rfl, rfl⟩ := q17
      refine X_astore_n (i := 3) hB dX10_tellData_20 rfl (by decide) rfl ?_
      refine X_iload_n (i := 2) hB dX10_tellData_21 rfl rfl ?_
      cases eW : inN v 9 with
      | none =>
        refine X_tableOut (tgt := 123) hB dX10_tellData_22 (by have := inN_out eW; omega) (by decide) ?_
        refine X_bipush (v := (-2)) hB dX10_tellData_123 (by decide) ?_
        refine X_iret hB rfl dX10_tellData_125 ?_
        exact ⟨rfl, rfl⟩
      | some y =>
        obtain ⟨ly, rfl⟩ := inN_some eW
        rcases (show y = 0 ∨ y = 1 ∨ y = 2 ∨ y = 3 ∨ y = 4 ∨ y = 5 ∨ y = 6 ∨ y = 7 ∨ y = 8 by omega) with rfl | rfl | rfl | rfl | rfl | rfl | rfl | rfl | rfl
        · refine X_tableIn (tgt := 72) hB dX10_tellData_22 (by decide) (by decide) (by rfl) (by decide) ?_
          refine X_aload_n (i := 3) hB dX10_tellData_72 rfl rfl ?_
          refine X_geti hB cw2 fX10_159 rfl hD.1 hD.2 dX10_tellData_73 ?_
          refine X_iret hB rfl dX10_tellData_76 ?_
          exact ⟨congrArg (fun z => some (Value.int z)) z1, rfl⟩
        · refine X_tableIn (tgt := 77) hB dX10_tellData_22 (by decide) (by decide) (by rfl) (by decide) ?_
          refine X_aload_n (i := 3) hB dX10_tellData_77 rfl rfl ?_
          refine X_geti hB cw2 fX10_162 rfl hD.1 hD.2 dX10_tellData_78 ?_
          refine X_iret hB rfl dX10_tellData_81 ?_
          exact ⟨congrArg (fun z => some (Value.int z)) z2, rfl⟩
        · refine X_tableIn (tgt := 82) hB dX10_tellData_22 (by decide) (by decide) (by rfl) (by decide) ?_
          refine X_aload_n (i := 3) hB dX10_tellData_82 rfl rfl ?_
          refine X_geti hB cw2 fX10_165 rfl hD.1 hD.2 dX10_tellData_83 ?_
          refine X_iret hB rfl dX10_tellData_86 ?_
          exact ⟨congrArg (fun z => some (Value.int z)) z3, rfl⟩
        · refine X_tableIn (tgt := 87) hB dX10_tellData_22 (by decide) (by decide) (by rfl) (by decide) ?_
          refine X_aload_n (i := 3) hB dX10_tellData_87 rfl rfl ?_
          refine X_geti hB cw2 fX10_168 rfl hD.1 hD.2 dX10_tellData_88 ?_
          refine X_iret hB rfl dX10_tellData_91 ?_
          exact ⟨congrArg (fun z => some (Value.int z)) z4, rfl⟩
        · refine X_tableIn (tgt := 92) hB dX10_tellData_22 (by decide) (by decide) (by rfl) (by decide) ?_
          refine X_aload_n (i := 3) hB dX10_tellData_92 rfl rfl ?_
          refine X_getj hB cw2 fX10_171 rfl hD.1 hD.2 dX10_tellData_93 ?_
          refine X_topl (y := rJ (aTr (dat σ k))) (z6) ?_
          refine X_callS hB kX10_174 (c_X8_length (aTr (dat σ k)) ⟨(daOk_len hdk).1, hdk.2.1.2.2.1⟩) (by decide) (by decide) rfl rfl (Nat.le_of_ble_eq_true rfl) dX10_tellData_96 (fun r96 S96 q96 => ?_)
          obtain ⟨rfl, rfl⟩ := q96
          refine X_iret hB rfl dX10_tellData_99 ?_
          exact ⟨rfl, rfl⟩
        · refine X_tableIn (tgt := 100) hB dX10_tellData_22 (by decide) (by decide) (by rfl) (by decide) ?_
          refine X_aload_n (i := 3) hB dX10_tellData_100 rfl rfl ?_
          refine X_getj hB cw2 fX10_178 rfl hD.1 hD.2 dX10_tellData_101 ?_
          refine X_topl (y := rJ (aRe (dat σ k))) (z5) ?_
          refine X_callS hB kX10_174 (c_X8_length (aRe (dat σ k)) ⟨(daOk_len hdk).2, hdk.2.1.2.2.2.1⟩) (by decide) (by decide) rfl rfl (Nat.le_of_ble_eq_true rfl) dX10_tellData_104 (fun r104 S104 q104 => ?_)
          obtain ⟨rfl, rfl⟩ := q104
          refine X_iret hB rfl dX10_tellData_107 ?_
          exact ⟨rfl, rfl⟩
        · refine X_tableIn (tgt := 108) hB dX10_tellData_22 (by decide) (by decide) (by rfl) (by decide) ?_
          refine X_aload_n (i := 3) hB dX10_tellData_108 rfl rfl ?_
          refine X_geti hB cw2 fX10_181 rfl hD.1 hD.2 dX10_tellData_109 ?_
          refine X_iret hB rfl dX10_tellData_112 ?_
          exact ⟨congrArg (fun z => some (Value.int z)) z7, rfl⟩
        · refine X_tableIn (tgt := 113) hB dX10_tellData_22 (by decide) (by decide) (by rfl) (by decide) ?_
          refine X_aload_n (i := 3) hB dX10_tellData_113 rfl rfl ?_
          refine X_geti hB cw2 fX10_184 rfl hD.1 hD.2 dX10_tellData_114 ?_
          refine X_iret hB rfl dX10_tellData_117 ?_
          exact ⟨congrArg (fun z => some (Value.int z)) z8, rfl⟩
        · refine X_tableIn (tgt := 118) hB dX10_tellData_22 (by decide) (by decide) (by rfl) (by decide) ?_
          refine X_aload_n (i := 3) hB dX10_tellData_118 rfl rfl ?_
          refine X_geti hB cw2 fX10_187 rfl hD.1 hD.2 dX10_tellData_119 ?_
          refine X_iret hB rfl dX10_tellData_122 ?_
          exact ⟨congrArg (fun z => some (Value.int z)) z10, rfl⟩
    · refine X_bipush (v := (-2)) hB dX10_tellData_12 (by decide) ?_
      refine X_iret hB rfl dX10_tellData_14 ?_
      have e9 : inN (nI k) (nDa σ).length = none := by
        unfold inN
        rw [if_neg]
        rw [nI_ltI hk31 (by omega)] at c9
        rw [nI_toInt hk31]
        omega
      unfold aData
      rw [e9]
      exact ⟨rfl, rfl⟩
def cntW (σ : Net) (v : Int32) : Int32 := match inN v 13 with
  | some y => cntA σ y
  | none => -1
set_option maxRecDepth 100000 in
set_option maxHeartbeats 4000000 in
theorem c_X10_tellCount (w : Nat) (hW : WLay G w) (σ : Net) (hw : worldR S w σ) (b : Nat) (hN : wfN σ b) (hb : bcN σ) (v : Int32) : C G mX10_tellCount 1 [.ref w, .int v] S (fun r S' => r = some (.int (cntW σ v)) ∧ S = S') := by
  obtain ⟨s, p, ha⟩ := hw.2.2.1
  have h40 := hw.l40
  have hsm := bcN.sum hN hb
  refine C.mk (lv := [some (.ref w), some (.int v)]) (by decide) (Nat.le_of_ble_eq_true rfl) rfl (fun E hB => ?_)
  refine X_iload_n (i := 1) hB dX10_tellCount_0 rfl rfl ?_
  refine X_if_lt (tgt := 17) hB dX10_tellCount_1 (by decide) (fun c1 => ?_) (fun c1 => ?_)
  · refine X_iload_n (i := 1) hB dX10_tellCount_17 rfl rfl ?_
    refine X_bipush (v := 11) hB dX10_tellCount_18 (by decide) ?_
    refine X_icmp_ne (tgt := 33) hB dX10_tellCount_20 (by decide) (fun c20 => ?_) (fun c20 => absurd c20 (fun q => by rw [q] at c1; exact absurd c1 (by decide)))
    refine X_iload_n (i := 1) hB dX10_tellCount_33 rfl rfl ?_
    refine X_bipush (v := 12) hB dX10_tellCount_34 (by decide) ?_
    refine X_icmp_ne (tgt := 46) hB dX10_tellCount_36 (by decide) (fun c36 => ?_) (fun c36 => absurd c36 (fun q => by rw [q] at c1; exact absurd c1 (by decide)))
    refine X_iconst (v := (-1)) hB dX10_tellCount_46 (by decide) ?_
    refine X_iret hB rfl dX10_tellCount_47 ?_
    have e9 : inN v 13 = none := by
      unfold inN
      rw [if_neg]
      rw [Int32.lt_iff_toInt_lt] at c1
      have : (0 : Int32).toInt = 0 := by decide
      omega
    unfold cntW
    rw [e9]
    exact ⟨rfl, rfl⟩
  · obtain ⟨k, hk31, rfl⟩ := nI_of c1
    refine X_iload_n (i := 1) hB dX10_tellCount_4 rfl rfl ?_
    refine X_bipush (v := 11) hB dX10_tellCount_5 (by decide) ?_
    refine X_icmp_ge (tgt := 17) hB dX10_tellCount_7 (by decide) (fun c7 => ?_) (fun c7 => ?_)
    · refine X_iload_n (i := 1) hB dX10_tellCount_17 rfl rfl ?_
      refine X_bipush (v := 11) hB dX10_tellCount_18 (by decide) ?_
      refine X_icmp_ne (tgt := 33) hB dX10_tellCount_20 (by decide) (fun c20 => ?_) (fun c20 => ?_)
      · refine X_iload_n (i := 1) hB dX10_tellCount_33 rfl rfl ?_
        refine X_bipush (v := 12) hB dX10_tellCount_34 (by decide) ?_
        refine X_icmp_ne (tgt := 46) hB dX10_tellCount_36 (by decide) (fun c36 => ?_) (fun c36 => ?_)
        · refine X_iconst (v := (-1)) hB dX10_tellCount_46 (by decide) ?_
          refine X_iret hB rfl dX10_tellCount_47 ?_
          have e20 : ¬ k = 11 := fun q => c20 (by rw [q]; rfl)
          have e36 : ¬ k = 12 := fun q => c36 (by rw [q]; rfl)
          have e9 : inN (nI k) 13 = none := by
            unfold inN
            rw [if_neg]
            rw [show (11 : Int32) = nI 11 from rfl, nI_leI (by omega) hk31] at c7
            rw [nI_toInt hk31]
            omega
          unfold cntW
          rw [e9]
          exact ⟨rfl, rfl⟩
        · refine X_aload_n (i := 0) hB dX10_tellCount_39 rfl rfl ?_
          refine X_callV hB kX10_190 cw8 hW.1.1 hW.1.2 (c_X10_buffered w hW σ hw) (by decide) (by decide) rfl rfl (Nat.le_of_ble_eq_true rfl) dX10_tellCount_40 (fun r40 S40 q40 => ?_)
          obtain ⟨rfl, rfl⟩ := q40
          refine X_goto (tgt := 47) hB dX10_tellCount_43 (by decide) ?_
          refine X_iret hB rfl dX10_tellCount_47 ?_
          have e36 : k = 12 := (nI_eq (b := 12) (by omega) (by omega)).mp c36
          subst e36
          refine ⟨?_, rfl⟩
          show some (Value.int (nI (smN (fun n => (dBu (nNd σ n)).length) 8))) = _
          rw [hsm]
          rfl
      · refine X_aload_n (i := 0) hB dX10_tellCount_23 rfl rfl ?_
        refine X_getr hB cw8 fX10_21 rfl hW.1.1 hW.1.2 hw.1.2.2.1 dX10_tellCount_24 ?_
        refine X_geti hB cw0 fX10_50 rfl hW.2.2.2.1.1 hW.2.2.2.1.2 dX10_tellCount_27 ?_
        refine X_topi (y := nI (nAir σ).length) (ha.2.2.1) ?_
        refine X_goto (tgt := 47) hB dX10_tellCount_30 (by decide) ?_
        refine X_iret hB rfl dX10_tellCount_47 ?_
        have e20 : k = 11 := (nI_eq (b := 11) (by omega) (by omega)).mp c20
        subst e20
        exact ⟨rfl, rfl⟩
    · have hk : k < 11 := by
        rw [show (11 : Int32) = nI 11 from rfl, nI_leI (by omega) hk31] at c7
        omega
      refine X_aload_n (i := 0) hB dX10_tellCount_10 rfl rfl ?_
      refine X_getr hB cw8 fX10_15 rfl hW.1.1 hW.1.2 hw.1.2.1 dX10_tellCount_11 ?_
      refine X_iload_n (i := 1) hB dX10_tellCount_14 rfl rfl ?_
      refine X_ialdN hB (k) hW.2.2.1.1 hW.2.2.1.2 (by decide) rfl (by omega) (hw.2.1.2.1 k hk) dX10_tellCount_15 ?_
      refine X_iret hB rfl dX10_tellCount_16 ?_
      unfold cntW
      rw [inN_nI (by omega) hk31]
      exact ⟨congrArg (fun z => some (Value.int z)) (if_pos hk).symm, rfl⟩
set_option maxRecDepth 100000 in
set_option maxHeartbeats 4000000 in
theorem c_X10_bring (w : Nat) (hW : WLay G w) (σ : Net) (hw : worldR S w σ) (b : Nat) (hN : wfN σ b) (hb : b + 1 < 100000) (u v : Int32) : C G mX10_bring 5 [.ref w, .int u, .int v] S (fun r S' => r = some (.int (aSend σ u v).1) ∧ worldR S' w (aSend σ u v).2 ∧ wch w S S') := by
  have h40 := hw.l40.2
  have hc8 := hN.1.1.2
  refine C.mk (lv := [some (.ref w), some (.int u), some (.int v), none]) (by decide) (Nat.le_of_ble_eq_true rfl) rfl (fun E hB => ?_)
  refine X_aload_n (i := 0) hB dX10_bring_0 rfl rfl ?_
  refine X_iload_n (i := 1) hB dX10_bring_1 rfl rfl ?_
  refine X_iload_n (i := 2) hB dX10_bring_2 rfl rfl ?_
  refine X_callV hB kX10_98 cw8 hW.1.1 hW.1.2 (c_X10_areTwo w hW σ hw hc8 u v) (by decide) (by decide) rfl rfl (Nat.le_of_ble_eq_true rfl) dX10_bring_3 (fun r3 S3 q3 => ?_)
  obtain ⟨rfl, rfl⟩ := q3
  refine X_if_eq (tgt := 18) hB dX10_bring_6 (by decide) (fun c6 => ?_) (fun c6 => ?_)
  · refine X_iconst (v := (-1)) hB dX10_bring_18 (by decide) ?_
    refine X_iret hB rfl dX10_bring_19 ?_
    have e6 := if0 c6
    have ea : aSend σ u v = (-1, σ) := by unfold aSend; rw [e6]
    rw [ea]
    exact ⟨rfl, hw, wch.rf⟩
  · obtain ⟨⟨x, y⟩, e6⟩ := opt_ex (if0n c6)
    obtain ⟨rfl, rfl, hx, hy, hne⟩ := two_some e6
    refine X_aload_n (i := 0) hB dX10_bring_9 rfl rfl ?_
    refine X_geti hB cw8 fX10_54 rfl hW.1.1 hW.1.2 dX10_bring_10 ?_
    refine X_topi (y := nI (nDa σ).length) (hw.2.1.2.2.1) ?_
    refine X_bipush (v := 40) hB dX10_bring_13 (by decide) ?_
    refine X_icmp_lt (tgt := 20) hB dX10_bring_15 (by decide) (fun c15 => ?_) (fun c15 => ?_)
    · have hl : (nDa σ).length < 40 := by
        rw [show (40 : Int32) = nI 40 from rfl, nI_ltI (by omega) (by omega)] at c15
        exact c15
      have hD := hW.dd hl
      have hwd : (dA w (nDa σ).length) ≠ w := by unfold dA; omega
      refine X_aload_n (i := 0) hB dX10_bring_20 rfl rfl ?_
      refine X_aload_n (i := 0) hB dX10_bring_21 rfl rfl ?_
      refine X_geti hB cw8 fX10_54 rfl hW.1.1 hW.1.2 dX10_bring_22 ?_
      refine X_topi (y := nI (nDa σ).length) (hw.2.1.2.2.1) ?_
      refine X_callV hB kX10_155 cw8 hW.1.1 hW.1.2 (c_X10_datum w hW hw.1 (nDa σ).length hl) (by decide) (by decide) rfl rfl (Nat.le_of_ble_eq_true rfl) dX10_bring_25 (fun r25 S25 q25 => ?_)
      obtain ⟨rfl, rfl⟩ := q25
      refine X_astore_n (i := 3) hB dX10_bring_28 rfl (by decide) rfl ?_
      refine X_aload_n (i := 0) hB dX10_bring_29 rfl rfl ?_
      refine X_dup hB dX10_bring_30 rfl ?_
      refine X_geti hB cw8 fX10_54 rfl hW.1.1 hW.1.2 dX10_bring_31 ?_
      refine X_topi (y := nI (nDa σ).length) (hw.2.1.2.2.1) ?_
      refine X_iconst (v := 1) hB dX10_bring_34 (by decide) ?_
      refine X_iadd hB dX10_bring_35 ?_
      refine X_topi (y := nI ((nDa σ).length + 1)) (by first | rfl | (simp (disch := omega) only [nlit, nI_add, nI_mul, nI_sub]; done) | (simp (disch := omega) only [nlit, nI_add, nI_mul, nI_sub]; (congr 1 <;> omega))) ?_
      refine X_puti hB cw8 fX10_54 rfl rfl hW.1.1 hW.1.2 dX10_bring_36 ?_
      refine X_aload_n (i := 3) hB dX10_bring_39 rfl rfl ?_
      refine X_iload_n (i := 1) hB dX10_bring_40 rfl rfl ?_
      refine X_iload_n (i := 2) hB dX10_bring_41 rfl rfl ?_
      refine X_aload_n (i := 0) hB dX10_bring_42 rfl rfl ?_
      refine X_geti hB cw8 fX10_57 rfl hW.1.1 hW.1.2 dX10_bring_43 ?_
      refine X_topi (y := nI (nNow σ)) (by rw [setI_ne _ _ (Or.inr (by decide))]; exact hw.2.1.2.2.2.1) ?_
      refine X_callV hB kX10_194 cw2 hD.1 hD.2 (c_X2_begin (dA w (nDa σ).length) hD x (by omega) (nI y) (nI (nNow σ))) (by decide) (by decide) rfl rfl (Nat.le_of_ble_eq_true rfl) dX10_bring_46 (fun r46 S46 q46 => ?_)
      obtain ⟨rfl, g1, g2, y0, y1, y2, y3, y4, y5, y6, y7, y8, y9, y10⟩ := q46
      obtain ⟨hw2, hc2⟩ : worldR S46 w (pushD σ (dSi (newD x y (nNow σ)) (nNow σ))) ∧ wch w S S46 := by
        refine psh_world hw hl (fun f hf hk => ((hN.2.2.2.1 f hf).2.1 hk).1) ⟨hx, hy⟩ (by rw [g2]; rfl) (fun a h1 h2 => ?_) ?_ ?_ ?_ ?_ ⟨y1, y2, y3, y4, y5, y6, y7, y8, fun _ => y9, y10⟩
        · have := g1 a (by omega)
          exact ⟨by rw [this.1, setI_row _ _ _ h1], this.2.1⟩
        · rw [(g1 w (by unfold dA; omega)).1, setI_at]
        · rw [(g1 w (by unfold dA; omega)).1, setI_ne _ _ (Or.inr (by decide))]
        · exact (g1 w (by unfold dA; omega)).2.1
        · rw [y0, setI_row _ _ _ hwd]
      have hdb : daB (dat (pushD σ (dSi (newD x y (nNow σ)) (nNow σ))) (nDa σ).length) := by
        rw [psh_new]
        exact ⟨⟨show x < 8 by omega, show y < 8 by omega, hne, show 0 < 256 by omega, show 0 ≤ 3 by omega⟩, Nat.le_refl 1, List.nodup_cons.mpr ⟨by simp, List.nodup_nil⟩, fun y hy => by rw [List.mem_singleton.mp hy]; show x < 8; omega, rfl⟩
      refine X_aload_n (i := 0) hB dX10_bring_49 rfl rfl ?_
      refine X_aload_n (i := 3) hB dX10_bring_50 rfl rfl ?_
      refine X_callV hB kX10_197 cw8 hW.1.1 hW.1.2 (c_X10_serve w hW (pushD σ (dSi (newD x y (nNow σ)) (nNow σ))) hw2 b (nDa σ).length (psh_wfO hN hl) (by rw [psh_len]; omega) hdb (by rw [psh_new]; rfl)) (by decide) (by decide) rfl rfl (Nat.le_of_ble_eq_true rfl) dX10_bring_51 (fun r51 S51 q51 => ?_)
      obtain ⟨rfl, k1, k2⟩ := q51
      refine X_aload_n (i := 3) hB dX10_bring_54 rfl rfl ?_
      refine X_geti hB cw2 fX10_200 rfl hD.1 hD.2 dX10_bring_55 ?_
      refine X_topi (y := nI (nDa σ).length) (k1.nu hl) ?_
      refine X_iret hB rfl dX10_bring_58 ?_
      have ea : aSend σ (nI x) (nI y) = (nI (nDa σ).length, comeN σ x y) := by
        unfold aSend
        rw [e6]
        exact if_pos hl
      rw [ea]
      refine ⟨rfl, ?_, hc2.tr k2⟩
      have hp : pushD σ (dSi (newD x y (nNow σ)) (nNow σ)) = sI (pushD σ (newD x y (nNow σ))) (nDa σ).length (nNow σ) := by
        unfold sI
        rw [psh_new]
        show (σ.1, σ.2.1, σ.2.2.1, σ.2.2.2.1, σ.2.2.2.2.1, σ.2.2.2.2.2.1, nDa σ ++ [(dSi (newD x y (nNow σ)) (nNow σ))]) = (σ.1, σ.2.1, σ.2.2.1, σ.2.2.2.1, σ.2.2.2.2.1, σ.2.2.2.2.2.1, (nDa σ ++ [(newD x y (nNow σ))]).set (nDa σ).length (dSi (newD x y (nNow σ)) (nNow σ)))
        simp
      rw [hp] at k1
      exact sv_si (by rw [psh_len]; omega) k1
    · refine X_iconst (v := (-1)) hB dX10_bring_18 (by decide) ?_
      refine X_iret hB rfl dX10_bring_19 ?_
      have ea : aSend σ (nI x) (nI y) = (-1, σ) := by
        unfold aSend
        rw [e6]
        refine if_neg ?_
        rw [show (40 : Int32) = nI 40 from rfl, nI_ltI (by omega) (by omega)] at c15
        exact c15
      rw [ea]
      exact ⟨rfl, hw, wch.rf⟩
end CLS
