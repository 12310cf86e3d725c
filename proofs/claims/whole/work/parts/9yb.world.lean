/-! constructors: the air, a world -/
section CT
variable {G : Gc} {S : St} {k : Nat}
theorem Y_aastN {Z : Yp} {E : Ev} {md : Md} {pc : Nat} {lv : List (Option Value)} {st : List Value} (hB : Bd G E md) {a m t b ci : Nat} {i : Int32} (j : Nat) {Cn : String} {T : u_T} (hc : cwd ci Cn T) (ha : a ∈ gL G) (hk : gK G a = .inr (t, m)) (ht : 3 < t ∧ t < 9) (hty : atyOf t = .object Cn) (hb : b ∈ gL G) (hkb : gK G b = .inl ci) (hm : m < 2 ^ 31) (hi : i = nI j) (hj : j < m) (hd : decode md.2.1 pc = .ok (.aastore, 1)) (kk : Y G Z E md (setR S a j (some b)) (pc + 1) lv st) : Y G Z E md S pc lv (.ref b :: .int i :: .ref a :: st) := by
  subst hi
  have e : (nI j).toNatClampNeg = j := nI_clamp (by omega)
  refine Y_aast hB hc ha hk ht hty hb hkb (fun q => ?_) hd (by rw [e]; exact kk)
  rcases q with q | q
  · exact nI_pos (by omega) q
  · rw [e] at q; omega
def airQ (G : Gc) (S : St) (a k : Nat) : St → Prop := fun S1 => (S1.1 = S.1 ∧ S1.2.1 = S.2.1) ∧ (S1.2.2 a 0 = some (a + 1) ∧ S1.2.2 a 3 = some (a + 2) ∧ ∀ j, j < 40 → S1.2.2 (a + 1) j = some (a + 3 + j)) ∧ chg a (a + 43) S S1 ∧ zr G S1 (k + 42)
set_option maxRecDepth 100000 in
set_option maxHeartbeats 4000000 in
theorem l_X0_init {E : Ev} (hB : Bd (gk G k) E mX0_init) (hsz : E.2.2.1.heap.size = gz G + k) (hin : E.2.2.2.2.2.2.1.name = "<init>") (a : Nat) (hk : gz G + k = a + 1) (hk1 : 1 ≤ k) (hka : gK G a = .inl 0) (hkf : gK G (a + 1) = .inr (4, 40)) (hkr : ∀ j, a + 2 ≤ j → j < a + 43 → gK G j = .inl 3) (hao : ∀ U, gZ G U → va_AO RX3 U) (hnw : ∀ U, gZ G U → va_Nw (.methodLinkNest RX0 15 mX3_init.1 RX11) U) :
    ∀ (j i : Nat) (S1 : St), i + j = 40 → (S1.1 = S.1 ∧ S1.2.1 = S.2.1) ∧ (S1.2.2 a 0 = some (a + 1) ∧ S1.2.2 a 3 = some (a + 2) ∧ ∀ j, j < i → S1.2.2 (a + 1) j = some (a + 3 + j)) ∧ chg a (a + 43) S S1 → zr G S1 (k + 2 + i) → Y (gk G (k + 2 + i)) (YR 2 42 327, 2 + i, 47 + 7 * i, YF G E (k + 42) 42 327 (airQ G S a k)) E mX0_init S1 26 [some (.ref a), some (.int (nI i))] [] := by
  intro j
  induction j with
  | zero =>
    intro i S1 h1 h2 h3
    have e9 : i = 40 := by omega
    subst e9
    refine Y_iload_n (i := 1) (hB.gk _) dX0_init_26 rfl rfl ?_
    refine Y_bipush (v := 40) (hB.gk _) dX0_init_27 (by decide) ?_
    refine Y_icmp_ge (tgt := 51) (hB.gk _) dX0_init_29 (by decide) (fun c29 => ?_) (fun c29 => absurd c29 (by simp (disch := omega) only [nlit, nI_leI, nI_ltI]; omega))
    refine Y_zz (c2 := 42) (v2 := 327) rfl rfl ?_
    refine Y_vret (hB.gk _) rfl dX0_init_51 ?_
    exact ⟨h2.1, h2.2.1, h2.2.2, h3⟩
  | succ j ih =>
    intro i S1 h1 h2 h3
    have h40 : i < 40 := by omega
    refine Y_iload_n (i := 1) (hB.gk _) dX0_init_26 rfl rfl ?_
    refine Y_bipush (v := 40) (hB.gk _) dX0_init_27 (by decide) ?_
    refine Y_icmp_ge (tgt := 51) (hB.gk _) dX0_init_29 (by decide) (fun c29 => absurd c29 (by simp (disch := omega) only [nlit, nI_leI, nI_ltI]; omega)) (fun c29 => ?_)
    refine Y_aload_n (i := 0) (hB.gk _) dX0_init_32 rfl rfl ?_
    refine Y_getr (hB.gk _) cw0 fX0_11 rfl (gk_mem (by omega) (by omega)) hka h2.2.1.1 dX0_init_33 ?_
    refine Y_iload_n (i := 1) (hB.gk _) dX0_init_36 rfl rfl ?_
    refine Y_newA (hB.gk _) (a := a + 3 + i) (by omega) (by decide) cw3 zX0_9 ziX3 zsX3 (hkr _ (by omega) (by omega)) h3 (by omega) (by show 2 + i + 1 ≤ 42; omega) (by show 47 + 7 * i + 7 ≤ 327; omega) dX0_init_37 ?_
    refine Y_dup (hB.gk _) dX0_init_40 rfl ?_
    refine Y_callIN (hB.gk _) (kcX0_15 (hnw _ hB.2.2.2.2.2.2.2.2.2.1)) (i_X3_init (k := k + 2 + i + 1) (a + 3 + i)) (by omega) (Nat.le_of_ble_eq_true rfl) (Nat.le_of_ble_eq_true rfl) ⟨by show 2 + i + 1 + 0 ≤ 42; omega, by show 47 + 7 * i + 7 + 0 ≤ 327; omega⟩ rfl rfl (Nat.le_of_ble_eq_true rfl) dX0_init_41 (fun S41 q41 => ?_)
    subst q41
    refine Y_aastN (hB.gk _) i cw3 (gk_mem (by omega) (by omega)) hkf (by decide) rfl (gk_mem (by omega) (by omega)) (hkr _ (by omega) (by omega)) (by decide) rfl h40 dX0_init_44 ?_
    refine Y_iinc (hB.gk _) dX0_init_45 rfl rfl (by decide) rfl ?_
    refine Y_goto (tgt := 26) (hB.gk _) dX0_init_48 (by decide) ?_
    refine Y_zz (c2 := 2 + (i + 1)) (v2 := 47 + 7 * (i + 1)) (by omega) (by show 47 + 7 * i + 7 + 0 = 47 + 7 * (i + 1); omega) ?_
    refine Y_lv ?_ (ih (i + 1) _ (by omega) ⟨h2.1, ⟨?_, ?_, fun m hm => ?_⟩, h2.2.2.tr (chg.setR (by omega) (by omega))⟩ ((h3.mono (by omega)).R (by omega)))
    · rw [nI_succ]; rfl
    · rw [setR_ne _ _ (Or.inl (by omega))]; exact h2.2.1.1
    · rw [setR_ne _ _ (Or.inl (by omega))]; exact h2.2.1.2.1
    · by_cases q : m = i
      · rw [q, setR_at]
      · rw [setR_ne _ _ (Or.inr q)]; exact h2.2.1.2.2 m (by omega)
set_option maxRecDepth 100000 in
set_option maxHeartbeats 4000000 in
theorem i_X0_init (a : Nat) (hk : gz G + k = a + 1) (hk1 : 1 ≤ k) (hka : gK G a = .inl 0) (hkf : gK G (a + 1) = .inr (4, 40)) (hkr : ∀ j, a + 2 ≤ j → j < a + 43 → gK G j = .inl 3) (hao : ∀ U, gZ G U → va_AO RX3 U) (hnw : ∀ U, gZ G U → va_Nw (.methodLinkNest RX0 15 mX3_init.1 RX11) U) (hz : zr G S k) : CI G mX0_init 2 42 327 [.ref a] k (k + 42) S (fun S' => airQ G S a k S') := by
  refine CI.mk (lv := [some (.ref a), none]) (by decide) rfl (Nat.le_of_ble_eq_true rfl) rfl (fun E hB hsz hin => ?_)
  refine Y_aload_n (i := 0) (hB.gk _) dX0_init_0 rfl rfl ?_
  refine Y_oinit (hB.gk _) zoX0_1 zo_i zo_c (Nat.le_of_ble_eq_true rfl) (Nat.le_of_ble_eq_true rfl) dX0_init_1 ?_
  refine Y_aload_n (i := 0) (hB.gk _) dX0_init_4 rfl rfl ?_
  refine Y_bipush (v := 40) (hB.gk _) dX0_init_5 (by decide) ?_
  refine Y_anewA (hB.gk _) 40 (t := 4) (a := a + 1) (by omega) (by decide) rfl zX0_9 hao hkf hz (by omega) rfl (Nat.le_of_ble_eq_true rfl) (Nat.le_of_ble_eq_true rfl) (Nat.le_of_ble_eq_true rfl) dX0_init_7 ?_
  refine Y_putFr (hB.gk _) cw0 fX0_11 rfl hin rfl rfl rfl rfl (gk_mem (by omega) (by omega)) hka dX0_init_10 ?_
  refine Y_aload_n (i := 0) (hB.gk _) dX0_init_13 rfl rfl ?_
  refine Y_newA (hB.gk _) (a := a + 2) (by omega) (by decide) cw3 zX0_9 ziX3 zsX3 (hkr _ (by omega) (by omega)) ((hz.mono (Nat.le_succ _)).R (by omega)) (by omega) (Nat.le_of_ble_eq_true rfl) (Nat.le_of_ble_eq_true rfl) dX0_init_14 ?_
  refine Y_dup (hB.gk _) dX0_init_17 rfl ?_
  refine Y_callIN (hB.gk _) (kcX0_15 (hnw _ hB.2.2.2.2.2.2.2.2.2.1)) (i_X3_init (k := k + 1 + 1) (a + 2)) (by omega) (Nat.le_of_ble_eq_true rfl) (Nat.le_of_ble_eq_true rfl) ⟨(Nat.le_of_ble_eq_true rfl), (Nat.le_of_ble_eq_true rfl)⟩ rfl rfl (Nat.le_of_ble_eq_true rfl) dX0_init_18 (fun S18 q18 => ?_)
  subst q18
  refine Y_putr (hB.gk _) cw0 fX0_16 rfl rfl (gk_mem (by omega) (by omega)) hka dX0_init_21 ?_
  refine Y_iconst (v := 0) (hB.gk _) dX0_init_24 (by decide) ?_
  refine Y_istore_n (i := 1) (hB.gk _) dX0_init_25 rfl (by decide) rfl ?_
  refine Y_lv (lv' := [some (.ref a), some (.int (nI 0))]) (by rw [nI_0]; rfl) (l_X0_init (S := S) hB hsz hin a hk hk1 hka hkf hkr hao hnw 40 0 _ (by omega) ⟨⟨rfl, rfl⟩, ⟨?_, setR_at _ _ _ _, fun m hm => by omega⟩, ?_⟩ (((hz.mono (by omega)).R (by omega)).R (by omega)))
  · rw [setR_ne _ _ (Or.inr (by decide)), setR_at]
  · exact (chg.setR (by omega) (by omega)).tr (chg.setR (by omega) (by omega))
def wp (w : Nat) : Nat → Nat := fun i => if i = 40 then w + 5 else w + 6 + i
/-- a world that is being made: n posts, m data -/
def wb (S : St) (w n m : Nat) : Prop := (S.2.2 w 0 = some (w + 1) ∧ S.2.2 w 1 = some (w + 2) ∧ S.2.2 w 2 = some (w + 3) ∧ S.2.2 w 3 = some (w + 46) ∧ S.2.2 w 4 = some (w + 47)) ∧ (S.2.2 (w + 3) 0 = some (w + 4) ∧ arD S w (wp w) ∧ S.1 (w + 3) 1 = 0) ∧ (∀ i, i < n → S.2.2 (w + 46) i = some (pA w i) ∧ poD S (pA w i) i) ∧ ∀ i, i < m → S.2.2 (w + 47) i = some (dA w i) ∧ S.1 (dA w i) 0 = nI i
theorem wb.cg {S S' : St} {w n m lo hi : Nat} (h : wb S w n m) (hc : chg lo hi S S') (h1 : w + 48 + 8 * n ≤ lo) (h2 : hi ≤ w + 112 ∨ (n = 8 ∧ w + 112 + m ≤ lo)) (h3 : m = 0 ∨ n = 8) : wb S' w n m := by
  obtain ⟨⟨a0, a1, a2, a3, a4⟩, ⟨b0, ⟨b1, b2, b3, b4⟩, b5⟩, hp, hd⟩ := h
  have e : ∀ a, a < lo → S'.1 a = S.1 a ∧ S'.2.1 a = S.2.1 a ∧ S'.2.2 a = S.2.2 a := fun a ha => hc a (Or.inl ha)
  refine ⟨⟨?_, ?_, ?_, ?_, ?_⟩, ⟨?_, ⟨?_, fun i hi => ?_, b3, b4⟩, ?_⟩, fun i hi => ⟨?_, (hp i hi).2.chg hc (by unfold pA; omega)⟩, fun i hi => ⟨?_, ?_⟩⟩
  · rw [(e _ (by omega)).2.2]; exact a0
  · rw [(e _ (by omega)).2.2]; exact a1
  · rw [(e _ (by omega)).2.2]; exact a2
  · rw [(e _ (by omega)).2.2]; exact a3
  · rw [(e _ (by omega)).2.2]; exact a4
  · rw [(e _ (by omega)).2.2]; exact b0
  · rw [(e _ (by omega)).2.2]; exact b1
  · rw [(e _ (by omega)).2.2]; exact b2 i hi
  · rw [(e _ (by omega)).1]; exact b5
  · rw [(e _ (by omega)).2.2]; exact (hp i hi).1
  · rw [(e _ (by omega)).2.2]; exact (hd i hi).1
  · rw [(hc _ (by unfold dA; omega)).1]; exact (hd i hi).2
theorem wb.post {S : St} {w n : Nat} (h : wb S w n 0) (hn : n < 8) (hp : poD S (pA w n) n) : wb (setR S (w + 46) n (some (pA w n))) w (n + 1) 0 := by
  obtain ⟨⟨a0, a1, a2, a3, a4⟩, ⟨b0, ⟨b1, b2, b3, b4⟩, b5⟩, hq, hd⟩ := h
  have e : ∀ a, a ≠ w + 46 → (setR S (w + 46) n (some (pA w n))).2.2 a = S.2.2 a := fun a ha => ups_row_ne _ _ _ ha
  have hc : chg (w + 46) (w + 47) S (setR S (w + 46) n (some (pA w n))) := chg.setR (by omega) (by omega)
  refine ⟨⟨?_, ?_, ?_, ?_, ?_⟩, ⟨?_, ⟨?_, fun i hi => ?_, b3, b4⟩, b5⟩, fun i hi => ?_, fun i hi => absurd hi (Nat.not_lt_zero _)⟩
  · rw [e _ (by omega)]; exact a0
  · rw [e _ (by omega)]; exact a1
  · rw [e _ (by omega)]; exact a2
  · rw [e _ (by omega)]; exact a3
  · rw [e _ (by omega)]; exact a4
  · rw [e _ (by omega)]; exact b0
  · rw [e _ (by omega)]; exact b1
  · rw [e _ (by omega)]; exact b2 i hi
  · by_cases q : i = n
    · subst q; exact ⟨setR_at _ _ _ _, hp.chg hc (by unfold pA; omega)⟩
    · exact ⟨by rw [setR_ne _ _ (Or.inr q)]; exact (hq i (by omega)).1, (hq i (by omega)).2.chg hc (by unfold pA; omega)⟩
theorem wb.data {S : St} {w m : Nat} (h : wb S w 8 m) (hm : m < 40) (hp : S.1 (dA w m) 0 = nI m) : wb (setR S (w + 47) m (some (dA w m))) w 8 (m + 1) := by
  obtain ⟨⟨a0, a1, a2, a3, a4⟩, ⟨b0, ⟨b1, b2, b3, b4⟩, b5⟩, hq, hd⟩ := h
  have e : ∀ a, a ≠ w + 47 → (setR S (w + 47) m (some (dA w m))).2.2 a = S.2.2 a := fun a ha => ups_row_ne _ _ _ ha
  have hc : chg (w + 47) (w + 48) S (setR S (w + 47) m (some (dA w m))) := chg.setR (by omega) (by omega)
  refine ⟨⟨?_, ?_, ?_, ?_, ?_⟩, ⟨?_, ⟨?_, fun i hi => ?_, b3, b4⟩, b5⟩, fun i hi => ⟨?_, (hq i hi).2.chg hc (by unfold pA; omega)⟩, fun i hi => ?_⟩
  · rw [e _ (by omega)]; exact a0
  · rw [e _ (by omega)]; exact a1
  · rw [e _ (by omega)]; exact a2
  · rw [e _ (by omega)]; exact a3
  · rw [e _ (by omega)]; exact a4
  · rw [e _ (by omega)]; exact b0
  · rw [e _ (by omega)]; exact b1
  · rw [e _ (by omega)]; exact b2 i hi
  · rw [e _ (by omega)]; exact (hq i hi).1
  · by_cases q : i = m
    · subst q; exact ⟨setR_at _ _ _ _, hp⟩
    · exact ⟨by rw [setR_ne _ _ (Or.inr q)]; exact (hd i (by omega)).1, (hd i (by omega)).2⟩
theorem wb.D {S : St} {w : Nat} (h : wb S w 8 40) : wdD S w ∧ S.1 (w + 3) 1 = nI 0 := by
  obtain ⟨⟨a0, a1, a2, a3, a4⟩, ⟨b0, b1, b5⟩, hq, hd⟩ := h
  exact ⟨⟨⟨a0, a1, a2, a3, a4, b0, fun n hn => (hq n hn).1, fun i hi => hd i hi⟩, ⟨_, b1⟩, fun n hn => (hq n hn).2⟩, b5⟩
def wrdQ (G : Gc) (S : St) (w k : Nat) : St → Prop := fun S' => wdD S' w ∧ S'.1 (w + 3) 1 = nI 0 ∧ chg w (w + 152) S S' ∧ zr G S' (k + 151)
set_option maxRecDepth 100000 in
set_option maxHeartbeats 4000000 in
theorem d_X10_init {E : Ev} (hB : Bd (gk G k) E mX10_init) (hsz : E.2.2.1.heap.size = gz G + k) (hin : E.2.2.2.2.2.2.1.name = "<init>") (w : Nat) (hW : WLay G w) (hk : gz G + k = w + 1) (hk1 : 1 ≤ k) (hao3 : ∀ U, gZ G U → va_AO RX3 U) (hao5 : ∀ U, gZ G U → va_AO RX5 U) (hao2 : ∀ U, gZ G U → va_AO RX2 U) (hnw : ∀ U, gZ G U → va_Nw (.methodLinkNest RX0 15 mX3_init.1 RX11) U) :
    ∀ (j i : Nat) (S1 : St), i + j = 40 → wb S1 w 8 i → chg w (w + 152) S S1 → zr G S1 (k + 111 + i) → Y (gk G (k + 111 + i)) (YR 5 151 1270, 111 + i, 830 + 11 * i, YF G E (k + 151) 151 1270 (wrdQ G S w k)) E mX10_init S1 79 [some (.ref w), some (.int (nI i))] [] := by
  intro j
  induction j with
  | zero =>
    intro i S1 h1 h2 h3 h4
    have e9 : i = 40 := by omega
    subst e9
    refine Y_iload_n (i := 1) (hB.gk _) dX10_init_79 rfl rfl ?_
    refine Y_bipush (v := 40) (hB.gk _) dX10_init_80 (by decide) ?_
    refine Y_icmp_ge (tgt := 105) (hB.gk _) dX10_init_82 (by decide) (fun c82 => ?_) (fun c82 => absurd c82 (by simp (disch := omega) only [nlit, nI_leI, nI_ltI]; omega))
    refine Y_zz (c2 := 151) (v2 := 1270) rfl rfl ?_
    refine Y_vret (hB.gk _) rfl dX10_init_105 ?_
    exact ⟨h2.D.1, h2.D.2, h3, h4⟩
  | succ j ih =>
    intro i S1 h1 h2 h3 h4
    have h40 : i < 40 := by omega
    have hdk : dA w i = w + 112 + i := rfl
    refine Y_iload_n (i := 1) (hB.gk _) dX10_init_79 rfl rfl ?_
    refine Y_bipush (v := 40) (hB.gk _) dX10_init_80 (by decide) ?_
    refine Y_icmp_ge (tgt := 105) (hB.gk _) dX10_init_82 (by decide) (fun c82 => absurd c82 (by simp (disch := omega) only [nlit, nI_leI, nI_ltI]; omega)) (fun c82 => ?_)
    refine Y_aload_n (i := 0) (hB.gk _) dX10_init_85 rfl rfl ?_
    refine Y_getr (hB.gk _) cw8 fX10_33 rfl (gk_mem (by omega) (by omega)) hW.1.2 h2.1.2.2.2.2 dX10_init_86 ?_
    refine Y_iload_n (i := 1) (hB.gk _) dX10_init_89 rfl rfl ?_
    refine Y_newA (hB.gk _) (a := dA w i) (by omega) (by decide) cw2 zX10_31 ziX2 zsX2 (hW.dd h40).2 h4 (by omega) (by show 111 + i + 1 ≤ 151; omega) (by show 830 + 11 * i + 11 ≤ 1270; omega) dX10_init_90 ?_
    refine Y_dup (hB.gk _) dX10_init_93 rfl ?_
    refine Y_iload_n (i := 1) (hB.gk _) dX10_init_94 rfl rfl ?_
    refine Y_callI (hB.gk _) kcX10_40 (i_X2_init (k := k + 111 + i + 1) (dA w i) (by omega) (by omega) (hW.dd h40).2 (nI i)) (by omega) (Nat.le_of_ble_eq_true rfl) (Nat.le_of_ble_eq_true rfl) ⟨by show 111 + i + 1 + 0 ≤ 151; omega, by show 830 + 11 * i + 11 + 0 ≤ 1270; omega⟩ rfl rfl (Nat.le_of_ble_eq_true rfl) dX10_init_95 (fun S95 q95 => ?_)
    subst q95
    refine Y_aastN (hB.gk _) i cw2 (gk_mem (by omega) (by omega)) hW.2.2.2.2.2.2.2.1.2 (by decide) rfl (gk_mem (by omega) (by omega)) (hW.dd h40).2 (by decide) rfl h40 dX10_init_98 ?_
    refine Y_iinc (hB.gk _) dX10_init_99 rfl rfl (by decide) rfl ?_
    refine Y_goto (tgt := 79) (hB.gk _) dX10_init_102 (by decide) ?_
    refine Y_zz (c2 := 111 + (i + 1)) (v2 := 830 + 11 * (i + 1)) (by omega) (by show 830 + 11 * i + 11 + 0 = 830 + 11 * (i + 1); omega) ?_
    have cI : chg (dA w i) (dA w i + 1) S1 (setI S1 (dA w i) 0 (nI i)) := chg.setI (Nat.le_refl _) (by omega)
    refine Y_lv ?_ (ih (i + 1) _ (by omega) ((h2.cg cI (by omega) (Or.inr ⟨rfl, by omega⟩) (Or.inr rfl)).data h40 (setI_at _ _ _ _)) ((h3.tr (chg.setI (by omega) (by omega))).tr (chg.setR (by omega) (by omega))) (((h4.mono (by omega)).I (by omega)).R (by omega)))
    · rw [nI_succ]; rfl
set_option maxRecDepth 100000 in
set_option maxHeartbeats 4000000 in
theorem p_X10_init {E : Ev} (hB : Bd (gk G k) E mX10_init) (hsz : E.2.2.1.heap.size = gz G + k) (hin : E.2.2.2.2.2.2.1.name = "<init>") (w : Nat) (hW : WLay G w) (hk : gz G + k = w + 1) (hk1 : 1 ≤ k) (hao3 : ∀ U, gZ G U → va_AO RX3 U) (hao5 : ∀ U, gZ G U → va_AO RX5 U) (hao2 : ∀ U, gZ G U → va_AO RX2 U) (hnw : ∀ U, gZ G U → va_Nw (.methodLinkNest RX0 15 mX3_init.1 RX11) U) :
    ∀ (j n : Nat) (S1 : St), n + j = 8 → wb S1 w n 0 → chg w (w + 152) S S1 → zr G S1 (k + 47 + 8 * n) → Y (gk G (k + 47 + 8 * n)) (YR 5 151 1270, 47 + 8 * n, 398 + 54 * n, YF G E (k + 151) 151 1270 (wrdQ G S w k)) E mX10_init S1 51 [some (.ref w), some (.int (nI n))] [] := by
  intro j
  induction j with
  | zero =>
    intro n S1 h1 h2 h3 h4
    have e9 : n = 8 := by omega
    subst e9
    refine Y_iload_n (i := 1) (hB.gk _) dX10_init_51 rfl rfl ?_
    refine Y_bipush (v := 8) (hB.gk _) dX10_init_52 (by decide) ?_
    refine Y_icmp_ge (tgt := 77) (hB.gk _) dX10_init_54 (by decide) (fun c54 => ?_) (fun c54 => absurd c54 (by simp (disch := omega) only [nlit, nI_leI, nI_ltI]; omega))
    refine Y_iconst (v := 0) (hB.gk _) dX10_init_77 (by decide) ?_
    refine Y_istore_n (i := 1) (hB.gk _) dX10_init_78 rfl (by decide) rfl ?_
    refine Y_lv (lv' := [some (.ref w), some (.int (nI 0))]) (by rw [nI_0]; rfl) (d_X10_init (S := S) hB hsz hin w hW hk hk1 hao3 hao5 hao2 hnw 40 0 _ (by omega) h2 h3 h4)
  | succ j ih =>
    intro n S1 h1 h2 h3 h4
    have hn8 : n < 8 := by omega
    have hpk : pA w n = w + 48 + 8 * n := rfl
    have hPo := hW.po hn8
    refine Y_iload_n (i := 1) (hB.gk _) dX10_init_51 rfl rfl ?_
    refine Y_bipush (v := 8) (hB.gk _) dX10_init_52 (by decide) ?_
    refine Y_icmp_ge (tgt := 77) (hB.gk _) dX10_init_54 (by decide) (fun c54 => absurd c54 (by simp (disch := omega) only [nlit, nI_leI, nI_ltI]; omega)) (fun c54 => ?_)
    refine Y_aload_n (i := 0) (hB.gk _) dX10_init_57 rfl rfl ?_
    refine Y_getr (hB.gk _) cw8 fX10_27 rfl (gk_mem (by omega) (by omega)) hW.1.2 h2.1.2.2.2.1 dX10_init_58 ?_
    refine Y_iload_n (i := 1) (hB.gk _) dX10_init_61 rfl rfl ?_
    refine Y_newA (hB.gk _) (a := pA w n) (by omega) (by decide) cw4 zX10_25 ziX5 zsX5 hPo.1.2 h4 (by omega) (by show 47 + 8 * n + 1 ≤ 151; omega) (by show 398 + 54 * n + 9 ≤ 1270; omega) dX10_init_62 ?_
    refine Y_dup (hB.gk _) dX10_init_65 rfl ?_
    refine Y_iload_n (i := 1) (hB.gk _) dX10_init_66 rfl rfl ?_
    refine Y_callI (hB.gk _) kcX10_37 (i_X5_init (k := k + 47 + 8 * n + 1) (pA w n) n hPo hn8 (by omega) (by omega) (h4.mono (by omega))) (by omega) (Nat.le_of_ble_eq_true rfl) (Nat.le_of_ble_eq_true rfl) ⟨by show 47 + 8 * n + 1 + 7 ≤ 151; omega, by show 398 + 54 * n + 9 + 45 ≤ 1270; omega⟩ rfl rfl (Nat.le_of_ble_eq_true rfl) dX10_init_67 (fun S67 q67 => ?_)
    obtain ⟨q1, q2, q3⟩ := q67
    refine Y_aastN (hB.gk _) n cw4 (gk_mem (by omega) (by omega)) hW.2.2.2.2.2.2.1.2 (by decide) rfl (gk_mem (by omega) (by omega)) hPo.1.2 (by decide) rfl hn8 dX10_init_70 ?_
    refine Y_iinc (hB.gk _) dX10_init_71 rfl rfl (by decide) rfl ?_
    refine Y_goto (tgt := 51) (hB.gk _) dX10_init_74 (by decide) ?_
    refine Y_zz (c2 := 47 + 8 * (n + 1)) (v2 := 398 + 54 * (n + 1)) (by omega) (by show 398 + 54 * n + 9 + 45 = 398 + 54 * (n + 1); omega) ?_
    refine Y_lv ?_ (ih (n + 1) _ (by omega) ((h2.cg q2 (by omega) (Or.inl (by omega)) (Or.inl rfl)).post hn8 q1) ((h3.tr (q2.mono (by omega) (by omega))).tr (chg.setR (by omega) (by omega))) (q3.R (by omega)))
    · rw [nI_succ]; rfl
set_option maxRecDepth 100000 in
set_option maxHeartbeats 4000000 in
theorem i_X10_init (w : Nat) (hW : WLay G w) (hk : gz G + k = w + 1) (hk1 : 1 ≤ k) (hao3 : ∀ U, gZ G U → va_AO RX3 U) (hao5 : ∀ U, gZ G U → va_AO RX5 U) (hao2 : ∀ U, gZ G U → va_AO RX2 U) (hnw : ∀ U, gZ G U → va_Nw (.methodLinkNest RX0 15 mX3_init.1 RX11) U) (hz : zr G S k) : CI G mX10_init 5 151 1270 [.ref w] k (k + 151) S (fun S' => wrdQ G S w k S') := by
  have hkr : ∀ j, w + 3 + 2 ≤ j → j < w + 3 + 43 → gK G j = .inl 3 := fun j h1 h2 => (hW.2.2.2.2.2.1 j (by omega) (by omega)).2
  refine CI.mk (lv := [some (.ref w), none]) (by decide) rfl (Nat.le_of_ble_eq_true rfl) rfl (fun E hB hsz hin => ?_)
  refine Y_aload_n (i := 0) (hB.gk _) dX10_init_0 rfl rfl ?_
  refine Y_oinit (hB.gk _) zoX10_3 zo_i zo_c (Nat.le_of_ble_eq_true rfl) (Nat.le_of_ble_eq_true rfl) dX10_init_1 ?_
  refine Y_aload_n (i := 0) (hB.gk _) dX10_init_4 rfl rfl ?_
  refine Y_bipush (v := 8) (hB.gk _) dX10_init_5 (by decide) ?_
  refine Y_newaA (hB.gk _) 8 (atype := .int) (t := 0) (a := w + 1) (by omega) (by decide) za_int rfl hW.2.1.2 hz (by omega) rfl (Nat.le_of_ble_eq_true rfl) (Nat.le_of_ble_eq_true rfl) (Nat.le_of_ble_eq_true rfl) dX10_init_7 ?_
  refine Y_putFr (hB.gk _) cw8 fX10_9 rfl hin rfl rfl rfl rfl (gk_mem (by omega) (by omega)) hW.1.2 dX10_init_9 ?_
  have z9 := (hz.mono (Nat.le_succ _)).R (a := w) (j := 0) (v := some (w + 1)) (by omega)
  refine Y_aload_n (i := 0) (hB.gk _) dX10_init_12 rfl rfl ?_
  refine Y_bipush (v := 11) (hB.gk _) dX10_init_13 (by decide) ?_
  refine Y_newaA (hB.gk _) 11 (atype := .int) (t := 0) (a := w + 2) (by omega) (by decide) za_int rfl hW.2.2.1.2 z9 (by omega) rfl (Nat.le_of_ble_eq_true rfl) (Nat.le_of_ble_eq_true rfl) (Nat.le_of_ble_eq_true rfl) dX10_init_15 ?_
  refine Y_putFr (hB.gk _) cw8 fX10_15 rfl hin rfl rfl rfl rfl (gk_mem (by omega) (by omega)) hW.1.2 dX10_init_17 ?_
  have z17 := (z9.mono (Nat.le_succ _)).R (a := w) (j := 1) (v := some (w + 2)) (by omega)
  refine Y_aload_n (i := 0) (hB.gk _) dX10_init_20 rfl rfl ?_
  refine Y_newA (hB.gk _) (a := w + 3) (by omega) (by decide) cw0 zX10_18 ziX0 zsX0 hW.2.2.2.1.2 z17 (by omega) (Nat.le_of_ble_eq_true rfl) (Nat.le_of_ble_eq_true rfl) dX10_init_21 ?_
  refine Y_dup (hB.gk _) dX10_init_24 rfl ?_
  refine Y_callI (hB.gk _) (kcX10_20) (i_X0_init (k := k + 1 + 1 + 1) (w + 3) (by omega) (by omega) hW.2.2.2.1.2 hW.2.2.2.2.1.2 hkr hao3 hnw (z17.mono (by omega))) (by omega) (Nat.le_of_ble_eq_true rfl) (Nat.le_of_ble_eq_true rfl) ⟨(Nat.le_of_ble_eq_true rfl), (Nat.le_of_ble_eq_true rfl)⟩ rfl rfl (Nat.le_of_ble_eq_true rfl) dX10_init_25 (fun S25 q25 => ?_)
  obtain ⟨q1, q2, q3, q4⟩ := q25
  refine Y_putFr (hB.gk _) cw8 fX10_21 rfl hin rfl rfl rfl rfl (gk_mem (by omega) (by omega)) hW.1.2 dX10_init_28 ?_
  have z28 := q4.R (a := w) (j := 2) (v := some (w + 3)) (by omega)
  refine Y_aload_n (i := 0) (hB.gk _) dX10_init_31 rfl rfl ?_
  refine Y_bipush (v := 8) (hB.gk _) dX10_init_32 (by decide) ?_
  refine Y_anewA (hB.gk _) 8 (t := 5) (a := w + 46) (by omega) (by decide) rfl zX10_25 hao5 hW.2.2.2.2.2.2.1.2 z28 (by omega) rfl (Nat.le_of_ble_eq_true rfl) (Nat.le_of_ble_eq_true rfl) (Nat.le_of_ble_eq_true rfl) dX10_init_34 ?_
  refine Y_putFr (hB.gk _) cw8 fX10_27 rfl hin rfl rfl rfl rfl (gk_mem (by omega) (by omega)) hW.1.2 dX10_init_37 ?_
  have z37 := (z28.mono (Nat.le_succ _)).R (a := w) (j := 3) (v := some (w + 46)) (by omega)
  refine Y_aload_n (i := 0) (hB.gk _) dX10_init_40 rfl rfl ?_
  refine Y_bipush (v := 40) (hB.gk _) dX10_init_41 (by decide) ?_
  refine Y_anewA (hB.gk _) 40 (t := 6) (a := w + 47) (by omega) (by decide) rfl zX10_31 hao2 hW.2.2.2.2.2.2.2.1.2 z37 (by omega) rfl (Nat.le_of_ble_eq_true rfl) (Nat.le_of_ble_eq_true rfl) (Nat.le_of_ble_eq_true rfl) dX10_init_43 ?_
  refine Y_putFr (hB.gk _) cw8 fX10_33 rfl hin rfl rfl rfl rfl (gk_mem (by omega) (by omega)) hW.1.2 dX10_init_46 ?_
  have z46 := (z37.mono (Nat.le_succ _)).R (a := w) (j := 4) (v := some (w + 47)) (by omega)
  refine Y_iconst (v := 0) (hB.gk _) dX10_init_49 (by decide) ?_
  refine Y_istore_n (i := 1) (hB.gk _) dX10_init_50 rfl (by decide) rfl ?_
  refine Y_lv (lv' := [some (.ref w), some (.int (nI 0))]) (by rw [nI_0]; rfl) (p_X10_init (S := S) hB hsz hin w hW hk hk1 hao3 hao5 hao2 hnw 8 0 _ (by omega) ⟨⟨?_, ?_, ?_, ?_, ?_⟩, ⟨?_, ⟨?_, fun i hi => ?_, fun i hi => ?_, fun i j hi hj q => ?_⟩, ?_⟩, fun i hi => by omega, fun i hi => by omega⟩ ?_ (z46.mono (by omega)))
  · rw [setR_ne _ _ (Or.inr (by decide)), setR_ne _ _ (Or.inr (by decide)), setR_ne _ _ (Or.inr (by decide)), (q3 _ (by omega)).2.2, setR_ne _ _ (Or.inr (by decide)), setR_at]
  · rw [setR_ne _ _ (Or.inr (by decide)), setR_ne _ _ (Or.inr (by decide)), setR_ne _ _ (Or.inr (by decide)), (q3 _ (by omega)).2.2, setR_at]
  · rw [setR_ne _ _ (Or.inr (by decide)), setR_ne _ _ (Or.inr (by decide)), setR_at]
  · rw [setR_ne _ _ (Or.inr (by decide)), setR_at]
  · rw [setR_at]
  · rw [setR_ne _ _ (Or.inl (by omega)), setR_ne _ _ (Or.inl (by omega)), setR_ne _ _ (Or.inl (by omega))]; exact q2.1
  · rw [setR_ne _ _ (Or.inl (by omega)), setR_ne _ _ (Or.inl (by omega)), setR_ne _ _ (Or.inl (by omega))]; exact q2.2.1
  · rw [setR_ne _ _ (Or.inl (by omega)), setR_ne _ _ (Or.inl (by omega)), setR_ne _ _ (Or.inl (by omega))]
    unfold wp
    rw [if_neg (by omega)]
    exact q2.2.2 i hi
  · unfold wp; split <;> omega
  · unfold wp at q
    split at q <;> split at q <;> omega
  · show S25.1 (w + 3) 1 = 0
    rw [q1.1]
    exact (hz (w + 3) (by omega)).1 1
  · exact (((((chg.setR (by omega) (by omega)).tr (chg.setR (by omega) (by omega))).tr (q3.mono (by omega) (by omega))).tr (chg.setR (by omega) (by omega))).tr (chg.setR (by omega) (by omega))).tr (chg.setR (by omega) (by omega))
end CT
