/-! constructors: the class, the reference -/
theorem zr.cg {G : Gc} {S S' : St} {k lo hi : Nat} (h : zr G S k) (hc : chg lo hi S S') (hh : hi ≤ gz G + k) : zr G S' k := fun a ha => by
  obtain ⟨c1, c2, c3⟩ := hc a (by omega)
  rw [c1, c2, c3]
  exact h a ha
theorem TxLay.gk {G : Gc} {t k : Nat} (h : TxLay G t) (h1 : gz G ≤ t) (h2 : t + 2 ≤ gz G + k) : TxLay (gk G k) t := ⟨⟨gk_mem h1 (by omega), h.1.2⟩, ⟨gk_mem (by omega) (by omega), h.2.2⟩⟩
theorem RdLay.gk {G : Gc} {t k : Nat} (h : RdLay G t) (h1 : gz G ≤ t) (h2 : t + 3 ≤ gz G + k) : RdLay (gk G k) t := ⟨⟨gk_mem h1 (by omega), h.1.2⟩, ⟨gk_mem (by omega) (by omega), h.2.1.2⟩, ⟨gk_mem (by omega) (by omega), h.2.2.2⟩⟩
theorem RcLay.gk {G : Gc} {t m k : Nat} (h : RcLay G t m) (h1 : gz G ≤ t) (h2 : t + 2 ≤ gz G + k) : RcLay (gk G k) t m := ⟨⟨gk_mem h1 (by omega), h.1.2⟩, ⟨gk_mem (by omega) (by omega), h.2.1.2⟩, h.2.2⟩
theorem PoLay.gk {G : Gc} {t k : Nat} (h : PoLay G t) (h1 : gz G ≤ t) (h2 : t + 8 ≤ gz G + k) : PoLay (gk G k) t := ⟨⟨gk_mem h1 (by omega), h.1.2⟩, h.2.1.gk (by omega) (by omega), ⟨gk_mem (by omega) (by omega), h.2.2.1.2⟩, ⟨gk_mem (by omega) (by omega), h.2.2.2.1.2⟩, ⟨⟨gk_mem (by omega) (by omega), h.2.2.2.2.1.2⟩, h.2.2.2.2.2.gk (by omega) (by omega)⟩⟩
theorem WLay.gk {G : Gc} {w k : Nat} (h : WLay G w) (h1 : gz G ≤ w) (h2 : w + 152 ≤ gz G + k) : WLay (gk G k) w := ⟨⟨gk_mem h1 (by omega), h.1.2⟩, ⟨gk_mem (by omega) (by omega), h.2.1.2⟩, ⟨gk_mem (by omega) (by omega), h.2.2.1.2⟩, ⟨gk_mem (by omega) (by omega), h.2.2.2.1.2⟩, ⟨gk_mem (by omega) (by omega), h.2.2.2.2.1.2⟩, fun a q1 q2 => ⟨gk_mem (by omega) (by omega), (h.2.2.2.2.2.1 a q1 q2).2⟩, ⟨gk_mem (by omega) (by omega), h.2.2.2.2.2.2.1.2⟩, ⟨gk_mem (by omega) (by omega), h.2.2.2.2.2.2.2.1.2⟩, fun n hn => (h.po hn).gk (by unfold pA; omega) (by unfold pA; omega), fun i hi => ⟨gk_mem (by unfold dA; omega) (by unfold dA; omega), (h.dd hi).2⟩⟩
theorem RLay.gk {G : Gc} {h k : Nat} (L : RLay G h) (h1 : gz G ≤ h) (h2 : h + 13 ≤ gz G + k) : RLay (gk G k) h := ⟨⟨gk_mem h1 (by omega), L.1.2⟩, ⟨gk_mem (by omega) (by omega), L.2.1.2⟩, ⟨gk_mem (by omega) (by omega), L.2.2.1.2⟩, ⟨gk_mem (by omega) (by omega), L.2.2.2.1.2⟩, ⟨gk_mem (by omega) (by omega), L.2.2.2.2.1.2⟩, ⟨gk_mem (by omega) (by omega), L.2.2.2.2.2.1.2⟩, ⟨gk_mem (by omega) (by omega), L.2.2.2.2.2.2.1.2⟩, ⟨gk_mem (by omega) (by omega), L.2.2.2.2.2.2.2.1.2⟩, ⟨gk_mem (by omega) (by omega), L.2.2.2.2.2.2.2.2.1.2⟩, ⟨gk_mem (by omega) (by omega), L.2.2.2.2.2.2.2.2.2.1.2⟩, ⟨gk_mem (by omega) (by omega), L.2.2.2.2.2.2.2.2.2.2.1.2⟩, ⟨gk_mem (by omega) (by omega), L.2.2.2.2.2.2.2.2.2.2.2.1.2⟩, ⟨gk_mem (by omega) (by omega), L.2.2.2.2.2.2.2.2.2.2.2.2.2⟩⟩
/-- a text that is new -/
def tb (S : St) (t : Nat) : Prop := S.2.2 t 0 = some (t + 1) ∧ (∀ i, S.1 (t + 1) i = 0) ∧ S.1 t 1 = 0 ∧ S.1 t 2 = 0 ∧ S.1 t 3 = -1
theorem tb.cg {S S' : St} {t lo hi : Nat} (h : tb S t) (hc : chg lo hi S S') (ho : t + 2 ≤ lo ∨ hi ≤ t) : tb S' t := by
  have c0 := hc t (by omega)
  have c1 := hc (t + 1) (by omega)
  unfold tb
  rw [c0.1, c0.2.2, c1.1]
  exact h
theorem tb_new {G : Gc} {S : St} {t k : Nat} (hz : zr G S k) (h : gz G + k ≤ t) : tb (setI (setR S t 0 (some (t + 1))) t 3 (-1)) t := by
  have z0 := (hz t h).1
  have z1 := (hz (t + 1) (by omega)).1
  refine ⟨setR_at _ _ _ _, fun i => ?_, ?_, ?_, setI_at _ _ _ _⟩
  · rw [setI_ne _ _ (Or.inl (by omega))]; exact z1 i
  · rw [setI_ne _ _ (Or.inr (by decide))]; exact z0 1
  · rw [setI_ne _ _ (Or.inr (by decide))]; exact z0 2
theorem tb.D {S : St} {t : Nat} (h : tb S t) : txD S t ∧ txC S t [] := by
  have hd : txD S t := ⟨h.1, fun i _ => by rw [h.2.1 i]; rfl⟩
  exact ⟨hd, hd, h.2.2.1, Nat.zero_le _, fun c hc => absurd hc List.not_mem_nil, fun i hi => absurd hi (Nat.not_lt_zero _)⟩
def sb (S : St) (x n : Nat) : Prop := (S.2.2 x 0 = some (x + 1) ∧ S.2.2 x 1 = some (x + 3) ∧ S.2.2 x 2 = some (x + 6) ∧ S.2.2 x 3 = some (x + 158) ∧ S.2.2 x 4 = some (x + 310) ∧ S.2.2 x 5 = some (x + 311)) ∧ (tb S (x + 1) ∧ (S.2.2 (x + 3) 0 = some (x + 3 + 1) ∧ S.2.2 (x + 3) 11 = some (x + 3 + 2)) ∧ wdD S (x + 6) ∧ S.1 (x + 6 + 3) 1 = nI 0 ∧ wdD S (x + 158) ∧ S.1 x 6 = 0) ∧ ∀ j, j < n → tb S (x + 312 + 154 * j) ∧ wdD S (x + 314 + 154 * j)
theorem sb.cg {S S' : St} {x n lo hi : Nat} (h : sb S x n) (hc : chg lo hi S S') (ho : (x + 310 ≤ lo ∧ hi ≤ x + 312) ∨ x + 312 + 154 * n ≤ lo) : sb S' x n := by
  obtain ⟨a, ⟨b1, b2, b3, b4, b5, b6⟩, d⟩ := h
  have cx := hc x (by omega)
  have c3 := hc (x + 3) (by omega)
  have c9 := hc (x + 6 + 3) (by omega)
  refine ⟨by rw [cx.2.2]; exact a, ⟨b1.cg hc (by omega), by rw [c3.2.2]; exact b2, b3.chg hc (by omega), by rw [c9.1]; exact b4, b5.chg hc (by omega), by rw [cx.1]; exact b6⟩, fun j hj => ⟨(d j hj).1.cg hc (by omega), (d j hj).2.chg hc (by omega)⟩⟩
theorem Y_iastN {G : Gc} {S : St} {Z : Yp} {E : Ev} {md : Md} {pc : Nat} {lv : List (Option Value)} {st : List Value} (hB : Bd G E md) {a m : Nat} {i x : Int32} (j : Nat) (ha : a ∈ gL G) (hk : gK G a = .inr (0, m)) (hm : m < 2 ^ 31) (hi : i = nI j) (hj : j < m) (hd : decode md.2.1 pc = .ok (.iastore, 1)) (kk : Y G Z E md (setI S a j x) (pc + 1) lv st) : Y G Z E md S pc lv (.int x :: .int i :: .ref a :: st) := by
  subst hi
  have e : (nI j).toNatClampNeg = j := nI_clamp (by omega)
  refine Y_iast hB ha hk (fun q => ?_) hd (by rw [e]; exact kk)
  rcases q with q | q
  · exact nI_pos (by omega) q
  · rw [e] at q; omega
section CT
variable {G : Gc} {S : St} {k : Nat}
def srcQ (G : Gc) (S : St) (x k : Nat) (se : Nat → Nat) : St → Prop := fun S' => SF S' x ∧ (txD S' (x + 1) ∧ txC S' (x + 1) [] ∧ S'.1 (x + 1) 2 = 0 ∧ S'.1 (x + 1) 3 = -1) ∧ (S'.2.2 (x + 3) 0 = some (x + 3 + 1) ∧ S'.2.2 (x + 3) 11 = some (x + 3 + 2)) ∧ worldR S' (x + 6) (nwN ps0 se) ∧ wdD S' (x + 158) ∧ S'.1 x 6 = 0 ∧ (∀ j, j < 3 → txD S' (x + 312 + 154 * j) ∧ wdD S' (x + 314 + 154 * j)) ∧ zr G S' (k + 773)
set_option maxRecDepth 100000 in
set_option maxHeartbeats 4000000 in
theorem l_X11_init {E : Ev} {tF : Nat} (hZF : ∀ U, gZ G U → zT G "AT_FIRST" tF aF U) (se : Nat → Nat) (hB : Bd (gk G k) E mX11_init) (hsz : E.2.2.1.heap.size = gz G + k) (hin : E.2.2.2.2.2.2.1.name = "<init>") (x : Nat) (hX : SLay G x) (hk : gz G + k = x + 1) (hk1 : 1 ≤ k) (hao3 : ∀ U, gZ G U → va_AO RX3 U) (hao5 : ∀ U, gZ G U → va_AO RX5 U) (hao2 : ∀ U, gZ G U → va_AO RX2 U) (hao9 : ∀ U, gZ G U → va_AO RX9 U) (hao10 : ∀ U, gZ G U → va_AO RX10 U) (hnw : ∀ U, gZ G U → va_Nw (.methodLinkNest RX0 15 mX3_init.1 RX11) U) (hnt : ∀ U, gZ G U → va_Nw (.methodLinkNest RX11 9 mX9_init.1 RX11) U) (hnr : ∀ U, gZ G U → va_Nw (.methodLinkNest RX11 18 mX6_init.1 RX11) U) :
    ∀ (j i : Nat) (S1 : St), i + j = 3 → sb S1 x i → (∀ m, m < i → S1.2.2 (x + 310) m = some (x + 312 + 154 * m) ∧ S1.2.2 (x + 311) m = some (x + 314 + 154 * m)) → zr G S1 (k + 311 + 154 * i) → Y (gk G (k + 311 + 154 * i)) (YR 6 773 8040, 311 + 154 * i, 2994 + 1682 * i, YF G E (k + 773) 773 8040 (srcQ G S x k se)) E mX11_init S1 66 [some (.ref x), some (.int (nI i))] [] := by
  intro j
  induction j with
  | zero =>
    intro i S1 h1 h2 h3 h4
    have e9 : i = 3 := by omega
    subst e9
    have hR : RdLay (gk G (k + 311 + 154 * 3)) (x + 3) := hX.2.2.1.gk (by omega) (by omega)
    have hW : WLay (gk G (k + 311 + 154 * 3)) (x + 6) := hX.2.2.2.1.gk (by omega) (by omega)
    obtain ⟨⟨a0, a1, a2, a3, a4, a5⟩, ⟨b1, b2, b3, b4, b5, b6⟩, hd⟩ := h2
    refine Y_iload_n (i := 1) (hB.gk _) dX11_init_66 rfl rfl ?_
    refine Y_iconst (v := 3) (hB.gk _) dX11_init_67 (by decide) ?_
    refine Y_icmp_ge (tgt := 103) (hB.gk _) dX11_init_68 (by decide) (fun c68 => ?_) (fun c68 => absurd c68 (by simp (disch := omega) only [nlit, nI_leI, nI_ltI]; omega))
    refine Y_aload_n (i := 0) (hB.gk _) dX11_init_103 rfl rfl ?_
    refine Y_getr (hB.gk _) cw9 fX11_19 rfl (gk_mem (by omega) (by omega)) hX.1.2 a1 dX11_init_104 ?_
    refine Y_callV (hB.gk _) kX11_41 cw5 hR.1.1 hR.1.2 (c_X6_begin (G := gk G (k + 311 + 154 * 3)) hZF (x + 3) hR b2.1 b2.2) (Nat.le_of_ble_eq_true rfl) (Nat.le_of_ble_eq_true rfl) ⟨(Nat.le_of_ble_eq_true rfl), (Nat.le_of_ble_eq_true rfl)⟩ rfl rfl (Nat.le_of_ble_eq_true rfl) dX11_init_107 (fun r107 S107 q107 => ?_)
    obtain ⟨rfl, g1, g2, g3, g4, g5, g6⟩ := q107
    refine Y_aload_n (i := 0) (hB.gk _) dX11_init_110 rfl rfl ?_
    refine Y_getr (hB.gk _) cw9 fX11_26 rfl (gk_mem (by omega) (by omega)) hX.1.2 (show S107.2.2 x 2 = some (x + 6) by rw [g2]; exact a2) dX11_init_111 ?_
    refine Y_aload_n (i := 0) (hB.gk _) dX11_init_114 rfl rfl ?_
    refine Y_getr (hB.gk _) cw9 fX11_19 rfl (gk_mem (by omega) (by omega)) hX.1.2 (show S107.2.2 x 1 = some (x + 3) by rw [g2]; exact a1) dX11_init_115 ?_
    refine Y_callV (hB.gk _) kX11_44 cw8 hW.1.1 hW.1.2 (c_X10_become (G := gk G (k + 311 + 154 * 3)) (x + 6) (x + 3) hW hR (by omega) (b3.chg g1 (by omega)) ⟨0, by decide, by rw [(g1 _ (by omega)).1]; exact b4⟩ (by rw [g2]; exact b2.1) ps0 se (ps0_W rfl).1 g6) (Nat.le_of_ble_eq_true rfl) (Nat.le_of_ble_eq_true rfl) ⟨(Nat.le_of_ble_eq_true rfl), (Nat.le_of_ble_eq_true rfl)⟩ rfl rfl (Nat.le_of_ble_eq_true rfl) dX11_init_118 (fun r118 S118 q118 => ?_)
    obtain ⟨rfl, m1, m2⟩ := q118
    refine Y_vret (hB.gk _) rfl dX11_init_121 ?_
    have cc : chg (x + 3) (x + 158) S1 S118 := (g1.mono (by omega) (by omega)).tr (m2.1.mono (by omega) (by omega))
    have t1 := b1.cg cc (by omega)
    have ex := cc x (by omega)
    have e310 := cc (x + 310) (by omega)
    have e311 := cc (x + 311) (by omega)
    refine ⟨?_, ⟨t1.D.1, t1.D.2, t1.2.2.2.1, t1.2.2.2.2⟩, ⟨?_, ?_⟩, m1, b5.chg cc (by omega), ?_, fun j hj => ⟨((hd j hj).1.cg cc (by omega)).D.1, (hd j hj).2.chg cc (by omega)⟩, h4.cg cc (by omega)⟩
    · unfold SF
      rw [ex.2.2, e310.2.2, e311.2.2]
      exact ⟨a0, a1, a2, a3, a4, a5, h3⟩
    · rw [m2.2.1, g2]; exact b2.1
    · rw [m2.2.1, g2]; exact b2.2
    · rw [ex.1]; exact b6
  | succ j ih =>
    intro i S1 h1 h2 h3 h4
    have h3i : i < 3 := by omega
    obtain ⟨hKT, hKW⟩ := hX.2.2.2.2.2.2.2 i h3i
    have h2c := h2
    obtain ⟨⟨a0, a1, a2, a3, a4, a5⟩, -, -⟩ := h2c
    refine Y_iload_n (i := 1) (hB.gk _) dX11_init_66 rfl rfl ?_
    refine Y_iconst (v := 3) (hB.gk _) dX11_init_67 (by decide) ?_
    refine Y_icmp_ge (tgt := 103) (hB.gk _) dX11_init_68 (by decide) (fun c68 => absurd c68 (by simp (disch := omega) only [nlit, nI_leI, nI_ltI]; omega)) (fun c68 => ?_)
    refine Y_aload_n (i := 0) (hB.gk _) dX11_init_71 rfl rfl ?_
    refine Y_getr (hB.gk _) cw9 fX11_33 rfl (gk_mem (by omega) (by omega)) hX.1.2 a4 dX11_init_72 ?_
    refine Y_iload_n (i := 1) (hB.gk _) dX11_init_75 rfl rfl ?_
    refine Y_newA (hB.gk _) (a := x + 312 + 154 * i) (by omega) (by decide) cw7 zX11_7 ziX9 zsX9 hKT.1.2 h4 (by omega) (by show 311 + 154 * i + 1 ≤ 773; omega) (by show 2994 + 1682 * i + 4 ≤ 8040; omega) dX11_init_76 ?_
    refine Y_dup (hB.gk _) dX11_init_79 rfl ?_
    refine Y_callIN (hB.gk _) (kcX11_9 (hnt _ hB.2.2.2.2.2.2.2.2.2.1)) (i_X9_init (k := k + 311 + 154 * i + 1) (x + 312 + 154 * i) hKT (by omega) (by omega) (h4.mono (by omega))) (by omega) (Nat.le_of_ble_eq_true rfl) (Nat.le_of_ble_eq_true rfl) ⟨by show 311 + 154 * i + 1 + 1 ≤ 773; omega, by show 2994 + 1682 * i + 4 + 400 ≤ 8040; omega⟩ rfl rfl (Nat.le_of_ble_eq_true rfl) dX11_init_80 (fun S80 q80 => ?_)
    obtain ⟨q80, z80⟩ := q80
    subst q80
    refine Y_aastN (hB.gk _) i cw7 (gk_mem (by omega) (by omega)) hX.2.2.2.2.2.1.2 (by decide) rfl (gk_mem (by omega) (by omega)) hKT.1.2 (by decide) rfl h3i dX11_init_83 ?_
    have cA : chg (x + 312 + 154 * i) (x + 312 + 154 * i + 2) S1 (setI (setR S1 (x + 312 + 154 * i) 0 (some (x + 312 + 154 * i + 1))) (x + 312 + 154 * i) 3 (-1)) := (chg.setR (by omega) (by omega)).tr (chg.setI (by omega) (by omega))
    have cB : chg (x + 310) (x + 311) (setI (setR S1 (x + 312 + 154 * i) 0 (some (x + 312 + 154 * i + 1))) (x + 312 + 154 * i) 3 (-1)) (setR (setI (setR S1 (x + 312 + 154 * i) 0 (some (x + 312 + 154 * i + 1))) (x + 312 + 154 * i) 3 (-1)) (x + 310) i (some (x + 312 + 154 * i))) := chg.setR (by omega) (by omega)
    have cU : chg (x + 310) (x + 466 + 154 * i) S1 (setR (setI (setR S1 (x + 312 + 154 * i) 0 (some (x + 312 + 154 * i + 1))) (x + 312 + 154 * i) 3 (-1)) (x + 310) i (some (x + 312 + 154 * i))) := (cA.mono (by omega) (by omega)).tr (cB.mono (by omega) (by omega))
    refine Y_aload_n (i := 0) (hB.gk _) dX11_init_84 rfl rfl ?_
    refine Y_getr (hB.gk _) cw9 fX11_37 rfl (gk_mem (by omega) (by omega)) hX.1.2 (show (setR (setI (setR S1 (x + 312 + 154 * i) 0 (some (x + 312 + 154 * i + 1))) (x + 312 + 154 * i) 3 (-1)) (x + 310) i (some (x + 312 + 154 * i))).2.2 x 5 = some (x + 311) by rw [(cU x (by omega)).2.2]; exact a5) dX11_init_85 ?_
    refine Y_iload_n (i := 1) (hB.gk _) dX11_init_88 rfl rfl ?_
    refine Y_newA (hB.gk _) (a := x + 314 + 154 * i) (by omega) (by decide) cw8 zX11_23 ziX10 zsX10 hKW.1.2 (z80.R (by omega)) (by omega) (by show 311 + 154 * i + 1 + 1 + 1 ≤ 773; omega) (by show 2994 + 1682 * i + 4 + 400 + 8 ≤ 8040; omega) dX11_init_89 ?_
    refine Y_dup (hB.gk _) dX11_init_92 rfl ?_
    refine Y_callI (hB.gk _) kcX11_25 (i_X10_init (k := k + 311 + 154 * i + 1 + 1 + 1) (x + 314 + 154 * i) hKW (by omega) (by omega) hao3 hao5 hao2 hnw ((z80.R (by omega)).mono (by omega))) (by omega) (Nat.le_of_ble_eq_true rfl) (Nat.le_of_ble_eq_true rfl) ⟨by show 311 + 154 * i + 1 + 1 + 1 + 151 ≤ 773; omega, by show 2994 + 1682 * i + 4 + 400 + 8 + 1270 ≤ 8040; omega⟩ rfl rfl (Nat.le_of_ble_eq_true rfl) dX11_init_93 (fun S93 q93 => ?_)
    obtain ⟨w1, w2, w3, w4⟩ := q93
    refine Y_aastN (hB.gk _) i cw8 (gk_mem (by omega) (by omega)) hX.2.2.2.2.2.2.1.2 (by decide) rfl (gk_mem (by omega) (by omega)) hKW.1.2 (by decide) rfl h3i dX11_init_96 ?_
    refine Y_iinc (hB.gk _) dX11_init_97 rfl rfl (by decide) rfl ?_
    refine Y_goto (tgt := 66) (hB.gk _) dX11_init_100 (by decide) ?_
    refine Y_zz (c2 := 311 + 154 * (i + 1)) (v2 := 2994 + 1682 * (i + 1)) (by omega) (by show 2994 + 1682 * i + 4 + 400 + 8 + 1270 = 2994 + 1682 * (i + 1); omega) ?_
    have cD : chg (x + 311) (x + 312) S93 (setR S93 (x + 311) i (some (x + 314 + 154 * i))) := chg.setR (by omega) (by omega)
    have hb := (((h2.cg cA (by omega)).cg cB (by omega)).cg w3 (by omega)).cg cD (by omega)
    have ht := (((tb_new (t := x + 312 + 154 * i) h4 (by omega)).cg cB (by omega)).cg w3 (by omega)).cg cD (by omega)
    refine Y_lv ?_ (ih (i + 1) _ (by omega) ⟨hb.1, hb.2.1, fun m hm => ?_⟩ (fun m hm => ⟨?_, ?_⟩) ((w4.mono (by omega)).R (by omega)))
    · rw [nI_succ]; rfl
    · by_cases q : m = i
      · subst q; exact ⟨ht, w1.chg cD (by omega)⟩
      · exact hb.2.2 m (by omega)
    · rw [(cD _ (by omega)).2.2, (w3 _ (by omega)).2.2]
      by_cases q : m = i
      · rw [q, setR_at]
      · rw [setR_ne _ _ (Or.inr q), (cA _ (by omega)).2.2]; exact (h3 m (by omega)).1
    · by_cases q : m = i
      · rw [q, setR_at]
      · rw [setR_ne _ _ (Or.inr q), (w3 _ (by omega)).2.2, (cB _ (by omega)).2.2, (cA _ (by omega)).2.2]; exact (h3 m (by omega)).2
set_option maxRecDepth 100000 in
set_option maxHeartbeats 4000000 in
theorem i_X11_init {tF : Nat} (hZF : ∀ U, gZ G U → zT G "AT_FIRST" tF aF U) (se : Nat → Nat) (x : Nat) (hX : SLay G x) (hk : gz G + k = x + 1) (hk1 : 1 ≤ k) (hao3 : ∀ U, gZ G U → va_AO RX3 U) (hao5 : ∀ U, gZ G U → va_AO RX5 U) (hao2 : ∀ U, gZ G U → va_AO RX2 U) (hao9 : ∀ U, gZ G U → va_AO RX9 U) (hao10 : ∀ U, gZ G U → va_AO RX10 U) (hnw : ∀ U, gZ G U → va_Nw (.methodLinkNest RX0 15 mX3_init.1 RX11) U) (hnt : ∀ U, gZ G U → va_Nw (.methodLinkNest RX11 9 mX9_init.1 RX11) U) (hnr : ∀ U, gZ G U → va_Nw (.methodLinkNest RX11 18 mX6_init.1 RX11) U) (hz : zr G S k) (hx6 : S.1 x 6 = 0) : CI G mX11_init 6 773 8040 [.ref x] k (k + 773) S (fun S' => srcQ G S x k se S') := by
  refine CI.mk (lv := [some (.ref x), none]) (by decide) rfl (Nat.le_of_ble_eq_true rfl) rfl (fun E hB hsz hin => ?_)
  refine Y_aload_n (i := 0) (hB.gk _) dX11_init_0 rfl rfl ?_
  refine Y_oinit (hB.gk _) zoX11_1 zo_i zo_c (Nat.le_of_ble_eq_true rfl) (Nat.le_of_ble_eq_true rfl) dX11_init_1 ?_
  refine Y_aload_n (i := 0) (hB.gk _) dX11_init_4 rfl rfl ?_
  refine Y_newA (hB.gk _) (a := x + 1) (by omega) (by decide) cw7 zX11_7 ziX9 zsX9 hX.2.1.1.2 hz (by omega) (Nat.le_of_ble_eq_true rfl) (Nat.le_of_ble_eq_true rfl) dX11_init_5 ?_
  refine Y_dup (hB.gk _) dX11_init_8 rfl ?_
  refine Y_callIN (hB.gk _) (kcX11_9 (hnt _ hB.2.2.2.2.2.2.2.2.2.1)) (i_X9_init (k := k + 1) (x + 1) hX.2.1 (by omega) (by omega) (hz.mono (by omega))) (by omega) (Nat.le_of_ble_eq_true rfl) (Nat.le_of_ble_eq_true rfl) ⟨(Nat.le_of_ble_eq_true rfl), (Nat.le_of_ble_eq_true rfl)⟩ rfl rfl (Nat.le_of_ble_eq_true rfl) dX11_init_9 (fun S9 q9 => ?_)
  obtain ⟨q9, z9⟩ := q9
  subst q9
  refine Y_putFr (hB.gk _) cw9 fX11_10 rfl hin rfl rfl rfl rfl (gk_mem (by omega) (by omega)) hX.1.2 dX11_init_12 ?_
  have z12 := z9.R (a := x) (j := 0) (v := some (x + 1)) (by omega)
  refine Y_aload_n (i := 0) (hB.gk _) dX11_init_15 rfl rfl ?_
  refine Y_newA (hB.gk _) (a := x + 3) (by omega) (by decide) cw5 zX11_16 ziX6 zsX6 hX.2.2.1.1.2 z12 (by omega) (Nat.le_of_ble_eq_true rfl) (Nat.le_of_ble_eq_true rfl) dX11_init_16 ?_
  refine Y_dup (hB.gk _) dX11_init_19 rfl ?_
  refine Y_callIN (hB.gk _) (kcX11_18 (hnr _ hB.2.2.2.2.2.2.2.2.2.1)) (i_X6_init (k := k + 1 + 1 + 1) (x + 3) hX.2.2.1 (by omega) (by omega) (z12.mono (by omega))) (by omega) (Nat.le_of_ble_eq_true rfl) (Nat.le_of_ble_eq_true rfl) ⟨(Nat.le_of_ble_eq_true rfl), (Nat.le_of_ble_eq_true rfl)⟩ rfl rfl (Nat.le_of_ble_eq_true rfl) dX11_init_20 (fun S20 q20 => ?_)
  obtain ⟨q20, z20⟩ := q20
  subst q20
  refine Y_putFr (hB.gk _) cw9 fX11_19 rfl hin rfl rfl rfl rfl (gk_mem (by omega) (by omega)) hX.1.2 dX11_init_23 ?_
  have z23 := z20.R (a := x) (j := 1) (v := some (x + 3)) (by omega)
  refine Y_aload_n (i := 0) (hB.gk _) dX11_init_26 rfl rfl ?_
  refine Y_newA (hB.gk _) (a := x + 6) (by omega) (by decide) cw8 zX11_23 ziX10 zsX10 hX.2.2.2.1.1.2 z23 (by omega) (Nat.le_of_ble_eq_true rfl) (Nat.le_of_ble_eq_true rfl) dX11_init_27 ?_
  refine Y_dup (hB.gk _) dX11_init_30 rfl ?_
  refine Y_callI (hB.gk _) (kcX11_25) (i_X10_init (k := k + 1 + 1 + 1 + 2 + 1) (x + 6) hX.2.2.2.1 (by omega) (by omega) hao3 hao5 hao2 hnw (z23.mono (by omega))) (by omega) (Nat.le_of_ble_eq_true rfl) (Nat.le_of_ble_eq_true rfl) ⟨(Nat.le_of_ble_eq_true rfl), (Nat.le_of_ble_eq_true rfl)⟩ rfl rfl (Nat.le_of_ble_eq_true rfl) dX11_init_31 (fun S31 q31 => ?_)
  obtain ⟨w1, w2, w3, w4⟩ := q31
  refine Y_putFr (hB.gk _) cw9 fX11_26 rfl hin rfl rfl rfl rfl (gk_mem (by omega) (by omega)) hX.1.2 dX11_init_34 ?_
  have z34 := w4.R (a := x) (j := 2) (v := some (x + 6)) (by omega)
  refine Y_aload_n (i := 0) (hB.gk _) dX11_init_37 rfl rfl ?_
  refine Y_newA (hB.gk _) (a := x + 158) (by omega) (by decide) cw8 zX11_23 ziX10 zsX10 hX.2.2.2.2.1.1.2 z34 (by omega) (Nat.le_of_ble_eq_true rfl) (Nat.le_of_ble_eq_true rfl) dX11_init_38 ?_
  refine Y_dup (hB.gk _) dX11_init_41 rfl ?_
  refine Y_callI (hB.gk _) (kcX11_25) (i_X10_init (k := k + 1 + 1 + 1 + 2 + 1 + 151 + 1) (x + 158) hX.2.2.2.2.1 (by omega) (by omega) hao3 hao5 hao2 hnw (z34.mono (by omega))) (by omega) (Nat.le_of_ble_eq_true rfl) (Nat.le_of_ble_eq_true rfl) ⟨(Nat.le_of_ble_eq_true rfl), (Nat.le_of_ble_eq_true rfl)⟩ rfl rfl (Nat.le_of_ble_eq_true rfl) dX11_init_42 (fun S42 q42 => ?_)
  obtain ⟨v1, v2, v3, v4⟩ := q42
  refine Y_putFr (hB.gk _) cw9 fX11_30 rfl hin rfl rfl rfl rfl (gk_mem (by omega) (by omega)) hX.1.2 dX11_init_45 ?_
  have z45 := v4.R (a := x) (j := 3) (v := some (x + 158)) (by omega)
  refine Y_aload_n (i := 0) (hB.gk _) dX11_init_48 rfl rfl ?_
  refine Y_iconst (v := 3) (hB.gk _) dX11_init_49 (by decide) ?_
  refine Y_anewA (hB.gk _) 3 (t := 7) (a := x + 310) (by omega) (by decide) rfl zX11_7 hao9 hX.2.2.2.2.2.1.2 z45 (by omega) rfl (Nat.le_of_ble_eq_true rfl) (Nat.le_of_ble_eq_true rfl) (Nat.le_of_ble_eq_true rfl) dX11_init_50 ?_
  refine Y_putFr (hB.gk _) cw9 fX11_33 rfl hin rfl rfl rfl rfl (gk_mem (by omega) (by omega)) hX.1.2 dX11_init_53 ?_
  have z53 := (z45.mono (Nat.le_succ _)).R (a := x) (j := 4) (v := some (x + 310)) (by omega)
  refine Y_aload_n (i := 0) (hB.gk _) dX11_init_56 rfl rfl ?_
  refine Y_iconst (v := 3) (hB.gk _) dX11_init_57 (by decide) ?_
  refine Y_anewA (hB.gk _) 3 (t := 8) (a := x + 311) (by omega) (by decide) rfl zX11_23 hao10 hX.2.2.2.2.2.2.1.2 z53 (by omega) rfl (Nat.le_of_ble_eq_true rfl) (Nat.le_of_ble_eq_true rfl) (Nat.le_of_ble_eq_true rfl) dX11_init_58 ?_
  refine Y_putFr (hB.gk _) cw9 fX11_37 rfl hin rfl rfl rfl rfl (gk_mem (by omega) (by omega)) hX.1.2 dX11_init_61 ?_
  have z61 := (z53.mono (Nat.le_succ _)).R (a := x) (j := 5) (v := some (x + 311)) (by omega)
  refine Y_iconst (v := 0) (hB.gk _) dX11_init_64 (by decide) ?_
  refine Y_istore_n (i := 1) (hB.gk _) dX11_init_65 rfl (by decide) rfl ?_
  have cE : chg x (x + 1) S42 (setR (setR (setR S42 x 3 (some (x + 158))) x 4 (some (x + 310))) x 5 (some (x + 311))) := ((chg.setR (by omega) (by omega)).tr (chg.setR (by omega) (by omega))).tr (chg.setR (by omega) (by omega))
  have cF : chg x (x + 1) S31 (setR S31 x 2 (some (x + 6))) := chg.setR (by omega) (by omega)
  have t0 : tb (setI (setR S (x + 1) 0 (some (x + 1 + 1))) (x + 1) 3 (-1)) (x + 1) := tb_new hz (by omega)
  have cG : chg x (x + 1) (setI (setR S (x + 1) 0 (some (x + 1 + 1))) (x + 1) 3 (-1)) (setR (setI (setR S (x + 1) 0 (some (x + 1 + 1))) (x + 1) 3 (-1)) x 0 (some (x + 1))) := chg.setR (by omega) (by omega)
  have cH : chg (x + 3) (x + 4) (setR (setI (setR S (x + 1) 0 (some (x + 1 + 1))) (x + 1) 3 (-1)) x 0 (some (x + 1))) (setR (setR (setR (setI (setR S (x + 1) 0 (some (x + 1 + 1))) (x + 1) 3 (-1)) x 0 (some (x + 1))) (x + 3) 0 (some (x + 3 + 1))) (x + 3) 11 (some (x + 3 + 2))) := (chg.setR (by omega) (by omega)).tr (chg.setR (by omega) (by omega))
  have cI : chg x (x + 1) (setR (setR (setR (setI (setR S (x + 1) 0 (some (x + 1 + 1))) (x + 1) 3 (-1)) x 0 (some (x + 1))) (x + 3) 0 (some (x + 3 + 1))) (x + 3) 11 (some (x + 3 + 2))) (setR (setR (setR (setR (setI (setR S (x + 1) 0 (some (x + 1 + 1))) (x + 1) 3 (-1)) x 0 (some (x + 1))) (x + 3) 0 (some (x + 3 + 1))) (x + 3) 11 (some (x + 3 + 2))) x 1 (some (x + 3))) := chg.setR (by omega) (by omega)
  refine Y_lv (lv' := [some (.ref x), some (.int (nI 0))]) (by rw [nI_0]; rfl) (l_X11_init (S := S) hZF se hB hsz hin x hX hk hk1 hao3 hao5 hao2 hao9 hao10 hnw hnt hnr 3 0 _ (by omega) ⟨⟨?_, ?_, ?_, ?_, ?_, ?_⟩, ⟨?_, ⟨?_, ?_⟩, ?_, ?_, ?_, ?_⟩, fun m hm => by omega⟩ (fun m hm => by omega) (z61.mono (by omega)))
  · rw [setR_ne _ _ (Or.inr (by decide)), setR_ne _ _ (Or.inr (by decide)), setR_ne _ _ (Or.inr (by decide)), (v3 _ (by omega)).2.2, setR_ne _ _ (Or.inr (by decide)), (w3 _ (by omega)).2.2, setR_ne _ _ (Or.inr (by decide)), setR_ne _ _ (Or.inl (by omega)), setR_ne _ _ (Or.inl (by omega)), setR_at]
  · rw [setR_ne _ _ (Or.inr (by decide)), setR_ne _ _ (Or.inr (by decide)), setR_ne _ _ (Or.inr (by decide)), (v3 _ (by omega)).2.2, setR_ne _ _ (Or.inr (by decide)), (w3 _ (by omega)).2.2, setR_at]
  · rw [setR_ne _ _ (Or.inr (by decide)), setR_ne _ _ (Or.inr (by decide)), setR_ne _ _ (Or.inr (by decide)), (v3 _ (by omega)).2.2, setR_at]
  · rw [setR_ne _ _ (Or.inr (by decide)), setR_ne _ _ (Or.inr (by decide)), setR_at]
  · rw [setR_ne _ _ (Or.inr (by decide)), setR_at]
  · rw [setR_at]
  · exact ((((((t0.cg cG (by omega)).cg cH (by omega)).cg cI (by omega)).cg w3 (by omega)).cg cF (by omega)).cg v3 (by omega)).cg cE (by omega)
  · rw [(cE _ (by omega)).2.2, (v3 _ (by omega)).2.2, (cF _ (by omega)).2.2, (w3 _ (by omega)).2.2, (cI _ (by omega)).2.2, setR_ne _ _ (Or.inr (by decide)), setR_at]
  · rw [(cE _ (by omega)).2.2, (v3 _ (by omega)).2.2, (cF _ (by omega)).2.2, (w3 _ (by omega)).2.2, (cI _ (by omega)).2.2, setR_at]
  · exact ((w1.chg cF (by omega)).chg v3 (by omega)).chg cE (by omega)
  · rw [(cE _ (by omega)).1, (v3 _ (by omega)).1, (cF _ (by omega)).1]; exact w2
  · exact v1.chg cE (by omega)
  · show S42.1 x 6 = 0
    rw [(v3 _ (by omega)).1]
    show S31.1 x 6 = 0
    rw [(w3 _ (by omega)).1]
    show (setI (setR S (x + 1) 0 (some (x + 1 + 1))) (x + 1) 3 (-1)).1 x 6 = 0
    rw [setI_ne _ _ (Or.inl (by omega))]
    exact hx6
def se1 : Nat → Nat := fun k => if k = 13 then 4294967295 else 0
def modQ (S : St) (h : Nat) : St → Prop := fun S' => RRef S' h ∧ netR (S'.1 (h + 1)) (nwN ps0 se1) ∧ txB (S'.1 (h + 2)) ∧ (∀ k, S'.1 (h + 3) k = 0) ∧ chg h (h + 13) S S'
set_option maxRecDepth 100000 in
set_option maxHeartbeats 4000000 in
theorem i_X12_init (h : Nat) (hL : RLay G h) (hk : gz G + k = h + 1) (hk1 : 1 ≤ k) (hz : zr G S k) : CI G mX12_init 3 12 14490 [.ref h] k (k + 12) S (fun S' => modQ S h S') := by
  refine CI.mk (lv := [some (.ref h)]) (by decide) rfl (Nat.le_of_ble_eq_true rfl) rfl (fun E hB hsz hin => ?_)
  refine Y_aload_n (i := 0) (hB.gk _) dX12_init_0 rfl rfl ?_
  refine Y_oinit (hB.gk _) zoX12_1 zo_i zo_c (Nat.le_of_ble_eq_true rfl) (Nat.le_of_ble_eq_true rfl) dX12_init_1 ?_
  refine Y_aload_n (i := 0) (hB.gk _) dX12_init_4 rfl rfl ?_
  refine Y_sipush (v := 12285) (hB.gk _) dX12_init_5 (by decide) ?_
  refine Y_newaA (hB.gk _) 12285 (atype := .int) (t := 0) (a := h + 1) (by omega) (by decide) za_int rfl hL.2.1.2 hz (by omega) rfl (Nat.le_of_ble_eq_true rfl) (Nat.le_of_ble_eq_true rfl) (Nat.le_of_ble_eq_true rfl) dX12_init_8 ?_
  refine Y_putFr (hB.gk _) cw10 fX12_7 rfl hin rfl rfl rfl rfl (gk_mem (by omega) (by omega)) hL.1.2 dX12_init_10 ?_
  have y0 := (zr.mono hz (Nat.le_succ _)).R (a := h) (j := 1) (v := some (h + 1)) (by omega)
  refine Y_aload_n (i := 0) (hB.gk _) dX12_init_13 rfl rfl ?_
  refine Y_sipush (v := 2000) (hB.gk _) dX12_init_14 (by decide) ?_
  refine Y_newaA (hB.gk _) 2000 (atype := .byte) (t := 1) (a := h + 2) (by omega) (by decide) za_byte rfl hL.2.2.1.2 y0 (by omega) rfl (Nat.le_of_ble_eq_true rfl) (Nat.le_of_ble_eq_true rfl) (Nat.le_of_ble_eq_true rfl) dX12_init_17 ?_
  refine Y_putFr (hB.gk _) cw10 fX12_13 rfl hin rfl rfl rfl rfl (gk_mem (by omega) (by omega)) hL.1.2 dX12_init_19 ?_
  have y1 := (zr.mono y0 (Nat.le_succ _)).R (a := h) (j := 2) (v := some (h + 2)) (by omega)
  refine Y_aload_n (i := 0) (hB.gk _) dX12_init_22 rfl rfl ?_
  refine Y_iconst (v := 3) (hB.gk _) dX12_init_23 (by decide) ?_
  refine Y_newaA (hB.gk _) 3 (atype := .boolean) (t := 2) (a := h + 3) (by omega) (by decide) za_boolean rfl hL.2.2.2.1.2 y1 (by omega) rfl (Nat.le_of_ble_eq_true rfl) (Nat.le_of_ble_eq_true rfl) (Nat.le_of_ble_eq_true rfl) dX12_init_24 ?_
  refine Y_putFr (hB.gk _) cw10 fX12_17 rfl hin rfl rfl rfl rfl (gk_mem (by omega) (by omega)) hL.1.2 dX12_init_26 ?_
  have y2 := (zr.mono y1 (Nat.le_succ _)).R (a := h) (j := 3) (v := some (h + 3)) (by omega)
  refine Y_aload_n (i := 0) (hB.gk _) dX12_init_29 rfl rfl ?_
  refine Y_bipush (v := 8) (hB.gk _) dX12_init_30 (by decide) ?_
  refine Y_newaA (hB.gk _) 8 (atype := .int) (t := 0) (a := h + 4) (by omega) (by decide) za_int rfl hL.2.2.2.2.1.2 y2 (by omega) rfl (Nat.le_of_ble_eq_true rfl) (Nat.le_of_ble_eq_true rfl) (Nat.le_of_ble_eq_true rfl) dX12_init_32 ?_
  refine Y_putFr (hB.gk _) cw10 fX12_21 rfl hin rfl rfl rfl rfl (gk_mem (by omega) (by omega)) hL.1.2 dX12_init_34 ?_
  have y3 := (zr.mono y2 (Nat.le_succ _)).R (a := h) (j := 13) (v := some (h + 4)) (by omega)
  refine Y_aload_n (i := 0) (hB.gk _) dX12_init_37 rfl rfl ?_
  refine Y_bipush (v := 64) (hB.gk _) dX12_init_38 (by decide) ?_
  refine Y_newaA (hB.gk _) 64 (atype := .int) (t := 0) (a := h + 5) (by omega) (by decide) za_int rfl hL.2.2.2.2.2.1.2 y3 (by omega) rfl (Nat.le_of_ble_eq_true rfl) (Nat.le_of_ble_eq_true rfl) (Nat.le_of_ble_eq_true rfl) dX12_init_40 ?_
  refine Y_putFr (hB.gk _) cw10 fX12_24 rfl hin rfl rfl rfl rfl (gk_mem (by omega) (by omega)) hL.1.2 dX12_init_42 ?_
  have y4 := (zr.mono y3 (Nat.le_succ _)).R (a := h) (j := 14) (v := some (h + 5)) (by omega)
  refine Y_aload_n (i := 0) (hB.gk _) dX12_init_45 rfl rfl ?_
  refine Y_bipush (v := 8) (hB.gk _) dX12_init_46 (by decide) ?_
  refine Y_newaA (hB.gk _) 8 (atype := .int) (t := 0) (a := h + 6) (by omega) (by decide) za_int rfl hL.2.2.2.2.2.2.1.2 y4 (by omega) rfl (Nat.le_of_ble_eq_true rfl) (Nat.le_of_ble_eq_true rfl) (Nat.le_of_ble_eq_true rfl) dX12_init_48 ?_
  refine Y_putFr (hB.gk _) cw10 fX12_27 rfl hin rfl rfl rfl rfl (gk_mem (by omega) (by omega)) hL.1.2 dX12_init_50 ?_
  have y5 := (zr.mono y4 (Nat.le_succ _)).R (a := h) (j := 15) (v := some (h + 6)) (by omega)
  refine Y_aload_n (i := 0) (hB.gk _) dX12_init_53 rfl rfl ?_
  refine Y_bipush (v := 9) (hB.gk _) dX12_init_54 (by decide) ?_
  refine Y_newaA (hB.gk _) 9 (atype := .int) (t := 0) (a := h + 7) (by omega) (by decide) za_int rfl hL.2.2.2.2.2.2.2.1.2 y5 (by omega) rfl (Nat.le_of_ble_eq_true rfl) (Nat.le_of_ble_eq_true rfl) (Nat.le_of_ble_eq_true rfl) dX12_init_56 ?_
  refine Y_putFr (hB.gk _) cw10 fX12_30 rfl hin rfl rfl rfl rfl (gk_mem (by omega) (by omega)) hL.1.2 dX12_init_58 ?_
  have y6 := (zr.mono y5 (Nat.le_succ _)).R (a := h) (j := 19) (v := some (h + 7)) (by omega)
  refine Y_aload_n (i := 0) (hB.gk _) dX12_init_61 rfl rfl ?_
  refine Y_bipush (v := 9) (hB.gk _) dX12_init_62 (by decide) ?_
  refine Y_newaA (hB.gk _) 9 (atype := .int) (t := 0) (a := h + 8) (by omega) (by decide) za_int rfl hL.2.2.2.2.2.2.2.2.1.2 y6 (by omega) rfl (Nat.le_of_ble_eq_true rfl) (Nat.le_of_ble_eq_true rfl) (Nat.le_of_ble_eq_true rfl) dX12_init_64 ?_
  refine Y_putFr (hB.gk _) cw10 fX12_33 rfl hin rfl rfl rfl rfl (gk_mem (by omega) (by omega)) hL.1.2 dX12_init_66 ?_
  have y7 := (zr.mono y6 (Nat.le_succ _)).R (a := h) (j := 21) (v := some (h + 8)) (by omega)
  refine Y_aload_n (i := 0) (hB.gk _) dX12_init_69 rfl rfl ?_
  refine Y_bipush (v := 64) (hB.gk _) dX12_init_70 (by decide) ?_
  refine Y_newaA (hB.gk _) 64 (atype := .boolean) (t := 2) (a := h + 9) (by omega) (by decide) za_boolean rfl hL.2.2.2.2.2.2.2.2.2.1.2 y7 (by omega) rfl (Nat.le_of_ble_eq_true rfl) (Nat.le_of_ble_eq_true rfl) (Nat.le_of_ble_eq_true rfl) dX12_init_72 ?_
  refine Y_putFr (hB.gk _) cw10 fX12_36 rfl hin rfl rfl rfl rfl (gk_mem (by omega) (by omega)) hL.1.2 dX12_init_74 ?_
  have y8 := (zr.mono y7 (Nat.le_succ _)).R (a := h) (j := 23) (v := some (h + 9)) (by omega)
  refine Y_aload_n (i := 0) (hB.gk _) dX12_init_77 rfl rfl ?_
  refine Y_bipush (v := 8) (hB.gk _) dX12_init_78 (by decide) ?_
  refine Y_newaA (hB.gk _) 8 (atype := .int) (t := 0) (a := h + 10) (by omega) (by decide) za_int rfl hL.2.2.2.2.2.2.2.2.2.2.1.2 y8 (by omega) rfl (Nat.le_of_ble_eq_true rfl) (Nat.le_of_ble_eq_true rfl) (Nat.le_of_ble_eq_true rfl) dX12_init_80 ?_
  refine Y_putFr (hB.gk _) cw10 fX12_39 rfl hin rfl rfl rfl rfl (gk_mem (by omega) (by omega)) hL.1.2 dX12_init_82 ?_
  have y9 := (zr.mono y8 (Nat.le_succ _)).R (a := h) (j := 24) (v := some (h + 10)) (by omega)
  refine Y_aload_n (i := 0) (hB.gk _) dX12_init_85 rfl rfl ?_
  refine Y_bipush (v := 16) (hB.gk _) dX12_init_86 (by decide) ?_
  refine Y_newaA (hB.gk _) 16 (atype := .int) (t := 0) (a := h + 11) (by omega) (by decide) za_int rfl hL.2.2.2.2.2.2.2.2.2.2.2.1.2 y9 (by omega) rfl (Nat.le_of_ble_eq_true rfl) (Nat.le_of_ble_eq_true rfl) (Nat.le_of_ble_eq_true rfl) dX12_init_88 ?_
  refine Y_putFr (hB.gk _) cw10 fX12_42 rfl hin rfl rfl rfl rfl (gk_mem (by omega) (by omega)) hL.1.2 dX12_init_90 ?_
  have y10 := (zr.mono y9 (Nat.le_succ _)).R (a := h) (j := 25) (v := some (h + 11)) (by omega)
  refine Y_aload_n (i := 0) (hB.gk _) dX12_init_93 rfl rfl ?_
  refine Y_bipush (v := 16) (hB.gk _) dX12_init_94 (by decide) ?_
  refine Y_newaA (hB.gk _) 16 (atype := .int) (t := 0) (a := h + 12) (by omega) (by decide) za_int rfl hL.2.2.2.2.2.2.2.2.2.2.2.2.2 y10 (by omega) rfl (Nat.le_of_ble_eq_true rfl) (Nat.le_of_ble_eq_true rfl) (Nat.le_of_ble_eq_true rfl) dX12_init_96 ?_
  refine Y_putFr (hB.gk _) cw10 fX12_45 rfl hin rfl rfl rfl rfl (gk_mem (by omega) (by omega)) hL.1.2 dX12_init_98 ?_
  have y11 := (zr.mono y10 (Nat.le_succ _)).R (a := h) (j := 26) (v := some (h + 12)) (by omega)
  generalize hT : (setR (setR (setR (setR (setR (setR (setR (setR (setR (setR (setR (setR S h 1 (some (h + 1))) h 2 (some (h + 2))) h 3 (some (h + 3))) h 13 (some (h + 4))) h 14 (some (h + 5))) h 15 (some (h + 6))) h 19 (some (h + 7))) h 21 (some (h + 8))) h 23 (some (h + 9))) h 24 (some (h + 10))) h 25 (some (h + 11))) h 26 (some (h + 12))) = T
  have tR : RRef T h := by
    rw [← hT]
    simp [RRef, setR, ups]
  have tI : T.1 = S.1 := by rw [← hT]; rfl
  have tc : chg h (h + 1) S T := by
    rw [← hT]
    exact (((((((((((chg.setR (by omega) (by omega)).tr (chg.setR (by omega) (by omega))).tr (chg.setR (by omega) (by omega))).tr (chg.setR (by omega) (by omega))).tr (chg.setR (by omega) (by omega))).tr (chg.setR (by omega) (by omega))).tr (chg.setR (by omega) (by omega))).tr (chg.setR (by omega) (by omega))).tr (chg.setR (by omega) (by omega))).tr (chg.setR (by omega) (by omega))).tr (chg.setR (by omega) (by omega))).tr (chg.setR (by omega) (by omega))
  clear hT
  have hRR := tR
  have zA : ∀ j, T.1 (h + 1) j = nI 0 := fun j => by rw [tI]; exact (hz (h + 1) (by omega)).1 j
  refine Y_aload_n (i := 0) (hB.gk _) dX12_init_101 rfl rfl ?_
  refine Y_callV (hB.gk _) kX12_48 cw10 (gk_mem (by omega) (by omega)) hL.1.2 (c_startsAll (G := gk G (k + 12)) (hL.gk (by omega) (by omega)) hRR (fun _ => 0) (fun j _ => zA j)) (Nat.le_of_ble_eq_true rfl) (Nat.le_of_ble_eq_true rfl) ⟨(Nat.le_of_ble_eq_true rfl), (Nat.le_of_ble_eq_true rfl)⟩ rfl rfl (Nat.le_of_ble_eq_true rfl) dX12_init_102 (fun r102 S102 q102 => ?_)
  obtain ⟨rfl, m1, m2, m3⟩ := q102
  have hR2 := m1.ref hRR
  refine Y_aload_n (i := 0) (hB.gk _) dX12_init_105 rfl rfl ?_
  refine Y_getr (hB.gk _) cw10 fX12_7 rfl (gk_mem (by omega) (by omega)) hL.1.2 hR2.1 dX12_init_106 ?_
  refine Y_bipush (v := 13) (hB.gk _) dX12_init_109 (by decide) ?_
  refine Y_iconst (v := (-1)) (hB.gk _) dX12_init_111 (by decide) ?_
  refine Y_iastN (hB.gk _) 13 (gk_mem (by omega) (by omega)) hL.2.1.2 (by decide) rfl (by decide) dX12_init_112 ?_
  refine Y_vret (hB.gk _) rfl dX12_init_113 ?_
  have f3 := m1.2.2.1
  refine ⟨hR2.of rfl, ?_, fun i _ => ?_, fun i => ?_, fun a ha => ⟨?_, ?_, ?_⟩⟩
  · refine netR_se m2 (nwN_wf (b := 0) (ps0_W rfl).1 (fun a b q => by cases q) (by decide)).sz (fun i _ hi => setI_ne _ _ (Or.inr (by omega))) (fun i hi => ?_)
    by_cases q : i = 13
    · subst q; rw [setI_at]; decide
    · rw [setI_ne _ _ (Or.inr q), m2.1.1 i hi]
      show nI (if i < 8 then pSe ps0 i else 0) = nI (if i < 8 then pSe ps0 i else se1 i)
      unfold se1
      rw [if_neg q]
  · rw [setI_row _ _ _ (by omega), f3 _ (by simp) (by omega), tI, (hz (h + 2) (by omega)).1 i]; rfl
  · rw [setI_row _ _ _ (by omega), f3 _ (by simp) (by omega), tI]; exact (hz (h + 3) (by omega)).1 i
  · rw [setI_row _ _ _ (by omega), f3 _ (by simp; omega) (by omega)]; exact (tc a (by omega)).1
  · show S102.2.1 a = _
    rw [m1.2.1 a (by omega)]; exact (tc a (by omega)).2.1
  · show S102.2.2 a = _
    rw [m1.1]; exact (tc a (by omega)).2.2
end CT
