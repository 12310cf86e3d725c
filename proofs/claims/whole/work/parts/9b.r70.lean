/-! the class: copies -/
/-- what a post is made of, whatever it holds -/
def poD (S : St) (p n : Nat) : Prop := poF S p ∧ S.1 (p + 5) 0 = nI n ∧ S.2.2 (p + 5) 1 = some (p + 6) ∧ S.2.2 (p + 6) 0 = some (p + 7) ∧ S.2.2 (p + 1) 0 = some (p + 2) ∧ n < 8
theorem poR.D {S : St} {p n : Nat} {s : Nat → Nat} {x : Nd} (h : poR S p n s x) : poD S p n := ⟨h.1, h.2.2.1.2.1, h.2.2.1.1, h.2.2.1.rc.1, h.2.2.2.1.1, h.2.2.1.2.2.2.2.2.2.2.2.2⟩
theorem cpI_chg {S : St} {a0 a m : Nat} : chg a (a + 1) S (cpI S a0 a m) := fun b hb => cpI_oth S a0 a m b (by omega)
theorem cpJ_chg {S : St} {a0 a m : Nat} : chg a (a + 1) S (cpJ S a0 a m) := fun b hb => cpJ_oth S a0 a m b (by omega)
theorem caR18 {S : St} {c n hops room : Nat} {mp : Bool} {cs : List (List Nat)} (h : caR S c n mp hops room cs) : (cs.map rJ).length ≤ 18 := h.ok.l18
theorem caR_same {S S' : St} {c n hops room : Nat} {mp : Bool} {cs : List (List Nat)} (h : caR S c n mp hops room cs) (h1 : S'.1 c = S.1 c) (h2 : S'.1 (c + 1) = S.1 (c + 1)) (h3 : S'.2.1 (c + 2) = S.2.1 (c + 2)) (h4 : S'.2.2 c = S.2.2 c) (h5 : S'.2.2 (c + 1) = S.2.2 (c + 1)) : caR S' c n mp hops room cs := by
  obtain ⟨g1, g2, g3, g4, g5, g6, g7⟩ := h
  exact ⟨by rw [h4]; exact g1, by rw [h1]; exact g2, by rw [h1]; exact g3, by rw [h1]; exact g4, by rw [h1]; exact g5, ⟨by rw [h5]; exact g6.1, by rw [h2]; exact g6.2.1, fun i hi => by rw [h3]; exact g6.2.2 i hi⟩, g7⟩
section CLS
variable {G : Gc} {S : St}
set_option maxRecDepth 100000 in
set_option maxHeartbeats 4000000 in
theorem c_X7_copyFrom (a b m : Nat) (hL : RcLay G a m) (hM : RcLay G b m) (hab : a + 1 < b ∨ b + 1 < a) (ha : S.2.2 a 0 = some (a + 1)) (es : List Int64) (hr : rcR S b es) (hm : es.length ≤ m) : C G mX7_copyFrom 1 [.ref a, .ref b] S (fun r S' => r = none ∧ chg a (a + 2) S S' ∧ S'.2.2 = S.2.2 ∧ S'.1 (a + 1) = S.1 (a + 1) ∧ rcR S' a es) := by
  have h100 := hL.2.2.2
  refine C.mk (lv := [some (.ref a), some (.ref b)]) (by decide) (Nat.le_of_ble_eq_true rfl) rfl (fun E hB => ?_)
  refine X_aload_n (i := 0) hB dX7_copyFrom_0 rfl rfl ?_
  refine X_aload_n (i := 1) hB dX7_copyFrom_1 rfl rfl ?_
  refine X_geti hB cw6 fX7_19 rfl hM.1.1 hM.1.2 dX7_copyFrom_2 ?_
  refine X_topi (y := nI es.length) (hr.2.1) ?_
  refine X_aload_n (i := 0) hB dX7_copyFrom_5 rfl rfl ?_
  refine X_getr hB cw6 fX7_13 rfl hL.1.1 hL.1.2 ha dX7_copyFrom_6 ?_
  refine X_alen hB hL.2.1.1 hL.2.1.2 (by decide) (v := nI m) rfl dX7_copyFrom_9 ?_
  refine X_mmin hB kX7_27 (by decide) (Nat.le_of_ble_eq_true rfl) dX7_copyFrom_10 ?_
  refine X_topi (y := nI es.length) (by rw [min_nI (by omega) (by omega), Nat.min_eq_left hm]) ?_
  refine X_puti hB cw6 fX7_19 rfl rfl hL.1.1 hL.1.2 dX7_copyFrom_13 ?_
  refine X_aload_n (i := 1) hB dX7_copyFrom_16 rfl rfl ?_
  refine X_getr hB cw6 fX7_13 rfl hM.1.1 hM.1.2 hr.1 dX7_copyFrom_17 ?_
  refine X_iconst (v := 0) hB dX7_copyFrom_20 (by decide) ?_
  refine X_aload_n (i := 0) hB dX7_copyFrom_21 rfl rfl ?_
  refine X_getr hB cw6 fX7_13 rfl hL.1.1 hL.1.2 ha dX7_copyFrom_22 ?_
  refine X_iconst (v := 0) hB dX7_copyFrom_25 (by decide) ?_
  refine X_aload_n (i := 0) hB dX7_copyFrom_26 rfl rfl ?_
  refine X_getr hB cw6 fX7_13 rfl hL.1.1 hL.1.2 ha dX7_copyFrom_27 ?_
  refine X_alen hB hL.2.1.1 hL.2.1.2 (by decide) (v := nI m) rfl dX7_copyFrom_30 ?_
  refine X_aload_n (i := 1) hB dX7_copyFrom_31 rfl rfl ?_
  refine X_getr hB cw6 fX7_13 rfl hM.1.1 hM.1.2 hr.1 dX7_copyFrom_32 ?_
  refine X_alen hB hM.2.1.1 hM.2.1.2 (by decide) (v := nI m) rfl dX7_copyFrom_35 ?_
  refine X_mmin hB kX7_27 (by decide) (Nat.le_of_ble_eq_true rfl) dX7_copyFrom_36 ?_
  refine X_topi (y := nI m) (by rw [min_nI (by omega) (by omega), Nat.min_self]) ?_
  refine X_copyl hB (m) kCX7_30 hM.2.1.1 hM.2.1.2 hL.2.1.1 hL.2.1.2 rfl (by omega) (Nat.le_refl _) (Nat.le_refl _) (by decide) (Nat.le_of_ble_eq_true rfl) dX7_copyFrom_39 ?_
  refine X_vret hB rfl dX7_copyFrom_42 ?_
  refine ⟨rfl, (chg.setI (Nat.le_refl _) (by omega)).tr (cpJ_chg.mono (by omega) (by omega)), rfl, setI_row _ _ _ (by omega), ha, ?_, fun i hi => ?_⟩
  · exact setI_at _ _ _ _
  · rw [cpJ_lt (by omega)]
    exact hr.2.2 i hi
set_option maxRecDepth 100000 in
set_option maxHeartbeats 4000000 in
theorem c_X1_copyFrom (a b n : Nat) (hL : CaLay G a) (hM : CaLay G b) (hab : a + 2 < b ∨ b + 2 < a) (h0 : S.1 a 0 = nI n) (h1 : S.2.2 a 1 = some (a + 1)) (h2 : S.2.2 (a + 1) 0 = some (a + 2)) (mp : Bool) (hops room : Nat) (cs : List (List Nat)) (hc : caR S b n mp hops room cs) : C G mX1_copyFrom 2 [.ref a, .ref b] S (fun r S' => r = none ∧ chg a (a + 3) S S' ∧ S'.2.2 = S.2.2 ∧ caR S' a n mp hops room cs) := by
  have hl18 : (cs.map rJ).length ≤ 18 := caR18 hc
  refine C.mk (lv := [some (.ref a), some (.ref b)]) (by decide) (Nat.le_of_ble_eq_true rfl) rfl (fun E hB => ?_)
  refine X_aload_n (i := 0) hB dX1_copyFrom_0 rfl rfl ?_
  refine X_getr hB cw1 fX1_16 rfl hL.1.1 hL.1.2 h1 dX1_copyFrom_1 ?_
  refine X_aload_n (i := 1) hB dX1_copyFrom_4 rfl rfl ?_
  refine X_getr hB cw1 fX1_16 rfl hM.1.1 hM.1.2 hc.1 dX1_copyFrom_5 ?_
  refine X_callV hB kX1_101 cw6 hL.2.1.1 hL.2.1.2 (c_X7_copyFrom (a + 1) (b + 1) 18 hL.2 hM.2 (by omega) h2 (cs.map rJ) hc.rc hl18) (by decide) (by decide) rfl rfl (Nat.le_of_ble_eq_true rfl) dX1_copyFrom_8 (fun r8 S8 q8 => ?_)
  obtain ⟨rfl, g1, g2, g3, g4⟩ := q8
  have hb := g1 b (by omega)
  have ha := g1 a (by omega)
  refine X_aload_n (i := 0) hB dX1_copyFrom_11 rfl rfl ?_
  refine X_aload_n (i := 1) hB dX1_copyFrom_12 rfl rfl ?_
  refine X_geti hB cw1 fX1_24 rfl hM.1.1 hM.1.2 dX1_copyFrom_13 ?_
  refine X_topi (y := if mp then 1 else 0) (by rw [hb.1]; exact hc.2.2.1) ?_
  refine X_putz hB cw1 fX1_24 rfl rfl (by cases mp; (exact Or.inl rfl); (exact Or.inr rfl)) hL.1.1 hL.1.2 dX1_copyFrom_16 ?_
  refine X_aload_n (i := 0) hB dX1_copyFrom_19 rfl rfl ?_
  refine X_aload_n (i := 1) hB dX1_copyFrom_20 rfl rfl ?_
  refine X_geti hB cw1 fX1_28 rfl hM.1.1 hM.1.2 dX1_copyFrom_21 ?_
  refine X_puti hB cw1 fX1_28 rfl rfl hL.1.1 hL.1.2 dX1_copyFrom_24 ?_
  refine X_aload_n (i := 0) hB dX1_copyFrom_27 rfl rfl ?_
  refine X_aload_n (i := 1) hB dX1_copyFrom_28 rfl rfl ?_
  refine X_geti hB cw1 fX1_31 rfl hM.1.1 hM.1.2 dX1_copyFrom_29 ?_
  refine X_puti hB cw1 fX1_31 rfl rfl hL.1.1 hL.1.2 dX1_copyFrom_32 ?_
  refine X_vret hB rfl dX1_copyFrom_35 ?_
  have hnab : b ≠ a := by omega
  refine ⟨rfl, ?_, ?_, ?_, ?_, ?_, ?_, ?_, ?_, hc.2.2.2.2.2.2⟩
  · exact (g1.mono (by omega) (by omega)).tr ((chg.setI (Nat.le_refl _) (by omega)).tr ((chg.setI (Nat.le_refl _) (by omega)).tr (chg.setI (Nat.le_refl _) (by omega))))
  · exact g2
  · show S8.2.2 a 1 = _
    rw [g2]; exact h1
  · rw [setI_ne _ _ (Or.inr (by decide)), setI_ne _ _ (Or.inr (by decide)), setI_ne _ _ (Or.inr (by decide)), ha.1]; exact h0
  · rw [setI_ne _ _ (Or.inr (by decide)), setI_ne _ _ (Or.inr (by decide)), setI_at]
  · rw [setI_ne _ _ (Or.inr (by decide)), setI_at, setI_ne _ _ (Or.inl hnab), hb.1]; exact hc.2.2.2.1
  · rw [setI_at, setI_ne _ _ (Or.inl hnab), setI_ne _ _ (Or.inl hnab), hb.1]; exact hc.2.2.2.2.1
  · exact ⟨g4.1, by rw [setI_ne _ _ (Or.inl (by omega)), setI_ne _ _ (Or.inl (by omega)), setI_ne _ _ (Or.inl (by omega))]; exact g4.2.1, g4.2.2⟩
set_option maxRecDepth 100000 in
set_option maxHeartbeats 4000000 in
theorem c_X5_copyFrom (a b n : Nat) (hL : PoLay G a) (hM : PoLay G b) (hab : a + 7 < b ∨ b + 7 < a) (hD : poD S a n) (s : Nat → Nat) (x : Nd) (hp : poR S b n s x) : C G mX5_copyFrom 3 [.ref a, .ref b] S (fun r S' => r = none ∧ chg a (a + 8) S S' ∧ S'.2.2 = S.2.2 ∧ poR S' a n s x) := by
  obtain ⟨⟨f1, f2, f3, f4⟩, ⟨i1, i2, i3, i4, i5, i6, i7⟩, p3, p4, p5, p6⟩ := hp
  obtain ⟨⟨d1, d2, d3, d4⟩, d5, d6, d7, d8, d9⟩ := hD
  have hca := hL.2.2.2.2
  have hcb := hM.2.2.2.2
  refine C.mk (lv := [some (.ref a), some (.ref b)]) (by decide) (Nat.le_of_ble_eq_true rfl) rfl (fun E hB => ?_)
  refine X_aload_n (i := 0) hB dX5_copyFrom_0 rfl rfl ?_
  refine X_getr hB cw4 fX5_30 rfl hL.1.1 hL.1.2 d1 dX5_copyFrom_1 ?_
  refine X_aload_n (i := 1) hB dX5_copyFrom_4 rfl rfl ?_
  refine X_getr hB cw4 fX5_30 rfl hM.1.1 hM.1.2 f1 dX5_copyFrom_5 ?_
  refine X_callV hB kX5_54 cw1 hca.1.1 hca.1.2 (c_X1_copyFrom (a + 5) (b + 5) n hca hcb (by omega) d5 d6 d7 (dMap x) (s 1) (s 2) (dCa x) p3) (by decide) (by decide) rfl rfl (Nat.le_of_ble_eq_true rfl) dX5_copyFrom_8 (fun r8 S8 q8 => ?_)
  obtain ⟨rfl, g1, r1, g2⟩ := q8
  refine X_aload_n (i := 0) hB dX5_copyFrom_11 rfl rfl ?_
  refine X_getr hB cw4 fX5_14 rfl hL.1.1 hL.1.2 (show S8.2.2 a 1 = some (a + 1) by rw [r1]; exact d2) dX5_copyFrom_12 ?_
  refine X_aload_n (i := 1) hB dX5_copyFrom_15 rfl rfl ?_
  refine X_getr hB cw4 fX5_14 rfl hM.1.1 hM.1.2 (show S8.2.2 b 1 = some (b + 1) by rw [r1]; exact f2) dX5_copyFrom_16 ?_
  refine X_callV hB kX5_58 cw6 hL.2.1.1.1 hL.2.1.1.2 (c_X7_copyFrom (a + 1) (b + 1) 6 hL.2.1 hM.2.1 (by omega) (by rw [r1]; exact d8) ((dTb x).map tbJ) (p4.chg g1 (by omega)) (by rw [List.length_map]; exact p5)) (by decide) (by decide) rfl rfl (Nat.le_of_ble_eq_true rfl) dX5_copyFrom_19 (fun r19 S19 q19 => ?_)
  obtain ⟨rfl, k1, k2, k3, k4⟩ := q19
  have r2 : S19.2.2 = S.2.2 := k2.trans r1
  have ch : chg (a + 1) (a + 8) S S19 := (g1.mono (by omega) (by omega)).tr (k1.mono (by omega) (by omega))
  have o : ∀ c, c < a + 1 ∨ a + 8 ≤ c → S19.1 c = S.1 c := fun c hc => (ch c hc).1
  clear r1
  have ca2 : caR S19 (a + 5) n (dMap x) (s 1) (s 2) (dCa x) := g2.chg k1 (by omega)
  clear g1 g2
  refine X_aload_n (i := 1) hB dX5_copyFrom_22 rfl rfl ?_
  refine X_getr hB cw4 fX5_20 rfl hM.1.1 hM.1.2 (show S19.2.2 b 2 = some (b + 3) by rw [r2]; exact f3) dX5_copyFrom_23 ?_
  refine X_iconst (v := 0) hB dX5_copyFrom_26 (by decide) ?_
  refine X_aload_n (i := 0) hB dX5_copyFrom_27 rfl rfl ?_
  refine X_getr hB cw4 fX5_20 rfl hL.1.1 hL.1.2 (show S19.2.2 a 2 = some (a + 3) by rw [r2]; exact d3) dX5_copyFrom_28 ?_
  refine X_iconst (v := 0) hB dX5_copyFrom_31 (by decide) ?_
  refine X_iconst (v := 4) hB dX5_copyFrom_32 (by decide) ?_
  refine X_copyi hB 0 (4) (by decide) kCX5_61 hM.2.2.1.1 hM.2.2.1.2 hL.2.2.1.1 hL.2.2.1.2 rfl (by decide) (by decide) (by decide) (fun i _ => rfl) (by decide) (Nat.le_of_ble_eq_true rfl) dX5_copyFrom_33 ?_
  generalize hT1 : cpI S19 (b + 3) (a + 3) 4 = T1
  have t1 : ∀ c, c ≠ a + 3 → T1.1 c = S19.1 c := fun c hc => by rw [← hT1]; exact (cpI_oth _ _ _ _ c hc).1
  have t2 : ∀ k, k < 4 → T1.1 (a + 3) k = S.1 (b + 3) k := fun k hk => by rw [← hT1, cpI_lt hk, o _ (by omega)]
  have t3 : T1.2 = S19.2 := by rw [← hT1]; rfl
  clear hT1
  refine X_aload_n (i := 0) hB dX5_copyFrom_36 rfl rfl ?_
  refine X_aload_n (i := 1) hB dX5_copyFrom_37 rfl rfl ?_
  refine X_geti hB cw4 fX5_38 rfl hM.1.1 hM.1.2 dX5_copyFrom_38 ?_
  refine X_topi (y := nI (dBu x).length) (by rw [t1 _ (by omega), o _ (by omega)]; exact i1) ?_
  refine X_puti hB cw4 fX5_38 rfl rfl hL.1.1 hL.1.2 dX5_copyFrom_41 ?_
  refine X_aload_n (i := 0) hB dX5_copyFrom_44 rfl rfl ?_
  refine X_aload_n (i := 1) hB dX5_copyFrom_45 rfl rfl ?_
  refine X_geti hB cw4 fX5_41 rfl hM.1.1 hM.1.2 dX5_copyFrom_46 ?_
  refine X_topi (y := nI (dRq x)) (by rw [setI_ne _ _ (Or.inl (by omega)), t1 _ (by omega), o _ (by omega)]; exact i2) ?_
  refine X_puti hB cw4 fX5_41 rfl rfl hL.1.1 hL.1.2 dX5_copyFrom_49 ?_
  refine X_aload_n (i := 0) hB dX5_copyFrom_52 rfl rfl ?_
  refine X_aload_n (i := 1) hB dX5_copyFrom_53 rfl rfl ?_
  refine X_geti hB cw4 fX5_44 rfl hM.1.1 hM.1.2 dX5_copyFrom_54 ?_
  refine X_topi (y := lkN (dNw x)) (by rw [setI_ne _ _ (Or.inl (by omega)), setI_ne _ _ (Or.inl (by omega)), t1 _ (by omega), o _ (by omega)]; exact i3) ?_
  refine X_puti hB cw4 fX5_44 rfl rfl hL.1.1 hL.1.2 dX5_copyFrom_57 ?_
  refine X_aload_n (i := 0) hB dX5_copyFrom_60 rfl rfl ?_
  refine X_aload_n (i := 1) hB dX5_copyFrom_61 rfl rfl ?_
  refine X_geti hB cw4 fX5_47 rfl hM.1.1 hM.1.2 dX5_copyFrom_62 ?_
  refine X_topi (y := nI (bts (fun t => decide (dAk x t ≠ none)) 8)) (by rw [setI_ne _ _ (Or.inl (by omega)), setI_ne _ _ (Or.inl (by omega)), setI_ne _ _ (Or.inl (by omega)), t1 _ (by omega), o _ (by omega)]; exact i4) ?_
  refine X_puti hB cw4 fX5_47 rfl rfl hL.1.1 hL.1.2 dX5_copyFrom_65 ?_
  generalize hT3 : setI (setI (setI (setI T1 a 3 (nI (dBu x).length)) a 4 (nI (dRq x))) a 5 (lkN (dNw x))) a 6 (nI (bts (fun t => decide (dAk x t ≠ none)) 8)) = T3
  have u1 : ∀ c, c ≠ a → T3.1 c = T1.1 c := fun c hc => by rw [← hT3, setI_row _ _ _ hc, setI_row _ _ _ hc, setI_row _ _ _ hc, setI_row _ _ _ hc]
  have u2 : T3.2 = S19.2 := by rw [← hT3]; exact t3
  have v3 : T3.1 a 3 = nI (dBu x).length := by rw [← hT3, setI_ne _ _ (Or.inr (by decide)), setI_ne _ _ (Or.inr (by decide)), setI_ne _ _ (Or.inr (by decide)), setI_at]
  have v4 : T3.1 a 4 = nI (dRq x) := by rw [← hT3, setI_ne _ _ (Or.inr (by decide)), setI_ne _ _ (Or.inr (by decide)), setI_at]
  have v5 : T3.1 a 5 = lkN (dNw x) := by rw [← hT3, setI_ne _ _ (Or.inr (by decide)), setI_at]
  have v6 : T3.1 a 6 = nI (bts (fun t => decide (dAk x t ≠ none)) 8) := by rw [← hT3, setI_at]
  clear hT3
  refine X_aload_n (i := 1) hB dX5_copyFrom_68 rfl rfl ?_
  refine X_getr hB cw4 fX5_24 rfl hM.1.1 hM.1.2 (show T3.2.2 b 7 = some (b + 4) by rw [u2, r2]; exact f4) dX5_copyFrom_69 ?_
  refine X_iconst (v := 0) hB dX5_copyFrom_72 (by decide) ?_
  refine X_aload_n (i := 0) hB dX5_copyFrom_73 rfl rfl ?_
  refine X_getr hB cw4 fX5_24 rfl hL.1.1 hL.1.2 (show T3.2.2 a 7 = some (a + 4) by rw [u2, r2]; exact d4) dX5_copyFrom_74 ?_
  refine X_iconst (v := 0) hB dX5_copyFrom_77 (by decide) ?_
  refine X_bipush (v := 8) hB dX5_copyFrom_78 (by decide) ?_
  refine X_copyi hB 0 (8) (by decide) kCX5_61 hM.2.2.2.1.1 hM.2.2.2.1.2 hL.2.2.2.1.1 hL.2.2.2.1.2 rfl (by decide) (by decide) (by decide) (fun i _ => rfl) (by decide) (Nat.le_of_ble_eq_true rfl) dX5_copyFrom_80 ?_
  generalize hT2 : cpI T3 (b + 4) (a + 4) 8 = T2
  have w1 : ∀ c, c ≠ a + 4 → T2.1 c = T3.1 c := fun c hc => by rw [← hT2]; exact (cpI_oth _ _ _ _ c hc).1
  have w2 : ∀ k, k < 8 → T2.1 (a + 4) k = S.1 (b + 4) k := fun k hk => by rw [← hT2, cpI_lt hk, u1 _ (by omega), t1 _ (by omega), o _ (by omega)]
  have w3 : T2.2 = S19.2 := by rw [← hT2]; exact u2
  clear hT2
  
  refine X_aload_n (i := 0) hB dX5_copyFrom_83 rfl rfl ?_
  refine X_aload_n (i := 1) hB dX5_copyFrom_84 rfl rfl ?_
  refine X_geti hB cw4 fX5_50 rfl hM.1.1 hM.1.2 dX5_copyFrom_85 ?_
  refine X_topi (y := if dLis x then 1 else 0) (by rw [w1 _ (by omega), u1 _ (by omega), t1 _ (by omega), o _ (by omega)]; exact i5) ?_
  refine X_putz hB cw4 fX5_50 rfl rfl (by cases dLis x; (exact Or.inl rfl); (exact Or.inr rfl)) hL.1.1 hL.1.2 dX5_copyFrom_88 ?_
  refine X_vret hB rfl dX5_copyFrom_91 ?_
  have hch : chg a (a + 8) S (setI T2 a 8 (if dLis x then 1 else 0)) := fun c hc => by
    refine ⟨?_, ?_, ?_⟩
    · rw [setI_row _ _ _ (by omega), w1 _ (by omega), u1 _ (by omega), t1 _ (by omega), o _ (by omega)]
    · show T2.2.1 c = _
      rw [w3]; exact (ch c (by omega)).2.1
    · show T2.2.2 c = _
      rw [w3, r2]
  have z : ∀ c, a < c → c < a + 3 ∨ a + 5 ≤ c → (setI T2 a 8 (if dLis x then 1 else 0)).1 c = S19.1 c := fun c h1 h2 => by
    rw [setI_row _ _ _ (by omega), w1 _ (by omega), u1 _ (by omega), t1 _ (by omega)]
  have hc2 : chg a (a + 5) (rowI S19 a (T2.1 a)) (rowI S19 a (T2.1 a)) := chg.rf
  refine ⟨rfl, hch, ?_, ⟨?_, ?_, ?_, ?_⟩, ⟨?_, ?_, ?_, ?_, ?_, fun k hk => ?_, fun t ht s hs => ?_⟩, ?_, ?_, p5, p6⟩
  · show T2.2.2 = _
    rw [w3, r2]
  · show T2.2.2 a 0 = _
    rw [w3, r2]; exact d1
  · show T2.2.2 a 1 = _
    rw [w3, r2]; exact d2
  · show T2.2.2 a 2 = _
    rw [w3, r2]; exact d3
  · show T2.2.2 a 7 = _
    rw [w3, r2]; exact d4
  · rw [setI_ne _ _ (Or.inr (by decide)), w1 _ (by omega)]; exact v3
  · rw [setI_ne _ _ (Or.inr (by decide)), w1 _ (by omega)]; exact v4
  · rw [setI_ne _ _ (Or.inr (by decide)), w1 _ (by omega)]; exact v5
  · rw [setI_ne _ _ (Or.inr (by decide)), w1 _ (by omega)]; exact v6
  · exact setI_at _ _ _ _
  · rw [setI_row _ _ _ (by omega), w1 _ (by omega), u1 _ (by omega), t2 _ (by omega)]; exact i6 k hk
  · rw [setI_row _ _ _ (by omega), w2 _ ht]; exact i7 t ht s hs
  · refine caR_same ca2 (z _ (by omega) (by omega)) (z _ (by omega) (by omega)) ?_ ?_ ?_
    · show T2.2.1 _ = _
      rw [w3]
    · show T2.2.2 _ = _
      rw [w3]
    · show T2.2.2 _ = _
      rw [w3]
  · refine ⟨?_, ?_, fun i hi => ?_⟩
    · show T2.2.2 _ _ = _
      rw [w3]; exact k4.1
    · rw [z _ (by omega) (by omega)]; exact k4.2.1
    · show T2.2.1 _ _ = _
      rw [w3]; exact k4.2.2 i hi
end CLS
