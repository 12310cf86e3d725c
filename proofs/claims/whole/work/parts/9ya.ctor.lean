/-! constructors -/
section CT
variable {G : Gc} {S : St} {k : Nat}
set_option maxRecDepth 100000 in
set_option maxHeartbeats 4000000 in
theorem i_X3_init (b : Nat) : CI G mX3_init 1 0 0 [.ref b] k k S (fun S' => S' = S) := by
  refine CI.mk (lv := [some (.ref b)]) (by decide) rfl (Nat.le_of_ble_eq_true rfl) rfl (fun E hB hsz hin => ?_)
  refine Y_aload_n (i := 0) (hB.gk _) dX3_init_0 rfl rfl ?_
  refine Y_oinit (hB.gk _) zoX3_3 zo_i zo_c (Nat.le_of_ble_eq_true rfl) (Nat.le_of_ble_eq_true rfl) dX3_init_1 ?_
  refine Y_vret (hB.gk _) rfl dX3_init_4 ?_
  exact rfl
set_option maxRecDepth 100000 in
set_option maxHeartbeats 4000000 in
theorem i_X2_init (b : Nat) (hb : b < gz G + k) (hb0 : gz G ≤ b) (hk : gK G b = .inl 2) (i : Int32) : CI G mX2_init 1 0 0 [.ref b, .int i] k k S (fun S' => S' = setI S b 0 i) := by
  refine CI.mk (lv := [some (.ref b), some (.int i)]) (by decide) rfl (Nat.le_of_ble_eq_true rfl) rfl (fun E hB hsz hin => ?_)
  refine Y_aload_n (i := 0) (hB.gk _) dX2_init_0 rfl rfl ?_
  refine Y_oinit (hB.gk _) zoX2_3 zo_i zo_c (Nat.le_of_ble_eq_true rfl) (Nat.le_of_ble_eq_true rfl) dX2_init_1 ?_
  refine Y_aload_n (i := 0) (hB.gk _) dX2_init_4 rfl rfl ?_
  refine Y_iload_n (i := 1) (hB.gk _) dX2_init_5 rfl rfl ?_
  refine Y_putFi (hB.gk _) cw2 fX2_9 rfl hin rfl rfl (gk_mem (by omega) (by omega)) hk dX2_init_6 ?_
  refine Y_vret (hB.gk _) rfl dX2_init_9 ?_
  exact rfl
set_option maxRecDepth 100000 in
set_option maxHeartbeats 4000000 in
theorem i_X7_init (b m : Nat) (hb : b < gz G + k) (hb0 : gz G ≤ b) (hk : gK G b = .inl 6) (hk1 : gK G (gz G + k) = .inr (3, m)) (hm : 1 ≤ m ∧ m ≤ 100) (hz : zr G S k) : CI G mX7_init 2 1 m [.ref b, .int (nI m)] k (k + 1) S (fun S' => S' = setR S b 0 (some (gz G + k)) ∧ zr G S' (k + 1)) := by
  refine CI.mk (lv := [some (.ref b), some (.int (nI m))]) (by decide) rfl (Nat.le_of_ble_eq_true rfl) rfl (fun E hB hsz hin => ?_)
  refine Y_aload_n (i := 0) (hB.gk _) dX7_init_0 rfl rfl ?_
  refine Y_oinit (hB.gk _) zoX7_1 zo_i zo_c (Nat.le_of_ble_eq_true rfl) (Nat.le_of_ble_eq_true rfl) dX7_init_1 ?_
  refine Y_aload_n (i := 0) (hB.gk _) dX7_init_4 rfl rfl ?_
  refine Y_iload_n (i := 1) (hB.gk _) dX7_init_5 rfl rfl ?_
  refine Y_iconst (v := 1) (hB.gk _) dX7_init_6 (by decide) ?_
  refine Y_mmax (hB.gk _) kX7_7 (Nat.le_of_ble_eq_true rfl) (Nat.le_of_ble_eq_true rfl) ⟨Nat.zero_le _, Nat.zero_le _⟩ dX7_init_7 ?_
  refine Y_topi (y := nI m) (by rw [show (1 : Int32) = nI 1 from rfl, if_neg (by rw [nI_ltI (by omega) (by omega)]; omega)]) ?_
  refine Y_newaA (hB.gk _) m (atype := .long) rfl (t := 3) (by decide) za_long rfl hk1 hz (by omega) rfl (by omega) (Nat.le_refl _) (by show 0 + m ≤ m; omega) dX7_init_10 ?_
  refine Y_putFr (hB.gk _) cw6 fX7_13 rfl hin rfl rfl rfl rfl (gk_mem (by omega) (by omega)) hk dX7_init_12 ?_
  refine Y_zz (c2 := 1) (v2 := m) (by omega) (by omega) ?_
  refine Y_vret (hB.gk _) rfl dX7_init_15 ?_
  exact ⟨rfl, (hz.mono (by omega)).R (by omega)⟩
set_option maxRecDepth 100000 in
set_option maxHeartbeats 4000000 in
theorem i_X1_init (b : Nat) (hL : CaLay G b) (hk : gz G + k = b + 1) (hk1 : 1 ≤ k) (hz : zr G S k) (i : Int32) : CI G mX1_init 3 2 20 [.ref b, .int i] k (k + 2) S (fun S' => S' = setI (setR (setR S (b + 1) 0 (some (b + 2))) b 1 (some (b + 1))) b 0 i ∧ zr G S' (k + 2)) := by
  refine CI.mk (lv := [some (.ref b), some (.int i)]) (by decide) rfl (Nat.le_of_ble_eq_true rfl) rfl (fun E hB hsz hin => ?_)
  refine Y_aload_n (i := 0) (hB.gk _) dX1_init_0 rfl rfl ?_
  refine Y_oinit (hB.gk _) zoX1_3 zo_i zo_c (Nat.le_of_ble_eq_true rfl) (Nat.le_of_ble_eq_true rfl) dX1_init_1 ?_
  refine Y_aload_n (i := 0) (hB.gk _) dX1_init_4 rfl rfl ?_
  refine Y_newA (hB.gk _) (a := b + 1) (by omega) (by decide) cw6 zX1_9 ziX7 zsX7 hL.2.1.2 hz (by omega) (Nat.le_of_ble_eq_true rfl) (Nat.le_of_ble_eq_true rfl) dX1_init_5 ?_
  refine Y_dup (hB.gk _) dX1_init_8 rfl ?_
  refine Y_bipush (v := 18) (hB.gk _) dX1_init_9 (by decide) ?_
  refine Y_callI (hB.gk _) (kcX1_13) (i_X7_init (k := k + 1) (b + 1) 18 (by omega) (by omega) hL.2.1.2 (by rw [show gz G + (k + 1) = b + 1 + 1 by omega]; exact hL.2.2.1.2) (by decide) (hz.mono (by omega))) (by omega) (Nat.le_of_ble_eq_true rfl) (Nat.le_of_ble_eq_true rfl) ⟨(Nat.le_of_ble_eq_true rfl), (Nat.le_of_ble_eq_true rfl)⟩ rfl rfl (Nat.le_of_ble_eq_true rfl) dX1_init_11 (fun S11 q11 => ?_)
  obtain ⟨q11, z11⟩ := q11
  rw [show gz G + (k + 1) = b + 2 by omega] at q11
  subst q11
  refine Y_putFr (hB.gk _) cw1 fX1_16 rfl hin rfl rfl rfl rfl (gk_mem (by omega) (by omega)) hL.1.2 dX1_init_14 ?_
  refine Y_aload_n (i := 0) (hB.gk _) dX1_init_17 rfl rfl ?_
  refine Y_iload_n (i := 1) (hB.gk _) dX1_init_18 rfl rfl ?_
  refine Y_putFi (hB.gk _) cw1 fX1_20 rfl hin rfl rfl (gk_mem (by omega) (by omega)) hL.1.2 dX1_init_19 ?_
  refine Y_vret (hB.gk _) rfl dX1_init_22 ?_
  exact ⟨rfl, (z11.R (by omega)).I (by omega)⟩
set_option maxRecDepth 100000 in
set_option maxHeartbeats 4000000 in
theorem i_X9_init (b : Nat) (hL : TxLay G b) (hk : gz G + k = b + 1) (hk1 : 1 ≤ k) (hz : zr G S k) : CI G mX9_init 1 1 400 [.ref b] k (k + 1) S (fun S' => S' = setI (setR S b 0 (some (b + 1))) b 3 (-1) ∧ zr G S' (k + 1)) := by
  refine CI.mk (lv := [some (.ref b)]) (by decide) rfl (Nat.le_of_ble_eq_true rfl) rfl (fun E hB hsz hin => ?_)
  refine Y_aload_n (i := 0) (hB.gk _) dX9_init_0 rfl rfl ?_
  refine Y_oinit (hB.gk _) zoX9_3 zo_i zo_c (Nat.le_of_ble_eq_true rfl) (Nat.le_of_ble_eq_true rfl) dX9_init_1 ?_
  refine Y_aload_n (i := 0) (hB.gk _) dX9_init_4 rfl rfl ?_
  refine Y_sipush (v := 400) (hB.gk _) dX9_init_5 (by decide) ?_
  refine Y_newaA (hB.gk _) 400 (atype := .byte) (t := 1) (a := b + 1) (by omega) (by decide) za_byte rfl hL.2.2 hz (by omega) rfl (Nat.le_of_ble_eq_true rfl) (Nat.le_of_ble_eq_true rfl) (Nat.le_of_ble_eq_true rfl) dX9_init_8 ?_
  refine Y_putFr (hB.gk _) cw7 fX9_11 rfl hin rfl rfl rfl rfl (gk_mem (by omega) (by omega)) hL.1.2 dX9_init_10 ?_
  refine Y_aload_n (i := 0) (hB.gk _) dX9_init_13 rfl rfl ?_
  refine Y_iconst (v := (-1)) (hB.gk _) dX9_init_14 (by decide) ?_
  refine Y_puti (hB.gk _) cw7 fX9_15 rfl rfl (gk_mem (by omega) (by omega)) hL.1.2 dX9_init_15 ?_
  refine Y_vret (hB.gk _) rfl dX9_init_18 ?_
  exact ⟨rfl, ((hz.mono (by omega)).R (by omega)).I (by omega)⟩
set_option maxRecDepth 100000 in
set_option maxHeartbeats 4000000 in
theorem i_X6_init (b : Nat) (hL : RdLay G b) (hk : gz G + k = b + 1) (hk1 : 1 ≤ k) (hz : zr G S k) : CI G mX6_init 1 2 16 [.ref b] k (k + 2) S (fun S' => S' = setR (setR S b 0 (some (b + 1))) b 11 (some (b + 2)) ∧ zr G S' (k + 2)) := by
  refine CI.mk (lv := [some (.ref b)]) (by decide) rfl (Nat.le_of_ble_eq_true rfl) rfl (fun E hB hsz hin => ?_)
  refine Y_aload_n (i := 0) (hB.gk _) dX6_init_0 rfl rfl ?_
  refine Y_oinit (hB.gk _) zoX6_3 zo_i zo_c (Nat.le_of_ble_eq_true rfl) (Nat.le_of_ble_eq_true rfl) dX6_init_1 ?_
  refine Y_aload_n (i := 0) (hB.gk _) dX6_init_4 rfl rfl ?_
  refine Y_bipush (v := 8) (hB.gk _) dX6_init_5 (by decide) ?_
  refine Y_newaA (hB.gk _) 8 (atype := .int) (t := 0) (a := b + 1) (by omega) (by decide) za_int rfl hL.2.1.2 hz (by omega) rfl (Nat.le_of_ble_eq_true rfl) (Nat.le_of_ble_eq_true rfl) (Nat.le_of_ble_eq_true rfl) dX6_init_7 ?_
  refine Y_putFr (hB.gk _) cw5 fX6_9 rfl hin rfl rfl rfl rfl (gk_mem (by omega) (by omega)) hL.1.2 dX6_init_9 ?_
  refine Y_aload_n (i := 0) (hB.gk _) dX6_init_12 rfl rfl ?_
  refine Y_bipush (v := 8) (hB.gk _) dX6_init_13 (by decide) ?_
  refine Y_newaA (hB.gk _) 8 (atype := .int) (t := 0) (a := b + 2) (by omega) (by decide) za_int rfl hL.2.2.2 ((hz.mono (Nat.le_succ _)).R (by omega)) (by omega) rfl (Nat.le_of_ble_eq_true rfl) (Nat.le_of_ble_eq_true rfl) (Nat.le_of_ble_eq_true rfl) dX6_init_15 ?_
  refine Y_putFr (hB.gk _) cw5 fX6_15 rfl hin rfl rfl rfl rfl (gk_mem (by omega) (by omega)) hL.1.2 dX6_init_17 ?_
  refine Y_vret (hB.gk _) rfl dX6_init_20 ?_
  exact ⟨rfl, ((hz.mono (by omega)).R (by omega)).R (by omega)⟩
set_option maxRecDepth 100000 in
set_option maxHeartbeats 4000000 in
theorem i_X5_init (p n : Nat) (hL : PoLay G p) (hn : n < 8) (hk : gz G + k = p + 1) (hk1 : 1 ≤ k) (hz : zr G S k) : CI G mX5_init 4 7 45 [.ref p, .int (nI n)] k (k + 7) S (fun S' => poD S' p n ∧ chg p (p + 8) S S' ∧ zr G S' (k + 7)) := by
  refine CI.mk (lv := [some (.ref p), some (.int (nI n))]) (by decide) rfl (Nat.le_of_ble_eq_true rfl) rfl (fun E hB hsz hin => ?_)
  refine Y_aload_n (i := 0) (hB.gk _) dX5_init_0 rfl rfl ?_
  refine Y_oinit (hB.gk _) zoX5_3 zo_i zo_c (Nat.le_of_ble_eq_true rfl) (Nat.le_of_ble_eq_true rfl) dX5_init_1 ?_
  refine Y_aload_n (i := 0) (hB.gk _) dX5_init_4 rfl rfl ?_
  refine Y_newA (hB.gk _) (a := p + 1) (by omega) (by decide) cw6 zX5_9 ziX7 zsX7 hL.2.1.1.2 hz (by omega) (Nat.le_of_ble_eq_true rfl) (Nat.le_of_ble_eq_true rfl) dX5_init_5 ?_
  refine Y_dup (hB.gk _) dX5_init_8 rfl ?_
  refine Y_bipush (v := 6) (hB.gk _) dX5_init_9 (by decide) ?_
  refine Y_callI (hB.gk _) (kcX5_11) (i_X7_init (k := k + 1) (p + 1) 6 (by omega) (by omega) hL.2.1.1.2 (by rw [show gz G + (k + 1) = p + 1 + 1 by omega]; exact hL.2.1.2.1.2) (by decide) (hz.mono (by omega))) (by omega) (Nat.le_of_ble_eq_true rfl) (Nat.le_of_ble_eq_true rfl) ⟨(Nat.le_of_ble_eq_true rfl), (Nat.le_of_ble_eq_true rfl)⟩ rfl rfl (Nat.le_of_ble_eq_true rfl) dX5_init_11 (fun S11 q11 => ?_)
  obtain ⟨q11, z11⟩ := q11
  rw [show gz G + (k + 1) = p + 2 by omega] at q11
  refine Y_putFr (hB.gk _) cw4 fX5_14 rfl hin rfl rfl rfl rfl (gk_mem (by omega) (by omega)) hL.1.2 dX5_init_14 ?_
  have z14 : zr G (setR S11 p 1 (some (p + 1))) (k + 2) := z11.R (by omega)
  refine Y_aload_n (i := 0) (hB.gk _) dX5_init_17 rfl rfl ?_
  refine Y_iconst (v := 4) (hB.gk _) dX5_init_18 (by decide) ?_
  refine Y_newaA (hB.gk _) 4 (atype := .int) (t := 0) (a := p + 3) (by omega) (by decide) za_int rfl hL.2.2.1.2 z14 (by omega) rfl (Nat.le_of_ble_eq_true rfl) (Nat.le_of_ble_eq_true rfl) (Nat.le_of_ble_eq_true rfl) dX5_init_19 ?_
  refine Y_putFr (hB.gk _) cw4 fX5_20 rfl hin rfl rfl rfl rfl (gk_mem (by omega) (by omega)) hL.1.2 dX5_init_21 ?_
  have z21 := (z14.mono (Nat.le_succ _)).R (a := p) (j := 2) (v := some (p + 3)) (by omega)
  refine Y_aload_n (i := 0) (hB.gk _) dX5_init_24 rfl rfl ?_
  refine Y_bipush (v := 8) (hB.gk _) dX5_init_25 (by decide) ?_
  refine Y_newaA (hB.gk _) 8 (atype := .int) (t := 0) (a := p + 4) (by omega) (by decide) za_int rfl hL.2.2.2.1.2 z21 (by omega) rfl (Nat.le_of_ble_eq_true rfl) (Nat.le_of_ble_eq_true rfl) (Nat.le_of_ble_eq_true rfl) dX5_init_27 ?_
  refine Y_putFr (hB.gk _) cw4 fX5_24 rfl hin rfl rfl rfl rfl (gk_mem (by omega) (by omega)) hL.1.2 dX5_init_29 ?_
  have z29 := (z21.mono (Nat.le_succ _)).R (a := p) (j := 7) (v := some (p + 4)) (by omega)
  refine Y_aload_n (i := 0) (hB.gk _) dX5_init_32 rfl rfl ?_
  refine Y_newA (hB.gk _) (a := p + 5) (by omega) (by decide) cw1 zX5_27 ziX1 zsX1 hL.2.2.2.2.1.2 z29 (by omega) (Nat.le_of_ble_eq_true rfl) (Nat.le_of_ble_eq_true rfl) dX5_init_33 ?_
  refine Y_dup (hB.gk _) dX5_init_36 rfl ?_
  refine Y_iload_n (i := 1) (hB.gk _) dX5_init_37 rfl rfl ?_
  refine Y_callI (hB.gk _) (kcX5_29) (i_X1_init (k := k + 1 + 1 + 1 + 1 + 1) (p + 5) hL.2.2.2.2 (by omega) (by omega) (z29.mono (by omega)) (nI n)) (by omega) (Nat.le_of_ble_eq_true rfl) (Nat.le_of_ble_eq_true rfl) ⟨(Nat.le_of_ble_eq_true rfl), (Nat.le_of_ble_eq_true rfl)⟩ rfl rfl (Nat.le_of_ble_eq_true rfl) dX5_init_38 (fun S38 q38 => ?_)
  obtain ⟨q38, z38⟩ := q38
  refine Y_putFr (hB.gk _) cw4 fX5_30 rfl hin rfl rfl rfl rfl (gk_mem (by omega) (by omega)) hL.1.2 dX5_init_41 ?_
  refine Y_vret (hB.gk _) rfl dX5_init_44 ?_
  subst q38
  subst q11
  refine ⟨⟨⟨?_, ?_, ?_, ?_⟩, ?_, ?_, ?_, ?_, hn⟩, ?_, z38.R (by omega)⟩
  · rw [setR_at]
  · simp [setR, setI, ups]
  · simp [setR, setI, ups]
  · simp [setR, setI, ups]
  · simp [setR, setI, ups]
  · simp [setR, setI, ups]
  · simp [setR, setI, ups]
  · simp [setR, setI, ups]
  · exact (((((((chg.setR (by omega) (by omega)).tr (chg.setR (by omega) (by omega))).tr (chg.setR (by omega) (by omega))).tr (chg.setR (by omega) (by omega))).tr (chg.setR (by omega) (by omega))).tr (chg.setR (by omega) (by omega))).tr (chg.setI (by omega) (by omega))).tr (chg.setR (by omega) (by omega))
end CT
