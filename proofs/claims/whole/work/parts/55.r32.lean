theorem netR_now {A : Nat → Int32} {σ : Net} (hR : netR A σ) (hs : szN σ) : netR (upd A 8 (nI (nNow σ + 1))) (uNow σ) := by
  obtain ⟨⟨g1, g2, g3, g4, g5, g6⟩, h2, h3, h4⟩ := hR
  refine ⟨⟨fun k hk => by rw [upd_ne _ _ (by omega)]; exact g1 k hk, by rw [upd_at]; rfl, by rw [upd_ne _ _ (by omega)]; exact g3, by rw [upd_ne _ _ (by omega)]; exact g4, fun k hk => by rw [upd_ne _ _ (by omega)]; exact g5 k hk, fun a b ha hb => by rw [upd_ne _ _ (by omega)]; exact g6 a b ha hb⟩, fun n hn => ?_, fun k hk => ?_, fun d hd => ?_⟩
  · exact ndR_same (h2 n hn) (hs.2.2.1 n hn).1 (hs.2.2.1 n hn).2.1 (hs.2.2.1 n hn).2.2 (fun i q1 q2 => upd_ne _ _ (by omega))
  · exact frS_same (h3 k hk) (air_getD hs hk) (fun w hw => upd_ne _ _ (by omega))
  · exact daR_same (h4 d hd) (dat_len hs hd).1 (dat_len hs hd).2 (fun i q1 q2 => upd_ne _ _ (by omega))
section REF
variable {G : Gc} {S : St} {h : Nat}
set_option maxRecDepth 100000 in
set_option maxHeartbeats 4000000 in
theorem l_arriveAll (hR : RLay G h) (hF : RRef S h) {E : Ev} (hB : Bd G E mX12_arriveAll) {Q : Option Value → St → Prop} (σ : Net) (b : Nat) (hw : wfN σ b) (hnow : nNow σ < 1000) (hb : b + 40 < 100000) (kk : ∀ S1, fr h [h + 1, h + 7, h + 8, h + 9, h + 10, h + 11, h + 12] [20, 22] S S1 → netR (S1.1 (h + 1)) (arrAll σ) → Q none S1) :
    ∀ (k j : Nat) (S1 : St), j + k = (nAir σ).length → fr h [h + 1, h + 7, h + 8, h + 9, h + 10, h + 11, h + 12] [20, 22] S S1 → netR (S1.1 (h + 1)) (iterN (fun _ τ => arrive τ) j (uNow σ)) → X G E mX12_arriveAll 9 Q S1 21 [some (.ref h), some (.int (nI (nAir σ).length)), some (.int (nI j))] [] := by
  have ha40 := hw.2.1.1
  intro k
  induction k with
  | zero =>
    intro j S1 h1 hfr hN1
    refine X_iload_n (i := 2) hB dX12_arriveAll_21 rfl rfl ?_
    refine X_iload_n (i := 1) hB dX12_arriveAll_22 rfl rfl ?_
    refine X_icmp_ge (tgt := 36) hB dX12_arriveAll_23 (by decide) (fun c23 => ?_) (fun c23 => absurd c23 (by simp (disch := omega) only [nlit, nI_leI, nI_ltI]; omega))
    refine X_vret hB rfl dX12_arriveAll_36 ?_
    have e9 : j = (nAir σ).length := by omega
    subst e9
    exact kk S1 hfr hN1
  | succ k ih =>
    intro j S1 h1 hfr hN1
    have hI := aaN.all hw hnow hb j (by omega)
    refine X_iload_n (i := 2) hB dX12_arriveAll_21 rfl rfl ?_
    refine X_iload_n (i := 1) hB dX12_arriveAll_22 rfl rfl ?_
    refine X_icmp_ge (tgt := 36) hB dX12_arriveAll_23 (by decide) (fun c23 => absurd c23 (by simp (disch := omega) only [nlit, nI_leI, nI_ltI]; omega)) (fun c23 => ?_)
    refine X_aload_n (i := 0) hB dX12_arriveAll_26 rfl rfl ?_
    refine X_callV hB kX12_355 cw10 hR.1.1 hR.1.2 (c_arrives hR (hfr.ref hF) (iterN (fun _ τ => arrive τ) j (uNow σ)) (b + j) hI.1 hN1 (by have := hI.2.1; omega)) (by decide) (by decide) rfl rfl (Nat.le_of_ble_eq_true rfl) dX12_arriveAll_27 (fun r27 S27 q27 => ?_)
    obtain ⟨rfl, f27, n27⟩ := q27
    refine X_iinc hB dX12_arriveAll_30 rfl rfl (by decide) rfl ?_
    refine X_goto (tgt := 21) hB dX12_arriveAll_33 (by decide) ?_
    refine X_lv ?_ (ih (j + 1) _ (by omega) (hfr.tr f27) n27)
    · rw [nI_succ]; rfl
set_option maxRecDepth 100000 in
set_option maxHeartbeats 4000000 in
theorem c_arriveAll (hR : RLay G h) (hF : RRef S h) (σ : Net) (b : Nat) (hw : wfN σ b) (hnow : nNow σ < 1000) (hb : b + 40 < 100000) (hN : netR (S.1 (h + 1)) σ) : C G mX12_arriveAll 9 [.ref h] S (fun r S' => r = none ∧ fr h [h + 1, h + 7, h + 8, h + 9, h + 10, h + 11, h + 12] [20, 22] S S' ∧ netR (S'.1 (h + 1)) (arrAll σ)) := by
  have hs := hw.sz
  refine C.mk (lv := [some (.ref h), none, none]) (by decide) (Nat.le_of_ble_eq_true rfl) rfl (fun E hB => ?_)
  refine X_aload_n (i := 0) hB dX12_arriveAll_0 rfl rfl ?_
  refine X_getr hB cw10 fX12_7 rfl hR.1.1 hR.1.2 hF.1 dX12_arriveAll_1 ?_
  refine X_bipush (v := 8) hB dX12_arriveAll_4 (by decide) ?_
  refine X_dup2_11 hB dX12_arriveAll_6 rfl rfl ?_
  refine X_ialdN hB (8) hR.2.1.1 hR.2.1.2 (by decide) (by first | rfl | (simp (disch := omega) only [nlit, nI_add, nI_mul, nI_sub]; done) | (simp (disch := omega) only [nlit, nI_add, nI_mul, nI_sub]; (congr 1 <;> omega))) (by first | omega | (simp only []; omega)) hN.1.2.1 dX12_arriveAll_7 ?_
  refine X_iconst (v := 1) hB dX12_arriveAll_8 (by decide) ?_
  refine X_iadd hB dX12_arriveAll_9 ?_
  refine X_topi (y := nI (nNow σ + 1)) (by first | rfl | (simp (disch := omega) only [nlit, nI_add, nI_mul, nI_sub]; done) | (simp (disch := omega) only [nlit, nI_add, nI_mul, nI_sub]; (congr 1 <;> omega))) ?_
  refine X_iastN hB (8) hR.2.1.1 hR.2.1.2 (by decide) (by first | rfl | (simp (disch := omega) only [nlit, nI_add, nI_mul, nI_sub]; done) | (simp (disch := omega) only [nlit, nI_add, nI_mul, nI_sub]; (congr 1 <;> omega))) (by first | omega | (simp only []; omega)) dX12_arriveAll_10 ?_
  rw [setI_rowI]
  have hN9 : netR ((rowI S (h + 1) (upd (S.1 (h + 1)) 8 (nI (nNow σ + 1)))).1 (h + 1)) (uNow σ) := by rw [rowI_at]; exact netR_now hN hs
  refine X_aload_n (i := 0) hB dX12_arriveAll_11 rfl rfl ?_
  refine X_getr hB cw10 fX12_7 rfl hR.1.1 hR.1.2 hF.1 dX12_arriveAll_12 ?_
  refine X_bipush (v := 10) hB dX12_arriveAll_15 (by decide) ?_
  refine X_ialdN hB (10) hR.2.1.1 hR.2.1.2 (by decide) (by first | rfl | (simp (disch := omega) only [nlit, nI_add, nI_mul, nI_sub]; done) | (simp (disch := omega) only [nlit, nI_add, nI_mul, nI_sub]; (congr 1 <;> omega))) (by first | omega | (simp only []; omega)) (show _ = nI (nAir σ).length from hN9.1.2.2.2.1) dX12_arriveAll_17 ?_
  refine X_istore_n (i := 1) hB dX12_arriveAll_18 rfl (by decide) rfl ?_
  refine X_iconst (v := 0) hB dX12_arriveAll_19 (by decide) ?_
  refine X_istore_n (i := 2) hB dX12_arriveAll_20 rfl (by decide) rfl ?_
  refine X_lv ?_ (l_arriveAll (S := S) hR hF hB σ b hw hnow hb (fun S9 g1 g2 => ⟨rfl, g1, g2⟩) (nAir σ).length 0 _ (by omega) (fr.row (by simp) (by omega)) hN9)
  rw [nI_0]; rfl
set_option maxRecDepth 100000 in
set_option maxHeartbeats 4000000 in
theorem l_tick (hR : RLay G h) (hF : RRef S h) {E : Ev} (hB : Bd G E mX12_tick) {Q : Option Value → St → Prop} (σ : Net) (b : Nat) (hw : wfN σ b) (hnow : nNow σ < 1000) (hb : b + 104 < 100000) (kk : ∀ S1, fr h [h + 1, h + 7, h + 8, h + 9, h + 10, h + 11, h + 12] [20, 22] S S1 → netR (S1.1 (h + 1)) (tickN σ) → Q none S1) :
    ∀ (k j : Nat) (S1 : St), j + k = nSe σ 0 → fr h [h + 1, h + 7, h + 8, h + 9, h + 10, h + 11, h + 12] [20, 22] S S1 → netR (S1.1 (h + 1)) (iterN nodeStep j (arrAll σ)) → X G E mX12_tick 10 Q S1 6 [some (.ref h), some (.int (nI j))] [] := by
  have h08 := hw.1.1.2
  intro k
  induction k with
  | zero =>
    intro j S1 h1 hfr hN1
    have hI := tkN.all hw hnow hb j (by omega)
    have hF1 := hfr.ref hF
    refine X_iload_n (i := 1) hB dX12_tick_6 rfl rfl ?_
    refine X_aload_n (i := 0) hB dX12_tick_7 rfl rfl ?_
    refine X_getr hB cw10 fX12_7 rfl hR.1.1 hR.1.2 hF1.1 dX12_tick_8 ?_
    refine X_iconst (v := 0) hB dX12_tick_11 (by decide) ?_
    refine X_ialdN hB (0) hR.2.1.1 hR.2.1.2 (by decide) (by first | rfl | (simp (disch := omega) only [nlit, nI_add, nI_mul, nI_sub]; done) | (simp (disch := omega) only [nlit, nI_add, nI_mul, nI_sub]; (congr 1 <;> omega))) (by first | omega | (simp only []; omega)) (show _ = nI (nSe σ 0) by rw [hN1.1.1 0 (by decide), hI.2.1]) dX12_tick_12 ?_
    refine X_icmp_ge (tgt := 32) hB dX12_tick_13 (by decide) (fun c13 => ?_) (fun c13 => absurd c13 (by simp (disch := omega) only [nlit, nI_leI, nI_ltI]; omega))
    refine X_vret hB rfl dX12_tick_32 ?_
    have e9 : j = nSe σ 0 := by omega
    subst e9
    exact kk S1 hfr hN1
  | succ k ih =>
    intro j S1 h1 hfr hN1
    have hI := tkN.all hw hnow hb j (by omega)
    have hF1 := hfr.ref hF
    refine X_iload_n (i := 1) hB dX12_tick_6 rfl rfl ?_
    refine X_aload_n (i := 0) hB dX12_tick_7 rfl rfl ?_
    refine X_getr hB cw10 fX12_7 rfl hR.1.1 hR.1.2 hF1.1 dX12_tick_8 ?_
    refine X_iconst (v := 0) hB dX12_tick_11 (by decide) ?_
    refine X_ialdN hB (0) hR.2.1.1 hR.2.1.2 (by decide) (by first | rfl | (simp (disch := omega) only [nlit, nI_add, nI_mul, nI_sub]; done) | (simp (disch := omega) only [nlit, nI_add, nI_mul, nI_sub]; (congr 1 <;> omega))) (by first | omega | (simp only []; omega)) (show _ = nI (nSe σ 0) by rw [hN1.1.1 0 (by decide), hI.2.1]) dX12_tick_12 ?_
    refine X_icmp_ge (tgt := 32) hB dX12_tick_13 (by decide) (fun c13 => absurd c13 (by simp (disch := omega) only [nlit, nI_leI, nI_ltI]; omega)) (fun c13 => ?_)
    refine X_aload_n (i := 0) hB dX12_tick_16 rfl rfl ?_
    refine X_iload_n (i := 1) hB dX12_tick_17 rfl rfl ?_
    refine X_callV hB kX12_367 cw10 hR.1.1 hR.1.2 (c_drains hR hF1 (iterN nodeStep j (arrAll σ)) (b + 40 + 8 * j) hI.1 hN1 j (by omega)) (by decide) (by decide) rfl rfl (Nat.le_of_ble_eq_true rfl) dX12_tick_18 (fun r18 S18 q18 => ?_)
    obtain ⟨rfl, f18, n18⟩ := q18
    refine X_aload_n (i := 0) hB dX12_tick_21 rfl rfl ?_
    refine X_iload_n (i := 1) hB dX12_tick_22 rfl rfl ?_
    refine X_callV hB kX12_370 cw10 hR.1.1 hR.1.2 (c_asksAgain hR (f18.ref hF1) (drainN (iterN nodeStep j (arrAll σ)) j) (b + 40 + 8 * j) (wfN.drn (by omega) _ [] _ hI.1 rfl) n18 j (by omega)) (by decide) (by decide) rfl rfl (Nat.le_of_ble_eq_true rfl) dX12_tick_23 (fun r23 S23 q23 => ?_)
    obtain ⟨rfl, f23, n23⟩ := q23
    refine X_iinc hB dX12_tick_26 rfl rfl (by decide) rfl ?_
    refine X_goto (tgt := 6) hB dX12_tick_29 (by decide) ?_
    refine X_lv ?_ (ih (j + 1) _ (by omega) (hfr.tr ((f18.mono (by simp) (by simp)).tr (f23.mono (by simp) (by simp)))) n23)
    · rw [nI_succ]; rfl
set_option maxRecDepth 100000 in
set_option maxHeartbeats 4000000 in
theorem c_tick (hR : RLay G h) (hF : RRef S h) (σ : Net) (b : Nat) (hw : wfN σ b) (hnow : nNow σ < 1000) (hb : b + 104 < 100000) (hN : netR (S.1 (h + 1)) σ) : C G mX12_tick 10 [.ref h] S (fun r S' => r = none ∧ fr h [h + 1, h + 7, h + 8, h + 9, h + 10, h + 11, h + 12] [20, 22] S S' ∧ netR (S'.1 (h + 1)) (tickN σ)) := by
  refine C.mk (lv := [some (.ref h), none]) (by decide) (Nat.le_of_ble_eq_true rfl) rfl (fun E hB => ?_)
  refine X_aload_n (i := 0) hB dX12_tick_0 rfl rfl ?_
  refine X_callV hB kX12_364 cw10 hR.1.1 hR.1.2 (c_arriveAll hR hF σ b hw hnow (by omega) hN) (by decide) (by decide) rfl rfl (Nat.le_of_ble_eq_true rfl) dX12_tick_1 (fun r1 S1 q1 => ?_)
  obtain ⟨rfl, f1, n1⟩ := q1
  refine X_iconst (v := 0) hB dX12_tick_4 (by decide) ?_
  refine X_istore_n (i := 1) hB dX12_tick_5 rfl (by decide) rfl ?_
  refine X_lv ?_ (l_tick (S := S) hR hF hB σ b hw hnow hb (fun S9 g1 g2 => ⟨rfl, g1, g2⟩) (nSe σ 0) 0 _ (by omega) f1 n1)
  rw [nI_0]; rfl
end REF
