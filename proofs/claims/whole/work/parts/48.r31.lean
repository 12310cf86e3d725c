def newD (fm to now : Nat) : Da := (fm, to, 0, 0, [fm], [], now, none, 0, 0)
def pushD (σ : Net) (x : Da) : Net := (σ.1, σ.2.1, σ.2.2.1, σ.2.2.2.1, σ.2.2.2.2.1, σ.2.2.2.2.2.1, σ.2.2.2.2.2.2 ++ [x])
def comeN (σ : Net) (fm to : Nat) : Net := serve (pushD σ (newD fm to (nNow σ))) (nDa σ).length
theorem dat_push {σ : Net} {x : Da} {e : Nat} (he : e < (nDa σ).length) : dat (pushD σ x) e = dat σ e := by simp [nDa, pushD, List.getElem?_append_left he]
theorem dat_pushN {σ : Net} {x : Da} : dat (pushD σ x) (nDa σ).length = x := by simp [nDa, pushD]
theorem len_push {σ : Net} {x : Da} : (nDa (pushD σ x)).length = (nDa σ).length + 1 := by simp [nDa, pushD]
theorem szN_pushD {σ : Net} {x : Da} (h : szN σ) (hl : (nDa σ).length < 40) (h1 : (aTr x).length ≤ 8) (h2 : (aRe x).length ≤ 8) : szN (pushD σ x) := by
  obtain ⟨g1, g2, g3, g4, g5⟩ := h
  refine ⟨g1, by rw [len_push]; omega, g3, g4, fun y hy => ?_⟩
  rcases List.mem_append.mp hy with q | q
  · exact g5 y q
  · rw [List.mem_singleton.mp q]; exact ⟨h1, h2⟩
theorem netR_pushD {A A' : Nat → Int32} {σ : Net} {x : Da} (hN : netR A σ) (hs : szN σ) (hl : (nDa σ).length < 40) (hx : daR A' (nDa σ).length x) (h9 : A' 9 = nI ((nDa σ).length + 1)) (h : ∀ i, i ≠ 9 → ¬ (1417 + 26 * (nDa σ).length ≤ i ∧ i < 1417 + 26 * (nDa σ).length + 26) → A' i = A i) : netR A' (pushD σ x) := by
  obtain ⟨⟨g1, g2, g3, g4, g5, g6⟩, h2, h3, h4⟩ := hN
  have ha := hs.1
  refine ⟨⟨fun k hk => by rw [h _ (by omega) (by omega)]; exact g1 k hk, by rw [h _ (by omega) (by omega)]; exact g2, by rw [h9, len_push], by rw [h _ (by omega) (by omega)]; exact g4, fun k hk => by rw [h _ (by omega) (by omega)]; exact g5 k hk, fun a b ha hb => by rw [h _ (by omega) (by omega)]; exact g6 a b ha hb⟩, fun n hn => ?_, fun k hk => ?_, fun d hd => ?_⟩
  · exact ndR_same (h2 n hn) (hs.2.2.1 n hn).1 (hs.2.2.1 n hn).2.1 (hs.2.2.1 n hn).2.2 (fun i q1 q2 => h i (by omega) (by omega))
  · have hk2 : k < (nAir σ).length := hk
    exact frS_same (h3 k hk) (air_getD hs hk) (fun w hw => h _ (by omega) (by omega))
  · rw [len_push] at hd
    by_cases e : d = (nDa σ).length
    · subst e; rw [dat_pushN]; exact hx
    · have hd2 : d < (nDa σ).length := by omega
      rw [dat_push hd2]
      exact daR_same (h4 d hd2) (dat_len hs hd2).1 (dat_len hs hd2).2 (fun i q1 q2 => h i (by omega) (by omega))
section REF
variable {G : Gc} {S : St} {h : Nat}
set_option maxRecDepth 100000 in
set_option maxHeartbeats 4000000 in
theorem l_comes (hR : RLay G h) (hF : RRef S h) {E : Ev} (hB : Bd G E mX12_comes) {Q : Option Value → St → Prop} (fm to d : Nat) (hd : d < 40) (kk : ∀ (A1 : Nat → Int32) v, (∀ i, ¬ (1417 + 26 * d ≤ i ∧ i < 1417 + 26 * d + 26) → A1 i = S.1 (h + 1) i) → (∀ w, w < 26 → A1 (1417 + 26 * d + w) = 0) → X G E mX12_comes 6 Q (rowI S (h + 1) A1) 43 [some (.ref h), some (.int (nI fm)), some (.int (nI to)), some (.int (nI d)), some (.int v)] []) :
    ∀ (k j : Nat) (A1 : Nat → Int32), j + k = 26 → (∀ i, ¬ (1417 + 26 * d ≤ i ∧ i < 1417 + 26 * d + 26) → A1 i = S.1 (h + 1) i) → (∀ w, w < j → A1 (1417 + 26 * d + w) = 0) → X G E mX12_comes 6 Q (rowI S (h + 1) A1) 22 [some (.ref h), some (.int (nI fm)), some (.int (nI to)), some (.int (nI d)), some (.int (nI j))] [] := by
  intro k
  induction k with
  | zero =>
    intro j A1 h1 h2 h3
    refine X_iload hB dX12_comes_22 rfl ?_
    refine X_bipush (v := 26) hB dX12_comes_24 (by decide) ?_
    refine X_icmp_ge (tgt := 43) hB dX12_comes_26 (by decide) (fun c26 => ?_) (fun c26 => absurd c26 (by simp (disch := omega) only [nlit, nI_leI, nI_ltI]; omega))
    exact kk A1 _ h2 (fun w hw => h3 w (by omega))
  | succ k ih =>
    intro j A1 h1 h2 h3
    refine X_iload hB dX12_comes_22 rfl ?_
    refine X_bipush (v := 26) hB dX12_comes_24 (by decide) ?_
    refine X_icmp_ge (tgt := 43) hB dX12_comes_26 (by decide) (fun c26 => absurd c26 (by simp (disch := omega) only [nlit, nI_leI, nI_ltI]; omega)) (fun c26 => ?_)
    refine X_aload_n (i := 0) hB dX12_comes_29 rfl rfl ?_
    refine X_iload_n (i := 3) hB dX12_comes_30 rfl rfl ?_
    refine X_iload hB dX12_comes_31 rfl ?_
    refine X_iconst (v := 0) hB dX12_comes_33 (by decide) ?_
    refine X_callV hB kX12_243 cw10 hR.1.1 hR.1.2 (c_layDE (n := d) (w := j) hR (by exact hF.of rfl) rfl rfl (by omega) (by omega)) (by decide) (by decide) rfl rfl (Nat.le_of_ble_eq_true rfl) dX12_comes_34 (fun r34 S34 q34 => ?_)
    obtain ⟨rfl, rfl⟩ := q34
    rw [setI_rowI, rowI_rowI, rowI_at]
    refine X_iinc hB dX12_comes_37 rfl rfl (by decide) rfl ?_
    refine X_goto (tgt := 22) hB dX12_comes_40 (by decide) ?_
    refine X_lv ?_ (ih (j + 1) _ (by omega) (fun i hi => by rw [upd_ne _ _ (by omega)]; exact h2 i hi) (fun w hw => ?_))
    · rw [nI_succ]; rfl
    · by_cases e : w = j
      · subst e; rw [upd_at]
      · rw [upd_ne _ _ (by omega)]; exact h3 w (by omega)
set_option maxRecDepth 100000 in
set_option maxHeartbeats 4000000 in
theorem c_comes (hR : RLay G h) (hF : RRef S h) (σ : Net) (b : Nat) (hw : wfN σ b) (hN : netR (S.1 (h + 1)) σ) (fm to : Nat) (hfm : fm < 8) (hto : to < 8) (hlt : (nDa σ).length < 40) : C G mX12_comes 6 [.ref h, .int (nI fm), .int (nI to)] S (fun r S' => r = some (.int (nI (nDa σ).length)) ∧ fr h [h + 1, h + 8, h + 9, h + 10, h + 11] [22] S S' ∧ netR (S'.1 (h + 1)) (comeN σ fm to)) := by
  have hs := hw.sz
  have ha40 := hs.1
  refine C.mk (lv := [some (.ref h), some (.int (nI fm)), some (.int (nI to)), none, none]) (by decide) (Nat.le_of_ble_eq_true rfl) rfl (fun E hB => ?_)
  refine X_aload_n (i := 0) hB dX12_comes_0 rfl rfl ?_
  refine X_getr hB cw10 fX12_7 rfl hR.1.1 hR.1.2 hF.1 dX12_comes_1 ?_
  refine X_bipush (v := 9) hB dX12_comes_4 (by decide) ?_
  refine X_ialdN hB (9) hR.2.1.1 hR.2.1.2 (by decide) (by first | rfl | (simp (disch := omega) only [nlit, nI_add, nI_mul, nI_sub]; done) | (simp (disch := omega) only [nlit, nI_add, nI_mul, nI_sub]; (congr 1 <;> omega))) (by first | omega | (simp only []; omega)) hN.1.2.2.1 dX12_comes_6 ?_
  refine X_istore_n (i := 3) hB dX12_comes_7 rfl (by decide) rfl ?_
  refine X_aload_n (i := 0) hB dX12_comes_8 rfl rfl ?_
  refine X_getr hB cw10 fX12_7 rfl hR.1.1 hR.1.2 hF.1 dX12_comes_9 ?_
  refine X_bipush (v := 9) hB dX12_comes_12 (by decide) ?_
  refine X_dup2_11 hB dX12_comes_14 rfl rfl ?_
  refine X_ialdN hB (9) hR.2.1.1 hR.2.1.2 (by decide) (by first | rfl | (simp (disch := omega) only [nlit, nI_add, nI_mul, nI_sub]; done) | (simp (disch := omega) only [nlit, nI_add, nI_mul, nI_sub]; (congr 1 <;> omega))) (by first | omega | (simp only []; omega)) hN.1.2.2.1 dX12_comes_15 ?_
  refine X_iconst (v := 1) hB dX12_comes_16 (by decide) ?_
  refine X_iadd hB dX12_comes_17 ?_
  refine X_topi (y := nI ((nDa σ).length + 1)) (by first | rfl | (simp (disch := omega) only [nlit, nI_add, nI_mul, nI_sub]; done) | (simp (disch := omega) only [nlit, nI_add, nI_mul, nI_sub]; (congr 1 <;> omega))) ?_
  refine X_iastN hB (9) hR.2.1.1 hR.2.1.2 (by decide) (by first | rfl | (simp (disch := omega) only [nlit, nI_add, nI_mul, nI_sub]; done) | (simp (disch := omega) only [nlit, nI_add, nI_mul, nI_sub]; (congr 1 <;> omega))) (by first | omega | (simp only []; omega)) dX12_comes_18 ?_
  refine X_iconst (v := 0) hB dX12_comes_19 (by decide) ?_
  refine X_istore hB dX12_comes_20 (by decide) rfl ?_
  rw [setI_rowI]
  refine X_S (S' := rowI (rowI S (h + 1) (upd (S.1 (h + 1)) 9 (nI ((nDa σ).length + 1)))) (h + 1) (upd (S.1 (h + 1)) 9 (nI ((nDa σ).length + 1)))) (by rw [rowI_rowI]) (X_lv ?_ (l_comes (S := rowI S (h + 1) (upd (S.1 (h + 1)) 9 (nI ((nDa σ).length + 1)))) hR (by exact hF.of rfl) hB fm to (nDa σ).length hlt (fun A1 v9 g1 g2 => ?_) 26 0 _ (by omega) (fun i hi => by rw [rowI_at]) (fun w hw9 => by omega)))
  · rw [nI_0]; rfl
  rw [rowI_rowI]
  rw [rowI_at] at g1
  refine X_aload_n (i := 0) hB dX12_comes_43 rfl rfl ?_
  refine X_iload_n (i := 3) hB dX12_comes_44 rfl rfl ?_
  refine X_iconst (v := 0) hB dX12_comes_45 (by decide) ?_
  refine X_iload_n (i := 1) hB dX12_comes_46 rfl rfl ?_
  refine X_callV hB kX12_243 cw10 hR.1.1 hR.1.2 (c_layDE (n := (nDa σ).length) (w := 0) hR (by exact hF.of rfl) rfl rfl (by omega) (by omega)) (by decide) (by decide) rfl rfl (Nat.le_of_ble_eq_true rfl) dX12_comes_47 (fun r47 S47 q47 => ?_)
  obtain ⟨rfl, rfl⟩ := q47
  rw [setI_rowI, rowI_rowI, rowI_at]
  refine X_aload_n (i := 0) hB dX12_comes_50 rfl rfl ?_
  refine X_iload_n (i := 3) hB dX12_comes_51 rfl rfl ?_
  refine X_iconst (v := 1) hB dX12_comes_52 (by decide) ?_
  refine X_iload_n (i := 2) hB dX12_comes_53 rfl rfl ?_
  refine X_callV hB kX12_243 cw10 hR.1.1 hR.1.2 (c_layDE (n := (nDa σ).length) (w := 1) hR (by exact hF.of rfl) rfl rfl (by omega) (by omega)) (by decide) (by decide) rfl rfl (Nat.le_of_ble_eq_true rfl) dX12_comes_54 (fun r54 S54 q54 => ?_)
  obtain ⟨rfl, rfl⟩ := q54
  rw [setI_rowI, rowI_rowI, rowI_at]
  refine X_aload_n (i := 0) hB dX12_comes_57 rfl rfl ?_
  refine X_iload_n (i := 3) hB dX12_comes_58 rfl rfl ?_
  refine X_bipush (v := 6) hB dX12_comes_59 (by decide) ?_
  refine X_aload_n (i := 0) hB dX12_comes_61 rfl rfl ?_
  refine X_getr hB cw10 fX12_7 rfl hR.1.1 hR.1.2 hF.1 dX12_comes_62 ?_
  refine X_bipush (v := 8) hB dX12_comes_65 (by decide) ?_
  refine X_ialdN hB (8) hR.2.1.1 hR.2.1.2 (by decide) (by first | rfl | (simp (disch := omega) only [nlit, nI_add, nI_mul, nI_sub]; done) | (simp (disch := omega) only [nlit, nI_add, nI_mul, nI_sub]; (congr 1 <;> omega))) (by first | omega | (simp only []; omega)) (show _ = nI (nNow σ) by rw [rowI_at, upd_ne _ _ (by omega), upd_ne _ _ (by omega), g1 8 (by omega), upd_ne _ _ (by omega)]; exact hN.1.2.1) dX12_comes_67 ?_
  refine X_callV hB kX12_243 cw10 hR.1.1 hR.1.2 (c_layDE (n := (nDa σ).length) (w := 6) hR (by exact hF.of rfl) rfl rfl (by omega) (by omega)) (by decide) (by decide) rfl rfl (Nat.le_of_ble_eq_true rfl) dX12_comes_68 (fun r68 S68 q68 => ?_)
  obtain ⟨rfl, rfl⟩ := q68
  rw [setI_rowI, rowI_rowI, rowI_at]
  refine X_aload_n (i := 0) hB dX12_comes_71 rfl rfl ?_
  refine X_iload_n (i := 3) hB dX12_comes_72 rfl rfl ?_
  refine X_bipush (v := 7) hB dX12_comes_73 (by decide) ?_
  refine X_iconst (v := (-1)) hB dX12_comes_75 (by decide) ?_
  refine X_callV hB kX12_243 cw10 hR.1.1 hR.1.2 (c_layDE (n := (nDa σ).length) (w := 7) hR (by exact hF.of rfl) rfl rfl (by omega) (by omega)) (by decide) (by decide) rfl rfl (Nat.le_of_ble_eq_true rfl) dX12_comes_76 (fun r76 S76 q76 => ?_)
  obtain ⟨rfl, rfl⟩ := q76
  rw [setI_rowI, rowI_rowI, rowI_at]
  refine X_aload_n (i := 0) hB dX12_comes_79 rfl rfl ?_
  refine X_iload_n (i := 3) hB dX12_comes_80 rfl rfl ?_
  refine X_iconst (v := 4) hB dX12_comes_81 (by decide) ?_
  refine X_iconst (v := 1) hB dX12_comes_82 (by decide) ?_
  refine X_callV hB kX12_243 cw10 hR.1.1 hR.1.2 (c_layDE (n := (nDa σ).length) (w := 4) hR (by exact hF.of rfl) rfl rfl (by omega) (by omega)) (by decide) (by decide) rfl rfl (Nat.le_of_ble_eq_true rfl) dX12_comes_83 (fun r83 S83 q83 => ?_)
  obtain ⟨rfl, rfl⟩ := q83
  rw [setI_rowI, rowI_rowI, rowI_at]
  refine X_aload_n (i := 0) hB dX12_comes_86 rfl rfl ?_
  refine X_iload_n (i := 3) hB dX12_comes_87 rfl rfl ?_
  refine X_bipush (v := 10) hB dX12_comes_88 (by decide) ?_
  refine X_iload_n (i := 1) hB dX12_comes_90 rfl rfl ?_
  refine X_callV hB kX12_243 cw10 hR.1.1 hR.1.2 (c_layDE (n := (nDa σ).length) (w := 10) hR (by exact hF.of rfl) rfl rfl (by omega) (by omega)) (by decide) (by decide) rfl rfl (Nat.le_of_ble_eq_true rfl) dX12_comes_91 (fun r91 S91 q91 => ?_)
  obtain ⟨rfl, rfl⟩ := q91
  rw [setI_rowI, rowI_rowI, rowI_at]
  have s91 : szN (pushD σ (newD fm to (nNow σ))) := szN_pushD hs hlt (by show 1 ≤ 8; omega) (Nat.zero_le _)
  have n91 : netR (upd (upd (upd (upd (upd (upd A1 (1417 + 26 * (nDa σ).length + 0) (nI fm)) (1417 + 26 * (nDa σ).length + 1) (nI to)) (1417 + 26 * (nDa σ).length + 6) (nI (nNow σ))) (1417 + 26 * (nDa σ).length + 7) (-1)) (1417 + 26 * (nDa σ).length + 4) 1) (1417 + 26 * (nDa σ).length + 10) (nI fm)) (pushD σ (newD fm to (nNow σ))) := by
    have hz : ∀ w, w < 26 → w ≠ 0 → w ≠ 1 → w ≠ 6 → w ≠ 7 → w ≠ 4 → w ≠ 10 → (upd (upd (upd (upd (upd (upd A1 (1417 + 26 * (nDa σ).length + 0) (nI fm)) (1417 + 26 * (nDa σ).length + 1) (nI to)) (1417 + 26 * (nDa σ).length + 6) (nI (nNow σ))) (1417 + 26 * (nDa σ).length + 7) (-1)) (1417 + 26 * (nDa σ).length + 4) 1) (1417 + 26 * (nDa σ).length + 10) (nI fm)) (1417 + 26 * (nDa σ).length + w) = 0 := fun w q0 q1 q2 q3 q4 q5 q6 => by rw [upd_ne _ _ (by omega), upd_ne _ _ (by omega), upd_ne _ _ (by omega), upd_ne _ _ (by omega), upd_ne _ _ (by omega), upd_ne _ _ (by omega)]; exact g2 w q0
    refine netR_pushD hN hs hlt ?_ ?_ (fun i q1 q2 => ?_)
    · refine ⟨?_, ?_, ?_, ?_, ?_, ?_, ?_, ?_, ?_, fun _ => ?_, fun i hi => ?_, fun i hi => by simp [aRe, newD] at hi⟩
      · rw [upd_ne _ _ (by omega), upd_ne _ _ (by omega), upd_ne _ _ (by omega), upd_ne _ _ (by omega), upd_ne _ _ (by omega), upd_at]; rfl
      · rw [upd_ne _ _ (by omega), upd_ne _ _ (by omega), upd_ne _ _ (by omega), upd_ne _ _ (by omega), upd_at]; rfl
      · rw [hz 2 (by omega) (by omega) (by omega) (by omega) (by omega) (by omega) (by omega)]; rfl
      · rw [hz 3 (by omega) (by omega) (by omega) (by omega) (by omega) (by omega) (by omega)]; rfl
      · rw [upd_ne _ _ (by omega), upd_at]; rfl
      · rw [hz 5 (by omega) (by omega) (by omega) (by omega) (by omega) (by omega) (by omega)]; rfl
      · rw [upd_ne _ _ (by omega), upd_ne _ _ (by omega), upd_ne _ _ (by omega), upd_at]; rfl
      · rw [upd_ne _ _ (by omega), upd_ne _ _ (by omega), upd_at]; rfl
      · rw [hz 8 (by omega) (by omega) (by omega) (by omega) (by omega) (by omega) (by omega)]; rfl
      · rw [hz 9 (by omega) (by omega) (by omega) (by omega) (by omega) (by omega) (by omega)]; rfl
      · have hi0 : i = 0 := by (have : i < 1 := hi); omega
        subst hi0
        rw [show 1417 + 26 * (nDa σ).length + (10 + 0) = 1417 + 26 * (nDa σ).length + 10 from rfl, upd_at]; rfl
    · rw [upd_ne _ _ (by omega), upd_ne _ _ (by omega), upd_ne _ _ (by omega), upd_ne _ _ (by omega), upd_ne _ _ (by omega), upd_ne _ _ (by omega), g1 9 (by omega), upd_at]
    · rw [upd_ne _ _ (by omega), upd_ne _ _ (by omega), upd_ne _ _ (by omega), upd_ne _ _ (by omega), upd_ne _ _ (by omega), upd_ne _ _ (by omega), g1 i q2, upd_ne _ _ q1]
  generalize hgA : (upd (upd (upd (upd (upd (upd A1 (1417 + 26 * (nDa σ).length + 0) (nI fm)) (1417 + 26 * (nDa σ).length + 1) (nI to)) (1417 + 26 * (nDa σ).length + 6) (nI (nNow σ))) (1417 + 26 * (nDa σ).length + 7) (-1)) (1417 + 26 * (nDa σ).length + 4) 1) (1417 + 26 * (nDa σ).length + 10) (nI fm)) = A9 at n91 ⊢
  have n91 : netR ((rowI S (h + 1) A9).1 (h + 1)) (pushD σ (newD fm to (nNow σ))) := by rw [rowI_at]; exact n91
  have hak : ∀ n t, n < 8 → t < 8 → ∀ s, dAk (nNd (pushD σ (newD fm to (nNow σ))) n) t = some s → s < 2 ^ 31 := fun n t hn _ s hs9 => by
    have := ((hw.2.2.1 n hn).2.2.2.2.2.2.2.2 t s hs9).1
    have := hw.2.2.2.2.2.2.2.2.1
    omega
  refine X_aload_n (i := 0) hB dX12_comes_94 rfl rfl ?_
  refine X_iload_n (i := 3) hB dX12_comes_95 rfl rfl ?_
  refine X_callV hB kX12_289 cw10 hR.1.1 hR.1.2 (c_serves hR (by exact hF.of rfl) (pushD σ (newD fm to (nNow σ))) n91 s91 (nDa σ).length (by rw [len_push]; omega) (by rw [dat_pushN]; show 1 ≤ 1; omega) (by rw [dat_pushN]; exact hfm) (by rw [dat_pushN]; exact hto) hw.1.2.1.2 (by rw [dat_pushN]; exact ⟨(hw.2.2.1 fm hfm).2.2.2.2.1, hw.1.2.2.2.2.1.2⟩) hak) (by decide) (by decide) rfl rfl (Nat.le_of_ble_eq_true rfl) dX12_comes_96 (fun r96 S96 q96 => ?_)
  obtain ⟨rfl, f96, n96⟩ := q96
  refine X_iload_n (i := 3) hB dX12_comes_99 rfl rfl ?_
  refine X_iret hB rfl dX12_comes_100 ?_
  exact ⟨rfl, (fr.row (by simp) (by omega)).tr f96, n96⟩
end REF
