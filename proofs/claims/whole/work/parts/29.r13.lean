def xAsk (x : Nd) (to now : Nat) : Nd := (x.1, x.2.1, x.2.2.1, x.2.2.2.1, x.2.2.2.2.1, x.2.2.2.2.2.1 + 1, x.2.2.2.2.2.2.1, fun t => if t = to then some now else x.2.2.2.2.2.2.2 t)
def xBu (x : Nd) (b : List Nat) : Nd := (x.1, x.2.1, x.2.2.1, x.2.2.2.1, b, x.2.2.2.2.2)
def ask (σ : Net) (n to : Nat) : Net := (sendF (uNd σ n (xAsk (nNd σ n) to (nNow σ))) (1, n, to, dRq (nNd σ n) + 1, dNw (nNd σ n), [n])).1
def wayN (σ : Net) (n to : Nat) : List Nat := wayOf (dMap (nNd σ n)) (nSe σ 1) (dCa (nNd σ n)) n to
def wait (σ : Net) (d : Nat) : Net := uNd (uDa σ d (dSi (dRe (dSt (dat σ d) 0) []) (nNow σ))) (aOr (dat σ d)) (xBu (nNd σ (aOr (dat σ d))) (dBu (nNd σ (aOr (dat σ d))) ++ [d]))
def serve (σ : Net) (d : Nat) : Net := if wayN σ (aOr (dat σ d)) (aEn (dat σ d)) ≠ [] then flyBy σ d (wayN σ (aOr (dat σ d)) (aEn (dat σ d))) else if (dBu (nNd σ (aOr (dat σ d)))).length = nSe σ 4 then doneD σ d 3 else if dAk (nNd σ (aOr (dat σ d))) (aEn (dat σ d)) = none then ask (wait σ d) (aOr (dat σ d)) (aEn (dat σ d)) else wait σ d
theorem dat_uDa {σ : Net} {d : Nat} {x : Da} (hd : d < (nDa σ).length) : dat (uDa σ d x) d = x := dat_set hd
theorem uDa_uDa {σ : Net} {d : Nat} {x y : Da} : uDa (uDa σ d x) d y = uDa σ d y := by simp [uDa]
theorem len_send {σ : Net} {f : Fm} : (nDa (sendF σ f).1).length = (nDa σ).length := by unfold sendF; split <;> rfl
theorem doneD_sz {σ : Net} {d st : Nat} (hs : szN σ) (hd : d < (nDa σ).length) : szN (doneD σ d st) := szN_ta (szN_da hs (dat_len hs hd).1 (by simp [aRe, dRe]))
section REF
variable {G : Gc} {S : St} {h : Nat}
set_option maxRecDepth 100000 in
set_option maxHeartbeats 4000000 in
theorem c_isDone (hR : RLay G h) (hF : RRef S h) (σ : Net) (hN : netR (S.1 (h + 1)) σ) (hs : szN σ) (d st : Nat) (hd : d < (nDa σ).length) (hst : st = 2 ∨ st = 3) : C G mX12_isDone 1 [.ref h, .int (nI d), .int (nI st)] S (fun r S' => r = none ∧ fr h [h + 1] [] S S' ∧ netR (S'.1 (h + 1)) (doneD σ d st)) := by
  have hd40 := hs.2.1
  have hx := hN.2.2.2 d hd
  have hl := dat_len hs hd
  have hn3 : netR (upd (upd (upd (S.1 (h + 1)) (1417 + 26 * d + 2) (nI st)) (1417 + 26 * d + 7) (nI (nNow σ))) (1417 + 26 * d + 5) 0) (uDa σ d (dRe (dDo (dSt (dat σ d) st) (some (nNow σ))) [])) := by
    refine netR_da hN hs hd (daR_Re0 (daR_Do (v := some (nNow σ)) (daR_St hx hl.1 hl.2 (fun q => by omega)) hl.1 hl.2) hl.1) (fun i hi => ?_)
    rw [upd_ne _ _ (by omega), upd_ne _ _ (by omega), upd_ne _ _ (by omega)]
  have hs3 : szN (uDa σ d (dRe (dDo (dSt (dat σ d) st) (some (nNow σ))) [])) := szN_da hs hl.1 (by simp [aRe, dRe])
  refine C.mk (lv := [some (.ref h), some (.int (nI d)), some (.int (nI st))]) (by decide) (Nat.le_of_ble_eq_true rfl) rfl (fun E hB => ?_)
  refine X_aload_n (i := 0) hB dX12_isDone_0 rfl rfl ?_
  refine X_iload_n (i := 1) hB dX12_isDone_1 rfl rfl ?_
  refine X_iconst (v := 2) hB dX12_isDone_2 (by decide) ?_
  refine X_iload_n (i := 2) hB dX12_isDone_3 rfl rfl ?_
  refine X_callV hB kX12_243 cw10 hR.1.1 hR.1.2 (c_layDE (w := 2) hR (by exact hF.of rfl) rfl (by first | rfl | (simp (disch := omega) only [nlit, nI_add, nI_mul, nI_sub]; done) | (simp (disch := omega) only [nlit, nI_add, nI_mul, nI_sub]; (congr 1 <;> omega))) (by omega) (by omega)) (by decide) (by decide) rfl rfl (Nat.le_of_ble_eq_true rfl) dX12_isDone_4 (fun r4 S4 q4 => ?_)
  obtain ⟨rfl, rfl⟩ := q4
  rw [setI_rowI]
  refine X_aload_n (i := 0) hB dX12_isDone_7 rfl rfl ?_
  refine X_iload_n (i := 1) hB dX12_isDone_8 rfl rfl ?_
  refine X_bipush (v := 7) hB dX12_isDone_9 (by decide) ?_
  refine X_aload_n (i := 0) hB dX12_isDone_11 rfl rfl ?_
  refine X_getr hB cw10 fX12_7 rfl hR.1.1 hR.1.2 hF.1 dX12_isDone_12 ?_
  refine X_bipush (v := 8) hB dX12_isDone_15 (by decide) ?_
  refine X_ialdN hB (8) hR.2.1.1 hR.2.1.2 (by decide) (by first | rfl | (simp (disch := omega) only [nlit, nI_add, nI_mul, nI_sub]; done) | (simp (disch := omega) only [nlit, nI_add, nI_mul, nI_sub]; (congr 1 <;> omega))) (by first | omega | (simp only []; omega)) (show _ = nI (nNow σ) by rw [rowI_at, upd_ne _ _ (by omega)]; exact hN.1.2.1) dX12_isDone_17 ?_
  refine X_callV hB kX12_243 cw10 hR.1.1 hR.1.2 (c_layDE (w := 7) hR (by exact hF.of rfl) rfl (by first | rfl | (simp (disch := omega) only [nlit, nI_add, nI_mul, nI_sub]; done) | (simp (disch := omega) only [nlit, nI_add, nI_mul, nI_sub]; (congr 1 <;> omega))) (by omega) (by omega)) (by decide) (by decide) rfl rfl (Nat.le_of_ble_eq_true rfl) dX12_isDone_18 (fun r18 S18 q18 => ?_)
  obtain ⟨rfl, rfl⟩ := q18
  rw [setI_rowI, rowI_rowI, rowI_at]
  refine X_aload_n (i := 0) hB dX12_isDone_21 rfl rfl ?_
  refine X_iload_n (i := 1) hB dX12_isDone_22 rfl rfl ?_
  refine X_iconst (v := 5) hB dX12_isDone_23 (by decide) ?_
  refine X_iconst (v := 0) hB dX12_isDone_24 (by decide) ?_
  refine X_callV hB kX12_243 cw10 hR.1.1 hR.1.2 (c_layDE (w := 5) hR (by exact hF.of rfl) rfl (by first | rfl | (simp (disch := omega) only [nlit, nI_add, nI_mul, nI_sub]; done) | (simp (disch := omega) only [nlit, nI_add, nI_mul, nI_sub]; (congr 1 <;> omega))) (by omega) (by omega)) (by decide) (by decide) rfl rfl (Nat.le_of_ble_eq_true rfl) dX12_isDone_25 (fun r25 S25 q25 => ?_)
  obtain ⟨rfl, rfl⟩ := q25
  rw [setI_rowI, rowI_rowI, rowI_at]
  refine X_aload_n (i := 0) hB dX12_isDone_28 rfl rfl ?_
  refine X_iload_n (i := 2) hB dX12_isDone_29 rfl rfl ?_
  refine X_iconst (v := 2) hB dX12_isDone_30 (by decide) ?_
  refine X_icmp_ne (tgt := 39) hB dX12_isDone_31 (by decide) (fun c31 => ?_) (fun c31 => ?_)
  · have e2 : ¬ st = 2 := fun q => c31 (by rw [q]; rfl)
    refine X_bipush (v := 10) hB dX12_isDone_39 (by decide) ?_
    refine X_iconst (v := 1) hB dX12_isDone_41 (by decide) ?_
    refine X_callV hB kX12_240 cw10 hR.1.1 hR.1.2 (c_tally hR (by exact hF.of rfl) (k := 10) (by decide) 1) (by decide) (by decide) rfl rfl (Nat.le_of_ble_eq_true rfl) dX12_isDone_42 (fun r42 S42 q42 => ?_)
    obtain ⟨rfl, rfl⟩ := q42
    rw [setI_rowI, rowI_rowI, rowI_at]
    refine X_vret hB rfl dX12_isDone_45 ?_
    refine ⟨rfl, fr.row (by simp) (by omega), ?_⟩
    rw [rowI_at]
    unfold doneD
    rw [if_neg e2]
    exact netR_ta hn3 hs3 (by decide)
  · have e2 : st = 2 := i32_inj (by omega) (by omega) (by first | exact c31 | exact Decidable.not_not.mp c31)
    refine X_bipush (v := 9) hB dX12_isDone_34 (by decide) ?_
    refine X_goto (tgt := 41) hB dX12_isDone_36 (by decide) ?_
    refine X_iconst (v := 1) hB dX12_isDone_41 (by decide) ?_
    refine X_callV hB kX12_240 cw10 hR.1.1 hR.1.2 (c_tally hR (by exact hF.of rfl) (k := 9) (by decide) 1) (by decide) (by decide) rfl rfl (Nat.le_of_ble_eq_true rfl) dX12_isDone_42 (fun r42 S42 q42 => ?_)
    obtain ⟨rfl, rfl⟩ := q42
    rw [setI_rowI, rowI_rowI, rowI_at]
    refine X_vret hB rfl dX12_isDone_45 ?_
    refine ⟨rfl, fr.row (by simp) (by omega), ?_⟩
    rw [rowI_at]
    unfold doneD
    rw [if_pos e2]
    exact netR_ta hn3 hs3 (by decide)
set_option maxRecDepth 100000 in
set_option maxHeartbeats 4000000 in
theorem c_fliesOn (hR : RLay G h) (hF : RRef S h) (σ : Net) (hN : netR (S.1 (h + 1)) σ) (hs : szN σ) (d : Nat) (hd : d < (nDa σ).length) (htr : 1 ≤ (aTr (dat σ d)).length) : C G mX12_fliesOn 2 [.ref h, .int (nI d)] S (fun r S' => r = none ∧ fr h [h + 1, h + 11] [] S S' ∧ netR (S'.1 (h + 1)) (flyOn σ d)) := by
  have hd40 := hs.2.1
  have hx := hN.2.2.2 d hd
  have hl := dat_len hs hd
  have hs1 : szN (uDa σ d (dSt (dat σ d) 1)) := szN_da hs hl.1 hl.2
  refine C.mk (lv := [some (.ref h), some (.int (nI d)), none]) (by decide) (Nat.le_of_ble_eq_true rfl) rfl (fun E hB => ?_)
  refine X_aload_n (i := 0) hB dX12_fliesOn_0 rfl rfl ?_
  refine X_iload_n (i := 1) hB dX12_fliesOn_1 rfl rfl ?_
  refine X_bipush (v := 10) hB dX12_fliesOn_2 (by decide) ?_
  refine X_aload_n (i := 0) hB dX12_fliesOn_4 rfl rfl ?_
  refine X_iload_n (i := 1) hB dX12_fliesOn_5 rfl rfl ?_
  refine X_iconst (v := 4) hB dX12_fliesOn_6 (by decide) ?_
  refine X_callV hB kX12_246 cw10 hR.1.1 hR.1.2 (c_ofDE (w := 4) hR (by exact hF.of rfl) rfl (by first | rfl | (simp (disch := omega) only [nlit, nI_add, nI_mul, nI_sub]; done) | (simp (disch := omega) only [nlit, nI_add, nI_mul, nI_sub]; (congr 1 <;> omega))) (by omega) (by omega)) (by decide) (by decide) rfl rfl (Nat.le_of_ble_eq_true rfl) dX12_fliesOn_7 (fun r7 S7 q7 => ?_)
  obtain ⟨rfl, rfl⟩ := q7
  refine X_topi (y := nI (aTr (dat σ d)).length) (hx.2.2.2.2.1) ?_
  refine X_iadd hB dX12_fliesOn_10 ?_
  refine X_iconst (v := 1) hB dX12_fliesOn_11 (by decide) ?_
  refine X_isub hB dX12_fliesOn_12 ?_
  refine X_topi (y := nI (10 + ((aTr (dat σ d)).length - 1))) (by first | rfl | (simp (disch := omega) only [nlit, nI_add, nI_mul, nI_sub]; done) | (simp (disch := omega) only [nlit, nI_add, nI_mul, nI_sub]; (congr 1 <;> omega))) ?_
  refine X_callV hB kX12_246 cw10 hR.1.1 hR.1.2 (c_ofDE (w := 10 + ((aTr (dat σ d)).length - 1)) hR (by exact hF.of rfl) rfl (by first | rfl | (simp (disch := omega) only [nlit, nI_add, nI_mul, nI_sub]; done) | (simp (disch := omega) only [nlit, nI_add, nI_mul, nI_sub]; (congr 1 <;> omega))) (by omega) (by omega)) (by decide) (by decide) rfl rfl (Nat.le_of_ble_eq_true rfl) dX12_fliesOn_13 (fun r13 S13 q13 => ?_)
  obtain ⟨rfl, rfl⟩ := q13
  refine X_topi (y := nI (trL (dat σ d))) (hx.2.2.2.2.2.2.2.2.2.2.1 _ (by omega)) ?_
  refine X_istore_n (i := 2) hB dX12_fliesOn_16 rfl (by decide) rfl ?_
  refine X_aload_n (i := 0) hB dX12_fliesOn_17 rfl rfl ?_
  refine X_iconst (v := 0) hB dX12_fliesOn_18 (by decide) ?_
  refine X_iload_n (i := 2) hB dX12_fliesOn_19 rfl rfl ?_
  refine X_iload_n (i := 1) hB dX12_fliesOn_20 rfl rfl ?_
  refine X_iconst (v := (-1)) hB dX12_fliesOn_21 (by decide) ?_
  refine X_iconst (v := (-1)) hB dX12_fliesOn_22 (by decide) ?_
  refine X_iconst (v := (-1)) hB dX12_fliesOn_23 (by decide) ?_
  refine X_callV hB kX12_249 cw10 hR.1.1 hR.1.2 (c_beginsFrame hR (by exact hF.of rfl) (0, trL (dat σ d), d, 0, none, []) rfl) (by decide) (by decide) rfl rfl (Nat.le_of_ble_eq_true rfl) dX12_fliesOn_24 (fun r24 S24 q24 => ?_)
  obtain ⟨rfl, f24, g24⟩ := q24
  have hA : S24.1 (h + 1) = S.1 (h + 1) := f24.2.1 _ (by simp) (by omega)
  refine X_aload_n (i := 0) hB dX12_fliesOn_27 rfl rfl ?_
  refine X_iload_n (i := 1) hB dX12_fliesOn_28 rfl rfl ?_
  refine X_iconst (v := 2) hB dX12_fliesOn_29 (by decide) ?_
  refine X_iconst (v := 1) hB dX12_fliesOn_30 (by decide) ?_
  refine X_callV hB kX12_243 cw10 hR.1.1 hR.1.2 (c_layDE (n := d) (w := 2) hR (f24.ref hF) rfl rfl (by omega) (by omega)) (by decide) (by decide) rfl rfl (Nat.le_of_ble_eq_true rfl) dX12_fliesOn_31 (fun r31 S31 q31 => ?_)
  obtain ⟨rfl, rfl⟩ := q31
  rw [setI_rowI, hA]
  have hn1 : netR ((rowI S24 (h + 1) (upd (S.1 (h + 1)) (1417 + 26 * d + 2) 1)).1 (h + 1)) (uDa σ d (dSt (dat σ d) 1)) := by
    rw [rowI_at]
    refine netR_da hN hs hd (daR_St (v := 1) hx hl.1 hl.2 (fun q => by omega)) (fun i hi => ?_)
    rw [upd_ne _ _ (by omega)]
  have hf1 : frS ((rowI S24 (h + 1) (upd (S.1 (h + 1)) (1417 + 26 * d + 2) 1)).1 (h + 11)) (0, trL (dat σ d), d, 0, none, []) := by rw [rowI_ne _ _ (by omega)]; exact g24
  refine X_aload_n (i := 0) hB dX12_fliesOn_34 rfl rfl ?_
  refine X_callV hB kX12_253 cw10 hR.1.1 hR.1.2 (c_sends hR (by exact (f24.ref hF).of rfl) (uDa σ d (dSt (dat σ d) 1)) (0, trL (dat σ d), d, 0, none, []) hn1 hs1 (Nat.zero_le _) hf1 (by simp [fRo])) (by decide) (by decide) rfl rfl (Nat.le_of_ble_eq_true rfl) dX12_fliesOn_35 (fun r35 S35 q35 => ?_)
  obtain ⟨rfl, f35, g35⟩ := q35
  have hfr : fr h [h + 1, h + 11] [] S S35 := (f24.mono (by simp) (by simp)).tr ((fr.row (by simp) (by omega)).tr (f35.mono (by simp) (by simp)))
  refine X_if_ne (tgt := 47) hB dX12_fliesOn_38 (by decide) (fun c38 => ?_) (fun c38 => ?_)
  · refine X_vret hB rfl dX12_fliesOn_47 ?_
    have hb9 : (sendF (uDa σ d (dSt (dat σ d) 1)) (0, trL (dat σ d), d, 0, none, [])).2 = true := Decidable.byContradiction fun q => c38 (by rw [if_neg q])
    refine ⟨rfl, hfr, ?_⟩
    unfold flyOn
    rw [if_pos hb9]
    exact g35
  · have hb9 : ¬ (sendF (uDa σ d (dSt (dat σ d) 1)) (0, trL (dat σ d), d, 0, none, [])).2 = true := fun q => absurd c38 (by rw [if_pos q]; decide)
    refine X_aload_n (i := 0) hB dX12_fliesOn_41 rfl rfl ?_
    refine X_iload_n (i := 1) hB dX12_fliesOn_42 rfl rfl ?_
    refine X_iconst (v := 3) hB dX12_fliesOn_43 (by decide) ?_
    refine X_callV hB kX12_256 cw10 hR.1.1 hR.1.2 (c_isDone hR (hfr.ref hF) _ g35 (szN_send hs1 (by simp [fRo])) d 3 (by rw [len_send, len_set]; exact hd) (Or.inr rfl)) (by decide) (by decide) rfl rfl (Nat.le_of_ble_eq_true rfl) dX12_fliesOn_44 (fun r44 S44 q44 => ?_)
    obtain ⟨rfl, f44, g44⟩ := q44
    refine X_vret hB rfl dX12_fliesOn_47 ?_
    refine ⟨rfl, hfr.tr (f44.mono (by simp) (by simp)), ?_⟩
    unfold flyOn
    rw [if_neg hb9]
    exact g44
set_option maxRecDepth 100000 in
set_option maxHeartbeats 4000000 in
theorem l_fliesByWay (hR : RLay G h) (hF : RRef S h) {E : Ev} (hB : Bd G E mX12_fliesByWay) {Q : Option Value → St → Prop} (d : Nat) (hd : d < 40) (w : List Nat) (hw8 : w.length ≤ 8) (hw : wayR S h w) (kk : ∀ v, X G E mX12_fliesByWay 3 Q (rowI S (h + 1) (wrL (S.1 (h + 1)) (1417 + 26 * d + 18) w (w.length))) 31 [some (.ref h), some (.int (nI d)), some (.int v)] []) :
    ∀ (k i : Nat), i + k = w.length → X G E mX12_fliesByWay 3 Q (rowI S (h + 1) (wrL (S.1 (h + 1)) (1417 + 26 * d + 18) w (i))) 2 [some (.ref h), some (.int (nI d)), some (.int (nI i))] [] := by
  intro k
  induction k with
  | zero =>
    intro i h1
    refine X_iload_n (i := 2) hB dX12_fliesByWay_2 rfl rfl ?_
    refine X_aload_n (i := 0) hB dX12_fliesByWay_3 rfl rfl ?_
    refine X_geti hB cw10 fX12_231 rfl hR.1.1 hR.1.2 dX12_fliesByWay_4 ?_
    refine X_topi (y := nI w.length) (by rw [rowI_ne _ _ (by omega)]; exact hw.1) ?_
    refine X_icmp_ge (tgt := 31) hB dX12_fliesByWay_7 (by decide) (fun c7 => ?_) (fun c7 => absurd c7 (by simp (disch := omega) only [nlit, nI_leI, nI_ltI]; omega))
    have e9 : i = w.length := by omega
    subst e9
    exact kk _
  | succ k ih =>
    intro i h1
    refine X_iload_n (i := 2) hB dX12_fliesByWay_2 rfl rfl ?_
    refine X_aload_n (i := 0) hB dX12_fliesByWay_3 rfl rfl ?_
    refine X_geti hB cw10 fX12_231 rfl hR.1.1 hR.1.2 dX12_fliesByWay_4 ?_
    refine X_topi (y := nI w.length) (by rw [rowI_ne _ _ (by omega)]; exact hw.1) ?_
    refine X_icmp_ge (tgt := 31) hB dX12_fliesByWay_7 (by decide) (fun c7 => absurd c7 (by simp (disch := omega) only [nlit, nI_leI, nI_ltI]; omega)) (fun c7 => ?_)
    refine X_aload_n (i := 0) hB dX12_fliesByWay_10 rfl rfl ?_
    refine X_iload_n (i := 1) hB dX12_fliesByWay_11 rfl rfl ?_
    refine X_bipush (v := 18) hB dX12_fliesByWay_12 (by decide) ?_
    refine X_iload_n (i := 2) hB dX12_fliesByWay_14 rfl rfl ?_
    refine X_iadd hB dX12_fliesByWay_15 ?_
    refine X_aload_n (i := 0) hB dX12_fliesByWay_16 rfl rfl ?_
    refine X_getr hB cw10 fX12_33 rfl hR.1.1 hR.1.2 hF.2.2.2.2.2.2.2.1 dX12_fliesByWay_17 ?_
    refine X_iload_n (i := 2) hB dX12_fliesByWay_20 rfl rfl ?_
    refine X_ialdN hB (i) hR.2.2.2.2.2.2.2.2.1.1 hR.2.2.2.2.2.2.2.2.1.2 (by decide) (by first | rfl | (simp (disch := omega) only [nlit, nI_add, nI_mul, nI_sub]; done) | (simp (disch := omega) only [nlit, nI_add, nI_mul, nI_sub]; (congr 1 <;> omega))) (by first | omega | (simp only []; omega)) (show _ = nI (w.getD i 0) by rw [rowI_ne _ _ (by omega)]; exact hw.2 i (by omega)) dX12_fliesByWay_21 ?_
    refine X_callV hB kX12_243 cw10 hR.1.1 hR.1.2 (c_layDE (w := 18 + i) hR (by exact hF.of rfl) rfl (by first | rfl | (simp (disch := omega) only [nlit, nI_add, nI_mul, nI_sub]; done) | (simp (disch := omega) only [nlit, nI_add, nI_mul, nI_sub]; (congr 1 <;> omega))) (by omega) (by omega)) (by decide) (by decide) rfl rfl (Nat.le_of_ble_eq_true rfl) dX12_fliesByWay_22 (fun r22 S22 q22 => ?_)
    obtain ⟨rfl, rfl⟩ := q22
    refine X_iinc hB dX12_fliesByWay_25 rfl rfl (by decide) rfl ?_
    refine X_goto (tgt := 2) hB dX12_fliesByWay_28 (by decide) ?_
    refine X_S (S' := (rowI S (h + 1) (wrL (S.1 (h + 1)) (1417 + 26 * d + 18) w (i + 1)))) ?_ (X_lv ?_ (ih (i + 1) (by omega)))
    · rw [setI_rowI, rowI_rowI, rowI_at, show 1417 + 26 * d + (18 + i) = 1417 + 26 * d + 18 + i by omega, wrL_step]
    · rw [nI_succ]; rfl
set_option maxRecDepth 100000 in
set_option maxHeartbeats 4000000 in
theorem c_fliesByWay (hR : RLay G h) (hF : RRef S h) (σ : Net) (hN : netR (S.1 (h + 1)) σ) (hs : szN σ) (d : Nat) (hd : d < (nDa σ).length) (htr : 1 ≤ (aTr (dat σ d)).length) (w : List Nat) (hw8 : w.length ≤ 8) (hw : wayR S h w) : C G mX12_fliesByWay 3 [.ref h, .int (nI d)] S (fun r S' => r = none ∧ fr h [h + 1, h + 11] [] S S' ∧ netR (S'.1 (h + 1)) (flyBy σ d w)) := by
  have hd40 := hs.2.1
  have hx := hN.2.2.2 d hd
  have hl := dat_len hs hd
  refine C.mk (lv := [some (.ref h), some (.int (nI d)), none]) (by decide) (Nat.le_of_ble_eq_true rfl) rfl (fun E hB => ?_)
  refine X_iconst (v := 0) hB dX12_fliesByWay_0 (by decide) ?_
  refine X_istore_n (i := 2) hB dX12_fliesByWay_1 rfl (by decide) rfl ?_
  refine X_S (S' := (rowI S (h + 1) (wrL (S.1 (h + 1)) (1417 + 26 * d + 18) w (0)))) (by rw [wrL_0, rowI_self]) (X_lv ?_ (l_fliesByWay hR hF hB d (by omega) w hw8 hw (fun v9 => ?_) w.length 0 (by omega)))
  · rw [nI_0]; rfl
  refine X_aload_n (i := 0) hB dX12_fliesByWay_31 rfl rfl ?_
  refine X_iload_n (i := 1) hB dX12_fliesByWay_32 rfl rfl ?_
  refine X_iconst (v := 5) hB dX12_fliesByWay_33 (by decide) ?_
  refine X_aload_n (i := 0) hB dX12_fliesByWay_34 rfl rfl ?_
  refine X_geti hB cw10 fX12_231 rfl hR.1.1 hR.1.2 dX12_fliesByWay_35 ?_
  refine X_topi (y := nI w.length) (by rw [rowI_ne _ _ (by omega)]; exact hw.1) ?_
  refine X_callV hB kX12_243 cw10 hR.1.1 hR.1.2 (c_layDE (w := 5) hR (by exact hF.of rfl) rfl (by first | rfl | (simp (disch := omega) only [nlit, nI_add, nI_mul, nI_sub]; done) | (simp (disch := omega) only [nlit, nI_add, nI_mul, nI_sub]; (congr 1 <;> omega))) (by omega) (by omega)) (by decide) (by decide) rfl rfl (Nat.le_of_ble_eq_true rfl) dX12_fliesByWay_38 (fun r38 S38 q38 => ?_)
  obtain ⟨rfl, rfl⟩ := q38
  rw [setI_rowI, rowI_rowI, rowI_at]
  have hn1 : netR ((rowI S (h + 1) (upd (wrL (S.1 (h + 1)) (1417 + 26 * d + 18) w w.length) (1417 + 26 * d + 5) (nI w.length))).1 (h + 1)) (uDa σ d (dRe (dat σ d) w)) := by
    rw [rowI_at]
    refine netR_da hN hs hd ?_ (fun i hi => by rw [upd_ne _ _ (by omega), wrL_out (by omega)])
    obtain ⟨g1, g2, g3, g4, g5, g6, g7, g8, g9, g10, g11, g12⟩ := hx
    have hl1 := hl.1
    exact ⟨by rw [upd_ne _ _ (by omega), wrL_out (by omega)]; exact g1, by rw [upd_ne _ _ (by omega), wrL_out (by omega)]; exact g2, by rw [upd_ne _ _ (by omega), wrL_out (by omega)]; exact g3, by rw [upd_ne _ _ (by omega), wrL_out (by omega)]; exact g4, by rw [upd_ne _ _ (by omega), wrL_out (by omega)]; exact g5, by rw [upd_at]; rfl, by rw [upd_ne _ _ (by omega), wrL_out (by omega)]; exact g7, by rw [upd_ne _ _ (by omega), wrL_out (by omega)]; exact g8, by rw [upd_ne _ _ (by omega), wrL_out (by omega)]; exact g9, fun q => by rw [upd_ne _ _ (by omega), wrL_out (by omega)]; exact g10 q, fun i q => by (have q2 : i < (aTr (dat σ d)).length := q); rw [upd_ne _ _ (by omega), wrL_out (by omega)]; exact g11 i q, fun i q => by (have q2 : i < w.length := q); rw [upd_ne _ _ (by omega), wrL_in (by omega)]; congr 2; omega⟩
  refine X_aload_n (i := 0) hB dX12_fliesByWay_41 rfl rfl ?_
  refine X_iload_n (i := 1) hB dX12_fliesByWay_42 rfl rfl ?_
  refine X_callV hB kX12_259 cw10 hR.1.1 hR.1.2 (c_fliesOn hR (by exact hF.of rfl) (uDa σ d (dRe (dat σ d) w)) hn1 (szN_da hs hl.1 hw8) d (by rw [len_set]; exact hd) (by rw [dat_set hd]; exact htr)) (by decide) (by decide) rfl rfl (Nat.le_of_ble_eq_true rfl) dX12_fliesByWay_43 (fun r43 S43 q43 => ?_)
  obtain ⟨rfl, f43, g43⟩ := q43
  refine X_vret hB rfl dX12_fliesByWay_46 ?_
  exact ⟨rfl, (fr.row (by simp) (by omega)).tr f43, g43⟩
end REF
