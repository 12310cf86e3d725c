theorem ent_lt {mp : Bool} {k j l : Nat} (hk : k < l) (hj : j < wdt mp) (hw : wdt mp * l ≤ 54) : wdt mp * k + j < 54 := by
  have h1 : wdt mp * (k + 1) ≤ wdt mp * l := Nat.mul_le_mul_left _ hk
  rw [Nat.mul_add] at h1
  omega
theorem ndR_ask {A : Nat → Int32} {n to now : Nat} {x : Nd} {room : Nat} (hx : ndR A n x) (hok : okC (dMap x) room (dCa x)) (ht : (dTb x).length ≤ 6) (hb : (dBu x).length ≤ 4) (hto : to < 8) : ndR (upd (upd A (89 + 86 * n + 4) (nI (dRq x + 1))) (89 + 86 * n + (7 + to)) (nI now)) n (xAsk x to now) := by
  obtain ⟨h1, h2, h3, h4, h5, h6, h7, h8, h9, h10⟩ := hx
  have hne : ∀ i, i ≠ 89 + 86 * n + 4 → i ≠ 89 + 86 * n + (7 + to) → upd (upd A (89 + 86 * n + 4) (nI (dRq x + 1))) (89 + 86 * n + (7 + to)) (nI now) i = A i := fun i q1 q2 => by rw [upd_ne _ _ q2, upd_ne _ _ q1]
  refine ⟨by rw [hne _ (by omega) (by omega)]; exact h1, by rw [hne _ (by omega) (by omega)]; exact h2, ⟨by rw [hne _ (by omega) (by omega)]; exact h3.1, fun k hk => entR_eq (h3.2 k hk) (hok.len _ (getD_mem hk)) (fun j hj => hne _ (by omega) (by omega))⟩, by rw [hne _ (by omega) (by omega)]; exact h4, ?_, by rw [hne _ (by omega) (by omega)]; exact h6, by rw [hne _ (by omega) (by omega)]; exact h7, fun t q => ?_, fun k q => by rw [hne _ (by omega) (by omega), hne _ (by omega) (by omega)]; exact h9 k q, fun k q => by rw [hne _ (by omega) (by omega)]; exact h10 k q⟩
  · rw [upd_ne _ _ (by omega), upd_at]; rfl
  · by_cases e : t = to
    · subst e; rw [upd_at]; simp [dAk, xAsk, akN]
    · rw [hne _ (by omega) (by omega), h8 t q]; simp [dAk, xAsk, e]
theorem ndR_bu {A : Nat → Int32} {n d : Nat} {x : Nd} {room : Nat} (hx : ndR A n x) (hok : okC (dMap x) room (dCa x)) (ht : (dTb x).length ≤ 6) (hb : (dBu x).length < 4) : ndR (upd (upd A (89 + 86 * n + (81 + (dBu x).length)) (nI d)) (89 + 86 * n + 3) (nI ((dBu x).length + 1))) n (xBu x (dBu x ++ [d])) := by
  obtain ⟨h1, h2, h3, h4, h5, h6, h7, h8, h9, h10⟩ := hx
  have hne : ∀ i, i ≠ 89 + 86 * n + 3 → i ≠ 89 + 86 * n + (81 + (dBu x).length) → upd (upd A (89 + 86 * n + (81 + (dBu x).length)) (nI d)) (89 + 86 * n + 3) (nI ((dBu x).length + 1)) i = A i := fun i q1 q2 => by rw [upd_ne _ _ q1, upd_ne _ _ q2]
  have hw := hok.w
  refine ⟨by rw [hne _ (by omega) (by omega)]; exact h1, by rw [hne _ (by omega) (by omega)]; exact h2, ⟨by rw [hne _ (by omega) (by omega)]; exact h3.1, fun k hk => entR_eq (h3.2 k hk) (hok.len _ (getD_mem hk)) (fun j hj => hne _ (by omega) ?_)⟩, ?_, by rw [hne _ (by omega) (by omega)]; exact h5, by rw [hne _ (by omega) (by omega)]; exact h6, by rw [hne _ (by omega) (by omega)]; exact h7, fun t q => by rw [hne _ (by omega) (by omega)]; exact h8 t q, fun k q => ?_, fun k q => ?_⟩
  · have h9 := ent_lt hk hj hw
    have h8 : wdt (dMap (xBu x (dBu x ++ [d]))) = wdt (dMap x) := rfl
    omega
  · rw [upd_at]; simp [dBu, xBu]
  · have q2 : k < (dTb x).length := q
    rw [hne _ (by omega) (by omega), hne _ (by omega) (by omega)]; exact h9 k q
  · have q2 : k < (dBu x).length + 1 := by simpa [dBu, xBu] using q
    by_cases e : k = (dBu x).length
    · subst e; rw [upd_ne _ _ (by omega), upd_at]; simp [dBu, xBu]
    · have q3 : k < (dBu x).length := by omega
      rw [hne _ (by omega) (by omega), h10 k q3]; congr 1; simp [dBu, xBu, List.getElem?_append_left q3]
section REF
variable {G : Gc} {S : St} {h : Nat}
set_option maxRecDepth 100000 in
set_option maxHeartbeats 4000000 in
theorem c_asks (hR : RLay G h) (hF : RRef S h) (σ : Net) (hN : netR (S.1 (h + 1)) σ) (hs : szN σ) (n to : Nat) (hn : n < 8) (hto : to < 8) : C G mX12_asks 2 [.ref h, .int (nI n), .int (nI to)] S (fun r S' => r = none ∧ fr h [h + 1, h + 11] [] S S' ∧ netR (S'.1 (h + 1)) (ask σ n to)) := by
  have hx := hN.2.1 n hn
  have hsn := hs.2.2.1 n hn
  have hs1 : szN (uNd σ n (xAsk (nNd σ n) to (nNow σ))) := szN_nd hs hsn.1 hsn.2.1 hsn.2.2
  have hn1 : netR (upd (upd (S.1 (h + 1)) (89 + 86 * n + 4) (nI (dRq (nNd σ n) + 1))) (89 + 86 * n + (7 + to)) (nI (nNow σ))) (uNd σ n (xAsk (nNd σ n) to (nNow σ))) := netR_nd hN hs hn (ndR_ask hx hsn.1 hsn.2.1 hsn.2.2 hto) (fun i hi => by rw [upd_ne _ _ (by omega), upd_ne _ _ (by omega)])
  refine C.mk (lv := [some (.ref h), some (.int (nI n)), some (.int (nI to)), none]) (by decide) (Nat.le_of_ble_eq_true rfl) rfl (fun E hB => ?_)
  refine X_aload_n (i := 0) hB dX12_asks_0 rfl rfl ?_
  refine X_iload_n (i := 1) hB dX12_asks_1 rfl rfl ?_
  refine X_iconst (v := 4) hB dX12_asks_2 (by decide) ?_
  refine X_aload_n (i := 0) hB dX12_asks_3 rfl rfl ?_
  refine X_iload_n (i := 1) hB dX12_asks_4 rfl rfl ?_
  refine X_iconst (v := 4) hB dX12_asks_5 (by decide) ?_
  refine X_callV hB kX12_180 cw10 hR.1.1 hR.1.2 (c_ofE (w := 4) hR (by exact hF.of rfl) rfl (by first | rfl | (simp (disch := omega) only [nlit, nI_add, nI_mul, nI_sub]; done) | (simp (disch := omega) only [nlit, nI_add, nI_mul, nI_sub]; (congr 1 <;> omega))) (by omega) (by omega)) (by decide) (by decide) rfl rfl (Nat.le_of_ble_eq_true rfl) dX12_asks_6 (fun r6 S6 q6 => ?_)
  obtain ⟨rfl, rfl⟩ := q6
  refine X_topi (y := nI (dRq (nNd σ n))) (hx.2.2.2.2.1) ?_
  refine X_iconst (v := 1) hB dX12_asks_9 (by decide) ?_
  refine X_iadd hB dX12_asks_10 ?_
  refine X_topi (y := nI (dRq (nNd σ n) + 1)) (by first | rfl | (simp (disch := omega) only [nlit, nI_add, nI_mul, nI_sub]; done) | (simp (disch := omega) only [nlit, nI_add, nI_mul, nI_sub]; (congr 1 <;> omega))) ?_
  refine X_callV hB kX12_170 cw10 hR.1.1 hR.1.2 (c_layE (w := 4) hR (by exact hF.of rfl) rfl (by first | rfl | (simp (disch := omega) only [nlit, nI_add, nI_mul, nI_sub]; done) | (simp (disch := omega) only [nlit, nI_add, nI_mul, nI_sub]; (congr 1 <;> omega))) (by omega) (by omega)) (by decide) (by decide) rfl rfl (Nat.le_of_ble_eq_true rfl) dX12_asks_11 (fun r11 S11 q11 => ?_)
  obtain ⟨rfl, rfl⟩ := q11
  rw [setI_rowI]
  refine X_aload_n (i := 0) hB dX12_asks_14 rfl rfl ?_
  refine X_iload_n (i := 1) hB dX12_asks_15 rfl rfl ?_
  refine X_bipush (v := 7) hB dX12_asks_16 (by decide) ?_
  refine X_iload_n (i := 2) hB dX12_asks_18 rfl rfl ?_
  refine X_iadd hB dX12_asks_19 ?_
  refine X_aload_n (i := 0) hB dX12_asks_20 rfl rfl ?_
  refine X_getr hB cw10 fX12_7 rfl hR.1.1 hR.1.2 hF.1 dX12_asks_21 ?_
  refine X_bipush (v := 8) hB dX12_asks_24 (by decide) ?_
  refine X_ialdN hB (8) hR.2.1.1 hR.2.1.2 (by decide) (by first | rfl | (simp (disch := omega) only [nlit, nI_add, nI_mul, nI_sub]; done) | (simp (disch := omega) only [nlit, nI_add, nI_mul, nI_sub]; (congr 1 <;> omega))) (by first | omega | (simp only []; omega)) (show _ = nI (nNow σ) by rw [rowI_at, upd_ne _ _ (by omega)]; exact hN.1.2.1) dX12_asks_26 ?_
  refine X_callV hB kX12_170 cw10 hR.1.1 hR.1.2 (c_layE (w := 7 + to) hR (by exact hF.of rfl) rfl (by first | rfl | (simp (disch := omega) only [nlit, nI_add, nI_mul, nI_sub]; done) | (simp (disch := omega) only [nlit, nI_add, nI_mul, nI_sub]; (congr 1 <;> omega))) (by omega) (by omega)) (by decide) (by decide) rfl rfl (Nat.le_of_ble_eq_true rfl) dX12_asks_27 (fun r27 S27 q27 => ?_)
  obtain ⟨rfl, rfl⟩ := q27
  rw [setI_rowI, rowI_rowI, rowI_at]
  refine X_aload_n (i := 0) hB dX12_asks_30 rfl rfl ?_
  refine X_iconst (v := 1) hB dX12_asks_31 (by decide) ?_
  refine X_iload_n (i := 1) hB dX12_asks_32 rfl rfl ?_
  refine X_iload_n (i := 2) hB dX12_asks_33 rfl rfl ?_
  refine X_aload_n (i := 0) hB dX12_asks_34 rfl rfl ?_
  refine X_iload_n (i := 1) hB dX12_asks_35 rfl rfl ?_
  refine X_iconst (v := 4) hB dX12_asks_36 (by decide) ?_
  refine X_callV hB kX12_180 cw10 hR.1.1 hR.1.2 (c_ofE (w := 4) hR (by exact hF.of rfl) rfl (by first | rfl | (simp (disch := omega) only [nlit, nI_add, nI_mul, nI_sub]; done) | (simp (disch := omega) only [nlit, nI_add, nI_mul, nI_sub]; (congr 1 <;> omega))) (by omega) (by omega)) (by decide) (by decide) rfl rfl (Nat.le_of_ble_eq_true rfl) dX12_asks_37 (fun r37 S37 q37 => ?_)
  obtain ⟨rfl, rfl⟩ := q37
  refine X_topi (y := nI (dRq (nNd σ n) + 1)) (by rw [rowI_at, upd_ne _ _ (by omega), upd_at]) ?_
  refine X_aload_n (i := 0) hB dX12_asks_40 rfl rfl ?_
  refine X_iload_n (i := 1) hB dX12_asks_41 rfl rfl ?_
  refine X_iconst (v := 5) hB dX12_asks_42 (by decide) ?_
  refine X_callV hB kX12_180 cw10 hR.1.1 hR.1.2 (c_ofE (w := 5) hR (by exact hF.of rfl) rfl (by first | rfl | (simp (disch := omega) only [nlit, nI_add, nI_mul, nI_sub]; done) | (simp (disch := omega) only [nlit, nI_add, nI_mul, nI_sub]; (congr 1 <;> omega))) (by omega) (by omega)) (by decide) (by decide) rfl rfl (Nat.le_of_ble_eq_true rfl) dX12_asks_43 (fun r43 S43 q43 => ?_)
  obtain ⟨rfl, rfl⟩ := q43
  refine X_topi (y := lkN (dNw (nNd σ n))) (by rw [rowI_at, upd_ne _ _ (by omega), upd_ne _ _ (by omega)]; exact hx.2.2.2.2.2.1) ?_
  refine X_iconst (v := (-1)) hB dX12_asks_46 (by decide) ?_
  refine X_callV hB kX12_249 cw10 hR.1.1 hR.1.2 (c_beginsFrame hR (by exact hF.of rfl) (1, n, to, dRq (nNd σ n) + 1, dNw (nNd σ n), []) rfl) (by decide) (by decide) rfl rfl (Nat.le_of_ble_eq_true rfl) dX12_asks_47 (fun r47 S47 q47 => ?_)
  obtain ⟨rfl, f47, g47⟩ := q47
  refine X_aload_n (i := 0) hB dX12_asks_50 rfl rfl ?_
  refine X_iload_n (i := 1) hB dX12_asks_51 rfl rfl ?_
  refine X_callV hB kX12_262 cw10 hR.1.1 hR.1.2 (c_addsFrame hR (by exact f47.ref (hF.of rfl)) (1, n, to, dRq (nNd σ n) + 1, dNw (nNd σ n), []) n (Nat.zero_le _) g47) (by decide) (by decide) rfl rfl (Nat.le_of_ble_eq_true rfl) dX12_asks_52 (fun r52 S52 q52 => ?_)
  obtain ⟨rfl, f52, g52⟩ := q52
  have hA52 : S52.1 (h + 1) = upd (upd (S.1 (h + 1)) (89 + 86 * n + 4) (nI (dRq (nNd σ n) + 1))) (89 + 86 * n + (7 + to)) (nI (nNow σ)) := by rw [f52.2.1 _ (by simp) (by omega), f47.2.1 _ (by simp) (by omega), rowI_at]
  have hn2 : netR (S52.1 (h + 1)) (uNd σ n (xAsk (nNd σ n) to (nNow σ))) := by rw [hA52]; exact hn1
  refine X_aload_n (i := 0) hB dX12_asks_55 rfl rfl ?_
  refine X_callV hB kX12_253 cw10 hR.1.1 hR.1.2 (c_sends hR (f52.ref (f47.ref (hF.of rfl))) (uNd σ n (xAsk (nNd σ n) to (nNow σ))) (1, n, to, dRq (nNd σ n) + 1, dNw (nNd σ n), [n]) hn2 hs1 (by show 1 ≤ 3; omega) g52 (by show 1 ≤ 8; omega)) (by decide) (by decide) rfl rfl (Nat.le_of_ble_eq_true rfl) dX12_asks_56 (fun r56 S56 q56 => ?_)
  obtain ⟨rfl, f56, g56⟩ := q56
  refine X_istore_n (i := 3) hB dX12_asks_59 rfl (by decide) rfl ?_
  refine X_vret hB rfl dX12_asks_60 ?_
  exact ⟨rfl, (fr.row (by simp) (by omega)).tr ((f47.mono (by simp) (by simp)).tr ((f52.mono (by simp) (by simp)).tr (f56.mono (by simp) (by simp)))), g56⟩
set_option maxRecDepth 100000 in
set_option maxHeartbeats 4000000 in
theorem c_serves (hR : RLay G h) (hF : RRef S h) (σ : Net) (hN : netR (S.1 (h + 1)) σ) (hs : szN σ) (d : Nat) (hd : d < (nDa σ).length) (htr : 1 ≤ (aTr (dat σ d)).length) (hor : aOr (dat σ d) < 8) (hen : aEn (dat σ d) < 8) (hho : nSe σ 1 ≤ 7) (hbu : (dBu (nNd σ (aOr (dat σ d)))).length ≤ nSe σ 4 ∧ nSe σ 4 ≤ 4) (hasks : ∀ n t, n < 8 → t < 8 → ∀ s, dAk (nNd σ n) t = some s → s < 2 ^ 31) : C G mX12_serves 5 [.ref h, .int (nI d)] S (fun r S' => r = none ∧ fr h [h + 1, h + 8, h + 9, h + 10, h + 11] [22] S S' ∧ netR (S'.1 (h + 1)) (serve σ d)) := by
  have hd40 := hs.2.1
  have hx := hN.2.2.2 d hd
  have hl := dat_len hs hd
  have hnd := hN.2.1 (aOr (dat σ d)) hor
  have hsn := hs.2.2.1 (aOr (dat σ d)) hor
  refine C.mk (lv := [some (.ref h), some (.int (nI d)), none, none, none]) (by decide) (Nat.le_of_ble_eq_true rfl) rfl (fun E hB => ?_)
  refine X_aload_n (i := 0) hB dX12_serves_0 rfl rfl ?_
  refine X_iload_n (i := 1) hB dX12_serves_1 rfl rfl ?_
  refine X_iconst (v := 0) hB dX12_serves_2 (by decide) ?_
  refine X_callV hB kX12_246 cw10 hR.1.1 hR.1.2 (c_ofDE (w := 0) hR (by exact hF.of rfl) rfl (by first | rfl | (simp (disch := omega) only [nlit, nI_add, nI_mul, nI_sub]; done) | (simp (disch := omega) only [nlit, nI_add, nI_mul, nI_sub]; (congr 1 <;> omega))) (by omega) (by omega)) (by decide) (by decide) rfl rfl (Nat.le_of_ble_eq_true rfl) dX12_serves_3 (fun r3 S3 q3 => ?_)
  obtain ⟨rfl, rfl⟩ := q3
  refine X_topi (y := nI (aOr (dat σ d))) (hx.1) ?_
  refine X_istore_n (i := 2) hB dX12_serves_6 rfl (by decide) rfl ?_
  refine X_aload_n (i := 0) hB dX12_serves_7 rfl rfl ?_
  refine X_iload_n (i := 1) hB dX12_serves_8 rfl rfl ?_
  refine X_iconst (v := 1) hB dX12_serves_9 (by decide) ?_
  refine X_callV hB kX12_246 cw10 hR.1.1 hR.1.2 (c_ofDE (w := 1) hR (by exact hF.of rfl) rfl (by first | rfl | (simp (disch := omega) only [nlit, nI_add, nI_mul, nI_sub]; done) | (simp (disch := omega) only [nlit, nI_add, nI_mul, nI_sub]; (congr 1 <;> omega))) (by omega) (by omega)) (by decide) (by decide) rfl rfl (Nat.le_of_ble_eq_true rfl) dX12_serves_10 (fun r10 S10 q10 => ?_)
  obtain ⟨rfl, rfl⟩ := q10
  refine X_topi (y := nI (aEn (dat σ d))) (hx.2.1) ?_
  refine X_istore_n (i := 3) hB dX12_serves_13 rfl (by decide) rfl ?_
  refine X_aload_n (i := 0) hB dX12_serves_14 rfl rfl ?_
  refine X_iload_n (i := 2) hB dX12_serves_15 rfl rfl ?_
  refine X_iload_n (i := 3) hB dX12_serves_16 rfl rfl ?_
  refine X_callV hB kX12_265 cw10 hR.1.1 hR.1.2 (c_finds hR (by exact hF.of rfl) (aOr (dat σ d)) (aEn (dat σ d)) hor hen (dMap (nNd σ (aOr (dat σ d)))) (nSe σ 2) (nSe σ 1) hho (dCa (nNd σ (aOr (dat σ d)))) hsn.1 hnd.2.2.1 hnd.1 (hN.1.1 1 (by decide))) (by decide) (by decide) rfl rfl (Nat.le_of_ble_eq_true rfl) dX12_serves_17 (fun r17 S17 q17 => ?_)
  obtain ⟨rfl, f17, w17⟩ := q17
  have hF17 := f17.ref hF
  have hA : S17.1 (h + 1) = S.1 (h + 1) := f17.2.1 _ (by simp) (by omega)
  have hN17 : netR (S17.1 (h + 1)) σ := by rw [hA]; exact hN
  have hw8 := wayOf_len (n := (aOr (dat σ d))) (to := (aEn (dat σ d))) hsn.1 hho
  have hf17 : fr h [h + 1, h + 8, h + 9, h + 10, h + 11] [22] S S17 := f17.mono (by simp) (by simp)
  refine X_if_eq (tgt := 29) hB dX12_serves_20 (by decide) (fun c20 => ?_) (fun c20 => ?_)
  · have hemp : ¬ wayN σ (aOr (dat σ d)) (aEn (dat σ d)) ≠ [] := fun q => absurd c20 (by rw [if_neg (show ¬ wayOf _ _ _ _ _ = [] from q)]; decide)
    refine X_aload_n (i := 0) hB dX12_serves_29 rfl rfl ?_
    refine X_iload_n (i := 2) hB dX12_serves_30 rfl rfl ?_
    refine X_iconst (v := 3) hB dX12_serves_31 (by decide) ?_
    refine X_callV hB kX12_180 cw10 hR.1.1 hR.1.2 (c_ofE (w := 3) hR hF17 rfl rfl (by omega) (by omega)) (by decide) (by decide) rfl rfl (Nat.le_of_ble_eq_true rfl) dX12_serves_32 (fun r32 S32 q32 => ?_)
    obtain ⟨rfl, rfl⟩ := q32
    refine X_topi (y := nI (dBu (nNd σ (aOr (dat σ d)))).length) (by rw [hA]; exact hnd.2.2.2.1) ?_
    refine X_istore hB dX12_serves_35 (by decide) rfl ?_
    refine X_iload hB dX12_serves_37 rfl ?_
    refine X_aload_n (i := 0) hB dX12_serves_39 rfl rfl ?_
    refine X_getr hB cw10 fX12_7 rfl hR.1.1 hR.1.2 hF17.1 dX12_serves_40 ?_
    refine X_iconst (v := 4) hB dX12_serves_43 (by decide) ?_
    refine X_ialdN hB (4) hR.2.1.1 hR.2.1.2 (by decide) (by first | rfl | (simp (disch := omega) only [nlit, nI_add, nI_mul, nI_sub]; done) | (simp (disch := omega) only [nlit, nI_add, nI_mul, nI_sub]; (congr 1 <;> omega))) (by first | omega | (simp only []; omega)) (show _ = nI (nSe σ 4) by rw [hA]; exact hN.1.1 4 (by decide)) dX12_serves_44 ?_
    refine X_icmp_ne (tgt := 55) hB dX12_serves_45 (by decide) (fun c45 => ?_) (fun c45 => ?_)
    · have hneq : ¬ (dBu (nNd σ (aOr (dat σ d)))).length = nSe σ 4 := fun q => c45 (by rw [q])
      have hlt : (dBu (nNd σ (aOr (dat σ d)))).length < 4 := by omega
      refine X_aload_n (i := 0) hB dX12_serves_55 rfl rfl ?_
      refine X_iload_n (i := 1) hB dX12_serves_56 rfl rfl ?_
      refine X_iconst (v := 2) hB dX12_serves_57 (by decide) ?_
      refine X_iconst (v := 0) hB dX12_serves_58 (by decide) ?_
      refine X_callV hB kX12_243 cw10 hR.1.1 hR.1.2 (c_layDE (n := d) (w := 2) hR (by exact hF17.of rfl) rfl rfl (by omega) (by omega)) (by decide) (by decide) rfl rfl (Nat.le_of_ble_eq_true rfl) dX12_serves_59 (fun r59 S59 q59 => ?_)
      obtain ⟨rfl, rfl⟩ := q59
      rw [setI_rowI]
      refine X_aload_n (i := 0) hB dX12_serves_62 rfl rfl ?_
      refine X_iload_n (i := 1) hB dX12_serves_63 rfl rfl ?_
      refine X_iconst (v := 5) hB dX12_serves_64 (by decide) ?_
      refine X_iconst (v := 0) hB dX12_serves_65 (by decide) ?_
      refine X_callV hB kX12_243 cw10 hR.1.1 hR.1.2 (c_layDE (n := d) (w := 5) hR (by exact hF17.of rfl) rfl rfl (by omega) (by omega)) (by decide) (by decide) rfl rfl (Nat.le_of_ble_eq_true rfl) dX12_serves_66 (fun r66 S66 q66 => ?_)
      obtain ⟨rfl, rfl⟩ := q66
      rw [setI_rowI, rowI_rowI, rowI_at]
      refine X_aload_n (i := 0) hB dX12_serves_69 rfl rfl ?_
      refine X_iload_n (i := 1) hB dX12_serves_70 rfl rfl ?_
      refine X_bipush (v := 9) hB dX12_serves_71 (by decide) ?_
      refine X_aload_n (i := 0) hB dX12_serves_73 rfl rfl ?_
      refine X_getr hB cw10 fX12_7 rfl hR.1.1 hR.1.2 hF17.1 dX12_serves_74 ?_
      refine X_bipush (v := 8) hB dX12_serves_77 (by decide) ?_
      refine X_ialdN hB (8) hR.2.1.1 hR.2.1.2 (by decide) (by first | rfl | (simp (disch := omega) only [nlit, nI_add, nI_mul, nI_sub]; done) | (simp (disch := omega) only [nlit, nI_add, nI_mul, nI_sub]; (congr 1 <;> omega))) (by first | omega | (simp only []; omega)) (show _ = nI (nNow σ) by rw [rowI_at, upd_ne _ _ (by omega), upd_ne _ _ (by omega), hA]; exact hN.1.2.1) dX12_serves_79 ?_
      refine X_callV hB kX12_243 cw10 hR.1.1 hR.1.2 (c_layDE (n := d) (w := 9) hR (by exact hF17.of rfl) rfl rfl (by omega) (by omega)) (by decide) (by decide) rfl rfl (Nat.le_of_ble_eq_true rfl) dX12_serves_80 (fun r80 S80 q80 => ?_)
      obtain ⟨rfl, rfl⟩ := q80
      rw [setI_rowI, rowI_rowI, rowI_at]
      refine X_aload_n (i := 0) hB dX12_serves_83 rfl rfl ?_
      refine X_iload_n (i := 2) hB dX12_serves_84 rfl rfl ?_
      refine X_bipush (v := 81) hB dX12_serves_85 (by decide) ?_
      refine X_iload hB dX12_serves_87 rfl ?_
      refine X_iadd hB dX12_serves_89 ?_
      refine X_iload_n (i := 1) hB dX12_serves_90 rfl rfl ?_
      refine X_callV hB kX12_170 cw10 hR.1.1 hR.1.2 (c_layE (n := (aOr (dat σ d))) (w := 81 + (dBu (nNd σ (aOr (dat σ d)))).length) hR (by exact hF17.of rfl) rfl (by first | rfl | (simp (disch := omega) only [nlit, nI_add, nI_mul, nI_sub]; done) | (simp (disch := omega) only [nlit, nI_add, nI_mul, nI_sub]; (congr 1 <;> omega))) (by omega) (by omega)) (by decide) (by decide) rfl rfl (Nat.le_of_ble_eq_true rfl) dX12_serves_91 (fun r91 S91 q91 => ?_)
      obtain ⟨rfl, rfl⟩ := q91
      rw [setI_rowI, rowI_rowI, rowI_at]
      refine X_aload_n (i := 0) hB dX12_serves_94 rfl rfl ?_
      refine X_iload_n (i := 2) hB dX12_serves_95 rfl rfl ?_
      refine X_iconst (v := 3) hB dX12_serves_96 (by decide) ?_
      refine X_iload hB dX12_serves_97 rfl ?_
      refine X_iconst (v := 1) hB dX12_serves_99 (by decide) ?_
      refine X_iadd hB dX12_serves_100 ?_
      refine X_topi (y := nI ((dBu (nNd σ (aOr (dat σ d)))).length + 1)) (by first | rfl | (simp (disch := omega) only [nlit, nI_add, nI_mul, nI_sub]; done) | (simp (disch := omega) only [nlit, nI_add, nI_mul, nI_sub]; (congr 1 <;> omega))) ?_
      refine X_callV hB kX12_170 cw10 hR.1.1 hR.1.2 (c_layE (n := (aOr (dat σ d))) (w := 3) hR (by exact hF17.of rfl) rfl rfl (by omega) (by omega)) (by decide) (by decide) rfl rfl (Nat.le_of_ble_eq_true rfl) dX12_serves_101 (fun r101 S101 q101 => ?_)
      obtain ⟨rfl, rfl⟩ := q101
      rw [setI_rowI, rowI_rowI, rowI_at, hA]
      have hn1 : netR (upd (upd (upd (S.1 (h + 1)) (1417 + 26 * d + 2) 0) (1417 + 26 * d + 5) 0) (1417 + 26 * d + 9) (nI (nNow σ))) (uDa σ d (dSi (dRe (dSt (dat σ d) 0) []) (nNow σ))) := by
        refine netR_da hN hs hd ?_ (fun i hi => by rw [upd_ne _ _ (by omega), upd_ne _ _ (by omega), upd_ne _ _ (by omega)])
        obtain ⟨g1, g2, g3, g4, g5, g6, g7, g8, g9, g10, g11, g12⟩ := hx
        have hl1 := hl.1
        have hne : ∀ i, i ≠ 1417 + 26 * d + 2 → i ≠ 1417 + 26 * d + 5 → i ≠ 1417 + 26 * d + 9 → upd (upd (upd (S.1 (h + 1)) (1417 + 26 * d + 2) 0) (1417 + 26 * d + 5) 0) (1417 + 26 * d + 9) (nI (nNow σ)) i = S.1 (h + 1) i := fun i q1 q2 q3 => by rw [upd_ne _ _ q3, upd_ne _ _ q2, upd_ne _ _ q1]
        exact ⟨by rw [hne _ (by omega) (by omega) (by omega)]; exact g1, by rw [hne _ (by omega) (by omega) (by omega)]; exact g2, by rw [upd_ne _ _ (by omega), upd_ne _ _ (by omega), upd_at]; rfl, by rw [hne _ (by omega) (by omega) (by omega)]; exact g4, by rw [hne _ (by omega) (by omega) (by omega)]; exact g5, by rw [upd_ne _ _ (by omega), upd_at]; rfl, by rw [hne _ (by omega) (by omega) (by omega)]; exact g7, by rw [hne _ (by omega) (by omega) (by omega)]; exact g8, by rw [hne _ (by omega) (by omega) (by omega)]; exact g9, fun _ => by rw [upd_at]; rfl, fun i q => by rw [hne _ (by omega) (by omega) (by omega)]; exact g11 i q, fun i q => by simp [aRe, dRe, dSi] at q⟩
      have hs1 : szN (uDa σ d (dSi (dRe (dSt (dat σ d) 0) []) (nNow σ))) := szN_da hs hl.1 (by simp [aRe, dRe, dSi])
      have hnw0 : netR (upd (upd (upd (upd (upd (S.1 (h + 1)) (1417 + 26 * d + 2) 0) (1417 + 26 * d + 5) 0) (1417 + 26 * d + 9) (nI (nNow σ))) (89 + 86 * (aOr (dat σ d)) + (81 + (dBu (nNd σ (aOr (dat σ d)))).length)) (nI d)) (89 + 86 * (aOr (dat σ d)) + 3) (nI ((dBu (nNd σ (aOr (dat σ d)))).length + 1))) (wait σ d) := by
        refine netR_nd hn1 hs1 hor (ndR_bu (hn1.2.1 _ hor) hsn.1 hsn.2.1 hlt) (fun i hi => by rw [upd_ne _ _ (by omega), upd_ne _ _ (by omega)])
      generalize hgA : upd (upd (upd (upd (upd (S.1 (h + 1)) (1417 + 26 * d + 2) 0) (1417 + 26 * d + 5) 0) (1417 + 26 * d + 9) (nI (nNow σ))) (89 + 86 * (aOr (dat σ d)) + (81 + (dBu (nNd σ (aOr (dat σ d)))).length)) (nI d)) (89 + 86 * (aOr (dat σ d)) + 3) (nI ((dBu (nNd σ (aOr (dat σ d)))).length + 1)) = A9 at hnw0 ⊢
      have hsw : szN (wait σ d) := szN_nd hs1 hsn.1 hsn.2.1 (by show (dBu (nNd σ (aOr (dat σ d))) ++ [d]).length ≤ 4; rw [List.length_append]; show _ + 1 ≤ 4; omega)
      have hnw : netR ((rowI S17 (h + 1) A9).1 (h + 1)) (wait σ d) := by rw [rowI_at]; exact hnw0
      have hfw : fr h [h + 1, h + 8, h + 9, h + 10, h + 11] [22] S (rowI S17 (h + 1) A9) := hf17.tr (fr.row (by simp) (by omega))
      refine X_aload_n (i := 0) hB dX12_serves_104 rfl rfl ?_
      refine X_iload_n (i := 2) hB dX12_serves_105 rfl rfl ?_
      refine X_bipush (v := 7) hB dX12_serves_106 (by decide) ?_
      refine X_iload_n (i := 3) hB dX12_serves_108 rfl rfl ?_
      refine X_iadd hB dX12_serves_109 ?_
      refine X_callV hB kX12_180 cw10 hR.1.1 hR.1.2 (c_ofE (n := (aOr (dat σ d))) (w := 7 + (aEn (dat σ d))) hR (by exact hF17.of rfl) rfl (by first | rfl | (simp (disch := omega) only [nlit, nI_add, nI_mul, nI_sub]; done) | (simp (disch := omega) only [nlit, nI_add, nI_mul, nI_sub]; (congr 1 <;> omega))) (by omega) (by omega)) (by decide) (by decide) rfl rfl (Nat.le_of_ble_eq_true rfl) dX12_serves_110 (fun r110 S110 q110 => ?_)
      obtain ⟨rfl, rfl⟩ := q110
      refine X_topi (y := akN (dAk (nNd σ (aOr (dat σ d))) (aEn (dat σ d)))) (by rw [rowI_at, hnw0.2.1 (aOr (dat σ d)) hor |>.2.2.2.2.2.2.2.1 (aEn (dat σ d)) hen]; simp only [nNd, wait, uNd, if_true]; rfl) ?_
      refine X_iconst (v := (-1)) hB dX12_serves_113 (by decide) ?_
      refine X_icmp_ne (tgt := 123) hB dX12_serves_114 (by decide) (fun c114 => ?_) (fun c114 => ?_)
      · have hak : ¬ dAk (nNd σ (aOr (dat σ d))) (aEn (dat σ d)) = none := fun q => c114 (by rw [q]; rfl)
        refine X_vret hB rfl dX12_serves_123 ?_
        refine ⟨rfl, hfw, ?_⟩
        unfold serve
        rw [if_neg hemp, if_neg hneq, if_neg hak]
        exact hnw
      · have hak : dAk (nNd σ (aOr (dat σ d))) (aEn (dat σ d)) = none := by
          cases hq : dAk (nNd σ (aOr (dat σ d))) (aEn (dat σ d)) with
          | none => rfl
          | some s9 =>
            rw [hq] at c114
            exact absurd (by first | exact c114 | exact Decidable.not_not.mp c114) (nI_neg1 (hasks _ _ hor hen s9 hq))
        refine X_aload_n (i := 0) hB dX12_serves_117 rfl rfl ?_
        refine X_iload_n (i := 2) hB dX12_serves_118 rfl rfl ?_
        refine X_iload_n (i := 3) hB dX12_serves_119 rfl rfl ?_
        refine X_callV hB kX12_271 cw10 hR.1.1 hR.1.2 (c_asks hR (by exact hF17.of rfl) (wait σ d) hnw hsw _ _ hor hen) (by decide) (by decide) rfl rfl (Nat.le_of_ble_eq_true rfl) dX12_serves_120 (fun r120 S120 q120 => ?_)
        obtain ⟨rfl, f120, g120⟩ := q120
        refine X_vret hB rfl dX12_serves_123 ?_
        refine ⟨rfl, hfw.tr (f120.mono (by simp) (by simp)), ?_⟩
        unfold serve
        rw [if_neg hemp, if_neg hneq, if_pos hak]
        exact g120
    · refine X_aload_n (i := 0) hB dX12_serves_48 rfl rfl ?_
      refine X_iload_n (i := 1) hB dX12_serves_49 rfl rfl ?_
      refine X_iconst (v := 3) hB dX12_serves_50 (by decide) ?_
      refine X_callV hB kX12_256 cw10 hR.1.1 hR.1.2 (c_isDone hR hF17 σ hN17 hs d 3 hd (Or.inr rfl)) (by decide) (by decide) rfl rfl (Nat.le_of_ble_eq_true rfl) dX12_serves_51 (fun r51 S51 q51 => ?_)
      obtain ⟨rfl, f51, g51⟩ := q51
      refine X_vret hB rfl dX12_serves_54 ?_
      have heq : (dBu (nNd σ (aOr (dat σ d)))).length = nSe σ 4 := i32_inj (by omega) (by omega) (by first | exact c45 | exact Decidable.not_not.mp c45)
      refine ⟨rfl, hf17.tr (f51.mono (by simp) (by simp)), ?_⟩
      unfold serve
      rw [if_neg hemp, if_pos heq]
      exact g51
  · have hne : wayN σ (aOr (dat σ d)) (aEn (dat σ d)) ≠ [] := fun q => c20 (by rw [if_pos (show wayOf _ _ _ _ _ = [] from q)])
    refine X_aload_n (i := 0) hB dX12_serves_23 rfl rfl ?_
    refine X_iload_n (i := 1) hB dX12_serves_24 rfl rfl ?_
    refine X_callV hB kX12_268 cw10 hR.1.1 hR.1.2 (c_fliesByWay hR hF17 σ hN17 hs d hd htr (wayN σ (aOr (dat σ d)) (aEn (dat σ d))) hw8 w17) (by decide) (by decide) rfl rfl (Nat.le_of_ble_eq_true rfl) dX12_serves_25 (fun r25 S25 q25 => ?_)
    obtain ⟨rfl, f25, g25⟩ := q25
    refine X_vret hB rfl dX12_serves_28 ?_
    refine ⟨rfl, hf17.tr (f25.mono (by simp) (by simp)), ?_⟩
    unfold serve
    rw [if_pos hne]
    exact g25
end REF
