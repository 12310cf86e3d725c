def leaveN (σ : Net) (n k : Nat) : Net := uNd σ n (xBu (nNd σ n) ((dBu (nNd σ n)).eraseIdx k))
def drainL (n : Nat) : List Nat → Nat → Net → Net
  | [], _, σ => σ
  | d :: t, k, σ => if wayN σ n (aEn (dat σ d)) ≠ [] then drainL n t k (flyBy (leaveN σ n k) d (wayN σ n (aEn (dat σ d)))) else if nSe σ 5 ≤ nNow σ - aSi (dat σ d) then drainL n t k (doneD (leaveN σ n k) d 3) else drainL n t (k + 1) σ
def drainN (σ : Net) (n : Nat) : Net := drainL n (dBu (nNd σ n)) 0 σ
theorem ndR_buD {A : Nat → Int32} {n k : Nat} {x : Nd} {room : Nat} (hx : ndR A n x) (hok : okC (dMap x) room (dCa x)) (ht : (dTb x).length ≤ 6) (hb : (dBu x).length ≤ 4) (hk : k < (dBu x).length) : ndR (upd (shA A (89 + 86 * n + (81 + k)) (89 + 86 * n + (81 + ((dBu x).length - 1))) 1) (89 + 86 * n + 3) (nI ((dBu x).length - 1))) n (xBu x ((dBu x).eraseIdx k)) := by
  obtain ⟨h1, h2, h3, h4, h5, h6, h7, h8, h9, h10⟩ := hx
  have hne : ∀ i, i ≠ 89 + 86 * n + 3 → i < 89 + 86 * n + (81 + k) → upd (shA A (89 + 86 * n + (81 + k)) (89 + 86 * n + (81 + ((dBu x).length - 1))) 1) (89 + 86 * n + 3) (nI ((dBu x).length - 1)) i = A i := fun i q1 q2 => by rw [upd_ne _ _ q1, shA_out (by omega)]
  have hw := hok.w
  have hlen : ((dBu x).eraseIdx k).length = (dBu x).length - 1 := by rw [List.length_eraseIdx, if_pos hk]
  refine ⟨by rw [hne _ (by omega) (by omega)]; exact h1, by rw [hne _ (by omega) (by omega)]; exact h2, ⟨by rw [hne _ (by omega) (by omega)]; exact h3.1, fun j hj => entR_eq (h3.2 j hj) (hok.len _ (getD_mem hj)) (fun i hi => hne _ (by omega) ?_)⟩, ?_, by rw [hne _ (by omega) (by omega)]; exact h5, by rw [hne _ (by omega) (by omega)]; exact h6, by rw [hne _ (by omega) (by omega)]; exact h7, fun t q => by rw [hne _ (by omega) (by omega)]; exact h8 t q, fun j q => ?_, fun j q => ?_⟩
  · have h9' := ent_lt hj hi hw
    have h8' : wdt (dMap (xBu x ((dBu x).eraseIdx k))) = wdt (dMap x) := rfl
    omega
  · rw [upd_at]; show _ = nI ((dBu x).eraseIdx k).length; rw [hlen]
  · have q2 : j < (dTb x).length := q
    rw [hne _ (by omega) (by omega), hne _ (by omega) (by omega)]; exact h9 j q
  · have q2 : j < (dBu x).length - 1 := by rw [← hlen]; exact q
    show _ = nI (((dBu x).eraseIdx k).getD j 0)
    by_cases e : j < k
    · rw [hne _ (by omega) (by omega), h10 j (by omega)]
      congr 1
      simp only [List.getD_eq_getElem?_getD, List.getElem?_eraseIdx, if_pos e]
    · rw [upd_ne _ _ (by omega), shA_in (by omega), show 89 + 86 * n + (81 + j) + 1 = 89 + 86 * n + (81 + (j + 1)) by omega, h10 (j + 1) (by omega)]
      congr 1
      simp only [List.getD_eq_getElem?_getD, List.getElem?_eraseIdx, if_neg e]
section REF
variable {G : Gc} {S : St} {h : Nat}
set_option maxRecDepth 100000 in
set_option maxHeartbeats 4000000 in
theorem l_leaves (hR : RLay G h) (hF : RRef S h) {E : Ev} (hB : Bd G E mX12_leaves) {Q : Option Value → St → Prop} (n k m : Nat) (hn : n < 8) (hm : m ≤ 4) (hk : k < m) (hb : S.1 (h + 1) (89 + 86 * n + 3) = nI m) (kk : ∀ v, X G E mX12_leaves 1 Q (rowI S (h + 1) (shA (S.1 (h + 1)) (89 + 86 * n + (81 + k)) (89 + 86 * n + (81 + (m - 1))) 1)) 40 [some (.ref h), some (.int (nI n)), some (.int (nI k)), some (.int v)] []) :
    ∀ (j i : Nat), i + j = m → k + 1 ≤ i → X G E mX12_leaves 1 Q (rowI S (h + 1) (shA (S.1 (h + 1)) (89 + 86 * n + (81 + k)) (89 + 86 * n + (81 + (i - 1))) 1)) 4 [some (.ref h), some (.int (nI n)), some (.int (nI k)), some (.int (nI i))] [] := by
  intro j
  induction j with
  | zero =>
    intro i h1 h2
    refine X_iload_n (i := 3) hB dX12_leaves_4 rfl rfl ?_
    refine X_aload_n (i := 0) hB dX12_leaves_5 rfl rfl ?_
    refine X_iload_n (i := 1) hB dX12_leaves_6 rfl rfl ?_
    refine X_iconst (v := 3) hB dX12_leaves_7 (by decide) ?_
    refine X_callV hB kX12_180 cw10 hR.1.1 hR.1.2 (c_ofE (w := 3) hR (by exact hF.of rfl) rfl (by first | rfl | (simp (disch := omega) only [nlit, nI_add, nI_mul, nI_sub]; done) | (simp (disch := omega) only [nlit, nI_add, nI_mul, nI_sub]; (congr 1 <;> omega))) (by omega) (by omega)) (by decide) (by decide) rfl rfl (Nat.le_of_ble_eq_true rfl) dX12_leaves_8 (fun r8 S8 q8 => ?_)
    obtain ⟨rfl, rfl⟩ := q8
    refine X_topi (y := nI m) (by rw [rowI_at, shA_out (by omega)]; exact hb) ?_
    refine X_icmp_ge (tgt := 40) hB dX12_leaves_11 (by decide) (fun c11 => ?_) (fun c11 => absurd c11 (by simp (disch := omega) only [nlit, nI_leI, nI_ltI]; omega))
    have e9 : i = m := by omega
    subst e9
    exact kk _
  | succ j ih =>
    intro i h1 h2
    refine X_iload_n (i := 3) hB dX12_leaves_4 rfl rfl ?_
    refine X_aload_n (i := 0) hB dX12_leaves_5 rfl rfl ?_
    refine X_iload_n (i := 1) hB dX12_leaves_6 rfl rfl ?_
    refine X_iconst (v := 3) hB dX12_leaves_7 (by decide) ?_
    refine X_callV hB kX12_180 cw10 hR.1.1 hR.1.2 (c_ofE (w := 3) hR (by exact hF.of rfl) rfl (by first | rfl | (simp (disch := omega) only [nlit, nI_add, nI_mul, nI_sub]; done) | (simp (disch := omega) only [nlit, nI_add, nI_mul, nI_sub]; (congr 1 <;> omega))) (by omega) (by omega)) (by decide) (by decide) rfl rfl (Nat.le_of_ble_eq_true rfl) dX12_leaves_8 (fun r8 S8 q8 => ?_)
    obtain ⟨rfl, rfl⟩ := q8
    refine X_topi (y := nI m) (by rw [rowI_at, shA_out (by omega)]; exact hb) ?_
    refine X_icmp_ge (tgt := 40) hB dX12_leaves_11 (by decide) (fun c11 => absurd c11 (by simp (disch := omega) only [nlit, nI_leI, nI_ltI]; omega)) (fun c11 => ?_)
    refine X_aload_n (i := 0) hB dX12_leaves_14 rfl rfl ?_
    refine X_iload_n (i := 1) hB dX12_leaves_15 rfl rfl ?_
    refine X_bipush (v := 81) hB dX12_leaves_16 (by decide) ?_
    refine X_iload_n (i := 3) hB dX12_leaves_18 rfl rfl ?_
    refine X_iadd hB dX12_leaves_19 ?_
    refine X_iconst (v := 1) hB dX12_leaves_20 (by decide) ?_
    refine X_isub hB dX12_leaves_21 ?_
    refine X_aload_n (i := 0) hB dX12_leaves_22 rfl rfl ?_
    refine X_iload_n (i := 1) hB dX12_leaves_23 rfl rfl ?_
    refine X_bipush (v := 81) hB dX12_leaves_24 (by decide) ?_
    refine X_iload_n (i := 3) hB dX12_leaves_26 rfl rfl ?_
    refine X_iadd hB dX12_leaves_27 ?_
    refine X_callV hB kX12_180 cw10 hR.1.1 hR.1.2 (c_ofE (w := 81 + i) hR (by exact hF.of rfl) rfl (by first | rfl | (simp (disch := omega) only [nlit, nI_add, nI_mul, nI_sub]; done) | (simp (disch := omega) only [nlit, nI_add, nI_mul, nI_sub]; (congr 1 <;> omega))) (by omega) (by omega)) (by decide) (by decide) rfl rfl (Nat.le_of_ble_eq_true rfl) dX12_leaves_28 (fun r28 S28 q28 => ?_)
    obtain ⟨rfl, rfl⟩ := q28
    refine X_topi (y := S.1 (h + 1) (89 + 86 * n + (81 + (i - 1)) + 1)) (by rw [rowI_at, shA_out (by omega)]; exact congrArg _ (by omega)) ?_
    refine X_callV hB kX12_170 cw10 hR.1.1 hR.1.2 (c_layE (w := 81 + (i - 1)) hR (by exact hF.of rfl) rfl (by first | rfl | (simp (disch := omega) only [nlit, nI_add, nI_mul, nI_sub]; done) | (simp (disch := omega) only [nlit, nI_add, nI_mul, nI_sub]; (congr 1 <;> omega))) (by omega) (by omega)) (by decide) (by decide) rfl rfl (Nat.le_of_ble_eq_true rfl) dX12_leaves_31 (fun r31 S31 q31 => ?_)
    obtain ⟨rfl, rfl⟩ := q31
    refine X_iinc hB dX12_leaves_34 rfl rfl (by decide) rfl ?_
    refine X_goto (tgt := 4) hB dX12_leaves_37 (by decide) ?_
    refine X_S (S' := (rowI S (h + 1) (shA (S.1 (h + 1)) (89 + 86 * n + (81 + k)) (89 + 86 * n + (81 + (i + 1 - 1))) 1))) ?_ (X_lv ?_ (ih (i + 1) (by omega) (by omega)))
    · rw [setI_rowI, rowI_rowI, rowI_at, shA_step (by omega)]
      congr 2; omega
    · rw [nI_succ]; rfl
set_option maxRecDepth 100000 in
set_option maxHeartbeats 4000000 in
theorem c_leaves (hR : RLay G h) (hF : RRef S h) (σ : Net) (hN : netR (S.1 (h + 1)) σ) (hs : szN σ) (n k : Nat) (hn : n < 8) (hk : k < (dBu (nNd σ n)).length) : C G mX12_leaves 1 [.ref h, .int (nI n), .int (nI k)] S (fun r S' => r = none ∧ fr h [h + 1] [] S S' ∧ netR (S'.1 (h + 1)) (leaveN σ n k) ∧ szN (leaveN σ n k)) := by
  have hx := hN.2.1 n hn
  have hsn := hs.2.2.1 n hn
  have hb4 := hsn.2.2
  refine C.mk (lv := [some (.ref h), some (.int (nI n)), some (.int (nI k)), none]) (by decide) (Nat.le_of_ble_eq_true rfl) rfl (fun E hB => ?_)
  refine X_iload_n (i := 2) hB dX12_leaves_0 rfl rfl ?_
  refine X_iconst (v := 1) hB dX12_leaves_1 (by decide) ?_
  refine X_iadd hB dX12_leaves_2 ?_
  refine X_topi (y := nI (k + 1)) (by first | rfl | (simp (disch := omega) only [nlit, nI_add, nI_mul, nI_sub]; done) | (simp (disch := omega) only [nlit, nI_add, nI_mul, nI_sub]; (congr 1 <;> omega))) ?_
  refine X_istore_n (i := 3) hB dX12_leaves_3 rfl (by decide) rfl ?_
  refine X_S (S' := (rowI S (h + 1) (shA (S.1 (h + 1)) (89 + 86 * n + (81 + k)) (89 + 86 * n + (81 + (k + 1 - 1))) 1))) (by rw [Nat.add_sub_cancel, shA_nil, rowI_self]) (l_leaves hR hF hB n k (dBu (nNd σ n)).length hn hb4 hk hx.2.2.2.1 (fun v9 => ?_) ((dBu (nNd σ n)).length - (k + 1)) (k + 1) (by omega) (Nat.le_refl _))
  refine X_aload_n (i := 0) hB dX12_leaves_40 rfl rfl ?_
  refine X_iload_n (i := 1) hB dX12_leaves_41 rfl rfl ?_
  refine X_iconst (v := 3) hB dX12_leaves_42 (by decide) ?_
  refine X_aload_n (i := 0) hB dX12_leaves_43 rfl rfl ?_
  refine X_iload_n (i := 1) hB dX12_leaves_44 rfl rfl ?_
  refine X_iconst (v := 3) hB dX12_leaves_45 (by decide) ?_
  refine X_callV hB kX12_180 cw10 hR.1.1 hR.1.2 (c_ofE (w := 3) hR (by exact hF.of rfl) rfl (by first | rfl | (simp (disch := omega) only [nlit, nI_add, nI_mul, nI_sub]; done) | (simp (disch := omega) only [nlit, nI_add, nI_mul, nI_sub]; (congr 1 <;> omega))) (by omega) (by omega)) (by decide) (by decide) rfl rfl (Nat.le_of_ble_eq_true rfl) dX12_leaves_46 (fun r46 S46 q46 => ?_)
  obtain ⟨rfl, rfl⟩ := q46
  refine X_topi (y := nI (dBu (nNd σ n)).length) (by rw [rowI_at, shA_out (by omega)]; exact hx.2.2.2.1) ?_
  refine X_iconst (v := 1) hB dX12_leaves_49 (by decide) ?_
  refine X_isub hB dX12_leaves_50 ?_
  refine X_topi (y := nI ((dBu (nNd σ n)).length - 1)) (by first | rfl | (simp (disch := omega) only [nlit, nI_add, nI_mul, nI_sub]; done) | (simp (disch := omega) only [nlit, nI_add, nI_mul, nI_sub]; (congr 1 <;> omega))) ?_
  refine X_callV hB kX12_170 cw10 hR.1.1 hR.1.2 (c_layE (w := 3) hR (by exact hF.of rfl) rfl (by first | rfl | (simp (disch := omega) only [nlit, nI_add, nI_mul, nI_sub]; done) | (simp (disch := omega) only [nlit, nI_add, nI_mul, nI_sub]; (congr 1 <;> omega))) (by omega) (by omega)) (by decide) (by decide) rfl rfl (Nat.le_of_ble_eq_true rfl) dX12_leaves_51 (fun r51 S51 q51 => ?_)
  obtain ⟨rfl, rfl⟩ := q51
  rw [setI_rowI, rowI_rowI, rowI_at]
  refine X_vret hB rfl dX12_leaves_54 ?_
  refine ⟨rfl, fr.row (by simp) (by omega), ?_, szN_nd hs hsn.1 hsn.2.1 ?_⟩
  · rw [rowI_at]
    exact netR_nd hN hs hn (ndR_buD hx hsn.1 hsn.2.1 hb4 hk) (fun i hi => by rw [upd_ne _ _ (by omega), shA_out (by omega)])
  · show ((dBu (nNd σ n)).eraseIdx k).length ≤ 4
    rw [List.length_eraseIdx]; split <;> omega
end REF
