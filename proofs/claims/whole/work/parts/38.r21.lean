def xTb (x : Nd) (t : List (Nat × Nat)) : Nd := (x.1, x.2.1, x.2.2.1, t, x.2.2.2.2)
def seeN (σ : Net) (z i num : Nat) : Net := uNd σ z (xTb (nNd σ z) (((i, num) :: dTb (nNd σ z)).take (nSe σ 3)))
theorem getD_memP {l : List (Nat × Nat)} {k : Nat} (h : k < l.length) : l.getD k (0, 0) ∈ l := getD_mem h
theorem ndR_tb {A A' : Nat → Int32} {n : Nat} {x : Nd} {room : Nat} {t : List (Nat × Nat)} (hx : ndR A n x) (hok : okC (dMap x) room (dCa x)) (hb : (dBu x).length ≤ 4) (h6 : A' (89 + 86 * n + 6) = nI t.length) (ht : ∀ k, k < t.length → A' (89 + 86 * n + (69 + 2 * k)) = nI (t.getD k (0, 0)).1 ∧ A' (89 + 86 * n + (69 + 2 * k + 1)) = nI (t.getD k (0, 0)).2) (h : ∀ i, i ≠ 89 + 86 * n + 6 → ¬ (89 + 86 * n + 69 ≤ i ∧ i < 89 + 86 * n + 81) → A' i = A i) : ndR A' n (xTb x t) := by
  obtain ⟨h1, h2, h3, h4, h5, h6', h7, h8, h9, h10⟩ := hx
  refine ⟨by rw [h _ (by omega) (by omega)]; exact h1, by rw [h _ (by omega) (by omega)]; exact h2, ⟨by rw [h _ (by omega) (by omega)]; exact h3.1, fun k hk => entR_eq (h3.2 k hk) (hok.len _ (getD_mem hk)) (fun j hj => ?_)⟩, by rw [h _ (by omega) (by omega)]; exact h4, by rw [h _ (by omega) (by omega)]; exact h5, by rw [h _ (by omega) (by omega)]; exact h6', h6, fun t q => by rw [h _ (by omega) (by omega)]; exact h8 t q, ht, fun k q => by (have q2 : k < (dBu x).length := q); rw [h _ (by omega) (by omega)]; exact h10 k q⟩
  have h9' := ent_lt hk hj hok.w
  have h8' : wdt (dMap (xTb x t)) = wdt (dMap x) := rfl
  exact h _ (by omega) (by omega)
section REF
variable {G : Gc} {S : St} {h : Nat}
set_option maxRecDepth 100000 in
set_option maxHeartbeats 4000000 in
theorem l_hasSeen (hR : RLay G h) (hF : RRef S h) {E : Ev} (hB : Bd G E mX12_hasSeen) {Q : Option Value → St → Prop} (σ : Net) (hN : netR (S.1 (h + 1)) σ) (hs : szN σ) (z i num : Nat) (hz : z < 8) (hi : i < 8) (hnum : num < 2 ^ 31) (htb : ∀ q ∈ (dTb (nNd σ z)), q.1 < 8 ∧ q.2 < 2 ^ 31) (k1 : (i, num) ∈ (dTb (nNd σ z)) → Q (some (.int 1)) S) (k0 : (i, num) ∉ (dTb (nNd σ z)) → Q (some (.int 0)) S) :
    ∀ (k j : Nat), j + k = (dTb (nNd σ z)).length → (∀ m, m < j → (dTb (nNd σ z)).getD m (0, 0) ≠ (i, num)) → X G E mX12_hasSeen 1 Q S 3 [some (.ref h), some (.int (nI z)), some (.int (nI i)), some (.int (nI num)), some (.int (nI j))] [] := by
  have hx := hN.2.1 z hz
  have hl := (hs.2.2.1 z hz).2.1
  intro k
  induction k with
  | zero =>
    intro j h1 h2
    refine X_iload hB dX12_hasSeen_3 rfl ?_
    refine X_aload_n (i := 0) hB dX12_hasSeen_5 rfl rfl ?_
    refine X_iload_n (i := 1) hB dX12_hasSeen_6 rfl rfl ?_
    refine X_bipush (v := 6) hB dX12_hasSeen_7 (by decide) ?_
    refine X_callV hB kX12_180 cw10 hR.1.1 hR.1.2 (c_ofE (n := z) (w := 6) hR (by exact hF.of rfl) rfl rfl (by omega) (by omega)) (by decide) (by decide) rfl rfl (Nat.le_of_ble_eq_true rfl) dX12_hasSeen_9 (fun r9 S9 q9 => ?_)
    obtain ⟨rfl, rfl⟩ := q9
    refine X_topi (y := nI (dTb (nNd σ z)).length) (hx.2.2.2.2.2.2.1) ?_
    refine X_icmp_ge (tgt := 57) hB dX12_hasSeen_12 (by decide) (fun c12 => ?_) (fun c12 => absurd c12 (by simp (disch := omega) only [nlit, nI_leI, nI_ltI]; omega))
    refine X_iconst (v := 0) hB dX12_hasSeen_57 (by decide) ?_
    refine X_zret hB rfl (by first | exact Or.inl rfl | exact Or.inr rfl) dX12_hasSeen_58 ?_
    refine k0 (fun hm => ?_)
    obtain ⟨m, hm1, e⟩ := List.mem_iff_getElem.mp hm
    exact h2 m (by omega) (by rw [getD_lt hm1]; exact e)
  | succ k ih =>
    intro j h1 h2
    have hq := htb _ (getD_memP (l := (dTb (nNd σ z))) (k := j) (by omega))
    refine X_iload hB dX12_hasSeen_3 rfl ?_
    refine X_aload_n (i := 0) hB dX12_hasSeen_5 rfl rfl ?_
    refine X_iload_n (i := 1) hB dX12_hasSeen_6 rfl rfl ?_
    refine X_bipush (v := 6) hB dX12_hasSeen_7 (by decide) ?_
    refine X_callV hB kX12_180 cw10 hR.1.1 hR.1.2 (c_ofE (n := z) (w := 6) hR (by exact hF.of rfl) rfl rfl (by omega) (by omega)) (by decide) (by decide) rfl rfl (Nat.le_of_ble_eq_true rfl) dX12_hasSeen_9 (fun r9 S9 q9 => ?_)
    obtain ⟨rfl, rfl⟩ := q9
    refine X_topi (y := nI (dTb (nNd σ z)).length) (hx.2.2.2.2.2.2.1) ?_
    refine X_icmp_ge (tgt := 57) hB dX12_hasSeen_12 (by decide) (fun c12 => absurd c12 (by simp (disch := omega) only [nlit, nI_leI, nI_ltI]; omega)) (fun c12 => ?_)
    refine X_aload_n (i := 0) hB dX12_hasSeen_15 rfl rfl ?_
    refine X_iload_n (i := 1) hB dX12_hasSeen_16 rfl rfl ?_
    refine X_bipush (v := 69) hB dX12_hasSeen_17 (by decide) ?_
    refine X_iconst (v := 2) hB dX12_hasSeen_19 (by decide) ?_
    refine X_iload hB dX12_hasSeen_20 rfl ?_
    refine X_imul hB dX12_hasSeen_22 ?_
    refine X_iadd hB dX12_hasSeen_23 ?_
    refine X_callV hB kX12_180 cw10 hR.1.1 hR.1.2 (c_ofE (n := z) (w := 69 + 2 * j) hR (by exact hF.of rfl) rfl (by first | rfl | (simp (disch := omega) only [nlit, nI_add, nI_mul, nI_sub]; done) | (simp (disch := omega) only [nlit, nI_add, nI_mul, nI_sub]; (congr 1 <;> omega))) (by omega) (by omega)) (by decide) (by decide) rfl rfl (Nat.le_of_ble_eq_true rfl) dX12_hasSeen_24 (fun r24 S24 q24 => ?_)
    obtain ⟨rfl, rfl⟩ := q24
    refine X_topi (y := nI ((dTb (nNd σ z)).getD j (0, 0)).1) ((hx.2.2.2.2.2.2.2.2.1 j (by omega)).1) ?_
    refine X_iload_n (i := 2) hB dX12_hasSeen_27 rfl rfl ?_
    refine X_icmp_ne (tgt := 51) hB dX12_hasSeen_28 (by decide) (fun c28 => ?_) (fun c28 => ?_)
    · refine X_iinc hB dX12_hasSeen_51 rfl rfl (by decide) rfl ?_
      refine X_goto (tgt := 3) hB dX12_hasSeen_54 (by decide) ?_
      refine X_lv ?_ (ih (j + 1) (by omega) (fun m hm => ?_))
      · rw [nI_succ]; rfl
      · rcases Nat.lt_succ_iff_lt_or_eq.mp hm with hm | hm
        · exact h2 m hm
        · rw [hm]; intro e9
          first
          | exact c28 (by rw [e9])
          | exact c46 (by rw [e9])
    · refine X_aload_n (i := 0) hB dX12_hasSeen_31 rfl rfl ?_
      refine X_iload_n (i := 1) hB dX12_hasSeen_32 rfl rfl ?_
      refine X_bipush (v := 69) hB dX12_hasSeen_33 (by decide) ?_
      refine X_iconst (v := 2) hB dX12_hasSeen_35 (by decide) ?_
      refine X_iload hB dX12_hasSeen_36 rfl ?_
      refine X_imul hB dX12_hasSeen_38 ?_
      refine X_iadd hB dX12_hasSeen_39 ?_
      refine X_iconst (v := 1) hB dX12_hasSeen_40 (by decide) ?_
      refine X_iadd hB dX12_hasSeen_41 ?_
      refine X_callV hB kX12_180 cw10 hR.1.1 hR.1.2 (c_ofE (n := z) (w := 69 + 2 * j + 1) hR (by exact hF.of rfl) rfl (by first | rfl | (simp (disch := omega) only [nlit, nI_add, nI_mul, nI_sub]; done) | (simp (disch := omega) only [nlit, nI_add, nI_mul, nI_sub]; (congr 1 <;> omega))) (by omega) (by omega)) (by decide) (by decide) rfl rfl (Nat.le_of_ble_eq_true rfl) dX12_hasSeen_42 (fun r42 S42 q42 => ?_)
      obtain ⟨rfl, rfl⟩ := q42
      refine X_topi (y := nI ((dTb (nNd σ z)).getD j (0, 0)).2) ((hx.2.2.2.2.2.2.2.2.1 j (by omega)).2) ?_
      refine X_iload_n (i := 3) hB dX12_hasSeen_45 rfl rfl ?_
      refine X_icmp_ne (tgt := 51) hB dX12_hasSeen_46 (by decide) (fun c46 => ?_) (fun c46 => ?_)
      · refine X_iinc hB dX12_hasSeen_51 rfl rfl (by decide) rfl ?_
        refine X_goto (tgt := 3) hB dX12_hasSeen_54 (by decide) ?_
        refine X_lv ?_ (ih (j + 1) (by omega) (fun m hm => ?_))
        · rw [nI_succ]; rfl
        · rcases Nat.lt_succ_iff_lt_or_eq.mp hm with hm | hm
          · exact h2 m hm
          · rw [hm]; intro e9
            first
            | exact c28 (by rw [e9])
            | exact c46 (by rw [e9])
      · refine X_iconst (v := 1) hB dX12_hasSeen_49 (by decide) ?_
        refine X_zret hB rfl (by first | exact Or.inl rfl | exact Or.inr rfl) dX12_hasSeen_50 ?_
        have e1 : ((dTb (nNd σ z)).getD j (0, 0)).1 = i := i32_inj (by omega) (by omega) (by first | exact c28 | exact Decidable.not_not.mp c28)
        have e2 : ((dTb (nNd σ z)).getD j (0, 0)).2 = num := i32_inj (by omega) (by omega) (by first | exact c46 | exact Decidable.not_not.mp c46)
        have e3 : (dTb (nNd σ z)).getD j (0, 0) = (i, num) := Prod.ext e1 e2
        exact k1 (e3 ▸ getD_memP (by omega))
set_option maxRecDepth 100000 in
set_option maxHeartbeats 4000000 in
theorem c_hasSeen (hR : RLay G h) (hF : RRef S h) (σ : Net) (hN : netR (S.1 (h + 1)) σ) (hs : szN σ) (z i num : Nat) (hz : z < 8) (hi : i < 8) (hnum : num < 2 ^ 31) (htb : ∀ q ∈ (dTb (nNd σ z)), q.1 < 8 ∧ q.2 < 2 ^ 31) : C G mX12_hasSeen 1 [.ref h, .int (nI z), .int (nI i), .int (nI num)] S (fun r S' => r = some (.int (if (i, num) ∈ (dTb (nNd σ z)) then 1 else 0)) ∧ S = S') := by
  refine C.mk (lv := [some (.ref h), some (.int (nI z)), some (.int (nI i)), some (.int (nI num)), none]) (by decide) (Nat.le_of_ble_eq_true rfl) rfl (fun E hB => ?_)
  refine X_iconst (v := 0) hB dX12_hasSeen_0 (by decide) ?_
  refine X_istore hB dX12_hasSeen_1 (by decide) rfl ?_
  exact X_lv (by rw [nI_0]; rfl) (l_hasSeen hR hF hB σ hN hs z i num hz hi hnum htb (fun q => ⟨by rw [if_pos q], rfl⟩) (fun q => ⟨by rw [if_neg q], rfl⟩) (dTb (nNd σ z)).length 0 (by omega) (fun m hm => by omega))
set_option maxRecDepth 100000 in
set_option maxHeartbeats 4000000 in
theorem l_sees (hR : RLay G h) (hF : RRef S h) {E : Ev} (hB : Bd G E mX12_sees) {Q : Option Value → St → Prop} (σ : Net) (hN : netR (S.1 (h + 1)) σ) (hs : szN σ) (z i num : Nat) (hz : z < 8) (kk : ∀ v, X G E mX12_sees 1 Q (rowI S (h + 1) (shU (S.1 (h + 1)) (89 + 86 * z + (71)) (89 + 86 * z + (71 + 2 * (min (dTb (nNd σ z)).length (nSe σ 3 - 1)))) 2)) 62 [some (.ref h), some (.int (nI z)), some (.int (nI i)), some (.int (nI num)), some (.int (nI (min (dTb (nNd σ z)).length (nSe σ 3 - 1)))), some (.int v)] []) :
    ∀ (k j : Nat), 2 + k = j + 1 → j < 2 + 2 * (min (dTb (nNd σ z)).length (nSe σ 3 - 1)) → X G E mX12_sees 1 Q (rowI S (h + 1) (shU (S.1 (h + 1)) (89 + 86 * z + (69 + (j + 1))) (89 + 86 * z + (71 + 2 * (min (dTb (nNd σ z)).length (nSe σ 3 - 1)))) 2)) 28 [some (.ref h), some (.int (nI z)), some (.int (nI i)), some (.int (nI num)), some (.int (nI (min (dTb (nNd σ z)).length (nSe σ 3 - 1)))), some (.int (nI j))] [] := by
  have hl := (hs.2.2.1 z hz).2.1
  intro k
  induction k with
  | zero =>
    intro j h1 h2
    refine X_iload hB dX12_sees_28 rfl ?_
    refine X_iconst (v := 2) hB dX12_sees_30 (by decide) ?_
    refine X_icmp_lt (tgt := 62) hB dX12_sees_31 (by decide) (fun c31 => ?_) (fun c31 => absurd c31 (by simp (disch := omega) only [nlit, nI_leI, nI_ltI]; omega))
    have e9 : j = 1 := by omega
    subst e9
    exact kk _
  | succ k ih =>
    intro j h1 h2
    refine X_iload hB dX12_sees_28 rfl ?_
    refine X_iconst (v := 2) hB dX12_sees_30 (by decide) ?_
    refine X_icmp_lt (tgt := 62) hB dX12_sees_31 (by decide) (fun c31 => absurd c31 (by simp (disch := omega) only [nlit, nI_leI, nI_ltI]; omega)) (fun c31 => ?_)
    refine X_aload_n (i := 0) hB dX12_sees_34 rfl rfl ?_
    refine X_iload_n (i := 1) hB dX12_sees_35 rfl rfl ?_
    refine X_bipush (v := 69) hB dX12_sees_36 (by decide) ?_
    refine X_iload hB dX12_sees_38 rfl ?_
    refine X_iadd hB dX12_sees_40 ?_
    refine X_aload_n (i := 0) hB dX12_sees_41 rfl rfl ?_
    refine X_iload_n (i := 1) hB dX12_sees_42 rfl rfl ?_
    refine X_bipush (v := 69) hB dX12_sees_43 (by decide) ?_
    refine X_iload hB dX12_sees_45 rfl ?_
    refine X_iadd hB dX12_sees_47 ?_
    refine X_iconst (v := 2) hB dX12_sees_48 (by decide) ?_
    refine X_isub hB dX12_sees_49 ?_
    refine X_callV hB kX12_180 cw10 hR.1.1 hR.1.2 (c_ofE (n := z) (w := 69 + j - 2) hR (by exact hF.of rfl) rfl (by first | rfl | (simp (disch := omega) only [nlit, nI_add, nI_mul, nI_sub]; done) | (simp (disch := omega) only [nlit, nI_add, nI_mul, nI_sub]; (congr 1 <;> omega))) (by omega) (by omega)) (by decide) (by decide) rfl rfl (Nat.le_of_ble_eq_true rfl) dX12_sees_50 (fun r50 S50 q50 => ?_)
    obtain ⟨rfl, rfl⟩ := q50
    refine X_topi (y := S.1 (h + 1) (89 + 86 * z + (69 + j) - 2)) (by rw [rowI_at, shU_out (by omega)]; exact congrArg _ (by omega)) ?_
    refine X_callV hB kX12_170 cw10 hR.1.1 hR.1.2 (c_layE (n := z) (w := 69 + j) hR (by exact hF.of rfl) rfl (by first | rfl | (simp (disch := omega) only [nlit, nI_add, nI_mul, nI_sub]; done) | (simp (disch := omega) only [nlit, nI_add, nI_mul, nI_sub]; (congr 1 <;> omega))) (by omega) (by omega)) (by decide) (by decide) rfl rfl (Nat.le_of_ble_eq_true rfl) dX12_sees_53 (fun r53 S53 q53 => ?_)
    obtain ⟨rfl, rfl⟩ := q53
    refine X_iinc hB dX12_sees_56 rfl rfl (by decide) rfl ?_
    refine X_goto (tgt := 28) hB dX12_sees_59 (by decide) ?_
    obtain ⟨m, rfl⟩ : ∃ m, j = m + 1 := ⟨j - 1, by omega⟩
    refine X_S (S' := (rowI S (h + 1) (shU (S.1 (h + 1)) (89 + 86 * z + (69 + (m + 1))) (89 + 86 * z + (71 + 2 * (min (dTb (nNd σ z)).length (nSe σ 3 - 1)))) 2))) ?_ (X_lv ?_ (ih m (by omega) (by omega)))
    · rw [setI_rowI, rowI_rowI, rowI_at]; congr 1; exact shU_step (lo := 89 + 86 * z + (69 + (m + 1))) (by omega)
    · show [_, _, _, _, _, some (Value.int (nI (m + 1) + -1))] = _
      rw [nI_m1]
set_option maxRecDepth 100000 in
set_option maxHeartbeats 4000000 in
theorem c_sees (hR : RLay G h) (hF : RRef S h) (σ : Net) (hN : netR (S.1 (h + 1)) σ) (hs : szN σ) (z i num : Nat) (hz : z < 8) (ht1 : 1 ≤ nSe σ 3 ∧ nSe σ 3 ≤ 6) : C G mX12_sees 1 [.ref h, .int (nI z), .int (nI i), .int (nI num)] S (fun r S' => r = none ∧ fr h [h + 1] [] S S' ∧ netR (S'.1 (h + 1)) (seeN σ z i num) ∧ szN (seeN σ z i num)) := by
  have hx := hN.2.1 z hz
  have hsn := hs.2.2.1 z hz
  have hl := hsn.2.1
  refine C.mk (lv := [some (.ref h), some (.int (nI z)), some (.int (nI i)), some (.int (nI num)), none, none]) (by decide) (Nat.le_of_ble_eq_true rfl) rfl (fun E hB => ?_)
  refine X_aload_n (i := 0) hB dX12_sees_0 rfl rfl ?_
  refine X_iload_n (i := 1) hB dX12_sees_1 rfl rfl ?_
  refine X_bipush (v := 6) hB dX12_sees_2 (by decide) ?_
  refine X_callV hB kX12_180 cw10 hR.1.1 hR.1.2 (c_ofE (n := z) (w := 6) hR (by exact hF.of rfl) rfl rfl (by omega) (by omega)) (by decide) (by decide) rfl rfl (Nat.le_of_ble_eq_true rfl) dX12_sees_4 (fun r4 S4 q4 => ?_)
  obtain ⟨rfl, rfl⟩ := q4
  refine X_topi (y := nI (dTb (nNd σ z)).length) (hx.2.2.2.2.2.2.1) ?_
  refine X_aload_n (i := 0) hB dX12_sees_7 rfl rfl ?_
  refine X_getr hB cw10 fX12_7 rfl hR.1.1 hR.1.2 hF.1 dX12_sees_8 ?_
  refine X_iconst (v := 3) hB dX12_sees_11 (by decide) ?_
  refine X_ialdN hB (3) hR.2.1.1 hR.2.1.2 (by decide) (by first | rfl | (simp (disch := omega) only [nlit, nI_add, nI_mul, nI_sub]; done) | (simp (disch := omega) only [nlit, nI_add, nI_mul, nI_sub]; (congr 1 <;> omega))) (by first | omega | (simp only []; omega)) (hN.1.1 3 (by decide)) dX12_sees_12 ?_
  refine X_iconst (v := 1) hB dX12_sees_13 (by decide) ?_
  refine X_isub hB dX12_sees_14 ?_
  refine X_topi (y := nI (nSe σ 3 - 1)) (by first | rfl | (simp (disch := omega) only [nlit, nI_add, nI_mul, nI_sub]; done) | (simp (disch := omega) only [nlit, nI_add, nI_mul, nI_sub]; (congr 1 <;> omega))) ?_
  refine X_callS hB kX12_63 (c_lesserN (by omega) (by omega)) (by decide) (by decide) rfl rfl (Nat.le_of_ble_eq_true rfl) dX12_sees_15 (fun r15 S15 q15 => ?_)
  obtain ⟨rfl, rfl⟩ := q15
  refine X_istore hB dX12_sees_18 (by decide) rfl ?_
  refine X_iconst (v := 2) hB dX12_sees_20 (by decide) ?_
  refine X_iload hB dX12_sees_21 rfl ?_
  refine X_imul hB dX12_sees_23 ?_
  refine X_iconst (v := 1) hB dX12_sees_24 (by decide) ?_
  refine X_iadd hB dX12_sees_25 ?_
  refine X_topi (y := nI (2 * (min (dTb (nNd σ z)).length (nSe σ 3 - 1)) + 1)) (by first | rfl | (simp (disch := omega) only [nlit, nI_add, nI_mul, nI_sub]; done) | (simp (disch := omega) only [nlit, nI_add, nI_mul, nI_sub]; (congr 1 <;> omega))) ?_
  refine X_istore hB dX12_sees_26 (by decide) rfl ?_
  refine X_S (S' := (rowI S (h + 1) (shU (S.1 (h + 1)) (89 + 86 * z + (69 + (2 * (min (dTb (nNd σ z)).length (nSe σ 3 - 1)) + 1 + 1))) (89 + 86 * z + (71 + 2 * (min (dTb (nNd σ z)).length (nSe σ 3 - 1)))) 2))) (by rw [show 69 + (2 * (min (dTb (nNd σ z)).length (nSe σ 3 - 1)) + 1 + 1) = 71 + 2 * (min (dTb (nNd σ z)).length (nSe σ 3 - 1)) by omega, shU_nil, rowI_self]) (l_sees hR hF hB σ hN hs z i num hz (fun v9 => ?_) (2 * (min (dTb (nNd σ z)).length (nSe σ 3 - 1))) (2 * (min (dTb (nNd σ z)).length (nSe σ 3 - 1)) + 1) (by omega) (by omega))
  refine X_aload_n (i := 0) hB dX12_sees_62 rfl rfl ?_
  refine X_iload_n (i := 1) hB dX12_sees_63 rfl rfl ?_
  refine X_bipush (v := 69) hB dX12_sees_64 (by decide) ?_
  refine X_iload_n (i := 2) hB dX12_sees_66 rfl rfl ?_
  refine X_callV hB kX12_170 cw10 hR.1.1 hR.1.2 (c_layE (n := z) (w := 69) hR (by exact hF.of rfl) rfl rfl (by omega) (by omega)) (by decide) (by decide) rfl rfl (Nat.le_of_ble_eq_true rfl) dX12_sees_67 (fun r67 S67 q67 => ?_)
  obtain ⟨rfl, rfl⟩ := q67
  rw [setI_rowI, rowI_rowI, rowI_at]
  refine X_aload_n (i := 0) hB dX12_sees_70 rfl rfl ?_
  refine X_iload_n (i := 1) hB dX12_sees_71 rfl rfl ?_
  refine X_bipush (v := 70) hB dX12_sees_72 (by decide) ?_
  refine X_iload_n (i := 3) hB dX12_sees_74 rfl rfl ?_
  refine X_callV hB kX12_170 cw10 hR.1.1 hR.1.2 (c_layE (n := z) (w := 70) hR (by exact hF.of rfl) rfl rfl (by omega) (by omega)) (by decide) (by decide) rfl rfl (Nat.le_of_ble_eq_true rfl) dX12_sees_75 (fun r75 S75 q75 => ?_)
  obtain ⟨rfl, rfl⟩ := q75
  rw [setI_rowI, rowI_rowI, rowI_at]
  refine X_aload_n (i := 0) hB dX12_sees_78 rfl rfl ?_
  refine X_iload_n (i := 1) hB dX12_sees_79 rfl rfl ?_
  refine X_bipush (v := 6) hB dX12_sees_80 (by decide) ?_
  refine X_iload hB dX12_sees_82 rfl ?_
  refine X_iconst (v := 1) hB dX12_sees_84 (by decide) ?_
  refine X_iadd hB dX12_sees_85 ?_
  refine X_topi (y := nI ((min (dTb (nNd σ z)).length (nSe σ 3 - 1)) + 1)) (by first | rfl | (simp (disch := omega) only [nlit, nI_add, nI_mul, nI_sub]; done) | (simp (disch := omega) only [nlit, nI_add, nI_mul, nI_sub]; (congr 1 <;> omega))) ?_
  refine X_callV hB kX12_170 cw10 hR.1.1 hR.1.2 (c_layE (n := z) (w := 6) hR (by exact hF.of rfl) rfl rfl (by omega) (by omega)) (by decide) (by decide) rfl rfl (Nat.le_of_ble_eq_true rfl) dX12_sees_86 (fun r86 S86 q86 => ?_)
  obtain ⟨rfl, rfl⟩ := q86
  rw [setI_rowI, rowI_rowI, rowI_at]
  refine X_vret hB rfl dX12_sees_89 ?_
  have htk : ((i, num) :: (dTb (nNd σ z))).take (nSe σ 3) = (i, num) :: (dTb (nNd σ z)).take (min (dTb (nNd σ z)).length (nSe σ 3 - 1)) := by
    obtain ⟨t, ht⟩ : ∃ t, nSe σ 3 = t + 1 := ⟨nSe σ 3 - 1, by omega⟩
    rw [ht, List.take_succ_cons, Nat.add_sub_cancel]
    congr 1
    by_cases hq : (dTb (nNd σ z)).length ≤ t
    · rw [Nat.min_eq_left hq, List.take_of_length_le hq, List.take_length]
    · rw [Nat.min_eq_right (by omega)]
  have hln : ((i, num) :: (dTb (nNd σ z)).take (min (dTb (nNd σ z)).length (nSe σ 3 - 1))).length = (min (dTb (nNd σ z)).length (nSe σ 3 - 1)) + 1 := by rw [List.length_cons, List.length_take]; omega
  refine ⟨rfl, fr.row (by simp) (by omega), ?_, ?_⟩
  · rw [rowI_at]
    unfold seeN
    rw [htk]
    refine netR_nd hN hs hz (ndR_tb hx hsn.1 hsn.2.2 (by rw [upd_at, hln]) (fun k hk => ?_) (fun j q1 q2 => ?_)) (fun j hj => ?_)
    · rw [hln] at hk
      cases k with
      | zero => exact ⟨by rw [upd_ne _ _ (by omega), upd_ne _ _ (by omega), show 69 + 2 * 0 = 69 from rfl, upd_at]; rfl, by rw [upd_ne _ _ (by omega), show 69 + 2 * 0 + 1 = 70 from rfl, upd_at]; rfl⟩
      | succ k =>
        have hq := hx.2.2.2.2.2.2.2.2.1 k (by omega)
        have e1 : ((i, num) :: (dTb (nNd σ z)).take (min (dTb (nNd σ z)).length (nSe σ 3 - 1))).getD (k + 1) (0, 0) = (dTb (nNd σ z)).getD k (0, 0) := by
          simp only [List.getD_eq_getElem?_getD, List.getElem?_cons_succ]
          rw [List.getElem?_take_of_lt (by omega)]
        rw [e1, ← hq.1, ← hq.2]
        exact ⟨by rw [upd_ne _ _ (by omega), upd_ne _ _ (by omega), upd_ne _ _ (by omega), shU_in (by omega)]; exact congrArg _ (by omega), by rw [upd_ne _ _ (by omega), upd_ne _ _ (by omega), upd_ne _ _ (by omega), shU_in (by omega)]; exact congrArg _ (by omega)⟩
    · rw [upd_ne _ _ (by omega), upd_ne _ _ (by omega), upd_ne _ _ (by omega), shU_out (by omega)]
    · rw [upd_ne _ _ (by omega), upd_ne _ _ (by omega), upd_ne _ _ (by omega), shU_out (by omega)]
  · refine szN_nd hs hsn.1 ?_ hsn.2.2
    show (((i, num) :: (dTb (nNd σ z))).take (nSe σ 3)).length ≤ 6
    rw [List.length_take]; omega
end REF
