theorem bit_has : ∀ m : Nat, m < 256 → ∀ k : Nat, k < 8 → ((nI m >>> (nI k &&& 31)) &&& 1) = if m.testBit k then 1 else 0 := by decide +kernel
theorem bit_or : ∀ m : Nat, m < 256 → ∀ k : Nat, k < 8 → (nI m ||| (1 <<< (nI k &&& 31))) = nI (m ||| (1 <<< k)) := by decide +kernel
theorem mem_drop_step {l : List Nat} {i x : Nat} (hi : i < l.length) : x ∈ l.drop i ↔ l.getD i 0 = x ∨ x ∈ l.drop (i + 1) := by
  rw [List.drop_eq_getElem_cons hi, List.mem_cons, getD_lt hi]
  simp only [eq_comm]
theorem mem_take_step {l : List Nat} {i x : Nat} (hi : i < l.length) : x ∈ l.take (i + 1) ↔ x ∈ l.take i ∨ l.getD i 0 = x := by
  rw [List.take_succ_eq_append_getElem hi, List.mem_append, List.mem_singleton, getD_lt hi]
  simp only [eq_comm]
section REF
variable {G : Gc} {S : St} {h : Nat}
set_option maxRecDepth 100000 in
set_option maxHeartbeats 4000000 in
theorem c_has {m k : Nat} (hm : m < 256) (hk : k < 8) : C G mX12_has 0 [.int (nI m), .int (nI k)] S (fun r S' => r = some (.int (if m.testBit k then 1 else 0)) ∧ S = S') := by
  refine C.mk (lv := [some (.int (nI m)), some (.int (nI k))]) (by decide) (Nat.le_of_ble_eq_true rfl) rfl (fun E hB => ?_)
  refine X_iload_n (i := 0) hB dX12_has_0 rfl rfl ?_
  refine X_iload_n (i := 1) hB dX12_has_1 rfl rfl ?_
  refine X_ishr hB dX12_has_2 ?_
  refine X_iconst (v := 1) hB dX12_has_3 (by decide) ?_
  refine X_iand hB dX12_has_4 ?_
  refine X_topi (y := if m.testBit k then 1 else 0) (bit_has m hm k hk) ?_
  refine X_iconst (v := 1) hB dX12_has_5 (by decide) ?_
  refine X_icmp_ne (tgt := 13) hB dX12_has_6 (by decide) (fun c6 => ?_) (fun c6 => ?_)
  · refine X_iconst (v := 0) hB dX12_has_13 (by decide) ?_
    refine X_zret hB rfl (by first | exact Or.inl rfl | exact Or.inr rfl) dX12_has_14 ?_
    refine ⟨?_, rfl⟩
    cases hq : m.testBit k <;> rw [hq] at c6 <;> first | rfl | exact absurd rfl c6 | exact absurd c6 (by decide)
  · refine X_iconst (v := 1) hB dX12_has_9 (by decide) ?_
    refine X_goto (tgt := 14) hB dX12_has_10 (by decide) ?_
    refine X_zret hB rfl (by first | exact Or.inl rfl | exact Or.inr rfl) dX12_has_14 ?_
    refine ⟨?_, rfl⟩
    cases hq : m.testBit k <;> rw [hq] at c6 <;> first | rfl | exact absurd rfl c6 | exact absurd c6 (by decide)
set_option maxRecDepth 100000 in
set_option maxHeartbeats 4000000 in
theorem c_rowAt (hR : RLay G h) (hF : RRef S h) (f : Fm) (hf : frS (S.1 (h + 12)) f) (hfl : (fRo f).length ≤ 8) {i : Nat} (hi : i < (fRo f).length) : C G mX12_rowAt 0 [.ref h, .int (nI i)] S (fun r S' => r = some (.int (nI ((fRo f).getD i 0))) ∧ S = S') := by
  refine C.mk (lv := [some (.ref h), some (.int (nI i))]) (by decide) (Nat.le_of_ble_eq_true rfl) rfl (fun E hB => ?_)
  refine X_aload_n (i := 0) hB dX12_rowAt_0 rfl rfl ?_
  refine X_getr hB cw10 fX12_45 rfl hR.1.1 hR.1.2 hF.2.2.2.2.2.2.2.2.2.2.2 dX12_rowAt_1 ?_
  refine X_bipush (v := 7) hB dX12_rowAt_4 (by decide) ?_
  refine X_iload_n (i := 1) hB dX12_rowAt_6 rfl rfl ?_
  refine X_iadd hB dX12_rowAt_7 ?_
  refine X_ialdN hB (7 + i) hR.2.2.2.2.2.2.2.2.2.2.2.2.1 hR.2.2.2.2.2.2.2.2.2.2.2.2.2 (by decide) (by first | rfl | (simp (disch := omega) only [nlit, nI_add, nI_mul, nI_sub]; done) | (simp (disch := omega) only [nlit, nI_add, nI_mul, nI_sub]; (congr 1 <;> omega))) (by first | omega | (simp only []; omega)) (hf.2 i hi) dX12_rowAt_8 ?_
  refine X_iret hB rfl dX12_rowAt_9 ?_
  exact ⟨rfl, rfl⟩
set_option maxRecDepth 100000 in
set_option maxHeartbeats 4000000 in
theorem l_isInRow (hR : RLay G h) (hF : RRef S h) {E : Ev} (hB : Bd G E mX12_isInRow) {Q : Option Value → St → Prop} (f : Fm) (hf : frS (S.1 (h + 12)) f) (hfl : (fRo f).length ≤ 8) (hfx : ∀ x ∈ fRo f, x < 8) (n fm : Nat) (hn : n < 8) (k1 : n ∈ (fRo f).drop fm → Q (some (.int 1)) S) (k0 : n ∉ (fRo f).drop fm → Q (some (.int 0)) S) :
    ∀ (k i : Nat), i + k = (fRo f).length → fm ≤ i → (n ∈ (fRo f).drop fm ↔ n ∈ (fRo f).drop i) → X G E mX12_isInRow 1 Q S 2 [some (.ref h), some (.int (nI n)), some (.int (nI fm)), some (.int (nI i))] [] := by
  intro k
  induction k with
  | zero =>
    intro i h1 h2 h3
    refine X_iload_n (i := 3) hB dX12_isInRow_2 rfl rfl ?_
    refine X_aload_n (i := 0) hB dX12_isInRow_3 rfl rfl ?_
    refine X_getr hB cw10 fX12_45 rfl hR.1.1 hR.1.2 hF.2.2.2.2.2.2.2.2.2.2.2 dX12_isInRow_4 ?_
    refine X_bipush (v := 6) hB dX12_isInRow_7 (by decide) ?_
    refine X_ialdN hB (6) hR.2.2.2.2.2.2.2.2.2.2.2.2.1 hR.2.2.2.2.2.2.2.2.2.2.2.2.2 (by decide) (by first | rfl | (simp (disch := omega) only [nlit, nI_add, nI_mul, nI_sub]; done) | (simp (disch := omega) only [nlit, nI_add, nI_mul, nI_sub]; (congr 1 <;> omega))) (by first | omega | (simp only []; omega)) (show _ = nI (fRo f).length from hf.1 6 (by decide)) dX12_isInRow_9 ?_
    refine X_icmp_ge (tgt := 30) hB dX12_isInRow_10 (by decide) (fun c10 => ?_) (fun c10 => absurd c10 (by simp (disch := omega) only [nlit, nI_leI, nI_ltI]; omega))
    refine X_iconst (v := 0) hB dX12_isInRow_30 (by decide) ?_
    refine X_zret hB rfl (by first | exact Or.inl rfl | exact Or.inr rfl) dX12_isInRow_31 ?_
    exact k0 (fun q => by rw [h3, List.drop_of_length_le (by omega)] at q; cases q)
  | succ k ih =>
    intro i h1 h2 h3
    have b1 : (fRo f).getD i 0 < 8 := hfx _ (getD_mem (by omega))
    have hst := mem_drop_step (l := fRo f) (i := i) (x := n) (by omega)
    refine X_iload_n (i := 3) hB dX12_isInRow_2 rfl rfl ?_
    refine X_aload_n (i := 0) hB dX12_isInRow_3 rfl rfl ?_
    refine X_getr hB cw10 fX12_45 rfl hR.1.1 hR.1.2 hF.2.2.2.2.2.2.2.2.2.2.2 dX12_isInRow_4 ?_
    refine X_bipush (v := 6) hB dX12_isInRow_7 (by decide) ?_
    refine X_ialdN hB (6) hR.2.2.2.2.2.2.2.2.2.2.2.2.1 hR.2.2.2.2.2.2.2.2.2.2.2.2.2 (by decide) (by first | rfl | (simp (disch := omega) only [nlit, nI_add, nI_mul, nI_sub]; done) | (simp (disch := omega) only [nlit, nI_add, nI_mul, nI_sub]; (congr 1 <;> omega))) (by first | omega | (simp only []; omega)) (show _ = nI (fRo f).length from hf.1 6 (by decide)) dX12_isInRow_9 ?_
    refine X_icmp_ge (tgt := 30) hB dX12_isInRow_10 (by decide) (fun c10 => absurd c10 (by simp (disch := omega) only [nlit, nI_leI, nI_ltI]; omega)) (fun c10 => ?_)
    refine X_aload_n (i := 0) hB dX12_isInRow_13 rfl rfl ?_
    refine X_iload_n (i := 3) hB dX12_isInRow_14 rfl rfl ?_
    refine X_callV hB kX12_274 cw10 hR.1.1 hR.1.2 (c_rowAt hR (by exact hF.of rfl) f hf hfl (i := i) (by omega)) (by decide) (by decide) rfl rfl (Nat.le_of_ble_eq_true rfl) dX12_isInRow_15 (fun r15 S15 q15 => ?_)
    obtain ⟨rfl, rfl⟩ := q15
    refine X_iload_n (i := 1) hB dX12_isInRow_18 rfl rfl ?_
    refine X_icmp_ne (tgt := 24) hB dX12_isInRow_19 (by decide) (fun c19 => ?_) (fun c19 => ?_)
    · refine X_iinc hB dX12_isInRow_24 rfl rfl (by decide) rfl ?_
      refine X_goto (tgt := 2) hB dX12_isInRow_27 (by decide) ?_
      refine X_lv ?_ (ih (i + 1) (by omega) (by omega) ?_)
      · rw [nI_succ]; rfl
      · rw [h3, hst]
        exact ⟨fun q => q.elim (fun q9 => absurd (by rw [q9]) c19) id, Or.inr⟩
    · refine X_iconst (v := 1) hB dX12_isInRow_22 (by decide) ?_
      refine X_zret hB rfl (by first | exact Or.inl rfl | exact Or.inr rfl) dX12_isInRow_23 ?_
      have e9 : (fRo f).getD i 0 = n := i32_inj (by omega) (by omega) (by first | exact c19 | exact Decidable.not_not.mp c19)
      exact k1 (h3.mpr (hst.mpr (Or.inl e9)))
set_option maxRecDepth 100000 in
set_option maxHeartbeats 4000000 in
theorem c_isInRow (hR : RLay G h) (hF : RRef S h) (f : Fm) (hf : frS (S.1 (h + 12)) f) (hfl : (fRo f).length ≤ 8) (hfx : ∀ x ∈ fRo f, x < 8) (n fm : Nat) (hn : n < 8) (hfm : fm ≤ (fRo f).length) : C G mX12_isInRow 1 [.ref h, .int (nI n), .int (nI fm)] S (fun r S' => r = some (.int (if n ∈ (fRo f).drop fm then 1 else 0)) ∧ S = S') := by
  refine C.mk (lv := [some (.ref h), some (.int (nI n)), some (.int (nI fm)), none]) (by decide) (Nat.le_of_ble_eq_true rfl) rfl (fun E hB => ?_)
  refine X_iload_n (i := 2) hB dX12_isInRow_0 rfl rfl ?_
  refine X_istore_n (i := 3) hB dX12_isInRow_1 rfl (by decide) rfl ?_
  exact l_isInRow hR hF hB f hf hfl hfx n fm hn (fun q => ⟨by rw [if_pos q], rfl⟩) (fun q => ⟨by rw [if_neg q], rfl⟩) ((fRo f).length - fm) fm (by omega) (Nat.le_refl _) Iff.rfl
set_option maxRecDepth 100000 in
set_option maxHeartbeats 4000000 in
theorem c_isNear (hR : RLay G h) (hF : RRef S h) (σ : Net) (hN : netR (S.1 (h + 1)) σ) {x z : Nat} (hx : x < 8) (hz : z < 8) : C G mX12_isNear 1 [.ref h, .int (nI x), .int (nI z)] S (fun r S' => r = some (.int (if z ≠ x ∧ nUp σ x z = true then 1 else 0)) ∧ S = S') := by
  refine C.mk (lv := [some (.ref h), some (.int (nI x)), some (.int (nI z))]) (by decide) (Nat.le_of_ble_eq_true rfl) rfl (fun E hB => ?_)
  refine X_iload_n (i := 2) hB dX12_isNear_0 rfl rfl ?_
  refine X_iload_n (i := 1) hB dX12_isNear_1 rfl rfl ?_
  refine X_icmp_eq (tgt := 18) hB dX12_isNear_2 (by decide) (fun c2 => ?_) (fun c2 => ?_)
  · refine X_iconst (v := 0) hB dX12_isNear_18 (by decide) ?_
    refine X_zret hB rfl (by first | exact Or.inl rfl | exact Or.inr rfl) dX12_isNear_19 ?_
    refine ⟨?_, rfl⟩
    first
    | (have e9 : nI z = nI x := by exact c2
       rw [if_neg (fun q => q.1 (i32_inj (by omega) (by omega) e9))])
    | (have hzx : z ≠ x := fun q => c2 (by rw [q])
       by_cases hu : nUp σ x z = true
       · rw [if_pos hu] at c11
         first
         | exact absurd c11 (by decide)
         | rw [if_pos ⟨hzx, hu⟩]
       · rw [if_neg hu] at c11
         first
         | exact absurd rfl c11
         | rw [if_neg (fun q => hu q.2)])
  · refine X_aload_n (i := 0) hB dX12_isNear_5 rfl rfl ?_
    refine X_iload_n (i := 1) hB dX12_isNear_6 rfl rfl ?_
    refine X_iload_n (i := 2) hB dX12_isNear_7 rfl rfl ?_
    refine X_callV hB kX12_277 cw10 hR.1.1 hR.1.2 (c_isUp hR (by exact hF.of rfl) hx hz (hN.1.2.2.2.2.2 x z hx hz)) (by decide) (by decide) rfl rfl (Nat.le_of_ble_eq_true rfl) dX12_isNear_8 (fun r8 S8 q8 => ?_)
    obtain ⟨rfl, rfl⟩ := q8
    refine X_if_eq (tgt := 18) hB dX12_isNear_11 (by decide) (fun c11 => ?_) (fun c11 => ?_)
    · refine X_iconst (v := 0) hB dX12_isNear_18 (by decide) ?_
      refine X_zret hB rfl (by first | exact Or.inl rfl | exact Or.inr rfl) dX12_isNear_19 ?_
      refine ⟨?_, rfl⟩
      first
      | (have e9 : nI z = nI x := by exact c2
         rw [if_neg (fun q => q.1 (i32_inj (by omega) (by omega) e9))])
      | (have hzx : z ≠ x := fun q => c2 (by rw [q])
         by_cases hu : nUp σ x z = true
         · rw [if_pos hu] at c11
           first
           | exact absurd c11 (by decide)
           | rw [if_pos ⟨hzx, hu⟩]
         · rw [if_neg hu] at c11
           first
           | exact absurd rfl c11
           | rw [if_neg (fun q => hu q.2)])
    · refine X_iconst (v := 1) hB dX12_isNear_14 (by decide) ?_
      refine X_goto (tgt := 19) hB dX12_isNear_15 (by decide) ?_
      refine X_zret hB rfl (by first | exact Or.inl rfl | exact Or.inr rfl) dX12_isNear_19 ?_
      refine ⟨?_, rfl⟩
      first
      | (have e9 : nI z = nI x := by exact c2
         rw [if_neg (fun q => q.1 (i32_inj (by omega) (by omega) e9))])
      | (have hzx : z ≠ x := fun q => c2 (by rw [q])
         by_cases hu : nUp σ x z = true
         · rw [if_pos hu] at c11
           first
           | exact absurd c11 (by decide)
           | rw [if_pos ⟨hzx, hu⟩]
         · rw [if_neg hu] at c11
           first
           | exact absurd rfl c11
           | rw [if_neg (fun q => hu q.2)])
set_option maxRecDepth 100000 in
set_option maxHeartbeats 4000000 in
theorem c_trailAt (hR : RLay G h) (hF : RRef S h) (σ : Net) (hN : netR (S.1 (h + 1)) σ) (hs : szN σ) (d : Nat) (hd : d < (nDa σ).length) {i : Nat} (hi : i < (aTr (dat σ d)).length) : C G mX12_trailAt 1 [.ref h, .int (nI d), .int (nI i)] S (fun r S' => r = some (.int (nI ((aTr (dat σ d)).getD i 0))) ∧ S = S') := by
  have hd40 := hs.2.1
  have hl := (dat_len hs hd).1
  refine C.mk (lv := [some (.ref h), some (.int (nI d)), some (.int (nI i))]) (by decide) (Nat.le_of_ble_eq_true rfl) rfl (fun E hB => ?_)
  refine X_aload_n (i := 0) hB dX12_trailAt_0 rfl rfl ?_
  refine X_iload_n (i := 1) hB dX12_trailAt_1 rfl rfl ?_
  refine X_bipush (v := 10) hB dX12_trailAt_2 (by decide) ?_
  refine X_iload_n (i := 2) hB dX12_trailAt_4 rfl rfl ?_
  refine X_iadd hB dX12_trailAt_5 ?_
  refine X_callV hB kX12_246 cw10 hR.1.1 hR.1.2 (c_ofDE (w := 10 + i) hR (by exact hF.of rfl) rfl (by first | rfl | (simp (disch := omega) only [nlit, nI_add, nI_mul, nI_sub]; done) | (simp (disch := omega) only [nlit, nI_add, nI_mul, nI_sub]; (congr 1 <;> omega))) (by omega) (by omega)) (by decide) (by decide) rfl rfl (Nat.le_of_ble_eq_true rfl) dX12_trailAt_6 (fun r6 S6 q6 => ?_)
  obtain ⟨rfl, rfl⟩ := q6
  refine X_topi (y := nI ((aTr (dat σ d)).getD i 0)) ((hN.2.2.2 d hd).2.2.2.2.2.2.2.2.2.2.1 i hi) ?_
  refine X_iret hB rfl dX12_trailAt_9 ?_
  exact ⟨rfl, rfl⟩
set_option maxRecDepth 100000 in
set_option maxHeartbeats 4000000 in
theorem l_isInTrail (hR : RLay G h) (hF : RRef S h) {E : Ev} (hB : Bd G E mX12_isInTrail) {Q : Option Value → St → Prop} (σ : Net) (hN : netR (S.1 (h + 1)) σ) (hs : szN σ) (d : Nat) (hd : d < (nDa σ).length) (n m : Nat) (hn : n < 8) (hm : m ≤ (aTr (dat σ d)).length) (htx : ∀ x ∈ (aTr (dat σ d)), x < 8) (k1 : n ∈ (aTr (dat σ d)).take m → Q (some (.int 1)) S) (k0 : n ∉ (aTr (dat σ d)).take m → Q (some (.int 0)) S) :
    ∀ (k i : Nat), i + k = m → n ∉ (aTr (dat σ d)).take i → X G E mX12_isInTrail 2 Q S 3 [some (.ref h), some (.int (nI d)), some (.int (nI n)), some (.int (nI m)), some (.int (nI i))] [] := by
  have hl := (dat_len hs hd).1
  intro k
  induction k with
  | zero =>
    intro i h1 h2
    refine X_iload hB dX12_isInTrail_3 rfl ?_
    refine X_iload_n (i := 3) hB dX12_isInTrail_5 rfl rfl ?_
    refine X_icmp_ge (tgt := 28) hB dX12_isInTrail_6 (by decide) (fun c6 => ?_) (fun c6 => absurd c6 (by simp (disch := omega) only [nlit, nI_leI, nI_ltI]; omega))
    refine X_iconst (v := 0) hB dX12_isInTrail_28 (by decide) ?_
    refine X_zret hB rfl (by first | exact Or.inl rfl | exact Or.inr rfl) dX12_isInTrail_29 ?_
    have e9 : i = m := by omega
    subst e9
    exact k0 h2
  | succ k ih =>
    intro i h1 h2
    have b1 : (aTr (dat σ d)).getD i 0 < 8 := htx _ (getD_mem (by omega))
    have hst := mem_take_step (l := (aTr (dat σ d))) (i := i) (x := n) (by omega)
    refine X_iload hB dX12_isInTrail_3 rfl ?_
    refine X_iload_n (i := 3) hB dX12_isInTrail_5 rfl rfl ?_
    refine X_icmp_ge (tgt := 28) hB dX12_isInTrail_6 (by decide) (fun c6 => absurd c6 (by simp (disch := omega) only [nlit, nI_leI, nI_ltI]; omega)) (fun c6 => ?_)
    refine X_aload_n (i := 0) hB dX12_isInTrail_9 rfl rfl ?_
    refine X_iload_n (i := 1) hB dX12_isInTrail_10 rfl rfl ?_
    refine X_iload hB dX12_isInTrail_11 rfl ?_
    refine X_callV hB kX12_280 cw10 hR.1.1 hR.1.2 (c_trailAt hR (by exact hF.of rfl) σ hN hs d hd (i := i) (by omega)) (by decide) (by decide) rfl rfl (Nat.le_of_ble_eq_true rfl) dX12_isInTrail_13 (fun r13 S13 q13 => ?_)
    obtain ⟨rfl, rfl⟩ := q13
    refine X_iload_n (i := 2) hB dX12_isInTrail_16 rfl rfl ?_
    refine X_icmp_ne (tgt := 22) hB dX12_isInTrail_17 (by decide) (fun c17 => ?_) (fun c17 => ?_)
    · refine X_iinc hB dX12_isInTrail_22 rfl rfl (by decide) rfl ?_
      refine X_goto (tgt := 3) hB dX12_isInTrail_25 (by decide) ?_
      refine X_lv ?_ (ih (i + 1) (by omega) (fun q => (hst.mp q).elim h2 (fun q9 => c17 (by rw [q9]))))
      rw [nI_succ]; rfl
    · refine X_iconst (v := 1) hB dX12_isInTrail_20 (by decide) ?_
      refine X_zret hB rfl (by first | exact Or.inl rfl | exact Or.inr rfl) dX12_isInTrail_21 ?_
      have e9 : (aTr (dat σ d)).getD i 0 = n := i32_inj (by omega) (by omega) (by first | exact c17 | exact Decidable.not_not.mp c17)
      have hpre : (aTr (dat σ d)).take (i + 1) <+: (aTr (dat σ d)).take m := List.take_prefix_take_left (by omega)
      exact k1 (hpre.subset (hst.mpr (Or.inr e9)))
set_option maxRecDepth 100000 in
set_option maxHeartbeats 4000000 in
theorem c_isInTrail (hR : RLay G h) (hF : RRef S h) (σ : Net) (hN : netR (S.1 (h + 1)) σ) (hs : szN σ) (d : Nat) (hd : d < (nDa σ).length) (n m : Nat) (hn : n < 8) (hm : m ≤ (aTr (dat σ d)).length) (htx : ∀ x ∈ (aTr (dat σ d)), x < 8) : C G mX12_isInTrail 2 [.ref h, .int (nI d), .int (nI n), .int (nI m)] S (fun r S' => r = some (.int (if n ∈ (aTr (dat σ d)).take m then 1 else 0)) ∧ S = S') := by
  refine C.mk (lv := [some (.ref h), some (.int (nI d)), some (.int (nI n)), some (.int (nI m)), none]) (by decide) (Nat.le_of_ble_eq_true rfl) rfl (fun E hB => ?_)
  refine X_iconst (v := 0) hB dX12_isInTrail_0 (by decide) ?_
  refine X_istore hB dX12_isInTrail_1 (by decide) rfl ?_
  refine X_lv ?_ (l_isInTrail hR hF hB σ hN hs d hd n m hn hm htx (fun q => ⟨by rw [if_pos q], rfl⟩) (fun q => ⟨by rw [if_neg q], rfl⟩) m 0 (by omega) (by simp))
  rw [nI_0]; rfl
def clr (w t : List Nat) : Prop := ∀ i, 1 ≤ i → i < w.length → w.getD i 0 ∉ t
set_option maxRecDepth 100000 in
set_option maxHeartbeats 4000000 in
theorem l_isClear (hR : RLay G h) (hF : RRef S h) {E : Ev} (hB : Bd G E mX12_isClear) {Q : Option Value → St → Prop} (σ : Net) (hN : netR (S.1 (h + 1)) σ) (hs : szN σ) (d : Nat) (hd : d < (nDa σ).length) (w : List Nat) (hw : wayR S h w) (hw8 : w.length ≤ 8) (hwx : ∀ x ∈ w, x < 8) (htx : ∀ x ∈ (aTr (dat σ d)), x < 8) (k1 : clr w (aTr (dat σ d)) → Q (some (.int 1)) S) (k0 : ¬ clr w (aTr (dat σ d)) → Q (some (.int 0)) S) :
    ∀ (k i : Nat), i + k = w.length + 1 → 1 ≤ i → (∀ j, 1 ≤ j → j < i → w.getD j 0 ∉ (aTr (dat σ d))) → X G E mX12_isClear 3 Q S 2 [some (.ref h), some (.int (nI d)), some (.int (nI i))] [] := by
  have hl := (dat_len hs hd).1
  have hd40 := hs.2.1
  intro k
  induction k with
  | zero =>
    intro i h1 h2 h3
    refine X_iload_n (i := 2) hB dX12_isClear_2 rfl rfl ?_
    refine X_aload_n (i := 0) hB dX12_isClear_3 rfl rfl ?_
    refine X_geti hB cw10 fX12_231 rfl hR.1.1 hR.1.2 dX12_isClear_4 ?_
    refine X_topi (y := nI w.length) (hw.1) ?_
    refine X_icmp_ge (tgt := 38) hB dX12_isClear_7 (by decide) (fun c7 => ?_) (fun c7 => absurd c7 (by simp (disch := omega) only [nlit, nI_leI, nI_ltI]; omega))
    refine X_iconst (v := 1) hB dX12_isClear_38 (by decide) ?_
    refine X_zret hB rfl (by first | exact Or.inl rfl | exact Or.inr rfl) dX12_isClear_39 ?_
    exact k1 (fun j g1 g2 => h3 j g1 (by omega))
  | succ k ih =>
    intro i h1 h2 h3
    by_cases hil : i < w.length
    · have b1 : w.getD i 0 < 8 := hwx _ (getD_mem (by omega))
      refine X_iload_n (i := 2) hB dX12_isClear_2 rfl rfl ?_
      refine X_aload_n (i := 0) hB dX12_isClear_3 rfl rfl ?_
      refine X_geti hB cw10 fX12_231 rfl hR.1.1 hR.1.2 dX12_isClear_4 ?_
      refine X_topi (y := nI w.length) (hw.1) ?_
      refine X_icmp_ge (tgt := 38) hB dX12_isClear_7 (by decide) (fun c7 => absurd c7 (by simp (disch := omega) only [nlit, nI_leI, nI_ltI]; omega)) (fun c7 => ?_)
      refine X_aload_n (i := 0) hB dX12_isClear_10 rfl rfl ?_
      refine X_iload_n (i := 1) hB dX12_isClear_11 rfl rfl ?_
      refine X_aload_n (i := 0) hB dX12_isClear_12 rfl rfl ?_
      refine X_getr hB cw10 fX12_33 rfl hR.1.1 hR.1.2 hF.2.2.2.2.2.2.2.1 dX12_isClear_13 ?_
      refine X_iload_n (i := 2) hB dX12_isClear_16 rfl rfl ?_
      refine X_ialdN hB (i) hR.2.2.2.2.2.2.2.2.1.1 hR.2.2.2.2.2.2.2.2.1.2 (by decide) (by first | rfl | (simp (disch := omega) only [nlit, nI_add, nI_mul, nI_sub]; done) | (simp (disch := omega) only [nlit, nI_add, nI_mul, nI_sub]; (congr 1 <;> omega))) (by first | omega | (simp only []; omega)) (hw.2 i (by omega)) dX12_isClear_17 ?_
      refine X_aload_n (i := 0) hB dX12_isClear_18 rfl rfl ?_
      refine X_iload_n (i := 1) hB dX12_isClear_19 rfl rfl ?_
      refine X_iconst (v := 4) hB dX12_isClear_20 (by decide) ?_
      refine X_callV hB kX12_246 cw10 hR.1.1 hR.1.2 (c_ofDE (w := 4) hR (by exact hF.of rfl) rfl (by first | rfl | (simp (disch := omega) only [nlit, nI_add, nI_mul, nI_sub]; done) | (simp (disch := omega) only [nlit, nI_add, nI_mul, nI_sub]; (congr 1 <;> omega))) (by omega) (by omega)) (by decide) (by decide) rfl rfl (Nat.le_of_ble_eq_true rfl) dX12_isClear_21 (fun r21 S21 q21 => ?_)
      obtain ⟨rfl, rfl⟩ := q21
      refine X_topi (y := nI (aTr (dat σ d)).length) ((hN.2.2.2 d hd).2.2.2.2.1) ?_
      refine X_callV hB kX12_283 cw10 hR.1.1 hR.1.2 (c_isInTrail hR (by exact hF.of rfl) σ hN hs d hd (w.getD i 0) (aTr (dat σ d)).length (by omega) (Nat.le_refl _) htx) (by decide) (by decide) rfl rfl (Nat.le_of_ble_eq_true rfl) dX12_isClear_24 (fun r24 S24 q24 => ?_)
      obtain ⟨rfl, rfl⟩ := q24
      refine X_if_eq (tgt := 32) hB dX12_isClear_27 (by decide) (fun c27 => ?_) (fun c27 => ?_)
      · refine X_iinc hB dX12_isClear_32 rfl rfl (by decide) rfl ?_
        refine X_goto (tgt := 2) hB dX12_isClear_35 (by decide) ?_
        refine X_lv ?_ (ih (i + 1) (by omega) (by omega) (fun j g1 g2 => ?_))
        · rw [nI_succ]; rfl
        · rcases Nat.lt_succ_iff_lt_or_eq.mp g2 with g2 | g2
          · exact h3 j g1 g2
          · subst g2
            intro q9
            rw [if_pos (by rw [List.take_length]; exact q9)] at c27
            exact absurd c27 (by decide)
      · refine X_iconst (v := 0) hB dX12_isClear_30 (by decide) ?_
        refine X_zret hB rfl (by first | exact Or.inl rfl | exact Or.inr rfl) dX12_isClear_31 ?_
        refine k0 (fun q => q i h2 hil ?_)
        exact Decidable.byContradiction fun q9 => c27 (by rw [if_neg (fun q8 => q9 (by rw [List.take_length] at q8; exact q8))])
    · refine X_iload_n (i := 2) hB dX12_isClear_2 rfl rfl ?_
      refine X_aload_n (i := 0) hB dX12_isClear_3 rfl rfl ?_
      refine X_geti hB cw10 fX12_231 rfl hR.1.1 hR.1.2 dX12_isClear_4 ?_
      refine X_topi (y := nI w.length) (hw.1) ?_
      refine X_icmp_ge (tgt := 38) hB dX12_isClear_7 (by decide) (fun c7 => ?_) (fun c7 => absurd c7 (by simp (disch := omega) only [nlit, nI_leI, nI_ltI]; omega))
      refine X_iconst (v := 1) hB dX12_isClear_38 (by decide) ?_
      refine X_zret hB rfl (by first | exact Or.inl rfl | exact Or.inr rfl) dX12_isClear_39 ?_
      exact k1 (fun j g1 g2 => h3 j g1 (by omega))
set_option maxRecDepth 100000 in
set_option maxHeartbeats 4000000 in
theorem c_isClear (hR : RLay G h) (hF : RRef S h) (σ : Net) (hN : netR (S.1 (h + 1)) σ) (hs : szN σ) (d : Nat) (hd : d < (nDa σ).length) (w : List Nat) (hw : wayR S h w) (hw8 : w.length ≤ 8) (hwx : ∀ x ∈ w, x < 8) (htx : ∀ x ∈ (aTr (dat σ d)), x < 8) : C G mX12_isClear 3 [.ref h, .int (nI d)] S (fun r S' => (clr w (aTr (dat σ d)) → r = some (.int 1)) ∧ (¬ clr w (aTr (dat σ d)) → r = some (.int 0)) ∧ S = S') := by
  refine C.mk (lv := [some (.ref h), some (.int (nI d)), none]) (by decide) (Nat.le_of_ble_eq_true rfl) rfl (fun E hB => ?_)
  refine X_iconst (v := 1) hB dX12_isClear_0 (by decide) ?_
  refine X_istore_n (i := 2) hB dX12_isClear_1 rfl (by decide) rfl ?_
  exact l_isClear hR hF hB σ hN hs d hd w hw hw8 hwx htx (fun q => ⟨fun _ => rfl, fun q9 => absurd q q9, rfl⟩) (fun q => ⟨fun q9 => absurd q9 q, fun _ => rfl, rfl⟩) w.length 1 (by omega) (Nat.le_refl _) (fun j g1 g2 => by omega)
set_option maxRecDepth 100000 in
set_option maxHeartbeats 4000000 in
theorem l_addsTrail (hR : RLay G h) (hF : RRef S h) {E : Ev} (hB : Bd G E mX12_addsTrail) {Q : Option Value → St → Prop} (σ : Net) (hN : netR (S.1 (h + 1)) σ) (hs : szN σ) (d : Nat) (hd : d < (nDa σ).length) (fin : List Nat) (fm : Int32) (kk : ∀ S2, fr h [h + 7] [20] S S2 → lesR S2 h fin → Q none S2) :
    ∀ (j : Nat) (L : List Nat) (S1 : St), j ≤ (aTr (dat σ d)).length → L.length + j ≤ 9 → fr h [h + 7] [20] S S1 → lesR S1 h L → L ++ ((aTr (dat σ d)).take j).reverse = fin → X G E mX12_addsTrail 2 Q S1 2 [some (.ref h), some (.int (nI d)), some (.int fm), some (.int (nI j + -1))] [] := by
  have hl := (dat_len hs hd).1
  intro j
  induction j with
  | zero =>
    intro L S1 h1 h2 hfr hL hfin
    refine X_iload_n (i := 3) hB dX12_addsTrail_2 rfl rfl ?_
    refine X_if_lt (tgt := 22) hB dX12_addsTrail_3 (by decide) (fun c3 => ?_) (fun c3 => absurd c3 (by decide))
    refine X_vret hB rfl dX12_addsTrail_22 ?_
    rw [List.take_zero, List.reverse_nil, List.append_nil] at hfin
    exact kk S1 hfr (by rw [← hfin]; exact hL)
  | succ j ih =>
    intro L S1 h1 h2 hfr hL hfin
    have hA : S1.1 (h + 1) = S.1 (h + 1) := hfr.2.1 _ (by simp) (by omega)
    have hN1 : netR (S1.1 (h + 1)) σ := by rw [hA]; exact hN
    rw [nI_m1]
    refine X_iload_n (i := 3) hB dX12_addsTrail_2 rfl rfl ?_
    refine X_if_lt (tgt := 22) hB dX12_addsTrail_3 (by decide) (fun c3 => absurd c3 (nI_pos (by omega))) (fun c3 => ?_)
    refine X_aload_n (i := 0) hB dX12_addsTrail_6 rfl rfl ?_
    refine X_aload_n (i := 0) hB dX12_addsTrail_7 rfl rfl ?_
    refine X_iload_n (i := 1) hB dX12_addsTrail_8 rfl rfl ?_
    refine X_iload_n (i := 3) hB dX12_addsTrail_9 rfl rfl ?_
    refine X_callV hB kX12_280 cw10 hR.1.1 hR.1.2 (c_trailAt hR (hfr.ref hF) σ hN1 hs d hd (i := j) (by omega)) (by decide) (by decide) rfl rfl (Nat.le_of_ble_eq_true rfl) dX12_addsTrail_10 (fun r10 S10 q10 => ?_)
    obtain ⟨rfl, rfl⟩ := q10
    refine X_callV hB kX12_295 cw10 hR.1.1 hR.1.2 (c_addsLesson hR (hfr.ref hF) ((aTr (dat σ d)).getD j 0) L (by omega) hL) (by decide) (by decide) rfl rfl (Nat.le_of_ble_eq_true rfl) dX12_addsTrail_13 (fun r13 S13 q13 => ?_)
    obtain ⟨rfl, f13, g13⟩ := q13
    refine X_iinc hB dX12_addsTrail_16 rfl rfl (by decide) rfl ?_
    refine X_goto (tgt := 2) hB dX12_addsTrail_19 (by decide) ?_
    refine ih (L ++ [(aTr (dat σ d)).getD j 0]) _ (by omega) (by rw [List.length_append]; show L.length + 1 + j ≤ 9; omega) (hfr.tr f13) g13 ?_
    rw [← hfin, List.take_succ_eq_append_getElem (by omega), List.reverse_append, List.append_assoc, getD_lt (by omega)]
    rfl
set_option maxRecDepth 100000 in
set_option maxHeartbeats 4000000 in
theorem c_addsTrail (hR : RLay G h) (hF : RRef S h) (σ : Net) (hN : netR (S.1 (h + 1)) σ) (hs : szN σ) (d : Nat) (hd : d < (nDa σ).length) (j : Nat) (hj : j ≤ (aTr (dat σ d)).length) (L : List Nat) (hL9 : L.length + j ≤ 9) (hL : lesR S h L) : C G mX12_addsTrail 2 [.ref h, .int (nI d), .int (nI j + -1)] S (fun r S' => r = none ∧ fr h [h + 7] [20] S S' ∧ lesR S' h (L ++ ((aTr (dat σ d)).take j).reverse)) := by
  refine C.mk (lv := [some (.ref h), some (.int (nI d)), some (.int (nI j + -1)), none]) (by decide) (Nat.le_of_ble_eq_true rfl) rfl (fun E hB => ?_)
  refine X_iload_n (i := 2) hB dX12_addsTrail_0 rfl rfl ?_
  refine X_istore_n (i := 3) hB dX12_addsTrail_1 rfl (by decide) rfl ?_
  exact l_addsTrail hR hF hB σ hN hs d hd _ _ (fun S9 g1 g2 => ⟨rfl, g1, g2⟩) j L S hj hL9 fr.rf hL rfl
end REF
