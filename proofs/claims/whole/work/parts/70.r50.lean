/-! the class: rows of nodes -/
section CLS
variable {G : Gc} {S : St}
set_option maxRecDepth 100000 in
set_option maxHeartbeats 4000000 in
theorem c_X8_at (l : List Nat) (hl : okR l) (v : Int32) : C G mX8_at 0 [.long (rJ l), .int v] S (fun r S' => r = some (.int (nth l v)) ∧ S = S') := by
  refine C.mk (lv := [some (.long (rJ l)), none, some (.int v)]) (by decide) (Nat.le_of_ble_eq_true rfl) rfl (fun E hB => ?_)
  refine X_iload_n (i := 2) hB dX8_at_0 rfl rfl ?_
  refine X_if_lt (tgt := 10) hB dX8_at_1 (by decide) (fun c1 => ?_) (fun c1 => ?_)
  · refine X_iconst (v := (-1)) hB dX8_at_10 (by decide) ?_
    refine X_goto (tgt := 26) hB dX8_at_11 (by decide) ?_
    refine X_iret hB rfl dX8_at_26 ?_
    refine ⟨?_, rfl⟩
    first
      | rw [nth_out (Or.inl c1) hl.1]
      | rw [nth_out (Or.inr (by rw [show nI 8 = (8 : Int32) from rfl]; exact Int32.not_lt.mp c7)) hl.1]
  · refine X_iload_n (i := 2) hB dX8_at_4 rfl rfl ?_
    refine X_bipush (v := 8) hB dX8_at_5 (by decide) ?_
    refine X_icmp_lt (tgt := 14) hB dX8_at_7 (by decide) (fun c7 => ?_) (fun c7 => ?_)
    · obtain ⟨i, hi, rfl⟩ := lt8_of c1 c7
      refine X_lload_n (i := 0) hB dX8_at_14 rfl rfl ?_
      refine X_iconst (v := 4) hB dX8_at_15 (by decide) ?_
      refine X_iload_n (i := 2) hB dX8_at_16 rfl rfl ?_
      refine X_imul hB dX8_at_17 ?_
      refine X_topi (y := nI (4 * i)) (by first | rfl | (simp (disch := omega) only [nlit, nI_add, nI_mul, nI_sub]; done) | (simp (disch := omega) only [nlit, nI_add, nI_mul, nI_sub]; (congr 1 <;> omega))) ?_
      refine X_lushr hB dX8_at_18 ?_
      refine X_topl (y := rJ (l.drop (i))) (rJ_shr hl (by omega)) ?_
      refine X_ldc2 hB qX8_9 dX8_at_19 ?_
      refine X_land hB dX8_at_22 ?_
      refine X_topl (y := lN (pw (l.drop i) % 16)) (rJ_15 (hl.drop i)) ?_
      refine X_l2i hB dX8_at_23 ?_
      refine X_topi (y := nI (pw (l.drop i) % 16)) (lN_i _) ?_
      refine X_iconst (v := 1) hB dX8_at_24 (by decide) ?_
      refine X_isub hB dX8_at_25 ?_
      refine X_iret hB rfl dX8_at_26 ?_
      exact ⟨by rw [at_val hl hi], rfl⟩
    · refine X_iconst (v := (-1)) hB dX8_at_10 (by decide) ?_
      refine X_goto (tgt := 26) hB dX8_at_11 (by decide) ?_
      refine X_iret hB rfl dX8_at_26 ?_
      refine ⟨?_, rfl⟩
      first
        | rw [nth_out (Or.inl c1) hl.1]
        | rw [nth_out (Or.inr (by rw [show nI 8 = (8 : Int32) from rfl]; exact Int32.not_lt.mp c7)) hl.1]
set_option maxRecDepth 100000 in
set_option maxHeartbeats 4000000 in
theorem l_X8_length {E : Ev} (hB : Bd G E mX8_length) {Q : Option Value → St → Prop} (l : List Nat) (hl : okR l) (kk : Q (some (.int (nI l.length))) S) :
    ∀ (k j : Nat), j + k = 8 → j ≤ l.length → X G E mX8_length 0 Q S 2 [some (.long (rJ l)), none, some (.int (nI j))] [] := by
  have h8 := hl.1
  intro k
  induction k with
  | zero =>
    intro j h1 h2
    have e9 : j = l.length := by omega
    subst e9
    refine X_iload_n (i := 2) hB dX8_length_2 rfl rfl ?_
    refine X_bipush (v := 8) hB dX8_length_3 (by decide) ?_
    refine X_icmp_ge (tgt := 24) hB dX8_length_5 (by decide) (fun c5 => ?_) (fun c5 => absurd c5 (by simp (disch := omega) only [nlit, nI_leI, nI_ltI]; omega))
    refine X_iload_n (i := 2) hB dX8_length_24 rfl rfl ?_
    refine X_iret hB rfl dX8_length_25 ?_
    exact kk
  | succ k ih =>
    intro j h1 h2
    refine X_iload_n (i := 2) hB dX8_length_2 rfl rfl ?_
    refine X_bipush (v := 8) hB dX8_length_3 (by decide) ?_
    refine X_icmp_ge (tgt := 24) hB dX8_length_5 (by decide) (fun c5 => absurd c5 (by simp (disch := omega) only [nlit, nI_leI, nI_ltI]; omega)) (fun c5 => ?_)
    refine X_lload_n (i := 0) hB dX8_length_8 rfl rfl ?_
    refine X_iconst (v := 4) hB dX8_length_9 (by decide) ?_
    refine X_iload_n (i := 2) hB dX8_length_10 rfl rfl ?_
    refine X_imul hB dX8_length_11 ?_
    refine X_topi (y := nI (4 * j)) (by first | rfl | (simp (disch := omega) only [nlit, nI_add, nI_mul, nI_sub]; done) | (simp (disch := omega) only [nlit, nI_add, nI_mul, nI_sub]; (congr 1 <;> omega))) ?_
    refine X_lushr hB dX8_length_12 ?_
    refine X_topl (y := rJ (l.drop (j))) (rJ_shr hl (by omega)) ?_
    refine X_lconst (v := 0) hB dX8_length_13 (by decide) ?_
    refine X_lcmp hB dX8_length_14 ?_
    refine X_if_eq (tgt := 24) hB dX8_length_15 (by decide) (fun c15 => ?_) (fun c15 => ?_)
    · have e15 := (cmp_0 (hl.drop j)).mp c15
      have e9 : j = l.length := by rw [List.drop_eq_nil_iff] at e15; omega
      subst e9
      refine X_iload_n (i := 2) hB dX8_length_24 rfl rfl ?_
      refine X_iret hB rfl dX8_length_25 ?_
      exact kk
    · refine X_iinc hB dX8_length_18 rfl rfl (by decide) rfl ?_
      refine X_goto (tgt := 2) hB dX8_length_21 (by decide) ?_
      have e15 : l.drop j ≠ [] := fun q => c15 ((cmp_0 (hl.drop j)).mpr q)
      have e9 : j < l.length := by
        rw [Ne, List.drop_eq_nil_iff] at e15
        omega
      refine X_lv ?_ (ih (j + 1) (by omega) (by omega))
      · rw [nI_succ]; rfl
set_option maxRecDepth 100000 in
set_option maxHeartbeats 4000000 in
theorem c_X8_length (l : List Nat) (hl : okR l)  : C G mX8_length 0 [.long (rJ l)] S (fun r S' => r = some (.int (nI l.length)) ∧ S = S') := by
  refine C.mk (lv := [some (.long (rJ l)), none, none]) (by decide) (Nat.le_of_ble_eq_true rfl) rfl (fun E hB => ?_)
  refine X_iconst (v := 0) hB dX8_length_0 (by decide) ?_
  refine X_istore_n (i := 2) hB dX8_length_1 rfl (by decide) rfl ?_
  refine X_lv ?_ (l_X8_length hB l hl ⟨rfl, rfl⟩ 8 0 (by omega) (by omega))
  rw [nI_0]; rfl
set_option maxRecDepth 100000 in
set_option maxHeartbeats 4000000 in
theorem l_X8_indexOf {E : Ev} (hB : Bd G E mX8_indexOf) {Q : Option Value → St → Prop} (l : List Nat) (hl : okR l) (x : Nat) (hx : x < 8) (kk : Q (some (.int (ixR l x))) S) :
    ∀ (k j : Nat), j + k = 8 → j ≤ l.length → (∀ i, i < j → l.getD i 0 ≠ x) → X G E mX8_indexOf 0 Q S 2 [some (.long (rJ l)), none, some (.int (nI x)), some (.int (nI j))] [] := by
  have h8 := hl.1
  intro k
  induction k with
  | zero =>
    intro j h1 h2 h3
    have e9 : ixR l x = -1 := by unfold ixR; rw [if_neg (not_memN (fun i hi => h3 i (by omega)))]
    rw [e9] at kk
    refine X_iload_n (i := 3) hB dX8_indexOf_2 rfl rfl ?_
    refine X_bipush (v := 8) hB dX8_indexOf_3 (by decide) ?_
    refine X_icmp_ge (tgt := 43) hB dX8_indexOf_5 (by decide) (fun c5 => ?_) (fun c5 => absurd c5 (by simp (disch := omega) only [nlit, nI_leI, nI_ltI]; omega))
    refine X_iconst (v := (-1)) hB dX8_indexOf_43 (by decide) ?_
    refine X_iret hB rfl dX8_indexOf_44 ?_
    exact kk
  | succ k ih =>
    intro j h1 h2 h3
    refine X_iload_n (i := 3) hB dX8_indexOf_2 rfl rfl ?_
    refine X_bipush (v := 8) hB dX8_indexOf_3 (by decide) ?_
    refine X_icmp_ge (tgt := 43) hB dX8_indexOf_5 (by decide) (fun c5 => absurd c5 (by simp (disch := omega) only [nlit, nI_leI, nI_ltI]; omega)) (fun c5 => ?_)
    refine X_lload_n (i := 0) hB dX8_indexOf_8 rfl rfl ?_
    refine X_iconst (v := 4) hB dX8_indexOf_9 (by decide) ?_
    refine X_iload_n (i := 3) hB dX8_indexOf_10 rfl rfl ?_
    refine X_imul hB dX8_indexOf_11 ?_
    refine X_topi (y := nI (4 * j)) (by first | rfl | (simp (disch := omega) only [nlit, nI_add, nI_mul, nI_sub]; done) | (simp (disch := omega) only [nlit, nI_add, nI_mul, nI_sub]; (congr 1 <;> omega))) ?_
    refine X_lushr hB dX8_indexOf_12 ?_
    refine X_topl (y := rJ (l.drop (j))) (rJ_shr hl (by omega)) ?_
    refine X_lconst (v := 0) hB dX8_indexOf_13 (by decide) ?_
    refine X_lcmp hB dX8_indexOf_14 ?_
    refine X_if_eq (tgt := 43) hB dX8_indexOf_15 (by decide) (fun c15 => ?_) (fun c15 => ?_)
    · have e15 := (cmp_0 (hl.drop j)).mp c15
      have e9 : j = l.length := by rw [List.drop_eq_nil_iff] at e15; omega
      have e10 : ixR l x = -1 := by unfold ixR; rw [if_neg (not_memN (fun i hi => h3 i (by omega)))]
      rw [e10] at kk
      refine X_iconst (v := (-1)) hB dX8_indexOf_43 (by decide) ?_
      refine X_iret hB rfl dX8_indexOf_44 ?_
      exact kk
    · have e15 : l.drop j ≠ [] := fun q => c15 ((cmp_0 (hl.drop j)).mpr q)
      have e9 : j < l.length := by
        rw [Ne, List.drop_eq_nil_iff] at e15
        omega
      have hg := hl.2 _ (getD_mem (d := 0) e9)
      refine X_lload_n (i := 0) hB dX8_indexOf_18 rfl rfl ?_
      refine X_iconst (v := 4) hB dX8_indexOf_19 (by decide) ?_
      refine X_iload_n (i := 3) hB dX8_indexOf_20 rfl rfl ?_
      refine X_imul hB dX8_indexOf_21 ?_
      refine X_topi (y := nI (4 * j)) (by first | rfl | (simp (disch := omega) only [nlit, nI_add, nI_mul, nI_sub]; done) | (simp (disch := omega) only [nlit, nI_add, nI_mul, nI_sub]; (congr 1 <;> omega))) ?_
      refine X_lushr hB dX8_indexOf_22 ?_
      refine X_topl (y := rJ (l.drop (j))) (rJ_shr hl (by omega)) ?_
      refine X_ldc2 hB qX8_9 dX8_indexOf_23 ?_
      refine X_land hB dX8_indexOf_26 ?_
      refine X_topl (y := lN (l.getD j 0 + 1)) (by rw [rJ_15 (hl.drop j), pw_hd hl.2 e9]) ?_
      refine X_iload_n (i := 2) hB dX8_indexOf_27 rfl rfl ?_
      refine X_iconst (v := 1) hB dX8_indexOf_28 (by decide) ?_
      refine X_iadd hB dX8_indexOf_29 ?_
      refine X_topi (y := nI (x + 1)) (nI_1 _) ?_
      refine X_i2l hB dX8_indexOf_30 ?_
      refine X_topl (y := lN (x + 1)) (nI_l (by omega)) ?_
      refine X_lcmp hB dX8_indexOf_31 ?_
      refine X_if_ne (tgt := 37) hB dX8_indexOf_32 (by decide) (fun c32 => ?_) (fun c32 => ?_)
      · refine X_iinc hB dX8_indexOf_37 rfl rfl (by decide) rfl ?_
        refine X_goto (tgt := 2) hB dX8_indexOf_40 (by decide) ?_
        refine X_lv ?_ (ih (j + 1) (by omega) (by omega) (fun i hi => ?_))
        · rw [nI_succ]; rfl
        · by_cases e : i = j
          · subst e
            intro q
            exact c32 (cmp_eq.mpr (by rw [q]))
          · exact h3 i (by omega)
      · refine X_iload_n (i := 3) hB dX8_indexOf_35 rfl rfl ?_
        refine X_iret hB rfl dX8_indexOf_36 ?_
        have e32 := lN_inj (by omega) (by omega) (cmp_eq.mp c32)
        have e10 := idxOf_iff e9 (show l.getD j 0 = x by omega) h3
        have e11 : ixR l x = nI j := by unfold ixR; rw [if_pos e10.1, e10.2]
        rw [e11] at kk
        exact kk
set_option maxRecDepth 100000 in
set_option maxHeartbeats 4000000 in
theorem c_X8_indexOf (l : List Nat) (hl : okR l) (x : Nat) (hx : x < 8) : C G mX8_indexOf 0 [.long (rJ l), .int (nI x)] S (fun r S' => r = some (.int (ixR l x)) ∧ S = S') := by
  refine C.mk (lv := [some (.long (rJ l)), none, some (.int (nI x)), none]) (by decide) (Nat.le_of_ble_eq_true rfl) rfl (fun E hB => ?_)
  refine X_iconst (v := 0) hB dX8_indexOf_0 (by decide) ?_
  refine X_istore_n (i := 3) hB dX8_indexOf_1 rfl (by decide) rfl ?_
  refine X_lv ?_ (l_X8_indexOf hB l hl x hx ⟨rfl, rfl⟩ 8 0 (by omega) (by omega) (fun i hi => by omega))
  rw [nI_0]; rfl
theorem ixR_neg {l : List Nat} {x : Nat} (hl : l.length ≤ 8) : ixR l x = -1 ↔ x ∉ l := by
  unfold ixR
  split
  · rename_i q
    have := List.idxOf_lt_length_of_mem q
    exact ⟨fun e => absurd e (nI_neg1 (by omega)), fun e => absurd q e⟩
  · rename_i q
    exact ⟨fun _ => q, fun _ => rfl⟩
set_option maxRecDepth 100000 in
set_option maxHeartbeats 4000000 in
theorem c_X8_holds (l : List Nat) (hl : okR l) (x : Nat) (hx : x < 8) : C G mX8_holds 1 [.long (rJ l), .int (nI x)] S (fun r S' => r = some (.int (if x ∈ l then 1 else 0)) ∧ S = S') := by
  refine C.mk (lv := [some (.long (rJ l)), none, some (.int (nI x))]) (by decide) (Nat.le_of_ble_eq_true rfl) rfl (fun E hB => ?_)
  refine X_lload_n (i := 0) hB dX8_holds_0 rfl rfl ?_
  refine X_iload_n (i := 2) hB dX8_holds_1 rfl rfl ?_
  refine X_callS hB kX8_11 (c_X8_indexOf l hl x hx) (by decide) (by decide) rfl rfl (Nat.le_of_ble_eq_true rfl) dX8_holds_2 (fun r2 S2 q2 => ?_)
  obtain ⟨rfl, rfl⟩ := q2
  refine X_iconst (v := (-1)) hB dX8_holds_5 (by decide) ?_
  refine X_icmp_eq (tgt := 13) hB dX8_holds_6 (by decide) (fun c6 => ?_) (fun c6 => ?_)
  · refine X_iconst (v := 0) hB dX8_holds_13 (by decide) ?_
    refine X_zret hB rfl (by first | exact Or.inl rfl | exact Or.inr rfl) dX8_holds_14 ?_
    refine ⟨?_, rfl⟩
    first
      | rw [if_neg ((ixR_neg hl.1).mp c6)]
      | rw [if_pos (Classical.byContradiction (fun q => c6 ((ixR_neg hl.1).mpr q)))]
  · refine X_iconst (v := 1) hB dX8_holds_9 (by decide) ?_
    refine X_goto (tgt := 14) hB dX8_holds_10 (by decide) ?_
    refine X_zret hB rfl (by first | exact Or.inl rfl | exact Or.inr rfl) dX8_holds_14 ?_
    refine ⟨?_, rfl⟩
    first
      | rw [if_neg ((ixR_neg hl.1).mp c6)]
      | rw [if_pos (Classical.byContradiction (fun q => c6 ((ixR_neg hl.1).mpr q)))]
set_option maxRecDepth 100000 in
set_option maxHeartbeats 4000000 in
theorem c_X8_with (l : List Nat) (hl : okR l) (x : Nat) (hx : x < 8) : C G mX8_with 1 [.long (rJ l), .int (nI x)] S (fun r S' => r = some (.long (if l.length < 8 then rJ (l ++ [x]) else rJ l)) ∧ S = S') := by
  have h8 := hl.1
  refine C.mk (lv := [some (.long (rJ l)), none, some (.int (nI x)), none]) (by decide) (Nat.le_of_ble_eq_true rfl) rfl (fun E hB => ?_)
  refine X_lload_n (i := 0) hB dX8_with_0 rfl rfl ?_
  refine X_callS hB kX8_17 (c_X8_length l hl) (by decide) (by decide) rfl rfl (Nat.le_of_ble_eq_true rfl) dX8_with_1 (fun r1 S1 q1 => ?_)
  obtain ⟨rfl, rfl⟩ := q1
  refine X_istore_n (i := 3) hB dX8_with_4 rfl (by decide) rfl ?_
  refine X_iload_n (i := 3) hB dX8_with_5 rfl rfl ?_
  refine X_bipush (v := 8) hB dX8_with_6 (by decide) ?_
  refine X_icmp_ge (tgt := 24) hB dX8_with_8 (by decide) (fun c8 => ?_) (fun c8 => ?_)
  · have e8 : ¬ l.length < 8 := by
      rw [show (8 : Int32) = nI 8 from rfl, nI_leI (by omega) (by omega)] at c8
      omega
    refine X_lload_n (i := 0) hB dX8_with_24 rfl rfl ?_
    refine X_lret hB rfl dX8_with_25 ?_
    refine ⟨?_, rfl⟩
    first
      | (rw [if_pos e8]; exact congrArg (fun z => some (Value.long z)) (rJ_snoc hl hx e8))
      | rw [if_neg e8]
  · have e8 : l.length < 8 := by
      rw [show (8 : Int32) = nI 8 from rfl, nI_leI (by omega) (by omega)] at c8
      omega
    refine X_lload_n (i := 0) hB dX8_with_11 rfl rfl ?_
    refine X_iload_n (i := 2) hB dX8_with_12 rfl rfl ?_
    refine X_iconst (v := 1) hB dX8_with_13 (by decide) ?_
    refine X_iadd hB dX8_with_14 ?_
    refine X_i2l hB dX8_with_15 ?_
    refine X_iconst (v := 4) hB dX8_with_16 (by decide) ?_
    refine X_iload_n (i := 3) hB dX8_with_17 rfl rfl ?_
    refine X_imul hB dX8_with_18 ?_
    refine X_topi (y := nI (4 * l.length)) (by first | rfl | (simp (disch := omega) only [nlit, nI_add, nI_mul, nI_sub]; done) | (simp (disch := omega) only [nlit, nI_add, nI_mul, nI_sub]; (congr 1 <;> omega))) ?_
    refine X_lshl hB dX8_with_19 ?_
    refine X_lor hB dX8_with_20 ?_
    refine X_goto (tgt := 25) hB dX8_with_21 (by decide) ?_
    refine X_lret hB rfl dX8_with_25 ?_
    refine ⟨?_, rfl⟩
    first
      | (rw [if_pos e8]; exact congrArg (fun z => some (Value.long z)) (rJ_snoc hl hx e8))
      | rw [if_neg e8]
set_option maxRecDepth 100000 in
set_option maxHeartbeats 4000000 in
theorem c_X8_first (l : List Nat) (hl : okR l) (n : Nat) (hn : n ≤ 8) : C G mX8_first 0 [.long (rJ l), .int (nI n)] S (fun r S' => r = some (.long (rJ (l.take n))) ∧ S = S') := by
  refine C.mk (lv := [some (.long (rJ l)), none, some (.int (nI n))]) (by decide) (Nat.le_of_ble_eq_true rfl) rfl (fun E hB => ?_)
  refine X_iload_n (i := 2) hB dX8_first_0 rfl rfl ?_
  refine X_if_lt (tgt := 10) hB dX8_first_1 (by decide) (fun c1 => absurd c1 (nI_pos (by omega))) (fun c1 => ?_)
  refine X_iload_n (i := 2) hB dX8_first_4 rfl rfl ?_
  refine X_bipush (v := 8) hB dX8_first_5 (by decide) ?_
  refine X_icmp_le (tgt := 14) hB dX8_first_7 (by decide) (fun c7 => ?_) (fun c7 => absurd c7 (by simp (disch := omega) only [nlit, nI_leI, nI_ltI]; omega))
  refine X_lload_n (i := 0) hB dX8_first_14 rfl rfl ?_
  refine X_lconst (v := 1) hB dX8_first_15 (by decide) ?_
  refine X_iconst (v := 4) hB dX8_first_16 (by decide) ?_
  refine X_iload_n (i := 2) hB dX8_first_17 rfl rfl ?_
  refine X_imul hB dX8_first_18 ?_
  refine X_topi (y := nI (4 * n)) (by first | rfl | (simp (disch := omega) only [nlit, nI_add, nI_mul, nI_sub]; done) | (simp (disch := omega) only [nlit, nI_add, nI_mul, nI_sub]; (congr 1 <;> omega))) ?_
  refine X_lshl hB dX8_first_19 ?_
  refine X_lconst (v := 1) hB dX8_first_20 (by decide) ?_
  refine X_lsub hB dX8_first_21 ?_
  refine X_land hB dX8_first_22 ?_
  refine X_lret hB rfl dX8_first_23 ?_
  exact ⟨congrArg (fun z => some (Value.long z)) (rJ_take hl hn), rfl⟩
set_option maxRecDepth 100000 in
set_option maxHeartbeats 4000000 in
theorem c_X8_from (l : List Nat) (hl : okR l) (n : Nat) (hn : n ≤ 8) : C G mX8_from 0 [.long (rJ l), .int (nI n)] S (fun r S' => r = some (.long (rJ (l.drop n))) ∧ S = S') := by
  refine C.mk (lv := [some (.long (rJ l)), none, some (.int (nI n))]) (by decide) (Nat.le_of_ble_eq_true rfl) rfl (fun E hB => ?_)
  refine X_iload_n (i := 2) hB dX8_from_0 rfl rfl ?_
  refine X_if_lt (tgt := 10) hB dX8_from_1 (by decide) (fun c1 => absurd c1 (nI_pos (by omega))) (fun c1 => ?_)
  refine X_iload_n (i := 2) hB dX8_from_4 rfl rfl ?_
  refine X_bipush (v := 8) hB dX8_from_5 (by decide) ?_
  refine X_icmp_le (tgt := 14) hB dX8_from_7 (by decide) (fun c7 => ?_) (fun c7 => absurd c7 (by simp (disch := omega) only [nlit, nI_leI, nI_ltI]; omega))
  refine X_lload_n (i := 0) hB dX8_from_14 rfl rfl ?_
  refine X_iconst (v := 4) hB dX8_from_15 (by decide) ?_
  refine X_iload_n (i := 2) hB dX8_from_16 rfl rfl ?_
  refine X_imul hB dX8_from_17 ?_
  refine X_topi (y := nI (4 * n)) (by first | rfl | (simp (disch := omega) only [nlit, nI_add, nI_mul, nI_sub]; done) | (simp (disch := omega) only [nlit, nI_add, nI_mul, nI_sub]; (congr 1 <;> omega))) ?_
  refine X_lushr hB dX8_from_18 ?_
  refine X_topl (y := rJ (l.drop (n))) (rJ_shr hl (by omega)) ?_
  refine X_lret hB rfl dX8_from_19 ?_
  exact ⟨rfl, rfl⟩
set_option maxRecDepth 100000 in
set_option maxHeartbeats 4000000 in
theorem c_X8_behind (l : List Nat) (hl : okR l) (x : Nat) (hx : x < 8) : C G mX8_behind 1 [.int (nI x), .long (rJ l)] S (fun r S' => r = some (.long (rJ (x :: l.take 7))) ∧ S = S') := by
  refine C.mk (lv := [some (.int (nI x)), some (.long (rJ l)), none]) (by decide) (Nat.le_of_ble_eq_true rfl) rfl (fun E hB => ?_)
  refine X_lload_n (i := 1) hB dX8_behind_0 rfl rfl ?_
  refine X_bipush (v := 7) hB dX8_behind_1 (by decide) ?_
  refine X_callS hB kX8_21 (c_X8_first l hl 7 (by decide)) (by decide) (by decide) rfl rfl (Nat.le_of_ble_eq_true rfl) dX8_behind_3 (fun r3 S3 q3 => ?_)
  obtain ⟨rfl, rfl⟩ := q3
  refine X_iconst (v := 4) hB dX8_behind_6 (by decide) ?_
  refine X_lshl hB dX8_behind_7 ?_
  refine X_iload_n (i := 0) hB dX8_behind_8 rfl rfl ?_
  refine X_iconst (v := 1) hB dX8_behind_9 (by decide) ?_
  refine X_iadd hB dX8_behind_10 ?_
  refine X_i2l hB dX8_behind_11 ?_
  refine X_lor hB dX8_behind_12 ?_
  refine X_lret hB rfl dX8_behind_13 ?_
  exact ⟨congrArg (fun z => some (Value.long z)) (rJ_cons (hl.take 7) hx (by rw [List.length_take]; omega)), rfl⟩
set_option maxRecDepth 100000 in
set_option maxHeartbeats 4000000 in
theorem l_X8_reversed {E : Ev} (hB : Bd G E mX8_reversed) {Q : Option Value → St → Prop} (l : List Nat) (hl : okR l) (kk : Q (some (.long (rJ l.reverse))) S) :
    ∀ (k j : Nat), j + k = 8 → j ≤ l.length → X G E mX8_reversed 0 Q S 5 [some (.long (rJ l)), none, some (.long (rJ (l.take j).reverse)), none, some (.int (nI j))] [] := by
  have h8 := hl.1
  intro k
  induction k with
  | zero =>
    intro j h1 h2
    have e9 : (l.take j).reverse = l.reverse := by rw [List.take_of_length_le (by omega)]
    rw [e9]
    refine X_iload hB dX8_reversed_5 rfl ?_
    refine X_bipush (v := 8) hB dX8_reversed_7 (by decide) ?_
    refine X_icmp_ge (tgt := 44) hB dX8_reversed_9 (by decide) (fun c9 => ?_) (fun c9 => absurd c9 (by simp (disch := omega) only [nlit, nI_leI, nI_ltI]; omega))
    refine X_lload_n (i := 2) hB dX8_reversed_44 rfl rfl ?_
    refine X_lret hB rfl dX8_reversed_45 ?_
    exact kk
  | succ k ih =>
    intro j h1 h2
    refine X_iload hB dX8_reversed_5 rfl ?_
    refine X_bipush (v := 8) hB dX8_reversed_7 (by decide) ?_
    refine X_icmp_ge (tgt := 44) hB dX8_reversed_9 (by decide) (fun c9 => absurd c9 (by simp (disch := omega) only [nlit, nI_leI, nI_ltI]; omega)) (fun c9 => ?_)
    refine X_lload_n (i := 0) hB dX8_reversed_12 rfl rfl ?_
    refine X_iconst (v := 4) hB dX8_reversed_13 (by decide) ?_
    refine X_iload hB dX8_reversed_14 rfl ?_
    refine X_imul hB dX8_reversed_16 ?_
    refine X_topi (y := nI (4 * j)) (by first | rfl | (simp (disch := omega) only [nlit, nI_add, nI_mul, nI_sub]; done) | (simp (disch := omega) only [nlit, nI_add, nI_mul, nI_sub]; (congr 1 <;> omega))) ?_
    refine X_lushr hB dX8_reversed_17 ?_
    refine X_topl (y := rJ (l.drop (j))) (rJ_shr hl (by omega)) ?_
    refine X_lconst (v := 0) hB dX8_reversed_18 (by decide) ?_
    refine X_lcmp hB dX8_reversed_19 ?_
    refine X_if_eq (tgt := 44) hB dX8_reversed_20 (by decide) (fun c20 => ?_) (fun c20 => ?_)
    · have e15 := (cmp_0 (hl.drop j)).mp c20
      rw [List.drop_eq_nil_iff] at e15
      have e9 : (l.take j).reverse = l.reverse := by rw [List.take_of_length_le (by omega)]
      rw [e9]
      refine X_lload_n (i := 2) hB dX8_reversed_44 rfl rfl ?_
      refine X_lret hB rfl dX8_reversed_45 ?_
      exact kk
    · have e15 : l.drop j ≠ [] := fun q => c20 ((cmp_0 (hl.drop j)).mpr q)
      have e9 : j < l.length := by
        rw [Ne, List.drop_eq_nil_iff] at e15
        omega
      have hg := hl.2 _ (getD_mem (d := 0) e9)
      refine X_lload_n (i := 2) hB dX8_reversed_23 rfl rfl ?_
      refine X_iconst (v := 4) hB dX8_reversed_24 (by decide) ?_
      refine X_lshl hB dX8_reversed_25 ?_
      refine X_lload_n (i := 0) hB dX8_reversed_26 rfl rfl ?_
      refine X_iconst (v := 4) hB dX8_reversed_27 (by decide) ?_
      refine X_iload hB dX8_reversed_28 rfl ?_
      refine X_imul hB dX8_reversed_30 ?_
      refine X_topi (y := nI (4 * j)) (by first | rfl | (simp (disch := omega) only [nlit, nI_add, nI_mul, nI_sub]; done) | (simp (disch := omega) only [nlit, nI_add, nI_mul, nI_sub]; (congr 1 <;> omega))) ?_
      refine X_lushr hB dX8_reversed_31 ?_
      refine X_topl (y := rJ (l.drop (j))) (rJ_shr hl (by omega)) ?_
      refine X_ldc2 hB qX8_9 dX8_reversed_32 ?_
      refine X_land hB dX8_reversed_35 ?_
      refine X_topl (y := lN (l.getD j 0 + 1)) (by rw [rJ_15 (hl.drop j), pw_hd hl.2 e9]) ?_
      refine X_lor hB dX8_reversed_36 ?_
      refine X_topl (y := rJ (l.take (j + 1)).reverse) (by
        rw [show (l.take (j + 1)).reverse = l.getD j 0 :: (l.take j).reverse by rw [List.take_add_one, List.getElem?_eq_getElem e9, getD_lt e9]; simp]
        exact rJ_rev (hl.take j).rev hg (by rw [List.length_reverse, List.length_take]; omega)) ?_
      refine X_lstore_n (i := 2) hB dX8_reversed_37 rfl (by decide) rfl ?_
      refine X_iinc hB dX8_reversed_38 rfl rfl (by decide) rfl ?_
      refine X_goto (tgt := 5) hB dX8_reversed_41 (by decide) ?_
      refine X_lv ?_ (ih (j + 1) (by omega) (by omega))
      · rw [nI_succ]; rfl
set_option maxRecDepth 100000 in
set_option maxHeartbeats 4000000 in
theorem c_X8_reversed (l : List Nat) (hl : okR l)  : C G mX8_reversed 0 [.long (rJ l)] S (fun r S' => r = some (.long (rJ l.reverse)) ∧ S = S') := by
  refine C.mk (lv := [some (.long (rJ l)), none, none, none, none]) (by decide) (Nat.le_of_ble_eq_true rfl) rfl (fun E hB => ?_)
  refine X_lconst (v := 0) hB dX8_reversed_0 (by decide) ?_
  refine X_lstore_n (i := 2) hB dX8_reversed_1 rfl (by decide) rfl ?_
  refine X_iconst (v := 0) hB dX8_reversed_2 (by decide) ?_
  refine X_istore hB dX8_reversed_3 (by decide) rfl ?_
  refine X_lv ?_ (l_X8_reversed hB l hl ⟨rfl, rfl⟩ 8 0 (by omega) (by omega))
  rw [nI_0]; rfl
theorem sh1 : ∀ x, x < 8 → (1 : Int32) <<< (nI x &&& 31) = nI (1 <<< x) := by decide +kernel
theorem nI_or (a b : Nat) : nI a ||| nI b = nI (a ||| b) := by
  refine Int32.toBitVec_inj.mp ?_
  rw [Int32.toBitVec_or]
  exact (BitVec.ofNat_or (w := 32)).symm
set_option maxRecDepth 100000 in
set_option maxHeartbeats 4000000 in
theorem l_X8_nodes {E : Ev} (hB : Bd G E mX8_nodes) {Q : Option Value → St → Prop} (l : List Nat) (hl : okR l) (kk : Q (some (.int (nI (msk l)))) S) :
    ∀ (k j : Nat), j + k = 8 → j ≤ l.length → X G E mX8_nodes 0 Q S 4 [some (.long (rJ l)), none, some (.int (nI (msk (l.take j)))), some (.int (nI j))] [] := by
  have h8 := hl.1
  intro k
  induction k with
  | zero =>
    intro j h1 h2
    have e9 : l.take j = l := List.take_of_length_le (by omega)
    rw [e9]
    refine X_iload_n (i := 3) hB dX8_nodes_4 rfl rfl ?_
    refine X_bipush (v := 8) hB dX8_nodes_5 (by decide) ?_
    refine X_icmp_ge (tgt := 43) hB dX8_nodes_7 (by decide) (fun c7 => ?_) (fun c7 => absurd c7 (by simp (disch := omega) only [nlit, nI_leI, nI_ltI]; omega))
    refine X_iload_n (i := 2) hB dX8_nodes_43 rfl rfl ?_
    refine X_iret hB rfl dX8_nodes_44 ?_
    exact kk
  | succ k ih =>
    intro j h1 h2
    refine X_iload_n (i := 3) hB dX8_nodes_4 rfl rfl ?_
    refine X_bipush (v := 8) hB dX8_nodes_5 (by decide) ?_
    refine X_icmp_ge (tgt := 43) hB dX8_nodes_7 (by decide) (fun c7 => absurd c7 (by simp (disch := omega) only [nlit, nI_leI, nI_ltI]; omega)) (fun c7 => ?_)
    refine X_lload_n (i := 0) hB dX8_nodes_10 rfl rfl ?_
    refine X_iconst (v := 4) hB dX8_nodes_11 (by decide) ?_
    refine X_iload_n (i := 3) hB dX8_nodes_12 rfl rfl ?_
    refine X_imul hB dX8_nodes_13 ?_
    refine X_topi (y := nI (4 * j)) (by first | rfl | (simp (disch := omega) only [nlit, nI_add, nI_mul, nI_sub]; done) | (simp (disch := omega) only [nlit, nI_add, nI_mul, nI_sub]; (congr 1 <;> omega))) ?_
    refine X_lushr hB dX8_nodes_14 ?_
    refine X_topl (y := rJ (l.drop (j))) (rJ_shr hl (by omega)) ?_
    refine X_lconst (v := 0) hB dX8_nodes_15 (by decide) ?_
    refine X_lcmp hB dX8_nodes_16 ?_
    refine X_if_eq (tgt := 43) hB dX8_nodes_17 (by decide) (fun c17 => ?_) (fun c17 => ?_)
    · have e15 := (cmp_0 (hl.drop j)).mp c17
      rw [List.drop_eq_nil_iff] at e15
      have e9 : l.take j = l := List.take_of_length_le (by omega)
      rw [e9]
      refine X_iload_n (i := 2) hB dX8_nodes_43 rfl rfl ?_
      refine X_iret hB rfl dX8_nodes_44 ?_
      exact kk
    · have e15 : l.drop j ≠ [] := fun q => c17 ((cmp_0 (hl.drop j)).mpr q)
      have e9 : j < l.length := by
        rw [Ne, List.drop_eq_nil_iff] at e15
        omega
      have hg := hl.2 _ (getD_mem (d := 0) e9)
      refine X_iload_n (i := 2) hB dX8_nodes_20 rfl rfl ?_
      refine X_iconst (v := 1) hB dX8_nodes_21 (by decide) ?_
      refine X_lload_n (i := 0) hB dX8_nodes_22 rfl rfl ?_
      refine X_iconst (v := 4) hB dX8_nodes_23 (by decide) ?_
      refine X_iload_n (i := 3) hB dX8_nodes_24 rfl rfl ?_
      refine X_imul hB dX8_nodes_25 ?_
      refine X_topi (y := nI (4 * j)) (by first | rfl | (simp (disch := omega) only [nlit, nI_add, nI_mul, nI_sub]; done) | (simp (disch := omega) only [nlit, nI_add, nI_mul, nI_sub]; (congr 1 <;> omega))) ?_
      refine X_lushr hB dX8_nodes_26 ?_
      refine X_topl (y := rJ (l.drop (j))) (rJ_shr hl (by omega)) ?_
      refine X_ldc2 hB qX8_9 dX8_nodes_27 ?_
      refine X_land hB dX8_nodes_30 ?_
      refine X_topl (y := lN (l.getD j 0 + 1)) (by rw [rJ_15 (hl.drop j), pw_hd hl.2 e9]) ?_
      refine X_l2i hB dX8_nodes_31 ?_
      refine X_topi (y := nI (l.getD j 0 + 1)) (lN_i _) ?_
      refine X_iconst (v := 1) hB dX8_nodes_32 (by decide) ?_
      refine X_isub hB dX8_nodes_33 ?_
      refine X_topi (y := nI (l.getD j 0)) (nI_pred _) ?_
      refine X_ishl hB dX8_nodes_34 ?_
      refine X_topi (y := nI (1 <<< l.getD j 0)) (sh1 _ hg) ?_
      refine X_ior hB dX8_nodes_35 ?_
      refine X_topi (y := nI (msk (l.take (j + 1)))) (by
        rw [nI_or, List.take_add_one, List.getElem?_eq_getElem e9, Option.toList_some, msk_snoc, getD_lt e9]) ?_
      refine X_istore_n (i := 2) hB dX8_nodes_36 rfl (by decide) rfl ?_
      refine X_iinc hB dX8_nodes_37 rfl rfl (by decide) rfl ?_
      refine X_goto (tgt := 4) hB dX8_nodes_40 (by decide) ?_
      refine X_lv ?_ (ih (j + 1) (by omega) (by omega))
      · rw [nI_succ]; rfl
set_option maxRecDepth 100000 in
set_option maxHeartbeats 4000000 in
theorem c_X8_nodes (l : List Nat) (hl : okR l)  : C G mX8_nodes 0 [.long (rJ l)] S (fun r S' => r = some (.int (nI (msk l))) ∧ S = S') := by
  refine C.mk (lv := [some (.long (rJ l)), none, none, none]) (by decide) (Nat.le_of_ble_eq_true rfl) rfl (fun E hB => ?_)
  refine X_iconst (v := 0) hB dX8_nodes_0 (by decide) ?_
  refine X_istore_n (i := 2) hB dX8_nodes_1 rfl (by decide) rfl ?_
  refine X_iconst (v := 0) hB dX8_nodes_2 (by decide) ?_
  refine X_istore_n (i := 3) hB dX8_nodes_3 rfl (by decide) rfl ?_
  refine X_lv ?_ (l_X8_nodes hB l hl ⟨rfl, rfl⟩ 8 0 (by omega) (by omega))
  rw [nI_0]; rfl
set_option maxRecDepth 100000 in
set_option maxHeartbeats 4000000 in
theorem c_X8_joined (l : List Nat) (hl : okR l) (m : List Nat) (hm : okR m) (hj : (∀ x ∈ l, x ∉ m) → l.length + m.length ≤ 8) : C G mX8_joined 1 [.long (rJ l), .long (rJ m)] S (fun r S' => r = some (.long (if (∀ x ∈ l, x ∉ m) then rJ (l ++ m) else 0)) ∧ S = S') := by
  have h8 := hl.1
  have q1 := msk_lt hl.2
  have q2 := msk_lt hm.2
  have q3 : msk l &&& msk m < 256 := Nat.lt_of_le_of_lt Nat.and_le_left q1
  refine C.mk (lv := [some (.long (rJ l)), none, some (.long (rJ m)), none]) (by decide) (Nat.le_of_ble_eq_true rfl) rfl (fun E hB => ?_)
  refine X_lload_n (i := 0) hB dX8_joined_0 rfl rfl ?_
  refine X_callS hB kX8_25 (c_X8_nodes l hl) (by decide) (by decide) rfl rfl (Nat.le_of_ble_eq_true rfl) dX8_joined_1 (fun r1 S1 q1 => ?_)
  obtain ⟨rfl, rfl⟩ := q1
  refine X_lload_n (i := 2) hB dX8_joined_4 rfl rfl ?_
  refine X_callS hB kX8_25 (c_X8_nodes m hm) (by decide) (by decide) rfl rfl (Nat.le_of_ble_eq_true rfl) dX8_joined_5 (fun r5 S5 q5 => ?_)
  obtain ⟨rfl, rfl⟩ := q5
  refine X_iand hB dX8_joined_8 ?_
  refine X_topi (y := nI (msk l &&& msk m)) (nI_and _ _) ?_
  refine X_if_eq (tgt := 16) hB dX8_joined_9 (by decide) (fun c9 => ?_) (fun c9 => ?_)
  · have e9 : ∀ x ∈ l, x ∉ m := msk_dis.mp (by rw [show (0 : Int32) = nI 0 from rfl, nI_eq (by omega) (by omega)] at c9; exact c9)
    refine X_lload_n (i := 0) hB dX8_joined_16 rfl rfl ?_
    refine X_lload_n (i := 2) hB dX8_joined_17 rfl rfl ?_
    refine X_iconst (v := 4) hB dX8_joined_18 (by decide) ?_
    refine X_lload_n (i := 0) hB dX8_joined_19 rfl rfl ?_
    refine X_callS hB kX8_17 (c_X8_length l hl) (by decide) (by decide) rfl rfl (Nat.le_of_ble_eq_true rfl) dX8_joined_20 (fun r20 S20 q20 => ?_)
    obtain ⟨rfl, rfl⟩ := q20
    refine X_imul hB dX8_joined_23 ?_
    refine X_topi (y := nI (4 * l.length)) (by first | rfl | (simp (disch := omega) only [nlit, nI_add, nI_mul, nI_sub]; done) | (simp (disch := omega) only [nlit, nI_add, nI_mul, nI_sub]; (congr 1 <;> omega))) ?_
    refine X_lshl hB dX8_joined_24 ?_
    refine X_lor hB dX8_joined_25 ?_
    refine X_lret hB rfl dX8_joined_26 ?_
    refine ⟨?_, rfl⟩
    first
      | (rw [if_pos e9]; exact congrArg (fun z => some (Value.long z)) (rJ_join hl hm (hj e9)))
      | rw [if_neg e9]
  · have e9 : ¬ ∀ x ∈ l, x ∉ m := fun q => c9 (by rw [msk_dis.mpr q]; rfl)
    refine X_lconst (v := 0) hB dX8_joined_12 (by decide) ?_
    refine X_goto (tgt := 26) hB dX8_joined_13 (by decide) ?_
    refine X_lret hB rfl dX8_joined_26 ?_
    refine ⟨?_, rfl⟩
    first
      | (rw [if_pos e9]; exact congrArg (fun z => some (Value.long z)) (rJ_join hl hm (hj e9)))
      | rw [if_neg e9]
end CLS
