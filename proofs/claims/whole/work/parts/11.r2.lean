def shA (A : Nat → Int32) (lo hi w : Nat) : Nat → Int32 := fun x => if lo ≤ x ∧ x < hi then A (x + w) else A x
theorem shA_out {A : Nat → Int32} {lo hi w x : Nat} (h : x < lo ∨ hi ≤ x) : shA A lo hi w x = A x := by unfold shA; rw [if_neg (by omega)]
theorem shA_in {A : Nat → Int32} {lo hi w x : Nat} (h : lo ≤ x ∧ x < hi) : shA A lo hi w x = A (x + w) := by unfold shA; rw [if_pos h]
theorem shA_step {A : Nat → Int32} {lo hi w : Nat} (h : lo ≤ hi) : upd (shA A lo hi w) hi (A (hi + w)) = shA A lo (hi + 1) w := by
  funext x
  by_cases hx : x = hi
  · subst hx; rw [upd_at]; unfold shA; rw [if_pos (by omega)]
  · rw [upd_ne _ _ hx]; unfold shA
    by_cases h2 : lo ≤ x ∧ x < hi
    · rw [if_pos h2, if_pos (by omega)]
    · rw [if_neg h2, if_neg (by omega)]
theorem shA_nil {A : Nat → Int32} {lo w : Nat} : shA A lo lo w = A := by funext x; unfold shA; rw [if_neg (by omega)]
def shU (A : Nat → Int32) (lo hi w : Nat) : Nat → Int32 := fun x => if lo ≤ x ∧ x < hi then A (x - w) else A x
theorem shU_out {A : Nat → Int32} {lo hi w x : Nat} (h : x < lo ∨ hi ≤ x) : shU A lo hi w x = A x := by unfold shU; rw [if_neg (by omega)]
theorem shU_in {A : Nat → Int32} {lo hi w x : Nat} (h : lo ≤ x ∧ x < hi) : shU A lo hi w x = A (x - w) := by unfold shU; rw [if_pos h]
theorem shU_step {A : Nat → Int32} {lo hi w : Nat} (h : lo < hi) : upd (shU A (lo + 1) hi w) lo (A (lo - w)) = shU A lo hi w := by
  funext x
  by_cases hx : x = lo
  · subst hx; rw [upd_at]; unfold shU; rw [if_pos (by omega)]
  · rw [upd_ne _ _ hx]; unfold shU
    by_cases h2 : lo + 1 ≤ x ∧ x < hi
    · rw [if_pos h2, if_pos (by omega)]
    · rw [if_neg h2, if_neg (by omega)]
theorem shU_nil {A : Nat → Int32} {lo w : Nat} : shU A lo lo w = A := by funext x; unfold shU; rw [if_neg (by omega)]
section REF
variable {G : Gc} {S : St} {h : Nat}
set_option maxRecDepth 100000 in
set_option maxHeartbeats 4000000 in
theorem l_dropsKept2 (hR : RLay G h) (hF : RRef S h) {E : Ev} (hB : Bd G E mX12_dropsKept) {Q : Option Value → St → Prop} (n p m : Nat) (hn : n < 8) (hm : 2 * m ≤ 54) (hp : p < m) (hk : S.1 (h + 1) (89 + 86 * n + 2) = nI m)
    (kk : ∀ v, X G E mX12_dropsKept 1 Q (rowI S (h + 1) (shA (S.1 (h + 1)) (89 + 86 * n + (15 + 2 * p)) (89 + 86 * n + (15 + 2 * (m - 1))) 2)) 48 [some (.ref h), some (.int (nI n)), some (.int (nI p)), some (.int 2), v] []) :
    ∀ (k i : Nat), i + k = 15 + 2 * (m - 1) → 15 + 2 * p ≤ i → X G E mX12_dropsKept 1 Q (rowI S (h + 1) (shA (S.1 (h + 1)) (89 + 86 * n + (15 + 2 * p)) (89 + 86 * n + (i)) 2)) 8 [some (.ref h), some (.int (nI n)), some (.int (nI p)), some (.int 2), some (.int (nI i))] [] := by
  intro k
  induction k with
  | zero =>
    intro i h1 h2
    refine X_iload hB dX12_dropsKept_8 rfl ?_
    refine X_bipush (v := 15) hB dX12_dropsKept_10 (by decide) ?_
    refine X_iload_n (i := 3) hB dX12_dropsKept_12 rfl rfl ?_
    refine X_aload_n (i := 0) hB dX12_dropsKept_13 rfl rfl ?_
    refine X_iload_n (i := 1) hB dX12_dropsKept_14 rfl rfl ?_
    refine X_iconst (v := 2) hB dX12_dropsKept_15 (by decide) ?_
    refine X_callV hB kX12_180 cw10 hR.1.1 hR.1.2 (c_ofE (w := 2) hR (by exact hF.of rfl) rfl (by first | rfl | (simp (disch := omega) only [nlit, nI_add, nI_mul, nI_sub]; done) | (simp (disch := omega) only [nlit, nI_add, nI_mul, nI_sub]; congr 1; omega)) (by omega) (by omega)) (by decide) (by decide) rfl rfl (Nat.le_of_ble_eq_true rfl) dX12_dropsKept_16 (fun r16 S16 q16 => ?_)
    obtain ⟨rfl, rfl⟩ := q16
    refine X_topi (y := nI m) (by rw [rowI_at, shA_out (by omega)]; exact hk) ?_
    refine X_iconst (v := 1) hB dX12_dropsKept_19 (by decide) ?_
    refine X_isub hB dX12_dropsKept_20 ?_
    refine X_imul hB dX12_dropsKept_21 ?_
    refine X_iadd hB dX12_dropsKept_22 ?_
    refine X_topi (y := nI (15 + 2 * (m - 1))) (by first | rfl | (simp (disch := omega) only [nlit, nI_add, nI_mul, nI_sub]; done) | (simp (disch := omega) only [nlit, nI_add, nI_mul, nI_sub]; congr 1; omega)) ?_
    refine X_icmp_ge (tgt := 48) hB dX12_dropsKept_23 (by decide) (fun c23 => ?_) (fun c23 => absurd c23 (by simp (disch := omega) only [nI_leI, nI_ltI]; omega))
    have e9 : i = 15 + 2 * (m - 1) := by omega
    subst e9
    exact kk _
  | succ k ih =>
    intro i h1 h2
    refine X_iload hB dX12_dropsKept_8 rfl ?_
    refine X_bipush (v := 15) hB dX12_dropsKept_10 (by decide) ?_
    refine X_iload_n (i := 3) hB dX12_dropsKept_12 rfl rfl ?_
    refine X_aload_n (i := 0) hB dX12_dropsKept_13 rfl rfl ?_
    refine X_iload_n (i := 1) hB dX12_dropsKept_14 rfl rfl ?_
    refine X_iconst (v := 2) hB dX12_dropsKept_15 (by decide) ?_
    refine X_callV hB kX12_180 cw10 hR.1.1 hR.1.2 (c_ofE (w := 2) hR (by exact hF.of rfl) rfl (by first | rfl | (simp (disch := omega) only [nlit, nI_add, nI_mul, nI_sub]; done) | (simp (disch := omega) only [nlit, nI_add, nI_mul, nI_sub]; congr 1; omega)) (by omega) (by omega)) (by decide) (by decide) rfl rfl (Nat.le_of_ble_eq_true rfl) dX12_dropsKept_16 (fun r16 S16 q16 => ?_)
    obtain ⟨rfl, rfl⟩ := q16
    refine X_topi (y := nI m) (by rw [rowI_at, shA_out (by omega)]; exact hk) ?_
    refine X_iconst (v := 1) hB dX12_dropsKept_19 (by decide) ?_
    refine X_isub hB dX12_dropsKept_20 ?_
    refine X_imul hB dX12_dropsKept_21 ?_
    refine X_iadd hB dX12_dropsKept_22 ?_
    refine X_topi (y := nI (15 + 2 * (m - 1))) (by first | rfl | (simp (disch := omega) only [nlit, nI_add, nI_mul, nI_sub]; done) | (simp (disch := omega) only [nlit, nI_add, nI_mul, nI_sub]; congr 1; omega)) ?_
    refine X_icmp_ge (tgt := 48) hB dX12_dropsKept_23 (by decide) (fun c23 => absurd c23 (by simp (disch := omega) only [nI_leI, nI_ltI]; omega)) (fun c23 => ?_)
    refine X_aload_n (i := 0) hB dX12_dropsKept_26 rfl rfl ?_
    refine X_iload_n (i := 1) hB dX12_dropsKept_27 rfl rfl ?_
    refine X_iload hB dX12_dropsKept_28 rfl ?_
    refine X_aload_n (i := 0) hB dX12_dropsKept_30 rfl rfl ?_
    refine X_iload_n (i := 1) hB dX12_dropsKept_31 rfl rfl ?_
    refine X_iload hB dX12_dropsKept_32 rfl ?_
    refine X_iload_n (i := 3) hB dX12_dropsKept_34 rfl rfl ?_
    refine X_iadd hB dX12_dropsKept_35 ?_
    refine X_callV hB kX12_180 cw10 hR.1.1 hR.1.2 (c_ofE (w := i + 2) hR (by exact hF.of rfl) rfl (by first | rfl | (simp (disch := omega) only [nlit, nI_add, nI_mul, nI_sub]; done) | (simp (disch := omega) only [nlit, nI_add, nI_mul, nI_sub]; congr 1; omega)) (by omega) (by omega)) (by decide) (by decide) rfl rfl (Nat.le_of_ble_eq_true rfl) dX12_dropsKept_36 (fun r36 S36 q36 => ?_)
    obtain ⟨rfl, rfl⟩ := q36
    refine X_topi (y := S.1 (h + 1) (89 + 86 * n + i + 2)) (by rw [rowI_at, shA_out (by omega)]; congr 1) ?_
    refine X_callV hB kX12_170 cw10 hR.1.1 hR.1.2 (c_layE (w := i) hR (by exact hF.of rfl) rfl (by first | rfl | (simp (disch := omega) only [nlit, nI_add, nI_mul, nI_sub]; done) | (simp (disch := omega) only [nlit, nI_add, nI_mul, nI_sub]; congr 1; omega)) (by omega) (by omega)) (by decide) (by decide) rfl rfl (Nat.le_of_ble_eq_true rfl) dX12_dropsKept_39 (fun r39 S39 q39 => ?_)
    obtain ⟨rfl, rfl⟩ := q39
    refine X_iinc hB dX12_dropsKept_42 rfl rfl (by decide) rfl ?_
    refine X_goto (tgt := 8) hB dX12_dropsKept_45 (by decide) ?_
    refine X_S (S' := (rowI S (h + 1) (shA (S.1 (h + 1)) (89 + 86 * n + (15 + 2 * p)) (89 + 86 * n + (i + 1)) 2))) ?_ (X_lv ?_ (ih (i + 1) (by omega) (by omega)))
    · rw [setI_rowI, rowI_rowI, rowI_at, shA_step (by omega)]; rfl
    · rw [nI_succ]; rfl
set_option maxRecDepth 100000 in
set_option maxHeartbeats 4000000 in
theorem c_dropsKept2 (hR : RLay G h) (hF : RRef S h) (n p m : Nat) (hn : n < 8) (hm : 2 * m ≤ 54) (hp : p < m) (hk : S.1 (h + 1) (89 + 86 * n + 2) = nI m) : C G mX12_dropsKept 1 [.ref h, .int (nI n), .int (nI p), .int 2] S (fun r S' => r = none ∧ S' = rowI S (h + 1) (upd (shA (S.1 (h + 1)) (89 + 86 * n + (15 + 2 * p)) (89 + 86 * n + (15 + 2 * (m - 1))) 2) (89 + 86 * n + 2) (nI (m - 1)))) := by
  refine C.mk (lv := [some (.ref h), some (.int (nI n)), some (.int (nI p)), some (.int 2), none]) (by decide) (Nat.le_of_ble_eq_true rfl) rfl (fun E hB => ?_)
  refine X_bipush (v := 15) hB dX12_dropsKept_0 (by decide) ?_
  refine X_iload_n (i := 3) hB dX12_dropsKept_2 rfl rfl ?_
  refine X_iload_n (i := 2) hB dX12_dropsKept_3 rfl rfl ?_
  refine X_imul hB dX12_dropsKept_4 ?_
  refine X_iadd hB dX12_dropsKept_5 ?_
  refine X_istore hB dX12_dropsKept_6 (by decide) rfl ?_
  refine X_S (S' := (rowI S (h + 1) (shA (S.1 (h + 1)) (89 + 86 * n + (15 + 2 * p)) (89 + 86 * n + (15 + 2 * p)) 2))) (by rw [shA_nil, rowI_self]) (X_lv (lv' := [some (.ref h), some (.int (nI n)), some (.int (nI p)), some (.int 2), some (.int (nI (15 + 2 * p)))]) ?_ (l_dropsKept2 hR hF hB n p m hn hm hp hk (fun v9 => ?_) (15 + 2 * (m - 1) - (15 + 2 * p)) (15 + 2 * p) (by omega) (Nat.le_refl _)))
  · show [_, _, _, _, some (Value.int (15 + 2 * nI p))] = _
    rw [show (15 + 2 * nI p : Int32) = nI (15 + 2 * p) from (by first | rfl | (simp (disch := omega) only [nlit, nI_add, nI_mul, nI_sub]; done) | (simp (disch := omega) only [nlit, nI_add, nI_mul, nI_sub]; congr 1; omega))]
  · refine X_aload_n (i := 0) hB dX12_dropsKept_48 rfl rfl ?_
    refine X_iload_n (i := 1) hB dX12_dropsKept_49 rfl rfl ?_
    refine X_iconst (v := 2) hB dX12_dropsKept_50 (by decide) ?_
    refine X_aload_n (i := 0) hB dX12_dropsKept_51 rfl rfl ?_
    refine X_iload_n (i := 1) hB dX12_dropsKept_52 rfl rfl ?_
    refine X_iconst (v := 2) hB dX12_dropsKept_53 (by decide) ?_
    refine X_callV hB kX12_180 cw10 hR.1.1 hR.1.2 (c_ofE (w := 2) hR (by exact hF.of rfl) rfl (by first | rfl | (simp (disch := omega) only [nlit, nI_add, nI_mul, nI_sub]; done) | (simp (disch := omega) only [nlit, nI_add, nI_mul, nI_sub]; congr 1; omega)) (by omega) (by omega)) (by decide) (by decide) rfl rfl (Nat.le_of_ble_eq_true rfl) dX12_dropsKept_54 (fun r54 S54 q54 => ?_)
    obtain ⟨rfl, rfl⟩ := q54
    refine X_topi (y := nI m) (by rw [rowI_at, shA_out (by omega)]; exact hk) ?_
    refine X_iconst (v := 1) hB dX12_dropsKept_57 (by decide) ?_
    refine X_isub hB dX12_dropsKept_58 ?_
    refine X_topi (y := nI (m - 1)) (by first | rfl | (simp (disch := omega) only [nlit, nI_add, nI_mul, nI_sub]; done) | (simp (disch := omega) only [nlit, nI_add, nI_mul, nI_sub]; congr 1; omega)) ?_
    refine X_callV hB kX12_170 cw10 hR.1.1 hR.1.2 (c_layE (w := 2) hR (by exact hF.of rfl) rfl (by first | rfl | (simp (disch := omega) only [nlit, nI_add, nI_mul, nI_sub]; done) | (simp (disch := omega) only [nlit, nI_add, nI_mul, nI_sub]; congr 1; omega)) (by omega) (by omega)) (by decide) (by decide) rfl rfl (Nat.le_of_ble_eq_true rfl) dX12_dropsKept_59 (fun r59 S59 q59 => ?_)
    obtain ⟨rfl, rfl⟩ := q59
    refine X_vret hB rfl dX12_dropsKept_62 ?_
    exact ⟨rfl, by rw [setI_rowI, rowI_rowI, rowI_at]⟩
set_option maxRecDepth 100000 in
set_option maxHeartbeats 4000000 in
theorem l_opens2 (hR : RLay G h) (hF : RRef S h) {E : Ev} (hB : Bd G E mX12_opens) {Q : Option Value → St → Prop} (n m most : Nat) (hn : n < 8) (hm : 2 * (m + 1) ≤ 54) (hk : S.1 (h + 1) (89 + 86 * n + 2) = nI m)
    (kk : ∀ v, X G E mX12_opens 1 Q (rowI S (h + 1) (shU (S.1 (h + 1)) (89 + 86 * n + (15 + 2)) (89 + 86 * n + (15 + 2 * (m + 1))) 2)) 67 [some (.ref h), some (.int (nI n)), some (.int 2), some (.int (nI most)), v] []) :
    ∀ (k i : Nat), 15 + 2 + k = i + 1 → i < 15 + 2 * (m + 1) → X G E mX12_opens 1 Q (rowI S (h + 1) (shU (S.1 (h + 1)) (89 + 86 * n + (i + 1)) (89 + 86 * n + (15 + 2 * (m + 1))) 2)) 36 [some (.ref h), some (.int (nI n)), some (.int 2), some (.int (nI most)), some (.int (nI i))] [] := by
  intro k
  induction k with
  | zero =>
    intro i h1 h2
    refine X_iload hB dX12_opens_36 rfl ?_
    refine X_bipush (v := 15) hB dX12_opens_38 (by decide) ?_
    refine X_iload_n (i := 2) hB dX12_opens_40 rfl rfl ?_
    refine X_iadd hB dX12_opens_41 ?_
    refine X_topi (y := nI (15 + 2)) (by first | rfl | (simp (disch := omega) only [nlit, nI_add, nI_mul, nI_sub]; done) | (simp (disch := omega) only [nlit, nI_add, nI_mul, nI_sub]; congr 1; omega)) ?_
    refine X_icmp_lt (tgt := 67) hB dX12_opens_42 (by decide) (fun c42 => ?_) (fun c42 => absurd c42 (by simp (disch := omega) only [nI_leI, nI_ltI]; omega))
    have e9 : i = 14 + 2 := by omega
    subst e9
    exact kk _
  | succ k ih =>
    intro i h1 h2
    refine X_iload hB dX12_opens_36 rfl ?_
    refine X_bipush (v := 15) hB dX12_opens_38 (by decide) ?_
    refine X_iload_n (i := 2) hB dX12_opens_40 rfl rfl ?_
    refine X_iadd hB dX12_opens_41 ?_
    refine X_topi (y := nI (15 + 2)) (by first | rfl | (simp (disch := omega) only [nlit, nI_add, nI_mul, nI_sub]; done) | (simp (disch := omega) only [nlit, nI_add, nI_mul, nI_sub]; congr 1; omega)) ?_
    refine X_icmp_lt (tgt := 67) hB dX12_opens_42 (by decide) (fun c42 => absurd c42 (by simp (disch := omega) only [nI_leI, nI_ltI]; omega)) (fun c42 => ?_)
    refine X_aload_n (i := 0) hB dX12_opens_45 rfl rfl ?_
    refine X_iload_n (i := 1) hB dX12_opens_46 rfl rfl ?_
    refine X_iload hB dX12_opens_47 rfl ?_
    refine X_aload_n (i := 0) hB dX12_opens_49 rfl rfl ?_
    refine X_iload_n (i := 1) hB dX12_opens_50 rfl rfl ?_
    refine X_iload hB dX12_opens_51 rfl ?_
    refine X_iload_n (i := 2) hB dX12_opens_53 rfl rfl ?_
    refine X_isub hB dX12_opens_54 ?_
    refine X_callV hB kX12_180 cw10 hR.1.1 hR.1.2 (c_ofE (w := i - 2) hR (by exact hF.of rfl) rfl (by first | rfl | (simp (disch := omega) only [nlit, nI_add, nI_mul, nI_sub]; done) | (simp (disch := omega) only [nlit, nI_add, nI_mul, nI_sub]; congr 1; omega)) (by omega) (by omega)) (by decide) (by decide) rfl rfl (Nat.le_of_ble_eq_true rfl) dX12_opens_55 (fun r55 S55 q55 => ?_)
    obtain ⟨rfl, rfl⟩ := q55
    refine X_topi (y := S.1 (h + 1) (89 + 86 * n + i - 2)) (by rw [rowI_at, shU_out (by omega)]; exact congrArg _ (by omega)) ?_
    refine X_callV hB kX12_170 cw10 hR.1.1 hR.1.2 (c_layE (w := i) hR (by exact hF.of rfl) rfl (by first | rfl | (simp (disch := omega) only [nlit, nI_add, nI_mul, nI_sub]; done) | (simp (disch := omega) only [nlit, nI_add, nI_mul, nI_sub]; congr 1; omega)) (by omega) (by omega)) (by decide) (by decide) rfl rfl (Nat.le_of_ble_eq_true rfl) dX12_opens_58 (fun r58 S58 q58 => ?_)
    obtain ⟨rfl, rfl⟩ := q58
    refine X_iinc hB dX12_opens_61 rfl rfl (by decide) rfl ?_
    refine X_goto (tgt := 36) hB dX12_opens_64 (by decide) ?_
    obtain ⟨j, rfl⟩ : ∃ j, i = j + 1 := ⟨i - 1, by omega⟩
    refine X_S (S' := (rowI S (h + 1) (shU (S.1 (h + 1)) (89 + 86 * n + (j + 1)) (89 + 86 * n + (15 + 2 * (m + 1))) 2))) ?_ (X_lv ?_ (ih j (by omega) (by omega)))
    · rw [setI_rowI, rowI_rowI, rowI_at]; congr 1; exact shU_step (lo := 89 + 86 * n + (j + 1)) (by omega)
    · show [_, _, _, _, some (Value.int (nI (j + 1) + -1))] = _
      rw [nI_m1]
set_option maxRecDepth 100000 in
set_option maxHeartbeats 4000000 in
theorem t_opens2 (hR : RLay G h) (hF : RRef S h) {E : Ev} (hB : Bd G E mX12_opens) {Q : Option Value → St → Prop} (n m most : Nat) (hn : n < 8) (hm : 2 * (m + 1) ≤ 54) (hk : S.1 (h + 1) (89 + 86 * n + 2) = nI m)
    (kk : Q none (rowI S (h + 1) (upd (shU (S.1 (h + 1)) (89 + 86 * n + (15 + 2)) (89 + 86 * n + (15 + 2 * (m + 1))) 2) (89 + 86 * n + 2) (nI (m + 1))))) : X G E mX12_opens 1 Q S 19 [some (.ref h), some (.int (nI n)), some (.int 2), some (.int (nI most)), none] [] := by
  refine X_bipush (v := 15) hB dX12_opens_19 (by decide) ?_
  refine X_iload_n (i := 2) hB dX12_opens_21 rfl rfl ?_
  refine X_aload_n (i := 0) hB dX12_opens_22 rfl rfl ?_
  refine X_iload_n (i := 1) hB dX12_opens_23 rfl rfl ?_
  refine X_iconst (v := 2) hB dX12_opens_24 (by decide) ?_
  refine X_callV hB kX12_180 cw10 hR.1.1 hR.1.2 (c_ofE (w := 2) hR (by exact hF.of rfl) rfl (by first | rfl | (simp (disch := omega) only [nlit, nI_add, nI_mul, nI_sub]; done) | (simp (disch := omega) only [nlit, nI_add, nI_mul, nI_sub]; congr 1; omega)) (by omega) (by omega)) (by decide) (by decide) rfl rfl (Nat.le_of_ble_eq_true rfl) dX12_opens_25 (fun r25 S25 q25 => ?_)
  obtain ⟨rfl, rfl⟩ := q25
  refine X_topi (y := nI m) hk ?_
  refine X_iconst (v := 1) hB dX12_opens_28 (by decide) ?_
  refine X_iadd hB dX12_opens_29 ?_
  refine X_imul hB dX12_opens_30 ?_
  refine X_iadd hB dX12_opens_31 ?_
  refine X_iconst (v := 1) hB dX12_opens_32 (by decide) ?_
  refine X_isub hB dX12_opens_33 ?_
  refine X_topi (y := nI (14 + 2 * (m + 1))) (by first | rfl | (simp (disch := omega) only [nlit, nI_add, nI_mul, nI_sub]; done) | (simp (disch := omega) only [nlit, nI_add, nI_mul, nI_sub]; congr 1; omega)) ?_
  refine X_istore hB dX12_opens_34 (by decide) rfl ?_
  refine X_S (S' := (rowI S (h + 1) (shU (S.1 (h + 1)) (89 + 86 * n + (14 + 2 * (m + 1) + 1)) (89 + 86 * n + (15 + 2 * (m + 1))) 2))) (by rw [show 14 + 2 * (m + 1) + 1 = 15 + 2 * (m + 1) by omega, shU_nil, rowI_self]) (l_opens2 hR hF hB n m most hn hm hk (fun v9 => ?_) (2 * m) (14 + 2 * (m + 1)) (by omega) (by omega))
  refine X_aload_n (i := 0) hB dX12_opens_67 rfl rfl ?_
  refine X_iload_n (i := 1) hB dX12_opens_68 rfl rfl ?_
  refine X_iconst (v := 2) hB dX12_opens_69 (by decide) ?_
  refine X_aload_n (i := 0) hB dX12_opens_70 rfl rfl ?_
  refine X_iload_n (i := 1) hB dX12_opens_71 rfl rfl ?_
  refine X_iconst (v := 2) hB dX12_opens_72 (by decide) ?_
  refine X_callV hB kX12_180 cw10 hR.1.1 hR.1.2 (c_ofE (w := 2) hR (by exact hF.of rfl) rfl (by first | rfl | (simp (disch := omega) only [nlit, nI_add, nI_mul, nI_sub]; done) | (simp (disch := omega) only [nlit, nI_add, nI_mul, nI_sub]; congr 1; omega)) (by omega) (by omega)) (by decide) (by decide) rfl rfl (Nat.le_of_ble_eq_true rfl) dX12_opens_73 (fun r73 S73 q73 => ?_)
  obtain ⟨rfl, rfl⟩ := q73
  refine X_topi (y := nI m) (by rw [rowI_at, shU_out (by omega)]; exact hk) ?_
  refine X_iconst (v := 1) hB dX12_opens_76 (by decide) ?_
  refine X_iadd hB dX12_opens_77 ?_
  refine X_topi (y := nI (m + 1)) (by first | rfl | (simp (disch := omega) only [nlit, nI_add, nI_mul, nI_sub]; done) | (simp (disch := omega) only [nlit, nI_add, nI_mul, nI_sub]; congr 1; omega)) ?_
  refine X_callV hB kX12_170 cw10 hR.1.1 hR.1.2 (c_layE (w := 2) hR (by exact hF.of rfl) rfl (by first | rfl | (simp (disch := omega) only [nlit, nI_add, nI_mul, nI_sub]; done) | (simp (disch := omega) only [nlit, nI_add, nI_mul, nI_sub]; congr 1; omega)) (by omega) (by omega)) (by decide) (by decide) rfl rfl (Nat.le_of_ble_eq_true rfl) dX12_opens_78 (fun r78 S78 q78 => ?_)
  obtain ⟨rfl, rfl⟩ := q78
  rw [setI_rowI, rowI_rowI, rowI_at]
  refine X_vret hB rfl dX12_opens_81 ?_
  exact kk
set_option maxRecDepth 100000 in
set_option maxHeartbeats 4000000 in
theorem c_opens2 (hR : RLay G h) (hF : RRef S h) (n m most : Nat) (hn : n < 8) (hm : m ≤ most) (h1 : 1 ≤ most) (h2 : 2 * most ≤ 54) (hk : S.1 (h + 1) (89 + 86 * n + 2) = nI m) : C G mX12_opens 1 [.ref h, .int (nI n), .int 2, .int (nI most)] S (fun r S' => r = none ∧ S' = rowI S (h + 1) (upd (shU (S.1 (h + 1)) (89 + 86 * n + (15 + 2)) (89 + 86 * n + (15 + 2 * (min m (most - 1) + 1))) 2) (89 + 86 * n + 2) (nI (min m (most - 1) + 1)))) := by
  refine C.mk (lv := [some (.ref h), some (.int (nI n)), some (.int 2), some (.int (nI most)), none]) (by decide) (Nat.le_of_ble_eq_true rfl) rfl (fun E hB => ?_)
  refine X_aload_n (i := 0) hB dX12_opens_0 rfl rfl ?_
  refine X_iload_n (i := 1) hB dX12_opens_1 rfl rfl ?_
  refine X_iconst (v := 2) hB dX12_opens_2 (by decide) ?_
  refine X_callV hB kX12_180 cw10 hR.1.1 hR.1.2 (c_ofE (w := 2) hR (by exact hF.of rfl) rfl (by first | rfl | (simp (disch := omega) only [nlit, nI_add, nI_mul, nI_sub]; done) | (simp (disch := omega) only [nlit, nI_add, nI_mul, nI_sub]; congr 1; omega)) (by omega) (by omega)) (by decide) (by decide) rfl rfl (Nat.le_of_ble_eq_true rfl) dX12_opens_3 (fun r3 S3 q3 => ?_)
  obtain ⟨rfl, rfl⟩ := q3
  refine X_topi (y := nI m) hk ?_
  refine X_iload_n (i := 3) hB dX12_opens_6 rfl rfl ?_
  refine X_icmp_ne (tgt := 19) hB dX12_opens_7 (by decide) (fun c7 => ?_) (fun c7 => ?_)
  · first
    | (have hne : m ≠ most := fun e9 => absurd (congrArg nI e9) c7
       refine t_opens2 hR hF hB n m most hn (by omega) hk ?_
       rw [show min m (most - 1) = m by omega]
       exact ⟨rfl, rfl⟩)
    | (have heq : m = most := i32_inj (by omega) (by omega) (by first | exact c7 | exact Decidable.not_not.mp c7)
       refine t_opens2 (S := setI S (h + 1) (89 + 86 * n + 2) (nI (most - 1))) hR (by exact hF.of rfl) hB n (most - 1) most hn (by omega) (by rw [setI_at]) ?_
       refine ⟨rfl, ?_⟩
       rw [show min m (most - 1) = most - 1 by omega, setI_rowI, rowI_rowI, rowI_at]
       congr 1
       funext x
       by_cases hx : x = 89 + 86 * n + 2
       · subst hx; rw [upd_at, upd_at]
       · rw [upd_ne _ _ hx, upd_ne _ _ hx]
         unfold shU
         by_cases hq : 89 + 86 * n + (15 + 2) ≤ x ∧ x < 89 + 86 * n + (15 + 2 * (most - 1 + 1))
         · rw [if_pos hq, if_pos hq, upd_ne _ _ (by omega)]
         · rw [if_neg hq, if_neg hq, upd_ne _ _ hx])
    
  · refine X_aload_n (i := 0) hB dX12_opens_10 rfl rfl ?_
    refine X_iload_n (i := 1) hB dX12_opens_11 rfl rfl ?_
    refine X_iconst (v := 2) hB dX12_opens_12 (by decide) ?_
    refine X_iload_n (i := 3) hB dX12_opens_13 rfl rfl ?_
    refine X_iconst (v := 1) hB dX12_opens_14 (by decide) ?_
    refine X_isub hB dX12_opens_15 ?_
    refine X_topi (y := nI (most - 1)) (by first | rfl | (simp (disch := omega) only [nlit, nI_add, nI_mul, nI_sub]; done) | (simp (disch := omega) only [nlit, nI_add, nI_mul, nI_sub]; congr 1; omega)) ?_
    refine X_callV hB kX12_170 cw10 hR.1.1 hR.1.2 (c_layE (w := 2) hR (by exact hF.of rfl) rfl (by first | rfl | (simp (disch := omega) only [nlit, nI_add, nI_mul, nI_sub]; done) | (simp (disch := omega) only [nlit, nI_add, nI_mul, nI_sub]; congr 1; omega)) (by omega) (by omega)) (by decide) (by decide) rfl rfl (Nat.le_of_ble_eq_true rfl) dX12_opens_16 (fun r16 S16 q16 => ?_)
    obtain ⟨rfl, rfl⟩ := q16
    first
    | (have hne : m ≠ most := fun e9 => absurd (congrArg nI e9) c7
       refine t_opens2 hR hF hB n m most hn (by omega) hk ?_
       rw [show min m (most - 1) = m by omega]
       exact ⟨rfl, rfl⟩)
    | (have heq : m = most := i32_inj (by omega) (by omega) (by first | exact c7 | exact Decidable.not_not.mp c7)
       refine t_opens2 (S := setI S (h + 1) (89 + 86 * n + 2) (nI (most - 1))) hR (by exact hF.of rfl) hB n (most - 1) most hn (by omega) (by rw [setI_at]) ?_
       refine ⟨rfl, ?_⟩
       rw [show min m (most - 1) = most - 1 by omega, setI_rowI, rowI_rowI, rowI_at]
       congr 1
       funext x
       by_cases hx : x = 89 + 86 * n + 2
       · subst hx; rw [upd_at, upd_at]
       · rw [upd_ne _ _ hx, upd_ne _ _ hx]
         unfold shU
         by_cases hq : 89 + 86 * n + (15 + 2) ≤ x ∧ x < 89 + 86 * n + (15 + 2 * (most - 1 + 1))
         · rw [if_pos hq, if_pos hq, upd_ne _ _ (by omega)]
         · rw [if_neg hq, if_neg hq, upd_ne _ _ hx])
set_option maxRecDepth 100000 in
set_option maxHeartbeats 4000000 in
theorem l_dropsKept9 (hR : RLay G h) (hF : RRef S h) {E : Ev} (hB : Bd G E mX12_dropsKept) {Q : Option Value → St → Prop} (n p m : Nat) (hn : n < 8) (hm : 9 * m ≤ 54) (hp : p < m) (hk : S.1 (h + 1) (89 + 86 * n + 2) = nI m)
    (kk : ∀ v, X G E mX12_dropsKept 1 Q (rowI S (h + 1) (shA (S.1 (h + 1)) (89 + 86 * n + (15 + 9 * p)) (89 + 86 * n + (15 + 9 * (m - 1))) 9)) 48 [some (.ref h), some (.int (nI n)), some (.int (nI p)), some (.int 9), v] []) :
    ∀ (k i : Nat), i + k = 15 + 9 * (m - 1) → 15 + 9 * p ≤ i → X G E mX12_dropsKept 1 Q (rowI S (h + 1) (shA (S.1 (h + 1)) (89 + 86 * n + (15 + 9 * p)) (89 + 86 * n + (i)) 9)) 8 [some (.ref h), some (.int (nI n)), some (.int (nI p)), some (.int 9), some (.int (nI i))] [] := by
  intro k
  induction k with
  | zero =>
    intro i h1 h2
    refine X_iload hB dX12_dropsKept_8 rfl ?_
    refine X_bipush (v := 15) hB dX12_dropsKept_10 (by decide) ?_
    refine X_iload_n (i := 3) hB dX12_dropsKept_12 rfl rfl ?_
    refine X_aload_n (i := 0) hB dX12_dropsKept_13 rfl rfl ?_
    refine X_iload_n (i := 1) hB dX12_dropsKept_14 rfl rfl ?_
    refine X_iconst (v := 2) hB dX12_dropsKept_15 (by decide) ?_
    refine X_callV hB kX12_180 cw10 hR.1.1 hR.1.2 (c_ofE (w := 2) hR (by exact hF.of rfl) rfl (by first | rfl | (simp (disch := omega) only [nlit, nI_add, nI_mul, nI_sub]; done) | (simp (disch := omega) only [nlit, nI_add, nI_mul, nI_sub]; congr 1; omega)) (by omega) (by omega)) (by decide) (by decide) rfl rfl (Nat.le_of_ble_eq_true rfl) dX12_dropsKept_16 (fun r16 S16 q16 => ?_)
    obtain ⟨rfl, rfl⟩ := q16
    refine X_topi (y := nI m) (by rw [rowI_at, shA_out (by omega)]; exact hk) ?_
    refine X_iconst (v := 1) hB dX12_dropsKept_19 (by decide) ?_
    refine X_isub hB dX12_dropsKept_20 ?_
    refine X_imul hB dX12_dropsKept_21 ?_
    refine X_iadd hB dX12_dropsKept_22 ?_
    refine X_topi (y := nI (15 + 9 * (m - 1))) (by first | rfl | (simp (disch := omega) only [nlit, nI_add, nI_mul, nI_sub]; done) | (simp (disch := omega) only [nlit, nI_add, nI_mul, nI_sub]; congr 1; omega)) ?_
    refine X_icmp_ge (tgt := 48) hB dX12_dropsKept_23 (by decide) (fun c23 => ?_) (fun c23 => absurd c23 (by simp (disch := omega) only [nI_leI, nI_ltI]; omega))
    have e9 : i = 15 + 9 * (m - 1) := by omega
    subst e9
    exact kk _
  | succ k ih =>
    intro i h1 h2
    refine X_iload hB dX12_dropsKept_8 rfl ?_
    refine X_bipush (v := 15) hB dX12_dropsKept_10 (by decide) ?_
    refine X_iload_n (i := 3) hB dX12_dropsKept_12 rfl rfl ?_
    refine X_aload_n (i := 0) hB dX12_dropsKept_13 rfl rfl ?_
    refine X_iload_n (i := 1) hB dX12_dropsKept_14 rfl rfl ?_
    refine X_iconst (v := 2) hB dX12_dropsKept_15 (by decide) ?_
    refine X_callV hB kX12_180 cw10 hR.1.1 hR.1.2 (c_ofE (w := 2) hR (by exact hF.of rfl) rfl (by first | rfl | (simp (disch := omega) only [nlit, nI_add, nI_mul, nI_sub]; done) | (simp (disch := omega) only [nlit, nI_add, nI_mul, nI_sub]; congr 1; omega)) (by omega) (by omega)) (by decide) (by decide) rfl rfl (Nat.le_of_ble_eq_true rfl) dX12_dropsKept_16 (fun r16 S16 q16 => ?_)
    obtain ⟨rfl, rfl⟩ := q16
    refine X_topi (y := nI m) (by rw [rowI_at, shA_out (by omega)]; exact hk) ?_
    refine X_iconst (v := 1) hB dX12_dropsKept_19 (by decide) ?_
    refine X_isub hB dX12_dropsKept_20 ?_
    refine X_imul hB dX12_dropsKept_21 ?_
    refine X_iadd hB dX12_dropsKept_22 ?_
    refine X_topi (y := nI (15 + 9 * (m - 1))) (by first | rfl | (simp (disch := omega) only [nlit, nI_add, nI_mul, nI_sub]; done) | (simp (disch := omega) only [nlit, nI_add, nI_mul, nI_sub]; congr 1; omega)) ?_
    refine X_icmp_ge (tgt := 48) hB dX12_dropsKept_23 (by decide) (fun c23 => absurd c23 (by simp (disch := omega) only [nI_leI, nI_ltI]; omega)) (fun c23 => ?_)
    refine X_aload_n (i := 0) hB dX12_dropsKept_26 rfl rfl ?_
    refine X_iload_n (i := 1) hB dX12_dropsKept_27 rfl rfl ?_
    refine X_iload hB dX12_dropsKept_28 rfl ?_
    refine X_aload_n (i := 0) hB dX12_dropsKept_30 rfl rfl ?_
    refine X_iload_n (i := 1) hB dX12_dropsKept_31 rfl rfl ?_
    refine X_iload hB dX12_dropsKept_32 rfl ?_
    refine X_iload_n (i := 3) hB dX12_dropsKept_34 rfl rfl ?_
    refine X_iadd hB dX12_dropsKept_35 ?_
    refine X_callV hB kX12_180 cw10 hR.1.1 hR.1.2 (c_ofE (w := i + 9) hR (by exact hF.of rfl) rfl (by first | rfl | (simp (disch := omega) only [nlit, nI_add, nI_mul, nI_sub]; done) | (simp (disch := omega) only [nlit, nI_add, nI_mul, nI_sub]; congr 1; omega)) (by omega) (by omega)) (by decide) (by decide) rfl rfl (Nat.le_of_ble_eq_true rfl) dX12_dropsKept_36 (fun r36 S36 q36 => ?_)
    obtain ⟨rfl, rfl⟩ := q36
    refine X_topi (y := S.1 (h + 1) (89 + 86 * n + i + 9)) (by rw [rowI_at, shA_out (by omega)]; congr 1) ?_
    refine X_callV hB kX12_170 cw10 hR.1.1 hR.1.2 (c_layE (w := i) hR (by exact hF.of rfl) rfl (by first | rfl | (simp (disch := omega) only [nlit, nI_add, nI_mul, nI_sub]; done) | (simp (disch := omega) only [nlit, nI_add, nI_mul, nI_sub]; congr 1; omega)) (by omega) (by omega)) (by decide) (by decide) rfl rfl (Nat.le_of_ble_eq_true rfl) dX12_dropsKept_39 (fun r39 S39 q39 => ?_)
    obtain ⟨rfl, rfl⟩ := q39
    refine X_iinc hB dX12_dropsKept_42 rfl rfl (by decide) rfl ?_
    refine X_goto (tgt := 8) hB dX12_dropsKept_45 (by decide) ?_
    refine X_S (S' := (rowI S (h + 1) (shA (S.1 (h + 1)) (89 + 86 * n + (15 + 9 * p)) (89 + 86 * n + (i + 1)) 9))) ?_ (X_lv ?_ (ih (i + 1) (by omega) (by omega)))
    · rw [setI_rowI, rowI_rowI, rowI_at, shA_step (by omega)]; rfl
    · rw [nI_succ]; rfl
set_option maxRecDepth 100000 in
set_option maxHeartbeats 4000000 in
theorem c_dropsKept9 (hR : RLay G h) (hF : RRef S h) (n p m : Nat) (hn : n < 8) (hm : 9 * m ≤ 54) (hp : p < m) (hk : S.1 (h + 1) (89 + 86 * n + 2) = nI m) : C G mX12_dropsKept 1 [.ref h, .int (nI n), .int (nI p), .int 9] S (fun r S' => r = none ∧ S' = rowI S (h + 1) (upd (shA (S.1 (h + 1)) (89 + 86 * n + (15 + 9 * p)) (89 + 86 * n + (15 + 9 * (m - 1))) 9) (89 + 86 * n + 2) (nI (m - 1)))) := by
  refine C.mk (lv := [some (.ref h), some (.int (nI n)), some (.int (nI p)), some (.int 9), none]) (by decide) (Nat.le_of_ble_eq_true rfl) rfl (fun E hB => ?_)
  refine X_bipush (v := 15) hB dX12_dropsKept_0 (by decide) ?_
  refine X_iload_n (i := 3) hB dX12_dropsKept_2 rfl rfl ?_
  refine X_iload_n (i := 2) hB dX12_dropsKept_3 rfl rfl ?_
  refine X_imul hB dX12_dropsKept_4 ?_
  refine X_iadd hB dX12_dropsKept_5 ?_
  refine X_istore hB dX12_dropsKept_6 (by decide) rfl ?_
  refine X_S (S' := (rowI S (h + 1) (shA (S.1 (h + 1)) (89 + 86 * n + (15 + 9 * p)) (89 + 86 * n + (15 + 9 * p)) 9))) (by rw [shA_nil, rowI_self]) (X_lv (lv' := [some (.ref h), some (.int (nI n)), some (.int (nI p)), some (.int 9), some (.int (nI (15 + 9 * p)))]) ?_ (l_dropsKept9 hR hF hB n p m hn hm hp hk (fun v9 => ?_) (15 + 9 * (m - 1) - (15 + 9 * p)) (15 + 9 * p) (by omega) (Nat.le_refl _)))
  · show [_, _, _, _, some (Value.int (15 + 9 * nI p))] = _
    rw [show (15 + 9 * nI p : Int32) = nI (15 + 9 * p) from (by first | rfl | (simp (disch := omega) only [nlit, nI_add, nI_mul, nI_sub]; done) | (simp (disch := omega) only [nlit, nI_add, nI_mul, nI_sub]; congr 1; omega))]
  · refine X_aload_n (i := 0) hB dX12_dropsKept_48 rfl rfl ?_
    refine X_iload_n (i := 1) hB dX12_dropsKept_49 rfl rfl ?_
    refine X_iconst (v := 2) hB dX12_dropsKept_50 (by decide) ?_
    refine X_aload_n (i := 0) hB dX12_dropsKept_51 rfl rfl ?_
    refine X_iload_n (i := 1) hB dX12_dropsKept_52 rfl rfl ?_
    refine X_iconst (v := 2) hB dX12_dropsKept_53 (by decide) ?_
    refine X_callV hB kX12_180 cw10 hR.1.1 hR.1.2 (c_ofE (w := 2) hR (by exact hF.of rfl) rfl (by first | rfl | (simp (disch := omega) only [nlit, nI_add, nI_mul, nI_sub]; done) | (simp (disch := omega) only [nlit, nI_add, nI_mul, nI_sub]; congr 1; omega)) (by omega) (by omega)) (by decide) (by decide) rfl rfl (Nat.le_of_ble_eq_true rfl) dX12_dropsKept_54 (fun r54 S54 q54 => ?_)
    obtain ⟨rfl, rfl⟩ := q54
    refine X_topi (y := nI m) (by rw [rowI_at, shA_out (by omega)]; exact hk) ?_
    refine X_iconst (v := 1) hB dX12_dropsKept_57 (by decide) ?_
    refine X_isub hB dX12_dropsKept_58 ?_
    refine X_topi (y := nI (m - 1)) (by first | rfl | (simp (disch := omega) only [nlit, nI_add, nI_mul, nI_sub]; done) | (simp (disch := omega) only [nlit, nI_add, nI_mul, nI_sub]; congr 1; omega)) ?_
    refine X_callV hB kX12_170 cw10 hR.1.1 hR.1.2 (c_layE (w := 2) hR (by exact hF.of rfl) rfl (by first | rfl | (simp (disch := omega) only [nlit, nI_add, nI_mul, nI_sub]; done) | (simp (disch := omega) only [nlit, nI_add, nI_mul, nI_sub]; congr 1; omega)) (by omega) (by omega)) (by decide) (by decide) rfl rfl (Nat.le_of_ble_eq_true rfl) dX12_dropsKept_59 (fun r59 S59 q59 => ?_)
    obtain ⟨rfl, rfl⟩ := q59
    refine X_vret hB rfl dX12_dropsKept_62 ?_
    exact ⟨rfl, by rw [setI_rowI, rowI_rowI, rowI_at]⟩
set_option maxRecDepth 100000 in
set_option maxHeartbeats 4000000 in
theorem l_opens9 (hR : RLay G h) (hF : RRef S h) {E : Ev} (hB : Bd G E mX12_opens) {Q : Option Value → St → Prop} (n m most : Nat) (hn : n < 8) (hm : 9 * (m + 1) ≤ 54) (hk : S.1 (h + 1) (89 + 86 * n + 2) = nI m)
    (kk : ∀ v, X G E mX12_opens 1 Q (rowI S (h + 1) (shU (S.1 (h + 1)) (89 + 86 * n + (15 + 9)) (89 + 86 * n + (15 + 9 * (m + 1))) 9)) 67 [some (.ref h), some (.int (nI n)), some (.int 9), some (.int (nI most)), v] []) :
    ∀ (k i : Nat), 15 + 9 + k = i + 1 → i < 15 + 9 * (m + 1) → X G E mX12_opens 1 Q (rowI S (h + 1) (shU (S.1 (h + 1)) (89 + 86 * n + (i + 1)) (89 + 86 * n + (15 + 9 * (m + 1))) 9)) 36 [some (.ref h), some (.int (nI n)), some (.int 9), some (.int (nI most)), some (.int (nI i))] [] := by
  intro k
  induction k with
  | zero =>
    intro i h1 h2
    refine X_iload hB dX12_opens_36 rfl ?_
    refine X_bipush (v := 15) hB dX12_opens_38 (by decide) ?_
    refine X_iload_n (i := 2) hB dX12_opens_40 rfl rfl ?_
    refine X_iadd hB dX12_opens_41 ?_
    refine X_topi (y := nI (15 + 9)) (by first | rfl | (simp (disch := omega) only [nlit, nI_add, nI_mul, nI_sub]; done) | (simp (disch := omega) only [nlit, nI_add, nI_mul, nI_sub]; congr 1; omega)) ?_
    refine X_icmp_lt (tgt := 67) hB dX12_opens_42 (by decide) (fun c42 => ?_) (fun c42 => absurd c42 (by simp (disch := omega) only [nI_leI, nI_ltI]; omega))
    have e9 : i = 14 + 9 := by omega
    subst e9
    exact kk _
  | succ k ih =>
    intro i h1 h2
    refine X_iload hB dX12_opens_36 rfl ?_
    refine X_bipush (v := 15) hB dX12_opens_38 (by decide) ?_
    refine X_iload_n (i := 2) hB dX12_opens_40 rfl rfl ?_
    refine X_iadd hB dX12_opens_41 ?_
    refine X_topi (y := nI (15 + 9)) (by first | rfl | (simp (disch := omega) only [nlit, nI_add, nI_mul, nI_sub]; done) | (simp (disch := omega) only [nlit, nI_add, nI_mul, nI_sub]; congr 1; omega)) ?_
    refine X_icmp_lt (tgt := 67) hB dX12_opens_42 (by decide) (fun c42 => absurd c42 (by simp (disch := omega) only [nI_leI, nI_ltI]; omega)) (fun c42 => ?_)
    refine X_aload_n (i := 0) hB dX12_opens_45 rfl rfl ?_
    refine X_iload_n (i := 1) hB dX12_opens_46 rfl rfl ?_
    refine X_iload hB dX12_opens_47 rfl ?_
    refine X_aload_n (i := 0) hB dX12_opens_49 rfl rfl ?_
    refine X_iload_n (i := 1) hB dX12_opens_50 rfl rfl ?_
    refine X_iload hB dX12_opens_51 rfl ?_
    refine X_iload_n (i := 2) hB dX12_opens_53 rfl rfl ?_
    refine X_isub hB dX12_opens_54 ?_
    refine X_callV hB kX12_180 cw10 hR.1.1 hR.1.2 (c_ofE (w := i - 9) hR (by exact hF.of rfl) rfl (by first | rfl | (simp (disch := omega) only [nlit, nI_add, nI_mul, nI_sub]; done) | (simp (disch := omega) only [nlit, nI_add, nI_mul, nI_sub]; congr 1; omega)) (by omega) (by omega)) (by decide) (by decide) rfl rfl (Nat.le_of_ble_eq_true rfl) dX12_opens_55 (fun r55 S55 q55 => ?_)
    obtain ⟨rfl, rfl⟩ := q55
    refine X_topi (y := S.1 (h + 1) (89 + 86 * n + i - 9)) (by rw [rowI_at, shU_out (by omega)]; exact congrArg _ (by omega)) ?_
    refine X_callV hB kX12_170 cw10 hR.1.1 hR.1.2 (c_layE (w := i) hR (by exact hF.of rfl) rfl (by first | rfl | (simp (disch := omega) only [nlit, nI_add, nI_mul, nI_sub]; done) | (simp (disch := omega) only [nlit, nI_add, nI_mul, nI_sub]; congr 1; omega)) (by omega) (by omega)) (by decide) (by decide) rfl rfl (Nat.le_of_ble_eq_true rfl) dX12_opens_58 (fun r58 S58 q58 => ?_)
    obtain ⟨rfl, rfl⟩ := q58
    refine X_iinc hB dX12_opens_61 rfl rfl (by decide) rfl ?_
    refine X_goto (tgt := 36) hB dX12_opens_64 (by decide) ?_
    obtain ⟨j, rfl⟩ : ∃ j, i = j + 1 := ⟨i - 1, by omega⟩
    refine X_S (S' := (rowI S (h + 1) (shU (S.1 (h + 1)) (89 + 86 * n + (j + 1)) (89 + 86 * n + (15 + 9 * (m + 1))) 9))) ?_ (X_lv ?_ (ih j (by omega) (by omega)))
    · rw [setI_rowI, rowI_rowI, rowI_at]; congr 1; exact shU_step (lo := 89 + 86 * n + (j + 1)) (by omega)
    · show [_, _, _, _, some (Value.int (nI (j + 1) + -1))] = _
      rw [nI_m1]
set_option maxRecDepth 100000 in
set_option maxHeartbeats 4000000 in
theorem t_opens9 (hR : RLay G h) (hF : RRef S h) {E : Ev} (hB : Bd G E mX12_opens) {Q : Option Value → St → Prop} (n m most : Nat) (hn : n < 8) (hm : 9 * (m + 1) ≤ 54) (hk : S.1 (h + 1) (89 + 86 * n + 2) = nI m)
    (kk : Q none (rowI S (h + 1) (upd (shU (S.1 (h + 1)) (89 + 86 * n + (15 + 9)) (89 + 86 * n + (15 + 9 * (m + 1))) 9) (89 + 86 * n + 2) (nI (m + 1))))) : X G E mX12_opens 1 Q S 19 [some (.ref h), some (.int (nI n)), some (.int 9), some (.int (nI most)), none] [] := by
  refine X_bipush (v := 15) hB dX12_opens_19 (by decide) ?_
  refine X_iload_n (i := 2) hB dX12_opens_21 rfl rfl ?_
  refine X_aload_n (i := 0) hB dX12_opens_22 rfl rfl ?_
  refine X_iload_n (i := 1) hB dX12_opens_23 rfl rfl ?_
  refine X_iconst (v := 2) hB dX12_opens_24 (by decide) ?_
  refine X_callV hB kX12_180 cw10 hR.1.1 hR.1.2 (c_ofE (w := 2) hR (by exact hF.of rfl) rfl (by first | rfl | (simp (disch := omega) only [nlit, nI_add, nI_mul, nI_sub]; done) | (simp (disch := omega) only [nlit, nI_add, nI_mul, nI_sub]; congr 1; omega)) (by omega) (by omega)) (by decide) (by decide) rfl rfl (Nat.le_of_ble_eq_true rfl) dX12_opens_25 (fun r25 S25 q25 => ?_)
  obtain ⟨rfl, rfl⟩ := q25
  refine X_topi (y := nI m) hk ?_
  refine X_iconst (v := 1) hB dX12_opens_28 (by decide) ?_
  refine X_iadd hB dX12_opens_29 ?_
  refine X_imul hB dX12_opens_30 ?_
  refine X_iadd hB dX12_opens_31 ?_
  refine X_iconst (v := 1) hB dX12_opens_32 (by decide) ?_
  refine X_isub hB dX12_opens_33 ?_
  refine X_topi (y := nI (14 + 9 * (m + 1))) (by first | rfl | (simp (disch := omega) only [nlit, nI_add, nI_mul, nI_sub]; done) | (simp (disch := omega) only [nlit, nI_add, nI_mul, nI_sub]; congr 1; omega)) ?_
  refine X_istore hB dX12_opens_34 (by decide) rfl ?_
  refine X_S (S' := (rowI S (h + 1) (shU (S.1 (h + 1)) (89 + 86 * n + (14 + 9 * (m + 1) + 1)) (89 + 86 * n + (15 + 9 * (m + 1))) 9))) (by rw [show 14 + 9 * (m + 1) + 1 = 15 + 9 * (m + 1) by omega, shU_nil, rowI_self]) (l_opens9 hR hF hB n m most hn hm hk (fun v9 => ?_) (9 * m) (14 + 9 * (m + 1)) (by omega) (by omega))
  refine X_aload_n (i := 0) hB dX12_opens_67 rfl rfl ?_
  refine X_iload_n (i := 1) hB dX12_opens_68 rfl rfl ?_
  refine X_iconst (v := 2) hB dX12_opens_69 (by decide) ?_
  refine X_aload_n (i := 0) hB dX12_opens_70 rfl rfl ?_
  refine X_iload_n (i := 1) hB dX12_opens_71 rfl rfl ?_
  refine X_iconst (v := 2) hB dX12_opens_72 (by decide) ?_
  refine X_callV hB kX12_180 cw10 hR.1.1 hR.1.2 (c_ofE (w := 2) hR (by exact hF.of rfl) rfl (by first | rfl | (simp (disch := omega) only [nlit, nI_add, nI_mul, nI_sub]; done) | (simp (disch := omega) only [nlit, nI_add, nI_mul, nI_sub]; congr 1; omega)) (by omega) (by omega)) (by decide) (by decide) rfl rfl (Nat.le_of_ble_eq_true rfl) dX12_opens_73 (fun r73 S73 q73 => ?_)
  obtain ⟨rfl, rfl⟩ := q73
  refine X_topi (y := nI m) (by rw [rowI_at, shU_out (by omega)]; exact hk) ?_
  refine X_iconst (v := 1) hB dX12_opens_76 (by decide) ?_
  refine X_iadd hB dX12_opens_77 ?_
  refine X_topi (y := nI (m + 1)) (by first | rfl | (simp (disch := omega) only [nlit, nI_add, nI_mul, nI_sub]; done) | (simp (disch := omega) only [nlit, nI_add, nI_mul, nI_sub]; congr 1; omega)) ?_
  refine X_callV hB kX12_170 cw10 hR.1.1 hR.1.2 (c_layE (w := 2) hR (by exact hF.of rfl) rfl (by first | rfl | (simp (disch := omega) only [nlit, nI_add, nI_mul, nI_sub]; done) | (simp (disch := omega) only [nlit, nI_add, nI_mul, nI_sub]; congr 1; omega)) (by omega) (by omega)) (by decide) (by decide) rfl rfl (Nat.le_of_ble_eq_true rfl) dX12_opens_78 (fun r78 S78 q78 => ?_)
  obtain ⟨rfl, rfl⟩ := q78
  rw [setI_rowI, rowI_rowI, rowI_at]
  refine X_vret hB rfl dX12_opens_81 ?_
  exact kk
set_option maxRecDepth 100000 in
set_option maxHeartbeats 4000000 in
theorem c_opens9 (hR : RLay G h) (hF : RRef S h) (n m most : Nat) (hn : n < 8) (hm : m ≤ most) (h1 : 1 ≤ most) (h2 : 9 * most ≤ 54) (hk : S.1 (h + 1) (89 + 86 * n + 2) = nI m) : C G mX12_opens 1 [.ref h, .int (nI n), .int 9, .int (nI most)] S (fun r S' => r = none ∧ S' = rowI S (h + 1) (upd (shU (S.1 (h + 1)) (89 + 86 * n + (15 + 9)) (89 + 86 * n + (15 + 9 * (min m (most - 1) + 1))) 9) (89 + 86 * n + 2) (nI (min m (most - 1) + 1)))) := by
  refine C.mk (lv := [some (.ref h), some (.int (nI n)), some (.int 9), some (.int (nI most)), none]) (by decide) (Nat.le_of_ble_eq_true rfl) rfl (fun E hB => ?_)
  refine X_aload_n (i := 0) hB dX12_opens_0 rfl rfl ?_
  refine X_iload_n (i := 1) hB dX12_opens_1 rfl rfl ?_
  refine X_iconst (v := 2) hB dX12_opens_2 (by decide) ?_
  refine X_callV hB kX12_180 cw10 hR.1.1 hR.1.2 (c_ofE (w := 2) hR (by exact hF.of rfl) rfl (by first | rfl | (simp (disch := omega) only [nlit, nI_add, nI_mul, nI_sub]; done) | (simp (disch := omega) only [nlit, nI_add, nI_mul, nI_sub]; congr 1; omega)) (by omega) (by omega)) (by decide) (by decide) rfl rfl (Nat.le_of_ble_eq_true rfl) dX12_opens_3 (fun r3 S3 q3 => ?_)
  obtain ⟨rfl, rfl⟩ := q3
  refine X_topi (y := nI m) hk ?_
  refine X_iload_n (i := 3) hB dX12_opens_6 rfl rfl ?_
  refine X_icmp_ne (tgt := 19) hB dX12_opens_7 (by decide) (fun c7 => ?_) (fun c7 => ?_)
  · first
    | (have hne : m ≠ most := fun e9 => absurd (congrArg nI e9) c7
       refine t_opens9 hR hF hB n m most hn (by omega) hk ?_
       rw [show min m (most - 1) = m by omega]
       exact ⟨rfl, rfl⟩)
    | (have heq : m = most := i32_inj (by omega) (by omega) (by first | exact c7 | exact Decidable.not_not.mp c7)
       refine t_opens9 (S := setI S (h + 1) (89 + 86 * n + 2) (nI (most - 1))) hR (by exact hF.of rfl) hB n (most - 1) most hn (by omega) (by rw [setI_at]) ?_
       refine ⟨rfl, ?_⟩
       rw [show min m (most - 1) = most - 1 by omega, setI_rowI, rowI_rowI, rowI_at]
       congr 1
       funext x
       by_cases hx : x = 89 + 86 * n + 2
       · subst hx; rw [upd_at, upd_at]
       · rw [upd_ne _ _ hx, upd_ne _ _ hx]
         unfold shU
         by_cases hq : 89 + 86 * n + (15 + 9) ≤ x ∧ x < 89 + 86 * n + (15 + 9 * (most - 1 + 1))
         · rw [if_pos hq, if_pos hq, upd_ne _ _ (by omega)]
         · rw [if_neg hq, if_neg hq, upd_ne _ _ hx])
    
  · refine X_aload_n (i := 0) hB dX12_opens_10 rfl rfl ?_
    refine X_iload_n (i := 1) hB dX12_opens_11 rfl rfl ?_
    refine X_iconst (v := 2) hB dX12_opens_12 (by decide) ?_
    refine X_iload_n (i := 3) hB dX12_opens_13 rfl rfl ?_
    refine X_iconst (v := 1) hB dX12_opens_14 (by decide) ?_
    refine X_isub hB dX12_opens_15 ?_
    refine X_topi (y := nI (most - 1)) (by first | rfl | (simp (disch := omega) only [nlit, nI_add, nI_mul, nI_sub]; done) | (simp (disch := omega) only [nlit, nI_add, nI_mul, nI_sub]; congr 1; omega)) ?_
    refine X_callV hB kX12_170 cw10 hR.1.1 hR.1.2 (c_layE (w := 2) hR (by exact hF.of rfl) rfl (by first | rfl | (simp (disch := omega) only [nlit, nI_add, nI_mul, nI_sub]; done) | (simp (disch := omega) only [nlit, nI_add, nI_mul, nI_sub]; congr 1; omega)) (by omega) (by omega)) (by decide) (by decide) rfl rfl (Nat.le_of_ble_eq_true rfl) dX12_opens_16 (fun r16 S16 q16 => ?_)
    obtain ⟨rfl, rfl⟩ := q16
    first
    | (have hne : m ≠ most := fun e9 => absurd (congrArg nI e9) c7
       refine t_opens9 hR hF hB n m most hn (by omega) hk ?_
       rw [show min m (most - 1) = m by omega]
       exact ⟨rfl, rfl⟩)
    | (have heq : m = most := i32_inj (by omega) (by omega) (by first | exact c7 | exact Decidable.not_not.mp c7)
       refine t_opens9 (S := setI S (h + 1) (89 + 86 * n + 2) (nI (most - 1))) hR (by exact hF.of rfl) hB n (most - 1) most hn (by omega) (by rw [setI_at]) ?_
       refine ⟨rfl, ?_⟩
       rw [show min m (most - 1) = most - 1 by omega, setI_rowI, rowI_rowI, rowI_at]
       congr 1
       funext x
       by_cases hx : x = 89 + 86 * n + 2
       · subst hx; rw [upd_at, upd_at]
       · rw [upd_ne _ _ hx, upd_ne _ _ hx]
         unfold shU
         by_cases hq : 89 + 86 * n + (15 + 9) ≤ x ∧ x < 89 + 86 * n + (15 + 9 * (most - 1 + 1))
         · rw [if_pos hq, if_pos hq, upd_ne _ _ (by omega)]
         · rw [if_neg hq, if_neg hq, upd_ne _ _ hx])
end REF
