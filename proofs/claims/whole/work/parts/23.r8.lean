theorem kn_snoc {c : List (List Nat)} {e : List Nat} {x y : Nat} : kn (c ++ [e]) x y = (kn c x y || sbs x y e) := by simp [kn]
theorem dec_sym (a b : Nat) : decide (a = b) = decide (b = a) := by simp only [eq_comm]
theorem sbs_two {u v x y : Nat} : sbs x y [u, v] = ((decide (x = u) && decide (y = v)) || (decide (x = v) && decide (y = u))) := by
  simp only [sbs, Bool.or_false]
  rw [dec_sym u x, dec_sym v y, dec_sym u y, dec_sym v x, Bool.and_comm (decide (y = u))]
theorem sbs_take2 {x y i : Nat} {e : List Nat} (h1 : 1 ≤ i) (hi : i < e.length) : sbs x y (e.take (i + 1)) = (sbs x y (e.take i) || (decide (x = e.getD (i - 1) 0) && decide (y = e.getD i 0)) || (decide (x = e.getD i 0) && decide (y = e.getD (i - 1) 0))) := by
  rw [sbs_take h1 hi, dec_sym _ x, dec_sym _ y, dec_sym _ y, dec_sym _ x, Bool.and_comm (decide (y = e.getD (i - 1) 0))]
section REF
variable {G : Gc} {S : St} {h : Nat}
set_option maxRecDepth 100000 in
set_option maxHeartbeats 4000000 in
theorem c_knows (hR : RLay G h) (hF : RRef S h) {a b : Nat} (ha : a < 8) (hb : b < 8) : C G mX12_knows 0 [.ref h, .int (nI a), .int (nI b)] S (fun r S' => r = none ∧ S' = rowI S (h + 9) (upd (upd (S.1 (h + 9)) (8 * a + b) 1) (8 * b + a) 1)) := by
  refine C.mk (lv := [some (.ref h), some (.int (nI a)), some (.int (nI b))]) (by decide) (Nat.le_of_ble_eq_true rfl) rfl (fun E hB => ?_)
  refine X_aload_n (i := 0) hB dX12_knows_0 rfl rfl ?_
  refine X_getr hB cw10 fX12_36 rfl hR.1.1 hR.1.2 hF.2.2.2.2.2.2.2.2.1 dX12_knows_1 ?_
  refine X_bipush (v := 8) hB dX12_knows_4 (by decide) ?_
  refine X_iload_n (i := 1) hB dX12_knows_6 rfl rfl ?_
  refine X_imul hB dX12_knows_7 ?_
  refine X_iload_n (i := 2) hB dX12_knows_8 rfl rfl ?_
  refine X_iadd hB dX12_knows_9 ?_
  refine X_iconst (v := 1) hB dX12_knows_10 (by decide) ?_
  refine X_zastN hB (8 * a + b) hR.2.2.2.2.2.2.2.2.2.1.1 hR.2.2.2.2.2.2.2.2.2.1.2 (by decide) (by first | rfl | (simp (disch := omega) only [nlit, nI_add, nI_mul, nI_sub]; done) | (simp (disch := omega) only [nlit, nI_add, nI_mul, nI_sub]; congr 1; omega)) (by first | omega | (simp only []; omega)) (by first | exact Or.inl rfl | exact Or.inr rfl | assumption) dX12_knows_11 ?_
  refine X_aload_n (i := 0) hB dX12_knows_12 rfl rfl ?_
  refine X_getr hB cw10 fX12_36 rfl hR.1.1 hR.1.2 hF.2.2.2.2.2.2.2.2.1 dX12_knows_13 ?_
  refine X_bipush (v := 8) hB dX12_knows_16 (by decide) ?_
  refine X_iload_n (i := 2) hB dX12_knows_18 rfl rfl ?_
  refine X_imul hB dX12_knows_19 ?_
  refine X_iload_n (i := 1) hB dX12_knows_20 rfl rfl ?_
  refine X_iadd hB dX12_knows_21 ?_
  refine X_iconst (v := 1) hB dX12_knows_22 (by decide) ?_
  refine X_zastN hB (8 * b + a) hR.2.2.2.2.2.2.2.2.2.1.1 hR.2.2.2.2.2.2.2.2.2.1.2 (by decide) (by first | rfl | (simp (disch := omega) only [nlit, nI_add, nI_mul, nI_sub]; done) | (simp (disch := omega) only [nlit, nI_add, nI_mul, nI_sub]; congr 1; omega)) (by first | omega | (simp only []; omega)) (by first | exact Or.inl rfl | exact Or.inr rfl | assumption) dX12_knows_23 ?_
  refine X_vret hB rfl dX12_knows_24 ?_
  exact ⟨rfl, by rw [setI_rowI, setI_rowI, rowI_rowI, rowI_at]⟩
set_option maxRecDepth 100000 in
set_option maxHeartbeats 4000000 in
theorem l_lK0 (hR : RLay G h) (hF : RRef S h) {E : Ev} (hB : Bd G E mX12_laysKnown) {Q : Option Value → St → Prop} (n : Nat) (kk : ∀ K v, (∀ j, j < 64 → K j = 0) → X G E mX12_laysKnown 2 Q (rowI S (h + 9) K) 21 [some (.ref h), some (.int (nI n)), some (.int v), none] []) :
    ∀ (k i : Nat) (K : Nat → Int32), i + k = 64 → (∀ j, j < i → K j = 0) → X G E mX12_laysKnown 2 Q (rowI S (h + 9) K) 2 [some (.ref h), some (.int (nI n)), some (.int (nI i)), none] [] := by
  intro k
  induction k with
  | zero =>
    intro i K h1 h2
    refine X_iload_n (i := 2) hB dX12_laysKnown_2 rfl rfl ?_
    refine X_bipush (v := 64) hB dX12_laysKnown_3 (by decide) ?_
    refine X_icmp_ge (tgt := 21) hB dX12_laysKnown_5 (by decide) (fun c5 => ?_) (fun c5 => absurd c5 (by simp (disch := omega) only [nlit, nI_leI, nI_ltI]; omega))
    exact kk K _ (fun j hj => h2 j (by omega))
  | succ k ih =>
    intro i K h1 h2
    refine X_iload_n (i := 2) hB dX12_laysKnown_2 rfl rfl ?_
    refine X_bipush (v := 64) hB dX12_laysKnown_3 (by decide) ?_
    refine X_icmp_ge (tgt := 21) hB dX12_laysKnown_5 (by decide) (fun c5 => absurd c5 (by simp (disch := omega) only [nlit, nI_leI, nI_ltI]; omega)) (fun c5 => ?_)
    refine X_aload_n (i := 0) hB dX12_laysKnown_8 rfl rfl ?_
    refine X_getr hB cw10 fX12_36 rfl hR.1.1 hR.1.2 hF.2.2.2.2.2.2.2.2.1 dX12_laysKnown_9 ?_
    refine X_iload_n (i := 2) hB dX12_laysKnown_12 rfl rfl ?_
    refine X_iconst (v := 0) hB dX12_laysKnown_13 (by decide) ?_
    refine X_zastN hB (i) hR.2.2.2.2.2.2.2.2.2.1.1 hR.2.2.2.2.2.2.2.2.2.1.2 (by decide) (by first | rfl | (simp (disch := omega) only [nlit, nI_add, nI_mul, nI_sub]; done) | (simp (disch := omega) only [nlit, nI_add, nI_mul, nI_sub]; congr 1; omega)) (by first | omega | (simp only []; omega)) (by first | exact Or.inl rfl | exact Or.inr rfl | assumption) dX12_laysKnown_14 ?_
    refine X_iinc hB dX12_laysKnown_15 rfl rfl (by decide) rfl ?_
    refine X_goto (tgt := 2) hB dX12_laysKnown_18 (by decide) ?_
    rw [setI_rowI, rowI_rowI, rowI_at]
    refine X_lv ?_ (ih (i + 1) _ (by omega) (fun j hj => ?_))
    · rw [nI_succ]; rfl
    · by_cases hji : j = i
      · subst hji; rw [upd_at]
      · rw [upd_ne _ _ hji]; exact h2 j (by omega)
set_option maxRecDepth 100000 in
set_option maxHeartbeats 4000000 in
theorem l_lKm (hR : RLay G h) (hF : RRef S h) {E : Ev} (hB : Bd G E mX12_laysKnown) {Q : Option Value → St → Prop} (n : Nat) (hn : n < 8) (c : List (List Nat)) (hok : ∀ e ∈ c, okE true e) (hlen : c.length ≤ 18) (hc : cacheR (S.1 (h + 1)) n true c) (hmp : S.1 (h + 1) (89 + 86 * n + 0) = 1) (kk : ∀ K, knR K (kn c) → Q none (rowI S (h + 9) K)) :
    ∀ (k p : Nat) (K : Nat → Int32), p + k = c.length → knR K (kn (c.take p)) → X G E mX12_laysKnown 2 Q (rowI S (h + 9) K) 23 [some (.ref h), some (.int (nI n)), some (.int (nI p)), none] [] := by
  intro k
  induction k with
  | zero =>
    intro p K h1 hK
    refine X_iload_n (i := 2) hB dX12_laysKnown_23 rfl rfl ?_
    refine X_aload_n (i := 0) hB dX12_laysKnown_24 rfl rfl ?_
    refine X_iload_n (i := 1) hB dX12_laysKnown_25 rfl rfl ?_
    refine X_iconst (v := 2) hB dX12_laysKnown_26 (by decide) ?_
    refine X_callV hB kX12_180 cw10 hR.1.1 hR.1.2 (c_ofE (w := 2) hR (by exact hF.of rfl) rfl (by first | rfl | (simp (disch := omega) only [nlit, nI_add, nI_mul, nI_sub]; done) | (simp (disch := omega) only [nlit, nI_add, nI_mul, nI_sub]; congr 1; omega)) (by omega) (by omega)) (by decide) (by decide) rfl rfl (Nat.le_of_ble_eq_true rfl) dX12_laysKnown_27 (fun r27 S27 q27 => ?_)
    obtain ⟨rfl, rfl⟩ := q27
    refine X_topi (y := nI c.length) (by rw [rowI_ne _ _ (by omega)]; exact hc.1) ?_
    refine X_icmp_ge (tgt := 124) hB dX12_laysKnown_30 (by decide) (fun c30 => ?_) (fun c30 => absurd c30 (by simp (disch := omega) only [nlit, nI_leI, nI_ltI]; omega))
    refine X_vret hB rfl dX12_laysKnown_124 ?_
    rw [List.take_of_length_le (by omega)] at hK
    exact kk K hK
  | succ k ih =>
    intro p K h1 hK
    have hp : p < c.length := by omega
    have hpe := hok _ (getD_mem (d := []) hp)
    have hlk := hc.link hp
    have b0 : (c.getD p []).getD 0 0 < 8 := hpe.2.2.1 _ (getD_mem (by omega))
    have b1 : (c.getD p []).getD 1 0 < 8 := hpe.2.2.1 _ (getD_mem (by omega))
    refine X_iload_n (i := 2) hB dX12_laysKnown_23 rfl rfl ?_
    refine X_aload_n (i := 0) hB dX12_laysKnown_24 rfl rfl ?_
    refine X_iload_n (i := 1) hB dX12_laysKnown_25 rfl rfl ?_
    refine X_iconst (v := 2) hB dX12_laysKnown_26 (by decide) ?_
    refine X_callV hB kX12_180 cw10 hR.1.1 hR.1.2 (c_ofE (w := 2) hR (by exact hF.of rfl) rfl (by first | rfl | (simp (disch := omega) only [nlit, nI_add, nI_mul, nI_sub]; done) | (simp (disch := omega) only [nlit, nI_add, nI_mul, nI_sub]; congr 1; omega)) (by omega) (by omega)) (by decide) (by decide) rfl rfl (Nat.le_of_ble_eq_true rfl) dX12_laysKnown_27 (fun r27 S27 q27 => ?_)
    obtain ⟨rfl, rfl⟩ := q27
    refine X_topi (y := nI c.length) (by rw [rowI_ne _ _ (by omega)]; exact hc.1) ?_
    refine X_icmp_ge (tgt := 124) hB dX12_laysKnown_30 (by decide) (fun c30 => absurd c30 (by simp (disch := omega) only [nlit, nI_leI, nI_ltI]; omega)) (fun c30 => ?_)
    refine X_aload_n (i := 0) hB dX12_laysKnown_33 rfl rfl ?_
    refine X_iload_n (i := 1) hB dX12_laysKnown_34 rfl rfl ?_
    refine X_iconst (v := 0) hB dX12_laysKnown_35 (by decide) ?_
    refine X_callV hB kX12_180 cw10 hR.1.1 hR.1.2 (c_ofE (w := 0) hR (by exact hF.of rfl) rfl (by first | rfl | (simp (disch := omega) only [nlit, nI_add, nI_mul, nI_sub]; done) | (simp (disch := omega) only [nlit, nI_add, nI_mul, nI_sub]; congr 1; omega)) (by omega) (by omega)) (by decide) (by decide) rfl rfl (Nat.le_of_ble_eq_true rfl) dX12_laysKnown_36 (fun r36 S36 q36 => ?_)
    obtain ⟨rfl, rfl⟩ := q36
    refine X_topi (y := 1) (by rw [rowI_ne _ _ (by omega)]; exact hmp) ?_
    refine X_iconst (v := 1) hB dX12_laysKnown_39 (by decide) ?_
    refine X_icmp_ne (tgt := 71) hB dX12_laysKnown_40 (by decide) (fun c40 => absurd rfl c40) (fun c40 => ?_)
    refine X_aload_n (i := 0) hB dX12_laysKnown_43 rfl rfl ?_
    refine X_aload_n (i := 0) hB dX12_laysKnown_44 rfl rfl ?_
    refine X_iload_n (i := 1) hB dX12_laysKnown_45 rfl rfl ?_
    refine X_bipush (v := 15) hB dX12_laysKnown_46 (by decide) ?_
    refine X_iconst (v := 2) hB dX12_laysKnown_48 (by decide) ?_
    refine X_iload_n (i := 2) hB dX12_laysKnown_49 rfl rfl ?_
    refine X_imul hB dX12_laysKnown_50 ?_
    refine X_iadd hB dX12_laysKnown_51 ?_
    refine X_callV hB kX12_180 cw10 hR.1.1 hR.1.2 (c_ofE (w := 15 + 2 * p) hR (by exact hF.of rfl) rfl (by first | rfl | (simp (disch := omega) only [nlit, nI_add, nI_mul, nI_sub]; done) | (simp (disch := omega) only [nlit, nI_add, nI_mul, nI_sub]; congr 1; omega)) (by omega) (by omega)) (by decide) (by decide) rfl rfl (Nat.le_of_ble_eq_true rfl) dX12_laysKnown_52 (fun r52 S52 q52 => ?_)
    obtain ⟨rfl, rfl⟩ := q52
    refine X_topi (y := nI ((c.getD p []).getD 0 0)) (by rw [rowI_ne _ _ (by omega), ← hlk.2.1]; exact congrArg _ (by omega)) ?_
    refine X_aload_n (i := 0) hB dX12_laysKnown_55 rfl rfl ?_
    refine X_iload_n (i := 1) hB dX12_laysKnown_56 rfl rfl ?_
    refine X_bipush (v := 15) hB dX12_laysKnown_57 (by decide) ?_
    refine X_iconst (v := 2) hB dX12_laysKnown_59 (by decide) ?_
    refine X_iload_n (i := 2) hB dX12_laysKnown_60 rfl rfl ?_
    refine X_imul hB dX12_laysKnown_61 ?_
    refine X_iadd hB dX12_laysKnown_62 ?_
    refine X_iconst (v := 1) hB dX12_laysKnown_63 (by decide) ?_
    refine X_iadd hB dX12_laysKnown_64 ?_
    refine X_callV hB kX12_180 cw10 hR.1.1 hR.1.2 (c_ofE (w := 15 + 2 * p + 1) hR (by exact hF.of rfl) rfl (by first | rfl | (simp (disch := omega) only [nlit, nI_add, nI_mul, nI_sub]; done) | (simp (disch := omega) only [nlit, nI_add, nI_mul, nI_sub]; congr 1; omega)) (by omega) (by omega)) (by decide) (by decide) rfl rfl (Nat.le_of_ble_eq_true rfl) dX12_laysKnown_65 (fun r65 S65 q65 => ?_)
    obtain ⟨rfl, rfl⟩ := q65
    refine X_topi (y := nI ((c.getD p []).getD 1 0)) (by rw [rowI_ne _ _ (by omega), ← hlk.2.2]; exact congrArg _ (by omega)) ?_
    refine X_callV hB kX12_221 cw10 hR.1.1 hR.1.2 (c_knows hR (by exact hF.of rfl) b0 b1) (by decide) (by decide) rfl rfl (Nat.le_of_ble_eq_true rfl) dX12_laysKnown_68 (fun r68 S68 q68 => ?_)
    obtain ⟨rfl, rfl⟩ := q68
    rw [rowI_rowI, rowI_at]
    refine X_iconst (v := 1) hB dX12_laysKnown_71 (by decide) ?_
    refine X_istore_n (i := 3) hB dX12_laysKnown_72 rfl (by decide) rfl ?_
    refine X_aload_n (i := 0) hB dX12_laysKnown_73 rfl rfl ?_
    refine X_iload_n (i := 1) hB dX12_laysKnown_74 rfl rfl ?_
    refine X_iconst (v := 0) hB dX12_laysKnown_75 (by decide) ?_
    refine X_callV hB kX12_180 cw10 hR.1.1 hR.1.2 (c_ofE (w := 0) hR (by exact hF.of rfl) rfl (by first | rfl | (simp (disch := omega) only [nlit, nI_add, nI_mul, nI_sub]; done) | (simp (disch := omega) only [nlit, nI_add, nI_mul, nI_sub]; congr 1; omega)) (by omega) (by omega)) (by decide) (by decide) rfl rfl (Nat.le_of_ble_eq_true rfl) dX12_laysKnown_76 (fun r76 S76 q76 => ?_)
    obtain ⟨rfl, rfl⟩ := q76
    refine X_topi (y := 1) (by rw [rowI_ne _ _ (by omega)]; exact hmp) ?_
    refine X_if_ne (tgt := 118) hB dX12_laysKnown_79 (by decide) (fun c79 => ?_) (fun c79 => absurd c79 (by decide))
    refine X_iinc hB dX12_laysKnown_118 rfl rfl (by decide) rfl ?_
    refine X_goto (tgt := 23) hB dX12_laysKnown_121 (by decide) ?_
    refine X_dl [some (.ref h), some (.int (nI n)), some (.int (nI (p + 1))), none] (by simp [lle, lset, nI_succ]) (ih (p + 1) _ (by omega) (knR_add hK b0 b1 (fun x y => ?_)))
    rw [List.take_succ_eq_append_getElem hp, ← getD_lt (d := []) hp, kn_snoc, (congrArg (sbs x y) (two_eq hlk.1 rfl rfl)).trans sbs_two, Bool.or_assoc]
set_option maxRecDepth 100000 in
set_option maxHeartbeats 4000000 in
theorem l_lKp1 (hR : RLay G h) (hF : RRef S h) {E : Ev} (hB : Bd G E mX12_laysKnown) {Q : Option Value → St → Prop} (n : Nat) (hn : n < 8) (c : List (List Nat)) (hcl : ∀ e ∈ c, okE false e) (hlen : c.length ≤ 6) (hc : cacheR (S.1 (h + 1)) n false c) (hmp : S.1 (h + 1) (89 + 86 * n + 0) = 0) (p : Nat) (hp : p < c.length) (kk : ∀ K v, knR K (kn (c.take (p + 1))) → X G E mX12_laysKnown 2 Q (rowI S (h + 9) K) 118 [some (.ref h), some (.int (nI n)), some (.int (nI p)), some (.int v)] []) :
    ∀ (k i : Nat) (K : Nat → Int32), i + k = (c.getD p []).length → 1 ≤ i → knR K (fun x y => kn (c.take p) x y || sbs x y ((c.getD p []).take i)) → X G E mX12_laysKnown 2 Q (rowI S (h + 9) K) 73 [some (.ref h), some (.int (nI n)), some (.int (nI p)), some (.int (nI i))] [] := by
  have hpe := hcl _ (getD_mem (d := []) hp)
  have hpl := hpe.1
  intro k
  induction k with
  | zero =>
    intro i K h1 h2 hK
    refine X_aload_n (i := 0) hB dX12_laysKnown_73 rfl rfl ?_
    refine X_iload_n (i := 1) hB dX12_laysKnown_74 rfl rfl ?_
    refine X_iconst (v := 0) hB dX12_laysKnown_75 (by decide) ?_
    refine X_callV hB kX12_180 cw10 hR.1.1 hR.1.2 (c_ofE (w := 0) hR (by exact hF.of rfl) rfl (by first | rfl | (simp (disch := omega) only [nlit, nI_add, nI_mul, nI_sub]; done) | (simp (disch := omega) only [nlit, nI_add, nI_mul, nI_sub]; congr 1; omega)) (by omega) (by omega)) (by decide) (by decide) rfl rfl (Nat.le_of_ble_eq_true rfl) dX12_laysKnown_76 (fun r76 S76 q76 => ?_)
    obtain ⟨rfl, rfl⟩ := q76
    refine X_topi (y := 0) (by rw [rowI_ne _ _ (by omega)]; exact hmp) ?_
    refine X_if_ne (tgt := 118) hB dX12_laysKnown_79 (by decide) (fun c79 => absurd rfl c79) (fun c79 => ?_)
    refine X_iload_n (i := 3) hB dX12_laysKnown_82 rfl rfl ?_
    refine X_aload_n (i := 0) hB dX12_laysKnown_83 rfl rfl ?_
    refine X_iload_n (i := 1) hB dX12_laysKnown_84 rfl rfl ?_
    refine X_iload_n (i := 2) hB dX12_laysKnown_85 rfl rfl ?_
    refine X_callV hB kX12_183 cw10 hR.1.1 hR.1.2 (c_pathMany hR (by exact hF.of rfl) hn (by omega)) (by decide) (by decide) rfl rfl (Nat.le_of_ble_eq_true rfl) dX12_laysKnown_86 (fun r86 S86 q86 => ?_)
    obtain ⟨rfl, rfl⟩ := q86
    refine X_topi (y := nI (c.getD p []).length) (by rw [rowI_ne _ _ (by omega)]; exact (hc.path hp).1) ?_
    refine X_icmp_ge (tgt := 118) hB dX12_laysKnown_89 (by decide) (fun c89 => ?_) (fun c89 => absurd c89 (by simp (disch := omega) only [nlit, nI_leI, nI_ltI]; omega))
    refine kk K _ ?_
    rw [List.take_of_length_le (l := c.getD p []) (by omega)] at hK
    intro x y hx hy
    rw [hK x y hx hy, List.take_succ_eq_append_getElem hp, ← getD_lt (d := []) hp, kn_snoc]
  | succ k ih =>
    intro i K h1 h2 hK
    have b0 : (c.getD p []).getD (i - 1) 0 < 8 := hpe.2.2.1 _ (getD_mem (by omega))
    have b1 : (c.getD p []).getD i 0 < 8 := hpe.2.2.1 _ (getD_mem (by omega))
    refine X_aload_n (i := 0) hB dX12_laysKnown_73 rfl rfl ?_
    refine X_iload_n (i := 1) hB dX12_laysKnown_74 rfl rfl ?_
    refine X_iconst (v := 0) hB dX12_laysKnown_75 (by decide) ?_
    refine X_callV hB kX12_180 cw10 hR.1.1 hR.1.2 (c_ofE (w := 0) hR (by exact hF.of rfl) rfl (by first | rfl | (simp (disch := omega) only [nlit, nI_add, nI_mul, nI_sub]; done) | (simp (disch := omega) only [nlit, nI_add, nI_mul, nI_sub]; congr 1; omega)) (by omega) (by omega)) (by decide) (by decide) rfl rfl (Nat.le_of_ble_eq_true rfl) dX12_laysKnown_76 (fun r76 S76 q76 => ?_)
    obtain ⟨rfl, rfl⟩ := q76
    refine X_topi (y := 0) (by rw [rowI_ne _ _ (by omega)]; exact hmp) ?_
    refine X_if_ne (tgt := 118) hB dX12_laysKnown_79 (by decide) (fun c79 => absurd rfl c79) (fun c79 => ?_)
    refine X_iload_n (i := 3) hB dX12_laysKnown_82 rfl rfl ?_
    refine X_aload_n (i := 0) hB dX12_laysKnown_83 rfl rfl ?_
    refine X_iload_n (i := 1) hB dX12_laysKnown_84 rfl rfl ?_
    refine X_iload_n (i := 2) hB dX12_laysKnown_85 rfl rfl ?_
    refine X_callV hB kX12_183 cw10 hR.1.1 hR.1.2 (c_pathMany hR (by exact hF.of rfl) hn (by omega)) (by decide) (by decide) rfl rfl (Nat.le_of_ble_eq_true rfl) dX12_laysKnown_86 (fun r86 S86 q86 => ?_)
    obtain ⟨rfl, rfl⟩ := q86
    refine X_topi (y := nI (c.getD p []).length) (by rw [rowI_ne _ _ (by omega)]; exact (hc.path hp).1) ?_
    refine X_icmp_ge (tgt := 118) hB dX12_laysKnown_89 (by decide) (fun c89 => absurd c89 (by simp (disch := omega) only [nlit, nI_leI, nI_ltI]; omega)) (fun c89 => ?_)
    refine X_aload_n (i := 0) hB dX12_laysKnown_92 rfl rfl ?_
    refine X_aload_n (i := 0) hB dX12_laysKnown_93 rfl rfl ?_
    refine X_iload_n (i := 1) hB dX12_laysKnown_94 rfl rfl ?_
    refine X_iload_n (i := 2) hB dX12_laysKnown_95 rfl rfl ?_
    refine X_iload_n (i := 3) hB dX12_laysKnown_96 rfl rfl ?_
    refine X_iconst (v := 1) hB dX12_laysKnown_97 (by decide) ?_
    refine X_isub hB dX12_laysKnown_98 ?_
    refine X_topi (y := nI (i - 1)) (by first | rfl | (simp (disch := omega) only [nlit, nI_add, nI_mul, nI_sub]; done) | (simp (disch := omega) only [nlit, nI_add, nI_mul, nI_sub]; congr 1; omega)) ?_
    refine X_callV hB kX12_189 cw10 hR.1.1 hR.1.2 (c_pathAt hR (by exact hF.of rfl) hn (by omega) (i := i - 1) (by omega)) (by decide) (by decide) rfl rfl (Nat.le_of_ble_eq_true rfl) dX12_laysKnown_99 (fun r99 S99 q99 => ?_)
    obtain ⟨rfl, rfl⟩ := q99
    refine X_topi (y := nI ((c.getD p []).getD (i - 1) 0)) (by rw [rowI_ne _ _ (by omega)]; exact (hc.path hp).2 _ (by omega)) ?_
    refine X_aload_n (i := 0) hB dX12_laysKnown_102 rfl rfl ?_
    refine X_iload_n (i := 1) hB dX12_laysKnown_103 rfl rfl ?_
    refine X_iload_n (i := 2) hB dX12_laysKnown_104 rfl rfl ?_
    refine X_iload_n (i := 3) hB dX12_laysKnown_105 rfl rfl ?_
    refine X_callV hB kX12_189 cw10 hR.1.1 hR.1.2 (c_pathAt hR (by exact hF.of rfl) hn (by omega) (i := i) (by omega)) (by decide) (by decide) rfl rfl (Nat.le_of_ble_eq_true rfl) dX12_laysKnown_106 (fun r106 S106 q106 => ?_)
    obtain ⟨rfl, rfl⟩ := q106
    refine X_topi (y := nI ((c.getD p []).getD i 0)) (by rw [rowI_ne _ _ (by omega)]; exact (hc.path hp).2 _ (by omega)) ?_
    refine X_callV hB kX12_221 cw10 hR.1.1 hR.1.2 (c_knows hR (by exact hF.of rfl) b0 b1) (by decide) (by decide) rfl rfl (Nat.le_of_ble_eq_true rfl) dX12_laysKnown_109 (fun r109 S109 q109 => ?_)
    obtain ⟨rfl, rfl⟩ := q109
    rw [rowI_rowI, rowI_at]
    refine X_iinc hB dX12_laysKnown_112 rfl rfl (by decide) rfl ?_
    refine X_goto (tgt := 73) hB dX12_laysKnown_115 (by decide) ?_
    refine X_lv ?_ (ih (i + 1) _ (by omega) (by omega) (knR_add hK b0 b1 (fun x y => ?_)))
    · rw [nI_succ]; rfl
    · rw [sbs_take2 h2 (by omega)]; simp only [Bool.or_assoc]
set_option maxRecDepth 100000 in
set_option maxHeartbeats 4000000 in
theorem l_lKp (hR : RLay G h) (hF : RRef S h) {E : Ev} (hB : Bd G E mX12_laysKnown) {Q : Option Value → St → Prop} (n : Nat) (hn : n < 8) (c : List (List Nat)) (hcl : ∀ e ∈ c, okE false e) (hlen : c.length ≤ 6) (hc : cacheR (S.1 (h + 1)) n false c) (hmp : S.1 (h + 1) (89 + 86 * n + 0) = 0) (kk : ∀ K, knR K (kn c) → Q none (rowI S (h + 9) K)) :
    ∀ (k p : Nat) (K : Nat → Int32), p + k = c.length → knR K (kn (c.take p)) → X G E mX12_laysKnown 2 Q (rowI S (h + 9) K) 23 [some (.ref h), some (.int (nI n)), some (.int (nI p)), none] [] := by
  intro k
  induction k with
  | zero =>
    intro p K h1 hK
    refine X_iload_n (i := 2) hB dX12_laysKnown_23 rfl rfl ?_
    refine X_aload_n (i := 0) hB dX12_laysKnown_24 rfl rfl ?_
    refine X_iload_n (i := 1) hB dX12_laysKnown_25 rfl rfl ?_
    refine X_iconst (v := 2) hB dX12_laysKnown_26 (by decide) ?_
    refine X_callV hB kX12_180 cw10 hR.1.1 hR.1.2 (c_ofE (w := 2) hR (by exact hF.of rfl) rfl (by first | rfl | (simp (disch := omega) only [nlit, nI_add, nI_mul, nI_sub]; done) | (simp (disch := omega) only [nlit, nI_add, nI_mul, nI_sub]; congr 1; omega)) (by omega) (by omega)) (by decide) (by decide) rfl rfl (Nat.le_of_ble_eq_true rfl) dX12_laysKnown_27 (fun r27 S27 q27 => ?_)
    obtain ⟨rfl, rfl⟩ := q27
    refine X_topi (y := nI c.length) (by rw [rowI_ne _ _ (by omega)]; exact hc.1) ?_
    refine X_icmp_ge (tgt := 124) hB dX12_laysKnown_30 (by decide) (fun c30 => ?_) (fun c30 => absurd c30 (by simp (disch := omega) only [nlit, nI_leI, nI_ltI]; omega))
    refine X_vret hB rfl dX12_laysKnown_124 ?_
    rw [List.take_of_length_le (by omega)] at hK
    exact kk K hK
  | succ k ih =>
    intro p K h1 hK
    have hp : p < c.length := by omega
    have hpe := hcl _ (getD_mem (d := []) hp)
    have hp2 := hpe.2.1
    refine X_iload_n (i := 2) hB dX12_laysKnown_23 rfl rfl ?_
    refine X_aload_n (i := 0) hB dX12_laysKnown_24 rfl rfl ?_
    refine X_iload_n (i := 1) hB dX12_laysKnown_25 rfl rfl ?_
    refine X_iconst (v := 2) hB dX12_laysKnown_26 (by decide) ?_
    refine X_callV hB kX12_180 cw10 hR.1.1 hR.1.2 (c_ofE (w := 2) hR (by exact hF.of rfl) rfl (by first | rfl | (simp (disch := omega) only [nlit, nI_add, nI_mul, nI_sub]; done) | (simp (disch := omega) only [nlit, nI_add, nI_mul, nI_sub]; congr 1; omega)) (by omega) (by omega)) (by decide) (by decide) rfl rfl (Nat.le_of_ble_eq_true rfl) dX12_laysKnown_27 (fun r27 S27 q27 => ?_)
    obtain ⟨rfl, rfl⟩ := q27
    refine X_topi (y := nI c.length) (by rw [rowI_ne _ _ (by omega)]; exact hc.1) ?_
    refine X_icmp_ge (tgt := 124) hB dX12_laysKnown_30 (by decide) (fun c30 => absurd c30 (by simp (disch := omega) only [nlit, nI_leI, nI_ltI]; omega)) (fun c30 => ?_)
    refine X_aload_n (i := 0) hB dX12_laysKnown_33 rfl rfl ?_
    refine X_iload_n (i := 1) hB dX12_laysKnown_34 rfl rfl ?_
    refine X_iconst (v := 0) hB dX12_laysKnown_35 (by decide) ?_
    refine X_callV hB kX12_180 cw10 hR.1.1 hR.1.2 (c_ofE (w := 0) hR (by exact hF.of rfl) rfl (by first | rfl | (simp (disch := omega) only [nlit, nI_add, nI_mul, nI_sub]; done) | (simp (disch := omega) only [nlit, nI_add, nI_mul, nI_sub]; congr 1; omega)) (by omega) (by omega)) (by decide) (by decide) rfl rfl (Nat.le_of_ble_eq_true rfl) dX12_laysKnown_36 (fun r36 S36 q36 => ?_)
    obtain ⟨rfl, rfl⟩ := q36
    refine X_topi (y := 0) (by rw [rowI_ne _ _ (by omega)]; exact hmp) ?_
    refine X_iconst (v := 1) hB dX12_laysKnown_39 (by decide) ?_
    refine X_icmp_ne (tgt := 71) hB dX12_laysKnown_40 (by decide) (fun c40 => ?_) (fun c40 => absurd c40 (by decide))
    refine X_iconst (v := 1) hB dX12_laysKnown_71 (by decide) ?_
    refine X_istore_n (i := 3) hB dX12_laysKnown_72 rfl (by decide) rfl ?_
    refine l_lKp1 hR hF hB n hn c hcl hlen hc hmp p hp (fun K2 v9 hK2 => ?_) ((c.getD p []).length - 1) 1 K (by omega) (by omega) (fun x y hx hy => ?_)
    · refine X_iinc hB dX12_laysKnown_118 rfl rfl (by decide) rfl ?_
      refine X_goto (tgt := 23) hB dX12_laysKnown_121 (by decide) ?_
      exact X_dl [some (.ref h), some (.int (nI n)), some (.int (nI (p + 1))), none] (by simp [lle, lset, nI_succ]) (ih (p + 1) K2 (by omega) hK2)
    · have e9 : sbs x y ((c.getD p []).take 1) = false := by
        cases hce : c.getD p [] with
        | nil => rfl
        | cons z t => rfl
      rw [hK x y hx hy]; simp only [e9, Bool.or_false]
set_option maxRecDepth 100000 in
set_option maxHeartbeats 4000000 in
theorem c_laysKnown (hR : RLay G h) (hF : RRef S h) (n : Nat) (hn : n < 8) (mp : Bool) (room : Nat) (c : List (List Nat)) (hok : okC mp room c) (hc : cacheR (S.1 (h + 1)) n mp c) (hmp : S.1 (h + 1) (89 + 86 * n + 0) = if mp then 1 else 0) : C G mX12_laysKnown 2 [.ref h, .int (nI n)] S (fun r S' => r = none ∧ fr h [h + 9] [] S S' ∧ knR (S'.1 (h + 9)) (kn c)) := by
  refine C.mk (lv := [some (.ref h), some (.int (nI n)), none, none]) (by decide) (Nat.le_of_ble_eq_true rfl) rfl (fun E hB => ?_)
  refine X_iconst (v := 0) hB dX12_laysKnown_0 (by decide) ?_
  refine X_istore_n (i := 2) hB dX12_laysKnown_1 rfl (by decide) rfl ?_
  refine X_S (S' := rowI S (h + 9) (S.1 (h + 9))) (by rw [rowI_self]) (l_lK0 hR hF hB n (fun K v9 hK => ?_) 64 0 _ (by omega) (fun j hj => by omega))
  have hK0 : knR K (kn (c.take 0)) := fun x y hx hy => by rw [hK _ (by omega)]; simp [kn]
  refine X_iconst (v := 0) hB dX12_laysKnown_21 (by decide) ?_
  refine X_istore_n (i := 2) hB dX12_laysKnown_22 rfl (by decide) rfl ?_
  refine X_dl [some (.ref h), some (.int (nI n)), some (.int (nI 0)), none] (by simp [lle, lset, nI_0]) ?_
  cases mp with
  | true =>
    have hlen : c.length ≤ 18 := by have := hok.2.1; have := hok.2.2.2.1; simp at *; omega
    exact l_lKm hR hF hB n hn c hok.1 hlen hc hmp (fun K2 hK2 => ⟨rfl, fr.row (by simp) (by omega), by rw [rowI_at]; exact hK2⟩) c.length 0 K (by omega) hK0
  | false =>
    have hlen : c.length ≤ 6 := by have := hok.2.1; have := hok.2.2.2.1; simp at *; omega
    exact l_lKp hR hF hB n hn c hok.1 hlen hc hmp (fun K2 hK2 => ⟨rfl, fr.row (by simp) (by omega), by rw [rowI_at]; exact hK2⟩) c.length 0 K (by omega) hK0
end REF
