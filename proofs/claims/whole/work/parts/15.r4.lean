section REF
variable {G : Gc} {S : St} {h : Nat}
theorem c_lesserN {a b : Nat} (ha : a < 2 ^ 31) (hb : b < 2 ^ 31) : C G mX12_lesser 0 [.int (nI a), .int (nI b)] S (fun r S' => r = some (.int (nI (min a b))) ∧ S = S') := by
  refine C.mono (c_lesser (nI a) (nI b)) (fun r S' q => ⟨?_, q.2⟩)
  rw [q.1]; congr 2
  by_cases hc : a < b
  · rw [if_pos (nI_lt hc hb), show min a b = a by omega]
  · rw [if_neg (nI_nlt (by omega) ha), show min a b = b by omega]
theorem c_greaterN {a b : Nat} (ha : a < 2 ^ 31) (hb : b < 2 ^ 31) : C G mX12_greater 0 [.int (nI a), .int (nI b)] S (fun r S' => r = some (.int (nI (max a b))) ∧ S = S') := by
  refine C.mono (c_greater (nI a) (nI b)) (fun r S' q => ⟨?_, q.2⟩)
  rw [q.1]; congr 2
  by_cases hc : b < a
  · rw [if_pos (nI_lt hc ha), show max a b = a by omega]
  · rw [if_neg (nI_nlt (by omega) hb), show max a b = b by omega]
set_option maxRecDepth 100000 in
set_option maxHeartbeats 4000000 in
theorem l_linkKept (hR : RLay G h) (hF : RRef S h) {E : Ev} (hB : Bd G E mX12_linkKept) {Q : Option Value → St → Prop} (n a b : Nat) (hn : n < 8) (ha : a < 8) (hb : b < 8) (c : List (List Nat)) (hok : ∀ e ∈ c, okE true e) (hlen : c.length ≤ 18) (hc : cacheR (S.1 (h + 1)) n true c) (kk : Q (some (.int (lkI c (lnk a b)))) S) :
    ∀ (k i : Nat), i + k = c.length → (∀ j, j < i → c.getD j [] ≠ lnk a b) → X G E mX12_linkKept 1 Q S 3 [some (.ref h), some (.int (nI n)), some (.int (nI a)), some (.int (nI b)), some (.int (nI i))] [] := by
  intro k
  induction k with
  | zero =>
    intro i h1 h2
    refine X_iload hB dX12_linkKept_3 rfl ?_
    refine X_aload_n (i := 0) hB dX12_linkKept_5 rfl rfl ?_
    refine X_iload_n (i := 1) hB dX12_linkKept_6 rfl rfl ?_
    refine X_iconst (v := 2) hB dX12_linkKept_7 (by decide) ?_
    refine X_callV hB kX12_180 cw10 hR.1.1 hR.1.2 (c_ofE (w := 2) hR (by exact hF.of rfl) rfl (by first | rfl | (simp (disch := omega) only [nlit, nI_add, nI_mul, nI_sub]; done) | (simp (disch := omega) only [nlit, nI_add, nI_mul, nI_sub]; congr 1; omega)) (by omega) (by omega)) (by decide) (by decide) rfl rfl (Nat.le_of_ble_eq_true rfl) dX12_linkKept_8 (fun r8 S8 q8 => ?_)
    obtain ⟨rfl, rfl⟩ := q8
    refine X_topi (y := nI c.length) hc.1 ?_
    refine X_icmp_ge (tgt := 65) hB dX12_linkKept_11 (by decide) (fun c11 => ?_) (fun c11 => absurd c11 (by simp (disch := omega) only [nI_leI, nI_ltI]; omega))
    refine X_iconst (v := (-1)) hB dX12_linkKept_65 (by decide) ?_
    refine X_iret hB rfl dX12_linkKept_66 ?_
    unfold lkI at kk
    rw [if_neg (not_in (fun j hj => h2 j (by omega)))] at kk
    exact kk
  | succ k ih =>
    intro i h1 h2
    have hil : i < c.length := by omega
    have hie := hok _ (getD_mem (d := []) hil)
    have b0 : (c.getD i []).getD 0 0 < 8 := hie.2.2.1 _ (getD_mem (by rw [(hc.link hil).1]; decide))
    have b1 : (c.getD i []).getD 1 0 < 8 := hie.2.2.1 _ (getD_mem (by rw [(hc.link hil).1]; decide))
    refine X_iload hB dX12_linkKept_3 rfl ?_
    refine X_aload_n (i := 0) hB dX12_linkKept_5 rfl rfl ?_
    refine X_iload_n (i := 1) hB dX12_linkKept_6 rfl rfl ?_
    refine X_iconst (v := 2) hB dX12_linkKept_7 (by decide) ?_
    refine X_callV hB kX12_180 cw10 hR.1.1 hR.1.2 (c_ofE (w := 2) hR (by exact hF.of rfl) rfl (by first | rfl | (simp (disch := omega) only [nlit, nI_add, nI_mul, nI_sub]; done) | (simp (disch := omega) only [nlit, nI_add, nI_mul, nI_sub]; congr 1; omega)) (by omega) (by omega)) (by decide) (by decide) rfl rfl (Nat.le_of_ble_eq_true rfl) dX12_linkKept_8 (fun r8 S8 q8 => ?_)
    obtain ⟨rfl, rfl⟩ := q8
    refine X_topi (y := nI c.length) hc.1 ?_
    refine X_icmp_ge (tgt := 65) hB dX12_linkKept_11 (by decide) (fun c11 => absurd c11 (by simp (disch := omega) only [nI_leI, nI_ltI]; omega)) (fun c11 => ?_)
    refine X_aload_n (i := 0) hB dX12_linkKept_14 rfl rfl ?_
    refine X_iload_n (i := 1) hB dX12_linkKept_15 rfl rfl ?_
    refine X_bipush (v := 15) hB dX12_linkKept_16 (by decide) ?_
    refine X_iconst (v := 2) hB dX12_linkKept_18 (by decide) ?_
    refine X_iload hB dX12_linkKept_19 rfl ?_
    refine X_imul hB dX12_linkKept_21 ?_
    refine X_iadd hB dX12_linkKept_22 ?_
    refine X_callV hB kX12_180 cw10 hR.1.1 hR.1.2 (c_ofE (w := 15 + 2 * i) hR (by exact hF.of rfl) rfl (by first | rfl | (simp (disch := omega) only [nlit, nI_add, nI_mul, nI_sub]; done) | (simp (disch := omega) only [nlit, nI_add, nI_mul, nI_sub]; congr 1; omega)) (by omega) (by omega)) (by decide) (by decide) rfl rfl (Nat.le_of_ble_eq_true rfl) dX12_linkKept_23 (fun r23 S23 q23 => ?_)
    obtain ⟨rfl, rfl⟩ := q23
    refine X_topi (y := nI ((c.getD i []).getD 0 0)) (by rw [← (hc.link hil).2.1]; exact congrArg _ (by omega)) ?_
    refine X_iload_n (i := 2) hB dX12_linkKept_26 rfl rfl ?_
    refine X_iload_n (i := 3) hB dX12_linkKept_27 rfl rfl ?_
    refine X_callS hB kX12_63 (c_lesserN (by omega) (by omega)) (by decide) (by decide) rfl rfl (Nat.le_of_ble_eq_true rfl) dX12_linkKept_28 (fun r28 S28 q28 => ?_)
    obtain ⟨rfl, rfl⟩ := q28
    refine X_icmp_ne (tgt := 59) hB dX12_linkKept_31 (by decide) (fun c31 => ?_) (fun c31 => ?_)
    · refine X_iinc hB dX12_linkKept_59 rfl rfl (by decide) rfl ?_
      refine X_goto (tgt := 3) hB dX12_linkKept_62 (by decide) ?_
      refine X_lv ?_ (ih (i + 1) (by omega) (fun j hj => ?_))
      · rw [nI_succ]; rfl
      · rcases Nat.lt_succ_iff_lt_or_eq.mp hj with hj | hj
        · exact h2 j hj
        · rw [hj]; intro e9
          first
          | exact c31 (by rw [e9]; rfl)
          | exact c53 (by rw [e9]; rfl)
    · refine X_aload_n (i := 0) hB dX12_linkKept_34 rfl rfl ?_
      refine X_iload_n (i := 1) hB dX12_linkKept_35 rfl rfl ?_
      refine X_bipush (v := 15) hB dX12_linkKept_36 (by decide) ?_
      refine X_iconst (v := 2) hB dX12_linkKept_38 (by decide) ?_
      refine X_iload hB dX12_linkKept_39 rfl ?_
      refine X_imul hB dX12_linkKept_41 ?_
      refine X_iadd hB dX12_linkKept_42 ?_
      refine X_iconst (v := 1) hB dX12_linkKept_43 (by decide) ?_
      refine X_iadd hB dX12_linkKept_44 ?_
      refine X_callV hB kX12_180 cw10 hR.1.1 hR.1.2 (c_ofE (w := 15 + 2 * i + 1) hR (by exact hF.of rfl) rfl (by first | rfl | (simp (disch := omega) only [nlit, nI_add, nI_mul, nI_sub]; done) | (simp (disch := omega) only [nlit, nI_add, nI_mul, nI_sub]; congr 1; omega)) (by omega) (by omega)) (by decide) (by decide) rfl rfl (Nat.le_of_ble_eq_true rfl) dX12_linkKept_45 (fun r45 S45 q45 => ?_)
      obtain ⟨rfl, rfl⟩ := q45
      refine X_topi (y := nI ((c.getD i []).getD 1 0)) (by rw [← (hc.link hil).2.2]; exact congrArg _ (by omega)) ?_
      refine X_iload_n (i := 2) hB dX12_linkKept_48 rfl rfl ?_
      refine X_iload_n (i := 3) hB dX12_linkKept_49 rfl rfl ?_
      refine X_callS hB kX12_67 (c_greaterN (by omega) (by omega)) (by decide) (by decide) rfl rfl (Nat.le_of_ble_eq_true rfl) dX12_linkKept_50 (fun r50 S50 q50 => ?_)
      obtain ⟨rfl, rfl⟩ := q50
      refine X_icmp_ne (tgt := 59) hB dX12_linkKept_53 (by decide) (fun c53 => ?_) (fun c53 => ?_)
      · refine X_iinc hB dX12_linkKept_59 rfl rfl (by decide) rfl ?_
        refine X_goto (tgt := 3) hB dX12_linkKept_62 (by decide) ?_
        refine X_lv ?_ (ih (i + 1) (by omega) (fun j hj => ?_))
        · rw [nI_succ]; rfl
        · rcases Nat.lt_succ_iff_lt_or_eq.mp hj with hj | hj
          · exact h2 j hj
          · rw [hj]; intro e9
            first
            | exact c31 (by rw [e9]; rfl)
            | exact c53 (by rw [e9]; rfl)
      · refine X_iload hB dX12_linkKept_56 rfl ?_
        refine X_iret hB rfl dX12_linkKept_58 ?_
        have g0 : (c.getD i []).getD 0 0 = min a b := i32_inj (by omega) (by omega) (by first | exact c31 | exact Decidable.not_not.mp c31)
        have g1 : (c.getD i []).getD 1 0 = max a b := i32_inj (by omega) (by omega) (by first | exact c53 | exact Decidable.not_not.mp c53)
        have g2 := idxOf_at hil (two_eq (hc.link hil).1 g0 g1) h2
        unfold lkI at kk
        rw [if_pos (show lnk a b ∈ c from g2.2), show c.idxOf (lnk a b) = i from g2.1] at kk
        exact kk
set_option maxRecDepth 100000 in
set_option maxHeartbeats 4000000 in
theorem c_linkKept (hR : RLay G h) (hF : RRef S h) (n a b : Nat) (hn : n < 8) (ha : a < 8) (hb : b < 8) (c : List (List Nat)) (hok : ∀ e ∈ c, okE true e) (hlen : c.length ≤ 18) (hc : cacheR (S.1 (h + 1)) n true c) : C G mX12_linkKept 1 [.ref h, .int (nI n), .int (nI a), .int (nI b)] S (fun r S' => r = some (.int (lkI c (lnk a b))) ∧ S = S') := by
  refine C.mk (lv := [some (.ref h), some (.int (nI n)), some (.int (nI a)), some (.int (nI b)), none]) (by decide) (Nat.le_of_ble_eq_true rfl) rfl (fun E hB => ?_)
  refine X_iconst (v := 0) hB dX12_linkKept_0 (by decide) ?_
  refine X_istore hB dX12_linkKept_1 (by decide) rfl ?_
  exact l_linkKept hR hF hB n a b hn ha hb c hok hlen hc ⟨rfl, rfl⟩ c.length 0 (by omega) (fun j hj => by omega)
set_option maxRecDepth 100000 in
set_option maxHeartbeats 4000000 in
theorem t_learnsLink {S : St} (hR : RLay G h) (hF : RRef S h) {E : Ev} (hB : Bd G E mX12_learnsLink) {Q : Option Value → St → Prop} (n a b room : Nat) (hn : n < 8) (ha : a < 8) (hb : b < 8) (c : List (List Nat)) (hlc : c.length ≤ 3 * room) (hol : ∀ e ∈ c, e.length ≤ 8) (hr1 : 1 ≤ room) (hr6 : room ≤ 6) (hc : cacheR (S.1 (h + 1)) n true c) (hro : S.1 (h + 1) 2 = nI room) (v : Option Value)
    (kk : ∀ A' : Nat → Int32, chC (S.1 (h + 1)) A' n → cacheR A' n true (lnk a b :: c.take (min c.length (3 * room - 1))) → Q none (rowI S (h + 1) A')) : X G E mX12_learnsLink 2 Q S 23 [some (.ref h), some (.int (nI n)), some (.int (nI a)), some (.int (nI b)), v] [] := by
  refine X_aload_n (i := 0) hB dX12_learnsLink_23 rfl rfl ?_
  refine X_iload_n (i := 1) hB dX12_learnsLink_24 rfl rfl ?_
  refine X_iconst (v := 2) hB dX12_learnsLink_25 (by decide) ?_
  refine X_iconst (v := 3) hB dX12_learnsLink_26 (by decide) ?_
  refine X_aload_n (i := 0) hB dX12_learnsLink_27 rfl rfl ?_
  refine X_getr hB cw10 fX12_7 rfl hR.1.1 hR.1.2 hF.1 dX12_learnsLink_28 ?_
  refine X_iconst (v := 2) hB dX12_learnsLink_31 (by decide) ?_
  refine X_ialdN hB (2) hR.2.1.1 hR.2.1.2 (by decide) (by first | rfl | (simp (disch := omega) only [nlit, nI_add, nI_mul, nI_sub]; done) | (simp (disch := omega) only [nlit, nI_add, nI_mul, nI_sub]; congr 1; omega)) (by first | omega | (simp only []; omega)) hro dX12_learnsLink_32 ?_
  refine X_imul hB dX12_learnsLink_33 ?_
  refine X_topi (y := nI (3 * room)) (by first | rfl | (simp (disch := omega) only [nlit, nI_add, nI_mul, nI_sub]; done) | (simp (disch := omega) only [nlit, nI_add, nI_mul, nI_sub]; congr 1; omega)) ?_
  refine X_callV hB kX12_199 cw10 hR.1.1 hR.1.2 (c_opens2 hR (by exact hF.of rfl) n c.length (3 * room) hn hlc (by omega) (by omega) hc.1) (by decide) (by decide) rfl rfl (Nat.le_of_ble_eq_true rfl) dX12_learnsLink_34 (fun r34 S34 q34 => ?_)
  obtain ⟨rfl, rfl⟩ := q34
  refine X_aload_n (i := 0) hB dX12_learnsLink_37 rfl rfl ?_
  refine X_iload_n (i := 1) hB dX12_learnsLink_38 rfl rfl ?_
  refine X_bipush (v := 15) hB dX12_learnsLink_39 (by decide) ?_
  refine X_iload_n (i := 2) hB dX12_learnsLink_41 rfl rfl ?_
  refine X_iload_n (i := 3) hB dX12_learnsLink_42 rfl rfl ?_
  refine X_callS hB kX12_63 (c_lesserN (by omega) (by omega)) (by decide) (by decide) rfl rfl (Nat.le_of_ble_eq_true rfl) dX12_learnsLink_43 (fun r43 S43 q43 => ?_)
  obtain ⟨rfl, rfl⟩ := q43
  refine X_callV hB kX12_170 cw10 hR.1.1 hR.1.2 (c_layE (w := 15) hR (by exact hF.of rfl) rfl (by first | rfl | (simp (disch := omega) only [nlit, nI_add, nI_mul, nI_sub]; done) | (simp (disch := omega) only [nlit, nI_add, nI_mul, nI_sub]; congr 1; omega)) (by omega) (by omega)) (by decide) (by decide) rfl rfl (Nat.le_of_ble_eq_true rfl) dX12_learnsLink_46 (fun r46 S46 q46 => ?_)
  obtain ⟨rfl, rfl⟩ := q46
  rw [setI_rowI, rowI_rowI, rowI_at]
  refine X_aload_n (i := 0) hB dX12_learnsLink_49 rfl rfl ?_
  refine X_iload_n (i := 1) hB dX12_learnsLink_50 rfl rfl ?_
  refine X_bipush (v := 16) hB dX12_learnsLink_51 (by decide) ?_
  refine X_iload_n (i := 2) hB dX12_learnsLink_53 rfl rfl ?_
  refine X_iload_n (i := 3) hB dX12_learnsLink_54 rfl rfl ?_
  refine X_callS hB kX12_67 (c_greaterN (by omega) (by omega)) (by decide) (by decide) rfl rfl (Nat.le_of_ble_eq_true rfl) dX12_learnsLink_55 (fun r55 S55 q55 => ?_)
  obtain ⟨rfl, rfl⟩ := q55
  refine X_callV hB kX12_170 cw10 hR.1.1 hR.1.2 (c_layE (w := 16) hR (by exact hF.of rfl) rfl (by first | rfl | (simp (disch := omega) only [nlit, nI_add, nI_mul, nI_sub]; done) | (simp (disch := omega) only [nlit, nI_add, nI_mul, nI_sub]; congr 1; omega)) (by omega) (by omega)) (by decide) (by decide) rfl rfl (Nat.le_of_ble_eq_true rfl) dX12_learnsLink_58 (fun r58 S58 q58 => ?_)
  obtain ⟨rfl, rfl⟩ := q58
  rw [setI_rowI, rowI_rowI, rowI_at]
  refine X_vret hB rfl dX12_learnsLink_61 ?_
  refine kk _ ?_ ?_
  · intro i h1 h2
    rw [upd_ne _ _ (by omega), upd_ne _ _ (by omega), upd_ne _ _ (by omega), shU_out (by omega)]
  · refine cacheR_push hc hol (Nat.min_le_left _ _) ?_ ?_ ?_
    · rw [upd_ne _ _ (by omega), upd_ne _ _ (by omega), upd_at]
    · intro k j hk hj
      simp only [wdt, if_true] at hj ⊢
      rw [upd_ne _ _ (by omega), upd_ne _ _ (by omega), upd_ne _ _ (by omega), shU_in (by omega)]
      exact congrArg _ (by omega)
    · unfold entR
      rw [if_pos rfl]
      refine ⟨rfl, ?_, ?_⟩
      · dsimp only; rw [upd_ne _ _ (by omega), show 89 + 86 * n + 15 + 0 = 89 + 86 * n + 15 by omega, upd_at]; rfl
      · dsimp only; rw [show 89 + 86 * n + 15 + 1 = 89 + 86 * n + 16 by omega, upd_at]; rfl
theorem lkI_m1 {c : List (List Nat)} {e : List Nat} (hl : c.length ≤ 18) : lkI c e = -1 ↔ e ∉ c := by
  unfold lkI
  by_cases h : e ∈ c
  · rw [if_pos h]
    have := List.idxOf_lt_length_of_mem h
    exact ⟨fun h9 => absurd h9 (nI_neg1 (by omega)), fun h9 => absurd h h9⟩
  · rw [if_neg h]; exact ⟨fun _ => h, fun _ => rfl⟩
set_option maxRecDepth 100000 in
set_option maxHeartbeats 4000000 in
theorem c_learnsLink (hR : RLay G h) (hF : RRef S h) (n a b room : Nat) (hn : n < 8) (ha : a < 8) (hb : b < 8) (c : List (List Nat)) (hok : okC true room c) (hc : cacheR (S.1 (h + 1)) n true c) (hro : S.1 (h + 1) 2 = nI room) : C G mX12_learnsLink 2 [.ref h, .int (nI n), .int (nI a), .int (nI b)] S (fun r S' => r = none ∧ ∃ A' : Nat → Int32, S' = rowI S (h + 1) A' ∧ chC (S.1 (h + 1)) A' n ∧ cacheR A' n true (ins (3 * room) (lnk a b) c)) := by
  have hr1 := hok.2.2.1
  have hr6 := hok.2.2.2.1
  have hlc : c.length ≤ 3 * room := by have := hok.2.1; simpa using this
  refine C.mk (lv := [some (.ref h), some (.int (nI n)), some (.int (nI a)), some (.int (nI b)), none]) (by decide) (Nat.le_of_ble_eq_true rfl) rfl (fun E hB => ?_)
  refine X_aload_n (i := 0) hB dX12_learnsLink_0 rfl rfl ?_
  refine X_iload_n (i := 1) hB dX12_learnsLink_1 rfl rfl ?_
  refine X_iload_n (i := 2) hB dX12_learnsLink_2 rfl rfl ?_
  refine X_iload_n (i := 3) hB dX12_learnsLink_3 rfl rfl ?_
  refine X_callV hB kX12_202 cw10 hR.1.1 hR.1.2 (c_linkKept hR (by exact hF.of rfl) n a b hn ha hb c hok.1 (by omega) hc) (by decide) (by decide) rfl rfl (Nat.le_of_ble_eq_true rfl) dX12_learnsLink_4 (fun r4 S4 q4 => ?_)
  obtain ⟨rfl, rfl⟩ := q4
  refine X_istore hB dX12_learnsLink_7 (by decide) rfl ?_
  refine X_iload hB dX12_learnsLink_9 rfl ?_
  refine X_iconst (v := (-1)) hB dX12_learnsLink_11 (by decide) ?_
  skip
  refine X_icmp_eq (tgt := 23) hB dX12_learnsLink_12 (by decide) (fun c12 => ?_) (fun c12 => ?_)
  · have hnin : lnk a b ∉ c := (lkI_m1 (by omega)).mp c12
    have he9 : c.erase (lnk a b) = c := List.erase_of_not_mem hnin
    refine t_learnsLink hR hF hB n a b room hn ha hb c hlc hok.len hr1 hr6 hc hro _ (fun A1 g1 g2 => ?_)
    exact ⟨rfl, A1, rfl, g1, by rw [ins_eq (by omega) (by rw [he9]; exact hlc), he9]; exact g2⟩
  · have hin : lnk a b ∈ c := Decidable.byContradiction fun h9 => c12 ((lkI_m1 (by omega)).mpr h9)
    have hix := idxOf_get hin
    rw [show lkI c (lnk a b) = nI (c.idxOf (lnk a b)) from if_pos hin]
    refine X_aload_n (i := 0) hB dX12_learnsLink_15 rfl rfl ?_
    refine X_iload_n (i := 1) hB dX12_learnsLink_16 rfl rfl ?_
    refine X_iload hB dX12_learnsLink_17 rfl ?_
    refine X_iconst (v := 2) hB dX12_learnsLink_19 (by decide) ?_
    refine X_callV hB kX12_196 cw10 hR.1.1 hR.1.2 (c_dropsKept2 hR (by exact hF.of rfl) n (c.idxOf (lnk a b)) c.length hn (by omega) hix.1 hc.1) (by decide) (by decide) rfl rfl (Nat.le_of_ble_eq_true rfl) dX12_learnsLink_20 (fun r20 S20 q20 => ?_)
    obtain ⟨rfl, rfl⟩ := q20
    have hd := cacheR_drop (mp := true) hc hok.len hix.1 hok.w
    have hch : chC (S.1 (h + 1)) _ n := chC_drop (A := S.1 (h + 1)) (n := n) (p := c.idxOf (lnk a b)) (m := c.length) (w := 2) (v := nI (c.length - 1)) (by omega)
    have hle : (c.erase (lnk a b)).length ≤ 3 * room := by have := List.length_erase_le (a := lnk a b) (l := c); omega
    rw [← erase_at hin] at hd
    refine t_learnsLink hR (by exact hF.of rfl) hB n a b room hn ha hb (c.erase (lnk a b)) hle (fun e he => hok.len e (List.mem_of_mem_erase he)) hr1 hr6 (by rw [rowI_at]; exact hd) (by rw [rowI_at, hch 2 (by omega) (by omega)]; exact hro) _ (fun A1 g1 g2 => ?_)
    rw [rowI_at] at g1
    exact ⟨rfl, A1, by rw [rowI_rowI], hch.tr g1, by rw [ins_eq (by omega) hle]; exact g2⟩
end REF
