section REF
variable {G : Gc} {S : St} {h : Nat}
set_option maxRecDepth 100000 in
set_option maxHeartbeats 4000000 in
theorem c_beginsLesson (hR : RLay G h) (hF : RRef S h) (x : Nat) : C G mX12_beginsLesson 0 [.ref h, .int (nI x)] S (fun r S' => r = none ∧ fr h [h + 7] [20] S S' ∧ lesR S' h [x]) := by
  refine C.mk (lv := [some (.ref h), some (.int (nI x))]) (by decide) (Nat.le_of_ble_eq_true rfl) rfl (fun E hB => ?_)
  refine X_aload_n (i := 0) hB dX12_beginsLesson_0 rfl rfl ?_
  refine X_getr hB cw10 fX12_30 rfl hR.1.1 hR.1.2 hF.2.2.2.2.2.2.1 dX12_beginsLesson_1 ?_
  refine X_iconst (v := 0) hB dX12_beginsLesson_4 (by decide) ?_
  refine X_iload_n (i := 1) hB dX12_beginsLesson_5 rfl rfl ?_
  refine X_iastN hB (0) hR.2.2.2.2.2.2.2.1.1 hR.2.2.2.2.2.2.2.1.2 (by decide) (by first | rfl | (simp (disch := omega) only [nlit, nI_add, nI_mul, nI_sub]; done) | (simp (disch := omega) only [nlit, nI_add, nI_mul, nI_sub]; congr 1; omega)) (by first | omega | (simp only []; omega)) dX12_beginsLesson_6 ?_
  refine X_aload_n (i := 0) hB dX12_beginsLesson_7 rfl rfl ?_
  refine X_iconst (v := 1) hB dX12_beginsLesson_8 (by decide) ?_
  refine X_puti hB cw10 fX12_186 rfl rfl hR.1.1 hR.1.2 dX12_beginsLesson_9 ?_
  refine X_vret hB rfl dX12_beginsLesson_12 ?_
  refine ⟨rfl, (fr.set (by simp) (by omega)).tr (fr.fld (by simp)), ?_, fun i hi => ?_⟩
  · rw [setI_at]; rfl
  · obtain rfl : i = 0 := by simpa using hi
    rw [setI_ne _ _ (Or.inl (by omega)), setI_at]; rfl
set_option maxRecDepth 100000 in
set_option maxHeartbeats 4000000 in
theorem c_addsLesson (hR : RLay G h) (hF : RRef S h) (x : Nat) (L : List Nat) (hL : L.length < 9) (hl : lesR S h L) : C G mX12_addsLesson 0 [.ref h, .int (nI x)] S (fun r S' => r = none ∧ fr h [h + 7] [20] S S' ∧ lesR S' h (L ++ [x])) := by
  refine C.mk (lv := [some (.ref h), some (.int (nI x))]) (by decide) (Nat.le_of_ble_eq_true rfl) rfl (fun E hB => ?_)
  refine X_aload_n (i := 0) hB dX12_addsLesson_0 rfl rfl ?_
  refine X_geti hB cw10 fX12_186 rfl hR.1.1 hR.1.2 dX12_addsLesson_1 ?_
  refine X_topi (y := nI L.length) hl.1 ?_
  refine X_bipush (v := 9) hB dX12_addsLesson_4 (by decide) ?_
  refine X_icmp_ge (tgt := 29) hB dX12_addsLesson_6 (by decide) (fun c6 => absurd c6 (by simp (disch := omega) only [nlit, nI_leI, nI_ltI]; omega)) (fun c6 => ?_)
  refine X_aload_n (i := 0) hB dX12_addsLesson_9 rfl rfl ?_
  refine X_getr hB cw10 fX12_30 rfl hR.1.1 hR.1.2 hF.2.2.2.2.2.2.1 dX12_addsLesson_10 ?_
  refine X_aload_n (i := 0) hB dX12_addsLesson_13 rfl rfl ?_
  refine X_geti hB cw10 fX12_186 rfl hR.1.1 hR.1.2 dX12_addsLesson_14 ?_
  refine X_topi (y := nI L.length) hl.1 ?_
  refine X_iload_n (i := 1) hB dX12_addsLesson_17 rfl rfl ?_
  refine X_iastN hB (L.length) hR.2.2.2.2.2.2.2.1.1 hR.2.2.2.2.2.2.2.1.2 (by decide) (by first | rfl | (simp (disch := omega) only [nlit, nI_add, nI_mul, nI_sub]; done) | (simp (disch := omega) only [nlit, nI_add, nI_mul, nI_sub]; congr 1; omega)) (by first | omega | (simp only []; omega)) dX12_addsLesson_18 ?_
  refine X_aload_n (i := 0) hB dX12_addsLesson_19 rfl rfl ?_
  refine X_dup hB dX12_addsLesson_20 rfl ?_
  refine X_geti hB cw10 fX12_186 rfl hR.1.1 hR.1.2 dX12_addsLesson_21 ?_
  refine X_topi (y := nI L.length) (by rw [setI_ne _ _ (Or.inl (by omega))]; exact hl.1) ?_
  refine X_iconst (v := 1) hB dX12_addsLesson_24 (by decide) ?_
  refine X_iadd hB dX12_addsLesson_25 ?_
  refine X_topi (y := nI (L.length + 1)) (by first | rfl | (simp (disch := omega) only [nlit, nI_add, nI_mul, nI_sub]; done) | (simp (disch := omega) only [nlit, nI_add, nI_mul, nI_sub]; congr 1; omega)) ?_
  refine X_puti hB cw10 fX12_186 rfl rfl hR.1.1 hR.1.2 dX12_addsLesson_26 ?_
  refine X_vret hB rfl dX12_addsLesson_29 ?_
  refine ⟨rfl, (fr.set (by simp) (by omega)).tr (fr.fld (by simp)), ?_, fun i hi => ?_⟩
  · rw [setI_at, List.length_append]; rfl
  · rw [setI_ne _ _ (Or.inl (by omega))]
    rw [List.length_append] at hi
    by_cases h9 : i = L.length
    · subst h9; rw [setI_at]; simp
    · have h8 : i < L.length := by simp at hi; omega
      rw [setI_ne _ _ (Or.inr h9), hl.2 i h8]
      congr 1
      simp [List.getElem?_append_left h8]
set_option maxRecDepth 100000 in
set_option maxHeartbeats 4000000 in
theorem l_learns (hR : RLay G h) (hF : RRef S h) {E : Ev} (hB : Bd G E mX12_learns) {Q : Option Value → St → Prop} (n room : Nat) (hn : n < 8) (c : List (List Nat)) (L : List Nat) (hL8 : L.length ≤ 8) (hLx : ∀ x ∈ L, x < 8) (hnd : L.Nodup) (hl : lesR S h L) (hro : S.1 (h + 1) 2 = nI room)
    (kk : ∀ A' : Nat → Int32, chC (S.1 (h + 1)) A' n → cacheR A' n true (insL (3 * room) L c) → Q none (rowI S (h + 1) A')) :
    ∀ (k i : Nat) (c1 : List (List Nat)) (A1 : Nat → Int32), i + k = L.length → 1 ≤ i → chC (S.1 (h + 1)) A1 n → cacheR A1 n true c1 → okC true room c1 → insL (3 * room) (L.drop (i - 1)) c1 = insL (3 * room) L c → X G E mX12_learns 4 Q (rowI S (h + 1) A1) 45 [some (.ref h), some (.int (nI n)), some (.int (nI i))] [] := by
  intro k
  induction k with
  | zero =>
    intro i c1 A1 h1 h2 hch hc1 hok1 hin
    refine X_iload_n (i := 2) hB dX12_learns_45 rfl rfl ?_
    refine X_aload_n (i := 0) hB dX12_learns_46 rfl rfl ?_
    refine X_geti hB cw10 fX12_186 rfl hR.1.1 hR.1.2 dX12_learns_47 ?_
    refine X_topi (y := nI L.length) (by rw [rowI_ne _ _ (by omega)]; exact hl.1) ?_
    refine X_icmp_ge (tgt := 78) hB dX12_learns_50 (by decide) (fun c50 => ?_) (fun c50 => absurd c50 (by simp (disch := omega) only [nlit, nI_leI, nI_ltI]; omega))
    refine X_vret hB rfl dX12_learns_78 ?_
    refine kk A1 hch ?_
    rw [← hin]
    have e9 : L.drop (i - 1) = [L.getD (i - 1) 0] := by
      rw [List.drop_eq_getElem_cons (by omega), List.drop_of_length_le (by omega), getD_lt]
    rw [e9]
    exact hc1
  | succ k ih =>
    intro i c1 A1 h1 h2 hch hc1 hok1 hin
    have b0 : L.getD (i - 1) 0 < 8 := hLx _ (getD_mem (by omega))
    have b1 : L.getD i 0 < 8 := hLx _ (getD_mem (by omega))
    have hne : L.getD (i - 1) 0 ≠ L.getD i 0 := by
      rw [getD_lt (by omega), getD_lt (by omega)]
      exact List.pairwise_iff_getElem.mp hnd (i - 1) i (by omega) (by omega) (by omega)
    have hdr : L.drop (i - 1) = L.getD (i - 1) 0 :: L.getD i 0 :: L.drop (i + 1) := by
      rw [List.drop_eq_getElem_cons (by omega), show i - 1 + 1 = i by omega, List.drop_eq_getElem_cons (by omega), getD_lt, getD_lt]
    refine X_iload_n (i := 2) hB dX12_learns_45 rfl rfl ?_
    refine X_aload_n (i := 0) hB dX12_learns_46 rfl rfl ?_
    refine X_geti hB cw10 fX12_186 rfl hR.1.1 hR.1.2 dX12_learns_47 ?_
    refine X_topi (y := nI L.length) (by rw [rowI_ne _ _ (by omega)]; exact hl.1) ?_
    refine X_icmp_ge (tgt := 78) hB dX12_learns_50 (by decide) (fun c50 => absurd c50 (by simp (disch := omega) only [nlit, nI_leI, nI_ltI]; omega)) (fun c50 => ?_)
    refine X_aload_n (i := 0) hB dX12_learns_53 rfl rfl ?_
    refine X_iload_n (i := 1) hB dX12_learns_54 rfl rfl ?_
    refine X_aload_n (i := 0) hB dX12_learns_55 rfl rfl ?_
    refine X_getr hB cw10 fX12_30 rfl hR.1.1 hR.1.2 hF.2.2.2.2.2.2.1 dX12_learns_56 ?_
    refine X_iload_n (i := 2) hB dX12_learns_59 rfl rfl ?_
    refine X_iconst (v := 1) hB dX12_learns_60 (by decide) ?_
    refine X_isub hB dX12_learns_61 ?_
    refine X_ialdN hB (i - 1) hR.2.2.2.2.2.2.2.1.1 hR.2.2.2.2.2.2.2.1.2 (by decide) (by first | rfl | (simp (disch := omega) only [nlit, nI_add, nI_mul, nI_sub]; done) | (simp (disch := omega) only [nlit, nI_add, nI_mul, nI_sub]; congr 1; omega)) (by first | omega | (simp only []; omega)) (show _ = nI (L.getD (i - 1) 0) by rw [rowI_ne _ _ (by omega)]; exact hl.2 _ (by omega)) dX12_learns_62 ?_
    refine X_aload_n (i := 0) hB dX12_learns_63 rfl rfl ?_
    refine X_getr hB cw10 fX12_30 rfl hR.1.1 hR.1.2 hF.2.2.2.2.2.2.1 dX12_learns_64 ?_
    refine X_iload_n (i := 2) hB dX12_learns_67 rfl rfl ?_
    refine X_ialdN hB (i) hR.2.2.2.2.2.2.2.1.1 hR.2.2.2.2.2.2.2.1.2 (by decide) (by first | rfl | (simp (disch := omega) only [nlit, nI_add, nI_mul, nI_sub]; done) | (simp (disch := omega) only [nlit, nI_add, nI_mul, nI_sub]; congr 1; omega)) (by first | omega | (simp only []; omega)) (show _ = nI (L.getD i 0) by rw [rowI_ne _ _ (by omega)]; exact hl.2 _ (by omega)) dX12_learns_68 ?_
    refine X_callV hB kX12_209 cw10 hR.1.1 hR.1.2 (c_learnsLink hR (by exact hF.of rfl) n (L.getD (i - 1) 0) (L.getD i 0) room hn b0 b1 c1 hok1 (by rw [rowI_at]; exact hc1) (by rw [rowI_at, hch 2 (by omega) (by omega)]; exact hro)) (by decide) (by decide) rfl rfl (Nat.le_of_ble_eq_true rfl) dX12_learns_69 (fun r69 S69 q69 => ?_)
    obtain ⟨rfl, A2, rfl, g1, g2⟩ := q69
    rw [rowI_at] at g1
    rw [rowI_rowI]
    refine X_iinc hB dX12_learns_72 rfl rfl (by decide) rfl ?_
    refine X_goto (tgt := 45) hB dX12_learns_75 (by decide) ?_
    refine X_lv ?_ (ih (i + 1) _ A2 (by omega) (by omega) (hch.tr g1) g2 (by have := okC_ins hok1 (lnk_ok b0 b1 hne); simpa using this) ?_)
    · rw [nI_succ]; rfl
    · rw [← hin, hdr, show i + 1 - 1 = i by omega, show L.drop i = L.getD i 0 :: L.drop (i + 1) by rw [List.drop_eq_getElem_cons (by omega), getD_lt]]
      rfl
set_option maxRecDepth 100000 in
set_option maxHeartbeats 4000000 in
theorem c_learns (hR : RLay G h) (hF : RRef S h) (n : Nat) (hn : n < 8) (mp : Bool) (hops room : Nat) (c : List (List Nat)) (L : List Nat) (hL8 : L.length ≤ 8) (hLx : ∀ x ∈ L, x < 8) (hnd : L.Nodup) (hok : okC mp room c) (hc : cacheR (S.1 (h + 1)) n mp c) (hl : lesR S h L) (hro : S.1 (h + 1) 2 = nI room) (hho : S.1 (h + 1) 1 = nI hops) (hh : hops ≤ 7) (hmp : S.1 (h + 1) (89 + 86 * n + 0) = if mp then 1 else 0) : C G mX12_learns 4 [.ref h, .int (nI n)] S (fun r S' => r = none ∧ fr h [h + 1] [20] S S' ∧ chC (S.1 (h + 1)) (S'.1 (h + 1)) n ∧ cacheR (S'.1 (h + 1)) n mp (learnL mp hops room L c)) := by
  have hl' : lesR (setI S h 20 (nI (min L.length (hops + 1)))) h (L.take (hops + 1)) := by
    refine ⟨by rw [setI_at, List.length_take, Nat.min_comm], fun i hi => ?_⟩
    rw [List.length_take] at hi
    rw [setI_ne _ _ (Or.inl (by omega)), hl.2 i (by omega)]
    congr 1
    simp only [List.getD_eq_getElem?_getD, List.getElem?_take_of_lt (show i < hops + 1 by omega)]
  have hlt : (L.take (hops + 1)).length = min L.length (hops + 1) := by rw [List.length_take, Nat.min_comm]
  have hfr : fr h [h + 1] [20] S (setI S h 20 (nI (min L.length (hops + 1)))) := fr.fld (by simp)
  have hA : (setI S h 20 (nI (min L.length (hops + 1)))).1 (h + 1) = S.1 (h + 1) := setI_row _ _ _ (by omega)
  have hnd' : (L.take (hops + 1)).Nodup := hnd.sublist (List.take_sublist _ _)
  refine C.mk (lv := [some (.ref h), some (.int (nI n)), none]) (by decide) (Nat.le_of_ble_eq_true rfl) rfl (fun E hB => ?_)
  refine X_aload_n (i := 0) hB dX12_learns_0 rfl rfl ?_
  refine X_aload_n (i := 0) hB dX12_learns_1 rfl rfl ?_
  refine X_geti hB cw10 fX12_186 rfl hR.1.1 hR.1.2 dX12_learns_2 ?_
  refine X_topi (y := nI L.length) hl.1 ?_
  refine X_aload_n (i := 0) hB dX12_learns_5 rfl rfl ?_
  refine X_getr hB cw10 fX12_7 rfl hR.1.1 hR.1.2 hF.1 dX12_learns_6 ?_
  refine X_iconst (v := 1) hB dX12_learns_9 (by decide) ?_
  refine X_ialdN hB (1) hR.2.1.1 hR.2.1.2 (by decide) (by first | rfl | (simp (disch := omega) only [nlit, nI_add, nI_mul, nI_sub]; done) | (simp (disch := omega) only [nlit, nI_add, nI_mul, nI_sub]; congr 1; omega)) (by first | omega | (simp only []; omega)) hho dX12_learns_10 ?_
  refine X_iconst (v := 1) hB dX12_learns_11 (by decide) ?_
  refine X_iadd hB dX12_learns_12 ?_
  refine X_topi (y := nI (hops + 1)) (by first | rfl | (simp (disch := omega) only [nlit, nI_add, nI_mul, nI_sub]; done) | (simp (disch := omega) only [nlit, nI_add, nI_mul, nI_sub]; congr 1; omega)) ?_
  refine X_callS hB kX12_63 (c_lesserN (by omega) (by omega)) (by decide) (by decide) rfl rfl (Nat.le_of_ble_eq_true rfl) dX12_learns_13 (fun r13 S13 q13 => ?_)
  obtain ⟨rfl, rfl⟩ := q13
  refine X_puti hB cw10 fX12_186 rfl rfl hR.1.1 hR.1.2 dX12_learns_16 ?_
  refine X_aload_n (i := 0) hB dX12_learns_19 rfl rfl ?_
  refine X_geti hB cw10 fX12_186 rfl hR.1.1 hR.1.2 dX12_learns_20 ?_
  refine X_topi (y := nI (min L.length (hops + 1))) (by rw [setI_at]) ?_
  refine X_iconst (v := 2) hB dX12_learns_23 (by decide) ?_
  refine X_icmp_ge (tgt := 28) hB dX12_learns_24 (by decide) (fun c24 => ?_) (fun c24 => ?_)
  · refine X_aload_n (i := 0) hB dX12_learns_28 rfl rfl ?_
    refine X_iload_n (i := 1) hB dX12_learns_29 rfl rfl ?_
    refine X_iconst (v := 0) hB dX12_learns_30 (by decide) ?_
    refine X_callV hB kX12_180 cw10 hR.1.1 hR.1.2 (c_ofE (w := 0) hR (by exact hF.of rfl) rfl (by first | rfl | (simp (disch := omega) only [nlit, nI_add, nI_mul, nI_sub]; done) | (simp (disch := omega) only [nlit, nI_add, nI_mul, nI_sub]; congr 1; omega)) (by omega) (by omega)) (by decide) (by decide) rfl rfl (Nat.le_of_ble_eq_true rfl) dX12_learns_31 (fun r31 S31 q31 => ?_)
    obtain ⟨rfl, rfl⟩ := q31
    refine X_topi (y := if mp then 1 else 0) (by rw [hA]; exact hmp) ?_
    have c24b : 2 ≤ min L.length (hops + 1) := by (have c9 := c24); simp (disch := omega) only [nlit, nI_leI, nI_ltI] at c9; omega
    have hl2 : ¬ (L.take (hops + 1)).length < 2 := by omega
    refine X_if_ne (tgt := 43) hB dX12_learns_34 (by decide) (fun c34 => ?_) (fun c34 => ?_)
    · cases mp with
      | false => exact absurd rfl c34
      | true =>
        refine X_iconst (v := 1) hB dX12_learns_43 (by decide) ?_
        refine X_istore_n (i := 2) hB dX12_learns_44 rfl (by decide) rfl ?_
        refine X_S (S' := rowI (setI S h 20 (nI (min L.length (hops + 1)))) (h + 1) (S.1 (h + 1))) (by rw [← hA, rowI_self]) (l_learns (S := setI S h 20 (nI (min L.length (hops + 1)))) hR (by exact hF.of rfl) hB n room hn c (L.take (hops + 1)) (by omega) (fun x hx => hLx x (List.mem_of_mem_take hx)) hnd' hl' (by rw [hA]; exact hro) (fun A9 g1 g2 => ?_) ((L.take (hops + 1)).length - 1) 1 c (S.1 (h + 1)) (by omega) (by omega) (by rw [hA]; exact chC.rf) hc hok rfl)
        rw [hA] at g1
        refine ⟨rfl, hfr.tr (fr.row (by simp) (by omega)), by rw [rowI_at]; exact g1, ?_⟩
        rw [rowI_at]
        unfold learnL
        rw [if_neg hl2, if_pos rfl]
        exact g2
    · cases mp with
      | true => exact absurd c34 (by decide)
      | false =>
        refine X_aload_n (i := 0) hB dX12_learns_37 rfl rfl ?_
        refine X_iload_n (i := 1) hB dX12_learns_38 rfl rfl ?_
        refine X_callV hB kX12_205 cw10 hR.1.1 hR.1.2 (c_learnsPath hR (by exact hF.of rfl) n room hn c (L.take (hops + 1)) (okE_take hL8 (by omega) hLx hnd) hok (by rw [hA]; exact hc) hl' (by rw [hA]; exact hro)) (by decide) (by decide) rfl rfl (Nat.le_of_ble_eq_true rfl) dX12_learns_39 (fun r39 S39 q39 => ?_)
        obtain ⟨rfl, A2, rfl, g1, g2⟩ := q39
        rw [hA] at g1
        refine X_vret hB rfl dX12_learns_42 ?_
        refine ⟨rfl, hfr.tr (fr.row (by simp) (by omega)), by rw [rowI_at]; exact g1, ?_⟩
        rw [rowI_at]
        unfold learnL
        rw [if_neg hl2, if_neg (by decide)]
        exact g2
  · refine X_vret hB rfl dX12_learns_27 ?_
    have c24b : min L.length (hops + 1) < 2 := by (have c9 := c24); simp (disch := omega) only [nlit, nI_leI, nI_ltI] at c9; omega
    refine ⟨rfl, hfr, by rw [hA]; exact chC.rf, ?_⟩
    rw [hA]
    unfold learnL
    rw [if_pos (by omega)]
    exact hc
end REF
