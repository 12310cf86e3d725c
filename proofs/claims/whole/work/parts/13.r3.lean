section REF
variable {G : Gc} {S : St} {h : Nat}
set_option maxRecDepth 100000 in
set_option maxHeartbeats 4000000 in
theorem l_isLesson0 (hR : RLay G h) (hF : RRef S h) {E : Ev} (hB : Bd G E mX12_isLesson) {Q : Option Value → St → Prop} (n p : Nat) (hn : n < 8) (hp : p < 6) (e L : List Nat) (he : e.length ≤ 8) (hL : L.length ≤ 9) (hex : ∀ x ∈ e, x < 8) (hLx : ∀ x ∈ L, x < 8) (hm : S.1 (h + 1) (89 + 86 * n + 15 + 9 * p) = nI e.length) (hv : ∀ i, i < e.length → S.1 (h + 1) (89 + 86 * n + 15 + 9 * p + (1 + i)) = nI (e.getD i 0)) (hl : lesR S h L) (i : Int32) (kk : Q (some (.int 0)) S) : X G E mX12_isLesson 2 Q S 22 [some (.ref h), some (.int (nI n)), some (.int (nI p)), some (.int 0), some (.int i)] [] := by
  refine X_iload hB dX12_isLesson_22 rfl ?_
  refine X_aload_n (i := 0) hB dX12_isLesson_24 rfl rfl ?_
  refine X_geti hB cw10 fX12_186 rfl hR.1.1 hR.1.2 dX12_isLesson_25 ?_
  refine X_icmp_ge (tgt := 65) hB dX12_isLesson_28 (by decide) (fun c28 => ?_) (fun c28 => ?_)
  · refine X_iload_n (i := 3) hB dX12_isLesson_65 rfl rfl ?_
    refine X_zret hB rfl (by first | exact Or.inl rfl | exact Or.inr rfl) dX12_isLesson_66 ?_
    exact kk
  · refine X_iload_n (i := 3) hB dX12_isLesson_31 rfl rfl ?_
    refine X_if_eq (tgt := 65) hB dX12_isLesson_32 (by decide) (fun c32 => ?_) (fun c32 => absurd rfl c32)
    refine X_iload_n (i := 3) hB dX12_isLesson_65 rfl rfl ?_
    refine X_zret hB rfl (by first | exact Or.inl rfl | exact Or.inr rfl) dX12_isLesson_66 ?_
    exact kk
set_option maxRecDepth 100000 in
set_option maxHeartbeats 4000000 in
theorem l_isLesson1 (hR : RLay G h) (hF : RRef S h) {E : Ev} (hB : Bd G E mX12_isLesson) {Q : Option Value → St → Prop} (n p : Nat) (hn : n < 8) (hp : p < 6) (e L : List Nat) (he : e.length ≤ 8) (hL : L.length ≤ 9) (hex : ∀ x ∈ e, x < 8) (hLx : ∀ x ∈ L, x < 8) (hm : S.1 (h + 1) (89 + 86 * n + 15 + 9 * p) = nI e.length) (hv : ∀ i, i < e.length → S.1 (h + 1) (89 + 86 * n + 15 + 9 * p + (1 + i)) = nI (e.getD i 0)) (hl : lesR S h L) (hel : e.length = L.length) (k1 : e = L → Q (some (.int 1)) S) (k0 : e ≠ L → Q (some (.int 0)) S) :
    ∀ (k i : Nat), i + k = L.length → (∀ j, j < i → e.getD j 0 = L.getD j 0) → X G E mX12_isLesson 2 Q S 22 [some (.ref h), some (.int (nI n)), some (.int (nI p)), some (.int 1), some (.int (nI i))] [] := by
  intro k
  induction k with
  | zero =>
    intro i h1 h2
    refine X_iload hB dX12_isLesson_22 rfl ?_
    refine X_aload_n (i := 0) hB dX12_isLesson_24 rfl rfl ?_
    refine X_geti hB cw10 fX12_186 rfl hR.1.1 hR.1.2 dX12_isLesson_25 ?_
    refine X_topi (y := nI L.length) hl.1 ?_
    refine X_icmp_ge (tgt := 65) hB dX12_isLesson_28 (by decide) (fun c28 => ?_) (fun c28 => absurd c28 (by simp (disch := omega) only [nI_leI, nI_ltI]; omega))
    refine X_iload_n (i := 3) hB dX12_isLesson_65 rfl rfl ?_
    refine X_zret hB rfl (by first | exact Or.inl rfl | exact Or.inr rfl) dX12_isLesson_66 ?_
    exact k1 (ext_getD hel (fun j hj => h2 j (by omega)))
  | succ k ih =>
    intro i h1 h2
    have b1 : e.getD i 0 < 8 := hex _ (getD_mem (by omega))
    have b2 : L.getD i 0 < 8 := hLx _ (getD_mem (by omega))
    refine X_iload hB dX12_isLesson_22 rfl ?_
    refine X_aload_n (i := 0) hB dX12_isLesson_24 rfl rfl ?_
    refine X_geti hB cw10 fX12_186 rfl hR.1.1 hR.1.2 dX12_isLesson_25 ?_
    refine X_topi (y := nI L.length) hl.1 ?_
    refine X_icmp_ge (tgt := 65) hB dX12_isLesson_28 (by decide) (fun c28 => absurd c28 (by simp (disch := omega) only [nI_leI, nI_ltI]; omega)) (fun c28 => ?_)
    refine X_iload_n (i := 3) hB dX12_isLesson_31 rfl rfl ?_
    refine X_if_eq (tgt := 65) hB dX12_isLesson_32 (by decide) (fun c32 => absurd c32 (by decide)) (fun c32 => ?_)
    refine X_aload_n (i := 0) hB dX12_isLesson_35 rfl rfl ?_
    refine X_iload_n (i := 1) hB dX12_isLesson_36 rfl rfl ?_
    refine X_iload_n (i := 2) hB dX12_isLesson_37 rfl rfl ?_
    refine X_iload hB dX12_isLesson_38 rfl ?_
    refine X_callV hB kX12_189 cw10 hR.1.1 hR.1.2 (c_pathAt hR (by exact hF.of rfl) hn hp (i := i) (by omega)) (by decide) (by decide) rfl rfl (Nat.le_of_ble_eq_true rfl) dX12_isLesson_40 (fun r40 S40 q40 => ?_)
    obtain ⟨rfl, rfl⟩ := q40
    refine X_topi (y := nI (e.getD i 0)) (hv i (by omega)) ?_
    refine X_aload_n (i := 0) hB dX12_isLesson_43 rfl rfl ?_
    refine X_getr hB cw10 fX12_30 rfl hR.1.1 hR.1.2 hF.2.2.2.2.2.2.1 dX12_isLesson_44 ?_
    refine X_iload hB dX12_isLesson_47 rfl ?_
    refine X_ialdN hB (i) hR.2.2.2.2.2.2.2.1.1 hR.2.2.2.2.2.2.2.1.2 (by decide) (by first | rfl | (simp (disch := omega) only [nlit, nI_add, nI_mul, nI_sub]; done) | (simp (disch := omega) only [nlit, nI_add, nI_mul, nI_sub]; congr 1; omega)) (by first | omega | (simp only []; omega)) (hl.2 i (by omega)) dX12_isLesson_49 ?_
    refine X_icmp_ne (tgt := 57) hB dX12_isLesson_50 (by decide) (fun c50 => ?_) (fun c50 => ?_)
    · refine X_iconst (v := 0) hB dX12_isLesson_57 (by decide) ?_
      refine X_istore_n (i := 3) hB dX12_isLesson_58 rfl (by decide) rfl ?_
      refine X_iinc hB dX12_isLesson_59 rfl rfl (by decide) rfl ?_
      refine X_goto (tgt := 22) hB dX12_isLesson_62 (by decide) ?_
      first
      | (have e9 : e.getD i 0 = L.getD i 0 := i32_inj (by omega) (by omega) (by first | exact c50 | exact Decidable.not_not.mp c50)
         refine X_lv ?_ (ih (i + 1) (by omega) (fun j hj => ?_))
         · rw [nI_succ]; rfl
         · rcases Nat.lt_succ_iff_lt_or_eq.mp hj with hj | hj
           · exact h2 j hj
           · rw [hj]; exact e9)
      | (refine l_isLesson0 hR hF hB n p hn hp e L he hL hex hLx hm hv hl _ (k0 fun e9 => ?_)
         rw [e9] at c50
         exact absurd rfl c50)
    · refine X_iconst (v := 1) hB dX12_isLesson_53 (by decide) ?_
      refine X_goto (tgt := 58) hB dX12_isLesson_54 (by decide) ?_
      refine X_istore_n (i := 3) hB dX12_isLesson_58 rfl (by decide) rfl ?_
      refine X_iinc hB dX12_isLesson_59 rfl rfl (by decide) rfl ?_
      refine X_goto (tgt := 22) hB dX12_isLesson_62 (by decide) ?_
      first
      | (have e9 : e.getD i 0 = L.getD i 0 := i32_inj (by omega) (by omega) (by first | exact c50 | exact Decidable.not_not.mp c50)
         refine X_lv ?_ (ih (i + 1) (by omega) (fun j hj => ?_))
         · rw [nI_succ]; rfl
         · rcases Nat.lt_succ_iff_lt_or_eq.mp hj with hj | hj
           · exact h2 j hj
           · rw [hj]; exact e9)
      | (refine l_isLesson0 hR hF hB n p hn hp e L he hL hex hLx hm hv hl _ (k0 fun e9 => ?_)
         rw [e9] at c50
         exact absurd rfl c50)
set_option maxRecDepth 100000 in
set_option maxHeartbeats 4000000 in
theorem c_isLesson (hR : RLay G h) (hF : RRef S h) (n p : Nat) (hn : n < 8) (hp : p < 6) (e L : List Nat) (he : e.length ≤ 8) (hL : L.length ≤ 9) (hex : ∀ x ∈ e, x < 8) (hLx : ∀ x ∈ L, x < 8) (hm : S.1 (h + 1) (89 + 86 * n + 15 + 9 * p) = nI e.length) (hv : ∀ i, i < e.length → S.1 (h + 1) (89 + 86 * n + 15 + 9 * p + (1 + i)) = nI (e.getD i 0)) (hl : lesR S h L) : C G mX12_isLesson 2 [.ref h, .int (nI n), .int (nI p)] S (fun r S' => r = some (.int (if e = L then 1 else 0)) ∧ S = S') := by
  refine C.mk (lv := [some (.ref h), some (.int (nI n)), some (.int (nI p)), none, none]) (by decide) (Nat.le_of_ble_eq_true rfl) rfl (fun E hB => ?_)
  refine X_aload_n (i := 0) hB dX12_isLesson_0 rfl rfl ?_
  refine X_iload_n (i := 1) hB dX12_isLesson_1 rfl rfl ?_
  refine X_iload_n (i := 2) hB dX12_isLesson_2 rfl rfl ?_
  refine X_callV hB kX12_183 cw10 hR.1.1 hR.1.2 (c_pathMany hR (by exact hF.of rfl) hn hp) (by decide) (by decide) rfl rfl (Nat.le_of_ble_eq_true rfl) dX12_isLesson_3 (fun r3 S3 q3 => ?_)
  obtain ⟨rfl, rfl⟩ := q3
  refine X_topi (y := nI e.length) hm ?_
  refine X_aload_n (i := 0) hB dX12_isLesson_6 rfl rfl ?_
  refine X_geti hB cw10 fX12_186 rfl hR.1.1 hR.1.2 dX12_isLesson_7 ?_
  refine X_topi (y := nI L.length) hl.1 ?_
  refine X_icmp_ne (tgt := 17) hB dX12_isLesson_10 (by decide) (fun c10 => ?_) (fun c10 => ?_)
  · refine X_iconst (v := 0) hB dX12_isLesson_17 (by decide) ?_
    refine X_istore_n (i := 3) hB dX12_isLesson_18 rfl (by decide) rfl ?_
    refine X_iconst (v := 0) hB dX12_isLesson_19 (by decide) ?_
    refine X_istore hB dX12_isLesson_20 (by decide) rfl ?_
    first
    | (have e9 : e.length = L.length := i32_inj (by omega) (by omega) (by first | exact c10 | exact Decidable.not_not.mp c10)
       exact l_isLesson1 hR hF hB n p hn hp e L he hL hex hLx hm hv hl e9 (fun q9 => ⟨by rw [if_pos q9], rfl⟩) (fun q9 => ⟨by rw [if_neg q9], rfl⟩) L.length 0 (by omega) (fun j hj => by omega))
    | exact l_isLesson0 hR hF hB n p hn hp e L he hL hex hLx hm hv hl _ ⟨by rw [if_neg (fun q9 => absurd (by rw [q9]) c10)], rfl⟩
  · refine X_iconst (v := 1) hB dX12_isLesson_13 (by decide) ?_
    refine X_goto (tgt := 18) hB dX12_isLesson_14 (by decide) ?_
    refine X_istore_n (i := 3) hB dX12_isLesson_18 rfl (by decide) rfl ?_
    refine X_iconst (v := 0) hB dX12_isLesson_19 (by decide) ?_
    refine X_istore hB dX12_isLesson_20 (by decide) rfl ?_
    first
    | (have e9 : e.length = L.length := i32_inj (by omega) (by omega) (by first | exact c10 | exact Decidable.not_not.mp c10)
       exact l_isLesson1 hR hF hB n p hn hp e L he hL hex hLx hm hv hl e9 (fun q9 => ⟨by rw [if_pos q9], rfl⟩) (fun q9 => ⟨by rw [if_neg q9], rfl⟩) L.length 0 (by omega) (fun j hj => by omega))
    | exact l_isLesson0 hR hF hB n p hn hp e L he hL hex hLx hm hv hl _ ⟨by rw [if_neg (fun q9 => absurd (by rw [q9]) c10)], rfl⟩
theorem cacheR.path {A : Nat → Int32} {n p : Nat} {c : List (List Nat)} (hc : cacheR A n false c) (hp : p < c.length) : A (89 + 86 * n + 15 + 9 * p) = nI (c.getD p []).length ∧ ∀ i, i < (c.getD p []).length → A (89 + 86 * n + 15 + 9 * p + (1 + i)) = nI ((c.getD p []).getD i 0) := by
  have h := hc.2 p hp
  unfold entR at h
  rw [if_neg (by decide)] at h
  exact h
theorem erase_idx {c : List (List Nat)} {L : List Nat} {p : Nat} (hp : p < c.length) (h1 : c.getD p [] = L) (h2 : ∀ j, j < p → c.getD j [] ≠ L) : c.erase L = c.eraseIdx p := by
  induction c generalizing p with
  | nil => simp at hp
  | cons a t ih =>
    cases p with
    | zero => simp at h1; subst h1; simp
    | succ p =>
      have h0 : a ≠ L := by simpa using h2 0 (by omega)
      rw [List.erase_cons_tail (by simpa using h0), List.eraseIdx_cons_succ]
      congr 1
      exact ih (by simpa using hp) (by simpa using h1) (fun j hj => by simpa using h2 (j + 1) (by omega))
theorem erase_not {c : List (List Nat)} {L : List Nat} (h2 : ∀ j, j < c.length → c.getD j [] ≠ L) : c.erase L = c := by
  refine List.erase_of_not_mem fun hm => ?_
  obtain ⟨i, hi, e⟩ := List.mem_iff_getElem.mp hm
  exact h2 i hi (by rw [getD_lt hi]; exact e)
set_option maxRecDepth 100000 in
set_option maxHeartbeats 4000000 in
theorem l_learnsPath (hR : RLay G h) (hF : RRef S h) {E : Ev} (hB : Bd G E mX12_learnsPath) {Q : Option Value → St → Prop} (n room : Nat) (hn : n < 8) (c : List (List Nat)) (L : List Nat) (hL : okE false L) (hok : okC false room c) (hc : cacheR (S.1 (h + 1)) n false c) (hl : lesR S h L) (hro : S.1 (h + 1) 2 = nI room) (kk : ∀ (A1 : Nat → Int32) (v : Int32), chC (S.1 (h + 1)) A1 n → cacheR A1 n false (c.erase L) → X G E mX12_learnsPath 3 Q (rowI S (h + 1) A1) 42 [some (.ref h), some (.int (nI n)), some (.int v)] []) :
    ∀ (k p : Nat), p + k = c.length → (∀ j, j < p → c.getD j [] ≠ L) → X G E mX12_learnsPath 3 Q S 2 [some (.ref h), some (.int (nI n)), some (.int (nI p))] [] := by
  have hlen : c.length ≤ 6 := by have := hok.2.1; have := hok.2.2.2.1; simp at *; omega
  intro k
  induction k with
  | zero =>
    intro p h1 h2
    refine X_iload_n (i := 2) hB dX12_learnsPath_2 rfl rfl ?_
    refine X_aload_n (i := 0) hB dX12_learnsPath_3 rfl rfl ?_
    refine X_iload_n (i := 1) hB dX12_learnsPath_4 rfl rfl ?_
    refine X_iconst (v := 2) hB dX12_learnsPath_5 (by decide) ?_
    refine X_callV hB kX12_180 cw10 hR.1.1 hR.1.2 (c_ofE (w := 2) hR (by exact hF.of rfl) rfl (by first | rfl | (simp (disch := omega) only [nlit, nI_add, nI_mul, nI_sub]; done) | (simp (disch := omega) only [nlit, nI_add, nI_mul, nI_sub]; congr 1; omega)) (by omega) (by omega)) (by decide) (by decide) rfl rfl (Nat.le_of_ble_eq_true rfl) dX12_learnsPath_6 (fun r6 S6 q6 => ?_)
    obtain ⟨rfl, rfl⟩ := q6
    refine X_topi (y := nI c.length) hc.1 ?_
    refine X_icmp_ge (tgt := 42) hB dX12_learnsPath_9 (by decide) (fun c9 => ?_) (fun c9 => absurd c9 (by simp (disch := omega) only [nI_leI, nI_ltI]; omega))
    have e9 : c.erase L = c := erase_not (fun j hj => h2 j (by omega))
    have := kk (S.1 (h + 1)) (nI p) chC.rf (by rw [e9]; exact hc)
    rw [rowI_self] at this
    exact this
  | succ k ih =>
    intro p h1 h2
    have hpl : p < c.length := by omega
    have hpe := hok.1 _ (getD_mem (d := []) hpl)
    refine X_iload_n (i := 2) hB dX12_learnsPath_2 rfl rfl ?_
    refine X_aload_n (i := 0) hB dX12_learnsPath_3 rfl rfl ?_
    refine X_iload_n (i := 1) hB dX12_learnsPath_4 rfl rfl ?_
    refine X_iconst (v := 2) hB dX12_learnsPath_5 (by decide) ?_
    refine X_callV hB kX12_180 cw10 hR.1.1 hR.1.2 (c_ofE (w := 2) hR (by exact hF.of rfl) rfl (by first | rfl | (simp (disch := omega) only [nlit, nI_add, nI_mul, nI_sub]; done) | (simp (disch := omega) only [nlit, nI_add, nI_mul, nI_sub]; congr 1; omega)) (by omega) (by omega)) (by decide) (by decide) rfl rfl (Nat.le_of_ble_eq_true rfl) dX12_learnsPath_6 (fun r6 S6 q6 => ?_)
    obtain ⟨rfl, rfl⟩ := q6
    refine X_topi (y := nI c.length) hc.1 ?_
    refine X_icmp_ge (tgt := 42) hB dX12_learnsPath_9 (by decide) (fun c9 => absurd c9 (by simp (disch := omega) only [nI_leI, nI_ltI]; omega)) (fun c9 => ?_)
    refine X_aload_n (i := 0) hB dX12_learnsPath_12 rfl rfl ?_
    refine X_iload_n (i := 1) hB dX12_learnsPath_13 rfl rfl ?_
    refine X_iload_n (i := 2) hB dX12_learnsPath_14 rfl rfl ?_
    refine X_callV hB kX12_193 cw10 hR.1.1 hR.1.2 (c_isLesson hR (by exact hF.of rfl) n p hn (by omega) (c.getD p []) L hpe.1 (by have := hL.1; omega) hpe.2.2.1 hL.2.2.1 (hc.path hpl).1 (hc.path hpl).2 hl) (by decide) (by decide) rfl rfl (Nat.le_of_ble_eq_true rfl) dX12_learnsPath_15 (fun r15 S15 q15 => ?_)
    obtain ⟨rfl, rfl⟩ := q15
    refine X_if_eq (tgt := 36) hB dX12_learnsPath_18 (by decide) (fun c18 => ?_) (fun c18 => ?_)
    · refine X_iinc hB dX12_learnsPath_36 rfl rfl (by decide) rfl ?_
      refine X_goto (tgt := 2) hB dX12_learnsPath_39 (by decide) ?_
      first
      | (have hne : c.getD p [] ≠ L := fun e9 => absurd c18 (by rw [if_pos e9]; decide)
         refine X_lv ?_ (ih (p + 1) (by omega) (fun j hj => ?_))
         · rw [nI_succ]; rfl
         · rcases Nat.lt_succ_iff_lt_or_eq.mp hj with hj | hj
           · exact h2 j hj
           · rw [hj]; exact hne)
      | (have heq : c.getD p [] = L := Decidable.byContradiction fun e9 => absurd (by rw [if_neg e9]) c18
         have e8 := erase_idx hpl heq h2
         have hd := cacheR_drop (mp := false) hc hok.len hpl hok.w
         have hch : chC (S.1 (h + 1)) _ n := chC_drop (A := S.1 (h + 1)) (n := n) (p := p) (m := c.length) (w := 9) (v := nI (c.length - 1)) (by omega)
         refine X_lv (lv' := [some (.ref h), some (.int (nI n)), some (.int (nI c.length))]) ?_ ?_
         · show [_, _, some (Value.int (nI (c.length - 1) + 1))] = _
           rw [nI_1, show c.length - 1 + 1 = c.length by omega]
         · refine X_iload_n (i := 2) hB dX12_learnsPath_2 rfl rfl ?_
           refine X_aload_n (i := 0) hB dX12_learnsPath_3 rfl rfl ?_
           refine X_iload_n (i := 1) hB dX12_learnsPath_4 rfl rfl ?_
           refine X_iconst (v := 2) hB dX12_learnsPath_5 (by decide) ?_
           refine X_callV hB kX12_180 cw10 hR.1.1 hR.1.2 (c_ofE (w := 2) hR (by exact hF.of rfl) rfl (by first | rfl | (simp (disch := omega) only [nlit, nI_add, nI_mul, nI_sub]; done) | (simp (disch := omega) only [nlit, nI_add, nI_mul, nI_sub]; congr 1; omega)) (by omega) (by omega)) (by decide) (by decide) rfl rfl (Nat.le_of_ble_eq_true rfl) dX12_learnsPath_6 (fun r6 S6 q6 => ?_)
           obtain ⟨rfl, rfl⟩ := q6
           refine X_topi (y := nI (c.length - 1)) (by rw [rowI_at, upd_at]) ?_
           refine X_icmp_ge (tgt := 42) hB dX12_learnsPath_9 (by decide) (fun c9 => ?_) (fun c9 => absurd c9 (by simp (disch := omega) only [nI_leI, nI_ltI]; omega))
           exact kk _ _ hch (by rw [e8]; exact hd))
    · refine X_aload_n (i := 0) hB dX12_learnsPath_21 rfl rfl ?_
      refine X_iload_n (i := 1) hB dX12_learnsPath_22 rfl rfl ?_
      refine X_iload_n (i := 2) hB dX12_learnsPath_23 rfl rfl ?_
      refine X_bipush (v := 9) hB dX12_learnsPath_24 (by decide) ?_
      refine X_callV hB kX12_196 cw10 hR.1.1 hR.1.2 (c_dropsKept9 hR (by exact hF.of rfl) n p c.length hn (by omega) hpl hc.1) (by decide) (by decide) rfl rfl (Nat.le_of_ble_eq_true rfl) dX12_learnsPath_26 (fun r26 S26 q26 => ?_)
      obtain ⟨rfl, rfl⟩ := q26
      refine X_aload_n (i := 0) hB dX12_learnsPath_29 rfl rfl ?_
      refine X_iload_n (i := 1) hB dX12_learnsPath_30 rfl rfl ?_
      refine X_iconst (v := 2) hB dX12_learnsPath_31 (by decide) ?_
      refine X_callV hB kX12_180 cw10 hR.1.1 hR.1.2 (c_ofE (w := 2) hR (by exact hF.of rfl) rfl (by first | rfl | (simp (disch := omega) only [nlit, nI_add, nI_mul, nI_sub]; done) | (simp (disch := omega) only [nlit, nI_add, nI_mul, nI_sub]; congr 1; omega)) (by omega) (by omega)) (by decide) (by decide) rfl rfl (Nat.le_of_ble_eq_true rfl) dX12_learnsPath_32 (fun r32 S32 q32 => ?_)
      obtain ⟨rfl, rfl⟩ := q32
      refine X_topi (y := nI (c.length - 1)) (by rw [rowI_at, upd_at]) ?_
      refine X_istore_n (i := 2) hB dX12_learnsPath_35 rfl (by decide) rfl ?_
      refine X_iinc hB dX12_learnsPath_36 rfl rfl (by decide) rfl ?_
      refine X_goto (tgt := 2) hB dX12_learnsPath_39 (by decide) ?_
      first
      | (have hne : c.getD p [] ≠ L := fun e9 => absurd c18 (by rw [if_pos e9]; decide)
         refine X_lv ?_ (ih (p + 1) (by omega) (fun j hj => ?_))
         · rw [nI_succ]; rfl
         · rcases Nat.lt_succ_iff_lt_or_eq.mp hj with hj | hj
           · exact h2 j hj
           · rw [hj]; exact hne)
      | (have heq : c.getD p [] = L := Decidable.byContradiction fun e9 => absurd (by rw [if_neg e9]) c18
         have e8 := erase_idx hpl heq h2
         have hd := cacheR_drop (mp := false) hc hok.len hpl hok.w
         have hch : chC (S.1 (h + 1)) _ n := chC_drop (A := S.1 (h + 1)) (n := n) (p := p) (m := c.length) (w := 9) (v := nI (c.length - 1)) (by omega)
         refine X_lv (lv' := [some (.ref h), some (.int (nI n)), some (.int (nI c.length))]) ?_ ?_
         · show [_, _, some (Value.int (nI (c.length - 1) + 1))] = _
           rw [nI_1, show c.length - 1 + 1 = c.length by omega]
         · refine X_iload_n (i := 2) hB dX12_learnsPath_2 rfl rfl ?_
           refine X_aload_n (i := 0) hB dX12_learnsPath_3 rfl rfl ?_
           refine X_iload_n (i := 1) hB dX12_learnsPath_4 rfl rfl ?_
           refine X_iconst (v := 2) hB dX12_learnsPath_5 (by decide) ?_
           refine X_callV hB kX12_180 cw10 hR.1.1 hR.1.2 (c_ofE (w := 2) hR (by exact hF.of rfl) rfl (by first | rfl | (simp (disch := omega) only [nlit, nI_add, nI_mul, nI_sub]; done) | (simp (disch := omega) only [nlit, nI_add, nI_mul, nI_sub]; congr 1; omega)) (by omega) (by omega)) (by decide) (by decide) rfl rfl (Nat.le_of_ble_eq_true rfl) dX12_learnsPath_6 (fun r6 S6 q6 => ?_)
           obtain ⟨rfl, rfl⟩ := q6
           refine X_topi (y := nI (c.length - 1)) (by rw [rowI_at, upd_at]) ?_
           refine X_icmp_ge (tgt := 42) hB dX12_learnsPath_9 (by decide) (fun c9 => ?_) (fun c9 => absurd c9 (by simp (disch := omega) only [nI_leI, nI_ltI]; omega))
           exact kk _ _ hch (by rw [e8]; exact hd))
set_option maxRecDepth 100000 in
set_option maxHeartbeats 4000000 in
theorem l_learnsPath2 (hR : RLay G h) (hF : RRef S h) {E : Ev} (hB : Bd G E mX12_learnsPath) {Q : Option Value → St → Prop} (n : Nat) (hn : n < 8) (L : List Nat) (hL : L.length ≤ 8) (hl : lesR S h L) (kk : Q none (rowI S (h + 1) (wrL (S.1 (h + 1)) (89 + 86 * n + 16) L L.length))) :
    ∀ (k i : Nat), i + k = L.length → X G E mX12_learnsPath 3 Q (rowI S (h + 1) (wrL (S.1 (h + 1)) (89 + 86 * n + 16) L i)) 68 [some (.ref h), some (.int (nI n)), some (.int (nI i))] [] := by
  intro k
  induction k with
  | zero =>
    intro i h1
    refine X_iload_n (i := 2) hB dX12_learnsPath_68 rfl rfl ?_
    refine X_aload_n (i := 0) hB dX12_learnsPath_69 rfl rfl ?_
    refine X_geti hB cw10 fX12_186 rfl hR.1.1 hR.1.2 dX12_learnsPath_70 ?_
    refine X_topi (y := nI L.length) (by rw [rowI_ne _ _ (by omega)]; exact hl.1) ?_
    refine X_icmp_ge (tgt := 97) hB dX12_learnsPath_73 (by decide) (fun c73 => ?_) (fun c73 => absurd c73 (by simp (disch := omega) only [nI_leI, nI_ltI]; omega))
    refine X_vret hB rfl dX12_learnsPath_97 ?_
    have e9 : i = L.length := by omega
    subst e9
    exact kk
  | succ k ih =>
    intro i h1
    refine X_iload_n (i := 2) hB dX12_learnsPath_68 rfl rfl ?_
    refine X_aload_n (i := 0) hB dX12_learnsPath_69 rfl rfl ?_
    refine X_geti hB cw10 fX12_186 rfl hR.1.1 hR.1.2 dX12_learnsPath_70 ?_
    refine X_topi (y := nI L.length) (by rw [rowI_ne _ _ (by omega)]; exact hl.1) ?_
    refine X_icmp_ge (tgt := 97) hB dX12_learnsPath_73 (by decide) (fun c73 => absurd c73 (by simp (disch := omega) only [nI_leI, nI_ltI]; omega)) (fun c73 => ?_)
    refine X_aload_n (i := 0) hB dX12_learnsPath_76 rfl rfl ?_
    refine X_iload_n (i := 1) hB dX12_learnsPath_77 rfl rfl ?_
    refine X_bipush (v := 16) hB dX12_learnsPath_78 (by decide) ?_
    refine X_iload_n (i := 2) hB dX12_learnsPath_80 rfl rfl ?_
    refine X_iadd hB dX12_learnsPath_81 ?_
    refine X_aload_n (i := 0) hB dX12_learnsPath_82 rfl rfl ?_
    refine X_getr hB cw10 fX12_30 rfl hR.1.1 hR.1.2 hF.2.2.2.2.2.2.1 dX12_learnsPath_83 ?_
    refine X_iload_n (i := 2) hB dX12_learnsPath_86 rfl rfl ?_
    refine X_ialdN hB (i) hR.2.2.2.2.2.2.2.1.1 hR.2.2.2.2.2.2.2.1.2 (by decide) (by first | rfl | (simp (disch := omega) only [nlit, nI_add, nI_mul, nI_sub]; done) | (simp (disch := omega) only [nlit, nI_add, nI_mul, nI_sub]; congr 1; omega)) (by first | omega | (simp only []; omega)) (show _ = nI (L.getD i 0) by rw [rowI_ne _ _ (by omega)]; exact hl.2 i (by omega)) dX12_learnsPath_87 ?_
    refine X_callV hB kX12_170 cw10 hR.1.1 hR.1.2 (c_layE (w := 16 + i) hR (by exact hF.of rfl) rfl (by first | rfl | (simp (disch := omega) only [nlit, nI_add, nI_mul, nI_sub]; done) | (simp (disch := omega) only [nlit, nI_add, nI_mul, nI_sub]; congr 1; omega)) (by omega) (by omega)) (by decide) (by decide) rfl rfl (Nat.le_of_ble_eq_true rfl) dX12_learnsPath_88 (fun r88 S88 q88 => ?_)
    obtain ⟨rfl, rfl⟩ := q88
    refine X_iinc hB dX12_learnsPath_91 rfl rfl (by decide) rfl ?_
    refine X_goto (tgt := 68) hB dX12_learnsPath_94 (by decide) ?_
    refine X_S (S' := rowI S (h + 1) (wrL (S.1 (h + 1)) (89 + 86 * n + 16) L (i + 1))) ?_ (X_lv ?_ (ih (i + 1) (by omega)))
    · rw [setI_rowI, rowI_rowI, rowI_at, show 89 + 86 * n + (16 + i) = 89 + 86 * n + 16 + i by omega, wrL_step]
    · rw [nI_succ]; rfl
set_option maxRecDepth 100000 in
set_option maxHeartbeats 4000000 in
theorem c_learnsPath (hR : RLay G h) (hF : RRef S h) (n room : Nat) (hn : n < 8) (c : List (List Nat)) (L : List Nat) (hL : okE false L) (hok : okC false room c) (hc : cacheR (S.1 (h + 1)) n false c) (hl : lesR S h L) (hro : S.1 (h + 1) 2 = nI room) : C G mX12_learnsPath 3 [.ref h, .int (nI n)] S (fun r S' => r = none ∧ ∃ A' : Nat → Int32, S' = rowI S (h + 1) A' ∧ chC (S.1 (h + 1)) A' n ∧ cacheR A' n false (ins room L c)) := by
  refine C.mk (lv := [some (.ref h), some (.int (nI n)), none]) (by decide) (Nat.le_of_ble_eq_true rfl) rfl (fun E hB => ?_)
  refine X_iconst (v := 0) hB dX12_learnsPath_0 (by decide) ?_
  refine X_istore_n (i := 2) hB dX12_learnsPath_1 rfl (by decide) rfl ?_
  refine l_learnsPath hR hF hB n room hn c L hL hok hc hl hro (fun A1 v9 hch1 hc1 => ?_) c.length 0 (by omega) (fun j hj => by omega)
  have hle : (c.erase L).length ≤ room := by have := List.length_erase_le (a := L) (l := c); have := hok.2.1; simp at *; omega
  have hr1 := hok.2.2.1
  have hr6 := hok.2.2.2.1
  have hl1 : lesR (rowI S (h + 1) A1) h L := hl.row (by omega) (by omega)
  refine X_aload_n (i := 0) hB dX12_learnsPath_42 rfl rfl ?_
  refine X_iload_n (i := 1) hB dX12_learnsPath_43 rfl rfl ?_
  refine X_bipush (v := 9) hB dX12_learnsPath_44 (by decide) ?_
  refine X_aload_n (i := 0) hB dX12_learnsPath_46 rfl rfl ?_
  refine X_getr hB cw10 fX12_7 rfl hR.1.1 hR.1.2 hF.1 dX12_learnsPath_47 ?_
  refine X_iconst (v := 2) hB dX12_learnsPath_50 (by decide) ?_
  refine X_ialdN hB (2) hR.2.1.1 hR.2.1.2 (by decide) (by first | rfl | (simp (disch := omega) only [nlit, nI_add, nI_mul, nI_sub]; done) | (simp (disch := omega) only [nlit, nI_add, nI_mul, nI_sub]; congr 1; omega)) (by first | omega | (simp only []; omega)) (show _ = nI room by rw [rowI_at, hch1 2 (by omega) (by omega)]; exact hro) dX12_learnsPath_51 ?_
  refine X_callV hB kX12_199 cw10 hR.1.1 hR.1.2 (c_opens9 hR (by exact hF.of rfl) n (c.erase L).length room hn hle hr1 (by omega) (by rw [rowI_at]; exact hc1.1)) (by decide) (by decide) rfl rfl (Nat.le_of_ble_eq_true rfl) dX12_learnsPath_52 (fun r52 S52 q52 => ?_)
  obtain ⟨rfl, rfl⟩ := q52
  rw [rowI_rowI, rowI_at]
  refine X_aload_n (i := 0) hB dX12_learnsPath_55 rfl rfl ?_
  refine X_iload_n (i := 1) hB dX12_learnsPath_56 rfl rfl ?_
  refine X_bipush (v := 15) hB dX12_learnsPath_57 (by decide) ?_
  refine X_aload_n (i := 0) hB dX12_learnsPath_59 rfl rfl ?_
  refine X_geti hB cw10 fX12_186 rfl hR.1.1 hR.1.2 dX12_learnsPath_60 ?_
  refine X_topi (y := nI L.length) (by rw [rowI_ne _ _ (by omega)]; exact hl.1) ?_
  refine X_callV hB kX12_170 cw10 hR.1.1 hR.1.2 (c_layE (w := 15) hR (by exact hF.of rfl) rfl (by first | rfl | (simp (disch := omega) only [nlit, nI_add, nI_mul, nI_sub]; done) | (simp (disch := omega) only [nlit, nI_add, nI_mul, nI_sub]; congr 1; omega)) (by omega) (by omega)) (by decide) (by decide) rfl rfl (Nat.le_of_ble_eq_true rfl) dX12_learnsPath_63 (fun r63 S63 q63 => ?_)
  obtain ⟨rfl, rfl⟩ := q63
  rw [setI_rowI, rowI_rowI, rowI_at]
  generalize hA2 : (upd (upd (shU A1 (89 + 86 * n + (15 + 9)) (89 + 86 * n + (15 + 9 * (min (c.erase L).length (room - 1) + 1))) 9) (89 + 86 * n + 2) (nI (min (c.erase L).length (room - 1) + 1))) (89 + 86 * n + 15) (nI L.length)) = A2
  refine X_iconst (v := 0) hB dX12_learnsPath_66 (by decide) ?_
  refine X_istore_n (i := 2) hB dX12_learnsPath_67 rfl (by decide) rfl ?_
  refine X_S (S' := rowI (rowI S (h + 1) A2) (h + 1) (wrL ((rowI S (h + 1) A2).1 (h + 1)) (89 + 86 * n + 16) L 0)) ?_ (l_learnsPath2 (S := rowI S (h + 1) A2) hR (by exact hF.of rfl) hB n hn L hL.1 (hl.row (by omega) (by omega)) ?_ L.length 0 (by omega))
  · rw [wrL_0, rowI_self]
  subst hA2
  refine ⟨rfl, _, by rw [rowI_rowI, rowI_at], ?_, ?_⟩
  · intro i h1 h2
    have hm9 : 9 * (min (c.erase L).length (room - 1) + 1) ≤ 54 := by omega
    have hLl := hL.1
    rw [wrL_out (by omega), upd_ne _ _ (by omega), upd_ne _ _ (by omega), shU_out (by omega)]
    exact hch1 i h1 h2
  · rw [ins_eq hr1 hle]
    have hLl := hL.1
    refine cacheR_push hc1 (fun x hx => hok.len x (List.mem_of_mem_erase hx)) (Nat.min_le_left _ _) ?_ ?_ ?_
    · rw [wrL_out (by omega), upd_ne _ _ (by omega), upd_at]
    · intro k j hk hj
      simp only [wdt, Bool.false_eq_true, if_false] at hj ⊢
      rw [wrL_out (by omega), upd_ne _ _ (by omega), upd_ne _ _ (by omega), shU_in (by omega)]
      exact congrArg _ (by omega)
    · unfold entR
      rw [if_neg (by decide)]
      refine ⟨?_, fun i hi => ?_⟩
      · dsimp only; rw [wrL_out (by omega), show 89 + 86 * n + 15 + 0 = 89 + 86 * n + 15 by omega, upd_at]
      · dsimp only; rw [wrL_in (by omega)]; congr 2; omega
end REF
