section REF
variable {G : Gc} {S : St} {h : Nat}
set_option maxRecDepth 100000 in
set_option maxHeartbeats 4000000 in
theorem l_isVain1 (hR : RLay G h) (hF : RRef S h) {E : Ev} (hB : Bd G E mX12_isVain) {Q : Option Value → St → Prop} (n p : Nat) (hn : n < 8) (c : List (List Nat)) (hcl : ∀ e ∈ c, e.length ≤ 8) (hcx : ∀ e ∈ c, ∀ x ∈ e, x < 8) (hlen : c.length ≤ 6) (hp : p < c.length) (hc : cacheR (S.1 (h + 1)) n false c) (kk : ∀ v, X G E mX12_isVain 3 Q (rowI (setI S h 20 (nI (c.getD p []).length)) (h + 7) (wrL (S.1 (h + 7)) 0 (c.getD p []) ((c.getD p []).length))) 39 [some (.ref h), some (.int (nI n)), some (.int (nI p)), some (.int v), none] []) :
    ∀ (k i : Nat), i + k = (c.getD p []).length → X G E mX12_isVain 3 Q (rowI (setI S h 20 (nI (c.getD p []).length)) (h + 7) (wrL (S.1 (h + 7)) 0 (c.getD p []) (i))) 12 [some (.ref h), some (.int (nI n)), some (.int (nI p)), some (.int (nI i)), none] [] := by
  have hpe := hcl _ (getD_mem (d := []) hp)
  have hrow : ∀ i, (rowI (setI S h 20 (nI (c.getD p []).length)) (h + 7) (wrL (S.1 (h + 7)) 0 (c.getD p []) (i))).1 (h + 1) = S.1 (h + 1) := fun i => by rw [rowI_ne _ _ (by omega), setI_row _ _ _ (by omega)]
  have hm : ∀ i, (rowI (setI S h 20 (nI (c.getD p []).length)) (h + 7) (wrL (S.1 (h + 7)) 0 (c.getD p []) (i))).1 h 20 = nI (c.getD p []).length := fun i => by rw [rowI_ne _ _ (by omega), setI_at]
  intro k
  induction k with
  | zero =>
    intro i h1
    refine X_iload_n (i := 3) hB dX12_isVain_12 rfl rfl ?_
    refine X_aload_n (i := 0) hB dX12_isVain_13 rfl rfl ?_
    refine X_geti hB cw10 fX12_186 rfl hR.1.1 hR.1.2 dX12_isVain_14 ?_
    refine X_topi (y := nI (c.getD p []).length) (hm i) ?_
    refine X_icmp_ge (tgt := 39) hB dX12_isVain_17 (by decide) (fun c17 => ?_) (fun c17 => absurd c17 (by simp (disch := omega) only [nlit, nI_leI, nI_ltI]; omega))
    have e9 : i = (c.getD p []).length := by omega
    subst e9
    exact kk _
  | succ k ih =>
    intro i h1
    refine X_iload_n (i := 3) hB dX12_isVain_12 rfl rfl ?_
    refine X_aload_n (i := 0) hB dX12_isVain_13 rfl rfl ?_
    refine X_geti hB cw10 fX12_186 rfl hR.1.1 hR.1.2 dX12_isVain_14 ?_
    refine X_topi (y := nI (c.getD p []).length) (hm i) ?_
    refine X_icmp_ge (tgt := 39) hB dX12_isVain_17 (by decide) (fun c17 => absurd c17 (by simp (disch := omega) only [nlit, nI_leI, nI_ltI]; omega)) (fun c17 => ?_)
    refine X_aload_n (i := 0) hB dX12_isVain_20 rfl rfl ?_
    refine X_getr hB cw10 fX12_30 rfl hR.1.1 hR.1.2 hF.2.2.2.2.2.2.1 dX12_isVain_21 ?_
    refine X_iload_n (i := 3) hB dX12_isVain_24 rfl rfl ?_
    refine X_aload_n (i := 0) hB dX12_isVain_25 rfl rfl ?_
    refine X_iload_n (i := 1) hB dX12_isVain_26 rfl rfl ?_
    refine X_iload_n (i := 2) hB dX12_isVain_27 rfl rfl ?_
    refine X_iload_n (i := 3) hB dX12_isVain_28 rfl rfl ?_
    refine X_callV hB kX12_189 cw10 hR.1.1 hR.1.2 (c_pathAt hR (by exact hF.of rfl) hn (by omega) (i := i) (by omega)) (by decide) (by decide) rfl rfl (Nat.le_of_ble_eq_true rfl) dX12_isVain_29 (fun r29 S29 q29 => ?_)
    obtain ⟨rfl, rfl⟩ := q29
    refine X_topi (y := nI ((c.getD p []).getD i 0)) (by rw [hrow]; exact (hc.path hp).2 i (by omega)) ?_
    refine X_iastN hB (i) hR.2.2.2.2.2.2.2.1.1 hR.2.2.2.2.2.2.2.1.2 (by decide) (by first | rfl | (simp (disch := omega) only [nlit, nI_add, nI_mul, nI_sub]; done) | (simp (disch := omega) only [nlit, nI_add, nI_mul, nI_sub]; congr 1; omega)) (by first | omega | (simp only []; omega)) dX12_isVain_32 ?_
    refine X_iinc hB dX12_isVain_33 rfl rfl (by decide) rfl ?_
    refine X_goto (tgt := 12) hB dX12_isVain_36 (by decide) ?_
    refine X_S (S' := (rowI (setI S h 20 (nI (c.getD p []).length)) (h + 7) (wrL (S.1 (h + 7)) 0 (c.getD p []) (i + 1)))) ?_ (X_lv ?_ (ih (i + 1) (by omega)))
    · rw [setI_rowI (rowI (setI S h 20 (nI (c.getD p []).length)) (h + 7) (wrL (S.1 (h + 7)) 0 (c.getD p []) (i))), rowI_rowI, rowI_at]
      congr 1
      have := wrL_step (A := S.1 (h + 7)) (base := 0) (L := (c.getD p [])) (i := i)
      rw [Nat.zero_add] at this
      exact this
    · rw [nI_succ]; rfl
set_option maxRecDepth 100000 in
set_option maxHeartbeats 4000000 in
theorem l_isVain2 (hR : RLay G h) (hF : RRef S h) {E : Ev} (hB : Bd G E mX12_isVain) {Q : Option Value → St → Prop} (n p : Nat) (hn : n < 8) (e : List Nat) (c : List (List Nat)) (hcl : ∀ e ∈ c, e.length ≤ 8) (hcx : ∀ e ∈ c, ∀ x ∈ e, x < 8) (hlen : c.length ≤ 6) (hp : p < c.length) (hc : cacheR (S.1 (h + 1)) n false c) (he : e ∈ c) (hl : lesR S h e) (k1 : e ∈ c.take p → Q (some (.int 1)) S) (k0 : e ∉ c.take p → Q (some (.int 0)) S) :
    ∀ (k i : Nat), i + k = p → (∀ j, j < i → c.getD j [] ≠ e) → X G E mX12_isVain 3 Q S 56 [some (.ref h), some (.int (nI n)), some (.int (nI p)), some (.int 0), some (.int (nI i))] [] := by
  intro k
  induction k with
  | zero =>
    intro i h1 h2
    refine X_iload hB dX12_isVain_56 rfl ?_
    refine X_iload_n (i := 2) hB dX12_isVain_58 rfl rfl ?_
    refine X_icmp_ge (tgt := 80) hB dX12_isVain_59 (by decide) (fun c59 => ?_) (fun c59 => absurd c59 (by simp (disch := omega) only [nlit, nI_leI, nI_ltI]; omega))
    refine X_iload_n (i := 3) hB dX12_isVain_80 rfl rfl ?_
    refine X_zret hB rfl (by first | exact Or.inl rfl | exact Or.inr rfl) dX12_isVain_81 ?_
    refine k0 fun hm => ?_
    obtain ⟨j, hj, e9⟩ := List.mem_iff_getElem.mp hm
    rw [List.length_take] at hj
    rw [List.getElem_take] at e9
    exact h2 j (by omega) (by rw [getD_lt (by omega)]; exact e9)
  | succ k ih =>
    intro i h1 h2
    have hil : i < c.length := by omega
    refine X_iload hB dX12_isVain_56 rfl ?_
    refine X_iload_n (i := 2) hB dX12_isVain_58 rfl rfl ?_
    refine X_icmp_ge (tgt := 80) hB dX12_isVain_59 (by decide) (fun c59 => absurd c59 (by simp (disch := omega) only [nlit, nI_leI, nI_ltI]; omega)) (fun c59 => ?_)
    refine X_iload_n (i := 3) hB dX12_isVain_62 rfl rfl ?_
    refine X_if_ne (tgt := 80) hB dX12_isVain_63 (by decide) (fun c63 => absurd rfl c63) (fun c63 => ?_)
    refine X_aload_n (i := 0) hB dX12_isVain_66 rfl rfl ?_
    refine X_iload_n (i := 1) hB dX12_isVain_67 rfl rfl ?_
    refine X_iload hB dX12_isVain_68 rfl ?_
    refine X_callV hB kX12_193 cw10 hR.1.1 hR.1.2 (c_isLesson hR (by exact hF.of rfl) n i hn (by omega) (c.getD i []) e (hcl _ (getD_mem hil)) (by have := hcl e he; omega) (hcx _ (getD_mem hil)) (hcx e he) (hc.path hil).1 (hc.path hil).2 hl) (by decide) (by decide) rfl rfl (Nat.le_of_ble_eq_true rfl) dX12_isVain_70 (fun r70 S70 q70 => ?_)
    obtain ⟨rfl, rfl⟩ := q70
    by_cases heq : c.getD i [] = e
    · rw [if_pos heq]
      have hmem : e ∈ c.take p := List.mem_iff_getElem.mpr ⟨i, by rw [List.length_take]; omega, by rw [List.getElem_take, ← getD_lt (d := []) hil]; exact heq⟩
      refine X_istore_n (i := 3) hB dX12_isVain_73 rfl (by decide) rfl ?_
      refine X_iinc hB dX12_isVain_74 rfl rfl (by decide) rfl ?_
      refine X_goto (tgt := 56) hB dX12_isVain_77 (by decide) ?_
      refine X_iload hB dX12_isVain_56 rfl ?_
      refine X_iload_n (i := 2) hB dX12_isVain_58 rfl rfl ?_
      refine X_icmp_ge (tgt := 80) hB dX12_isVain_59 (by decide) (fun c59 => ?_) (fun c59 => ?_)
      · refine X_iload_n (i := 3) hB dX12_isVain_80 rfl rfl ?_
        refine X_zret hB rfl (by first | exact Or.inl rfl | exact Or.inr rfl) dX12_isVain_81 ?_
        exact k1 hmem
      · refine X_iload_n (i := 3) hB dX12_isVain_62 rfl rfl ?_
        refine X_if_ne (tgt := 80) hB dX12_isVain_63 (by decide) (fun c63 => ?_) (fun c63 => absurd c63 (by decide))
        refine X_iload_n (i := 3) hB dX12_isVain_80 rfl rfl ?_
        refine X_zret hB rfl (by first | exact Or.inl rfl | exact Or.inr rfl) dX12_isVain_81 ?_
        exact k1 hmem
    rw [if_neg heq]
    refine X_istore_n (i := 3) hB dX12_isVain_73 rfl (by decide) rfl ?_
    refine X_iinc hB dX12_isVain_74 rfl rfl (by decide) rfl ?_
    refine X_goto (tgt := 56) hB dX12_isVain_77 (by decide) ?_
    refine X_lv ?_ (ih (i + 1) (by omega) (fun j hj => ?_))
    · rw [nI_succ]; rfl
    · rcases Nat.lt_succ_iff_lt_or_eq.mp hj with hj | hj
      · exact h2 j hj
      · rw [hj]; exact heq
set_option maxRecDepth 100000 in
set_option maxHeartbeats 4000000 in
theorem c_isVain (hR : RLay G h) (hF : RRef S h) (n p : Nat) (hn : n < 8) (c : List (List Nat)) (hcl : ∀ e ∈ c, e.length ≤ 8) (hcx : ∀ e ∈ c, ∀ x ∈ e, x < 8) (hlen : c.length ≤ 6) (hp : p < c.length) (hc : cacheR (S.1 (h + 1)) n false c) : C G mX12_isVain 3 [.ref h, .int (nI n), .int (nI p)] S (fun r S' => r = some (.int (if (c.getD p []).length < 2 ∨ (c.getD p []) ∈ c.take p then 1 else 0)) ∧ fr h [h + 7] [20] S S') := by
  have hpe := hcl _ (getD_mem (d := []) hp)
  have hfr : fr h [h + 7] [20] S (rowI (setI S h 20 (nI (c.getD p []).length)) (h + 7) (wrL (S.1 (h + 7)) 0 (c.getD p []) ((c.getD p []).length))) := (fr.fld (by simp)).tr (fr.row (by simp) (by omega))
  have hrow : (rowI (setI S h 20 (nI (c.getD p []).length)) (h + 7) (wrL (S.1 (h + 7)) 0 (c.getD p []) ((c.getD p []).length))).1 (h + 1) = S.1 (h + 1) := by rw [rowI_ne _ _ (by omega), setI_row _ _ _ (by omega)]
  have hl2 : lesR (rowI (setI S h 20 (nI (c.getD p []).length)) (h + 7) (wrL (S.1 (h + 7)) 0 (c.getD p []) ((c.getD p []).length))) h (c.getD p []) := ⟨by rw [rowI_ne _ _ (by omega), setI_at], fun i hi => by rw [rowI_at, wrL_in (by omega)]; rfl⟩
  refine C.mk (lv := [some (.ref h), some (.int (nI n)), some (.int (nI p)), none, none]) (by decide) (Nat.le_of_ble_eq_true rfl) rfl (fun E hB => ?_)
  refine X_aload_n (i := 0) hB dX12_isVain_0 rfl rfl ?_
  refine X_aload_n (i := 0) hB dX12_isVain_1 rfl rfl ?_
  refine X_iload_n (i := 1) hB dX12_isVain_2 rfl rfl ?_
  refine X_iload_n (i := 2) hB dX12_isVain_3 rfl rfl ?_
  refine X_callV hB kX12_183 cw10 hR.1.1 hR.1.2 (c_pathMany hR (by exact hF.of rfl) hn (by omega)) (by decide) (by decide) rfl rfl (Nat.le_of_ble_eq_true rfl) dX12_isVain_4 (fun r4 S4 q4 => ?_)
  obtain ⟨rfl, rfl⟩ := q4
  refine X_topi (y := nI (c.getD p []).length) ((hc.path hp).1) ?_
  refine X_puti hB cw10 fX12_186 rfl rfl hR.1.1 hR.1.2 dX12_isVain_7 ?_
  refine X_iconst (v := 0) hB dX12_isVain_10 (by decide) ?_
  refine X_istore_n (i := 3) hB dX12_isVain_11 rfl (by decide) rfl ?_
  refine X_S (S' := (rowI (setI S h 20 (nI (c.getD p []).length)) (h + 7) (wrL (S.1 (h + 7)) 0 (c.getD p []) (0)))) (by rw [wrL_0, show S.1 (h + 7) = (setI S h 20 (nI (c.getD p []).length)).1 (h + 7) from (setI_row _ _ _ (by omega)).symm, rowI_self]) (l_isVain1 hR hF hB n p hn c hcl hcx hlen hp hc (fun v9 => ?_) (c.getD p []).length 0 (by omega))
  refine X_aload_n (i := 0) hB dX12_isVain_39 rfl rfl ?_
  refine X_geti hB cw10 fX12_186 rfl hR.1.1 hR.1.2 dX12_isVain_40 ?_
  refine X_topi (y := nI (c.getD p []).length) (hl2.1) ?_
  refine X_iconst (v := 2) hB dX12_isVain_43 (by decide) ?_
  refine X_icmp_ge (tgt := 51) hB dX12_isVain_44 (by decide) (fun c44 => ?_) (fun c44 => ?_)
  · refine X_iconst (v := 0) hB dX12_isVain_51 (by decide) ?_
    refine X_istore_n (i := 3) hB dX12_isVain_52 rfl (by decide) rfl ?_
    refine X_iconst (v := 0) hB dX12_isVain_53 (by decide) ?_
    refine X_istore hB dX12_isVain_54 (by decide) rfl ?_
    first
    | (have hlt : (c.getD p []).length < 2 := by (have c9 := c44); simp (disch := omega) only [nlit, nI_leI, nI_ltI] at c9; omega
       refine X_dl [some (.ref h), some (.int (nI n)), some (.int (nI p)), some (.int 1), some (.int 0)] (by simp [lle, lset]) ?_
       refine X_iload hB dX12_isVain_56 rfl ?_
       refine X_iload_n (i := 2) hB dX12_isVain_58 rfl rfl ?_
       refine X_icmp_ge (tgt := 80) hB dX12_isVain_59 (by decide) (fun c59 => ?_) (fun c59 => ?_)
       · refine X_iload_n (i := 3) hB dX12_isVain_80 rfl rfl ?_
         refine X_zret hB rfl (by first | exact Or.inl rfl | exact Or.inr rfl) dX12_isVain_81 ?_
         exact ⟨by rw [if_pos (Or.inl hlt)], hfr⟩
       · refine X_iload_n (i := 3) hB dX12_isVain_62 rfl rfl ?_
         refine X_if_ne (tgt := 80) hB dX12_isVain_63 (by decide) (fun c63 => ?_) (fun c63 => absurd c63 (by decide))
         refine X_iload_n (i := 3) hB dX12_isVain_80 rfl rfl ?_
         refine X_zret hB rfl (by first | exact Or.inl rfl | exact Or.inr rfl) dX12_isVain_81 ?_
         exact ⟨by rw [if_pos (Or.inl hlt)], hfr⟩)
    | (have hge : ¬ (c.getD p []).length < 2 := by (have c9 := c44); simp (disch := omega) only [nlit, nI_leI, nI_ltI] at c9; omega
       exact l_isVain2 hR (by exact hF.of rfl) hB n p hn (c.getD p []) c hcl hcx hlen hp (by rw [hrow]; exact hc) (getD_mem hp) hl2 (fun q9 => ⟨by rw [if_pos (Or.inr q9)], hfr⟩) (fun q9 => ⟨by rw [if_neg (fun o9 => o9.elim hge q9)], hfr⟩) p 0 (by omega) (fun j hj => by omega))
  · refine X_iconst (v := 1) hB dX12_isVain_47 (by decide) ?_
    refine X_goto (tgt := 52) hB dX12_isVain_48 (by decide) ?_
    refine X_istore_n (i := 3) hB dX12_isVain_52 rfl (by decide) rfl ?_
    refine X_iconst (v := 0) hB dX12_isVain_53 (by decide) ?_
    refine X_istore hB dX12_isVain_54 (by decide) rfl ?_
    first
    | (have hlt : (c.getD p []).length < 2 := by (have c9 := c44); simp (disch := omega) only [nlit, nI_leI, nI_ltI] at c9; omega
       refine X_dl [some (.ref h), some (.int (nI n)), some (.int (nI p)), some (.int 1), some (.int 0)] (by simp [lle, lset]) ?_
       refine X_iload hB dX12_isVain_56 rfl ?_
       refine X_iload_n (i := 2) hB dX12_isVain_58 rfl rfl ?_
       refine X_icmp_ge (tgt := 80) hB dX12_isVain_59 (by decide) (fun c59 => ?_) (fun c59 => ?_)
       · refine X_iload_n (i := 3) hB dX12_isVain_80 rfl rfl ?_
         refine X_zret hB rfl (by first | exact Or.inl rfl | exact Or.inr rfl) dX12_isVain_81 ?_
         exact ⟨by rw [if_pos (Or.inl hlt)], hfr⟩
       · refine X_iload_n (i := 3) hB dX12_isVain_62 rfl rfl ?_
         refine X_if_ne (tgt := 80) hB dX12_isVain_63 (by decide) (fun c63 => ?_) (fun c63 => absurd c63 (by decide))
         refine X_iload_n (i := 3) hB dX12_isVain_80 rfl rfl ?_
         refine X_zret hB rfl (by first | exact Or.inl rfl | exact Or.inr rfl) dX12_isVain_81 ?_
         exact ⟨by rw [if_pos (Or.inl hlt)], hfr⟩)
    | (have hge : ¬ (c.getD p []).length < 2 := by (have c9 := c44); simp (disch := omega) only [nlit, nI_leI, nI_ltI] at c9; omega
       exact l_isVain2 hR (by exact hF.of rfl) hB n p hn (c.getD p []) c hcl hcx hlen hp (by rw [hrow]; exact hc) (getD_mem hp) hl2 (fun q9 => ⟨by rw [if_pos (Or.inr q9)], hfr⟩) (fun q9 => ⟨by rw [if_neg (fun o9 => o9.elim hge q9)], hfr⟩) p 0 (by omega) (fun j hj => by omega))
end REF
