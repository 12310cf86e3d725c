section REF
variable {G : Gc} {S : St} {h : Nat}
set_option maxRecDepth 100000 in
set_option maxHeartbeats 4000000 in
theorem l_forP1 (hR : RLay G h) (hF : RRef S h) {E : Ev} (hB : Bd G E mX12_forgetsPaths) {Q : Option Value → St → Prop} (n a b : Nat) (hn : n < 8) (ha : a < 8) (hb : b < 8) (p : Nat) (A1 : Nat → Int32) (c : List (List Nat)) (hcl : ∀ e ∈ c, e.length ≤ 8) (hcx : ∀ e ∈ c, ∀ x ∈ e, x < 8) (hlen : c.length ≤ 6) (hp : p < c.length) (hc : cacheR A1 n false c) (hch : chC (S.1 (h + 1)) A1 n)
    (kk : ∀ (A2 : Nat → Int32) (i : Int32), chC (S.1 (h + 1)) A2 n → cacheR A2 n false (c.set p (cutAt a b (c.getD p []))) → X G E mX12_forgetsPaths 4 Q (rowI S (h + 1) A2) 98 [some (.ref h), some (.int (nI n)), some (.int (nI a)), some (.int (nI b)), some (.int (nI p)), some (.int i), none, none] []) :
    ∀ (k i : Nat), i + k = (c.getD p []).length → 1 ≤ i → (∀ j, 1 ≤ j → j < i → ¬ adj a b (c.getD p []) j) → X G E mX12_forgetsPaths 4 Q (rowI S (h + 1) A1) 17 [some (.ref h), some (.int (nI n)), some (.int (nI a)), some (.int (nI b)), some (.int (nI p)), some (.int (nI i)), none, none] [] := by
  have hpe := hcl _ (getD_mem (d := []) hp)
  intro k
  induction k with
  | zero =>
    intro i h1 h2 h3
    refine X_iload hB dX12_forgetsPaths_17 rfl ?_
    refine X_aload_n (i := 0) hB dX12_forgetsPaths_19 rfl rfl ?_
    refine X_iload_n (i := 1) hB dX12_forgetsPaths_20 rfl rfl ?_
    refine X_iload hB dX12_forgetsPaths_21 rfl ?_
    refine X_callV hB kX12_183 cw10 hR.1.1 hR.1.2 (c_pathMany hR (by exact hF.of rfl) hn (by omega)) (by decide) (by decide) rfl rfl (Nat.le_of_ble_eq_true rfl) dX12_forgetsPaths_23 (fun r23 S23 q23 => ?_)
    obtain ⟨rfl, rfl⟩ := q23
    refine X_topi (y := nI (c.getD p []).length) (by rw [rowI_at]; exact (hc.path hp).1) ?_
    refine X_icmp_ge (tgt := 98) hB dX12_forgetsPaths_26 (by decide) (fun c26 => ?_) (fun c26 => absurd c26 (by simp (disch := omega) only [nlit, nI_leI, nI_ltI]; omega))
    refine kk A1 _ hch ?_
    rw [cutAt_none _ (fun j g1 g2 => h3 j g1 (by omega))]
    rw [show c.set p (c.getD p []) = c by rw [getD_lt hp]; exact List.set_getElem_self hp]
    exact hc
  | succ k ih =>
    intro i h1 h2 h3
    have b0 : (c.getD p []).getD (i - 1) 0 < 8 := hcx _ (getD_mem hp) _ (getD_mem (by omega))
    have b1 : (c.getD p []).getD i 0 < 8 := hcx _ (getD_mem hp) _ (getD_mem (by omega))
    refine X_iload hB dX12_forgetsPaths_17 rfl ?_
    refine X_aload_n (i := 0) hB dX12_forgetsPaths_19 rfl rfl ?_
    refine X_iload_n (i := 1) hB dX12_forgetsPaths_20 rfl rfl ?_
    refine X_iload hB dX12_forgetsPaths_21 rfl ?_
    refine X_callV hB kX12_183 cw10 hR.1.1 hR.1.2 (c_pathMany hR (by exact hF.of rfl) hn (by omega)) (by decide) (by decide) rfl rfl (Nat.le_of_ble_eq_true rfl) dX12_forgetsPaths_23 (fun r23 S23 q23 => ?_)
    obtain ⟨rfl, rfl⟩ := q23
    refine X_topi (y := nI (c.getD p []).length) (by rw [rowI_at]; exact (hc.path hp).1) ?_
    refine X_icmp_ge (tgt := 98) hB dX12_forgetsPaths_26 (by decide) (fun c26 => absurd c26 (by simp (disch := omega) only [nlit, nI_leI, nI_ltI]; omega)) (fun c26 => ?_)
    refine X_aload_n (i := 0) hB dX12_forgetsPaths_29 rfl rfl ?_
    refine X_iload_n (i := 1) hB dX12_forgetsPaths_30 rfl rfl ?_
    refine X_iload hB dX12_forgetsPaths_31 rfl ?_
    refine X_iload hB dX12_forgetsPaths_33 rfl ?_
    refine X_iconst (v := 1) hB dX12_forgetsPaths_35 (by decide) ?_
    refine X_isub hB dX12_forgetsPaths_36 ?_
    refine X_topi (y := nI (i - 1)) (by first | rfl | (simp (disch := omega) only [nlit, nI_add, nI_mul, nI_sub]; done) | (simp (disch := omega) only [nlit, nI_add, nI_mul, nI_sub]; congr 1; omega)) ?_
    refine X_callV hB kX12_189 cw10 hR.1.1 hR.1.2 (c_pathAt hR (by exact hF.of rfl) hn (by omega) (i := i - 1) (by omega)) (by decide) (by decide) rfl rfl (Nat.le_of_ble_eq_true rfl) dX12_forgetsPaths_37 (fun r37 S37 q37 => ?_)
    obtain ⟨rfl, rfl⟩ := q37
    refine X_topi (y := nI ((c.getD p []).getD (i - 1) 0)) (by rw [rowI_at]; exact (hc.path hp).2 _ (by omega)) ?_
    refine X_istore hB dX12_forgetsPaths_40 (by decide) rfl ?_
    refine X_aload_n (i := 0) hB dX12_forgetsPaths_42 rfl rfl ?_
    refine X_iload_n (i := 1) hB dX12_forgetsPaths_43 rfl rfl ?_
    refine X_iload hB dX12_forgetsPaths_44 rfl ?_
    refine X_iload hB dX12_forgetsPaths_46 rfl ?_
    refine X_callV hB kX12_189 cw10 hR.1.1 hR.1.2 (c_pathAt hR (by exact hF.of rfl) hn (by omega) (i := i) (by omega)) (by decide) (by decide) rfl rfl (Nat.le_of_ble_eq_true rfl) dX12_forgetsPaths_48 (fun r48 S48 q48 => ?_)
    obtain ⟨rfl, rfl⟩ := q48
    refine X_topi (y := nI ((c.getD p []).getD i 0)) (by rw [rowI_at]; exact (hc.path hp).2 _ (by omega)) ?_
    refine X_istore hB dX12_forgetsPaths_51 (by decide) rfl ?_
    refine X_iload hB dX12_forgetsPaths_53 rfl ?_
    refine X_iload_n (i := 2) hB dX12_forgetsPaths_55 rfl rfl ?_
    refine X_icmp_ne (tgt := 65) hB dX12_forgetsPaths_56 (by decide) (fun c56 => ?_) (fun c56 => ?_)
    · refine X_iload hB dX12_forgetsPaths_65 rfl ?_
      refine X_iload_n (i := 3) hB dX12_forgetsPaths_67 rfl rfl ?_
      refine X_icmp_ne (tgt := 92) hB dX12_forgetsPaths_68 (by decide) (fun c68 => ?_) (fun c68 => ?_)
      · refine X_iinc hB dX12_forgetsPaths_92 rfl rfl (by decide) rfl ?_
        refine X_goto (tgt := 17) hB dX12_forgetsPaths_95 (by decide) ?_
        refine X_dl [some (.ref h), some (.int (nI n)), some (.int (nI a)), some (.int (nI b)), some (.int (nI p)), some (.int (nI (i + 1))), none, none] (by simp [lle, lset, nI_succ]) (ih (i + 1) (by omega) (by omega) (fun j g1 g2 => ?_))
        rcases Nat.lt_succ_iff_lt_or_eq.mp g2 with g2 | g2
        · exact h3 j g1 g2
        · subst g2
          unfold adj
          intro hq
          rcases hq with ⟨q1, q2⟩ | ⟨q1, q2⟩
          · first
            | exact c56 (by rw [q1])
            | exact c62 (by rw [q2])
          · first
            | exact c68 (by rw [q1])
            | exact c74 (by rw [q2])
      · refine X_iload hB dX12_forgetsPaths_71 rfl ?_
        refine X_iload_n (i := 2) hB dX12_forgetsPaths_73 rfl rfl ?_
        refine X_icmp_ne (tgt := 92) hB dX12_forgetsPaths_74 (by decide) (fun c74 => ?_) (fun c74 => ?_)
        · refine X_iinc hB dX12_forgetsPaths_92 rfl rfl (by decide) rfl ?_
          refine X_goto (tgt := 17) hB dX12_forgetsPaths_95 (by decide) ?_
          refine X_dl [some (.ref h), some (.int (nI n)), some (.int (nI a)), some (.int (nI b)), some (.int (nI p)), some (.int (nI (i + 1))), none, none] (by simp [lle, lset, nI_succ]) (ih (i + 1) (by omega) (by omega) (fun j g1 g2 => ?_))
          rcases Nat.lt_succ_iff_lt_or_eq.mp g2 with g2 | g2
          · exact h3 j g1 g2
          · subst g2
            unfold adj
            intro hq
            rcases hq with ⟨q1, q2⟩ | ⟨q1, q2⟩
            · first
              | exact c56 (by rw [q1])
              | exact c62 (by rw [q2])
            · first
              | exact c68 (by rw [q1])
              | exact c74 (by rw [q2])
        · have hadj : adj a b (c.getD p []) i := by
            unfold adj
            first
            | exact Or.inl ⟨i32_inj (by omega) (by omega) (by first | exact c56 | exact Decidable.not_not.mp c56), i32_inj (by omega) (by omega) (by first | exact c62 | exact Decidable.not_not.mp c62)⟩
            | exact Or.inr ⟨i32_inj (by omega) (by omega) (by first | exact c68 | exact Decidable.not_not.mp c68), i32_inj (by omega) (by omega) (by first | exact c74 | exact Decidable.not_not.mp c74)⟩
          have hcut := cacheR_cut hc hcl hlen hp (i := i) (by omega)
          rw [← cutAt_at _ i h2 (by omega) hadj h3] at hcut
          have hch2 : chC (S.1 (h + 1)) (upd A1 (89 + 86 * n + (15 + 9 * p)) (nI i)) n := fun x g1 g2 => by rw [upd_ne _ _ (by omega)]; exact hch x g1 g2
          refine X_aload_n (i := 0) hB dX12_forgetsPaths_77 rfl rfl ?_
          refine X_iload_n (i := 1) hB dX12_forgetsPaths_78 rfl rfl ?_
          refine X_bipush (v := 15) hB dX12_forgetsPaths_79 (by decide) ?_
          refine X_bipush (v := 9) hB dX12_forgetsPaths_81 (by decide) ?_
          refine X_iload hB dX12_forgetsPaths_83 rfl ?_
          refine X_imul hB dX12_forgetsPaths_85 ?_
          refine X_iadd hB dX12_forgetsPaths_86 ?_
          refine X_iload hB dX12_forgetsPaths_87 rfl ?_
          refine X_callV hB kX12_170 cw10 hR.1.1 hR.1.2 (c_layE (w := 15 + 9 * p) hR (by exact hF.of rfl) rfl (by first | rfl | (simp (disch := omega) only [nlit, nI_add, nI_mul, nI_sub]; done) | (simp (disch := omega) only [nlit, nI_add, nI_mul, nI_sub]; congr 1; omega)) (by omega) (by omega)) (by decide) (by decide) rfl rfl (Nat.le_of_ble_eq_true rfl) dX12_forgetsPaths_89 (fun r89 S89 q89 => ?_)
          obtain ⟨rfl, rfl⟩ := q89
          rw [setI_rowI, rowI_rowI, rowI_at]
          refine X_iinc hB dX12_forgetsPaths_92 rfl rfl (by decide) rfl ?_
          refine X_goto (tgt := 17) hB dX12_forgetsPaths_95 (by decide) ?_
          refine X_dl [some (.ref h), some (.int (nI n)), some (.int (nI a)), some (.int (nI b)), some (.int (nI p)), some (.int (nI (i + 1))), none, none] (by simp [lle, lset, nI_succ]) ?_
          refine X_iload hB dX12_forgetsPaths_17 rfl ?_
          refine X_aload_n (i := 0) hB dX12_forgetsPaths_19 rfl rfl ?_
          refine X_iload_n (i := 1) hB dX12_forgetsPaths_20 rfl rfl ?_
          refine X_iload hB dX12_forgetsPaths_21 rfl ?_
          refine X_callV hB kX12_183 cw10 hR.1.1 hR.1.2 (c_pathMany hR (by exact hF.of rfl) hn (by omega)) (by decide) (by decide) rfl rfl (Nat.le_of_ble_eq_true rfl) dX12_forgetsPaths_23 (fun r23 S23 q23 => ?_)
          obtain ⟨rfl, rfl⟩ := q23
          refine X_topi (y := nI i) (by rw [rowI_at, show 89 + 86 * n + 15 + 9 * p = 89 + 86 * n + (15 + 9 * p) by omega, upd_at]) ?_
          refine X_icmp_ge (tgt := 98) hB dX12_forgetsPaths_26 (by decide) (fun c26 => ?_) (fun c26 => absurd c26 (by simp (disch := omega) only [nlit, nI_leI, nI_ltI]; omega))
          exact kk _ _ hch2 hcut
    · refine X_iload hB dX12_forgetsPaths_59 rfl ?_
      refine X_iload_n (i := 3) hB dX12_forgetsPaths_61 rfl rfl ?_
      refine X_icmp_eq (tgt := 77) hB dX12_forgetsPaths_62 (by decide) (fun c62 => ?_) (fun c62 => ?_)
      · have hadj : adj a b (c.getD p []) i := by
          unfold adj
          first
          | exact Or.inl ⟨i32_inj (by omega) (by omega) (by first | exact c56 | exact Decidable.not_not.mp c56), i32_inj (by omega) (by omega) (by first | exact c62 | exact Decidable.not_not.mp c62)⟩
          | exact Or.inr ⟨i32_inj (by omega) (by omega) (by first | exact c68 | exact Decidable.not_not.mp c68), i32_inj (by omega) (by omega) (by first | exact c74 | exact Decidable.not_not.mp c74)⟩
        have hcut := cacheR_cut hc hcl hlen hp (i := i) (by omega)
        rw [← cutAt_at _ i h2 (by omega) hadj h3] at hcut
        have hch2 : chC (S.1 (h + 1)) (upd A1 (89 + 86 * n + (15 + 9 * p)) (nI i)) n := fun x g1 g2 => by rw [upd_ne _ _ (by omega)]; exact hch x g1 g2
        refine X_aload_n (i := 0) hB dX12_forgetsPaths_77 rfl rfl ?_
        refine X_iload_n (i := 1) hB dX12_forgetsPaths_78 rfl rfl ?_
        refine X_bipush (v := 15) hB dX12_forgetsPaths_79 (by decide) ?_
        refine X_bipush (v := 9) hB dX12_forgetsPaths_81 (by decide) ?_
        refine X_iload hB dX12_forgetsPaths_83 rfl ?_
        refine X_imul hB dX12_forgetsPaths_85 ?_
        refine X_iadd hB dX12_forgetsPaths_86 ?_
        refine X_iload hB dX12_forgetsPaths_87 rfl ?_
        refine X_callV hB kX12_170 cw10 hR.1.1 hR.1.2 (c_layE (w := 15 + 9 * p) hR (by exact hF.of rfl) rfl (by first | rfl | (simp (disch := omega) only [nlit, nI_add, nI_mul, nI_sub]; done) | (simp (disch := omega) only [nlit, nI_add, nI_mul, nI_sub]; congr 1; omega)) (by omega) (by omega)) (by decide) (by decide) rfl rfl (Nat.le_of_ble_eq_true rfl) dX12_forgetsPaths_89 (fun r89 S89 q89 => ?_)
        obtain ⟨rfl, rfl⟩ := q89
        rw [setI_rowI, rowI_rowI, rowI_at]
        refine X_iinc hB dX12_forgetsPaths_92 rfl rfl (by decide) rfl ?_
        refine X_goto (tgt := 17) hB dX12_forgetsPaths_95 (by decide) ?_
        refine X_dl [some (.ref h), some (.int (nI n)), some (.int (nI a)), some (.int (nI b)), some (.int (nI p)), some (.int (nI (i + 1))), none, none] (by simp [lle, lset, nI_succ]) ?_
        refine X_iload hB dX12_forgetsPaths_17 rfl ?_
        refine X_aload_n (i := 0) hB dX12_forgetsPaths_19 rfl rfl ?_
        refine X_iload_n (i := 1) hB dX12_forgetsPaths_20 rfl rfl ?_
        refine X_iload hB dX12_forgetsPaths_21 rfl ?_
        refine X_callV hB kX12_183 cw10 hR.1.1 hR.1.2 (c_pathMany hR (by exact hF.of rfl) hn (by omega)) (by decide) (by decide) rfl rfl (Nat.le_of_ble_eq_true rfl) dX12_forgetsPaths_23 (fun r23 S23 q23 => ?_)
        obtain ⟨rfl, rfl⟩ := q23
        refine X_topi (y := nI i) (by rw [rowI_at, show 89 + 86 * n + 15 + 9 * p = 89 + 86 * n + (15 + 9 * p) by omega, upd_at]) ?_
        refine X_icmp_ge (tgt := 98) hB dX12_forgetsPaths_26 (by decide) (fun c26 => ?_) (fun c26 => absurd c26 (by simp (disch := omega) only [nlit, nI_leI, nI_ltI]; omega))
        exact kk _ _ hch2 hcut
      · refine X_iload hB dX12_forgetsPaths_65 rfl ?_
        refine X_iload_n (i := 3) hB dX12_forgetsPaths_67 rfl rfl ?_
        refine X_icmp_ne (tgt := 92) hB dX12_forgetsPaths_68 (by decide) (fun c68 => ?_) (fun c68 => ?_)
        · refine X_iinc hB dX12_forgetsPaths_92 rfl rfl (by decide) rfl ?_
          refine X_goto (tgt := 17) hB dX12_forgetsPaths_95 (by decide) ?_
          refine X_dl [some (.ref h), some (.int (nI n)), some (.int (nI a)), some (.int (nI b)), some (.int (nI p)), some (.int (nI (i + 1))), none, none] (by simp [lle, lset, nI_succ]) (ih (i + 1) (by omega) (by omega) (fun j g1 g2 => ?_))
          rcases Nat.lt_succ_iff_lt_or_eq.mp g2 with g2 | g2
          · exact h3 j g1 g2
          · subst g2
            unfold adj
            intro hq
            rcases hq with ⟨q1, q2⟩ | ⟨q1, q2⟩
            · first
              | exact c56 (by rw [q1])
              | exact c62 (by rw [q2])
            · first
              | exact c68 (by rw [q1])
              | exact c74 (by rw [q2])
        · refine X_iload hB dX12_forgetsPaths_71 rfl ?_
          refine X_iload_n (i := 2) hB dX12_forgetsPaths_73 rfl rfl ?_
          refine X_icmp_ne (tgt := 92) hB dX12_forgetsPaths_74 (by decide) (fun c74 => ?_) (fun c74 => ?_)
          · refine X_iinc hB dX12_forgetsPaths_92 rfl rfl (by decide) rfl ?_
            refine X_goto (tgt := 17) hB dX12_forgetsPaths_95 (by decide) ?_
            refine X_dl [some (.ref h), some (.int (nI n)), some (.int (nI a)), some (.int (nI b)), some (.int (nI p)), some (.int (nI (i + 1))), none, none] (by simp [lle, lset, nI_succ]) (ih (i + 1) (by omega) (by omega) (fun j g1 g2 => ?_))
            rcases Nat.lt_succ_iff_lt_or_eq.mp g2 with g2 | g2
            · exact h3 j g1 g2
            · subst g2
              unfold adj
              intro hq
              rcases hq with ⟨q1, q2⟩ | ⟨q1, q2⟩
              · first
                | exact c56 (by rw [q1])
                | exact c62 (by rw [q2])
              · first
                | exact c68 (by rw [q1])
                | exact c74 (by rw [q2])
          · have hadj : adj a b (c.getD p []) i := by
              unfold adj
              first
              | exact Or.inl ⟨i32_inj (by omega) (by omega) (by first | exact c56 | exact Decidable.not_not.mp c56), i32_inj (by omega) (by omega) (by first | exact c62 | exact Decidable.not_not.mp c62)⟩
              | exact Or.inr ⟨i32_inj (by omega) (by omega) (by first | exact c68 | exact Decidable.not_not.mp c68), i32_inj (by omega) (by omega) (by first | exact c74 | exact Decidable.not_not.mp c74)⟩
            have hcut := cacheR_cut hc hcl hlen hp (i := i) (by omega)
            rw [← cutAt_at _ i h2 (by omega) hadj h3] at hcut
            have hch2 : chC (S.1 (h + 1)) (upd A1 (89 + 86 * n + (15 + 9 * p)) (nI i)) n := fun x g1 g2 => by rw [upd_ne _ _ (by omega)]; exact hch x g1 g2
            refine X_aload_n (i := 0) hB dX12_forgetsPaths_77 rfl rfl ?_
            refine X_iload_n (i := 1) hB dX12_forgetsPaths_78 rfl rfl ?_
            refine X_bipush (v := 15) hB dX12_forgetsPaths_79 (by decide) ?_
            refine X_bipush (v := 9) hB dX12_forgetsPaths_81 (by decide) ?_
            refine X_iload hB dX12_forgetsPaths_83 rfl ?_
            refine X_imul hB dX12_forgetsPaths_85 ?_
            refine X_iadd hB dX12_forgetsPaths_86 ?_
            refine X_iload hB dX12_forgetsPaths_87 rfl ?_
            refine X_callV hB kX12_170 cw10 hR.1.1 hR.1.2 (c_layE (w := 15 + 9 * p) hR (by exact hF.of rfl) rfl (by first | rfl | (simp (disch := omega) only [nlit, nI_add, nI_mul, nI_sub]; done) | (simp (disch := omega) only [nlit, nI_add, nI_mul, nI_sub]; congr 1; omega)) (by omega) (by omega)) (by decide) (by decide) rfl rfl (Nat.le_of_ble_eq_true rfl) dX12_forgetsPaths_89 (fun r89 S89 q89 => ?_)
            obtain ⟨rfl, rfl⟩ := q89
            rw [setI_rowI, rowI_rowI, rowI_at]
            refine X_iinc hB dX12_forgetsPaths_92 rfl rfl (by decide) rfl ?_
            refine X_goto (tgt := 17) hB dX12_forgetsPaths_95 (by decide) ?_
            refine X_dl [some (.ref h), some (.int (nI n)), some (.int (nI a)), some (.int (nI b)), some (.int (nI p)), some (.int (nI (i + 1))), none, none] (by simp [lle, lset, nI_succ]) ?_
            refine X_iload hB dX12_forgetsPaths_17 rfl ?_
            refine X_aload_n (i := 0) hB dX12_forgetsPaths_19 rfl rfl ?_
            refine X_iload_n (i := 1) hB dX12_forgetsPaths_20 rfl rfl ?_
            refine X_iload hB dX12_forgetsPaths_21 rfl ?_
            refine X_callV hB kX12_183 cw10 hR.1.1 hR.1.2 (c_pathMany hR (by exact hF.of rfl) hn (by omega)) (by decide) (by decide) rfl rfl (Nat.le_of_ble_eq_true rfl) dX12_forgetsPaths_23 (fun r23 S23 q23 => ?_)
            obtain ⟨rfl, rfl⟩ := q23
            refine X_topi (y := nI i) (by rw [rowI_at, show 89 + 86 * n + 15 + 9 * p = 89 + 86 * n + (15 + 9 * p) by omega, upd_at]) ?_
            refine X_icmp_ge (tgt := 98) hB dX12_forgetsPaths_26 (by decide) (fun c26 => ?_) (fun c26 => absurd c26 (by simp (disch := omega) only [nlit, nI_leI, nI_ltI]; omega))
            exact kk _ _ hch2 hcut
set_option maxRecDepth 100000 in
set_option maxHeartbeats 4000000 in
theorem l_forP2 (hR : RLay G h) (hF : RRef S h) {E : Ev} (hB : Bd G E mX12_forgetsPaths) {Q : Option Value → St → Prop} (n a b : Nat) (hn : n < 8) (ha : a < 8) (hb : b < 8) (c : List (List Nat)) (hcl : ∀ e ∈ c, e.length ≤ 8) (hc2 : ∀ e ∈ c, 2 ≤ e.length) (hcx : ∀ e ∈ c, ∀ x ∈ e, x < 8) (hlen : c.length ≤ 6)
    (kk : ∀ (A2 : Nat → Int32), chC (S.1 (h + 1)) A2 n → cacheR A2 n false (c.map (cutAt a b)) → X G E mX12_forgetsPaths 4 Q (rowI S (h + 1) A2) 104 [some (.ref h), some (.int (nI n)), some (.int (nI a)), some (.int (nI b)), none, none, none, none] []) :
    ∀ (k p : Nat) (A1 : Nat → Int32), p + k = c.length → cacheR A1 n false (mixc a b c p) → chC (S.1 (h + 1)) A1 n → X G E mX12_forgetsPaths 4 Q (rowI S (h + 1) A1) 3 [some (.ref h), some (.int (nI n)), some (.int (nI a)), some (.int (nI b)), some (.int (nI p)), none, none, none] [] := by
  intro k
  induction k with
  | zero =>
    intro p A1 h1 hc hch
    refine X_iload hB dX12_forgetsPaths_3 rfl ?_
    refine X_aload_n (i := 0) hB dX12_forgetsPaths_5 rfl rfl ?_
    refine X_iload_n (i := 1) hB dX12_forgetsPaths_6 rfl rfl ?_
    refine X_iconst (v := 2) hB dX12_forgetsPaths_7 (by decide) ?_
    refine X_callV hB kX12_180 cw10 hR.1.1 hR.1.2 (c_ofE (w := 2) hR (by exact hF.of rfl) rfl (by first | rfl | (simp (disch := omega) only [nlit, nI_add, nI_mul, nI_sub]; done) | (simp (disch := omega) only [nlit, nI_add, nI_mul, nI_sub]; congr 1; omega)) (by omega) (by omega)) (by decide) (by decide) rfl rfl (Nat.le_of_ble_eq_true rfl) dX12_forgetsPaths_8 (fun r8 S8 q8 => ?_)
    obtain ⟨rfl, rfl⟩ := q8
    refine X_topi (y := nI c.length) (by rw [rowI_at, hc.1, mixc_len]) ?_
    refine X_icmp_ge (tgt := 104) hB dX12_forgetsPaths_11 (by decide) (fun c11 => ?_) (fun c11 => absurd c11 (by simp (disch := omega) only [nlit, nI_leI, nI_ltI]; omega))
    refine X_dl [some (.ref h), some (.int (nI n)), some (.int (nI a)), some (.int (nI b)), none, none, none, none] (by simp [lle, lset]) (kk A1 hch ?_)
    have e9 : p = c.length := by omega
    subst e9
    rw [← mixc_all]
    exact hc
  | succ k ih =>
    intro p A1 h1 hc hch
    have hp : p < c.length := by omega
    have hml : ∀ e ∈ mixc a b c p, e.length ≤ 8 := fun e he => by
      obtain ⟨x, hx, hpx⟩ := mixc_mem he
      exact Nat.le_trans hpx.length_le (hcl x hx)
    have hmx : ∀ e ∈ mixc a b c p, ∀ x ∈ e, x < 8 := fun e he y hy => by
      obtain ⟨x, hx, hpx⟩ := mixc_mem he
      exact hcx x hx y (hpx.subset hy)
    have h2e := hc2 _ (getD_mem (d := []) hp)
    refine X_iload hB dX12_forgetsPaths_3 rfl ?_
    refine X_aload_n (i := 0) hB dX12_forgetsPaths_5 rfl rfl ?_
    refine X_iload_n (i := 1) hB dX12_forgetsPaths_6 rfl rfl ?_
    refine X_iconst (v := 2) hB dX12_forgetsPaths_7 (by decide) ?_
    refine X_callV hB kX12_180 cw10 hR.1.1 hR.1.2 (c_ofE (w := 2) hR (by exact hF.of rfl) rfl (by first | rfl | (simp (disch := omega) only [nlit, nI_add, nI_mul, nI_sub]; done) | (simp (disch := omega) only [nlit, nI_add, nI_mul, nI_sub]; congr 1; omega)) (by omega) (by omega)) (by decide) (by decide) rfl rfl (Nat.le_of_ble_eq_true rfl) dX12_forgetsPaths_8 (fun r8 S8 q8 => ?_)
    obtain ⟨rfl, rfl⟩ := q8
    refine X_topi (y := nI c.length) (by rw [rowI_at, hc.1, mixc_len]) ?_
    refine X_icmp_ge (tgt := 104) hB dX12_forgetsPaths_11 (by decide) (fun c11 => absurd c11 (by simp (disch := omega) only [nlit, nI_leI, nI_ltI]; omega)) (fun c11 => ?_)
    refine X_iconst (v := 1) hB dX12_forgetsPaths_14 (by decide) ?_
    refine X_istore hB dX12_forgetsPaths_15 (by decide) rfl ?_
    refine l_forP1 hR hF hB n a b hn ha hb p A1 (mixc a b c p) hml hmx (by rw [mixc_len]; exact hlen) (by rw [mixc_len]; exact hp) hc hch (fun A2 v9 hch2 hc2 => ?_) ((c.getD p []).length - 1) 1 (by rw [mixc_at hp]; omega) (by omega) (fun j g1 g2 => by omega)
    rw [mixc_at hp, mixc_set hp] at hc2
    refine X_iinc hB dX12_forgetsPaths_98 rfl rfl (by decide) rfl ?_
    refine X_goto (tgt := 3) hB dX12_forgetsPaths_101 (by decide) ?_
    refine X_dl [some (.ref h), some (.int (nI n)), some (.int (nI a)), some (.int (nI b)), some (.int (nI (p + 1))), none, none, none] (by simp [lle, lset, nI_succ]) (ih (p + 1) A2 (by omega) hc2 hch2)
set_option maxRecDepth 100000 in
set_option maxHeartbeats 4000000 in
theorem l_forP3 (hR : RLay G h) (hF : RRef S h) {E : Ev} (hB : Bd G E mX12_forgetsPaths) {Q : Option Value → St → Prop} (n a b : Nat) (hn : n < 8) (ha : a < 8) (hb : b < 8) (fin : List (List Nat))
    (kk : ∀ S2 : St, fr h [h + 1, h + 7] [20] S S2 → chC (S.1 (h + 1)) (S2.1 (h + 1)) n → cacheR (S2.1 (h + 1)) n false fin → Q none S2) :
    ∀ (rest acc : List (List Nat)) (S1 : St), fr h [h + 1, h + 7] [20] S S1 → chC (S.1 (h + 1)) (S1.1 (h + 1)) n → cacheR (S1.1 (h + 1)) n false (acc ++ rest) → (∀ e ∈ acc ++ rest, e.length ≤ 8) → (∀ e ∈ acc ++ rest, ∀ x ∈ e, x < 8) → (acc ++ rest).length ≤ 6 → keepL acc rest = fin → X G E mX12_forgetsPaths 4 Q S1 107 [some (.ref h), some (.int (nI n)), some (.int (nI a)), some (.int (nI b)), some (.int (nI acc.length)), none, none, none] [] := by
  intro rest
  induction rest with
  | nil =>
    intro acc S1 hfr hch hc hl hx hlen hfin
    have hF1 := hfr.ref hF
    rw [List.append_nil] at hc hlen
    refine X_iload hB dX12_forgetsPaths_107 rfl ?_
    refine X_aload_n (i := 0) hB dX12_forgetsPaths_109 rfl rfl ?_
    refine X_iload_n (i := 1) hB dX12_forgetsPaths_110 rfl rfl ?_
    refine X_iconst (v := 2) hB dX12_forgetsPaths_111 (by decide) ?_
    refine X_callV hB kX12_180 cw10 hR.1.1 hR.1.2 (c_ofE (w := 2) hR hF1 rfl (by first | rfl | (simp (disch := omega) only [nlit, nI_add, nI_mul, nI_sub]; done) | (simp (disch := omega) only [nlit, nI_add, nI_mul, nI_sub]; congr 1; omega)) (by omega) (by omega)) (by decide) (by decide) rfl rfl (Nat.le_of_ble_eq_true rfl) dX12_forgetsPaths_112 (fun r112 S112 q112 => ?_)
    obtain ⟨rfl, rfl⟩ := q112
    refine X_topi (y := nI acc.length) (hc.1) ?_
    refine X_icmp_ge (tgt := 146) hB dX12_forgetsPaths_115 (by decide) (fun c115 => ?_) (fun c115 => absurd c115 (by simp (disch := omega) only [nlit, nI_leI, nI_ltI]; omega))
    refine X_vret hB rfl dX12_forgetsPaths_146 ?_
    exact kk S1 hfr hch (hfin ▸ hc)
  | cons e rest ih =>
    intro acc S1 hfr hch hc hl hx hlen hfin
    have hF1 := hfr.ref hF
    have hal : (acc ++ e :: rest).length = acc.length + rest.length + 1 := by simp; omega
    have hpe : (acc ++ e :: rest).getD acc.length [] = e := by simp
    have hpt : (acc ++ e :: rest).take acc.length = acc := by simp
    rw [hal] at hlen
    refine X_iload hB dX12_forgetsPaths_107 rfl ?_
    refine X_aload_n (i := 0) hB dX12_forgetsPaths_109 rfl rfl ?_
    refine X_iload_n (i := 1) hB dX12_forgetsPaths_110 rfl rfl ?_
    refine X_iconst (v := 2) hB dX12_forgetsPaths_111 (by decide) ?_
    refine X_callV hB kX12_180 cw10 hR.1.1 hR.1.2 (c_ofE (w := 2) hR hF1 rfl (by first | rfl | (simp (disch := omega) only [nlit, nI_add, nI_mul, nI_sub]; done) | (simp (disch := omega) only [nlit, nI_add, nI_mul, nI_sub]; congr 1; omega)) (by omega) (by omega)) (by decide) (by decide) rfl rfl (Nat.le_of_ble_eq_true rfl) dX12_forgetsPaths_112 (fun r112 S112 q112 => ?_)
    obtain ⟨rfl, rfl⟩ := q112
    refine X_topi (y := nI (acc.length + rest.length + 1)) (by rw [hc.1, hal]) ?_
    refine X_icmp_ge (tgt := 146) hB dX12_forgetsPaths_115 (by decide) (fun c115 => absurd c115 (by simp (disch := omega) only [nlit, nI_leI, nI_ltI]; omega)) (fun c115 => ?_)
    refine X_aload_n (i := 0) hB dX12_forgetsPaths_118 rfl rfl ?_
    refine X_iload_n (i := 1) hB dX12_forgetsPaths_119 rfl rfl ?_
    refine X_iload hB dX12_forgetsPaths_120 rfl ?_
    refine X_callV hB kX12_212 cw10 hR.1.1 hR.1.2 (c_isVain hR hF1 n acc.length hn (acc ++ e :: rest) hl hx (by omega) (by omega) hc) (by decide) (by decide) rfl rfl (Nat.le_of_ble_eq_true rfl) dX12_forgetsPaths_122 (fun r122 S122 q122 => ?_)
    obtain ⟨rfl, hfr2⟩ := q122
    rw [hpe, hpt]
    have hA2 : S122.1 (h + 1) = S1.1 (h + 1) := hfr2.2.1 _ (by simp) (by omega)
    have hfr3 := hfr.tr (hfr2.mono (by simp) (by simp))
    have hF2 := hfr3.ref hF
    refine X_if_eq (tgt := 140) hB dX12_forgetsPaths_125 (by decide) (fun c125 => ?_) (fun c125 => ?_)
    · have hv : ¬ (e.length < 2 ∨ e ∈ acc) := fun q9 => absurd c125 (by rw [if_pos q9]; decide)
      refine X_iinc hB dX12_forgetsPaths_140 rfl rfl (by decide) rfl ?_
      refine X_goto (tgt := 107) hB dX12_forgetsPaths_143 (by decide) ?_
      refine X_lv (lv' := [some (.ref h), some (.int (nI n)), some (.int (nI a)), some (.int (nI b)), some (.int (nI (acc ++ [e]).length)), none, none, none]) ?_ (ih (acc ++ [e]) _ hfr3 (by rw [hA2]; exact hch) (by rw [hA2]; simpa using hc) (by simpa using hl) (by simpa using hx) (by simp; omega) (by rw [← hfin, keepL_new hv]))
      rw [List.length_append]
      show [_, _, _, _, some (Value.int (nI acc.length + 1)), _, _, _] = _
      rw [nI_1]
      rfl
    · have hv : e.length < 2 ∨ e ∈ acc := Decidable.byContradiction fun q9 => absurd (by rw [if_neg q9]) c125
      have hd := cacheR_drop (mp := false) (p := acc.length) (by rw [hA2]; exact hc : cacheR (S122.1 (h + 1)) n false (acc ++ e :: rest)) hl (by omega) (by rw [hal]; simp only [wdt, Bool.false_eq_true, if_false]; omega)
      rw [hal] at hd
      rw [show (acc ++ e :: rest).eraseIdx acc.length = acc ++ rest by rw [List.eraseIdx_append_of_length_le (Nat.le_refl _), Nat.sub_self]; rfl] at hd
      have hdc : chC (S122.1 (h + 1)) _ n := chC_drop (A := S122.1 (h + 1)) (n := n) (p := acc.length) (m := acc.length + rest.length + 1) (w := 9) (v := nI (acc.length + rest.length + 1 - 1)) (by omega)
      rw [hA2] at hdc
      refine X_aload_n (i := 0) hB dX12_forgetsPaths_128 rfl rfl ?_
      refine X_iload_n (i := 1) hB dX12_forgetsPaths_129 rfl rfl ?_
      refine X_iload hB dX12_forgetsPaths_130 rfl ?_
      refine X_bipush (v := 9) hB dX12_forgetsPaths_132 (by decide) ?_
      refine X_callV hB kX12_196 cw10 hR.1.1 hR.1.2 (c_dropsKept9 hR hF2 n acc.length (acc.length + rest.length + 1) hn (by omega) (by omega) (by rw [hA2, hc.1, hal])) (by decide) (by decide) rfl rfl (Nat.le_of_ble_eq_true rfl) dX12_forgetsPaths_134 (fun r134 S134 q134 => ?_)
      obtain ⟨rfl, rfl⟩ := q134
      refine X_goto (tgt := 107) hB dX12_forgetsPaths_137 (by decide) ?_
      refine ih acc _ (hfr3.tr (fr.row (by simp) (by omega))) ?_ ?_ (fun x hx9 => hl x (by simp at hx9 ⊢; rcases hx9 with q | q <;> simp [q])) (fun x hx9 => hx x (by simp at hx9 ⊢; rcases hx9 with q | q <;> simp [q])) (by rw [List.length_append]; omega) (by rw [← hfin, keepL_vain hv])
      · rw [rowI_at, hA2]; exact hch.tr hdc
      · rw [rowI_at]; exact hd
theorem fp_bound {a b : Nat} {c : List (List Nat)} (h1 : ∀ e ∈ c, e.length ≤ 8) (h2 : ∀ e ∈ c, ∀ x ∈ e, x < 8) : (∀ e ∈ c.map (cutAt a b), e.length ≤ 8) ∧ ∀ e ∈ c.map (cutAt a b), ∀ x ∈ e, x < 8 := by
  refine ⟨fun e he => ?_, fun e he y hy => ?_⟩
  · obtain ⟨x, hx, rfl⟩ := List.mem_map.mp he
    exact Nat.le_trans (cutAt_pre x).length_le (h1 x hx)
  · obtain ⟨x, hx, rfl⟩ := List.mem_map.mp he
    exact h2 x hx y ((cutAt_pre x).subset hy)
set_option maxRecDepth 100000 in
set_option maxHeartbeats 4000000 in
theorem c_forgetsPaths (hR : RLay G h) (hF : RRef S h) (n a b : Nat) (hn : n < 8) (ha : a < 8) (hb : b < 8) (c : List (List Nat)) (hcl : ∀ e ∈ c, e.length ≤ 8) (hc2 : ∀ e ∈ c, 2 ≤ e.length) (hcx : ∀ e ∈ c, ∀ x ∈ e, x < 8) (hlen : c.length ≤ 6) (hc : cacheR (S.1 (h + 1)) n false c) : C G mX12_forgetsPaths 4 [.ref h, .int (nI n), .int (nI a), .int (nI b)] S (fun r S' => r = none ∧ fr h [h + 1, h + 7] [20] S S' ∧ chC (S.1 (h + 1)) (S'.1 (h + 1)) n ∧ cacheR (S'.1 (h + 1)) n false (forgetL false a b c)) := by
  refine C.mk (lv := [some (.ref h), some (.int (nI n)), some (.int (nI a)), some (.int (nI b)), none, none, none, none]) (by decide) (Nat.le_of_ble_eq_true rfl) rfl (fun E hB => ?_)
  refine X_iconst (v := 0) hB dX12_forgetsPaths_0 (by decide) ?_
  refine X_istore hB dX12_forgetsPaths_1 (by decide) rfl ?_
  refine X_S (S' := rowI S (h + 1) (S.1 (h + 1))) (by rw [rowI_self]) (l_forP2 hR hF hB n a b hn ha hb c hcl hc2 hcx hlen (fun A2 hch2 hc3 => ?_) c.length 0 (S.1 (h + 1)) (by omega) (by rw [mixc_0]; exact hc) chC.rf)
  refine X_iconst (v := 0) hB dX12_forgetsPaths_104 (by decide) ?_
  refine X_istore hB dX12_forgetsPaths_105 (by decide) rfl ?_
  exact l_forP3 hR hF hB n a b hn ha hb (forgetL false a b c) (fun S9 g1 g2 g3 => ⟨rfl, g1, g2, g3⟩) (c.map (cutAt a b)) [] _ (fr.row (by simp) (by omega)) (by rw [rowI_at]; exact hch2) (by rw [rowI_at]; exact hc3) (fp_bound hcl hcx).1 (fp_bound hcl hcx).2 (by simpa using hlen) rfl
set_option maxRecDepth 100000 in
set_option maxHeartbeats 4000000 in
theorem c_forgets (hR : RLay G h) (hF : RRef S h) (n a b : Nat) (hn : n < 8) (ha : a < 8) (hb : b < 8) (mp : Bool) (room : Nat) (c : List (List Nat)) (hok : okC mp room c) (hc : cacheR (S.1 (h + 1)) n mp c) (hmp : S.1 (h + 1) (89 + 86 * n + 0) = if mp then 1 else 0) : C G mX12_forgets 5 [.ref h, .int (nI n), .int (nI a), .int (nI b)] S (fun r S' => r = none ∧ fr h [h + 1, h + 7] [20] S S' ∧ chC (S.1 (h + 1)) (S'.1 (h + 1)) n ∧ cacheR (S'.1 (h + 1)) n mp (forgetL mp a b c)) := by
  refine C.mk (lv := [some (.ref h), some (.int (nI n)), some (.int (nI a)), some (.int (nI b)), none]) (by decide) (Nat.le_of_ble_eq_true rfl) rfl (fun E hB => ?_)
  refine X_aload_n (i := 0) hB dX12_forgets_0 rfl rfl ?_
  refine X_iload_n (i := 1) hB dX12_forgets_1 rfl rfl ?_
  refine X_iconst (v := 0) hB dX12_forgets_2 (by decide) ?_
  refine X_callV hB kX12_180 cw10 hR.1.1 hR.1.2 (c_ofE (w := 0) hR (by exact hF.of rfl) rfl (by first | rfl | (simp (disch := omega) only [nlit, nI_add, nI_mul, nI_sub]; done) | (simp (disch := omega) only [nlit, nI_add, nI_mul, nI_sub]; congr 1; omega)) (by omega) (by omega)) (by decide) (by decide) rfl rfl (Nat.le_of_ble_eq_true rfl) dX12_forgets_3 (fun r3 S3 q3 => ?_)
  obtain ⟨rfl, rfl⟩ := q3
  refine X_topi (y := if mp then 1 else 0) (hmp) ?_
  refine X_if_ne (tgt := 17) hB dX12_forgets_6 (by decide) (fun c6 => ?_) (fun c6 => ?_)
  · cases mp with
    | false => exact absurd rfl c6
    | true =>
      have hlen : c.length ≤ 18 := by have := hok.2.1; have := hok.2.2.2.1; simp at *; omega
      refine X_aload_n (i := 0) hB dX12_forgets_17 rfl rfl ?_
      refine X_iload_n (i := 1) hB dX12_forgets_18 rfl rfl ?_
      refine X_iload_n (i := 2) hB dX12_forgets_19 rfl rfl ?_
      refine X_iload_n (i := 3) hB dX12_forgets_20 rfl rfl ?_
      refine X_callV hB kX12_202 cw10 hR.1.1 hR.1.2 (c_linkKept hR (by exact hF.of rfl) n a b hn ha hb c hok.1 (by omega) hc) (by decide) (by decide) rfl rfl (Nat.le_of_ble_eq_true rfl) dX12_forgets_21 (fun r21 S21 q21 => ?_)
      obtain ⟨rfl, rfl⟩ := q21
      refine X_istore hB dX12_forgets_24 (by decide) rfl ?_
      refine X_iload hB dX12_forgets_26 rfl ?_
      refine X_iconst (v := (-1)) hB dX12_forgets_28 (by decide) ?_
      refine X_icmp_eq (tgt := 40) hB dX12_forgets_29 (by decide) (fun c29 => ?_) (fun c29 => ?_)
      · refine X_vret hB rfl dX12_forgets_40 ?_
        have hnin : lnk a b ∉ c := (lkI_m1 (by omega)).mp c29
        refine ⟨rfl, fr.rf, chC.rf, ?_⟩
        unfold forgetL
        rw [if_pos rfl, List.erase_of_not_mem hnin]
        exact hc
      · have hin : lnk a b ∈ c := Decidable.byContradiction fun h9 => c29 ((lkI_m1 (by omega)).mpr h9)
        have hix := idxOf_get hin
        rw [show lkI c (lnk a b) = nI (c.idxOf (lnk a b)) from if_pos hin]
        refine X_aload_n (i := 0) hB dX12_forgets_32 rfl rfl ?_
        refine X_iload_n (i := 1) hB dX12_forgets_33 rfl rfl ?_
        refine X_iload hB dX12_forgets_34 rfl ?_
        refine X_iconst (v := 2) hB dX12_forgets_36 (by decide) ?_
        refine X_callV hB kX12_196 cw10 hR.1.1 hR.1.2 (c_dropsKept2 hR (by exact hF.of rfl) n (c.idxOf (lnk a b)) c.length hn (by omega) hix.1 hc.1) (by decide) (by decide) rfl rfl (Nat.le_of_ble_eq_true rfl) dX12_forgets_37 (fun r37 S37 q37 => ?_)
        obtain ⟨rfl, rfl⟩ := q37
        refine X_vret hB rfl dX12_forgets_40 ?_
        refine ⟨rfl, fr.row (by simp) (by omega), ?_, ?_⟩
        · rw [rowI_at]; exact chC_drop (by omega)
        · rw [rowI_at]
          have hd := cacheR_drop (mp := true) hc hok.len hix.1 hok.w
          unfold forgetL
          rw [if_pos rfl, erase_at hin]
          exact hd
  · cases mp with
    | true => exact absurd c6 (by decide)
    | false =>
      have hlen : c.length ≤ 6 := by have := hok.2.1; have := hok.2.2.2.1; simp at *; omega
      refine X_aload_n (i := 0) hB dX12_forgets_9 rfl rfl ?_
      refine X_iload_n (i := 1) hB dX12_forgets_10 rfl rfl ?_
      refine X_iload_n (i := 2) hB dX12_forgets_11 rfl rfl ?_
      refine X_iload_n (i := 3) hB dX12_forgets_12 rfl rfl ?_
      refine X_callV hB kX12_215 cw10 hR.1.1 hR.1.2 (c_forgetsPaths hR (by exact hF.of rfl) n a b hn ha hb c hok.len (fun e he => (hok.1 e he).2.1) (fun e he => (hok.1 e he).2.2.1) hlen hc) (by decide) (by decide) rfl rfl (Nat.le_of_ble_eq_true rfl) dX12_forgets_13 (fun r13 S13 q13 => ?_)
      obtain ⟨rfl, g1, g2, g3⟩ := q13
      refine X_vret hB rfl dX12_forgets_16 ?_
      exact ⟨rfl, g1, g2, g3⟩
/-- a link as the answers tell it -/
def lkN (x : Option (Nat × Nat)) : Int32 := match x with
  | none => -1
  | some (a, b) => nI (10 * a + b)
def forgetO (mp : Bool) (x : Option (Nat × Nat)) (c : List (List Nat)) : List (List Nat) := match x with
  | none => c
  | some (a, b) => forgetL mp a b c
set_option maxRecDepth 100000 in
set_option maxHeartbeats 4000000 in
theorem c_forgetsLink (hR : RLay G h) (hF : RRef S h) (n : Nat) (hn : n < 8) (x : Option (Nat × Nat)) (hx : ∀ q, x = some q → q.1 < 8 ∧ q.2 < 8) (mp : Bool) (room : Nat) (c : List (List Nat)) (hok : okC mp room c) (hc : cacheR (S.1 (h + 1)) n mp c) (hmp : S.1 (h + 1) (89 + 86 * n + 0) = if mp then 1 else 0) : C G mX12_forgetsLink 6 [.ref h, .int (nI n), .int (lkN x)] S (fun r S' => r = none ∧ fr h [h + 1, h + 7] [20] S S' ∧ chC (S.1 (h + 1)) (S'.1 (h + 1)) n ∧ cacheR (S'.1 (h + 1)) n mp (forgetO mp x c)) := by
  refine C.mk (lv := [some (.ref h), some (.int (nI n)), some (.int (lkN x))]) (by decide) (Nat.le_of_ble_eq_true rfl) rfl (fun E hB => ?_)
  refine X_iload_n (i := 2) hB dX12_forgetsLink_0 rfl rfl ?_
  refine X_iconst (v := (-1)) hB dX12_forgetsLink_1 (by decide) ?_
  refine X_icmp_eq (tgt := 18) hB dX12_forgetsLink_2 (by decide) (fun c2 => ?_) (fun c2 => ?_)
  · refine X_vret hB rfl dX12_forgetsLink_18 ?_
    cases x with
    | none => exact ⟨rfl, fr.rf, chC.rf, hc⟩
    | some q =>
      obtain ⟨a, b⟩ := q
      have hab := hx _ rfl
      exact absurd c2 (nI_neg1 (by dsimp only at hab; omega))
  · cases x with
    | none => exact absurd rfl c2
    | some q =>
      obtain ⟨a, b⟩ := q
      have hab := hx _ rfl
      dsimp only at hab
      have hdv := nI_div10 (10 * a + b) (by omega)
      refine X_aload_n (i := 0) hB dX12_forgetsLink_5 rfl rfl ?_
      refine X_iload_n (i := 1) hB dX12_forgetsLink_6 rfl rfl ?_
      refine X_iload_n (i := 2) hB dX12_forgetsLink_7 rfl rfl ?_
      refine X_bipush (v := 10) hB dX12_forgetsLink_8 (by decide) ?_
      refine X_idiv hB dX12_forgetsLink_10 (by decide) ?_
      refine X_topi (y := nI a) (hdv.1.trans (congrArg nI (by omega))) ?_
      refine X_iload_n (i := 2) hB dX12_forgetsLink_11 rfl rfl ?_
      refine X_bipush (v := 10) hB dX12_forgetsLink_12 (by decide) ?_
      refine X_irem hB dX12_forgetsLink_14 (by decide) ?_
      refine X_topi (y := nI b) (hdv.2.trans (congrArg nI (by omega))) ?_
      refine X_callV hB kX12_218 cw10 hR.1.1 hR.1.2 (c_forgets hR (by exact hF.of rfl) n a b hn hab.1 hab.2 mp room c hok hc hmp) (by decide) (by decide) rfl rfl (Nat.le_of_ble_eq_true rfl) dX12_forgetsLink_15 (fun r15 S15 q15 => ?_)
      obtain ⟨rfl, g1, g2, g3⟩ := q15
      refine X_vret hB rfl dX12_forgetsLink_18 ?_
      exact ⟨rfl, g1, g2, g3⟩
end REF
