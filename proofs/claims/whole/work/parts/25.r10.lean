section REF
variable {G : Gc} {S : St} {h : Nat}
def nxOk (f : Nat → Nat → Bool) (to at_ d j : Nat) (nx : Int32) : Prop := (nx = -1 ∧ ∀ y, j ≤ y → y < 8 → ¬ (f at_ y = true ∧ dst f to y = d)) ∨ ∃ y, nx = nI y ∧ j ≤ y ∧ y < 8 ∧ (f at_ y = true ∧ dst f to y = d) ∧ ∀ z, j ≤ z → z < y → ¬ (f at_ z = true ∧ dst f to z = d)
theorem nx_end {f : Nat → Nat → Bool} {to at_ d : Nat} {nx : Int32} (h : nxOk f to at_ d 0 nx) (hd : dst f to at_ = d + 1) (hd8 : d + 1 < 8) : nx = nI (nxt f to at_ d) := by
  obtain ⟨g1, g2, g3, g4⟩ := nxt_spec hd hd8
  rcases h with ⟨-, h2⟩ | ⟨y, h1, -, h3, h4, h5⟩
  · exact absurd ⟨g2, g3⟩ (h2 _ (Nat.zero_le _) g1)
  · rw [h1]
    congr 1
    refine Nat.le_antisymm (Nat.not_lt.mp fun hlt => h5 _ (Nat.zero_le _) hlt ⟨g2, g3⟩) (Nat.not_lt.mp fun hlt => g4 _ hlt h4)
set_option maxRecDepth 100000 in
set_option maxHeartbeats 4000000 in
theorem l_fM1 (hR : RLay G h) (hF : RRef S h) {E : Ev} (hB : Bd G E mX12_findsByMap) {Q : Option Value → St → Prop} (n to : Nat) (hn : n < 8) (hto : to < 8) (f : Nat → Nat → Bool) (at_ d : Nat) (hat : at_ < 8) (hd : dst f to at_ = d + 1) (hd8 : d + 1 < 8) (hK : knR (S.1 (h + 9)) f) (hFa : farR (S.1 (h + 10)) (dst f to))
    (kk : ∀ v, X G E mX12_findsByMap 3 Q S 110 [some (.ref h), some (.int (nI n)), some (.int (nI to)), some (.int (nI at_)), some (.int (nI (nxt f to at_ d))), some (.int v)] []) :
    ∀ (j : Nat) (nx : Int32), j ≤ 8 → nxOk f to at_ d j nx → X G E mX12_findsByMap 3 Q S 57 [some (.ref h), some (.int (nI n)), some (.int (nI to)), some (.int (nI at_)), some (.int nx), some (.int (nI j + -1))] [] := by
  intro j
  induction j with
  | zero =>
    intro nx h1 h2
    rw [nx_end h2 hd hd8]
    refine X_iload hB dX12_findsByMap_57 rfl ?_
    refine X_if_lt (tgt := 110) hB dX12_findsByMap_59 (by decide) (fun c59 => ?_) (fun c59 => absurd c59 (by decide))
    exact kk _
  | succ j ih =>
    intro nx h1 h2
    rw [nI_m1]
    have hkj := hK at_ j hat (by omega)
    have b1 : dst f to j ≤ 99 := by rcases dst_99 (f := f) (to := to) (x := j) with q | q <;> omega
    refine X_iload hB dX12_findsByMap_57 rfl ?_
    refine X_if_lt (tgt := 110) hB dX12_findsByMap_59 (by decide) (fun c59 => absurd c59 (nI_pos (by omega))) (fun c59 => ?_)
    refine X_aload_n (i := 0) hB dX12_findsByMap_62 rfl rfl ?_
    refine X_getr hB cw10 fX12_36 rfl hR.1.1 hR.1.2 hF.2.2.2.2.2.2.2.2.1 dX12_findsByMap_63 ?_
    refine X_bipush (v := 8) hB dX12_findsByMap_66 (by decide) ?_
    refine X_iload_n (i := 3) hB dX12_findsByMap_68 rfl rfl ?_
    refine X_imul hB dX12_findsByMap_69 ?_
    refine X_iload hB dX12_findsByMap_70 rfl ?_
    refine X_iadd hB dX12_findsByMap_72 ?_
    refine X_zaldN hB (8 * at_ + j) hR.2.2.2.2.2.2.2.2.2.1.1 hR.2.2.2.2.2.2.2.2.2.1.2 (by decide) (by first | rfl | (simp (disch := omega) only [nlit, nI_add, nI_mul, nI_sub]; done) | (simp (disch := omega) only [nlit, nI_add, nI_mul, nI_sub]; (congr 1 <;> omega))) (by first | omega | (simp only []; omega)) hkj dX12_findsByMap_73 ?_
    refine X_if_eq (tgt := 100) hB dX12_findsByMap_74 (by decide) (fun c74 => ?_) (fun c74 => ?_)
    · refine X_iload hB dX12_findsByMap_100 rfl ?_
      refine X_istore hB dX12_findsByMap_102 (by decide) rfl ?_
      refine X_iinc hB dX12_findsByMap_104 rfl rfl (by decide) rfl ?_
      refine X_goto (tgt := 57) hB dX12_findsByMap_107 (by decide) ?_
      first
      | (have hy : f at_ j = true ∧ dst f to j = d := by
           refine ⟨?_, i32_inj (by omega) (by omega) (by first | exact c92 | exact Decidable.not_not.mp c92)⟩
           cases hq : f at_ j with
           | true => rfl
           | false => rw [hq] at c74; exact absurd rfl c74
         exact ih _ (by omega) (Or.inr ⟨j, rfl, Nat.le_refl _, by omega, hy, fun z g1 g2 => by omega⟩))
      | (have hy : ¬ (f at_ j = true ∧ dst f to j = d) := by
           intro hq
           first
           | exact c92 (by rw [hq.2])
           | (rw [hq.1] at c74; exact absurd c74 (by decide))
         refine ih _ (by omega) ?_
         rcases h2 with ⟨g1, g2⟩ | ⟨y, g1, g2, g3, g4, g5⟩
         · refine Or.inl ⟨g1, fun y k1 k2 => ?_⟩
           by_cases hyj : y = j
           · rw [hyj]; exact hy
           · exact g2 y (by omega) k2
         · refine Or.inr ⟨y, g1, by omega, g3, g4, fun z k1 k2 => ?_⟩
           by_cases hzj : z = j
           · rw [hzj]; exact hy
           · exact g5 z (by omega) k2)
    · refine X_aload_n (i := 0) hB dX12_findsByMap_77 rfl rfl ?_
      refine X_getr hB cw10 fX12_39 rfl hR.1.1 hR.1.2 hF.2.2.2.2.2.2.2.2.2.1 dX12_findsByMap_78 ?_
      refine X_iload hB dX12_findsByMap_81 rfl ?_
      refine X_ialdN hB (j) hR.2.2.2.2.2.2.2.2.2.2.1.1 hR.2.2.2.2.2.2.2.2.2.2.1.2 (by decide) (by first | rfl | (simp (disch := omega) only [nlit, nI_add, nI_mul, nI_sub]; done) | (simp (disch := omega) only [nlit, nI_add, nI_mul, nI_sub]; (congr 1 <;> omega))) (by first | omega | (simp only []; omega)) (hFa j (by omega)) dX12_findsByMap_83 ?_
      refine X_aload_n (i := 0) hB dX12_findsByMap_84 rfl rfl ?_
      refine X_getr hB cw10 fX12_39 rfl hR.1.1 hR.1.2 hF.2.2.2.2.2.2.2.2.2.1 dX12_findsByMap_85 ?_
      refine X_iload_n (i := 3) hB dX12_findsByMap_88 rfl rfl ?_
      refine X_ialdN hB (at_) hR.2.2.2.2.2.2.2.2.2.2.1.1 hR.2.2.2.2.2.2.2.2.2.2.1.2 (by decide) (by first | rfl | (simp (disch := omega) only [nlit, nI_add, nI_mul, nI_sub]; done) | (simp (disch := omega) only [nlit, nI_add, nI_mul, nI_sub]; (congr 1 <;> omega))) (by first | omega | (simp only []; omega)) ((hFa at_ hat).trans (congrArg nI hd)) dX12_findsByMap_89 ?_
      refine X_iconst (v := 1) hB dX12_findsByMap_90 (by decide) ?_
      refine X_isub hB dX12_findsByMap_91 ?_
      refine X_topi (y := nI d) (by first | rfl | (simp (disch := omega) only [nlit, nI_add, nI_mul, nI_sub]; done) | (simp (disch := omega) only [nlit, nI_add, nI_mul, nI_sub]; (congr 1 <;> omega))) ?_
      refine X_icmp_ne (tgt := 100) hB dX12_findsByMap_92 (by decide) (fun c92 => ?_) (fun c92 => ?_)
      · refine X_iload hB dX12_findsByMap_100 rfl ?_
        refine X_istore hB dX12_findsByMap_102 (by decide) rfl ?_
        refine X_iinc hB dX12_findsByMap_104 rfl rfl (by decide) rfl ?_
        refine X_goto (tgt := 57) hB dX12_findsByMap_107 (by decide) ?_
        first
        | (have hy : f at_ j = true ∧ dst f to j = d := by
             refine ⟨?_, i32_inj (by omega) (by omega) (by first | exact c92 | exact Decidable.not_not.mp c92)⟩
             cases hq : f at_ j with
             | true => rfl
             | false => rw [hq] at c74; exact absurd rfl c74
           exact ih _ (by omega) (Or.inr ⟨j, rfl, Nat.le_refl _, by omega, hy, fun z g1 g2 => by omega⟩))
        | (have hy : ¬ (f at_ j = true ∧ dst f to j = d) := by
             intro hq
             first
             | exact c92 (by rw [hq.2])
             | (rw [hq.1] at c74; exact absurd c74 (by decide))
           refine ih _ (by omega) ?_
           rcases h2 with ⟨g1, g2⟩ | ⟨y, g1, g2, g3, g4, g5⟩
           · refine Or.inl ⟨g1, fun y k1 k2 => ?_⟩
             by_cases hyj : y = j
             · rw [hyj]; exact hy
             · exact g2 y (by omega) k2
           · refine Or.inr ⟨y, g1, by omega, g3, g4, fun z k1 k2 => ?_⟩
             by_cases hzj : z = j
             · rw [hzj]; exact hy
             · exact g5 z (by omega) k2)
      · refine X_iload hB dX12_findsByMap_95 rfl ?_
        refine X_goto (tgt := 102) hB dX12_findsByMap_97 (by decide) ?_
        refine X_istore hB dX12_findsByMap_102 (by decide) rfl ?_
        refine X_iinc hB dX12_findsByMap_104 rfl rfl (by decide) rfl ?_
        refine X_goto (tgt := 57) hB dX12_findsByMap_107 (by decide) ?_
        first
        | (have hy : f at_ j = true ∧ dst f to j = d := by
             refine ⟨?_, i32_inj (by omega) (by omega) (by first | exact c92 | exact Decidable.not_not.mp c92)⟩
             cases hq : f at_ j with
             | true => rfl
             | false => rw [hq] at c74; exact absurd rfl c74
           exact ih _ (by omega) (Or.inr ⟨j, rfl, Nat.le_refl _, by omega, hy, fun z g1 g2 => by omega⟩))
        | (have hy : ¬ (f at_ j = true ∧ dst f to j = d) := by
             intro hq
             first
             | exact c92 (by rw [hq.2])
             | (rw [hq.1] at c74; exact absurd c74 (by decide))
           refine ih _ (by omega) ?_
           rcases h2 with ⟨g1, g2⟩ | ⟨y, g1, g2, g3, g4, g5⟩
           · refine Or.inl ⟨g1, fun y k1 k2 => ?_⟩
             by_cases hyj : y = j
             · rw [hyj]; exact hy
             · exact g2 y (by omega) k2
           · refine Or.inr ⟨y, g1, by omega, g3, g4, fun z k1 k2 => ?_⟩
             by_cases hzj : z = j
             · rw [hzj]; exact hy
             · exact g5 z (by omega) k2)
set_option maxRecDepth 100000 in
set_option maxHeartbeats 4000000 in
theorem l_fM2 (hR : RLay G h) (hF : RRef S h) {E : Ev} (hB : Bd G E mX12_findsByMap) {Q : Option Value → St → Prop} (n to : Nat) (hn : n < 8) (hto : to < 8) (f : Nat → Nat → Bool) (hK : knR (S.1 (h + 9)) f) (hFa : farR (S.1 (h + 10)) (dst f to)) (fin : List Nat) (kk : ∀ S2, fr h [h + 8] [22] S S2 → wayR S2 h fin → Q none S2) :
    ∀ (d at_ : Nat) (w : List Nat) (S1 : St), fr h [h + 8] [22] S S1 → wayR S1 h w → dst f to at_ = d → at_ < 8 → w.length + d ≤ 8 → w ++ wlk f to d at_ = fin → X G E mX12_findsByMap 3 Q S1 45 [some (.ref h), some (.int (nI n)), some (.int (nI to)), some (.int (nI at_)), none, none] [] := by
  intro d
  induction d with
  | zero =>
    intro at_ w S1 hfr hw hd hat hlen hfin
    have e9 := dst_0.mp hd
    subst e9
    refine X_iload_n (i := 3) hB dX12_findsByMap_45 rfl rfl ?_
    refine X_iload_n (i := 2) hB dX12_findsByMap_46 rfl rfl ?_
    refine X_icmp_eq (tgt := 136) hB dX12_findsByMap_47 (by decide) (fun c47 => ?_) (fun c47 => absurd rfl c47)
    refine X_vret hB rfl dX12_findsByMap_136 ?_
    exact kk S1 hfr (by rw [← hfin, wlk, List.append_nil]; exact hw)
  | succ d ih =>
    intro at_ w S1 hfr hw hd hat hlen hfin
    have hne : at_ ≠ to := fun e9 => by rw [dst_0.mpr e9] at hd; omega
    have hF1 := hfr.ref hF
    have hd8 : d + 1 < 8 := by rcases dst_99 (f := f) (to := to) (x := at_) with q | q <;> omega
    have hnx := nxt_spec hd hd8
    have hK1 : knR (S1.1 (h + 9)) f := by rw [hfr.2.1 _ (by simp) (by omega)]; exact hK
    have hFa1 : farR (S1.1 (h + 10)) (dst f to) := by rw [hfr.2.1 _ (by simp) (by omega)]; exact hFa
    refine X_iload_n (i := 3) hB dX12_findsByMap_45 rfl rfl ?_
    refine X_iload_n (i := 2) hB dX12_findsByMap_46 rfl rfl ?_
    refine X_icmp_eq (tgt := 136) hB dX12_findsByMap_47 (by decide) (fun c47 => absurd (i32_inj (by omega) (by omega) c47) hne) (fun c47 => ?_)
    refine X_iconst (v := (-1)) hB dX12_findsByMap_50 (by decide) ?_
    refine X_istore hB dX12_findsByMap_51 (by decide) rfl ?_
    refine X_bipush (v := 7) hB dX12_findsByMap_53 (by decide) ?_
    refine X_istore hB dX12_findsByMap_55 (by decide) rfl ?_
    refine X_lv (lv' := [some (.ref h), some (.int (nI n)), some (.int (nI to)), some (.int (nI at_)), some (.int (-1)), some (.int (nI 8 + -1))]) rfl (l_fM1 hR hF1 hB n to hn hto f at_ d hat hd hd8 hK1 hFa1 (fun v9 => ?_) 8 (-1) (by omega) (Or.inl ⟨rfl, fun y k1 k2 => by omega⟩))
    refine X_iload hB dX12_findsByMap_110 rfl ?_
    refine X_istore_n (i := 3) hB dX12_findsByMap_112 rfl (by decide) rfl ?_
    refine X_aload_n (i := 0) hB dX12_findsByMap_113 rfl rfl ?_
    refine X_getr hB cw10 fX12_33 rfl hR.1.1 hR.1.2 hF1.2.2.2.2.2.2.2.1 dX12_findsByMap_114 ?_
    refine X_aload_n (i := 0) hB dX12_findsByMap_117 rfl rfl ?_
    refine X_geti hB cw10 fX12_231 rfl hR.1.1 hR.1.2 dX12_findsByMap_118 ?_
    refine X_topi (y := nI w.length) (hw.1) ?_
    refine X_iload_n (i := 3) hB dX12_findsByMap_121 rfl rfl ?_
    refine X_iastN hB (w.length) hR.2.2.2.2.2.2.2.2.1.1 hR.2.2.2.2.2.2.2.2.1.2 (by decide) (by first | rfl | (simp (disch := omega) only [nlit, nI_add, nI_mul, nI_sub]; done) | (simp (disch := omega) only [nlit, nI_add, nI_mul, nI_sub]; (congr 1 <;> omega))) (by first | omega | (simp only []; omega)) dX12_findsByMap_122 ?_
    refine X_aload_n (i := 0) hB dX12_findsByMap_123 rfl rfl ?_
    refine X_dup hB dX12_findsByMap_124 rfl ?_
    refine X_geti hB cw10 fX12_231 rfl hR.1.1 hR.1.2 dX12_findsByMap_125 ?_
    refine X_topi (y := nI w.length) (by rw [setI_ne _ _ (Or.inl (by omega))]; exact hw.1) ?_
    refine X_iconst (v := 1) hB dX12_findsByMap_128 (by decide) ?_
    refine X_iadd hB dX12_findsByMap_129 ?_
    refine X_topi (y := nI (w.length + 1)) (by first | rfl | (simp (disch := omega) only [nlit, nI_add, nI_mul, nI_sub]; done) | (simp (disch := omega) only [nlit, nI_add, nI_mul, nI_sub]; (congr 1 <;> omega))) ?_
    refine X_puti hB cw10 fX12_231 rfl rfl hR.1.1 hR.1.2 dX12_findsByMap_130 ?_
    refine X_goto (tgt := 45) hB dX12_findsByMap_133 (by decide) ?_
    refine X_dl [some (.ref h), some (.int (nI n)), some (.int (nI to)), some (.int (nI (nxt f to at_ d))), none, none] (by simp [lle, lset]) (ih (nxt f to at_ d) (w ++ [nxt f to at_ d]) _ (hfr.tr ((fr.set (by simp) (by omega)).tr (fr.fld (by simp)))) ⟨?_, fun i hi => ?_⟩ hnx.2.2.1 hnx.1 (by rw [List.length_append]; simp; omega) (by rw [← hfin, List.append_assoc]; rfl))
    · rw [setI_at, List.length_append]; rfl
    · rw [setI_ne _ _ (Or.inl (by omega))]
      rw [List.length_append] at hi
      by_cases h9 : i = w.length
      · subst h9; rw [setI_at]; simp
      · have h8 : i < w.length := by simp at hi; omega
        rw [setI_ne _ _ (Or.inr h9), hw.2 i h8]
        congr 1
        simp [List.getElem?_append_left h8]
set_option maxRecDepth 100000 in
set_option maxHeartbeats 4000000 in
theorem c_findsByMap (hR : RLay G h) (hF : RRef S h) (n to : Nat) (hn : n < 8) (hto : to < 8) (mp : Bool) (room hops : Nat) (hh : hops ≤ 7) (c : List (List Nat)) (hok : okC mp room c) (hc : cacheR (S.1 (h + 1)) n mp c) (hmp : S.1 (h + 1) (89 + 86 * n + 0) = if mp then 1 else 0) (hho : S.1 (h + 1) 1 = nI hops) : C G mX12_findsByMap 3 [.ref h, .int (nI n), .int (nI to)] S (fun r S' => r = none ∧ fr h [h + 8, h + 9, h + 10] [22] S S' ∧ wayR S' h (wayM (kn c) to hops n)) := by
  refine C.mk (lv := [some (.ref h), some (.int (nI n)), some (.int (nI to)), none, none, none]) (by decide) (Nat.le_of_ble_eq_true rfl) rfl (fun E hB => ?_)
  refine X_aload_n (i := 0) hB dX12_findsByMap_0 rfl rfl ?_
  refine X_iload_n (i := 1) hB dX12_findsByMap_1 rfl rfl ?_
  refine X_callV hB kX12_225 cw10 hR.1.1 hR.1.2 (c_laysKnown hR (by exact hF.of rfl) n hn mp room c hok hc hmp) (by decide) (by decide) rfl rfl (Nat.le_of_ble_eq_true rfl) dX12_findsByMap_2 (fun r2 S2 q2 => ?_)
  obtain ⟨rfl, f2, k2⟩ := q2
  refine X_aload_n (i := 0) hB dX12_findsByMap_5 rfl rfl ?_
  refine X_iload_n (i := 2) hB dX12_findsByMap_6 rfl rfl ?_
  refine X_callV hB kX12_228 cw10 hR.1.1 hR.1.2 (c_laysFar hR (f2.ref hF) to hto (kn c) k2) (by decide) (by decide) rfl rfl (Nat.le_of_ble_eq_true rfl) dX12_findsByMap_7 (fun r7 S7 q7 => ?_)
  obtain ⟨rfl, f7, k7⟩ := q7
  have g2 : fr h [h + 8, h + 9, h + 10] [22] S S2 := f2.mono (by simp) (by simp)
  have g7 : fr h [h + 8, h + 9, h + 10] [22] S S7 := g2.tr (f7.mono (by simp) (by simp))
  have hF7 := g7.ref hF
  have hA7 : S7.1 (h + 1) = S.1 (h + 1) := g7.2.1 _ (by simp) (by omega)
  have k2b : knR (S7.1 (h + 9)) (kn c) := by rw [f7.2.1 _ (by simp) (by omega)]; exact k2
  have b9 : dst (kn c) to n ≤ 99 := by rcases dst_99 (f := kn c) (to := to) (x := n) with q | q <;> omega
  refine X_aload_n (i := 0) hB dX12_findsByMap_10 rfl rfl ?_
  refine X_iconst (v := 0) hB dX12_findsByMap_11 (by decide) ?_
  refine X_puti hB cw10 fX12_231 rfl rfl hR.1.1 hR.1.2 dX12_findsByMap_12 ?_
  refine X_aload_n (i := 0) hB dX12_findsByMap_15 rfl rfl ?_
  refine X_getr hB cw10 fX12_39 rfl hR.1.1 hR.1.2 hF7.2.2.2.2.2.2.2.2.2.1 dX12_findsByMap_16 ?_
  refine X_iload_n (i := 1) hB dX12_findsByMap_19 rfl rfl ?_
  refine X_ialdN hB (n) hR.2.2.2.2.2.2.2.2.2.2.1.1 hR.2.2.2.2.2.2.2.2.2.2.1.2 (by decide) (by first | rfl | (simp (disch := omega) only [nlit, nI_add, nI_mul, nI_sub]; done) | (simp (disch := omega) only [nlit, nI_add, nI_mul, nI_sub]; (congr 1 <;> omega))) (by first | omega | (simp only []; omega)) (show _ = nI (dst (kn c) to n) by rw [setI_row _ _ _ (by omega)]; exact k7 n hn) dX12_findsByMap_20 ?_
  refine X_aload_n (i := 0) hB dX12_findsByMap_21 rfl rfl ?_
  refine X_getr hB cw10 fX12_7 rfl hR.1.1 hR.1.2 hF7.1 dX12_findsByMap_22 ?_
  refine X_iconst (v := 1) hB dX12_findsByMap_25 (by decide) ?_
  refine X_ialdN hB (1) hR.2.1.1 hR.2.1.2 (by decide) (by first | rfl | (simp (disch := omega) only [nlit, nI_add, nI_mul, nI_sub]; done) | (simp (disch := omega) only [nlit, nI_add, nI_mul, nI_sub]; (congr 1 <;> omega))) (by first | omega | (simp only []; omega)) (show _ = nI hops by rw [setI_row _ _ _ (by omega), hA7]; exact hho) dX12_findsByMap_26 ?_
  refine X_icmp_le (tgt := 31) hB dX12_findsByMap_27 (by decide) (fun c27 => ?_) (fun c27 => ?_)
  · refine X_iload_n (i := 1) hB dX12_findsByMap_31 rfl rfl ?_
    refine X_istore_n (i := 3) hB dX12_findsByMap_32 rfl (by decide) rfl ?_
    refine X_aload_n (i := 0) hB dX12_findsByMap_33 rfl rfl ?_
    refine X_getr hB cw10 fX12_33 rfl hR.1.1 hR.1.2 hF7.2.2.2.2.2.2.2.1 dX12_findsByMap_34 ?_
    refine X_iconst (v := 0) hB dX12_findsByMap_37 (by decide) ?_
    refine X_iload_n (i := 1) hB dX12_findsByMap_38 rfl rfl ?_
    refine X_iastN hB (0) hR.2.2.2.2.2.2.2.2.1.1 hR.2.2.2.2.2.2.2.2.1.2 (by decide) (by first | rfl | (simp (disch := omega) only [nlit, nI_add, nI_mul, nI_sub]; done) | (simp (disch := omega) only [nlit, nI_add, nI_mul, nI_sub]; (congr 1 <;> omega))) (by first | omega | (simp only []; omega)) dX12_findsByMap_39 ?_
    refine X_aload_n (i := 0) hB dX12_findsByMap_40 rfl rfl ?_
    refine X_iconst (v := 1) hB dX12_findsByMap_41 (by decide) ?_
    refine X_puti hB cw10 fX12_231 rfl rfl hR.1.1 hR.1.2 dX12_findsByMap_42 ?_
    have hle : dst (kn c) to n ≤ hops := by (have c9 := c27); simp (disch := omega) only [nlit, nI_leI, nI_ltI] at c9; omega
    refine X_dl [some (.ref h), some (.int (nI n)), some (.int (nI to)), some (.int (nI n)), none, none] (by simp [lle, lset]) (l_fM2 (S := setI (setI (setI S7 h 22 0) (h + 8) 0 (nI n)) h 22 1) hR (by exact hF7.of rfl) hB n to hn hto (kn c) ?_ ?_ (wayM (kn c) to hops n) (fun S9 g1 g3 => ⟨rfl, g7.tr (((fr.fld (by simp)).tr ((fr.set (by simp) (by omega)).tr (fr.fld (by simp)))).tr (g1.mono (by simp) (by simp))), g3⟩) (dst (kn c) to n) n [n] _ fr.rf ⟨by rw [setI_at]; rfl, fun i hi => ?_⟩ rfl hn (by simp; omega) (by unfold wayM; rw [if_pos hle]; rfl))
    · rw [setI_row _ _ _ (by omega), setI_row _ _ _ (by omega), setI_row _ _ _ (by omega)]; exact k2b
    · rw [setI_row _ _ _ (by omega), setI_row _ _ _ (by omega), setI_row _ _ _ (by omega)]; exact k7
    · obtain rfl : i = 0 := by simpa using hi
      rw [setI_ne _ _ (Or.inl (by omega)), setI_at]; rfl
  · refine X_vret hB rfl dX12_findsByMap_30 ?_
    have hgt : ¬ dst (kn c) to n ≤ hops := by (have c9 := c27); simp (disch := omega) only [nlit, nI_leI, nI_ltI] at c9; omega
    refine ⟨rfl, g7.tr (fr.fld (by simp)), ?_⟩
    unfold wayM
    rw [if_neg hgt]
    exact ⟨by rw [setI_at]; rfl, fun i hi => by simp at hi⟩
end REF
