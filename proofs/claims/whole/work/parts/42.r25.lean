def kI (σ σ' : Net) : Prop := nSe σ' = nSe σ ∧ nUp σ' = nUp σ ∧ szN σ'
def repStep (f : Fm) (y at_ z : Nat) (σ : Net) : Net := if (z ≠ fFr f ∧ nUp σ (fFr f) z = true) ∧ z ≠ y ∧ dLis (nNd σ z) = true ∧ z ∉ (fRo f).drop at_ then learnN σ z (z :: (fRo f).drop at_) else σ
def rpY (f : Fm) : Nat := (fRo f).getD ((fRo f).idxOf (fFr f) - 1) 0
def rpLa (σ : Net) (f : Fm) : Net := learnN σ (rpY f) ((fRo f).drop ((fRo f).idxOf (fFr f) - 1))
def rpLb (σ : Net) (f : Fm) : Net := if 1 < (fRo f).idxOf (fFr f) then (sendF (rpLa σ f) (2, rpY f, 0, 0, none, fRo f)).1 else rpLa σ f
def arrRep (σ : Net) (f : Fm) : Net := if nUp σ (fFr f) (rpY f) = true then iterN (repStep f (rpY f) ((fRo f).idxOf (fFr f))) (nSe σ 0) (rpLb σ f) else forgetN σ (fFr f) (fFr f) (rpY f)
theorem idx_lenN {l : List Nat} {z : Nat} (h : z ∉ l) : l.idxOf z = l.length := List.idxOf_eq_length h
section REF
variable {G : Gc} {S : St} {h : Nat}
set_option maxRecDepth 100000 in
set_option maxHeartbeats 4000000 in
theorem l_placeOf (hR : RLay G h) (hF : RRef S h) {E : Ev} (hB : Bd G E mX12_placeOf) {Q : Option Value → St → Prop} (f : Fm) (hf : frS (S.1 (h + 12)) f) (hfl : (fRo f).length ≤ 8) (hfx : ∀ x ∈ fRo f, x < 8) (n : Nat) (hn : n < 8) (kk : Q (some (.int (nI ((fRo f).idxOf n)))) S) :
    ∀ (k i : Nat), i + k = (fRo f).length → (∀ j, j < i → (fRo f).getD j 0 ≠ n) → X G E mX12_placeOf 1 Q S 2 [some (.ref h), some (.int (nI n)), some (.int (nI i))] [] := by
  intro k
  induction k with
  | zero =>
    intro i h1 h2
    refine X_iload_n (i := 2) hB dX12_placeOf_2 rfl rfl ?_
    refine X_aload_n (i := 0) hB dX12_placeOf_3 rfl rfl ?_
    refine X_getr hB cw10 fX12_45 rfl hR.1.1 hR.1.2 hF.2.2.2.2.2.2.2.2.2.2.2 dX12_placeOf_4 ?_
    refine X_bipush (v := 6) hB dX12_placeOf_7 (by decide) ?_
    refine X_ialdN hB (6) hR.2.2.2.2.2.2.2.2.2.2.2.2.1 hR.2.2.2.2.2.2.2.2.2.2.2.2.2 (by decide) (by first | rfl | (simp (disch := omega) only [nlit, nI_add, nI_mul, nI_sub]; done) | (simp (disch := omega) only [nlit, nI_add, nI_mul, nI_sub]; (congr 1 <;> omega))) (by first | omega | (simp only []; omega)) (show _ = nI (fRo f).length from hf.1 6 (by decide)) dX12_placeOf_9 ?_
    refine X_icmp_ge (tgt := 28) hB dX12_placeOf_10 (by decide) (fun c10 => ?_) (fun c10 => absurd c10 (by simp (disch := omega) only [nlit, nI_leI, nI_ltI]; omega))
    refine X_iload_n (i := 2) hB dX12_placeOf_28 rfl rfl ?_
    refine X_iret hB rfl dX12_placeOf_29 ?_
    rw [idx_lenN (not_mem_all (fun j hj => h2 j (by omega)))] at kk
    have e9 : i = (fRo f).length := by omega
    rw [e9]
    exact kk
  | succ k ih =>
    intro i h1 h2
    have b1 : (fRo f).getD i 0 < 8 := hfx _ (getD_mem (by omega))
    refine X_iload_n (i := 2) hB dX12_placeOf_2 rfl rfl ?_
    refine X_aload_n (i := 0) hB dX12_placeOf_3 rfl rfl ?_
    refine X_getr hB cw10 fX12_45 rfl hR.1.1 hR.1.2 hF.2.2.2.2.2.2.2.2.2.2.2 dX12_placeOf_4 ?_
    refine X_bipush (v := 6) hB dX12_placeOf_7 (by decide) ?_
    refine X_ialdN hB (6) hR.2.2.2.2.2.2.2.2.2.2.2.2.1 hR.2.2.2.2.2.2.2.2.2.2.2.2.2 (by decide) (by first | rfl | (simp (disch := omega) only [nlit, nI_add, nI_mul, nI_sub]; done) | (simp (disch := omega) only [nlit, nI_add, nI_mul, nI_sub]; (congr 1 <;> omega))) (by first | omega | (simp only []; omega)) (show _ = nI (fRo f).length from hf.1 6 (by decide)) dX12_placeOf_9 ?_
    refine X_icmp_ge (tgt := 28) hB dX12_placeOf_10 (by decide) (fun c10 => absurd c10 (by simp (disch := omega) only [nlit, nI_leI, nI_ltI]; omega)) (fun c10 => ?_)
    refine X_aload_n (i := 0) hB dX12_placeOf_13 rfl rfl ?_
    refine X_iload_n (i := 2) hB dX12_placeOf_14 rfl rfl ?_
    refine X_callV hB kX12_274 cw10 hR.1.1 hR.1.2 (c_rowAt hR (by exact hF.of rfl) f hf hfl (i := i) (by omega)) (by decide) (by decide) rfl rfl (Nat.le_of_ble_eq_true rfl) dX12_placeOf_15 (fun r15 S15 q15 => ?_)
    obtain ⟨rfl, rfl⟩ := q15
    refine X_iload_n (i := 1) hB dX12_placeOf_18 rfl rfl ?_
    refine X_icmp_eq (tgt := 28) hB dX12_placeOf_19 (by decide) (fun c19 => ?_) (fun c19 => ?_)
    · refine X_iload_n (i := 2) hB dX12_placeOf_28 rfl rfl ?_
      refine X_iret hB rfl dX12_placeOf_29 ?_
      have e9 : (fRo f).getD i 0 = n := i32_inj (by omega) (by omega) (by first | exact c19 | exact Decidable.not_not.mp c19)
      rw [(idx_first (by omega) e9 h2).1] at kk
      exact kk
    · refine X_iinc hB dX12_placeOf_22 rfl rfl (by decide) rfl ?_
      refine X_goto (tgt := 2) hB dX12_placeOf_25 (by decide) ?_
      refine X_lv ?_ (ih (i + 1) (by omega) (fun j hj => ?_))
      · rw [nI_succ]; rfl
      · rcases Nat.lt_succ_iff_lt_or_eq.mp hj with hj | hj
        · exact h2 j hj
        · rw [hj]; exact fun q => c19 (by rw [q])
set_option maxRecDepth 100000 in
set_option maxHeartbeats 4000000 in
theorem c_placeOf (hR : RLay G h) (hF : RRef S h) (f : Fm) (hf : frS (S.1 (h + 12)) f) (hfl : (fRo f).length ≤ 8) (hfx : ∀ x ∈ fRo f, x < 8) (n : Nat) (hn : n < 8) : C G mX12_placeOf 1 [.ref h, .int (nI n)] S (fun r S' => r = some (.int (nI ((fRo f).idxOf n))) ∧ S = S') := by
  refine C.mk (lv := [some (.ref h), some (.int (nI n)), none]) (by decide) (Nat.le_of_ble_eq_true rfl) rfl (fun E hB => ?_)
  refine X_iconst (v := 0) hB dX12_placeOf_0 (by decide) ?_
  refine X_istore_n (i := 2) hB dX12_placeOf_1 rfl (by decide) rfl ?_
  exact X_lv (by rw [nI_0]; rfl) (l_placeOf hR hF hB f hf hfl hfx n hn ⟨rfl, rfl⟩ (fRo f).length 0 (by omega) (fun j hj => by omega))
set_option maxRecDepth 100000 in
set_option maxHeartbeats 4000000 in
theorem l_learnsRow (hR : RLay G h) (hF : RRef S h) {E : Ev} (hB : Bd G E mX12_learnsRow) {Q : Option Value → St → Prop} (f : Fm) (hf : frS (S.1 (h + 12)) f) (hfl : (fRo f).length ≤ 8) (hfx : ∀ x ∈ fRo f, x < 8) (fm : Int32) (fin : List Nat) (kk : ∀ S2, fr h [h + 7] [20] S S2 → lesR S2 h fin → Q none S2) :
    ∀ (k i : Nat) (L : List Nat) (S1 : St), i + k = (fRo f).length → L.length + k ≤ 9 → fr h [h + 7] [20] S S1 → lesR S1 h L → L ++ (fRo f).drop i = fin → X G E mX12_learnsRow 1 Q S1 2 [some (.ref h), some (.int fm), some (.int (nI i))] [] := by
  intro k
  induction k with
  | zero =>
    intro i L S1 h1 h2 hfr hL hfin
    have hf1 : frS (S1.1 (h + 12)) f := by rw [hfr.2.1 _ (by simp) (by omega)]; exact hf
    refine X_iload_n (i := 2) hB dX12_learnsRow_2 rfl rfl ?_
    refine X_aload_n (i := 0) hB dX12_learnsRow_3 rfl rfl ?_
    refine X_getr hB cw10 fX12_45 rfl hR.1.1 hR.1.2 (hfr.ref hF).2.2.2.2.2.2.2.2.2.2.2 dX12_learnsRow_4 ?_
    refine X_bipush (v := 6) hB dX12_learnsRow_7 (by decide) ?_
    refine X_ialdN hB (6) hR.2.2.2.2.2.2.2.2.2.2.2.2.1 hR.2.2.2.2.2.2.2.2.2.2.2.2.2 (by decide) (by first | rfl | (simp (disch := omega) only [nlit, nI_add, nI_mul, nI_sub]; done) | (simp (disch := omega) only [nlit, nI_add, nI_mul, nI_sub]; (congr 1 <;> omega))) (by first | omega | (simp only []; omega)) (show _ = nI (fRo f).length from hf1.1 6 (by decide)) dX12_learnsRow_9 ?_
    refine X_icmp_ge (tgt := 28) hB dX12_learnsRow_10 (by decide) (fun c10 => ?_) (fun c10 => absurd c10 (by simp (disch := omega) only [nlit, nI_leI, nI_ltI]; omega))
    refine X_vret hB rfl dX12_learnsRow_28 ?_
    rw [List.drop_of_length_le (by omega), List.append_nil] at hfin
    exact kk S1 hfr (by rw [← hfin]; exact hL)
  | succ k ih =>
    intro i L S1 h1 h2 hfr hL hfin
    have hf1 : frS (S1.1 (h + 12)) f := by rw [hfr.2.1 _ (by simp) (by omega)]; exact hf
    refine X_iload_n (i := 2) hB dX12_learnsRow_2 rfl rfl ?_
    refine X_aload_n (i := 0) hB dX12_learnsRow_3 rfl rfl ?_
    refine X_getr hB cw10 fX12_45 rfl hR.1.1 hR.1.2 (hfr.ref hF).2.2.2.2.2.2.2.2.2.2.2 dX12_learnsRow_4 ?_
    refine X_bipush (v := 6) hB dX12_learnsRow_7 (by decide) ?_
    refine X_ialdN hB (6) hR.2.2.2.2.2.2.2.2.2.2.2.2.1 hR.2.2.2.2.2.2.2.2.2.2.2.2.2 (by decide) (by first | rfl | (simp (disch := omega) only [nlit, nI_add, nI_mul, nI_sub]; done) | (simp (disch := omega) only [nlit, nI_add, nI_mul, nI_sub]; (congr 1 <;> omega))) (by first | omega | (simp only []; omega)) (show _ = nI (fRo f).length from hf1.1 6 (by decide)) dX12_learnsRow_9 ?_
    refine X_icmp_ge (tgt := 28) hB dX12_learnsRow_10 (by decide) (fun c10 => absurd c10 (by simp (disch := omega) only [nlit, nI_leI, nI_ltI]; omega)) (fun c10 => ?_)
    refine X_aload_n (i := 0) hB dX12_learnsRow_13 rfl rfl ?_
    refine X_aload_n (i := 0) hB dX12_learnsRow_14 rfl rfl ?_
    refine X_iload_n (i := 2) hB dX12_learnsRow_15 rfl rfl ?_
    refine X_callV hB kX12_274 cw10 hR.1.1 hR.1.2 (c_rowAt hR (hfr.ref hF) f hf1 hfl (i := i) (by omega)) (by decide) (by decide) rfl rfl (Nat.le_of_ble_eq_true rfl) dX12_learnsRow_16 (fun r16 S16 q16 => ?_)
    obtain ⟨rfl, rfl⟩ := q16
    refine X_callV hB kX12_295 cw10 hR.1.1 hR.1.2 (c_addsLesson hR (hfr.ref hF) ((fRo f).getD i 0) L (by omega) hL) (by decide) (by decide) rfl rfl (Nat.le_of_ble_eq_true rfl) dX12_learnsRow_19 (fun r19 S19 q19 => ?_)
    obtain ⟨rfl, f19, g19⟩ := q19
    refine X_iinc hB dX12_learnsRow_22 rfl rfl (by decide) rfl ?_
    refine X_goto (tgt := 2) hB dX12_learnsRow_25 (by decide) ?_
    refine X_lv ?_ (ih (i + 1) (L ++ [(fRo f).getD i 0]) _ (by omega) (by rw [List.length_append]; show L.length + 1 + k ≤ 9; omega) (hfr.tr f19) g19 ?_)
    · rw [nI_succ]; rfl
    · rw [← hfin, List.append_assoc, List.drop_eq_getElem_cons (show i < (fRo f).length by omega), getD_lt (by omega)]
      rfl
set_option maxRecDepth 100000 in
set_option maxHeartbeats 4000000 in
theorem c_learnsRow (hR : RLay G h) (hF : RRef S h) (f : Fm) (hf : frS (S.1 (h + 12)) f) (hfl : (fRo f).length ≤ 8) (hfx : ∀ x ∈ fRo f, x < 8) (i : Nat) (hi : i ≤ (fRo f).length) (L : List Nat) (hL9 : L.length + ((fRo f).length - i) ≤ 9) (hL : lesR S h L) : C G mX12_learnsRow 1 [.ref h, .int (nI i)] S (fun r S' => r = none ∧ fr h [h + 7] [20] S S' ∧ lesR S' h (L ++ (fRo f).drop i)) := by
  refine C.mk (lv := [some (.ref h), some (.int (nI i)), none]) (by decide) (Nat.le_of_ble_eq_true rfl) rfl (fun E hB => ?_)
  refine X_iload_n (i := 1) hB dX12_learnsRow_0 rfl rfl ?_
  refine X_istore_n (i := 2) hB dX12_learnsRow_1 rfl (by decide) rfl ?_
  exact l_learnsRow hR hF hB f hf hfl hfx _ _ (fun S9 g1 g2 => ⟨rfl, g1, g2⟩) ((fRo f).length - i) i L S (by omega) hL9 fr.rf hL rfl
set_option maxRecDepth 100000 in
set_option maxHeartbeats 4000000 in
theorem l_rp1 (hR : RLay G h) (hF : RRef S h) {E : Ev} (hB : Bd G E mX12_replyComes) {Q : Option Value → St → Prop} (f : Fm) (hf : frS (S.1 (h + 12)) f) (hfl : (fRo f).length ≤ 8) (hfx : ∀ x ∈ fRo f, x < 8) (g : Fm) (kk : ∀ S2 v, fr h [h + 11] [] S S2 → frS (S2.1 (h + 11)) (g.1, g.2.1, g.2.2.1, g.2.2.2.1, g.2.2.2.2.1, fRo f) → X G E mX12_replyComes 6 Q S2 101 [some (.ref h), some (.int (nI (fFr f))), some (.int (nI ((fRo f).idxOf (fFr f)))), some (.int (nI (rpY f))), some (.int v)] []) :
    ∀ (k i : Nat) (S1 : St), i + k = (fRo f).length → fr h [h + 11] [] S S1 → frS (S1.1 (h + 11)) (g.1, g.2.1, g.2.2.1, g.2.2.2.1, g.2.2.2.2.1, (fRo f).take i) → X G E mX12_replyComes 6 Q S1 73 [some (.ref h), some (.int (nI (fFr f))), some (.int (nI ((fRo f).idxOf (fFr f)))), some (.int (nI (rpY f))), some (.int (nI i))] [] := by
  intro k
  induction k with
  | zero =>
    intro i S1 h1 hfr hg
    have hf1 : frS (S1.1 (h + 12)) f := by rw [hfr.2.1 _ (by simp) (by omega)]; exact hf
    refine X_iload hB dX12_replyComes_73 rfl ?_
    refine X_aload_n (i := 0) hB dX12_replyComes_75 rfl rfl ?_
    refine X_getr hB cw10 fX12_45 rfl hR.1.1 hR.1.2 (hfr.ref hF).2.2.2.2.2.2.2.2.2.2.2 dX12_replyComes_76 ?_
    refine X_bipush (v := 6) hB dX12_replyComes_79 (by decide) ?_
    refine X_ialdN hB (6) hR.2.2.2.2.2.2.2.2.2.2.2.2.1 hR.2.2.2.2.2.2.2.2.2.2.2.2.2 (by decide) (by first | rfl | (simp (disch := omega) only [nlit, nI_add, nI_mul, nI_sub]; done) | (simp (disch := omega) only [nlit, nI_add, nI_mul, nI_sub]; (congr 1 <;> omega))) (by first | omega | (simp only []; omega)) (show _ = nI (fRo f).length from hf1.1 6 (by decide)) dX12_replyComes_81 ?_
    refine X_icmp_ge (tgt := 101) hB dX12_replyComes_82 (by decide) (fun c82 => ?_) (fun c82 => absurd c82 (by simp (disch := omega) only [nlit, nI_leI, nI_ltI]; omega))
    rw [List.take_of_length_le (by omega)] at hg
    exact kk S1 _ hfr hg
  | succ k ih =>
    intro i S1 h1 hfr hg
    have hf1 : frS (S1.1 (h + 12)) f := by rw [hfr.2.1 _ (by simp) (by omega)]; exact hf
    refine X_iload hB dX12_replyComes_73 rfl ?_
    refine X_aload_n (i := 0) hB dX12_replyComes_75 rfl rfl ?_
    refine X_getr hB cw10 fX12_45 rfl hR.1.1 hR.1.2 (hfr.ref hF).2.2.2.2.2.2.2.2.2.2.2 dX12_replyComes_76 ?_
    refine X_bipush (v := 6) hB dX12_replyComes_79 (by decide) ?_
    refine X_ialdN hB (6) hR.2.2.2.2.2.2.2.2.2.2.2.2.1 hR.2.2.2.2.2.2.2.2.2.2.2.2.2 (by decide) (by first | rfl | (simp (disch := omega) only [nlit, nI_add, nI_mul, nI_sub]; done) | (simp (disch := omega) only [nlit, nI_add, nI_mul, nI_sub]; (congr 1 <;> omega))) (by first | omega | (simp only []; omega)) (show _ = nI (fRo f).length from hf1.1 6 (by decide)) dX12_replyComes_81 ?_
    refine X_icmp_ge (tgt := 101) hB dX12_replyComes_82 (by decide) (fun c82 => absurd c82 (by simp (disch := omega) only [nlit, nI_leI, nI_ltI]; omega)) (fun c82 => ?_)
    refine X_aload_n (i := 0) hB dX12_replyComes_85 rfl rfl ?_
    refine X_aload_n (i := 0) hB dX12_replyComes_86 rfl rfl ?_
    refine X_iload hB dX12_replyComes_87 rfl ?_
    refine X_callV hB kX12_274 cw10 hR.1.1 hR.1.2 (c_rowAt hR (hfr.ref hF) f hf1 hfl (i := i) (by omega)) (by decide) (by decide) rfl rfl (Nat.le_of_ble_eq_true rfl) dX12_replyComes_89 (fun r89 S89 q89 => ?_)
    obtain ⟨rfl, rfl⟩ := q89
    refine X_callV hB kX12_262 cw10 hR.1.1 hR.1.2 (c_addsFrame hR (hfr.ref hF) (g.1, g.2.1, g.2.2.1, g.2.2.2.1, g.2.2.2.2.1, (fRo f).take i) ((fRo f).getD i 0) (by show ((fRo f).take i).length ≤ 8; rw [List.length_take]; omega) hg) (by decide) (by decide) rfl rfl (Nat.le_of_ble_eq_true rfl) dX12_replyComes_92 (fun r92 S92 q92 => ?_)
    obtain ⟨rfl, f92, g92⟩ := q92
    refine X_iinc hB dX12_replyComes_95 rfl rfl (by decide) rfl ?_
    refine X_goto (tgt := 73) hB dX12_replyComes_98 (by decide) ?_
    refine X_lv ?_ (ih (i + 1) _ (by omega) (hfr.tr f92) ?_)
    · rw [nI_succ]; rfl
    · rw [List.take_succ_eq_append_getElem (show i < (fRo f).length by omega), ← getD_lt (d := 0)]
      exact g92
set_option maxRecDepth 100000 in
set_option maxHeartbeats 4000000 in
theorem l_rp2 (hR : RLay G h) (hF : RRef S h) {E : Ev} (hB : Bd G E mX12_replyComes) {Q : Option Value → St → Prop} (f : Fm) (hf : frS (S.1 (h + 12)) f) (hfl : (fRo f).length ≤ 8) (hfx : ∀ x ∈ fRo f, x < 8) (σ : Net) (hse : seOk (nSe σ)) (hfr8 : fFr f < 8) (hfn : (fRo f).Nodup) (hin : fFr f ∈ fRo f) (σ3 : Net) (kk : ∀ S2, fr h [h + 1, h + 7, h + 8, h + 9, h + 10, h + 11] [20, 22] S S2 → netR (S2.1 (h + 1)) (iterN (repStep f (rpY f) ((fRo f).idxOf (fFr f))) (nSe σ 0) σ3) → Q none S2) :
    ∀ (k z : Nat) (S1 : St), z + k = nSe σ 0 → fr h [h + 1, h + 7, h + 8, h + 9, h + 10, h + 11] [20, 22] S S1 → netR (S1.1 (h + 1)) (iterN (repStep f (rpY f) ((fRo f).idxOf (fFr f))) z σ3) → kI σ (iterN (repStep f (rpY f) ((fRo f).idxOf (fFr f))) z σ3) → X G E mX12_replyComes 6 Q S1 110 [some (.ref h), some (.int (nI (fFr f))), some (.int (nI ((fRo f).idxOf (fFr f)))), some (.int (nI (rpY f))), some (.int (nI z))] [] := by
  have hc8 := hse.1.2
  have hat := List.idxOf_lt_length_of_mem hin
  have hy8 : rpY f < 8 := hfx _ (getD_mem (by omega))
  intro k
  induction k with
  | zero =>
    intro z S1 h1 hfr hN1 hI
    refine X_iload hB dX12_replyComes_110 rfl ?_
    refine X_aload_n (i := 0) hB dX12_replyComes_112 rfl rfl ?_
    refine X_getr hB cw10 fX12_7 rfl hR.1.1 hR.1.2 (hfr.ref hF).1 dX12_replyComes_113 ?_
    refine X_iconst (v := 0) hB dX12_replyComes_116 (by decide) ?_
    refine X_ialdN hB (0) hR.2.1.1 hR.2.1.2 (by decide) (by first | rfl | (simp (disch := omega) only [nlit, nI_add, nI_mul, nI_sub]; done) | (simp (disch := omega) only [nlit, nI_add, nI_mul, nI_sub]; (congr 1 <;> omega))) (by first | omega | (simp only []; omega)) (show _ = nI (nSe σ 0) by rw [hN1.1.1 0 (by decide), hI.1]) dX12_replyComes_117 ?_
    refine X_icmp_ge (tgt := 181) hB dX12_replyComes_118 (by decide) (fun c118 => ?_) (fun c118 => absurd c118 (by simp (disch := omega) only [nlit, nI_leI, nI_ltI]; omega))
    refine X_vret hB rfl dX12_replyComes_181 ?_
    have e9 : z = nSe σ 0 := by omega
    subst e9
    exact kk S1 hfr hN1
  | succ k ih =>
    intro z S1 h1 hfr hN1 hI
    generalize hσz : iterN (repStep f (rpY f) ((fRo f).idxOf (fFr f))) z σ3 = σz at hN1 hI
    have hstep : iterN (repStep f (rpY f) ((fRo f).idxOf (fFr f))) (z + 1) σ3 = repStep f (rpY f) ((fRo f).idxOf (fFr f)) z σz := by rw [← hσz]; rfl
    obtain ⟨i1, i2, i3⟩ := id hI
    have hz8 : z < 8 := by omega
    have hcm : frS (S1.1 (h + 12)) f := by rw [hfr.2.1 _ (by simp) (by omega)]; exact hf
    have hF1 := hfr.ref hF
    have hnz := hN1.2.1 z hz8
    refine X_iload hB dX12_replyComes_110 rfl ?_
    refine X_aload_n (i := 0) hB dX12_replyComes_112 rfl rfl ?_
    refine X_getr hB cw10 fX12_7 rfl hR.1.1 hR.1.2 (hfr.ref hF).1 dX12_replyComes_113 ?_
    refine X_iconst (v := 0) hB dX12_replyComes_116 (by decide) ?_
    refine X_ialdN hB (0) hR.2.1.1 hR.2.1.2 (by decide) (by first | rfl | (simp (disch := omega) only [nlit, nI_add, nI_mul, nI_sub]; done) | (simp (disch := omega) only [nlit, nI_add, nI_mul, nI_sub]; (congr 1 <;> omega))) (by first | omega | (simp only []; omega)) (show _ = nI (nSe σ 0) by rw [hN1.1.1 0 (by decide), i1]) dX12_replyComes_117 ?_
    refine X_icmp_ge (tgt := 181) hB dX12_replyComes_118 (by decide) (fun c118 => absurd c118 (by simp (disch := omega) only [nlit, nI_leI, nI_ltI]; omega)) (fun c118 => ?_)
    refine X_aload_n (i := 0) hB dX12_replyComes_121 rfl rfl ?_
    refine X_iload_n (i := 1) hB dX12_replyComes_122 rfl rfl ?_
    refine X_iload hB dX12_replyComes_123 rfl ?_
    refine X_callV hB kX12_310 cw10 hR.1.1 hR.1.2 (c_isNear hR hF1 σz hN1 hfr8 hz8) (by decide) (by decide) rfl rfl (Nat.le_of_ble_eq_true rfl) dX12_replyComes_125 (fun r125 S125 q125 => ?_)
    obtain ⟨rfl, rfl⟩ := q125
    refine X_if_eq (tgt := 175) hB dX12_replyComes_128 (by decide) (fun c128 => ?_) (fun c128 => ?_)
    · first
      | (have e1 : (if z ≠ fFr f ∧ nUp σz (fFr f) z = true then (1 : Int32) else 0) = 0 := by exact c128
         refine X_iinc hB dX12_replyComes_175 rfl rfl (by decide) rfl ?_
         refine X_goto (tgt := 110) hB dX12_replyComes_178 (by decide) ?_
         have hno : repStep f (rpY f) ((fRo f).idxOf (fFr f)) z σz = σz := by
           unfold repStep
           rw [if_neg]
           intro q
           exact absurd e1 (by rw [if_pos q.1]; decide)
         rw [hno] at hstep
         refine X_lv ?_ (ih (z + 1) S1 (by omega) hfr (by rw [hstep]; exact hN1) (by rw [hstep]; exact hI))
         rw [nI_succ]; rfl)
      | (have e2 : nI z = nI (rpY f) := by exact c134
         refine X_iinc hB dX12_replyComes_175 rfl rfl (by decide) rfl ?_
         refine X_goto (tgt := 110) hB dX12_replyComes_178 (by decide) ?_
         have hno : repStep f (rpY f) ((fRo f).idxOf (fFr f)) z σz = σz := by
           unfold repStep
           rw [if_neg]
           intro q
           exact q.2.1 (i32_inj (by omega) (by omega) e2)
         rw [hno] at hstep
         refine X_lv ?_ (ih (z + 1) S1 (by omega) hfr (by rw [hstep]; exact hN1) (by rw [hstep]; exact hI))
         rw [nI_succ]; rfl)
      | (have e3 : ¬ (if dLis (nNd σz z) = true then (1 : Int32) else 0) = 1 := by exact c145
         refine X_iinc hB dX12_replyComes_175 rfl rfl (by decide) rfl ?_
         refine X_goto (tgt := 110) hB dX12_replyComes_178 (by decide) ?_
         have hno : repStep f (rpY f) ((fRo f).idxOf (fFr f)) z σz = σz := by
           unfold repStep
           rw [if_neg]
           intro q
           exact e3 (by rw [if_pos q.2.2.1])
         rw [hno] at hstep
         refine X_lv ?_ (ih (z + 1) S1 (by omega) hfr (by rw [hstep]; exact hN1) (by rw [hstep]; exact hI))
         rw [nI_succ]; rfl)
      | (have e4 : ¬ (if z ∈ (fRo f).drop ((fRo f).idxOf (fFr f)) then (1 : Int32) else 0) = 0 := by exact c155
         refine X_iinc hB dX12_replyComes_175 rfl rfl (by decide) rfl ?_
         refine X_goto (tgt := 110) hB dX12_replyComes_178 (by decide) ?_
         have hno : repStep f (rpY f) ((fRo f).idxOf (fFr f)) z σz = σz := by
           unfold repStep
           rw [if_neg]
           intro q
           exact e4 (by rw [if_neg q.2.2.2])
         rw [hno] at hstep
         refine X_lv ?_ (ih (z + 1) S1 (by omega) hfr (by rw [hstep]; exact hN1) (by rw [hstep]; exact hI))
         rw [nI_succ]; rfl)
    · refine X_iload hB dX12_replyComes_131 rfl ?_
      refine X_iload_n (i := 3) hB dX12_replyComes_133 rfl rfl ?_
      refine X_icmp_eq (tgt := 175) hB dX12_replyComes_134 (by decide) (fun c134 => ?_) (fun c134 => ?_)
      · first
        | (have e1 : (if z ≠ fFr f ∧ nUp σz (fFr f) z = true then (1 : Int32) else 0) = 0 := by exact c128
           refine X_iinc hB dX12_replyComes_175 rfl rfl (by decide) rfl ?_
           refine X_goto (tgt := 110) hB dX12_replyComes_178 (by decide) ?_
           have hno : repStep f (rpY f) ((fRo f).idxOf (fFr f)) z σz = σz := by
             unfold repStep
             rw [if_neg]
             intro q
             exact absurd e1 (by rw [if_pos q.1]; decide)
           rw [hno] at hstep
           refine X_lv ?_ (ih (z + 1) S1 (by omega) hfr (by rw [hstep]; exact hN1) (by rw [hstep]; exact hI))
           rw [nI_succ]; rfl)
        | (have e2 : nI z = nI (rpY f) := by exact c134
           refine X_iinc hB dX12_replyComes_175 rfl rfl (by decide) rfl ?_
           refine X_goto (tgt := 110) hB dX12_replyComes_178 (by decide) ?_
           have hno : repStep f (rpY f) ((fRo f).idxOf (fFr f)) z σz = σz := by
             unfold repStep
             rw [if_neg]
             intro q
             exact q.2.1 (i32_inj (by omega) (by omega) e2)
           rw [hno] at hstep
           refine X_lv ?_ (ih (z + 1) S1 (by omega) hfr (by rw [hstep]; exact hN1) (by rw [hstep]; exact hI))
           rw [nI_succ]; rfl)
        | (have e3 : ¬ (if dLis (nNd σz z) = true then (1 : Int32) else 0) = 1 := by exact c145
           refine X_iinc hB dX12_replyComes_175 rfl rfl (by decide) rfl ?_
           refine X_goto (tgt := 110) hB dX12_replyComes_178 (by decide) ?_
           have hno : repStep f (rpY f) ((fRo f).idxOf (fFr f)) z σz = σz := by
             unfold repStep
             rw [if_neg]
             intro q
             exact e3 (by rw [if_pos q.2.2.1])
           rw [hno] at hstep
           refine X_lv ?_ (ih (z + 1) S1 (by omega) hfr (by rw [hstep]; exact hN1) (by rw [hstep]; exact hI))
           rw [nI_succ]; rfl)
        | (have e4 : ¬ (if z ∈ (fRo f).drop ((fRo f).idxOf (fFr f)) then (1 : Int32) else 0) = 0 := by exact c155
           refine X_iinc hB dX12_replyComes_175 rfl rfl (by decide) rfl ?_
           refine X_goto (tgt := 110) hB dX12_replyComes_178 (by decide) ?_
           have hno : repStep f (rpY f) ((fRo f).idxOf (fFr f)) z σz = σz := by
             unfold repStep
             rw [if_neg]
             intro q
             exact e4 (by rw [if_neg q.2.2.2])
           rw [hno] at hstep
           refine X_lv ?_ (ih (z + 1) S1 (by omega) hfr (by rw [hstep]; exact hN1) (by rw [hstep]; exact hI))
           rw [nI_succ]; rfl)
      · refine X_aload_n (i := 0) hB dX12_replyComes_137 rfl rfl ?_
        refine X_iload hB dX12_replyComes_138 rfl ?_
        refine X_iconst (v := 1) hB dX12_replyComes_140 (by decide) ?_
        refine X_callV hB kX12_180 cw10 hR.1.1 hR.1.2 (c_ofE (n := z) (w := 1) hR hF1 rfl rfl (by omega) (by omega)) (by decide) (by decide) rfl rfl (Nat.le_of_ble_eq_true rfl) dX12_replyComes_141 (fun r141 S141 q141 => ?_)
        obtain ⟨rfl, rfl⟩ := q141
        refine X_topi (y := if dLis (nNd σz z) then 1 else 0) (hnz.2.1) ?_
        refine X_iconst (v := 1) hB dX12_replyComes_144 (by decide) ?_
        refine X_icmp_ne (tgt := 175) hB dX12_replyComes_145 (by decide) (fun c145 => ?_) (fun c145 => ?_)
        · first
          | (have e1 : (if z ≠ fFr f ∧ nUp σz (fFr f) z = true then (1 : Int32) else 0) = 0 := by exact c128
             refine X_iinc hB dX12_replyComes_175 rfl rfl (by decide) rfl ?_
             refine X_goto (tgt := 110) hB dX12_replyComes_178 (by decide) ?_
             have hno : repStep f (rpY f) ((fRo f).idxOf (fFr f)) z σz = σz := by
               unfold repStep
               rw [if_neg]
               intro q
               exact absurd e1 (by rw [if_pos q.1]; decide)
             rw [hno] at hstep
             refine X_lv ?_ (ih (z + 1) S1 (by omega) hfr (by rw [hstep]; exact hN1) (by rw [hstep]; exact hI))
             rw [nI_succ]; rfl)
          | (have e2 : nI z = nI (rpY f) := by exact c134
             refine X_iinc hB dX12_replyComes_175 rfl rfl (by decide) rfl ?_
             refine X_goto (tgt := 110) hB dX12_replyComes_178 (by decide) ?_
             have hno : repStep f (rpY f) ((fRo f).idxOf (fFr f)) z σz = σz := by
               unfold repStep
               rw [if_neg]
               intro q
               exact q.2.1 (i32_inj (by omega) (by omega) e2)
             rw [hno] at hstep
             refine X_lv ?_ (ih (z + 1) S1 (by omega) hfr (by rw [hstep]; exact hN1) (by rw [hstep]; exact hI))
             rw [nI_succ]; rfl)
          | (have e3 : ¬ (if dLis (nNd σz z) = true then (1 : Int32) else 0) = 1 := by exact c145
             refine X_iinc hB dX12_replyComes_175 rfl rfl (by decide) rfl ?_
             refine X_goto (tgt := 110) hB dX12_replyComes_178 (by decide) ?_
             have hno : repStep f (rpY f) ((fRo f).idxOf (fFr f)) z σz = σz := by
               unfold repStep
               rw [if_neg]
               intro q
               exact e3 (by rw [if_pos q.2.2.1])
             rw [hno] at hstep
             refine X_lv ?_ (ih (z + 1) S1 (by omega) hfr (by rw [hstep]; exact hN1) (by rw [hstep]; exact hI))
             rw [nI_succ]; rfl)
          | (have e4 : ¬ (if z ∈ (fRo f).drop ((fRo f).idxOf (fFr f)) then (1 : Int32) else 0) = 0 := by exact c155
             refine X_iinc hB dX12_replyComes_175 rfl rfl (by decide) rfl ?_
             refine X_goto (tgt := 110) hB dX12_replyComes_178 (by decide) ?_
             have hno : repStep f (rpY f) ((fRo f).idxOf (fFr f)) z σz = σz := by
               unfold repStep
               rw [if_neg]
               intro q
               exact e4 (by rw [if_neg q.2.2.2])
             rw [hno] at hstep
             refine X_lv ?_ (ih (z + 1) S1 (by omega) hfr (by rw [hstep]; exact hN1) (by rw [hstep]; exact hI))
             rw [nI_succ]; rfl)
        · refine X_aload_n (i := 0) hB dX12_replyComes_148 rfl rfl ?_
          refine X_iload hB dX12_replyComes_149 rfl ?_
          refine X_iload_n (i := 2) hB dX12_replyComes_151 rfl rfl ?_
          refine X_callV hB kX12_319 cw10 hR.1.1 hR.1.2 (c_isInRow hR hF1 f hcm hfl hfx z ((fRo f).idxOf (fFr f)) hz8 (Nat.le_of_lt hat)) (by decide) (by decide) rfl rfl (Nat.le_of_ble_eq_true rfl) dX12_replyComes_152 (fun r152 S152 q152 => ?_)
          obtain ⟨rfl, rfl⟩ := q152
          refine X_if_ne (tgt := 175) hB dX12_replyComes_155 (by decide) (fun c155 => ?_) (fun c155 => ?_)
          · first
            | (have e1 : (if z ≠ fFr f ∧ nUp σz (fFr f) z = true then (1 : Int32) else 0) = 0 := by exact c128
               refine X_iinc hB dX12_replyComes_175 rfl rfl (by decide) rfl ?_
               refine X_goto (tgt := 110) hB dX12_replyComes_178 (by decide) ?_
               have hno : repStep f (rpY f) ((fRo f).idxOf (fFr f)) z σz = σz := by
                 unfold repStep
                 rw [if_neg]
                 intro q
                 exact absurd e1 (by rw [if_pos q.1]; decide)
               rw [hno] at hstep
               refine X_lv ?_ (ih (z + 1) S1 (by omega) hfr (by rw [hstep]; exact hN1) (by rw [hstep]; exact hI))
               rw [nI_succ]; rfl)
            | (have e2 : nI z = nI (rpY f) := by exact c134
               refine X_iinc hB dX12_replyComes_175 rfl rfl (by decide) rfl ?_
               refine X_goto (tgt := 110) hB dX12_replyComes_178 (by decide) ?_
               have hno : repStep f (rpY f) ((fRo f).idxOf (fFr f)) z σz = σz := by
                 unfold repStep
                 rw [if_neg]
                 intro q
                 exact q.2.1 (i32_inj (by omega) (by omega) e2)
               rw [hno] at hstep
               refine X_lv ?_ (ih (z + 1) S1 (by omega) hfr (by rw [hstep]; exact hN1) (by rw [hstep]; exact hI))
               rw [nI_succ]; rfl)
            | (have e3 : ¬ (if dLis (nNd σz z) = true then (1 : Int32) else 0) = 1 := by exact c145
               refine X_iinc hB dX12_replyComes_175 rfl rfl (by decide) rfl ?_
               refine X_goto (tgt := 110) hB dX12_replyComes_178 (by decide) ?_
               have hno : repStep f (rpY f) ((fRo f).idxOf (fFr f)) z σz = σz := by
                 unfold repStep
                 rw [if_neg]
                 intro q
                 exact e3 (by rw [if_pos q.2.2.1])
               rw [hno] at hstep
               refine X_lv ?_ (ih (z + 1) S1 (by omega) hfr (by rw [hstep]; exact hN1) (by rw [hstep]; exact hI))
               rw [nI_succ]; rfl)
            | (have e4 : ¬ (if z ∈ (fRo f).drop ((fRo f).idxOf (fFr f)) then (1 : Int32) else 0) = 0 := by exact c155
               refine X_iinc hB dX12_replyComes_175 rfl rfl (by decide) rfl ?_
               refine X_goto (tgt := 110) hB dX12_replyComes_178 (by decide) ?_
               have hno : repStep f (rpY f) ((fRo f).idxOf (fFr f)) z σz = σz := by
                 unfold repStep
                 rw [if_neg]
                 intro q
                 exact e4 (by rw [if_neg q.2.2.2])
               rw [hno] at hstep
               refine X_lv ?_ (ih (z + 1) S1 (by omega) hfr (by rw [hstep]; exact hN1) (by rw [hstep]; exact hI))
               rw [nI_succ]; rfl)
          · have hnear : z ≠ fFr f ∧ nUp σz (fFr f) z = true := Decidable.byContradiction fun q => c128 (by rw [if_neg q])
            have hzy : z ≠ rpY f := fun q => c134 (by rw [q])
            have hlis : dLis (nNd σz z) = true := by
              cases hq : dLis (nNd σz z) with
              | true => rfl
              | false => rw [hq] at c145; exact absurd c145 (by decide)
            have hzr : z ∉ (fRo f).drop ((fRo f).idxOf (fFr f)) := fun q => absurd c155 (by rw [if_pos q]; decide)
            refine X_aload_n (i := 0) hB dX12_replyComes_158 rfl rfl ?_
            refine X_iload hB dX12_replyComes_159 rfl ?_
            refine X_callV hB kX12_313 cw10 hR.1.1 hR.1.2 (c_beginsLesson hR hF1 z) (by decide) (by decide) rfl rfl (Nat.le_of_ble_eq_true rfl) dX12_replyComes_161 (fun r161 S161 q161 => ?_)
            obtain ⟨rfl, f161, g161⟩ := q161
            have h161 : frS (S161.1 (h + 12)) f := by rw [f161.2.1 _ (by simp) (by omega)]; exact hcm
            refine X_aload_n (i := 0) hB dX12_replyComes_164 rfl rfl ?_
            refine X_iload_n (i := 2) hB dX12_replyComes_165 rfl rfl ?_
            refine X_callV hB kX12_340 cw10 hR.1.1 hR.1.2 (c_learnsRow hR (f161.ref hF1) f h161 hfl hfx ((fRo f).idxOf (fFr f)) (Nat.le_of_lt hat) [z] (by show 1 + ((fRo f).length - _) ≤ 9; omega) g161) (by decide) (by decide) rfl rfl (Nat.le_of_ble_eq_true rfl) dX12_replyComes_166 (fun r166 S166 q166 => ?_)
            obtain ⟨rfl, f166, g166⟩ := q166
            have n166 : netR (S166.1 (h + 1)) σz := by rw [f166.2.1 _ (by simp) (by omega), f161.2.1 _ (by simp) (by omega)]; exact hN1
            have hLx : ∀ q ∈ (z :: (fRo f).drop ((fRo f).idxOf (fFr f))), q < 8 := fun q hq => by
              rcases List.mem_cons.mp hq with rfl | hq
              · exact hz8
              · exact hfx q (List.mem_of_mem_drop hq)
            have hLn : (z :: (fRo f).drop ((fRo f).idxOf (fFr f))).Nodup := List.nodup_cons.mpr ⟨hzr, hfn.sublist (List.drop_sublist _ _)⟩
            refine X_aload_n (i := 0) hB dX12_replyComes_169 rfl rfl ?_
            refine X_iload hB dX12_replyComes_170 rfl ?_
            refine X_callV hB kX12_304 cw10 hR.1.1 hR.1.2 (c_learnsN hR (f166.ref (f161.ref hF1)) σz n166 i3 (by rw [i1]; exact hse.2.1.2) z (z :: (fRo f).drop ((fRo f).idxOf (fFr f))) hz8 hLx hLn g166) (by decide) (by decide) rfl rfl (Nat.le_of_ble_eq_true rfl) dX12_replyComes_172 (fun r172 S172 q172 => ?_)
            obtain ⟨rfl, f172, n172, s172⟩ := q172
            refine X_iinc hB dX12_replyComes_175 rfl rfl (by decide) rfl ?_
            refine X_goto (tgt := 110) hB dX12_replyComes_178 (by decide) ?_
            have hyes : repStep f (rpY f) ((fRo f).idxOf (fFr f)) z σz = learnN σz z (z :: (fRo f).drop ((fRo f).idxOf (fFr f))) := by unfold repStep; rw [if_pos ⟨hnear, hzy, hlis, hzr⟩]
            rw [hyes] at hstep
            refine X_lv ?_ (ih (z + 1) _ (by omega) (hfr.tr ((f161.mono (by simp) (by simp)).tr ((f166.mono (by simp) (by simp)).tr (f172.mono (by simp) (by simp))))) (by rw [hstep]; exact n172) (by rw [hstep]; exact ⟨i1, i2, s172⟩))
            rw [nI_succ]; rfl
set_option maxRecDepth 100000 in
set_option maxHeartbeats 4000000 in
theorem c_replyComes (hR : RLay G h) (hF : RRef S h) (f : Fm) (hf : frS (S.1 (h + 12)) f) (hfl : (fRo f).length ≤ 8) (hfx : ∀ x ∈ fRo f, x < 8) (σ : Net) (hse : seOk (nSe σ)) (hfr8 : fFr f < 8) (hfn : (fRo f).Nodup) (hin : fFr f ∈ fRo f) (hne0 : (fRo f).getD 0 0 ≠ fFr f) (hN : netR (S.1 (h + 1)) σ) (hs : szN σ) : C G mX12_replyComes 6 [.ref h] S (fun r S' => r = none ∧ fr h [h + 1, h + 7, h + 8, h + 9, h + 10, h + 11] [20, 22] S S' ∧ netR (S'.1 (h + 1)) (arrRep σ f)) := by
  have hat := List.idxOf_lt_length_of_mem hin
  have hat1 : 1 ≤ ((fRo f).idxOf (fFr f)) := by
    refine Nat.not_lt.mp fun hq => hne0 ?_
    have h0 : ((fRo f).idxOf (fFr f)) = 0 := by omega
    have := List.getElem_idxOf hat
    rw [getD_lt (by omega)]
    simp only [h0] at this
    exact this
  have hy8 : rpY f < 8 := hfx _ (getD_mem (by omega))
  refine C.mk (lv := [some (.ref h), none, none, none, none]) (by decide) (Nat.le_of_ble_eq_true rfl) rfl (fun E hB => ?_)
  refine X_aload_n (i := 0) hB dX12_replyComes_0 rfl rfl ?_
  refine X_getr hB cw10 fX12_45 rfl hR.1.1 hR.1.2 hF.2.2.2.2.2.2.2.2.2.2.2 dX12_replyComes_1 ?_
  refine X_iconst (v := 1) hB dX12_replyComes_4 (by decide) ?_
  refine X_ialdN hB (1) hR.2.2.2.2.2.2.2.2.2.2.2.2.1 hR.2.2.2.2.2.2.2.2.2.2.2.2.2 (by decide) (by first | rfl | (simp (disch := omega) only [nlit, nI_add, nI_mul, nI_sub]; done) | (simp (disch := omega) only [nlit, nI_add, nI_mul, nI_sub]; (congr 1 <;> omega))) (by first | omega | (simp only []; omega)) (show _ = nI (fFr f) from hf.1 1 (by decide)) dX12_replyComes_5 ?_
  refine X_istore_n (i := 1) hB dX12_replyComes_6 rfl (by decide) rfl ?_
  refine X_aload_n (i := 0) hB dX12_replyComes_7 rfl rfl ?_
  refine X_iload_n (i := 1) hB dX12_replyComes_8 rfl rfl ?_
  refine X_callV hB kX12_337 cw10 hR.1.1 hR.1.2 (c_placeOf hR (by exact hF.of rfl) f hf hfl hfx (fFr f) hfr8) (by decide) (by decide) rfl rfl (Nat.le_of_ble_eq_true rfl) dX12_replyComes_9 (fun r9 S9 q9 => ?_)
  obtain ⟨rfl, rfl⟩ := q9
  refine X_istore_n (i := 2) hB dX12_replyComes_12 rfl (by decide) rfl ?_
  refine X_aload_n (i := 0) hB dX12_replyComes_13 rfl rfl ?_
  refine X_iload_n (i := 2) hB dX12_replyComes_14 rfl rfl ?_
  refine X_iconst (v := 1) hB dX12_replyComes_15 (by decide) ?_
  refine X_isub hB dX12_replyComes_16 ?_
  refine X_topi (y := nI (((fRo f).idxOf (fFr f)) - 1)) (by first | rfl | (simp (disch := omega) only [nlit, nI_add, nI_mul, nI_sub]; done) | (simp (disch := omega) only [nlit, nI_add, nI_mul, nI_sub]; (congr 1 <;> omega))) ?_
  refine X_callV hB kX12_274 cw10 hR.1.1 hR.1.2 (c_rowAt hR (by exact hF.of rfl) f hf hfl (i := ((fRo f).idxOf (fFr f)) - 1) (by omega)) (by decide) (by decide) rfl rfl (Nat.le_of_ble_eq_true rfl) dX12_replyComes_17 (fun r17 S17 q17 => ?_)
  obtain ⟨rfl, rfl⟩ := q17
  refine X_topi (y := nI (rpY f)) rfl ?_
  refine X_istore_n (i := 3) hB dX12_replyComes_20 rfl (by decide) rfl ?_
  refine X_aload_n (i := 0) hB dX12_replyComes_21 rfl rfl ?_
  refine X_iload_n (i := 1) hB dX12_replyComes_22 rfl rfl ?_
  refine X_iload_n (i := 3) hB dX12_replyComes_23 rfl rfl ?_
  refine X_callV hB kX12_277 cw10 hR.1.1 hR.1.2 (c_isUp hR (by exact hF.of rfl) hfr8 hy8 (hN.1.2.2.2.2.2 _ _ hfr8 hy8)) (by decide) (by decide) rfl rfl (Nat.le_of_ble_eq_true rfl) dX12_replyComes_24 (fun r24 S24 q24 => ?_)
  obtain ⟨rfl, rfl⟩ := q24
  refine X_if_ne (tgt := 38) hB dX12_replyComes_27 (by decide) (fun c27 => ?_) (fun c27 => ?_)
  · have hup : nUp σ (fFr f) (rpY f) = true := Decidable.byContradiction fun q => c27 (by rw [if_neg q])
    refine X_aload_n (i := 0) hB dX12_replyComes_38 rfl rfl ?_
    refine X_iconst (v := 0) hB dX12_replyComes_39 (by decide) ?_
    refine X_puti hB cw10 fX12_186 rfl rfl hR.1.1 hR.1.2 dX12_replyComes_40 ?_
    refine X_aload_n (i := 0) hB dX12_replyComes_43 rfl rfl ?_
    refine X_iload_n (i := 2) hB dX12_replyComes_44 rfl rfl ?_
    refine X_iconst (v := 1) hB dX12_replyComes_45 (by decide) ?_
    refine X_isub hB dX12_replyComes_46 ?_
    refine X_topi (y := nI (((fRo f).idxOf (fFr f)) - 1)) (by first | rfl | (simp (disch := omega) only [nlit, nI_add, nI_mul, nI_sub]; done) | (simp (disch := omega) only [nlit, nI_add, nI_mul, nI_sub]; (congr 1 <;> omega))) ?_
    refine X_callV hB kX12_340 cw10 hR.1.1 hR.1.2 (c_learnsRow hR (by exact hF.of rfl) f (by rw [setI_row _ _ _ (by omega)]; exact hf) hfl hfx (((fRo f).idxOf (fFr f)) - 1) (by omega) [] (by show 0 + ((fRo f).length - _) ≤ 9; omega) ⟨by rw [setI_at]; rfl, fun i hi => by simp at hi⟩) (by decide) (by decide) rfl rfl (Nat.le_of_ble_eq_true rfl) dX12_replyComes_47 (fun r47 S47 q47 => ?_)
    obtain ⟨rfl, f47, g47⟩ := q47
    rw [List.nil_append] at g47
    have hF47 : RRef S47 h := f47.ref (hF.of rfl)
    have n47 : netR (S47.1 (h + 1)) σ := by rw [f47.2.1 _ (by simp) (by omega), setI_row _ _ _ (by omega)]; exact hN
    refine X_aload_n (i := 0) hB dX12_replyComes_50 rfl rfl ?_
    refine X_iload_n (i := 3) hB dX12_replyComes_51 rfl rfl ?_
    refine X_callV hB kX12_304 cw10 hR.1.1 hR.1.2 (c_learnsN hR hF47 σ n47 hs hse.2.1.2 (rpY f) ((fRo f).drop (((fRo f).idxOf (fFr f)) - 1)) hy8 (fun q hq => hfx q (List.mem_of_mem_drop hq)) (hfn.sublist (List.drop_sublist _ _)) g47) (by decide) (by decide) rfl rfl (Nat.le_of_ble_eq_true rfl) dX12_replyComes_52 (fun r52 S52 q52 => ?_)
    obtain ⟨rfl, f52, n52, s52⟩ := q52
    have n52 : netR (S52.1 (h + 1)) (rpLa σ f) := n52
    have s52 : szN (rpLa σ f) := s52
    have hF52 := f52.ref hF47
    have hfr52 : fr h [h + 1, h + 7, h + 8, h + 9, h + 10, h + 11] [20, 22] S S52 := (fr.fld (by simp)).tr ((f47.mono (by simp) (by simp)).tr (f52.mono (by simp) (by simp)))
    have h52 : frS (S52.1 (h + 12)) f := by rw [f52.2.1 _ (by simp) (by omega), f47.2.1 _ (by simp) (by omega), setI_row _ _ _ (by omega)]; exact hf
    refine X_iload_n (i := 2) hB dX12_replyComes_55 rfl rfl ?_
    refine X_iconst (v := 1) hB dX12_replyComes_56 (by decide) ?_
    refine X_icmp_le (tgt := 107) hB dX12_replyComes_57 (by decide) (fun c57 => ?_) (fun c57 => ?_)
    · have hat9 : ¬ 1 < ((fRo f).idxOf (fFr f)) := by (have c9 := c57); simp (disch := omega) only [nlit, nI_leI, nI_ltI] at c9; omega
      have hr2 : rpLb σ f = rpLa σ f := by unfold rpLb; rw [if_neg hat9]
      refine X_iconst (v := 0) hB dX12_replyComes_107 (by decide) ?_
      refine X_istore hB dX12_replyComes_108 (by decide) rfl ?_
      refine X_lv (lv' := [some (.ref h), some (.int (nI (fFr f))), some (.int (nI ((fRo f).idxOf (fFr f)))), some (.int (nI (rpY f))), some (.int (nI 0))]) (by rw [nI_0]; rfl) (l_rp2 (S := S52) hR (hfr52.ref hF) hB f h52 hfl hfx σ hse hfr8 hfn hin (rpLb σ f) (fun S9 g1 g2 => ⟨rfl, hfr52.tr g1, ?_⟩) (nSe σ 0) 0 S52 (by omega) fr.rf (by rw [hr2]; exact n52) (by rw [hr2]; exact ⟨rfl, rfl, s52⟩))
      unfold arrRep
      rw [if_pos hup]
      exact g2
    · have hat9 : 1 < ((fRo f).idxOf (fFr f)) := by (have c9 := c57); simp (disch := omega) only [nlit, nI_leI, nI_ltI] at c9; omega
      refine X_aload_n (i := 0) hB dX12_replyComes_60 rfl rfl ?_
      refine X_iconst (v := 2) hB dX12_replyComes_61 (by decide) ?_
      refine X_iload_n (i := 3) hB dX12_replyComes_62 rfl rfl ?_
      refine X_iconst (v := (-1)) hB dX12_replyComes_63 (by decide) ?_
      refine X_iconst (v := (-1)) hB dX12_replyComes_64 (by decide) ?_
      refine X_iconst (v := (-1)) hB dX12_replyComes_65 (by decide) ?_
      refine X_iconst (v := (-1)) hB dX12_replyComes_66 (by decide) ?_
      refine X_callV hB kX12_249 cw10 hR.1.1 hR.1.2 (c_beginsFrame hR hF52 (2, rpY f, 0, 0, none, []) rfl) (by decide) (by decide) rfl rfl (Nat.le_of_ble_eq_true rfl) dX12_replyComes_67 (fun r67 S67 q67 => ?_)
      obtain ⟨rfl, f67, g67⟩ := q67
      have h67 : frS (S67.1 (h + 12)) f := by rw [f67.2.1 _ (by simp) (by omega)]; exact h52
      refine X_iconst (v := 0) hB dX12_replyComes_70 (by decide) ?_
      refine X_istore hB dX12_replyComes_71 (by decide) rfl ?_
      refine X_lv (lv' := [some (.ref h), some (.int (nI (fFr f))), some (.int (nI ((fRo f).idxOf (fFr f)))), some (.int (nI (rpY f))), some (.int (nI 0))]) (by rw [nI_0]; rfl) (l_rp1 (S := S67) hR (f67.ref hF52) hB f h67 hfl hfx (2, rpY f, 0, 0, none, []) (fun S8 v8 m1 m2 => ?_) (fRo f).length 0 S67 (by omega) fr.rf (by rw [List.take_zero]; exact g67))
      have n8 : netR (S8.1 (h + 1)) (rpLa σ f) := by rw [m1.2.1 _ (by simp) (by omega), f67.2.1 _ (by simp) (by omega)]; exact n52
      have h8 : frS (S8.1 (h + 12)) f := by rw [m1.2.1 _ (by simp) (by omega)]; exact h67
      refine X_aload_n (i := 0) hB dX12_replyComes_101 rfl rfl ?_
      refine X_callV hB kX12_253 cw10 hR.1.1 hR.1.2 (c_sends hR (m1.ref (f67.ref hF52)) (rpLa σ f) (2, rpY f, 0, 0, none, fRo f) n8 s52 (by show 2 ≤ 3; omega) m2 hfl) (by decide) (by decide) rfl rfl (Nat.le_of_ble_eq_true rfl) dX12_replyComes_102 (fun r102 S102 q102 => ?_)
      obtain ⟨rfl, f102, n102⟩ := q102
      have s102 : szN (sendF (rpLa σ f) (2, rpY f, 0, 0, none, fRo f)).1 := szN_send s52 hfl
      have hfr102 : fr h [h + 1, h + 7, h + 8, h + 9, h + 10, h + 11] [20, 22] S S102 := hfr52.tr ((f67.mono (by simp) (by simp)).tr ((m1.mono (by simp) (by simp)).tr (f102.mono (by simp) (by simp))))
      have h102 : frS (S102.1 (h + 12)) f := by rw [f102.2.1 _ (by simp) (by omega)]; exact h8
      have hr2 : rpLb σ f = (sendF (rpLa σ f) (2, rpY f, 0, 0, none, fRo f)).1 := by unfold rpLb; rw [if_pos hat9]
      refine X_istore hB dX12_replyComes_105 (by decide) rfl ?_
      refine X_iconst (v := 0) hB dX12_replyComes_107 (by decide) ?_
      refine X_istore hB dX12_replyComes_108 (by decide) rfl ?_
      refine X_lv (lv' := [some (.ref h), some (.int (nI (fFr f))), some (.int (nI ((fRo f).idxOf (fFr f)))), some (.int (nI (rpY f))), some (.int (nI 0))]) (by rw [nI_0]; rfl) (l_rp2 (S := S102) hR (hfr102.ref hF) hB f h102 hfl hfx σ hse hfr8 hfn hin (rpLb σ f) (fun S9 g1 g2 => ⟨rfl, hfr102.tr g1, ?_⟩) (nSe σ 0) 0 S102 (by omega) fr.rf (by rw [hr2]; exact n102) (by rw [hr2]; exact ⟨(se_send (σ := rpLa σ f)).trans rfl, (up_send (σ := rpLa σ f)).trans rfl, s102⟩))
      unfold arrRep
      rw [if_pos hup]
      exact g2
  · have hup : ¬ nUp σ (fFr f) (rpY f) = true := fun q => absurd c27 (by rw [if_pos q]; decide)
    refine X_aload_n (i := 0) hB dX12_replyComes_30 rfl rfl ?_
    refine X_iload_n (i := 1) hB dX12_replyComes_31 rfl rfl ?_
    refine X_iload_n (i := 1) hB dX12_replyComes_32 rfl rfl ?_
    refine X_iload_n (i := 3) hB dX12_replyComes_33 rfl rfl ?_
    refine X_callV hB kX12_218 cw10 hR.1.1 hR.1.2 (c_forgetsN hR (by exact hF.of rfl) σ hN hs (fFr f) (fFr f) (rpY f) hfr8 hfr8 hy8) (by decide) (by decide) rfl rfl (Nat.le_of_ble_eq_true rfl) dX12_replyComes_34 (fun r34 S34 q34 => ?_)
    obtain ⟨rfl, f34, n34, s34⟩ := q34
    refine X_vret hB rfl dX12_replyComes_37 ?_
    refine ⟨rfl, f34.mono (by simp) (by simp), ?_⟩
    unfold arrRep
    rw [if_neg hup]
    exact n34
end REF
