def shR (σ : Net) (d z : Nat) : List Nat := (aTr (dat σ d)).take ((aTr (dat σ d)).length - 1) ++ (aRe (dat σ d)).drop ((aRe (dat σ d)).tail.idxOf z + 1)
def shF (σ : Net) (d z : Nat) : Fm := (2, z, 0, 0, none, shR σ d z)
def shortenD (σ : Net) (d z : Nat) : Net := if z ∈ (aRe (dat σ d)).tail ∧ (aSh (dat σ d)).testBit z = false then (sendF (uTa (uDa σ d (dSh (dat σ d) (aSh (dat σ d) ||| 1 <<< z))) 5) (shF σ d z)).1 else σ
theorem tail_at {l : List Nat} {j : Nat} : l.tail.getD j 0 = l.getD (j + 1) 0 := by cases l <;> simp
theorem idx_first {l : List Nat} {z i : Nat} (hi : i < l.length) (h1 : l.getD i 0 = z) (h2 : ∀ j, j < i → l.getD j 0 ≠ z) : l.idxOf z = i ∧ z ∈ l := by
  refine ⟨?_, h1 ▸ getD_mem hi⟩
  induction l generalizing i with
  | nil => simp at hi
  | cons a t ih =>
    cases i with
    | zero => simp at h1; subst h1; simp
    | succ i =>
      have h0 : a ≠ z := by simpa using h2 0 (by omega)
      rw [List.idxOf_cons, show (a == z) = false by simpa using h0]
      have := ih (i := i) (by simpa using hi) (by simpa using h1) (fun j hj => by simpa using h2 (j + 1) (by omega))
      simp [this]
theorem not_mem_all {l : List Nat} {z : Nat} (h : ∀ j, j < l.length → l.getD j 0 ≠ z) : z ∉ l := by
  intro hm
  obtain ⟨i, hi, e⟩ := List.mem_iff_getElem.mp hm
  exact h i hi (by rw [getD_lt hi]; exact e)
section REF
variable {G : Gc} {S : St} {h : Nat}
set_option maxRecDepth 100000 in
set_option maxHeartbeats 4000000 in
theorem l_sh1 (hR : RLay G h) (hF : RRef S h) {E : Ev} (hB : Bd G E mX12_shortens) {Q : Option Value → St → Prop} (σ : Net) (hN : netR (S.1 (h + 1)) σ) (hs : szN σ) (d : Nat) (hd : d < (nDa σ).length) (x z : Nat) (hz : z < 8) (hrx : ∀ y ∈ (aRe (dat σ d)), y < 8) (k0 : z ∉ (aRe (dat σ d)).tail → X G E mX12_shortens 2 Q S 38 [some (.ref h), some (.int (nI d)), some (.int (nI x)), some (.int (nI z)), some (.int (nI (aRe (dat σ d)).length)), some (.int (nI (aRe (dat σ d)).length)), none] []) (k1 : z ∈ (aRe (dat σ d)).tail → X G E mX12_shortens 2 Q S 38 [some (.ref h), some (.int (nI d)), some (.int (nI x)), some (.int (nI z)), some (.int (nI (aRe (dat σ d)).length)), some (.int (nI ((aRe (dat σ d)).tail.idxOf z + 1))), none] []) (hr1 : 1 ≤ (aRe (dat σ d)).length) :
    ∀ (k i : Nat), i + k = (aRe (dat σ d)).length → 1 ≤ i → (∀ j, j < i - 1 → (aRe (dat σ d)).tail.getD j 0 ≠ z) → X G E mX12_shortens 2 Q S 11 [some (.ref h), some (.int (nI d)), some (.int (nI x)), some (.int (nI z)), some (.int (nI (aRe (dat σ d)).length)), some (.int (nI i)), none] [] := by
  have hd40 := hs.2.1
  have hl := dat_len hs hd
  have hx := hN.2.2.2 d hd
  intro k
  induction k with
  | zero =>
    intro i h1 h2 h3
    refine X_iload hB dX12_shortens_11 rfl ?_
    refine X_iload hB dX12_shortens_13 rfl ?_
    refine X_icmp_ge (tgt := 38) hB dX12_shortens_15 (by decide) (fun c15 => ?_) (fun c15 => absurd c15 (by simp (disch := omega) only [nlit, nI_leI, nI_ltI]; omega))
    have e9 : i = (aRe (dat σ d)).length := by omega
    rw [e9]
    exact k0 (not_mem_all (fun j hj => h3 j (by rw [List.length_tail] at hj; omega)))
  | succ k ih =>
    intro i h1 h2 h3
    have b1 : (aRe (dat σ d)).getD i 0 < 8 := hrx _ (getD_mem (by omega))
    have hti : (aRe (dat σ d)).tail.getD (i - 1) 0 = (aRe (dat σ d)).getD i 0 := by rw [tail_at, show i - 1 + 1 = i by omega]
    refine X_iload hB dX12_shortens_11 rfl ?_
    refine X_iload hB dX12_shortens_13 rfl ?_
    refine X_icmp_ge (tgt := 38) hB dX12_shortens_15 (by decide) (fun c15 => absurd c15 (by simp (disch := omega) only [nlit, nI_leI, nI_ltI]; omega)) (fun c15 => ?_)
    refine X_aload_n (i := 0) hB dX12_shortens_18 rfl rfl ?_
    refine X_iload_n (i := 1) hB dX12_shortens_19 rfl rfl ?_
    refine X_bipush (v := 18) hB dX12_shortens_20 (by decide) ?_
    refine X_iload hB dX12_shortens_22 rfl ?_
    refine X_iadd hB dX12_shortens_24 ?_
    refine X_callV hB kX12_246 cw10 hR.1.1 hR.1.2 (c_ofDE (w := 18 + i) hR (by exact hF.of rfl) rfl (by first | rfl | (simp (disch := omega) only [nlit, nI_add, nI_mul, nI_sub]; done) | (simp (disch := omega) only [nlit, nI_add, nI_mul, nI_sub]; (congr 1 <;> omega))) (by omega) (by omega)) (by decide) (by decide) rfl rfl (Nat.le_of_ble_eq_true rfl) dX12_shortens_25 (fun r25 S25 q25 => ?_)
    obtain ⟨rfl, rfl⟩ := q25
    refine X_topi (y := nI ((aRe (dat σ d)).getD i 0)) (hx.2.2.2.2.2.2.2.2.2.2.2 i (by omega)) ?_
    refine X_iload_n (i := 3) hB dX12_shortens_28 rfl rfl ?_
    refine X_icmp_eq (tgt := 38) hB dX12_shortens_29 (by decide) (fun c29 => ?_) (fun c29 => ?_)
    · have e9 : (aRe (dat σ d)).getD i 0 = z := i32_inj (by omega) (by omega) (by first | exact c29 | exact Decidable.not_not.mp c29)
      have hq := idx_first (l := (aRe (dat σ d)).tail) (z := z) (i := i - 1) (by rw [List.length_tail]; omega) (by rw [hti]; exact e9) h3
      have := k1 hq.2
      rw [hq.1, show i - 1 + 1 = i by omega] at this
      exact this
    · refine X_iinc hB dX12_shortens_32 rfl rfl (by decide) rfl ?_
      refine X_goto (tgt := 11) hB dX12_shortens_35 (by decide) ?_
      refine X_lv ?_ (ih (i + 1) (by omega) (by omega) (fun j hj => ?_))
      · rw [nI_succ]; rfl
      · by_cases hji : j = i - 1
        · rw [hji, hti]; exact fun q => c29 (by rw [q])
        · exact h3 j (by omega)
set_option maxRecDepth 100000 in
set_option maxHeartbeats 4000000 in
theorem l_sh2 (hR : RLay G h) (hF : RRef S h) {E : Ev} (hB : Bd G E mX12_shortens) {Q : Option Value → St → Prop} (σ : Net) (hN : netR (S.1 (h + 1)) σ) (hs : szN σ) (d : Nat) (hd : d < (nDa σ).length) (x z : Nat) (a9 : Nat) (ht1 : 1 ≤ (aTr (dat σ d)).length) (f0_ : Fm) (hf00 : fRo f0_ = []) (kk : ∀ S2 v, fr h [h + 11] [] S S2 → frS (S2.1 (h + 11)) (f0_.1, f0_.2.1, f0_.2.2.1, f0_.2.2.2.1, f0_.2.2.2.2.1, (aTr (dat σ d)).take ((aTr (dat σ d)).length - 1)) → X G E mX12_shortens 2 Q S2 127 [some (.ref h), some (.int (nI d)), some (.int (nI x)), some (.int (nI z)), some (.int (nI (aRe (dat σ d)).length)), some (.int (nI a9)), some (.int v)] []) :
    ∀ (k i : Nat) (S1 : St), i + k = (aTr (dat σ d)).length - 1 → fr h [h + 11] [] S S1 → frS (S1.1 (h + 11)) (f0_.1, f0_.2.1, f0_.2.2.1, f0_.2.2.2.1, f0_.2.2.2.2.1, (aTr (dat σ d)).take i) → X G E mX12_shortens 2 Q S1 97 [some (.ref h), some (.int (nI d)), some (.int (nI x)), some (.int (nI z)), some (.int (nI (aRe (dat σ d)).length)), some (.int (nI a9)), some (.int (nI i))] [] := by
  have hd40 := hs.2.1
  have hl := dat_len hs hd
  intro k
  induction k with
  | zero =>
    intro i S1 h1 hfr hf
    have hN1 : netR (S1.1 (h + 1)) σ := by rw [hfr.2.1 _ (by simp) (by omega)]; exact hN
    refine X_iload hB dX12_shortens_97 rfl ?_
    refine X_aload_n (i := 0) hB dX12_shortens_99 rfl rfl ?_
    refine X_iload_n (i := 1) hB dX12_shortens_100 rfl rfl ?_
    refine X_iconst (v := 4) hB dX12_shortens_101 (by decide) ?_
    refine X_callV hB kX12_246 cw10 hR.1.1 hR.1.2 (c_ofDE (n := d) (w := 4) hR (hfr.ref hF) rfl rfl (by omega) (by omega)) (by decide) (by decide) rfl rfl (Nat.le_of_ble_eq_true rfl) dX12_shortens_102 (fun r102 S102 q102 => ?_)
    obtain ⟨rfl, rfl⟩ := q102
    refine X_topi (y := nI (aTr (dat σ d)).length) ((hN1.2.2.2 d hd).2.2.2.2.1) ?_
    refine X_iconst (v := 1) hB dX12_shortens_105 (by decide) ?_
    refine X_isub hB dX12_shortens_106 ?_
    refine X_topi (y := nI ((aTr (dat σ d)).length - 1)) (by first | rfl | (simp (disch := omega) only [nlit, nI_add, nI_mul, nI_sub]; done) | (simp (disch := omega) only [nlit, nI_add, nI_mul, nI_sub]; (congr 1 <;> omega))) ?_
    refine X_icmp_ge (tgt := 127) hB dX12_shortens_107 (by decide) (fun c107 => ?_) (fun c107 => absurd c107 (by simp (disch := omega) only [nlit, nI_leI, nI_ltI]; omega))
    have e9 : i = (aTr (dat σ d)).length - 1 := by omega
    rw [e9] at hf
    exact kk S1 _ hfr hf
  | succ k ih =>
    intro i S1 h1 hfr hf
    have hN1 : netR (S1.1 (h + 1)) σ := by rw [hfr.2.1 _ (by simp) (by omega)]; exact hN
    refine X_iload hB dX12_shortens_97 rfl ?_
    refine X_aload_n (i := 0) hB dX12_shortens_99 rfl rfl ?_
    refine X_iload_n (i := 1) hB dX12_shortens_100 rfl rfl ?_
    refine X_iconst (v := 4) hB dX12_shortens_101 (by decide) ?_
    refine X_callV hB kX12_246 cw10 hR.1.1 hR.1.2 (c_ofDE (n := d) (w := 4) hR (hfr.ref hF) rfl rfl (by omega) (by omega)) (by decide) (by decide) rfl rfl (Nat.le_of_ble_eq_true rfl) dX12_shortens_102 (fun r102 S102 q102 => ?_)
    obtain ⟨rfl, rfl⟩ := q102
    refine X_topi (y := nI (aTr (dat σ d)).length) ((hN1.2.2.2 d hd).2.2.2.2.1) ?_
    refine X_iconst (v := 1) hB dX12_shortens_105 (by decide) ?_
    refine X_isub hB dX12_shortens_106 ?_
    refine X_topi (y := nI ((aTr (dat σ d)).length - 1)) (by first | rfl | (simp (disch := omega) only [nlit, nI_add, nI_mul, nI_sub]; done) | (simp (disch := omega) only [nlit, nI_add, nI_mul, nI_sub]; (congr 1 <;> omega))) ?_
    refine X_icmp_ge (tgt := 127) hB dX12_shortens_107 (by decide) (fun c107 => absurd c107 (by simp (disch := omega) only [nlit, nI_leI, nI_ltI]; omega)) (fun c107 => ?_)
    refine X_aload_n (i := 0) hB dX12_shortens_110 rfl rfl ?_
    refine X_aload_n (i := 0) hB dX12_shortens_111 rfl rfl ?_
    refine X_iload_n (i := 1) hB dX12_shortens_112 rfl rfl ?_
    refine X_iload hB dX12_shortens_113 rfl ?_
    refine X_callV hB kX12_280 cw10 hR.1.1 hR.1.2 (c_trailAt hR (hfr.ref hF) σ hN1 hs d hd (i := i) (by omega)) (by decide) (by decide) rfl rfl (Nat.le_of_ble_eq_true rfl) dX12_shortens_115 (fun r115 S115 q115 => ?_)
    obtain ⟨rfl, rfl⟩ := q115
    refine X_callV hB kX12_262 cw10 hR.1.1 hR.1.2 (c_addsFrame hR (hfr.ref hF) (f0_.1, f0_.2.1, f0_.2.2.1, f0_.2.2.2.1, f0_.2.2.2.2.1, (aTr (dat σ d)).take i) ((aTr (dat σ d)).getD i 0) (by show ((aTr (dat σ d)).take i).length ≤ 8; rw [List.length_take]; omega) hf) (by decide) (by decide) rfl rfl (Nat.le_of_ble_eq_true rfl) dX12_shortens_118 (fun r118 S118 q118 => ?_)
    obtain ⟨rfl, f118, g118⟩ := q118
    refine X_iinc hB dX12_shortens_121 rfl rfl (by decide) rfl ?_
    refine X_goto (tgt := 97) hB dX12_shortens_124 (by decide) ?_
    refine X_lv ?_ (ih (i + 1) _ (by omega) (hfr.tr f118) ?_)
    · rw [nI_succ]; rfl
    · rw [List.take_succ_eq_append_getElem (show i < (aTr (dat σ d)).length by omega), ← getD_lt (d := 0)]
      exact g118
set_option maxRecDepth 100000 in
set_option maxHeartbeats 4000000 in
theorem l_sh3 (hR : RLay G h) (hF : RRef S h) {E : Ev} (hB : Bd G E mX12_shortens) {Q : Option Value → St → Prop} (σ : Net) (hN : netR (S.1 (h + 1)) σ) (hs : szN σ) (d : Nat) (hd : d < (nDa σ).length) (x z : Nat) (a9 : Nat) (fin : Fm) (kk : ∀ S2 v, fr h [h + 11] [] S S2 → frS (S2.1 (h + 11)) fin → X G E mX12_shortens 2 Q S2 158 [some (.ref h), some (.int (nI d)), some (.int (nI x)), some (.int (nI z)), some (.int (nI (aRe (dat σ d)).length)), some (.int (nI a9)), some (.int v)] []) :
    ∀ (k i : Nat) (f : Fm) (S1 : St), i + k = (aRe (dat σ d)).length → (fRo f).length + k ≤ 8 → fr h [h + 11] [] S S1 → frS (S1.1 (h + 11)) f → (f.1, f.2.1, f.2.2.1, f.2.2.2.1, f.2.2.2.2.1, fRo f ++ (aRe (dat σ d)).drop i) = fin → X G E mX12_shortens 2 Q S1 131 [some (.ref h), some (.int (nI d)), some (.int (nI x)), some (.int (nI z)), some (.int (nI (aRe (dat σ d)).length)), some (.int (nI a9)), some (.int (nI i))] [] := by
  have hd40 := hs.2.1
  have hl := dat_len hs hd
  intro k
  induction k with
  | zero =>
    intro i f S1 h1 h2 hfr hf hfin
    refine X_iload hB dX12_shortens_131 rfl ?_
    refine X_iload hB dX12_shortens_133 rfl ?_
    refine X_icmp_ge (tgt := 158) hB dX12_shortens_135 (by decide) (fun c135 => ?_) (fun c135 => absurd c135 (by simp (disch := omega) only [nlit, nI_leI, nI_ltI]; omega))
    rw [List.drop_of_length_le (by omega), List.append_nil] at hfin
    exact kk S1 _ hfr (by rw [← hfin]; exact hf)
  | succ k ih =>
    intro i f S1 h1 h2 hfr hf hfin
    have hN1 : netR (S1.1 (h + 1)) σ := by rw [hfr.2.1 _ (by simp) (by omega)]; exact hN
    refine X_iload hB dX12_shortens_131 rfl ?_
    refine X_iload hB dX12_shortens_133 rfl ?_
    refine X_icmp_ge (tgt := 158) hB dX12_shortens_135 (by decide) (fun c135 => absurd c135 (by simp (disch := omega) only [nlit, nI_leI, nI_ltI]; omega)) (fun c135 => ?_)
    refine X_aload_n (i := 0) hB dX12_shortens_138 rfl rfl ?_
    refine X_aload_n (i := 0) hB dX12_shortens_139 rfl rfl ?_
    refine X_iload_n (i := 1) hB dX12_shortens_140 rfl rfl ?_
    refine X_bipush (v := 18) hB dX12_shortens_141 (by decide) ?_
    refine X_iload hB dX12_shortens_143 rfl ?_
    refine X_iadd hB dX12_shortens_145 ?_
    refine X_callV hB kX12_246 cw10 hR.1.1 hR.1.2 (c_ofDE (n := d) (w := 18 + i) hR (hfr.ref hF) rfl (by first | rfl | (simp (disch := omega) only [nlit, nI_add, nI_mul, nI_sub]; done) | (simp (disch := omega) only [nlit, nI_add, nI_mul, nI_sub]; (congr 1 <;> omega))) (by omega) (by omega)) (by decide) (by decide) rfl rfl (Nat.le_of_ble_eq_true rfl) dX12_shortens_146 (fun r146 S146 q146 => ?_)
    obtain ⟨rfl, rfl⟩ := q146
    refine X_topi (y := nI ((aRe (dat σ d)).getD i 0)) ((hN1.2.2.2 d hd).2.2.2.2.2.2.2.2.2.2.2 i (by omega)) ?_
    refine X_callV hB kX12_262 cw10 hR.1.1 hR.1.2 (c_addsFrame hR (hfr.ref hF) f ((aRe (dat σ d)).getD i 0) (by omega) hf) (by decide) (by decide) rfl rfl (Nat.le_of_ble_eq_true rfl) dX12_shortens_149 (fun r149 S149 q149 => ?_)
    obtain ⟨rfl, f149, g149⟩ := q149
    refine X_iinc hB dX12_shortens_152 rfl rfl (by decide) rfl ?_
    refine X_goto (tgt := 131) hB dX12_shortens_155 (by decide) ?_
    refine X_lv ?_ (ih (i + 1) (fAdd f ((aRe (dat σ d)).getD i 0)) _ (by omega) (by show (fRo f ++ [_]).length + k ≤ 8; rw [List.length_append]; show (fRo f).length + 1 + k ≤ 8; omega) (hfr.tr f149) g149 ?_)
    · rw [nI_succ]; rfl
    · rw [← hfin]
      show (f.1, f.2.1, f.2.2.1, f.2.2.2.1, f.2.2.2.2.1, (fRo f ++ [(aRe (dat σ d)).getD i 0]) ++ (aRe (dat σ d)).drop (i + 1)) = _
      rw [List.append_assoc, List.drop_eq_getElem_cons (show i < (aRe (dat σ d)).length by omega), getD_lt (by omega)]
      rfl
set_option maxRecDepth 100000 in
set_option maxHeartbeats 4000000 in
theorem c_shortens (hR : RLay G h) (hF : RRef S h) (σ : Net) (hN : netR (S.1 (h + 1)) σ) (hs : szN σ) (d : Nat) (hd : d < (nDa σ).length) (x z : Nat) (hz : z < 8) (ht1 : 1 ≤ (aTr (dat σ d)).length) (hr1 : 1 ≤ (aRe (dat σ d)).length) (hnd : ((aTr (dat σ d)) ++ (aRe (dat σ d)).tail).Nodup) (htx : ∀ y ∈ (aTr (dat σ d)), y < 8) (hrx : ∀ y ∈ (aRe (dat σ d)), y < 8) (hsh : aSh (dat σ d) < 256) : C G mX12_shortens 2 [.ref h, .int (nI d), .int (nI x), .int (nI z)] S (fun r S' => r = none ∧ fr h [h + 1, h + 11] [] S S' ∧ netR (S'.1 (h + 1)) (shortenD σ d z)) := by
  have hd40 := hs.2.1
  have hl := dat_len hs hd
  have hx := hN.2.2.2 d hd
  have hsum : (aTr (dat σ d)).length + ((aRe (dat σ d)).length - 1) ≤ 8 := by
    have := nodup8 hnd (fun y hy => (List.mem_append.mp hy).elim (htx y) (fun q => hrx y (List.mem_of_mem_tail q)))
    rw [List.length_append, List.length_tail] at this
    exact this
  refine C.mk (lv := [some (.ref h), some (.int (nI d)), some (.int (nI x)), some (.int (nI z)), none, none, none]) (by decide) (Nat.le_of_ble_eq_true rfl) rfl (fun E hB => ?_)
  refine X_aload_n (i := 0) hB dX12_shortens_0 rfl rfl ?_
  refine X_iload_n (i := 1) hB dX12_shortens_1 rfl rfl ?_
  refine X_iconst (v := 5) hB dX12_shortens_2 (by decide) ?_
  refine X_callV hB kX12_246 cw10 hR.1.1 hR.1.2 (c_ofDE (w := 5) hR (by exact hF.of rfl) rfl (by first | rfl | (simp (disch := omega) only [nlit, nI_add, nI_mul, nI_sub]; done) | (simp (disch := omega) only [nlit, nI_add, nI_mul, nI_sub]; (congr 1 <;> omega))) (by omega) (by omega)) (by decide) (by decide) rfl rfl (Nat.le_of_ble_eq_true rfl) dX12_shortens_3 (fun r3 S3 q3 => ?_)
  obtain ⟨rfl, rfl⟩ := q3
  refine X_topi (y := nI (aRe (dat σ d)).length) (hx.2.2.2.2.2.1) ?_
  refine X_istore hB dX12_shortens_6 (by decide) rfl ?_
  refine X_iconst (v := 1) hB dX12_shortens_8 (by decide) ?_
  refine X_istore hB dX12_shortens_9 (by decide) rfl ?_
  refine X_lv (lv' := [some (.ref h), some (.int (nI d)), some (.int (nI x)), some (.int (nI z)), some (.int (nI (aRe (dat σ d)).length)), some (.int (nI 1)), none]) rfl (l_sh1 hR hF hB σ hN hs d hd x z hz hrx (fun hno => ?_) (fun hin => ?_) hr1 ((aRe (dat σ d)).length - 1) 1 (by omega) (Nat.le_refl _) (fun j hj => by omega))
  · refine X_iload hB dX12_shortens_38 rfl ?_
    refine X_iload hB dX12_shortens_40 rfl ?_
    refine X_icmp_ge (tgt := 59) hB dX12_shortens_42 (by decide) (fun c42 => ?_) (fun c42 => absurd c42 (by simp (disch := omega) only [nlit, nI_leI, nI_ltI]; omega))
    refine X_vret hB rfl dX12_shortens_59 ?_
    refine ⟨rfl, fr.rf, ?_⟩
    unfold shortenD
    rw [if_neg (fun q => hno q.1)]
    exact hN
  · have hia : (aRe (dat σ d)).tail.idxOf z < (aRe (dat σ d)).length - 1 := by
      have := List.idxOf_lt_length_of_mem hin
      rwa [List.length_tail] at this
    refine X_iload hB dX12_shortens_38 rfl ?_
    refine X_iload hB dX12_shortens_40 rfl ?_
    refine X_icmp_ge (tgt := 59) hB dX12_shortens_42 (by decide) (fun c42 => absurd c42 (by simp (disch := omega) only [nlit, nI_leI, nI_ltI]; omega)) (fun c42 => ?_)
    refine X_aload_n (i := 0) hB dX12_shortens_45 rfl rfl ?_
    refine X_iload_n (i := 1) hB dX12_shortens_46 rfl rfl ?_
    refine X_bipush (v := 8) hB dX12_shortens_47 (by decide) ?_
    refine X_callV hB kX12_246 cw10 hR.1.1 hR.1.2 (c_ofDE (w := 8) hR (by exact hF.of rfl) rfl (by first | rfl | (simp (disch := omega) only [nlit, nI_add, nI_mul, nI_sub]; done) | (simp (disch := omega) only [nlit, nI_add, nI_mul, nI_sub]; (congr 1 <;> omega))) (by omega) (by omega)) (by decide) (by decide) rfl rfl (Nat.le_of_ble_eq_true rfl) dX12_shortens_49 (fun r49 S49 q49 => ?_)
    obtain ⟨rfl, rfl⟩ := q49
    refine X_topi (y := nI (aSh (dat σ d))) (hx.2.2.2.2.2.2.2.2.1) ?_
    refine X_iload_n (i := 3) hB dX12_shortens_52 rfl rfl ?_
    refine X_callS hB kX12_166 (c_has hsh hz) (by decide) (by decide) rfl rfl (Nat.le_of_ble_eq_true rfl) dX12_shortens_53 (fun r53 S53 q53 => ?_)
    obtain ⟨rfl, rfl⟩ := q53
    refine X_if_eq (tgt := 60) hB dX12_shortens_56 (by decide) (fun c56 => ?_) (fun c56 => ?_)
    · have hbit : (aSh (dat σ d)).testBit z = false := by
        cases hq : (aSh (dat σ d)).testBit z with
        | false => rfl
        | true => rw [hq] at c56; exact absurd c56 (by decide)
      refine X_aload_n (i := 0) hB dX12_shortens_60 rfl rfl ?_
      refine X_iload_n (i := 1) hB dX12_shortens_61 rfl rfl ?_
      refine X_bipush (v := 8) hB dX12_shortens_62 (by decide) ?_
      refine X_aload_n (i := 0) hB dX12_shortens_64 rfl rfl ?_
      refine X_iload_n (i := 1) hB dX12_shortens_65 rfl rfl ?_
      refine X_bipush (v := 8) hB dX12_shortens_66 (by decide) ?_
      refine X_callV hB kX12_246 cw10 hR.1.1 hR.1.2 (c_ofDE (w := 8) hR (by exact hF.of rfl) rfl (by first | rfl | (simp (disch := omega) only [nlit, nI_add, nI_mul, nI_sub]; done) | (simp (disch := omega) only [nlit, nI_add, nI_mul, nI_sub]; (congr 1 <;> omega))) (by omega) (by omega)) (by decide) (by decide) rfl rfl (Nat.le_of_ble_eq_true rfl) dX12_shortens_68 (fun r68 S68 q68 => ?_)
      obtain ⟨rfl, rfl⟩ := q68
      refine X_topi (y := nI (aSh (dat σ d))) (hx.2.2.2.2.2.2.2.2.1) ?_
      refine X_iconst (v := 1) hB dX12_shortens_71 (by decide) ?_
      refine X_iload_n (i := 3) hB dX12_shortens_72 rfl rfl ?_
      refine X_ishl hB dX12_shortens_73 ?_
      refine X_ior hB dX12_shortens_74 ?_
      refine X_topi (y := nI (aSh (dat σ d) ||| 1 <<< z)) (bit_or _ hsh z hz) ?_
      refine X_callV hB kX12_243 cw10 hR.1.1 hR.1.2 (c_layDE (w := 8) hR (by exact hF.of rfl) rfl (by first | rfl | (simp (disch := omega) only [nlit, nI_add, nI_mul, nI_sub]; done) | (simp (disch := omega) only [nlit, nI_add, nI_mul, nI_sub]; (congr 1 <;> omega))) (by omega) (by omega)) (by decide) (by decide) rfl rfl (Nat.le_of_ble_eq_true rfl) dX12_shortens_75 (fun r75 S75 q75 => ?_)
      obtain ⟨rfl, rfl⟩ := q75
      rw [setI_rowI]
      refine X_aload_n (i := 0) hB dX12_shortens_78 rfl rfl ?_
      refine X_iconst (v := 5) hB dX12_shortens_79 (by decide) ?_
      refine X_iconst (v := 1) hB dX12_shortens_80 (by decide) ?_
      refine X_callV hB kX12_240 cw10 hR.1.1 hR.1.2 (c_tally hR (by exact hF.of rfl) (k := 5) (by decide) 1) (by decide) (by decide) rfl rfl (Nat.le_of_ble_eq_true rfl) dX12_shortens_81 (fun r81 S81 q81 => ?_)
      obtain ⟨rfl, rfl⟩ := q81
      rw [setI_rowI, rowI_rowI, rowI_at]
      have hs1 : szN (uDa σ d (dSh (dat σ d) (aSh (dat σ d) ||| 1 <<< z))) := szN_da hs hl.1 hl.2
      have hn0 : netR (upd (S.1 (h + 1)) (1417 + 26 * d + 8) (nI (aSh (dat σ d) ||| 1 <<< z))) (uDa σ d (dSh (dat σ d) (aSh (dat σ d) ||| 1 <<< z))) := netR_da hN hs hd (daR_Sh hx hl.1 hl.2) (fun i hi => by rw [upd_ne _ _ (by omega)])
      have hn1 := netR_ta (k := 5) hn0 hs1 (by decide)
      generalize hg1 : upd (upd (S.1 (h + 1)) (1417 + 26 * d + 8) (nI (aSh (dat σ d) ||| 1 <<< z))) (14 + 5) (upd (S.1 (h + 1)) (1417 + 26 * d + 8) (nI (aSh (dat σ d) ||| 1 <<< z)) (14 + 5) + 1) = A1 at hn1 ⊢
      have hs2 : szN (uTa (uDa σ d (dSh (dat σ d) (aSh (dat σ d) ||| 1 <<< z))) 5) := hs1
      have hd2 : d < (nDa (uTa (uDa σ d (dSh (dat σ d) (aSh (dat σ d) ||| 1 <<< z))) 5)).length := by show d < (nDa (uDa σ d _)).length; rw [len_set]; exact hd
      have hdt : dat (uTa (uDa σ d (dSh (dat σ d) (aSh (dat σ d) ||| 1 <<< z))) 5) d = dSh (dat σ d) (aSh (dat σ d) ||| 1 <<< z) := dat_set hd
      refine X_aload_n (i := 0) hB dX12_shortens_84 rfl rfl ?_
      refine X_iconst (v := 2) hB dX12_shortens_85 (by decide) ?_
      refine X_iload_n (i := 3) hB dX12_shortens_86 rfl rfl ?_
      refine X_iconst (v := (-1)) hB dX12_shortens_87 (by decide) ?_
      refine X_iconst (v := (-1)) hB dX12_shortens_88 (by decide) ?_
      refine X_iconst (v := (-1)) hB dX12_shortens_89 (by decide) ?_
      refine X_iconst (v := (-1)) hB dX12_shortens_90 (by decide) ?_
      refine X_callV hB kX12_249 cw10 hR.1.1 hR.1.2 (c_beginsFrame hR (by exact hF.of rfl) (2, z, 0, 0, none, []) rfl) (by decide) (by decide) rfl rfl (Nat.le_of_ble_eq_true rfl) dX12_shortens_91 (fun r91 S91 q91 => ?_)
      obtain ⟨rfl, f91, g91⟩ := q91
      have hF91 : RRef S91 h := f91.ref (hF.of rfl)
      have n91 : netR (S91.1 (h + 1)) (uTa (uDa σ d (dSh (dat σ d) (aSh (dat σ d) ||| 1 <<< z))) 5) := by rw [f91.2.1 _ (by simp) (by omega), rowI_at]; exact hn1
      have hT2 : aTr (dat (uTa (uDa σ d (dSh (dat σ d) (aSh (dat σ d) ||| 1 <<< z))) 5) d) = (aTr (dat σ d)) := by rw [hdt]; rfl
      have hR2 : aRe (dat (uTa (uDa σ d (dSh (dat σ d) (aSh (dat σ d) ||| 1 <<< z))) 5) d) = (aRe (dat σ d)) := by rw [hdt]; rfl
      refine X_iconst (v := 0) hB dX12_shortens_94 (by decide) ?_
      refine X_istore hB dX12_shortens_95 (by decide) rfl ?_
      refine X_lv (lv' := [some (.ref h), some (.int (nI d)), some (.int (nI x)), some (.int (nI z)), some (.int (nI (aRe (dat (uTa (uDa σ d (dSh (dat σ d) (aSh (dat σ d) ||| 1 <<< z))) 5) d)).length)), some (.int (nI ((aRe (dat σ d)).tail.idxOf z + 1))), some (.int (nI 0))]) (by rw [hR2, nI_0]; rfl) (l_sh2 (S := S91) hR hF91 hB (uTa (uDa σ d (dSh (dat σ d) (aSh (dat σ d) ||| 1 <<< z))) 5) n91 hs2 d hd2 x z ((aRe (dat σ d)).tail.idxOf z + 1) (by rw [hT2]; exact ht1) (2, z, 0, 0, none, []) rfl (fun S9 v9 g1 g2 => ?_) ((aTr (dat (uTa (uDa σ d (dSh (dat σ d) (aSh (dat σ d) ||| 1 <<< z))) 5) d)).length - 1) 0 S91 (by omega) fr.rf (by rw [List.take_zero]; exact g91))
      have n9 : netR (S9.1 (h + 1)) (uTa (uDa σ d (dSh (dat σ d) (aSh (dat σ d) ||| 1 <<< z))) 5) := by rw [g1.2.1 _ (by simp) (by omega)]; exact n91
      refine X_iload hB dX12_shortens_127 rfl ?_
      refine X_istore hB dX12_shortens_129 (by decide) rfl ?_
      refine X_lv (lv' := [some (.ref h), some (.int (nI d)), some (.int (nI x)), some (.int (nI z)), some (.int (nI (aRe (dat (uTa (uDa σ d (dSh (dat σ d) (aSh (dat σ d) ||| 1 <<< z))) 5) d)).length)), some (.int (nI ((aRe (dat σ d)).tail.idxOf z + 1))), some (.int (nI ((aRe (dat σ d)).tail.idxOf z + 1)))]) rfl (l_sh3 (S := S9) (fin := shF σ d z) hR (g1.ref hF91) hB (uTa (uDa σ d (dSh (dat σ d) (aSh (dat σ d) ||| 1 <<< z))) 5) n9 hs2 d hd2 x z ((aRe (dat σ d)).tail.idxOf z + 1) (fun S8 v8 k1 k2 => ?_) ((aRe (dat (uTa (uDa σ d (dSh (dat σ d) (aSh (dat σ d) ||| 1 <<< z))) 5) d)).length - ((aRe (dat σ d)).tail.idxOf z + 1)) ((aRe (dat σ d)).tail.idxOf z + 1) (2, z, 0, 0, none, (aTr (dat (uTa (uDa σ d (dSh (dat σ d) (aSh (dat σ d) ||| 1 <<< z))) 5) d)).take ((aTr (dat (uTa (uDa σ d (dSh (dat σ d) (aSh (dat σ d) ||| 1 <<< z))) 5) d)).length - 1)) S9 (by rw [hR2]; omega) (by show ((aTr (dat (uTa (uDa σ d (dSh (dat σ d) (aSh (dat σ d) ||| 1 <<< z))) 5) d)).take _).length + _ ≤ 8; rw [List.length_take, hT2, hR2]; omega) fr.rf g2 (by rw [hT2, hR2]; rfl))
      have n8 : netR (S8.1 (h + 1)) (uTa (uDa σ d (dSh (dat σ d) (aSh (dat σ d) ||| 1 <<< z))) 5) := by rw [k1.2.1 _ (by simp) (by omega)]; exact n9
      refine X_aload_n (i := 0) hB dX12_shortens_158 rfl rfl ?_
      refine X_callV hB kX12_253 cw10 hR.1.1 hR.1.2 (c_sends hR (k1.ref (g1.ref hF91)) (uTa (uDa σ d (dSh (dat σ d) (aSh (dat σ d) ||| 1 <<< z))) 5) (shF σ d z) n8 hs2 (by show 2 ≤ 3; omega) k2 (by show (shR σ d z).length ≤ 8; unfold shR; rw [List.length_append, List.length_take, List.length_drop]; omega)) (by decide) (by decide) rfl rfl (Nat.le_of_ble_eq_true rfl) dX12_shortens_159 (fun r159 S159 q159 => ?_)
      obtain ⟨rfl, f159, n159⟩ := q159
      refine X_istore hB dX12_shortens_162 (by decide) rfl ?_
      refine X_vret hB rfl dX12_shortens_164 ?_
      refine ⟨rfl, (fr.row (by simp) (by omega)).tr ((f91.mono (by simp) (by simp)).tr ((g1.mono (by simp) (by simp)).tr ((k1.mono (by simp) (by simp)).tr (f159.mono (by simp) (by simp))))), ?_⟩
      unfold shortenD
      rw [if_pos ⟨hin, hbit⟩]
      exact n159
    · refine X_vret hB rfl dX12_shortens_59 ?_
      refine ⟨rfl, fr.rf, ?_⟩
      unfold shortenD
      rw [if_neg (fun q => by rw [q.2] at c56; exact absurd rfl c56)]
      exact hN
end REF
