/-! the class: what a buffer needs, and asking on -/
theorem askStep_0 {n t : Nat} {σ : Net} (h : dAk (nNd σ n) t = none) : askStep n t σ = σ := by unfold askStep; rw [h]
theorem askStep_1 {n t s : Nat} {σ : Net} (h : dAk (nNd σ n) t = some s) (h1 : needB σ n t = false) : askStep n t σ = uNd σ n (xAkO (nNd σ n) t) := by unfold askStep; rw [h]; simp only [h1]; rfl
theorem askStep_2 {n t s : Nat} {σ : Net} (h : dAk (nNd σ n) t = some s) (h1 : needB σ n t = true) (h2 : nSe σ 6 ≤ nNow σ - s) : askStep n t σ = ask σ n t := by unfold askStep; rw [h]; simp only [h1, if_true]; exact if_pos h2
theorem askStep_3 {n t s : Nat} {σ : Net} (h : dAk (nNd σ n) t = some s) (h1 : needB σ n t = true) (h2 : ¬ nSe σ 6 ≤ nNow σ - s) : askStep n t σ = σ := by unfold askStep; rw [h]; simp only [h1, if_true]; exact if_neg h2
theorem wfN.ast {n t b : Nat} {τ : Net} (q : wfN τ (b + t)) (hn : n < 8) (ht : t < 8) (hb : b + t + 1 < 100000) : wfN (askStep n t τ) (b + (t + 1)) := by
  have hup : ∀ {υ : Net}, wfN υ (b + t) → wfN υ (b + (t + 1)) := fun q => (q.o.up (Nat.le_succ _) (by omega)).n40
  unfold askStep
  split
  · exact hup q
  · split
    · split
      · exact (q.o.as (by omega) hn (by omega)).n40
      · exact hup q
    · exact hup (q.o.ako hn).n40
theorem dak_dec {o : Option Nat} (h : decide (o ≠ none) = true) : ∃ s, o = some s := by
  cases o with
  | none => simp at h
  | some s => exact ⟨s, rfl⟩
theorem geN.ast {n t : Nat} {τ : Net} : geN τ (askStep n t τ) := by
  unfold askStep
  split
  · exact geN.rf
  · split
    · split
      · exact geN.as
      · exact geN.rf
    · exact geN.nd
theorem cvN.as {σ : Net} {n t : Nat} (h : cvN σ) (hn : n < nSe σ 0) (ht : t < nSe σ 0) : cvN (ask σ n t) := by
  have h1 : cvN (uNd σ n (xAsk (nNd σ n) t (nNow σ))) := h.nd' hn (fun u h8 hu => by
    have hu : (if u = t then some (nNow σ) else dAk (nNd σ n) u) ≠ none := hu
    by_cases e : u = t
    · rw [e]; exact ht
    · rw [if_neg e] at hu; exact h.2.2 n u h8 hu)
  unfold ask sendF
  split
  · exact h1
  · exact h1
theorem ako_cv {σ : Net} {n : Nat} (h : cvN σ) (hn8 : n < 8) : ∀ c, c ≤ nSe σ 0 → cvN (iterN (askStep n) c σ)
  | 0, _ => h
  | c + 1, hc => by
    have ih := ako_cv h hn8 c (by omega)
    have hse : nSe (iterN (askStep n) c σ) = nSe σ := (geN.it (fun z τ => geN.ast) c σ).1
    show cvN (askStep n c (iterN (askStep n) c σ))
    generalize iterN (askStep n) c σ = τ at ih hse
    unfold askStep
    split
    · exact ih
    · rename_i s hs
      have hnc : n < nSe τ 0 := Classical.byContradiction (fun q => by
        have := (ih.2.1 n (by omega) hn8).2.2 c
        rw [hs] at this
        cases this)
      split
      · split
        · exact ih.as hnc (by rw [hse]; omega)
        · exact ih
      · refine ih.nd' hnc (fun u _ hu => ?_)
        have hu : (if u = c then none else dAk (nNd τ n) u) ≠ none := hu
        by_cases e : u = c
        · rw [if_pos e] at hu; exact absurd rfl hu
        · rw [if_neg e] at hu; exact ih.2.2 n u hn8 hu
section CLS
variable {G : Gc} {S : St}
set_option maxRecDepth 100000 in
set_option maxHeartbeats 4000000 in
theorem l_X10_isNeeded {E : Ev} (hB : Bd G E mX10_isNeeded) {Q : Option Value → St → Prop} (w : Nat) (hW : WLay G w) (σ : Net) (hw : worldR S w σ) (n t : Nat) (hn8 : n < 8) (ht8 : t < 8) (hbd : ∀ d ∈ (dBu (nNd σ n)), d < (nDa σ).length ∧ aEn (dat σ d) < 8) (kk : Q (some (.int (if needB σ n t then 1 else 0))) S) :
    ∀ (j k : Nat), k + j = (dBu (nNd σ n)).length → (∀ i, i < k → aEn (dat σ ((dBu (nNd σ n)).getD i 0)) ≠ t) → X G E mX10_isNeeded 1 Q S 2 [some (.ref w), some (.ref (pA w n)), some (.int (nI t)), some (.int (nI k))] [] := by
  have hPo := hW.po hn8
  obtain ⟨⟨f1, f2, f3, f4⟩, ⟨i1, i2, i3, i4, i5, i6, i7⟩, p3, p4, p5, p6⟩ := hw.po hn8
  have hd40 := hw.l40.2
  intro j
  induction j with
  | zero =>
    intro k h1 h2
    have e9 : k = (dBu (nNd σ n)).length := by omega
    have en : needB σ n t = false := by
      unfold needB
      rw [List.any_eq_false]
      intro d hd
      obtain ⟨i, hi, e⟩ := List.getElem_of_mem hd
      have := h2 i (by omega)
      rw [getD_lt hi, e] at this
      simpa using this
    rw [en] at kk
    refine X_iload_n (i := 3) hB dX10_isNeeded_2 rfl rfl ?_
    refine X_aload_n (i := 1) hB dX10_isNeeded_3 rfl rfl ?_
    refine X_geti hB cw4 fX10_126 rfl hPo.1.1 hPo.1.2 dX10_isNeeded_4 ?_
    refine X_topi (y := nI (dBu (nNd σ n)).length) (i1) ?_
    refine X_icmp_ge (tgt := 40) hB dX10_isNeeded_7 (by decide) (fun c7 => ?_) (fun c7 => absurd c7 (by simp (disch := omega) only [nlit, nI_leI, nI_ltI]; omega))
    refine X_iconst (v := 0) hB dX10_isNeeded_40 (by decide) ?_
    refine X_zret hB rfl (by first | exact Or.inl rfl | exact Or.inr rfl) dX10_isNeeded_41 ?_
    exact kk
  | succ j ih =>
    intro k h1 h2
    have hm : (dBu (nNd σ n)).getD k 0 ∈ (dBu (nNd σ n)) := getD_mem (by omega)
    obtain ⟨hd, he8⟩ := hbd _ hm
    generalize hdd : (dBu (nNd σ n)).getD k 0 = d at hm hd he8
    have hD := hW.dd (show d < 40 by omega)
    have hv0 : S.1 ((pA w n) + 3) k = nI d := by rw [i6 k (by omega), hdd]
    have z2 := (hw.dc hd).2.1
    refine X_iload_n (i := 3) hB dX10_isNeeded_2 rfl rfl ?_
    refine X_aload_n (i := 1) hB dX10_isNeeded_3 rfl rfl ?_
    refine X_geti hB cw4 fX10_126 rfl hPo.1.1 hPo.1.2 dX10_isNeeded_4 ?_
    refine X_topi (y := nI (dBu (nNd σ n)).length) (i1) ?_
    refine X_icmp_ge (tgt := 40) hB dX10_isNeeded_7 (by decide) (fun c7 => absurd c7 (by simp (disch := omega) only [nlit, nI_leI, nI_ltI]; omega)) (fun c7 => ?_)
    refine X_iload_n (i := 3) hB dX10_isNeeded_10 rfl rfl ?_
    refine X_iconst (v := 4) hB dX10_isNeeded_11 (by decide) ?_
    refine X_icmp_ge (tgt := 40) hB dX10_isNeeded_12 (by decide) (fun c12 => absurd c12 (by simp (disch := omega) only [nlit, nI_leI, nI_ltI]; omega)) (fun c12 => ?_)
    refine X_aload_n (i := 0) hB dX10_isNeeded_15 rfl rfl ?_
    refine X_aload_n (i := 1) hB dX10_isNeeded_16 rfl rfl ?_
    refine X_getr hB cw4 fX10_277 rfl hPo.1.1 hPo.1.2 f3 dX10_isNeeded_17 ?_
    refine X_iload_n (i := 3) hB dX10_isNeeded_20 rfl rfl ?_
    refine X_ialdN hB (k) hPo.2.2.1.1 hPo.2.2.1.2 (by decide) rfl (by omega) (hv0) dX10_isNeeded_21 ?_
    refine X_callV hB kX10_155 cw8 hW.1.1 hW.1.2 (c_X10_datum w hW hw.1 d (by omega)) (by decide) (by decide) rfl rfl (Nat.le_of_ble_eq_true rfl) dX10_isNeeded_22 (fun r22 S22 q22 => ?_)
    obtain ⟨rfl, rfl⟩ := q22
    refine X_geti hB cw2 fX10_162 rfl hD.1 hD.2 dX10_isNeeded_25 ?_
    refine X_topi (y := nI (aEn (dat σ d))) (z2) ?_
    refine X_iload_n (i := 2) hB dX10_isNeeded_28 rfl rfl ?_
    refine X_icmp_ne (tgt := 34) hB dX10_isNeeded_29 (by decide) (fun c29 => ?_) (fun c29 => ?_)
    · refine X_iinc hB dX10_isNeeded_34 rfl rfl (by decide) rfl ?_
      refine X_goto (tgt := 2) hB dX10_isNeeded_37 (by decide) ?_
      refine X_lv ?_ (ih (k + 1) (by omega) (fun i hi => ?_))
      · rw [nI_succ]; rfl
      · by_cases q : i = k
        · rw [q, hdd]; exact fun z => c29 (by rw [z])
        · exact h2 i (by omega)
    · refine X_iconst (v := 1) hB dX10_isNeeded_32 (by decide) ?_
      refine X_zret hB rfl (by first | exact Or.inl rfl | exact Or.inr rfl) dX10_isNeeded_33 ?_
      have e29 : aEn (dat σ d) = t := (nI_eq (by omega) (by omega)).mp c29
      have en : needB σ n t = true := by
        unfold needB
        rw [List.any_eq_true]
        exact ⟨d, hm, by simpa using e29⟩
      rw [en] at kk
      exact kk
set_option maxRecDepth 100000 in
set_option maxHeartbeats 4000000 in
theorem c_X10_isNeeded (w : Nat) (hW : WLay G w) (σ : Net) (hw : worldR S w σ) (n t : Nat) (hn8 : n < 8) (ht8 : t < 8) (hbd : ∀ d ∈ (dBu (nNd σ n)), d < (nDa σ).length ∧ aEn (dat σ d) < 8) : C G mX10_isNeeded 1 [.ref w, .ref (pA w n), .int (nI t)] S (fun r S' => r = some (.int (if needB σ n t then 1 else 0)) ∧ S = S') := by
  refine C.mk (lv := [some (.ref w), some (.ref (pA w n)), some (.int (nI t)), none]) (by decide) (Nat.le_of_ble_eq_true rfl) rfl (fun E hB => ?_)
  refine X_iconst (v := 0) hB dX10_isNeeded_0 (by decide) ?_
  refine X_istore_n (i := 3) hB dX10_isNeeded_1 rfl (by decide) rfl ?_
  refine X_lv ?_ (l_X10_isNeeded hB w hW σ hw n t hn8 ht8 hbd ⟨rfl, rfl⟩ (dBu (nNd σ n)).length 0 (by omega) (fun i hi => by omega))
  rw [nI_0]; rfl
set_option maxRecDepth 100000 in
set_option maxHeartbeats 4000000 in
theorem l_X10_askOn {E : Ev} (hB : Bd G E mX10_askOn) {Q : Option Value → St → Prop} (w : Nat) (hW : WLay G w) (σ : Net) (hw : worldR S w σ) (b n : Nat) (hn8 : n < 8) (hb : b + 8 < 100000) (kk : ∀ S1, wch w S S1 → worldR S1 w (iterN (askStep n) 8 σ) → Q none S1) :
    ∀ (k t : Nat) (S1 : St), t + k = 8 → wch w S S1 → worldR S1 w (iterN (askStep n) t σ) → wfN (iterN (askStep n) t σ) (b + t) → X G E mX10_askOn 4 Q S1 8 [some (.ref w), some (.int (nI n)), some (.ref (pA w n)), some (.int (nI t))] [] := by
  have hPo := hW.po hn8
  intro k
  induction k with
  | zero =>
    intro t S1 h1 h2 h3 h4
    have e9 : t = 8 := by omega
    subst e9
    refine X_iload_n (i := 3) hB dX10_askOn_8 rfl rfl ?_
    refine X_bipush (v := 8) hB dX10_askOn_9 (by decide) ?_
    refine X_icmp_ge (tgt := 84) hB dX10_askOn_11 (by decide) (fun c11 => ?_) (fun c11 => absurd c11 (by simp (disch := omega) only [nlit, nI_leI, nI_ltI]; omega))
    refine X_vret hB rfl dX10_askOn_84 ?_
    exact kk S1 h2 h3
  | succ k ih =>
    intro t S1 h1 h2 h3 h4
    have ht8 : t < 8 := by omega
    have h4' : wfN (askStep n t (iterN (askStep n) t σ)) (b + (t + 1)) := h4.ast hn8 ht8 (by omega)
    obtain ⟨⟨f1, f2, f3, f4⟩, ⟨i1, i2, i3, i4, i5, i6, i7⟩, p3, p4, p5, p6⟩ := h3.po hn8
    have hc8 := h4.1.1.2
    have hnow : nNow (iterN (askStep n) t σ) ≤ 1000 := h4.2.2.2.2.2.2.2.2.1
    have hs6 := h4.1.2.2.2.2.2.2.1.2
    have hbd : ∀ d ∈ dBu (nNd (iterN (askStep n) t σ) n), d < (nDa (iterN (askStep n) t σ)).length ∧ aEn (dat (iterN (askStep n) t σ) d) < 8 := fun d hd => by
      have := (h4.o.bu hn8 d hd).1.1
      exact ⟨this, (h4.da this).b.1.2.1⟩
    refine X_iload_n (i := 3) hB dX10_askOn_8 rfl rfl ?_
    refine X_bipush (v := 8) hB dX10_askOn_9 (by decide) ?_
    refine X_icmp_ge (tgt := 84) hB dX10_askOn_11 (by decide) (fun c11 => absurd c11 (by simp (disch := omega) only [nlit, nI_leI, nI_ltI]; omega)) (fun c11 => ?_)
    refine X_aload_n (i := 2) hB dX10_askOn_14 rfl rfl ?_
    refine X_geti hB cw4 fX10_138 rfl hPo.1.1 hPo.1.2 dX10_askOn_15 ?_
    refine X_topi (y := nI (bts (fun x => decide (dAk (nNd (iterN (askStep n) t σ) n) x ≠ none)) 8)) (i4) ?_
    refine X_iload_n (i := 3) hB dX10_askOn_18 rfl rfl ?_
    refine X_ishr hB dX10_askOn_19 ?_
    refine X_iconst (v := 1) hB dX10_askOn_20 (by decide) ?_
    refine X_iand hB dX10_askOn_21 ?_
    refine X_topi (y := if decide (dAk (nNd (iterN (askStep n) t σ) n) t ≠ none) then 1 else 0) (bts_tst _ ht8) ?_
    refine X_if_eq (tgt := 78) hB dX10_askOn_22 (by decide) (fun c22 => ?_) (fun c22 => ?_)
    · refine X_iinc hB dX10_askOn_78 rfl rfl (by decide) rfl ?_
      refine X_goto (tgt := 8) hB dX10_askOn_81 (by decide) ?_
      have e22 : dAk (nNd (iterN (askStep n) t σ) n) t = none := by simpa using if1n c22
      refine X_lv ?_ (ih (t + 1) S1 (by omega) (h2) (show worldR S1 w (askStep n t (iterN (askStep n) t σ)) by rw [askStep_0 e22]; exact h3) h4')
      · rw [nI_succ]; rfl
    · obtain ⟨s, e22⟩ := dak_dec (if1 c22)
      have htc : t < nSe (iterN (askStep n) t σ) 0 := h3.cv.2.2 n t hn8 (by rw [e22]; exact fun z => by cases z)
      have hnc : n < nSe (iterN (askStep n) t σ) 0 := Classical.byContradiction (fun q => by
        have := (h3.cv.2.1 n (by omega) hn8).2.2 t
        rw [e22] at this
        cases this)
      have hsn : s ≤ nNow (iterN (askStep n) t σ) := ((h4.o.no hn8).2.2.2.2.2.2.2.2 t s e22).1
      refine X_aload_n (i := 0) hB dX10_askOn_25 rfl rfl ?_
      refine X_aload_n (i := 2) hB dX10_askOn_26 rfl rfl ?_
      refine X_iload_n (i := 3) hB dX10_askOn_27 rfl rfl ?_
      refine X_callV hB kX10_362 cw8 hW.1.1 hW.1.2 (c_X10_isNeeded w hW (iterN (askStep n) t σ) h3 n t hn8 ht8 hbd) (by decide) (by decide) rfl rfl (Nat.le_of_ble_eq_true rfl) dX10_askOn_28 (fun r28 S28 q28 => ?_)
      obtain ⟨rfl, rfl⟩ := q28
      refine X_if_ne (tgt := 51) hB dX10_askOn_31 (by decide) (fun c31 => ?_) (fun c31 => ?_)
      · have e31 : needB (iterN (askStep n) t σ) n t = true := if1 c31
        refine X_aload_n (i := 0) hB dX10_askOn_51 rfl rfl ?_
        refine X_geti hB cw8 fX10_57 rfl hW.1.1 hW.1.2 dX10_askOn_52 ?_
        refine X_topi (y := nI (nNow (iterN (askStep n) t σ))) (h3.2.1.2.2.2.1) ?_
        refine X_aload_n (i := 2) hB dX10_askOn_55 rfl rfl ?_
        refine X_getr hB cw4 fX10_284 rfl hPo.1.1 hPo.1.2 f4 dX10_askOn_56 ?_
        refine X_iload_n (i := 3) hB dX10_askOn_59 rfl rfl ?_
        refine X_ialdN hB (t) hPo.2.2.2.1.1 hPo.2.2.2.1.2 (by decide) rfl (by omega) (i7 t ht8 s e22) dX10_askOn_60 ?_
        refine X_topi (y := nI s) (rfl) ?_
        refine X_isub hB dX10_askOn_61 ?_
        refine X_topi (y := nI (nNow (iterN (askStep n) t σ) - s)) (by first | rfl | (simp (disch := omega) only [nlit, nI_add, nI_mul, nI_sub]; done) | (simp (disch := omega) only [nlit, nI_add, nI_mul, nI_sub]; (congr 1 <;> omega))) ?_
        refine X_aload_n (i := 0) hB dX10_askOn_62 rfl rfl ?_
        refine X_getr hB cw8 fX10_9 rfl hW.1.1 hW.1.2 h3.1.1 dX10_askOn_63 ?_
        refine X_bipush (v := 6) hB dX10_askOn_66 (by decide) ?_
        refine X_ialdN hB (6) hW.2.1.1 hW.2.1.2 (by decide) rfl (by decide) (h3.2.1.1 6 (by decide)) dX10_askOn_68 ?_
        refine X_icmp_lt (tgt := 78) hB dX10_askOn_69 (by decide) (fun c69 => ?_) (fun c69 => ?_)
        · have e69 : ¬ nSe (iterN (askStep n) t σ) 6 ≤ nNow (iterN (askStep n) t σ) - s := by
            rw [nI_ltI (by omega) (by omega)] at c69
            omega
          refine X_iinc hB dX10_askOn_78 rfl rfl (by decide) rfl ?_
          refine X_goto (tgt := 8) hB dX10_askOn_81 (by decide) ?_
          refine X_lv ?_ (ih (t + 1) S1 (by omega) (h2) (show worldR S1 w (askStep n t (iterN (askStep n) t σ)) by rw [askStep_3 e22 e31 e69]; exact h3) h4')
          · rw [nI_succ]; rfl
        · have e69 : nSe (iterN (askStep n) t σ) 6 ≤ nNow (iterN (askStep n) t σ) - s := by
            rw [nI_ltI (by omega) (by omega)] at c69
            omega
          refine X_aload_n (i := 0) hB dX10_askOn_72 rfl rfl ?_
          refine X_iload_n (i := 1) hB dX10_askOn_73 rfl rfl ?_
          refine X_iload_n (i := 3) hB dX10_askOn_74 rfl rfl ?_
          refine X_callV hB kX10_280 cw8 hW.1.1 hW.1.2 (c_X10_ask w hW (iterN (askStep n) t σ) h3 n t hnc htc hc8) (by decide) (by decide) rfl rfl (Nat.le_of_ble_eq_true rfl) dX10_askOn_75 (fun r75 S75 q75 => ?_)
          obtain ⟨rfl, k1, k2⟩ := q75
          refine X_iinc hB dX10_askOn_78 rfl rfl (by decide) rfl ?_
          refine X_goto (tgt := 8) hB dX10_askOn_81 (by decide) ?_
          refine X_lv ?_ (ih (t + 1) S75 (by omega) (h2.tr k2) (show worldR S75 w (askStep n t (iterN (askStep n) t σ)) by rw [askStep_2 e22 e31 e69]; exact k1) h4')
          · rw [nI_succ]; rfl
      · refine X_aload_n (i := 2) hB dX10_askOn_34 rfl rfl ?_
        refine X_dup hB dX10_askOn_35 rfl ?_
        refine X_geti hB cw4 fX10_138 rfl hPo.1.1 hPo.1.2 dX10_askOn_36 ?_
        refine X_topi (y := nI (bts (fun x => decide (dAk (nNd (iterN (askStep n) t σ) n) x ≠ none)) 8)) (i4) ?_
        refine X_iconst (v := 1) hB dX10_askOn_39 (by decide) ?_
        refine X_iload_n (i := 3) hB dX10_askOn_40 rfl rfl ?_
        refine X_ishl hB dX10_askOn_41 ?_
        refine X_iconst (v := (-1)) hB dX10_askOn_42 (by decide) ?_
        refine X_ixor hB dX10_askOn_43 ?_
        refine X_iand hB dX10_askOn_44 ?_
        refine X_topi (y := nI (bts (fun x => decide (dAk (nNd (iterN (askStep n) t σ) n) x ≠ none) && !decide (x = t)) 8)) (bts_clr _ ht8) ?_
        refine X_puti hB cw4 fX10_138 rfl rfl hPo.1.1 hPo.1.2 dX10_askOn_45 ?_
        generalize hS9 : setI S1 (pA w n) 6 (nI (bts (fun x => decide (dAk (nNd (iterN (askStep n) t σ) n) x ≠ none) && !decide (x = t)) 8)) = S9
        have hch : chg (pA w n) ((pA w n) + 1) S1 S9 := hS9 ▸ chg.setI (Nat.le_refl _) (by omega)
        obtain ⟨w9, c9⟩ : worldR S9 w (uNd (iterN (askStep n) t σ) n (xAkO (nNd (iterN (askStep n) t σ) n) t)) ∧ wch w S1 S9 := by
          refine worldR_nd h3 hn8 (hch.mono (Nat.le_refl _) (by omega)) (by rw [← hS9]; rfl) ⟨?_, ⟨?_, ?_, ?_, ?_, ?_, fun k hk => ?_, fun u hu s hs => ?_⟩, p3.chg hch (by omega), p4.chg hch (by omega), p5, p6⟩ (h3.cv.nd' hnc (fun u _ hu => ?_))
          · rw [← hS9]; exact ⟨f1, f2, f3, f4⟩
          · rw [← hS9, setI_ne _ _ (Or.inr (by decide))]; exact i1
          · rw [← hS9, setI_ne _ _ (Or.inr (by decide))]; exact i2
          · rw [← hS9, setI_ne _ _ (Or.inr (by decide))]; exact i3
          · rw [← hS9, setI_at]
            refine congrArg nI (bts_congr (fun j _ => ?_))
            show _ = decide ((if j = t then none else dAk (nNd (iterN (askStep n) t σ) n) j) ≠ none)
            by_cases e : j = t
            · rw [if_pos e, decide_eq_true e]; simp
            · rw [if_neg e, decide_eq_false e]; simp
          · rw [← hS9, setI_ne _ _ (Or.inr (by decide))]; exact i5
          · rw [← hS9, setI_ne _ _ (Or.inl (by omega))]; exact i6 k hk
          · have hs : (if u = t then none else dAk (nNd (iterN (askStep n) t σ) n) u) = some s := hs
            by_cases e : u = t
            · rw [if_pos e] at hs; cases hs
            · rw [if_neg e] at hs
              rw [← hS9, setI_ne _ _ (Or.inl (by omega))]
              exact i7 u hu s hs
          · have hu : (if u = t then none else dAk (nNd (iterN (askStep n) t σ) n) u) ≠ none := hu
            by_cases e : u = t
            · rw [if_pos e] at hu; exact absurd rfl hu
            · rw [if_neg e] at hu; exact h3.cv.2.2 n u hn8 hu
        clear hS9
        refine X_goto (tgt := 78) hB dX10_askOn_48 (by decide) ?_
        refine X_iinc hB dX10_askOn_78 rfl rfl (by decide) rfl ?_
        refine X_goto (tgt := 8) hB dX10_askOn_81 (by decide) ?_
        have e31 : needB (iterN (askStep n) t σ) n t = false := by simpa using if1n c31
        refine X_lv ?_ (ih (t + 1) S9 (by omega) (h2.tr c9) (show worldR S9 w (askStep n t (iterN (askStep n) t σ)) by rw [askStep_1 e22 e31]; exact w9) h4')
        · rw [nI_succ]; rfl
set_option maxRecDepth 100000 in
set_option maxHeartbeats 4000000 in
theorem c_X10_askOn (w : Nat) (hW : WLay G w) (σ : Net) (hw : worldR S w σ) (b n : Nat) (hn8 : n < 8) (hN : wfN σ b) (hb : b + 8 < 100000) : C G mX10_askOn 4 [.ref w, .int (nI n)] S (fun r S' => r = none ∧ worldR S' w (askOnN σ n) ∧ wch w S S') := by
  refine C.mk (lv := [some (.ref w), some (.int (nI n)), none, none]) (by decide) (Nat.le_of_ble_eq_true rfl) rfl (fun E hB => ?_)
  refine X_aload_n (i := 0) hB dX10_askOn_0 rfl rfl ?_
  refine X_iload_n (i := 1) hB dX10_askOn_1 rfl rfl ?_
  refine X_callV hB kX10_102 cw8 hW.1.1 hW.1.2 (c_X10_post w hW hw.1 n hn8) (by decide) (by decide) rfl rfl (Nat.le_of_ble_eq_true rfl) dX10_askOn_2 (fun r2 S2 q2 => ?_)
  obtain ⟨rfl, rfl⟩ := q2
  refine X_astore_n (i := 2) hB dX10_askOn_5 rfl (by decide) rfl ?_
  refine X_iconst (v := 0) hB dX10_askOn_6 (by decide) ?_
  refine X_istore_n (i := 3) hB dX10_askOn_7 rfl (by decide) rfl ?_
  refine X_lv (lv' := [some (.ref w), some (.int (nI n)), some (.ref (pA w n)), some (.int (nI 0))]) (by rw [nI_0]; rfl) (l_X10_askOn hB w hW σ hw b n hn8 hb (fun S1 g1 g2 => ⟨rfl, ?_, g1⟩) 8 0 S (by omega) wch.rf hw hN)
  have hc8 := hN.1.1.2
  have hi8 : (iterN (askStep n) 8 σ) = askOnN σ n := by
    have hcv := g2.cv
    have := iterN_out (f := askStep n) (σ := σ) (c := nSe σ 0) (fun z τ hz hτ => by
      have hge : nSe τ = nSe σ := by
        rw [hτ]
        exact (geN.ao (σ := σ) (n := n)).1
      refine askStep_0 ?_
      exact Classical.byContradiction (fun q => by
        have := (ako_cv (n := n) hw.cv hn8 (nSe σ 0) (Nat.le_refl _)).2.2 n z hn8 (by rw [← hτ]; exact q)
        rw [← hτ, hge] at this
        omega)) (8 - nSe σ 0)
    rw [show nSe σ 0 + (8 - nSe σ 0) = 8 by omega] at this
    exact this
  rw [← hi8]
  exact g2
end CLS
