/-! the class: a request arrives -/
theorem reqStep_no {f : Fm} {z : Nat} {σ : Net} (h : ¬ (z ≠ fFr f ∧ nUp σ (fFr f) z = true)) : reqStep f z σ = σ := if_neg h
theorem reqStep_dup {f : Fm} {z : Nat} {σ : Net} (h : z ≠ fFr f ∧ nUp σ (fFr f) z = true) (h2 : z ∈ fRo f ∨ ((fRo f).getD 0 0, fNu f) ∈ dTb (nNd (forgetON σ z (fLk f)) z)) : reqStep f z σ = uTa (forgetON σ z (fLk f)) 7 := (if_pos h).trans (if_pos h2)
theorem reqStep_new {f : Fm} {z : Nat} {σ : Net} (h : z ≠ fFr f ∧ nUp σ (fFr f) z = true) (h2 : ¬ (z ∈ fRo f ∨ ((fRo f).getD 0 0, fNu f) ∈ dTb (nNd (forgetON σ z (fLk f)) z))) : reqStep f z σ = answer (learnN (seeN (forgetON σ z (fLk f)) z ((fRo f).getD 0 0) (fNu f)) z (z :: (fRo f).reverse)) z f := (if_pos h).trans (if_neg h2)
theorem isRtB_iff {row wy : List Nat} {hops : Nat} : isRtB row wy hops = true ↔ row.length + wy.length - 1 ≤ hops ∧ ∀ x ∈ row, x ∉ wy := by
  unfold isRtB
  rw [Bool.and_eq_true, decide_eq_true_eq, List.all_eq_true]
  constructor
  · rintro ⟨h1, h2⟩
    exact ⟨h1, fun x hx hy => by simpa [hx] using h2 x hy⟩
  · rintro ⟨h1, h2⟩
    exact ⟨h1, fun x hx => by simpa using fun q => h2 x q hx⟩
section CLS
variable {G : Gc} {S : St}
set_option maxRecDepth 100000 in
set_option maxHeartbeats 4000000 in
theorem c_X10_isNew (w : Nat) (hW : WLay G w) (σ : Net) (hw : worldR S w σ) (b o a z num : Nat) (ro : List Nat) (hO : wfO σ b o) (hz8 : z < 8) (hro : okR ro) (hr1 : 1 ≤ ro.length) (hnb : num ≤ b) (hfa : S.2.2 (w + 3) 3 = some a) (hfl : w + 5 ≤ a ∧ a < w + 46) (ha4 : S.1 a 4 = nI num) (ha6 : S.2.1 a 6 = rJ ro) : C G mX10_isNew 2 [.ref w, .int (nI z), .ref a] S (fun r S' => if z ∈ ro ∨ (ro.getD 0 0, num) ∈ dTb (nNd σ z) then r = some (.int 0) ∧ S = S' else r = some (.int 1) ∧ worldR S' w (seeN σ z (ro.getD 0 0) num) ∧ wch w S S') := by
  have hfk := hW.2.2.2.2.2.1 a hfl.1 hfl.2
  have hPo := hW.po hz8
  have hb5 := hO.2.2.2.2.2.2.2.2.2
  have hr8 := hro.1
  have h08 : ro.getD 0 0 < 8 := hro.2 _ (getD_mem (by omega))
  obtain ⟨⟨f1, f2, f3, f4⟩, ⟨i1, i2, i3, i4, i5, i6, i7⟩, p3, p4, p5, p6⟩ := hw.po hz8
  have hnd := hO.no hz8
  have htb : ∀ r ∈ dTb (nNd σ z), r.1 < 8 ∧ r.2 < 100000 := fun r hr => by
    have := hnd.2.2.2.1 r hr
    omega
  have h3 := hO.1.2.2.2.1
  have hl3 := hnd.2.2.1
  have hml : ((dTb (nNd σ z)).map tbJ).length ≤ 6 := by rw [List.length_map]; omega
  have hme := tb_mem htb (q := (ro.getD 0 0, num)) ⟨h08, by show num < 100000; omega⟩
  refine C.mk (lv := [some (.ref w), some (.int (nI z)), some (.ref a), none, none, none]) (by decide) (Nat.le_of_ble_eq_true rfl) rfl (fun E hB => ?_)
  refine X_ldc2 hB qX10_353 dX10_isNew_0 ?_
  refine X_aload_n (i := 2) hB dX10_isNew_3 rfl rfl ?_
  refine X_getj hB cw3 fX10_311 rfl hfk.1 hfk.2 dX10_isNew_4 ?_
  refine X_topl (y := rJ ro) (ha6) ?_
  refine X_iconst (v := 0) hB dX10_isNew_7 (by decide) ?_
  refine X_callS hB kX10_259 (c_X8_at ro hro (nI 0)) (by decide) (by decide) rfl rfl (Nat.le_of_ble_eq_true rfl) dX10_isNew_8 (fun r8 S8 q8 => ?_)
  obtain ⟨rfl, rfl⟩ := q8
  refine X_topi (y := nI (ro.getD 0 0)) (nth_in (by omega) hr8) ?_
  refine X_i2l hB dX10_isNew_11 ?_
  refine X_topl (y := lN (ro.getD 0 0)) (nI_l (by omega)) ?_
  refine X_lmul hB dX10_isNew_12 ?_
  refine X_topl (y := lN (100000 * ro.getD 0 0)) (by rw [show (100000 : Int64) = lN 100000 from rfl, lN_mul]) ?_
  refine X_aload_n (i := 2) hB dX10_isNew_13 rfl rfl ?_
  refine X_geti hB cw3 fX10_254 rfl hfk.1 hfk.2 dX10_isNew_14 ?_
  refine X_topi (y := nI num) (ha4) ?_
  refine X_i2l hB dX10_isNew_17 ?_
  refine X_topl (y := lN num) (nI_l (by omega)) ?_
  refine X_ladd hB dX10_isNew_18 ?_
  refine X_topl (y := tbJ (ro.getD 0 0, num)) (lN_add _ _) ?_
  refine X_lstore_n (i := 3) hB dX10_isNew_19 rfl (by decide) rfl ?_
  refine X_aload_n (i := 0) hB dX10_isNew_20 rfl rfl ?_
  refine X_iload_n (i := 1) hB dX10_isNew_21 rfl rfl ?_
  refine X_callV hB kX10_102 cw8 hW.1.1 hW.1.2 (c_X10_post w hW hw.1 z hz8) (by decide) (by decide) rfl rfl (Nat.le_of_ble_eq_true rfl) dX10_isNew_22 (fun r22 S22 q22 => ?_)
  obtain ⟨rfl, rfl⟩ := q22
  refine X_getr hB cw4 fX10_135 rfl hPo.1.1 hPo.1.2 f2 dX10_isNew_25 ?_
  refine X_astore hB dX10_isNew_28 (by decide) rfl ?_
  refine X_aload_n (i := 2) hB dX10_isNew_30 rfl rfl ?_
  refine X_getj hB cw3 fX10_311 rfl hfk.1 hfk.2 dX10_isNew_31 ?_
  refine X_topl (y := rJ ro) (ha6) ?_
  refine X_iload_n (i := 1) hB dX10_isNew_34 rfl rfl ?_
  refine X_callS hB kX10_323 (c_X8_holds ro hro z hz8) (by decide) (by decide) rfl rfl (Nat.le_of_ble_eq_true rfl) dX10_isNew_35 (fun r35 S35 q35 => ?_)
  obtain ⟨rfl, rfl⟩ := q35
  refine X_if_ne (tgt := 50) hB dX10_isNew_38 (by decide) (fun c38 => ?_) (fun c38 => ?_)
  · refine X_iconst (v := 0) hB dX10_isNew_50 (by decide) ?_
    refine X_zret hB rfl (by first | exact Or.inl rfl | exact Or.inr rfl) dX10_isNew_51 ?_
    rw [if_pos (Or.inl (if1 c38))]
    exact ⟨rfl, rfl⟩
  · refine X_aload hB dX10_isNew_41 rfl ?_
    refine X_lload_n (i := 3) hB dX10_isNew_43 rfl rfl ?_
    refine X_callV hB kX10_355 cw6 hPo.2.1.1.1 hPo.2.1.1.2 (c_X7_holds ((pA w z) + 1) 6 hPo.2.1 ((dTb (nNd σ z)).map tbJ) p4 hml (tbJ (ro.getD 0 0, num))) (by decide) (by decide) rfl rfl (Nat.le_of_ble_eq_true rfl) dX10_isNew_44 (fun r44 S44 q44 => ?_)
    obtain ⟨rfl, rfl⟩ := q44
    refine X_if_eq (tgt := 52) hB dX10_isNew_47 (by decide) (fun c47 => ?_) (fun c47 => ?_)
    · refine X_aload hB dX10_isNew_52 rfl ?_
      refine X_lload_n (i := 3) hB dX10_isNew_54 rfl rfl ?_
      refine X_aload_n (i := 0) hB dX10_isNew_55 rfl rfl ?_
      refine X_getr hB cw8 fX10_9 rfl hW.1.1 hW.1.2 hw.1.1 dX10_isNew_56 ?_
      refine X_iconst (v := 3) hB dX10_isNew_59 (by decide) ?_
      refine X_ialdN hB (3) hW.2.1.1 hW.2.1.2 (by decide) rfl (by decide) (hw.2.1.1 3 (by decide)) dX10_isNew_60 ?_
      refine X_callV hB kX10_358 cw6 hPo.2.1.1.1 hPo.2.1.1.2 (c_X7_touch ((pA w z) + 1) 6 hPo.2.1 ((dTb (nNd σ z)).map tbJ) p4 hml (tbJ (ro.getD 0 0, num)) (nSe σ 3) (by rw [List.length_map]; exact hl3) h3.1 h3.2) (by decide) (by decide) rfl rfl (Nat.le_of_ble_eq_true rfl) dX10_isNew_61 (fun r61 S61 q61 => ?_)
      obtain ⟨rfl, g1, g2, g3⟩ := q61
      have hnm : tbJ (ro.getD 0 0, num) ∉ (dTb (nNd σ z)).map tbJ := if1n c47
      rw [tb_tch hnm] at g3
      obtain ⟨hw1, hc1⟩ : worldR S61 w (seeN σ z (ro.getD 0 0) num) ∧ wch w S S61 := tb_world hw hz8 g1 g2 g3 (by rw [List.length_take]; omega)
      refine X_iconst (v := 1) hB dX10_isNew_64 (by decide) ?_
      refine X_zret hB rfl (by first | exact Or.inl rfl | exact Or.inr rfl) dX10_isNew_65 ?_
      rw [if_neg (fun q => q.elim (if1n c38) (fun z9 => hnm (hme.mpr z9)))]
      exact ⟨rfl, hw1, hc1⟩
    · refine X_iconst (v := 0) hB dX10_isNew_50 (by decide) ?_
      refine X_zret hB rfl (by first | exact Or.inl rfl | exact Or.inr rfl) dX10_isNew_51 ?_
      rw [if_pos (Or.inr (hme.mp (if1 c47)))]
      exact ⟨rfl, rfl⟩
set_option maxRecDepth 100000 in
set_option maxHeartbeats 4000000 in
theorem c_X10_answer (w : Nat) (hW : WLay G w) (σ : Net) (hw : worldR S w σ) (b o a z : Nat) (f : Fm) (hO : wfO σ b o) (hz : z < nSe σ 0) (hnd : (fRo f).Nodup) (h8 : ∀ y ∈ fRo f, y < 8) (h1 : 1 ≤ (fRo f).length) (hab : fAb f < 8) (hzr : z ∉ fRo f) (hfa : S.2.2 (w + 3) 3 = some a) (hfl : w + 5 ≤ a ∧ a < w + 46) (ha3 : S.1 a 3 = nI (fAb f)) (ha4 : S.1 a 4 = nI (fNu f)) (ha5 : S.1 a 5 = lkN (fLk f)) (ha6 : S.2.1 a 6 = rJ (fRo f)) : C G mX10_answer 4 [.ref w, .int (nI z), .ref a] S (fun r S' => r = none ∧ worldR S' w (answer (learnN σ z (z :: (fRo f).reverse)) z f) ∧ wch w S S') := by
  have hfk := hW.2.2.2.2.2.1 a hfl.1 hfl.2
  have hc8 := hO.1.1.2
  have hz8 : z < 8 := by omega
  have hPo := hW.po hz8
  have hro : okR (fRo f) := okR.of hnd h8
  have hndz : (fRo f ++ [z]).Nodup := List.nodup_append.mpr ⟨hnd, by simp, fun p hp q hq => by rw [List.mem_singleton.mp hq]; exact fun e => hzr (e ▸ hp)⟩
  have h8z : ∀ y ∈ (fRo f ++ [z]), y < 8 := fun y hy => (List.mem_append.mp hy).elim (h8 y) (fun q => by rw [List.mem_singleton.mp q]; exact hz8)
  have hso : okR (fRo f ++ [z]) := okR.of hndz h8z
  have hl7 := hso.1
  rw [List.length_append, List.length_singleton] at hl7
  have hLR : okR (z :: (fRo f).reverse) := hro.rev.cons hz8 (by rw [List.length_reverse]; omega)
  have hLn : (z :: (fRo f).reverse).Nodup := List.nodup_cons.mpr ⟨fun q => hzr (List.mem_reverse.mp q), nodup_rev hnd⟩
  have hO1 : wfO (learnN σ z (z :: (fRo f).reverse)) b o := hO.learn hz8 hLR.2 hLn rfl
  have hh := hO.1.2.1
  have hsl : (fRo f ++ [z]).length = (fRo f).length + 1 := by rw [List.length_append, List.length_singleton]
  refine C.mk (lv := [some (.ref w), some (.int (nI z)), some (.ref a), none, none, none, none, none, none, none]) (by decide) (Nat.le_of_ble_eq_true rfl) rfl (fun E hB => ?_)
  refine X_aload_n (i := 0) hB dX10_answer_0 rfl rfl ?_
  refine X_iload_n (i := 1) hB dX10_answer_1 rfl rfl ?_
  refine X_callV hB kX10_102 cw8 hW.1.1 hW.1.2 (c_X10_post w hW hw.1 z hz8) (by decide) (by decide) rfl rfl (Nat.le_of_ble_eq_true rfl) dX10_answer_2 (fun r2 S2 q2 => ?_)
  obtain ⟨rfl, rfl⟩ := q2
  refine X_getr hB cw4 fX10_72 rfl hPo.1.1 hPo.1.2 (hw.po hz8).1.1 dX10_answer_5 ?_
  refine X_astore_n (i := 3) hB dX10_answer_8 rfl (by decide) rfl ?_
  refine X_aload_n (i := 3) hB dX10_answer_9 rfl rfl ?_
  refine X_iload_n (i := 1) hB dX10_answer_10 rfl rfl ?_
  refine X_aload_n (i := 2) hB dX10_answer_11 rfl rfl ?_
  refine X_getj hB cw3 fX10_311 rfl hfk.1 hfk.2 dX10_answer_12 ?_
  refine X_topl (y := rJ (fRo f)) (ha6) ?_
  refine X_callS hB kX10_304 (c_X8_reversed (fRo f) hro) (by decide) (by decide) rfl rfl (Nat.le_of_ble_eq_true rfl) dX10_answer_15 (fun r15 S15 q15 => ?_)
  obtain ⟨rfl, rfl⟩ := q15
  refine X_callS hB kX10_327 (c_X8_behind (fRo f).reverse hro.rev z hz8) (by decide) (by decide) rfl rfl (Nat.le_of_ble_eq_true rfl) dX10_answer_18 (fun r18 S18 q18 => ?_)
  obtain ⟨rfl, rfl⟩ := q18
  refine X_topl (y := rJ (z :: (fRo f).reverse)) (by rw [List.take_of_length_le (by rw [List.length_reverse]; omega)]) ?_
  refine X_callV hB kX10_316 cw1 hPo.2.2.2.2.1.1 hPo.2.2.2.2.1.2 (c_X1_learn (pA w z + 5) z (nSe σ 1) (nSe σ 2) (dMap (nNd σ z)) (dCa (nNd σ z)) (hW.po hz8).2.2.2.2 (hw.po hz8).2.2.1 (z :: (fRo f).reverse) hLR hLn) (by decide) (by decide) rfl rfl (Nat.le_of_ble_eq_true rfl) dX10_answer_21 (fun r21 S21 q21 => ?_)
  obtain ⟨rfl, g1, g2, g3⟩ := q21
  obtain ⟨hw1, hc1⟩ : worldR S21 w (learnN σ z (z :: (fRo f).reverse)) ∧ wch w S S21 := ca_world hw hz8 g1 g2 g3 (fun q => by omega)
  clear g1 g2 g3
  have hk1 := hc1.2.2 a hfa
  have ha3 : S21.1 a 3 = nI (fAb f) := by rw [hk1.1]; exact ha3
  have ha4 : S21.1 a 4 = nI (fNu f) := by rw [hk1.1]; exact ha4
  have ha5 : S21.1 a 5 = lkN (fLk f) := by rw [hk1.1]; exact ha5
  have ha6 : S21.2.1 a 6 = rJ (fRo f) := by rw [hk1.2]; exact ha6
  have hs0 : (fRo f ++ [z]).getD 0 0 ≠ z := by rw [getD_apl (by omega)]; exact fun q => hzr (q ▸ getD_mem (by omega))
  refine X_aload_n (i := 2) hB dX10_answer_24 rfl rfl ?_
  refine X_getj hB cw3 fX10_311 rfl hfk.1 hfk.2 dX10_answer_25 ?_
  refine X_topl (y := rJ (fRo f)) (ha6) ?_
  refine X_iload_n (i := 1) hB dX10_answer_28 rfl rfl ?_
  refine X_callS hB kX10_287 (c_X8_with (fRo f) hro z hz8) (by decide) (by decide) rfl rfl (Nat.le_of_ble_eq_true rfl) dX10_answer_29 (fun r29 S29 q29 => ?_)
  obtain ⟨rfl, rfl⟩ := q29
  refine X_topl (y := rJ (fRo f ++ [z])) (if_pos (by omega)) ?_
  refine X_lstore hB dX10_answer_32 (by decide) rfl ?_
  refine X_iload_n (i := 1) hB dX10_answer_34 rfl rfl ?_
  refine X_aload_n (i := 2) hB dX10_answer_35 rfl rfl ?_
  refine X_geti hB cw3 fX10_301 rfl hfk.1 hfk.2 dX10_answer_36 ?_
  refine X_topi (y := nI (fAb f)) (ha3) ?_
  refine X_icmp_ne (tgt := 50) hB dX10_answer_39 (by decide) (fun c39 => ?_) (fun c39 => ?_)
  · have e39 : z ≠ fAb f := fun q => c39 (by rw [← q])
    refine X_aload_n (i := 3) hB dX10_answer_50 rfl rfl ?_
    refine X_aload_n (i := 2) hB dX10_answer_51 rfl rfl ?_
    refine X_geti hB cw3 fX10_301 rfl hfk.1 hfk.2 dX10_answer_52 ?_
    refine X_topi (y := nI (fAb f)) (ha3) ?_
    refine X_callV hB kX10_106 cw1 hPo.2.2.2.2.1.1 hPo.2.2.2.2.1.2 (c_X1_wayTo (pA w z + 5) z (nSe (learnN σ z (z :: (fRo f).reverse)) 1) (nSe (learnN σ z (z :: (fRo f).reverse)) 2) (dMap (nNd (learnN σ z (z :: (fRo f).reverse)) z)) (dCa (nNd (learnN σ z (z :: (fRo f).reverse)) z)) (hW.po hz8).2.2.2.2 (hw1.po hz8).2.2.1 (fAb f) hab e39) (by decide) (by decide) rfl rfl (Nat.le_of_ble_eq_true rfl) dX10_answer_55 (fun r55 S55 q55 => ?_)
    obtain ⟨rfl, rfl⟩ := q55
    refine X_topl (y := rJ (wayN (learnN σ z (z :: (fRo f).reverse)) z (fAb f))) (rfl) ?_
    have hgw : (wayN (learnN σ z (z :: (fRo f).reverse)) z (fAb f)) ≠ [] → goodW z (fAb f) (wayN (learnN σ z (z :: (fRo f).reverse)) z (fAb f)) := fun q => wayN_good hz8 hO1.1 (hO1.no hz8) q
    have hwr : okR (wayN (learnN σ z (z :: (fRo f).reverse)) z (fAb f)) := by
      by_cases q : (wayN (learnN σ z (z :: (fRo f).reverse)) z (fAb f)) = []
      · rw [q]; exact okR.nil
      · exact (hgw q).R
    have hjl : (∀ x ∈ fRo f, x ∉ (wayN (learnN σ z (z :: (fRo f).reverse)) z (fAb f))) → (fRo f).length + (wayN (learnN σ z (z :: (fRo f).reverse)) z (fAb f)).length ≤ 8 := fun q => by
      by_cases q0 : (wayN (learnN σ z (z :: (fRo f).reverse)) z (fAb f)) = []
      · rw [q0]; simpa using hro.1
      · have := nodup8 (l := fRo f ++ (wayN (learnN σ z (z :: (fRo f).reverse)) z (fAb f))) (List.nodup_append.mpr ⟨hnd, (hgw q0).1, fun p hp u hu e => q p hp (e ▸ hu)⟩) (fun y hy => (List.mem_append.mp hy).elim (h8 y) (hwr.2 y))
        rwa [List.length_append] at this
    have hh1 : nSe (learnN σ z (z :: (fRo f).reverse)) 1 ≤ 7 := hh.2
    refine X_lstore hB dX10_answer_58 (by decide) rfl ?_
    refine X_lload hB dX10_answer_60 rfl ?_
    refine X_lconst (v := 0) hB dX10_answer_62 (by decide) ?_
    refine X_lcmp hB dX10_answer_63 ?_
    refine X_if_ne (tgt := 71) hB dX10_answer_64 (by decide) (fun c64 => ?_) (fun c64 => ?_)
    · have e64 : (wayN (learnN σ z (z :: (fRo f).reverse)) z (fAb f)) ≠ [] := fun q => c64 ((cmp_0 hwr).mpr q)
      have hg := hgw e64
      refine X_aload_n (i := 2) hB dX10_answer_71 rfl rfl ?_
      refine X_getj hB cw3 fX10_311 rfl hfk.1 hfk.2 dX10_answer_72 ?_
      refine X_topl (y := rJ (fRo f)) (ha6) ?_
      refine X_lload hB dX10_answer_75 rfl ?_
      refine X_callS hB kX10_338 (c_X8_joined (fRo f) hro (wayN (learnN σ z (z :: (fRo f).reverse)) z (fAb f)) hwr hjl) (by decide) (by decide) rfl rfl (Nat.le_of_ble_eq_true rfl) dX10_answer_77 (fun r77 S77 q77 => ?_)
      obtain ⟨rfl, rfl⟩ := q77
      refine X_lstore hB dX10_answer_80 (by decide) rfl ?_
      refine X_lload hB dX10_answer_82 rfl ?_
      refine X_lconst (v := 0) hB dX10_answer_84 (by decide) ?_
      refine X_lcmp hB dX10_answer_85 ?_
      refine X_if_eq (tgt := 115) hB dX10_answer_86 (by decide) (fun c86 => ?_) (fun c86 => ?_)
      · refine X_lload hB dX10_answer_115 rfl ?_
        refine X_callS hB kX10_174 (c_X8_length (fRo f ++ [z]) hso) (by decide) (by decide) rfl rfl (Nat.le_of_ble_eq_true rfl) dX10_answer_117 (fun r117 S117 q117 => ?_)
        obtain ⟨rfl, rfl⟩ := q117
        refine X_iconst (v := 1) hB dX10_answer_120 (by decide) ?_
        refine X_isub hB dX10_answer_121 ?_
        refine X_topi (y := nI (fRo f).length) (by rw [hsl, nI_pred]) ?_
        refine X_aload_n (i := 0) hB dX10_answer_122 rfl rfl ?_
        refine X_getr hB cw8 fX10_9 rfl hW.1.1 hW.1.2 hw1.1.1 dX10_answer_123 ?_
        refine X_iconst (v := 1) hB dX10_answer_126 (by decide) ?_
        refine X_ialdN hB (1) hW.2.1.1 hW.2.1.2 (by decide) rfl (by decide) (hw1.2.1.1 1 (by decide)) dX10_answer_127 ?_
        refine X_icmp_ge (tgt := 150) hB dX10_answer_128 (by decide) (fun c128 => ?_) (fun c128 => ?_)
        · refine X_vret hB rfl dX10_answer_150 ?_
          have hkw : ¬ kwB (learnN σ z (z :: (fRo f).reverse)) z f = true := by
            unfold kwB
            rw [Bool.and_eq_true, Bool.and_eq_true, decide_eq_true_eq, decide_eq_true_eq]
            exact fun q => by
              have q86 := isRtB_iff.mp q.2.2
              rw [if_pos q86.2] at c86
              have := (rJ_0 (hro.app hwr (hjl q86.2))).mp (cmp_eq.mp c86)
              have e0 := (List.append_eq_nil_iff.mp this).1
              rw [e0] at h1
              simp at h1
          rw [nI_leI (by omega) (by omega)] at c128
          refine ⟨rfl, ?_, hc1⟩
          unfold answer
          rw [if_neg (fun q => q.elim e39 hkw), if_neg (by omega)]
          exact hw1
        · refine X_aload_n (i := 0) hB dX10_answer_131 rfl rfl ?_
          refine X_iload_n (i := 1) hB dX10_answer_132 rfl rfl ?_
          refine X_aload_n (i := 2) hB dX10_answer_133 rfl rfl ?_
          refine X_geti hB cw3 fX10_301 rfl hfk.1 hfk.2 dX10_answer_134 ?_
          refine X_topi (y := nI (fAb f)) (ha3) ?_
          refine X_aload_n (i := 2) hB dX10_answer_137 rfl rfl ?_
          refine X_geti hB cw3 fX10_254 rfl hfk.1 hfk.2 dX10_answer_138 ?_
          refine X_topi (y := nI (fNu f)) (ha4) ?_
          refine X_aload_n (i := 2) hB dX10_answer_141 rfl rfl ?_
          refine X_geti hB cw3 fX10_255 rfl hfk.1 hfk.2 dX10_answer_142 ?_
          refine X_topi (y := lkN (fLk f)) (ha5) ?_
          refine X_lload hB dX10_answer_145 rfl ?_
          refine X_callV hB kX10_291 cw8 hW.1.1 hW.1.2 (c_X10_emitRequest w hW (learnN σ z (z :: (fRo f).reverse)) hw1 (1, z, fAb f, fNu f, fLk f, (fRo f ++ [z])) rfl) (by decide) (by decide) rfl rfl (Nat.le_of_ble_eq_true rfl) dX10_answer_147 (fun r147 S147 q147 => ?_)
          obtain ⟨rfl, k1, k2⟩ := q147
          refine X_vret hB rfl dX10_answer_150 ?_
          have hkw : ¬ kwB (learnN σ z (z :: (fRo f).reverse)) z f = true := by
            unfold kwB
            rw [Bool.and_eq_true, Bool.and_eq_true, decide_eq_true_eq, decide_eq_true_eq]
            exact fun q => by
              have q86 := isRtB_iff.mp q.2.2
              rw [if_pos q86.2] at c86
              have := (rJ_0 (hro.app hwr (hjl q86.2))).mp (cmp_eq.mp c86)
              have e0 := (List.append_eq_nil_iff.mp this).1
              rw [e0] at h1
              simp at h1
          rw [nI_leI (by omega) (by omega)] at c128
          refine ⟨rfl, ?_, hc1.tr k2⟩
          unfold answer
          rw [if_neg (fun q => q.elim e39 hkw), if_pos (by omega)]
          exact k1
      · have e86 : ∀ x ∈ fRo f, x ∉ (wayN (learnN σ z (z :: (fRo f).reverse)) z (fAb f)) := Classical.byContradiction (fun q => c86 (by rw [if_neg q]; exact cmp_eq.mpr rfl))
        have hjn := hjl e86
        have hg2 := hg.2.2.2.1
        have hz0 : (wayN (learnN σ z (z :: (fRo f).reverse)) z (fAb f)).getD 0 0 ∈ (wayN (learnN σ z (z :: (fRo f).reverse)) z (fAb f)) := getD_mem (by omega)
        rw [hg.2.1] at hz0
        have hzin : z ∈ fRo f ++ (wayN (learnN σ z (z :: (fRo f).reverse)) z (fAb f)) := List.mem_append_right _ hz0
        have hs1 : (fRo f ++ (wayN (learnN σ z (z :: (fRo f).reverse)) z (fAb f))).getD 0 0 ≠ z := by rw [getD_apl (by omega)]; exact fun q => hzr (q ▸ getD_mem (by omega))
        refine X_lload hB dX10_answer_89 rfl ?_
        refine X_topl (y := rJ (fRo f ++ (wayN (learnN σ z (z :: (fRo f).reverse)) z (fAb f)))) (if_pos e86) ?_
        refine X_callS hB kX10_174 (c_X8_length (fRo f ++ (wayN (learnN σ z (z :: (fRo f).reverse)) z (fAb f))) (hro.app hwr (hjl e86))) (by decide) (by decide) rfl rfl (Nat.le_of_ble_eq_true rfl) dX10_answer_91 (fun r91 S91 q91 => ?_)
        obtain ⟨rfl, rfl⟩ := q91
        refine X_iconst (v := 1) hB dX10_answer_94 (by decide) ?_
        refine X_isub hB dX10_answer_95 ?_
        refine X_topi (y := nI ((fRo f).length + (wayN (learnN σ z (z :: (fRo f).reverse)) z (fAb f)).length - 1)) (by rw [List.length_append, show (1 : Int32) = nI 1 from rfl, nI_sub (by omega)]) ?_
        refine X_aload_n (i := 0) hB dX10_answer_96 rfl rfl ?_
        refine X_getr hB cw8 fX10_9 rfl hW.1.1 hW.1.2 hw1.1.1 dX10_answer_97 ?_
        refine X_iconst (v := 1) hB dX10_answer_100 (by decide) ?_
        refine X_ialdN hB (1) hW.2.1.1 hW.2.1.2 (by decide) rfl (by decide) (hw1.2.1.1 1 (by decide)) dX10_answer_101 ?_
        refine X_icmp_gt (tgt := 115) hB dX10_answer_102 (by decide) (fun c102 => ?_) (fun c102 => ?_)
        · refine X_lload hB dX10_answer_115 rfl ?_
          refine X_callS hB kX10_174 (c_X8_length (fRo f ++ [z]) hso) (by decide) (by decide) rfl rfl (Nat.le_of_ble_eq_true rfl) dX10_answer_117 (fun r117 S117 q117 => ?_)
          obtain ⟨rfl, rfl⟩ := q117
          refine X_iconst (v := 1) hB dX10_answer_120 (by decide) ?_
          refine X_isub hB dX10_answer_121 ?_
          refine X_topi (y := nI (fRo f).length) (by rw [hsl, nI_pred]) ?_
          refine X_aload_n (i := 0) hB dX10_answer_122 rfl rfl ?_
          refine X_getr hB cw8 fX10_9 rfl hW.1.1 hW.1.2 hw1.1.1 dX10_answer_123 ?_
          refine X_iconst (v := 1) hB dX10_answer_126 (by decide) ?_
          refine X_ialdN hB (1) hW.2.1.1 hW.2.1.2 (by decide) rfl (by decide) (hw1.2.1.1 1 (by decide)) dX10_answer_127 ?_
          refine X_icmp_ge (tgt := 150) hB dX10_answer_128 (by decide) (fun c128 => ?_) (fun c128 => ?_)
          · refine X_vret hB rfl dX10_answer_150 ?_
            have hkw : ¬ kwB (learnN σ z (z :: (fRo f).reverse)) z f = true := by
              unfold kwB
              rw [Bool.and_eq_true, Bool.and_eq_true, decide_eq_true_eq, decide_eq_true_eq]
              exact fun q => by
                rw [nI_ltI (by omega) (by omega)] at c102
                have q86 := isRtB_iff.mp q.2.2
                omega
            rw [nI_leI (by omega) (by omega)] at c128
            refine ⟨rfl, ?_, hc1⟩
            unfold answer
            rw [if_neg (fun q => q.elim e39 hkw), if_neg (by omega)]
            exact hw1
          · refine X_aload_n (i := 0) hB dX10_answer_131 rfl rfl ?_
            refine X_iload_n (i := 1) hB dX10_answer_132 rfl rfl ?_
            refine X_aload_n (i := 2) hB dX10_answer_133 rfl rfl ?_
            refine X_geti hB cw3 fX10_301 rfl hfk.1 hfk.2 dX10_answer_134 ?_
            refine X_topi (y := nI (fAb f)) (ha3) ?_
            refine X_aload_n (i := 2) hB dX10_answer_137 rfl rfl ?_
            refine X_geti hB cw3 fX10_254 rfl hfk.1 hfk.2 dX10_answer_138 ?_
            refine X_topi (y := nI (fNu f)) (ha4) ?_
            refine X_aload_n (i := 2) hB dX10_answer_141 rfl rfl ?_
            refine X_geti hB cw3 fX10_255 rfl hfk.1 hfk.2 dX10_answer_142 ?_
            refine X_topi (y := lkN (fLk f)) (ha5) ?_
            refine X_lload hB dX10_answer_145 rfl ?_
            refine X_callV hB kX10_291 cw8 hW.1.1 hW.1.2 (c_X10_emitRequest w hW (learnN σ z (z :: (fRo f).reverse)) hw1 (1, z, fAb f, fNu f, fLk f, (fRo f ++ [z])) rfl) (by decide) (by decide) rfl rfl (Nat.le_of_ble_eq_true rfl) dX10_answer_147 (fun r147 S147 q147 => ?_)
            obtain ⟨rfl, k1, k2⟩ := q147
            refine X_vret hB rfl dX10_answer_150 ?_
            have hkw : ¬ kwB (learnN σ z (z :: (fRo f).reverse)) z f = true := by
              unfold kwB
              rw [Bool.and_eq_true, Bool.and_eq_true, decide_eq_true_eq, decide_eq_true_eq]
              exact fun q => by
                rw [nI_ltI (by omega) (by omega)] at c102
                have q86 := isRtB_iff.mp q.2.2
                omega
            rw [nI_leI (by omega) (by omega)] at c128
            refine ⟨rfl, ?_, hc1.tr k2⟩
            unfold answer
            rw [if_neg (fun q => q.elim e39 hkw), if_pos (by omega)]
            exact k1
        · refine X_aload_n (i := 0) hB dX10_answer_105 rfl rfl ?_
          refine X_iload_n (i := 1) hB dX10_answer_106 rfl rfl ?_
          refine X_lload hB dX10_answer_107 rfl ?_
          refine X_topl (y := rJ (fRo f ++ (wayN (learnN σ z (z :: (fRo f).reverse)) z (fAb f)))) (if_pos e86) ?_
          refine X_callV hB kX10_342 cw8 hW.1.1 hW.1.2 (c_X10_emitReply w hW (learnN σ z (z :: (fRo f).reverse)) hw1 z (fRo f ++ (wayN (learnN σ z (z :: (fRo f).reverse)) z (fAb f))) hz8 (hro.app hwr (hjl e86)) hzin hs1) (by decide) (by decide) rfl rfl (Nat.le_of_ble_eq_true rfl) dX10_answer_109 (fun r109 S109 q109 => ?_)
          obtain ⟨rfl, k1, k2⟩ := q109
          refine X_goto (tgt := 150) hB dX10_answer_112 (by decide) ?_
          refine X_vret hB rfl dX10_answer_150 ?_
          rw [nI_ltI (by omega) (by omega)] at c102
          have hkw : kwB (learnN σ z (z :: (fRo f).reverse)) z f = true := by
            unfold kwB
            rw [Bool.and_eq_true, Bool.and_eq_true, decide_eq_true_eq, decide_eq_true_eq, isRtB_iff]
            exact ⟨e39, e64, by omega, e86⟩
          refine ⟨rfl, ?_, hc1.tr k2⟩
          unfold answer
          rw [if_pos (Or.inr hkw), if_pos hkw, List.append_assoc, List.singleton_append, ← hd_cons (by omega) hg.2.1]
          exact k1
    · refine X_lconst (v := 0) hB dX10_answer_67 (by decide) ?_
      refine X_goto (tgt := 80) hB dX10_answer_68 (by decide) ?_
      refine X_lstore hB dX10_answer_80 (by decide) rfl ?_
      refine X_lload hB dX10_answer_82 rfl ?_
      refine X_lconst (v := 0) hB dX10_answer_84 (by decide) ?_
      refine X_lcmp hB dX10_answer_85 ?_
      refine X_if_eq (tgt := 115) hB dX10_answer_86 (by decide) (fun c86 => ?_) (fun c86 => absurd rfl c86)
      refine X_lload hB dX10_answer_115 rfl ?_
      refine X_callS hB kX10_174 (c_X8_length (fRo f ++ [z]) hso) (by decide) (by decide) rfl rfl (Nat.le_of_ble_eq_true rfl) dX10_answer_117 (fun r117 S117 q117 => ?_)
      obtain ⟨rfl, rfl⟩ := q117
      refine X_iconst (v := 1) hB dX10_answer_120 (by decide) ?_
      refine X_isub hB dX10_answer_121 ?_
      refine X_topi (y := nI (fRo f).length) (by rw [hsl, nI_pred]) ?_
      refine X_aload_n (i := 0) hB dX10_answer_122 rfl rfl ?_
      refine X_getr hB cw8 fX10_9 rfl hW.1.1 hW.1.2 hw1.1.1 dX10_answer_123 ?_
      refine X_iconst (v := 1) hB dX10_answer_126 (by decide) ?_
      refine X_ialdN hB (1) hW.2.1.1 hW.2.1.2 (by decide) rfl (by decide) (hw1.2.1.1 1 (by decide)) dX10_answer_127 ?_
      refine X_icmp_ge (tgt := 150) hB dX10_answer_128 (by decide) (fun c128 => ?_) (fun c128 => ?_)
      · refine X_vret hB rfl dX10_answer_150 ?_
        have hkw : ¬ kwB (learnN σ z (z :: (fRo f).reverse)) z f = true := by
          unfold kwB
          rw [Bool.and_eq_true, Bool.and_eq_true, decide_eq_true_eq, decide_eq_true_eq]
          exact fun q => q.2.1 ((cmp_0 hwr).mp c64)
        rw [nI_leI (by omega) (by omega)] at c128
        refine ⟨rfl, ?_, hc1⟩
        unfold answer
        rw [if_neg (fun q => q.elim e39 hkw), if_neg (by omega)]
        exact hw1
      · refine X_aload_n (i := 0) hB dX10_answer_131 rfl rfl ?_
        refine X_iload_n (i := 1) hB dX10_answer_132 rfl rfl ?_
        refine X_aload_n (i := 2) hB dX10_answer_133 rfl rfl ?_
        refine X_geti hB cw3 fX10_301 rfl hfk.1 hfk.2 dX10_answer_134 ?_
        refine X_topi (y := nI (fAb f)) (ha3) ?_
        refine X_aload_n (i := 2) hB dX10_answer_137 rfl rfl ?_
        refine X_geti hB cw3 fX10_254 rfl hfk.1 hfk.2 dX10_answer_138 ?_
        refine X_topi (y := nI (fNu f)) (ha4) ?_
        refine X_aload_n (i := 2) hB dX10_answer_141 rfl rfl ?_
        refine X_geti hB cw3 fX10_255 rfl hfk.1 hfk.2 dX10_answer_142 ?_
        refine X_topi (y := lkN (fLk f)) (ha5) ?_
        refine X_lload hB dX10_answer_145 rfl ?_
        refine X_callV hB kX10_291 cw8 hW.1.1 hW.1.2 (c_X10_emitRequest w hW (learnN σ z (z :: (fRo f).reverse)) hw1 (1, z, fAb f, fNu f, fLk f, (fRo f ++ [z])) rfl) (by decide) (by decide) rfl rfl (Nat.le_of_ble_eq_true rfl) dX10_answer_147 (fun r147 S147 q147 => ?_)
        obtain ⟨rfl, k1, k2⟩ := q147
        refine X_vret hB rfl dX10_answer_150 ?_
        have hkw : ¬ kwB (learnN σ z (z :: (fRo f).reverse)) z f = true := by
          unfold kwB
          rw [Bool.and_eq_true, Bool.and_eq_true, decide_eq_true_eq, decide_eq_true_eq]
          exact fun q => q.2.1 ((cmp_0 hwr).mp c64)
        rw [nI_leI (by omega) (by omega)] at c128
        refine ⟨rfl, ?_, hc1.tr k2⟩
        unfold answer
        rw [if_neg (fun q => q.elim e39 hkw), if_pos (by omega)]
        exact k1
  · refine X_aload_n (i := 0) hB dX10_answer_42 rfl rfl ?_
    refine X_iload_n (i := 1) hB dX10_answer_43 rfl rfl ?_
    refine X_lload hB dX10_answer_44 rfl ?_
    refine X_callV hB kX10_342 cw8 hW.1.1 hW.1.2 (c_X10_emitReply w hW (learnN σ z (z :: (fRo f).reverse)) hw1 z (fRo f ++ [z]) hz8 hso (by simp) hs0) (by decide) (by decide) rfl rfl (Nat.le_of_ble_eq_true rfl) dX10_answer_46 (fun r46 S46 q46 => ?_)
    obtain ⟨rfl, k1, k2⟩ := q46
    refine X_vret hB rfl dX10_answer_49 ?_
    have e39 : z = fAb f := (nI_eq (by omega) (by omega)).mp c39
    refine ⟨rfl, ?_, hc1.tr k2⟩
    unfold answer
    rw [if_pos (Or.inl e39), if_neg (show ¬ kwB (learnN σ z (z :: (fRo f).reverse)) z f = true by unfold kwB; simp [e39]), List.append_nil]
    exact k1
set_option maxRecDepth 100000 in
set_option maxHeartbeats 4000000 in
theorem l_X10_requestArrives {E : Ev} (hB : Bd G E mX10_requestArrives) {Q : Option Value → St → Prop} (w : Nat) (hW : WLay G w) (σ : Net) (hw : worldR S w σ) (b o a : Nat) (f : Fm) (hO : wfO σ b o) (hx8 : fFr f < 8) (hnd : (fRo f).Nodup) (h8 : ∀ y ∈ fRo f, y < 8) (h1 : 1 ≤ (fRo f).length) (hab : fAb f < 8) (hnu : fNu f ≤ b) (hlk : lkOk (fLk f)) (hfa : S.2.2 (w + 3) 3 = some a) (hfl : w + 5 ≤ a ∧ a < w + 46) (hfm : fmR S a σ f) (hk1 : fKi f = 1) (kk : ∀ S1, wch w S S1 → worldR S1 w (iterN (reqStep f) 8 σ) → Q none S1) :
    ∀ (k z : Nat) (S1 : St), z + k = 8 → wch w S S1 → worldR S1 w (iterN (reqStep f) z σ) → wfO (iterN (reqStep f) z σ) b o → X G E mX10_requestArrives 5 Q S1 2 [some (.ref w), some (.ref a), some (.int (nI z))] [] := by
  have hfk := hW.2.2.2.2.2.1 a hfl.1 hfl.2
  have hro : okR (fRo f) := okR.of hnd h8
  intro k
  induction k with
  | zero =>
    intro z S1 h1' h2 h3 h4
    have e9 : z = 8 := by omega
    subst e9
    refine X_iload_n (i := 2) hB dX10_requestArrives_2 rfl rfl ?_
    refine X_bipush (v := 8) hB dX10_requestArrives_3 (by decide) ?_
    refine X_icmp_ge (tgt := 73) hB dX10_requestArrives_5 (by decide) (fun c5 => ?_) (fun c5 => absurd c5 (by simp (disch := omega) only [nlit, nI_leI, nI_ltI]; omega))
    refine X_vret hB rfl dX10_requestArrives_73 ?_
    exact kk S1 h2 h3
  | succ k ih =>
    intro z S1 h1' h2 h3 h4
    have hz8 : z < 8 := by omega
    have hup := h4.2.2.2.2.2.2.1.sym
    have hPo := hW.po hz8
    have hfr := h2.2.2 a hfa
    have h4' : wfO (reqStep f z (iterN (reqStep f) z σ)) b o := h4.rq hz8 hnd h8 h1 hab hnu hlk
    have ha1 : S1.1 a 1 = nI (fFr f) := by rw [hfr.1]; exact hfm.2.1
    have ha5 : S1.1 a 5 = lkN (fLk f) := by rw [hfr.1, hfm.2.2.2.2.2.1, if_pos hk1]
    refine X_iload_n (i := 2) hB dX10_requestArrives_2 rfl rfl ?_
    refine X_bipush (v := 8) hB dX10_requestArrives_3 (by decide) ?_
    refine X_icmp_ge (tgt := 73) hB dX10_requestArrives_5 (by decide) (fun c5 => absurd c5 (by simp (disch := omega) only [nlit, nI_leI, nI_ltI]; omega)) (fun c5 => ?_)
    refine X_aload_n (i := 0) hB dX10_requestArrives_8 rfl rfl ?_
    refine X_getj hB cw8 fX10_64 rfl hW.1.1 hW.1.2 dX10_requestArrives_9 ?_
    refine X_iload_n (i := 2) hB dX10_requestArrives_12 rfl rfl ?_
    refine X_aload_n (i := 1) hB dX10_requestArrives_13 rfl rfl ?_
    refine X_geti hB cw3 fX10_216 rfl hfk.1 hfk.2 dX10_requestArrives_14 ?_
    refine X_topi (y := nI (fFr f)) (ha1) ?_
    refine X_callS hB kX10_222 (c_X4_hold h3.2.1.2.2.2.2 hz8 hx8 (hup z (fFr f))) (by decide) (by decide) rfl rfl (Nat.le_of_ble_eq_true rfl) dX10_requestArrives_17 (fun r17 S17 q17 => ?_)
    obtain ⟨rfl, rfl⟩ := q17
    refine X_if_eq (tgt := 67) hB dX10_requestArrives_20 (by decide) (fun c20 => ?_) (fun c20 => ?_)
    · refine X_iinc hB dX10_requestArrives_67 rfl rfl (by decide) rfl ?_
      refine X_goto (tgt := 2) hB dX10_requestArrives_70 (by decide) ?_
      have hh : reqStep f z (iterN (reqStep f) z σ) = (iterN (reqStep f) z σ) := reqStep_no (fun q => if1n c20 (by rw [hup]; exact q.2))
      refine X_lv ?_ (ih (z + 1) S1 (by omega) h2 (show worldR S1 w (reqStep f z (iterN (reqStep f) z σ)) by rw [hh]; exact h3) h4')
      · rw [nI_succ]; rfl
    · refine X_aload_n (i := 0) hB dX10_requestArrives_23 rfl rfl ?_
      refine X_iload_n (i := 2) hB dX10_requestArrives_24 rfl rfl ?_
      refine X_callV hB kX10_102 cw8 hW.1.1 hW.1.2 (c_X10_post w hW h3.1 z hz8) (by decide) (by decide) rfl rfl (Nat.le_of_ble_eq_true rfl) dX10_requestArrives_25 (fun r25 S25 q25 => ?_)
      obtain ⟨rfl, rfl⟩ := q25
      refine X_getr hB cw4 fX10_72 rfl hPo.1.1 hPo.1.2 (h3.po hz8).1.1 dX10_requestArrives_28 ?_
      refine X_aload_n (i := 1) hB dX10_requestArrives_31 rfl rfl ?_
      refine X_geti hB cw3 fX10_255 rfl hfk.1 hfk.2 dX10_requestArrives_32 ?_
      refine X_topi (y := lkN (fLk f)) (ha5) ?_
      refine X_callV hB kX10_298 cw1 hPo.2.2.2.2.1.1 hPo.2.2.2.2.1.2 (c_X1_forget (pA w z + 5) z (nSe (iterN (reqStep f) z σ) 1) (nSe (iterN (reqStep f) z σ) 2) (dMap (nNd (iterN (reqStep f) z σ) z)) (dCa (nNd (iterN (reqStep f) z σ) z)) (hW.po hz8).2.2.2.2 (h3.po hz8).2.2.1 (fLk f) hlk) (by decide) (by decide) rfl rfl (Nat.le_of_ble_eq_true rfl) dX10_requestArrives_35 (fun r35 S35 q35 => ?_)
      obtain ⟨rfl, g1, g2, g3⟩ := q35
      have hzu : nUp (iterN (reqStep f) z σ) z (fFr f) = true := if1 c20
      have hzc : z < nSe (iterN (reqStep f) z σ) 0 := (h4.2.2.2.2.2.2.1 z (fFr f) hzu).1
      have hcz : z ≠ fFr f ∧ nUp (iterN (reqStep f) z σ) (fFr f) z = true := ⟨(h4.2.2.2.2.2.2.1 z (fFr f) hzu).2.2.1, by rw [hup]; exact hzu⟩
      obtain ⟨w5, c5⟩ : worldR S35 w (forgetON (iterN (reqStep f) z σ) z (fLk f)) ∧ wch w S1 S35 := ca_world h3 hz8 g1 g2 g3 (fun q => by omega)
      clear g1 g2 g3
      have hO5 : wfO (forgetON (iterN (reqStep f) z σ) z (fLk f)) b o := h4.forgetO hz8
      have hfr5 := (h2.tr c5).2.2 a hfa
      refine X_aload_n (i := 0) hB dX10_requestArrives_38 rfl rfl ?_
      refine X_iload_n (i := 2) hB dX10_requestArrives_39 rfl rfl ?_
      refine X_aload_n (i := 1) hB dX10_requestArrives_40 rfl rfl ?_
      refine X_callV hB kX10_345 cw8 hW.1.1 hW.1.2 (c_X10_isNew w hW (forgetON (iterN (reqStep f) z σ) z (fLk f)) w5 b o a z (fNu f) (fRo f) hO5 hz8 hro h1 hnu (by rw [c5.2.1, h2.2.1]; exact hfa) hfl (by rw [hfr5.1, hfm.2.2.2.2.1, if_pos hk1]) (by rw [hfr5.2, hfm.2.2.2.2.2.2]; unfold frL; rw [if_neg (by omega)])) (by decide) (by decide) rfl rfl (Nat.le_of_ble_eq_true rfl) dX10_requestArrives_41 (fun r41 S41 q41 => ?_)
      by_cases e44 : z ∈ fRo f ∨ ((fRo f).getD 0 0, fNu f) ∈ dTb (nNd (forgetON (iterN (reqStep f) z σ) z (fLk f)) z)
      · rw [if_pos e44] at q41
        obtain ⟨rfl, rfl⟩ := q41
        refine X_if_eq (tgt := 56) hB dX10_requestArrives_44 (by decide) (fun c44 => ?_) (fun c44 => absurd rfl c44)
        refine X_aload_n (i := 0) hB dX10_requestArrives_56 rfl rfl ?_
        refine X_getr hB cw8 fX10_15 rfl hW.1.1 hW.1.2 w5.1.2.1 dX10_requestArrives_57 ?_
        refine X_bipush (v := 7) hB dX10_requestArrives_60 (by decide) ?_
        refine X_dup2_11 hB dX10_requestArrives_62 rfl rfl ?_
        refine X_ialdN hB (7) hW.2.2.1.1 hW.2.2.1.2 (by decide) rfl (by omega) (w5.2.1.2.1 7 (by decide)) dX10_requestArrives_63 ?_
        refine X_iconst (v := 1) hB dX10_requestArrives_64 (by decide) ?_
        refine X_iadd hB dX10_requestArrives_65 ?_
        refine X_topi (y := nI (nTa (forgetON (iterN (reqStep f) z σ) z (fLk f)) 7 + 1)) (by first | rfl | (simp (disch := omega) only [nlit, nI_add, nI_mul, nI_sub]; done) | (simp (disch := omega) only [nlit, nI_add, nI_mul, nI_sub]; (congr 1 <;> omega))) ?_
        refine X_iastN hB (7) hW.2.2.1.1 hW.2.2.1.2 (by decide) rfl (by omega) dX10_requestArrives_66 ?_
        generalize hS9 : setI S35 (w + 2) 7 (nI (nTa (forgetON (iterN (reqStep f) z σ) z (fLk f)) 7 + 1)) = S9
        obtain ⟨w9, c9⟩ : worldR S9 w (uTa (forgetON (iterN (reqStep f) z σ) z (fLk f)) 7) ∧ wch w S35 S9 := hS9 ▸ worldR_ta w5 (by decide)
        clear hS9
        refine X_iinc hB dX10_requestArrives_67 rfl rfl (by decide) rfl ?_
        refine X_goto (tgt := 2) hB dX10_requestArrives_70 (by decide) ?_
        have hh := reqStep_dup hcz e44
        refine X_lv ?_ (ih (z + 1) S9 (by omega) (h2.tr (c5.tr c9)) (show worldR S9 w (reqStep f z (iterN (reqStep f) z σ)) by rw [hh]; exact w9) h4')
        · rw [nI_succ]; rfl
      · rw [if_neg e44] at q41
        obtain ⟨rfl, k1, k2⟩ := q41
        have hfr6 := (h2.tr (c5.tr k2)).2.2 a hfa
        refine X_if_eq (tgt := 56) hB dX10_requestArrives_44 (by decide) (fun c44 => absurd c44 (by decide)) (fun c44 => ?_)
        refine X_aload_n (i := 0) hB dX10_requestArrives_47 rfl rfl ?_
        refine X_iload_n (i := 2) hB dX10_requestArrives_48 rfl rfl ?_
        refine X_aload_n (i := 1) hB dX10_requestArrives_49 rfl rfl ?_
        refine X_callV hB kX10_349 cw8 hW.1.1 hW.1.2 (c_X10_answer w hW (seeN (forgetON (iterN (reqStep f) z σ) z (fLk f)) z ((fRo f).getD 0 0) (fNu f)) k1 b o a z f (hO5.see hz8 (h8 _ (getD_mem (by omega))) hnu) hzc hnd h8 h1 hab (fun q => e44 (Or.inl q)) (by rw [k2.2.1, c5.2.1, h2.2.1]; exact hfa) hfl (by rw [hfr6.1, hfm.2.2.2.1]; unfold whatF; rw [if_neg (by omega), if_neg (by omega)]) (by rw [hfr6.1, hfm.2.2.2.2.1, if_pos hk1]) (by rw [hfr6.1, hfm.2.2.2.2.2.1, if_pos hk1]) (by rw [hfr6.2, hfm.2.2.2.2.2.2]; unfold frL; rw [if_neg (by omega)])) (by decide) (by decide) rfl rfl (Nat.le_of_ble_eq_true rfl) dX10_requestArrives_50 (fun r50 S50 q50 => ?_)
        obtain ⟨rfl, m1, m2⟩ := q50
        refine X_goto (tgt := 67) hB dX10_requestArrives_53 (by decide) ?_
        refine X_iinc hB dX10_requestArrives_67 rfl rfl (by decide) rfl ?_
        refine X_goto (tgt := 2) hB dX10_requestArrives_70 (by decide) ?_
        have hh := reqStep_new hcz e44
        refine X_lv ?_ (ih (z + 1) S50 (by omega) (h2.tr (c5.tr (k2.tr m2))) (show worldR S50 w (reqStep f z (iterN (reqStep f) z σ)) by rw [hh]; exact m1) h4')
        · rw [nI_succ]; rfl
set_option maxRecDepth 100000 in
set_option maxHeartbeats 4000000 in
theorem c_X10_requestArrives (w : Nat) (hW : WLay G w) (σ : Net) (hw : worldR S w σ) (b o a : Nat) (f : Fm) (hO : wfO σ b o) (hx8 : fFr f < 8) (hnd : (fRo f).Nodup) (h8 : ∀ y ∈ fRo f, y < 8) (h1 : 1 ≤ (fRo f).length) (hab : fAb f < 8) (hnu : fNu f ≤ b) (hlk : lkOk (fLk f)) (hfa : S.2.2 (w + 3) 3 = some a) (hfl : w + 5 ≤ a ∧ a < w + 46) (hfm : fmR S a σ f) (hk1 : fKi f = 1) : C G mX10_requestArrives 5 [.ref w, .ref a] S (fun r S' => r = none ∧ worldR S' w (arrReq σ f) ∧ wch w S S') := by
  refine C.mk (lv := [some (.ref w), some (.ref a), none]) (by decide) (Nat.le_of_ble_eq_true rfl) rfl (fun E hB => ?_)
  refine X_iconst (v := 0) hB dX10_requestArrives_0 (by decide) ?_
  refine X_istore_n (i := 2) hB dX10_requestArrives_1 rfl (by decide) rfl ?_
  refine X_lv (lv' := [some (.ref w), some (.ref a), some (.int (nI 0))]) (by rw [nI_0]; rfl) (l_X10_requestArrives hB w hW σ hw b o a f hO hx8 hnd h8 h1 hab hnu hlk hfa hfl hfm hk1 (fun S1 g1 g2 => ⟨rfl, ?_, g1⟩) 8 0 S (by omega) wch.rf hw hO)
  have hc8 := hO.1.1.2
  have hi8 : (iterN (reqStep f) 8 σ) = arrReq σ f := by
    have := iterN_out (f := reqStep f) (σ := σ) (c := nSe σ 0) (fun z τ hz hτ => by
      have hw9 : wfO τ b o := by
        rw [hτ]
        exact iterN_ind (P := fun _ τ => wfO τ b o) (nSe σ 0) hO (fun z τ hz q => q.rq (by omega) hnd h8 h1 hab hnu hlk)
      have hge : nSe τ = nSe σ := by
        rw [hτ]
        exact (geN.arq (σ := σ) (f := f)).1
      exact reqStep_no (fun q => by
        have := (hw9.2.2.2.2.2.2.1 _ _ q.2).2.1
        rw [hge] at this
        omega)) (8 - nSe σ 0)
    rw [show nSe σ 0 + (8 - nSe σ 0) = 8 by omega] at this
    exact this
  rw [← hi8]
  exact g2
end CLS
