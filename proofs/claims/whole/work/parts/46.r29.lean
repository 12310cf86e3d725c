/-- but for one data all stays as it was: settings, now, links, nodes, how many data there are -/
def kpD (d : Nat) (σ σ' : Net) : Prop := nSe σ' = nSe σ ∧ nNow σ' = nNow σ ∧ nUp σ' = nUp σ ∧ nNd σ' = nNd σ ∧ (nDa σ').length = (nDa σ).length ∧ ∀ e, e ≠ d → dat σ' e = dat σ e
theorem kpD.rf {d : Nat} {σ : Net} : kpD d σ σ := ⟨rfl, rfl, rfl, rfl, rfl, fun _ _ => rfl⟩
theorem kpD.tr {d : Nat} {σ σ1 σ2 : Net} (a : kpD d σ σ1) (b : kpD d σ1 σ2) : kpD d σ σ2 := ⟨b.1.trans a.1, b.2.1.trans a.2.1, b.2.2.1.trans a.2.2.1, b.2.2.2.1.trans a.2.2.2.1, b.2.2.2.2.1.trans a.2.2.2.2.1, fun e he => (b.2.2.2.2.2 e he).trans (a.2.2.2.2.2 e he)⟩
theorem kpD_da {d : Nat} {σ : Net} {x : Da} : kpD d σ (uDa σ d x) := ⟨rfl, rfl, rfl, rfl, len_set, fun e he => by simp [nDa, uDa, List.getElem?_set_ne (Ne.symm he)]⟩
theorem kpD_ta {d k : Nat} {σ : Net} : kpD d σ (uTa σ k) := ⟨rfl, rfl, rfl, rfl, rfl, fun _ _ => rfl⟩
theorem kpD_send {d : Nat} {σ : Net} {f : Fm} : kpD d σ (sendF σ f).1 := by unfold sendF; split <;> exact ⟨rfl, rfl, rfl, rfl, rfl, fun _ _ => rfl⟩
theorem kpD_done {d st : Nat} {σ : Net} : kpD d σ (doneD σ d st) := kpD_da.tr kpD_ta
theorem kpD_flyOn {d : Nat} {σ : Net} : kpD d σ (flyOn σ d) := by
  unfold flyOn
  split
  · exact kpD_da.tr kpD_send
  · exact (kpD_da.tr kpD_send).tr kpD_done
theorem kpD_flyBy {d : Nat} {σ : Net} {w : List Nat} : kpD d σ (flyBy σ d w) := kpD_da.tr kpD_flyOn
theorem szN_flyOn {d : Nat} {σ : Net} (hs : szN σ) (hd : d < (nDa σ).length) : szN (flyOn σ d) := by
  have hl := dat_len hs hd
  have h1 : szN (uDa σ d (dSt (dat σ d) 1)) := szN_da hs hl.1 hl.2
  have h2 : szN (sendF (uDa σ d (dSt (dat σ d) 1)) (0, trL (dat σ d), d, 0, none, [])).1 := szN_send h1 (Nat.zero_le _)
  unfold flyOn
  split
  · exact h2
  · exact doneD_sz h2 (by rw [len_send, len_set]; exact hd)
theorem szN_flyBy {d : Nat} {σ : Net} {w : List Nat} (hs : szN σ) (hd : d < (nDa σ).length) (hw : w.length ≤ 8) : szN (flyBy σ d w) := szN_flyOn (szN_da hs (dat_len hs hd).1 hw) (by rw [len_set]; exact hd)
/-- what the loop over a buffer needs of those that are still to come -/
def drI (σ0 σ : Net) (n : Nat) (rest : List Nat) : Prop := szN σ ∧ nSe σ = nSe σ0 ∧ nNow σ = nNow σ0 ∧ rest.Nodup ∧ ∀ d ∈ rest, d < (nDa σ).length ∧ 1 ≤ (aTr (dat σ d)).length ∧ aEn (dat σ d) < 8 ∧ aSt (dat σ d) = 0 ∧ aSi (dat σ d) ≤ nNow σ0
theorem drI_next {σ0 σ σ' : Net} {n d : Nat} {t : List Nat} (h : drI σ0 σ n (d :: t)) (hk : kpD d σ σ') (hs : szN σ') : drI σ0 σ' n t := by
  obtain ⟨h1, h2, h3, h4, h5⟩ := h
  rw [List.nodup_cons] at h4
  refine ⟨hs, hk.1.trans h2, hk.2.1.trans h3, h4.2, fun e he => ?_⟩
  have hne : e ≠ d := fun q => h4.1 (q ▸ he)
  rw [hk.2.2.2.2.1, hk.2.2.2.2.2 e hne]
  exact h5 e (List.mem_cons_of_mem _ he)
theorem kp_leave {d n k : Nat} {σ : Net} : nDa (leaveN σ n k) = nDa σ := rfl
section REF
variable {G : Gc} {S : St} {h : Nat}
set_option maxRecDepth 100000 in
set_option maxHeartbeats 4000000 in
theorem l_drains (hR : RLay G h) (hF : RRef S h) {E : Ev} (hB : Bd G E mX12_drains) {Q : Option Value → St → Prop} (σ0 : Net) (hse : seOk (nSe σ0)) (hnow : nNow σ0 ≤ 1000) (n : Nat) (hn : n < 8) (fin : Net) (kk : ∀ S2, fr h [h + 1, h + 8, h + 9, h + 10, h + 11] [22] S S2 → netR (S2.1 (h + 1)) fin → Q none S2) :
    ∀ (rest kept : List Nat) (σ : Net) (S1 : St), fr h [h + 1, h + 8, h + 9, h + 10, h + 11] [22] S S1 → netR (S1.1 (h + 1)) σ → drI σ0 σ n rest → dBu (nNd σ n) = kept ++ rest → drainL n rest kept.length σ = fin → X G E mX12_drains 5 Q S1 2 [some (.ref h), some (.int (nI n)), some (.int (nI kept.length)), none] [] := by
  have hh := hse.2.1.2
  intro rest
  induction rest with
  | nil =>
    intro kept σ S1 hfr hN1 hI hbu hfin
    have hx := hN1.2.1 n hn
    have hb4 := (hI.1.2.2.1 n hn).2.2
    rw [List.append_nil] at hbu
    rw [hbu] at hb4
    refine X_iload_n (i := 2) hB dX12_drains_2 rfl rfl ?_
    refine X_aload_n (i := 0) hB dX12_drains_3 rfl rfl ?_
    refine X_iload_n (i := 1) hB dX12_drains_4 rfl rfl ?_
    refine X_iconst (v := 3) hB dX12_drains_5 (by decide) ?_
    refine X_callV hB kX12_180 cw10 hR.1.1 hR.1.2 (c_ofE (w := 3) hR (hfr.ref hF) rfl rfl (by omega) (by omega)) (by decide) (by decide) rfl rfl (Nat.le_of_ble_eq_true rfl) dX12_drains_6 (fun r6 S6 q6 => ?_)
    obtain ⟨rfl, rfl⟩ := q6
    refine X_topi (y := nI kept.length) (by rw [hx.2.2.2.1, hbu]) ?_
    refine X_icmp_ge (tgt := 95) hB dX12_drains_9 (by decide) (fun c9 => ?_) (fun c9 => absurd c9 (by simp (disch := omega) only [nlit, nI_leI, nI_ltI]; omega))
    refine X_vret hB rfl dX12_drains_95 ?_
    exact kk S1 hfr (hfin ▸ hN1)
  | cons d t ih =>
    intro kept σ S1 hfr hN1 hI hbu hfin
    have hx := hN1.2.1 n hn
    obtain ⟨hs, i2, i3, i4, i5⟩ := id hI
    have hb4 := (hs.2.2.1 n hn).2.2
    have hbl : (dBu (nNd σ n)).length = kept.length + t.length + 1 := by rw [hbu, List.length_append, List.length_cons]; omega
    rw [hbl] at hb4
    obtain ⟨hd, ht1, he8, hst, hsi⟩ := i5 d List.mem_cons_self
    have hd40 := hs.2.1
    have hxd := hN1.2.2.2 d hd
    have hqd : (dBu (nNd σ n)).getD kept.length 0 = d := by rw [hbu]; simp
    have hera : (dBu (nNd σ n)).eraseIdx kept.length = kept ++ t := by rw [hbu, List.eraseIdx_append_of_length_le (Nat.le_refl _), Nat.sub_self]; rfl
    have hF1 := hfr.ref hF
    refine X_iload_n (i := 2) hB dX12_drains_2 rfl rfl ?_
    refine X_aload_n (i := 0) hB dX12_drains_3 rfl rfl ?_
    refine X_iload_n (i := 1) hB dX12_drains_4 rfl rfl ?_
    refine X_iconst (v := 3) hB dX12_drains_5 (by decide) ?_
    refine X_callV hB kX12_180 cw10 hR.1.1 hR.1.2 (c_ofE (w := 3) hR hF1 rfl rfl (by omega) (by omega)) (by decide) (by decide) rfl rfl (Nat.le_of_ble_eq_true rfl) dX12_drains_6 (fun r6 S6 q6 => ?_)
    obtain ⟨rfl, rfl⟩ := q6
    refine X_topi (y := nI (kept.length + t.length + 1)) (by rw [hx.2.2.2.1, hbl]) ?_
    refine X_icmp_ge (tgt := 95) hB dX12_drains_9 (by decide) (fun c9 => absurd c9 (by simp (disch := omega) only [nlit, nI_leI, nI_ltI]; omega)) (fun c9 => ?_)
    refine X_aload_n (i := 0) hB dX12_drains_12 rfl rfl ?_
    refine X_iload_n (i := 1) hB dX12_drains_13 rfl rfl ?_
    refine X_bipush (v := 81) hB dX12_drains_14 (by decide) ?_
    refine X_iload_n (i := 2) hB dX12_drains_16 rfl rfl ?_
    refine X_iadd hB dX12_drains_17 ?_
    refine X_callV hB kX12_180 cw10 hR.1.1 hR.1.2 (c_ofE (w := 81 + kept.length) hR hF1 rfl (by first | rfl | (simp (disch := omega) only [nlit, nI_add, nI_mul, nI_sub]; done) | (simp (disch := omega) only [nlit, nI_add, nI_mul, nI_sub]; (congr 1 <;> omega))) (by omega) (by omega)) (by decide) (by decide) rfl rfl (Nat.le_of_ble_eq_true rfl) dX12_drains_18 (fun r18 S18 q18 => ?_)
    obtain ⟨rfl, rfl⟩ := q18
    refine X_topi (y := nI d) (by rw [hx.2.2.2.2.2.2.2.2.2 kept.length (by omega), hqd]) ?_
    refine X_istore_n (i := 3) hB dX12_drains_21 rfl (by decide) rfl ?_
    refine X_aload_n (i := 0) hB dX12_drains_22 rfl rfl ?_
    refine X_iload_n (i := 1) hB dX12_drains_23 rfl rfl ?_
    refine X_aload_n (i := 0) hB dX12_drains_24 rfl rfl ?_
    refine X_iload_n (i := 3) hB dX12_drains_25 rfl rfl ?_
    refine X_iconst (v := 1) hB dX12_drains_26 (by decide) ?_
    refine X_callV hB kX12_246 cw10 hR.1.1 hR.1.2 (c_ofDE (n := d) (w := 1) hR hF1 rfl rfl (by omega) (by omega)) (by decide) (by decide) rfl rfl (Nat.le_of_ble_eq_true rfl) dX12_drains_27 (fun r27 S27 q27 => ?_)
    obtain ⟨rfl, rfl⟩ := q27
    refine X_topi (y := nI (aEn (dat σ d))) (hxd.2.1) ?_
    refine X_callV hB kX12_265 cw10 hR.1.1 hR.1.2 (c_findsN hR hF1 σ hN1 hs (by rw [i2]; exact hh) n (aEn (dat σ d)) hn he8) (by decide) (by decide) rfl rfl (Nat.le_of_ble_eq_true rfl) dX12_drains_30 (fun r30 S30 q30 => ?_)
    obtain ⟨rfl, f30, w30, l30, t30⟩ := q30
    have hF30 := f30.ref hF1
    have n30 : netR (S30.1 (h + 1)) σ := by rw [f30.2.1 _ (by simp) (by omega)]; exact hN1
    have hfr30 : fr h [h + 1, h + 8, h + 9, h + 10, h + 11] [22] S S30 := hfr.tr (f30.mono (by simp) (by simp))
    refine X_if_eq (tgt := 50) hB dX12_drains_33 (by decide) (fun c33 => ?_) (fun c33 => ?_)
    · have hwn : ¬ wayN σ n (aEn (dat σ d)) ≠ [] := fun q => absurd c33 (by rw [if_neg q]; decide)
      rw [drainL, if_neg hwn] at hfin
      refine X_aload_n (i := 0) hB dX12_drains_50 rfl rfl ?_
      refine X_getr hB cw10 fX12_7 rfl hR.1.1 hR.1.2 hF30.1 dX12_drains_51 ?_
      refine X_bipush (v := 8) hB dX12_drains_54 (by decide) ?_
      refine X_ialdN hB (8) hR.2.1.1 hR.2.1.2 (by decide) (by first | rfl | (simp (disch := omega) only [nlit, nI_add, nI_mul, nI_sub]; done) | (simp (disch := omega) only [nlit, nI_add, nI_mul, nI_sub]; (congr 1 <;> omega))) (by first | omega | (simp only []; omega)) (show _ = nI (nNow σ0) by rw [n30.1.2.1, i3]) dX12_drains_56 ?_
      refine X_aload_n (i := 0) hB dX12_drains_57 rfl rfl ?_
      refine X_iload_n (i := 3) hB dX12_drains_58 rfl rfl ?_
      refine X_bipush (v := 9) hB dX12_drains_59 (by decide) ?_
      refine X_callV hB kX12_246 cw10 hR.1.1 hR.1.2 (c_ofDE (n := d) (w := 9) hR hF30 rfl rfl (by omega) (by omega)) (by decide) (by decide) rfl rfl (Nat.le_of_ble_eq_true rfl) dX12_drains_61 (fun r61 S61 q61 => ?_)
      obtain ⟨rfl, rfl⟩ := q61
      refine X_topi (y := nI (aSi (dat σ d))) ((n30.2.2.2 d hd).2.2.2.2.2.2.2.2.2.1 hst) ?_
      refine X_isub hB dX12_drains_64 ?_
      refine X_aload_n (i := 0) hB dX12_drains_65 rfl rfl ?_
      refine X_getr hB cw10 fX12_7 rfl hR.1.1 hR.1.2 hF30.1 dX12_drains_66 ?_
      refine X_iconst (v := 5) hB dX12_drains_69 (by decide) ?_
      refine X_ialdN hB (5) hR.2.1.1 hR.2.1.2 (by decide) (by first | rfl | (simp (disch := omega) only [nlit, nI_add, nI_mul, nI_sub]; done) | (simp (disch := omega) only [nlit, nI_add, nI_mul, nI_sub]; (congr 1 <;> omega))) (by first | omega | (simp only []; omega)) (show _ = nI (nSe σ0 5) by rw [n30.1.1 5 (by decide), i2]) dX12_drains_70 ?_
      refine X_top2 (y := nI (nNow σ0 - aSi (dat σ d))) (by first | rfl | (simp (disch := omega) only [nlit, nI_add, nI_mul, nI_sub]; done) | (simp (disch := omega) only [nlit, nI_add, nI_mul, nI_sub]; (congr 1 <;> omega))) ?_
      refine X_icmp_lt (tgt := 89) hB dX12_drains_71 (by decide) (fun c71 => ?_) (fun c71 => ?_)
      · have hlt : ¬ nSe σ 5 ≤ nNow σ - aSi (dat σ d) := by rw [i2, i3]; (have c9 := c71); (have := hse.2.2.2.2.2.1.2); simp (disch := omega) only [nlit, nI_leI, nI_ltI] at c9; omega
        rw [if_neg hlt] at hfin
        refine X_iinc hB dX12_drains_89 rfl rfl (by decide) rfl ?_
        refine X_goto (tgt := 2) hB dX12_drains_92 (by decide) ?_
        refine X_dl [some (.ref h), some (.int (nI n)), some (.int (nI (kept ++ [d]).length)), none] ?_ (ih (kept ++ [d]) σ _ hfr30 n30 ⟨hs, i2, i3, (List.nodup_cons.mp i4).2, fun e he => i5 e (List.mem_cons_of_mem _ he)⟩ (by rw [hbu, List.append_assoc]; rfl) (by rw [List.length_append]; exact hfin))
        rw [List.length_append]
        simp [lle, lset, nI_succ]
      · have hge : nSe σ 5 ≤ nNow σ - aSi (dat σ d) := by rw [i2, i3]; (have c9 := c71); (have := hse.2.2.2.2.2.1.2); simp (disch := omega) only [nlit, nI_leI, nI_ltI] at c9; omega
        rw [if_pos hge] at hfin
        refine X_aload_n (i := 0) hB dX12_drains_74 rfl rfl ?_
        refine X_iload_n (i := 1) hB dX12_drains_75 rfl rfl ?_
        refine X_iload_n (i := 2) hB dX12_drains_76 rfl rfl ?_
        refine X_callV hB kX12_358 cw10 hR.1.1 hR.1.2 (c_leaves hR hF30 σ n30 hs n kept.length hn (by omega)) (by decide) (by decide) rfl rfl (Nat.le_of_ble_eq_true rfl) dX12_drains_77 (fun r77 S77 q77 => ?_)
        obtain ⟨rfl, f77, n77, s77⟩ := q77
        have hb77 : dBu (nNd (leaveN σ n kept.length) n) = kept ++ t := by
          show dBu (nNd (uNd σ n (xBu (nNd σ n) ((dBu (nNd σ n)).eraseIdx kept.length))) n) = _
          simp only [nNd, uNd, if_true]
          exact hera
        have j77 : drI σ0 (leaveN σ n kept.length) n (d :: t) := ⟨s77, i2, i3, i4, i5⟩
        refine X_aload_n (i := 0) hB dX12_drains_80 rfl rfl ?_
        refine X_iload_n (i := 3) hB dX12_drains_81 rfl rfl ?_
        refine X_iconst (v := 3) hB dX12_drains_82 (by decide) ?_
        refine X_callV hB kX12_256 cw10 hR.1.1 hR.1.2 (c_isDone hR (f77.ref hF30) (leaveN σ n kept.length) n77 s77 d 3 hd (Or.inr rfl)) (by decide) (by decide) rfl rfl (Nat.le_of_ble_eq_true rfl) dX12_drains_83 (fun r83 S83 q83 => ?_)
        obtain ⟨rfl, f83, n83⟩ := q83
        refine X_goto (tgt := 92) hB dX12_drains_86 (by decide) ?_
        refine X_goto (tgt := 2) hB dX12_drains_92 (by decide) ?_
        refine X_dl [some (.ref h), some (.int (nI n)), some (.int (nI kept.length)), none] (by simp [lle, lset]) (ih kept (doneD (leaveN σ n kept.length) d 3) _ (hfr30.tr ((f77.mono (by simp) (by simp)).tr (f83.mono (by simp) (by simp)))) n83 (drI_next j77 kpD_done (doneD_sz s77 hd)) (by rw [show nNd (doneD (leaveN σ n kept.length) d 3) = nNd (leaveN σ n kept.length) from (kpD_done : kpD d _ _).2.2.2.1]; exact hb77) hfin)
    · have hwn : wayN σ n (aEn (dat σ d)) ≠ [] := fun q => c33 (by rw [if_pos q])
      rw [drainL, if_pos hwn] at hfin
      refine X_aload_n (i := 0) hB dX12_drains_36 rfl rfl ?_
      refine X_iload_n (i := 1) hB dX12_drains_37 rfl rfl ?_
      refine X_iload_n (i := 2) hB dX12_drains_38 rfl rfl ?_
      refine X_callV hB kX12_358 cw10 hR.1.1 hR.1.2 (c_leaves hR hF30 σ n30 hs n kept.length hn (by omega)) (by decide) (by decide) rfl rfl (Nat.le_of_ble_eq_true rfl) dX12_drains_39 (fun r39 S39 q39 => ?_)
      obtain ⟨rfl, f39, n39, s39⟩ := q39
      have hb39 : dBu (nNd (leaveN σ n kept.length) n) = kept ++ t := by
        show dBu (nNd (uNd σ n (xBu (nNd σ n) ((dBu (nNd σ n)).eraseIdx kept.length))) n) = _
        simp only [nNd, uNd, if_true]
        exact hera
      have j39 : drI σ0 (leaveN σ n kept.length) n (d :: t) := ⟨s39, i2, i3, i4, i5⟩
      refine X_aload_n (i := 0) hB dX12_drains_42 rfl rfl ?_
      refine X_iload_n (i := 3) hB dX12_drains_43 rfl rfl ?_
      refine X_callV hB kX12_268 cw10 hR.1.1 hR.1.2 (c_fliesByWay hR (f39.ref hF30) (leaveN σ n kept.length) n39 s39 d hd ht1 (wayN σ n (aEn (dat σ d))) l30 (w30.of (f39.2.2 _ (by simp)) (f39.2.1 _ (by simp) (by omega)))) (by decide) (by decide) rfl rfl (Nat.le_of_ble_eq_true rfl) dX12_drains_44 (fun r44 S44 q44 => ?_)
      obtain ⟨rfl, f44, n44⟩ := q44
      refine X_goto (tgt := 92) hB dX12_drains_47 (by decide) ?_
      refine X_goto (tgt := 2) hB dX12_drains_92 (by decide) ?_
      refine X_dl [some (.ref h), some (.int (nI n)), some (.int (nI kept.length)), none] (by simp [lle, lset]) (ih kept (flyBy (leaveN σ n kept.length) d (wayN σ n (aEn (dat σ d)))) _ (hfr30.tr ((f39.mono (by simp) (by simp)).tr (f44.mono (by simp) (by simp)))) n44 (drI_next j39 kpD_flyBy (szN_flyBy s39 hd l30)) (by rw [show nNd (flyBy (leaveN σ n kept.length) d (wayN σ n (aEn (dat σ d)))) = nNd (leaveN σ n kept.length) from (kpD_flyBy : kpD d _ _).2.2.2.1]; exact hb39) hfin)
theorem wfN.dr {σ : Net} {b n : Nat} (hw : wfN σ b) (hn : n < 8) : drI σ σ n (dBu (nNd σ n)) := by
  refine ⟨hw.sz, rfl, rfl, (hw.2.2.1 n hn).2.2.2.2.2.1, fun d hd => ?_⟩
  obtain ⟨h1, h2, h3, h4, -⟩ := hw.2.2.2.2.2.2.2.1 n hn d hd
  have hx := hw.da h1
  exact ⟨h1, hx.2.1.1, hx.1.2.1, h2, h4⟩
set_option maxRecDepth 100000 in
set_option maxHeartbeats 4000000 in
theorem c_drains (hR : RLay G h) (hF : RRef S h) (σ : Net) (b : Nat) (hw : wfN σ b) (hN : netR (S.1 (h + 1)) σ) (n : Nat) (hn : n < 8) : C G mX12_drains 5 [.ref h, .int (nI n)] S (fun r S' => r = none ∧ fr h [h + 1, h + 8, h + 9, h + 10, h + 11] [22] S S' ∧ netR (S'.1 (h + 1)) (drainN σ n)) := by
  refine C.mk (lv := [some (.ref h), some (.int (nI n)), none, none]) (by decide) (Nat.le_of_ble_eq_true rfl) rfl (fun E hB => ?_)
  refine X_iconst (v := 0) hB dX12_drains_0 (by decide) ?_
  refine X_istore_n (i := 2) hB dX12_drains_1 rfl (by decide) rfl ?_
  exact X_lv (lv' := [some (.ref h), some (.int (nI n)), some (.int (nI ([] : List Nat).length)), none]) rfl (l_drains hR hF hB σ hw.1 hw.2.2.2.2.2.2.2.2.1 n hn (drainN σ n) (fun S9 g1 g2 => ⟨rfl, g1, g2⟩) (dBu (nNd σ n)) [] σ S fr.rf hN (hw.dr hn) rfl rfl)
end REF
