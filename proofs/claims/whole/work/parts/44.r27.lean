def popA (σ : Net) : Net := uAir σ (nAir σ).tail
def hdF (σ : Net) : Fm := (nAir σ).getD 0 f0
def arrive (σ : Net) : Net := if fKi (hdF σ) = 0 then arrData (popA σ) (fAb (hdF σ)) (fFr (hdF σ)) else if fKi (hdF σ) = 1 then arrReq (popA σ) (hdF σ) else if fKi (hdF σ) = 2 then arrRep (popA σ) (hdF σ) else arrErr (popA σ) (hdF σ)
theorem szN_pop {σ : Net} (h : szN σ) : szN (popA σ) := ⟨by show (nAir σ).tail.length ≤ 40; rw [List.length_tail]; have := h.1; omega, h.2.1, h.2.2.1, fun f hf => h.2.2.2.1 f (List.mem_of_mem_tail hf), h.2.2.2.2⟩
theorem wfN_pop {σ : Net} {b : Nat} (h : wfN σ b) : wfN (popA σ) b := by
  obtain ⟨h1, h2, h3, h4, h5, h6, h7, h8, h9, h10⟩ := h
  refine ⟨h1, ⟨by show (nAir σ).tail.length ≤ 40; rw [List.length_tail]; omega, h2.2⟩, h3, fun f hf => h4 f (List.mem_of_mem_tail hf), h5, ?_, h7, h8, h9, h10⟩
  show (((nAir σ).tail.filter _).map fAb).Nodup
  exact h6.sublist (List.Sublist.map _ (List.Sublist.filter _ (List.tail_sublist _)))
theorem netR_pop {A : Nat → Int32} {σ : Net} {m : Nat} (hN : netR A σ) (hs : szN σ) (hm : (nAir σ).length = m + 1) : netR (shA (upd A 10 (nI m)) 777 (777 + 16 * m) 16) (popA σ) := by
  obtain ⟨h1, h2, h3, h4⟩ := hN
  have ha := hs.1
  have hd := hs.2.1
  obtain ⟨g1, g2, g3, g4, g5, g6⟩ := h1
  have hout : ∀ i, i ≠ 10 → i < 777 ∨ 777 + 16 * m ≤ i → shA (upd A 10 (nI m)) 777 (777 + 16 * m) 16 i = A i := fun i q1 q2 => by rw [shA_out q2, upd_ne _ _ q1]
  refine ⟨⟨fun k hk => by rw [hout _ (by omega) (by omega)]; exact g1 k hk, by rw [hout _ (by omega) (by omega)]; exact g2, by rw [hout _ (by omega) (by omega)]; exact g3, ?_, fun k hk => by rw [hout _ (by omega) (by omega)]; exact g5 k hk, fun a b ha hb => by rw [hout _ (by omega) (by omega)]; exact g6 a b ha hb⟩, fun n hn => ?_, fun k hk => ?_, fun d hd2 => ?_⟩
  · rw [shA_out (by omega), upd_at]
    show nI m = nI (nAir σ).tail.length
    rw [List.length_tail, hm]; rfl
  · exact ndR_same (h2 n hn) (hs.2.2.1 n hn).1 (hs.2.2.1 n hn).2.1 (hs.2.2.1 n hn).2.2 (fun i q1 q2 => hout i (by omega) (by omega))
  · have hk2 : k < m := by
      have : k < (nAir σ).tail.length := hk
      rw [List.length_tail, hm] at this; omega
    have e1 : (nAir (popA σ)).getD k f0 = (nAir σ).getD (k + 1) f0 := by
      show (nAir σ).tail.getD k f0 = _
      cases nAir σ <;> simp
    rw [e1]
    refine frS_same (h3 (k + 1) (by omega)) (air_getD hs (by omega)) (fun w hw => ?_)
    rw [shA_in (by omega), upd_ne _ _ (by omega)]
    exact congrArg _ (by omega)
  · have hd3 : d < (nDa σ).length := hd2
    exact daR_same (h4 d hd2) (dat_len hs hd2).1 (dat_len hs hd2).2 (fun i q1 q2 => hout i (by omega) (by omega))
theorem frS_data {F : Nat → Int32} {f : Fm} (h : frS F f) (hk : fKi f = 0) (hr : fRo f = []) : frS F (0, fFr f, fAb f, 0, none, []) := by
  refine ⟨fun w hw => ?_, fun i hi => by simp [fRo] at hi⟩
  rw [h.1 w hw]
  match w, hw with
  | 0, _ => show nI (fKi f) = nI 0; rw [hk]
  | 1, _ => rfl
  | 2, _ => show (if fKi f ≤ 1 then nI (fAb f) else -1) = _; rw [if_pos (by omega)]; rfl
  | 3, _ => show (if fKi f = 1 then nI (fNu f) else -1) = _; rw [if_neg (by omega)]; rfl
  | 4, _ => show (if fKi f = 1 then lkN (fLk f) else -1) = _; rw [if_neg (by omega)]; rfl
  | 5, _ => show (if fKi f = 3 then lkN (fLk f) else -1) = _; rw [if_neg (by omega)]; rfl
  | 6, _ => show nI (fRo f).length = _; rw [hr]; rfl
theorem wfN.tb {σ : Net} {b : Nat} (h : wfN σ b) : tbOk σ := fun n hn q hq => by
  have := (h.2.2.1 n hn).2.2.2.1 q hq
  have := h.2.2.2.2.2.2.2.2.2
  omega
section REF
variable {G : Gc} {S : St} {h : Nat}
set_option maxRecDepth 100000 in
set_option maxHeartbeats 4000000 in
theorem l_av1 (hR : RLay G h) (hF : RRef S h) {E : Ev} (hB : Bd G E mX12_arrives) {Q : Option Value → St → Prop} (kk : ∀ v, X G E mX12_arrives 8 Q (rowI S (h + 12) (cpA (S.1 (h + 12)) 0 (fun w => S.1 (h + 1) (777 + w)) 16)) 30 [some (.ref h), some (.int v)] []) :
    ∀ (k i : Nat), i + k = 16 → X G E mX12_arrives 8 Q (rowI S (h + 12) (cpA (S.1 (h + 12)) 0 (fun w => S.1 (h + 1) (777 + w)) i)) 2 [some (.ref h), some (.int (nI i))] [] := by
  intro k
  induction k with
  | zero =>
    intro i h1
    refine X_iload_n (i := 1) hB dX12_arrives_2 rfl rfl ?_
    refine X_bipush (v := 16) hB dX12_arrives_3 (by decide) ?_
    refine X_icmp_ge (tgt := 30) hB dX12_arrives_5 (by decide) (fun c5 => ?_) (fun c5 => absurd c5 (by simp (disch := omega) only [nlit, nI_leI, nI_ltI]; omega))
    have e9 : i = 16 := by omega
    subst e9
    exact kk _
  | succ k ih =>
    intro i h1
    refine X_iload_n (i := 1) hB dX12_arrives_2 rfl rfl ?_
    refine X_bipush (v := 16) hB dX12_arrives_3 (by decide) ?_
    refine X_icmp_ge (tgt := 30) hB dX12_arrives_5 (by decide) (fun c5 => absurd c5 (by simp (disch := omega) only [nlit, nI_leI, nI_ltI]; omega)) (fun c5 => ?_)
    refine X_aload_n (i := 0) hB dX12_arrives_8 rfl rfl ?_
    refine X_getr hB cw10 fX12_45 rfl hR.1.1 hR.1.2 hF.2.2.2.2.2.2.2.2.2.2.2 dX12_arrives_9 ?_
    refine X_iload_n (i := 1) hB dX12_arrives_12 rfl rfl ?_
    refine X_aload_n (i := 0) hB dX12_arrives_13 rfl rfl ?_
    refine X_getr hB cw10 fX12_7 rfl hR.1.1 hR.1.2 hF.1 dX12_arrives_14 ?_
    refine X_sipush (v := 777) hB dX12_arrives_17 (by decide) ?_
    refine X_iload_n (i := 1) hB dX12_arrives_20 rfl rfl ?_
    refine X_iadd hB dX12_arrives_21 ?_
    refine X_ialdN hB (777 + i) hR.2.1.1 hR.2.1.2 (by decide) (by first | rfl | (simp (disch := omega) only [nlit, nI_add, nI_mul, nI_sub]; done) | (simp (disch := omega) only [nlit, nI_add, nI_mul, nI_sub]; (congr 1 <;> omega))) (by first | omega | (simp only []; omega)) (show _ = S.1 (h + 1) (777 + i) by rw [rowI_ne _ _ (by omega)]) dX12_arrives_22 ?_
    refine X_iastN hB (i) hR.2.2.2.2.2.2.2.2.2.2.2.2.1 hR.2.2.2.2.2.2.2.2.2.2.2.2.2 (by decide) (by first | rfl | (simp (disch := omega) only [nlit, nI_add, nI_mul, nI_sub]; done) | (simp (disch := omega) only [nlit, nI_add, nI_mul, nI_sub]; (congr 1 <;> omega))) (by first | omega | (simp only []; omega)) dX12_arrives_23 ?_
    refine X_iinc hB dX12_arrives_24 rfl rfl (by decide) rfl ?_
    refine X_goto (tgt := 2) hB dX12_arrives_27 (by decide) ?_
    refine X_S (S' := rowI S (h + 12) (cpA (S.1 (h + 12)) 0 (fun w => S.1 (h + 1) (777 + w)) (i + 1))) ?_ (X_lv ?_ (ih (i + 1) (by omega)))
    · rw [setI_rowI, rowI_rowI, rowI_at]
      congr 1
      have := cpA_step (A := S.1 (h + 12)) (F := fun w => S.1 (h + 1) (777 + w)) (base := 0) (i := i)
      rw [Nat.zero_add] at this
      exact this
    · rw [nI_succ]; rfl
set_option maxRecDepth 100000 in
set_option maxHeartbeats 4000000 in
theorem l_av2 (hR : RLay G h) (hF : RRef S h) {E : Ev} (hB : Bd G E mX12_arrives) {Q : Option Value → St → Prop} (m : Nat) (hm : m < 40) (h10 : S.1 (h + 1) 10 = nI m) (kk : ∀ v, X G E mX12_arrives 8 Q (rowI S (h + 1) (shA (S.1 (h + 1)) 777 (777 + 16 * m) 16)) 84 [some (.ref h), some (.int v)] []) :
    ∀ (k i : Nat), i + k = 777 + 16 * m → 777 ≤ i → X G E mX12_arrives 8 Q (rowI S (h + 1) (shA (S.1 (h + 1)) 777 (i) 16)) 45 [some (.ref h), some (.int (nI i))] [] := by
  intro k
  induction k with
  | zero =>
    intro i h1 h2
    refine X_iload_n (i := 1) hB dX12_arrives_45 rfl rfl ?_
    refine X_sipush (v := 777) hB dX12_arrives_46 (by decide) ?_
    refine X_bipush (v := 16) hB dX12_arrives_49 (by decide) ?_
    refine X_aload_n (i := 0) hB dX12_arrives_51 rfl rfl ?_
    refine X_getr hB cw10 fX12_7 rfl hR.1.1 hR.1.2 hF.1 dX12_arrives_52 ?_
    refine X_bipush (v := 10) hB dX12_arrives_55 (by decide) ?_
    refine X_ialdN hB (10) hR.2.1.1 hR.2.1.2 (by decide) (by first | rfl | (simp (disch := omega) only [nlit, nI_add, nI_mul, nI_sub]; done) | (simp (disch := omega) only [nlit, nI_add, nI_mul, nI_sub]; (congr 1 <;> omega))) (by first | omega | (simp only []; omega)) (show _ = nI m by rw [rowI_at, shA_out (by omega)]; exact h10) dX12_arrives_57 ?_
    refine X_imul hB dX12_arrives_58 ?_
    refine X_iadd hB dX12_arrives_59 ?_
    refine X_topi (y := nI (777 + 16 * m)) (by first | rfl | (simp (disch := omega) only [nlit, nI_add, nI_mul, nI_sub]; done) | (simp (disch := omega) only [nlit, nI_add, nI_mul, nI_sub]; (congr 1 <;> omega))) ?_
    refine X_icmp_ge (tgt := 84) hB dX12_arrives_60 (by decide) (fun c60 => ?_) (fun c60 => absurd c60 (by simp (disch := omega) only [nlit, nI_leI, nI_ltI]; omega))
    have e9 : i = 777 + 16 * m := by omega
    rw [e9]
    exact kk _
  | succ k ih =>
    intro i h1 h2
    refine X_iload_n (i := 1) hB dX12_arrives_45 rfl rfl ?_
    refine X_sipush (v := 777) hB dX12_arrives_46 (by decide) ?_
    refine X_bipush (v := 16) hB dX12_arrives_49 (by decide) ?_
    refine X_aload_n (i := 0) hB dX12_arrives_51 rfl rfl ?_
    refine X_getr hB cw10 fX12_7 rfl hR.1.1 hR.1.2 hF.1 dX12_arrives_52 ?_
    refine X_bipush (v := 10) hB dX12_arrives_55 (by decide) ?_
    refine X_ialdN hB (10) hR.2.1.1 hR.2.1.2 (by decide) (by first | rfl | (simp (disch := omega) only [nlit, nI_add, nI_mul, nI_sub]; done) | (simp (disch := omega) only [nlit, nI_add, nI_mul, nI_sub]; (congr 1 <;> omega))) (by first | omega | (simp only []; omega)) (show _ = nI m by rw [rowI_at, shA_out (by omega)]; exact h10) dX12_arrives_57 ?_
    refine X_imul hB dX12_arrives_58 ?_
    refine X_iadd hB dX12_arrives_59 ?_
    refine X_topi (y := nI (777 + 16 * m)) (by first | rfl | (simp (disch := omega) only [nlit, nI_add, nI_mul, nI_sub]; done) | (simp (disch := omega) only [nlit, nI_add, nI_mul, nI_sub]; (congr 1 <;> omega))) ?_
    refine X_icmp_ge (tgt := 84) hB dX12_arrives_60 (by decide) (fun c60 => absurd c60 (by simp (disch := omega) only [nlit, nI_leI, nI_ltI]; omega)) (fun c60 => ?_)
    refine X_aload_n (i := 0) hB dX12_arrives_63 rfl rfl ?_
    refine X_getr hB cw10 fX12_7 rfl hR.1.1 hR.1.2 hF.1 dX12_arrives_64 ?_
    refine X_iload_n (i := 1) hB dX12_arrives_67 rfl rfl ?_
    refine X_aload_n (i := 0) hB dX12_arrives_68 rfl rfl ?_
    refine X_getr hB cw10 fX12_7 rfl hR.1.1 hR.1.2 hF.1 dX12_arrives_69 ?_
    refine X_iload_n (i := 1) hB dX12_arrives_72 rfl rfl ?_
    refine X_bipush (v := 16) hB dX12_arrives_73 (by decide) ?_
    refine X_iadd hB dX12_arrives_75 ?_
    refine X_ialdN hB (i + 16) hR.2.1.1 hR.2.1.2 (by decide) (by first | rfl | (simp (disch := omega) only [nlit, nI_add, nI_mul, nI_sub]; done) | (simp (disch := omega) only [nlit, nI_add, nI_mul, nI_sub]; (congr 1 <;> omega))) (by first | omega | (simp only []; omega)) (show _ = S.1 (h + 1) (i + 16) by rw [rowI_at, shA_out (by omega)]) dX12_arrives_76 ?_
    refine X_iastN hB (i) hR.2.1.1 hR.2.1.2 (by decide) (by first | rfl | (simp (disch := omega) only [nlit, nI_add, nI_mul, nI_sub]; done) | (simp (disch := omega) only [nlit, nI_add, nI_mul, nI_sub]; (congr 1 <;> omega))) (by first | omega | (simp only []; omega)) dX12_arrives_77 ?_
    refine X_iinc hB dX12_arrives_78 rfl rfl (by decide) rfl ?_
    refine X_goto (tgt := 45) hB dX12_arrives_81 (by decide) ?_
    refine X_S (S' := (rowI S (h + 1) (shA (S.1 (h + 1)) 777 (i + 1) 16))) ?_ (X_lv ?_ (ih (i + 1) (by omega) (by omega)))
    · rw [setI_rowI, rowI_rowI, rowI_at, shA_step (by omega)]
    · rw [nI_succ]; rfl
set_option maxRecDepth 100000 in
set_option maxHeartbeats 4000000 in
theorem c_arrives (hR : RLay G h) (hF : RRef S h) (σ : Net) (b : Nat) (hw : wfN σ b) (hN : netR (S.1 (h + 1)) σ) (hne : 1 ≤ (nAir σ).length) : C G mX12_arrives 8 [.ref h] S (fun r S' => r = none ∧ fr h [h + 1, h + 7, h + 8, h + 9, h + 10, h + 11, h + 12] [20, 22] S S' ∧ netR (S'.1 (h + 1)) (arrive σ)) := by
  have hs := hw.sz
  have ha40 := hs.1
  have hfo : frOk σ b (hdF σ) := hw.2.2.2.1 _ (getD_mem (by omega))
  have hki := hfo.1.1
  have hwp := wfN_pop hw
  refine C.mk (lv := [some (.ref h), none]) (by decide) (Nat.le_of_ble_eq_true rfl) rfl (fun E hB => ?_)
  refine X_iconst (v := 0) hB dX12_arrives_0 (by decide) ?_
  refine X_istore_n (i := 1) hB dX12_arrives_1 rfl (by decide) rfl ?_
  refine X_S (S' := rowI S (h + 12) (cpA (S.1 (h + 12)) 0 (fun w => S.1 (h + 1) (777 + w)) 0)) (by rw [cpA_0, rowI_self]) (X_lv ?_ (l_av1 hR hF hB (fun v9 => ?_) 16 0 (by omega)))
  · rw [nI_0]; rfl
  have hcm : frS (cpA (S.1 (h + 12)) 0 (fun w => S.1 (h + 1) (777 + w)) 16) (hdF σ) := frS_same (hN.2.2.1 0 (by omega)) (air_getD hs (by omega)) (fun w hw9 => by rw [cpA_in (by omega)]; exact congrArg _ (by omega))
  generalize hgC : cpA (S.1 (h + 12)) 0 (fun w => S.1 (h + 1) (777 + w)) 16 = C9 at hcm ⊢
  refine X_aload_n (i := 0) hB dX12_arrives_30 rfl rfl ?_
  refine X_getr hB cw10 fX12_7 rfl hR.1.1 hR.1.2 hF.1 dX12_arrives_31 ?_
  refine X_bipush (v := 10) hB dX12_arrives_34 (by decide) ?_
  refine X_dup2_11 hB dX12_arrives_36 rfl rfl ?_
  refine X_ialdN hB (10) hR.2.1.1 hR.2.1.2 (by decide) (by first | rfl | (simp (disch := omega) only [nlit, nI_add, nI_mul, nI_sub]; done) | (simp (disch := omega) only [nlit, nI_add, nI_mul, nI_sub]; (congr 1 <;> omega))) (by first | omega | (simp only []; omega)) (show _ = nI (nAir σ).length by rw [rowI_ne _ _ (by omega)]; exact hN.1.2.2.2.1) dX12_arrives_37 ?_
  refine X_iconst (v := 1) hB dX12_arrives_38 (by decide) ?_
  refine X_isub hB dX12_arrives_39 ?_
  refine X_topi (y := nI ((nAir σ).length - 1)) (by first | rfl | (simp (disch := omega) only [nlit, nI_add, nI_mul, nI_sub]; done) | (simp (disch := omega) only [nlit, nI_add, nI_mul, nI_sub]; (congr 1 <;> omega))) ?_
  refine X_iastN hB (10) hR.2.1.1 hR.2.1.2 (by decide) (by first | rfl | (simp (disch := omega) only [nlit, nI_add, nI_mul, nI_sub]; done) | (simp (disch := omega) only [nlit, nI_add, nI_mul, nI_sub]; (congr 1 <;> omega))) (by first | omega | (simp only []; omega)) dX12_arrives_40 ?_
  refine X_sipush (v := 777) hB dX12_arrives_41 (by decide) ?_
  refine X_istore_n (i := 1) hB dX12_arrives_44 rfl (by decide) rfl ?_
  rw [setI_rowI, rowI_ne S C9 (show h + 1 ≠ h + 12 by omega)]
  refine X_S (S' := rowI (rowI (rowI S (h + 12) C9) (h + 1) (upd (S.1 (h + 1)) 10 (nI ((nAir σ).length - 1)))) (h + 1) (shA ((rowI (rowI S (h + 12) C9) (h + 1) (upd (S.1 (h + 1)) 10 (nI ((nAir σ).length - 1)))).1 (h + 1)) 777 777 16)) (by rw [shA_nil, rowI_self]) (X_lv ?_ (l_av2 (S := rowI (rowI S (h + 12) C9) (h + 1) (upd (S.1 (h + 1)) 10 (nI ((nAir σ).length - 1)))) hR (by exact hF.of rfl) hB ((nAir σ).length - 1) (by omega) (by rw [rowI_at, upd_at]) (fun v8 => ?_) (16 * ((nAir σ).length - 1)) 777 (by omega) (Nat.le_refl _)))
  · rfl
  rw [rowI_at, rowI_rowI]
  have n9 := netR_pop hN hs (m := (nAir σ).length - 1) (by omega)
  generalize hgA : shA (upd (S.1 (h + 1)) 10 (nI ((nAir σ).length - 1))) 777 (777 + 16 * ((nAir σ).length - 1)) 16 = A9 at n9 ⊢
  have hfr9 : fr h [h + 1, h + 7, h + 8, h + 9, h + 10, h + 11, h + 12] [20, 22] S (rowI (rowI S (h + 12) C9) (h + 1) A9) := (fr.row (by simp) (by omega)).tr (fr.row (by simp) (by omega))
  have n9 : netR ((rowI (rowI S (h + 12) C9) (h + 1) A9).1 (h + 1)) (popA σ) := by rw [rowI_at]; exact n9
  have h9 : frS ((rowI (rowI S (h + 12) C9) (h + 1) A9).1 (h + 12)) (hdF σ) := by rw [rowI_ne _ _ (by omega), rowI_at]; exact hcm
  have hF9 := hfr9.ref hF
  refine X_aload_n (i := 0) hB dX12_arrives_84 rfl rfl ?_
  refine X_getr hB cw10 fX12_45 rfl hR.1.1 hR.1.2 hF9.2.2.2.2.2.2.2.2.2.2.2 dX12_arrives_85 ?_
  refine X_iconst (v := 0) hB dX12_arrives_88 (by decide) ?_
  refine X_ialdN hB (0) hR.2.2.2.2.2.2.2.2.2.2.2.2.1 hR.2.2.2.2.2.2.2.2.2.2.2.2.2 (by decide) (by first | rfl | (simp (disch := omega) only [nlit, nI_add, nI_mul, nI_sub]; done) | (simp (disch := omega) only [nlit, nI_add, nI_mul, nI_sub]; (congr 1 <;> omega))) (by first | omega | (simp only []; omega)) (show _ = nI (fKi (hdF σ)) from h9.1 0 (by decide)) dX12_arrives_89 ?_
  refine X_if_ne (tgt := 100) hB dX12_arrives_90 (by decide) (fun c90 => ?_) (fun c90 => ?_)
  · refine X_aload_n (i := 0) hB dX12_arrives_100 rfl rfl ?_
    refine X_getr hB cw10 fX12_45 rfl hR.1.1 hR.1.2 hF9.2.2.2.2.2.2.2.2.2.2.2 dX12_arrives_101 ?_
    refine X_iconst (v := 0) hB dX12_arrives_104 (by decide) ?_
    refine X_ialdN hB (0) hR.2.2.2.2.2.2.2.2.2.2.2.2.1 hR.2.2.2.2.2.2.2.2.2.2.2.2.2 (by decide) (by first | rfl | (simp (disch := omega) only [nlit, nI_add, nI_mul, nI_sub]; done) | (simp (disch := omega) only [nlit, nI_add, nI_mul, nI_sub]; (congr 1 <;> omega))) (by first | omega | (simp only []; omega)) (show _ = nI (fKi (hdF σ)) from h9.1 0 (by decide)) dX12_arrives_105 ?_
    refine X_iconst (v := 1) hB dX12_arrives_106 (by decide) ?_
    refine X_icmp_ne (tgt := 117) hB dX12_arrives_107 (by decide) (fun c107 => ?_) (fun c107 => ?_)
    · refine X_aload_n (i := 0) hB dX12_arrives_117 rfl rfl ?_
      refine X_getr hB cw10 fX12_45 rfl hR.1.1 hR.1.2 hF9.2.2.2.2.2.2.2.2.2.2.2 dX12_arrives_118 ?_
      refine X_iconst (v := 0) hB dX12_arrives_121 (by decide) ?_
      refine X_ialdN hB (0) hR.2.2.2.2.2.2.2.2.2.2.2.2.1 hR.2.2.2.2.2.2.2.2.2.2.2.2.2 (by decide) (by first | rfl | (simp (disch := omega) only [nlit, nI_add, nI_mul, nI_sub]; done) | (simp (disch := omega) only [nlit, nI_add, nI_mul, nI_sub]; (congr 1 <;> omega))) (by first | omega | (simp only []; omega)) (show _ = nI (fKi (hdF σ)) from h9.1 0 (by decide)) dX12_arrives_122 ?_
      refine X_iconst (v := 2) hB dX12_arrives_123 (by decide) ?_
      refine X_icmp_ne (tgt := 134) hB dX12_arrives_124 (by decide) (fun c124 => ?_) (fun c124 => ?_)
      · have hk0 : ¬ fKi (hdF σ) = 0 := fun q => c90 (by rw [q]; rfl)
        have hk1 : ¬ fKi (hdF σ) = 1 := fun q => c107 (by rw [q]; rfl)
        have hk2 : ¬ fKi (hdF σ) = 2 := fun q => c124 (by rw [q]; rfl)
        have hk3 : fKi (hdF σ) = 3 := by have := hfo.1.1; omega
        have hq3 := hfo.2.2.2.2 hk3
        refine X_aload_n (i := 0) hB dX12_arrives_134 rfl rfl ?_
        refine X_callV hB kX12_352 cw10 hR.1.1 hR.1.2 (c_errorComes hR hF9 (hdF σ) h9 (nodup8 hfo.1.2.2.1 hfo.1.2.2.2) hfo.1.2.2.2 (popA σ) hw.1 hk3 hfo.1.2.1 hq3.1 hq3.2.2.1 n9 hwp.sz) (by decide) (by decide) rfl rfl (Nat.le_of_ble_eq_true rfl) dX12_arrives_135 (fun r135 S135 q135 => ?_)
        obtain ⟨rfl, f135, n135⟩ := q135
        refine X_vret hB rfl dX12_arrives_138 ?_
        refine ⟨rfl, hfr9.tr (f135.mono (by simp) (by simp)), ?_⟩
        unfold arrive
        rw [if_neg hk0, if_neg hk1, if_neg hk2]
        exact n135
      · have hk0 : ¬ fKi (hdF σ) = 0 := fun q => c90 (by rw [q]; rfl)
        have hk1 : ¬ fKi (hdF σ) = 1 := fun q => c107 (by rw [q]; rfl)
        have hk2 : fKi (hdF σ) = 2 := i32_inj (b := 2) (by omega) (by omega) (by first | exact c124 | exact Decidable.not_not.mp c124)
        have hq2 := hfo.2.2.2.1 hk2
        refine X_aload_n (i := 0) hB dX12_arrives_127 rfl rfl ?_
        refine X_callV hB kX12_349 cw10 hR.1.1 hR.1.2 (c_replyComes hR hF9 (hdF σ) h9 (nodup8 hfo.1.2.2.1 hfo.1.2.2.2) hfo.1.2.2.2 (popA σ) hw.1 hfo.1.2.1 hfo.1.2.2.1 hq2.1 hq2.2 n9 hwp.sz) (by decide) (by decide) rfl rfl (Nat.le_of_ble_eq_true rfl) dX12_arrives_128 (fun r128 S128 q128 => ?_)
        obtain ⟨rfl, f128, n128⟩ := q128
        refine X_goto (tgt := 138) hB dX12_arrives_131 (by decide) ?_
        refine X_vret hB rfl dX12_arrives_138 ?_
        refine ⟨rfl, hfr9.tr (f128.mono (by simp) (by simp)), ?_⟩
        unfold arrive
        rw [if_neg hk0, if_neg hk1, if_pos hk2]
        exact n128
    · have hk0 : ¬ fKi (hdF σ) = 0 := fun q => c90 (by rw [q]; rfl)
      have hk1 : fKi (hdF σ) = 1 := i32_inj (b := 1) (by omega) (by omega) (by first | exact c107 | exact Decidable.not_not.mp c107)
      have hq1 := hfo.2.2.1 hk1
      refine X_aload_n (i := 0) hB dX12_arrives_110 rfl rfl ?_
      refine X_callV hB kX12_346 cw10 hR.1.1 hR.1.2 (c_requestComes hR hF9 (hdF σ) h9 (popA σ) hw.1 hk1 hfo.1.2.1 hq1.2.2.1 hfo.1.2.2.1 hfo.1.2.2.2 (List.length_pos_iff.mpr hq1.1) (by have := hq1.2.2.2.1; have := hw.2.2.2.2.2.2.2.2.2; omega) hq1.2.2.2.2 n9 hwp.sz hwp.tb) (by decide) (by decide) rfl rfl (Nat.le_of_ble_eq_true rfl) dX12_arrives_111 (fun r111 S111 q111 => ?_)
      obtain ⟨rfl, f111, n111⟩ := q111
      refine X_goto (tgt := 138) hB dX12_arrives_114 (by decide) ?_
      refine X_vret hB rfl dX12_arrives_138 ?_
      refine ⟨rfl, hfr9.tr (f111.mono (by simp) (by simp)), ?_⟩
      unfold arrive
      rw [if_neg hk0, if_pos hk1]
      exact n111
  · have hk0 : fKi (hdF σ) = 0 := i32_inj (b := 0) (by omega) (by omega) (by rw [nI_0]; first | exact c90 | exact Decidable.not_not.mp c90)
    have hq0 := hfo.2.1 hk0
    refine X_aload_n (i := 0) hB dX12_arrives_93 rfl rfl ?_
    refine X_callV hB kX12_343 cw10 hR.1.1 hR.1.2 (c_dataComes hR hF9 (popA σ) b hwp n9 (fAb (hdF σ)) (fFr (hdF σ)) hq0.1 hq0.2.1 hfo.1.2.1 (frS_data h9 hk0 hq0.2.2.1)) (by decide) (by decide) rfl rfl (Nat.le_of_ble_eq_true rfl) dX12_arrives_94 (fun r94 S94 q94 => ?_)
    obtain ⟨rfl, f94, n94⟩ := q94
    refine X_goto (tgt := 138) hB dX12_arrives_97 (by decide) ?_
    refine X_vret hB rfl dX12_arrives_138 ?_
    refine ⟨rfl, hfr9.tr (f94.mono (by simp) (by simp)), ?_⟩
    unfold arrive
    rw [if_pos hk0]
    exact n94
end REF
