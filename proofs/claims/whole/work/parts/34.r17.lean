def brk2 (σ : Net) (x y : Nat) : Net := forgetN (uTa σ 6) x x y
def brk3 (σ : Net) (d x y : Nat) : Net := (sendF (brk2 σ x y) (3, x, 0, 0, some (lkP x y), (aTr (dat σ d)).reverse)).1
def brkW (σ : Net) (d x y : Nat) : List Nat := wayN (brk3 σ d x y) x (aEn (dat σ d))
def breakD (σ : Net) (d x y : Nat) : Net := if x = aOr (dat σ d) then serve (uNd (brk2 σ x y) x (xNw (nNd (brk2 σ x y) x) (some (lkP x y)))) d else if aSv (dat σ d) < nSe σ 7 ∧ brkW σ d x y ≠ [] ∧ clrB (brkW σ d x y) (aTr (dat σ d)) = true then flyBy (uTa (uDa (brk3 σ d x y) d (dSv (dat σ d) (aSv (dat σ d) + 1))) 4) d (brkW σ d x y) else doneD (brk3 σ d x y) d 3
theorem c_forgetsN {G : Gc} {S : St} {h : Nat} (hR : RLay G h) (hF : RRef S h) (σ : Net) (hN : netR (S.1 (h + 1)) σ) (hs : szN σ) (n a b : Nat) (hn : n < 8) (ha : a < 8) (hb : b < 8) : C G mX12_forgets 5 [.ref h, .int (nI n), .int (nI a), .int (nI b)] S (fun r S' => r = none ∧ fr h [h + 1, h + 7] [20] S S' ∧ netR (S'.1 (h + 1)) (forgetN σ n a b) ∧ szN (forgetN σ n a b)) := by
  have hsn := hs.2.2.1 n hn
  have hnd := hN.2.1 n hn
  refine C.mono (c_forgets hR hF n a b hn ha hb (dMap (nNd σ n)) (nSe σ 2) (dCa (nNd σ n)) hsn.1 hnd.2.2.1 hnd.1) (fun r S' q => ?_)
  obtain ⟨q1, q2, q3, q4⟩ := q
  exact ⟨q1, q2, netR_ca hN hs hn q3 q4, szN_nd hs (okC_forget hsn.1) hsn.2.1 hsn.2.2⟩
theorem c_forgetsON {G : Gc} {S : St} {h : Nat} (hR : RLay G h) (hF : RRef S h) (σ : Net) (hN : netR (S.1 (h + 1)) σ) (hs : szN σ) (n : Nat) (o : Option (Nat × Nat)) (hn : n < 8) (ho : lkOk o) : C G mX12_forgetsLink 6 [.ref h, .int (nI n), .int (lkN o)] S (fun r S' => r = none ∧ fr h [h + 1, h + 7] [20] S S' ∧ netR (S'.1 (h + 1)) (forgetON σ n o) ∧ szN (forgetON σ n o)) := by
  have hsn := hs.2.2.1 n hn
  have hnd := hN.2.1 n hn
  refine C.mono (c_forgetsLink hR hF n hn o (fun q e => by have := ho q e; omega) (dMap (nNd σ n)) (nSe σ 2) (dCa (nNd σ n)) hsn.1 hnd.2.2.1 hnd.1) (fun r S' q => ?_)
  obtain ⟨q1, q2, q3, q4⟩ := q
  refine ⟨q1, q2, netR_ca hN hs hn q3 q4, szN_nd hs ?_ hsn.2.1 hsn.2.2⟩
  cases o with
  | none => exact hsn.1
  | some q => exact okC_forget hsn.1
theorem c_learnsN {G : Gc} {S : St} {h : Nat} (hR : RLay G h) (hF : RRef S h) (σ : Net) (hN : netR (S.1 (h + 1)) σ) (hs : szN σ) (hh : nSe σ 1 ≤ 7) (n : Nat) (L : List Nat) (hn : n < 8) (hLx : ∀ x ∈ L, x < 8) (hnd : L.Nodup) (hl : lesR S h L) : C G mX12_learns 4 [.ref h, .int (nI n)] S (fun r S' => r = none ∧ fr h [h + 1] [20] S S' ∧ netR (S'.1 (h + 1)) (learnN σ n L) ∧ szN (learnN σ n L)) := by
  have hsn := hs.2.2.1 n hn
  have hx := hN.2.1 n hn
  have hL8 := nodup8 hnd hLx
  refine C.mono (c_learns hR hF n hn (dMap (nNd σ n)) (nSe σ 1) (nSe σ 2) (dCa (nNd σ n)) L hL8 hLx hnd hsn.1 hx.2.2.1 hl (hN.1.1 2 (by decide)) (hN.1.1 1 (by decide)) hh hx.1) (fun r S' q => ?_)
  obtain ⟨q1, q2, q3, q4⟩ := q
  exact ⟨q1, q2, netR_ca hN hs hn q3 q4, szN_nd hs (okC_learn hsn.1 hL8 hLx hnd) hsn.2.1 hsn.2.2⟩
theorem c_findsN {G : Gc} {S : St} {h : Nat} (hR : RLay G h) (hF : RRef S h) (σ : Net) (hN : netR (S.1 (h + 1)) σ) (hs : szN σ) (hh : nSe σ 1 ≤ 7) (n to : Nat) (hn : n < 8) (hto : to < 8) : C G mX12_finds 4 [.ref h, .int (nI n), .int (nI to)] S (fun r S' => r = some (.int (if wayN σ n to = [] then 0 else 1)) ∧ fr h [h + 8, h + 9, h + 10] [22] S S' ∧ wayR S' h (wayN σ n to) ∧ (wayN σ n to).length ≤ 8 ∧ ∀ x ∈ wayN σ n to, x < 8) := by
  have hsn := hs.2.2.1 n hn
  have hx := hN.2.1 n hn
  refine C.mono (c_finds hR hF n to hn hto (dMap (nNd σ n)) (nSe σ 2) (nSe σ 1) hh (dCa (nNd σ n)) hsn.1 hx.2.2.1 hx.1 (hN.1.1 1 (by decide))) (fun r S' q => ?_)
  exact ⟨q.1, q.2.1, q.2.2, wayOf_len hsn.1 hh, wayOf_lt hsn.1 hn hh⟩
theorem len_forget {σ : Net} {n a b : Nat} : nDa (forgetN σ n a b) = nDa σ := rfl
theorem dat_send {σ : Net} {f : Fm} : nDa (sendF σ f).1 = nDa σ := by unfold sendF; split <;> rfl
theorem se_send {σ : Net} {f : Fm} : nSe (sendF σ f).1 = nSe σ := by unfold sendF; split <;> rfl
section REF
variable {G : Gc} {S : St} {h : Nat}
set_option maxRecDepth 100000 in
set_option maxHeartbeats 4000000 in
theorem l_breaks (hR : RLay G h) (hF : RRef S h) {E : Ev} (hB : Bd G E mX12_breaks) {Q : Option Value → St → Prop} (σ : Net) (hN : netR (S.1 (h + 1)) σ) (hs : szN σ) (d : Nat) (hd : d < (nDa σ).length) (x y : Nat) (fin : Fm) (kk : ∀ S2 v, fr h [h + 11] [] S S2 → frS (S2.1 (h + 11)) fin → X G E mX12_breaks 6 Q S2 87 [some (.ref h), some (.int (nI d)), some (.int (nI x)), some (.int (nI y)), some (.int v)] []) :
    ∀ (j : Nat) (f : Fm) (S1 : St), j ≤ (aTr (dat σ d)).length → (fRo f).length + j ≤ 8 → fr h [h + 11] [] S S1 → frS (S1.1 (h + 11)) f → (f.1, f.2.1, f.2.2.1, f.2.2.2.1, f.2.2.2.2.1, fRo f ++ ((aTr (dat σ d)).take j).reverse) = fin → X G E mX12_breaks 6 Q S1 65 [some (.ref h), some (.int (nI d)), some (.int (nI x)), some (.int (nI y)), some (.int (nI j + -1))] [] := by
  have hl := (dat_len hs hd).1
  intro j
  induction j with
  | zero =>
    intro f S1 h1 h2 hfr hf hfin
    refine X_iload hB dX12_breaks_65 rfl ?_
    refine X_if_lt (tgt := 87) hB dX12_breaks_67 (by decide) (fun c67 => ?_) (fun c67 => absurd c67 (by decide))
    rw [List.take_zero, List.reverse_nil, List.append_nil] at hfin
    exact kk S1 _ hfr (by rw [← hfin]; exact hf)
  | succ j ih =>
    intro f S1 h1 h2 hfr hf hfin
    have hN1 : netR (S1.1 (h + 1)) σ := by rw [hfr.2.1 _ (by simp) (by omega)]; exact hN
    rw [nI_m1]
    refine X_iload hB dX12_breaks_65 rfl ?_
    refine X_if_lt (tgt := 87) hB dX12_breaks_67 (by decide) (fun c67 => absurd c67 (nI_pos (by omega))) (fun c67 => ?_)
    refine X_aload_n (i := 0) hB dX12_breaks_70 rfl rfl ?_
    refine X_aload_n (i := 0) hB dX12_breaks_71 rfl rfl ?_
    refine X_iload_n (i := 1) hB dX12_breaks_72 rfl rfl ?_
    refine X_iload hB dX12_breaks_73 rfl ?_
    refine X_callV hB kX12_280 cw10 hR.1.1 hR.1.2 (c_trailAt hR (hfr.ref hF) σ hN1 hs d hd (i := j) (by omega)) (by decide) (by decide) rfl rfl (Nat.le_of_ble_eq_true rfl) dX12_breaks_75 (fun r75 S75 q75 => ?_)
    obtain ⟨rfl, rfl⟩ := q75
    refine X_callV hB kX12_262 cw10 hR.1.1 hR.1.2 (c_addsFrame hR (hfr.ref hF) f ((aTr (dat σ d)).getD j 0) (by omega) hf) (by decide) (by decide) rfl rfl (Nat.le_of_ble_eq_true rfl) dX12_breaks_78 (fun r78 S78 q78 => ?_)
    obtain ⟨rfl, f78, g78⟩ := q78
    refine X_iinc hB dX12_breaks_81 rfl rfl (by decide) rfl ?_
    refine X_goto (tgt := 65) hB dX12_breaks_84 (by decide) ?_
    refine ih (fAdd f ((aTr (dat σ d)).getD j 0)) _ (by omega) (by show (fRo f ++ [_]).length + j ≤ 8; rw [List.length_append]; show (fRo f).length + 1 + j ≤ 8; omega) (hfr.tr f78) g78 ?_
    rw [← hfin]
    show (f.1, f.2.1, f.2.2.1, f.2.2.2.1, f.2.2.2.2.1, (fRo f ++ [(aTr (dat σ d)).getD j 0]) ++ ((aTr (dat σ d)).take j).reverse) = _
    rw [List.append_assoc, List.take_succ_eq_append_getElem (show j < (aTr (dat σ d)).length by omega), List.reverse_append, getD_lt (by omega)]
    rfl
set_option maxRecDepth 100000 in
set_option maxHeartbeats 4000000 in
theorem c_breaks (hR : RLay G h) (hF : RRef S h) (σ : Net) (b : Nat) (hw : wfN σ b) (hN : netR (S.1 (h + 1)) σ) (d x y : Nat) (hd : d < (nDa σ).length) (hx8 : x < 8) (hy8 : y < 8) : C G mX12_breaks 6 [.ref h, .int (nI d), .int (nI x), .int (nI y)] S (fun r S' => r = none ∧ fr h [h + 1, h + 7, h + 8, h + 9, h + 10, h + 11] [20, 22] S S' ∧ netR (S'.1 (h + 1)) (breakD σ d x y)) := by
  have hs := hw.sz
  have hd40 := hs.2.1
  have hsr := hw.srv hd
  have hda := hw.da hd
  have hx := hN.2.2.2 d hd
  have hl := dat_len hs hd
  have hse := hw.1
  refine C.mk (lv := [some (.ref h), some (.int (nI d)), some (.int (nI x)), some (.int (nI y)), none]) (by decide) (Nat.le_of_ble_eq_true rfl) rfl (fun E hB => ?_)
  refine X_aload_n (i := 0) hB dX12_breaks_0 rfl rfl ?_
  refine X_bipush (v := 6) hB dX12_breaks_1 (by decide) ?_
  refine X_iconst (v := 1) hB dX12_breaks_3 (by decide) ?_
  refine X_callV hB kX12_240 cw10 hR.1.1 hR.1.2 (c_tally hR (by exact hF.of rfl) (k := 6) (by decide) 1) (by decide) (by decide) rfl rfl (Nat.le_of_ble_eq_true rfl) dX12_breaks_4 (fun r4 S4 q4 => ?_)
  obtain ⟨rfl, rfl⟩ := q4
  rw [setI_rowI]
  have hn1 : netR ((rowI S (h + 1) (upd (S.1 (h + 1)) (14 + 6) (S.1 (h + 1) (14 + 6) + 1))).1 (h + 1)) (uTa σ 6) := by rw [rowI_at]; exact netR_ta hN hs (by decide)
  refine X_aload_n (i := 0) hB dX12_breaks_7 rfl rfl ?_
  refine X_iload_n (i := 2) hB dX12_breaks_8 rfl rfl ?_
  refine X_iload_n (i := 2) hB dX12_breaks_9 rfl rfl ?_
  refine X_iload_n (i := 3) hB dX12_breaks_10 rfl rfl ?_
  refine X_callV hB kX12_218 cw10 hR.1.1 hR.1.2 (c_forgetsN hR (by exact hF.of rfl) (uTa σ 6) hn1 (szN_ta hs) x x y hx8 hx8 hy8) (by decide) (by decide) rfl rfl (Nat.le_of_ble_eq_true rfl) dX12_breaks_11 (fun r11 S11 q11 => ?_)
  obtain ⟨rfl, f11, n11, s11⟩ := q11
  have hF11 : RRef S11 h := f11.ref (hF.of rfl)
  have hfr11 : fr h [h + 1, h + 7, h + 8, h + 9, h + 10, h + 11] [20, 22] S S11 := (fr.row (by simp) (by omega)).tr (f11.mono (by simp) (by simp))
  have n11 : netR (S11.1 (h + 1)) (brk2 σ x y) := n11
  have s11 : szN (brk2 σ x y) := s11
  refine X_iload_n (i := 2) hB dX12_breaks_14 rfl rfl ?_
  refine X_aload_n (i := 0) hB dX12_breaks_15 rfl rfl ?_
  refine X_iload_n (i := 1) hB dX12_breaks_16 rfl rfl ?_
  refine X_iconst (v := 0) hB dX12_breaks_17 (by decide) ?_
  refine X_callV hB kX12_246 cw10 hR.1.1 hR.1.2 (c_ofDE (n := d) (w := 0) hR (f11.ref (hF.of rfl)) rfl rfl (by omega) (by omega)) (by decide) (by decide) rfl rfl (Nat.le_of_ble_eq_true rfl) dX12_breaks_18 (fun r18 S18 q18 => ?_)
  obtain ⟨rfl, rfl⟩ := q18
  refine X_topi (y := nI (aOr (dat σ d))) ((n11.2.2.2 d hd).1) ?_
  refine X_icmp_ne (tgt := 41) hB dX12_breaks_21 (by decide) (fun c21 => ?_) (fun c21 => ?_)
  · have hox : ¬ x = aOr (dat σ d) := fun q => c21 (by rw [← q])
    refine X_aload_n (i := 0) hB dX12_breaks_41 rfl rfl ?_
    refine X_iconst (v := 3) hB dX12_breaks_42 (by decide) ?_
    refine X_iload_n (i := 2) hB dX12_breaks_43 rfl rfl ?_
    refine X_iconst (v := (-1)) hB dX12_breaks_44 (by decide) ?_
    refine X_iconst (v := (-1)) hB dX12_breaks_45 (by decide) ?_
    refine X_iconst (v := (-1)) hB dX12_breaks_46 (by decide) ?_
    refine X_iload_n (i := 2) hB dX12_breaks_47 rfl rfl ?_
    refine X_iload_n (i := 3) hB dX12_breaks_48 rfl rfl ?_
    refine X_callS hB kX12_286 (c_linkOf hx8 hy8) (by decide) (by decide) rfl rfl (Nat.le_of_ble_eq_true rfl) dX12_breaks_49 (fun r49 S49 q49 => ?_)
    obtain ⟨rfl, rfl⟩ := q49
    refine X_callV hB kX12_249 cw10 hR.1.1 hR.1.2 (c_beginsFrame hR hF11 (3, x, 0, 0, some (lkP x y), []) rfl) (by decide) (by decide) rfl rfl (Nat.le_of_ble_eq_true rfl) dX12_breaks_52 (fun r52 S52 q52 => ?_)
    obtain ⟨rfl, f52, g52⟩ := q52
    have hA52 : S52.1 (h + 1) = S11.1 (h + 1) := f52.2.1 _ (by simp) (by omega)
    have n52 : netR (S52.1 (h + 1)) (brk2 σ x y) := by rw [hA52]; exact n11
    refine X_aload_n (i := 0) hB dX12_breaks_55 rfl rfl ?_
    refine X_iload_n (i := 1) hB dX12_breaks_56 rfl rfl ?_
    refine X_iconst (v := 4) hB dX12_breaks_57 (by decide) ?_
    refine X_callV hB kX12_246 cw10 hR.1.1 hR.1.2 (c_ofDE (n := d) (w := 4) hR (f52.ref hF11) rfl rfl (by omega) (by omega)) (by decide) (by decide) rfl rfl (Nat.le_of_ble_eq_true rfl) dX12_breaks_58 (fun r58 S58 q58 => ?_)
    obtain ⟨rfl, rfl⟩ := q58
    refine X_topi (y := nI (aTr (dat σ d)).length) ((n52.2.2.2 d hd).2.2.2.2.1) ?_
    refine X_iconst (v := 1) hB dX12_breaks_61 (by decide) ?_
    refine X_isub hB dX12_breaks_62 ?_
    refine X_istore hB dX12_breaks_63 (by decide) rfl ?_
    refine X_lv (lv' := [some (.ref h), some (.int (nI d)), some (.int (nI x)), some (.int (nI y)), some (.int (nI (aTr (dat σ d)).length + -1))]) ?_ (l_breaks (S := S52) (fin := (3, x, 0, 0, some (lkP x y), (aTr (dat σ d)).reverse)) hR (f52.ref hF11) hB (brk2 σ x y) n52 s11 d hd x y (fun S9 v9 g1 g2 => ?_) (aTr (dat σ d)).length (3, x, 0, 0, some (lkP x y), []) S52 (Nat.le_refl _) (by show 0 + (aTr (dat σ d)).length ≤ 8; omega) fr.rf g52 ?_)
    · show [_, _, _, _, some (Value.int (nI (aTr (dat σ d)).length - 1))] = _
      rw [Int32.sub_eq_add_neg]
    · refine X_aload_n (i := 0) hB dX12_breaks_87 rfl rfl ?_
      have n9 : netR (S9.1 (h + 1)) (brk2 σ x y) := by rw [g1.2.1 _ (by simp) (by omega)]; exact n52
      refine X_callV hB kX12_253 cw10 hR.1.1 hR.1.2 (c_sends hR (g1.ref (f52.ref hF11)) (brk2 σ x y) (3, x, 0, 0, some (lkP x y), (aTr (dat σ d)).reverse) n9 s11 (by show 3 ≤ 3; omega) g2 (by show (aTr (dat σ d)).reverse.length ≤ 8; rw [List.length_reverse]; exact hl.1)) (by decide) (by decide) rfl rfl (Nat.le_of_ble_eq_true rfl) dX12_breaks_88 (fun r88 S88 q88 => ?_)
      obtain ⟨rfl, f88, n88⟩ := q88
      have hF88 : RRef S88 h := f88.ref (g1.ref (f52.ref hF11))
      have s88 : szN (brk3 σ d x y) := szN_send s11 (by show (aTr (dat σ d)).reverse.length ≤ 8; rw [List.length_reverse]; exact hl.1)
      have n88 : netR (S88.1 (h + 1)) (brk3 σ d x y) := n88
      have hda3 : nDa (brk3 σ d x y) = nDa σ := dat_send
      have hse3 : nSe (brk3 σ d x y) = nSe σ := se_send
      have hdt3 : dat (brk3 σ d x y) d = dat σ d := by unfold dat; rw [hda3]
      have hd3 : d < (nDa (brk3 σ d x y)).length := by rw [hda3]; exact hd
      have hfr88 : fr h [h + 1, h + 7, h + 8, h + 9, h + 10, h + 11] [20, 22] S S88 := hfr11.tr ((f52.mono (by simp) (by simp)).tr ((g1.mono (by simp) (by simp)).tr (f88.mono (by simp) (by simp))))
      have x88 := n88.2.2.2 d hd3
      rw [hdt3] at x88
      refine X_istore hB dX12_breaks_91 (by decide) rfl ?_
      refine X_aload_n (i := 0) hB dX12_breaks_93 rfl rfl ?_
      refine X_iload_n (i := 1) hB dX12_breaks_94 rfl rfl ?_
      refine X_iconst (v := 3) hB dX12_breaks_95 (by decide) ?_
      refine X_callV hB kX12_246 cw10 hR.1.1 hR.1.2 (c_ofDE (n := d) (w := 3) hR hF88 rfl rfl (by omega) (by omega)) (by decide) (by decide) rfl rfl (Nat.le_of_ble_eq_true rfl) dX12_breaks_96 (fun r96 S96 q96 => ?_)
      obtain ⟨rfl, rfl⟩ := q96
      refine X_topi (y := nI (aSv (dat σ d))) (x88.2.2.2.1) ?_
      refine X_aload_n (i := 0) hB dX12_breaks_99 rfl rfl ?_
      refine X_getr hB cw10 fX12_7 rfl hR.1.1 hR.1.2 hF88.1 dX12_breaks_100 ?_
      refine X_bipush (v := 7) hB dX12_breaks_103 (by decide) ?_
      refine X_ialdN hB (7) hR.2.1.1 hR.2.1.2 (by decide) (by first | rfl | (simp (disch := omega) only [nlit, nI_add, nI_mul, nI_sub]; done) | (simp (disch := omega) only [nlit, nI_add, nI_mul, nI_sub]; (congr 1 <;> omega))) (by first | omega | (simp only []; omega)) (show _ = nI (nSe σ 7) by rw [n88.1.1 7 (by decide), hse3]) dX12_breaks_105 ?_
      refine X_icmp_ge (tgt := 159) hB dX12_breaks_106 (by decide) (fun c106 => ?_) (fun c106 => ?_)
      · have hno : ¬ (aSv (dat σ d) < nSe σ 7 ∧ brkW σ d x y ≠ [] ∧ clrB (brkW σ d x y) (aTr (dat σ d)) = true) := fun q => by
          (have c9 := c106); (have := hda.1.2.2.2.2.2); (have := hse.2.2.2.2.2.2.2); simp (disch := omega) only [nlit, nI_leI, nI_ltI] at c9; omega
        refine X_aload_n (i := 0) hB dX12_breaks_159 rfl rfl ?_
        refine X_iload_n (i := 1) hB dX12_breaks_160 rfl rfl ?_
        refine X_iconst (v := 3) hB dX12_breaks_161 (by decide) ?_
        refine X_callV hB kX12_256 cw10 hR.1.1 hR.1.2 (c_isDone hR hF88 (brk3 σ d x y) n88 s88 d 3 hd3 (Or.inr rfl)) (by decide) (by decide) rfl rfl (Nat.le_of_ble_eq_true rfl) dX12_breaks_162 (fun r162 S162 q162 => ?_)
        obtain ⟨rfl, f162, g162⟩ := q162
        refine X_vret hB rfl dX12_breaks_165 ?_
        refine ⟨rfl, hfr88.tr (f162.mono (by simp) (by simp)), ?_⟩
        unfold breakD
        rw [if_neg hox, if_neg hno]
        exact g162
      · have hlt : aSv (dat σ d) < nSe σ 7 := by (have c9 := c106); (have := hda.1.2.2.2.2.2); (have := hse.2.2.2.2.2.2.2); simp (disch := omega) only [nlit, nI_leI, nI_ltI] at c9; omega
        refine X_aload_n (i := 0) hB dX12_breaks_109 rfl rfl ?_
        refine X_iload_n (i := 2) hB dX12_breaks_110 rfl rfl ?_
        refine X_aload_n (i := 0) hB dX12_breaks_111 rfl rfl ?_
        refine X_iload_n (i := 1) hB dX12_breaks_112 rfl rfl ?_
        refine X_iconst (v := 1) hB dX12_breaks_113 (by decide) ?_
        refine X_callV hB kX12_246 cw10 hR.1.1 hR.1.2 (c_ofDE (n := d) (w := 1) hR hF88 rfl rfl (by omega) (by omega)) (by decide) (by decide) rfl rfl (Nat.le_of_ble_eq_true rfl) dX12_breaks_114 (fun r114 S114 q114 => ?_)
        obtain ⟨rfl, rfl⟩ := q114
        refine X_topi (y := nI (aEn (dat σ d))) (x88.2.1) ?_
        refine X_callV hB kX12_265 cw10 hR.1.1 hR.1.2 (c_findsN hR hF88 (brk3 σ d x y) n88 s88 (by rw [hse3]; exact hsr.2.2.2.2.1) x (aEn (dat σ d)) hx8 hsr.2.2.2.1) (by decide) (by decide) rfl rfl (Nat.le_of_ble_eq_true rfl) dX12_breaks_117 (fun r117 S117 q117 => ?_)
        obtain ⟨rfl, f117, w117, l117, t117⟩ := q117
        have hF117 := f117.ref hF88
        have hA117 : S117.1 (h + 1) = S88.1 (h + 1) := f117.2.1 _ (by simp) (by omega)
        have n117 : netR (S117.1 (h + 1)) (brk3 σ d x y) := by rw [hA117]; exact n88
        have hfr117 := hfr88.tr (f117.mono (r2 := [h + 1, h + 7, h + 8, h + 9, h + 10, h + 11]) (f2 := [20, 22]) (by simp) (by simp))
        refine X_if_eq (tgt := 159) hB dX12_breaks_120 (by decide) (fun c120 => ?_) (fun c120 => ?_)
        · have hno : ¬ (aSv (dat σ d) < nSe σ 7 ∧ brkW σ d x y ≠ [] ∧ clrB (brkW σ d x y) (aTr (dat σ d)) = true) := fun q => absurd c120 (by rw [if_neg (show ¬ wayN _ _ _ = [] from q.2.1)]; decide)
          refine X_aload_n (i := 0) hB dX12_breaks_159 rfl rfl ?_
          refine X_iload_n (i := 1) hB dX12_breaks_160 rfl rfl ?_
          refine X_iconst (v := 3) hB dX12_breaks_161 (by decide) ?_
          refine X_callV hB kX12_256 cw10 hR.1.1 hR.1.2 (c_isDone hR hF117 (brk3 σ d x y) n117 s88 d 3 hd3 (Or.inr rfl)) (by decide) (by decide) rfl rfl (Nat.le_of_ble_eq_true rfl) dX12_breaks_162 (fun r162 S162 q162 => ?_)
          obtain ⟨rfl, f162, g162⟩ := q162
          refine X_vret hB rfl dX12_breaks_165 ?_
          refine ⟨rfl, hfr117.tr (f162.mono (by simp) (by simp)), ?_⟩
          unfold breakD
          rw [if_neg hox, if_neg hno]
          exact g162
        · have hwn : brkW σ d x y ≠ [] := fun q => c120 (by rw [if_pos (show wayN _ _ _ = [] from q)])
          refine X_aload_n (i := 0) hB dX12_breaks_123 rfl rfl ?_
          refine X_iload_n (i := 1) hB dX12_breaks_124 rfl rfl ?_
          refine X_callV hB kX12_292 cw10 hR.1.1 hR.1.2 (c_isClear hR hF117 (brk3 σ d x y) n117 s88 d hd3 (brkW σ d x y) w117 l117 t117 (by rw [hdt3]; exact hda.2.1.2.2.1)) (by decide) (by decide) rfl rfl (Nat.le_of_ble_eq_true rfl) dX12_breaks_125 (fun r125 S125 q125 => ?_)
          obtain ⟨q1, q0, rfl⟩ := q125
          rw [hdt3] at q1 q0
          by_cases hcl : clr (brkW σ d x y) (aTr (dat σ d))
          · rw [q1 hcl]
            refine X_if_eq (tgt := 159) hB dX12_breaks_128 (by decide) (fun c128 => absurd c128 (by decide)) (fun c128 => ?_)
            refine X_aload_n (i := 0) hB dX12_breaks_131 rfl rfl ?_
            refine X_iload_n (i := 1) hB dX12_breaks_132 rfl rfl ?_
            refine X_iconst (v := 3) hB dX12_breaks_133 (by decide) ?_
            refine X_aload_n (i := 0) hB dX12_breaks_134 rfl rfl ?_
            refine X_iload_n (i := 1) hB dX12_breaks_135 rfl rfl ?_
            refine X_iconst (v := 3) hB dX12_breaks_136 (by decide) ?_
            refine X_callV hB kX12_246 cw10 hR.1.1 hR.1.2 (c_ofDE (n := d) (w := 3) hR hF117 rfl rfl (by omega) (by omega)) (by decide) (by decide) rfl rfl (Nat.le_of_ble_eq_true rfl) dX12_breaks_137 (fun r137 S137 q137 => ?_)
            obtain ⟨rfl, rfl⟩ := q137
            refine X_topi (y := nI (aSv (dat σ d))) (by rw [hA117]; exact x88.2.2.2.1) ?_
            refine X_iconst (v := 1) hB dX12_breaks_140 (by decide) ?_
            refine X_iadd hB dX12_breaks_141 ?_
            refine X_topi (y := nI (aSv (dat σ d) + 1)) (by first | rfl | (simp (disch := omega) only [nlit, nI_add, nI_mul, nI_sub]; done) | (simp (disch := omega) only [nlit, nI_add, nI_mul, nI_sub]; (congr 1 <;> omega))) ?_
            refine X_callV hB kX12_243 cw10 hR.1.1 hR.1.2 (c_layDE (n := d) (w := 3) hR hF117 rfl rfl (by omega) (by omega)) (by decide) (by decide) rfl rfl (Nat.le_of_ble_eq_true rfl) dX12_breaks_142 (fun r142 S142 q142 => ?_)
            obtain ⟨rfl, rfl⟩ := q142
            rw [setI_rowI]
            refine X_aload_n (i := 0) hB dX12_breaks_145 rfl rfl ?_
            refine X_iconst (v := 4) hB dX12_breaks_146 (by decide) ?_
            refine X_iconst (v := 1) hB dX12_breaks_147 (by decide) ?_
            refine X_callV hB kX12_240 cw10 hR.1.1 hR.1.2 (c_tally hR (by exact hF117.of rfl) (k := 4) (by decide) 1) (by decide) (by decide) rfl rfl (Nat.le_of_ble_eq_true rfl) dX12_breaks_148 (fun r148 S148 q148 => ?_)
            obtain ⟨rfl, rfl⟩ := q148
            rw [setI_rowI, rowI_rowI, rowI_at]
            have hs4 : szN (uDa (brk3 σ d x y) d (dSv (dat σ d) (aSv (dat σ d) + 1))) := szN_da s88 hl.1 hl.2
            have hn4 : netR (upd (S117.1 (h + 1)) (1417 + 26 * d + 3) (nI (aSv (dat σ d) + 1))) (uDa (brk3 σ d x y) d (dSv (dat σ d) (aSv (dat σ d) + 1))) := netR_da n117 s88 hd3 (daR_Sv (by rw [hA117]; exact x88) hl.1 hl.2) (fun i hi => by rw [upd_ne _ _ (by omega)])
            have hn5 := netR_ta (k := 4) hn4 hs4 (by decide)
            generalize hg5 : upd (upd (S117.1 (h + 1)) (1417 + 26 * d + 3) (nI (aSv (dat σ d) + 1))) (14 + 4) (upd (S117.1 (h + 1)) (1417 + 26 * d + 3) (nI (aSv (dat σ d) + 1)) (14 + 4) + 1) = A5 at hn5 ⊢
            have hn5 : netR ((rowI S117 (h + 1) A5).1 (h + 1)) (uTa (uDa (brk3 σ d x y) d (dSv (dat σ d) (aSv (dat σ d) + 1))) 4) := by rw [rowI_at]; exact hn5
            refine X_aload_n (i := 0) hB dX12_breaks_151 rfl rfl ?_
            refine X_iload_n (i := 1) hB dX12_breaks_152 rfl rfl ?_
            refine X_callV hB kX12_268 cw10 hR.1.1 hR.1.2 (c_fliesByWay hR (by exact hF117.of rfl) (uTa (uDa (brk3 σ d x y) d (dSv (dat σ d) (aSv (dat σ d) + 1))) 4) hn5 hs4 d (by rw [show nDa (uTa (uDa (brk3 σ d x y) d (dSv (dat σ d) (aSv (dat σ d) + 1))) 4) = nDa (uDa (brk3 σ d x y) d (dSv (dat σ d) (aSv (dat σ d) + 1))) from rfl, len_set]; exact hd3) (by rw [show dat (uTa (uDa (brk3 σ d x y) d (dSv (dat σ d) (aSv (dat σ d) + 1))) 4) d = dat (uDa (brk3 σ d x y) d (dSv (dat σ d) (aSv (dat σ d) + 1))) d from rfl, dat_set hd3]; exact hsr.2.1) (brkW σ d x y) l117 (w117.of (by rw [rowI_ne _ _ (by omega)]) (by rw [rowI_ne _ _ (by omega)]))) (by decide) (by decide) rfl rfl (Nat.le_of_ble_eq_true rfl) dX12_breaks_153 (fun r153 S153 q153 => ?_)
            obtain ⟨rfl, f153, g153⟩ := q153
            refine X_goto (tgt := 165) hB dX12_breaks_156 (by decide) ?_
            refine X_vret hB rfl dX12_breaks_165 ?_
            refine ⟨rfl, hfr117.tr ((fr.row (by simp) (by omega)).tr (f153.mono (by simp) (by simp))), ?_⟩
            unfold breakD
            rw [if_neg hox, if_pos ⟨hlt, hwn, clr_iff.mp hcl⟩]
            exact g153
          · rw [q0 hcl]
            refine X_if_eq (tgt := 159) hB dX12_breaks_128 (by decide) (fun c128 => ?_) (fun c128 => absurd rfl c128)
            have hno : ¬ (aSv (dat σ d) < nSe σ 7 ∧ brkW σ d x y ≠ [] ∧ clrB (brkW σ d x y) (aTr (dat σ d)) = true) := fun q => hcl (clr_iff.mpr q.2.2)
            refine X_aload_n (i := 0) hB dX12_breaks_159 rfl rfl ?_
            refine X_iload_n (i := 1) hB dX12_breaks_160 rfl rfl ?_
            refine X_iconst (v := 3) hB dX12_breaks_161 (by decide) ?_
            refine X_callV hB kX12_256 cw10 hR.1.1 hR.1.2 (c_isDone hR hF117 (brk3 σ d x y) n117 s88 d 3 hd3 (Or.inr rfl)) (by decide) (by decide) rfl rfl (Nat.le_of_ble_eq_true rfl) dX12_breaks_162 (fun r162 S162 q162 => ?_)
            obtain ⟨rfl, f162, g162⟩ := q162
            refine X_vret hB rfl dX12_breaks_165 ?_
            refine ⟨rfl, hfr117.tr (f162.mono (by simp) (by simp)), ?_⟩
            unfold breakD
            rw [if_neg hox, if_neg hno]
            exact g162
    · show (3, x, 0, 0, some (lkP x y), [] ++ ((aTr (dat σ d)).take (aTr (dat σ d)).length).reverse) = _
      rw [List.take_length, List.nil_append]
  · have hox : x = aOr (dat σ d) := i32_inj (by omega) (by have := hsr.2.2.1; omega) (by first | exact c21 | exact Decidable.not_not.mp c21)
    refine X_aload_n (i := 0) hB dX12_breaks_24 rfl rfl ?_
    refine X_iload_n (i := 2) hB dX12_breaks_25 rfl rfl ?_
    refine X_iconst (v := 5) hB dX12_breaks_26 (by decide) ?_
    refine X_iload_n (i := 2) hB dX12_breaks_27 rfl rfl ?_
    refine X_iload_n (i := 3) hB dX12_breaks_28 rfl rfl ?_
    refine X_callS hB kX12_286 (c_linkOf hx8 hy8) (by decide) (by decide) rfl rfl (Nat.le_of_ble_eq_true rfl) dX12_breaks_29 (fun r29 S29 q29 => ?_)
    obtain ⟨rfl, rfl⟩ := q29
    refine X_callV hB kX12_170 cw10 hR.1.1 hR.1.2 (c_layE (n := x) (w := 5) hR hF11 rfl rfl (by omega) (by omega)) (by decide) (by decide) rfl rfl (Nat.le_of_ble_eq_true rfl) dX12_breaks_32 (fun r32 S32 q32 => ?_)
    obtain ⟨rfl, rfl⟩ := q32
    rw [setI_rowI]
    have hsx := s11.2.2.1 x hx8
    have hs3 : szN (uNd (brk2 σ x y) x (xNw (nNd (brk2 σ x y) x) (some (lkP x y)))) := szN_nd s11 hsx.1 hsx.2.1 hsx.2.2
    have hn3 : netR ((rowI S11 (h + 1) (upd (S11.1 (h + 1)) (89 + 86 * x + 5) (nI (10 * min x y + max x y)))).1 (h + 1)) (uNd (brk2 σ x y) x (xNw (nNd (brk2 σ x y) x) (some (lkP x y)))) := by
      rw [rowI_at]
      exact netR_nd n11 s11 hx8 (ndR_nw (o := some (lkP x y)) (n11.2.1 x hx8) hsx.1) (fun i hi => by rw [upd_ne _ _ (by omega)])
    have hbu : (dBu (nNd (uNd (brk2 σ x y) x (xNw (nNd (brk2 σ x y) x) (some (lkP x y)))) (aOr (dat σ d)))).length ≤ nSe σ 4 ∧ nSe σ 4 ≤ 4 := by
      refine ⟨?_, hsr.2.2.2.2.2.1.2⟩
      rw [← hox]
      simp only [nNd, uNd, if_true, brk2, forgetN]
      have := hsr.2.2.2.2.2.1.1
      rw [← hox] at this
      exact this
    have hak : ∀ n t, n < 8 → t < 8 → ∀ s, dAk (nNd (uNd (brk2 σ x y) x (xNw (nNd (brk2 σ x y) x) (some (lkP x y)))) n) t = some s → s < 2 ^ 31 := by
      intro n t hn ht s hs9
      refine hsr.2.2.2.2.2.2 n t hn ht s ?_
      by_cases hnx : n = x
      · subst hnx; (simp only [nNd, uNd, if_true, brk2, forgetN] at hs9); exact hs9
      · (simp only [nNd, uNd, if_neg hnx, brk2, forgetN] at hs9); exact hs9
    refine X_aload_n (i := 0) hB dX12_breaks_35 rfl rfl ?_
    refine X_iload_n (i := 1) hB dX12_breaks_36 rfl rfl ?_
    refine X_callV hB kX12_289 cw10 hR.1.1 hR.1.2 (c_serves hR (by exact hF11.of rfl) (uNd (brk2 σ x y) x (xNw (nNd (brk2 σ x y) x) (some (lkP x y)))) hn3 hs3 d hd hsr.2.1 hsr.2.2.1 hsr.2.2.2.1 hsr.2.2.2.2.1 hbu hak) (by decide) (by decide) rfl rfl (Nat.le_of_ble_eq_true rfl) dX12_breaks_37 (fun r37 S37 q37 => ?_)
    obtain ⟨rfl, f37, g37⟩ := q37
    refine X_vret hB rfl dX12_breaks_40 ?_
    refine ⟨rfl, hfr11.tr ((fr.row (by simp) (by omega)).tr (f37.mono (by simp) (by simp))), ?_⟩
    unfold breakD
    rw [if_pos hox]
    exact g37
end REF
