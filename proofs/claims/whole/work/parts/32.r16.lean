theorem getD_app {l m : List Nat} {i : Nat} (h : i < l.length) : (l ++ m).getD i 0 = l.getD i 0 := by simp [List.getElem?_append_left h]
def xCa (x : Nd) (c : List (List Nat)) : Nd := (x.1, x.2.1, c, x.2.2.2)
def xNw (x : Nd) (o : Option (Nat × Nat)) : Nd := (x.1, x.2.1, x.2.2.1, x.2.2.2.1, x.2.2.2.2.1, x.2.2.2.2.2.1, o, x.2.2.2.2.2.2.2)
def forgetN (σ : Net) (n a b : Nat) : Net := uNd σ n (xCa (nNd σ n) (forgetL (dMap (nNd σ n)) a b (dCa (nNd σ n))))
def forgetON (σ : Net) (n : Nat) (o : Option (Nat × Nat)) : Net := uNd σ n (xCa (nNd σ n) (forgetO (dMap (nNd σ n)) o (dCa (nNd σ n))))
def learnN (σ : Net) (n : Nat) (L : List Nat) : Net := uNd σ n (xCa (nNd σ n) (learnL (dMap (nNd σ n)) (nSe σ 1) (nSe σ 2) L (dCa (nNd σ n))))
def lkP (x y : Nat) : Nat × Nat := (min x y, max x y)
def clrB (w t : List Nat) : Bool := (List.range w.length).all (fun i => i = 0 || !(t.contains (w.getD i 0)))
theorem clr_iff {w t : List Nat} : clr w t ↔ clrB w t = true := by
  unfold clr clrB
  simp only [List.all_eq_true, List.mem_range, Bool.or_eq_true, decide_eq_true_eq, Bool.not_eq_true', List.contains_eq_mem, decide_eq_false_iff_not]
  refine ⟨fun h i hi => ?_, fun h i h1 h2 => ?_⟩
  · by_cases h0 : i = 0
    · exact Or.inl h0
    · exact Or.inr (h i (by omega) hi)
  · exact (h i h2).resolve_left (by omega)
theorem ndR_ca {A A' : Nat → Int32} {n : Nat} {x : Nd} {c' : List (List Nat)} (hx : ndR A n x) (ht : (dTb x).length ≤ 6) (hb : (dBu x).length ≤ 4) (hch : chC A A' n) (hc : cacheR A' n (dMap x) c') : ndR A' n (xCa x c') := by
  obtain ⟨h1, h2, h3, h4, h5, h6, h7, h8, h9, h10⟩ := hx
  exact ⟨by rw [hch _ (by omega) (by omega)]; exact h1, by rw [hch _ (by omega) (by omega)]; exact h2, hc, by rw [hch _ (by omega) (by omega)]; exact h4, by rw [hch _ (by omega) (by omega)]; exact h5, by rw [hch _ (by omega) (by omega)]; exact h6, by rw [hch _ (by omega) (by omega)]; exact h7, fun t q => by rw [hch _ (by omega) (by omega)]; exact h8 t q, fun k q => by rw [hch _ (by omega) (by omega), hch _ (by omega) (by omega)]; exact h9 k q, fun k q => by rw [hch _ (by omega) (by omega)]; exact h10 k q⟩
theorem netR_ca {A A' : Nat → Int32} {σ : Net} {n : Nat} {c' : List (List Nat)} (hN : netR A σ) (hs : szN σ) (hn : n < 8) (hch : chC A A' n) (hc : cacheR A' n (dMap (nNd σ n)) c') : netR A' (uNd σ n (xCa (nNd σ n) c')) :=
  netR_nd hN hs hn (ndR_ca (hN.2.1 n hn) (hs.2.2.1 n hn).2.1 (hs.2.2.1 n hn).2.2 hch hc) (fun i hi => hch i (by omega) (by omega))
theorem ndR_nw {A : Nat → Int32} {n : Nat} {x : Nd} {room : Nat} {o : Option (Nat × Nat)} (hx : ndR A n x) (hok : okC (dMap x) room (dCa x)) : ndR (upd A (89 + 86 * n + 5) (lkN o)) n (xNw x o) := by
  obtain ⟨h1, h2, h3, h4, h5, h6, h7, h8, h9, h10⟩ := hx
  exact ⟨by rw [upd_ne _ _ (by omega)]; exact h1, by rw [upd_ne _ _ (by omega)]; exact h2, ⟨by rw [upd_ne _ _ (by omega)]; exact h3.1, fun k hk => entR_eq (h3.2 k hk) (hok.len _ (getD_mem hk)) (fun j hj => upd_ne _ _ (by omega))⟩, by rw [upd_ne _ _ (by omega)]; exact h4, by rw [upd_ne _ _ (by omega)]; exact h5, by rw [upd_at]; rfl, by rw [upd_ne _ _ (by omega)]; exact h7, fun t q => by rw [upd_ne _ _ (by omega)]; exact h8 t q, fun k q => by rw [upd_ne _ _ (by omega), upd_ne _ _ (by omega)]; exact h9 k q, fun k q => by rw [upd_ne _ _ (by omega)]; exact h10 k q⟩
theorem wlk_lt {f : Nat → Nat → Bool} {to : Nat} : ∀ d x, dst f to x = d → d < 8 → ∀ y ∈ wlk f to d x, y < 8
  | 0, _, _, _, y, hy => by simp [wlk] at hy
  | d + 1, x, hd, h8, y, hy => by
    have hq := nxt_spec hd h8
    rcases List.mem_cons.mp hy with rfl | h
    · exact hq.1
    · exact wlk_lt d _ hq.2.2.1 (by omega) y h
theorem wayP_lt {to : Nat} : ∀ (c : List (List Nat)) (w : List Nat), (∀ x ∈ w, x < 8) → (∀ e ∈ c, ∀ x ∈ e, x < 8) → ∀ x ∈ wayP to w c, x < 8
  | [], w, h, _ => h
  | e :: t, w, h, hc => wayP_lt t _ (fun x hx => by
      split at hx
      · exact hc e List.mem_cons_self x (List.mem_of_mem_take hx)
      · exact h x hx) (fun y hy => hc y (List.mem_cons_of_mem _ hy))
theorem wayOf_lt {mp : Bool} {room hops n to : Nat} {c : List (List Nat)} (hok : okC mp room c) (hn : n < 8) (hh : hops ≤ 7) : ∀ x ∈ wayOf mp hops c n to, x < 8 := by
  intro x hx
  unfold wayOf at hx
  split at hx
  · simp at hx
  · split at hx
    · unfold wayM at hx
      split at hx
      · rcases List.mem_cons.mp hx with rfl | h
        · exact hn
        · rcases dst_99 (f := kn c) (to := to) (x := n) with q | q
          · exact wlk_lt _ _ rfl q x h
          · rename_i h1 h2 h3
            omega
      · simp at hx
    · exact wayP_lt c [] (by simp) (fun e he => (hok.1 e he).2.2.1) x hx
section REF
variable {G : Gc} {S : St} {h : Nat}
set_option maxRecDepth 100000 in
set_option maxHeartbeats 4000000 in
theorem l_movesOn (hR : RLay G h) (hF : RRef S h) {E : Ev} (hB : Bd G E mX12_movesOn) {Q : Option Value → St → Prop} (σ : Net) (hN : netR (S.1 (h + 1)) σ) (hs : szN σ) (d : Nat) (hd : d < (nDa σ).length) (y : Nat) (ht : (aTr (dat σ d)).length < 8) (hr : 1 ≤ (aRe (dat σ d)).length) (kk : ∀ v, X G E mX12_movesOn 1 Q (rowI S (h + 1) (wrL (upd (upd (S.1 (h + 1)) (1417 + 26 * d + (10 + (aTr (dat σ d)).length)) (nI y)) (1417 + 26 * d + 4) (nI ((aTr (dat σ d)).length + 1))) (1417 + 26 * d + 18) (aRe (dat σ d)).tail ((aRe (dat σ d)).length - 1))) 74 [some (.ref h), some (.int (nI d)), some (.int (nI y)), some (.int (nI (aTr (dat σ d)).length)), some (.int (nI ((aRe (dat σ d)).length - 1))), some (.int v)] []) :
    ∀ (k i : Nat), i + k = (aRe (dat σ d)).length - 1 → X G E mX12_movesOn 1 Q (rowI S (h + 1) (wrL (upd (upd (S.1 (h + 1)) (1417 + 26 * d + (10 + (aTr (dat σ d)).length)) (nI y)) (1417 + 26 * d + 4) (nI ((aTr (dat σ d)).length + 1))) (1417 + 26 * d + 18) (aRe (dat σ d)).tail (i))) 39 [some (.ref h), some (.int (nI d)), some (.int (nI y)), some (.int (nI (aTr (dat σ d)).length)), some (.int (nI ((aRe (dat σ d)).length - 1))), some (.int (nI i))] [] := by
  have hd40 := hs.2.1
  have hl := dat_len hs hd
  have hx := hN.2.2.2 d hd
  intro k
  induction k with
  | zero =>
    intro i h1
    refine X_iload hB dX12_movesOn_39 rfl ?_
    refine X_iload hB dX12_movesOn_41 rfl ?_
    refine X_icmp_ge (tgt := 74) hB dX12_movesOn_43 (by decide) (fun c43 => ?_) (fun c43 => absurd c43 (by simp (disch := omega) only [nlit, nI_leI, nI_ltI]; omega))
    have e9 : i = (aRe (dat σ d)).length - 1 := by omega
    rw [e9]
    exact kk _
  | succ k ih =>
    intro i h1
    refine X_iload hB dX12_movesOn_39 rfl ?_
    refine X_iload hB dX12_movesOn_41 rfl ?_
    refine X_icmp_ge (tgt := 74) hB dX12_movesOn_43 (by decide) (fun c43 => absurd c43 (by simp (disch := omega) only [nlit, nI_leI, nI_ltI]; omega)) (fun c43 => ?_)
    refine X_aload_n (i := 0) hB dX12_movesOn_46 rfl rfl ?_
    refine X_iload_n (i := 1) hB dX12_movesOn_47 rfl rfl ?_
    refine X_bipush (v := 18) hB dX12_movesOn_48 (by decide) ?_
    refine X_iload hB dX12_movesOn_50 rfl ?_
    refine X_iadd hB dX12_movesOn_52 ?_
    refine X_aload_n (i := 0) hB dX12_movesOn_53 rfl rfl ?_
    refine X_iload_n (i := 1) hB dX12_movesOn_54 rfl rfl ?_
    refine X_bipush (v := 18) hB dX12_movesOn_55 (by decide) ?_
    refine X_iload hB dX12_movesOn_57 rfl ?_
    refine X_iadd hB dX12_movesOn_59 ?_
    refine X_iconst (v := 1) hB dX12_movesOn_60 (by decide) ?_
    refine X_iadd hB dX12_movesOn_61 ?_
    refine X_callV hB kX12_246 cw10 hR.1.1 hR.1.2 (c_ofDE (w := 18 + i + 1) hR (by exact hF.of rfl) rfl (by first | rfl | (simp (disch := omega) only [nlit, nI_add, nI_mul, nI_sub]; done) | (simp (disch := omega) only [nlit, nI_add, nI_mul, nI_sub]; (congr 1 <;> omega))) (by omega) (by omega)) (by decide) (by decide) rfl rfl (Nat.le_of_ble_eq_true rfl) dX12_movesOn_62 (fun r62 S62 q62 => ?_)
    obtain ⟨rfl, rfl⟩ := q62
    refine X_topi (y := nI ((aRe (dat σ d)).tail.getD i 0)) (by rw [rowI_at, wrL_out (by omega), upd_ne _ _ (by omega), upd_ne _ _ (by omega), show 1417 + 26 * d + (18 + i + 1) = 1417 + 26 * d + (18 + (i + 1)) by omega, hx.2.2.2.2.2.2.2.2.2.2.2 (i + 1) (by omega)]; congr 1; simp [List.getElem?_tail]) ?_
    refine X_callV hB kX12_243 cw10 hR.1.1 hR.1.2 (c_layDE (w := 18 + i) hR (by exact hF.of rfl) rfl (by first | rfl | (simp (disch := omega) only [nlit, nI_add, nI_mul, nI_sub]; done) | (simp (disch := omega) only [nlit, nI_add, nI_mul, nI_sub]; (congr 1 <;> omega))) (by omega) (by omega)) (by decide) (by decide) rfl rfl (Nat.le_of_ble_eq_true rfl) dX12_movesOn_65 (fun r65 S65 q65 => ?_)
    obtain ⟨rfl, rfl⟩ := q65
    refine X_iinc hB dX12_movesOn_68 rfl rfl (by decide) rfl ?_
    refine X_goto (tgt := 39) hB dX12_movesOn_71 (by decide) ?_
    refine X_S (S' := (rowI S (h + 1) (wrL (upd (upd (S.1 (h + 1)) (1417 + 26 * d + (10 + (aTr (dat σ d)).length)) (nI y)) (1417 + 26 * d + 4) (nI ((aTr (dat σ d)).length + 1))) (1417 + 26 * d + 18) (aRe (dat σ d)).tail (i + 1)))) ?_ (X_lv ?_ (ih (i + 1) (by omega)))
    · rw [setI_rowI, rowI_rowI, rowI_at, show 1417 + 26 * d + (18 + i) = 1417 + 26 * d + 18 + i by omega, wrL_step]
    · rw [nI_succ]; rfl
set_option maxRecDepth 100000 in
set_option maxHeartbeats 4000000 in
theorem c_movesOn (hR : RLay G h) (hF : RRef S h) (σ : Net) (hN : netR (S.1 (h + 1)) σ) (hs : szN σ) (d : Nat) (hd : d < (nDa σ).length) (y : Nat) (ht : (aTr (dat σ d)).length < 8) (hr : 1 ≤ (aRe (dat σ d)).length) : C G mX12_movesOn 1 [.ref h, .int (nI d), .int (nI y)] S (fun r S' => r = none ∧ fr h [h + 1] [] S S' ∧ netR (S'.1 (h + 1)) (uDa σ d (dRe (dTr (dat σ d) ((aTr (dat σ d)) ++ [y])) (aRe (dat σ d)).tail))) := by
  have hd40 := hs.2.1
  have hl := dat_len hs hd
  have hx := hN.2.2.2 d hd
  refine C.mk (lv := [some (.ref h), some (.int (nI d)), some (.int (nI y)), none, none, none]) (by decide) (Nat.le_of_ble_eq_true rfl) rfl (fun E hB => ?_)
  refine X_aload_n (i := 0) hB dX12_movesOn_0 rfl rfl ?_
  refine X_iload_n (i := 1) hB dX12_movesOn_1 rfl rfl ?_
  refine X_iconst (v := 4) hB dX12_movesOn_2 (by decide) ?_
  refine X_callV hB kX12_246 cw10 hR.1.1 hR.1.2 (c_ofDE (w := 4) hR (by exact hF.of rfl) rfl (by first | rfl | (simp (disch := omega) only [nlit, nI_add, nI_mul, nI_sub]; done) | (simp (disch := omega) only [nlit, nI_add, nI_mul, nI_sub]; (congr 1 <;> omega))) (by omega) (by omega)) (by decide) (by decide) rfl rfl (Nat.le_of_ble_eq_true rfl) dX12_movesOn_3 (fun r3 S3 q3 => ?_)
  obtain ⟨rfl, rfl⟩ := q3
  refine X_topi (y := nI (aTr (dat σ d)).length) (hx.2.2.2.2.1) ?_
  refine X_istore_n (i := 3) hB dX12_movesOn_6 rfl (by decide) rfl ?_
  refine X_aload_n (i := 0) hB dX12_movesOn_7 rfl rfl ?_
  refine X_iload_n (i := 1) hB dX12_movesOn_8 rfl rfl ?_
  refine X_bipush (v := 10) hB dX12_movesOn_9 (by decide) ?_
  refine X_iload_n (i := 3) hB dX12_movesOn_11 rfl rfl ?_
  refine X_iadd hB dX12_movesOn_12 ?_
  refine X_iload_n (i := 2) hB dX12_movesOn_13 rfl rfl ?_
  refine X_callV hB kX12_243 cw10 hR.1.1 hR.1.2 (c_layDE (w := 10 + (aTr (dat σ d)).length) hR (by exact hF.of rfl) rfl (by first | rfl | (simp (disch := omega) only [nlit, nI_add, nI_mul, nI_sub]; done) | (simp (disch := omega) only [nlit, nI_add, nI_mul, nI_sub]; (congr 1 <;> omega))) (by omega) (by omega)) (by decide) (by decide) rfl rfl (Nat.le_of_ble_eq_true rfl) dX12_movesOn_14 (fun r14 S14 q14 => ?_)
  obtain ⟨rfl, rfl⟩ := q14
  rw [setI_rowI]
  refine X_aload_n (i := 0) hB dX12_movesOn_17 rfl rfl ?_
  refine X_iload_n (i := 1) hB dX12_movesOn_18 rfl rfl ?_
  refine X_iconst (v := 4) hB dX12_movesOn_19 (by decide) ?_
  refine X_iload_n (i := 3) hB dX12_movesOn_20 rfl rfl ?_
  refine X_iconst (v := 1) hB dX12_movesOn_21 (by decide) ?_
  refine X_iadd hB dX12_movesOn_22 ?_
  refine X_topi (y := nI ((aTr (dat σ d)).length + 1)) (by first | rfl | (simp (disch := omega) only [nlit, nI_add, nI_mul, nI_sub]; done) | (simp (disch := omega) only [nlit, nI_add, nI_mul, nI_sub]; (congr 1 <;> omega))) ?_
  refine X_callV hB kX12_243 cw10 hR.1.1 hR.1.2 (c_layDE (w := 4) hR (by exact hF.of rfl) rfl (by first | rfl | (simp (disch := omega) only [nlit, nI_add, nI_mul, nI_sub]; done) | (simp (disch := omega) only [nlit, nI_add, nI_mul, nI_sub]; (congr 1 <;> omega))) (by omega) (by omega)) (by decide) (by decide) rfl rfl (Nat.le_of_ble_eq_true rfl) dX12_movesOn_23 (fun r23 S23 q23 => ?_)
  obtain ⟨rfl, rfl⟩ := q23
  rw [setI_rowI, rowI_rowI, rowI_at]
  refine X_aload_n (i := 0) hB dX12_movesOn_26 rfl rfl ?_
  refine X_iload_n (i := 1) hB dX12_movesOn_27 rfl rfl ?_
  refine X_iconst (v := 5) hB dX12_movesOn_28 (by decide) ?_
  refine X_callV hB kX12_246 cw10 hR.1.1 hR.1.2 (c_ofDE (w := 5) hR (by exact hF.of rfl) rfl (by first | rfl | (simp (disch := omega) only [nlit, nI_add, nI_mul, nI_sub]; done) | (simp (disch := omega) only [nlit, nI_add, nI_mul, nI_sub]; (congr 1 <;> omega))) (by omega) (by omega)) (by decide) (by decide) rfl rfl (Nat.le_of_ble_eq_true rfl) dX12_movesOn_29 (fun r29 S29 q29 => ?_)
  obtain ⟨rfl, rfl⟩ := q29
  refine X_topi (y := nI (aRe (dat σ d)).length) (by rw [rowI_at, upd_ne _ _ (by omega), upd_ne _ _ (by omega)]; exact hx.2.2.2.2.2.1) ?_
  refine X_iconst (v := 1) hB dX12_movesOn_32 (by decide) ?_
  refine X_isub hB dX12_movesOn_33 ?_
  refine X_topi (y := nI ((aRe (dat σ d)).length - 1)) (by first | rfl | (simp (disch := omega) only [nlit, nI_add, nI_mul, nI_sub]; done) | (simp (disch := omega) only [nlit, nI_add, nI_mul, nI_sub]; (congr 1 <;> omega))) ?_
  refine X_istore hB dX12_movesOn_34 (by decide) rfl ?_
  refine X_iconst (v := 0) hB dX12_movesOn_36 (by decide) ?_
  refine X_istore hB dX12_movesOn_37 (by decide) rfl ?_
  refine X_S (S' := (rowI S (h + 1) (wrL (upd (upd (S.1 (h + 1)) (1417 + 26 * d + (10 + (aTr (dat σ d)).length)) (nI y)) (1417 + 26 * d + 4) (nI ((aTr (dat σ d)).length + 1))) (1417 + 26 * d + 18) (aRe (dat σ d)).tail (0)))) (by rw [wrL_0]) (X_lv ?_ (l_movesOn hR hF hB σ hN hs d hd y ht hr (fun v9 => ?_) ((aRe (dat σ d)).length - 1) 0 (by omega)))
  · rw [nI_0]; rfl
  refine X_aload_n (i := 0) hB dX12_movesOn_74 rfl rfl ?_
  refine X_iload_n (i := 1) hB dX12_movesOn_75 rfl rfl ?_
  refine X_iconst (v := 5) hB dX12_movesOn_76 (by decide) ?_
  refine X_iload hB dX12_movesOn_77 rfl ?_
  refine X_callV hB kX12_243 cw10 hR.1.1 hR.1.2 (c_layDE (w := 5) hR (by exact hF.of rfl) rfl (by first | rfl | (simp (disch := omega) only [nlit, nI_add, nI_mul, nI_sub]; done) | (simp (disch := omega) only [nlit, nI_add, nI_mul, nI_sub]; (congr 1 <;> omega))) (by omega) (by omega)) (by decide) (by decide) rfl rfl (Nat.le_of_ble_eq_true rfl) dX12_movesOn_79 (fun r79 S79 q79 => ?_)
  obtain ⟨rfl, rfl⟩ := q79
  rw [setI_rowI, rowI_rowI, rowI_at]
  refine X_vret hB rfl dX12_movesOn_82 ?_
  refine ⟨rfl, fr.row (by simp) (by omega), ?_⟩
  rw [rowI_at]
  have hl2 := hl.2
  refine netR_da hN hs hd ?_ (fun i hi => by rw [upd_ne _ _ (by omega), wrL_out (by omega), upd_ne _ _ (by omega), upd_ne _ _ (by omega)])
  obtain ⟨g1, g2, g3, g4, g5, g6, g7, g8, g9, g10, g11, g12⟩ := hx
  have hne : ∀ i, i < 1417 + 26 * d + 18 → i ≠ 1417 + 26 * d + 5 → i ≠ 1417 + 26 * d + (10 + (aTr (dat σ d)).length) → i ≠ 1417 + 26 * d + 4 → upd (wrL (upd (upd (S.1 (h + 1)) (1417 + 26 * d + (10 + (aTr (dat σ d)).length)) (nI y)) (1417 + 26 * d + 4) (nI ((aTr (dat σ d)).length + 1))) (1417 + 26 * d + 18) (aRe (dat σ d)).tail ((aRe (dat σ d)).length - 1)) (1417 + 26 * d + 5) (nI ((aRe (dat σ d)).length - 1)) i = S.1 (h + 1) i := fun i q1 q2 q3 q4 => by rw [upd_ne _ _ q2, wrL_out (by omega), upd_ne _ _ q4, upd_ne _ _ q3]
  refine ⟨by rw [hne _ (by omega) (by omega) (by omega) (by omega)]; exact g1, by rw [hne _ (by omega) (by omega) (by omega) (by omega)]; exact g2, by rw [hne _ (by omega) (by omega) (by omega) (by omega)]; exact g3, by rw [hne _ (by omega) (by omega) (by omega) (by omega)]; exact g4, ?_, ?_, by rw [hne _ (by omega) (by omega) (by omega) (by omega)]; exact g7, by rw [hne _ (by omega) (by omega) (by omega) (by omega)]; exact g8, by rw [hne _ (by omega) (by omega) (by omega) (by omega)]; exact g9, fun q => by rw [hne _ (by omega) (by omega) (by omega) (by omega)]; exact g10 q, fun i q => ?_, fun i q => ?_⟩
  · rw [upd_ne _ _ (by omega), wrL_out (by omega), upd_at]; simp [aTr, dTr, dRe]
  · rw [upd_at]; simp [aRe, dRe]
  · have q2 : i < (aTr (dat σ d)).length + 1 := by simpa [aTr, dTr, dRe] using q
    by_cases e : i = (aTr (dat σ d)).length
    · subst e; rw [upd_ne _ _ (by omega), wrL_out (by omega), upd_ne _ _ (by omega), upd_at]; simp [aTr, dTr, dRe]
    · have q3 : i < (aTr (dat σ d)).length := by omega
      rw [hne _ (by omega) (by omega) (by omega) (by omega), g11 i q3]
      show _ = nI (((aTr (dat σ d)) ++ [y]).getD i 0)
      rw [getD_app q3]
  · have q2 : i < (aRe (dat σ d)).length - 1 := by simpa [aRe, dRe] using q
    rw [upd_ne _ _ (by omega), wrL_in (by omega), show 1417 + 26 * d + (18 + i) - (1417 + 26 * d + 18) = i by omega]; rfl
end REF
