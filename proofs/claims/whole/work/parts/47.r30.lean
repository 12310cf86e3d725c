def xAkO (x : Nd) (t : Nat) : Nd := (x.1, x.2.1, x.2.2.1, x.2.2.2.1, x.2.2.2.2.1, x.2.2.2.2.2.1, x.2.2.2.2.2.2.1, fun u => if u = t then none else x.2.2.2.2.2.2.2 u)
def needB (σ : Net) (n t : Nat) : Bool := (dBu (nNd σ n)).any (fun d => decide (aEn (dat σ d) = t))
def askStep (n t : Nat) (σ : Net) : Net := match dAk (nNd σ n) t with
  | none => σ
  | some s => if needB σ n t then (if nSe σ 6 ≤ nNow σ - s then ask σ n t else σ) else uNd σ n (xAkO (nNd σ n) t)
def askOnN (σ : Net) (n : Nat) : Net := iterN (askStep n) (nSe σ 0) σ
theorem ndR_ako {A : Nat → Int32} {n t : Nat} {x : Nd} {room : Nat} (hx : ndR A n x) (hok : okC (dMap x) room (dCa x)) (ht8 : t < 8) : ndR (upd A (89 + 86 * n + (7 + t)) (-1)) n (xAkO x t) := by
  obtain ⟨h1, h2, h3, h4, h5, h6, h7, h8, h9, h10⟩ := hx
  refine ⟨by rw [upd_ne _ _ (by omega)]; exact h1, by rw [upd_ne _ _ (by omega)]; exact h2, ⟨by rw [upd_ne _ _ (by omega)]; exact h3.1, fun k hk => entR_eq (h3.2 k hk) (hok.len _ (getD_mem hk)) (fun j hj => upd_ne _ _ (by omega))⟩, by rw [upd_ne _ _ (by omega)]; exact h4, by rw [upd_ne _ _ (by omega)]; exact h5, by rw [upd_ne _ _ (by omega)]; exact h6, by rw [upd_ne _ _ (by omega)]; exact h7, fun u q => ?_, fun k q => by rw [upd_ne _ _ (by omega), upd_ne _ _ (by omega)]; exact h9 k q, fun k q => by rw [upd_ne _ _ (by omega)]; exact h10 k q⟩
  by_cases e : u = t
  · subst e; rw [upd_at]; simp [dAk, xAkO, akN]
  · rw [upd_ne _ _ (by omega), h8 u q]; simp [dAk, xAkO, e]
section REF
variable {G : Gc} {S : St} {h : Nat}
set_option maxRecDepth 100000 in
set_option maxHeartbeats 4000000 in
theorem l_waitsFor (hR : RLay G h) (hF : RRef S h) {E : Ev} (hB : Bd G E mX12_waitsFor) {Q : Option Value → St → Prop} (σ : Net) (hN : netR (S.1 (h + 1)) σ) (hs : szN σ) (n t : Nat) (hn : n < 8) (ht : t < 8) (hbu : ∀ d ∈ (dBu (nNd σ n)), d < (nDa σ).length ∧ aEn (dat σ d) < 8) (k1 : needB σ n t = true → Q (some (.int 1)) S) (k0 : needB σ n t = false → Q (some (.int 0)) S) :
    ∀ (k i : Nat), i + k = (dBu (nNd σ n)).length → (∀ j, j < i → aEn (dat σ ((dBu (nNd σ n)).getD j 0)) ≠ t) → X G E mX12_waitsFor 1 Q S 2 [some (.ref h), some (.int (nI n)), some (.int (nI t)), some (.int (nI i))] [] := by
  have hx := hN.2.1 n hn
  have hb4 := (hs.2.2.1 n hn).2.2
  have hd40 := hs.2.1
  intro k
  induction k with
  | zero =>
    intro i h1 h2
    refine X_iload_n (i := 3) hB dX12_waitsFor_2 rfl rfl ?_
    refine X_aload_n (i := 0) hB dX12_waitsFor_3 rfl rfl ?_
    refine X_iload_n (i := 1) hB dX12_waitsFor_4 rfl rfl ?_
    refine X_iconst (v := 3) hB dX12_waitsFor_5 (by decide) ?_
    refine X_callV hB kX12_180 cw10 hR.1.1 hR.1.2 (c_ofE (w := 3) hR (by exact hF.of rfl) rfl (by first | rfl | (simp (disch := omega) only [nlit, nI_add, nI_mul, nI_sub]; done) | (simp (disch := omega) only [nlit, nI_add, nI_mul, nI_sub]; (congr 1 <;> omega))) (by omega) (by omega)) (by decide) (by decide) rfl rfl (Nat.le_of_ble_eq_true rfl) dX12_waitsFor_6 (fun r6 S6 q6 => ?_)
    obtain ⟨rfl, rfl⟩ := q6
    refine X_topi (y := nI (dBu (nNd σ n)).length) (hx.2.2.2.1) ?_
    refine X_icmp_ge (tgt := 38) hB dX12_waitsFor_9 (by decide) (fun c9 => ?_) (fun c9 => absurd c9 (by simp (disch := omega) only [nlit, nI_leI, nI_ltI]; omega))
    refine X_iconst (v := 0) hB dX12_waitsFor_38 (by decide) ?_
    refine X_zret hB rfl (by first | exact Or.inl rfl | exact Or.inr rfl) dX12_waitsFor_39 ?_
    refine k0 ?_
    unfold needB
    rw [List.any_eq_false]
    intro d hd
    obtain ⟨j, hj, e⟩ := List.mem_iff_getElem.mp hd
    have := h2 j (by omega)
    rw [getD_lt hj, e] at this
    simpa using this
  | succ k ih =>
    intro i h1 h2
    have hq := hbu _ (getD_mem (d := 0) (show i < (dBu (nNd σ n)).length by omega))
    refine X_iload_n (i := 3) hB dX12_waitsFor_2 rfl rfl ?_
    refine X_aload_n (i := 0) hB dX12_waitsFor_3 rfl rfl ?_
    refine X_iload_n (i := 1) hB dX12_waitsFor_4 rfl rfl ?_
    refine X_iconst (v := 3) hB dX12_waitsFor_5 (by decide) ?_
    refine X_callV hB kX12_180 cw10 hR.1.1 hR.1.2 (c_ofE (w := 3) hR (by exact hF.of rfl) rfl (by first | rfl | (simp (disch := omega) only [nlit, nI_add, nI_mul, nI_sub]; done) | (simp (disch := omega) only [nlit, nI_add, nI_mul, nI_sub]; (congr 1 <;> omega))) (by omega) (by omega)) (by decide) (by decide) rfl rfl (Nat.le_of_ble_eq_true rfl) dX12_waitsFor_6 (fun r6 S6 q6 => ?_)
    obtain ⟨rfl, rfl⟩ := q6
    refine X_topi (y := nI (dBu (nNd σ n)).length) (hx.2.2.2.1) ?_
    refine X_icmp_ge (tgt := 38) hB dX12_waitsFor_9 (by decide) (fun c9 => absurd c9 (by simp (disch := omega) only [nlit, nI_leI, nI_ltI]; omega)) (fun c9 => ?_)
    refine X_aload_n (i := 0) hB dX12_waitsFor_12 rfl rfl ?_
    refine X_aload_n (i := 0) hB dX12_waitsFor_13 rfl rfl ?_
    refine X_iload_n (i := 1) hB dX12_waitsFor_14 rfl rfl ?_
    refine X_bipush (v := 81) hB dX12_waitsFor_15 (by decide) ?_
    refine X_iload_n (i := 3) hB dX12_waitsFor_17 rfl rfl ?_
    refine X_iadd hB dX12_waitsFor_18 ?_
    refine X_callV hB kX12_180 cw10 hR.1.1 hR.1.2 (c_ofE (w := 81 + i) hR (by exact hF.of rfl) rfl (by first | rfl | (simp (disch := omega) only [nlit, nI_add, nI_mul, nI_sub]; done) | (simp (disch := omega) only [nlit, nI_add, nI_mul, nI_sub]; (congr 1 <;> omega))) (by omega) (by omega)) (by decide) (by decide) rfl rfl (Nat.le_of_ble_eq_true rfl) dX12_waitsFor_19 (fun r19 S19 q19 => ?_)
    obtain ⟨rfl, rfl⟩ := q19
    refine X_topi (y := nI ((dBu (nNd σ n)).getD i 0)) (hx.2.2.2.2.2.2.2.2.2 i (by omega)) ?_
    refine X_iconst (v := 1) hB dX12_waitsFor_22 (by decide) ?_
    refine X_callV hB kX12_246 cw10 hR.1.1 hR.1.2 (c_ofDE (n := (dBu (nNd σ n)).getD i 0) (w := 1) hR (by exact hF.of rfl) rfl rfl (by omega) (by omega)) (by decide) (by decide) rfl rfl (Nat.le_of_ble_eq_true rfl) dX12_waitsFor_23 (fun r23 S23 q23 => ?_)
    obtain ⟨rfl, rfl⟩ := q23
    refine X_topi (y := nI (aEn (dat σ ((dBu (nNd σ n)).getD i 0)))) ((hN.2.2.2 _ hq.1).2.1) ?_
    refine X_iload_n (i := 2) hB dX12_waitsFor_26 rfl rfl ?_
    refine X_icmp_ne (tgt := 32) hB dX12_waitsFor_27 (by decide) (fun c27 => ?_) (fun c27 => ?_)
    · refine X_iinc hB dX12_waitsFor_32 rfl rfl (by decide) rfl ?_
      refine X_goto (tgt := 2) hB dX12_waitsFor_35 (by decide) ?_
      refine X_lv ?_ (ih (i + 1) (by omega) (fun j hj => ?_))
      · rw [nI_succ]; rfl
      · rcases Nat.lt_succ_iff_lt_or_eq.mp hj with hj | hj
        · exact h2 j hj
        · rw [hj]; exact fun q => c27 (by rw [q])
    · refine X_iconst (v := 1) hB dX12_waitsFor_30 (by decide) ?_
      refine X_zret hB rfl (by first | exact Or.inl rfl | exact Or.inr rfl) dX12_waitsFor_31 ?_
      have e9 : aEn (dat σ ((dBu (nNd σ n)).getD i 0)) = t := i32_inj (by omega) (by omega) (by first | exact c27 | exact Decidable.not_not.mp c27)
      refine k1 ?_
      unfold needB
      rw [List.any_eq_true]
      exact ⟨_, getD_mem (d := 0) (show i < (dBu (nNd σ n)).length by omega), by simpa using e9⟩
set_option maxRecDepth 100000 in
set_option maxHeartbeats 4000000 in
theorem c_waitsFor (hR : RLay G h) (hF : RRef S h) (σ : Net) (hN : netR (S.1 (h + 1)) σ) (hs : szN σ) (n t : Nat) (hn : n < 8) (ht : t < 8) (hbu : ∀ d ∈ (dBu (nNd σ n)), d < (nDa σ).length ∧ aEn (dat σ d) < 8) : C G mX12_waitsFor 1 [.ref h, .int (nI n), .int (nI t)] S (fun r S' => r = some (.int (if needB σ n t then 1 else 0)) ∧ S = S') := by
  refine C.mk (lv := [some (.ref h), some (.int (nI n)), some (.int (nI t)), none]) (by decide) (Nat.le_of_ble_eq_true rfl) rfl (fun E hB => ?_)
  refine X_iconst (v := 0) hB dX12_waitsFor_0 (by decide) ?_
  refine X_istore_n (i := 3) hB dX12_waitsFor_1 rfl (by decide) rfl ?_
  exact X_lv (by rw [nI_0]; rfl) (l_waitsFor hR hF hB σ hN hs n t hn ht hbu (fun q => ⟨by rw [if_pos q], rfl⟩) (fun q => ⟨by rw [if_neg (by rw [q]; decide)], rfl⟩) (dBu (nNd σ n)).length 0 (by omega) (fun j hj => by omega))
def aaI (σ0 σ : Net) (n : Nat) : Prop := szN σ ∧ nSe σ = nSe σ0 ∧ nNow σ = nNow σ0 ∧ nDa σ = nDa σ0 ∧ (∀ d ∈ dBu (nNd σ n), d < (nDa σ0).length ∧ aEn (dat σ0 d) < 8) ∧ ∀ t s, dAk (nNd σ n) t = some s → s ≤ nNow σ0
theorem aaI_ask {σ0 σ : Net} {n t : Nat} (hn : n < 8) (h : aaI σ0 σ n) : aaI σ0 (ask σ n t) n := by
  obtain ⟨h1, h2, h3, h4, h5, h6⟩ := h
  have hsn := h1.2.2.1 n hn
  have hnn : nNd (ask σ n t) n = xAsk (nNd σ n) t (nNow σ) := by
    unfold ask; rw [nd_send]; simp only [nNd, uNd, if_true]
  refine ⟨szN_send (szN_nd h1 hsn.1 hsn.2.1 hsn.2.2) (by show 1 ≤ 8; omega), (kpD_send (d := 0)).1.trans h2, (kpD_send (d := 0)).2.1.trans h3, dat_send.trans h4, by rw [hnn]; exact h5, fun u s hs => ?_⟩
  rw [hnn] at hs
  simp only [dAk, xAsk] at hs
  split at hs
  · cases hs; rw [h3]; exact Nat.le_refl _
  · exact h6 u s hs
theorem aaI_off {σ0 σ : Net} {n t : Nat} (hn : n < 8) (h : aaI σ0 σ n) : aaI σ0 (uNd σ n (xAkO (nNd σ n) t)) n := by
  obtain ⟨h1, h2, h3, h4, h5, h6⟩ := h
  have hsn := h1.2.2.1 n hn
  refine ⟨szN_nd h1 hsn.1 hsn.2.1 hsn.2.2, h2, h3, h4, by simp only [nNd, uNd, if_true]; exact h5, fun u s hs => ?_⟩
  simp only [nNd, uNd, if_true, dAk, xAkO] at hs
  split at hs
  · cases hs
  · exact h6 u s hs
set_option maxRecDepth 100000 in
set_option maxHeartbeats 4000000 in
theorem l_asksAgain (hR : RLay G h) (hF : RRef S h) {E : Ev} (hB : Bd G E mX12_asksAgain) {Q : Option Value → St → Prop} (σ0 : Net) (hse : seOk (nSe σ0)) (hnow : nNow σ0 ≤ 1000) (n : Nat) (hn : n < 8) (kk : ∀ S2, fr h [h + 1, h + 11] [] S S2 → netR (S2.1 (h + 1)) (askOnN σ0 n) → Q none S2) :
    ∀ (k t : Nat) (S1 : St), t + k = nSe σ0 0 → fr h [h + 1, h + 11] [] S S1 → netR (S1.1 (h + 1)) (iterN (askStep n) t σ0) → aaI σ0 (iterN (askStep n) t σ0) n → X G E mX12_asksAgain 3 Q S1 2 [some (.ref h), some (.int (nI n)), some (.int (nI t)), none] [] := by
  have hc8 := hse.1.2
  intro k
  induction k with
  | zero =>
    intro t S1 h1 hfr hN1 hI
    refine X_iload_n (i := 2) hB dX12_asksAgain_2 rfl rfl ?_
    refine X_aload_n (i := 0) hB dX12_asksAgain_3 rfl rfl ?_
    refine X_getr hB cw10 fX12_7 rfl hR.1.1 hR.1.2 (hfr.ref hF).1 dX12_asksAgain_4 ?_
    refine X_iconst (v := 0) hB dX12_asksAgain_7 (by decide) ?_
    refine X_ialdN hB (0) hR.2.1.1 hR.2.1.2 (by decide) (by first | rfl | (simp (disch := omega) only [nlit, nI_add, nI_mul, nI_sub]; done) | (simp (disch := omega) only [nlit, nI_add, nI_mul, nI_sub]; (congr 1 <;> omega))) (by first | omega | (simp only []; omega)) (show _ = nI (nSe σ0 0) by rw [hN1.1.1 0 (by decide), hI.2.1]) dX12_asksAgain_8 ?_
    refine X_icmp_ge (tgt := 83) hB dX12_asksAgain_9 (by decide) (fun c9 => ?_) (fun c9 => absurd c9 (by simp (disch := omega) only [nlit, nI_leI, nI_ltI]; omega))
    refine X_vret hB rfl dX12_asksAgain_83 ?_
    have e9 : t = nSe σ0 0 := by omega
    subst e9
    exact kk S1 hfr hN1
  | succ k ih =>
    intro t S1 h1 hfr hN1 hI
    generalize hσz : iterN (askStep n) t σ0 = σ at hN1 hI
    have hstep : iterN (askStep n) (t + 1) σ0 = askStep n t σ := by rw [← hσz]; rfl
    obtain ⟨hs, i2, i3, i4, i5, i6⟩ := id hI
    have ht8 : t < 8 := by omega
    have hF1 := hfr.ref hF
    have hx := hN1.2.1 n hn
    refine X_iload_n (i := 2) hB dX12_asksAgain_2 rfl rfl ?_
    refine X_aload_n (i := 0) hB dX12_asksAgain_3 rfl rfl ?_
    refine X_getr hB cw10 fX12_7 rfl hR.1.1 hR.1.2 (hfr.ref hF).1 dX12_asksAgain_4 ?_
    refine X_iconst (v := 0) hB dX12_asksAgain_7 (by decide) ?_
    refine X_ialdN hB (0) hR.2.1.1 hR.2.1.2 (by decide) (by first | rfl | (simp (disch := omega) only [nlit, nI_add, nI_mul, nI_sub]; done) | (simp (disch := omega) only [nlit, nI_add, nI_mul, nI_sub]; (congr 1 <;> omega))) (by first | omega | (simp only []; omega)) (show _ = nI (nSe σ0 0) by rw [hN1.1.1 0 (by decide), i2]) dX12_asksAgain_8 ?_
    refine X_icmp_ge (tgt := 83) hB dX12_asksAgain_9 (by decide) (fun c9 => absurd c9 (by simp (disch := omega) only [nlit, nI_leI, nI_ltI]; omega)) (fun c9 => ?_)
    refine X_aload_n (i := 0) hB dX12_asksAgain_12 rfl rfl ?_
    refine X_iload_n (i := 1) hB dX12_asksAgain_13 rfl rfl ?_
    refine X_bipush (v := 7) hB dX12_asksAgain_14 (by decide) ?_
    refine X_iload_n (i := 2) hB dX12_asksAgain_16 rfl rfl ?_
    refine X_iadd hB dX12_asksAgain_17 ?_
    refine X_callV hB kX12_180 cw10 hR.1.1 hR.1.2 (c_ofE (w := 7 + t) hR hF1 rfl (by first | rfl | (simp (disch := omega) only [nlit, nI_add, nI_mul, nI_sub]; done) | (simp (disch := omega) only [nlit, nI_add, nI_mul, nI_sub]; (congr 1 <;> omega))) (by omega) (by omega)) (by decide) (by decide) rfl rfl (Nat.le_of_ble_eq_true rfl) dX12_asksAgain_18 (fun r18 S18 q18 => ?_)
    obtain ⟨rfl, rfl⟩ := q18
    refine X_topi (y := akN (dAk (nNd σ n) t)) (hx.2.2.2.2.2.2.2.1 t ht8) ?_
    refine X_istore_n (i := 3) hB dX12_asksAgain_21 rfl (by decide) rfl ?_
    refine X_iload_n (i := 3) hB dX12_asksAgain_22 rfl rfl ?_
    refine X_iconst (v := (-1)) hB dX12_asksAgain_23 (by decide) ?_
    refine X_icmp_ne (tgt := 30) hB dX12_asksAgain_24 (by decide) (fun c24 => ?_) (fun c24 => ?_)
    · obtain ⟨s, hak⟩ : ∃ s, dAk (nNd σ n) t = some s := by
        cases hq : dAk (nNd σ n) t with
        | none => rw [hq] at c24; exact absurd rfl c24
        | some s => exact ⟨s, rfl⟩
      have hsn := i6 t s hak
      rw [show akN (dAk (nNd σ n) t) = nI s by rw [hak]; rfl]
      refine X_aload_n (i := 0) hB dX12_asksAgain_30 rfl rfl ?_
      refine X_iload_n (i := 1) hB dX12_asksAgain_31 rfl rfl ?_
      refine X_iload_n (i := 2) hB dX12_asksAgain_32 rfl rfl ?_
      refine X_callV hB kX12_361 cw10 hR.1.1 hR.1.2 (c_waitsFor hR hF1 σ hN1 hs n t hn ht8 (fun d hd => by have := i5 d hd; rw [i4]; refine ⟨this.1, ?_⟩; unfold dat; rw [i4]; exact this.2)) (by decide) (by decide) rfl rfl (Nat.le_of_ble_eq_true rfl) dX12_asksAgain_33 (fun r33 S33 q33 => ?_)
      obtain ⟨rfl, rfl⟩ := q33
      refine X_if_ne (tgt := 52) hB dX12_asksAgain_36 (by decide) (fun c36 => ?_) (fun c36 => ?_)
      · refine X_aload_n (i := 0) hB dX12_asksAgain_52 rfl rfl ?_
        refine X_getr hB cw10 fX12_7 rfl hR.1.1 hR.1.2 (hfr.ref hF).1 dX12_asksAgain_53 ?_
        refine X_bipush (v := 8) hB dX12_asksAgain_56 (by decide) ?_
        refine X_ialdN hB (8) hR.2.1.1 hR.2.1.2 (by decide) (by first | rfl | (simp (disch := omega) only [nlit, nI_add, nI_mul, nI_sub]; done) | (simp (disch := omega) only [nlit, nI_add, nI_mul, nI_sub]; (congr 1 <;> omega))) (by first | omega | (simp only []; omega)) (show _ = nI (nNow σ0) by rw [hN1.1.2.1, i3]) dX12_asksAgain_58 ?_
        refine X_iload_n (i := 3) hB dX12_asksAgain_59 rfl rfl ?_
        refine X_isub hB dX12_asksAgain_60 ?_
        refine X_aload_n (i := 0) hB dX12_asksAgain_61 rfl rfl ?_
        refine X_getr hB cw10 fX12_7 rfl hR.1.1 hR.1.2 (hfr.ref hF).1 dX12_asksAgain_62 ?_
        refine X_bipush (v := 6) hB dX12_asksAgain_65 (by decide) ?_
        refine X_ialdN hB (6) hR.2.1.1 hR.2.1.2 (by decide) (by first | rfl | (simp (disch := omega) only [nlit, nI_add, nI_mul, nI_sub]; done) | (simp (disch := omega) only [nlit, nI_add, nI_mul, nI_sub]; (congr 1 <;> omega))) (by first | omega | (simp only []; omega)) (show _ = nI (nSe σ0 6) by rw [hN1.1.1 6 (by decide), i2]) dX12_asksAgain_67 ?_
        refine X_top2 (y := nI (nNow σ0 - s)) (by first | rfl | (simp (disch := omega) only [nlit, nI_add, nI_mul, nI_sub]; done) | (simp (disch := omega) only [nlit, nI_add, nI_mul, nI_sub]; (congr 1 <;> omega))) ?_
        refine X_icmp_lt (tgt := 77) hB dX12_asksAgain_68 (by decide) (fun c68 => ?_) (fun c68 => ?_)
        · refine X_iinc hB dX12_asksAgain_77 rfl rfl (by decide) rfl ?_
          refine X_goto (tgt := 2) hB dX12_asksAgain_80 (by decide) ?_
          first
          | (have e1 : (if needB σ n t = true then (1 : Int32) else 0) = 0 := by exact c36
             have hnb : needB σ n t = false := by
               cases hq : needB σ n t with
               | false => rfl
               | true => rw [hq] at e1; exact absurd e1 (by decide)
             have hyes : askStep n t σ = uNd σ n (xAkO (nNd σ n) t) := by unfold askStep; rw [hak]; dsimp only; rw [hnb]; rfl
             rw [hyes] at hstep
             refine X_dl [some (.ref h), some (.int (nI n)), some (.int (nI (t + 1))), none] (by simp [lle, lset, nI_succ]) (ih (t + 1) _ (by omega) (hfr.tr (fr.row (by simp) (by omega))) (by rw [hstep]; exact (by rw [rowI_at]; exact n46)) (by rw [hstep]; exact (aaI_off hn hI))))
          | (have e1 : ¬ (if needB σ n t = true then (1 : Int32) else 0) = 0 := by exact c36
             have hnb : needB σ n t = true := Decidable.byContradiction fun q => e1 (by rw [if_neg q])
             have e2 : nI (nNow σ0 - s) < nI (nSe σ0 6) := by exact c68
             have hlt : ¬ nSe σ 6 ≤ nNow σ - s := by rw [i2, i3]; (have := hse.2.2.2.2.2.2.1.2); simp (disch := omega) only [nlit, nI_leI, nI_ltI] at e2; omega
             have hno : askStep n t σ = σ := by unfold askStep; rw [hak]; dsimp only; rw [if_pos hnb, if_neg hlt]
             rw [hno] at hstep
             refine X_dl [some (.ref h), some (.int (nI n)), some (.int (nI (t + 1))), none] (by simp [lle, lset, nI_succ]) (ih (t + 1) _ (by omega) hfr (by rw [hstep]; exact hN1) (by rw [hstep]; exact hI)))
          | (have e1 : ¬ (if needB σ n t = true then (1 : Int32) else 0) = 0 := by exact c36
             have hnb : needB σ n t = true := Decidable.byContradiction fun q => e1 (by rw [if_neg q])
             have e2 : ¬ nI (nNow σ0 - s) < nI (nSe σ0 6) := by exact c68
             have hge : nSe σ 6 ≤ nNow σ - s := by rw [i2, i3]; (have := hse.2.2.2.2.2.2.1.2); simp (disch := omega) only [nlit, nI_leI, nI_ltI] at e2; omega
             have hyes : askStep n t σ = ask σ n t := by unfold askStep; rw [hak]; dsimp only; rw [if_pos hnb, if_pos hge]
             rw [hyes] at hstep
             refine X_dl [some (.ref h), some (.int (nI n)), some (.int (nI (t + 1))), none] (by simp [lle, lset, nI_succ]) (ih (t + 1) _ (by omega) (hfr.tr f74) (by rw [hstep]; exact n74) (by rw [hstep]; exact (aaI_ask hn hI))))
        · refine X_aload_n (i := 0) hB dX12_asksAgain_71 rfl rfl ?_
          refine X_iload_n (i := 1) hB dX12_asksAgain_72 rfl rfl ?_
          refine X_iload_n (i := 2) hB dX12_asksAgain_73 rfl rfl ?_
          refine X_callV hB kX12_271 cw10 hR.1.1 hR.1.2 (c_asks hR hF1 σ hN1 hs n t hn ht8) (by decide) (by decide) rfl rfl (Nat.le_of_ble_eq_true rfl) dX12_asksAgain_74 (fun r74 S74 q74 => ?_)
          obtain ⟨rfl, f74, n74⟩ := q74
          refine X_iinc hB dX12_asksAgain_77 rfl rfl (by decide) rfl ?_
          refine X_goto (tgt := 2) hB dX12_asksAgain_80 (by decide) ?_
          first
          | (have e1 : (if needB σ n t = true then (1 : Int32) else 0) = 0 := by exact c36
             have hnb : needB σ n t = false := by
               cases hq : needB σ n t with
               | false => rfl
               | true => rw [hq] at e1; exact absurd e1 (by decide)
             have hyes : askStep n t σ = uNd σ n (xAkO (nNd σ n) t) := by unfold askStep; rw [hak]; dsimp only; rw [hnb]; rfl
             rw [hyes] at hstep
             refine X_dl [some (.ref h), some (.int (nI n)), some (.int (nI (t + 1))), none] (by simp [lle, lset, nI_succ]) (ih (t + 1) _ (by omega) (hfr.tr (fr.row (by simp) (by omega))) (by rw [hstep]; exact (by rw [rowI_at]; exact n46)) (by rw [hstep]; exact (aaI_off hn hI))))
          | (have e1 : ¬ (if needB σ n t = true then (1 : Int32) else 0) = 0 := by exact c36
             have hnb : needB σ n t = true := Decidable.byContradiction fun q => e1 (by rw [if_neg q])
             have e2 : nI (nNow σ0 - s) < nI (nSe σ0 6) := by exact c68
             have hlt : ¬ nSe σ 6 ≤ nNow σ - s := by rw [i2, i3]; (have := hse.2.2.2.2.2.2.1.2); simp (disch := omega) only [nlit, nI_leI, nI_ltI] at e2; omega
             have hno : askStep n t σ = σ := by unfold askStep; rw [hak]; dsimp only; rw [if_pos hnb, if_neg hlt]
             rw [hno] at hstep
             refine X_dl [some (.ref h), some (.int (nI n)), some (.int (nI (t + 1))), none] (by simp [lle, lset, nI_succ]) (ih (t + 1) _ (by omega) hfr (by rw [hstep]; exact hN1) (by rw [hstep]; exact hI)))
          | (have e1 : ¬ (if needB σ n t = true then (1 : Int32) else 0) = 0 := by exact c36
             have hnb : needB σ n t = true := Decidable.byContradiction fun q => e1 (by rw [if_neg q])
             have e2 : ¬ nI (nNow σ0 - s) < nI (nSe σ0 6) := by exact c68
             have hge : nSe σ 6 ≤ nNow σ - s := by rw [i2, i3]; (have := hse.2.2.2.2.2.2.1.2); simp (disch := omega) only [nlit, nI_leI, nI_ltI] at e2; omega
             have hyes : askStep n t σ = ask σ n t := by unfold askStep; rw [hak]; dsimp only; rw [if_pos hnb, if_pos hge]
             rw [hyes] at hstep
             refine X_dl [some (.ref h), some (.int (nI n)), some (.int (nI (t + 1))), none] (by simp [lle, lset, nI_succ]) (ih (t + 1) _ (by omega) (hfr.tr f74) (by rw [hstep]; exact n74) (by rw [hstep]; exact (aaI_ask hn hI))))
      · refine X_aload_n (i := 0) hB dX12_asksAgain_39 rfl rfl ?_
        refine X_iload_n (i := 1) hB dX12_asksAgain_40 rfl rfl ?_
        refine X_bipush (v := 7) hB dX12_asksAgain_41 (by decide) ?_
        refine X_iload_n (i := 2) hB dX12_asksAgain_43 rfl rfl ?_
        refine X_iadd hB dX12_asksAgain_44 ?_
        refine X_iconst (v := (-1)) hB dX12_asksAgain_45 (by decide) ?_
        refine X_callV hB kX12_170 cw10 hR.1.1 hR.1.2 (c_layE (w := 7 + t) hR hF1 rfl (by first | rfl | (simp (disch := omega) only [nlit, nI_add, nI_mul, nI_sub]; done) | (simp (disch := omega) only [nlit, nI_add, nI_mul, nI_sub]; (congr 1 <;> omega))) (by omega) (by omega)) (by decide) (by decide) rfl rfl (Nat.le_of_ble_eq_true rfl) dX12_asksAgain_46 (fun r46 S46 q46 => ?_)
        obtain ⟨rfl, rfl⟩ := q46
        rw [setI_rowI]
        have n46 : netR (upd (S1.1 (h + 1)) (89 + 86 * n + (7 + t)) (-1)) (uNd σ n (xAkO (nNd σ n) t)) := netR_nd hN1 hs hn (ndR_ako hx (hs.2.2.1 n hn).1 ht8) (fun i hi => by rw [upd_ne _ _ (by omega)])
        refine X_goto (tgt := 77) hB dX12_asksAgain_49 (by decide) ?_
        refine X_iinc hB dX12_asksAgain_77 rfl rfl (by decide) rfl ?_
        refine X_goto (tgt := 2) hB dX12_asksAgain_80 (by decide) ?_
        first
        | (have e1 : (if needB σ n t = true then (1 : Int32) else 0) = 0 := by exact c36
           have hnb : needB σ n t = false := by
             cases hq : needB σ n t with
             | false => rfl
             | true => rw [hq] at e1; exact absurd e1 (by decide)
           have hyes : askStep n t σ = uNd σ n (xAkO (nNd σ n) t) := by unfold askStep; rw [hak]; dsimp only; rw [hnb]; rfl
           rw [hyes] at hstep
           refine X_dl [some (.ref h), some (.int (nI n)), some (.int (nI (t + 1))), none] (by simp [lle, lset, nI_succ]) (ih (t + 1) _ (by omega) (hfr.tr (fr.row (by simp) (by omega))) (by rw [hstep]; exact (by rw [rowI_at]; exact n46)) (by rw [hstep]; exact (aaI_off hn hI))))
        | (have e1 : ¬ (if needB σ n t = true then (1 : Int32) else 0) = 0 := by exact c36
           have hnb : needB σ n t = true := Decidable.byContradiction fun q => e1 (by rw [if_neg q])
           have e2 : nI (nNow σ0 - s) < nI (nSe σ0 6) := by exact c68
           have hlt : ¬ nSe σ 6 ≤ nNow σ - s := by rw [i2, i3]; (have := hse.2.2.2.2.2.2.1.2); simp (disch := omega) only [nlit, nI_leI, nI_ltI] at e2; omega
           have hno : askStep n t σ = σ := by unfold askStep; rw [hak]; dsimp only; rw [if_pos hnb, if_neg hlt]
           rw [hno] at hstep
           refine X_dl [some (.ref h), some (.int (nI n)), some (.int (nI (t + 1))), none] (by simp [lle, lset, nI_succ]) (ih (t + 1) _ (by omega) hfr (by rw [hstep]; exact hN1) (by rw [hstep]; exact hI)))
        | (have e1 : ¬ (if needB σ n t = true then (1 : Int32) else 0) = 0 := by exact c36
           have hnb : needB σ n t = true := Decidable.byContradiction fun q => e1 (by rw [if_neg q])
           have e2 : ¬ nI (nNow σ0 - s) < nI (nSe σ0 6) := by exact c68
           have hge : nSe σ 6 ≤ nNow σ - s := by rw [i2, i3]; (have := hse.2.2.2.2.2.2.1.2); simp (disch := omega) only [nlit, nI_leI, nI_ltI] at e2; omega
           have hyes : askStep n t σ = ask σ n t := by unfold askStep; rw [hak]; dsimp only; rw [if_pos hnb, if_pos hge]
           rw [hyes] at hstep
           refine X_dl [some (.ref h), some (.int (nI n)), some (.int (nI (t + 1))), none] (by simp [lle, lset, nI_succ]) (ih (t + 1) _ (by omega) (hfr.tr f74) (by rw [hstep]; exact n74) (by rw [hstep]; exact (aaI_ask hn hI))))
    · have hak : dAk (nNd σ n) t = none := by
        cases hq : dAk (nNd σ n) t with
        | none => rfl
        | some s =>
          rw [hq] at c24
          have := i6 t s hq
          exact absurd (by first | exact c24 | exact Decidable.not_not.mp c24) (nI_neg1 (by omega))
      have hno : askStep n t σ = σ := by unfold askStep; rw [hak]
      rw [hno] at hstep
      refine X_goto (tgt := 77) hB dX12_asksAgain_27 (by decide) ?_
      refine X_iinc hB dX12_asksAgain_77 rfl rfl (by decide) rfl ?_
      refine X_goto (tgt := 2) hB dX12_asksAgain_80 (by decide) ?_
      refine X_dl [some (.ref h), some (.int (nI n)), some (.int (nI (t + 1))), none] (by simp [lle, lset, nI_succ]) (ih (t + 1) _ (by omega) hfr (by rw [hstep]; exact hN1) (by rw [hstep]; exact hI))
theorem wfN.aa {σ : Net} {b n : Nat} (hw : wfN σ b) (hn : n < 8) : aaI σ σ n := by
  refine ⟨hw.sz, rfl, rfl, rfl, fun d hd => ?_, fun t s hq => ((hw.2.2.1 n hn).2.2.2.2.2.2.2.2 t s hq).1⟩
  obtain ⟨h1, -⟩ := hw.2.2.2.2.2.2.2.1 n hn d hd
  exact ⟨h1, (hw.da h1).1.2.1⟩
set_option maxRecDepth 100000 in
set_option maxHeartbeats 4000000 in
theorem c_asksAgain (hR : RLay G h) (hF : RRef S h) (σ : Net) (b : Nat) (hw : wfN σ b) (hN : netR (S.1 (h + 1)) σ) (n : Nat) (hn : n < 8) : C G mX12_asksAgain 3 [.ref h, .int (nI n)] S (fun r S' => r = none ∧ fr h [h + 1, h + 11] [] S S' ∧ netR (S'.1 (h + 1)) (askOnN σ n)) := by
  refine C.mk (lv := [some (.ref h), some (.int (nI n)), none, none]) (by decide) (Nat.le_of_ble_eq_true rfl) rfl (fun E hB => ?_)
  refine X_iconst (v := 0) hB dX12_asksAgain_0 (by decide) ?_
  refine X_istore_n (i := 2) hB dX12_asksAgain_1 rfl (by decide) rfl ?_
  exact X_lv (lv' := [some (.ref h), some (.int (nI n)), some (.int (nI 0)), none]) (by rw [nI_0]; rfl) (l_asksAgain hR hF hB σ hw.1 hw.2.2.2.2.2.2.2.2.1 n hn (fun S9 g1 g2 => ⟨rfl, g1, g2⟩) (nSe σ 0) 0 S (by omega) fr.rf hN (hw.aa hn))
end REF
