/-! the reference: a net is taken; net, fault, say -/
/-- node m of a row, as one that is new -/
def ndZ (A : Nat → Int32) (mp df : Nat → Bool) (m : Nat) : Prop := A (89 + 86 * m + 0) = (if mp m then 1 else 0) ∧ A (89 + 86 * m + 1) = (if df m then 0 else 1) ∧ A (89 + 86 * m + 5) = -1 ∧ (∀ t, t < 8 → A (89 + 86 * m + (7 + t)) = -1) ∧ A (89 + 86 * m + 2) = 0 ∧ A (89 + 86 * m + 3) = 0 ∧ A (89 + 86 * m + 4) = 0 ∧ A (89 + 86 * m + 6) = 0
theorem ndZ.same {A A' : Nat → Int32} {mp df : Nat → Bool} {m : Nat} (h : ndZ A mp df m) (e : ∀ i, 89 + 86 * m ≤ i → i < 89 + 86 * m + 86 → A' i = A i) : ndZ A' mp df m := by
  obtain ⟨h1, h2, h3, h4, h5, h6, h7, h8⟩ := h
  exact ⟨by rw [e _ (by omega) (by omega)]; exact h1, by rw [e _ (by omega) (by omega)]; exact h2, by rw [e _ (by omega) (by omega)]; exact h3, fun t ht => by rw [e _ (by omega) (by omega)]; exact h4 t ht, by rw [e _ (by omega) (by omega)]; exact h5, by rw [e _ (by omega) (by omega)]; exact h6, by rw [e _ (by omega) (by omega)]; exact h7, by rw [e _ (by omega) (by omega)]; exact h8⟩
theorem netR_new {A : Nat → Int32} {pr : Ps} {se : Nat → Nat} (h1 : ∀ k, k < 8 → A k = nI (pSe pr k)) (h2 : ∀ k, (11 ≤ k ∧ k < 14) ∨ 2457 ≤ k → A k = nI (se k)) (h3 : A 8 = 0 ∧ A 9 = 0 ∧ A 10 = 0) (h4 : ∀ k, k < 11 → A (14 + k) = 0) (h5 : ∀ a b, a < 8 → b < 8 → A (25 + 8 * a + b) = if pUp pr a b then 1 else 0) (h6 : ∀ n, n < 8 → ndZ A (pMp pr) (pDf pr) n) : netR A (nwN pr se) := by
  refine ⟨⟨fun k hk => ?_, h3.1, h3.2.1, h3.2.2, h4, h5⟩, fun n hn => ?_, fun k hk => absurd hk (Nat.not_lt_zero _), fun k hk => absurd hk (Nat.not_lt_zero _)⟩
  · show _ = nI (if k < 8 then pSe pr k else se k)
    by_cases c : k < 8
    · rw [if_pos c]; exact h1 k c
    · rw [if_neg c]; exact h2 k (by omega)
  · obtain ⟨g1, g2, g3, g4, g5, g6, g7, g8⟩ := h6 n hn
    refine ⟨g1, ?_, ⟨g5, fun k hk => absurd hk (Nat.not_lt_zero _)⟩, g6, g7, g3, g8, g4, fun k hk => absurd hk (Nat.not_lt_zero _), fun k hk => absurd hk (Nat.not_lt_zero _)⟩
    rw [g2]
    show _ = if (!pDf pr n) = true then 1 else 0
    cases pDf pr n <;> rfl
def flN (o : Option Nat) : Nat := match o with
  | none => 4294967295
  | some a => a
theorem flN_I {o : Option Nat} : nI (flN o) = akN o := by
  cases o with
  | none => decide
  | some a => rfl
section REF
variable {G : Gc} {S : St} {h : Nat}
set_option maxRecDepth 100000 in
set_option maxHeartbeats 4000000 in
theorem z_taken (hR : RLay G h) (hF : RRef S h) {E : Ev} (hB : Bd G E mX12_taken) {Q : Option Value → St → Prop} (v1 v2 v3 : Int32) (kk : ∀ S1 v, fr h [h + 1] [] S S1 → ((∀ m, m < 2457 → S1.1 (h + 1) m = 0) ∧ ∀ m, 2457 ≤ m → S1.1 (h + 1) m = S.1 (h + 1) m) → X G E mX12_taken 1 Q S1 49 [some (.ref h), some (.int v1), some (.int v2), some (.int v3), some (.int v), none] []) :
    ∀ (j k : Nat) (S1 : St), k + j = 2457 → fr h [h + 1] [] S S1 → ((∀ m, m < k → S1.1 (h + 1) m = 0) ∧ ∀ m, k ≤ m → S1.1 (h + 1) m = S.1 (h + 1) m) → X G E mX12_taken 1 Q S1 27 [some (.ref h), some (.int v1), some (.int v2), some (.int v3), some (.int (nI k)), none] [] := by
  intro j
  induction j with
  | zero =>
    intro k S1 h1 h2 h3
    have e9 : k = 2457 := by omega
    subst e9
    refine X_iload hB dX12_taken_27 rfl ?_
    refine X_sipush (v := 2457) hB dX12_taken_29 (by decide) ?_
    refine X_icmp_ge (tgt := 49) hB dX12_taken_32 (by decide) (fun c32 => ?_) (fun c32 => absurd c32 (by simp (disch := omega) only [nlit, nI_leI, nI_ltI]; omega))
    exact kk S1 _ h2 h3
  | succ j ih =>
    intro k S1 h1 h2 h3
    have hF1 := h2.ref hF
    refine X_iload hB dX12_taken_27 rfl ?_
    refine X_sipush (v := 2457) hB dX12_taken_29 (by decide) ?_
    refine X_icmp_ge (tgt := 49) hB dX12_taken_32 (by decide) (fun c32 => absurd c32 (by simp (disch := omega) only [nlit, nI_leI, nI_ltI]; omega)) (fun c32 => ?_)
    refine X_aload_n (i := 0) hB dX12_taken_35 rfl rfl ?_
    refine X_getr hB cw10 fX12_7 rfl hR.1.1 hR.1.2 hF1.1 dX12_taken_36 ?_
    refine X_iload hB dX12_taken_39 rfl ?_
    refine X_iconst (v := 0) hB dX12_taken_41 (by decide) ?_
    refine X_iastN hB (k) hR.2.1.1 hR.2.1.2 (by decide) rfl (by first | omega | (simp only []; omega)) dX12_taken_42 ?_
    refine X_iinc hB dX12_taken_43 rfl rfl (by decide) rfl ?_
    refine X_goto (tgt := 27) hB dX12_taken_46 (by decide) ?_
    refine X_lv ?_ (ih (k + 1) _ (by omega) (h2.tr (fr.set (by simp) (by omega))) ?_)
    · rw [nI_succ]; rfl
    · refine ⟨fun m hm => ?_, fun m hm => ?_⟩
      · by_cases z : m = k
        · rw [z, setI_at]
        · rw [setI_ne _ _ (Or.inr z)]; exact h3.1 m (by omega)
      · rw [setI_ne _ _ (Or.inr (by omega))]; exact h3.2 m (by omega)
set_option maxRecDepth 100000 in
set_option maxHeartbeats 4000000 in
theorem t_taken (hR : RLay G h) (hF : RRef S h) {E : Ev} (hB : Bd G E mX12_taken) {Q : Option Value → St → Prop} (v1 v2 v3 : Int32) (kk : ∀ S1 v, fr h [h + 1] [] S S1 → ((∀ m, m < 8 → S1.1 (h + 1) m = S.1 (h + 4) m) ∧ ∀ m, 8 ≤ m → S1.1 (h + 1) m = S.1 (h + 1) m) → X G E mX12_taken 1 Q S1 103 [some (.ref h), some (.int v1), some (.int v2), some (.int v3), some (.int v), none] []) :
    ∀ (j k : Nat) (S1 : St), k + j = 8 → fr h [h + 1] [] S S1 → ((∀ m, m < k → S1.1 (h + 1) m = S.1 (h + 4) m) ∧ ∀ m, k ≤ m → S1.1 (h + 1) m = S.1 (h + 1) m) → X G E mX12_taken 1 Q S1 76 [some (.ref h), some (.int v1), some (.int v2), some (.int v3), some (.int (nI k)), none] [] := by
  intro j
  induction j with
  | zero =>
    intro k S1 h1 h2 h3
    have e9 : k = 8 := by omega
    subst e9
    refine X_iload hB dX12_taken_76 rfl ?_
    refine X_bipush (v := 8) hB dX12_taken_78 (by decide) ?_
    refine X_icmp_ge (tgt := 103) hB dX12_taken_80 (by decide) (fun c80 => ?_) (fun c80 => absurd c80 (by simp (disch := omega) only [nlit, nI_leI, nI_ltI]; omega))
    exact kk S1 _ h2 h3
  | succ j ih =>
    intro k S1 h1 h2 h3
    have hF1 := h2.ref hF
    refine X_iload hB dX12_taken_76 rfl ?_
    refine X_bipush (v := 8) hB dX12_taken_78 (by decide) ?_
    refine X_icmp_ge (tgt := 103) hB dX12_taken_80 (by decide) (fun c80 => absurd c80 (by simp (disch := omega) only [nlit, nI_leI, nI_ltI]; omega)) (fun c80 => ?_)
    refine X_aload_n (i := 0) hB dX12_taken_83 rfl rfl ?_
    refine X_getr hB cw10 fX12_7 rfl hR.1.1 hR.1.2 hF1.1 dX12_taken_84 ?_
    refine X_iload hB dX12_taken_87 rfl ?_
    refine X_aload_n (i := 0) hB dX12_taken_89 rfl rfl ?_
    refine X_getr hB cw10 fX12_21 rfl hR.1.1 hR.1.2 hF1.2.2.2.1 dX12_taken_90 ?_
    refine X_iload hB dX12_taken_93 rfl ?_
    refine X_ialdN hB (k) hR.2.2.2.2.1.1 hR.2.2.2.2.1.2 (by decide) rfl (by first | omega | (simp only []; omega)) (show S1.1 (h + 4) k = S.1 (h + 4) k by rw [h2.2.1 _ (by simp) (by omega)]) dX12_taken_95 ?_
    refine X_iastN hB (k) hR.2.1.1 hR.2.1.2 (by decide) rfl (by first | omega | (simp only []; omega)) dX12_taken_96 ?_
    refine X_iinc hB dX12_taken_97 rfl rfl (by decide) rfl ?_
    refine X_goto (tgt := 76) hB dX12_taken_100 (by decide) ?_
    refine X_lv ?_ (ih (k + 1) _ (by omega) (h2.tr (fr.set (by simp) (by omega))) ?_)
    · rw [nI_succ]; rfl
    · refine ⟨fun m hm => ?_, fun m hm => ?_⟩
      · by_cases z : m = k
        · rw [z, setI_at]
        · rw [setI_ne _ _ (Or.inr z)]; exact h3.1 m (by omega)
      · rw [setI_ne _ _ (Or.inr (by omega))]; exact h3.2 m (by omega)
set_option maxRecDepth 100000 in
set_option maxHeartbeats 4000000 in
theorem u_taken (hR : RLay G h) (hF : RRef S h) {E : Ev} (hB : Bd G E mX12_taken) {Q : Option Value → St → Prop} (v1 v2 v3 : Int32) (kk : ∀ S1 v, fr h [h + 1] [] S S1 → ((∀ m, m < 64 → S1.1 (h + 1) (25 + m) = S.1 (h + 5) m) ∧ ∀ m, m < 25 ∨ 25 + 64 ≤ m → S1.1 (h + 1) m = S.1 (h + 1) m) → X G E mX12_taken 1 Q S1 136 [some (.ref h), some (.int v1), some (.int v2), some (.int v3), some (.int v), none] []) :
    ∀ (j k : Nat) (S1 : St), k + j = 64 → fr h [h + 1] [] S S1 → ((∀ m, m < k → S1.1 (h + 1) (25 + m) = S.1 (h + 5) m) ∧ ∀ m, m < 25 ∨ 25 + k ≤ m → S1.1 (h + 1) m = S.1 (h + 1) m) → X G E mX12_taken 1 Q S1 106 [some (.ref h), some (.int v1), some (.int v2), some (.int v3), some (.int (nI k)), none] [] := by
  intro j
  induction j with
  | zero =>
    intro k S1 h1 h2 h3
    have e9 : k = 64 := by omega
    subst e9
    refine X_iload hB dX12_taken_106 rfl ?_
    refine X_bipush (v := 64) hB dX12_taken_108 (by decide) ?_
    refine X_icmp_ge (tgt := 136) hB dX12_taken_110 (by decide) (fun c110 => ?_) (fun c110 => absurd c110 (by simp (disch := omega) only [nlit, nI_leI, nI_ltI]; omega))
    exact kk S1 _ h2 h3
  | succ j ih =>
    intro k S1 h1 h2 h3
    have hF1 := h2.ref hF
    refine X_iload hB dX12_taken_106 rfl ?_
    refine X_bipush (v := 64) hB dX12_taken_108 (by decide) ?_
    refine X_icmp_ge (tgt := 136) hB dX12_taken_110 (by decide) (fun c110 => absurd c110 (by simp (disch := omega) only [nlit, nI_leI, nI_ltI]; omega)) (fun c110 => ?_)
    refine X_aload_n (i := 0) hB dX12_taken_113 rfl rfl ?_
    refine X_getr hB cw10 fX12_7 rfl hR.1.1 hR.1.2 hF1.1 dX12_taken_114 ?_
    refine X_bipush (v := 25) hB dX12_taken_117 (by decide) ?_
    refine X_iload hB dX12_taken_119 rfl ?_
    refine X_iadd hB dX12_taken_121 ?_
    refine X_aload_n (i := 0) hB dX12_taken_122 rfl rfl ?_
    refine X_getr hB cw10 fX12_24 rfl hR.1.1 hR.1.2 hF1.2.2.2.2.1 dX12_taken_123 ?_
    refine X_iload hB dX12_taken_126 rfl ?_
    refine X_ialdN hB (k) hR.2.2.2.2.2.1.1 hR.2.2.2.2.2.1.2 (by decide) rfl (by first | omega | (simp only []; omega)) (show S1.1 (h + 5) k = S.1 (h + 5) k by rw [h2.2.1 _ (by simp) (by omega)]) dX12_taken_128 ?_
    refine X_iastN hB (25 + k) hR.2.1.1 hR.2.1.2 (by decide) (by first | rfl | (simp (disch := omega) only [nlit, nI_add, nI_mul, nI_sub]; done) | (simp (disch := omega) only [nlit, nI_add, nI_mul, nI_sub]; (congr 1 <;> omega))) (by first | omega | (simp only []; omega)) dX12_taken_129 ?_
    refine X_iinc hB dX12_taken_130 rfl rfl (by decide) rfl ?_
    refine X_goto (tgt := 106) hB dX12_taken_133 (by decide) ?_
    refine X_lv ?_ (ih (k + 1) _ (by omega) (h2.tr (fr.set (by simp) (by omega))) ?_)
    · rw [nI_succ]; rfl
    · refine ⟨fun m hm => ?_, fun m hm => ?_⟩
      · by_cases z : m = k
        · rw [z, setI_at]
        · rw [setI_ne _ _ (Or.inr (by omega))]; exact h3.1 m (by omega)
      · rw [setI_ne _ _ (Or.inr (by omega))]; exact h3.2 m (by omega)
set_option maxRecDepth 100000 in
set_option maxHeartbeats 4000000 in
theorem a_taken (hR : RLay G h) (hF : RRef S h) {E : Ev} (hB : Bd G E mX12_taken) {Q : Option Value → St → Prop} (v1 v2 v3 : Int32) (n : Nat) (hn : n < 8) (kk : ∀ S1 v, fr h [h + 1] [] S S1 → ((∀ t, t < 8 → S1.1 (h + 1) (89 + 86 * n + (7 + t)) = -1) ∧ ∀ i, i < 89 + 86 * n + 7 ∨ 89 + 86 * n + 15 ≤ i → S1.1 (h + 1) i = S.1 (h + 1) i) → X G E mX12_taken 1 Q S1 230 [some (.ref h), some (.int v1), some (.int v2), some (.int v3), some (.int (nI n)), some (.int v)] []) :
    ∀ (j k : Nat) (S1 : St), k + j = 8 → fr h [h + 1] [] S S1 → ((∀ t, t < k → S1.1 (h + 1) (89 + 86 * n + (7 + t)) = -1) ∧ ∀ i, i < 89 + 86 * n + 7 ∨ 89 + 86 * n + 15 ≤ i → S1.1 (h + 1) i = S.1 (h + 1) i) → X G E mX12_taken 1 Q S1 205 [some (.ref h), some (.int v1), some (.int v2), some (.int v3), some (.int (nI n)), some (.int (nI k))] [] := by
  intro j
  induction j with
  | zero =>
    intro k S1 h1 h2 h3
    have e9 : k = 8 := by omega
    subst e9
    refine X_iload hB dX12_taken_205 rfl ?_
    refine X_bipush (v := 8) hB dX12_taken_207 (by decide) ?_
    refine X_icmp_ge (tgt := 230) hB dX12_taken_209 (by decide) (fun c209 => ?_) (fun c209 => absurd c209 (by simp (disch := omega) only [nlit, nI_leI, nI_ltI]; omega))
    exact kk S1 _ h2 h3
  | succ j ih =>
    intro k S1 h1 h2 h3
    have hF1 := h2.ref hF
    refine X_iload hB dX12_taken_205 rfl ?_
    refine X_bipush (v := 8) hB dX12_taken_207 (by decide) ?_
    refine X_icmp_ge (tgt := 230) hB dX12_taken_209 (by decide) (fun c209 => absurd c209 (by simp (disch := omega) only [nlit, nI_leI, nI_ltI]; omega)) (fun c209 => ?_)
    refine X_aload_n (i := 0) hB dX12_taken_212 rfl rfl ?_
    refine X_iload hB dX12_taken_213 rfl ?_
    refine X_bipush (v := 7) hB dX12_taken_215 (by decide) ?_
    refine X_iload hB dX12_taken_217 rfl ?_
    refine X_iadd hB dX12_taken_219 ?_
    refine X_iconst (v := (-1)) hB dX12_taken_220 (by decide) ?_
    refine X_callV hB kX12_170 cw10 hR.1.1 hR.1.2 (c_layE (n := n) (w := 7 + k) hR hF1 rfl (by first | rfl | (simp (disch := omega) only [nlit, nI_add, nI_mul, nI_sub]; done) | (simp (disch := omega) only [nlit, nI_add, nI_mul, nI_sub]; (congr 1 <;> omega))) (by omega) (by omega)) (by decide) (by decide) rfl rfl (Nat.le_of_ble_eq_true rfl) dX12_taken_221 (fun r221 S221 q221 => ?_)
    obtain ⟨rfl, rfl⟩ := q221
    refine X_iinc hB dX12_taken_224 rfl rfl (by decide) rfl ?_
    refine X_goto (tgt := 205) hB dX12_taken_227 (by decide) ?_
    refine X_lv ?_ (ih (k + 1) _ (by omega) (h2.tr (fr.set (by simp) (by omega))) ⟨fun t ht => ?_, fun i hi => ?_⟩)
    · rw [nI_succ]; rfl
    · by_cases z : t = k
      · rw [z, setI_at]
      · rw [setI_ne _ _ (Or.inr (by omega))]; exact h3.1 t (by omega)
    · rw [setI_ne _ _ (Or.inr (by omega))]; exact h3.2 i hi
set_option maxRecDepth 100000 in
set_option maxHeartbeats 4000000 in
theorem n_taken (hR : RLay G h) (hF : RRef S h) {E : Ev} (hB : Bd G E mX12_taken) {Q : Option Value → St → Prop} (v1 v2 v3 : Int32) (mp df : Nat → Bool) (h16 : S.1 h 16 = nI (bts mp 8)) (h17 : S.1 h 17 = nI (bts df 8)) (hz : ∀ i, 89 ≤ i → i < 777 → S.1 (h + 1) i = 0) (kk : ∀ S1, fr h [h + 1] [] S S1 → (∀ m, m < 8 → ndZ (S1.1 (h + 1)) mp df m) → (∀ i, i < 89 ∨ 777 ≤ i → S1.1 (h + 1) i = S.1 (h + 1) i) → Q none S1) :
    ∀ (j n : Nat) (S1 : St), n + j = 8 → fr h [h + 1] [] S S1 → (∀ m, m < n → ndZ (S1.1 (h + 1)) mp df m) → (∀ i, i < 89 ∨ 89 + 86 * n ≤ i → S1.1 (h + 1) i = S.1 (h + 1) i) → X G E mX12_taken 1 Q S1 139 [some (.ref h), some (.int v1), some (.int v2), some (.int v3), some (.int (nI n)), none] [] := by
  intro j
  induction j with
  | zero =>
    intro n S1 h1 h2 h3 h4
    have e9 : n = 8 := by omega
    subst e9
    refine X_iload hB dX12_taken_139 rfl ?_
    refine X_bipush (v := 8) hB dX12_taken_141 (by decide) ?_
    refine X_icmp_ge (tgt := 236) hB dX12_taken_143 (by decide) (fun c143 => ?_) (fun c143 => absurd c143 (by simp (disch := omega) only [nlit, nI_leI, nI_ltI]; omega))
    refine X_vret hB rfl dX12_taken_236 ?_
    exact kk S1 h2 h3 (fun i hi => h4 i (by omega))
  | succ j ih =>
    intro n S1 h1 h2 h3 h4
    have hn8 : n < 8 := by omega
    have hF1 := h2.ref hF
    have b16 : (bts mp 8).testBit n = mp n := by rw [bts_bit, decide_eq_true hn8, Bool.true_and]
    have b17 : (bts df 8).testBit n = df n := by rw [bts_bit, decide_eq_true hn8, Bool.true_and]
    refine X_iload hB dX12_taken_139 rfl ?_
    refine X_bipush (v := 8) hB dX12_taken_141 (by decide) ?_
    refine X_icmp_ge (tgt := 236) hB dX12_taken_143 (by decide) (fun c143 => absurd c143 (by simp (disch := omega) only [nlit, nI_leI, nI_ltI]; omega)) (fun c143 => ?_)
    refine X_aload_n (i := 0) hB dX12_taken_146 rfl rfl ?_
    refine X_iload hB dX12_taken_147 rfl ?_
    refine X_iconst (v := 0) hB dX12_taken_149 (by decide) ?_
    refine X_aload_n (i := 0) hB dX12_taken_150 rfl rfl ?_
    refine X_geti hB cw10 fX12_150 rfl hR.1.1 hR.1.2 dX12_taken_151 ?_
    refine X_topi (y := nI (bts mp 8)) (by rw [h2.2.2 16 (by simp)]; exact h16) ?_
    refine X_iload hB dX12_taken_154 rfl ?_
    refine X_callS hB kX12_166 (c_has (m := bts mp 8) (k := n) (bts_8 mp) hn8) (by decide) (by decide) rfl rfl (Nat.le_of_ble_eq_true rfl) dX12_taken_156 (fun r156 S156 q156 => ?_)
    obtain ⟨rfl, rfl⟩ := q156
    refine X_topi (y := if mp n then 1 else 0) (by rw [b16]) ?_
    refine X_if_eq (tgt := 166) hB dX12_taken_159 (by decide) (fun c159 => ?_) (fun c159 => ?_)
    · refine X_iconst (v := 0) hB dX12_taken_166 (by decide) ?_
      refine X_topi (y := if mp n then 1 else 0) (by rw [if_neg (if1n c159)]) ?_
      refine X_callV hB kX12_170 cw10 hR.1.1 hR.1.2 (c_layE (n := n) (w := 0) hR hF1 rfl rfl hn8 (by decide)) (by decide) (by decide) rfl rfl (Nat.le_of_ble_eq_true rfl) dX12_taken_167 (fun r167 S167 q167 => ?_)
      obtain ⟨rfl, rfl⟩ := q167
      refine X_aload_n (i := 0) hB dX12_taken_170 rfl rfl ?_
      refine X_iload hB dX12_taken_171 rfl ?_
      refine X_iconst (v := 1) hB dX12_taken_173 (by decide) ?_
      refine X_aload_n (i := 0) hB dX12_taken_174 rfl rfl ?_
      refine X_geti hB cw10 fX12_153 rfl hR.1.1 hR.1.2 dX12_taken_175 ?_
      refine X_topi (y := nI (bts df 8)) (by rw [setI_ne _ _ (Or.inl (by omega)), h2.2.2 17 (by simp)]; exact h17) ?_
      refine X_iload hB dX12_taken_178 rfl ?_
      refine X_callS hB kX12_166 (c_has (m := bts df 8) (k := n) (bts_8 df) hn8) (by decide) (by decide) rfl rfl (Nat.le_of_ble_eq_true rfl) dX12_taken_180 (fun r180 S180 q180 => ?_)
      obtain ⟨rfl, rfl⟩ := q180
      refine X_topi (y := if df n then 1 else 0) (by rw [b17]) ?_
      refine X_if_eq (tgt := 190) hB dX12_taken_183 (by decide) (fun c183 => ?_) (fun c183 => ?_)
      · refine X_iconst (v := 1) hB dX12_taken_190 (by decide) ?_
        refine X_topi (y := if df n then 0 else 1) (by rw [if_neg (if1n c183)]) ?_
        refine X_callV hB kX12_170 cw10 hR.1.1 hR.1.2 (c_layE (n := n) (w := 1) hR (hF1.of rfl) rfl rfl hn8 (by decide)) (by decide) (by decide) rfl rfl (Nat.le_of_ble_eq_true rfl) dX12_taken_191 (fun r191 S191 q191 => ?_)
        obtain ⟨rfl, rfl⟩ := q191
        refine X_aload_n (i := 0) hB dX12_taken_194 rfl rfl ?_
        refine X_iload hB dX12_taken_195 rfl ?_
        refine X_iconst (v := 5) hB dX12_taken_197 (by decide) ?_
        refine X_iconst (v := (-1)) hB dX12_taken_198 (by decide) ?_
        refine X_callV hB kX12_170 cw10 hR.1.1 hR.1.2 (c_layE (n := n) (w := 5) hR (hF1.of rfl) rfl rfl hn8 (by decide)) (by decide) (by decide) rfl rfl (Nat.le_of_ble_eq_true rfl) dX12_taken_199 (fun r199 S199 q199 => ?_)
        obtain ⟨rfl, rfl⟩ := q199
        refine X_iconst (v := 0) hB dX12_taken_202 (by decide) ?_
        refine X_istore hB dX12_taken_203 (by decide) rfl ?_
        have f3 : fr h [h + 1] [] S (setI (setI (setI S1 (h + 1) (89 + 86 * n + 0) (if mp n then 1 else 0)) (h + 1) (89 + 86 * n + 1) (if df n then 0 else 1)) (h + 1) (89 + 86 * n + 5) (-1)) := ((h2.tr (fr.set (by simp) (by omega))).tr (fr.set (by simp) (by omega))).tr (fr.set (by simp) (by omega))
        refine X_lv (lv' := [some (.ref h), some (.int v1), some (.int v2), some (.int v3), some (.int (nI n)), some (.int (nI 0))]) (by rw [nI_0]; rfl) (a_taken (S := (setI (setI (setI S1 (h + 1) (89 + 86 * n + 0) (if mp n then 1 else 0)) (h + 1) (89 + 86 * n + 1) (if df n then 0 else 1)) (h + 1) (89 + 86 * n + 5) (-1))) hR (hF1.of rfl) hB v1 v2 v3 n hn8 (fun S2 v g1 g2 => ?_) 8 0 _ (by omega) fr.rf ⟨fun t ht => by omega, fun i hi => rfl⟩)
        refine X_iinc hB dX12_taken_230 rfl rfl (by decide) rfl ?_
        refine X_goto (tgt := 139) hB dX12_taken_233 (by decide) ?_
        have hu : ∀ i, i ≠ 89 + 86 * n + 0 → i ≠ 89 + 86 * n + 1 → i ≠ 89 + 86 * n + 5 → (setI (setI (setI S1 (h + 1) (89 + 86 * n + 0) (if mp n then 1 else 0)) (h + 1) (89 + 86 * n + 1) (if df n then 0 else 1)) (h + 1) (89 + 86 * n + 5) (-1)).1 (h + 1) i = S1.1 (h + 1) i := fun i q0 q1 q5 => by rw [setI_ne _ _ (Or.inr q5), setI_ne _ _ (Or.inr q1), setI_ne _ _ (Or.inr q0)]
        have hs2 : ∀ i, i < 89 + 86 * n ∨ 89 + 86 * n + 86 ≤ i → S2.1 (h + 1) i = S1.1 (h + 1) i := fun i hi => (g2.2 i (by omega)).trans (hu i (by omega) (by omega) (by omega))
        have hz2 : ∀ w, (w = 2 ∨ w = 3 ∨ w = 4 ∨ w = 6) → S2.1 (h + 1) (89 + 86 * n + w) = 0 := fun w hw => by
          rw [g2.2 _ (by omega), hu _ (by omega) (by omega) (by omega), h4 _ (by omega)]; exact hz _ (by omega) (by omega)
        refine X_dl [some (.ref h), some (.int v1), some (.int v2), some (.int v3), some (.int (nI (n + 1))), none] ⟨rfl, rfl, rfl, rfl, by rw [nI_succ]; rfl, trivial⟩ (ih (n + 1) S2 (by omega) (f3.tr g1) (fun m hm => ?_) (fun i hi => ?_))
        · by_cases q : m = n
          · subst q
            refine ⟨?_, ?_, ?_, g2.1, hz2 2 (by omega), hz2 3 (by omega), hz2 4 (by omega), hz2 6 (by omega)⟩
            · rw [g2.2 _ (by omega), setI_ne _ _ (Or.inr (by omega)), setI_ne _ _ (Or.inr (by omega)), setI_at]
            · rw [g2.2 _ (by omega), setI_ne _ _ (Or.inr (by omega)), setI_at]
            · rw [g2.2 _ (by omega), setI_at]
          · exact (h3 m (by omega)).same (fun i q1 q2 => hs2 i (by omega))
        · rw [hs2 i (by omega)]; exact h4 i (by omega)
      · refine X_iconst (v := 0) hB dX12_taken_186 (by decide) ?_
        refine X_goto (tgt := 191) hB dX12_taken_187 (by decide) ?_
        refine X_topi (y := if df n then 0 else 1) (by rw [if_pos (show df n = true from if1 c183)]) ?_
        refine X_callV hB kX12_170 cw10 hR.1.1 hR.1.2 (c_layE (n := n) (w := 1) hR (hF1.of rfl) rfl rfl hn8 (by decide)) (by decide) (by decide) rfl rfl (Nat.le_of_ble_eq_true rfl) dX12_taken_191 (fun r191 S191 q191 => ?_)
        obtain ⟨rfl, rfl⟩ := q191
        refine X_aload_n (i := 0) hB dX12_taken_194 rfl rfl ?_
        refine X_iload hB dX12_taken_195 rfl ?_
        refine X_iconst (v := 5) hB dX12_taken_197 (by decide) ?_
        refine X_iconst (v := (-1)) hB dX12_taken_198 (by decide) ?_
        refine X_callV hB kX12_170 cw10 hR.1.1 hR.1.2 (c_layE (n := n) (w := 5) hR (hF1.of rfl) rfl rfl hn8 (by decide)) (by decide) (by decide) rfl rfl (Nat.le_of_ble_eq_true rfl) dX12_taken_199 (fun r199 S199 q199 => ?_)
        obtain ⟨rfl, rfl⟩ := q199
        refine X_iconst (v := 0) hB dX12_taken_202 (by decide) ?_
        refine X_istore hB dX12_taken_203 (by decide) rfl ?_
        have f3 : fr h [h + 1] [] S (setI (setI (setI S1 (h + 1) (89 + 86 * n + 0) (if mp n then 1 else 0)) (h + 1) (89 + 86 * n + 1) (if df n then 0 else 1)) (h + 1) (89 + 86 * n + 5) (-1)) := ((h2.tr (fr.set (by simp) (by omega))).tr (fr.set (by simp) (by omega))).tr (fr.set (by simp) (by omega))
        refine X_lv (lv' := [some (.ref h), some (.int v1), some (.int v2), some (.int v3), some (.int (nI n)), some (.int (nI 0))]) (by rw [nI_0]; rfl) (a_taken (S := (setI (setI (setI S1 (h + 1) (89 + 86 * n + 0) (if mp n then 1 else 0)) (h + 1) (89 + 86 * n + 1) (if df n then 0 else 1)) (h + 1) (89 + 86 * n + 5) (-1))) hR (hF1.of rfl) hB v1 v2 v3 n hn8 (fun S2 v g1 g2 => ?_) 8 0 _ (by omega) fr.rf ⟨fun t ht => by omega, fun i hi => rfl⟩)
        refine X_iinc hB dX12_taken_230 rfl rfl (by decide) rfl ?_
        refine X_goto (tgt := 139) hB dX12_taken_233 (by decide) ?_
        have hu : ∀ i, i ≠ 89 + 86 * n + 0 → i ≠ 89 + 86 * n + 1 → i ≠ 89 + 86 * n + 5 → (setI (setI (setI S1 (h + 1) (89 + 86 * n + 0) (if mp n then 1 else 0)) (h + 1) (89 + 86 * n + 1) (if df n then 0 else 1)) (h + 1) (89 + 86 * n + 5) (-1)).1 (h + 1) i = S1.1 (h + 1) i := fun i q0 q1 q5 => by rw [setI_ne _ _ (Or.inr q5), setI_ne _ _ (Or.inr q1), setI_ne _ _ (Or.inr q0)]
        have hs2 : ∀ i, i < 89 + 86 * n ∨ 89 + 86 * n + 86 ≤ i → S2.1 (h + 1) i = S1.1 (h + 1) i := fun i hi => (g2.2 i (by omega)).trans (hu i (by omega) (by omega) (by omega))
        have hz2 : ∀ w, (w = 2 ∨ w = 3 ∨ w = 4 ∨ w = 6) → S2.1 (h + 1) (89 + 86 * n + w) = 0 := fun w hw => by
          rw [g2.2 _ (by omega), hu _ (by omega) (by omega) (by omega), h4 _ (by omega)]; exact hz _ (by omega) (by omega)
        refine X_dl [some (.ref h), some (.int v1), some (.int v2), some (.int v3), some (.int (nI (n + 1))), none] ⟨rfl, rfl, rfl, rfl, by rw [nI_succ]; rfl, trivial⟩ (ih (n + 1) S2 (by omega) (f3.tr g1) (fun m hm => ?_) (fun i hi => ?_))
        · by_cases q : m = n
          · subst q
            refine ⟨?_, ?_, ?_, g2.1, hz2 2 (by omega), hz2 3 (by omega), hz2 4 (by omega), hz2 6 (by omega)⟩
            · rw [g2.2 _ (by omega), setI_ne _ _ (Or.inr (by omega)), setI_ne _ _ (Or.inr (by omega)), setI_at]
            · rw [g2.2 _ (by omega), setI_ne _ _ (Or.inr (by omega)), setI_at]
            · rw [g2.2 _ (by omega), setI_at]
          · exact (h3 m (by omega)).same (fun i q1 q2 => hs2 i (by omega))
        · rw [hs2 i (by omega)]; exact h4 i (by omega)
    · refine X_iconst (v := 1) hB dX12_taken_162 (by decide) ?_
      refine X_goto (tgt := 167) hB dX12_taken_163 (by decide) ?_
      refine X_topi (y := if mp n then 1 else 0) (by rw [if_pos (show mp n = true from if1 c159)]) ?_
      refine X_callV hB kX12_170 cw10 hR.1.1 hR.1.2 (c_layE (n := n) (w := 0) hR hF1 rfl rfl hn8 (by decide)) (by decide) (by decide) rfl rfl (Nat.le_of_ble_eq_true rfl) dX12_taken_167 (fun r167 S167 q167 => ?_)
      obtain ⟨rfl, rfl⟩ := q167
      refine X_aload_n (i := 0) hB dX12_taken_170 rfl rfl ?_
      refine X_iload hB dX12_taken_171 rfl ?_
      refine X_iconst (v := 1) hB dX12_taken_173 (by decide) ?_
      refine X_aload_n (i := 0) hB dX12_taken_174 rfl rfl ?_
      refine X_geti hB cw10 fX12_153 rfl hR.1.1 hR.1.2 dX12_taken_175 ?_
      refine X_topi (y := nI (bts df 8)) (by rw [setI_ne _ _ (Or.inl (by omega)), h2.2.2 17 (by simp)]; exact h17) ?_
      refine X_iload hB dX12_taken_178 rfl ?_
      refine X_callS hB kX12_166 (c_has (m := bts df 8) (k := n) (bts_8 df) hn8) (by decide) (by decide) rfl rfl (Nat.le_of_ble_eq_true rfl) dX12_taken_180 (fun r180 S180 q180 => ?_)
      obtain ⟨rfl, rfl⟩ := q180
      refine X_topi (y := if df n then 1 else 0) (by rw [b17]) ?_
      refine X_if_eq (tgt := 190) hB dX12_taken_183 (by decide) (fun c183 => ?_) (fun c183 => ?_)
      · refine X_iconst (v := 1) hB dX12_taken_190 (by decide) ?_
        refine X_topi (y := if df n then 0 else 1) (by rw [if_neg (if1n c183)]) ?_
        refine X_callV hB kX12_170 cw10 hR.1.1 hR.1.2 (c_layE (n := n) (w := 1) hR (hF1.of rfl) rfl rfl hn8 (by decide)) (by decide) (by decide) rfl rfl (Nat.le_of_ble_eq_true rfl) dX12_taken_191 (fun r191 S191 q191 => ?_)
        obtain ⟨rfl, rfl⟩ := q191
        refine X_aload_n (i := 0) hB dX12_taken_194 rfl rfl ?_
        refine X_iload hB dX12_taken_195 rfl ?_
        refine X_iconst (v := 5) hB dX12_taken_197 (by decide) ?_
        refine X_iconst (v := (-1)) hB dX12_taken_198 (by decide) ?_
        refine X_callV hB kX12_170 cw10 hR.1.1 hR.1.2 (c_layE (n := n) (w := 5) hR (hF1.of rfl) rfl rfl hn8 (by decide)) (by decide) (by decide) rfl rfl (Nat.le_of_ble_eq_true rfl) dX12_taken_199 (fun r199 S199 q199 => ?_)
        obtain ⟨rfl, rfl⟩ := q199
        refine X_iconst (v := 0) hB dX12_taken_202 (by decide) ?_
        refine X_istore hB dX12_taken_203 (by decide) rfl ?_
        have f3 : fr h [h + 1] [] S (setI (setI (setI S1 (h + 1) (89 + 86 * n + 0) (if mp n then 1 else 0)) (h + 1) (89 + 86 * n + 1) (if df n then 0 else 1)) (h + 1) (89 + 86 * n + 5) (-1)) := ((h2.tr (fr.set (by simp) (by omega))).tr (fr.set (by simp) (by omega))).tr (fr.set (by simp) (by omega))
        refine X_lv (lv' := [some (.ref h), some (.int v1), some (.int v2), some (.int v3), some (.int (nI n)), some (.int (nI 0))]) (by rw [nI_0]; rfl) (a_taken (S := (setI (setI (setI S1 (h + 1) (89 + 86 * n + 0) (if mp n then 1 else 0)) (h + 1) (89 + 86 * n + 1) (if df n then 0 else 1)) (h + 1) (89 + 86 * n + 5) (-1))) hR (hF1.of rfl) hB v1 v2 v3 n hn8 (fun S2 v g1 g2 => ?_) 8 0 _ (by omega) fr.rf ⟨fun t ht => by omega, fun i hi => rfl⟩)
        refine X_iinc hB dX12_taken_230 rfl rfl (by decide) rfl ?_
        refine X_goto (tgt := 139) hB dX12_taken_233 (by decide) ?_
        have hu : ∀ i, i ≠ 89 + 86 * n + 0 → i ≠ 89 + 86 * n + 1 → i ≠ 89 + 86 * n + 5 → (setI (setI (setI S1 (h + 1) (89 + 86 * n + 0) (if mp n then 1 else 0)) (h + 1) (89 + 86 * n + 1) (if df n then 0 else 1)) (h + 1) (89 + 86 * n + 5) (-1)).1 (h + 1) i = S1.1 (h + 1) i := fun i q0 q1 q5 => by rw [setI_ne _ _ (Or.inr q5), setI_ne _ _ (Or.inr q1), setI_ne _ _ (Or.inr q0)]
        have hs2 : ∀ i, i < 89 + 86 * n ∨ 89 + 86 * n + 86 ≤ i → S2.1 (h + 1) i = S1.1 (h + 1) i := fun i hi => (g2.2 i (by omega)).trans (hu i (by omega) (by omega) (by omega))
        have hz2 : ∀ w, (w = 2 ∨ w = 3 ∨ w = 4 ∨ w = 6) → S2.1 (h + 1) (89 + 86 * n + w) = 0 := fun w hw => by
          rw [g2.2 _ (by omega), hu _ (by omega) (by omega) (by omega), h4 _ (by omega)]; exact hz _ (by omega) (by omega)
        refine X_dl [some (.ref h), some (.int v1), some (.int v2), some (.int v3), some (.int (nI (n + 1))), none] ⟨rfl, rfl, rfl, rfl, by rw [nI_succ]; rfl, trivial⟩ (ih (n + 1) S2 (by omega) (f3.tr g1) (fun m hm => ?_) (fun i hi => ?_))
        · by_cases q : m = n
          · subst q
            refine ⟨?_, ?_, ?_, g2.1, hz2 2 (by omega), hz2 3 (by omega), hz2 4 (by omega), hz2 6 (by omega)⟩
            · rw [g2.2 _ (by omega), setI_ne _ _ (Or.inr (by omega)), setI_ne _ _ (Or.inr (by omega)), setI_at]
            · rw [g2.2 _ (by omega), setI_ne _ _ (Or.inr (by omega)), setI_at]
            · rw [g2.2 _ (by omega), setI_at]
          · exact (h3 m (by omega)).same (fun i q1 q2 => hs2 i (by omega))
        · rw [hs2 i (by omega)]; exact h4 i (by omega)
      · refine X_iconst (v := 0) hB dX12_taken_186 (by decide) ?_
        refine X_goto (tgt := 191) hB dX12_taken_187 (by decide) ?_
        refine X_topi (y := if df n then 0 else 1) (by rw [if_pos (show df n = true from if1 c183)]) ?_
        refine X_callV hB kX12_170 cw10 hR.1.1 hR.1.2 (c_layE (n := n) (w := 1) hR (hF1.of rfl) rfl rfl hn8 (by decide)) (by decide) (by decide) rfl rfl (Nat.le_of_ble_eq_true rfl) dX12_taken_191 (fun r191 S191 q191 => ?_)
        obtain ⟨rfl, rfl⟩ := q191
        refine X_aload_n (i := 0) hB dX12_taken_194 rfl rfl ?_
        refine X_iload hB dX12_taken_195 rfl ?_
        refine X_iconst (v := 5) hB dX12_taken_197 (by decide) ?_
        refine X_iconst (v := (-1)) hB dX12_taken_198 (by decide) ?_
        refine X_callV hB kX12_170 cw10 hR.1.1 hR.1.2 (c_layE (n := n) (w := 5) hR (hF1.of rfl) rfl rfl hn8 (by decide)) (by decide) (by decide) rfl rfl (Nat.le_of_ble_eq_true rfl) dX12_taken_199 (fun r199 S199 q199 => ?_)
        obtain ⟨rfl, rfl⟩ := q199
        refine X_iconst (v := 0) hB dX12_taken_202 (by decide) ?_
        refine X_istore hB dX12_taken_203 (by decide) rfl ?_
        have f3 : fr h [h + 1] [] S (setI (setI (setI S1 (h + 1) (89 + 86 * n + 0) (if mp n then 1 else 0)) (h + 1) (89 + 86 * n + 1) (if df n then 0 else 1)) (h + 1) (89 + 86 * n + 5) (-1)) := ((h2.tr (fr.set (by simp) (by omega))).tr (fr.set (by simp) (by omega))).tr (fr.set (by simp) (by omega))
        refine X_lv (lv' := [some (.ref h), some (.int v1), some (.int v2), some (.int v3), some (.int (nI n)), some (.int (nI 0))]) (by rw [nI_0]; rfl) (a_taken (S := (setI (setI (setI S1 (h + 1) (89 + 86 * n + 0) (if mp n then 1 else 0)) (h + 1) (89 + 86 * n + 1) (if df n then 0 else 1)) (h + 1) (89 + 86 * n + 5) (-1))) hR (hF1.of rfl) hB v1 v2 v3 n hn8 (fun S2 v g1 g2 => ?_) 8 0 _ (by omega) fr.rf ⟨fun t ht => by omega, fun i hi => rfl⟩)
        refine X_iinc hB dX12_taken_230 rfl rfl (by decide) rfl ?_
        refine X_goto (tgt := 139) hB dX12_taken_233 (by decide) ?_
        have hu : ∀ i, i ≠ 89 + 86 * n + 0 → i ≠ 89 + 86 * n + 1 → i ≠ 89 + 86 * n + 5 → (setI (setI (setI S1 (h + 1) (89 + 86 * n + 0) (if mp n then 1 else 0)) (h + 1) (89 + 86 * n + 1) (if df n then 0 else 1)) (h + 1) (89 + 86 * n + 5) (-1)).1 (h + 1) i = S1.1 (h + 1) i := fun i q0 q1 q5 => by rw [setI_ne _ _ (Or.inr q5), setI_ne _ _ (Or.inr q1), setI_ne _ _ (Or.inr q0)]
        have hs2 : ∀ i, i < 89 + 86 * n ∨ 89 + 86 * n + 86 ≤ i → S2.1 (h + 1) i = S1.1 (h + 1) i := fun i hi => (g2.2 i (by omega)).trans (hu i (by omega) (by omega) (by omega))
        have hz2 : ∀ w, (w = 2 ∨ w = 3 ∨ w = 4 ∨ w = 6) → S2.1 (h + 1) (89 + 86 * n + w) = 0 := fun w hw => by
          rw [g2.2 _ (by omega), hu _ (by omega) (by omega) (by omega), h4 _ (by omega)]; exact hz _ (by omega) (by omega)
        refine X_dl [some (.ref h), some (.int v1), some (.int v2), some (.int v3), some (.int (nI (n + 1))), none] ⟨rfl, rfl, rfl, rfl, by rw [nI_succ]; rfl, trivial⟩ (ih (n + 1) S2 (by omega) (f3.tr g1) (fun m hm => ?_) (fun i hi => ?_))
        · by_cases q : m = n
          · subst q
            refine ⟨?_, ?_, ?_, g2.1, hz2 2 (by omega), hz2 3 (by omega), hz2 4 (by omega), hz2 6 (by omega)⟩
            · rw [g2.2 _ (by omega), setI_ne _ _ (Or.inr (by omega)), setI_ne _ _ (Or.inr (by omega)), setI_at]
            · rw [g2.2 _ (by omega), setI_ne _ _ (Or.inr (by omega)), setI_at]
            · rw [g2.2 _ (by omega), setI_at]
          · exact (h3 m (by omega)).same (fun i q1 q2 => hs2 i (by omega))
        · rw [hs2 i (by omega)]; exact h4 i (by omega)
set_option maxRecDepth 100000 in
set_option maxHeartbeats 4000000 in
theorem c_taken (hR : RLay G h) (hF : RRef S h) (pr : Ps) (hE : trE S h pr) (se : Nat → Nat) (hse : ∀ k, (11 ≤ k ∧ k < 14) ∨ 2457 ≤ k → S.1 (h + 1) k = nI (se k)) : C G mX12_taken 1 [.ref h] S (fun r S' => r = none ∧ fr h [h + 1] [] S S' ∧ netR (S'.1 (h + 1)) (nwN pr se) ∧ ∀ i, 2457 ≤ i → S'.1 (h + 1) i = S.1 (h + 1) i) := by
  refine C.mk (lv := [some (.ref h), none, none, none, none, none]) (by decide) (Nat.le_of_ble_eq_true rfl) rfl (fun E hB => ?_)
  refine X_aload_n (i := 0) hB dX12_taken_0 rfl rfl ?_
  refine X_getr hB cw10 fX12_7 rfl hR.1.1 hR.1.2 hF.1 dX12_taken_1 ?_
  refine X_bipush (v := 11) hB dX12_taken_4 (by decide) ?_
  refine X_ialdN hB (11) hR.2.1.1 hR.2.1.2 (by decide) rfl (by decide) rfl dX12_taken_6 ?_
  refine X_istore_n (i := 1) hB dX12_taken_7 rfl (by decide) rfl ?_
  refine X_aload_n (i := 0) hB dX12_taken_8 rfl rfl ?_
  refine X_getr hB cw10 fX12_7 rfl hR.1.1 hR.1.2 hF.1 dX12_taken_9 ?_
  refine X_bipush (v := 12) hB dX12_taken_12 (by decide) ?_
  refine X_ialdN hB (12) hR.2.1.1 hR.2.1.2 (by decide) rfl (by decide) rfl dX12_taken_14 ?_
  refine X_istore_n (i := 2) hB dX12_taken_15 rfl (by decide) rfl ?_
  refine X_aload_n (i := 0) hB dX12_taken_16 rfl rfl ?_
  refine X_getr hB cw10 fX12_7 rfl hR.1.1 hR.1.2 hF.1 dX12_taken_17 ?_
  refine X_bipush (v := 13) hB dX12_taken_20 (by decide) ?_
  refine X_ialdN hB (13) hR.2.1.1 hR.2.1.2 (by decide) rfl (by decide) rfl dX12_taken_22 ?_
  refine X_istore_n (i := 3) hB dX12_taken_23 rfl (by decide) rfl ?_
  refine X_iconst (v := 0) hB dX12_taken_24 (by decide) ?_
  refine X_istore hB dX12_taken_25 (by decide) rfl ?_
  generalize hv1 : S.1 (h + 1) 11 = v1
  generalize hv2 : S.1 (h + 1) 12 = v2
  generalize hv3 : S.1 (h + 1) 13 = v3
  refine X_lv (lv' := [some (.ref h), some (.int v1), some (.int v2), some (.int v3), some (.int (nI 0)), none]) (by rw [nI_0]; rfl) (z_taken (S := S) hR hF hB v1 v2 v3 (fun S1 w1 a1 a2 => ?_) 2457 0 S (by omega) fr.rf ⟨fun m hm => by omega, fun m hm => rfl⟩)
  have hF1 := a1.ref hF
  refine X_aload_n (i := 0) hB dX12_taken_49 rfl rfl ?_
  refine X_getr hB cw10 fX12_7 rfl hR.1.1 hR.1.2 hF1.1 dX12_taken_50 ?_
  refine X_bipush (v := 11) hB dX12_taken_53 (by decide) ?_
  refine X_iload_n (i := 1) hB dX12_taken_55 rfl rfl ?_
  refine X_iastN hB (11) hR.2.1.1 hR.2.1.2 (by decide) rfl (by decide) dX12_taken_56 ?_
  refine X_aload_n (i := 0) hB dX12_taken_57 rfl rfl ?_
  refine X_getr hB cw10 fX12_7 rfl hR.1.1 hR.1.2 hF1.1 dX12_taken_58 ?_
  refine X_bipush (v := 12) hB dX12_taken_61 (by decide) ?_
  refine X_iload_n (i := 2) hB dX12_taken_63 rfl rfl ?_
  refine X_iastN hB (12) hR.2.1.1 hR.2.1.2 (by decide) rfl (by decide) dX12_taken_64 ?_
  refine X_aload_n (i := 0) hB dX12_taken_65 rfl rfl ?_
  refine X_getr hB cw10 fX12_7 rfl hR.1.1 hR.1.2 hF1.1 dX12_taken_66 ?_
  refine X_bipush (v := 13) hB dX12_taken_69 (by decide) ?_
  refine X_iload_n (i := 3) hB dX12_taken_71 rfl rfl ?_
  refine X_iastN hB (13) hR.2.1.1 hR.2.1.2 (by decide) rfl (by decide) dX12_taken_72 ?_
  refine X_iconst (v := 0) hB dX12_taken_73 (by decide) ?_
  refine X_istore hB dX12_taken_74 (by decide) rfl ?_
  generalize hT : setI (setI (setI S1 (h + 1) 11 v1) (h + 1) 12 v2) (h + 1) 13 v3 = T
  have t1 : fr h [h + 1] [] S T := by rw [← hT]; exact ((a1.tr (fr.set (by simp) (by omega))).tr (fr.set (by simp) (by omega))).tr (fr.set (by simp) (by omega))
  have t2 : T.1 (h + 1) 11 = v1 ∧ T.1 (h + 1) 12 = v2 ∧ T.1 (h + 1) 13 = v3 := by
    rw [← hT]
    exact ⟨by rw [setI_ne _ _ (Or.inr (by decide)), setI_ne _ _ (Or.inr (by decide)), setI_at], by rw [setI_ne _ _ (Or.inr (by decide)), setI_at], setI_at _ _ _ _⟩
  have t3 : ∀ i, i < 11 ∨ 14 ≤ i → T.1 (h + 1) i = S1.1 (h + 1) i := fun i hi => by rw [← hT, setI_ne _ _ (Or.inr (by omega)), setI_ne _ _ (Or.inr (by omega)), setI_ne _ _ (Or.inr (by omega))]
  clear hT
  have hFt := t1.ref hF
  refine X_dl [some (.ref h), some (.int v1), some (.int v2), some (.int v3), some (.int (nI 0)), none] ⟨rfl, rfl, rfl, rfl, by rw [nI_0], trivial⟩ (t_taken (S := T) hR hFt hB v1 v2 v3 (fun S2 w2 b1 b2 => ?_) 8 0 T (by omega) fr.rf ⟨fun m hm => by omega, fun m hm => rfl⟩)
  have hF2 := b1.ref hFt
  refine X_iconst (v := 0) hB dX12_taken_103 (by decide) ?_
  refine X_istore hB dX12_taken_104 (by decide) rfl ?_
  refine X_dl [some (.ref h), some (.int v1), some (.int v2), some (.int v3), some (.int (nI 0)), none] ⟨rfl, rfl, rfl, rfl, by rw [nI_0], trivial⟩ (u_taken (S := S2) hR hF2 hB v1 v2 v3 (fun S3 w3 d1 d2 => ?_) 64 0 S2 (by omega) fr.rf ⟨fun m hm => by omega, fun m hm => rfl⟩)
  have hF3 := d1.ref hF2
  refine X_iconst (v := 0) hB dX12_taken_136 (by decide) ?_
  refine X_istore hB dX12_taken_137 (by decide) rfl ?_
  have fl : ∀ k, S3.1 h k = S.1 h k := fun k => ((d1.2.2 k (by simp)).trans (b1.2.2 k (by simp))).trans (t1.2.2 k (by simp))
  have e4 : T.1 (h + 4) = S.1 (h + 4) := t1.2.1 _ (by simp) (by omega)
  have e5 : S2.1 (h + 5) = S.1 (h + 5) := (b1.2.1 _ (by simp) (by omega)).trans (t1.2.1 _ (by simp) (by omega))
  have hi3 : ∀ i, (8 ≤ i ∧ i < 25) ∨ 89 ≤ i → S3.1 (h + 1) i = T.1 (h + 1) i := fun i hi => (d2.2 i (by omega)).trans (b2.2 i (by omega))
  have hz : ∀ i, i < 2457 → (8 ≤ i ∧ i < 11) ∨ (14 ≤ i ∧ i < 25) ∨ 89 ≤ i → S3.1 (h + 1) i = 0 := fun i h7 hi => by rw [hi3 i (by omega), t3 i (by omega)]; exact a2.1 i h7
  refine X_dl [some (.ref h), some (.int v1), some (.int v2), some (.int v3), some (.int (nI 0)), none] ⟨rfl, rfl, rfl, rfl, by rw [nI_0], trivial⟩ (n_taken (S := S3) hR hF3 hB v1 v2 v3 (pMp pr) (pDf pr) (by rw [fl]; exact hE.2.2.2.1) (by rw [fl]; exact hE.2.2.2.2) (fun i q1 q2 => hz i (by omega) (by omega)) (fun S4 g1 g2 g3 => ?_) 8 0 S3 (by omega) fr.rf (fun m hm => by omega) (fun i hi => rfl))
  refine ⟨rfl, ((t1.tr b1).tr d1).tr g1, netR_new (fun k hk => ?_) (fun k hk => ?_) ⟨?_, ?_, ?_⟩ (fun k hk => ?_) (fun a b ha hb => ?_) g2, fun i hi => ?_⟩
  · rw [g3 k (by omega), d2.2 k (by omega), b2.1 k hk, e4]; exact hE.2.1 k hk
  · rw [g3 k (by omega), hi3 k (by omega), ← hse k hk]
    rcases hk with hk | hk
    · rcases (show k = 11 ∨ k = 12 ∨ k = 13 by omega) with rfl | rfl | rfl
      · rw [t2.1, hv1]
      · rw [t2.2.1, hv2]
      · rw [t2.2.2, hv3]
    · rw [t3 k (by omega)]; exact a2.2 k hk
  · rw [g3 _ (by omega)]; exact hz _ (by omega) (by omega)
  · rw [g3 _ (by omega)]; exact hz _ (by omega) (by omega)
  · rw [g3 _ (by omega)]; exact hz _ (by omega) (by omega)
  · rw [g3 _ (by omega)]; exact hz _ (by omega) (by omega)
  · rw [g3 _ (by omega), show 25 + 8 * a + b = 25 + (8 * a + b) by omega, d2.1 _ (by omega), e5]; exact hE.2.2.1 a b ha hb
  · rw [g3 _ (by omega), hi3 i (by omega), t3 i (by omega)]; exact a2.2 i hi
set_option maxRecDepth 100000 in
set_option maxHeartbeats 4000000 in
theorem c_startsAll (hR : RLay G h) (hF : RRef S h) (se : Nat → Nat) (hse : ∀ k, (11 ≤ k ∧ k < 14) ∨ 2457 ≤ k → S.1 (h + 1) k = nI (se k)) : C G mX12_startsAll 2 [.ref h] S (fun r S' => r = none ∧ frT h [h + 1, h + 4, h + 5, h + 6] [4, 11, 16, 17] S S' ∧ netR (S'.1 (h + 1)) (nwN ps0 se) ∧ ∀ i, 2457 ≤ i → S'.1 (h + 1) i = S.1 (h + 1) i) := by
  refine C.mk (lv := [some (.ref h)]) (by decide) (Nat.le_of_ble_eq_true rfl) rfl (fun E hB => ?_)
  refine X_aload_n (i := 0) hB dX12_startsAll_0 rfl rfl ?_
  refine X_callV hB kX12_160 cw10 hR.1.1 hR.1.2 (c_atFirst hR hF) (by decide) (by decide) rfl rfl (Nat.le_of_ble_eq_true rfl) dX12_startsAll_1 (fun r1 S1 q1 => ?_)
  obtain ⟨rfl, k1, k2, k3⟩ := q1
  refine X_aload_n (i := 0) hB dX12_startsAll_4 rfl rfl ?_
  refine X_callV hB kX12_163 cw10 hR.1.1 hR.1.2 (c_taken hR (k1.ref hF) ps0 (k3.2.2 rfl) se (fun k hk => by rw [k1.2.2.1 _ (by simp) (by omega)]; exact hse k hk)) (by decide) (by decide) rfl rfl (Nat.le_of_ble_eq_true rfl) dX12_startsAll_5 (fun r5 S5 q5 => ?_)
  obtain ⟨rfl, m1, m2, m3⟩ := q5
  refine X_vret hB rfl dX12_startsAll_8 ?_
  exact ⟨rfl, (k1.mono (by simp) (fun _ q => q)).tr (m1.t.mono (by simp) (by simp)), m2, fun i hi => by rw [m3 i hi, k1.2.2.1 _ (by simp) (by omega)]⟩
set_option maxRecDepth 100000 in
set_option maxHeartbeats 4000000 in
theorem c_fault (hR : RLay G h) (hF : RRef S h) (σ : Net) (hN : netR (S.1 (h + 1)) σ) (p : Bool) : C G mX12_fault 0 [.ref h, .int (if p then 1 else 0)] S (fun r S' => r = some (.int (nI (nSe σ (if p then 13 else 12)))) ∧ fr h [] [0] S S') := by
  refine C.mk (lv := [some (.ref h), some (.int (if p then 1 else 0))]) (by decide) (Nat.le_of_ble_eq_true rfl) rfl (fun E hB => ?_)
  refine X_aload_n (i := 0) hB dX12_fault_0 rfl rfl ?_
  refine X_iconst (v := 0) hB dX12_fault_1 (by decide) ?_
  refine X_puti hB cw10 fX12_51 rfl rfl hR.1.1 hR.1.2 dX12_fault_2 ?_
  refine X_iload_n (i := 1) hB dX12_fault_5 rfl rfl ?_
  refine X_if_eq (tgt := 19) hB dX12_fault_6 (by decide) (fun c6 => ?_) (fun c6 => ?_)
  · refine X_aload_n (i := 0) hB dX12_fault_19 rfl rfl ?_
    refine X_getr hB cw10 fX12_7 rfl hR.1.1 hR.1.2 hF.1 dX12_fault_20 ?_
    refine X_bipush (v := 12) hB dX12_fault_23 (by decide) ?_
    refine X_ialdN hB (12) hR.2.1.1 hR.2.1.2 (by decide) rfl (by decide) ((setI_ne _ _ (Or.inl (by omega))).trans (hN.1.1 12 (by omega))) dX12_fault_25 ?_
    refine X_iret hB rfl dX12_fault_26 ?_
    cases p with
    | true => exact absurd c6 (by decide)
    | false => exact ⟨rfl, fr.fld (by simp)⟩
  · refine X_aload_n (i := 0) hB dX12_fault_9 rfl rfl ?_
    refine X_getr hB cw10 fX12_7 rfl hR.1.1 hR.1.2 hF.1 dX12_fault_10 ?_
    refine X_bipush (v := 13) hB dX12_fault_13 (by decide) ?_
    refine X_ialdN hB (13) hR.2.1.1 hR.2.1.2 (by decide) rfl (by decide) ((setI_ne _ _ (Or.inl (by omega))).trans (hN.1.1 13 (by omega))) dX12_fault_15 ?_
    refine X_goto (tgt := 26) hB dX12_fault_16 (by decide) ?_
    refine X_iret hB rfl dX12_fault_26 ?_
    cases p with
    | false => exact absurd rfl c6
    | true => exact ⟨rfl, fr.fld (by simp)⟩
end REF
