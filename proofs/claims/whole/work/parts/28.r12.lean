def dSt (x : Da) (v : Nat) : Da := (x.1, x.2.1, v, x.2.2.2)
def dSv (x : Da) (v : Nat) : Da := (x.1, x.2.1, x.2.2.1, v, x.2.2.2.2)
def dRe (x : Da) (w : List Nat) : Da := (x.1, x.2.1, x.2.2.1, x.2.2.2.1, x.2.2.2.2.1, w, x.2.2.2.2.2.2)
def dDo (x : Da) (v : Option Nat) : Da := (x.1, x.2.1, x.2.2.1, x.2.2.2.1, x.2.2.2.2.1, x.2.2.2.2.2.1, x.2.2.2.2.2.2.1, v, x.2.2.2.2.2.2.2.2)
def dSh (x : Da) (v : Nat) : Da := (x.1, x.2.1, x.2.2.1, x.2.2.2.1, x.2.2.2.2.1, x.2.2.2.2.2.1, x.2.2.2.2.2.2.1, x.2.2.2.2.2.2.2.1, v, x.2.2.2.2.2.2.2.2.2)
def dSi (x : Da) (v : Nat) : Da := (x.1, x.2.1, x.2.2.1, x.2.2.2.1, x.2.2.2.2.1, x.2.2.2.2.2.1, x.2.2.2.2.2.2.1, x.2.2.2.2.2.2.2.1, x.2.2.2.2.2.2.2.2.1, v)
def dTr (x : Da) (w : List Nat) : Da := (x.1, x.2.1, x.2.2.1, x.2.2.2.1, w, x.2.2.2.2.2)
theorem daR_St {A : Nat → Int32} {d : Nat} {x : Da} {v : Nat} (hx : daR A d x) (ht : (aTr x).length ≤ 8) (hr : (aRe x).length ≤ 8) (hsi : v = 0 → A (1417 + 26 * d + 9) = nI (aSi x)) : daR (upd A (1417 + 26 * d + 2) (nI v)) d (dSt x v) := by
  obtain ⟨g1, g2, g3, g4, g5, g6, g7, g8, g9, g10, g11, g12⟩ := hx
  exact ⟨by rw [upd_ne _ _ (by omega)]; exact g1, by rw [upd_ne _ _ (by omega)]; exact g2, by rw [upd_at]; rfl, by rw [upd_ne _ _ (by omega)]; exact g4, by rw [upd_ne _ _ (by omega)]; exact g5, by rw [upd_ne _ _ (by omega)]; exact g6, by rw [upd_ne _ _ (by omega)]; exact g7, by rw [upd_ne _ _ (by omega)]; exact g8, by rw [upd_ne _ _ (by omega)]; exact g9, fun q => by rw [upd_ne _ _ (by omega)]; exact hsi q, fun i q => by rw [upd_ne _ _ (by omega)]; exact g11 i q, fun i q => by rw [upd_ne _ _ (by omega)]; exact g12 i q⟩
theorem daR_Sv {A : Nat → Int32} {d : Nat} {x : Da} {v : Nat} (hx : daR A d x) (ht : (aTr x).length ≤ 8) (hr : (aRe x).length ≤ 8) : daR (upd A (1417 + 26 * d + 3) (nI v)) d (dSv x v) := by
  obtain ⟨g1, g2, g3, g4, g5, g6, g7, g8, g9, g10, g11, g12⟩ := hx
  exact ⟨by rw [upd_ne _ _ (by omega)]; exact g1, by rw [upd_ne _ _ (by omega)]; exact g2, by rw [upd_ne _ _ (by omega)]; exact g3, by rw [upd_at]; rfl, by rw [upd_ne _ _ (by omega)]; exact g5, by rw [upd_ne _ _ (by omega)]; exact g6, by rw [upd_ne _ _ (by omega)]; exact g7, by rw [upd_ne _ _ (by omega)]; exact g8, by rw [upd_ne _ _ (by omega)]; exact g9, fun q => by rw [upd_ne _ _ (by omega)]; exact g10 q, fun i q => by rw [upd_ne _ _ (by omega)]; exact g11 i q, fun i q => by rw [upd_ne _ _ (by omega)]; exact g12 i q⟩
theorem daR_Do {A : Nat → Int32} {d : Nat} {x : Da} {v : Option Nat} (hx : daR A d x) (ht : (aTr x).length ≤ 8) (hr : (aRe x).length ≤ 8) : daR (upd A (1417 + 26 * d + 7) (akN v)) d (dDo x v) := by
  obtain ⟨g1, g2, g3, g4, g5, g6, g7, g8, g9, g10, g11, g12⟩ := hx
  exact ⟨by rw [upd_ne _ _ (by omega)]; exact g1, by rw [upd_ne _ _ (by omega)]; exact g2, by rw [upd_ne _ _ (by omega)]; exact g3, by rw [upd_ne _ _ (by omega)]; exact g4, by rw [upd_ne _ _ (by omega)]; exact g5, by rw [upd_ne _ _ (by omega)]; exact g6, by rw [upd_ne _ _ (by omega)]; exact g7, by rw [upd_at]; rfl, by rw [upd_ne _ _ (by omega)]; exact g9, fun q => by rw [upd_ne _ _ (by omega)]; exact g10 q, fun i q => by rw [upd_ne _ _ (by omega)]; exact g11 i q, fun i q => by rw [upd_ne _ _ (by omega)]; exact g12 i q⟩
theorem daR_Sh {A : Nat → Int32} {d : Nat} {x : Da} {v : Nat} (hx : daR A d x) (ht : (aTr x).length ≤ 8) (hr : (aRe x).length ≤ 8) : daR (upd A (1417 + 26 * d + 8) (nI v)) d (dSh x v) := by
  obtain ⟨g1, g2, g3, g4, g5, g6, g7, g8, g9, g10, g11, g12⟩ := hx
  exact ⟨by rw [upd_ne _ _ (by omega)]; exact g1, by rw [upd_ne _ _ (by omega)]; exact g2, by rw [upd_ne _ _ (by omega)]; exact g3, by rw [upd_ne _ _ (by omega)]; exact g4, by rw [upd_ne _ _ (by omega)]; exact g5, by rw [upd_ne _ _ (by omega)]; exact g6, by rw [upd_ne _ _ (by omega)]; exact g7, by rw [upd_ne _ _ (by omega)]; exact g8, by rw [upd_at]; rfl, fun q => by rw [upd_ne _ _ (by omega)]; exact g10 q, fun i q => by rw [upd_ne _ _ (by omega)]; exact g11 i q, fun i q => by rw [upd_ne _ _ (by omega)]; exact g12 i q⟩
theorem daR_Si {A : Nat → Int32} {d : Nat} {x : Da} {v : Nat} (hx : daR A d x) (ht : (aTr x).length ≤ 8) (hr : (aRe x).length ≤ 8) : daR (upd A (1417 + 26 * d + 9) (nI v)) d (dSi x v) := by
  obtain ⟨g1, g2, g3, g4, g5, g6, g7, g8, g9, g10, g11, g12⟩ := hx
  exact ⟨by rw [upd_ne _ _ (by omega)]; exact g1, by rw [upd_ne _ _ (by omega)]; exact g2, by rw [upd_ne _ _ (by omega)]; exact g3, by rw [upd_ne _ _ (by omega)]; exact g4, by rw [upd_ne _ _ (by omega)]; exact g5, by rw [upd_ne _ _ (by omega)]; exact g6, by rw [upd_ne _ _ (by omega)]; exact g7, by rw [upd_ne _ _ (by omega)]; exact g8, by rw [upd_ne _ _ (by omega)]; exact g9, fun _ => by rw [upd_at]; rfl, fun i q => by rw [upd_ne _ _ (by omega)]; exact g11 i q, fun i q => by rw [upd_ne _ _ (by omega)]; exact g12 i q⟩
theorem daR_Re0 {A : Nat → Int32} {d : Nat} {x : Da} (hx : daR A d x) (ht : (aTr x).length ≤ 8) : daR (upd A (1417 + 26 * d + 5) 0) d (dRe x []) := by
  obtain ⟨g1, g2, g3, g4, g5, g6, g7, g8, g9, g10, g11, g12⟩ := hx
  exact ⟨by rw [upd_ne _ _ (by omega)]; exact g1, by rw [upd_ne _ _ (by omega)]; exact g2, by rw [upd_ne _ _ (by omega)]; exact g3, by rw [upd_ne _ _ (by omega)]; exact g4, by rw [upd_ne _ _ (by omega)]; exact g5, by rw [upd_at]; rfl, by rw [upd_ne _ _ (by omega)]; exact g7, by rw [upd_ne _ _ (by omega)]; exact g8, by rw [upd_ne _ _ (by omega)]; exact g9, fun q => by rw [upd_ne _ _ (by omega)]; exact g10 q, fun i q => by rw [upd_ne _ _ (by omega)]; exact g11 i q, fun i q => by simp [aRe, dRe] at q⟩
def sendF (σ : Net) (f : Fm) : Net × Bool := if (nAir σ).length = 40 then (uTa σ 8, false) else (uTa (uAir σ (nAir σ ++ [f])) (fKi f), true)
def doneD (σ : Net) (d st : Nat) : Net := uTa (uDa σ d (dRe (dDo (dSt (dat σ d) st) (some (nNow σ))) [])) (if st = 2 then 9 else 10)
def trL (x : Da) : Nat := (aTr x).getD ((aTr x).length - 1) 0
def flyOn (σ : Net) (d : Nat) : Net := if (sendF (uDa σ d (dSt (dat σ d) 1)) (0, trL (dat σ d), d, 0, none, [])).2 then (sendF (uDa σ d (dSt (dat σ d) 1)) (0, trL (dat σ d), d, 0, none, [])).1 else doneD (sendF (uDa σ d (dSt (dat σ d) 1)) (0, trL (dat σ d), d, 0, none, [])).1 d 3
def flyBy (σ : Net) (d : Nat) (w : List Nat) : Net := flyOn (uDa σ d (dRe (dat σ d) w)) d
def fAdd (f : Fm) (x : Nat) : Fm := (f.1, f.2.1, f.2.2.1, f.2.2.2.1, f.2.2.2.2.1, f.2.2.2.2.2 ++ [x])
theorem szN_ta {σ : Net} {k : Nat} (h : szN σ) : szN (uTa σ k) := h
theorem szN_da {σ : Net} {d : Nat} {x : Da} (h : szN σ) (h1 : (aTr x).length ≤ 8) (h2 : (aRe x).length ≤ 8) : szN (uDa σ d x) := by
  obtain ⟨g1, g2, g3, g4, g5⟩ := h
  refine ⟨g1, by simpa [nDa, uDa] using g2, g3, g4, fun y hy => ?_⟩
  rcases List.mem_or_eq_of_mem_set hy with q | q
  · exact g5 y q
  · rw [q]; exact ⟨h1, h2⟩
theorem szN_push {σ : Net} {f : Fm} (h : szN σ) (hl : (nAir σ).length < 40) (hf : (fRo f).length ≤ 8) : szN (uAir σ (nAir σ ++ [f])) := by
  obtain ⟨g1, g2, g3, g4, g5⟩ := h
  refine ⟨by have e9 : (nAir (uAir σ (nAir σ ++ [f]))).length = (nAir σ).length + 1 := by simp [nAir, uAir]
             omega, g2, g3, fun y hy => ?_, g5⟩
  rcases List.mem_append.mp hy with q | q
  · exact g4 y q
  · rw [List.mem_singleton.mp q]; exact hf
theorem szN_send {σ : Net} {f : Fm} (h : szN σ) (hf : (fRo f).length ≤ 8) : szN (sendF σ f).1 := by
  unfold sendF
  have := h.1
  split
  · exact szN_ta h
  · exact szN_ta (szN_push h (by omega) hf)
theorem szN_nd {σ : Net} {n : Nat} {x : Nd} (h : szN σ) (h1 : okC (dMap x) (nSe σ 2) (dCa x)) (h2 : (dTb x).length ≤ 6) (h3 : (dBu x).length ≤ 4) : szN (uNd σ n x) := by
  obtain ⟨g1, g2, g3, g4, g5⟩ := h
  refine ⟨g1, g2, fun m hm => ?_, g4, g5⟩
  by_cases hmn : m = n
  · subst hmn; simp only [nNd, uNd, if_true]; exact ⟨h1, h2, h3⟩
  · simp only [nNd, uNd, if_neg hmn]; exact g3 m hm
theorem dat_set {σ : Net} {d : Nat} {x : Da} (hd : d < (nDa σ).length) : dat (uDa σ d x) d = x := by simp [nDa, uDa, hd]
theorem len_set {σ : Net} {d : Nat} {x : Da} : (nDa (uDa σ d x)).length = (nDa σ).length := by simp [nDa, uDa]
def cpA (A : Nat → Int32) (base : Nat) (F : Nat → Int32) (i : Nat) : Nat → Int32 := fun x => if base ≤ x ∧ x < base + i then F (x - base) else A x
theorem cpA_out {A F : Nat → Int32} {base i x : Nat} (h : x < base ∨ base + i ≤ x) : cpA A base F i x = A x := by unfold cpA; rw [if_neg (by omega)]
theorem cpA_in {A F : Nat → Int32} {base i x : Nat} (h : base ≤ x ∧ x < base + i) : cpA A base F i x = F (x - base) := by unfold cpA; rw [if_pos h]
theorem cpA_step {A F : Nat → Int32} {base i : Nat} : upd (cpA A base F i) (base + i) (F i) = cpA A base F (i + 1) := by
  funext x
  by_cases hx : x = base + i
  · subst hx; rw [upd_at]; unfold cpA; rw [if_pos (by omega)]; congr 1; omega
  · rw [upd_ne _ _ hx]; unfold cpA
    by_cases h2 : base ≤ x ∧ x < base + i
    · rw [if_pos h2, if_pos (by omega)]
    · rw [if_neg h2, if_neg (by omega)]
theorem cpA_0 {A F : Nat → Int32} {base : Nat} : cpA A base F 0 = A := by funext x; unfold cpA; rw [if_neg (by omega)]
section REF
variable {G : Gc} {S : St} {h : Nat}
set_option maxRecDepth 100000 in
set_option maxHeartbeats 4000000 in
theorem l_beginsFrame (hR : RLay G h) (hF : RRef S h) {E : Ev} (hB : Bd G E mX12_beginsFrame) {Q : Option Value → St → Prop} (f : Fm) (kk : ∀ F, (∀ w, w < 7 → F w = fwd_ f w) → Q none (rowI S (h + 11) F)) :
    ∀ (k i : Nat) (F : Nat → Int32), i + k = 16 → 7 ≤ i → (∀ w, w < 7 → F w = fwd_ f w) → X G E mX12_beginsFrame 0 Q (rowI S (h + 11) F) 57 [some (.ref h), some (.int (fwd_ f 0)), some (.int (fwd_ f 1)), some (.int (fwd_ f 2)), some (.int (fwd_ f 3)), some (.int (fwd_ f 4)), some (.int (fwd_ f 5)), some (.int (nI i))] [] := by
  intro k
  induction k with
  | zero =>
    intro i F h1 h2 h3
    refine X_iload hB dX12_beginsFrame_57 rfl ?_
    refine X_bipush (v := 16) hB dX12_beginsFrame_59 (by decide) ?_
    refine X_icmp_ge (tgt := 78) hB dX12_beginsFrame_61 (by decide) (fun c61 => ?_) (fun c61 => absurd c61 (by simp (disch := omega) only [nlit, nI_leI, nI_ltI]; omega))
    refine X_vret hB rfl dX12_beginsFrame_78 ?_
    exact kk F h3
  | succ k ih =>
    intro i F h1 h2 h3
    refine X_iload hB dX12_beginsFrame_57 rfl ?_
    refine X_bipush (v := 16) hB dX12_beginsFrame_59 (by decide) ?_
    refine X_icmp_ge (tgt := 78) hB dX12_beginsFrame_61 (by decide) (fun c61 => absurd c61 (by simp (disch := omega) only [nlit, nI_leI, nI_ltI]; omega)) (fun c61 => ?_)
    refine X_aload_n (i := 0) hB dX12_beginsFrame_64 rfl rfl ?_
    refine X_getr hB cw10 fX12_42 rfl hR.1.1 hR.1.2 hF.2.2.2.2.2.2.2.2.2.2.1 dX12_beginsFrame_65 ?_
    refine X_iload hB dX12_beginsFrame_68 rfl ?_
    refine X_iconst (v := 0) hB dX12_beginsFrame_70 (by decide) ?_
    refine X_iastN hB (i) hR.2.2.2.2.2.2.2.2.2.2.2.1.1 hR.2.2.2.2.2.2.2.2.2.2.2.1.2 (by decide) (by first | rfl | (simp (disch := omega) only [nlit, nI_add, nI_mul, nI_sub]; done) | (simp (disch := omega) only [nlit, nI_add, nI_mul, nI_sub]; (congr 1 <;> omega))) (by first | omega | (simp only []; omega)) dX12_beginsFrame_71 ?_
    refine X_iinc hB dX12_beginsFrame_72 rfl rfl (by decide) rfl ?_
    refine X_goto (tgt := 57) hB dX12_beginsFrame_75 (by decide) ?_
    rw [setI_rowI, rowI_rowI, rowI_at]
    refine X_lv ?_ (ih (i + 1) _ (by omega) (by omega) (fun w hw => by rw [upd_ne _ _ (by omega)]; exact h3 w hw))
    rw [nI_succ]; rfl
set_option maxRecDepth 100000 in
set_option maxHeartbeats 4000000 in
theorem c_beginsFrame (hR : RLay G h) (hF : RRef S h) (f : Fm) (hf : fRo f = []) : C G mX12_beginsFrame 0 [.ref h, .int (fwd_ f 0), .int (fwd_ f 1), .int (fwd_ f 2), .int (fwd_ f 3), .int (fwd_ f 4), .int (fwd_ f 5)] S (fun r S' => r = none ∧ fr h [h + 11] [] S S' ∧ frS (S'.1 (h + 11)) f) := by
  refine C.mk (lv := [some (.ref h), some (.int (fwd_ f 0)), some (.int (fwd_ f 1)), some (.int (fwd_ f 2)), some (.int (fwd_ f 3)), some (.int (fwd_ f 4)), some (.int (fwd_ f 5)), none]) (by decide) (Nat.le_of_ble_eq_true rfl) rfl (fun E hB => ?_)
  refine X_aload_n (i := 0) hB dX12_beginsFrame_0 rfl rfl ?_
  refine X_getr hB cw10 fX12_42 rfl hR.1.1 hR.1.2 hF.2.2.2.2.2.2.2.2.2.2.1 dX12_beginsFrame_1 ?_
  refine X_iconst (v := 0) hB dX12_beginsFrame_4 (by decide) ?_
  refine X_iload_n (i := 1) hB dX12_beginsFrame_5 rfl rfl ?_
  refine X_iastN hB (0) hR.2.2.2.2.2.2.2.2.2.2.2.1.1 hR.2.2.2.2.2.2.2.2.2.2.2.1.2 (by decide) (by first | rfl | (simp (disch := omega) only [nlit, nI_add, nI_mul, nI_sub]; done) | (simp (disch := omega) only [nlit, nI_add, nI_mul, nI_sub]; (congr 1 <;> omega))) (by first | omega | (simp only []; omega)) dX12_beginsFrame_6 ?_
  rw [setI_rowI]
  refine X_aload_n (i := 0) hB dX12_beginsFrame_7 rfl rfl ?_
  refine X_getr hB cw10 fX12_42 rfl hR.1.1 hR.1.2 hF.2.2.2.2.2.2.2.2.2.2.1 dX12_beginsFrame_8 ?_
  refine X_iconst (v := 1) hB dX12_beginsFrame_11 (by decide) ?_
  refine X_iload_n (i := 2) hB dX12_beginsFrame_12 rfl rfl ?_
  refine X_iastN hB (1) hR.2.2.2.2.2.2.2.2.2.2.2.1.1 hR.2.2.2.2.2.2.2.2.2.2.2.1.2 (by decide) (by first | rfl | (simp (disch := omega) only [nlit, nI_add, nI_mul, nI_sub]; done) | (simp (disch := omega) only [nlit, nI_add, nI_mul, nI_sub]; (congr 1 <;> omega))) (by first | omega | (simp only []; omega)) dX12_beginsFrame_13 ?_
  rw [setI_rowI, rowI_rowI, rowI_at]
  refine X_aload_n (i := 0) hB dX12_beginsFrame_14 rfl rfl ?_
  refine X_getr hB cw10 fX12_42 rfl hR.1.1 hR.1.2 hF.2.2.2.2.2.2.2.2.2.2.1 dX12_beginsFrame_15 ?_
  refine X_iconst (v := 2) hB dX12_beginsFrame_18 (by decide) ?_
  refine X_iload_n (i := 3) hB dX12_beginsFrame_19 rfl rfl ?_
  refine X_iastN hB (2) hR.2.2.2.2.2.2.2.2.2.2.2.1.1 hR.2.2.2.2.2.2.2.2.2.2.2.1.2 (by decide) (by first | rfl | (simp (disch := omega) only [nlit, nI_add, nI_mul, nI_sub]; done) | (simp (disch := omega) only [nlit, nI_add, nI_mul, nI_sub]; (congr 1 <;> omega))) (by first | omega | (simp only []; omega)) dX12_beginsFrame_20 ?_
  rw [setI_rowI, rowI_rowI, rowI_at]
  refine X_aload_n (i := 0) hB dX12_beginsFrame_21 rfl rfl ?_
  refine X_getr hB cw10 fX12_42 rfl hR.1.1 hR.1.2 hF.2.2.2.2.2.2.2.2.2.2.1 dX12_beginsFrame_22 ?_
  refine X_iconst (v := 3) hB dX12_beginsFrame_25 (by decide) ?_
  refine X_iload hB dX12_beginsFrame_26 rfl ?_
  refine X_iastN hB (3) hR.2.2.2.2.2.2.2.2.2.2.2.1.1 hR.2.2.2.2.2.2.2.2.2.2.2.1.2 (by decide) (by first | rfl | (simp (disch := omega) only [nlit, nI_add, nI_mul, nI_sub]; done) | (simp (disch := omega) only [nlit, nI_add, nI_mul, nI_sub]; (congr 1 <;> omega))) (by first | omega | (simp only []; omega)) dX12_beginsFrame_28 ?_
  rw [setI_rowI, rowI_rowI, rowI_at]
  refine X_aload_n (i := 0) hB dX12_beginsFrame_29 rfl rfl ?_
  refine X_getr hB cw10 fX12_42 rfl hR.1.1 hR.1.2 hF.2.2.2.2.2.2.2.2.2.2.1 dX12_beginsFrame_30 ?_
  refine X_iconst (v := 4) hB dX12_beginsFrame_33 (by decide) ?_
  refine X_iload hB dX12_beginsFrame_34 rfl ?_
  refine X_iastN hB (4) hR.2.2.2.2.2.2.2.2.2.2.2.1.1 hR.2.2.2.2.2.2.2.2.2.2.2.1.2 (by decide) (by first | rfl | (simp (disch := omega) only [nlit, nI_add, nI_mul, nI_sub]; done) | (simp (disch := omega) only [nlit, nI_add, nI_mul, nI_sub]; (congr 1 <;> omega))) (by first | omega | (simp only []; omega)) dX12_beginsFrame_36 ?_
  rw [setI_rowI, rowI_rowI, rowI_at]
  refine X_aload_n (i := 0) hB dX12_beginsFrame_37 rfl rfl ?_
  refine X_getr hB cw10 fX12_42 rfl hR.1.1 hR.1.2 hF.2.2.2.2.2.2.2.2.2.2.1 dX12_beginsFrame_38 ?_
  refine X_iconst (v := 5) hB dX12_beginsFrame_41 (by decide) ?_
  refine X_iload hB dX12_beginsFrame_42 rfl ?_
  refine X_iastN hB (5) hR.2.2.2.2.2.2.2.2.2.2.2.1.1 hR.2.2.2.2.2.2.2.2.2.2.2.1.2 (by decide) (by first | rfl | (simp (disch := omega) only [nlit, nI_add, nI_mul, nI_sub]; done) | (simp (disch := omega) only [nlit, nI_add, nI_mul, nI_sub]; (congr 1 <;> omega))) (by first | omega | (simp only []; omega)) dX12_beginsFrame_44 ?_
  rw [setI_rowI, rowI_rowI, rowI_at]
  refine X_aload_n (i := 0) hB dX12_beginsFrame_45 rfl rfl ?_
  refine X_getr hB cw10 fX12_42 rfl hR.1.1 hR.1.2 hF.2.2.2.2.2.2.2.2.2.2.1 dX12_beginsFrame_46 ?_
  refine X_bipush (v := 6) hB dX12_beginsFrame_49 (by decide) ?_
  refine X_iconst (v := 0) hB dX12_beginsFrame_51 (by decide) ?_
  refine X_iastN hB (6) hR.2.2.2.2.2.2.2.2.2.2.2.1.1 hR.2.2.2.2.2.2.2.2.2.2.2.1.2 (by decide) (by first | rfl | (simp (disch := omega) only [nlit, nI_add, nI_mul, nI_sub]; done) | (simp (disch := omega) only [nlit, nI_add, nI_mul, nI_sub]; (congr 1 <;> omega))) (by first | omega | (simp only []; omega)) dX12_beginsFrame_52 ?_
  rw [setI_rowI, rowI_rowI, rowI_at]
  refine X_bipush (v := 7) hB dX12_beginsFrame_53 (by decide) ?_
  refine X_istore hB dX12_beginsFrame_55 (by decide) rfl ?_
  refine X_lv ?_ (l_beginsFrame hR hF hB f (fun F9 g => ⟨rfl, fr.row (by simp) (by omega), ?_⟩) 9 7 _ (by omega) (by omega) (fun w hw => ?_))
  · rfl
  · match w, hw with
    | 0, _ => simp [upd]
    | 1, _ => simp [upd]
    | 2, _ => simp [upd]
    | 3, _ => simp [upd]
    | 4, _ => simp [upd]
    | 5, _ => simp [upd]
    | 6, _ => simp [upd, fwd_, hf, nI_0]
  · rw [rowI_at]; exact ⟨g, fun i hi => by rw [hf] at hi; simp at hi⟩
set_option maxRecDepth 100000 in
set_option maxHeartbeats 4000000 in
theorem c_addsFrame (hR : RLay G h) (hF : RRef S h) (f : Fm) (x : Nat) (hl : (fRo f).length ≤ 8) (hf : frS (S.1 (h + 11)) f) : C G mX12_addsFrame 0 [.ref h, .int (nI x)] S (fun r S' => r = none ∧ fr h [h + 11] [] S S' ∧ frS (S'.1 (h + 11)) (fAdd f x)) := by
  refine C.mk (lv := [some (.ref h), some (.int (nI x))]) (by decide) (Nat.le_of_ble_eq_true rfl) rfl (fun E hB => ?_)
  refine X_aload_n (i := 0) hB dX12_addsFrame_0 rfl rfl ?_
  refine X_getr hB cw10 fX12_42 rfl hR.1.1 hR.1.2 hF.2.2.2.2.2.2.2.2.2.2.1 dX12_addsFrame_1 ?_
  refine X_bipush (v := 7) hB dX12_addsFrame_4 (by decide) ?_
  refine X_aload_n (i := 0) hB dX12_addsFrame_6 rfl rfl ?_
  refine X_getr hB cw10 fX12_42 rfl hR.1.1 hR.1.2 hF.2.2.2.2.2.2.2.2.2.2.1 dX12_addsFrame_7 ?_
  refine X_bipush (v := 6) hB dX12_addsFrame_10 (by decide) ?_
  refine X_ialdN hB (6) hR.2.2.2.2.2.2.2.2.2.2.2.1.1 hR.2.2.2.2.2.2.2.2.2.2.2.1.2 (by decide) (by first | rfl | (simp (disch := omega) only [nlit, nI_add, nI_mul, nI_sub]; done) | (simp (disch := omega) only [nlit, nI_add, nI_mul, nI_sub]; (congr 1 <;> omega))) (by first | omega | (simp only []; omega)) (show _ = nI (fRo f).length from hf.1 6 (by decide)) dX12_addsFrame_12 ?_
  refine X_iadd hB dX12_addsFrame_13 ?_
  refine X_iload_n (i := 1) hB dX12_addsFrame_14 rfl rfl ?_
  refine X_iastN hB (7 + (fRo f).length) hR.2.2.2.2.2.2.2.2.2.2.2.1.1 hR.2.2.2.2.2.2.2.2.2.2.2.1.2 (by decide) (by first | rfl | (simp (disch := omega) only [nlit, nI_add, nI_mul, nI_sub]; done) | (simp (disch := omega) only [nlit, nI_add, nI_mul, nI_sub]; (congr 1 <;> omega))) (by first | omega | (simp only []; omega)) dX12_addsFrame_15 ?_
  refine X_aload_n (i := 0) hB dX12_addsFrame_16 rfl rfl ?_
  refine X_getr hB cw10 fX12_42 rfl hR.1.1 hR.1.2 hF.2.2.2.2.2.2.2.2.2.2.1 dX12_addsFrame_17 ?_
  refine X_bipush (v := 6) hB dX12_addsFrame_20 (by decide) ?_
  refine X_dup2_11 hB dX12_addsFrame_22 rfl rfl ?_
  refine X_ialdN hB (6) hR.2.2.2.2.2.2.2.2.2.2.2.1.1 hR.2.2.2.2.2.2.2.2.2.2.2.1.2 (by decide) (by first | rfl | (simp (disch := omega) only [nlit, nI_add, nI_mul, nI_sub]; done) | (simp (disch := omega) only [nlit, nI_add, nI_mul, nI_sub]; (congr 1 <;> omega))) (by first | omega | (simp only []; omega)) (show _ = nI (fRo f).length by rw [setI_ne _ _ (Or.inr (by omega))]; exact hf.1 6 (by decide)) dX12_addsFrame_23 ?_
  refine X_iconst (v := 1) hB dX12_addsFrame_24 (by decide) ?_
  refine X_iadd hB dX12_addsFrame_25 ?_
  refine X_topi (y := nI ((fRo f).length + 1)) (by first | rfl | (simp (disch := omega) only [nlit, nI_add, nI_mul, nI_sub]; done) | (simp (disch := omega) only [nlit, nI_add, nI_mul, nI_sub]; (congr 1 <;> omega))) ?_
  refine X_iastN hB (6) hR.2.2.2.2.2.2.2.2.2.2.2.1.1 hR.2.2.2.2.2.2.2.2.2.2.2.1.2 (by decide) (by first | rfl | (simp (disch := omega) only [nlit, nI_add, nI_mul, nI_sub]; done) | (simp (disch := omega) only [nlit, nI_add, nI_mul, nI_sub]; (congr 1 <;> omega))) (by first | omega | (simp only []; omega)) dX12_addsFrame_26 ?_
  refine X_vret hB rfl dX12_addsFrame_27 ?_
  rw [setI_rowI, setI_rowI, rowI_rowI, rowI_at]
  refine ⟨rfl, fr.row (by simp) (by omega), ?_⟩
  rw [rowI_at]
  refine ⟨fun w hw => ?_, fun i hi => ?_⟩
  · by_cases h6 : w = 6
    · subst h6; rw [upd_at]; simp [fwd_, fAdd, fRo]
    · rw [upd_ne _ _ h6, upd_ne _ _ (by omega), hf.1 w hw]
      match w, hw, h6 with
      | 0, _, _ => rfl
      | 1, _, _ => rfl
      | 2, _, _ => rfl
      | 3, _, _ => rfl
      | 4, _, _ => rfl
      | 5, _, _ => rfl
      | 6, _, q => exact absurd rfl q
  · have hi2 : i < (fRo f).length + 1 := by simpa [fAdd, fRo] using hi
    rw [upd_ne _ _ (by omega)]
    by_cases h9 : i = (fRo f).length
    · subst h9; rw [upd_at]; simp [fAdd, fRo]
    · have h8 : i < (fRo f).length := by omega
      rw [upd_ne _ _ (by omega), hf.2 i h8]
      congr 1
      simp [fAdd, fRo, List.getElem?_append_left h8]
set_option maxRecDepth 100000 in
set_option maxHeartbeats 4000000 in
theorem l_sends (hR : RLay G h) (hF : RRef S h) {E : Ev} (hB : Bd G E mX12_sends) {Q : Option Value → St → Prop} (base : Nat) (hb : base + 16 ≤ 12285) (kk : ∀ v, X G E mX12_sends 1 Q (rowI S (h + 1) (cpA (S.1 (h + 1)) base (S.1 (h + 11)) 16)) 64 [some (.ref h), some (.int (nI base)), some (.int v)] []) :
    ∀ (k i : Nat), i + k = 16 → X G E mX12_sends 1 Q (rowI S (h + 1) (cpA (S.1 (h + 1)) base (S.1 (h + 11)) i)) 38 [some (.ref h), some (.int (nI base)), some (.int (nI i))] [] := by
  intro k
  induction k with
  | zero =>
    intro i h1
    refine X_iload_n (i := 2) hB dX12_sends_38 rfl rfl ?_
    refine X_bipush (v := 16) hB dX12_sends_39 (by decide) ?_
    refine X_icmp_ge (tgt := 64) hB dX12_sends_41 (by decide) (fun c41 => ?_) (fun c41 => absurd c41 (by simp (disch := omega) only [nlit, nI_leI, nI_ltI]; omega))
    have e9 : i = 16 := by omega
    subst e9
    exact kk _
  | succ k ih =>
    intro i h1
    refine X_iload_n (i := 2) hB dX12_sends_38 rfl rfl ?_
    refine X_bipush (v := 16) hB dX12_sends_39 (by decide) ?_
    refine X_icmp_ge (tgt := 64) hB dX12_sends_41 (by decide) (fun c41 => absurd c41 (by simp (disch := omega) only [nlit, nI_leI, nI_ltI]; omega)) (fun c41 => ?_)
    refine X_aload_n (i := 0) hB dX12_sends_44 rfl rfl ?_
    refine X_getr hB cw10 fX12_7 rfl hR.1.1 hR.1.2 hF.1 dX12_sends_45 ?_
    refine X_iload_n (i := 1) hB dX12_sends_48 rfl rfl ?_
    refine X_iload_n (i := 2) hB dX12_sends_49 rfl rfl ?_
    refine X_iadd hB dX12_sends_50 ?_
    refine X_aload_n (i := 0) hB dX12_sends_51 rfl rfl ?_
    refine X_getr hB cw10 fX12_42 rfl hR.1.1 hR.1.2 hF.2.2.2.2.2.2.2.2.2.2.1 dX12_sends_52 ?_
    refine X_iload_n (i := 2) hB dX12_sends_55 rfl rfl ?_
    refine X_ialdN hB (i) hR.2.2.2.2.2.2.2.2.2.2.2.1.1 hR.2.2.2.2.2.2.2.2.2.2.2.1.2 (by decide) (by first | rfl | (simp (disch := omega) only [nlit, nI_add, nI_mul, nI_sub]; done) | (simp (disch := omega) only [nlit, nI_add, nI_mul, nI_sub]; (congr 1 <;> omega))) (by first | omega | (simp only []; omega)) (show _ = S.1 (h + 11) i by rw [rowI_ne _ _ (by omega)]) dX12_sends_56 ?_
    refine X_iastN hB (base + i) hR.2.1.1 hR.2.1.2 (by decide) (by first | rfl | (simp (disch := omega) only [nlit, nI_add, nI_mul, nI_sub]; done) | (simp (disch := omega) only [nlit, nI_add, nI_mul, nI_sub]; (congr 1 <;> omega))) (by first | omega | (simp only []; omega)) dX12_sends_57 ?_
    refine X_iinc hB dX12_sends_58 rfl rfl (by decide) rfl ?_
    refine X_goto (tgt := 38) hB dX12_sends_61 (by decide) ?_
    refine X_S (S' := rowI S (h + 1) (cpA (S.1 (h + 1)) base (S.1 (h + 11)) (i + 1))) ?_ (X_lv ?_ (ih (i + 1) (by omega)))
    · rw [setI_rowI, rowI_rowI, rowI_at, cpA_step]
    · rw [nI_succ]; rfl
set_option maxRecDepth 100000 in
set_option maxHeartbeats 4000000 in
theorem c_sends (hR : RLay G h) (hF : RRef S h) (σ : Net) (f : Fm) (hN : netR (S.1 (h + 1)) σ) (hs : szN σ) (hk : fKi f ≤ 3) (hf : frS (S.1 (h + 11)) f) (hfl : (fRo f).length ≤ 8) : C G mX12_sends 1 [.ref h] S (fun r S' => r = some (.int (if (sendF σ f).2 then 1 else 0)) ∧ fr h [h + 1] [] S S' ∧ netR (S'.1 (h + 1)) (sendF σ f).1) := by
  have ha40 := hs.1
  have hai := hN.1.2.2.2.1
  refine C.mk (lv := [some (.ref h), none, none]) (by decide) (Nat.le_of_ble_eq_true rfl) rfl (fun E hB => ?_)
  refine X_aload_n (i := 0) hB dX12_sends_0 rfl rfl ?_
  refine X_getr hB cw10 fX12_7 rfl hR.1.1 hR.1.2 hF.1 dX12_sends_1 ?_
  refine X_bipush (v := 10) hB dX12_sends_4 (by decide) ?_
  refine X_ialdN hB (10) hR.2.1.1 hR.2.1.2 (by decide) (by first | rfl | (simp (disch := omega) only [nlit, nI_add, nI_mul, nI_sub]; done) | (simp (disch := omega) only [nlit, nI_add, nI_mul, nI_sub]; (congr 1 <;> omega))) (by first | omega | (simp only []; omega)) hai dX12_sends_6 ?_
  refine X_bipush (v := 40) hB dX12_sends_7 (by decide) ?_
  refine X_icmp_ne (tgt := 21) hB dX12_sends_9 (by decide) (fun c9 => ?_) (fun c9 => ?_)
  · refine X_sipush (v := 777) hB dX12_sends_21 (by decide) ?_
    refine X_bipush (v := 16) hB dX12_sends_24 (by decide) ?_
    refine X_aload_n (i := 0) hB dX12_sends_26 rfl rfl ?_
    refine X_getr hB cw10 fX12_7 rfl hR.1.1 hR.1.2 hF.1 dX12_sends_27 ?_
    refine X_bipush (v := 10) hB dX12_sends_30 (by decide) ?_
    refine X_ialdN hB (10) hR.2.1.1 hR.2.1.2 (by decide) (by first | rfl | (simp (disch := omega) only [nlit, nI_add, nI_mul, nI_sub]; done) | (simp (disch := omega) only [nlit, nI_add, nI_mul, nI_sub]; (congr 1 <;> omega))) (by first | omega | (simp only []; omega)) hai dX12_sends_32 ?_
    refine X_imul hB dX12_sends_33 ?_
    refine X_iadd hB dX12_sends_34 ?_
    refine X_topi (y := nI (777 + 16 * (nAir σ).length)) (by first | rfl | (simp (disch := omega) only [nlit, nI_add, nI_mul, nI_sub]; done) | (simp (disch := omega) only [nlit, nI_add, nI_mul, nI_sub]; (congr 1 <;> omega))) ?_
    refine X_istore_n (i := 1) hB dX12_sends_35 rfl (by decide) rfl ?_
    refine X_iconst (v := 0) hB dX12_sends_36 (by decide) ?_
    refine X_istore_n (i := 2) hB dX12_sends_37 rfl (by decide) rfl ?_
    have hc40 : ¬ (nAir σ).length = 40 := fun e9 => c9 (by rw [e9]; rfl)
    have e9 : sendF σ f = (uTa (uAir σ (nAir σ ++ [f])) (fKi f), true) := by unfold sendF; rw [if_neg hc40]
    refine X_S (S' := rowI S (h + 1) (cpA (S.1 (h + 1)) (777 + 16 * (nAir σ).length) (S.1 (h + 11)) 0)) (by rw [cpA_0, rowI_self]) (X_lv ?_ (l_sends hR hF hB (777 + 16 * (nAir σ).length) (by omega) (fun v9 => ?_) 16 0 (by omega)))
    · rw [nI_0]; rfl
    refine X_aload_n (i := 0) hB dX12_sends_64 rfl rfl ?_
    refine X_getr hB cw10 fX12_7 rfl hR.1.1 hR.1.2 hF.1 dX12_sends_65 ?_
    refine X_bipush (v := 10) hB dX12_sends_68 (by decide) ?_
    refine X_dup2_11 hB dX12_sends_70 rfl rfl ?_
    refine X_ialdN hB (10) hR.2.1.1 hR.2.1.2 (by decide) (by first | rfl | (simp (disch := omega) only [nlit, nI_add, nI_mul, nI_sub]; done) | (simp (disch := omega) only [nlit, nI_add, nI_mul, nI_sub]; (congr 1 <;> omega))) (by first | omega | (simp only []; omega)) (show _ = nI (nAir σ).length by rw [rowI_at, cpA_out (by omega)]; exact hai) dX12_sends_71 ?_
    refine X_iconst (v := 1) hB dX12_sends_72 (by decide) ?_
    refine X_iadd hB dX12_sends_73 ?_
    refine X_topi (y := nI ((nAir σ).length + 1)) (by first | rfl | (simp (disch := omega) only [nlit, nI_add, nI_mul, nI_sub]; done) | (simp (disch := omega) only [nlit, nI_add, nI_mul, nI_sub]; (congr 1 <;> omega))) ?_
    refine X_iastN hB (10) hR.2.1.1 hR.2.1.2 (by decide) (by first | rfl | (simp (disch := omega) only [nlit, nI_add, nI_mul, nI_sub]; done) | (simp (disch := omega) only [nlit, nI_add, nI_mul, nI_sub]; (congr 1 <;> omega))) (by first | omega | (simp only []; omega)) dX12_sends_74 ?_
    refine X_aload_n (i := 0) hB dX12_sends_75 rfl rfl ?_
    refine X_aload_n (i := 0) hB dX12_sends_76 rfl rfl ?_
    refine X_getr hB cw10 fX12_42 rfl hR.1.1 hR.1.2 hF.2.2.2.2.2.2.2.2.2.2.1 dX12_sends_77 ?_
    refine X_iconst (v := 0) hB dX12_sends_80 (by decide) ?_
    refine X_ialdN hB (0) hR.2.2.2.2.2.2.2.2.2.2.2.1.1 hR.2.2.2.2.2.2.2.2.2.2.2.1.2 (by decide) (by first | rfl | (simp (disch := omega) only [nlit, nI_add, nI_mul, nI_sub]; done) | (simp (disch := omega) only [nlit, nI_add, nI_mul, nI_sub]; (congr 1 <;> omega))) (by first | omega | (simp only []; omega)) (show _ = nI (fKi f) by rw [setI_row _ _ _ (by omega), rowI_ne _ _ (by omega)]; exact hf.1 0 (by decide)) dX12_sends_81 ?_
    refine X_iconst (v := 1) hB dX12_sends_82 (by decide) ?_
    refine X_callV hB kX12_240 cw10 hR.1.1 hR.1.2 (c_tally hR (by exact hF.of rfl) (k := fKi f) (by omega) 1) (by decide) (by decide) rfl rfl (Nat.le_of_ble_eq_true rfl) dX12_sends_83 (fun r83 S83 q83 => ?_)
    obtain ⟨rfl, rfl⟩ := q83
    refine X_iconst (v := 1) hB dX12_sends_86 (by decide) ?_
    refine X_zret hB rfl (by first | exact Or.inl rfl | exact Or.inr rfl) dX12_sends_87 ?_
    have hp : netR (upd (cpA (S.1 (h + 1)) (777 + 16 * (nAir σ).length) (S.1 (h + 11)) 16) 10 (nI ((nAir σ).length + 1))) (uAir σ (nAir σ ++ [f])) := by
      refine netR_push hN hs (by omega) (frS_same hf hfl (fun w hw => ?_)) (by rw [upd_at]) (fun i g1 g2 => ?_)
      · rw [upd_ne _ _ (by omega), cpA_in (by omega)]; exact congrArg _ (by omega)
      · rw [upd_ne _ _ g1, cpA_out (by omega)]
    have hq := netR_ta (k := fKi f) hp (szN_push hs (by omega) hfl) (by omega)
    rw [e9]
    simp only [setI_rowI, rowI_rowI, rowI_at]
    exact ⟨rfl, fr.row (by simp) (by omega), hq⟩
  · refine X_aload_n (i := 0) hB dX12_sends_12 rfl rfl ?_
    refine X_bipush (v := 8) hB dX12_sends_13 (by decide) ?_
    refine X_iconst (v := 1) hB dX12_sends_15 (by decide) ?_
    refine X_callV hB kX12_240 cw10 hR.1.1 hR.1.2 (c_tally hR (by exact hF.of rfl) (k := 8) (by decide) 1) (by decide) (by decide) rfl rfl (Nat.le_of_ble_eq_true rfl) dX12_sends_16 (fun r16 S16 q16 => ?_)
    obtain ⟨rfl, rfl⟩ := q16
    refine X_iconst (v := 0) hB dX12_sends_19 (by decide) ?_
    refine X_zret hB rfl (by first | exact Or.inl rfl | exact Or.inr rfl) dX12_sends_20 ?_
    have hc40 : (nAir σ).length = 40 := i32_inj (by omega) (by omega) (by first | exact c9 | exact Decidable.not_not.mp c9)
    have e9 : sendF σ f = (uTa σ 8, false) := by unfold sendF; rw [if_pos hc40]
    rw [e9, setI_rowI]
    exact ⟨rfl, fr.row (by simp) (by omega), by rw [rowI_at]; exact netR_ta hN hs (by decide)⟩
end REF
