/-! the class: which word it is; numbers -/
theorem kwB_at : ∀ w, w < 11 → ∀ i, i < 8 → wB.getD (8 * w + i) 0 = if i < (kws.getD w []).length then (kws.getD w []).getD i 0 else 32 := by decide +kernel
theorem kw_let : ∀ w, w < 11 → (kws.getD w []).length < 8 ∧ ∀ i, i < (kws.getD w []).length → (kws.getD w []).getD i 0 ≠ 32 := by decide +kernel
theorem sub_get {B : List Nat} {b e j : Nat} (h : e ≤ B.length) (hj : b + j < e) : (sub B b e).getD j 0 = B.getD (b + j) 0 := by
  unfold sub
  rw [getD_lt (by rw [List.length_take, List.length_drop]; omega), List.getElem_take, List.getElem_drop, getD_lt (by omega)]
theorem kw_iff {B : List Nat} {b e w : Nat} (hw : w < 11) (hbe : b ≤ e) (he : e ≤ B.length) (h8 : e - b < 8) (hl : ∀ i, b ≤ i → i < e → isLt (B.getD i 0) = true) : ((∀ j, j < e - b → wB.getD (8 * w + j) 0 = B.getD (b + j) 0) ∧ wB.getD (8 * w + (e - b)) 0 = 32) ↔ sub B b e = kws.getD w [] := by
  have hsl : (sub B b e).length = e - b := sub_len he
  obtain ⟨g1, g2⟩ := kw_let w hw
  constructor
  · rintro ⟨h1, h2⟩
    rw [kwB_at w hw _ h8] at h2
    have hle : ¬ e - b < (kws.getD w []).length := fun q => by rw [if_pos q] at h2; exact g2 _ q h2
    have hge : ¬ (kws.getD w []).length < e - b := fun q => by
      have := h1 _ q
      rw [kwB_at w hw _ (by omega), if_neg (by omega)] at this
      have h3 := isLt_iff.mp (hl (b + (kws.getD w []).length) (by omega) (by omega))
      omega
    refine List.ext_getElem (by omega) (fun i i1 i2 => ?_)
    have := h1 i (by omega)
    rw [kwB_at w hw _ (by omega), if_pos (by omega), getD_lt i2] at this
    rw [this, ← sub_get (e := e) he (by omega), getD_lt i1]
  · intro h
    rw [h] at hsl
    refine ⟨fun j hj => ?_, ?_⟩
    · rw [kwB_at w hw _ (by omega), if_pos (by omega), ← h, sub_get he (by omega)]
    · rw [kwB_at w hw _ h8, if_neg (by omega)]
theorem tkK2 {B : List Nat} {p : Nat} (h : tkK B p = 2) : tkB B p < B.length ∧ tkE B p = runE isLt B (tkB B p) := by
  unfold tkK at h
  unfold tkE
  split at h
  · cases h
  · rename_i c
    refine ⟨by omega, ?_⟩
    rw [if_neg c]
    split at h
    · rename_i c2; rw [if_pos c2]
    · split at h
      · split at h <;> cases h
      · split at h <;> cases h
theorem tkK3 {B : List Nat} {p : Nat} (h : tkK B p = 3) : tkB B p < B.length ∧ tkE B p = runE isDg B (tkB B p) ∧ tkE B p ≤ tkB B p + 2 := by
  unfold tkK at h
  unfold tkE
  split at h
  · cases h
  · rename_i c
    refine ⟨by omega, ?_⟩
    rw [if_neg c]
    split at h
    · cases h
    · rename_i c2
      rw [if_neg c2]
      split at h
      · rename_i c3
        rw [if_pos c3]
        split at h
        · exact ⟨rfl, by omega⟩
        · cases h
      · split at h <;> cases h
def kwV (o : Option Nat) : Int32 := match o with
  | none => -1
  | some w => nI w
section CLS
variable {G : Gc} {S : St}
set_option maxRecDepth 100000 in
set_option maxHeartbeats 4000000 in
theorem i_X6_findWord {E : Ev} (hB : Bd G E mX6_findWord) {Q : Option Value → St → Prop} {q v : Nat} (hZ : ∀ U, gZ G U → zW G q v U) (d x : Nat) (hL : RdLay G d) (hX : TxLay G x) (hdx : x + 2 ≤ d ∨ d + 3 ≤ x) (B : List Nat) (hF : rdF S d x) (hT : txC S x B) (p : Nat) (hpl : p ≤ B.length) (hQ : tkQ S d B p) (h2 : tkK B p = 2) (h8 : ((tkE B p) - (tkB B p)) < 8) (w : Nat) (hw : w < 11) (kk : tkW B p ≠ kws.getD w [] → ∀ i, X G E mX6_findWord 4 Q S 94 [some (.ref d), some (.int (nI ((tkE B p) - (tkB B p)))), some (.int (nI w)), i] []) (kk2 : tkW B p = kws.getD w [] → Q (some (.int (nI w))) S) :
    ∀ (j i : Nat), i + j = ((tkE B p) - (tkB B p)) → (∀ k, k < i → wB.getD (8 * w + k) 0 = B.getD ((tkB B p) + k) 0) → X G E mX6_findWord 4 Q S 33 [some (.ref d), some (.int (nI ((tkE B p) - (tkB B p)))), some (.int (nI w)), some (.int (nI i))] [] := by
  have h4 := hT.2.2.1
  have hk2 := tkK2 h2
  have hge : (tkB B p) ≤ (tkE B p) := by rw [hk2.2]; exact runE_ge
  have hle : (tkE B p) ≤ B.length := tkE_le hpl
  have htw : tkW B p = sub B (tkB B p) (tkE B p) := by unfold tkW; rw [if_pos h2]
  have hlt : ∀ i, (tkB B p) ≤ i → i < (tkE B p) → isLt (B.getD i 0) = true := fun i a b => (runE_in B.length (tkB B p) (by omega) i a (by rw [← hk2.2]; exact b)).2
  have hiff := kw_iff hw hge hle h8 hlt
  rw [htw] at kk kk2
  intro j
  induction j with
  | zero =>
    intro i h1 h3
    have e9 : i = ((tkE B p) - (tkB B p)) := by omega
    subst e9
    have hb := wB_ok (8 * w + ((tkE B p) - (tkB B p))) (by omega)
    refine X_iload_n (i := 3) hB dX6_findWord_33 rfl rfl ?_
    refine X_iload_n (i := 1) hB dX6_findWord_34 rfl rfl ?_
    refine X_icmp_ge (tgt := 71) hB dX6_findWord_35 (by decide) (fun c35 => ?_) (fun c35 => absurd c35 (by simp (disch := omega) only [nlit, nI_leI, nI_ltI]; omega))
    refine X_iload_n (i := 3) hB dX6_findWord_71 rfl rfl ?_
    refine X_iload_n (i := 1) hB dX6_findWord_72 rfl rfl ?_
    refine X_icmp_ne (tgt := 94) hB dX6_findWord_73 (by decide) (fun c73 => absurd rfl c73) (fun c73 => ?_)
    refine X_ldcS hB (hZ _ hB.2.2.2.2.2.2.2.2.2.1).1 dX6_findWord_76 ?_
    refine X_bipush (v := 8) hB dX6_findWord_78 (by decide) ?_
    refine X_iload_n (i := 2) hB dX6_findWord_80 rfl rfl ?_
    refine X_imul hB dX6_findWord_81 ?_
    refine X_iload_n (i := 1) hB dX6_findWord_82 rfl rfl ?_
    refine X_iadd hB dX6_findWord_83 ?_
    refine X_topi (y := nI (8 * w + ((tkE B p) - (tkB B p)))) (by rw [show (8 : Int32) = nI 8 from rfl, nI_mul, nI_add]) ?_
    refine X_callVO (hB) kX6_103 (hZ _ hB.2.2.2.2.2.2.2.2.2.1).2.1 (c_J0_charAt hZ (8 * w + ((tkE B p) - (tkB B p))) (by omega)) (by decide) (by decide) rfl rfl (Nat.le_of_ble_eq_true rfl) dX6_findWord_84 (fun r84 S84 q84 => ?_)
    obtain ⟨rfl, rfl⟩ := q84
    refine X_bipush (v := 32) hB dX6_findWord_87 (by decide) ?_
    refine X_icmp_ne (tgt := 94) hB dX6_findWord_89 (by decide) (fun c89 => ?_) (fun c89 => ?_)
    · refine kk (fun z => c89 ?_) _
      have := (hiff.mpr z).2
      rw [this]; rfl
    · refine X_iload_n (i := 2) hB dX6_findWord_92 rfl rfl ?_
      refine X_iret hB rfl dX6_findWord_93 ?_
      have e89 : wB.getD (8 * w + ((tkE B p) - (tkB B p))) 0 = 32 := (nI_eq (b := 32) (by omega) (by omega)).mp c89
      exact kk2 (hiff.mp ⟨h3, e89⟩)
  | succ j ih =>
    intro i h1 h3
    have hb := wB_ok (8 * w + i) (by omega)
    have hc := txt_c hT.2.2.2.1 (show (tkB B p) + i < B.length by omega)
    refine X_iload_n (i := 3) hB dX6_findWord_33 rfl rfl ?_
    refine X_iload_n (i := 1) hB dX6_findWord_34 rfl rfl ?_
    refine X_icmp_ge (tgt := 71) hB dX6_findWord_35 (by decide) (fun c35 => absurd c35 (by simp (disch := omega) only [nlit, nI_leI, nI_ltI]; omega)) (fun c35 => ?_)
    refine X_ldcS hB (hZ _ hB.2.2.2.2.2.2.2.2.2.1).1 dX6_findWord_38 ?_
    refine X_bipush (v := 8) hB dX6_findWord_40 (by decide) ?_
    refine X_iload_n (i := 2) hB dX6_findWord_42 rfl rfl ?_
    refine X_imul hB dX6_findWord_43 ?_
    refine X_iload_n (i := 3) hB dX6_findWord_44 rfl rfl ?_
    refine X_iadd hB dX6_findWord_45 ?_
    refine X_topi (y := nI (8 * w + i)) (by rw [show (8 : Int32) = nI 8 from rfl, nI_mul, nI_add]) ?_
    refine X_callVO (hB) kX6_103 (hZ _ hB.2.2.2.2.2.2.2.2.2.1).2.1 (c_J0_charAt hZ (8 * w + i) (by omega)) (by decide) (by decide) rfl rfl (Nat.le_of_ble_eq_true rfl) dX6_findWord_46 (fun r46 S46 q46 => ?_)
    obtain ⟨rfl, rfl⟩ := q46
    refine X_aload_n (i := 0) hB dX6_findWord_49 rfl rfl ?_
    refine X_getr hB cw5 fX6_50 rfl hL.1.1 hL.1.2 hF.2.2 dX6_findWord_50 ?_
    refine X_aload_n (i := 0) hB dX6_findWord_53 rfl rfl ?_
    refine X_geti hB cw5 fX6_72 rfl hL.1.1 hL.1.2 dX6_findWord_54 ?_
    refine X_topi (y := nI (tkB B p)) (hQ.2.1) ?_
    refine X_iload_n (i := 3) hB dX6_findWord_57 rfl rfl ?_
    refine X_iadd hB dX6_findWord_58 ?_
    refine X_topi (y := nI ((tkB B p) + i)) (by first | rfl | (simp (disch := omega) only [nlit, nI_add, nI_mul, nI_sub]; done) | (simp (disch := omega) only [nlit, nI_add, nI_mul, nI_sub]; (congr 1 <;> omega))) ?_
    refine X_callV hB kX6_75 cw7 hX.1.1 hX.1.2 (c_X9_byteAt x hX B hT ((tkB B p) + i) (by omega)) (by decide) (by decide) rfl rfl (Nat.le_of_ble_eq_true rfl) dX6_findWord_59 (fun r59 S59 q59 => ?_)
    obtain ⟨rfl, rfl⟩ := q59
    refine X_topi (y := nI (B.getD ((tkB B p) + i) 0)) (by rw [chN, if_pos (by omega)]) ?_
    refine X_icmp_ne (tgt := 71) hB dX6_findWord_62 (by decide) (fun c62 => ?_) (fun c62 => ?_)
    · refine X_iload_n (i := 3) hB dX6_findWord_71 rfl rfl ?_
      refine X_iload_n (i := 1) hB dX6_findWord_72 rfl rfl ?_
      refine X_icmp_ne (tgt := 94) hB dX6_findWord_73 (by decide) (fun c73 => ?_) (fun c73 => absurd ((nI_eq (by omega) (by omega)).mp c73) (by omega))
      refine kk (fun z => c62 ?_) _
      have := (hiff.mpr z).1 i (by omega)
      rw [this]
    · refine X_iinc hB dX6_findWord_65 rfl rfl (by decide) rfl ?_
      refine X_goto (tgt := 33) hB dX6_findWord_68 (by decide) ?_
      refine X_lv ?_ (ih (i + 1) (by omega) (fun k hk => ?_))
      · rw [nI_succ]; rfl
      · by_cases z : k = i
        · rw [z]; exact (nI_eq (by omega) (by omega)).mp c62
        · exact h3 k (by omega)
set_option maxRecDepth 100000 in
set_option maxHeartbeats 4000000 in
theorem l_X6_findWord {E : Ev} (hB : Bd G E mX6_findWord) {Q : Option Value → St → Prop} {q v : Nat} (hZ : ∀ U, gZ G U → zW G q v U) (d x : Nat) (hL : RdLay G d) (hX : TxLay G x) (hdx : x + 2 ≤ d ∨ d + 3 ≤ x) (B : List Nat) (hF : rdF S d x) (hT : txC S x B) (p : Nat) (hpl : p ≤ B.length) (hQ : tkQ S d B p) (h2 : tkK B p = 2) (kk : Q (some (.int (kwV (kwI (tkW B p))))) S) :
    ∀ (j w : Nat) (i : Option Value), w + j = 11 → (∀ u, u < w → tkW B p ≠ kws.getD u []) → X G E mX6_findWord 4 Q S 12 [some (.ref d), some (.int (nI ((tkE B p) - (tkB B p)))), some (.int (nI w)), i] [] := by
  have h4 := hT.2.2.1
  have hk2 := tkK2 h2
  have hge : (tkB B p) ≤ (tkE B p) := by rw [hk2.2]; exact runE_ge
  have hle : (tkE B p) ≤ B.length := tkE_le hpl
  have htw : tkW B p = sub B (tkB B p) (tkE B p) := by unfold tkW; rw [if_pos h2]
  have hkd : S.1 d 7 = 0 := by rw [hQ.1, h2]; rfl
  intro j
  induction j with
  | zero =>
    intro w i h1 h3
    have e9 : w = 11 := by omega
    subst e9
    have e : kwI (tkW B p) = none := kwI_none.mpr (fun k hk => h3 k hk)
    rw [e] at kk
    refine X_iload_n (i := 2) hB dX6_findWord_12 rfl rfl ?_
    refine X_bipush (v := 11) hB dX6_findWord_13 (by decide) ?_
    refine X_icmp_ge (tgt := 100) hB dX6_findWord_15 (by decide) (fun c15 => ?_) (fun c15 => absurd c15 (by simp (disch := omega) only [nlit, nI_leI, nI_ltI]; omega))
    refine X_iconst (v := (-1)) hB dX6_findWord_100 (by decide) ?_
    refine X_iret hB rfl dX6_findWord_101 ?_
    exact kk
  | succ j ih =>
    intro w i h1 h3
    refine X_iload_n (i := 2) hB dX6_findWord_12 rfl rfl ?_
    refine X_bipush (v := 11) hB dX6_findWord_13 (by decide) ?_
    refine X_icmp_ge (tgt := 100) hB dX6_findWord_15 (by decide) (fun c15 => absurd c15 (by simp (disch := omega) only [nlit, nI_leI, nI_ltI]; omega)) (fun c15 => ?_)
    refine X_aload_n (i := 0) hB dX6_findWord_18 rfl rfl ?_
    refine X_geti hB cw5 fX6_62 rfl hL.1.1 hL.1.2 dX6_findWord_19 ?_
    refine X_topi (y := 0) (hkd) ?_
    refine X_if_ne (tgt := 100) hB dX6_findWord_22 (by decide) (fun c22 => absurd rfl c22) (fun c22 => ?_)
    refine X_iload_n (i := 1) hB dX6_findWord_25 rfl rfl ?_
    refine X_bipush (v := 8) hB dX6_findWord_26 (by decide) ?_
    refine X_icmp_ge (tgt := 100) hB dX6_findWord_28 (by decide) (fun c28 => ?_) (fun c28 => ?_)
    · refine X_iconst (v := (-1)) hB dX6_findWord_100 (by decide) ?_
      refine X_iret hB rfl dX6_findWord_101 ?_
      have e : kwI (tkW B p) = none := kwI_none.mpr (fun k hk => fun z => by
        have h9 := congrArg List.length z
        rw [htw, sub_len hle] at h9
        have := (kw_let k hk).1
        rw [show (8 : Int32) = nI 8 from rfl, nI_leI (by omega) (by omega)] at c28
        omega)
      rw [e] at kk
      exact kk
    · refine X_iconst (v := 0) hB dX6_findWord_31 (by decide) ?_
      refine X_istore_n (i := 3) hB dX6_findWord_32 rfl (by decide) rfl ?_
      have e28 : ((tkE B p) - (tkB B p)) < 8 := by
        rw [show (8 : Int32) = nI 8 from rfl, nI_leI (by omega) (by omega)] at c28
        omega
      refine X_lv (lv' := [some (.ref d), some (.int (nI ((tkE B p) - (tkB B p)))), some (.int (nI w)), some (.int (nI 0))]) (by rw [nI_0]; rfl) (i_X6_findWord hB hZ d x hL hX hdx B hF hT p hpl hQ h2 e28 w (by omega) (fun hne i2 => ?_) (fun he => ?_) ((tkE B p) - (tkB B p)) 0 (by omega) (fun k hk => by omega))
      · refine X_iinc hB dX6_findWord_94 rfl rfl (by decide) rfl ?_
        refine X_goto (tgt := 12) hB dX6_findWord_97 (by decide) ?_
        refine X_lv ?_ (ih (w + 1) i2 (by omega) (fun u hu => ?_))
        · rw [nI_succ]; rfl
        · by_cases z : u = w
          · rw [z]; exact hne
          · exact h3 u (by omega)
      · have e : kwI (tkW B p) = some w := kwI_some.mpr ⟨by omega, he⟩
        rw [e] at kk
        exact kk
set_option maxRecDepth 100000 in
set_option maxHeartbeats 4000000 in
theorem c_X6_findWord {q v : Nat} (hZ : ∀ U, gZ G U → zW G q v U) (d x : Nat) (hL : RdLay G d) (hX : TxLay G x) (hdx : x + 2 ≤ d ∨ d + 3 ≤ x) (B : List Nat) (hF : rdF S d x) (hT : txC S x B) (p : Nat) (hpl : p ≤ B.length) (hQ : tkQ S d B p) : C G mX6_findWord 4 [.ref d] S (fun r S' => r = some (.int (kwV (kwI (tkW B p)))) ∧ S = S') := by
  have h4 := hT.2.2.1
  refine C.mk (lv := [some (.ref d), none, none, none]) (by decide) (Nat.le_of_ble_eq_true rfl) rfl (fun E hB => ?_)
  refine X_aload_n (i := 0) hB dX6_findWord_0 rfl rfl ?_
  refine X_geti hB cw5 fX6_54 rfl hL.1.1 hL.1.2 dX6_findWord_1 ?_
  by_cases h2 : tkK B p = 2
  · have hk2 := tkK2 h2
    have hge : (tkB B p) ≤ (tkE B p) := by rw [hk2.2]; exact runE_ge
    have hle : (tkE B p) ≤ B.length := tkE_le hpl
    refine X_aload_n (i := 0) hB dX6_findWord_4 rfl rfl ?_
    refine X_geti hB cw5 fX6_72 rfl hL.1.1 hL.1.2 dX6_findWord_5 ?_
    refine X_topi (y := nI (tkB B p)) (hQ.2.1) ?_
    refine X_isub hB dX6_findWord_8 ?_
    refine X_topi (y := nI ((tkE B p) - (tkB B p))) (by rw [hQ.2.2 (by omega), nI_sub (by omega)]) ?_
    refine X_istore_n (i := 1) hB dX6_findWord_9 rfl (by decide) rfl ?_
    refine X_iconst (v := 0) hB dX6_findWord_10 (by decide) ?_
    refine X_istore_n (i := 2) hB dX6_findWord_11 rfl (by decide) rfl ?_
    refine X_lv (lv' := [some (.ref d), some (.int (nI ((tkE B p) - (tkB B p)))), some (.int (nI 0)), none]) (by rw [nI_0]; rfl) (l_X6_findWord hB hZ d x hL hX hdx B hF hT p hpl hQ h2 ⟨rfl, rfl⟩ 11 0 none (by omega) (fun u hu => by omega))
  · have htw : tkW B p = [] := by unfold tkW; rw [if_neg h2]
    have e : kwI (tkW B p) = none := by rw [htw]; decide
    have hkd : S.1 d 7 ≠ 0 := by
      rw [hQ.1]
      unfold kdC
      split
      · decide
      · split; (decide); (split <;> decide)
    refine X_aload_n (i := 0) hB dX6_findWord_4 rfl rfl ?_
    refine X_geti hB cw5 fX6_72 rfl hL.1.1 hL.1.2 dX6_findWord_5 ?_
    refine X_isub hB dX6_findWord_8 ?_
    refine X_istore_n (i := 1) hB dX6_findWord_9 rfl (by decide) rfl ?_
    refine X_iconst (v := 0) hB dX6_findWord_10 (by decide) ?_
    refine X_istore_n (i := 2) hB dX6_findWord_11 rfl (by decide) rfl ?_
    refine X_iload_n (i := 2) hB dX6_findWord_12 rfl rfl ?_
    refine X_bipush (v := 11) hB dX6_findWord_13 (by decide) ?_
    refine X_icmp_ge (tgt := 100) hB dX6_findWord_15 (by decide) (fun c15 => absurd c15 (by decide)) (fun c15 => ?_)
    refine X_aload_n (i := 0) hB dX6_findWord_18 rfl rfl ?_
    refine X_geti hB cw5 fX6_62 rfl hL.1.1 hL.1.2 dX6_findWord_19 ?_
    refine X_if_ne (tgt := 100) hB dX6_findWord_22 (by decide) (fun c22 => ?_) (fun c22 => absurd c22 hkd)
    refine X_iconst (v := (-1)) hB dX6_findWord_100 (by decide) ?_
    refine X_iret hB rfl dX6_findWord_101 ?_
    exact ⟨by rw [e]; rfl, rfl⟩
set_option maxRecDepth 100000 in
set_option maxHeartbeats 4000000 in
theorem c_X6_fail (d : Nat) (hL : RdLay G d) (a b : Int32) : C G mX6_fail 0 [.ref d, .int a, .int b] S (fun r S' => r = none ∧ S' = setI (setI S d 4 a) d 5 b) := by
  refine C.mk (lv := [some (.ref d), some (.int a), some (.int b)]) (by decide) (Nat.le_of_ble_eq_true rfl) rfl (fun E hB => ?_)
  refine X_aload_n (i := 0) hB dX6_fail_0 rfl rfl ?_
  refine X_iload_n (i := 1) hB dX6_fail_1 rfl rfl ?_
  refine X_puti hB cw5 fX6_38 rfl rfl hL.1.1 hL.1.2 dX6_fail_2 ?_
  refine X_aload_n (i := 0) hB dX6_fail_5 rfl rfl ?_
  refine X_iload_n (i := 2) hB dX6_fail_6 rfl rfl ?_
  refine X_puti hB cw5 fX6_41 rfl rfl hL.1.1 hL.1.2 dX6_fail_7 ?_
  refine X_vret hB rfl dX6_fail_10 ?_
  exact ⟨rfl, rfl⟩
end CLS
