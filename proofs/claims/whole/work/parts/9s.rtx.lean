/-! the reference: its words, numbers -/
theorem tkK_4 {B : List Nat} {p : Nat} : tkK B p ≤ 4 := by
  unfold tkK
  repeat' split
  all_goals decide
theorem tkW_c {B : List Nat} {p : Nat} (hB : ∀ c ∈ B, 0 < c ∧ c < 256) : ∀ c ∈ tkW B p, 0 < c ∧ c < 256 := by
  intro c hc
  unfold tkW at hc
  split at hc
  · exact hB c (List.mem_of_mem_drop (List.mem_of_mem_take hc))
  · exact absurd hc List.not_mem_nil
def stI (l : List Nat) : Int32 := match kwI l with
  | some k => if k < 8 then nI k else -1
  | none => -1
theorem stI_no {l : List Nat} (h : ∀ k, k < 8 → l ≠ kws.getD k []) : stI l = -1 := by
  unfold stI
  cases e : kwI l with
  | none => rfl
  | some k =>
    dsimp only
    by_cases c : k < 8
    · exact absurd (kwI_some.mp e).2 (h k c)
    · rw [if_neg c]
theorem stI_yes {l : List Nat} {k : Nat} (hk : k < 8) (h : l = kws.getD k []) : stI l = nI k := by
  unfold stI
  rw [kwI_some.mpr ⟨by omega, h⟩]
  dsimp only
  rw [if_pos hk]
theorem kwc {l : List Nat} (hl : ∀ c ∈ l, 0 < c ∧ c < 256) {k : Nat} {v : Int64} (hk : k < 11) (hv : v = lN (wPk (kws.getD k []))) : lg_cmp (wd l) v = 0 ↔ l = kws.getD k [] := by
  rw [hv]; exact cmp_eq.trans (wd_eq hl hk)
theorem kw_ne {l : List Nat} {w k : Nat} (h : kwI l = some w) (hk : k < 11) : l = kws.getD k [] ↔ w = k := by
  constructor
  · intro e
    have := kwI_some.mpr ⟨hk, e⟩
    rw [h] at this
    cases this; rfl
  · rintro rfl
    exact (kwI_some.mp h).2
abbrev okT (B : List Nat) (p lo hi : Nat) (bt : Int32) : Prop := lo ≤ tkV B p ∧ tkV B p ≤ hi ∧ nI (tkV B p) ≠ bt
def bdT (B : List Nat) (p lo hi : Nat) (bt v : Int32) : Int32 := if okT B p lo hi bt then v else if v = -1 then nI (tkB B p) else v
section REF
variable {G : Gc} {S : St} {h : Nat}
set_option maxRecDepth 100000 in
set_option maxHeartbeats 4000000 in
theorem c_settingBy (l : List Nat) (hl : ∀ c ∈ l, 0 < c ∧ c < 256) : C G mX12_settingBy 0 [.long (wd l)] S (fun r S' => r = some (.int (stI l)) ∧ S = S') := by
  refine C.mk (lv := [some (.long (wd l)), none]) (by decide) (Nat.le_of_ble_eq_true rfl) rfl (fun E hB => ?_)
  refine X_lload_n (i := 0) hB dX12_settingBy_0 rfl rfl ?_
  refine X_ldc2 hB qX12_95 dX12_settingBy_1 ?_
  refine X_lcmp hB dX12_settingBy_4 ?_
  refine X_if_ne (tgt := 12) hB dX12_settingBy_5 (by decide) (fun c5 => ?_) (fun c5 => ?_)
  · refine X_lload_n (i := 0) hB dX12_settingBy_12 rfl rfl ?_
    refine X_ldc2 hB qX12_97 dX12_settingBy_13 ?_
    refine X_lcmp hB dX12_settingBy_16 ?_
    refine X_if_ne (tgt := 24) hB dX12_settingBy_17 (by decide) (fun c17 => ?_) (fun c17 => ?_)
    · refine X_lload_n (i := 0) hB dX12_settingBy_24 rfl rfl ?_
      refine X_ldc2 hB qX12_99 dX12_settingBy_25 ?_
      refine X_lcmp hB dX12_settingBy_28 ?_
      refine X_if_ne (tgt := 36) hB dX12_settingBy_29 (by decide) (fun c29 => ?_) (fun c29 => ?_)
      · refine X_lload_n (i := 0) hB dX12_settingBy_36 rfl rfl ?_
        refine X_ldc2 hB qX12_101 dX12_settingBy_37 ?_
        refine X_lcmp hB dX12_settingBy_40 ?_
        refine X_if_ne (tgt := 48) hB dX12_settingBy_41 (by decide) (fun c41 => ?_) (fun c41 => ?_)
        · refine X_lload_n (i := 0) hB dX12_settingBy_48 rfl rfl ?_
          refine X_ldc2 hB qX12_103 dX12_settingBy_49 ?_
          refine X_lcmp hB dX12_settingBy_52 ?_
          refine X_if_ne (tgt := 60) hB dX12_settingBy_53 (by decide) (fun c53 => ?_) (fun c53 => ?_)
          · refine X_lload_n (i := 0) hB dX12_settingBy_60 rfl rfl ?_
            refine X_ldc2 hB qX12_105 dX12_settingBy_61 ?_
            refine X_lcmp hB dX12_settingBy_64 ?_
            refine X_if_ne (tgt := 72) hB dX12_settingBy_65 (by decide) (fun c65 => ?_) (fun c65 => ?_)
            · refine X_lload_n (i := 0) hB dX12_settingBy_72 rfl rfl ?_
              refine X_ldc2 hB qX12_107 dX12_settingBy_73 ?_
              refine X_lcmp hB dX12_settingBy_76 ?_
              refine X_if_ne (tgt := 85) hB dX12_settingBy_77 (by decide) (fun c77 => ?_) (fun c77 => ?_)
              · refine X_lload_n (i := 0) hB dX12_settingBy_85 rfl rfl ?_
                refine X_ldc2 hB qX12_109 dX12_settingBy_86 ?_
                refine X_lcmp hB dX12_settingBy_89 ?_
                refine X_if_ne (tgt := 98) hB dX12_settingBy_90 (by decide) (fun c90 => ?_) (fun c90 => ?_)
                · refine X_iconst (v := (-1)) hB dX12_settingBy_98 (by decide) ?_
                  refine X_iret hB rfl dX12_settingBy_99 ?_
                  refine ⟨congrArg (fun z => some (Value.int z)) (stI_no (fun k hk e => ?_)).symm, rfl⟩
                  rcases (show k = 0 ∨ k = 1 ∨ k = 2 ∨ k = 3 ∨ k = 4 ∨ k = 5 ∨ k = 6 ∨ k = 7 by omega) with rfl | rfl | rfl | rfl | rfl | rfl | rfl | rfl
                  · exact c5 ((kwc hl (by decide) (by decide +kernel)).mpr e)
                  · exact c17 ((kwc hl (by decide) (by decide +kernel)).mpr e)
                  · exact c29 ((kwc hl (by decide) (by decide +kernel)).mpr e)
                  · exact c41 ((kwc hl (by decide) (by decide +kernel)).mpr e)
                  · exact c53 ((kwc hl (by decide) (by decide +kernel)).mpr e)
                  · exact c65 ((kwc hl (by decide) (by decide +kernel)).mpr e)
                  · exact c77 ((kwc hl (by decide) (by decide +kernel)).mpr e)
                  · exact c90 ((kwc hl (by decide) (by decide +kernel)).mpr e)
                · refine X_bipush (v := 7) hB dX12_settingBy_93 (by decide) ?_
                  refine X_goto (tgt := 99) hB dX12_settingBy_95 (by decide) ?_
                  refine X_iret hB rfl dX12_settingBy_99 ?_
                  exact ⟨congrArg (fun z => some (Value.int z)) (stI_yes (k := 7) (by decide) ((kwc hl (by decide) (by decide +kernel)).mp c90)).symm, rfl⟩
              · refine X_bipush (v := 6) hB dX12_settingBy_80 (by decide) ?_
                refine X_goto (tgt := 99) hB dX12_settingBy_82 (by decide) ?_
                refine X_iret hB rfl dX12_settingBy_99 ?_
                exact ⟨congrArg (fun z => some (Value.int z)) (stI_yes (k := 6) (by decide) ((kwc hl (by decide) (by decide +kernel)).mp c77)).symm, rfl⟩
            · refine X_iconst (v := 5) hB dX12_settingBy_68 (by decide) ?_
              refine X_goto (tgt := 99) hB dX12_settingBy_69 (by decide) ?_
              refine X_iret hB rfl dX12_settingBy_99 ?_
              exact ⟨congrArg (fun z => some (Value.int z)) (stI_yes (k := 5) (by decide) ((kwc hl (by decide) (by decide +kernel)).mp c65)).symm, rfl⟩
          · refine X_iconst (v := 4) hB dX12_settingBy_56 (by decide) ?_
            refine X_goto (tgt := 99) hB dX12_settingBy_57 (by decide) ?_
            refine X_iret hB rfl dX12_settingBy_99 ?_
            exact ⟨congrArg (fun z => some (Value.int z)) (stI_yes (k := 4) (by decide) ((kwc hl (by decide) (by decide +kernel)).mp c53)).symm, rfl⟩
        · refine X_iconst (v := 3) hB dX12_settingBy_44 (by decide) ?_
          refine X_goto (tgt := 99) hB dX12_settingBy_45 (by decide) ?_
          refine X_iret hB rfl dX12_settingBy_99 ?_
          exact ⟨congrArg (fun z => some (Value.int z)) (stI_yes (k := 3) (by decide) ((kwc hl (by decide) (by decide +kernel)).mp c41)).symm, rfl⟩
      · refine X_iconst (v := 2) hB dX12_settingBy_32 (by decide) ?_
        refine X_goto (tgt := 99) hB dX12_settingBy_33 (by decide) ?_
        refine X_iret hB rfl dX12_settingBy_99 ?_
        exact ⟨congrArg (fun z => some (Value.int z)) (stI_yes (k := 2) (by decide) ((kwc hl (by decide) (by decide +kernel)).mp c29)).symm, rfl⟩
    · refine X_iconst (v := 1) hB dX12_settingBy_20 (by decide) ?_
      refine X_goto (tgt := 99) hB dX12_settingBy_21 (by decide) ?_
      refine X_iret hB rfl dX12_settingBy_99 ?_
      exact ⟨congrArg (fun z => some (Value.int z)) (stI_yes (k := 1) (by decide) ((kwc hl (by decide) (by decide +kernel)).mp c17)).symm, rfl⟩
  · refine X_iconst (v := 0) hB dX12_settingBy_8 (by decide) ?_
    refine X_goto (tgt := 99) hB dX12_settingBy_9 (by decide) ?_
    refine X_iret hB rfl dX12_settingBy_99 ?_
    exact ⟨congrArg (fun z => some (Value.int z)) (stI_yes (k := 0) (by decide) ((kwc hl (by decide) (by decide +kernel)).mp c5)).symm, rfl⟩
set_option maxRecDepth 100000 in
set_option maxHeartbeats 4000000 in
theorem c_leastOf (k : Nat) (hk : k < 8) : C G mX12_leastOf 0 [.int (nI k)] S (fun r S' => r = some (.int (nI (loW k))) ∧ S = S') := by
  refine C.mk (lv := [some (.int (nI k))]) (by decide) (Nat.le_of_ble_eq_true rfl) rfl (fun E hB => ?_)
  refine X_iload_n (i := 0) hB dX12_leastOf_0 rfl rfl ?_
  refine X_if_ne (tgt := 8) hB dX12_leastOf_1 (by decide) (fun c1 => ?_) (fun c1 => ?_)
  · refine X_iload_n (i := 0) hB dX12_leastOf_8 rfl rfl ?_
    refine X_bipush (v := 7) hB dX12_leastOf_9 (by decide) ?_
    refine X_icmp_ne (tgt := 18) hB dX12_leastOf_11 (by decide) (fun c11 => ?_) (fun c11 => ?_)
    · refine X_iconst (v := 1) hB dX12_leastOf_18 (by decide) ?_
      refine X_iret hB rfl dX12_leastOf_19 ?_
      rcases (show k = 0 ∨ k = 1 ∨ k = 2 ∨ k = 3 ∨ k = 4 ∨ k = 5 ∨ k = 6 ∨ k = 7 by omega) with rfl | rfl | rfl | rfl | rfl | rfl | rfl | rfl <;> first | exact ⟨rfl, rfl⟩ | exact absurd rfl c1 | exact absurd c1 (by decide) | exact absurd rfl c11 | exact absurd c11 (by decide)
    · refine X_iconst (v := 0) hB dX12_leastOf_14 (by decide) ?_
      refine X_goto (tgt := 19) hB dX12_leastOf_15 (by decide) ?_
      refine X_iret hB rfl dX12_leastOf_19 ?_
      rcases (show k = 0 ∨ k = 1 ∨ k = 2 ∨ k = 3 ∨ k = 4 ∨ k = 5 ∨ k = 6 ∨ k = 7 by omega) with rfl | rfl | rfl | rfl | rfl | rfl | rfl | rfl <;> first | exact ⟨rfl, rfl⟩ | exact absurd rfl c1 | exact absurd c1 (by decide) | exact absurd rfl c11 | exact absurd c11 (by decide)
  · refine X_iconst (v := 2) hB dX12_leastOf_4 (by decide) ?_
    refine X_goto (tgt := 19) hB dX12_leastOf_5 (by decide) ?_
    refine X_iret hB rfl dX12_leastOf_19 ?_
    rcases (show k = 0 ∨ k = 1 ∨ k = 2 ∨ k = 3 ∨ k = 4 ∨ k = 5 ∨ k = 6 ∨ k = 7 by omega) with rfl | rfl | rfl | rfl | rfl | rfl | rfl | rfl <;> first | exact ⟨rfl, rfl⟩ | exact absurd rfl c1 | exact absurd c1 (by decide)
set_option maxRecDepth 100000 in
set_option maxHeartbeats 4000000 in
theorem c_mostOf (k : Nat) (hk : k < 8) : C G mX12_mostOf 0 [.int (nI k)] S (fun r S' => r = some (.int (nI (hiW k))) ∧ S = S') := by
  refine C.mk (lv := [some (.int (nI k))]) (by decide) (Nat.le_of_ble_eq_true rfl) rfl (fun E hB => ?_)
  refine X_iload_n (i := 0) hB dX12_mostOf_0 rfl rfl ?_
  refine X_if_ne (tgt := 9) hB dX12_mostOf_1 (by decide) (fun c1 => ?_) (fun c1 => ?_)
  · refine X_iload_n (i := 0) hB dX12_mostOf_9 rfl rfl ?_
    refine X_iconst (v := 1) hB dX12_mostOf_10 (by decide) ?_
    refine X_icmp_ne (tgt := 19) hB dX12_mostOf_11 (by decide) (fun c11 => ?_) (fun c11 => ?_)
    · refine X_iload_n (i := 0) hB dX12_mostOf_19 rfl rfl ?_
      refine X_iconst (v := 2) hB dX12_mostOf_20 (by decide) ?_
      refine X_icmp_eq (tgt := 29) hB dX12_mostOf_21 (by decide) (fun c21 => ?_) (fun c21 => ?_)
      · refine X_bipush (v := 6) hB dX12_mostOf_29 (by decide) ?_
        refine X_goto (tgt := 65) hB dX12_mostOf_31 (by decide) ?_
        refine X_iret hB rfl dX12_mostOf_65 ?_
        rcases (show k = 0 ∨ k = 1 ∨ k = 2 ∨ k = 3 ∨ k = 4 ∨ k = 5 ∨ k = 6 ∨ k = 7 by omega) with rfl | rfl | rfl | rfl | rfl | rfl | rfl | rfl <;> first | exact ⟨rfl, rfl⟩ | exact absurd rfl c1 | exact absurd c1 (by decide) | exact absurd rfl c11 | exact absurd c11 (by decide) | exact absurd rfl c21 | exact absurd c21 (by decide)
      · refine X_iload_n (i := 0) hB dX12_mostOf_24 rfl rfl ?_
        refine X_iconst (v := 3) hB dX12_mostOf_25 (by decide) ?_
        refine X_icmp_ne (tgt := 34) hB dX12_mostOf_26 (by decide) (fun c26 => ?_) (fun c26 => ?_)
        · refine X_iload_n (i := 0) hB dX12_mostOf_34 rfl rfl ?_
          refine X_iconst (v := 4) hB dX12_mostOf_35 (by decide) ?_
          refine X_icmp_ne (tgt := 43) hB dX12_mostOf_36 (by decide) (fun c36 => ?_) (fun c36 => ?_)
          · refine X_iload_n (i := 0) hB dX12_mostOf_43 rfl rfl ?_
            refine X_iconst (v := 5) hB dX12_mostOf_44 (by decide) ?_
            refine X_icmp_ne (tgt := 53) hB dX12_mostOf_45 (by decide) (fun c45 => ?_) (fun c45 => ?_)
            · refine X_iload_n (i := 0) hB dX12_mostOf_53 rfl rfl ?_
              refine X_bipush (v := 6) hB dX12_mostOf_54 (by decide) ?_
              refine X_icmp_ne (tgt := 64) hB dX12_mostOf_56 (by decide) (fun c56 => ?_) (fun c56 => ?_)
              · refine X_iconst (v := 3) hB dX12_mostOf_64 (by decide) ?_
                refine X_iret hB rfl dX12_mostOf_65 ?_
                rcases (show k = 0 ∨ k = 1 ∨ k = 2 ∨ k = 3 ∨ k = 4 ∨ k = 5 ∨ k = 6 ∨ k = 7 by omega) with rfl | rfl | rfl | rfl | rfl | rfl | rfl | rfl <;> first | exact ⟨rfl, rfl⟩ | exact absurd rfl c1 | exact absurd c1 (by decide) | exact absurd rfl c11 | exact absurd c11 (by decide) | exact absurd rfl c21 | exact absurd c21 (by decide) | exact absurd rfl c26 | exact absurd c26 (by decide) | exact absurd rfl c36 | exact absurd c36 (by decide) | exact absurd rfl c45 | exact absurd c45 (by decide) | exact absurd rfl c56 | exact absurd c56 (by decide)
              · refine X_bipush (v := 9) hB dX12_mostOf_59 (by decide) ?_
                refine X_goto (tgt := 65) hB dX12_mostOf_61 (by decide) ?_
                refine X_iret hB rfl dX12_mostOf_65 ?_
                rcases (show k = 0 ∨ k = 1 ∨ k = 2 ∨ k = 3 ∨ k = 4 ∨ k = 5 ∨ k = 6 ∨ k = 7 by omega) with rfl | rfl | rfl | rfl | rfl | rfl | rfl | rfl <;> first | exact ⟨rfl, rfl⟩ | exact absurd rfl c1 | exact absurd c1 (by decide) | exact absurd rfl c11 | exact absurd c11 (by decide) | exact absurd rfl c21 | exact absurd c21 (by decide) | exact absurd rfl c26 | exact absurd c26 (by decide) | exact absurd rfl c36 | exact absurd c36 (by decide) | exact absurd rfl c45 | exact absurd c45 (by decide) | exact absurd rfl c56 | exact absurd c56 (by decide)
            · refine X_bipush (v := 20) hB dX12_mostOf_48 (by decide) ?_
              refine X_goto (tgt := 65) hB dX12_mostOf_50 (by decide) ?_
              refine X_iret hB rfl dX12_mostOf_65 ?_
              rcases (show k = 0 ∨ k = 1 ∨ k = 2 ∨ k = 3 ∨ k = 4 ∨ k = 5 ∨ k = 6 ∨ k = 7 by omega) with rfl | rfl | rfl | rfl | rfl | rfl | rfl | rfl <;> first | exact ⟨rfl, rfl⟩ | exact absurd rfl c1 | exact absurd c1 (by decide) | exact absurd rfl c11 | exact absurd c11 (by decide) | exact absurd rfl c21 | exact absurd c21 (by decide) | exact absurd rfl c26 | exact absurd c26 (by decide) | exact absurd rfl c36 | exact absurd c36 (by decide) | exact absurd rfl c45 | exact absurd c45 (by decide)
          · refine X_iconst (v := 4) hB dX12_mostOf_39 (by decide) ?_
            refine X_goto (tgt := 65) hB dX12_mostOf_40 (by decide) ?_
            refine X_iret hB rfl dX12_mostOf_65 ?_
            rcases (show k = 0 ∨ k = 1 ∨ k = 2 ∨ k = 3 ∨ k = 4 ∨ k = 5 ∨ k = 6 ∨ k = 7 by omega) with rfl | rfl | rfl | rfl | rfl | rfl | rfl | rfl <;> first | exact ⟨rfl, rfl⟩ | exact absurd rfl c1 | exact absurd c1 (by decide) | exact absurd rfl c11 | exact absurd c11 (by decide) | exact absurd rfl c21 | exact absurd c21 (by decide) | exact absurd rfl c26 | exact absurd c26 (by decide) | exact absurd rfl c36 | exact absurd c36 (by decide)
        · refine X_bipush (v := 6) hB dX12_mostOf_29 (by decide) ?_
          refine X_goto (tgt := 65) hB dX12_mostOf_31 (by decide) ?_
          refine X_iret hB rfl dX12_mostOf_65 ?_
          rcases (show k = 0 ∨ k = 1 ∨ k = 2 ∨ k = 3 ∨ k = 4 ∨ k = 5 ∨ k = 6 ∨ k = 7 by omega) with rfl | rfl | rfl | rfl | rfl | rfl | rfl | rfl <;> first | exact ⟨rfl, rfl⟩ | exact absurd rfl c1 | exact absurd c1 (by decide) | exact absurd rfl c11 | exact absurd c11 (by decide) | exact absurd rfl c21 | exact absurd c21 (by decide) | exact absurd rfl c26 | exact absurd c26 (by decide)
    · refine X_bipush (v := 7) hB dX12_mostOf_14 (by decide) ?_
      refine X_goto (tgt := 65) hB dX12_mostOf_16 (by decide) ?_
      refine X_iret hB rfl dX12_mostOf_65 ?_
      rcases (show k = 0 ∨ k = 1 ∨ k = 2 ∨ k = 3 ∨ k = 4 ∨ k = 5 ∨ k = 6 ∨ k = 7 by omega) with rfl | rfl | rfl | rfl | rfl | rfl | rfl | rfl <;> first | exact ⟨rfl, rfl⟩ | exact absurd rfl c1 | exact absurd c1 (by decide) | exact absurd rfl c11 | exact absurd c11 (by decide)
  · refine X_bipush (v := 8) hB dX12_mostOf_4 (by decide) ?_
    refine X_goto (tgt := 65) hB dX12_mostOf_6 (by decide) ?_
    refine X_iret hB rfl dX12_mostOf_65 ?_
    rcases (show k = 0 ∨ k = 1 ∨ k = 2 ∨ k = 3 ∨ k = 4 ∨ k = 5 ∨ k = 6 ∨ k = 7 by omega) with rfl | rfl | rfl | rfl | rfl | rfl | rfl | rfl <;> first | exact ⟨rfl, rfl⟩ | exact absurd rfl c1 | exact absurd c1 (by decide)
set_option maxRecDepth 100000 in
set_option maxHeartbeats 4000000 in
theorem c_fails (hR : RLay G h) (hF : RRef S h)  : C G mX12_fails 0 [.ref h] S (fun r S' => r = some (.int 0) ∧ S' = setI S h 10 (S.1 h 6)) := by
  refine C.mk (lv := [some (.ref h)]) (by decide) (Nat.le_of_ble_eq_true rfl) rfl (fun E hB => ?_)
  refine X_aload_n (i := 0) hB dX12_fails_0 rfl rfl ?_
  refine X_aload_n (i := 0) hB dX12_fails_1 rfl rfl ?_
  refine X_geti hB cw10 fX12_82 rfl hR.1.1 hR.1.2 dX12_fails_2 ?_
  refine X_puti hB cw10 fX12_111 rfl rfl hR.1.1 hR.1.2 dX12_fails_5 ?_
  refine X_iconst (v := 0) hB dX12_fails_8 (by decide) ?_
  refine X_zret hB rfl (by first | exact Or.inl rfl | exact Or.inr rfl) dX12_fails_9 ?_
  exact ⟨rfl, rfl⟩
set_option maxRecDepth 100000 in
set_option maxHeartbeats 4000000 in
theorem c_takes (hR : RLay G h) (hF : RRef S h) (B : List Nat) (hx : txtR S h B) (p : Nat) (hpl : p ≤ B.length) (hQ : tokR S h B p) (lo hi : Nat) (hlo : lo < 100) (hhi : hi < 100) (bt : Int32) : C G mX12_takes 2 [.ref h, .int (nI lo), .int (nI hi), .int bt] S (fun r S' => if tkK B p = 3 then (r = some (.int 1) ∧ frT h [] [4, 6, 7, 8, 11, 18] S S' ∧ tokR S' h B (tkE B p) ∧ S'.1 h 18 = nI (if okT B p lo hi bt then tkV B p else lo) ∧ S'.1 h 11 = bdT B p lo hi bt (S.1 h 11)) else (r = some (.int 0) ∧ S' = setI S h 10 (nI (tkB B p)))) := by
  have h400 := hx.2.1
  have hk4 : tkK B p ≤ 4 := tkK_4
  have hb4 := tkB_le hpl
  refine C.mk (lv := [some (.ref h), some (.int (nI lo)), some (.int (nI hi)), some (.int bt)]) (by decide) (Nat.le_of_ble_eq_true rfl) rfl (fun E hB => ?_)
  refine X_aload_n (i := 0) hB dX12_takes_0 rfl rfl ?_
  refine X_geti hB cw10 fX12_89 rfl hR.1.1 hR.1.2 dX12_takes_1 ?_
  refine X_topi (y := nI (tkK B p)) (hQ.2.2.1) ?_
  refine X_iconst (v := 3) hB dX12_takes_4 (by decide) ?_
  refine X_icmp_eq (tgt := 13) hB dX12_takes_5 (by decide) (fun c5 => ?_) (fun c5 => ?_)
  · have e3 : tkK B p = 3 := (nI_eq (b := 3) (by omega) (by omega)).mp c5
    simp only [if_pos e3]
    have hv := hQ.2.2.2.1 e3
    have hv9 := tkV_lt hpl e3
    refine X_aload_n (i := 0) hB dX12_takes_13 rfl rfl ?_
    refine X_aload_n (i := 0) hB dX12_takes_14 rfl rfl ?_
    refine X_geti hB cw10 fX12_92 rfl hR.1.1 hR.1.2 dX12_takes_15 ?_
    refine X_topi (y := nI (tkV B p)) (hv) ?_
    refine X_puti hB cw10 fX12_118 rfl rfl hR.1.1 hR.1.2 dX12_takes_18 ?_
    refine X_aload_n (i := 0) hB dX12_takes_21 rfl rfl ?_
    refine X_geti hB cw10 fX12_92 rfl hR.1.1 hR.1.2 dX12_takes_22 ?_
    refine X_topi (y := nI (tkV B p)) ((setI_ne _ _ (Or.inr (by decide))).trans hv) ?_
    refine X_iload_n (i := 1) hB dX12_takes_25 rfl rfl ?_
    refine X_iload_n (i := 2) hB dX12_takes_26 rfl rfl ?_
    refine X_callS hB kX12_55 (c_in _ _ _) (by decide) (by decide) rfl rfl (Nat.le_of_ble_eq_true rfl) dX12_takes_27 (fun r27 S27 q27 => ?_)
    obtain ⟨rfl, rfl⟩ := q27
    refine X_topi (y := if lo ≤ tkV B p ∧ tkV B p ≤ hi then 1 else 0) (if_iff (by rw [nI_leI (by omega) (by omega), nI_leI (by omega) (by omega)])) ?_
    refine X_if_eq (tgt := 41) hB dX12_takes_30 (by decide) (fun c30 => ?_) (fun c30 => ?_)
    · refine X_aload_n (i := 0) hB dX12_takes_41 rfl rfl ?_
      refine X_aload_n (i := 0) hB dX12_takes_42 rfl rfl ?_
      refine X_geti hB cw10 fX12_121 rfl hR.1.1 hR.1.2 dX12_takes_43 ?_
      refine X_iconst (v := (-1)) hB dX12_takes_46 (by decide) ?_
      refine X_icmp_ne (tgt := 57) hB dX12_takes_47 (by decide) (fun c47 => ?_) (fun c47 => ?_)
      · refine X_aload_n (i := 0) hB dX12_takes_57 rfl rfl ?_
        refine X_geti hB cw10 fX12_121 rfl hR.1.1 hR.1.2 dX12_takes_58 ?_
        have no : ¬ okT B p lo hi bt := fun z => if1n c30 ⟨z.1, z.2.1⟩
        have e11 : (setI S h 18 (nI (tkV B p))).1 h 11 = S.1 h 11 := setI_ne _ _ (Or.inr (by decide))
        rw [e11] at c47
        rw [e11]
        have f1 : frT h [] [4, 6, 7, 8, 11, 18] S (setI (setI (setI S h 18 (nI (tkV B p))) h 11 (S.1 h 11)) h 18 (nI lo)) := ((frT.fld (by simp)).tr (frT.fld (by simp))).tr (frT.fld (by simp))
        refine X_puti hB cw10 fX12_121 rfl rfl hR.1.1 hR.1.2 dX12_takes_61 ?_
        refine X_aload_n (i := 0) hB dX12_takes_64 rfl rfl ?_
        refine X_iload_n (i := 1) hB dX12_takes_65 rfl rfl ?_
        refine X_puti hB cw10 fX12_118 rfl rfl hR.1.1 hR.1.2 dX12_takes_66 ?_
        refine X_aload_n (i := 0) hB dX12_takes_69 rfl rfl ?_
        refine X_callV hB kX12_124 cw10 hR.1.1 hR.1.2 (c_token hR (f1.ref hF) B (hx.fr f1 (by simp) (by simp)) (tkE B p) (by rw [setI_ne _ _ (Or.inr (by decide)), setI_ne _ _ (Or.inr (by decide)), setI_ne _ _ (Or.inr (by decide))]; exact hQ.1) (tkE_le hpl)) (by decide) (by decide) rfl rfl (Nat.le_of_ble_eq_true rfl) dX12_takes_70 (fun r70 S70 q70 => ?_)
        obtain ⟨rfl, k1, k2⟩ := q70
        refine X_iconst (v := 1) hB dX12_takes_73 (by decide) ?_
        refine X_zret hB rfl (by first | exact Or.inl rfl | exact Or.inr rfl) dX12_takes_74 ?_
        refine ⟨rfl, f1.tr (k1.mono (fun _ q => q) (by simp)), k2, ?_, ?_⟩
        · rw [k1.2.2.2 18 (by simp), setI_at, if_neg no]
        · rw [k1.2.2.2 11 (by simp), setI_ne _ _ (Or.inr (by decide)), setI_at]; unfold bdT; rw [if_neg no, if_neg c47]
      · refine X_aload_n (i := 0) hB dX12_takes_50 rfl rfl ?_
        refine X_geti hB cw10 fX12_82 rfl hR.1.1 hR.1.2 dX12_takes_51 ?_
        refine X_topi (y := nI (tkB B p)) ((setI_ne _ _ (Or.inr (by decide))).trans hQ.2.1) ?_
        refine X_goto (tgt := 61) hB dX12_takes_54 (by decide) ?_
        have no : ¬ okT B p lo hi bt := fun z => if1n c30 ⟨z.1, z.2.1⟩
        have e11 : (setI S h 18 (nI (tkV B p))).1 h 11 = S.1 h 11 := setI_ne _ _ (Or.inr (by decide))
        rw [e11] at c47
        have f1 : frT h [] [4, 6, 7, 8, 11, 18] S (setI (setI (setI S h 18 (nI (tkV B p))) h 11 (nI (tkB B p))) h 18 (nI lo)) := ((frT.fld (by simp)).tr (frT.fld (by simp))).tr (frT.fld (by simp))
        refine X_puti hB cw10 fX12_121 rfl rfl hR.1.1 hR.1.2 dX12_takes_61 ?_
        refine X_aload_n (i := 0) hB dX12_takes_64 rfl rfl ?_
        refine X_iload_n (i := 1) hB dX12_takes_65 rfl rfl ?_
        refine X_puti hB cw10 fX12_118 rfl rfl hR.1.1 hR.1.2 dX12_takes_66 ?_
        refine X_aload_n (i := 0) hB dX12_takes_69 rfl rfl ?_
        refine X_callV hB kX12_124 cw10 hR.1.1 hR.1.2 (c_token hR (f1.ref hF) B (hx.fr f1 (by simp) (by simp)) (tkE B p) (by rw [setI_ne _ _ (Or.inr (by decide)), setI_ne _ _ (Or.inr (by decide)), setI_ne _ _ (Or.inr (by decide))]; exact hQ.1) (tkE_le hpl)) (by decide) (by decide) rfl rfl (Nat.le_of_ble_eq_true rfl) dX12_takes_70 (fun r70 S70 q70 => ?_)
        obtain ⟨rfl, k1, k2⟩ := q70
        refine X_iconst (v := 1) hB dX12_takes_73 (by decide) ?_
        refine X_zret hB rfl (by first | exact Or.inl rfl | exact Or.inr rfl) dX12_takes_74 ?_
        refine ⟨rfl, f1.tr (k1.mono (fun _ q => q) (by simp)), k2, ?_, ?_⟩
        · rw [k1.2.2.2 18 (by simp), setI_at, if_neg no]
        · rw [k1.2.2.2 11 (by simp), setI_ne _ _ (Or.inr (by decide)), setI_at]; unfold bdT; rw [if_neg no, if_pos c47]
    · refine X_aload_n (i := 0) hB dX12_takes_33 rfl rfl ?_
      refine X_geti hB cw10 fX12_92 rfl hR.1.1 hR.1.2 dX12_takes_34 ?_
      refine X_topi (y := nI (tkV B p)) ((setI_ne _ _ (Or.inr (by decide))).trans hv) ?_
      refine X_iload_n (i := 3) hB dX12_takes_37 rfl rfl ?_
      refine X_icmp_ne (tgt := 69) hB dX12_takes_38 (by decide) (fun c38 => ?_) (fun c38 => ?_)
      · have ok : okT B p lo hi bt := ⟨(if1 c30).1, (if1 c30).2, c38⟩
        have f1 : frT h [] [4, 6, 7, 8, 11, 18] S (setI S h 18 (nI (tkV B p))) := frT.fld (by simp)
        refine X_aload_n (i := 0) hB dX12_takes_69 rfl rfl ?_
        refine X_callV hB kX12_124 cw10 hR.1.1 hR.1.2 (c_token hR (f1.ref hF) B (hx.fr f1 (by simp) (by simp)) (tkE B p) (by rw [setI_ne _ _ (Or.inr (by decide))]; exact hQ.1) (tkE_le hpl)) (by decide) (by decide) rfl rfl (Nat.le_of_ble_eq_true rfl) dX12_takes_70 (fun r70 S70 q70 => ?_)
        obtain ⟨rfl, k1, k2⟩ := q70
        refine X_iconst (v := 1) hB dX12_takes_73 (by decide) ?_
        refine X_zret hB rfl (by first | exact Or.inl rfl | exact Or.inr rfl) dX12_takes_74 ?_
        refine ⟨rfl, f1.tr (k1.mono (fun _ q => q) (by simp)), k2, ?_, ?_⟩
        · rw [k1.2.2.2 18 (by simp), setI_at, if_pos ok]
        · rw [k1.2.2.2 11 (by simp), setI_ne _ _ (Or.inr (by decide))]; unfold bdT; rw [if_pos ok]
      · refine X_aload_n (i := 0) hB dX12_takes_41 rfl rfl ?_
        refine X_aload_n (i := 0) hB dX12_takes_42 rfl rfl ?_
        refine X_geti hB cw10 fX12_121 rfl hR.1.1 hR.1.2 dX12_takes_43 ?_
        refine X_iconst (v := (-1)) hB dX12_takes_46 (by decide) ?_
        refine X_icmp_ne (tgt := 57) hB dX12_takes_47 (by decide) (fun c47 => ?_) (fun c47 => ?_)
        · refine X_aload_n (i := 0) hB dX12_takes_57 rfl rfl ?_
          refine X_geti hB cw10 fX12_121 rfl hR.1.1 hR.1.2 dX12_takes_58 ?_
          have no : ¬ okT B p lo hi bt := fun z => z.2.2 c38
          have e11 : (setI S h 18 (nI (tkV B p))).1 h 11 = S.1 h 11 := setI_ne _ _ (Or.inr (by decide))
          rw [e11] at c47
          rw [e11]
          have f1 : frT h [] [4, 6, 7, 8, 11, 18] S (setI (setI (setI S h 18 (nI (tkV B p))) h 11 (S.1 h 11)) h 18 (nI lo)) := ((frT.fld (by simp)).tr (frT.fld (by simp))).tr (frT.fld (by simp))
          refine X_puti hB cw10 fX12_121 rfl rfl hR.1.1 hR.1.2 dX12_takes_61 ?_
          refine X_aload_n (i := 0) hB dX12_takes_64 rfl rfl ?_
          refine X_iload_n (i := 1) hB dX12_takes_65 rfl rfl ?_
          refine X_puti hB cw10 fX12_118 rfl rfl hR.1.1 hR.1.2 dX12_takes_66 ?_
          refine X_aload_n (i := 0) hB dX12_takes_69 rfl rfl ?_
          refine X_callV hB kX12_124 cw10 hR.1.1 hR.1.2 (c_token hR (f1.ref hF) B (hx.fr f1 (by simp) (by simp)) (tkE B p) (by rw [setI_ne _ _ (Or.inr (by decide)), setI_ne _ _ (Or.inr (by decide)), setI_ne _ _ (Or.inr (by decide))]; exact hQ.1) (tkE_le hpl)) (by decide) (by decide) rfl rfl (Nat.le_of_ble_eq_true rfl) dX12_takes_70 (fun r70 S70 q70 => ?_)
          obtain ⟨rfl, k1, k2⟩ := q70
          refine X_iconst (v := 1) hB dX12_takes_73 (by decide) ?_
          refine X_zret hB rfl (by first | exact Or.inl rfl | exact Or.inr rfl) dX12_takes_74 ?_
          refine ⟨rfl, f1.tr (k1.mono (fun _ q => q) (by simp)), k2, ?_, ?_⟩
          · rw [k1.2.2.2 18 (by simp), setI_at, if_neg no]
          · rw [k1.2.2.2 11 (by simp), setI_ne _ _ (Or.inr (by decide)), setI_at]; unfold bdT; rw [if_neg no, if_neg c47]
        · refine X_aload_n (i := 0) hB dX12_takes_50 rfl rfl ?_
          refine X_geti hB cw10 fX12_82 rfl hR.1.1 hR.1.2 dX12_takes_51 ?_
          refine X_topi (y := nI (tkB B p)) ((setI_ne _ _ (Or.inr (by decide))).trans hQ.2.1) ?_
          refine X_goto (tgt := 61) hB dX12_takes_54 (by decide) ?_
          have no : ¬ okT B p lo hi bt := fun z => z.2.2 c38
          have e11 : (setI S h 18 (nI (tkV B p))).1 h 11 = S.1 h 11 := setI_ne _ _ (Or.inr (by decide))
          rw [e11] at c47
          have f1 : frT h [] [4, 6, 7, 8, 11, 18] S (setI (setI (setI S h 18 (nI (tkV B p))) h 11 (nI (tkB B p))) h 18 (nI lo)) := ((frT.fld (by simp)).tr (frT.fld (by simp))).tr (frT.fld (by simp))
          refine X_puti hB cw10 fX12_121 rfl rfl hR.1.1 hR.1.2 dX12_takes_61 ?_
          refine X_aload_n (i := 0) hB dX12_takes_64 rfl rfl ?_
          refine X_iload_n (i := 1) hB dX12_takes_65 rfl rfl ?_
          refine X_puti hB cw10 fX12_118 rfl rfl hR.1.1 hR.1.2 dX12_takes_66 ?_
          refine X_aload_n (i := 0) hB dX12_takes_69 rfl rfl ?_
          refine X_callV hB kX12_124 cw10 hR.1.1 hR.1.2 (c_token hR (f1.ref hF) B (hx.fr f1 (by simp) (by simp)) (tkE B p) (by rw [setI_ne _ _ (Or.inr (by decide)), setI_ne _ _ (Or.inr (by decide)), setI_ne _ _ (Or.inr (by decide))]; exact hQ.1) (tkE_le hpl)) (by decide) (by decide) rfl rfl (Nat.le_of_ble_eq_true rfl) dX12_takes_70 (fun r70 S70 q70 => ?_)
          obtain ⟨rfl, k1, k2⟩ := q70
          refine X_iconst (v := 1) hB dX12_takes_73 (by decide) ?_
          refine X_zret hB rfl (by first | exact Or.inl rfl | exact Or.inr rfl) dX12_takes_74 ?_
          refine ⟨rfl, f1.tr (k1.mono (fun _ q => q) (by simp)), k2, ?_, ?_⟩
          · rw [k1.2.2.2 18 (by simp), setI_at, if_neg no]
          · rw [k1.2.2.2 11 (by simp), setI_ne _ _ (Or.inr (by decide)), setI_at]; unfold bdT; rw [if_neg no, if_pos c47]
  · have n3 : ¬ tkK B p = 3 := fun z => c5 (by rw [z]; rfl)
    simp only [if_neg n3]
    refine X_aload_n (i := 0) hB dX12_takes_8 rfl rfl ?_
    refine X_callV hB kX12_114 cw10 hR.1.1 hR.1.2 (c_fails hR hF) (by decide) (by decide) rfl rfl (Nat.le_of_ble_eq_true rfl) dX12_takes_9 (fun r9 S9 q9 => ?_)
    obtain ⟨rfl, rfl⟩ := q9
    refine X_zret hB rfl (by first | exact Or.inl rfl | exact Or.inr rfl) dX12_takes_12 ?_
    exact ⟨rfl, by rw [hQ.2.1]⟩
set_option maxRecDepth 100000 in
set_option maxHeartbeats 4000000 in
theorem c_takesNode (hR : RLay G h) (hF : RRef S h) (B : List Nat) (hx : txtR S h B) (p : Nat) (hpl : p ≤ B.length) (hQ : tokR S h B p) (bt : Int32) : C G mX12_takesNode 3 [.ref h, .int bt] S (fun r S' => if tkK B p = 3 then (r = some (.int 1) ∧ frT h [h + 6] [4, 6, 7, 8, 11, 18] S S' ∧ tokR S' h B (tkE B p) ∧ S'.1 h 18 = nI (if okT B p 0 7 bt then tkV B p else 0) ∧ S'.1 h 11 = bdT B p 0 7 bt (S.1 h 11) ∧ S'.1 (h + 6) = (fun k => if k = (if okT B p 0 7 bt then tkV B p else 0) then (if S.1 (h + 6) (if okT B p 0 7 bt then tkV B p else 0) = -1 then nI (tkB B p) else S.1 (h + 6) (if okT B p 0 7 bt then tkV B p else 0)) else S.1 (h + 6) k)) else (r = some (.int 0) ∧ S' = setI S h 10 (nI (tkB B p)))) := by
  have h400 := hx.2.1
  have hb4 := tkB_le hpl
  refine C.mk (lv := [some (.ref h), some (.int bt), none]) (by decide) (Nat.le_of_ble_eq_true rfl) rfl (fun E hB => ?_)
  refine X_aload_n (i := 0) hB dX12_takesNode_0 rfl rfl ?_
  refine X_geti hB cw10 fX12_82 rfl hR.1.1 hR.1.2 dX12_takesNode_1 ?_
  refine X_topi (y := nI (tkB B p)) (hQ.2.1) ?_
  refine X_istore_n (i := 2) hB dX12_takesNode_4 rfl (by decide) rfl ?_
  refine X_aload_n (i := 0) hB dX12_takesNode_5 rfl rfl ?_
  refine X_iconst (v := 0) hB dX12_takesNode_6 (by decide) ?_
  refine X_bipush (v := 7) hB dX12_takesNode_7 (by decide) ?_
  refine X_iload_n (i := 1) hB dX12_takesNode_9 rfl rfl ?_
  refine X_callV hB kX12_127 cw10 hR.1.1 hR.1.2 (c_takes hR hF B hx p hpl hQ 0 7 (by decide) (by decide) bt) (by decide) (by decide) rfl rfl (Nat.le_of_ble_eq_true rfl) dX12_takesNode_10 (fun r10 S10 q10 => ?_)
  by_cases e3 : tkK B p = 3
  · rw [if_pos e3] at q10
    simp only [if_pos e3]
    obtain ⟨rfl, k1, k2, k3, k4⟩ := q10
    have hv9 := tkV_lt hpl e3
    have hF1 : RRef S10 h := k1.ref hF
    have hr8 : (if okT B p 0 7 bt then tkV B p else 0) < 8 := by
      split
      · rename_i ok; have := ok.2.1; omega
      · omega
    have h6 : S10.1 (h + 6) = S.1 (h + 6) := k1.2.2.1 _ (by simp) (by omega)
    generalize hrd : (if okT B p 0 7 bt then tkV B p else 0) = rd at k3 hr8 ⊢
    refine X_if_ne (tgt := 18) hB dX12_takesNode_13 (by decide) (fun c13 => ?_) (fun c13 => absurd c13 (by decide))
    refine X_aload_n (i := 0) hB dX12_takesNode_18 rfl rfl ?_
    refine X_getr hB cw10 fX12_27 rfl hR.1.1 hR.1.2 hF1.2.2.2.2.2.1 dX12_takesNode_19 ?_
    refine X_aload_n (i := 0) hB dX12_takesNode_22 rfl rfl ?_
    refine X_geti hB cw10 fX12_118 rfl hR.1.1 hR.1.2 dX12_takesNode_23 ?_
    refine X_topi (y := nI rd) (k3) ?_
    refine X_aload_n (i := 0) hB dX12_takesNode_26 rfl rfl ?_
    refine X_getr hB cw10 fX12_27 rfl hR.1.1 hR.1.2 hF1.2.2.2.2.2.1 dX12_takesNode_27 ?_
    refine X_aload_n (i := 0) hB dX12_takesNode_30 rfl rfl ?_
    refine X_geti hB cw10 fX12_118 rfl hR.1.1 hR.1.2 dX12_takesNode_31 ?_
    refine X_topi (y := nI rd) (k3) ?_
    refine X_ialdN hB (rd) hR.2.2.2.2.2.2.1.1 hR.2.2.2.2.2.2.1.2 (by decide) rfl (by first | omega | (simp only []; omega)) rfl dX12_takesNode_34 ?_
    refine X_iconst (v := (-1)) hB dX12_takesNode_35 (by decide) ?_
    refine X_icmp_ne (tgt := 43) hB dX12_takesNode_36 (by decide) (fun c36 => ?_) (fun c36 => ?_)
    · refine X_aload_n (i := 0) hB dX12_takesNode_43 rfl rfl ?_
      refine X_getr hB cw10 fX12_27 rfl hR.1.1 hR.1.2 hF1.2.2.2.2.2.1 dX12_takesNode_44 ?_
      refine X_aload_n (i := 0) hB dX12_takesNode_47 rfl rfl ?_
      refine X_geti hB cw10 fX12_118 rfl hR.1.1 hR.1.2 dX12_takesNode_48 ?_
      refine X_topi (y := nI rd) (k3) ?_
      refine X_ialdN hB (rd) hR.2.2.2.2.2.2.1.1 hR.2.2.2.2.2.2.1.2 (by decide) rfl (by first | omega | (simp only []; omega)) rfl dX12_takesNode_51 ?_
      refine X_iastN hB (rd) hR.2.2.2.2.2.2.1.1 hR.2.2.2.2.2.2.1.2 (by decide) rfl (by first | omega | (simp only []; omega)) dX12_takesNode_52 ?_
      refine X_iconst (v := 1) hB dX12_takesNode_53 (by decide) ?_
      refine X_zret hB rfl (by first | exact Or.inl rfl | exact Or.inr rfl) dX12_takesNode_54 ?_
      refine ⟨rfl, (k1.mono (by simp) (fun _ q => q)).tr (frT.set (by simp) (by omega)), ?_, ?_, ?_, ?_⟩
      · exact ⟨by rw [setI_ne _ _ (Or.inl (by omega))]; exact k2.1, by rw [setI_ne _ _ (Or.inl (by omega))]; exact k2.2.1, by rw [setI_ne _ _ (Or.inl (by omega))]; exact k2.2.2.1, fun q => by rw [setI_ne _ _ (Or.inl (by omega))]; exact k2.2.2.2.1 q, k2.2.2.2.2⟩
      · rw [setI_ne _ _ (Or.inl (by omega))]; exact k3
      · rw [setI_ne _ _ (Or.inl (by omega))]; exact k4
      · funext k
        by_cases q : k = rd
        · subst q
          rw [setI_at, if_pos rfl]
          first | rw [h6] | skip
          rw [h6] at c36
          rw [if_neg c36]
        · rw [setI_ne _ _ (Or.inr q), if_neg q, h6]
    · refine X_iload_n (i := 2) hB dX12_takesNode_39 rfl rfl ?_
      refine X_goto (tgt := 52) hB dX12_takesNode_40 (by decide) ?_
      refine X_iastN hB (rd) hR.2.2.2.2.2.2.1.1 hR.2.2.2.2.2.2.1.2 (by decide) rfl (by first | omega | (simp only []; omega)) dX12_takesNode_52 ?_
      refine X_iconst (v := 1) hB dX12_takesNode_53 (by decide) ?_
      refine X_zret hB rfl (by first | exact Or.inl rfl | exact Or.inr rfl) dX12_takesNode_54 ?_
      refine ⟨rfl, (k1.mono (by simp) (fun _ q => q)).tr (frT.set (by simp) (by omega)), ?_, ?_, ?_, ?_⟩
      · exact ⟨by rw [setI_ne _ _ (Or.inl (by omega))]; exact k2.1, by rw [setI_ne _ _ (Or.inl (by omega))]; exact k2.2.1, by rw [setI_ne _ _ (Or.inl (by omega))]; exact k2.2.2.1, fun q => by rw [setI_ne _ _ (Or.inl (by omega))]; exact k2.2.2.2.1 q, k2.2.2.2.2⟩
      · rw [setI_ne _ _ (Or.inl (by omega))]; exact k3
      · rw [setI_ne _ _ (Or.inl (by omega))]; exact k4
      · funext k
        by_cases q : k = rd
        · subst q
          rw [setI_at, if_pos rfl]
          first | rw [h6] | skip
          rw [h6] at c36
          rw [if_pos c36]
        · rw [setI_ne _ _ (Or.inr q), if_neg q, h6]
  · rw [if_neg e3] at q10
    simp only [if_neg e3]
    obtain ⟨rfl, rfl⟩ := q10
    refine X_if_ne (tgt := 18) hB dX12_takesNode_13 (by decide) (fun c13 => absurd rfl c13) (fun c13 => ?_)
    refine X_iconst (v := 0) hB dX12_takesNode_16 (by decide) ?_
    refine X_zret hB rfl (by first | exact Or.inl rfl | exact Or.inr rfl) dX12_takesNode_17 ?_
    exact ⟨rfl, rfl⟩
end REF
