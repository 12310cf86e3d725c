/-! the class: the least of the shortest rows -/
theorem low_pos {p : Nat → Bool} {y : Nat} (hy : y < 8) (hp : p y = true) : 0 < bts p 8 := by
  refine Nat.pos_of_ne_zero (fun e => ?_)
  have := bts_bit p 8 y
  rw [e, Nat.zero_testBit, hp, decide_eq_true hy] at this
  cases this
theorem nxt_low (f : Nat → Nat → Bool) (to a d : Nat) : nxt f to a d = low8 (fun y => f a y && decide (dst f to y = d)) := rfl
section CLS
variable {G : Gc} {S : St}
set_option maxRecDepth 100000 in
set_option maxHeartbeats 4000000 in
theorem l_X4_leastRow {E : Ev} (hB : Bd G E mX4_leastRow) {Q : Option Value → St → Prop} {v : Int64} {f : Nat → Nat → Bool} (hv : lkR v f) (hs : symB f) {to : Nat} (hto : to < 8) {w : Int64} (hw : levR w f to 8) (x hops : Nat) (L : List Nat) (kk : Q (some (.long (rJ L))) S) :
    ∀ (d i a : Nat) (l : List Nat), a < 8 → dst f to a = d → i + d ≤ 8 → 1 ≤ i → l.length = i → okR l → L = l ++ wlk f to d a → X G E mX4_leastRow 2 Q S 42 [some (.long (v)), none, some (.int (nI x)), some (.int (nI to)), some (.int (nI hops)), some (.long (w)), none, some (.int (nI d)), some (.int (nI a)), some (.long (rJ l)), none, some (.int (nI i)), none] [] := by
  intro d
  induction d with
  | zero =>
    intro i a l h1 h2 h3 h4 h5 h6 h7
    have e9 : L = l := by rw [h7]; simp [wlk]
    rw [e9] at kk
    refine X_iload hB dX4_leastRow_42 rfl ?_
    refine X_bipush (v := 8) hB dX4_leastRow_44 (by decide) ?_
    refine X_icmp_ge (tgt := 103) hB dX4_leastRow_46 (by decide) (fun c46 => ?_) (fun c46 => ?_)
    · refine X_lload hB dX4_leastRow_103 rfl ?_
      refine X_lret hB rfl dX4_leastRow_105 ?_
      exact kk
    · refine X_iload hB dX4_leastRow_49 rfl ?_
      refine X_if_le (tgt := 103) hB dX4_leastRow_51 (by decide) (fun c51 => ?_) (fun c51 => absurd (show nI 0 ≤ (0 : Int32) by decide) c51)
      refine X_lload hB dX4_leastRow_103 rfl ?_
      refine X_lret hB rfl dX4_leastRow_105 ?_
      exact kk
  | succ d ih =>
    intro i a l h1 h2 h3 h4 h5 h6 h7
    obtain ⟨g1, g2, g3, g4⟩ := nxt_spec h2 (by omega)
    refine X_iload hB dX4_leastRow_42 rfl ?_
    refine X_bipush (v := 8) hB dX4_leastRow_44 (by decide) ?_
    refine X_icmp_ge (tgt := 103) hB dX4_leastRow_46 (by decide) (fun c46 => absurd c46 (by simp (disch := omega) only [nlit, nI_leI, nI_ltI]; omega)) (fun c46 => ?_)
    refine X_iload hB dX4_leastRow_49 rfl ?_
    refine X_if_le (tgt := 103) hB dX4_leastRow_51 (by decide) (fun c51 => absurd c51 (nI_nle (by omega) (by omega))) (fun c51 => ?_)
    refine X_iinc hB dX4_leastRow_54 rfl rfl (by decide) rfl ?_
    refine X_dl [some (.long (v)), none, some (.int (nI x)), some (.int (nI to)), some (.int (nI hops)), some (.long (w)), none, some (.int (nI d)), some (.int (nI a)), some (.long (rJ l)), none, some (.int (nI i)), none] ⟨rfl, rfl, rfl, rfl, rfl, by rw [show Int32.ofInt (-1) = (-1 : Int32) by decide, nI_m1 d], rfl, rfl, rfl, trivial⟩ ?_
    refine X_lload_n (i := 0) hB dX4_leastRow_57 rfl rfl ?_
    refine X_iload hB dX4_leastRow_58 rfl ?_
    refine X_callS hB kX4_43 (c_X4_near hv h1) (by decide) (by decide) rfl rfl (Nat.le_of_ble_eq_true rfl) dX4_leastRow_60 (fun r60 S60 q60 => ?_)
    obtain ⟨rfl, rfl⟩ := q60
    refine X_lload hB dX4_leastRow_63 rfl ?_
    refine X_bipush (v := 8) hB dX4_leastRow_65 (by decide) ?_
    refine X_iload hB dX4_leastRow_67 rfl ?_
    refine X_imul hB dX4_leastRow_69 ?_
    refine X_topi (y := nI (8 * d)) (by first | rfl | (simp (disch := omega) only [nlit, nI_add, nI_mul, nI_sub]; done) | (simp (disch := omega) only [nlit, nI_add, nI_mul, nI_sub]; (congr 1 <;> omega))) ?_
    refine X_lushr hB dX4_leastRow_70 ?_
    refine X_l2i hB dX4_leastRow_71 ?_
    refine X_iand hB dX4_leastRow_72 ?_
    refine X_topi (y := nI (bts (fun y => f a y && decide (dst f to y = d)) 8)) (lev_val hw (by omega)) ?_
    refine X_istore hB dX4_leastRow_73 (by decide) rfl ?_
    refine X_iload hB dX4_leastRow_75 rfl ?_
    refine X_iload hB dX4_leastRow_77 rfl ?_
    refine X_ineg hB dX4_leastRow_79 ?_
    refine X_iand hB dX4_leastRow_80 ?_
    refine X_iconst (v := 1) hB dX4_leastRow_81 (by decide) ?_
    refine X_isub hB dX4_leastRow_82 ?_
    refine X_callS hB kX4_46 (c_J6_bitCount_0f7a4 _) (by decide) (by decide) rfl rfl (Nat.le_of_ble_eq_true rfl) dX4_leastRow_83 (fun r83 S83 q83 => ?_)
    obtain ⟨rfl, rfl⟩ := q83
    refine X_topi (y := nI (nxt f to a d)) (by rw [low_bc _ (bts_8 _) (low_pos g1 (by simp [g2, g3])), lowN_bts]; rfl) ?_
    refine X_istore hB dX4_leastRow_86 (by decide) rfl ?_
    refine X_lload hB dX4_leastRow_88 rfl ?_
    refine X_iload hB dX4_leastRow_90 rfl ?_
    refine X_callS hB kX4_51 (c_X8_with l h6 (nxt f to a d) g1) (by decide) (by decide) rfl rfl (Nat.le_of_ble_eq_true rfl) dX4_leastRow_92 (fun r92 S92 q92 => ?_)
    obtain ⟨rfl, rfl⟩ := q92
    refine X_topl (y := rJ (l ++ [nxt f to a d])) (if_pos (by omega)) ?_
    refine X_lstore hB dX4_leastRow_95 (by decide) rfl ?_
    refine X_iinc hB dX4_leastRow_97 rfl rfl (by decide) rfl ?_
    refine X_goto (tgt := 42) hB dX4_leastRow_100 (by decide) ?_
    refine X_dl [some (.long (v)), none, some (.int (nI x)), some (.int (nI to)), some (.int (nI hops)), some (.long (w)), none, some (.int (nI d)), some (.int (nI (nxt f to a d))), some (.long (rJ (l ++ [nxt f to a d]))), none, some (.int (nI (i + 1))), none] ⟨rfl, rfl, rfl, rfl, rfl, rfl, rfl, rfl, by rw [nI_succ i]; rfl, trivial⟩ (ih (i + 1) (nxt f to a d) (l ++ [nxt f to a d]) g1 g3 (by omega) (by omega) (by rw [List.length_append, List.length_singleton, h5]) (h6.snoc g1 (by omega)) (by rw [h7]; simp [wlk]))
set_option maxRecDepth 100000 in
set_option maxHeartbeats 4000000 in
theorem c_X4_leastRow {v : Int64} {f : Nat → Nat → Bool} (hv : lkR v f) (hs : symB f) {to : Nat} (hto : to < 8) {x : Nat} (hx : x < 8) (hne : x ≠ to) {hops : Nat} (hh : hops ≤ 7) : C G mX4_leastRow 2 [.long v, .int (nI x), .int (nI to), .int (nI hops)] S (fun r S' => r = some (.long (rJ (wayM f to hops x))) ∧ S = S') := by
  refine C.mk (lv := [some (.long v), none, some (.int (nI x)), some (.int (nI to)), some (.int (nI hops)), none, none, none, none, none, none, none, none]) (by decide) (Nat.le_of_ble_eq_true rfl) rfl (fun E hB => ?_)
  refine X_lload_n (i := 0) hB dX4_leastRow_0 rfl rfl ?_
  refine X_iload_n (i := 3) hB dX4_leastRow_1 rfl rfl ?_
  refine X_callS hB kX4_36 (c_X4_levels hv hs hto) (by decide) (by decide) rfl rfl (Nat.le_of_ble_eq_true rfl) dX4_leastRow_2 (fun r2 S2 q2 => ?_)
  obtain ⟨⟨w, rfl, hw⟩, rfl⟩ := q2
  refine X_lstore hB dX4_leastRow_5 (by decide) rfl ?_
  refine X_lload hB dX4_leastRow_7 rfl ?_
  refine X_iload_n (i := 2) hB dX4_leastRow_9 rfl rfl ?_
  refine X_callS hB kX4_40 (c_X4_levelOf hw hx) (by decide) (by decide) rfl rfl (Nat.le_of_ble_eq_true rfl) dX4_leastRow_10 (fun r10 S10 q10 => ?_)
  obtain ⟨rfl, rfl⟩ := q10
  have hd99 := dst_99 (f := f) (to := to) (x := x)
  have hd0 : dst f to x ≠ 0 := fun q => hne (dst_0.mp q)
  refine X_istore hB dX4_leastRow_13 (by decide) rfl ?_
  refine X_iload hB dX4_leastRow_15 rfl ?_
  refine X_iconst (v := 1) hB dX4_leastRow_17 (by decide) ?_
  refine X_icmp_lt (tgt := 28) hB dX4_leastRow_18 (by decide) (fun c18 => ?_) (fun c18 => ?_)
  · have e9 : wayM f to hops x = [] := by
      unfold wayM
      rw [if_neg]
      intro q
      have e1 : dst1 (dst f to x) = nI (dst f to x) := by unfold dst1; rw [if_pos (by omega)]
      first
        | (rw [e1, show (1 : Int32) = nI 1 from rfl, nI_ltI (by omega) (by omega)] at c18; omega)
        | (rw [e1, nI_leI (by omega) (by omega)] at c25; omega)
    refine X_lconst (v := 0) hB dX4_leastRow_28 (by decide) ?_
    refine X_lret hB rfl dX4_leastRow_29 ?_
    exact ⟨by rw [e9]; rfl, rfl⟩
  · refine X_iload hB dX4_leastRow_21 rfl ?_
    refine X_iload hB dX4_leastRow_23 rfl ?_
    refine X_icmp_le (tgt := 30) hB dX4_leastRow_25 (by decide) (fun c25 => ?_) (fun c25 => ?_)
    · refine X_iload_n (i := 2) hB dX4_leastRow_30 rfl rfl ?_
      refine X_istore hB dX4_leastRow_31 (by decide) rfl ?_
      refine X_iload_n (i := 2) hB dX4_leastRow_33 rfl rfl ?_
      refine X_iconst (v := 1) hB dX4_leastRow_34 (by decide) ?_
      refine X_iadd hB dX4_leastRow_35 ?_
      refine X_i2l hB dX4_leastRow_36 ?_
      refine X_lstore hB dX4_leastRow_37 (by decide) rfl ?_
      refine X_iconst (v := 1) hB dX4_leastRow_39 (by decide) ?_
      refine X_istore hB dX4_leastRow_40 (by decide) rfl ?_
      have e2 : dst f to x < 8 := by
        rcases hd99 with q | q
        · exact q
        · unfold dst1 at c18
          rw [q, if_neg (by decide)] at c18
          exact absurd (by decide) c18
      have e1 : dst1 (dst f to x) = nI (dst f to x) := by unfold dst1; rw [if_pos (by omega)]
      rw [e1, nI_leI (by omega) (by omega)] at c25
      rw [e1]
      have e3 : wayM f to hops x = [x] ++ wlk f to (dst f to x) x := by unfold wayM; rw [if_pos c25]; rfl
      refine X_dl [some (.long (v)), none, some (.int (nI x)), some (.int (nI to)), some (.int (nI hops)), some (.long (w)), none, some (.int (nI (dst f to x))), some (.int (nI x)), some (.long (rJ [x])), none, some (.int (nI 1)), none] ⟨rfl, rfl, rfl, rfl, rfl, rfl, rfl, ?_, rfl, trivial⟩ (l_X4_leastRow hB hv hs hto hw x hops _ ⟨rfl, rfl⟩ (dst f to x) 1 x [x] hx rfl (by omega) (by omega) rfl ⟨by simp, fun y hy => by rw [List.mem_singleton.mp hy]; exact hx⟩ e3)
      rw [nI_1, nI_l (by omega)]; rfl
    · have e9 : wayM f to hops x = [] := by
        unfold wayM
        rw [if_neg]
        intro q
        have e1 : dst1 (dst f to x) = nI (dst f to x) := by unfold dst1; rw [if_pos (by omega)]
        first
          | (rw [e1, show (1 : Int32) = nI 1 from rfl, nI_ltI (by omega) (by omega)] at c18; omega)
          | (rw [e1, nI_leI (by omega) (by omega)] at c25; omega)
      refine X_lconst (v := 0) hB dX4_leastRow_28 (by decide) ?_
      refine X_lret hB rfl dX4_leastRow_29 ?_
      exact ⟨by rw [e9]; rfl, rfl⟩
end CLS
