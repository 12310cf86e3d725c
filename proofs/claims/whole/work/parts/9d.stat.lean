/-! statics that nobody writes, the words' string, and what the JDK does with it -/
set_option maxRecDepth 100000 in
theorem zX6_18 : Cond.fieldLink RX6 18 "SourceRoutes$Reader" "AT_FIRST" "[I" ∈ lw_gd := gdm (List.mem_of_getElem? (i := 479) (by decide +kernel)) (by decide +kernel)
set_option maxRecDepth 100000 in
theorem zX6_109 : Cond.fieldLink RX6 109 "SourceRoutes$Reader" "LEAST" "[I" ∈ lw_gd := gdm (List.mem_of_getElem? (i := 611) (by decide +kernel)) (by decide +kernel)
set_option maxRecDepth 100000 in
theorem zX6_112 : Cond.fieldLink RX6 112 "SourceRoutes$Reader" "MOST" "[I" ∈ lw_gd := gdm (List.mem_of_getElem? (i := 613) (by decide +kernel)) (by decide +kernel)
set_option maxRecDepth 100000 in
theorem zJ0_38 : Cond.fieldLink RJ0 38 "java/lang/String" "COMPACT_STRINGS" "Z" ∈ lw_gd := gdm (List.mem_of_getElem? (i := 571) (by decide +kernel)) (by decide +kernel)
set_option maxRecDepth 100000 in
theorem zJ0_1053 : Cond.fieldLink RJ0 1053 "jdk/internal/util/Preconditions" "SIOOBE_FORMATTER" "Ljava/util/function/BiFunction;" ∈ lw_gd := gdm (List.mem_of_getElem? (i := 579) (by decide +kernel)) (by decide +kernel)
set_option maxRecDepth 100000 in
theorem zJ0_15 : Cond.fieldLink RJ0 15 "java/lang/String" "coder" "B" ∈ lw_gd := gdm (List.mem_of_getElem? (i := 1706) (by decide +kernel)) (by decide +kernel)
set_option maxRecDepth 100000 in
theorem zJ0_9 : Cond.fieldLink RJ0 9 "java/lang/String" "value" "[B" ∈ lw_gd := gdm (List.mem_of_getElem? (i := 1707) (by decide +kernel)) (by decide +kernel)
def wB : List Nat := [110, 111, 100, 101, 115, 32, 32, 32, 104, 111, 112, 115, 32, 32, 32, 32, 114, 111, 111, 109, 32, 32, 32, 32, 116, 97, 98, 108, 101, 32, 32, 32, 98, 117, 102, 102, 101, 114, 32, 32, 119, 97, 105, 116, 32, 32, 32, 32, 97, 103, 97, 105, 110, 32, 32, 32, 115, 97, 108, 118, 97, 103, 101, 32, 108, 105, 110, 107, 32, 32, 32, 32, 109, 97, 112, 32, 32, 32, 32, 32, 100, 101, 97, 102, 32, 32, 32, 32]
def wTx : String := "nodes   hops    room    table   buffer  wait    again   salvage link    map     deaf    "
def aF : List Nat := [2, 7, 4, 4, 3, 9, 3, 1]
def aL : List Nat := [2, 1, 1, 1, 1, 1, 1, 0]
def aM : List Nat := [8, 7, 6, 6, 4, 20, 9, 3]
/-- a static table of ints -/
def zT (G : Gc) (nm : String) (t : Nat) (l : List Nat) (U : State) : Prop := va_Z "SourceRoutes$Reader" nm "[I" (.ref t) (gA G) U U.heap ∧ va_T .int t 8 (fun j => .int (nI (l.getD j 0))) (gA G) U U.heap
/-- the string of the words -/
def zW (G : Gc) (q v : Nat) (U : State) : Prop := vk_R "SourceRoutes$Reader" 101 wTx q U ∧ va_O "java/lang/String" q (gA G) U U.heap ∧ va_OF "java/lang/String" "coder" "B" (.int 0) q (gA G) U U.heap ∧ va_OF "java/lang/String" "value" "[B" (.ref v) q (gA G) U U.heap ∧ va_T .byte v 88 (fun j => .int (nI (wB.getD j 0))) (gA G) U U.heap ∧ va_Z "java/lang/String" "COMPACT_STRINGS" "Z" (.int 1) (gA G) U U.heap ∧ va_Zq "jdk/internal/util/Preconditions" "SIOOBE_FORMATTER" "Ljava/util/function/BiFunction;" (gA G) U U.heap
def zOk (G : Gc) : Prop := ∃ tF tL tM q v, ∀ U, gZ G U → zT G "AT_FIRST" tF aF U ∧ zT G "LEAST" tL aL U ∧ zT G "MOST" tM aM U ∧ zW G q v U
section XST
variable {G : Gc} {E : Ev} {md : Md} {n : Nat} {Q : Option Value → St → Prop} {S : St} {pc : Nat} {lv : List (Option Value)} {st : List Value} {idx : Nat}
theorem X_gets (hB : Bd G E md) {C nm d : String} {v : Value} (hZ : va_Z C nm d v (gA G) E.2.2.1 E.2.2.1.heap) (hl : Cond.fieldLink md.1.cls idx C nm d ∈ lw_gd) (hd : decode md.2.1 pc = .ok (.getstatic idx, 3)) (k : X G E md n Q S (pc + 3) lv (v :: st)) : X G E md n Q S pc lv st := fun H locs ls hP hD hS hl' =>
  va_gets hB.1 hB.2.1 hZ hS hB.2.2.2.2.2.1 (hB.2.2.2.2.2.2.1 _ hl) (fun _ h => h) hd (k H locs ls hP hD hS hl')
theorem X_ti (hB : Bd G E md) {t N j : Nat} {f : Nat → Int32} {i : Int32} (hT : va_T .int t N (fun j => .int (f j)) (gA G) E.2.2.1 E.2.2.1.heap) (hi : i = nI j) (hj : j < N) (hN : N < 2 ^ 31) (hd : decode md.2.1 pc = .ok (.iaload, 1)) (k : X G E md n Q S (pc + 1) lv (.int (f j) :: st)) : X G E md n Q S pc lv (.int i :: .ref t :: st) := fun H locs ls hP hD hS hl => by
  subst hi
  exact va_ti hB.1 hB.2.1 hT hS (vp_in_nI hj hN) (by rw [nI_clamp (Nat.lt_trans hj hN)]) hd (k H locs ls hP hD hS hl)
theorem X_tb (hB : Bd G E md) {t N j : Nat} {f : Nat → Int32} {i : Int32} (hT : va_T .byte t N (fun j => .int (f j)) (gA G) E.2.2.1 E.2.2.1.heap) (hi : i = nI j) (hj : j < N) (hN : N < 2 ^ 31) (hd : decode md.2.1 pc = .ok (.baload, 1)) (k : X G E md n Q S (pc + 1) lv (.int (f j) :: st)) : X G E md n Q S pc lv (.int i :: .ref t :: st) := fun H locs ls hP hD hS hl => by
  subst hi
  exact va_tb hB.1 hB.2.1 hT hS (vp_in_nI hj hN) (by rw [nI_clamp (Nat.lt_trans hj hN)]) hd (k H locs ls hP hD hS hl)
theorem X_tlen (hB : Bd G E md) {t N : Nat} {f : Nat → Value} {ty : FieldType} (hT : va_T ty t N f (gA G) E.2.2.1 E.2.2.1.heap) (hd : decode md.2.1 pc = .ok (.arraylength, 1)) (k : X G E md n Q S (pc + 1) lv (.int (nI N) :: st)) : X G E md n Q S pc lv (.ref t :: st) := fun H locs ls hP hD hS hl =>
  va_tlen hB.1 hB.2.1 hT hS rfl hd (k H locs ls hP hD hS hl)
theorem X_getO (hB : Bd G E md) {C nm d : String} {v : Value} {q : Nat} (hE : va_OF C nm d v q (gA G) E.2.2.1 E.2.2.1.heap) (hl : Cond.fieldLink md.1.cls idx C nm d ∈ lw_gd) (hd : decode md.2.1 pc = .ok (.getfield idx, 3)) (k : X G E md n Q S (pc + 3) lv (v :: st)) : X G E md n Q S pc lv (.ref q :: st) := fun H locs ls hP hD hS hl' =>
  vk_getf hB.1 hB.2.1 hE hS hB.2.2.2.2.2.1 (hB.2.2.2.2.2.2.1 _ hl) (fun _ h => h) hd (k H locs ls hP hD hS hl')
theorem X_ldcS (hB : Bd G E md) {tx : String} {q : Nat} (hZ : vk_R md.1.cls idx tx q E.2.2.1) (hd : decode md.2.1 pc = .ok (.ldc idx, 2)) (k : X G E md n Q S (pc + 2) lv (.ref q :: st)) : X G E md n Q S pc lv st := fun H locs ls hP hD hS hl =>
  va_ldcS hB.1 hB.2.1 hB.2.2.2.2.2.1 hZ hd (k H locs ls hP hD hS hl)
theorem X_i2c (hB : Bd G E md) {x v : Int32} (hd : decode md.2.1 pc = .ok (.i2c, 1)) (hv : (x.toUInt32 % 65536).toInt32 = v) (k : X G E md n Q S (pc + 1) lv (.int v :: st)) : X G E md n Q S pc lv (.int x :: st) := fun H locs ls hP hD hS hl =>
  lv_i2c hB.1 hB.2.1 hd hv (k H locs ls hP hD hS hl)
theorem X_cret (hB : Bd G E md) {v : Int32} (hr : md.2.2.2 = some .char) (hv : narrow .char (.int v) = .int v) (hd : decode md.2.1 pc = .ok (.ireturn, 1)) (k : Q (some (.int v)) S) : X G E md n Q S pc lv [.int v] := fun H locs ls hP hD hS hl =>
  W.zret hB.1 hB.2.1 (hB.2.2.2.1.trans hr) hv (fun t ht hW => ⟨_, S, rfl, k, Cx_end hB hP hD hS ht hW⟩) hS.2.2 hd hB.2.2.2.2.1
theorem X_callVO {md' : Md} {n' np : Nat} {Q' : Option Value → St → Prop} {As st0 : List Value} (hB : Bd G E md) {b : Nat} (hk : kV md.1.cls idx md' np) (hO : va_O md'.1.cls b (gA G) E.2.2.1 E.2.2.1.heap) (hC : C G md' n' (.ref b :: As) S Q') (hn : n' + 1 ≤ n) (hm : md'.2.2.1 ≤ 21) (hlen : As.length = np) (hst : st0 = As.reverse ++ .ref b :: st) (hsm : (st.map fun v => v.category).sum ≤ 8) (hd : decode md.2.1 pc = .ok (.invokevirtual idx, 3)) (k : ∀ r S', Q' r S' → X G E md n Q S' (pc + 3) lv (r.toList ++ st)) : X G E md n Q S pc lv st0 := by
  refine X_run (Q' := Q') hB (fun H locs ls hP hD hS hl => ⟨(Value.ref b :: As).toArray, ?_⟩) k
  obtain ⟨k1, k2, k3, k4, k5, k6, k7⟩ := hk
  have hts := hB.2.2.2.2.2.2.1
  have hr : ∃ cell : Cell, H[b]? = some cell ∧ cell.vm.isStatics = false ∧ E.2.2.1.vm.findClass md'.1.cls = some cell.cls := by
    obtain ⟨cell, h1, h2, h3, -⟩ := hO.kept hS.2.1
    exact ⟨cell, h1, h2, h3⟩
  exact va_runV (As := As) (rest := st) ⟨hB.1, hB.2.1, hB.2.2.1, hB.2.2.2.2.2.1, hts⟩ hC ⟨callB_of np hts (mws_good k4) rfl rfl rfl (hts _ k3) (hts _ k1) ⟨k5, k6, k7⟩ (rk_room hn hm), hts _ k2.1, hts _ k2.2⟩ ⟨C_blind, hr, fun U hU hW => ⟨rfl, C_pre hB hP hD hS U hU hW⟩⟩ rfl hlen hl.1 hst (lv_room hsm) hd ⟨Nat.zero_le _, Nat.zero_le _⟩
/-- the first m cells of a static table -/
def cpT_ (S : St) (f : Nat → Int32) (a m : Nat) : St := rowI S a (fun k => if k < m then f k else S.1 a k)
theorem cpT_oth (S : St) (f : Nat → Int32) (a m : Nat) : ∀ b, b ≠ a → (cpT_ S f a m).1 b = S.1 b ∧ (cpT_ S f a m).2.1 b = S.2.1 b ∧ (cpT_ S f a m).2.2 b = S.2.2 b := fun b h => ⟨if_neg h, rfl, rfl⟩
theorem cpT_at (S : St) (f : Nat → Int32) (a m : Nat) : (cpT_ S f a m).1 a = fun k => if k < m then f k else S.1 a k := if_pos rfl
theorem X_copyT (hB : Bd G E md) {t a N n1 : Nat} {f : Nat → Int32} (m : Nat) {x : Int32} (hT0 : va_T .int t N (fun j => .int (f j)) (gA G) E.2.2.1 E.2.2.1.heap) (hc : kC md.1.cls idx) (ha : a ∈ gL G) (hk : gK G a = .inr (0, n1)) (hx : x = nI m) (hm : m < 2 ^ 31) (h0 : m ≤ N) (h1 : m ≤ n1) (hn : 1 ≤ n) (hsm : (st.map fun v => v.category).sum ≤ 8) (hd : decode md.2.1 pc = .ok (.invokestatic idx, 3)) (k : X G E md n Q (cpT_ S f a m) (pc + 3) lv st) : X G E md n Q S pc lv (.int x :: .int 0 :: .ref a :: .int 0 :: .ref t :: st) := fun H locs ls hP hD hS hl => by
  subst hx
  obtain ⟨q, hq⟩ := gw_get S ha
  have hq2 : (gw G S)[q]? = some (a, .inl (gC G 0, n1, .inl (S.1 a))) := by rw [hq]; unfold cel; rw [hk]; rfl
  have he : (Sum.inl (gC G 0, n1, .inl (va_cpy f (S.1 a) 0 0 m)) : va_E) = cel G (cpT_ S f a m) a := by
    unfold cel; rw [hk]; show _ = Sum.inl (gC G 0, n1, Sum.inl ((cpT_ S f a m).1 a))
    rw [cpT_at, cpy_0]
  have hset := gw_set hD ha hq he (cpT_oth S f a m)
  have hcl : (nI m).toNatClampNeg = m := nI_clamp hm
  have hz : (0 : Int32).toNatClampNeg = 0 := by decide
  have hK := hB.2.2.2.2.2.2.2.1
  intro T hT Xs
  obtain ⟨scr, s1, s2, s3, s4, -, s5, s7⟩ := hT0
  have hc0 : H[t]? = some scr := by rw [hS.2.1 t (Array.getElem?_eq_some_iff.mp s1).1 s7]; exact s1
  have hc1 : H[a]? = some (vp_cell (gC G 0) (n1, .inl (S.1 a))) := hP q _ hq2
  obtain ⟨s6, k0, hk0, cm0, hkk0⟩ := s2
  obtain ⟨-, k1, hk1, cm1, hkk1⟩ := (hK.2 0 _ (gT_at G (by decide))).1 n1 (fun j => .int (S.1 a j))
  have hti : ((nI m).toInt : Int) = m := nI_toInt hm
  obtain ⟨vm', X', step⟩ := Xs.arraycopy hB.1 hB.2.2.2.2.2.1 (hB.2.2.2.2.2.2.1 _ hc.1) (hB.2.2.2.2.2.2.1 _ hc.2.1) (hB.2.2.2.2.2.2.1 _ hc.2.2.1) (hB.2.2.2.2.2.2.1 _ hc.2.2.2) (src := t) (dst := a) (cs := scr) (cd := vp_cell (gC G 0) (n1, .inl (S.1 a))) (srcPos := 0) (destPos := 0) (n := nI m) (by rw [hT]; exact hc0) (by rw [hT]; exact hc1)
    s6 (fun _ h => by cases h) s3 (fun h => by cases h) hk0 hk1 hkk0 hkk1 (by simp [refKind, atyOf]) (by decide) (by decide) (nn0 hm)
    (by rw [hti]; have : (0 : Int32).toInt = 0 := by decide
        omega)
    (by rw [hti]; have : (0 : Int32).toInt = 0 := by decide
        show ¬ _ > ((arrV (gC G 0) n1 (fun j => .int (S.1 a j))).slots.size : Int); rw [arrV_size]; omega)
    (fun vm₁ _ i hi => by
      rw [hcl] at hi
      have e : scr.slots.getD ((0 : Int32).toNatClampNeg + i) .null = .int (f i) := by
        rw [hz, Nat.zero_add, Array.getD_eq_getD_getElem?, s5 _ (by omega)]
        rfl
      refine ⟨?_, ?_⟩
      · rw [e]; rfl
      · rw [e]; exact trivial)
    (g := F0 E.2.2.2.1 pc ls (.int (nI m) :: .int 0 :: .ref a :: .int 0 :: .ref t :: st)) rfl (by rw [hB.2.2.1]; exact hl.1) (rest := st) rfl (by rw [hB.2.1]; exact hd) hn (by show 2 * 0 + _ + 18 ≤ 40 * n; omega)
  have e1 : copied scr (vp_cell (gC G 0) (n1, .inl (S.1 a))) 0 0 (nI m) = vp_cell (gC G 0) (n1, .inl (va_cpy f (S.1 a) 0 0 m)) := by
    have := va_copiedX (fun z => .int z) scr (gC G 0) (n1 := n1) (sp := 0) (dp := 0) (n := m) f (S.1 a) s5 (by omega)
    unfold copied
    rw [hcl, hz]
    exact this
  rw [e1] at X' step
  have hlt : a < H.size := (Array.getElem?_eq_some_iff.mp hc1).1
  have hheap : ((T.setVm vm').setCell a (vp_cell (gC G 0) (n1, .inl (va_cpy f (S.1 a) 0 0 m)))).heap = H.setIfInBounds a (vp_cell (gC G 0) (n1, .inl (va_cpy f (S.1 a) 0 0 m))) := by rw [← hT]; rfl
  have oq : ∀ q : Nat, q ≠ a → (H.setIfInBounds a (vp_cell (gC G 0) (n1, .inl (va_cpy f (S.1 a) 0 0 m))))[q]? = H[q]? := fun q hq => by simp [Array.getElem?_setIfInBounds, Ne.symm hq]
  have hat : (H.setIfInBounds a (vp_cell (gC G 0) (n1, .inl (va_cpy f (S.1 a) 0 0 m))))[a]? = some (vp_cell (gC G 0) (n1, .inl (va_cpy f (S.1 a) 0 0 m))) := by simp [Array.getElem?_setIfInBounds, hlt]
  have hP1 := va_P.set (e := .inl (gC G 0, n1, .inl (va_cpy f (S.1 a) 0 0 m))) hP hD hq2 hat oq
  have hD1 := hD.set hq2 (e := .inl (gC G 0, n1, .inl (va_cpy f (S.1 a) 0 0 m)))
  rw [hset] at hP1 hD1
  obtain ⟨t2, a1, b1⟩ := k _ _ ls hP1 hD1 ⟨by simp; exact hS.1, fun q g1 g2 => by
      rw [oq q (fun e => g2 (by rw [e]; exact hD.2 _ _ hq2))]
      exact hS.2.1 q g1 g2, fun q hq => by
      rcases List.mem_append.mp hq with h | h
      · exact hS.2.2 q h
      · obtain ⟨z, -, hz⟩ := List.mem_map.mp h
        rw [← hz]
        exact hD.2 _ _ hq2⟩ hl _ hheap X'
  exact ⟨t2, step t2 a1, b1⟩
end XST
theorem wB_ok : ∀ k, k < 88 → (nI (wB.getD k 0) &&& 255 = nI (wB.getD k 0)) ∧ ((nI (wB.getD k 0)).toUInt32 % 65536).toInt32 = nI (wB.getD k 0) ∧ narrow .char (.int (nI (wB.getD k 0))) = .int (nI (wB.getD k 0)) ∧ wB.getD k 0 < 128 := by decide +kernel
section CLS
variable {G : Gc} {S : St}
set_option maxRecDepth 100000 in
set_option maxHeartbeats 4000000 in
theorem c_J3_checkIndex (k N : Nat) (hk : k < N) (hN : N < 2 ^ 31) (w : Value) (hw : w = .null ∨ ∃ t, w = .ref t) : C G mJ3_checkIndex_8e157 0 [.int (nI k), .int (nI N), w] S (fun r S' => r = some (.int (nI k)) ∧ S = S') := by
  have hlv : lvi [.int (nI k), .int (nI N), w] 3 = [some (.int (nI k)), some (.int (nI N)), some w] := by
    rcases hw with rfl | ⟨t, rfl⟩ <;> rfl
  have hlen : (lg_sl [.int (nI k), .int (nI N), w]).length ≤ 3 := by
    rcases hw with rfl | ⟨t, rfl⟩ <;> exact Nat.le_of_ble_eq_true rfl
  refine C.mk (lv := [some (.int (nI k)), some (.int (nI N)), some w]) (by decide) hlen hlv (fun E hB => ?_)
  refine X_iload_n (i := 0) hB dJ3_checkIndex_8e157_0 rfl rfl ?_
  refine X_if_lt (tgt := 9) hB dJ3_checkIndex_8e157_1 (by decide) (fun c1 => absurd c1 (nI_pos (by omega))) (fun c1 => ?_)
  refine X_iload_n (i := 0) hB dJ3_checkIndex_8e157_4 rfl rfl ?_
  refine X_iload_n (i := 1) hB dJ3_checkIndex_8e157_5 rfl rfl ?_
  refine X_icmp_lt (tgt := 16) hB dJ3_checkIndex_8e157_6 (by decide) (fun c6 => ?_) (fun c6 => absurd ((nI_ltI (by omega) (by omega)).mpr hk) c6)
  refine X_iload_n (i := 0) hB dJ3_checkIndex_8e157_16 rfl rfl ?_
  refine X_iret hB rfl dJ3_checkIndex_8e157_17 ?_
  exact ⟨rfl, rfl⟩
set_option maxRecDepth 100000 in
set_option maxHeartbeats 4000000 in
theorem c_J0_checkIndex {q v : Nat} (hZ : ∀ U, gZ G U → zW G q v U) (k N : Nat) (hk : k < N) (hN : N < 2 ^ 31) : C G mJ0_checkIndex_df160 1 [.int (nI k), .int (nI N)] S (fun r S' => r = none ∧ S = S') := by
  refine C.mk (lv := [some (.int (nI k)), some (.int (nI N))]) (by decide) (Nat.le_of_ble_eq_true rfl) rfl (fun E hB => ?_)
  have hz := (hZ _ hB.2.2.2.2.2.2.2.2.2.1).2.2.2.2.2.2
  refine X_iload_n (i := 0) hB dJ0_checkIndex_df160_0 rfl rfl ?_
  refine X_iload_n (i := 1) hB dJ0_checkIndex_df160_1 rfl rfl ?_
  have key : ∀ w : Value, (w = .null ∨ ∃ t, w = .ref t) → w.category = 1 → X G E mJ0_checkIndex_df160 1 (fun r S' => r = none ∧ S = S') S 5 [some (.int (nI k)), some (.int (nI N))] [w, .int (nI N), .int (nI k)] := fun w hw hc => by
    refine X_callS hB kJ0_1059 (c_J3_checkIndex k N hk hN w hw) (by decide) (by decide) rfl rfl (Nat.le_of_ble_eq_true rfl) dJ0_checkIndex_df160_5 (fun r5 S5 q5 => ?_)
    obtain ⟨rfl, rfl⟩ := q5
    refine X_pop hB dJ0_checkIndex_df160_8 rfl ?_
    refine X_vret hB rfl dJ0_checkIndex_df160_9 ?_
    exact ⟨rfl, rfl⟩
  rcases hz with hz | ⟨t, hz⟩
  · refine X_gets hB hz zJ0_1053 dJ0_checkIndex_df160_2 ?_
    exact key .null (Or.inl rfl) rfl
  · refine X_gets hB hz zJ0_1053 dJ0_checkIndex_df160_2 ?_
    exact key (.ref t) (Or.inr ⟨t, rfl⟩) rfl
set_option maxRecDepth 100000 in
set_option maxHeartbeats 4000000 in
theorem c_J1_charAt {q v : Nat} (hZ : ∀ U, gZ G U → zW G q v U) (k : Nat) (hk : k < 88) : C G mJ1_charAt_3b067 2 [.ref v, .int (nI k)] S (fun r S' => r = some (.int (nI (wB.getD k 0))) ∧ S = S') := by
  refine C.mk (lv := [some (.ref v), some (.int (nI k))]) (by decide) (Nat.le_of_ble_eq_true rfl) rfl (fun E hB => ?_)
  have hz := (hZ _ hB.2.2.2.2.2.2.2.2.2.1).2.2.2.2.1
  obtain ⟨b1, b2, b3, b4⟩ := wB_ok k hk
  refine X_iload_n (i := 1) hB dJ1_charAt_3b067_0 rfl rfl ?_
  refine X_aload_n (i := 0) hB dJ1_charAt_3b067_1 rfl rfl ?_
  refine X_tlen hB hz dJ1_charAt_3b067_2 ?_
  refine X_callS hB kJ1_9 (c_J0_checkIndex hZ k 88 hk (by decide)) (by decide) (by decide) rfl rfl (Nat.le_of_ble_eq_true rfl) dJ1_charAt_3b067_3 (fun r3 S3 q3 => ?_)
  obtain ⟨rfl, rfl⟩ := q3
  refine X_aload_n (i := 0) hB dJ1_charAt_3b067_6 rfl rfl ?_
  refine X_iload_n (i := 1) hB dJ1_charAt_3b067_7 rfl rfl ?_
  refine X_tb (j := k) hB hz rfl hk (by decide) dJ1_charAt_3b067_8 ?_
  refine X_sipush (v := 255) hB dJ1_charAt_3b067_9 (by decide) ?_
  refine X_iand hB dJ1_charAt_3b067_12 ?_
  refine X_topi (y := nI (wB.getD k 0)) b1 ?_
  refine X_i2c hB dJ1_charAt_3b067_13 b2 ?_
  refine X_cret hB rfl b3 dJ1_charAt_3b067_14 ?_
  exact ⟨rfl, rfl⟩
set_option maxRecDepth 100000 in
set_option maxHeartbeats 4000000 in
theorem c_J0_isLatin1 {q v : Nat} (hZ : ∀ U, gZ G U → zW G q v U) : C G mJ0_isLatin1_aae02 0 [.ref q] S (fun r S' => r = some (.int 1) ∧ S = S') := by
  refine C.mk (lv := [some (.ref q)]) (by decide) (Nat.le_of_ble_eq_true rfl) rfl (fun E hB => ?_)
  have hz := hZ _ hB.2.2.2.2.2.2.2.2.2.1
  refine X_gets hB hz.2.2.2.2.2.1 zJ0_38 dJ0_isLatin1_aae02_0 ?_
  refine X_if_eq (tgt := 17) hB dJ0_isLatin1_aae02_3 (by decide) (fun c => absurd c (by decide)) (fun _ => ?_)
  refine X_aload_n (i := 0) hB dJ0_isLatin1_aae02_6 rfl rfl ?_
  refine X_getO hB hz.2.2.1 zJ0_15 dJ0_isLatin1_aae02_7 ?_
  refine X_if_ne (tgt := 17) hB dJ0_isLatin1_aae02_10 (by decide) (fun c => absurd rfl c) (fun _ => ?_)
  refine X_iconst (v := 1) hB dJ0_isLatin1_aae02_13 (by decide) ?_
  refine X_goto (tgt := 18) hB dJ0_isLatin1_aae02_14 (by decide) ?_
  refine X_zret hB rfl (Or.inr rfl) dJ0_isLatin1_aae02_18 ?_
  exact ⟨rfl, rfl⟩
set_option maxRecDepth 100000 in
set_option maxHeartbeats 4000000 in
theorem c_J0_charAt {q v : Nat} (hZ : ∀ U, gZ G U → zW G q v U) (k : Nat) (hk : k < 88) : C G mJ0_charAt_5068e 3 [.ref q, .int (nI k)] S (fun r S' => r = some (.int (nI (wB.getD k 0))) ∧ S = S') := by
  refine C.mk (lv := [some (.ref q), some (.int (nI k))]) (by decide) (Nat.le_of_ble_eq_true rfl) rfl (fun E hB => ?_)
  have hz := hZ _ hB.2.2.2.2.2.2.2.2.2.1
  obtain ⟨b1, b2, b3, b4⟩ := wB_ok k hk
  refine X_aload_n (i := 0) hB dJ0_charAt_5068e_0 rfl rfl ?_
  refine X_callVO hB kJ0_492 hz.2.1 (c_J0_isLatin1 hZ) (by decide) (by decide) rfl rfl (Nat.le_of_ble_eq_true rfl) dJ0_charAt_5068e_1 (fun r1 S1 q1 => ?_)
  obtain ⟨rfl, rfl⟩ := q1
  refine X_if_eq (tgt := 16) hB dJ0_charAt_5068e_4 (by decide) (fun c => absurd c (by decide)) (fun _ => ?_)
  refine X_aload_n (i := 0) hB dJ0_charAt_5068e_7 rfl rfl ?_
  refine X_getO hB hz.2.2.2.1 zJ0_9 dJ0_charAt_5068e_8 ?_
  refine X_iload_n (i := 1) hB dJ0_charAt_5068e_11 rfl rfl ?_
  refine X_callS hB kJ0_495 (c_J1_charAt hZ k hk) (by decide) (by decide) rfl rfl (Nat.le_of_ble_eq_true rfl) dJ0_charAt_5068e_12 (fun r2 S2 q2 => ?_)
  obtain ⟨rfl, rfl⟩ := q2
  refine X_cret hB rfl b3 dJ0_charAt_5068e_15 ?_
  exact ⟨rfl, rfl⟩
end CLS
