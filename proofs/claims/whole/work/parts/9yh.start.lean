/-! what the start gives: statics, a string, classes -/
def Gd (z : Nat) (l : Launch) : Gc := (l, (fun _ => 0, fun _ _ => 0), (fun _ => 0), z, [], (fun _ => .inl 0), fun _ => True)
def zP (z : Nat) (l : Launch) (tF tL tM q v : Nat) : State → Prop := fun U => (zT (Gd z l) "AT_FIRST" tF aF U ∧ zT (Gd z l) "LEAST" tL aL U ∧ zT (Gd z l) "MOST" tM aM U ∧ zW (Gd z l) q v U) ∧ (va_AO RX3 U ∧ va_AO RX5 U ∧ va_AO RX2 U ∧ va_AO RX9 U ∧ va_AO RX10 U) ∧ (va_Nw (.methodLinkNest RX0 15 mX3_init.1 RX11) U ∧ va_Nw (.methodLinkNest RX11 9 mX9_init.1 RX11) U ∧ va_Nw (.methodLinkNest RX11 18 mX6_init.1 RX11) U)
theorem zP_ok {z : Nat} {l : Launch} {tF tL tM q v : Nat} {s t : State} (hW : s.WarmedH t.vm) (hh : ∀ q, q < z → t.heap[q]? = s.heap[q]?) (h : zP z l tF tL tM q v s) : zP z l tF tL tM q v t := by
  have hq : ∀ a : Nat, a < s.heap.size → ¬ gA (Gd z l) a → t.heap[a]? = s.heap[a]? := fun a _ ha => hh a (Nat.lt_of_not_le ha)
  have kT : ∀ nm tt ll, zT (Gd z l) nm tt ll s → zT (Gd z l) nm tt ll t := fun nm tt ll h => ⟨(va_Z.moved hW.alike h.1).kept hq, (va_T.moved hW.alike h.2).kept hq⟩
  obtain ⟨⟨h1, h2, h3, w1, w2, w3, w4, w5, w6, w7⟩, ⟨a1, a2, a3, a4, a5⟩, ⟨n1, n2, n3⟩⟩ := h
  exact ⟨⟨kT _ _ _ h1, kT _ _ _ h2, kT _ _ _ h3, vk_R.warm hW w1, (va_O.moved hW.alike w2).kept hq, (va_OF.moved hW.alike w3).kept hq, (va_OF.moved hW.alike w4).kept hq, (va_T.moved hW.alike w5).kept hq, (va_Z.moved hW.alike w6).kept hq, (va_Zq.moved hW.alike w7).kept hq⟩, ⟨a1.moved hW.alike, a2.moved hW.alike, a3.moved hW.alike, a4.moved hW.alike, a5.moved hW.alike⟩, ⟨va_Nw.warmM hW n1, va_Nw.warmM hW n2, va_Nw.warmM hW n3⟩⟩
set_option maxRecDepth 100000 in
set_option maxHeartbeats 4000000 in
theorem z_AT_FIRST {s : State} {b : Nat} (l : Launch) (hts : ∀ w ∈ lw_tbl, w.before #[Value.ref b] s = true) (hn : ∀ w ∈ flatC (Jvm.Cond.and given_1 narrow_1), w.before #[Value.ref b] s = true) : ∃ t, zT (Gd s.heap.size l) "AT_FIRST" t aF s := by
  have hA : ∀ a : Nat, a < s.heap.size → ¬ gA (Gd s.heap.size l) a := fun a ha q => Nat.lt_irrefl _ (Nat.lt_of_lt_of_le ha q)
  have hel : ∀ j : Nat, j < 8 → (Term.elem (.static "SourceRoutes$Reader" "AT_FIRST" "[I") (.int (Int32.ofNat j))).eval #[Value.ref b] s none [] s = some (.int (nI (aF.getD j 0))) := fun j hj => by
    rcases (show j = 0 ∨ j = 1 ∨ j = 2 ∨ j = 3 ∨ j = 4 ∨ j = 5 ∨ j = 6 ∨ j = 7 by omega) with rfl | rfl | rfl | rfl | rfl | rfl | rfl | rfl
    · exact va_eqt (hn _ (List.mem_of_getElem? (i := 7) (by decide +kernel)))
    · exact va_eqt (hn _ (List.mem_of_getElem? (i := 8) (by decide +kernel)))
    · exact va_eqt (hn _ (List.mem_of_getElem? (i := 9) (by decide +kernel)))
    · exact va_eqt (hn _ (List.mem_of_getElem? (i := 10) (by decide +kernel)))
    · exact va_eqt (hn _ (List.mem_of_getElem? (i := 11) (by decide +kernel)))
    · exact va_eqt (hn _ (List.mem_of_getElem? (i := 12) (by decide +kernel)))
    · exact va_eqt (hn _ (List.mem_of_getElem? (i := 13) (by decide +kernel)))
    · exact va_eqt (hn _ (List.mem_of_getElem? (i := 14) (by decide +kernel)))
  obtain ⟨t, h1, h2⟩ := va_Tof (args := #[Value.ref b]) (s := s) (tm := (.static "SourceRoutes$Reader" "AT_FIRST" "[I")) (ty := .int) (N := 8) (f := fun j => .int (nI (aF.getD j 0))) (by decide) (hn _ (List.mem_of_getElem? (i := 5) (by decide +kernel))) (va_eqt (hn _ (List.mem_of_getElem? (i := 6) (by decide +kernel)))) hel hA
  exact ⟨t, va_Zof (hts _ (List.mem_of_getElem? (i := 480) (by decide +kernel))) (hts _ (List.mem_of_getElem? (i := 122) (by decide +kernel))) h1 hA, h2⟩
set_option maxRecDepth 100000 in
set_option maxHeartbeats 4000000 in
theorem z_LEAST {s : State} {b : Nat} (l : Launch) (hts : ∀ w ∈ lw_tbl, w.before #[Value.ref b] s = true) (hn : ∀ w ∈ flatC (Jvm.Cond.and given_1 narrow_1), w.before #[Value.ref b] s = true) : ∃ t, zT (Gd s.heap.size l) "LEAST" t aL s := by
  have hA : ∀ a : Nat, a < s.heap.size → ¬ gA (Gd s.heap.size l) a := fun a ha q => Nat.lt_irrefl _ (Nat.lt_of_lt_of_le ha q)
  have hel : ∀ j : Nat, j < 8 → (Term.elem (.static "SourceRoutes$Reader" "LEAST" "[I") (.int (Int32.ofNat j))).eval #[Value.ref b] s none [] s = some (.int (nI (aL.getD j 0))) := fun j hj => by
    rcases (show j = 0 ∨ j = 1 ∨ j = 2 ∨ j = 3 ∨ j = 4 ∨ j = 5 ∨ j = 6 ∨ j = 7 by omega) with rfl | rfl | rfl | rfl | rfl | rfl | rfl | rfl
    · exact va_eqt (hn _ (List.mem_of_getElem? (i := 23) (by decide +kernel)))
    · exact va_eqt (hn _ (List.mem_of_getElem? (i := 24) (by decide +kernel)))
    · exact va_eqt (hn _ (List.mem_of_getElem? (i := 25) (by decide +kernel)))
    · exact va_eqt (hn _ (List.mem_of_getElem? (i := 26) (by decide +kernel)))
    · exact va_eqt (hn _ (List.mem_of_getElem? (i := 27) (by decide +kernel)))
    · exact va_eqt (hn _ (List.mem_of_getElem? (i := 28) (by decide +kernel)))
    · exact va_eqt (hn _ (List.mem_of_getElem? (i := 29) (by decide +kernel)))
    · exact va_eqt (hn _ (List.mem_of_getElem? (i := 30) (by decide +kernel)))
  obtain ⟨t, h1, h2⟩ := va_Tof (args := #[Value.ref b]) (s := s) (tm := (.static "SourceRoutes$Reader" "LEAST" "[I")) (ty := .int) (N := 8) (f := fun j => .int (nI (aL.getD j 0))) (by decide) (hn _ (List.mem_of_getElem? (i := 21) (by decide +kernel))) (va_eqt (hn _ (List.mem_of_getElem? (i := 22) (by decide +kernel)))) hel hA
  exact ⟨t, va_Zof (hts _ (List.mem_of_getElem? (i := 612) (by decide +kernel))) (hts _ (List.mem_of_getElem? (i := 122) (by decide +kernel))) h1 hA, h2⟩
set_option maxRecDepth 100000 in
set_option maxHeartbeats 4000000 in
theorem z_MOST {s : State} {b : Nat} (l : Launch) (hts : ∀ w ∈ lw_tbl, w.before #[Value.ref b] s = true) (hn : ∀ w ∈ flatC (Jvm.Cond.and given_1 narrow_1), w.before #[Value.ref b] s = true) : ∃ t, zT (Gd s.heap.size l) "MOST" t aM s := by
  have hA : ∀ a : Nat, a < s.heap.size → ¬ gA (Gd s.heap.size l) a := fun a ha q => Nat.lt_irrefl _ (Nat.lt_of_lt_of_le ha q)
  have hel : ∀ j : Nat, j < 8 → (Term.elem (.static "SourceRoutes$Reader" "MOST" "[I") (.int (Int32.ofNat j))).eval #[Value.ref b] s none [] s = some (.int (nI (aM.getD j 0))) := fun j hj => by
    rcases (show j = 0 ∨ j = 1 ∨ j = 2 ∨ j = 3 ∨ j = 4 ∨ j = 5 ∨ j = 6 ∨ j = 7 by omega) with rfl | rfl | rfl | rfl | rfl | rfl | rfl | rfl
    · exact va_eqt (hn _ (List.mem_of_getElem? (i := 34) (by decide +kernel)))
    · exact va_eqt (hn _ (List.mem_of_getElem? (i := 35) (by decide +kernel)))
    · exact va_eqt (hn _ (List.mem_of_getElem? (i := 36) (by decide +kernel)))
    · exact va_eqt (hn _ (List.mem_of_getElem? (i := 37) (by decide +kernel)))
    · exact va_eqt (hn _ (List.mem_of_getElem? (i := 38) (by decide +kernel)))
    · exact va_eqt (hn _ (List.mem_of_getElem? (i := 39) (by decide +kernel)))
    · exact va_eqt (hn _ (List.mem_of_getElem? (i := 40) (by decide +kernel)))
    · exact va_eqt (hn _ (List.mem_of_getElem? (i := 41) (by decide +kernel)))
  obtain ⟨t, h1, h2⟩ := va_Tof (args := #[Value.ref b]) (s := s) (tm := (.static "SourceRoutes$Reader" "MOST" "[I")) (ty := .int) (N := 8) (f := fun j => .int (nI (aM.getD j 0))) (by decide) (hn _ (List.mem_of_getElem? (i := 32) (by decide +kernel))) (va_eqt (hn _ (List.mem_of_getElem? (i := 33) (by decide +kernel)))) hel hA
  exact ⟨t, va_Zof (hts _ (List.mem_of_getElem? (i := 614) (by decide +kernel))) (hts _ (List.mem_of_getElem? (i := 122) (by decide +kernel))) h1 hA, h2⟩
set_option maxRecDepth 100000 in
set_option maxHeartbeats 4000000 in
theorem z_bytes : ∀ j, j < 88 → (flatC (Jvm.Cond.and given_1 narrow_1))[101 + j]? = some (Cond.eq (.elem (.field (.string "SourceRoutes$Reader" 101) "java/lang/String" "value" "[B") (.int (Int32.ofNat j))) (.int (nI (wB.getD j 0)))) := by decide +kernel
set_option maxRecDepth 100000 in
set_option maxHeartbeats 4000000 in
theorem z_word {s : State} {b : Nat} (l : Launch) (hts : ∀ w ∈ lw_tbl, w.before #[Value.ref b] s = true) (hn : ∀ w ∈ flatC (Jvm.Cond.and given_1 narrow_1), w.before #[Value.ref b] s = true) : ∃ q v, zW (Gd s.heap.size l) q v s := by
  have hA : ∀ a : Nat, a < s.heap.size → ¬ gA (Gd s.heap.size l) a := fun a ha q => Nat.lt_irrefl _ (Nat.lt_of_lt_of_le ha q)
  have hex : (Cond.exactly (.string "SourceRoutes$Reader" 101) "java/lang/String").before #[Value.ref b] s = true := (hn _ (List.mem_of_getElem? (i := 97) (by decide +kernel)))
  obtain ⟨q, c, cA, kA, hq, -⟩ := Cond.exactly_spec (args := #[Value.ref b]) (first := s) (o := none) (s := s) (idx := []) (t := (.string "SourceRoutes$Reader" 101)) (cls := "java/lang/String") hex
  obtain ⟨v, hv, hT⟩ := va_Tof (args := #[Value.ref b]) (s := s) (tm := (.field (.string "SourceRoutes$Reader" 101) "java/lang/String" "value" "[B")) (ty := .byte) (N := 88) (f := fun j => .int (nI (wB.getD j 0))) (by decide) (hn _ (List.mem_of_getElem? (i := 99) (by decide +kernel))) (va_eqt (hn _ (List.mem_of_getElem? (i := 100) (by decide +kernel)))) (fun j hj => va_eqt (hn _ (List.mem_of_getElem? (z_bytes j hj)))) hA
  exact ⟨q, v, vk_R.of (hts _ (List.mem_of_getElem? (i := 562) (by decide +kernel))) hq, va_Oof hex hq hA, vk_OFof hq (va_eqt (hn _ (List.mem_of_getElem? (i := 98) (by decide +kernel)))) hA, vk_OFof hq hv hA, hT, va_Zof (hts _ (List.mem_of_getElem? (i := 572) (by decide +kernel))) (hts _ (List.mem_of_getElem? (i := 133) (by decide +kernel))) (va_eqt (hn _ (List.mem_of_getElem? (i := 15) (by decide +kernel)))) hA, va_Zqof (hts _ (List.mem_of_getElem? (i := 580) (by decide +kernel))) (hts _ (List.mem_of_getElem? (i := 135) (by decide +kernel))) (hn _ (List.mem_of_getElem? (i := 16) (by decide +kernel))) hA⟩
set_option maxRecDepth 100000 in
set_option maxHeartbeats 4000000 in
theorem z_all {s : State} {b : Nat} (l : Launch) (hts : ∀ w ∈ lw_tbl, w.before #[Value.ref b] s = true) (hn : ∀ w ∈ flatC (Jvm.Cond.and given_1 narrow_1), w.before #[Value.ref b] s = true) : ∃ tF tL tM q v, zP s.heap.size l tF tL tM q v s := by
  obtain ⟨tF, h1⟩ := z_AT_FIRST l hts hn
  obtain ⟨tL, h2⟩ := z_LEAST l hts hn
  obtain ⟨tM, h3⟩ := z_MOST l hts hn
  obtain ⟨q, v, h4⟩ := z_word l hts hn
  exact ⟨tF, tL, tM, q, v, ⟨h1, h2, h3, h4⟩, ⟨va_AO.of (hts _ (List.mem_of_getElem? (i := 235) (by decide +kernel))), va_AO.of (hts _ (List.mem_of_getElem? (i := 294) (by decide +kernel))), va_AO.of (hts _ (List.mem_of_getElem? (i := 296) (by decide +kernel))), va_AO.of (hts _ (List.mem_of_getElem? (i := 473) (by decide +kernel))), va_AO.of (hts _ (List.mem_of_getElem? (i := 474) (by decide +kernel)))⟩, ⟨va_Nw.of rfl (hts _ (List.mem_of_getElem? (i := 237) (by decide +kernel))), va_Nw.of rfl (hts _ (List.mem_of_getElem? (i := 151) (by decide +kernel))), va_Nw.of rfl (hts _ (List.mem_of_getElem? (i := 174) (by decide +kernel)))⟩⟩
set_option maxRecDepth 100000 in
set_option maxHeartbeats 4000000 in
theorem z_K {s : State} {b z : Nat} {l : Launch} {tF tL tM q v : Nat} (hts : ∀ w ∈ lw_tbl, w.before #[Value.ref b] s = true) (hz : zP z l tF tL tM q v s) : ∃ (D : va_G) (Cf : Nat → ClassId), va_K D vwCl ((List.range 9).map (fun t => (Cf t, atyOf t))) s := by
  have hg : ∀ w ∈ lw_gd, w.before #[Value.ref b] s = true := fun w hw => hts w (List.mem_filter.mp hw).1
  have h1 : ∀ c : Nat, ∃ d : ClassId × (Nat → Nat), ∀ q, vwCl[c]? = some q → u_Kn s q.1 q.2.1 q.2.2 d.1 d.2 := fun c => by
    by_cases hc : c < 11
    rcases (show c = 0 ∨ c = 1 ∨ c = 2 ∨ c = 3 ∨ c = 4 ∨ c = 5 ∨ c = 6 ∨ c = 7 ∨ c = 8 ∨ c = 9 ∨ c = 10 by omega) with rfl | rfl | rfl | rfl | rfl | rfl | rfl | rfl | rfl | rfl | rfl
    · obtain ⟨cC, iS, h⟩ := u_known (fun w hw => hg w hw) cw0.2.1 (hg _ ziX0)
      exact ⟨(cC, iS), fun q hq => by cases hq; exact h⟩
    · obtain ⟨cC, iS, h⟩ := u_known (fun w hw => hg w hw) cw1.2.1 (hg _ ziX1)
      exact ⟨(cC, iS), fun q hq => by cases hq; exact h⟩
    · obtain ⟨cC, iS, h⟩ := u_known (fun w hw => hg w hw) cw2.2.1 (hg _ ziX2)
      exact ⟨(cC, iS), fun q hq => by cases hq; exact h⟩
    · obtain ⟨cC, iS, h⟩ := u_known (fun w hw => hg w hw) cw3.2.1 (hg _ ziX3)
      exact ⟨(cC, iS), fun q hq => by cases hq; exact h⟩
    · obtain ⟨cC, iS, h⟩ := u_known (fun w hw => hg w hw) cw4.2.1 (hg _ ziX5)
      exact ⟨(cC, iS), fun q hq => by cases hq; exact h⟩
    · obtain ⟨cC, iS, h⟩ := u_known (fun w hw => hg w hw) cw5.2.1 (hg _ ziX6)
      exact ⟨(cC, iS), fun q hq => by cases hq; exact h⟩
    · obtain ⟨cC, iS, h⟩ := u_known (fun w hw => hg w hw) cw6.2.1 (hg _ ziX7)
      exact ⟨(cC, iS), fun q hq => by cases hq; exact h⟩
    · obtain ⟨cC, iS, h⟩ := u_known (fun w hw => hg w hw) cw7.2.1 (hg _ ziX9)
      exact ⟨(cC, iS), fun q hq => by cases hq; exact h⟩
    · obtain ⟨cC, iS, h⟩ := u_known (fun w hw => hg w hw) cw8.2.1 (hg _ ziX10)
      exact ⟨(cC, iS), fun q hq => by cases hq; exact h⟩
    · obtain ⟨cC, iS, h⟩ := u_known (fun w hw => hg w hw) cw9.2.1 (hg _ ziX11)
      exact ⟨(cC, iS), fun q hq => by cases hq; exact h⟩
    · obtain ⟨cC, iS, h⟩ := u_known (fun w hw => hg w hw) cw10.2.1 (hg _ ziX12)
      exact ⟨(cC, iS), fun q hq => by cases hq; exact h⟩
    · exact ⟨(0, fun _ => 0), fun q hq => absurd (List.getElem?_eq_some_iff.mp hq).1 (by show ¬ c < 11; exact hc)⟩
  have h2 : ∀ t : Nat, ∃ cA : ClassId, t < 9 → ArrOfT s cA (atyOf t) ∧ va_RA s cA (atyOf t) := fun t => by
    by_cases ht : t < 9
    rcases (show t = 0 ∨ t = 1 ∨ t = 2 ∨ t = 3 ∨ t = 4 ∨ t = 5 ∨ t = 6 ∨ t = 7 ∨ t = 8 by omega) with rfl | rfl | rfl | rfl | rfl | rfl | rfl | rfl | rfl
    · obtain ⟨cA, kA, comp, f1, f2, f3⟩ := Cond.arrayClass_spec (hg _ za_int)
      exact ⟨cA, fun _ => ⟨fun N z => ⟨fun k h => (by cases h), kA, f2, comp, f3⟩, f1⟩⟩
    · obtain ⟨cA, kA, comp, f1, f2, f3⟩ := Cond.arrayClass_spec (hg _ za_byte)
      exact ⟨cA, fun _ => ⟨fun N z => ⟨fun k h => (by cases h), kA, f2, comp, f3⟩, f1⟩⟩
    · obtain ⟨cA, kA, comp, f1, f2, f3⟩ := Cond.arrayClass_spec (hg _ za_boolean)
      exact ⟨cA, fun _ => ⟨fun N z => ⟨fun k h => (by cases h), kA, f2, comp, f3⟩, f1⟩⟩
    · obtain ⟨cA, kA, comp, f1, f2, f3⟩ := Cond.arrayClass_spec (hg _ za_long)
      exact ⟨cA, fun _ => ⟨fun N z => ⟨fun k h => (by cases h), kA, f2, comp, f3⟩, f1⟩⟩
    · obtain ⟨comp, cA, kA, f4, -, f2, f3, f1⟩ := Cond.arrayOver_spec (n := RX3) (va_AO.use (A := #[Value.ref b]) hz.2.1.1)
      exact ⟨cA, fun _ => ⟨fun N z => ⟨fun k h => (by cases h), kA, f2, comp, f3⟩, kA, comp, f2, f3, f4, f1⟩⟩
    · obtain ⟨comp, cA, kA, f4, -, f2, f3, f1⟩ := Cond.arrayOver_spec (n := RX5) (va_AO.use (A := #[Value.ref b]) hz.2.1.2.1)
      exact ⟨cA, fun _ => ⟨fun N z => ⟨fun k h => (by cases h), kA, f2, comp, f3⟩, kA, comp, f2, f3, f4, f1⟩⟩
    · obtain ⟨comp, cA, kA, f4, -, f2, f3, f1⟩ := Cond.arrayOver_spec (n := RX2) (va_AO.use (A := #[Value.ref b]) hz.2.1.2.2.1)
      exact ⟨cA, fun _ => ⟨fun N z => ⟨fun k h => (by cases h), kA, f2, comp, f3⟩, kA, comp, f2, f3, f4, f1⟩⟩
    · obtain ⟨comp, cA, kA, f4, -, f2, f3, f1⟩ := Cond.arrayOver_spec (n := RX9) (va_AO.use (A := #[Value.ref b]) hz.2.1.2.2.2.1)
      exact ⟨cA, fun _ => ⟨fun N z => ⟨fun k h => (by cases h), kA, f2, comp, f3⟩, kA, comp, f2, f3, f4, f1⟩⟩
    · obtain ⟨comp, cA, kA, f4, -, f2, f3, f1⟩ := Cond.arrayOver_spec (n := RX10) (va_AO.use (A := #[Value.ref b]) hz.2.1.2.2.2.2)
      exact ⟨cA, fun _ => ⟨fun N z => ⟨fun k h => (by cases h), kA, f2, comp, f3⟩, kA, comp, f2, f3, f4, f1⟩⟩
    · exact ⟨0, fun h => absurd h ht⟩
  obtain ⟨f, hf⟩ := Classical.axiomOfChoice h1
  obtain ⟨g, hg2⟩ := Classical.axiomOfChoice h2
  refine ⟨(fun c => (f c).1, fun c => (f c).2), g, fun c q hq => hf c q hq, fun k q hq => ?_⟩
  rw [List.getElem?_map] at hq
  by_cases hk : k < 9
  · rw [List.getElem?_range hk] at hq
    cases hq
    exact hg2 k hk
  · rw [List.getElem?_eq_none (by simpa using hk)] at hq
    cases hq
