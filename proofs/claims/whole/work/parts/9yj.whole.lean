/-! from the entry to the end -/
set_option maxRecDepth 100000 in
set_option maxHeartbeats 4000000 in
theorem whole_start {p : Program} {e : Env} {s : State} {m : MethodId} {below : List Frame} {meth : Method} {c : Code} (l : Launch) (hflags : l.flags = flags0) {b L : Nat} {xs : Nat → Int32} (hL : L ≤ 2560) (C0 : lw_At p s m meth c b L xs) : W p l e room_1 s m #[Value.ref b] below meth c s.heap [] 0 0 (lw_Z below #[Value.ref b] s) (entryFrame m ([Value.ref b] : List Value).toArray 4) := by
  obtain ⟨hx, hb, hr, hml, hown, hts, hX, hbl, hlk, hgv⟩ := C0
  have hn := flat_of_before _ hgv
  obtain ⟨tF, tL, tM, q, v, hzp⟩ := z_all l hts hn
  obtain ⟨D, Cf, hK⟩ := z_K hts hzp
  generalize hzz : s.heap.size = z at hzp
  generalize hZp : zP z l tF tL tM q v = Zp at hzp
  have hok : gOk (G0 l D Cf z Zp) := fun s t hW hh h => by
    have h : Zp s := h
    show Zp t
    rw [← hZp] at h ⊢
    exact zP_ok hW hh h
  have hB : Bd (G0 l D Cf z Zp) (p, e, s, m, #[Value.ref b], below, meth, c) mL := ⟨hx, hb, hml, hr, hlk, hown, fun w hw => hts w (List.mem_filter.mp hw).1, hK, Nat.le_of_eq hzz.symm, hzp, hok⟩
  have hzU : ∀ U, Zp U → zP z l tF tL tM q v U := fun U h => by rw [hZp]; exact h
  have hZF : ∀ U, gZ (G0 l D Cf z Zp) U → zT (G0 l D Cf z Zp) "AT_FIRST" tF aF U := fun U h => (hzU U h).1.1
  have hZL : ∀ U, gZ (G0 l D Cf z Zp) U → zT (G0 l D Cf z Zp) "LEAST" tL aL U := fun U h => (hzU U h).1.2.1
  have hZM : ∀ U, gZ (G0 l D Cf z Zp) U → zT (G0 l D Cf z Zp) "MOST" tM aM U := fun U h => (hzU U h).1.2.2.1
  have hZW : ∀ U, gZ (G0 l D Cf z Zp) U → zW (G0 l D Cf z Zp) q v U := fun U h => (hzU U h).1.2.2.2
  have hao3 : ∀ U, gZ (G0 l D Cf z Zp) U → va_AO RX3 U := fun U h => (hzU U h).2.1.1
  have hao5 : ∀ U, gZ (G0 l D Cf z Zp) U → va_AO RX5 U := fun U h => (hzU U h).2.1.2.1
  have hao2 : ∀ U, gZ (G0 l D Cf z Zp) U → va_AO RX2 U := fun U h => (hzU U h).2.1.2.2.1
  have hao9 : ∀ U, gZ (G0 l D Cf z Zp) U → va_AO RX9 U := fun U h => (hzU U h).2.1.2.2.2.1
  have hao10 : ∀ U, gZ (G0 l D Cf z Zp) U → va_AO RX10 U := fun U h => (hzU U h).2.1.2.2.2.2
  have hnw : ∀ U, gZ (G0 l D Cf z Zp) U → va_Nw (.methodLinkNest RX0 15 mX3_init.1 RX11) U := fun U h => (hzU U h).2.2.1
  have hnt : ∀ U, gZ (G0 l D Cf z Zp) U → va_Nw (.methodLinkNest RX11 9 mX9_init.1 RX11) U := fun U h => (hzU U h).2.2.2.1
  have hnr : ∀ U, gZ (G0 l D Cf z Zp) U → va_Nw (.methodLinkNest RX11 18 mX6_init.1 RX11) U := fun U h => (hzU U h).2.2.2.2
  clear hzU hok hgv hn hK
  have hz0 : zr (G0 l D Cf z Zp) ((fun _ _ => 0), (fun _ _ => 0), (fun _ _ => none)) 0 := fun a _ => ⟨fun _ => rfl, fun _ => rfl, fun _ => rfl⟩
  have hY : Y (gk (G0 l D Cf z Zp) 0) (room_1, 0, 0, lw_Z below #[Value.ref b] s) (p, e, s, m, #[Value.ref b], below, meth, c) mL ((fun _ _ => 0), (fun _ _ => 0), (fun _ _ => none)) 0 [some (.ref b), none, none, none] [] := by
    refine Y_newA (Bd.gk (G := G0 l D Cf z Zp) (k := 787) hB _) (a := z) (by show z + 0 = z; omega) (by decide) cw9 zL_7 ziX11 zsX11 g0_S.1.2 hz0 (by show s.heap.size + 0 = z; omega) (Nat.le_of_ble_eq_true rfl) (Nat.le_of_ble_eq_true rfl) dL_law_0 ?_
    refine Y_dup (Bd.gk (G := G0 l D Cf z Zp) (k := 787) hB _) dL_law_3 rfl ?_
    refine Y_callI (Bd.gk (G := G0 l D Cf z Zp) (k := 787) hB _) kcL_9 (i_X11_init (G := G0 l D Cf z Zp) (k := 1) hZF se1 z g0_S rfl (by decide) hao3 hao5 hao2 hao9 hao10 hnw hnt hnr (hz0.mono (by decide)) rfl) (by show s.heap.size + (0 + 1) = z + 1; omega) (Nat.le_of_ble_eq_true rfl) (Nat.le_of_ble_eq_true rfl) ⟨(Nat.le_of_ble_eq_true rfl), (Nat.le_of_ble_eq_true rfl)⟩ rfl rfl (Nat.le_of_ble_eq_true rfl) dL_law_4 (fun S4 q4 => ?_)
    have z4 : zr (G0 l D Cf z Zp) S4 774 := q4.2.2.2.2.2.2.2
    refine Y_astore_n (i := 1) (Bd.gk (G := G0 l D Cf z Zp) (k := 787) hB _) dL_law_7 rfl (by decide) rfl ?_
    refine Y_newA (Bd.gk (G := G0 l D Cf z Zp) (k := 787) hB _) (a := z + 774) rfl (by decide) cw10 zL_10 ziX12 zsX12 g0_R.1.2 z4 (by show s.heap.size + (0 + 1 + 773) = z + 774; omega) (Nat.le_of_ble_eq_true rfl) (Nat.le_of_ble_eq_true rfl) dL_law_8 ?_
    refine Y_dup (Bd.gk (G := G0 l D Cf z Zp) (k := 787) hB _) dL_law_11 rfl ?_
    refine Y_callI (Bd.gk (G := G0 l D Cf z Zp) (k := 787) hB _) kcL_12 (i_X12_init (G := G0 l D Cf z Zp) (k := 775) (z + 774) g0_R rfl (by decide) (z4.mono (by decide))) (by show s.heap.size + (0 + 1 + 773 + 1) = z + 775; omega) (Nat.le_of_ble_eq_true rfl) (Nat.le_of_ble_eq_true rfl) ⟨(Nat.le_of_ble_eq_true rfl), (Nat.le_of_ble_eq_true rfl)⟩ rfl rfl (Nat.le_of_ble_eq_true rfl) dL_law_12 (fun S12 q12 => ?_)
    refine Y_astore_n (i := 2) (Bd.gk (G := G0 l D Cf z Zp) (k := 787) hB _) dL_law_15 rfl (by decide) rfl ?_
    refine Y_iconst (v := 0) (Bd.gk (G := G0 l D Cf z Zp) (k := 787) hB _) dL_law_16 (by decide) ?_
    refine Y_istore_n (i := 3) (Bd.gk (G := G0 l D Cf z Zp) (k := 787) hB _) dL_law_17 rfl (by decide) rfl ?_
    have hLI : LI z (z + 774) S12 := by
      obtain ⟨s1, ⟨s2, s3, s4, s5⟩, s6, s7, s8, s9, s10, s11⟩ := q4
      obtain ⟨m1, m2, m3, m4, m5⟩ := q12
      have hcl : clsI S4 z (nwN ps0 se1) [] (fun _ => false) (fun _ => nwN ps0 se1) (fun _ => []) := ⟨s1, ⟨s3, rfl, s4, by rw [s5]; decide⟩, s6, s7, s8, by rw [s9, bts_f 8]; rfl, fun k hk => ⟨s10 k hk, fun q => by cases q⟩⟩
      refine ⟨nwN ps0 se1, [], (fun _ => false), (fun _ => nwN ps0 se1), (fun _ => []), ⟨nwN_wf (b := 0) (ps0_W rfl).1 (fun a b q => by cases q) (by decide), nwN_bc, Nat.zero_le _⟩, fun k _ q => (by cases q), hcl.cg m5 (by omega), m1, m2, ⟨Nat.zero_le _, fun c hc => absurd hc List.not_mem_nil, fun i hi => absurd hi (Nat.not_lt_zero _)⟩, m3, fun k hk => ⟨?_, fun q => by cases q⟩⟩
      rw [m4 k]; rfl
    refine Y_zz (c2 := 787) (v2 := 22564) rfl rfl ?_
    refine Y_lv (lv' := [some (.ref b), some (.ref z), some (.ref (z + 774)), some (.int (nI 0))]) (by rw [nI_0]; rfl) ?_
    exact law_loop (G := G0 l D Cf z Zp) hB hzz.symm hX hbl hL g0_S g0_R rfl (by decide) hZW hZL hZM hZF L 0 S12 (by omega) (by omega) hLI
  have hl := lv_entry [Value.ref b] (n := 4) (Nat.le_of_ble_eq_true rfl)
  have hl2 : lv_has ((lg_sl [Value.ref b] ++ List.replicate (4 - (lg_sl [Value.ref b]).length) Slot.unset).toArray) 4 (lvp 0 [some (.ref b), none, none, none]) := by
    refine lvh_weak hl (fun j v h => ?_)
    have := lvl_args [Value.ref b] 0 j v (lg_app_none _ 3 j v h)
    rwa [Nat.zero_add] at this
  have := hY s.heap [] _ (fun k q hq => by cases hq) ⟨fun i j p q h1 => (by cases h1), fun k q hq => (by cases hq)⟩ va_S.rf hl2
  rw [lg_entry_eq]
  exact this
set_option maxHeartbeats 4000000 in
theorem lw_walk (l : Launch) (hflags : l.flags = flags0) (b : Addr) (xs : List Int32) : MetFree l x (headSpec (Jvm.Cond.code x code maxLocals ret :: tables_1) room_1) (lw_P b xs) (fun _ _ _ _ _ => True) lw_Q := by
  refine MetFree.of_bodyS (code := code) (maxLocals := maxLocals) (ret := ret) (by decide) ?_ ?_
  · intro args s m h hn
    obtain ⟨meth, c, h1, h2, h3, h4, h5, h6, -, -⟩ := Cond.code_spec hn (atoms_spec (ws := Jvm.Cond.code x code maxLocals ret :: tables_1) h _ List.mem_cons_self)
    exact ⟨meth, c, h1, h2, h3, h4, h5, h6⟩
  · intro p e s m args below meth c s₁ B hml0 hP _
    obtain ⟨rfl, hx, hbd, hgv⟩ := hP
    obtain ⟨scr, harrAt, hlist, hof, hsmall⟩ := hx
    obtain ⟨hcb, hkn, -, -⟩ := State.arrayAt?_spec harrAt
    have hown : s.vm.findClass R_law = some m.cls := findClass_of_methodNamed B.named
    have hts0 : ∀ c ∈ (Jvm.Cond.code x code maxLocals ret :: tables_1), c.before #[Value.ref b] s = true := atoms_spec (ws := Jvm.Cond.code x code maxLocals ret :: tables_1) B.pre
    have hts : ∀ w ∈ lw_tbl, w.before #[Value.ref b] s = true := k2_hts_sels lw_privs (fun w hw => hts0 w (List.mem_cons_of_mem _ hw)) lw_privs_ok
    have hml : c.maxLocals = 4 := B.maxLocals_eq (hts0 _ List.mem_cons_self)
    have X₀ : Stand p l e room_1 s m #[Value.ref b] below meth c s₁ [] 0 0 := Stand.of_body B
    have hh0 : s₁.heap = s.heap := by rw [B.state]; rfl
    have hsz : scr.slots.size = xs.length := by rw [← Array.length_toList, hlist, List.length_map]
    have hval : ∀ j : Nat, j < xs.length → scr.slots[j]? = some (.int (xs.getD j 0)) := fun j hj => by
      rw [← Array.getElem?_toList, hlist]
      simp [hj]
    have hbl : b < s.heap.size := (Array.getElem?_eq_some_iff.mp hcb).1
    have hX : va_X b xs.length (fun j => xs.getD j 0) s s.heap := ⟨scr, hcb, hof, hkn, hsz, hval⟩
    have K : W p l e room_1 s m #[Value.ref b] below meth c s₁.heap [] 0 0 (lw_Z below #[Value.ref b] s) (entryFrame m ([Value.ref b] : List Value).toArray 4) := by
      rw [hh0]
      exact whole_start l hflags hbd ⟨B.exec, B.bytes, B.returns, hml, hown, hts, hX, hbl, B.notSynchronized, hgv⟩
    obtain ⟨t, a1, o, b1, b2, b3⟩ := K s₁ rfl X₀
    exact ⟨t, o, a1, b1, b2, b3⟩
theorem lw_pre_spec {args : Array Value} {s : State} (h : (Jvm.Cond.and given_1 narrow_1).before args s = true) (hr : rest_1_c.before args s = true) : ∃ (b : Addr) (xs : List Int32), lw_P b xs args s := by
  have hs := flat_of_before _ h
  have hq := flat_of_before _ hr
  have hc : (Cond.count 1).before args s = true := hs _ (by decide +kernel)
  have harr : (Cond.arrayOf (.arg 0) .int).before args s = true := hs _ (by decide +kernel)
  have hle : (Cond.le (.length (.arg 0)) (.int 2560)).before args s = true := hs _ (by decide +kernel)
  have hlen : (Cond.isInt (.length (.arg 0))).before args s = true := hq _ (by decide +kernel)
  have hall : (Cond.all (.arg 0) (.isInt (.elem (.arg 0) (.index 0)))).before args s = true := hq _ (by decide +kernel)
  obtain ⟨b, xs, hb, hx⟩ := State.ints_of_pre rfl harr hlen hall
  have hsm : xs.length < 2 ^ 31 := hx.choose_spec.2.2.2
  have hev : (Term.length (.arg 0)).eval args s none [] s = some (.int xs.length.toInt32) := hx.length_eval hb
  have hv := Cond.le_ints hev (show (Term.int 2560).eval args s none [] s = some (.int 2560) from rfl)
  have hd : xs.length.toInt32 ≤ 2560 := by
    simpa [Cond.before, Cond.holds, hv] using hle
  have hN : xs.length ≤ 2560 := (Int32.ofNat_le_ofNat hsm (by decide)).mp (show Int32.ofNat xs.length ≤ Int32.ofNat 2560 from hd)
  exact ⟨b, xs, Cond.one_arg hc (show args[0]? = some (.ref b) from hb), hx, hN, h⟩
theorem lw_comes (l : Launch) (hflags : l.flags = flags0) : Comes l x (Jvm.Cond.code x code maxLocals ret :: tables_1) room_1 (fun tb e args s => Calls_1 tb e args s ∧ rest_1 tb e args s ∧ Pre_1 tb e args s)
    (fun _ _ args s o t => lw_Q args s o t) := by
  intro p e ha hc hk s m args below hf hfit hheap happ hpre
  obtain ⟨b, xs, hP⟩ := lw_pre_spec hpre.2.2 hpre.2.1
  obtain ⟨k, o, h1, h2, h3, hQ⟩ := lw_walk l hflags b xs p e ha hc hk s m args below hf ((Spec.applies_iff_loose hf).mp happ).1 hP trivial
  exact ⟨k, o, h1, h2, h3, hQ⟩
theorem lw_frame {s t : State} {o : Outcome} {args : Array Value} (h : Framed s o t [] 600000 7302250) :
    Framed s o t (fieldLocs frame_1_writes args s ++ arrayLocs frame_1_arrays args s ++ staticLocs frame_1_statics s) 600000 7302250 := h
theorem lw_limb (L : Cond) (hL : ∀ (args : Array Value) (s t : State), L.after args s (.returned (some (.int 1))) t = true) :
    ArmFor flags0 classFile x code maxLocals ret World_1 tables_1 room_1 Calls_1 rest_1 Pre_1
      (fun tb e a s o t => postC L tb e a s o t ∧ Framed s o t (fieldLocs frame_1_writes a s ++ arrayLocs frame_1_arrays a s ++ staticLocs frame_1_statics s) 600000 7302250) := by
  intro l hflags _ _ p e ha hc hk s m args below hf hfit hheap happ hpre
  obtain ⟨k, o, h1, h2, h3, rfl, hF⟩ := lw_comes l hflags p e ha hc hk s m args below hf hfit hheap happ hpre
  exact ⟨k, _, h1, h2, h3, hL args s _, lw_frame hF⟩
theorem i_vc : Claimed_1_1 ∧ Claimed_1_2 := ⟨lw_limb limb_1_1 (fun args s t => by simp [limb_1_1, Cond.after, Cond.holds, Cond.value]), lw_limb limb_1_2 (fun args s t => Cond.after_iff.mpr (by
  first | (rw [show limb_1_2 = Cond.eq .result (.int 1) from rfl, Cond.eq_ints (x := 1) (y := 1) rfl rfl]; simp; done) | (simp [limb_1_2, Cond.value, Term.eval]; done)))⟩
