/-! the law -/
abbrev mL : Md := (⟨RL, "law", "([I)Z"⟩, cL_law, 4, some .boolean)
theorem and31 (v : Int32) : ∃ k, k < 32 ∧ v &&& 31 = nI k := by
  refine ⟨(v.toBitVec &&& 31#32).toNat, ?_, ?_⟩
  · rw [BitVec.toNat_and]
    exact Nat.lt_of_le_of_lt Nat.and_le_right (by decide)
  · apply Int32.toBitVec_inj.mp
    show v.toBitVec &&& 31#32 = BitVec.ofNat 32 _
    rw [BitVec.ofNat_toNat]
    simp
theorem law_cmp {L i : Nat} (hL : L ≤ 2560) (hi : i ≤ 2570) : (nI L - 5 : Int32) < nI i ↔ ¬ (i + 5 ≤ L) := by
  by_cases c : 5 ≤ L
  · rw [show (5 : Int32) = nI 5 from rfl, nI_sub c, nI_ltI (by omega) (by omega)]
    omega
  · refine ⟨fun _ => by omega, fun _ => ?_⟩
    have h0 : (nI L - 5 : Int32) < 0 := by
      rcases (show L = 0 ∨ L = 1 ∨ L = 2 ∨ L = 3 ∨ L = 4 by omega) with rfl | rfl | rfl | rfl | rfl <;> decide
    have h1 := nI_pos (n := i) (by omega)
    exact Int32.lt_of_lt_of_le h0 (Int32.not_lt.mp h1)
section LAW
variable {G : Gc} {Z : Yp} {E : Ev} {md : Md} {S : St} {pc : Nat} {lv : List (Option Value)} {st st0 : List Value}
theorem Y_sld (hB : Bd G E md) {b L : Nat} {xs : Nat → Int32} (hXs : va_X b L xs E.2.2.1 E.2.2.1.heap) (hbl : b < E.2.2.1.heap.size) (hbA : ¬ gA G b) {i : Int32} (j : Nat) (hi : i = nI j) (hj : j < L) (hL : L ≤ 2560) (hd : decode md.2.1 pc = .ok (.iaload, 1)) (kk : Y G Z E md S (pc + 1) lv (.int (xs j) :: st)) : Y G Z E md S pc lv (.int i :: .ref b :: st) := fun H locs ls hP hD hS hl => by
  subst hi
  have e : (nI j).toNatClampNeg = j := nI_clamp (by omega)
  refine va_sld hB.1 hB.2.1 hXs hbl hbA hS (i := nI j) (fun q => ?_) hd (by rw [e]; exact kk H locs ls hP hD hS hl)
  rcases q with q | q
  · exact nI_pos (by omega) q
  · rw [e] at q; omega
theorem Y_slen (hB : Bd G E md) {b L : Nat} {xs : Nat → Int32} (hXs : va_X b L xs E.2.2.1 E.2.2.1.heap) (hbl : b < E.2.2.1.heap.size) (hbA : ¬ gA G b) (hd : decode md.2.1 pc = .ok (.arraylength, 1)) (kk : Y G Z E md S (pc + 1) lv (.int (nI L) :: st)) : Y G Z E md S pc lv (.ref b :: st) := fun H locs ls hP hD hS hl =>
  va_slen hB.1 hB.2.1 hXs hbl hbA hS hd (kk H locs ls hP hD hS hl)
theorem Y_pair (hB : Bd G E md) {x h n1 n2 idx np : Nat} {m1 m2 : Md} {As : List Value} {T : u_T} (hk : kV md.1.cls idx m1 np) (hc : cwd 9 m1.1.cls T) (hx : x ∈ gL G) (hkx : gK G x = .inl 9) (hp : prS G x h m1 n1 m2 n2 As) (hLI : LI x h S) (hn : n1 + 1 ≤ Z.1.frames) (hm : 19 + m1.2.2.1 + 40 * n1 ≤ Z.1.locals) (hcs : Z.2.1 ≤ Z.1.cells ∧ Z.2.2.1 ≤ Z.1.slots) (hlen : As.length = np) (hst : st0 = As.reverse ++ .ref x :: st) (hsm : (st.map fun v => v.category).sum ≤ 8) (hd : decode md.2.1 pc = .ok (.invokevirtual idx, 3)) (kk : ∀ v S1, C G m2 n2 (.ref h :: As) S1 (fun r S2 => r = some (.int v) ∧ LI x h S2) → Y G Z E md S1 (pc + 3) lv (.int v :: st)) : Y G Z E md S pc lv st0 := by
  obtain ⟨v, P, c1, c2⟩ := hp S hLI
  refine Y_callV hB hk hc hx hkx c1 hn hm hcs hlen hst hsm hd (fun r S1 q => ?_)
  obtain ⟨rfl, hP⟩ := q
  exact kk v S1 (c2 S1 hP)
end LAW
theorem Y_end {p : Program} {e : Env} {s : State} {m : MethodId} {below : List Frame} {meth : Method} {c : Code} {b : Nat} {G : Gc} {S : St} {pc cc v : Nat} {lv : List (Option Value)} (hB : Bd G (p, e, s, m, #[Value.ref b], below, meth, c) mL) (hz : gz G = s.heap.size) (hc : cc ≤ 600000) (hv : v ≤ 7302250) (hd : decode cL_law pc = .ok (.ireturn, 1)) : Y G (room_1, cc, v, lw_Z below #[Value.ref b] s) (p, e, s, m, #[Value.ref b], below, meth, c) mL S pc lv [.int 1] := fun H locs ls hP hD hS hl => va_forget (fun q hq => by have h1 : gz G ≤ q.base := hS.2.2 q hq; rw [hz] at h1; exact h1) (W.widen hc hv (lw_ret hB.1 hB.2.1 hB.2.2.2.1 hB.2.2.2.2.1 hd))
set_option maxRecDepth 100000 in
set_option maxHeartbeats 4000000 in
theorem law_loop {p : Program} {e : Env} {s : State} {m : MethodId} {below : List Frame} {meth : Method} {c : Code} {b L x h V : Nat} {xs : Nat → Int32} {G : Gc} {q v tL tM tF : Nat} (hB : Bd G (p, e, s, m, #[Value.ref b], below, meth, c) mL) (hz : gz G = s.heap.size) (hXs : va_X b L xs s s.heap) (hbl : b < s.heap.size) (hL : L ≤ 2560) (hX : SLay G x) (hR : RLay G h) (hh : h = x + 774) (hV : V ≤ 7302250) (hZ : ∀ U, gZ G U → zW G q v U) (hZL : ∀ U, gZ G U → zT G "LEAST" tL aL U) (hZM : ∀ U, gZ G U → zT G "MOST" tM aM U) (hZF : ∀ U, gZ G U → zT G "AT_FIRST" tF aF U) :
    ∀ (n i : Nat) (S : St), L ≤ i + n → i ≤ 2570 → LI x h S → Y G (room_1, 787, V, lw_Z below #[Value.ref b] s) (p, e, s, m, #[Value.ref b], below, meth, c) mL S 18 [some (.ref b), some (.ref x), some (.ref h), some (.int (nI i))] [] := by
  have hbA : ¬ gA G b := fun z => by
    have z : gz G ≤ b := z
    rw [hz] at z; omega
  have hcs : (787 : Nat) ≤ room_1.cells ∧ V ≤ room_1.slots := ⟨(Nat.le_of_ble_eq_true rfl), hV⟩
  intro n
  induction n with
  | zero =>
    intro i S h1 h2 hLI
    refine Y_iload_n (i := 3) hB dL_law_18 rfl rfl ?_
    refine Y_aload_n (i := 0) hB dL_law_19 rfl rfl ?_
    refine Y_slen hB hXs hbl hbA dL_law_20 ?_
    refine Y_iconst (v := 5) hB dL_law_21 (by decide) ?_
    refine Y_isub hB dL_law_22 ?_
    refine Y_icmp_gt (tgt := 1265) hB dL_law_23 (by decide) (fun c23 => ?_) (fun c23 => absurd ((law_cmp hL (by omega)).mpr (by omega)) c23)
    refine Y_iconst (v := 1) hB dL_law_1265 (by decide) ?_
    exact Y_end hB hz (by decide) hV dL_law_1266
  | succ n ih =>
    intro i S h1 h2 hLI
    by_cases hg : i + 5 ≤ L
    · refine Y_iload_n (i := 3) hB dL_law_18 rfl rfl ?_
      refine Y_aload_n (i := 0) hB dL_law_19 rfl rfl ?_
      refine Y_slen hB hXs hbl hbA dL_law_20 ?_
      refine Y_iconst (v := 5) hB dL_law_21 (by decide) ?_
      refine Y_isub hB dL_law_22 ?_
      refine Y_icmp_gt (tgt := 1265) hB dL_law_23 (by decide) (fun c23 => absurd hg ((law_cmp hL (by omega)).mp c23)) (fun c23 => ?_)
      refine Y_aload_n (i := 0) hB dL_law_26 rfl rfl ?_
      refine Y_iload_n (i := 3) hB dL_law_27 rfl rfl ?_
      refine Y_sld hB hXs hbl hbA i rfl (by omega) hL dL_law_28 ?_
      refine Y_bipush (v := 31) hB dL_law_29 (by decide) ?_
      refine Y_iand hB dL_law_31 ?_
      obtain ⟨k, hk, ek⟩ := and31 (xs i)
      refine Y_topi (y := nI k) ek ?_
      rcases (show k = 0 ∨ k = 1 ∨ k = 2 ∨ k = 3 ∨ k = 4 ∨ k = 5 ∨ k = 6 ∨ k = 7 ∨ k = 8 ∨ k = 9 ∨ k = 10 ∨ k = 11 ∨ k = 12 ∨ k = 13 ∨ k = 14 ∨ k = 15 ∨ k = 16 ∨ k = 17 ∨ k = 18 ∨ k = 19 ∨ k = 20 ∨ k = 21 ∨ k = 22 ∨ k = 23 ∨ k = 24 ∨ k = 25 ∨ k = 26 ∨ k = 27 ∨ k = 28 ∨ k = 29 ∨ k = 30 ∨ k = 31 by omega) with rfl | rfl | rfl | rfl | rfl | rfl | rfl | rfl | rfl | rfl | rfl | rfl | rfl | rfl | rfl | rfl | rfl | rfl | rfl | rfl | rfl | rfl | rfl | rfl | rfl | rfl | rfl | rfl | rfl | rfl | rfl | rfl
      · refine Y_tableIn (tgt := 172) hB dL_law_32 (by decide) (by decide) (by rfl) (by decide) ?_
        refine Y_aload_n (i := 1) hB dL_law_172 rfl rfl ?_
        refine Y_aload_n (i := 0) hB dL_law_173 rfl rfl ?_
        refine Y_iload_n (i := 3) hB dL_law_174 rfl rfl ?_
        refine Y_iconst (v := 1) hB dL_law_175 (by decide) ?_
        refine Y_iadd hB dL_law_176 ?_
        refine Y_sld hB hXs hbl hbA (i + 1) (nI_add _ _) (by omega) hL dL_law_177 ?_
        refine Y_i2l hB dL_law_178 ?_
        refine Y_bipush (v := 32) hB dL_law_179 (by decide) ?_
        refine Y_lshl hB dL_law_181 ?_
        refine Y_aload_n (i := 0) hB dL_law_182 rfl rfl ?_
        refine Y_iload_n (i := 3) hB dL_law_183 rfl rfl ?_
        refine Y_iconst (v := 2) hB dL_law_184 (by decide) ?_
        refine Y_iadd hB dL_law_185 ?_
        refine Y_sld hB hXs hbl hbA (i + 2) (nI_add _ _) (by omega) hL dL_law_186 ?_
        refine Y_i2l hB dL_law_187 ?_
        refine Y_ldc2 hB qL_13 dL_law_188 ?_
        refine Y_land hB dL_law_191 ?_
        refine Y_lor hB dL_law_192 ?_
        refine Y_pair hB kL_15 cw9 hX.1.1 hX.1.2 (pr_say hX hR hh _) hLI (Nat.le_of_ble_eq_true rfl) (Nat.le_of_ble_eq_true rfl) hcs rfl rfl (Nat.le_of_ble_eq_true rfl) dL_law_193 (fun w1 S1 hC1 => ?_)
        refine Y_aload_n (i := 2) hB dL_law_196 rfl rfl ?_
        refine Y_aload_n (i := 0) hB dL_law_197 rfl rfl ?_
        refine Y_iload_n (i := 3) hB dL_law_198 rfl rfl ?_
        refine Y_iconst (v := 1) hB dL_law_199 (by decide) ?_
        refine Y_iadd hB dL_law_200 ?_
        refine Y_sld hB hXs hbl hbA (i + 1) (nI_add _ _) (by omega) hL dL_law_201 ?_
        refine Y_i2l hB dL_law_202 ?_
        refine Y_bipush (v := 32) hB dL_law_203 (by decide) ?_
        refine Y_lshl hB dL_law_205 ?_
        refine Y_aload_n (i := 0) hB dL_law_206 rfl rfl ?_
        refine Y_iload_n (i := 3) hB dL_law_207 rfl rfl ?_
        refine Y_iconst (v := 2) hB dL_law_208 (by decide) ?_
        refine Y_iadd hB dL_law_209 ?_
        refine Y_sld hB hXs hbl hbA (i + 2) (nI_add _ _) (by omega) hL dL_law_210 ?_
        refine Y_i2l hB dL_law_211 ?_
        refine Y_ldc2 hB qL_13 dL_law_212 ?_
        refine Y_land hB dL_law_215 ?_
        refine Y_lor hB dL_law_216 ?_
        refine Y_callV hB kL_19 cw10 hR.1.1 hR.1.2 hC1 (Nat.le_of_ble_eq_true rfl) (Nat.le_of_ble_eq_true rfl) hcs rfl rfl (Nat.le_of_ble_eq_true rfl) dL_law_217 (fun r2 S2 q2 => ?_)
        obtain ⟨rfl, hL2⟩ := q2
        refine Y_icmp_eq (tgt := 1259) hB dL_law_220 (by decide) (fun c220 => ?_) (fun c220 => absurd rfl c220)
        refine Y_iinc hB dL_law_1259 rfl rfl (by decide) rfl ?_
        refine Y_goto (tgt := 18) hB dL_law_1262 (by decide) ?_
        refine Y_lv ?_ (ih (i + 5) S2 (by omega) (by omega) hL2)
        rw [show i + 5 = i + 5 from rfl, ← nI_add]; rfl
      · refine Y_tableIn (tgt := 225) hB dL_law_32 (by decide) (by decide) (by rfl) (by decide) ?_
        refine Y_aload_n (i := 1) hB dL_law_225 rfl rfl ?_
        refine Y_pair hB kL_20 cw9 hX.1.1 hX.1.2 (pr_net hX hR hh hZ hZL hZM hZF) hLI (Nat.le_of_ble_eq_true rfl) (Nat.le_of_ble_eq_true rfl) hcs rfl rfl (Nat.le_of_ble_eq_true rfl) dL_law_226 (fun w1 S1 hC1 => ?_)
        refine Y_aload_n (i := 2) hB dL_law_229 rfl rfl ?_
        refine Y_callV hB kL_24 cw10 hR.1.1 hR.1.2 hC1 (Nat.le_of_ble_eq_true rfl) (Nat.le_of_ble_eq_true rfl) hcs rfl rfl (Nat.le_of_ble_eq_true rfl) dL_law_230 (fun r2 S2 q2 => ?_)
        obtain ⟨rfl, hL2⟩ := q2
        refine Y_icmp_eq (tgt := 1259) hB dL_law_233 (by decide) (fun c233 => ?_) (fun c233 => absurd rfl c233)
        refine Y_iinc hB dL_law_1259 rfl rfl (by decide) rfl ?_
        refine Y_goto (tgt := 18) hB dL_law_1262 (by decide) ?_
        refine Y_lv ?_ (ih (i + 5) S2 (by omega) (by omega) hL2)
        rw [show i + 5 = i + 5 from rfl, ← nI_add]; rfl
      · refine Y_tableIn (tgt := 238) hB dL_law_32 (by decide) (by decide) (by rfl) (by decide) ?_
        by_cases hzz : xs (i + 1) = 0
        · refine Y_aload_n (i := 1) hB dL_law_238 rfl rfl ?_
          refine Y_aload_n (i := 0) hB dL_law_239 rfl rfl ?_
          refine Y_iload_n (i := 3) hB dL_law_240 rfl rfl ?_
          refine Y_iconst (v := 1) hB dL_law_241 (by decide) ?_
          refine Y_iadd hB dL_law_242 ?_
          refine Y_sld hB hXs hbl hbA (i + 1) (nI_add _ _) (by omega) hL dL_law_243 ?_
          refine Y_if_eq (tgt := 251) hB dL_law_244 (by decide) (fun c244 => ?_) (fun c244 => absurd hzz c244)
          refine Y_iconst (v := 0) hB dL_law_251 (by decide) ?_
          refine Y_pair hB kL_25 cw9 hX.1.1 hX.1.2 (pr_fault hX hR hh false) hLI (Nat.le_of_ble_eq_true rfl) (Nat.le_of_ble_eq_true rfl) hcs rfl rfl (Nat.le_of_ble_eq_true rfl) dL_law_252 (fun w1 S1 hC1 => ?_)
          refine Y_aload_n (i := 2) hB dL_law_255 rfl rfl ?_
          refine Y_aload_n (i := 0) hB dL_law_256 rfl rfl ?_
          refine Y_iload_n (i := 3) hB dL_law_257 rfl rfl ?_
          refine Y_iconst (v := 1) hB dL_law_258 (by decide) ?_
          refine Y_iadd hB dL_law_259 ?_
          refine Y_sld hB hXs hbl hbA (i + 1) (nI_add _ _) (by omega) hL dL_law_260 ?_
          refine Y_if_eq (tgt := 268) hB dL_law_261 (by decide) (fun c261 => ?_) (fun c261 => absurd hzz c261)
          refine Y_iconst (v := 0) hB dL_law_268 (by decide) ?_
          refine Y_callV hB kL_29 cw10 hR.1.1 hR.1.2 hC1 (Nat.le_of_ble_eq_true rfl) (Nat.le_of_ble_eq_true rfl) hcs rfl rfl (Nat.le_of_ble_eq_true rfl) dL_law_269 (fun r2 S2 q2 => ?_)
          obtain ⟨rfl, hL2⟩ := q2
          refine Y_icmp_eq (tgt := 1259) hB dL_law_272 (by decide) (fun c272 => ?_) (fun c272 => absurd rfl c272)
          refine Y_iinc hB dL_law_1259 rfl rfl (by decide) rfl ?_
          refine Y_goto (tgt := 18) hB dL_law_1262 (by decide) ?_
          refine Y_lv ?_ (ih (i + 5) S2 (by omega) (by omega) hL2)
          rw [show i + 5 = i + 5 from rfl, ← nI_add]; rfl
        · refine Y_aload_n (i := 1) hB dL_law_238 rfl rfl ?_
          refine Y_aload_n (i := 0) hB dL_law_239 rfl rfl ?_
          refine Y_iload_n (i := 3) hB dL_law_240 rfl rfl ?_
          refine Y_iconst (v := 1) hB dL_law_241 (by decide) ?_
          refine Y_iadd hB dL_law_242 ?_
          refine Y_sld hB hXs hbl hbA (i + 1) (nI_add _ _) (by omega) hL dL_law_243 ?_
          refine Y_if_eq (tgt := 251) hB dL_law_244 (by decide) (fun c244 => absurd c244 hzz) (fun c244 => ?_)
          refine Y_iconst (v := 1) hB dL_law_247 (by decide) ?_
          refine Y_goto (tgt := 252) hB dL_law_248 (by decide) ?_
          refine Y_pair hB kL_25 cw9 hX.1.1 hX.1.2 (pr_fault hX hR hh true) hLI (Nat.le_of_ble_eq_true rfl) (Nat.le_of_ble_eq_true rfl) hcs rfl rfl (Nat.le_of_ble_eq_true rfl) dL_law_252 (fun w1 S1 hC1 => ?_)
          refine Y_aload_n (i := 2) hB dL_law_255 rfl rfl ?_
          refine Y_aload_n (i := 0) hB dL_law_256 rfl rfl ?_
          refine Y_iload_n (i := 3) hB dL_law_257 rfl rfl ?_
          refine Y_iconst (v := 1) hB dL_law_258 (by decide) ?_
          refine Y_iadd hB dL_law_259 ?_
          refine Y_sld hB hXs hbl hbA (i + 1) (nI_add _ _) (by omega) hL dL_law_260 ?_
          refine Y_if_eq (tgt := 268) hB dL_law_261 (by decide) (fun c261 => absurd c261 hzz) (fun c261 => ?_)
          refine Y_iconst (v := 1) hB dL_law_264 (by decide) ?_
          refine Y_goto (tgt := 269) hB dL_law_265 (by decide) ?_
          refine Y_callV hB kL_29 cw10 hR.1.1 hR.1.2 hC1 (Nat.le_of_ble_eq_true rfl) (Nat.le_of_ble_eq_true rfl) hcs rfl rfl (Nat.le_of_ble_eq_true rfl) dL_law_269 (fun r2 S2 q2 => ?_)
          obtain ⟨rfl, hL2⟩ := q2
          refine Y_icmp_eq (tgt := 1259) hB dL_law_272 (by decide) (fun c272 => ?_) (fun c272 => absurd rfl c272)
          refine Y_iinc hB dL_law_1259 rfl rfl (by decide) rfl ?_
          refine Y_goto (tgt := 18) hB dL_law_1262 (by decide) ?_
          refine Y_lv ?_ (ih (i + 5) S2 (by omega) (by omega) hL2)
          rw [show i + 5 = i + 5 from rfl, ← nI_add]; rfl
      · refine Y_tableIn (tgt := 277) hB dL_law_32 (by decide) (by decide) (by rfl) (by decide) ?_
        refine Y_aload_n (i := 1) hB dL_law_277 rfl rfl ?_
        refine Y_aload_n (i := 0) hB dL_law_278 rfl rfl ?_
        refine Y_iload_n (i := 3) hB dL_law_279 rfl rfl ?_
        refine Y_iconst (v := 1) hB dL_law_280 (by decide) ?_
        refine Y_iadd hB dL_law_281 ?_
        refine Y_sld hB hXs hbl hbA (i + 1) (nI_add _ _) (by omega) hL dL_law_282 ?_
        refine Y_aload_n (i := 0) hB dL_law_283 rfl rfl ?_
        refine Y_iload_n (i := 3) hB dL_law_284 rfl rfl ?_
        refine Y_iconst (v := 2) hB dL_law_285 (by decide) ?_
        refine Y_iadd hB dL_law_286 ?_
        refine Y_sld hB hXs hbl hbA (i + 2) (nI_add _ _) (by omega) hL dL_law_287 ?_
        refine Y_pair hB kL_30 cw9 hX.1.1 hX.1.2 (pr_send hX hR hh _ _) hLI (Nat.le_of_ble_eq_true rfl) (Nat.le_of_ble_eq_true rfl) hcs rfl rfl (Nat.le_of_ble_eq_true rfl) dL_law_288 (fun w1 S1 hC1 => ?_)
        refine Y_aload_n (i := 2) hB dL_law_291 rfl rfl ?_
        refine Y_aload_n (i := 0) hB dL_law_292 rfl rfl ?_
        refine Y_iload_n (i := 3) hB dL_law_293 rfl rfl ?_
        refine Y_iconst (v := 1) hB dL_law_294 (by decide) ?_
        refine Y_iadd hB dL_law_295 ?_
        refine Y_sld hB hXs hbl hbA (i + 1) (nI_add _ _) (by omega) hL dL_law_296 ?_
        refine Y_aload_n (i := 0) hB dL_law_297 rfl rfl ?_
        refine Y_iload_n (i := 3) hB dL_law_298 rfl rfl ?_
        refine Y_iconst (v := 2) hB dL_law_299 (by decide) ?_
        refine Y_iadd hB dL_law_300 ?_
        refine Y_sld hB hXs hbl hbA (i + 2) (nI_add _ _) (by omega) hL dL_law_301 ?_
        refine Y_callV hB kL_34 cw10 hR.1.1 hR.1.2 hC1 (Nat.le_of_ble_eq_true rfl) (Nat.le_of_ble_eq_true rfl) hcs rfl rfl (Nat.le_of_ble_eq_true rfl) dL_law_302 (fun r2 S2 q2 => ?_)
        obtain ⟨rfl, hL2⟩ := q2
        refine Y_icmp_eq (tgt := 1259) hB dL_law_305 (by decide) (fun c305 => ?_) (fun c305 => absurd rfl c305)
        refine Y_iinc hB dL_law_1259 rfl rfl (by decide) rfl ?_
        refine Y_goto (tgt := 18) hB dL_law_1262 (by decide) ?_
        refine Y_lv ?_ (ih (i + 5) S2 (by omega) (by omega) hL2)
        rw [show i + 5 = i + 5 from rfl, ← nI_add]; rfl
      · refine Y_tableIn (tgt := 310) hB dL_law_32 (by decide) (by decide) (by rfl) (by decide) ?_
        by_cases hzz : xs (i + 3) = 0
        · refine Y_aload_n (i := 1) hB dL_law_310 rfl rfl ?_
          refine Y_aload_n (i := 0) hB dL_law_311 rfl rfl ?_
          refine Y_iload_n (i := 3) hB dL_law_312 rfl rfl ?_
          refine Y_iconst (v := 1) hB dL_law_313 (by decide) ?_
          refine Y_iadd hB dL_law_314 ?_
          refine Y_sld hB hXs hbl hbA (i + 1) (nI_add _ _) (by omega) hL dL_law_315 ?_
          refine Y_aload_n (i := 0) hB dL_law_316 rfl rfl ?_
          refine Y_iload_n (i := 3) hB dL_law_317 rfl rfl ?_
          refine Y_iconst (v := 2) hB dL_law_318 (by decide) ?_
          refine Y_iadd hB dL_law_319 ?_
          refine Y_sld hB hXs hbl hbA (i + 2) (nI_add _ _) (by omega) hL dL_law_320 ?_
          refine Y_aload_n (i := 0) hB dL_law_321 rfl rfl ?_
          refine Y_iload_n (i := 3) hB dL_law_322 rfl rfl ?_
          refine Y_iconst (v := 3) hB dL_law_323 (by decide) ?_
          refine Y_iadd hB dL_law_324 ?_
          refine Y_sld hB hXs hbl hbA (i + 3) (nI_add _ _) (by omega) hL dL_law_325 ?_
          refine Y_if_eq (tgt := 333) hB dL_law_326 (by decide) (fun c326 => ?_) (fun c326 => absurd hzz c326)
          refine Y_iconst (v := 0) hB dL_law_333 (by decide) ?_
          refine Y_pair hB kL_35 cw9 hX.1.1 hX.1.2 (pr_turn hX hR hh _ _ false) hLI (Nat.le_of_ble_eq_true rfl) (Nat.le_of_ble_eq_true rfl) hcs rfl rfl (Nat.le_of_ble_eq_true rfl) dL_law_334 (fun w1 S1 hC1 => ?_)
          refine Y_aload_n (i := 2) hB dL_law_337 rfl rfl ?_
          refine Y_aload_n (i := 0) hB dL_law_338 rfl rfl ?_
          refine Y_iload_n (i := 3) hB dL_law_339 rfl rfl ?_
          refine Y_iconst (v := 1) hB dL_law_340 (by decide) ?_
          refine Y_iadd hB dL_law_341 ?_
          refine Y_sld hB hXs hbl hbA (i + 1) (nI_add _ _) (by omega) hL dL_law_342 ?_
          refine Y_aload_n (i := 0) hB dL_law_343 rfl rfl ?_
          refine Y_iload_n (i := 3) hB dL_law_344 rfl rfl ?_
          refine Y_iconst (v := 2) hB dL_law_345 (by decide) ?_
          refine Y_iadd hB dL_law_346 ?_
          refine Y_sld hB hXs hbl hbA (i + 2) (nI_add _ _) (by omega) hL dL_law_347 ?_
          refine Y_aload_n (i := 0) hB dL_law_348 rfl rfl ?_
          refine Y_iload_n (i := 3) hB dL_law_349 rfl rfl ?_
          refine Y_iconst (v := 3) hB dL_law_350 (by decide) ?_
          refine Y_iadd hB dL_law_351 ?_
          refine Y_sld hB hXs hbl hbA (i + 3) (nI_add _ _) (by omega) hL dL_law_352 ?_
          refine Y_if_eq (tgt := 360) hB dL_law_353 (by decide) (fun c353 => ?_) (fun c353 => absurd hzz c353)
          refine Y_iconst (v := 0) hB dL_law_360 (by decide) ?_
          refine Y_callV hB kL_39 cw10 hR.1.1 hR.1.2 hC1 (Nat.le_of_ble_eq_true rfl) (Nat.le_of_ble_eq_true rfl) hcs rfl rfl (Nat.le_of_ble_eq_true rfl) dL_law_361 (fun r2 S2 q2 => ?_)
          obtain ⟨rfl, hL2⟩ := q2
          refine Y_icmp_eq (tgt := 1259) hB dL_law_364 (by decide) (fun c364 => ?_) (fun c364 => absurd rfl c364)
          refine Y_iinc hB dL_law_1259 rfl rfl (by decide) rfl ?_
          refine Y_goto (tgt := 18) hB dL_law_1262 (by decide) ?_
          refine Y_lv ?_ (ih (i + 5) S2 (by omega) (by omega) hL2)
          rw [show i + 5 = i + 5 from rfl, ← nI_add]; rfl
        · refine Y_aload_n (i := 1) hB dL_law_310 rfl rfl ?_
          refine Y_aload_n (i := 0) hB dL_law_311 rfl rfl ?_
          refine Y_iload_n (i := 3) hB dL_law_312 rfl rfl ?_
          refine Y_iconst (v := 1) hB dL_law_313 (by decide) ?_
          refine Y_iadd hB dL_law_314 ?_
          refine Y_sld hB hXs hbl hbA (i + 1) (nI_add _ _) (by omega) hL dL_law_315 ?_
          refine Y_aload_n (i := 0) hB dL_law_316 rfl rfl ?_
          refine Y_iload_n (i := 3) hB dL_law_317 rfl rfl ?_
          refine Y_iconst (v := 2) hB dL_law_318 (by decide) ?_
          refine Y_iadd hB dL_law_319 ?_
          refine Y_sld hB hXs hbl hbA (i + 2) (nI_add _ _) (by omega) hL dL_law_320 ?_
          refine Y_aload_n (i := 0) hB dL_law_321 rfl rfl ?_
          refine Y_iload_n (i := 3) hB dL_law_322 rfl rfl ?_
          refine Y_iconst (v := 3) hB dL_law_323 (by decide) ?_
          refine Y_iadd hB dL_law_324 ?_
          refine Y_sld hB hXs hbl hbA (i + 3) (nI_add _ _) (by omega) hL dL_law_325 ?_
          refine Y_if_eq (tgt := 333) hB dL_law_326 (by decide) (fun c326 => absurd c326 hzz) (fun c326 => ?_)
          refine Y_iconst (v := 1) hB dL_law_329 (by decide) ?_
          refine Y_goto (tgt := 334) hB dL_law_330 (by decide) ?_
          refine Y_pair hB kL_35 cw9 hX.1.1 hX.1.2 (pr_turn hX hR hh _ _ true) hLI (Nat.le_of_ble_eq_true rfl) (Nat.le_of_ble_eq_true rfl) hcs rfl rfl (Nat.le_of_ble_eq_true rfl) dL_law_334 (fun w1 S1 hC1 => ?_)
          refine Y_aload_n (i := 2) hB dL_law_337 rfl rfl ?_
          refine Y_aload_n (i := 0) hB dL_law_338 rfl rfl ?_
          refine Y_iload_n (i := 3) hB dL_law_339 rfl rfl ?_
          refine Y_iconst (v := 1) hB dL_law_340 (by decide) ?_
          refine Y_iadd hB dL_law_341 ?_
          refine Y_sld hB hXs hbl hbA (i + 1) (nI_add _ _) (by omega) hL dL_law_342 ?_
          refine Y_aload_n (i := 0) hB dL_law_343 rfl rfl ?_
          refine Y_iload_n (i := 3) hB dL_law_344 rfl rfl ?_
          refine Y_iconst (v := 2) hB dL_law_345 (by decide) ?_
          refine Y_iadd hB dL_law_346 ?_
          refine Y_sld hB hXs hbl hbA (i + 2) (nI_add _ _) (by omega) hL dL_law_347 ?_
          refine Y_aload_n (i := 0) hB dL_law_348 rfl rfl ?_
          refine Y_iload_n (i := 3) hB dL_law_349 rfl rfl ?_
          refine Y_iconst (v := 3) hB dL_law_350 (by decide) ?_
          refine Y_iadd hB dL_law_351 ?_
          refine Y_sld hB hXs hbl hbA (i + 3) (nI_add _ _) (by omega) hL dL_law_352 ?_
          refine Y_if_eq (tgt := 360) hB dL_law_353 (by decide) (fun c353 => absurd c353 hzz) (fun c353 => ?_)
          refine Y_iconst (v := 1) hB dL_law_356 (by decide) ?_
          refine Y_goto (tgt := 361) hB dL_law_357 (by decide) ?_
          refine Y_callV hB kL_39 cw10 hR.1.1 hR.1.2 hC1 (Nat.le_of_ble_eq_true rfl) (Nat.le_of_ble_eq_true rfl) hcs rfl rfl (Nat.le_of_ble_eq_true rfl) dL_law_361 (fun r2 S2 q2 => ?_)
          obtain ⟨rfl, hL2⟩ := q2
          refine Y_icmp_eq (tgt := 1259) hB dL_law_364 (by decide) (fun c364 => ?_) (fun c364 => absurd rfl c364)
          refine Y_iinc hB dL_law_1259 rfl rfl (by decide) rfl ?_
          refine Y_goto (tgt := 18) hB dL_law_1262 (by decide) ?_
          refine Y_lv ?_ (ih (i + 5) S2 (by omega) (by omega) hL2)
          rw [show i + 5 = i + 5 from rfl, ← nI_add]; rfl
      · refine Y_tableIn (tgt := 369) hB dL_law_32 (by decide) (by decide) (by rfl) (by decide) ?_
        refine Y_aload_n (i := 1) hB dL_law_369 rfl rfl ?_
        refine Y_aload_n (i := 0) hB dL_law_370 rfl rfl ?_
        refine Y_iload_n (i := 3) hB dL_law_371 rfl rfl ?_
        refine Y_iconst (v := 1) hB dL_law_372 (by decide) ?_
        refine Y_iadd hB dL_law_373 ?_
        refine Y_sld hB hXs hbl hbA (i + 1) (nI_add _ _) (by omega) hL dL_law_374 ?_
        refine Y_pair hB kL_40 cw9 hX.1.1 hX.1.2 (pr_ticks hX hR hh _) hLI (Nat.le_of_ble_eq_true rfl) (Nat.le_of_ble_eq_true rfl) hcs rfl rfl (Nat.le_of_ble_eq_true rfl) dL_law_375 (fun w1 S1 hC1 => ?_)
        refine Y_aload_n (i := 2) hB dL_law_378 rfl rfl ?_
        refine Y_aload_n (i := 0) hB dL_law_379 rfl rfl ?_
        refine Y_iload_n (i := 3) hB dL_law_380 rfl rfl ?_
        refine Y_iconst (v := 1) hB dL_law_381 (by decide) ?_
        refine Y_iadd hB dL_law_382 ?_
        refine Y_sld hB hXs hbl hbA (i + 1) (nI_add _ _) (by omega) hL dL_law_383 ?_
        refine Y_callV hB kL_44 cw10 hR.1.1 hR.1.2 hC1 (Nat.le_of_ble_eq_true rfl) (Nat.le_of_ble_eq_true rfl) hcs rfl rfl (Nat.le_of_ble_eq_true rfl) dL_law_384 (fun r2 S2 q2 => ?_)
        obtain ⟨rfl, hL2⟩ := q2
        refine Y_icmp_eq (tgt := 1259) hB dL_law_387 (by decide) (fun c387 => ?_) (fun c387 => absurd rfl c387)
        refine Y_iinc hB dL_law_1259 rfl rfl (by decide) rfl ?_
        refine Y_goto (tgt := 18) hB dL_law_1262 (by decide) ?_
        refine Y_lv ?_ (ih (i + 5) S2 (by omega) (by omega) hL2)
        rw [show i + 5 = i + 5 from rfl, ← nI_add]; rfl
      · refine Y_tableIn (tgt := 392) hB dL_law_32 (by decide) (by decide) (by rfl) (by decide) ?_
        refine Y_aload_n (i := 1) hB dL_law_392 rfl rfl ?_
        refine Y_aload_n (i := 0) hB dL_law_393 rfl rfl ?_
        refine Y_iload_n (i := 3) hB dL_law_394 rfl rfl ?_
        refine Y_iconst (v := 1) hB dL_law_395 (by decide) ?_
        refine Y_iadd hB dL_law_396 ?_
        refine Y_sld hB hXs hbl hbA (i + 1) (nI_add _ _) (by omega) hL dL_law_397 ?_
        refine Y_pair hB kL_45 cw9 hX.1.1 hX.1.2 (pr_has hX hR hh _) hLI (Nat.le_of_ble_eq_true rfl) (Nat.le_of_ble_eq_true rfl) hcs rfl rfl (Nat.le_of_ble_eq_true rfl) dL_law_398 (fun w1 S1 hC1 => ?_)
        refine Y_aload_n (i := 2) hB dL_law_401 rfl rfl ?_
        refine Y_aload_n (i := 0) hB dL_law_402 rfl rfl ?_
        refine Y_iload_n (i := 3) hB dL_law_403 rfl rfl ?_
        refine Y_iconst (v := 1) hB dL_law_404 (by decide) ?_
        refine Y_iadd hB dL_law_405 ?_
        refine Y_sld hB hXs hbl hbA (i + 1) (nI_add _ _) (by omega) hL dL_law_406 ?_
        refine Y_callV hB kL_48 cw10 hR.1.1 hR.1.2 hC1 (Nat.le_of_ble_eq_true rfl) (Nat.le_of_ble_eq_true rfl) hcs rfl rfl (Nat.le_of_ble_eq_true rfl) dL_law_407 (fun r2 S2 q2 => ?_)
        obtain ⟨rfl, hL2⟩ := q2
        refine Y_icmp_eq (tgt := 1259) hB dL_law_410 (by decide) (fun c410 => ?_) (fun c410 => absurd rfl c410)
        refine Y_iinc hB dL_law_1259 rfl rfl (by decide) rfl ?_
        refine Y_goto (tgt := 18) hB dL_law_1262 (by decide) ?_
        refine Y_lv ?_ (ih (i + 5) S2 (by omega) (by omega) hL2)
        rw [show i + 5 = i + 5 from rfl, ← nI_add]; rfl
      · refine Y_tableIn (tgt := 415) hB dL_law_32 (by decide) (by decide) (by rfl) (by decide) ?_
        refine Y_aload_n (i := 1) hB dL_law_415 rfl rfl ?_
        refine Y_aload_n (i := 0) hB dL_law_416 rfl rfl ?_
        refine Y_iload_n (i := 3) hB dL_law_417 rfl rfl ?_
        refine Y_iconst (v := 1) hB dL_law_418 (by decide) ?_
        refine Y_iadd hB dL_law_419 ?_
        refine Y_sld hB hXs hbl hbA (i + 1) (nI_add _ _) (by omega) hL dL_law_420 ?_
        refine Y_aload_n (i := 0) hB dL_law_421 rfl rfl ?_
        refine Y_iload_n (i := 3) hB dL_law_422 rfl rfl ?_
        refine Y_iconst (v := 2) hB dL_law_423 (by decide) ?_
        refine Y_iadd hB dL_law_424 ?_
        refine Y_sld hB hXs hbl hbA (i + 2) (nI_add _ _) (by omega) hL dL_law_425 ?_
        refine Y_pair hB kL_49 cw9 hX.1.1 hX.1.2 (pr_node hX hR hh _ _) hLI (Nat.le_of_ble_eq_true rfl) (Nat.le_of_ble_eq_true rfl) hcs rfl rfl (Nat.le_of_ble_eq_true rfl) dL_law_426 (fun w1 S1 hC1 => ?_)
        refine Y_aload_n (i := 2) hB dL_law_429 rfl rfl ?_
        refine Y_aload_n (i := 0) hB dL_law_430 rfl rfl ?_
        refine Y_iload_n (i := 3) hB dL_law_431 rfl rfl ?_
        refine Y_iconst (v := 1) hB dL_law_432 (by decide) ?_
        refine Y_iadd hB dL_law_433 ?_
        refine Y_sld hB hXs hbl hbA (i + 1) (nI_add _ _) (by omega) hL dL_law_434 ?_
        refine Y_aload_n (i := 0) hB dL_law_435 rfl rfl ?_
        refine Y_iload_n (i := 3) hB dL_law_436 rfl rfl ?_
        refine Y_iconst (v := 2) hB dL_law_437 (by decide) ?_
        refine Y_iadd hB dL_law_438 ?_
        refine Y_sld hB hXs hbl hbA (i + 2) (nI_add _ _) (by omega) hL dL_law_439 ?_
        refine Y_callV hB kL_52 cw10 hR.1.1 hR.1.2 hC1 (Nat.le_of_ble_eq_true rfl) (Nat.le_of_ble_eq_true rfl) hcs rfl rfl (Nat.le_of_ble_eq_true rfl) dL_law_440 (fun r2 S2 q2 => ?_)
        obtain ⟨rfl, hL2⟩ := q2
        refine Y_icmp_eq (tgt := 1259) hB dL_law_443 (by decide) (fun c443 => ?_) (fun c443 => absurd rfl c443)
        refine Y_iinc hB dL_law_1259 rfl rfl (by decide) rfl ?_
        refine Y_goto (tgt := 18) hB dL_law_1262 (by decide) ?_
        refine Y_lv ?_ (ih (i + 5) S2 (by omega) (by omega) hL2)
        rw [show i + 5 = i + 5 from rfl, ← nI_add]; rfl
      · refine Y_tableIn (tgt := 448) hB dL_law_32 (by decide) (by decide) (by rfl) (by decide) ?_
        refine Y_aload_n (i := 1) hB dL_law_448 rfl rfl ?_
        refine Y_aload_n (i := 0) hB dL_law_449 rfl rfl ?_
        refine Y_iload_n (i := 3) hB dL_law_450 rfl rfl ?_
        refine Y_iconst (v := 1) hB dL_law_451 (by decide) ?_
        refine Y_iadd hB dL_law_452 ?_
        refine Y_sld hB hXs hbl hbA (i + 1) (nI_add _ _) (by omega) hL dL_law_453 ?_
        refine Y_aload_n (i := 0) hB dL_law_454 rfl rfl ?_
        refine Y_iload_n (i := 3) hB dL_law_455 rfl rfl ?_
        refine Y_iconst (v := 2) hB dL_law_456 (by decide) ?_
        refine Y_iadd hB dL_law_457 ?_
        refine Y_sld hB hXs hbl hbA (i + 2) (nI_add _ _) (by omega) hL dL_law_458 ?_
        refine Y_aload_n (i := 0) hB dL_law_459 rfl rfl ?_
        refine Y_iload_n (i := 3) hB dL_law_460 rfl rfl ?_
        refine Y_iconst (v := 3) hB dL_law_461 (by decide) ?_
        refine Y_iadd hB dL_law_462 ?_
        refine Y_sld hB hXs hbl hbA (i + 3) (nI_add _ _) (by omega) hL dL_law_463 ?_
        refine Y_pair hB kL_53 cw9 hX.1.1 hX.1.2 (pr_kept hX hR hh _ _ _) hLI (Nat.le_of_ble_eq_true rfl) (Nat.le_of_ble_eq_true rfl) hcs rfl rfl (Nat.le_of_ble_eq_true rfl) dL_law_464 (fun w1 S1 hC1 => ?_)
        refine Y_aload_n (i := 2) hB dL_law_467 rfl rfl ?_
        refine Y_aload_n (i := 0) hB dL_law_468 rfl rfl ?_
        refine Y_iload_n (i := 3) hB dL_law_469 rfl rfl ?_
        refine Y_iconst (v := 1) hB dL_law_470 (by decide) ?_
        refine Y_iadd hB dL_law_471 ?_
        refine Y_sld hB hXs hbl hbA (i + 1) (nI_add _ _) (by omega) hL dL_law_472 ?_
        refine Y_aload_n (i := 0) hB dL_law_473 rfl rfl ?_
        refine Y_iload_n (i := 3) hB dL_law_474 rfl rfl ?_
        refine Y_iconst (v := 2) hB dL_law_475 (by decide) ?_
        refine Y_iadd hB dL_law_476 ?_
        refine Y_sld hB hXs hbl hbA (i + 2) (nI_add _ _) (by omega) hL dL_law_477 ?_
        refine Y_aload_n (i := 0) hB dL_law_478 rfl rfl ?_
        refine Y_iload_n (i := 3) hB dL_law_479 rfl rfl ?_
        refine Y_iconst (v := 3) hB dL_law_480 (by decide) ?_
        refine Y_iadd hB dL_law_481 ?_
        refine Y_sld hB hXs hbl hbA (i + 3) (nI_add _ _) (by omega) hL dL_law_482 ?_
        refine Y_callV hB kL_57 cw10 hR.1.1 hR.1.2 hC1 (Nat.le_of_ble_eq_true rfl) (Nat.le_of_ble_eq_true rfl) hcs rfl rfl (Nat.le_of_ble_eq_true rfl) dL_law_483 (fun r2 S2 q2 => ?_)
        obtain ⟨rfl, hL2⟩ := q2
        refine Y_icmp_eq (tgt := 1259) hB dL_law_486 (by decide) (fun c486 => ?_) (fun c486 => absurd rfl c486)
        refine Y_iinc hB dL_law_1259 rfl rfl (by decide) rfl ?_
        refine Y_goto (tgt := 18) hB dL_law_1262 (by decide) ?_
        refine Y_lv ?_ (ih (i + 5) S2 (by omega) (by omega) hL2)
        rw [show i + 5 = i + 5 from rfl, ← nI_add]; rfl
      · refine Y_tableIn (tgt := 491) hB dL_law_32 (by decide) (by decide) (by rfl) (by decide) ?_
        refine Y_aload_n (i := 1) hB dL_law_491 rfl rfl ?_
        refine Y_aload_n (i := 0) hB dL_law_492 rfl rfl ?_
        refine Y_iload_n (i := 3) hB dL_law_493 rfl rfl ?_
        refine Y_iconst (v := 1) hB dL_law_494 (by decide) ?_
        refine Y_iadd hB dL_law_495 ?_
        refine Y_sld hB hXs hbl hbA (i + 1) (nI_add _ _) (by omega) hL dL_law_496 ?_
        refine Y_aload_n (i := 0) hB dL_law_497 rfl rfl ?_
        refine Y_iload_n (i := 3) hB dL_law_498 rfl rfl ?_
        refine Y_iconst (v := 2) hB dL_law_499 (by decide) ?_
        refine Y_iadd hB dL_law_500 ?_
        refine Y_sld hB hXs hbl hbA (i + 2) (nI_add _ _) (by omega) hL dL_law_501 ?_
        refine Y_pair hB kL_58 cw9 hX.1.1 hX.1.2 (pr_seen hX hR hh _ _) hLI (Nat.le_of_ble_eq_true rfl) (Nat.le_of_ble_eq_true rfl) hcs rfl rfl (Nat.le_of_ble_eq_true rfl) dL_law_502 (fun w1 S1 hC1 => ?_)
        refine Y_aload_n (i := 2) hB dL_law_505 rfl rfl ?_
        refine Y_aload_n (i := 0) hB dL_law_506 rfl rfl ?_
        refine Y_iload_n (i := 3) hB dL_law_507 rfl rfl ?_
        refine Y_iconst (v := 1) hB dL_law_508 (by decide) ?_
        refine Y_iadd hB dL_law_509 ?_
        refine Y_sld hB hXs hbl hbA (i + 1) (nI_add _ _) (by omega) hL dL_law_510 ?_
        refine Y_aload_n (i := 0) hB dL_law_511 rfl rfl ?_
        refine Y_iload_n (i := 3) hB dL_law_512 rfl rfl ?_
        refine Y_iconst (v := 2) hB dL_law_513 (by decide) ?_
        refine Y_iadd hB dL_law_514 ?_
        refine Y_sld hB hXs hbl hbA (i + 2) (nI_add _ _) (by omega) hL dL_law_515 ?_
        refine Y_callV hB kL_61 cw10 hR.1.1 hR.1.2 hC1 (Nat.le_of_ble_eq_true rfl) (Nat.le_of_ble_eq_true rfl) hcs rfl rfl (Nat.le_of_ble_eq_true rfl) dL_law_516 (fun r2 S2 q2 => ?_)
        obtain ⟨rfl, hL2⟩ := q2
        refine Y_icmp_eq (tgt := 1259) hB dL_law_519 (by decide) (fun c519 => ?_) (fun c519 => absurd rfl c519)
        refine Y_iinc hB dL_law_1259 rfl rfl (by decide) rfl ?_
        refine Y_goto (tgt := 18) hB dL_law_1262 (by decide) ?_
        refine Y_lv ?_ (ih (i + 5) S2 (by omega) (by omega) hL2)
        rw [show i + 5 = i + 5 from rfl, ← nI_add]; rfl
      · refine Y_tableIn (tgt := 524) hB dL_law_32 (by decide) (by decide) (by rfl) (by decide) ?_
        refine Y_aload_n (i := 1) hB dL_law_524 rfl rfl ?_
        refine Y_aload_n (i := 0) hB dL_law_525 rfl rfl ?_
        refine Y_iload_n (i := 3) hB dL_law_526 rfl rfl ?_
        refine Y_iconst (v := 1) hB dL_law_527 (by decide) ?_
        refine Y_iadd hB dL_law_528 ?_
        refine Y_sld hB hXs hbl hbA (i + 1) (nI_add _ _) (by omega) hL dL_law_529 ?_
        refine Y_aload_n (i := 0) hB dL_law_530 rfl rfl ?_
        refine Y_iload_n (i := 3) hB dL_law_531 rfl rfl ?_
        refine Y_iconst (v := 2) hB dL_law_532 (by decide) ?_
        refine Y_iadd hB dL_law_533 ?_
        refine Y_sld hB hXs hbl hbA (i + 2) (nI_add _ _) (by omega) hL dL_law_534 ?_
        refine Y_pair hB kL_62 cw9 hX.1.1 hX.1.2 (pr_waits hX hR hh _ _) hLI (Nat.le_of_ble_eq_true rfl) (Nat.le_of_ble_eq_true rfl) hcs rfl rfl (Nat.le_of_ble_eq_true rfl) dL_law_535 (fun w1 S1 hC1 => ?_)
        refine Y_aload_n (i := 2) hB dL_law_538 rfl rfl ?_
        refine Y_aload_n (i := 0) hB dL_law_539 rfl rfl ?_
        refine Y_iload_n (i := 3) hB dL_law_540 rfl rfl ?_
        refine Y_iconst (v := 1) hB dL_law_541 (by decide) ?_
        refine Y_iadd hB dL_law_542 ?_
        refine Y_sld hB hXs hbl hbA (i + 1) (nI_add _ _) (by omega) hL dL_law_543 ?_
        refine Y_aload_n (i := 0) hB dL_law_544 rfl rfl ?_
        refine Y_iload_n (i := 3) hB dL_law_545 rfl rfl ?_
        refine Y_iconst (v := 2) hB dL_law_546 (by decide) ?_
        refine Y_iadd hB dL_law_547 ?_
        refine Y_sld hB hXs hbl hbA (i + 2) (nI_add _ _) (by omega) hL dL_law_548 ?_
        refine Y_callV hB kL_65 cw10 hR.1.1 hR.1.2 hC1 (Nat.le_of_ble_eq_true rfl) (Nat.le_of_ble_eq_true rfl) hcs rfl rfl (Nat.le_of_ble_eq_true rfl) dL_law_549 (fun r2 S2 q2 => ?_)
        obtain ⟨rfl, hL2⟩ := q2
        refine Y_icmp_eq (tgt := 1259) hB dL_law_552 (by decide) (fun c552 => ?_) (fun c552 => absurd rfl c552)
        refine Y_iinc hB dL_law_1259 rfl rfl (by decide) rfl ?_
        refine Y_goto (tgt := 18) hB dL_law_1262 (by decide) ?_
        refine Y_lv ?_ (ih (i + 5) S2 (by omega) (by omega) hL2)
        rw [show i + 5 = i + 5 from rfl, ← nI_add]; rfl
      · refine Y_tableIn (tgt := 557) hB dL_law_32 (by decide) (by decide) (by rfl) (by decide) ?_
        refine Y_aload_n (i := 1) hB dL_law_557 rfl rfl ?_
        refine Y_aload_n (i := 0) hB dL_law_558 rfl rfl ?_
        refine Y_iload_n (i := 3) hB dL_law_559 rfl rfl ?_
        refine Y_iconst (v := 1) hB dL_law_560 (by decide) ?_
        refine Y_iadd hB dL_law_561 ?_
        refine Y_sld hB hXs hbl hbA (i + 1) (nI_add _ _) (by omega) hL dL_law_562 ?_
        refine Y_aload_n (i := 0) hB dL_law_563 rfl rfl ?_
        refine Y_iload_n (i := 3) hB dL_law_564 rfl rfl ?_
        refine Y_iconst (v := 2) hB dL_law_565 (by decide) ?_
        refine Y_iadd hB dL_law_566 ?_
        refine Y_sld hB hXs hbl hbA (i + 2) (nI_add _ _) (by omega) hL dL_law_567 ?_
        refine Y_aload_n (i := 0) hB dL_law_568 rfl rfl ?_
        refine Y_iload_n (i := 3) hB dL_law_569 rfl rfl ?_
        refine Y_iconst (v := 3) hB dL_law_570 (by decide) ?_
        refine Y_iadd hB dL_law_571 ?_
        refine Y_sld hB hXs hbl hbA (i + 3) (nI_add _ _) (by omega) hL dL_law_572 ?_
        refine Y_pair hB kL_66 cw9 hX.1.1 hX.1.2 (pr_way hX hR hh _ _ _) hLI (Nat.le_of_ble_eq_true rfl) (Nat.le_of_ble_eq_true rfl) hcs rfl rfl (Nat.le_of_ble_eq_true rfl) dL_law_573 (fun w1 S1 hC1 => ?_)
        refine Y_aload_n (i := 2) hB dL_law_576 rfl rfl ?_
        refine Y_aload_n (i := 0) hB dL_law_577 rfl rfl ?_
        refine Y_iload_n (i := 3) hB dL_law_578 rfl rfl ?_
        refine Y_iconst (v := 1) hB dL_law_579 (by decide) ?_
        refine Y_iadd hB dL_law_580 ?_
        refine Y_sld hB hXs hbl hbA (i + 1) (nI_add _ _) (by omega) hL dL_law_581 ?_
        refine Y_aload_n (i := 0) hB dL_law_582 rfl rfl ?_
        refine Y_iload_n (i := 3) hB dL_law_583 rfl rfl ?_
        refine Y_iconst (v := 2) hB dL_law_584 (by decide) ?_
        refine Y_iadd hB dL_law_585 ?_
        refine Y_sld hB hXs hbl hbA (i + 2) (nI_add _ _) (by omega) hL dL_law_586 ?_
        refine Y_aload_n (i := 0) hB dL_law_587 rfl rfl ?_
        refine Y_iload_n (i := 3) hB dL_law_588 rfl rfl ?_
        refine Y_iconst (v := 3) hB dL_law_589 (by decide) ?_
        refine Y_iadd hB dL_law_590 ?_
        refine Y_sld hB hXs hbl hbA (i + 3) (nI_add _ _) (by omega) hL dL_law_591 ?_
        refine Y_callV hB kL_69 cw10 hR.1.1 hR.1.2 hC1 (Nat.le_of_ble_eq_true rfl) (Nat.le_of_ble_eq_true rfl) hcs rfl rfl (Nat.le_of_ble_eq_true rfl) dL_law_592 (fun r2 S2 q2 => ?_)
        obtain ⟨rfl, hL2⟩ := q2
        refine Y_icmp_eq (tgt := 1259) hB dL_law_595 (by decide) (fun c595 => ?_) (fun c595 => absurd rfl c595)
        refine Y_iinc hB dL_law_1259 rfl rfl (by decide) rfl ?_
        refine Y_goto (tgt := 18) hB dL_law_1262 (by decide) ?_
        refine Y_lv ?_ (ih (i + 5) S2 (by omega) (by omega) hL2)
        rw [show i + 5 = i + 5 from rfl, ← nI_add]; rfl
      · refine Y_tableIn (tgt := 600) hB dL_law_32 (by decide) (by decide) (by rfl) (by decide) ?_
        refine Y_aload_n (i := 1) hB dL_law_600 rfl rfl ?_
        refine Y_aload_n (i := 0) hB dL_law_601 rfl rfl ?_
        refine Y_iload_n (i := 3) hB dL_law_602 rfl rfl ?_
        refine Y_iconst (v := 1) hB dL_law_603 (by decide) ?_
        refine Y_iadd hB dL_law_604 ?_
        refine Y_sld hB hXs hbl hbA (i + 1) (nI_add _ _) (by omega) hL dL_law_605 ?_
        refine Y_aload_n (i := 0) hB dL_law_606 rfl rfl ?_
        refine Y_iload_n (i := 3) hB dL_law_607 rfl rfl ?_
        refine Y_iconst (v := 2) hB dL_law_608 (by decide) ?_
        refine Y_iadd hB dL_law_609 ?_
        refine Y_sld hB hXs hbl hbA (i + 2) (nI_add _ _) (by omega) hL dL_law_610 ?_
        refine Y_pair hB kL_70 cw9 hX.1.1 hX.1.2 (pr_hops hX hR hh _ _) hLI (Nat.le_of_ble_eq_true rfl) (Nat.le_of_ble_eq_true rfl) hcs rfl rfl (Nat.le_of_ble_eq_true rfl) dL_law_611 (fun w1 S1 hC1 => ?_)
        refine Y_aload_n (i := 2) hB dL_law_614 rfl rfl ?_
        refine Y_aload_n (i := 0) hB dL_law_615 rfl rfl ?_
        refine Y_iload_n (i := 3) hB dL_law_616 rfl rfl ?_
        refine Y_iconst (v := 1) hB dL_law_617 (by decide) ?_
        refine Y_iadd hB dL_law_618 ?_
        refine Y_sld hB hXs hbl hbA (i + 1) (nI_add _ _) (by omega) hL dL_law_619 ?_
        refine Y_aload_n (i := 0) hB dL_law_620 rfl rfl ?_
        refine Y_iload_n (i := 3) hB dL_law_621 rfl rfl ?_
        refine Y_iconst (v := 2) hB dL_law_622 (by decide) ?_
        refine Y_iadd hB dL_law_623 ?_
        refine Y_sld hB hXs hbl hbA (i + 2) (nI_add _ _) (by omega) hL dL_law_624 ?_
        refine Y_callV hB kL_73 cw10 hR.1.1 hR.1.2 hC1 (Nat.le_of_ble_eq_true rfl) (Nat.le_of_ble_eq_true rfl) hcs rfl rfl (Nat.le_of_ble_eq_true rfl) dL_law_625 (fun r2 S2 q2 => ?_)
        obtain ⟨rfl, hL2⟩ := q2
        refine Y_icmp_eq (tgt := 1259) hB dL_law_628 (by decide) (fun c628 => ?_) (fun c628 => absurd rfl c628)
        refine Y_iinc hB dL_law_1259 rfl rfl (by decide) rfl ?_
        refine Y_goto (tgt := 18) hB dL_law_1262 (by decide) ?_
        refine Y_lv ?_ (ih (i + 5) S2 (by omega) (by omega) hL2)
        rw [show i + 5 = i + 5 from rfl, ← nI_add]; rfl
      · refine Y_tableIn (tgt := 633) hB dL_law_32 (by decide) (by decide) (by rfl) (by decide) ?_
        refine Y_aload_n (i := 1) hB dL_law_633 rfl rfl ?_
        refine Y_aload_n (i := 0) hB dL_law_634 rfl rfl ?_
        refine Y_iload_n (i := 3) hB dL_law_635 rfl rfl ?_
        refine Y_iconst (v := 1) hB dL_law_636 (by decide) ?_
        refine Y_iadd hB dL_law_637 ?_
        refine Y_sld hB hXs hbl hbA (i + 1) (nI_add _ _) (by omega) hL dL_law_638 ?_
        refine Y_aload_n (i := 0) hB dL_law_639 rfl rfl ?_
        refine Y_iload_n (i := 3) hB dL_law_640 rfl rfl ?_
        refine Y_iconst (v := 2) hB dL_law_641 (by decide) ?_
        refine Y_iadd hB dL_law_642 ?_
        refine Y_sld hB hXs hbl hbA (i + 2) (nI_add _ _) (by omega) hL dL_law_643 ?_
        refine Y_pair hB kL_74 cw9 hX.1.1 hX.1.2 (pr_data hX hR hh _ _) hLI (Nat.le_of_ble_eq_true rfl) (Nat.le_of_ble_eq_true rfl) hcs rfl rfl (Nat.le_of_ble_eq_true rfl) dL_law_644 (fun w1 S1 hC1 => ?_)
        refine Y_aload_n (i := 2) hB dL_law_647 rfl rfl ?_
        refine Y_aload_n (i := 0) hB dL_law_648 rfl rfl ?_
        refine Y_iload_n (i := 3) hB dL_law_649 rfl rfl ?_
        refine Y_iconst (v := 1) hB dL_law_650 (by decide) ?_
        refine Y_iadd hB dL_law_651 ?_
        refine Y_sld hB hXs hbl hbA (i + 1) (nI_add _ _) (by omega) hL dL_law_652 ?_
        refine Y_aload_n (i := 0) hB dL_law_653 rfl rfl ?_
        refine Y_iload_n (i := 3) hB dL_law_654 rfl rfl ?_
        refine Y_iconst (v := 2) hB dL_law_655 (by decide) ?_
        refine Y_iadd hB dL_law_656 ?_
        refine Y_sld hB hXs hbl hbA (i + 2) (nI_add _ _) (by omega) hL dL_law_657 ?_
        refine Y_callV hB kL_77 cw10 hR.1.1 hR.1.2 hC1 (Nat.le_of_ble_eq_true rfl) (Nat.le_of_ble_eq_true rfl) hcs rfl rfl (Nat.le_of_ble_eq_true rfl) dL_law_658 (fun r2 S2 q2 => ?_)
        obtain ⟨rfl, hL2⟩ := q2
        refine Y_icmp_eq (tgt := 1259) hB dL_law_661 (by decide) (fun c661 => ?_) (fun c661 => absurd rfl c661)
        refine Y_iinc hB dL_law_1259 rfl rfl (by decide) rfl ?_
        refine Y_goto (tgt := 18) hB dL_law_1262 (by decide) ?_
        refine Y_lv ?_ (ih (i + 5) S2 (by omega) (by omega) hL2)
        rw [show i + 5 = i + 5 from rfl, ← nI_add]; rfl
      · refine Y_tableIn (tgt := 666) hB dL_law_32 (by decide) (by decide) (by rfl) (by decide) ?_
        by_cases hzz : xs (i + 3) = 0
        · refine Y_aload_n (i := 1) hB dL_law_666 rfl rfl ?_
          refine Y_aload_n (i := 0) hB dL_law_667 rfl rfl ?_
          refine Y_iload_n (i := 3) hB dL_law_668 rfl rfl ?_
          refine Y_iconst (v := 1) hB dL_law_669 (by decide) ?_
          refine Y_iadd hB dL_law_670 ?_
          refine Y_sld hB hXs hbl hbA (i + 1) (nI_add _ _) (by omega) hL dL_law_671 ?_
          refine Y_aload_n (i := 0) hB dL_law_672 rfl rfl ?_
          refine Y_iload_n (i := 3) hB dL_law_673 rfl rfl ?_
          refine Y_iconst (v := 2) hB dL_law_674 (by decide) ?_
          refine Y_iadd hB dL_law_675 ?_
          refine Y_sld hB hXs hbl hbA (i + 2) (nI_add _ _) (by omega) hL dL_law_676 ?_
          refine Y_aload_n (i := 0) hB dL_law_677 rfl rfl ?_
          refine Y_iload_n (i := 3) hB dL_law_678 rfl rfl ?_
          refine Y_iconst (v := 3) hB dL_law_679 (by decide) ?_
          refine Y_iadd hB dL_law_680 ?_
          refine Y_sld hB hXs hbl hbA (i + 3) (nI_add _ _) (by omega) hL dL_law_681 ?_
          refine Y_if_eq (tgt := 689) hB dL_law_682 (by decide) (fun c682 => ?_) (fun c682 => absurd hzz c682)
          refine Y_iconst (v := 0) hB dL_law_689 (by decide) ?_
          refine Y_pair hB kL_78 cw9 hX.1.1 hX.1.2 (pr_trail hX hR hh _ _ false) hLI (Nat.le_of_ble_eq_true rfl) (Nat.le_of_ble_eq_true rfl) hcs rfl rfl (Nat.le_of_ble_eq_true rfl) dL_law_690 (fun w1 S1 hC1 => ?_)
          refine Y_aload_n (i := 2) hB dL_law_693 rfl rfl ?_
          refine Y_aload_n (i := 0) hB dL_law_694 rfl rfl ?_
          refine Y_iload_n (i := 3) hB dL_law_695 rfl rfl ?_
          refine Y_iconst (v := 1) hB dL_law_696 (by decide) ?_
          refine Y_iadd hB dL_law_697 ?_
          refine Y_sld hB hXs hbl hbA (i + 1) (nI_add _ _) (by omega) hL dL_law_698 ?_
          refine Y_aload_n (i := 0) hB dL_law_699 rfl rfl ?_
          refine Y_iload_n (i := 3) hB dL_law_700 rfl rfl ?_
          refine Y_iconst (v := 2) hB dL_law_701 (by decide) ?_
          refine Y_iadd hB dL_law_702 ?_
          refine Y_sld hB hXs hbl hbA (i + 2) (nI_add _ _) (by omega) hL dL_law_703 ?_
          refine Y_aload_n (i := 0) hB dL_law_704 rfl rfl ?_
          refine Y_iload_n (i := 3) hB dL_law_705 rfl rfl ?_
          refine Y_iconst (v := 3) hB dL_law_706 (by decide) ?_
          refine Y_iadd hB dL_law_707 ?_
          refine Y_sld hB hXs hbl hbA (i + 3) (nI_add _ _) (by omega) hL dL_law_708 ?_
          refine Y_if_eq (tgt := 716) hB dL_law_709 (by decide) (fun c709 => ?_) (fun c709 => absurd hzz c709)
          refine Y_iconst (v := 0) hB dL_law_716 (by decide) ?_
          refine Y_callV hB kL_82 cw10 hR.1.1 hR.1.2 hC1 (Nat.le_of_ble_eq_true rfl) (Nat.le_of_ble_eq_true rfl) hcs rfl rfl (Nat.le_of_ble_eq_true rfl) dL_law_717 (fun r2 S2 q2 => ?_)
          obtain ⟨rfl, hL2⟩ := q2
          refine Y_icmp_eq (tgt := 1259) hB dL_law_720 (by decide) (fun c720 => ?_) (fun c720 => absurd rfl c720)
          refine Y_iinc hB dL_law_1259 rfl rfl (by decide) rfl ?_
          refine Y_goto (tgt := 18) hB dL_law_1262 (by decide) ?_
          refine Y_lv ?_ (ih (i + 5) S2 (by omega) (by omega) hL2)
          rw [show i + 5 = i + 5 from rfl, ← nI_add]; rfl
        · refine Y_aload_n (i := 1) hB dL_law_666 rfl rfl ?_
          refine Y_aload_n (i := 0) hB dL_law_667 rfl rfl ?_
          refine Y_iload_n (i := 3) hB dL_law_668 rfl rfl ?_
          refine Y_iconst (v := 1) hB dL_law_669 (by decide) ?_
          refine Y_iadd hB dL_law_670 ?_
          refine Y_sld hB hXs hbl hbA (i + 1) (nI_add _ _) (by omega) hL dL_law_671 ?_
          refine Y_aload_n (i := 0) hB dL_law_672 rfl rfl ?_
          refine Y_iload_n (i := 3) hB dL_law_673 rfl rfl ?_
          refine Y_iconst (v := 2) hB dL_law_674 (by decide) ?_
          refine Y_iadd hB dL_law_675 ?_
          refine Y_sld hB hXs hbl hbA (i + 2) (nI_add _ _) (by omega) hL dL_law_676 ?_
          refine Y_aload_n (i := 0) hB dL_law_677 rfl rfl ?_
          refine Y_iload_n (i := 3) hB dL_law_678 rfl rfl ?_
          refine Y_iconst (v := 3) hB dL_law_679 (by decide) ?_
          refine Y_iadd hB dL_law_680 ?_
          refine Y_sld hB hXs hbl hbA (i + 3) (nI_add _ _) (by omega) hL dL_law_681 ?_
          refine Y_if_eq (tgt := 689) hB dL_law_682 (by decide) (fun c682 => absurd c682 hzz) (fun c682 => ?_)
          refine Y_iconst (v := 1) hB dL_law_685 (by decide) ?_
          refine Y_goto (tgt := 690) hB dL_law_686 (by decide) ?_
          refine Y_pair hB kL_78 cw9 hX.1.1 hX.1.2 (pr_trail hX hR hh _ _ true) hLI (Nat.le_of_ble_eq_true rfl) (Nat.le_of_ble_eq_true rfl) hcs rfl rfl (Nat.le_of_ble_eq_true rfl) dL_law_690 (fun w1 S1 hC1 => ?_)
          refine Y_aload_n (i := 2) hB dL_law_693 rfl rfl ?_
          refine Y_aload_n (i := 0) hB dL_law_694 rfl rfl ?_
          refine Y_iload_n (i := 3) hB dL_law_695 rfl rfl ?_
          refine Y_iconst (v := 1) hB dL_law_696 (by decide) ?_
          refine Y_iadd hB dL_law_697 ?_
          refine Y_sld hB hXs hbl hbA (i + 1) (nI_add _ _) (by omega) hL dL_law_698 ?_
          refine Y_aload_n (i := 0) hB dL_law_699 rfl rfl ?_
          refine Y_iload_n (i := 3) hB dL_law_700 rfl rfl ?_
          refine Y_iconst (v := 2) hB dL_law_701 (by decide) ?_
          refine Y_iadd hB dL_law_702 ?_
          refine Y_sld hB hXs hbl hbA (i + 2) (nI_add _ _) (by omega) hL dL_law_703 ?_
          refine Y_aload_n (i := 0) hB dL_law_704 rfl rfl ?_
          refine Y_iload_n (i := 3) hB dL_law_705 rfl rfl ?_
          refine Y_iconst (v := 3) hB dL_law_706 (by decide) ?_
          refine Y_iadd hB dL_law_707 ?_
          refine Y_sld hB hXs hbl hbA (i + 3) (nI_add _ _) (by omega) hL dL_law_708 ?_
          refine Y_if_eq (tgt := 716) hB dL_law_709 (by decide) (fun c709 => absurd c709 hzz) (fun c709 => ?_)
          refine Y_iconst (v := 1) hB dL_law_712 (by decide) ?_
          refine Y_goto (tgt := 717) hB dL_law_713 (by decide) ?_
          refine Y_callV hB kL_82 cw10 hR.1.1 hR.1.2 hC1 (Nat.le_of_ble_eq_true rfl) (Nat.le_of_ble_eq_true rfl) hcs rfl rfl (Nat.le_of_ble_eq_true rfl) dL_law_717 (fun r2 S2 q2 => ?_)
          obtain ⟨rfl, hL2⟩ := q2
          refine Y_icmp_eq (tgt := 1259) hB dL_law_720 (by decide) (fun c720 => ?_) (fun c720 => absurd rfl c720)
          refine Y_iinc hB dL_law_1259 rfl rfl (by decide) rfl ?_
          refine Y_goto (tgt := 18) hB dL_law_1262 (by decide) ?_
          refine Y_lv ?_ (ih (i + 5) S2 (by omega) (by omega) hL2)
          rw [show i + 5 = i + 5 from rfl, ← nI_add]; rfl
      · refine Y_tableIn (tgt := 725) hB dL_law_32 (by decide) (by decide) (by rfl) (by decide) ?_
        refine Y_aload_n (i := 1) hB dL_law_725 rfl rfl ?_
        refine Y_aload_n (i := 0) hB dL_law_726 rfl rfl ?_
        refine Y_iload_n (i := 3) hB dL_law_727 rfl rfl ?_
        refine Y_iconst (v := 1) hB dL_law_728 (by decide) ?_
        refine Y_iadd hB dL_law_729 ?_
        refine Y_sld hB hXs hbl hbA (i + 1) (nI_add _ _) (by omega) hL dL_law_730 ?_
        refine Y_aload_n (i := 0) hB dL_law_731 rfl rfl ?_
        refine Y_iload_n (i := 3) hB dL_law_732 rfl rfl ?_
        refine Y_iconst (v := 2) hB dL_law_733 (by decide) ?_
        refine Y_iadd hB dL_law_734 ?_
        refine Y_sld hB hXs hbl hbA (i + 2) (nI_add _ _) (by omega) hL dL_law_735 ?_
        refine Y_pair hB kL_83 cw9 hX.1.1 hX.1.2 (pr_air hX hR hh _ _) hLI (Nat.le_of_ble_eq_true rfl) (Nat.le_of_ble_eq_true rfl) hcs rfl rfl (Nat.le_of_ble_eq_true rfl) dL_law_736 (fun w1 S1 hC1 => ?_)
        refine Y_aload_n (i := 2) hB dL_law_739 rfl rfl ?_
        refine Y_aload_n (i := 0) hB dL_law_740 rfl rfl ?_
        refine Y_iload_n (i := 3) hB dL_law_741 rfl rfl ?_
        refine Y_iconst (v := 1) hB dL_law_742 (by decide) ?_
        refine Y_iadd hB dL_law_743 ?_
        refine Y_sld hB hXs hbl hbA (i + 1) (nI_add _ _) (by omega) hL dL_law_744 ?_
        refine Y_aload_n (i := 0) hB dL_law_745 rfl rfl ?_
        refine Y_iload_n (i := 3) hB dL_law_746 rfl rfl ?_
        refine Y_iconst (v := 2) hB dL_law_747 (by decide) ?_
        refine Y_iadd hB dL_law_748 ?_
        refine Y_sld hB hXs hbl hbA (i + 2) (nI_add _ _) (by omega) hL dL_law_749 ?_
        refine Y_callV hB kL_86 cw10 hR.1.1 hR.1.2 hC1 (Nat.le_of_ble_eq_true rfl) (Nat.le_of_ble_eq_true rfl) hcs rfl rfl (Nat.le_of_ble_eq_true rfl) dL_law_750 (fun r2 S2 q2 => ?_)
        obtain ⟨rfl, hL2⟩ := q2
        refine Y_icmp_eq (tgt := 1259) hB dL_law_753 (by decide) (fun c753 => ?_) (fun c753 => absurd rfl c753)
        refine Y_iinc hB dL_law_1259 rfl rfl (by decide) rfl ?_
        refine Y_goto (tgt := 18) hB dL_law_1262 (by decide) ?_
        refine Y_lv ?_ (ih (i + 5) S2 (by omega) (by omega) hL2)
        rw [show i + 5 = i + 5 from rfl, ← nI_add]; rfl
      · refine Y_tableIn (tgt := 758) hB dL_law_32 (by decide) (by decide) (by rfl) (by decide) ?_
        refine Y_aload_n (i := 1) hB dL_law_758 rfl rfl ?_
        refine Y_aload_n (i := 0) hB dL_law_759 rfl rfl ?_
        refine Y_iload_n (i := 3) hB dL_law_760 rfl rfl ?_
        refine Y_iconst (v := 1) hB dL_law_761 (by decide) ?_
        refine Y_iadd hB dL_law_762 ?_
        refine Y_sld hB hXs hbl hbA (i + 1) (nI_add _ _) (by omega) hL dL_law_763 ?_
        refine Y_aload_n (i := 0) hB dL_law_764 rfl rfl ?_
        refine Y_iload_n (i := 3) hB dL_law_765 rfl rfl ?_
        refine Y_iconst (v := 2) hB dL_law_766 (by decide) ?_
        refine Y_iadd hB dL_law_767 ?_
        refine Y_sld hB hXs hbl hbA (i + 2) (nI_add _ _) (by omega) hL dL_law_768 ?_
        refine Y_pair hB kL_87 cw9 hX.1.1 hX.1.2 (pr_row hX hR hh _ _) hLI (Nat.le_of_ble_eq_true rfl) (Nat.le_of_ble_eq_true rfl) hcs rfl rfl (Nat.le_of_ble_eq_true rfl) dL_law_769 (fun w1 S1 hC1 => ?_)
        refine Y_aload_n (i := 2) hB dL_law_772 rfl rfl ?_
        refine Y_aload_n (i := 0) hB dL_law_773 rfl rfl ?_
        refine Y_iload_n (i := 3) hB dL_law_774 rfl rfl ?_
        refine Y_iconst (v := 1) hB dL_law_775 (by decide) ?_
        refine Y_iadd hB dL_law_776 ?_
        refine Y_sld hB hXs hbl hbA (i + 1) (nI_add _ _) (by omega) hL dL_law_777 ?_
        refine Y_aload_n (i := 0) hB dL_law_778 rfl rfl ?_
        refine Y_iload_n (i := 3) hB dL_law_779 rfl rfl ?_
        refine Y_iconst (v := 2) hB dL_law_780 (by decide) ?_
        refine Y_iadd hB dL_law_781 ?_
        refine Y_sld hB hXs hbl hbA (i + 2) (nI_add _ _) (by omega) hL dL_law_782 ?_
        refine Y_callV hB kL_90 cw10 hR.1.1 hR.1.2 hC1 (Nat.le_of_ble_eq_true rfl) (Nat.le_of_ble_eq_true rfl) hcs rfl rfl (Nat.le_of_ble_eq_true rfl) dL_law_783 (fun r2 S2 q2 => ?_)
        obtain ⟨rfl, hL2⟩ := q2
        refine Y_icmp_eq (tgt := 1259) hB dL_law_786 (by decide) (fun c786 => ?_) (fun c786 => absurd rfl c786)
        refine Y_iinc hB dL_law_1259 rfl rfl (by decide) rfl ?_
        refine Y_goto (tgt := 18) hB dL_law_1262 (by decide) ?_
        refine Y_lv ?_ (ih (i + 5) S2 (by omega) (by omega) hL2)
        rw [show i + 5 = i + 5 from rfl, ← nI_add]; rfl
      · refine Y_tableIn (tgt := 791) hB dL_law_32 (by decide) (by decide) (by rfl) (by decide) ?_
        refine Y_aload_n (i := 1) hB dL_law_791 rfl rfl ?_
        refine Y_aload_n (i := 0) hB dL_law_792 rfl rfl ?_
        refine Y_iload_n (i := 3) hB dL_law_793 rfl rfl ?_
        refine Y_iconst (v := 1) hB dL_law_794 (by decide) ?_
        refine Y_iadd hB dL_law_795 ?_
        refine Y_sld hB hXs hbl hbA (i + 1) (nI_add _ _) (by omega) hL dL_law_796 ?_
        refine Y_pair hB kL_91 cw9 hX.1.1 hX.1.2 (pr_tally hX hR hh _) hLI (Nat.le_of_ble_eq_true rfl) (Nat.le_of_ble_eq_true rfl) hcs rfl rfl (Nat.le_of_ble_eq_true rfl) dL_law_797 (fun w1 S1 hC1 => ?_)
        refine Y_aload_n (i := 2) hB dL_law_800 rfl rfl ?_
        refine Y_aload_n (i := 0) hB dL_law_801 rfl rfl ?_
        refine Y_iload_n (i := 3) hB dL_law_802 rfl rfl ?_
        refine Y_iconst (v := 1) hB dL_law_803 (by decide) ?_
        refine Y_iadd hB dL_law_804 ?_
        refine Y_sld hB hXs hbl hbA (i + 1) (nI_add _ _) (by omega) hL dL_law_805 ?_
        refine Y_callV hB kL_94 cw10 hR.1.1 hR.1.2 hC1 (Nat.le_of_ble_eq_true rfl) (Nat.le_of_ble_eq_true rfl) hcs rfl rfl (Nat.le_of_ble_eq_true rfl) dL_law_806 (fun r2 S2 q2 => ?_)
        obtain ⟨rfl, hL2⟩ := q2
        refine Y_icmp_eq (tgt := 1259) hB dL_law_809 (by decide) (fun c809 => ?_) (fun c809 => absurd rfl c809)
        refine Y_iinc hB dL_law_1259 rfl rfl (by decide) rfl ?_
        refine Y_goto (tgt := 18) hB dL_law_1262 (by decide) ?_
        refine Y_lv ?_ (ih (i + 5) S2 (by omega) (by omega) hL2)
        rw [show i + 5 = i + 5 from rfl, ← nI_add]; rfl
      · refine Y_tableIn (tgt := 814) hB dL_law_32 (by decide) (by decide) (by rfl) (by decide) ?_
        refine Y_aload_n (i := 1) hB dL_law_814 rfl rfl ?_
        refine Y_aload_n (i := 0) hB dL_law_815 rfl rfl ?_
        refine Y_iload_n (i := 3) hB dL_law_816 rfl rfl ?_
        refine Y_iconst (v := 1) hB dL_law_817 (by decide) ?_
        refine Y_iadd hB dL_law_818 ?_
        refine Y_sld hB hXs hbl hbA (i + 1) (nI_add _ _) (by omega) hL dL_law_819 ?_
        refine Y_aload_n (i := 0) hB dL_law_820 rfl rfl ?_
        refine Y_iload_n (i := 3) hB dL_law_821 rfl rfl ?_
        refine Y_iconst (v := 2) hB dL_law_822 (by decide) ?_
        refine Y_iadd hB dL_law_823 ?_
        refine Y_sld hB hXs hbl hbA (i + 2) (nI_add _ _) (by omega) hL dL_law_824 ?_
        refine Y_pair hB kL_95 cw9 hX.1.1 hX.1.2 (pr_far hX hR hh _ _) hLI (Nat.le_of_ble_eq_true rfl) (Nat.le_of_ble_eq_true rfl) hcs rfl rfl (Nat.le_of_ble_eq_true rfl) dL_law_825 (fun w1 S1 hC1 => ?_)
        refine Y_aload_n (i := 2) hB dL_law_828 rfl rfl ?_
        refine Y_aload_n (i := 0) hB dL_law_829 rfl rfl ?_
        refine Y_iload_n (i := 3) hB dL_law_830 rfl rfl ?_
        refine Y_iconst (v := 1) hB dL_law_831 (by decide) ?_
        refine Y_iadd hB dL_law_832 ?_
        refine Y_sld hB hXs hbl hbA (i + 1) (nI_add _ _) (by omega) hL dL_law_833 ?_
        refine Y_aload_n (i := 0) hB dL_law_834 rfl rfl ?_
        refine Y_iload_n (i := 3) hB dL_law_835 rfl rfl ?_
        refine Y_iconst (v := 2) hB dL_law_836 (by decide) ?_
        refine Y_iadd hB dL_law_837 ?_
        refine Y_sld hB hXs hbl hbA (i + 2) (nI_add _ _) (by omega) hL dL_law_838 ?_
        refine Y_callV hB kL_98 cw10 hR.1.1 hR.1.2 hC1 (Nat.le_of_ble_eq_true rfl) (Nat.le_of_ble_eq_true rfl) hcs rfl rfl (Nat.le_of_ble_eq_true rfl) dL_law_839 (fun r2 S2 q2 => ?_)
        obtain ⟨rfl, hL2⟩ := q2
        refine Y_icmp_eq (tgt := 1259) hB dL_law_842 (by decide) (fun c842 => ?_) (fun c842 => absurd rfl c842)
        refine Y_iinc hB dL_law_1259 rfl rfl (by decide) rfl ?_
        refine Y_goto (tgt := 18) hB dL_law_1262 (by decide) ?_
        refine Y_lv ?_ (ih (i + 5) S2 (by omega) (by omega) hL2)
        rw [show i + 5 = i + 5 from rfl, ← nI_add]; rfl
      · refine Y_tableIn (tgt := 847) hB dL_law_32 (by decide) (by decide) (by rfl) (by decide) ?_
        refine Y_aload_n (i := 1) hB dL_law_847 rfl rfl ?_
        refine Y_aload_n (i := 0) hB dL_law_848 rfl rfl ?_
        refine Y_iload_n (i := 3) hB dL_law_849 rfl rfl ?_
        refine Y_iconst (v := 1) hB dL_law_850 (by decide) ?_
        refine Y_iadd hB dL_law_851 ?_
        refine Y_sld hB hXs hbl hbA (i + 1) (nI_add _ _) (by omega) hL dL_law_852 ?_
        refine Y_aload_n (i := 0) hB dL_law_853 rfl rfl ?_
        refine Y_iload_n (i := 3) hB dL_law_854 rfl rfl ?_
        refine Y_iconst (v := 2) hB dL_law_855 (by decide) ?_
        refine Y_iadd hB dL_law_856 ?_
        refine Y_sld hB hXs hbl hbA (i + 2) (nI_add _ _) (by omega) hL dL_law_857 ?_
        refine Y_pair hB kL_99 cw9 hX.1.1 hX.1.2 (pr_holders hX hR hh _ _) hLI (Nat.le_of_ble_eq_true rfl) (Nat.le_of_ble_eq_true rfl) hcs rfl rfl (Nat.le_of_ble_eq_true rfl) dL_law_858 (fun w1 S1 hC1 => ?_)
        refine Y_aload_n (i := 2) hB dL_law_861 rfl rfl ?_
        refine Y_aload_n (i := 0) hB dL_law_862 rfl rfl ?_
        refine Y_iload_n (i := 3) hB dL_law_863 rfl rfl ?_
        refine Y_iconst (v := 1) hB dL_law_864 (by decide) ?_
        refine Y_iadd hB dL_law_865 ?_
        refine Y_sld hB hXs hbl hbA (i + 1) (nI_add _ _) (by omega) hL dL_law_866 ?_
        refine Y_aload_n (i := 0) hB dL_law_867 rfl rfl ?_
        refine Y_iload_n (i := 3) hB dL_law_868 rfl rfl ?_
        refine Y_iconst (v := 2) hB dL_law_869 (by decide) ?_
        refine Y_iadd hB dL_law_870 ?_
        refine Y_sld hB hXs hbl hbA (i + 2) (nI_add _ _) (by omega) hL dL_law_871 ?_
        refine Y_callV hB kL_102 cw10 hR.1.1 hR.1.2 hC1 (Nat.le_of_ble_eq_true rfl) (Nat.le_of_ble_eq_true rfl) hcs rfl rfl (Nat.le_of_ble_eq_true rfl) dL_law_872 (fun r2 S2 q2 => ?_)
        obtain ⟨rfl, hL2⟩ := q2
        refine Y_icmp_eq (tgt := 1259) hB dL_law_875 (by decide) (fun c875 => ?_) (fun c875 => absurd rfl c875)
        refine Y_iinc hB dL_law_1259 rfl rfl (by decide) rfl ?_
        refine Y_goto (tgt := 18) hB dL_law_1262 (by decide) ?_
        refine Y_lv ?_ (ih (i + 5) S2 (by omega) (by omega) hL2)
        rw [show i + 5 = i + 5 from rfl, ← nI_add]; rfl
      · refine Y_tableIn (tgt := 880) hB dL_law_32 (by decide) (by decide) (by rfl) (by decide) ?_
        refine Y_aload_n (i := 1) hB dL_law_880 rfl rfl ?_
        refine Y_aload_n (i := 0) hB dL_law_881 rfl rfl ?_
        refine Y_iload_n (i := 3) hB dL_law_882 rfl rfl ?_
        refine Y_iconst (v := 1) hB dL_law_883 (by decide) ?_
        refine Y_iadd hB dL_law_884 ?_
        refine Y_sld hB hXs hbl hbA (i + 1) (nI_add _ _) (by omega) hL dL_law_885 ?_
        refine Y_pair hB kL_103 cw9 hX.1.1 hX.1.2 (pr_stale hX hR hh _) hLI (Nat.le_of_ble_eq_true rfl) (Nat.le_of_ble_eq_true rfl) hcs rfl rfl (Nat.le_of_ble_eq_true rfl) dL_law_886 (fun w1 S1 hC1 => ?_)
        refine Y_aload_n (i := 2) hB dL_law_889 rfl rfl ?_
        refine Y_aload_n (i := 0) hB dL_law_890 rfl rfl ?_
        refine Y_iload_n (i := 3) hB dL_law_891 rfl rfl ?_
        refine Y_iconst (v := 1) hB dL_law_892 (by decide) ?_
        refine Y_iadd hB dL_law_893 ?_
        refine Y_sld hB hXs hbl hbA (i + 1) (nI_add _ _) (by omega) hL dL_law_894 ?_
        refine Y_callV hB kL_106 cw10 hR.1.1 hR.1.2 hC1 (Nat.le_of_ble_eq_true rfl) (Nat.le_of_ble_eq_true rfl) hcs rfl rfl (Nat.le_of_ble_eq_true rfl) dL_law_895 (fun r2 S2 q2 => ?_)
        obtain ⟨rfl, hL2⟩ := q2
        refine Y_icmp_eq (tgt := 1259) hB dL_law_898 (by decide) (fun c898 => ?_) (fun c898 => absurd rfl c898)
        refine Y_iinc hB dL_law_1259 rfl rfl (by decide) rfl ?_
        refine Y_goto (tgt := 18) hB dL_law_1262 (by decide) ?_
        refine Y_lv ?_ (ih (i + 5) S2 (by omega) (by omega) hL2)
        rw [show i + 5 = i + 5 from rfl, ← nI_add]; rfl
      · refine Y_tableIn (tgt := 903) hB dL_law_32 (by decide) (by decide) (by rfl) (by decide) ?_
        refine Y_aload_n (i := 1) hB dL_law_903 rfl rfl ?_
        refine Y_aload_n (i := 0) hB dL_law_904 rfl rfl ?_
        refine Y_iload_n (i := 3) hB dL_law_905 rfl rfl ?_
        refine Y_iconst (v := 1) hB dL_law_906 (by decide) ?_
        refine Y_iadd hB dL_law_907 ?_
        refine Y_sld hB hXs hbl hbA (i + 1) (nI_add _ _) (by omega) hL dL_law_908 ?_
        refine Y_aload_n (i := 0) hB dL_law_909 rfl rfl ?_
        refine Y_iload_n (i := 3) hB dL_law_910 rfl rfl ?_
        refine Y_iconst (v := 2) hB dL_law_911 (by decide) ?_
        refine Y_iadd hB dL_law_912 ?_
        refine Y_sld hB hXs hbl hbA (i + 2) (nI_add _ _) (by omega) hL dL_law_913 ?_
        refine Y_pair hB kL_107 cw9 hX.1.1 hX.1.2 (pr_sound hX hR hh _ _) hLI (Nat.le_of_ble_eq_true rfl) (Nat.le_of_ble_eq_true rfl) hcs rfl rfl (Nat.le_of_ble_eq_true rfl) dL_law_914 (fun w1 S1 hC1 => ?_)
        refine Y_aload_n (i := 2) hB dL_law_917 rfl rfl ?_
        refine Y_aload_n (i := 0) hB dL_law_918 rfl rfl ?_
        refine Y_iload_n (i := 3) hB dL_law_919 rfl rfl ?_
        refine Y_iconst (v := 1) hB dL_law_920 (by decide) ?_
        refine Y_iadd hB dL_law_921 ?_
        refine Y_sld hB hXs hbl hbA (i + 1) (nI_add _ _) (by omega) hL dL_law_922 ?_
        refine Y_aload_n (i := 0) hB dL_law_923 rfl rfl ?_
        refine Y_iload_n (i := 3) hB dL_law_924 rfl rfl ?_
        refine Y_iconst (v := 2) hB dL_law_925 (by decide) ?_
        refine Y_iadd hB dL_law_926 ?_
        refine Y_sld hB hXs hbl hbA (i + 2) (nI_add _ _) (by omega) hL dL_law_927 ?_
        refine Y_callV hB kL_111 cw10 hR.1.1 hR.1.2 hC1 (Nat.le_of_ble_eq_true rfl) (Nat.le_of_ble_eq_true rfl) hcs rfl rfl (Nat.le_of_ble_eq_true rfl) dL_law_928 (fun r2 S2 q2 => ?_)
        obtain ⟨rfl, hL2⟩ := q2
        refine Y_icmp_eq (tgt := 1259) hB dL_law_931 (by decide) (fun c931 => ?_) (fun c931 => absurd rfl c931)
        refine Y_iinc hB dL_law_1259 rfl rfl (by decide) rfl ?_
        refine Y_goto (tgt := 18) hB dL_law_1262 (by decide) ?_
        refine Y_lv ?_ (ih (i + 5) S2 (by omega) (by omega) hL2)
        rw [show i + 5 = i + 5 from rfl, ← nI_add]; rfl
      · refine Y_tableIn (tgt := 936) hB dL_law_32 (by decide) (by decide) (by rfl) (by decide) ?_
        refine Y_aload_n (i := 1) hB dL_law_936 rfl rfl ?_
        refine Y_aload_n (i := 0) hB dL_law_937 rfl rfl ?_
        refine Y_iload_n (i := 3) hB dL_law_938 rfl rfl ?_
        refine Y_iconst (v := 1) hB dL_law_939 (by decide) ?_
        refine Y_iadd hB dL_law_940 ?_
        refine Y_sld hB hXs hbl hbA (i + 1) (nI_add _ _) (by omega) hL dL_law_941 ?_
        refine Y_aload_n (i := 0) hB dL_law_942 rfl rfl ?_
        refine Y_iload_n (i := 3) hB dL_law_943 rfl rfl ?_
        refine Y_iconst (v := 2) hB dL_law_944 (by decide) ?_
        refine Y_iadd hB dL_law_945 ?_
        refine Y_sld hB hXs hbl hbA (i + 2) (nI_add _ _) (by omega) hL dL_law_946 ?_
        refine Y_pair hB kL_112 cw9 hX.1.1 hX.1.2 (pr_mapped hX hR hh _ _) hLI (Nat.le_of_ble_eq_true rfl) (Nat.le_of_ble_eq_true rfl) hcs rfl rfl (Nat.le_of_ble_eq_true rfl) dL_law_947 (fun w1 S1 hC1 => ?_)
        refine Y_aload_n (i := 2) hB dL_law_950 rfl rfl ?_
        refine Y_aload_n (i := 0) hB dL_law_951 rfl rfl ?_
        refine Y_iload_n (i := 3) hB dL_law_952 rfl rfl ?_
        refine Y_iconst (v := 1) hB dL_law_953 (by decide) ?_
        refine Y_iadd hB dL_law_954 ?_
        refine Y_sld hB hXs hbl hbA (i + 1) (nI_add _ _) (by omega) hL dL_law_955 ?_
        refine Y_aload_n (i := 0) hB dL_law_956 rfl rfl ?_
        refine Y_iload_n (i := 3) hB dL_law_957 rfl rfl ?_
        refine Y_iconst (v := 2) hB dL_law_958 (by decide) ?_
        refine Y_iadd hB dL_law_959 ?_
        refine Y_sld hB hXs hbl hbA (i + 2) (nI_add _ _) (by omega) hL dL_law_960 ?_
        refine Y_callV hB kL_115 cw10 hR.1.1 hR.1.2 hC1 (Nat.le_of_ble_eq_true rfl) (Nat.le_of_ble_eq_true rfl) hcs rfl rfl (Nat.le_of_ble_eq_true rfl) dL_law_961 (fun r2 S2 q2 => ?_)
        obtain ⟨rfl, hL2⟩ := q2
        refine Y_icmp_eq (tgt := 1259) hB dL_law_964 (by decide) (fun c964 => ?_) (fun c964 => absurd rfl c964)
        refine Y_iinc hB dL_law_1259 rfl rfl (by decide) rfl ?_
        refine Y_goto (tgt := 18) hB dL_law_1262 (by decide) ?_
        refine Y_lv ?_ (ih (i + 5) S2 (by omega) (by omega) hL2)
        rw [show i + 5 = i + 5 from rfl, ← nI_add]; rfl
      · refine Y_tableIn (tgt := 969) hB dL_law_32 (by decide) (by decide) (by rfl) (by decide) ?_
        refine Y_aload_n (i := 1) hB dL_law_969 rfl rfl ?_
        refine Y_aload_n (i := 0) hB dL_law_970 rfl rfl ?_
        refine Y_iload_n (i := 3) hB dL_law_971 rfl rfl ?_
        refine Y_iconst (v := 1) hB dL_law_972 (by decide) ?_
        refine Y_iadd hB dL_law_973 ?_
        refine Y_sld hB hXs hbl hbA (i + 1) (nI_add _ _) (by omega) hL dL_law_974 ?_
        refine Y_aload_n (i := 0) hB dL_law_975 rfl rfl ?_
        refine Y_iload_n (i := 3) hB dL_law_976 rfl rfl ?_
        refine Y_iconst (v := 2) hB dL_law_977 (by decide) ?_
        refine Y_iadd hB dL_law_978 ?_
        refine Y_sld hB hXs hbl hbA (i + 2) (nI_add _ _) (by omega) hL dL_law_979 ?_
        refine Y_pair hB kL_116 cw9 hX.1.1 hX.1.2 (pr_bridges hX hR hh _ _) hLI (Nat.le_of_ble_eq_true rfl) (Nat.le_of_ble_eq_true rfl) hcs rfl rfl (Nat.le_of_ble_eq_true rfl) dL_law_980 (fun w1 S1 hC1 => ?_)
        refine Y_aload_n (i := 2) hB dL_law_983 rfl rfl ?_
        refine Y_aload_n (i := 0) hB dL_law_984 rfl rfl ?_
        refine Y_iload_n (i := 3) hB dL_law_985 rfl rfl ?_
        refine Y_iconst (v := 1) hB dL_law_986 (by decide) ?_
        refine Y_iadd hB dL_law_987 ?_
        refine Y_sld hB hXs hbl hbA (i + 1) (nI_add _ _) (by omega) hL dL_law_988 ?_
        refine Y_aload_n (i := 0) hB dL_law_989 rfl rfl ?_
        refine Y_iload_n (i := 3) hB dL_law_990 rfl rfl ?_
        refine Y_iconst (v := 2) hB dL_law_991 (by decide) ?_
        refine Y_iadd hB dL_law_992 ?_
        refine Y_sld hB hXs hbl hbA (i + 2) (nI_add _ _) (by omega) hL dL_law_993 ?_
        refine Y_callV hB kL_119 cw10 hR.1.1 hR.1.2 hC1 (Nat.le_of_ble_eq_true rfl) (Nat.le_of_ble_eq_true rfl) hcs rfl rfl (Nat.le_of_ble_eq_true rfl) dL_law_994 (fun r2 S2 q2 => ?_)
        obtain ⟨rfl, hL2⟩ := q2
        refine Y_icmp_eq (tgt := 1259) hB dL_law_997 (by decide) (fun c997 => ?_) (fun c997 => absurd rfl c997)
        refine Y_iinc hB dL_law_1259 rfl rfl (by decide) rfl ?_
        refine Y_goto (tgt := 18) hB dL_law_1262 (by decide) ?_
        refine Y_lv ?_ (ih (i + 5) S2 (by omega) (by omega) hL2)
        rw [show i + 5 = i + 5 from rfl, ← nI_add]; rfl
      · refine Y_tableIn (tgt := 1002) hB dL_law_32 (by decide) (by decide) (by rfl) (by decide) ?_
        refine Y_aload_n (i := 1) hB dL_law_1002 rfl rfl ?_
        refine Y_aload_n (i := 0) hB dL_law_1003 rfl rfl ?_
        refine Y_iload_n (i := 3) hB dL_law_1004 rfl rfl ?_
        refine Y_iconst (v := 1) hB dL_law_1005 (by decide) ?_
        refine Y_iadd hB dL_law_1006 ?_
        refine Y_sld hB hXs hbl hbA (i + 1) (nI_add _ _) (by omega) hL dL_law_1007 ?_
        refine Y_aload_n (i := 0) hB dL_law_1008 rfl rfl ?_
        refine Y_iload_n (i := 3) hB dL_law_1009 rfl rfl ?_
        refine Y_iconst (v := 2) hB dL_law_1010 (by decide) ?_
        refine Y_iadd hB dL_law_1011 ?_
        refine Y_sld hB hXs hbl hbA (i + 2) (nI_add _ _) (by omega) hL dL_law_1012 ?_
        refine Y_pair hB kL_120 cw9 hX.1.1 hX.1.2 (pr_ahead hX hR hh _ _) hLI (Nat.le_of_ble_eq_true rfl) (Nat.le_of_ble_eq_true rfl) hcs rfl rfl (Nat.le_of_ble_eq_true rfl) dL_law_1013 (fun w1 S1 hC1 => ?_)
        refine Y_aload_n (i := 2) hB dL_law_1016 rfl rfl ?_
        refine Y_aload_n (i := 0) hB dL_law_1017 rfl rfl ?_
        refine Y_iload_n (i := 3) hB dL_law_1018 rfl rfl ?_
        refine Y_iconst (v := 1) hB dL_law_1019 (by decide) ?_
        refine Y_iadd hB dL_law_1020 ?_
        refine Y_sld hB hXs hbl hbA (i + 1) (nI_add _ _) (by omega) hL dL_law_1021 ?_
        refine Y_aload_n (i := 0) hB dL_law_1022 rfl rfl ?_
        refine Y_iload_n (i := 3) hB dL_law_1023 rfl rfl ?_
        refine Y_iconst (v := 2) hB dL_law_1024 (by decide) ?_
        refine Y_iadd hB dL_law_1025 ?_
        refine Y_sld hB hXs hbl hbA (i + 2) (nI_add _ _) (by omega) hL dL_law_1026 ?_
        refine Y_callV hB kL_123 cw10 hR.1.1 hR.1.2 hC1 (Nat.le_of_ble_eq_true rfl) (Nat.le_of_ble_eq_true rfl) hcs rfl rfl (Nat.le_of_ble_eq_true rfl) dL_law_1027 (fun r2 S2 q2 => ?_)
        obtain ⟨rfl, hL2⟩ := q2
        refine Y_icmp_eq (tgt := 1259) hB dL_law_1030 (by decide) (fun c1030 => ?_) (fun c1030 => absurd rfl c1030)
        refine Y_iinc hB dL_law_1259 rfl rfl (by decide) rfl ?_
        refine Y_goto (tgt := 18) hB dL_law_1262 (by decide) ?_
        refine Y_lv ?_ (ih (i + 5) S2 (by omega) (by omega) hL2)
        rw [show i + 5 = i + 5 from rfl, ← nI_add]; rfl
      · refine Y_tableIn (tgt := 1035) hB dL_law_32 (by decide) (by decide) (by rfl) (by decide) ?_
        refine Y_aload_n (i := 1) hB dL_law_1035 rfl rfl ?_
        refine Y_aload_n (i := 0) hB dL_law_1036 rfl rfl ?_
        refine Y_iload_n (i := 3) hB dL_law_1037 rfl rfl ?_
        refine Y_iconst (v := 1) hB dL_law_1038 (by decide) ?_
        refine Y_iadd hB dL_law_1039 ?_
        refine Y_sld hB hXs hbl hbA (i + 1) (nI_add _ _) (by omega) hL dL_law_1040 ?_
        refine Y_aload_n (i := 0) hB dL_law_1041 rfl rfl ?_
        refine Y_iload_n (i := 3) hB dL_law_1042 rfl rfl ?_
        refine Y_iconst (v := 2) hB dL_law_1043 (by decide) ?_
        refine Y_iadd hB dL_law_1044 ?_
        refine Y_sld hB hXs hbl hbA (i + 2) (nI_add _ _) (by omega) hL dL_law_1045 ?_
        refine Y_aload_n (i := 0) hB dL_law_1046 rfl rfl ?_
        refine Y_iload_n (i := 3) hB dL_law_1047 rfl rfl ?_
        refine Y_iconst (v := 3) hB dL_law_1048 (by decide) ?_
        refine Y_iadd hB dL_law_1049 ?_
        refine Y_sld hB hXs hbl hbA (i + 3) (nI_add _ _) (by omega) hL dL_law_1050 ?_
        refine Y_aload_n (i := 0) hB dL_law_1051 rfl rfl ?_
        refine Y_iload_n (i := 3) hB dL_law_1052 rfl rfl ?_
        refine Y_iconst (v := 4) hB dL_law_1053 (by decide) ?_
        refine Y_iadd hB dL_law_1054 ?_
        refine Y_sld hB hXs hbl hbA (i + 4) (nI_add _ _) (by omega) hL dL_law_1055 ?_
        refine Y_pair hB kL_124 cw9 hX.1.1 hX.1.2 (pr_turned hX hR hh _ _ _ _) hLI (Nat.le_of_ble_eq_true rfl) (Nat.le_of_ble_eq_true rfl) hcs rfl rfl (Nat.le_of_ble_eq_true rfl) dL_law_1056 (fun w1 S1 hC1 => ?_)
        refine Y_aload_n (i := 2) hB dL_law_1059 rfl rfl ?_
        refine Y_aload_n (i := 0) hB dL_law_1060 rfl rfl ?_
        refine Y_iload_n (i := 3) hB dL_law_1061 rfl rfl ?_
        refine Y_iconst (v := 1) hB dL_law_1062 (by decide) ?_
        refine Y_iadd hB dL_law_1063 ?_
        refine Y_sld hB hXs hbl hbA (i + 1) (nI_add _ _) (by omega) hL dL_law_1064 ?_
        refine Y_aload_n (i := 0) hB dL_law_1065 rfl rfl ?_
        refine Y_iload_n (i := 3) hB dL_law_1066 rfl rfl ?_
        refine Y_iconst (v := 2) hB dL_law_1067 (by decide) ?_
        refine Y_iadd hB dL_law_1068 ?_
        refine Y_sld hB hXs hbl hbA (i + 2) (nI_add _ _) (by omega) hL dL_law_1069 ?_
        refine Y_aload_n (i := 0) hB dL_law_1070 rfl rfl ?_
        refine Y_iload_n (i := 3) hB dL_law_1071 rfl rfl ?_
        refine Y_iconst (v := 3) hB dL_law_1072 (by decide) ?_
        refine Y_iadd hB dL_law_1073 ?_
        refine Y_sld hB hXs hbl hbA (i + 3) (nI_add _ _) (by omega) hL dL_law_1074 ?_
        refine Y_aload_n (i := 0) hB dL_law_1075 rfl rfl ?_
        refine Y_iload_n (i := 3) hB dL_law_1076 rfl rfl ?_
        refine Y_iconst (v := 4) hB dL_law_1077 (by decide) ?_
        refine Y_iadd hB dL_law_1078 ?_
        refine Y_sld hB hXs hbl hbA (i + 4) (nI_add _ _) (by omega) hL dL_law_1079 ?_
        refine Y_callV hB kL_128 cw10 hR.1.1 hR.1.2 hC1 (Nat.le_of_ble_eq_true rfl) (Nat.le_of_ble_eq_true rfl) hcs rfl rfl (Nat.le_of_ble_eq_true rfl) dL_law_1080 (fun r2 S2 q2 => ?_)
        obtain ⟨rfl, hL2⟩ := q2
        refine Y_icmp_eq (tgt := 1259) hB dL_law_1083 (by decide) (fun c1083 => ?_) (fun c1083 => absurd rfl c1083)
        refine Y_iinc hB dL_law_1259 rfl rfl (by decide) rfl ?_
        refine Y_goto (tgt := 18) hB dL_law_1262 (by decide) ?_
        refine Y_lv ?_ (ih (i + 5) S2 (by omega) (by omega) hL2)
        rw [show i + 5 = i + 5 from rfl, ← nI_add]; rfl
      · refine Y_tableIn (tgt := 1088) hB dL_law_32 (by decide) (by decide) (by rfl) (by decide) ?_
        refine Y_aload_n (i := 1) hB dL_law_1088 rfl rfl ?_
        refine Y_aload_n (i := 0) hB dL_law_1089 rfl rfl ?_
        refine Y_iload_n (i := 3) hB dL_law_1090 rfl rfl ?_
        refine Y_iconst (v := 1) hB dL_law_1091 (by decide) ?_
        refine Y_iadd hB dL_law_1092 ?_
        refine Y_sld hB hXs hbl hbA (i + 1) (nI_add _ _) (by omega) hL dL_law_1093 ?_
        refine Y_aload_n (i := 0) hB dL_law_1094 rfl rfl ?_
        refine Y_iload_n (i := 3) hB dL_law_1095 rfl rfl ?_
        refine Y_iconst (v := 2) hB dL_law_1096 (by decide) ?_
        refine Y_iadd hB dL_law_1097 ?_
        refine Y_sld hB hXs hbl hbA (i + 2) (nI_add _ _) (by omega) hL dL_law_1098 ?_
        refine Y_aload_n (i := 0) hB dL_law_1099 rfl rfl ?_
        refine Y_iload_n (i := 3) hB dL_law_1100 rfl rfl ?_
        refine Y_iconst (v := 3) hB dL_law_1101 (by decide) ?_
        refine Y_iadd hB dL_law_1102 ?_
        refine Y_sld hB hXs hbl hbA (i + 3) (nI_add _ _) (by omega) hL dL_law_1103 ?_
        refine Y_aload_n (i := 0) hB dL_law_1104 rfl rfl ?_
        refine Y_iload_n (i := 3) hB dL_law_1105 rfl rfl ?_
        refine Y_iconst (v := 4) hB dL_law_1106 (by decide) ?_
        refine Y_iadd hB dL_law_1107 ?_
        refine Y_sld hB hXs hbl hbA (i + 4) (nI_add _ _) (by omega) hL dL_law_1108 ?_
        refine Y_pair hB kL_129 cw9 hX.1.1 hX.1.2 (pr_sent hX hR hh _ _ _ _) hLI (Nat.le_of_ble_eq_true rfl) (Nat.le_of_ble_eq_true rfl) hcs rfl rfl (Nat.le_of_ble_eq_true rfl) dL_law_1109 (fun w1 S1 hC1 => ?_)
        refine Y_aload_n (i := 2) hB dL_law_1112 rfl rfl ?_
        refine Y_aload_n (i := 0) hB dL_law_1113 rfl rfl ?_
        refine Y_iload_n (i := 3) hB dL_law_1114 rfl rfl ?_
        refine Y_iconst (v := 1) hB dL_law_1115 (by decide) ?_
        refine Y_iadd hB dL_law_1116 ?_
        refine Y_sld hB hXs hbl hbA (i + 1) (nI_add _ _) (by omega) hL dL_law_1117 ?_
        refine Y_aload_n (i := 0) hB dL_law_1118 rfl rfl ?_
        refine Y_iload_n (i := 3) hB dL_law_1119 rfl rfl ?_
        refine Y_iconst (v := 2) hB dL_law_1120 (by decide) ?_
        refine Y_iadd hB dL_law_1121 ?_
        refine Y_sld hB hXs hbl hbA (i + 2) (nI_add _ _) (by omega) hL dL_law_1122 ?_
        refine Y_aload_n (i := 0) hB dL_law_1123 rfl rfl ?_
        refine Y_iload_n (i := 3) hB dL_law_1124 rfl rfl ?_
        refine Y_iconst (v := 3) hB dL_law_1125 (by decide) ?_
        refine Y_iadd hB dL_law_1126 ?_
        refine Y_sld hB hXs hbl hbA (i + 3) (nI_add _ _) (by omega) hL dL_law_1127 ?_
        refine Y_aload_n (i := 0) hB dL_law_1128 rfl rfl ?_
        refine Y_iload_n (i := 3) hB dL_law_1129 rfl rfl ?_
        refine Y_iconst (v := 4) hB dL_law_1130 (by decide) ?_
        refine Y_iadd hB dL_law_1131 ?_
        refine Y_sld hB hXs hbl hbA (i + 4) (nI_add _ _) (by omega) hL dL_law_1132 ?_
        refine Y_callV hB kL_132 cw10 hR.1.1 hR.1.2 hC1 (Nat.le_of_ble_eq_true rfl) (Nat.le_of_ble_eq_true rfl) hcs rfl rfl (Nat.le_of_ble_eq_true rfl) dL_law_1133 (fun r2 S2 q2 => ?_)
        obtain ⟨rfl, hL2⟩ := q2
        refine Y_icmp_eq (tgt := 1259) hB dL_law_1136 (by decide) (fun c1136 => ?_) (fun c1136 => absurd rfl c1136)
        refine Y_iinc hB dL_law_1259 rfl rfl (by decide) rfl ?_
        refine Y_goto (tgt := 18) hB dL_law_1262 (by decide) ?_
        refine Y_lv ?_ (ih (i + 5) S2 (by omega) (by omega) hL2)
        rw [show i + 5 = i + 5 from rfl, ← nI_add]; rfl
      · refine Y_tableIn (tgt := 1141) hB dL_law_32 (by decide) (by decide) (by rfl) (by decide) ?_
        by_cases hzz : xs (i + 3) = 0
        · refine Y_aload_n (i := 1) hB dL_law_1141 rfl rfl ?_
          refine Y_aload_n (i := 0) hB dL_law_1142 rfl rfl ?_
          refine Y_iload_n (i := 3) hB dL_law_1143 rfl rfl ?_
          refine Y_iconst (v := 1) hB dL_law_1144 (by decide) ?_
          refine Y_iadd hB dL_law_1145 ?_
          refine Y_sld hB hXs hbl hbA (i + 1) (nI_add _ _) (by omega) hL dL_law_1146 ?_
          refine Y_aload_n (i := 0) hB dL_law_1147 rfl rfl ?_
          refine Y_iload_n (i := 3) hB dL_law_1148 rfl rfl ?_
          refine Y_iconst (v := 2) hB dL_law_1149 (by decide) ?_
          refine Y_iadd hB dL_law_1150 ?_
          refine Y_sld hB hXs hbl hbA (i + 2) (nI_add _ _) (by omega) hL dL_law_1151 ?_
          refine Y_aload_n (i := 0) hB dL_law_1152 rfl rfl ?_
          refine Y_iload_n (i := 3) hB dL_law_1153 rfl rfl ?_
          refine Y_iconst (v := 3) hB dL_law_1154 (by decide) ?_
          refine Y_iadd hB dL_law_1155 ?_
          refine Y_sld hB hXs hbl hbA (i + 3) (nI_add _ _) (by omega) hL dL_law_1156 ?_
          refine Y_if_eq (tgt := 1164) hB dL_law_1157 (by decide) (fun c1157 => ?_) (fun c1157 => absurd hzz c1157)
          refine Y_iconst (v := 0) hB dL_law_1164 (by decide) ?_
          refine Y_pair hB kL_133 cw9 hX.1.1 hX.1.2 (pr_flood hX hR hh _ _ false) hLI (Nat.le_of_ble_eq_true rfl) (Nat.le_of_ble_eq_true rfl) hcs rfl rfl (Nat.le_of_ble_eq_true rfl) dL_law_1165 (fun w1 S1 hC1 => ?_)
          refine Y_aload_n (i := 2) hB dL_law_1168 rfl rfl ?_
          refine Y_aload_n (i := 0) hB dL_law_1169 rfl rfl ?_
          refine Y_iload_n (i := 3) hB dL_law_1170 rfl rfl ?_
          refine Y_iconst (v := 1) hB dL_law_1171 (by decide) ?_
          refine Y_iadd hB dL_law_1172 ?_
          refine Y_sld hB hXs hbl hbA (i + 1) (nI_add _ _) (by omega) hL dL_law_1173 ?_
          refine Y_aload_n (i := 0) hB dL_law_1174 rfl rfl ?_
          refine Y_iload_n (i := 3) hB dL_law_1175 rfl rfl ?_
          refine Y_iconst (v := 2) hB dL_law_1176 (by decide) ?_
          refine Y_iadd hB dL_law_1177 ?_
          refine Y_sld hB hXs hbl hbA (i + 2) (nI_add _ _) (by omega) hL dL_law_1178 ?_
          refine Y_aload_n (i := 0) hB dL_law_1179 rfl rfl ?_
          refine Y_iload_n (i := 3) hB dL_law_1180 rfl rfl ?_
          refine Y_iconst (v := 3) hB dL_law_1181 (by decide) ?_
          refine Y_iadd hB dL_law_1182 ?_
          refine Y_sld hB hXs hbl hbA (i + 3) (nI_add _ _) (by omega) hL dL_law_1183 ?_
          refine Y_if_eq (tgt := 1191) hB dL_law_1184 (by decide) (fun c1184 => ?_) (fun c1184 => absurd hzz c1184)
          refine Y_iconst (v := 0) hB dL_law_1191 (by decide) ?_
          refine Y_callV hB kL_136 cw10 hR.1.1 hR.1.2 hC1 (Nat.le_of_ble_eq_true rfl) (Nat.le_of_ble_eq_true rfl) hcs rfl rfl (Nat.le_of_ble_eq_true rfl) dL_law_1192 (fun r2 S2 q2 => ?_)
          obtain ⟨rfl, hL2⟩ := q2
          refine Y_icmp_eq (tgt := 1259) hB dL_law_1195 (by decide) (fun c1195 => ?_) (fun c1195 => absurd rfl c1195)
          refine Y_iinc hB dL_law_1259 rfl rfl (by decide) rfl ?_
          refine Y_goto (tgt := 18) hB dL_law_1262 (by decide) ?_
          refine Y_lv ?_ (ih (i + 5) S2 (by omega) (by omega) hL2)
          rw [show i + 5 = i + 5 from rfl, ← nI_add]; rfl
        · refine Y_aload_n (i := 1) hB dL_law_1141 rfl rfl ?_
          refine Y_aload_n (i := 0) hB dL_law_1142 rfl rfl ?_
          refine Y_iload_n (i := 3) hB dL_law_1143 rfl rfl ?_
          refine Y_iconst (v := 1) hB dL_law_1144 (by decide) ?_
          refine Y_iadd hB dL_law_1145 ?_
          refine Y_sld hB hXs hbl hbA (i + 1) (nI_add _ _) (by omega) hL dL_law_1146 ?_
          refine Y_aload_n (i := 0) hB dL_law_1147 rfl rfl ?_
          refine Y_iload_n (i := 3) hB dL_law_1148 rfl rfl ?_
          refine Y_iconst (v := 2) hB dL_law_1149 (by decide) ?_
          refine Y_iadd hB dL_law_1150 ?_
          refine Y_sld hB hXs hbl hbA (i + 2) (nI_add _ _) (by omega) hL dL_law_1151 ?_
          refine Y_aload_n (i := 0) hB dL_law_1152 rfl rfl ?_
          refine Y_iload_n (i := 3) hB dL_law_1153 rfl rfl ?_
          refine Y_iconst (v := 3) hB dL_law_1154 (by decide) ?_
          refine Y_iadd hB dL_law_1155 ?_
          refine Y_sld hB hXs hbl hbA (i + 3) (nI_add _ _) (by omega) hL dL_law_1156 ?_
          refine Y_if_eq (tgt := 1164) hB dL_law_1157 (by decide) (fun c1157 => absurd c1157 hzz) (fun c1157 => ?_)
          refine Y_iconst (v := 1) hB dL_law_1160 (by decide) ?_
          refine Y_goto (tgt := 1165) hB dL_law_1161 (by decide) ?_
          refine Y_pair hB kL_133 cw9 hX.1.1 hX.1.2 (pr_flood hX hR hh _ _ true) hLI (Nat.le_of_ble_eq_true rfl) (Nat.le_of_ble_eq_true rfl) hcs rfl rfl (Nat.le_of_ble_eq_true rfl) dL_law_1165 (fun w1 S1 hC1 => ?_)
          refine Y_aload_n (i := 2) hB dL_law_1168 rfl rfl ?_
          refine Y_aload_n (i := 0) hB dL_law_1169 rfl rfl ?_
          refine Y_iload_n (i := 3) hB dL_law_1170 rfl rfl ?_
          refine Y_iconst (v := 1) hB dL_law_1171 (by decide) ?_
          refine Y_iadd hB dL_law_1172 ?_
          refine Y_sld hB hXs hbl hbA (i + 1) (nI_add _ _) (by omega) hL dL_law_1173 ?_
          refine Y_aload_n (i := 0) hB dL_law_1174 rfl rfl ?_
          refine Y_iload_n (i := 3) hB dL_law_1175 rfl rfl ?_
          refine Y_iconst (v := 2) hB dL_law_1176 (by decide) ?_
          refine Y_iadd hB dL_law_1177 ?_
          refine Y_sld hB hXs hbl hbA (i + 2) (nI_add _ _) (by omega) hL dL_law_1178 ?_
          refine Y_aload_n (i := 0) hB dL_law_1179 rfl rfl ?_
          refine Y_iload_n (i := 3) hB dL_law_1180 rfl rfl ?_
          refine Y_iconst (v := 3) hB dL_law_1181 (by decide) ?_
          refine Y_iadd hB dL_law_1182 ?_
          refine Y_sld hB hXs hbl hbA (i + 3) (nI_add _ _) (by omega) hL dL_law_1183 ?_
          refine Y_if_eq (tgt := 1191) hB dL_law_1184 (by decide) (fun c1184 => absurd c1184 hzz) (fun c1184 => ?_)
          refine Y_iconst (v := 1) hB dL_law_1187 (by decide) ?_
          refine Y_goto (tgt := 1192) hB dL_law_1188 (by decide) ?_
          refine Y_callV hB kL_136 cw10 hR.1.1 hR.1.2 hC1 (Nat.le_of_ble_eq_true rfl) (Nat.le_of_ble_eq_true rfl) hcs rfl rfl (Nat.le_of_ble_eq_true rfl) dL_law_1192 (fun r2 S2 q2 => ?_)
          obtain ⟨rfl, hL2⟩ := q2
          refine Y_icmp_eq (tgt := 1259) hB dL_law_1195 (by decide) (fun c1195 => ?_) (fun c1195 => absurd rfl c1195)
          refine Y_iinc hB dL_law_1259 rfl rfl (by decide) rfl ?_
          refine Y_goto (tgt := 18) hB dL_law_1262 (by decide) ?_
          refine Y_lv ?_ (ih (i + 5) S2 (by omega) (by omega) hL2)
          rw [show i + 5 = i + 5 from rfl, ← nI_add]; rfl
      · refine Y_tableIn (tgt := 1200) hB dL_law_32 (by decide) (by decide) (by rfl) (by decide) ?_
        refine Y_aload_n (i := 1) hB dL_law_1200 rfl rfl ?_
        refine Y_pair hB kL_137 cw9 hX.1.1 hX.1.2 (pr_quiet hX hR hh) hLI (Nat.le_of_ble_eq_true rfl) (Nat.le_of_ble_eq_true rfl) hcs rfl rfl (Nat.le_of_ble_eq_true rfl) dL_law_1201 (fun w1 S1 hC1 => ?_)
        refine Y_aload_n (i := 2) hB dL_law_1204 rfl rfl ?_
        refine Y_callV hB kL_140 cw10 hR.1.1 hR.1.2 hC1 (Nat.le_of_ble_eq_true rfl) (Nat.le_of_ble_eq_true rfl) hcs rfl rfl (Nat.le_of_ble_eq_true rfl) dL_law_1205 (fun r2 S2 q2 => ?_)
        obtain ⟨rfl, hL2⟩ := q2
        refine Y_icmp_eq (tgt := 1259) hB dL_law_1208 (by decide) (fun c1208 => ?_) (fun c1208 => absurd rfl c1208)
        refine Y_iinc hB dL_law_1259 rfl rfl (by decide) rfl ?_
        refine Y_goto (tgt := 18) hB dL_law_1262 (by decide) ?_
        refine Y_lv ?_ (ih (i + 5) S2 (by omega) (by omega) hL2)
        rw [show i + 5 = i + 5 from rfl, ← nI_add]; rfl
      · refine Y_tableIn (tgt := 1213) hB dL_law_32 (by decide) (by decide) (by rfl) (by decide) ?_
        refine Y_aload_n (i := 1) hB dL_law_1213 rfl rfl ?_
        refine Y_aload_n (i := 0) hB dL_law_1214 rfl rfl ?_
        refine Y_iload_n (i := 3) hB dL_law_1215 rfl rfl ?_
        refine Y_iconst (v := 1) hB dL_law_1216 (by decide) ?_
        refine Y_iadd hB dL_law_1217 ?_
        refine Y_sld hB hXs hbl hbA (i + 1) (nI_add _ _) (by omega) hL dL_law_1218 ?_
        refine Y_pair hB kL_141 cw9 hX.1.1 hX.1.2 (pr_image hX hR hh _) hLI (Nat.le_of_ble_eq_true rfl) (Nat.le_of_ble_eq_true rfl) hcs rfl rfl (Nat.le_of_ble_eq_true rfl) dL_law_1219 (fun w1 S1 hC1 => ?_)
        refine Y_aload_n (i := 2) hB dL_law_1222 rfl rfl ?_
        refine Y_aload_n (i := 0) hB dL_law_1223 rfl rfl ?_
        refine Y_iload_n (i := 3) hB dL_law_1224 rfl rfl ?_
        refine Y_iconst (v := 1) hB dL_law_1225 (by decide) ?_
        refine Y_iadd hB dL_law_1226 ?_
        refine Y_sld hB hXs hbl hbA (i + 1) (nI_add _ _) (by omega) hL dL_law_1227 ?_
        refine Y_callV hB kL_145 cw10 hR.1.1 hR.1.2 hC1 (Nat.le_of_ble_eq_true rfl) (Nat.le_of_ble_eq_true rfl) hcs rfl rfl (Nat.le_of_ble_eq_true rfl) dL_law_1228 (fun r2 S2 q2 => ?_)
        obtain ⟨rfl, hL2⟩ := q2
        refine Y_icmp_eq (tgt := 1259) hB dL_law_1231 (by decide) (fun c1231 => ?_) (fun c1231 => absurd rfl c1231)
        refine Y_iinc hB dL_law_1259 rfl rfl (by decide) rfl ?_
        refine Y_goto (tgt := 18) hB dL_law_1262 (by decide) ?_
        refine Y_lv ?_ (ih (i + 5) S2 (by omega) (by omega) hL2)
        rw [show i + 5 = i + 5 from rfl, ← nI_add]; rfl
      · refine Y_tableIn (tgt := 1236) hB dL_law_32 (by decide) (by decide) (by rfl) (by decide) ?_
        refine Y_aload_n (i := 1) hB dL_law_1236 rfl rfl ?_
        refine Y_aload_n (i := 0) hB dL_law_1237 rfl rfl ?_
        refine Y_iload_n (i := 3) hB dL_law_1238 rfl rfl ?_
        refine Y_iconst (v := 1) hB dL_law_1239 (by decide) ?_
        refine Y_iadd hB dL_law_1240 ?_
        refine Y_sld hB hXs hbl hbA (i + 1) (nI_add _ _) (by omega) hL dL_law_1241 ?_
        refine Y_pair hB kL_146 cw9 hX.1.1 hX.1.2 (pr_again hX hR hh _) hLI (Nat.le_of_ble_eq_true rfl) (Nat.le_of_ble_eq_true rfl) hcs rfl rfl (Nat.le_of_ble_eq_true rfl) dL_law_1242 (fun w1 S1 hC1 => ?_)
        refine Y_aload_n (i := 2) hB dL_law_1245 rfl rfl ?_
        refine Y_aload_n (i := 0) hB dL_law_1246 rfl rfl ?_
        refine Y_iload_n (i := 3) hB dL_law_1247 rfl rfl ?_
        refine Y_iconst (v := 1) hB dL_law_1248 (by decide) ?_
        refine Y_iadd hB dL_law_1249 ?_
        refine Y_sld hB hXs hbl hbA (i + 1) (nI_add _ _) (by omega) hL dL_law_1250 ?_
        refine Y_callV hB kL_149 cw10 hR.1.1 hR.1.2 hC1 (Nat.le_of_ble_eq_true rfl) (Nat.le_of_ble_eq_true rfl) hcs rfl rfl (Nat.le_of_ble_eq_true rfl) dL_law_1251 (fun r2 S2 q2 => ?_)
        obtain ⟨rfl, hL2⟩ := q2
        refine Y_icmp_eq (tgt := 1259) hB dL_law_1254 (by decide) (fun c1254 => ?_) (fun c1254 => absurd rfl c1254)
        refine Y_iinc hB dL_law_1259 rfl rfl (by decide) rfl ?_
        refine Y_goto (tgt := 18) hB dL_law_1262 (by decide) ?_
        refine Y_lv ?_ (ih (i + 5) S2 (by omega) (by omega) hL2)
        rw [show i + 5 = i + 5 from rfl, ← nI_add]; rfl
      · refine Y_tableOut (tgt := 1259) hB dL_law_32 (by decide) (by decide) ?_
        refine Y_iinc hB dL_law_1259 rfl rfl (by decide) rfl ?_
        refine Y_goto (tgt := 18) hB dL_law_1262 (by decide) ?_
        refine Y_lv ?_ (ih (i + 5) S (by omega) (by omega) hLI)
        rw [← nI_add]; rfl
    · refine Y_iload_n (i := 3) hB dL_law_18 rfl rfl ?_
      refine Y_aload_n (i := 0) hB dL_law_19 rfl rfl ?_
      refine Y_slen hB hXs hbl hbA dL_law_20 ?_
      refine Y_iconst (v := 5) hB dL_law_21 (by decide) ?_
      refine Y_isub hB dL_law_22 ?_
      refine Y_icmp_gt (tgt := 1265) hB dL_law_23 (by decide) (fun c23 => ?_) (fun c23 => absurd ((law_cmp hL (by omega)).mpr (by omega)) c23)
      refine Y_iconst (v := 1) hB dL_law_1265 (by decide) ?_
      exact Y_end hB hz (by decide) hV dL_law_1266
