/-! a method's contract out of its walk; calls -/
def lvl : List Value → List (Option Value)
  | [] => []
  | v :: t => if v.category = 2 then some v :: none :: lvl t else some v :: lvl t
def lvi (as : List Value) (nL : Nat) : List (Option Value) := lvl as ++ List.replicate (nL - (lvl as).length) none
theorem lg_app_none (l : List (Option Value)) (k : Nat) : ∀ j v, lg (l ++ List.replicate k none) j = some v → lg l j = some v := by
  induction l with
  | nil =>
    induction k with
    | zero => intro j v h; exact h
    | succ k ih =>
      intro j v h
      rw [List.nil_append, List.replicate_succ] at h
      cases j with
      | zero => simp [lg] at h
      | succ j => exact absurd (ih j v h) (by simp [lg])
  | cons a l ih =>
    intro j v h
    cases j with
    | zero => exact h
    | succ j => exact ih j v h
theorem lvl_args : ∀ (as : List Value) (i j : Nat) (v : Value), lg (lvl as) j = some v → (i + j, v) ∈ lv_args i as
  | [], i, j, v, h => by simp [lvl, lg] at h
  | a :: t, i, j, v, h => by
    unfold lvl at h
    unfold lv_args
    by_cases hc : a.category = 2
    · rw [if_pos hc] at h ⊢
      match j, h with
      | 0, h => simp [lg] at h; subst h; simp
      | 1, h => simp [lg] at h
      | j + 2, h =>
        have := lvl_args t (i + 2) j v h
        rw [show i + 2 + j = i + (j + 2) by omega] at this
        exact List.mem_cons_of_mem _ this
    · rw [if_neg hc] at h ⊢
      match j, h with
      | 0, h => simp [lg] at h; subst h; simp
      | j + 1, h =>
        have := lvl_args t (i + 1) j v h
        rw [show i + 1 + j = i + (j + 1) by omega] at this
        exact List.mem_cons_of_mem _ this
theorem gdm {w : Cond} (h : w ∈ lw_tbl) (hg : goodWord w = true) : w ∈ lw_gd := List.mem_filter.mpr ⟨h, hg⟩
theorem lw_goodIn : GoodIn lw_gd lw_gd := fun w h => ⟨h, good_of_word (List.mem_filter.mp h).2⟩
theorem mws_good {md : Md} (h : Cond.code md.1 md.2.1 md.2.2.1 md.2.2.2 ∈ lw_gd) : GoodIn lw_gd (mws md) := by
  intro w hw
  rcases List.mem_cons.mp hw with rfl | hw
  · exact lw_goodIn _ h
  · exact lw_goodIn _ hw
theorem C.mk {G : Gc} {md : Md} {n : Nat} {as : List Value} {S : St} {Q : Option Value → St → Prop} {lv : List (Option Value)} (hp : plainName md.1.cls = true) (hlen : (lg_sl as).length ≤ md.2.2.1) (hlv : lvi as md.2.2.1 = lv) (body : ∀ E : Ev, Bd G E md → X G E md n Q S 0 lv []) : C G md n as S Q := by
  refine Met.ofW (cc := md.2.1) (maxL := md.2.2.1) (ret := md.2.2.2) hp rfl ?_
  intro p e s m args below meth c s₁ B hml hv
  obtain ⟨rfl, hP, hK, hD, hz, hZ, hok⟩ := hv
  have hts0 := atoms_spec (ws := mws md) B.pre
  have hts : ∀ w ∈ lw_gd, w.before as.toArray s = true := fun w h => hts0 w (List.mem_cons_of_mem _ h)
  have hB : Bd G (p, e, s, m, as.toArray, below, meth, c) md := ⟨B.exec, B.bytes, hml, B.returns, B.notSynchronized, findClass_of_methodNamed B.named, hts, hK, hz, hZ, hok⟩
  have hl := lv_entry as (n := md.2.2.1) hlen
  have hl2 : lv_has ((lg_sl as ++ List.replicate (md.2.2.1 - (lg_sl as).length) Slot.unset).toArray) md.2.2.1 (lvp 0 lv) := by
    refine lvh_weak hl (fun j v h => ?_)
    rw [← hlv] at h
    have := lvl_args as 0 j v (lg_app_none _ _ j v h)
    rwa [Nat.zero_add] at this
  have := body _ hB s.heap [] _ hP hD va_S.rf hl2
  rw [lg_entry_eq]
  exact this
theorem C.mono {G : Gc} {md : Md} {n : Nat} {as : List Value} {S : St} {Q Q' : Option Value → St → Prop} (h : C G md n as S Q) (hq : ∀ r S', Q r S' → Q' r S') : C G md n as S Q' := by
  intro p e ha hc hk s m args below hf hap hP hT
  obtain ⟨k, o, h1, h2, h3, hQ, L, hL⟩ := h p e ha hc hk s m args below hf hap hP hT
  obtain ⟨r, S', q1, q2, q3⟩ := hQ
  exact ⟨k, o, h1, h2, h3, ⟨r, S', q1, hq r S' q2, q3⟩, L, hL⟩
def kS (own : String) (idx : Nat) (md' : Md) (np : Nat) : Prop := Cond.methodLink own idx md'.1 ∈ lw_gd ∧ Cond.static md'.1 ∈ lw_gd ∧ Cond.initialized md'.1.cls ∈ lw_gd ∧ Cond.code md'.1 md'.2.1 md'.2.2.1 md'.2.2.2 ∈ lw_gd ∧ md'.1.cls ≠ "java/lang/invoke/MethodHandle" ∧ md'.1.cls ≠ "java/lang/invoke/VarHandle" ∧ (parseMethodDescriptor md'.1.desc).map (fun d => d.parameters.length) = some np
def kV (own : String) (idx : Nat) (md' : Md) (np : Nat) : Prop := Cond.methodLink own idx md'.1 ∈ lw_gd ∧ (Cond.instanceMethod md'.1 ∈ lw_gd ∧ Cond.selects md'.1.cls md'.1 md'.1 ∈ lw_gd) ∧ Cond.initialized md'.1.cls ∈ lw_gd ∧ Cond.code md'.1 md'.2.1 md'.2.2.1 md'.2.2.2 ∈ lw_gd ∧ md'.1.cls ≠ "java/lang/invoke/MethodHandle" ∧ md'.1.cls ≠ "java/lang/invoke/VarHandle" ∧ (parseMethodDescriptor md'.1.desc).map (fun d => d.parameters.length) = some np
section XC
variable {G : Gc} {E : Ev} {md md' : Md} {n n' : Nat} {Q Q' : Option Value → St → Prop} {S : St} {pc : Nat} {lv : List (Option Value)} {st st0 : List Value} {As : List Value} {idx np : Nat}
theorem C_blind : FrameBlind (fun v U => v = As.toArray ∧ Cx G S U) := fun a U g mk q => by
  obtain ⟨q1, hP, hK, hD, hz, hZ, hok⟩ := q
  exact ⟨q1, hP, va_K.moved (u := U) (U := U.calling g mk a) (Vm.Alike.refl U.vm) hK, hD, hz, hok U _ (State.WarmedH.refl U) (fun _ _ => rfl) hZ, hok⟩
theorem C_pre (hB : Bd G E md) {H : Heap} {locs : List Loc} (hP : va_P (gD G) vwCl (gw G S) H) (hD : va_D (gA G) (gw G S)) (hS : va_S (gA G) E.2.2.1.heap H locs) (U : State) (hU : U.heap = H) (hW : E.2.2.1.WarmedH U.vm) : Cx G S U := (Cx_end hB hP hD hS hU hW).1
theorem rk_room (hn : n' + 1 ≤ n) {k : Nat} (hm : k ≤ 21) : (rk n').frames + 1 ≤ (rk n).frames ∧ 8 + (k + 11) + (rk n').locals ≤ (rk n).locals := ⟨hn, by show 8 + (k + 11) + 40 * n' ≤ 40 * n; omega⟩
theorem X_run (hB : Bd G E md) (hS' : ∀ (H : Heap) (locs : List Loc) (ls : Array Slot), va_P (gD G) vwCl (gw G S) H → va_D (gA G) (gw G S) → va_S (gA G) E.2.2.1.heap H locs → lv_has ls md.2.2.1 (lvp 0 lv) →
    ∃ a, va_Run E.1 (gl G) E.2.1 (rk n) E.2.2.1 E.2.2.2.1 E.2.2.2.2.1 E.2.2.2.2.2.1 E.2.2.2.2.2.2.1 E.2.2.2.2.2.2.2 H locs 0 0 0 0 (F0 E.2.2.2.1 pc ls st0) st (QS G Q' a) (gA G))
    (k : ∀ r S', Q' r S' → X G E md n Q S' (pc + 3) lv (r.toList ++ st)) : X G E md n Q S pc lv st0 := fun H locs ls hP hD hS hl => by
  obtain ⟨a, hr⟩ := hS' H locs ls hP hD hS hl
  intro T hT Xs
  obtain ⟨v, st₀, t, T', L, h0, X', hL, e1, e2, ⟨r, S', hv, hq, hCx, hz, hk⟩, stp⟩ := hr T hT Xs
  cases hv
  rw [h0] at hz hk
  obtain ⟨t2, a1, b1⟩ := k v S' hq T'.heap (locs ++ L) ls (by rw [e1]; exact hCx.1) hCx.2.2.1 ⟨Nat.le_trans hS.1 (by rw [e1]; exact hz), fun q h1 h2 => by rw [e1, hk q (Nat.lt_of_lt_of_le h1 hS.1) h2]; exact hS.2.1 q h1 h2, fun q hq => by
      rcases List.mem_append.mp hq with h | h
      · exact hS.2.2 q h
      · exact hL q h⟩ hl T' rfl X'
  exact ⟨t2, stp t2 a1, b1⟩
theorem X_callS (hB : Bd G E md) (hk : kS md.1.cls idx md' np) (hC : C G md' n' As S Q') (hn : n' + 1 ≤ n) (hm : md'.2.2.1 ≤ 21) (hlen : As.length = np) (hst : st0 = As.reverse ++ st) (hsm : (st.map fun v => v.category).sum ≤ 8) (hd : decode md.2.1 pc = .ok (.invokestatic idx, 3)) (k : ∀ r S', Q' r S' → X G E md n Q S' (pc + 3) lv (r.toList ++ st)) : X G E md n Q S pc lv st0 := by
  refine X_run (Q' := Q') hB (fun H locs ls hP hD hS hl => ⟨As.toArray, ?_⟩) k
  obtain ⟨k1, k2, k3, k4, k5, k6, k7⟩ := hk
  have hts := hB.2.2.2.2.2.2.1
  exact va_runS (As := As) (rest := st) ⟨hB.1, hB.2.1, hB.2.2.1, hB.2.2.2.2.2.1, hts⟩ hC ⟨callB_of np hts (mws_good k4) rfl rfl rfl (hts _ k3) (hts _ k1) ⟨k5, k6, k7⟩ (rk_room hn hm), hts _ k2⟩ ⟨C_blind, fun U hU hW => ⟨rfl, C_pre hB hP hD hS U hU hW⟩⟩ rfl hlen hl.1 hst (lv_room hsm) hd ⟨Nat.zero_le _, Nat.zero_le _⟩
theorem X_callV (hB : Bd G E md) {b ci : Nat} {T : u_T} (hk : kV md.1.cls idx md' np) (hc : cwd ci md'.1.cls T) (hb : b ∈ gL G) (hkb : gK G b = .inl ci) (hC : C G md' n' (.ref b :: As) S Q') (hn : n' + 1 ≤ n) (hm : md'.2.2.1 ≤ 21) (hlen : As.length = np) (hst : st0 = As.reverse ++ .ref b :: st) (hsm : (st.map fun v => v.category).sum ≤ 8) (hd : decode md.2.1 pc = .ok (.invokevirtual idx, 3)) (k : ∀ r S', Q' r S' → X G E md n Q S' (pc + 3) lv (r.toList ++ st)) : X G E md n Q S pc lv st0 := by
  refine X_run (Q' := Q') hB (fun H locs ls hP hD hS hl => ⟨(Value.ref b :: As).toArray, ?_⟩) k
  obtain ⟨k1, k2, k3, k4, k5, k6, k7⟩ := hk
  have hts := hB.2.2.2.2.2.2.1
  obtain ⟨q, hq⟩ := gw_get S hb
  have hq2 : (gw G S)[q]? = some (b, .inr (ci, flv S b ci)) := by rw [hq]; unfold cel; rw [hkb]
  exact va_runV (As := As) (rest := st) ⟨hB.1, hB.2.1, hB.2.2.1, hB.2.2.2.2.2.1, hts⟩ hC ⟨callB_of np hts (mws_good k4) rfl rfl rfl (hts _ k3) (hts _ k1) ⟨k5, k6, k7⟩ (rk_room hn hm), hts _ k2.1, hts _ k2.2⟩ ⟨C_blind, va_recv hB.2.2.2.2.2.2.2.1 hP hc.1 hq2, fun U hU hW => ⟨rfl, C_pre hB hP hD hS U hU hW⟩⟩ rfl hlen hl.1 hst (lv_room hsm) hd ⟨Nat.zero_le _, Nat.zero_le _⟩
end XC
