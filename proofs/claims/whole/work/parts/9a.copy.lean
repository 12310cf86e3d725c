/-! System.arraycopy -/
/-- what a call of it needs -/
def kC (own : String) (idx : Nat) : Prop := Cond.methodLink own idx arraycopyName ∈ lw_gd ∧ Cond.native arraycopyName ∈ lw_gd ∧ Cond.static arraycopyName ∈ lw_gd ∧ Cond.initialized "java/lang/System" ∈ lw_gd
set_option maxRecDepth 100000 in
theorem kC0 : Cond.native arraycopyName ∈ lw_gd ∧ Cond.static arraycopyName ∈ lw_gd ∧ Cond.initialized "java/lang/System" ∈ lw_gd := ⟨gdm (List.mem_of_getElem? (i := 483) (by decide +kernel)) (by decide +kernel), gdm (List.mem_of_getElem? (i := 482) (by decide +kernel)) (by decide +kernel), gdm (List.mem_of_getElem? (i := 131) (by decide +kernel)) (by decide +kernel)⟩
set_option maxRecDepth 100000 in
theorem kCX6_21 : kC RX6 21 := ⟨gdm (List.mem_of_getElem? (i := 481) (by decide +kernel)) (by decide +kernel), kC0⟩
set_option maxRecDepth 100000 in
theorem kCX10_44 : kC RX10 44 := ⟨gdm (List.mem_of_getElem? (i := 488) (by decide +kernel)) (by decide +kernel), kC0⟩
set_option maxRecDepth 100000 in
theorem kCX7_30 : kC RX7 30 := ⟨gdm (List.mem_of_getElem? (i := 1033) (by decide +kernel)) (by decide +kernel), kC0⟩
set_option maxRecDepth 100000 in
theorem kCX5_61 : kC RX5 61 := ⟨gdm (List.mem_of_getElem? (i := 1035) (by decide +kernel)) (by decide +kernel), kC0⟩
set_option maxRecDepth 100000 in
theorem kCX9_24 : kC RX9 24 := ⟨gdm (List.mem_of_getElem? (i := 1083) (by decide +kernel)) (by decide +kernel), kC0⟩
theorem cpy_0 {α : Type} {f g : Nat → α} {n : Nat} : va_cpy f g 0 0 n = fun k => if k < n then f k else g k := by
  funext k
  unfold va_cpy
  rw [Nat.zero_add, Nat.zero_add, Nat.sub_zero]
  by_cases h : k < n
  · rw [if_pos ⟨Nat.zero_le _, h⟩, if_pos h]
  · rw [if_neg (fun q => h q.2), if_neg h]
def rowJ (S : St) (a : Nat) (f : Nat → Int64) : St := (S.1, (fun b => if b = a then f else S.2.1 b), S.2.2)
/-- the first m cells of a row -/
def cpI (S : St) (a0 a m : Nat) : St := rowI S a (fun k => if k < m then S.1 a0 k else S.1 a k)
def cpJ (S : St) (a0 a m : Nat) : St := rowJ S a (fun k => if k < m then S.2.1 a0 k else S.2.1 a k)
theorem cpI_oth (S : St) (a0 a m : Nat) : ∀ b, b ≠ a → (cpI S a0 a m).1 b = S.1 b ∧ (cpI S a0 a m).2.1 b = S.2.1 b ∧ (cpI S a0 a m).2.2 b = S.2.2 b := fun b h => ⟨if_neg h, rfl, rfl⟩
theorem cpJ_oth (S : St) (a0 a m : Nat) : ∀ b, b ≠ a → (cpJ S a0 a m).1 b = S.1 b ∧ (cpJ S a0 a m).2.1 b = S.2.1 b ∧ (cpJ S a0 a m).2.2 b = S.2.2 b := fun b h => ⟨rfl, if_neg h, rfl⟩
theorem cpI_at (S : St) (a0 a m : Nat) : (cpI S a0 a m).1 a = fun k => if k < m then S.1 a0 k else S.1 a k := if_pos rfl
theorem cpJ_at (S : St) (a0 a m : Nat) : (cpJ S a0 a m).2.1 a = fun k => if k < m then S.2.1 a0 k else S.2.1 a k := if_pos rfl
theorem cpI_lt {S : St} {a0 a m k : Nat} (h : k < m) : (cpI S a0 a m).1 a k = S.1 a0 k := by rw [cpI_at]; exact if_pos h
theorem cpJ_lt {S : St} {a0 a m k : Nat} (h : k < m) : (cpJ S a0 a m).2.1 a k = S.2.1 a0 k := by rw [cpJ_at]; exact if_pos h
section XCP
variable {G : Gc} {E : Ev} {md : Md} {n : Nat} {Q : Option Value → St → Prop} {S : St} {pc : Nat} {lv : List (Option Value)} {st : List Value} {idx : Nat}
theorem nn0 {m : Nat} (h : m < 2 ^ 31) : ¬ nI m < 0 := nI_pos h
theorem X_copyi (hB : Bd G E md) (t : Nat) {a0 a n0 n1 : Nat} (m : Nat) {x : Int32} (ht : t < 3) (hc : kC md.1.cls idx) (ha0 : a0 ∈ gL G) (hk0 : gK G a0 = .inr (t, n0)) (ha : a ∈ gL G) (hk : gK G a = .inr (t, n1)) (hx : x = nI m) (hm : m < 2 ^ 31) (h0 : m ≤ n0) (h1 : m ≤ n1) (hfit : ∀ i, i < m → fits (atyOf t) (.int (S.1 a0 i)) = true) (hn : 1 ≤ n) (hsm : (st.map fun v => v.category).sum ≤ 8) (hd : decode md.2.1 pc = .ok (.invokestatic idx, 3)) (k : X G E md n Q (cpI S a0 a m) (pc + 3) lv st) : X G E md n Q S pc lv (.int x :: .int 0 :: .ref a :: .int 0 :: .ref a0 :: st) := fun H locs ls hP hD hS hl => by
  subst hx
  obtain ⟨q, hq⟩ := gw_get S ha
  obtain ⟨q0, hq0⟩ := gw_get S ha0
  have e : ∀ b, arv S b t = .inl (S.1 b) := fun b => by unfold arv; rw [if_pos ht]
  have hq2 : (gw G S)[q]? = some (a, .inl (gC G t, n1, .inl (S.1 a))) := by rw [hq]; unfold cel; rw [hk]; show some (a, Sum.inl (gC G t, n1, arv S a t)) = _; rw [e]
  have hq3 : (gw G S)[q0]? = some (a0, .inl (gC G t, n0, .inl (S.1 a0))) := by rw [hq0]; unfold cel; rw [hk0]; show some (a0, Sum.inl (gC G t, n0, arv S a0 t)) = _; rw [e]
  have he : (Sum.inl (gC G t, n1, .inl (va_cpy (S.1 a0) (S.1 a) 0 0 m)) : va_E) = cel G (cpI S a0 a m) a := by
    unfold cel; rw [hk]; show _ = Sum.inl (gC G t, n1, arv (cpI S a0 a m) a t)
    rw [show arv (cpI S a0 a m) a t = .inl ((cpI S a0 a m).1 a) by unfold arv; rw [if_pos ht], cpI_at, cpy_0]
  have hset := gw_set hD ha hq he (cpI_oth S a0 a m)
  have hcl : (nI m).toNatClampNeg = m := nI_clamp hm
  have hz : (0 : Int32).toNatClampNeg = 0 := by decide
  refine va_copyi (D := gD G) hB.1 hB.2.1 (hB.2.2.1.trans hl.1.symm) hB.2.2.2.2.2.1 (hB.2.2.2.2.2.2.1 _ hc.1) (hB.2.2.2.2.2.2.1 _ hc.2.1) (hB.2.2.2.2.2.2.1 _ hc.2.2.1) (hB.2.2.2.2.2.2.1 _ hc.2.2.2) hB.2.2.2.2.2.2.2.1 hP hD hS q0 q t t hq3 hq2 (gT_at G (by omega)) (gT_at G (by omega)) (by rcases (show t = 0 ∨ t = 1 ∨ t = 2 by omega) with rfl | rfl | rfl <;> rfl) (by decide) (by decide) (nn0 hm) (by rw [hcl, hz]; omega) (by rw [hcl, hz]; omega) (fun i hi => by rw [hcl] at hi; rw [hz, Nat.zero_add]; exact hfit i hi) hn (by show _ + 18 ≤ 40 * n; omega) hd (fun H1 locs1 hP1 hD1 hS1 => ?_)
  rw [hcl, hz, hset] at hP1 hD1
  exact k H1 locs1 ls hP1 hD1 hS1 hl
theorem X_copyl (hB : Bd G E md) {a0 a n0 n1 : Nat} (m : Nat) {x : Int32} (hc : kC md.1.cls idx) (ha0 : a0 ∈ gL G) (hk0 : gK G a0 = .inr (3, n0)) (ha : a ∈ gL G) (hk : gK G a = .inr (3, n1)) (hx : x = nI m) (hm : m < 2 ^ 31) (h0 : m ≤ n0) (h1 : m ≤ n1) (hn : 1 ≤ n) (hsm : (st.map fun v => v.category).sum ≤ 8) (hd : decode md.2.1 pc = .ok (.invokestatic idx, 3)) (k : X G E md n Q (cpJ S a0 a m) (pc + 3) lv st) : X G E md n Q S pc lv (.int x :: .int 0 :: .ref a :: .int 0 :: .ref a0 :: st) := fun H locs ls hP hD hS hl => by
  subst hx
  obtain ⟨q, hq⟩ := gw_get S ha
  obtain ⟨q0, hq0⟩ := gw_get S ha0
  have hq2 : (gw G S)[q]? = some (a, .inl (gC G 3, n1, .inr (.inl (S.2.1 a)))) := by rw [hq]; unfold cel; rw [hk]; rfl
  have hq3 : (gw G S)[q0]? = some (a0, .inl (gC G 3, n0, .inr (.inl (S.2.1 a0)))) := by rw [hq0]; unfold cel; rw [hk0]; rfl
  have he : (Sum.inl (gC G 3, n1, .inr (.inl (va_cpy (S.2.1 a0) (S.2.1 a) 0 0 m))) : va_E) = cel G (cpJ S a0 a m) a := by
    unfold cel; rw [hk]; show _ = Sum.inl (gC G 3, n1, Sum.inr (Sum.inl ((cpJ S a0 a m).2.1 a)))
    rw [cpJ_at, cpy_0]
  have hset := gw_set hD ha hq he (cpJ_oth S a0 a m)
  have hcl : (nI m).toNatClampNeg = m := nI_clamp hm
  have hz : (0 : Int32).toNatClampNeg = 0 := by decide
  refine va_copyl (D := gD G) hB.1 hB.2.1 (hB.2.2.1.trans hl.1.symm) hB.2.2.2.2.2.1 (hB.2.2.2.2.2.2.1 _ hc.1) (hB.2.2.2.2.2.2.1 _ hc.2.1) (hB.2.2.2.2.2.2.1 _ hc.2.2.1) (hB.2.2.2.2.2.2.1 _ hc.2.2.2) hB.2.2.2.2.2.2.2.1 hP hD hS q0 q 3 3 hq3 hq2 (gT_at G (by omega)) (gT_at G (by omega)) rfl (by decide) (by decide) (nn0 hm) (by rw [hcl, hz]; omega) (by rw [hcl, hz]; omega) (fun i hi => rfl) hn (by show _ + 18 ≤ 40 * n; omega) hd (fun H1 locs1 hP1 hD1 hS1 => ?_)
  rw [hcl, hz, hset] at hP1 hD1
  exact k H1 locs1 ls hP1 hD1 hS1 hl
end XCP
