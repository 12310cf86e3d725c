/-! rows of the memory: fields, arrays, calls, returns -/
def ups {α : Type} (f : Nat → Nat → α) (a k : Nat) (v : α) : Nat → Nat → α := fun b j => if b = a ∧ j = k then v else f b j
def setI (S : St) (a k : Nat) (v : Int32) : St := (ups S.1 a k v, S.2.1, S.2.2)
def setJ (S : St) (a k : Nat) (v : Int64) : St := (S.1, ups S.2.1 a k v, S.2.2)
def setR (S : St) (a k : Nat) (v : Option Nat) : St := (S.1, S.2.1, ups S.2.2 a k v)
theorem ups_row {α : Type} (f : Nat → Nat → α) (a k : Nat) (v : α) : ups f a k v a = fun j => if j = k then v else f a j := by funext j; simp [ups]
theorem ups_row_ne {α : Type} (f : Nat → Nat → α) {a b : Nat} (k : Nat) (v : α) (h : b ≠ a) : ups f a k v b = f b := by funext j; simp [ups, h]
theorem flv_get (S : St) {a ci k : Nat} (hk : k < nOf ci) : (flv S a ci)[k]? = some (slv S a ci k) := by simp [flv, hk]
theorem flv_len (S : St) (a ci : Nat) : (flv S a ci).length = nOf ci := by simp [flv]
theorem flv_set (S S' : St) {a ci k : Nat} {v : Value} (h : ∀ j, j < nOf ci → slv S' a ci j = if j = k then v else slv S a ci j) : (flv S a ci).set k v = flv S' a ci := by
  refine List.ext_getElem? fun j => ?_
  by_cases hj : j < nOf ci
  · rw [flv_get S' hj, h j hj, List.getElem?_set]
    by_cases hjk : k = j
    · subst hjk; simp [flv, hj]
    · rw [if_neg hjk, flv_get S hj, if_neg (Ne.symm hjk)]
  · rw [List.getElem?_eq_none (by rw [List.length_set, flv_len]; omega), List.getElem?_eq_none (by rw [flv_len]; omega)]
theorem cel_ne (G : Gc) {S S' : St} {b : Nat} (h1 : S'.1 b = S.1 b) (h2 : S'.2.1 b = S.2.1 b) (h3 : S'.2.2 b = S.2.2 b) : cel G S' b = cel G S b := by
  unfold cel
  cases gK G b with
  | inl ci => show (Sum.inr (ci, flv S' b ci) : va_E) = Sum.inr (ci, flv S b ci); rw [show flv S' b ci = flv S b ci from List.map_congr_left (fun k _ => by simp only [slv, h1, h2, h3])]
  | inr q => obtain ⟨t, n⟩ := q; simp only [arv, h1, h2, h3]
theorem gw_set {G : Gc} {S S' : St} {a q : Nat} {e : va_E} (hD : va_D (gA G) (gw G S)) (ha : a ∈ gL G) (hq : (gw G S)[q]? = some (a, cel G S a)) (he : e = cel G S' a) (ho : ∀ b, b ≠ a → S'.1 b = S.1 b ∧ S'.2.1 b = S.2.1 b ∧ S'.2.2 b = S.2.2 b) : (gw G S).set q (a, e) = gw G S' := by
  have h := va_pl_set (X := []) (e := e) hD ha hq
  refine h.trans ?_
  show va_pl (gL G) (va_up (cel G S) a e) = va_pl (gL G) (cel G S')
  refine va_pl_congr fun b => ?_
  by_cases hb : b = a
  · subst hb; rw [va_up_self, he]
  · have := ho b hb
    simp only [va_up, if_neg hb]
    exact (cel_ne G this.1 this.2.1 this.2.2).symm
theorem gw_get {G : Gc} (S : St) {a : Nat} (ha : a ∈ gL G) : ∃ q : Nat, (gw G S)[q]? = some (a, cel G S a) := va_pl_get (X := []) ha
/-- a class of the memory: its row in vwCl, its words, its types, its names -/
def cwd (ci : Nat) (Cn : String) (T : u_T) : Prop := vwCl[ci]? = some (Cn, T, nOf ci) ∧ (∀ w ∈ u_ws Cn T (nOf ci), w ∈ lw_gd) ∧ (∀ k, k < nOf ci → parseFieldDescriptor (T k).2.2.1 = some (tyOf ci k)) ∧ (∀ a, a < nOf ci → ∀ b, b < nOf ci → a ≠ b → (T a).2.1 ≠ (T b).2.1)
theorem cw0 : cwd 0 RX0 TX0 := ⟨rfl, inX0, tyX0_ok, nmX0⟩
theorem cw1 : cwd 1 RX1 TX1 := ⟨rfl, inX1, tyX1_ok, nmX1⟩
theorem cw2 : cwd 2 RX2 TX2 := ⟨rfl, inX2, tyX2_ok, nmX2⟩
theorem cw3 : cwd 3 RX3 TX3 := ⟨rfl, inX3, tyX3_ok, nmX3⟩
theorem cw4 : cwd 4 RX5 TX5 := ⟨rfl, inX5, tyX5_ok, nmX5⟩
theorem cw5 : cwd 5 RX6 TX6 := ⟨rfl, inX6, tyX6_ok, nmX6⟩
theorem cw6 : cwd 6 RX7 TX7 := ⟨rfl, inX7, tyX7_ok, nmX7⟩
theorem cw7 : cwd 7 RX9 TX9 := ⟨rfl, inX9, tyX9_ok, nmX9⟩
theorem cw8 : cwd 8 RX10 TX10 := ⟨rfl, inX10, tyX10_ok, nmX10⟩
theorem cw9 : cwd 9 RX11 TX11 := ⟨rfl, inX11, tyX11_ok, nmX11⟩
theorem cw10 : cwd 10 RX12 TX12 := ⟨rfl, inX12, tyX12_ok, nmX12⟩
/-- a field access: the word of its link, its class, its place -/
def fwd (own : String) (idx ci k : Nat) (T : u_T) : Prop := k < nOf ci ∧ (Cond.fieldLink own idx (T k).1 (T k).2.1 (T k).2.2.1) ∈ lw_gd
section XM
variable {G : Gc} {E : Ev} {md : Md} {n : Nat} {Q : Option Value → St → Prop} {S : St} {pc : Nat} {lv : List (Option Value)} {st : List Value}
theorem X_getV (hB : Bd G E md) {a ci f idx : Nat} {Cn : String} {T : u_T} {v : Value} (hc : cwd ci Cn T) (hf : fwd md.1.cls idx ci f T) (ha : a ∈ gL G) (hk : gK G a = .inl ci) (hd : decode md.2.1 pc = .ok (.getfield idx, 3)) (hv : slv S a ci f = v) (k : X G E md n Q S (pc + 3) lv (v :: st)) : X G E md n Q S pc lv (.ref a :: st) := fun H locs ls hP hD hS hl => by
  obtain ⟨q, hq⟩ := gw_get S ha
  have hq2 : (gw G S)[q]? = some (a, .inr (ci, flv S a ci)) := by rw [hq]; unfold cel; rw [hk]
  exact va_get (D := gD G) hB.1 hB.2.1 hB.2.2.2.2.2.2.1 hc.2.1 hB.2.2.2.2.2.1 hB.2.2.2.2.2.2.2.1 hP q hq2 hc.1 f hf.1 (hB.2.2.2.2.2.2.1 _ hf.2) (fun _ h => h) (by rw [flv_get S hf.1, hv]) hd (k H locs ls hP hD hS hl)
theorem X_geti (hB : Bd G E md) {a ci f idx : Nat} {Cn : String} {T : u_T} (hc : cwd ci Cn T) (hf : fwd md.1.cls idx ci f T) (hs : skd (tyOf ci f) = 0) (ha : a ∈ gL G) (hk : gK G a = .inl ci) (hd : decode md.2.1 pc = .ok (.getfield idx, 3)) (k : X G E md n Q S (pc + 3) lv (.int (S.1 a f) :: st)) : X G E md n Q S pc lv (.ref a :: st) :=
  X_getV hB hc hf ha hk hd (by unfold slv; rw [if_pos hs]) k
theorem X_getj (hB : Bd G E md) {a ci f idx : Nat} {Cn : String} {T : u_T} (hc : cwd ci Cn T) (hf : fwd md.1.cls idx ci f T) (hs : skd (tyOf ci f) = 1) (ha : a ∈ gL G) (hk : gK G a = .inl ci) (hd : decode md.2.1 pc = .ok (.getfield idx, 3)) (k : X G E md n Q S (pc + 3) lv (.long (S.2.1 a f) :: st)) : X G E md n Q S pc lv (.ref a :: st) :=
  X_getV hB hc hf ha hk hd (by unfold slv; rw [if_neg (by rw [hs]; decide), if_pos hs]) k
theorem X_getr (hB : Bd G E md) {a ci f idx b : Nat} {Cn : String} {T : u_T} (hc : cwd ci Cn T) (hf : fwd md.1.cls idx ci f T) (hs : skd (tyOf ci f) = 2) (ha : a ∈ gL G) (hk : gK G a = .inl ci) (hr : S.2.2 a f = some b) (hd : decode md.2.1 pc = .ok (.getfield idx, 3)) (k : X G E md n Q S (pc + 3) lv (.ref b :: st)) : X G E md n Q S pc lv (.ref a :: st) :=
  X_getV hB hc hf ha hk hd (by unfold slv; rw [if_neg (by rw [hs]; decide), if_neg (by rw [hs]; decide), hr]; rfl) k
theorem X_putV (hB : Bd G E md) {a ci f idx : Nat} {Cn : String} {T : u_T} {v : Value} {S' : St} (hc : cwd ci Cn T) (hf : fwd md.1.cls idx ci f T) (hfin : (T f).2.2.2 = false) (hn : narrow (tyOf ci f) v = v) (hfit : fits (tyOf ci f) v = true) (ha : a ∈ gL G) (hk : gK G a = .inl ci) (hd : decode md.2.1 pc = .ok (.putfield idx, 3))
    (hs : ∀ j, j < nOf ci → slv S' a ci j = if j = f then v else slv S a ci j) (ho : ∀ b, b ≠ a → S'.1 b = S.1 b ∧ S'.2.1 b = S.2.1 b ∧ S'.2.2 b = S.2.2 b) (k : X G E md n Q S' (pc + 3) lv st) : X G E md n Q S pc lv (v :: .ref a :: st) := fun H locs ls hP hD hS hl => by
  obtain ⟨q, hq⟩ := gw_get S ha
  have hq2 : (gw G S)[q]? = some (a, .inr (ci, flv S a ci)) := by rw [hq]; unfold cel; rw [hk]
  have he : (Sum.inr (ci, (flv S a ci).set f v) : va_E) = cel G S' a := by
    unfold cel; rw [hk]; show _ = Sum.inr (ci, flv S' a ci); rw [flv_set S S' hs]
  have hset := gw_set hD ha hq he ho
  refine va_put (D := gD G) hB.1 hB.2.1 hB.2.2.2.2.2.2.1 hc.2.1 (tyOf ci) hc.2.2.1 hc.2.2.2 hB.2.2.2.2.2.1 hB.2.2.2.2.2.2.2.1 hP hD hS q hq2 hc.1 f hf.1 (hB.2.2.2.2.2.2.1 _ hf.2) (fun _ h => h) hfin (hc.2.2.1 f hf.1) hn hfit (by rw [flv_len]; exact hf.1) hd (fun H1 locs1 hP1 hD1 hS1 => ?_)
  rw [hset] at hP1 hD1
  exact k H1 locs1 ls hP1 hD1 hS1 hl
theorem slv_setI (S : St) {a ci f : Nat} {x : Int32} (hs : skd (tyOf ci f) = 0) : ∀ j, j < nOf ci → slv (setI S a f x) a ci j = if j = f then .int x else slv S a ci j := by
  intro j _
  by_cases h : j = f
  · subst h; simp [slv, hs, setI, ups]
  · simp [slv, setI, ups, h]
theorem slv_setJ (S : St) {a ci f : Nat} {x : Int64} (hs : skd (tyOf ci f) = 1) : ∀ j, j < nOf ci → slv (setJ S a f x) a ci j = if j = f then .long x else slv S a ci j := by
  intro j _
  by_cases h : j = f
  · subst h; simp [slv, hs, setJ, ups]
  · simp [slv, setJ, ups, h]
theorem slv_setR (S : St) {a ci f b : Nat} (hs : skd (tyOf ci f) = 2) : ∀ j, j < nOf ci → slv (setR S a f (some b)) a ci j = if j = f then .ref b else slv S a ci j := by
  intro j _
  by_cases h : j = f
  · subst h; simp [slv, hs, setR, ups, va_rf]
  · simp [slv, setR, ups, h]
theorem oth_I (S : St) (a f : Nat) (x : Int32) : ∀ b, b ≠ a → (setI S a f x).1 b = S.1 b ∧ (setI S a f x).2.1 b = S.2.1 b ∧ (setI S a f x).2.2 b = S.2.2 b := fun b h => ⟨ups_row_ne _ _ _ h, rfl, rfl⟩
theorem oth_J (S : St) (a f : Nat) (x : Int64) : ∀ b, b ≠ a → (setJ S a f x).1 b = S.1 b ∧ (setJ S a f x).2.1 b = S.2.1 b ∧ (setJ S a f x).2.2 b = S.2.2 b := fun b h => ⟨rfl, ups_row_ne _ _ _ h, rfl⟩
theorem oth_R (S : St) (a f : Nat) (x : Option Nat) : ∀ b, b ≠ a → (setR S a f x).1 b = S.1 b ∧ (setR S a f x).2.1 b = S.2.1 b ∧ (setR S a f x).2.2 b = S.2.2 b := fun b h => ⟨rfl, rfl, ups_row_ne _ _ _ h⟩
theorem X_puti (hB : Bd G E md) {a ci f idx : Nat} {Cn : String} {T : u_T} {x : Int32} (hc : cwd ci Cn T) (hf : fwd md.1.cls idx ci f T) (hfin : (T f).2.2.2 = false) (hty : tyOf ci f = .int) (ha : a ∈ gL G) (hk : gK G a = .inl ci) (hd : decode md.2.1 pc = .ok (.putfield idx, 3)) (k : X G E md n Q (setI S a f x) (pc + 3) lv st) : X G E md n Q S pc lv (.int x :: .ref a :: st) :=
  X_putV hB hc hf hfin (by rw [hty]; rfl) (by rw [hty]; rfl) ha hk hd (slv_setI S (by rw [hty]; rfl)) (oth_I S a f x) k
theorem X_putz (hB : Bd G E md) {a ci f idx : Nat} {Cn : String} {T : u_T} {x : Int32} (hc : cwd ci Cn T) (hf : fwd md.1.cls idx ci f T) (hfin : (T f).2.2.2 = false) (hty : tyOf ci f = .boolean) (hx : x = 0 ∨ x = 1) (ha : a ∈ gL G) (hk : gK G a = .inl ci) (hd : decode md.2.1 pc = .ok (.putfield idx, 3)) (k : X G E md n Q (setI S a f x) (pc + 3) lv st) : X G E md n Q S pc lv (.int x :: .ref a :: st) :=
  X_putV hB hc hf hfin (by rw [hty]; rcases hx with rfl | rfl <;> rfl) (by rw [hty]; rcases hx with rfl | rfl <;> rfl) ha hk hd (slv_setI S (by rw [hty]; rfl)) (oth_I S a f x) k
theorem X_putj (hB : Bd G E md) {a ci f idx : Nat} {Cn : String} {T : u_T} {x : Int64} (hc : cwd ci Cn T) (hf : fwd md.1.cls idx ci f T) (hfin : (T f).2.2.2 = false) (hty : tyOf ci f = .long) (ha : a ∈ gL G) (hk : gK G a = .inl ci) (hd : decode md.2.1 pc = .ok (.putfield idx, 3)) (k : X G E md n Q (setJ S a f x) (pc + 3) lv st) : X G E md n Q S pc lv (.long x :: .ref a :: st) :=
  X_putV hB hc hf hfin (by rw [hty]; rfl) (by rw [hty]; rfl) ha hk hd (slv_setJ S (by rw [hty]; rfl)) (oth_J S a f x) k
theorem X_putr (hB : Bd G E md) {a ci f idx b : Nat} {Cn Cr : String} {T : u_T} (hc : cwd ci Cn T) (hf : fwd md.1.cls idx ci f T) (hfin : (T f).2.2.2 = false) (hty : tyOf ci f = .object Cr) (ha : a ∈ gL G) (hk : gK G a = .inl ci) (hd : decode md.2.1 pc = .ok (.putfield idx, 3)) (k : X G E md n Q (setR S a f (some b)) (pc + 3) lv st) : X G E md n Q S pc lv (.ref b :: .ref a :: st) :=
  X_putV hB hc hf hfin (by rw [hty]; rfl) (by rw [hty]; rfl) ha hk hd (slv_setR S (by rw [hty]; rfl)) (oth_R S a f (some b)) k
theorem gT_at (G : Gc) {t : Nat} (h : t < 9) : (gT G)[t]? = some (gC G t, atyOf t) := by simp [gT, h]
theorem X_iald (hB : Bd G E md) {a m : Nat} {i : Int32} (ha : a ∈ gL G) (hk : gK G a = .inr (0, m)) (hi : vp_in i m) (hd : decode md.2.1 pc = .ok (.iaload, 1)) (k : X G E md n Q S (pc + 1) lv (.int (S.1 a i.toNatClampNeg) :: st)) : X G E md n Q S pc lv (.int i :: .ref a :: st) := fun H locs ls hP hD hS hl => by
  obtain ⟨q, hq⟩ := gw_get S ha
  have hq2 : (gw G S)[q]? = some (a, .inl (gC G 0, m, .inl (S.1 a))) := by rw [hq]; unfold cel; rw [hk]; rfl
  exact va_iald (D := gD G) hB.1 hB.2.1 hB.2.2.2.2.2.2.2.1 hP q 0 hq2 (gT_at G (by decide)) hi hd (k H locs ls hP hD hS hl)
theorem X_bald (hB : Bd G E md) {a m : Nat} {i : Int32} (ha : a ∈ gL G) (hk : gK G a = .inr (1, m)) (hi : vp_in i m) (hd : decode md.2.1 pc = .ok (.baload, 1)) (k : X G E md n Q S (pc + 1) lv (.int (S.1 a i.toNatClampNeg) :: st)) : X G E md n Q S pc lv (.int i :: .ref a :: st) := fun H locs ls hP hD hS hl => by
  obtain ⟨q, hq⟩ := gw_get S ha
  have hq2 : (gw G S)[q]? = some (a, .inl (gC G 1, m, .inl (S.1 a))) := by rw [hq]; unfold cel; rw [hk]; rfl
  exact va_bald (D := gD G) hB.1 hB.2.1 hB.2.2.2.2.2.2.2.1 hP q 1 hq2 (gT_at G (by decide)) hi hd (k H locs ls hP hD hS hl)
theorem X_zald (hB : Bd G E md) {a m : Nat} {i : Int32} (ha : a ∈ gL G) (hk : gK G a = .inr (2, m)) (hi : vp_in i m) (hd : decode md.2.1 pc = .ok (.baload, 1)) (k : X G E md n Q S (pc + 1) lv (.int (S.1 a i.toNatClampNeg) :: st)) : X G E md n Q S pc lv (.int i :: .ref a :: st) := fun H locs ls hP hD hS hl => by
  obtain ⟨q, hq⟩ := gw_get S ha
  have hq2 : (gw G S)[q]? = some (a, .inl (gC G 2, m, .inl (S.1 a))) := by rw [hq]; unfold cel; rw [hk]; rfl
  exact va_zald (D := gD G) hB.1 hB.2.1 hB.2.2.2.2.2.2.2.1 hP q 2 hq2 (gT_at G (by decide)) hi hd (k H locs ls hP hD hS hl)
theorem X_lald (hB : Bd G E md) {a m : Nat} {i : Int32} (ha : a ∈ gL G) (hk : gK G a = .inr (3, m)) (hi : vp_in i m) (hd : decode md.2.1 pc = .ok (.laload, 1)) (k : X G E md n Q S (pc + 1) lv (.long (S.2.1 a i.toNatClampNeg) :: st)) : X G E md n Q S pc lv (.int i :: .ref a :: st) := fun H locs ls hP hD hS hl => by
  obtain ⟨q, hq⟩ := gw_get S ha
  have hq2 : (gw G S)[q]? = some (a, .inl (gC G 3, m, .inr (.inl (S.2.1 a)))) := by rw [hq]; unfold cel; rw [hk]; rfl
  exact va_lald (D := gD G) hB.1 hB.2.1 hB.2.2.2.2.2.2.2.1 hP q 3 hq2 (gT_at G (by decide)) hi hd (k H locs ls hP hD hS hl)
theorem arv_ref (S : St) (a : Nat) {t : Nat} (h : 3 < t) : arv S a t = .inr (.inr (.inr (.inr (S.2.2 a)))) := by unfold arv; rw [if_neg (by omega), if_neg (by omega)]
theorem X_aald (hB : Bd G E md) {a m t b : Nat} {i : Int32} {Cr : String} (ha : a ∈ gL G) (hk : gK G a = .inr (t, m)) (ht : 3 < t ∧ t < 9) (hty : atyOf t = .object Cr) (hi : vp_in i m) (hr : S.2.2 a i.toNatClampNeg = some b) (hd : decode md.2.1 pc = .ok (.aaload, 1)) (k : X G E md n Q S (pc + 1) lv (.ref b :: st)) : X G E md n Q S pc lv (.int i :: .ref a :: st) := fun H locs ls hP hD hS hl => by
  obtain ⟨q, hq⟩ := gw_get S ha
  have hq2 : (gw G S)[q]? = some (a, .inl (gC G t, m, .inr (.inr (.inr (.inr (S.2.2 a)))))) := by rw [hq]; unfold cel; rw [hk]; show some (a, Sum.inl (gC G t, m, arv S a t)) = _; rw [arv_ref S a ht.1]
  refine va_aldq (D := gD G) (C := Cr) hB.1 hB.2.1 hB.2.2.2.2.2.2.2.1 hP q t hq2 (by rw [gT_at G ht.2, hty]) hi hd ?_
  rw [hr]
  exact k H locs ls hP hD hS hl
theorem X_alen (hB : Bd G E md) {a m t : Nat} {v : Int32} (ha : a ∈ gL G) (hk : gK G a = .inr (t, m)) (ht : t < 9) (hv : Int32.ofNat m = v) (hd : decode md.2.1 pc = .ok (.arraylength, 1)) (k : X G E md n Q S (pc + 1) lv (.int v :: st)) : X G E md n Q S pc lv (.ref a :: st) := fun H locs ls hP hD hS hl => by
  obtain ⟨q, hq⟩ := gw_get S ha
  have hq2 : (gw G S)[q]? = some (a, .inl (gC G t, m, arv S a t)) := by rw [hq]; unfold cel; rw [hk]
  exact va_alen (D := gD G) hB.1 hB.2.1 hB.2.2.2.2.2.2.2.1 hP q t hq2 (gT_at G ht) hv hd (k H locs ls hP hD hS hl)
theorem X_iast (hB : Bd G E md) {a m : Nat} {i x : Int32} (ha : a ∈ gL G) (hk : gK G a = .inr (0, m)) (hi : vp_in i m) (hd : decode md.2.1 pc = .ok (.iastore, 1)) (k : X G E md n Q (setI S a i.toNatClampNeg x) (pc + 1) lv st) : X G E md n Q S pc lv (.int x :: .int i :: .ref a :: st) := fun H locs ls hP hD hS hl => by
  obtain ⟨q, hq⟩ := gw_get S ha
  have hq2 : (gw G S)[q]? = some (a, .inl (gC G 0, m, .inl (S.1 a))) := by rw [hq]; unfold cel; rw [hk]; rfl
  have he : (Sum.inl (gC G 0, m, .inl (upd (S.1 a) i.toNatClampNeg x)) : va_E) = cel G (setI S a i.toNatClampNeg x) a := by
    unfold cel; rw [hk]; show _ = Sum.inl (gC G 0, m, Sum.inl (ups S.1 a i.toNatClampNeg x a)); rw [ups_row]; rfl
  have hset := gw_set hD ha hq he (oth_I S a i.toNatClampNeg x)
  refine va_iast (D := gD G) hB.1 hB.2.1 hB.2.2.2.2.2.2.2.1 hP hD hS q 0 hq2 (gT_at G (by decide)) hi hd (fun H1 locs1 hP1 hD1 hS1 => ?_)
  rw [hset] at hP1 hD1
  exact k H1 locs1 ls hP1 hD1 hS1 hl
theorem X_bast (hB : Bd G E md) {a m : Nat} {i x : Int32} (ha : a ∈ gL G) (hk : gK G a = .inr (1, m)) (hi : vp_in i m) (hd : decode md.2.1 pc = .ok (.bastore, 1)) (k : X G E md n Q (setI S a i.toNatClampNeg (vp_nar .byte x)) (pc + 1) lv st) : X G E md n Q S pc lv (.int x :: .int i :: .ref a :: st) := fun H locs ls hP hD hS hl => by
  obtain ⟨q, hq⟩ := gw_get S ha
  have hq2 : (gw G S)[q]? = some (a, .inl (gC G 1, m, .inl (S.1 a))) := by rw [hq]; unfold cel; rw [hk]; rfl
  have he : (Sum.inl (gC G 1, m, .inl (upd (S.1 a) i.toNatClampNeg (vp_nar .byte x))) : va_E) = cel G (setI S a i.toNatClampNeg (vp_nar .byte x)) a := by
    unfold cel; rw [hk]; show _ = Sum.inl (gC G 1, m, Sum.inl (ups S.1 a i.toNatClampNeg (vp_nar .byte x) a)); rw [ups_row]; rfl
  have hset := gw_set hD ha hq he (oth_I S a i.toNatClampNeg (vp_nar .byte x))
  refine va_bast (D := gD G) hB.1 hB.2.1 hB.2.2.2.2.2.2.2.1 hP hD hS q 1 hq2 (gT_at G (by decide)) hi hd (fun H1 locs1 hP1 hD1 hS1 => ?_)
  rw [hset] at hP1 hD1
  exact k H1 locs1 ls hP1 hD1 hS1 hl
theorem X_zast (hB : Bd G E md) {a m : Nat} {i x : Int32} (ha : a ∈ gL G) (hk : gK G a = .inr (2, m)) (hi : vp_in i m) (hd : decode md.2.1 pc = .ok (.bastore, 1)) (k : X G E md n Q (setI S a i.toNatClampNeg (vp_nar .boolean x)) (pc + 1) lv st) : X G E md n Q S pc lv (.int x :: .int i :: .ref a :: st) := fun H locs ls hP hD hS hl => by
  obtain ⟨q, hq⟩ := gw_get S ha
  have hq2 : (gw G S)[q]? = some (a, .inl (gC G 2, m, .inl (S.1 a))) := by rw [hq]; unfold cel; rw [hk]; rfl
  have he : (Sum.inl (gC G 2, m, .inl (upd (S.1 a) i.toNatClampNeg (vp_nar .boolean x))) : va_E) = cel G (setI S a i.toNatClampNeg (vp_nar .boolean x)) a := by
    unfold cel; rw [hk]; show _ = Sum.inl (gC G 2, m, Sum.inl (ups S.1 a i.toNatClampNeg (vp_nar .boolean x) a)); rw [ups_row]; rfl
  have hset := gw_set hD ha hq he (oth_I S a i.toNatClampNeg (vp_nar .boolean x))
  refine va_zast (D := gD G) hB.1 hB.2.1 hB.2.2.2.2.2.2.2.1 hP hD hS q 2 hq2 (gT_at G (by decide)) hi hd (fun H1 locs1 hP1 hD1 hS1 => ?_)
  rw [hset] at hP1 hD1
  exact k H1 locs1 ls hP1 hD1 hS1 hl
theorem X_last (hB : Bd G E md) {a m : Nat} {i : Int32} {x : Int64} (ha : a ∈ gL G) (hk : gK G a = .inr (3, m)) (hi : vp_in i m) (hd : decode md.2.1 pc = .ok (.lastore, 1)) (k : X G E md n Q (setJ S a i.toNatClampNeg x) (pc + 1) lv st) : X G E md n Q S pc lv (.long x :: .int i :: .ref a :: st) := fun H locs ls hP hD hS hl => by
  obtain ⟨q, hq⟩ := gw_get S ha
  have hq2 : (gw G S)[q]? = some (a, .inl (gC G 3, m, .inr (.inl (S.2.1 a)))) := by rw [hq]; unfold cel; rw [hk]; rfl
  have he : (Sum.inl (gC G 3, m, .inr (.inl (vp_updL (S.2.1 a) i.toNatClampNeg x))) : va_E) = cel G (setJ S a i.toNatClampNeg x) a := by
    unfold cel; rw [hk]; show _ = Sum.inl (gC G 3, m, Sum.inr (Sum.inl (ups S.2.1 a i.toNatClampNeg x a))); rw [ups_row]; rfl
  have hset := gw_set hD ha hq he (oth_J S a i.toNatClampNeg x)
  refine va_last (D := gD G) hB.1 hB.2.1 hB.2.2.2.2.2.2.2.1 hP hD hS q 3 hq2 (gT_at G (by decide)) hi hd (fun H1 locs1 hP1 hD1 hS1 => ?_)
  rw [hset] at hP1 hD1
  exact k H1 locs1 ls hP1 hD1 hS1 hl
theorem X_aast (hB : Bd G E md) {a m t b ci : Nat} {i : Int32} {Cn : String} {T : u_T} (hc : cwd ci Cn T) (ha : a ∈ gL G) (hk : gK G a = .inr (t, m)) (ht : 3 < t ∧ t < 9) (hty : atyOf t = .object Cn) (hb : b ∈ gL G) (hkb : gK G b = .inl ci) (hi : vp_in i m) (hd : decode md.2.1 pc = .ok (.aastore, 1)) (k : X G E md n Q (setR S a i.toNatClampNeg (some b)) (pc + 1) lv st) : X G E md n Q S pc lv (.ref b :: .int i :: .ref a :: st) := fun H locs ls hP hD hS hl => by
  obtain ⟨q, hq⟩ := gw_get S ha
  obtain ⟨q', hq'⟩ := gw_get S hb
  have hq2 : (gw G S)[q]? = some (a, .inl (gC G t, m, .inr (.inr (.inr (.inr (S.2.2 a)))))) := by rw [hq]; unfold cel; rw [hk]; show some (a, Sum.inl (gC G t, m, arv S a t)) = _; rw [arv_ref S a ht.1]
  have hq3 : (gw G S)[q']? = some (b, .inr (ci, flv S b ci)) := by rw [hq']; unfold cel; rw [hkb]
  have he : (Sum.inl (gC G t, m, .inr (.inr (.inr (.inr (va_up (S.2.2 a) i.toNatClampNeg (some b)))))) : va_E) = cel G (setR S a i.toNatClampNeg (some b)) a := by
    unfold cel; rw [hk]; show _ = Sum.inl (gC G t, m, arv (setR S a i.toNatClampNeg (some b)) a t); rw [arv_ref _ a ht.1]; show _ = Sum.inl (gC G t, m, Sum.inr (Sum.inr (Sum.inr (Sum.inr (ups S.2.2 a i.toNatClampNeg (some b) a))))); rw [ups_row]; rfl
  have hset := gw_set hD ha hq he (oth_R S a i.toNatClampNeg (some b))
  refine va_astq (D := gD G) (r := (Cn, T, nOf ci)) hB.1 hB.2.1 hB.2.2.2.2.2.2.2.1 hP hD hS q t q' ci hq2 (by rw [gT_at G ht.2, hty]) hq3 hc.1 hi hd (fun H1 locs1 hP1 hD1 hS1 => ?_)
  rw [hset] at hP1 hD1
  exact k H1 locs1 ls hP1 hD1 hS1 hl
/-- the end of a method -/
theorem Cx_end (hB : Bd G E md) {H : Heap} {locs : List Loc} {t : State} (hP : va_P (gD G) vwCl (gw G S) H) (hD : va_D (gA G) (gw G S)) (hS : va_S (gA G) E.2.2.1.heap H locs) (ht : t.heap = H) (hW : E.2.2.1.WarmedH t.vm) : Cx G S t ∧ va_F (gA G) E.2.2.1 t := by
  refine ⟨⟨by rw [ht]; exact hP, va_K.moved hW.alike hB.2.2.2.2.2.2.2.1, hD, by rw [ht]; exact Nat.le_trans hB.2.2.2.2.2.2.2.2.1 hS.1, ?_, hB.2.2.2.2.2.2.2.2.2.2⟩, hS.F ht⟩
  exact hB.2.2.2.2.2.2.2.2.2.2 E.2.2.1 t hW (fun q hq => by rw [ht]; exact hS.2.1 q (Nat.lt_of_lt_of_le hq hB.2.2.2.2.2.2.2.2.1) (by unfold gA; omega)) hB.2.2.2.2.2.2.2.2.2.1
theorem X_iret (hB : Bd G E md) {v : Int32} (hr : md.2.2.2 = some .int) (hd : decode md.2.1 pc = .ok (.ireturn, 1)) (k : Q (some (.int v)) S) : X G E md n Q S pc lv [.int v] := fun H locs ls hP hD hS hl =>
  W.iret hB.1 hB.2.1 (hB.2.2.2.1.trans hr) (fun t ht hW => ⟨_, S, rfl, k, Cx_end hB hP hD hS ht hW⟩) hS.2.2 hd hB.2.2.2.2.1
theorem X_zret (hB : Bd G E md) {v : Int32} (hr : md.2.2.2 = some .boolean) (hv : v = 0 ∨ v = 1) (hd : decode md.2.1 pc = .ok (.ireturn, 1)) (k : Q (some (.int v)) S) : X G E md n Q S pc lv [.int v] := fun H locs ls hP hD hS hl =>
  W.zret hB.1 hB.2.1 (hB.2.2.2.1.trans hr) (by rcases hv with rfl | rfl <;> rfl) (fun t ht hW => ⟨_, S, rfl, k, Cx_end hB hP hD hS ht hW⟩) hS.2.2 hd hB.2.2.2.2.1
theorem X_lret (hB : Bd G E md) {v : Int64} (hr : md.2.2.2 = some .long) (hd : decode md.2.1 pc = .ok (.lreturn, 1)) (k : Q (some (.long v)) S) : X G E md n Q S pc lv [.long v] := fun H locs ls hP hD hS hl =>
  W.lret hB.1 hB.2.1 (hB.2.2.2.1.trans hr) (fun t ht hW => ⟨_, S, rfl, k, Cx_end hB hP hD hS ht hW⟩) hS.2.2 hd hB.2.2.2.2.1
theorem X_vret (hB : Bd G E md) (hr : md.2.2.2 = none) (hd : decode md.2.1 pc = .ok (.return_, 1)) (k : Q none S) : X G E md n Q S pc lv [] := fun H locs ls hP hD hS hl =>
  W.vret hB.1 hB.2.1 (hB.2.2.2.1.trans hr) (fun t ht hW => ⟨_, S, rfl, k, Cx_end hB hP hD hS ht hW⟩) hS.2.2 hd hB.2.2.2.2.1
theorem X_aret (hB : Bd G E md) {v : Option Nat} {Cr : String} (hr : md.2.2.2 = some (.object Cr)) (hd : decode md.2.1 pc = .ok (.areturn, 1)) (k : Q (some (va_rf v)) S) : X G E md n Q S pc lv [va_rf v] := fun H locs ls hP hD hS hl =>
  W.aret hB.1 hB.2.1 (hB.2.2.2.1.trans hr) (Or.inl ⟨_, rfl⟩) (by cases v with | none => exact Or.inl rfl | some a => exact Or.inr ⟨a, rfl⟩) (fun t ht hW => ⟨_, S, rfl, k, Cx_end hB hP hD hS ht hW⟩) hS.2.2 hd hB.2.2.2.2.1
end XM
