/-! THE MEMORY: slots by address (ints, longs, references), kinds of cells fixed; X: a walk over it; C: a method's contract over it -/
abbrev St : Type := (Nat → Nat → Int32) × (Nat → Nat → Int64) × (Nat → Nat → Option Nat)
abbrev Kd : Type := Nat ⊕ (Nat × Nat)
abbrev Gc : Type := Launch × va_G × (Nat → ClassId) × Nat × List Nat × (Nat → Kd) × (State → Prop)
abbrev Ev : Type := Program × Env × State × MethodId × Array Value × List Frame × Method × Code
abbrev Md : Type := MethodName × ByteArray × Nat × Option FieldType
abbrev gl (G : Gc) : Launch := G.1
abbrev gD (G : Gc) : va_G := G.2.1
abbrev gC (G : Gc) : Nat → ClassId := G.2.2.1
abbrev gz (G : Gc) : Nat := G.2.2.2.1
abbrev gL (G : Gc) : List Nat := G.2.2.2.2.1
abbrev gK (G : Gc) : Nat → Kd := G.2.2.2.2.2.1
abbrev gZ (G : Gc) : State → Prop := G.2.2.2.2.2.2
def gA (G : Gc) : Nat → Prop := fun q => gz G ≤ q
/-- what a slot of an object holds: 0 an int, 1 a long, 2 a reference -/
def skd (ty : FieldType) : Nat := match ty with
  | .long => 1
  | .object _ => 2
  | .array _ => 2
  | _ => 0
def tyOf : Nat → Nat → FieldType := fun ci => match ci with
  | 0 => tyX0
  | 1 => tyX1
  | 2 => tyX2
  | 3 => tyX3
  | 4 => tyX5
  | 5 => tyX6
  | 6 => tyX7
  | 7 => tyX9
  | 8 => tyX10
  | 9 => tyX11
  | _ => tyX12
def nOf : Nat → Nat := fun ci => match ci with
  | 0 => 4
  | 1 => 5
  | 2 => 11
  | 3 => 7
  | 4 => 9
  | 5 => 12
  | 6 => 2
  | 7 => 4
  | 8 => 8
  | 9 => 7
  | _ => 27
def atyOf : Nat → FieldType := fun t => match t with
  | 0 => .int
  | 1 => .byte
  | 2 => .boolean
  | 3 => .long
  | 4 => .object "SourceRoutes$Frame"
  | 5 => .object "SourceRoutes$Post"
  | 6 => .object "SourceRoutes$Data"
  | 7 => .object "SourceRoutes$Text"
  | _ => .object "SourceRoutes$World"
def slv (S : St) (a ci k : Nat) : Value := if skd (tyOf ci k) = 0 then .int (S.1 a k) else if skd (tyOf ci k) = 1 then .long (S.2.1 a k) else va_rf (S.2.2 a k)
def flv (S : St) (a ci : Nat) : List Value := (List.range (nOf ci)).map (slv S a ci)
def arv (S : St) (a t : Nat) : (Nat → Int32) ⊕ (Nat → Int64) ⊕ (Nat → UInt32) ⊕ (Nat → UInt64) ⊕ (Nat → Option Nat) := if t < 3 then .inl (S.1 a) else if t = 3 then .inr (.inl (S.2.1 a)) else .inr (.inr (.inr (.inr (S.2.2 a))))
def cel (G : Gc) (S : St) (a : Nat) : va_E := match gK G a with
  | .inl ci => .inr (ci, flv S a ci)
  | .inr (t, n) => .inl (gC G t, n, arv S a t)
def gw (G : Gc) (S : St) : va_W := va_pl (gL G) (cel G S)
def gT (G : Gc) : List (ClassId × FieldType) := (List.range 9).map (fun t => (gC G t, atyOf t))
def gOk (G : Gc) : Prop := ∀ s t : State, s.WarmedH t.vm → (∀ q, q < gz G → t.heap[q]? = s.heap[q]?) → gZ G s → gZ G t
def Cx (G : Gc) (S : St) (U : State) : Prop := va_P (gD G) vwCl (gw G S) U.heap ∧ va_K (gD G) vwCl (gT G) U ∧ va_D (gA G) (gw G S) ∧ gz G ≤ U.heap.size ∧ gZ G U ∧ gOk G
def QS (G : Gc) (Q : Option Value → St → Prop) : Array Value → State → Outcome → State → Prop := fun _ st oc t => ∃ (r : Option Value) (S' : St), oc = .returned r ∧ Q r S' ∧ Cx G S' t ∧ va_F (gA G) st t
def rk (n : Nat) : Room := { frames := n, cells := 0, slots := 0, locals := 40 * n }
def mws (md : Md) : List Cond := .code md.1 md.2.1 md.2.2.1 md.2.2.2 :: lw_gd
def C (G : Gc) (md : Md) (n : Nat) (as : List Value) (S : St) (Q : Option Value → St → Prop) : Prop :=
  Met (gl G) md.1 (mws md) (rk n) (fun v U => v = as.toArray ∧ Cx G S U) (QS G Q) 0 0 (gA G)
def Bd (G : Gc) (E : Ev) (md : Md) : Prop :=
  E.1.tables.exec = Jvm.exec ∧ E.2.2.2.2.2.2.2.code = md.2.1 ∧ E.2.2.2.2.2.2.2.maxLocals = md.2.2.1 ∧ E.2.2.2.2.2.2.1.sig.returnType = md.2.2.2 ∧ E.2.2.2.2.2.2.1.locks = false ∧ E.2.2.1.vm.findClass md.1.cls = some E.2.2.2.1.cls ∧ (∀ w ∈ lw_gd, w.before E.2.2.2.2.1 E.2.2.1 = true) ∧ va_K (gD G) vwCl (gT G) E.2.2.1 ∧ gz G ≤ E.2.2.1.heap.size ∧ gZ G E.2.2.1 ∧ gOk G
/-- locals by their places -/
def lvp : Nat → List (Option Value) → List (Nat × Value)
  | _, [] => []
  | i, none :: t => lvp (i + 1) t
  | i, some v :: t => (i, v) :: lvp (i + 1) t
def lg : List (Option Value) → Nat → Option Value
  | [], _ => none
  | a :: _, 0 => a
  | _ :: t, i + 1 => lg t i
def lset : List (Option Value) → Nat → Option Value → List (Option Value)
  | [], _, _ => []
  | _ :: t, 0, v => v :: t
  | a :: t, i + 1, v => a :: lset t i v
def X (G : Gc) (E : Ev) (md : Md) (n : Nat) (Q : Option Value → St → Prop) (S : St) (pc : Nat) (lv : List (Option Value)) (st : List Value) : Prop :=
  ∀ (H : Heap) (locs : List Loc) (ls : Array Slot), va_P (gD G) vwCl (gw G S) H → va_D (gA G) (gw G S) → va_S (gA G) E.2.2.1.heap H locs → lv_has ls md.2.2.1 (lvp 0 lv) →
    W E.1 (gl G) E.2.1 (rk n) E.2.2.1 E.2.2.2.1 E.2.2.2.2.1 E.2.2.2.2.2.1 E.2.2.2.2.2.2.1 E.2.2.2.2.2.2.2 H locs 0 0 (MQ E.2.2.2.2.2.1 (QS G Q) E.2.2.2.2.1 E.2.2.1 0 0 (gA G)) (F0 E.2.2.2.1 pc ls st)
theorem lvp_mem : ∀ (lv : List (Option Value)) (i j : Nat) (v : Value), lg lv j = some v → (i + j, v) ∈ lvp i lv
  | [], i, j, v, h => by simp [lg] at h
  | none :: t, i, 0, v, h => by simp [lg] at h
  | some a :: t, i, 0, v, h => by simp [lg] at h; subst h; simp [lvp]
  | none :: t, i, j + 1, v, h => by
    have := lvp_mem t (i + 1) j v h
    rw [show i + 1 + j = i + (j + 1) by omega] at this
    exact this
  | some a :: t, i, j + 1, v, h => by
    have := lvp_mem t (i + 1) j v h
    rw [show i + 1 + j = i + (j + 1) by omega] at this
    exact List.mem_cons_of_mem _ this
theorem lvp_of_mem : ∀ (lv : List (Option Value)) (i : Nat) (q : Nat × Value), q ∈ lvp i lv → ∃ j, q.1 = i + j ∧ lg lv j = some q.2
  | [], i, q, h => by simp [lvp] at h
  | none :: t, i, q, h => by
    obtain ⟨j, h1, h2⟩ := lvp_of_mem t (i + 1) q h
    exact ⟨j + 1, by omega, h2⟩
  | some a :: t, i, q, h => by
    rcases List.mem_cons.mp h with h | h
    · subst h; exact ⟨0, rfl, rfl⟩
    · obtain ⟨j, h1, h2⟩ := lvp_of_mem t (i + 1) q h
      exact ⟨j + 1, by omega, h2⟩
theorem lg_lset : ∀ (lv : List (Option Value)) (i j : Nat) (v : Option Value) (w : Value), lg (lset lv i v) j = some w → (i = j ∧ v = some w) ∨ (i ≠ j ∧ lg lv j = some w)
  | [], i, j, v, w, h => by simp [lset, lg] at h
  | a :: t, 0, 0, v, w, h => Or.inl ⟨rfl, h⟩
  | a :: t, 0, j + 1, v, w, h => Or.inr ⟨by omega, h⟩
  | a :: t, i + 1, 0, v, w, h => Or.inr ⟨by omega, h⟩
  | a :: t, i + 1, j + 1, v, w, h => by
    rcases lg_lset t i j v w h with ⟨h1, h2⟩ | ⟨h1, h2⟩
    · exact Or.inl ⟨by omega, h2⟩
    · exact Or.inr ⟨by omega, h2⟩
theorem lvh_at {ls : Array Slot} {nL : Nat} {lv : List (Option Value)} {i : Nat} {v : Value} (h : lv_has ls nL (lvp 0 lv)) (hi : lg lv i = some v) : ls[i]? = some (.val v) := by
  have := h.2.2 (0 + i, v) (lvp_mem lv 0 i v hi)
  rw [Nat.zero_add] at this
  exact this
/-- the slot ahead is no long -/
def lok (lv : List (Option Value)) : Nat → Bool
  | 0 => true
  | i + 1 => match lg lv i with
    | some v => v.category != 2
    | none => true
theorem lvh_weak {ls : Array Slot} {nL : Nat} {l : List (Nat × Value)} {lv : List (Option Value)} (h : lv_has ls nL l) (hq : ∀ j v, lg lv j = some v → (j, v) ∈ l) : lv_has ls nL (lvp 0 lv) := by
  refine ⟨h.1, h.2.1, fun q hm => ?_⟩
  obtain ⟨j, h1, h2⟩ := lvp_of_mem lv 0 q hm
  rw [Nat.zero_add] at h1
  have := h.2.2 _ (hq j q.2 h2)
  rw [h1]
  exact this
theorem lvh_set1 {lv : List (Option Value)} {i : Nat} {v : Value} (hk : lok lv i = true) : ∀ j w, lg (lset lv i (some v)) j = some w → (j, w) ∈ (i, v) :: (lvp 0 lv).filter (fun q => !(q.1 == i) && !(q.1 + 1 == i && q.2.category == 2)) := by
  intro j w h
  rcases lg_lset lv i j (some v) w h with ⟨h1, h2⟩ | ⟨h1, h2⟩
  · subst h1; cases h2; exact List.mem_cons_self
  · refine List.mem_cons_of_mem _ (List.mem_filter.mpr ⟨?_, ?_⟩)
    · have := lvp_mem lv 0 j w h2
      rwa [Nat.zero_add] at this
    · have e1 : (j == i) = false := by simp; omega
      by_cases h3 : j + 1 = i
      · subst h3
        simp only [lok, h2] at hk
        simp at hk
        simp [e1, hk]
      · have e2 : (j + 1 == i) = false := by simp [h3]
        simp [e1, e2]
theorem lvh_set2 {lv : List (Option Value)} {i : Nat} {v : Value} (hk : lok lv i = true) : ∀ j w, lg (lset (lset lv (i + 1) none) i (some v)) j = some w → (j, w) ∈ (i, v) :: (lvp 0 lv).filter (fun q => !(q.1 == i) && (!(q.1 == i + 1) && !(q.1 + 1 == i && q.2.category == 2))) := by
  intro j w h
  rcases lg_lset _ i j (some v) w h with ⟨h1, h2⟩ | ⟨h1, h2⟩
  · subst h1; cases h2; exact List.mem_cons_self
  · rcases lg_lset lv (i + 1) j none w h2 with ⟨h3, h4⟩ | ⟨h3, h4⟩
    · cases h4
    · refine List.mem_cons_of_mem _ (List.mem_filter.mpr ⟨?_, ?_⟩)
      · have := lvp_mem lv 0 j w h4
        rwa [Nat.zero_add] at this
      · have e1 : (j == i) = false := by simp; omega
        have e3 : (j == i + 1) = false := by simp; omega
        by_cases h5 : j + 1 = i
        · subst h5
          simp only [lok, h4] at hk
          simp at hk
          simp [e1, e3, hk]
        · have e2 : (j + 1 == i) = false := by simp [h5]
          simp [e1, e2, e3]

section XR
variable {G : Gc} {E : Ev} {md : Md} {n : Nat} {Q : Option Value → St → Prop} {S : St} {pc : Nat} {lv : List (Option Value)} {st : List Value}

theorem X_iadd (hB : Bd G E md) {x y : Int32} (hd : decode md.2.1 pc = .ok (.iadd, 1)) (k : X G E md n Q S (pc + 1) lv (.int (x + y) :: st)) : X G E md n Q S pc lv (.int y :: .int x :: st) := fun H locs ls hP hD hS hl => lv_iadd hB.1 hB.2.1 hd (k H locs ls hP hD hS hl)
theorem X_isub (hB : Bd G E md) {x y : Int32} (hd : decode md.2.1 pc = .ok (.isub, 1)) (k : X G E md n Q S (pc + 1) lv (.int (x - y) :: st)) : X G E md n Q S pc lv (.int y :: .int x :: st) := fun H locs ls hP hD hS hl => lv_isub hB.1 hB.2.1 hd (k H locs ls hP hD hS hl)
theorem X_imul (hB : Bd G E md) {x y : Int32} (hd : decode md.2.1 pc = .ok (.imul, 1)) (k : X G E md n Q S (pc + 1) lv (.int (x * y) :: st)) : X G E md n Q S pc lv (.int y :: .int x :: st) := fun H locs ls hP hD hS hl => lv_imul hB.1 hB.2.1 hd (k H locs ls hP hD hS hl)
theorem X_iand (hB : Bd G E md) {x y : Int32} (hd : decode md.2.1 pc = .ok (.iand, 1)) (k : X G E md n Q S (pc + 1) lv (.int (x &&& y) :: st)) : X G E md n Q S pc lv (.int y :: .int x :: st) := fun H locs ls hP hD hS hl => lv_iand hB.1 hB.2.1 hd (k H locs ls hP hD hS hl)
theorem X_ior (hB : Bd G E md) {x y : Int32} (hd : decode md.2.1 pc = .ok (.ior, 1)) (k : X G E md n Q S (pc + 1) lv (.int (x ||| y) :: st)) : X G E md n Q S pc lv (.int y :: .int x :: st) := fun H locs ls hP hD hS hl => lv_ior hB.1 hB.2.1 hd (k H locs ls hP hD hS hl)
theorem X_ixor (hB : Bd G E md) {x y : Int32} (hd : decode md.2.1 pc = .ok (.ixor, 1)) (k : X G E md n Q S (pc + 1) lv (.int (x ^^^ y) :: st)) : X G E md n Q S pc lv (.int y :: .int x :: st) := fun H locs ls hP hD hS hl => lv_ixor hB.1 hB.2.1 hd (k H locs ls hP hD hS hl)
theorem X_ishl (hB : Bd G E md) {x y : Int32} (hd : decode md.2.1 pc = .ok (.ishl, 1)) (k : X G E md n Q S (pc + 1) lv (.int (x <<< (y &&& 31)) :: st)) : X G E md n Q S pc lv (.int y :: .int x :: st) := fun H locs ls hP hD hS hl => lv_ishl hB.1 hB.2.1 hd (k H locs ls hP hD hS hl)
theorem X_ishr (hB : Bd G E md) {x y : Int32} (hd : decode md.2.1 pc = .ok (.ishr, 1)) (k : X G E md n Q S (pc + 1) lv (.int (x >>> (y &&& 31)) :: st)) : X G E md n Q S pc lv (.int y :: .int x :: st) := fun H locs ls hP hD hS hl => lv_ishr hB.1 hB.2.1 hd (k H locs ls hP hD hS hl)
theorem X_idiv (hB : Bd G E md) {x y : Int32} (hd : decode md.2.1 pc = .ok (.idiv, 1)) (hne : ¬ y = 0) (k : X G E md n Q S (pc + 1) lv (.int (x / y) :: st)) : X G E md n Q S pc lv (.int y :: .int x :: st) := fun H locs ls hP hD hS hl => lv_idiv hB.1 hB.2.1 hd hne (k H locs ls hP hD hS hl)
theorem X_irem (hB : Bd G E md) {x y : Int32} (hd : decode md.2.1 pc = .ok (.irem, 1)) (hne : ¬ y = 0) (k : X G E md n Q S (pc + 1) lv (.int (x - x / y * y) :: st)) : X G E md n Q S pc lv (.int y :: .int x :: st) := fun H locs ls hP hD hS hl => lv_irem hB.1 hB.2.1 hd hne (k H locs ls hP hD hS hl)
theorem X_iushr (hB : Bd G E md) {x y : Int32} (hd : decode md.2.1 pc = .ok (.iushr, 1)) (k : X G E md n Q S (pc + 1) lv (.int (x.toUInt32 >>> (y.toUInt32 &&& Int32.toUInt32 31)).toInt32 :: st)) : X G E md n Q S pc lv (.int y :: .int x :: st) := fun H locs ls hP hD hS hl => lv_iushr hB.1 hB.2.1 hd rfl (k H locs ls hP hD hS hl)
theorem X_ineg (hB : Bd G E md) {x : Int32} (hd : decode md.2.1 pc = .ok (.ineg, 1)) (k : X G E md n Q S (pc + 1) lv (.int (-x) :: st)) : X G E md n Q S pc lv (.int x :: st) := fun H locs ls hP hD hS hl => lv_ineg hB.1 hB.2.1 hd (k H locs ls hP hD hS hl)
theorem X_ladd (hB : Bd G E md) {x y : Int64} (hd : decode md.2.1 pc = .ok (.ladd, 1)) (k : X G E md n Q S (pc + 1) lv (.long (x + y) :: st)) : X G E md n Q S pc lv (.long y :: .long x :: st) := fun H locs ls hP hD hS hl => lv_ladd hB.1 hB.2.1 hd (k H locs ls hP hD hS hl)
theorem X_lsub (hB : Bd G E md) {x y : Int64} (hd : decode md.2.1 pc = .ok (.lsub, 1)) (k : X G E md n Q S (pc + 1) lv (.long (x - y) :: st)) : X G E md n Q S pc lv (.long y :: .long x :: st) := fun H locs ls hP hD hS hl => lv_lsub hB.1 hB.2.1 hd (k H locs ls hP hD hS hl)
theorem X_lmul (hB : Bd G E md) {x y : Int64} (hd : decode md.2.1 pc = .ok (.lmul, 1)) (k : X G E md n Q S (pc + 1) lv (.long (x * y) :: st)) : X G E md n Q S pc lv (.long y :: .long x :: st) := fun H locs ls hP hD hS hl => lv_lmul hB.1 hB.2.1 hd (k H locs ls hP hD hS hl)
theorem X_land (hB : Bd G E md) {x y : Int64} (hd : decode md.2.1 pc = .ok (.land, 1)) (k : X G E md n Q S (pc + 1) lv (.long (x &&& y) :: st)) : X G E md n Q S pc lv (.long y :: .long x :: st) := fun H locs ls hP hD hS hl => lv_land hB.1 hB.2.1 hd (k H locs ls hP hD hS hl)
theorem X_lor (hB : Bd G E md) {x y : Int64} (hd : decode md.2.1 pc = .ok (.lor, 1)) (k : X G E md n Q S (pc + 1) lv (.long (x ||| y) :: st)) : X G E md n Q S pc lv (.long y :: .long x :: st) := fun H locs ls hP hD hS hl => lv_lor hB.1 hB.2.1 hd (k H locs ls hP hD hS hl)
theorem X_lxor (hB : Bd G E md) {x y : Int64} (hd : decode md.2.1 pc = .ok (.lxor, 1)) (k : X G E md n Q S (pc + 1) lv (.long (x ^^^ y) :: st)) : X G E md n Q S pc lv (.long y :: .long x :: st) := fun H locs ls hP hD hS hl => lv_lxor hB.1 hB.2.1 hd (k H locs ls hP hD hS hl)
theorem X_lshl (hB : Bd G E md) {x : Int64} {y : Int32} (hd : decode md.2.1 pc = .ok (.lshl, 1)) (k : X G E md n Q S (pc + 1) lv (.long (x <<< (y.toInt64 &&& 63)) :: st)) : X G E md n Q S pc lv (.int y :: .long x :: st) := fun H locs ls hP hD hS hl => lv_lshl hB.1 hB.2.1 hd rfl (k H locs ls hP hD hS hl)
theorem X_lshr (hB : Bd G E md) {x : Int64} {y : Int32} (hd : decode md.2.1 pc = .ok (.lshr, 1)) (k : X G E md n Q S (pc + 1) lv (.long (x >>> (y.toInt64 &&& 63)) :: st)) : X G E md n Q S pc lv (.int y :: .long x :: st) := fun H locs ls hP hD hS hl => lv_lshr hB.1 hB.2.1 hd rfl (k H locs ls hP hD hS hl)
theorem X_lushr (hB : Bd G E md) {x : Int64} {y : Int32} (hd : decode md.2.1 pc = .ok (.lushr, 1)) (k : X G E md n Q S (pc + 1) lv (.long ((x.toUInt64 >>> (y.toInt64.toUInt64 &&& Int64.toUInt64 63)).toInt64) :: st)) : X G E md n Q S pc lv (.int y :: .long x :: st) := fun H locs ls hP hD hS hl => lv_lushr hB.1 hB.2.1 hd rfl (k H locs ls hP hD hS hl)
theorem X_lcmp (hB : Bd G E md) {x y : Int64} (hd : decode md.2.1 pc = .ok (.lcmp, 1)) (k : X G E md n Q S (pc + 1) lv (.int (lg_cmp x y) :: st)) : X G E md n Q S pc lv (.long y :: .long x :: st) := fun H locs ls hP hD hS hl => W.lcmp hB.1 hB.2.1 hd (k H locs ls hP hD hS hl)
theorem X_i2l (hB : Bd G E md) {x : Int32} (hd : decode md.2.1 pc = .ok (.i2l, 1)) (k : X G E md n Q S (pc + 1) lv (.long (x.toInt64) :: st)) : X G E md n Q S pc lv (.int x :: st) := fun H locs ls hP hD hS hl => lv_i2l hB.1 hB.2.1 hd rfl (k H locs ls hP hD hS hl)
theorem X_l2i (hB : Bd G E md) {x : Int64} (hd : decode md.2.1 pc = .ok (.l2i, 1)) (k : X G E md n Q S (pc + 1) lv (.int (x.toInt32) :: st)) : X G E md n Q S pc lv (.long x :: st) := fun H locs ls hP hD hS hl => lv_l2i hB.1 hB.2.1 hd rfl (k H locs ls hP hD hS hl)
theorem X_i2b (hB : Bd G E md) {x : Int32} (hd : decode md.2.1 pc = .ok (.i2b, 1)) (k : X G E md n Q S (pc + 1) lv (.int (x.toInt8.toInt32) :: st)) : X G E md n Q S pc lv (.int x :: st) := fun H locs ls hP hD hS hl => lv_i2b hB.1 hB.2.1 hd rfl (k H locs ls hP hD hS hl)
theorem X_iconst (hB : Bd G E md) {m : Int} {v : Int32} (hd : decode md.2.1 pc = .ok (.iconst m, 1)) (hv : Int32.ofInt m = v) (k : X G E md n Q S (pc + 1) lv (.int v :: st)) : X G E md n Q S pc lv st := fun H locs ls hP hD hS hl => lv_iconst hB.1 hB.2.1 hd hv (k H locs ls hP hD hS hl)
theorem X_bipush (hB : Bd G E md) {m : Int} {v : Int32} (hd : decode md.2.1 pc = .ok (.bipush m, 2)) (hv : (Int8.ofInt m).toInt32 = v) (k : X G E md n Q S (pc + 2) lv (.int v :: st)) : X G E md n Q S pc lv st := fun H locs ls hP hD hS hl => lv_bipush hB.1 hB.2.1 hd hv (k H locs ls hP hD hS hl)
theorem X_sipush (hB : Bd G E md) {m : Int} {v : Int32} (hd : decode md.2.1 pc = .ok (.sipush m, 3)) (hv : (Int16.ofInt m).toInt32 = v) (k : X G E md n Q S (pc + 3) lv (.int v :: st)) : X G E md n Q S pc lv st := fun H locs ls hP hD hS hl => lv_sipush hB.1 hB.2.1 hd hv (k H locs ls hP hD hS hl)
theorem X_lconst (hB : Bd G E md) {m : Fin 2} {v : Int64} (hd : decode md.2.1 pc = .ok (.lconst m, 1)) (hv : Int64.ofNat (m : Nat) = v) (k : X G E md n Q S (pc + 1) lv (.long v :: st)) : X G E md n Q S pc lv st := fun H locs ls hP hD hS hl => lv_lconst hB.1 hB.2.1 hd hv (k H locs ls hP hD hS hl)
theorem X_ldc (hB : Bd G E md) {idx : Nat} {v : Int32} (hw : Cond.constant md.1.cls idx v ∈ lw_gd) (hd : decode md.2.1 pc = .ok (.ldc idx, 2)) (k : X G E md n Q S (pc + 2) lv (.int v :: st)) : X G E md n Q S pc lv st := fun H locs ls hP hD hS hl => lv_ldc hB.1 hB.2.1 hB.2.2.2.2.2.1 (hB.2.2.2.2.2.2.1 _ hw) hd (k H locs ls hP hD hS hl)
theorem X_ldcw (hB : Bd G E md) {idx : Nat} {v : Int32} (hw : Cond.constant md.1.cls idx v ∈ lw_gd) (hd : decode md.2.1 pc = .ok (.ldc_w idx, 3)) (k : X G E md n Q S (pc + 3) lv (.int v :: st)) : X G E md n Q S pc lv st := fun H locs ls hP hD hS hl => lv_ldcw hB.1 hB.2.1 hB.2.2.2.2.2.1 (hB.2.2.2.2.2.2.1 _ hw) hd (k H locs ls hP hD hS hl)
theorem X_ldc2 (hB : Bd G E md) {idx : Nat} {v : Int64} (hw : Cond.constantLong md.1.cls idx v ∈ lw_gd) (hd : decode md.2.1 pc = .ok (.ldc2_w idx, 3)) (k : X G E md n Q S (pc + 3) lv (.long v :: st)) : X G E md n Q S pc lv st := fun H locs ls hP hD hS hl => lv_ldc2 hB.1 hB.2.1 hB.2.2.2.2.2.1 (hB.2.2.2.2.2.2.1 _ hw) hd (k H locs ls hP hD hS hl)
theorem X_null (hB : Bd G E md) (hd : decode md.2.1 pc = .ok (.aconst_null, 1)) (k : X G E md n Q S (pc + 1) lv (.null :: st)) : X G E md n Q S pc lv st := fun H locs ls hP hD hS hl => lv_null hB.1 hB.2.1 hd (k H locs ls hP hD hS hl)
theorem X_iload_n (hB : Bd G E md) {f : Fin 4} {i : Nat} {x : Int32} (hd : decode md.2.1 pc = .ok (.iload_n f, 1)) (hi : (f : Nat) = i) (hv : lg lv i = some (.int x)) (k : X G E md n Q S (pc + 1) lv (.int x :: st)) : X G E md n Q S pc lv st := fun H locs ls hP hD hS hl => lv_iload_n hB.1 hB.2.1 hd hi (lvh_at hl hv) (k H locs ls hP hD hS hl)
theorem X_iload (hB : Bd G E md) {i : Nat} {x : Int32} (hd : decode md.2.1 pc = .ok (.iload i, 2)) (hv : lg lv i = some (.int x)) (k : X G E md n Q S (pc + 2) lv (.int x :: st)) : X G E md n Q S pc lv st := fun H locs ls hP hD hS hl => lv_iload hB.1 hB.2.1 hd (lvh_at hl hv) (k H locs ls hP hD hS hl)
theorem X_lload_n (hB : Bd G E md) {f : Fin 4} {i : Nat} {x : Int64} (hd : decode md.2.1 pc = .ok (.lload_n f, 1)) (hi : (f : Nat) = i) (hv : lg lv i = some (.long x)) (k : X G E md n Q S (pc + 1) lv (.long x :: st)) : X G E md n Q S pc lv st := fun H locs ls hP hD hS hl => lv_lload_n hB.1 hB.2.1 hd hi (lvh_at hl hv) (k H locs ls hP hD hS hl)
theorem X_lload (hB : Bd G E md) {i : Nat} {x : Int64} (hd : decode md.2.1 pc = .ok (.lload i, 2)) (hv : lg lv i = some (.long x)) (k : X G E md n Q S (pc + 2) lv (.long x :: st)) : X G E md n Q S pc lv st := fun H locs ls hP hD hS hl => lv_lload hB.1 hB.2.1 hd (lvh_at hl hv) (k H locs ls hP hD hS hl)
theorem X_aload_n (hB : Bd G E md) {f : Fin 4} {i : Nat} {x : Nat} (hd : decode md.2.1 pc = .ok (.aload_n f, 1)) (hi : (f : Nat) = i) (hv : lg lv i = some (.ref x)) (k : X G E md n Q S (pc + 1) lv (.ref x :: st)) : X G E md n Q S pc lv st := fun H locs ls hP hD hS hl => lv_aload_n hB.1 hB.2.1 hd hi (lvh_at hl hv) (k H locs ls hP hD hS hl)
theorem X_aload (hB : Bd G E md) {i : Nat} {x : Nat} (hd : decode md.2.1 pc = .ok (.aload i, 2)) (hv : lg lv i = some (.ref x)) (k : X G E md n Q S (pc + 2) lv (.ref x :: st)) : X G E md n Q S pc lv st := fun H locs ls hP hD hS hl => lv_aload hB.1 hB.2.1 hd (lvh_at hl hv) (k H locs ls hP hD hS hl)
theorem X_aload_nN (hB : Bd G E md) {f : Fin 4} {i : Nat} (hd : decode md.2.1 pc = .ok (.aload_n f, 1)) (hi : (f : Nat) = i) (hv : lg lv i = some .null) (k : X G E md n Q S (pc + 1) lv (.null :: st)) : X G E md n Q S pc lv st := fun H locs ls hP hD hS hl => lv_aload_nN hB.1 hB.2.1 hd hi (lvh_at hl hv) (k H locs ls hP hD hS hl)
theorem X_istore_n (hB : Bd G E md) {f : Fin 4} {i : Nat} {x : Int32} (hd : decode md.2.1 pc = .ok (.istore_n f, 1)) (hi : (f : Nat) = i) (hn : i < md.2.2.1) (hk : lok lv i = true) (k : X G E md n Q S (pc + 1) (lset lv i (some (.int x))) st) : X G E md n Q S pc lv (.int x :: st) := fun H locs ls hP hD hS hl => lv_istore_n hB.1 hB.2.1 hd hi hl hn rfl (fun ls hl => k H locs ls hP hD hS (lvh_weak hl (lvh_set1 hk)))
theorem X_istore (hB : Bd G E md) {i : Nat} {x : Int32} (hd : decode md.2.1 pc = .ok (.istore i, 2)) (hn : i < md.2.2.1) (hk : lok lv i = true) (k : X G E md n Q S (pc + 2) (lset lv i (some (.int x))) st) : X G E md n Q S pc lv (.int x :: st) := fun H locs ls hP hD hS hl => lv_istore hB.1 hB.2.1 hd hl hn rfl (fun ls hl => k H locs ls hP hD hS (lvh_weak hl (lvh_set1 hk)))
theorem X_astore_n (hB : Bd G E md) {f : Fin 4} {i : Nat} {x : Nat} (hd : decode md.2.1 pc = .ok (.astore_n f, 1)) (hi : (f : Nat) = i) (hn : i < md.2.2.1) (hk : lok lv i = true) (k : X G E md n Q S (pc + 1) (lset lv i (some (.ref x))) st) : X G E md n Q S pc lv (.ref x :: st) := fun H locs ls hP hD hS hl => lv_astore_n hB.1 hB.2.1 hd hi hl hn rfl (fun ls hl => k H locs ls hP hD hS (lvh_weak hl (lvh_set1 hk)))
theorem X_astore (hB : Bd G E md) {i : Nat} {x : Nat} (hd : decode md.2.1 pc = .ok (.astore i, 2)) (hn : i < md.2.2.1) (hk : lok lv i = true) (k : X G E md n Q S (pc + 2) (lset lv i (some (.ref x))) st) : X G E md n Q S pc lv (.ref x :: st) := fun H locs ls hP hD hS hl => lv_astore hB.1 hB.2.1 hd hl hn rfl (fun ls hl => k H locs ls hP hD hS (lvh_weak hl (lvh_set1 hk)))
theorem X_astore_nN (hB : Bd G E md) {f : Fin 4} {i : Nat} (hd : decode md.2.1 pc = .ok (.astore_n f, 1)) (hi : (f : Nat) = i) (hn : i < md.2.2.1) (hk : lok lv i = true) (k : X G E md n Q S (pc + 1) (lset lv i (some .null)) st) : X G E md n Q S pc lv (.null :: st) := fun H locs ls hP hD hS hl => lv_astore_nN hB.1 hB.2.1 hd hi hl hn rfl (fun ls hl => k H locs ls hP hD hS (lvh_weak hl (lvh_set1 hk)))
theorem X_lstore_n (hB : Bd G E md) {f : Fin 4} {i : Nat} {x : Int64} (hd : decode md.2.1 pc = .ok (.lstore_n f, 1)) (hi : (f : Nat) = i) (hn : i + 1 < md.2.2.1) (hk : lok lv i = true) (k : X G E md n Q S (pc + 1) (lset (lset lv (i + 1) none) i (some (.long x))) st) : X G E md n Q S pc lv (.long x :: st) := fun H locs ls hP hD hS hl => lv_lstore_n hB.1 hB.2.1 hd hi hl hn rfl (fun ls hl => k H locs ls hP hD hS (lvh_weak hl (lvh_set2 hk)))
theorem X_lstore (hB : Bd G E md) {i : Nat} {x : Int64} (hd : decode md.2.1 pc = .ok (.lstore i, 2)) (hn : i + 1 < md.2.2.1) (hk : lok lv i = true) (k : X G E md n Q S (pc + 2) (lset (lset lv (i + 1) none) i (some (.long x))) st) : X G E md n Q S pc lv (.long x :: st) := fun H locs ls hP hD hS hl => lv_lstore hB.1 hB.2.1 hd hl hn rfl (fun ls hl => k H locs ls hP hD hS (lvh_weak hl (lvh_set2 hk)))
theorem X_iinc (hB : Bd G E md) {i : Nat} {m : Int} {x v : Int32} (hd : decode md.2.1 pc = .ok (.iinc i m, 3)) (hv : lg lv i = some (.int x)) (he : x + Int32.ofInt m = v) (hn : i < md.2.2.1) (hk : lok lv i = true) (k : X G E md n Q S (pc + 3) (lset lv i (some (.int v))) st) : X G E md n Q S pc lv st := fun H locs ls hP hD hS hl => by
  obtain ⟨k0, hk0⟩ := List.getElem?_of_mem (lvp_mem lv 0 i _ hv)
  rw [Nat.zero_add] at hk0
  exact lv_iinc hB.1 hB.2.1 hd hl hk0 he hn rfl (fun ls hl => k H locs ls hP hD hS (lvh_weak hl (lvh_set1 hk)))
/-- locals that are needed no more -/
theorem X_drop {lv' : List (Option Value)} (h : ∀ j v, lg lv' j = some v → lg lv j = some v) (k : X G E md n Q S pc lv' st) : X G E md n Q S pc lv st := fun H locs ls hP hD hS hl => k H locs ls hP hD hS (lvh_weak hl (fun j v hj => by have := lvp_mem lv 0 j v (h j v hj); rwa [Nat.zero_add] at this))
theorem X_dup (hB : Bd G E md) {v : Value} (hd : decode md.2.1 pc = .ok (.dup, 1)) (hc : v.category = 1) (k : X G E md n Q S (pc + 1) lv (v :: v :: st)) : X G E md n Q S pc lv (v :: st) := fun H locs ls hP hD hS hl => lv_dup hB.1 hB.2.1 hd hc (k H locs ls hP hD hS hl)
theorem X_pop (hB : Bd G E md) {v : Value} (hd : decode md.2.1 pc = .ok (.pop, 1)) (hc : v.category = 1) (k : X G E md n Q S (pc + 1) lv st) : X G E md n Q S pc lv (v :: st) := fun H locs ls hP hD hS hl => lv_pop hB.1 hB.2.1 hd hc (k H locs ls hP hD hS hl)
theorem X_dup2_11 (hB : Bd G E md) {v w : Value} (hd : decode md.2.1 pc = .ok (.dup2, 1)) (hc : v.category = 1) (hc2 : w.category = 1) (k : X G E md n Q S (pc + 1) lv (v :: w :: v :: w :: st)) : X G E md n Q S pc lv (v :: w :: st) := fun H locs ls hP hD hS hl => lv_dup2_11 hB.1 hB.2.1 hd hc hc2 (k H locs ls hP hD hS hl)
theorem X_goto (hB : Bd G E md) {off : Int} {tgt : Nat} (hd : decode md.2.1 pc = .ok (.goto off, 3)) (ht : (pc : Int) + off = (tgt : Int)) (k : X G E md n Q S tgt lv st) : X G E md n Q S pc lv st := fun H locs ls hP hD hS hl => lv_goto hB.1 hB.2.1 hd ht (k H locs ls hP hD hS hl)
theorem X_if_eq (hB : Bd G E md) {x : Int32} {off : Int} {tgt : Nat} (hd : decode md.2.1 pc = .ok (.ifCond .eq off, 3)) (ht : (pc : Int) + off = (tgt : Int)) (kt : x = 0 → X G E md n Q S tgt lv st) (kf : ¬ x = 0 → X G E md n Q S (pc + 3) lv st) : X G E md n Q S pc lv (.int x :: st) := fun H locs ls hP hD hS hl => lv_if_eq hB.1 hB.2.1 hd ht (fun c => kt c H locs ls hP hD hS hl) (fun c => kf c H locs ls hP hD hS hl)
theorem X_icmp_eq (hB : Bd G E md) {x y : Int32} {off : Int} {tgt : Nat} (hd : decode md.2.1 pc = .ok (.if_icmp .eq off, 3)) (ht : (pc : Int) + off = (tgt : Int)) (kt : x = y → X G E md n Q S tgt lv st) (kf : ¬ x = y → X G E md n Q S (pc + 3) lv st) : X G E md n Q S pc lv (.int y :: .int x :: st) := fun H locs ls hP hD hS hl => lv_icmp_eq hB.1 hB.2.1 hd ht (fun c => kt c H locs ls hP hD hS hl) (fun c => kf c H locs ls hP hD hS hl)
theorem X_if_ne (hB : Bd G E md) {x : Int32} {off : Int} {tgt : Nat} (hd : decode md.2.1 pc = .ok (.ifCond .ne off, 3)) (ht : (pc : Int) + off = (tgt : Int)) (kt : ¬ x = 0 → X G E md n Q S tgt lv st) (kf : x = 0 → X G E md n Q S (pc + 3) lv st) : X G E md n Q S pc lv (.int x :: st) := fun H locs ls hP hD hS hl => lv_if_ne hB.1 hB.2.1 hd ht (fun c => kt c H locs ls hP hD hS hl) (fun c => kf c H locs ls hP hD hS hl)
theorem X_icmp_ne (hB : Bd G E md) {x y : Int32} {off : Int} {tgt : Nat} (hd : decode md.2.1 pc = .ok (.if_icmp .ne off, 3)) (ht : (pc : Int) + off = (tgt : Int)) (kt : ¬ x = y → X G E md n Q S tgt lv st) (kf : x = y → X G E md n Q S (pc + 3) lv st) : X G E md n Q S pc lv (.int y :: .int x :: st) := fun H locs ls hP hD hS hl => lv_icmp_ne hB.1 hB.2.1 hd ht (fun c => kt c H locs ls hP hD hS hl) (fun c => kf c H locs ls hP hD hS hl)
theorem X_if_lt (hB : Bd G E md) {x : Int32} {off : Int} {tgt : Nat} (hd : decode md.2.1 pc = .ok (.ifCond .lt off, 3)) (ht : (pc : Int) + off = (tgt : Int)) (kt : x < 0 → X G E md n Q S tgt lv st) (kf : ¬ x < 0 → X G E md n Q S (pc + 3) lv st) : X G E md n Q S pc lv (.int x :: st) := fun H locs ls hP hD hS hl => lv_if_lt hB.1 hB.2.1 hd ht (fun c => kt c H locs ls hP hD hS hl) (fun c => kf c H locs ls hP hD hS hl)
theorem X_icmp_lt (hB : Bd G E md) {x y : Int32} {off : Int} {tgt : Nat} (hd : decode md.2.1 pc = .ok (.if_icmp .lt off, 3)) (ht : (pc : Int) + off = (tgt : Int)) (kt : x < y → X G E md n Q S tgt lv st) (kf : ¬ x < y → X G E md n Q S (pc + 3) lv st) : X G E md n Q S pc lv (.int y :: .int x :: st) := fun H locs ls hP hD hS hl => lv_icmp_lt hB.1 hB.2.1 hd ht (fun c => kt c H locs ls hP hD hS hl) (fun c => kf c H locs ls hP hD hS hl)
theorem X_if_ge (hB : Bd G E md) {x : Int32} {off : Int} {tgt : Nat} (hd : decode md.2.1 pc = .ok (.ifCond .ge off, 3)) (ht : (pc : Int) + off = (tgt : Int)) (kt : 0 ≤ x → X G E md n Q S tgt lv st) (kf : ¬ 0 ≤ x → X G E md n Q S (pc + 3) lv st) : X G E md n Q S pc lv (.int x :: st) := fun H locs ls hP hD hS hl => lv_if_ge hB.1 hB.2.1 hd ht (fun c => kt c H locs ls hP hD hS hl) (fun c => kf c H locs ls hP hD hS hl)
theorem X_icmp_ge (hB : Bd G E md) {x y : Int32} {off : Int} {tgt : Nat} (hd : decode md.2.1 pc = .ok (.if_icmp .ge off, 3)) (ht : (pc : Int) + off = (tgt : Int)) (kt : y ≤ x → X G E md n Q S tgt lv st) (kf : ¬ y ≤ x → X G E md n Q S (pc + 3) lv st) : X G E md n Q S pc lv (.int y :: .int x :: st) := fun H locs ls hP hD hS hl => lv_icmp_ge hB.1 hB.2.1 hd ht (fun c => kt c H locs ls hP hD hS hl) (fun c => kf c H locs ls hP hD hS hl)
theorem X_if_gt (hB : Bd G E md) {x : Int32} {off : Int} {tgt : Nat} (hd : decode md.2.1 pc = .ok (.ifCond .gt off, 3)) (ht : (pc : Int) + off = (tgt : Int)) (kt : 0 < x → X G E md n Q S tgt lv st) (kf : ¬ 0 < x → X G E md n Q S (pc + 3) lv st) : X G E md n Q S pc lv (.int x :: st) := fun H locs ls hP hD hS hl => lv_if_gt hB.1 hB.2.1 hd ht (fun c => kt c H locs ls hP hD hS hl) (fun c => kf c H locs ls hP hD hS hl)
theorem X_icmp_gt (hB : Bd G E md) {x y : Int32} {off : Int} {tgt : Nat} (hd : decode md.2.1 pc = .ok (.if_icmp .gt off, 3)) (ht : (pc : Int) + off = (tgt : Int)) (kt : y < x → X G E md n Q S tgt lv st) (kf : ¬ y < x → X G E md n Q S (pc + 3) lv st) : X G E md n Q S pc lv (.int y :: .int x :: st) := fun H locs ls hP hD hS hl => lv_icmp_gt hB.1 hB.2.1 hd ht (fun c => kt c H locs ls hP hD hS hl) (fun c => kf c H locs ls hP hD hS hl)
theorem X_if_le (hB : Bd G E md) {x : Int32} {off : Int} {tgt : Nat} (hd : decode md.2.1 pc = .ok (.ifCond .le off, 3)) (ht : (pc : Int) + off = (tgt : Int)) (kt : x ≤ 0 → X G E md n Q S tgt lv st) (kf : ¬ x ≤ 0 → X G E md n Q S (pc + 3) lv st) : X G E md n Q S pc lv (.int x :: st) := fun H locs ls hP hD hS hl => lv_if_le hB.1 hB.2.1 hd ht (fun c => kt c H locs ls hP hD hS hl) (fun c => kf c H locs ls hP hD hS hl)
theorem X_icmp_le (hB : Bd G E md) {x y : Int32} {off : Int} {tgt : Nat} (hd : decode md.2.1 pc = .ok (.if_icmp .le off, 3)) (ht : (pc : Int) + off = (tgt : Int)) (kt : x ≤ y → X G E md n Q S tgt lv st) (kf : ¬ x ≤ y → X G E md n Q S (pc + 3) lv st) : X G E md n Q S pc lv (.int y :: .int x :: st) := fun H locs ls hP hD hS hl => lv_icmp_le hB.1 hB.2.1 hd ht (fun c => kt c H locs ls hP hD hS hl) (fun c => kf c H locs ls hP hD hS hl)
theorem X_ifnonnull (hB : Bd G E md) {x : Nat} {off : Int} {tgt : Nat} (hd : decode md.2.1 pc = .ok (.ifnonnull off, 3)) (ht : (pc : Int) + off = (tgt : Int)) (k : X G E md n Q S tgt lv st) : X G E md n Q S pc lv (.ref x :: st) := fun H locs ls hP hD hS hl => lv_ifnonnull hB.1 hB.2.1 hd ht (k H locs ls hP hD hS hl)
theorem X_ifnonnullN (hB : Bd G E md) {off : Int} (hd : decode md.2.1 pc = .ok (.ifnonnull off, 3)) (k : X G E md n Q S (pc + 3) lv st) : X G E md n Q S pc lv (.null :: st) := fun H locs ls hP hD hS hl => lv_ifnonnullN hB.1 hB.2.1 hd (k H locs ls hP hD hS hl)
theorem X_ifnull (hB : Bd G E md) {x : Nat} {off : Int} (hd : decode md.2.1 pc = .ok (.ifnull off, 3)) (k : X G E md n Q S (pc + 3) lv st) : X G E md n Q S pc lv (.ref x :: st) := fun H locs ls hP hD hS hl => lv_ifnull hB.1 hB.2.1 hd (k H locs ls hP hD hS hl)
theorem X_ifnullN (hB : Bd G E md) {off : Int} {tgt : Nat} (hd : decode md.2.1 pc = .ok (.ifnull off, 3)) (ht : (pc : Int) + off = (tgt : Int)) (k : X G E md n Q S tgt lv st) : X G E md n Q S pc lv (.null :: st) := fun H locs ls hP hD hS hl => lv_ifnullN hB.1 hB.2.1 hd ht (k H locs ls hP hD hS hl)
theorem X_tableOut (hB : Bd G E md) {dflt lo hi : Int} {offs : Array Int} {len : Nat} {x : Int32} {tgt : Nat} (hd : decode md.2.1 pc = .ok (.tableswitch dflt lo hi offs, len)) (h : x.toInt < lo ∨ hi < x.toInt) (ht : (pc : Int) + dflt = (tgt : Int)) (k : X G E md n Q S tgt lv st) : X G E md n Q S pc lv (.int x :: st) := fun H locs ls hP hD hS hl => lv_tableOut hB.1 hB.2.1 hd h ht (k H locs ls hP hD hS hl)
theorem X_tableIn (hB : Bd G E md) {dflt lo hi : Int} {offs : Array Int} {len : Nat} {x : Int32} {off : Int} {tgt : Nat} (hd : decode md.2.1 pc = .ok (.tableswitch dflt lo hi offs, len)) (h1 : ¬ x.toInt < lo) (h2 : ¬ hi < x.toInt) (ho : offs[(x.toInt - lo).toNat]? = some off) (ht : (pc : Int) + off = (tgt : Int)) (k : X G E md n Q S tgt lv st) : X G E md n Q S pc lv (.int x :: st) := fun H locs ls hP hD hS hl => lv_tableIn hB.1 hB.2.1 hd h1 h2 ho ht (k H locs ls hP hD hS hl)
end XR
