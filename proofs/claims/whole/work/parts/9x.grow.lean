/-! a memory that grows: constructors, and the law itself -/
abbrev Yp : Type := Room × Nat × Nat × (State → Prop)
def Y (G : Gc) (Z : Yp) (E : Ev) (md : Md) (S : St) (pc : Nat) (lv : List (Option Value)) (st : List Value) : Prop :=
  ∀ (H : Heap) (locs : List Loc) (ls : Array Slot), va_P (gD G) vwCl (gw G S) H → va_D (gA G) (gw G S) → va_S (gA G) E.2.2.1.heap H locs → lv_has ls md.2.2.1 (lvp 0 lv) →
    W E.1 (gl G) E.2.1 Z.1 E.2.2.1 E.2.2.2.1 E.2.2.2.2.1 E.2.2.2.2.2.1 E.2.2.2.2.2.2.1 E.2.2.2.2.2.2.2 H locs Z.2.1 Z.2.2.1 Z.2.2.2 (F0 E.2.2.2.1 pc ls st)
section YR
variable {G : Gc} {Z : Yp} {E : Ev} {md : Md} {S : St} {pc : Nat} {lv : List (Option Value)} {st : List Value}

theorem Y_iadd (hB : Bd G E md) {x y : Int32} (hd : decode md.2.1 pc = .ok (.iadd, 1)) (k : Y G Z E md S (pc + 1) lv (.int (x + y) :: st)) : Y G Z E md S pc lv (.int y :: .int x :: st) := fun H locs ls hP hD hS hl => lv_iadd hB.1 hB.2.1 hd (k H locs ls hP hD hS hl)
theorem Y_isub (hB : Bd G E md) {x y : Int32} (hd : decode md.2.1 pc = .ok (.isub, 1)) (k : Y G Z E md S (pc + 1) lv (.int (x - y) :: st)) : Y G Z E md S pc lv (.int y :: .int x :: st) := fun H locs ls hP hD hS hl => lv_isub hB.1 hB.2.1 hd (k H locs ls hP hD hS hl)
theorem Y_imul (hB : Bd G E md) {x y : Int32} (hd : decode md.2.1 pc = .ok (.imul, 1)) (k : Y G Z E md S (pc + 1) lv (.int (x * y) :: st)) : Y G Z E md S pc lv (.int y :: .int x :: st) := fun H locs ls hP hD hS hl => lv_imul hB.1 hB.2.1 hd (k H locs ls hP hD hS hl)
theorem Y_iand (hB : Bd G E md) {x y : Int32} (hd : decode md.2.1 pc = .ok (.iand, 1)) (k : Y G Z E md S (pc + 1) lv (.int (x &&& y) :: st)) : Y G Z E md S pc lv (.int y :: .int x :: st) := fun H locs ls hP hD hS hl => lv_iand hB.1 hB.2.1 hd (k H locs ls hP hD hS hl)
theorem Y_ior (hB : Bd G E md) {x y : Int32} (hd : decode md.2.1 pc = .ok (.ior, 1)) (k : Y G Z E md S (pc + 1) lv (.int (x ||| y) :: st)) : Y G Z E md S pc lv (.int y :: .int x :: st) := fun H locs ls hP hD hS hl => lv_ior hB.1 hB.2.1 hd (k H locs ls hP hD hS hl)
theorem Y_ixor (hB : Bd G E md) {x y : Int32} (hd : decode md.2.1 pc = .ok (.ixor, 1)) (k : Y G Z E md S (pc + 1) lv (.int (x ^^^ y) :: st)) : Y G Z E md S pc lv (.int y :: .int x :: st) := fun H locs ls hP hD hS hl => lv_ixor hB.1 hB.2.1 hd (k H locs ls hP hD hS hl)
theorem Y_ishl (hB : Bd G E md) {x y : Int32} (hd : decode md.2.1 pc = .ok (.ishl, 1)) (k : Y G Z E md S (pc + 1) lv (.int (x <<< (y &&& 31)) :: st)) : Y G Z E md S pc lv (.int y :: .int x :: st) := fun H locs ls hP hD hS hl => lv_ishl hB.1 hB.2.1 hd (k H locs ls hP hD hS hl)
theorem Y_ishr (hB : Bd G E md) {x y : Int32} (hd : decode md.2.1 pc = .ok (.ishr, 1)) (k : Y G Z E md S (pc + 1) lv (.int (x >>> (y &&& 31)) :: st)) : Y G Z E md S pc lv (.int y :: .int x :: st) := fun H locs ls hP hD hS hl => lv_ishr hB.1 hB.2.1 hd (k H locs ls hP hD hS hl)
theorem Y_idiv (hB : Bd G E md) {x y : Int32} (hd : decode md.2.1 pc = .ok (.idiv, 1)) (hne : ¬ y = 0) (k : Y G Z E md S (pc + 1) lv (.int (x / y) :: st)) : Y G Z E md S pc lv (.int y :: .int x :: st) := fun H locs ls hP hD hS hl => lv_idiv hB.1 hB.2.1 hd hne (k H locs ls hP hD hS hl)
theorem Y_irem (hB : Bd G E md) {x y : Int32} (hd : decode md.2.1 pc = .ok (.irem, 1)) (hne : ¬ y = 0) (k : Y G Z E md S (pc + 1) lv (.int (x - x / y * y) :: st)) : Y G Z E md S pc lv (.int y :: .int x :: st) := fun H locs ls hP hD hS hl => lv_irem hB.1 hB.2.1 hd hne (k H locs ls hP hD hS hl)
theorem Y_iushr (hB : Bd G E md) {x y : Int32} (hd : decode md.2.1 pc = .ok (.iushr, 1)) (k : Y G Z E md S (pc + 1) lv (.int (x.toUInt32 >>> (y.toUInt32 &&& Int32.toUInt32 31)).toInt32 :: st)) : Y G Z E md S pc lv (.int y :: .int x :: st) := fun H locs ls hP hD hS hl => lv_iushr hB.1 hB.2.1 hd rfl (k H locs ls hP hD hS hl)
theorem Y_ineg (hB : Bd G E md) {x : Int32} (hd : decode md.2.1 pc = .ok (.ineg, 1)) (k : Y G Z E md S (pc + 1) lv (.int (-x) :: st)) : Y G Z E md S pc lv (.int x :: st) := fun H locs ls hP hD hS hl => lv_ineg hB.1 hB.2.1 hd (k H locs ls hP hD hS hl)
theorem Y_ladd (hB : Bd G E md) {x y : Int64} (hd : decode md.2.1 pc = .ok (.ladd, 1)) (k : Y G Z E md S (pc + 1) lv (.long (x + y) :: st)) : Y G Z E md S pc lv (.long y :: .long x :: st) := fun H locs ls hP hD hS hl => lv_ladd hB.1 hB.2.1 hd (k H locs ls hP hD hS hl)
theorem Y_lsub (hB : Bd G E md) {x y : Int64} (hd : decode md.2.1 pc = .ok (.lsub, 1)) (k : Y G Z E md S (pc + 1) lv (.long (x - y) :: st)) : Y G Z E md S pc lv (.long y :: .long x :: st) := fun H locs ls hP hD hS hl => lv_lsub hB.1 hB.2.1 hd (k H locs ls hP hD hS hl)
theorem Y_lmul (hB : Bd G E md) {x y : Int64} (hd : decode md.2.1 pc = .ok (.lmul, 1)) (k : Y G Z E md S (pc + 1) lv (.long (x * y) :: st)) : Y G Z E md S pc lv (.long y :: .long x :: st) := fun H locs ls hP hD hS hl => lv_lmul hB.1 hB.2.1 hd (k H locs ls hP hD hS hl)
theorem Y_land (hB : Bd G E md) {x y : Int64} (hd : decode md.2.1 pc = .ok (.land, 1)) (k : Y G Z E md S (pc + 1) lv (.long (x &&& y) :: st)) : Y G Z E md S pc lv (.long y :: .long x :: st) := fun H locs ls hP hD hS hl => lv_land hB.1 hB.2.1 hd (k H locs ls hP hD hS hl)
theorem Y_lor (hB : Bd G E md) {x y : Int64} (hd : decode md.2.1 pc = .ok (.lor, 1)) (k : Y G Z E md S (pc + 1) lv (.long (x ||| y) :: st)) : Y G Z E md S pc lv (.long y :: .long x :: st) := fun H locs ls hP hD hS hl => lv_lor hB.1 hB.2.1 hd (k H locs ls hP hD hS hl)
theorem Y_lxor (hB : Bd G E md) {x y : Int64} (hd : decode md.2.1 pc = .ok (.lxor, 1)) (k : Y G Z E md S (pc + 1) lv (.long (x ^^^ y) :: st)) : Y G Z E md S pc lv (.long y :: .long x :: st) := fun H locs ls hP hD hS hl => lv_lxor hB.1 hB.2.1 hd (k H locs ls hP hD hS hl)
theorem Y_lshl (hB : Bd G E md) {x : Int64} {y : Int32} (hd : decode md.2.1 pc = .ok (.lshl, 1)) (k : Y G Z E md S (pc + 1) lv (.long (x <<< (y.toInt64 &&& 63)) :: st)) : Y G Z E md S pc lv (.int y :: .long x :: st) := fun H locs ls hP hD hS hl => lv_lshl hB.1 hB.2.1 hd rfl (k H locs ls hP hD hS hl)
theorem Y_lshr (hB : Bd G E md) {x : Int64} {y : Int32} (hd : decode md.2.1 pc = .ok (.lshr, 1)) (k : Y G Z E md S (pc + 1) lv (.long (x >>> (y.toInt64 &&& 63)) :: st)) : Y G Z E md S pc lv (.int y :: .long x :: st) := fun H locs ls hP hD hS hl => lv_lshr hB.1 hB.2.1 hd rfl (k H locs ls hP hD hS hl)
theorem Y_lushr (hB : Bd G E md) {x : Int64} {y : Int32} (hd : decode md.2.1 pc = .ok (.lushr, 1)) (k : Y G Z E md S (pc + 1) lv (.long ((x.toUInt64 >>> (y.toInt64.toUInt64 &&& Int64.toUInt64 63)).toInt64) :: st)) : Y G Z E md S pc lv (.int y :: .long x :: st) := fun H locs ls hP hD hS hl => lv_lushr hB.1 hB.2.1 hd rfl (k H locs ls hP hD hS hl)
theorem Y_lcmp (hB : Bd G E md) {x y : Int64} (hd : decode md.2.1 pc = .ok (.lcmp, 1)) (k : Y G Z E md S (pc + 1) lv (.int (lg_cmp x y) :: st)) : Y G Z E md S pc lv (.long y :: .long x :: st) := fun H locs ls hP hD hS hl => W.lcmp hB.1 hB.2.1 hd (k H locs ls hP hD hS hl)
theorem Y_i2l (hB : Bd G E md) {x : Int32} (hd : decode md.2.1 pc = .ok (.i2l, 1)) (k : Y G Z E md S (pc + 1) lv (.long (x.toInt64) :: st)) : Y G Z E md S pc lv (.int x :: st) := fun H locs ls hP hD hS hl => lv_i2l hB.1 hB.2.1 hd rfl (k H locs ls hP hD hS hl)
theorem Y_l2i (hB : Bd G E md) {x : Int64} (hd : decode md.2.1 pc = .ok (.l2i, 1)) (k : Y G Z E md S (pc + 1) lv (.int (x.toInt32) :: st)) : Y G Z E md S pc lv (.long x :: st) := fun H locs ls hP hD hS hl => lv_l2i hB.1 hB.2.1 hd rfl (k H locs ls hP hD hS hl)
theorem Y_i2b (hB : Bd G E md) {x : Int32} (hd : decode md.2.1 pc = .ok (.i2b, 1)) (k : Y G Z E md S (pc + 1) lv (.int (x.toInt8.toInt32) :: st)) : Y G Z E md S pc lv (.int x :: st) := fun H locs ls hP hD hS hl => lv_i2b hB.1 hB.2.1 hd rfl (k H locs ls hP hD hS hl)
theorem Y_iconst (hB : Bd G E md) {m : Int} {v : Int32} (hd : decode md.2.1 pc = .ok (.iconst m, 1)) (hv : Int32.ofInt m = v) (k : Y G Z E md S (pc + 1) lv (.int v :: st)) : Y G Z E md S pc lv st := fun H locs ls hP hD hS hl => lv_iconst hB.1 hB.2.1 hd hv (k H locs ls hP hD hS hl)
theorem Y_bipush (hB : Bd G E md) {m : Int} {v : Int32} (hd : decode md.2.1 pc = .ok (.bipush m, 2)) (hv : (Int8.ofInt m).toInt32 = v) (k : Y G Z E md S (pc + 2) lv (.int v :: st)) : Y G Z E md S pc lv st := fun H locs ls hP hD hS hl => lv_bipush hB.1 hB.2.1 hd hv (k H locs ls hP hD hS hl)
theorem Y_sipush (hB : Bd G E md) {m : Int} {v : Int32} (hd : decode md.2.1 pc = .ok (.sipush m, 3)) (hv : (Int16.ofInt m).toInt32 = v) (k : Y G Z E md S (pc + 3) lv (.int v :: st)) : Y G Z E md S pc lv st := fun H locs ls hP hD hS hl => lv_sipush hB.1 hB.2.1 hd hv (k H locs ls hP hD hS hl)
theorem Y_lconst (hB : Bd G E md) {m : Fin 2} {v : Int64} (hd : decode md.2.1 pc = .ok (.lconst m, 1)) (hv : Int64.ofNat (m : Nat) = v) (k : Y G Z E md S (pc + 1) lv (.long v :: st)) : Y G Z E md S pc lv st := fun H locs ls hP hD hS hl => lv_lconst hB.1 hB.2.1 hd hv (k H locs ls hP hD hS hl)
theorem Y_ldc (hB : Bd G E md) {idx : Nat} {v : Int32} (hw : Cond.constant md.1.cls idx v ∈ lw_gd) (hd : decode md.2.1 pc = .ok (.ldc idx, 2)) (k : Y G Z E md S (pc + 2) lv (.int v :: st)) : Y G Z E md S pc lv st := fun H locs ls hP hD hS hl => lv_ldc hB.1 hB.2.1 hB.2.2.2.2.2.1 (hB.2.2.2.2.2.2.1 _ hw) hd (k H locs ls hP hD hS hl)
theorem Y_ldcw (hB : Bd G E md) {idx : Nat} {v : Int32} (hw : Cond.constant md.1.cls idx v ∈ lw_gd) (hd : decode md.2.1 pc = .ok (.ldc_w idx, 3)) (k : Y G Z E md S (pc + 3) lv (.int v :: st)) : Y G Z E md S pc lv st := fun H locs ls hP hD hS hl => lv_ldcw hB.1 hB.2.1 hB.2.2.2.2.2.1 (hB.2.2.2.2.2.2.1 _ hw) hd (k H locs ls hP hD hS hl)
theorem Y_ldc2 (hB : Bd G E md) {idx : Nat} {v : Int64} (hw : Cond.constantLong md.1.cls idx v ∈ lw_gd) (hd : decode md.2.1 pc = .ok (.ldc2_w idx, 3)) (k : Y G Z E md S (pc + 3) lv (.long v :: st)) : Y G Z E md S pc lv st := fun H locs ls hP hD hS hl => lv_ldc2 hB.1 hB.2.1 hB.2.2.2.2.2.1 (hB.2.2.2.2.2.2.1 _ hw) hd (k H locs ls hP hD hS hl)
theorem Y_null (hB : Bd G E md) (hd : decode md.2.1 pc = .ok (.aconst_null, 1)) (k : Y G Z E md S (pc + 1) lv (.null :: st)) : Y G Z E md S pc lv st := fun H locs ls hP hD hS hl => lv_null hB.1 hB.2.1 hd (k H locs ls hP hD hS hl)
theorem Y_iload_n (hB : Bd G E md) {f : Fin 4} {i : Nat} {x : Int32} (hd : decode md.2.1 pc = .ok (.iload_n f, 1)) (hi : (f : Nat) = i) (hv : lg lv i = some (.int x)) (k : Y G Z E md S (pc + 1) lv (.int x :: st)) : Y G Z E md S pc lv st := fun H locs ls hP hD hS hl => lv_iload_n hB.1 hB.2.1 hd hi (lvh_at hl hv) (k H locs ls hP hD hS hl)
theorem Y_iload (hB : Bd G E md) {i : Nat} {x : Int32} (hd : decode md.2.1 pc = .ok (.iload i, 2)) (hv : lg lv i = some (.int x)) (k : Y G Z E md S (pc + 2) lv (.int x :: st)) : Y G Z E md S pc lv st := fun H locs ls hP hD hS hl => lv_iload hB.1 hB.2.1 hd (lvh_at hl hv) (k H locs ls hP hD hS hl)
theorem Y_lload_n (hB : Bd G E md) {f : Fin 4} {i : Nat} {x : Int64} (hd : decode md.2.1 pc = .ok (.lload_n f, 1)) (hi : (f : Nat) = i) (hv : lg lv i = some (.long x)) (k : Y G Z E md S (pc + 1) lv (.long x :: st)) : Y G Z E md S pc lv st := fun H locs ls hP hD hS hl => lv_lload_n hB.1 hB.2.1 hd hi (lvh_at hl hv) (k H locs ls hP hD hS hl)
theorem Y_lload (hB : Bd G E md) {i : Nat} {x : Int64} (hd : decode md.2.1 pc = .ok (.lload i, 2)) (hv : lg lv i = some (.long x)) (k : Y G Z E md S (pc + 2) lv (.long x :: st)) : Y G Z E md S pc lv st := fun H locs ls hP hD hS hl => lv_lload hB.1 hB.2.1 hd (lvh_at hl hv) (k H locs ls hP hD hS hl)
theorem Y_aload_n (hB : Bd G E md) {f : Fin 4} {i : Nat} {x : Nat} (hd : decode md.2.1 pc = .ok (.aload_n f, 1)) (hi : (f : Nat) = i) (hv : lg lv i = some (.ref x)) (k : Y G Z E md S (pc + 1) lv (.ref x :: st)) : Y G Z E md S pc lv st := fun H locs ls hP hD hS hl => lv_aload_n hB.1 hB.2.1 hd hi (lvh_at hl hv) (k H locs ls hP hD hS hl)
theorem Y_aload (hB : Bd G E md) {i : Nat} {x : Nat} (hd : decode md.2.1 pc = .ok (.aload i, 2)) (hv : lg lv i = some (.ref x)) (k : Y G Z E md S (pc + 2) lv (.ref x :: st)) : Y G Z E md S pc lv st := fun H locs ls hP hD hS hl => lv_aload hB.1 hB.2.1 hd (lvh_at hl hv) (k H locs ls hP hD hS hl)
theorem Y_aload_nN (hB : Bd G E md) {f : Fin 4} {i : Nat} (hd : decode md.2.1 pc = .ok (.aload_n f, 1)) (hi : (f : Nat) = i) (hv : lg lv i = some .null) (k : Y G Z E md S (pc + 1) lv (.null :: st)) : Y G Z E md S pc lv st := fun H locs ls hP hD hS hl => lv_aload_nN hB.1 hB.2.1 hd hi (lvh_at hl hv) (k H locs ls hP hD hS hl)
theorem Y_istore_n (hB : Bd G E md) {f : Fin 4} {i : Nat} {x : Int32} (hd : decode md.2.1 pc = .ok (.istore_n f, 1)) (hi : (f : Nat) = i) (hn : i < md.2.2.1) (hk : lok lv i = true) (k : Y G Z E md S (pc + 1) (lset lv i (some (.int x))) st) : Y G Z E md S pc lv (.int x :: st) := fun H locs ls hP hD hS hl => lv_istore_n hB.1 hB.2.1 hd hi hl hn rfl (fun ls hl => k H locs ls hP hD hS (lvh_weak hl (lvh_set1 hk)))
theorem Y_istore (hB : Bd G E md) {i : Nat} {x : Int32} (hd : decode md.2.1 pc = .ok (.istore i, 2)) (hn : i < md.2.2.1) (hk : lok lv i = true) (k : Y G Z E md S (pc + 2) (lset lv i (some (.int x))) st) : Y G Z E md S pc lv (.int x :: st) := fun H locs ls hP hD hS hl => lv_istore hB.1 hB.2.1 hd hl hn rfl (fun ls hl => k H locs ls hP hD hS (lvh_weak hl (lvh_set1 hk)))
theorem Y_astore_n (hB : Bd G E md) {f : Fin 4} {i : Nat} {x : Nat} (hd : decode md.2.1 pc = .ok (.astore_n f, 1)) (hi : (f : Nat) = i) (hn : i < md.2.2.1) (hk : lok lv i = true) (k : Y G Z E md S (pc + 1) (lset lv i (some (.ref x))) st) : Y G Z E md S pc lv (.ref x :: st) := fun H locs ls hP hD hS hl => lv_astore_n hB.1 hB.2.1 hd hi hl hn rfl (fun ls hl => k H locs ls hP hD hS (lvh_weak hl (lvh_set1 hk)))
theorem Y_astore (hB : Bd G E md) {i : Nat} {x : Nat} (hd : decode md.2.1 pc = .ok (.astore i, 2)) (hn : i < md.2.2.1) (hk : lok lv i = true) (k : Y G Z E md S (pc + 2) (lset lv i (some (.ref x))) st) : Y G Z E md S pc lv (.ref x :: st) := fun H locs ls hP hD hS hl => lv_astore hB.1 hB.2.1 hd hl hn rfl (fun ls hl => k H locs ls hP hD hS (lvh_weak hl (lvh_set1 hk)))
theorem Y_astore_nN (hB : Bd G E md) {f : Fin 4} {i : Nat} (hd : decode md.2.1 pc = .ok (.astore_n f, 1)) (hi : (f : Nat) = i) (hn : i < md.2.2.1) (hk : lok lv i = true) (k : Y G Z E md S (pc + 1) (lset lv i (some .null)) st) : Y G Z E md S pc lv (.null :: st) := fun H locs ls hP hD hS hl => lv_astore_nN hB.1 hB.2.1 hd hi hl hn rfl (fun ls hl => k H locs ls hP hD hS (lvh_weak hl (lvh_set1 hk)))
theorem Y_lstore_n (hB : Bd G E md) {f : Fin 4} {i : Nat} {x : Int64} (hd : decode md.2.1 pc = .ok (.lstore_n f, 1)) (hi : (f : Nat) = i) (hn : i + 1 < md.2.2.1) (hk : lok lv i = true) (k : Y G Z E md S (pc + 1) (lset (lset lv (i + 1) none) i (some (.long x))) st) : Y G Z E md S pc lv (.long x :: st) := fun H locs ls hP hD hS hl => lv_lstore_n hB.1 hB.2.1 hd hi hl hn rfl (fun ls hl => k H locs ls hP hD hS (lvh_weak hl (lvh_set2 hk)))
theorem Y_lstore (hB : Bd G E md) {i : Nat} {x : Int64} (hd : decode md.2.1 pc = .ok (.lstore i, 2)) (hn : i + 1 < md.2.2.1) (hk : lok lv i = true) (k : Y G Z E md S (pc + 2) (lset (lset lv (i + 1) none) i (some (.long x))) st) : Y G Z E md S pc lv (.long x :: st) := fun H locs ls hP hD hS hl => lv_lstore hB.1 hB.2.1 hd hl hn rfl (fun ls hl => k H locs ls hP hD hS (lvh_weak hl (lvh_set2 hk)))
theorem Y_iinc (hB : Bd G E md) {i : Nat} {m : Int} {x v : Int32} (hd : decode md.2.1 pc = .ok (.iinc i m, 3)) (hv : lg lv i = some (.int x)) (he : x + Int32.ofInt m = v) (hn : i < md.2.2.1) (hk : lok lv i = true) (k : Y G Z E md S (pc + 3) (lset lv i (some (.int v))) st) : Y G Z E md S pc lv st := fun H locs ls hP hD hS hl => by
  obtain ⟨k0, hk0⟩ := List.getElem?_of_mem (lvp_mem lv 0 i _ hv)
  rw [Nat.zero_add] at hk0
  exact lv_iinc hB.1 hB.2.1 hd hl hk0 he hn rfl (fun ls hl => k H locs ls hP hD hS (lvh_weak hl (lvh_set1 hk)))
/-- locals that are needed no more -/
theorem Y_drop {lv' : List (Option Value)} (h : ∀ j v, lg lv' j = some v → lg lv j = some v) (k : Y G Z E md S pc lv' st) : Y G Z E md S pc lv st := fun H locs ls hP hD hS hl => k H locs ls hP hD hS (lvh_weak hl (fun j v hj => by have := lvp_mem lv 0 j v (h j v hj); rwa [Nat.zero_add] at this))
theorem Y_dup (hB : Bd G E md) {v : Value} (hd : decode md.2.1 pc = .ok (.dup, 1)) (hc : v.category = 1) (k : Y G Z E md S (pc + 1) lv (v :: v :: st)) : Y G Z E md S pc lv (v :: st) := fun H locs ls hP hD hS hl => lv_dup hB.1 hB.2.1 hd hc (k H locs ls hP hD hS hl)
theorem Y_pop (hB : Bd G E md) {v : Value} (hd : decode md.2.1 pc = .ok (.pop, 1)) (hc : v.category = 1) (k : Y G Z E md S (pc + 1) lv st) : Y G Z E md S pc lv (v :: st) := fun H locs ls hP hD hS hl => lv_pop hB.1 hB.2.1 hd hc (k H locs ls hP hD hS hl)
theorem Y_dup2_11 (hB : Bd G E md) {v w : Value} (hd : decode md.2.1 pc = .ok (.dup2, 1)) (hc : v.category = 1) (hc2 : w.category = 1) (k : Y G Z E md S (pc + 1) lv (v :: w :: v :: w :: st)) : Y G Z E md S pc lv (v :: w :: st) := fun H locs ls hP hD hS hl => lv_dup2_11 hB.1 hB.2.1 hd hc hc2 (k H locs ls hP hD hS hl)
theorem Y_goto (hB : Bd G E md) {off : Int} {tgt : Nat} (hd : decode md.2.1 pc = .ok (.goto off, 3)) (ht : (pc : Int) + off = (tgt : Int)) (k : Y G Z E md S tgt lv st) : Y G Z E md S pc lv st := fun H locs ls hP hD hS hl => lv_goto hB.1 hB.2.1 hd ht (k H locs ls hP hD hS hl)
theorem Y_if_eq (hB : Bd G E md) {x : Int32} {off : Int} {tgt : Nat} (hd : decode md.2.1 pc = .ok (.ifCond .eq off, 3)) (ht : (pc : Int) + off = (tgt : Int)) (kt : x = 0 → Y G Z E md S tgt lv st) (kf : ¬ x = 0 → Y G Z E md S (pc + 3) lv st) : Y G Z E md S pc lv (.int x :: st) := fun H locs ls hP hD hS hl => lv_if_eq hB.1 hB.2.1 hd ht (fun c => kt c H locs ls hP hD hS hl) (fun c => kf c H locs ls hP hD hS hl)
theorem Y_icmp_eq (hB : Bd G E md) {x y : Int32} {off : Int} {tgt : Nat} (hd : decode md.2.1 pc = .ok (.if_icmp .eq off, 3)) (ht : (pc : Int) + off = (tgt : Int)) (kt : x = y → Y G Z E md S tgt lv st) (kf : ¬ x = y → Y G Z E md S (pc + 3) lv st) : Y G Z E md S pc lv (.int y :: .int x :: st) := fun H locs ls hP hD hS hl => lv_icmp_eq hB.1 hB.2.1 hd ht (fun c => kt c H locs ls hP hD hS hl) (fun c => kf c H locs ls hP hD hS hl)
theorem Y_if_ne (hB : Bd G E md) {x : Int32} {off : Int} {tgt : Nat} (hd : decode md.2.1 pc = .ok (.ifCond .ne off, 3)) (ht : (pc : Int) + off = (tgt : Int)) (kt : ¬ x = 0 → Y G Z E md S tgt lv st) (kf : x = 0 → Y G Z E md S (pc + 3) lv st) : Y G Z E md S pc lv (.int x :: st) := fun H locs ls hP hD hS hl => lv_if_ne hB.1 hB.2.1 hd ht (fun c => kt c H locs ls hP hD hS hl) (fun c => kf c H locs ls hP hD hS hl)
theorem Y_icmp_ne (hB : Bd G E md) {x y : Int32} {off : Int} {tgt : Nat} (hd : decode md.2.1 pc = .ok (.if_icmp .ne off, 3)) (ht : (pc : Int) + off = (tgt : Int)) (kt : ¬ x = y → Y G Z E md S tgt lv st) (kf : x = y → Y G Z E md S (pc + 3) lv st) : Y G Z E md S pc lv (.int y :: .int x :: st) := fun H locs ls hP hD hS hl => lv_icmp_ne hB.1 hB.2.1 hd ht (fun c => kt c H locs ls hP hD hS hl) (fun c => kf c H locs ls hP hD hS hl)
theorem Y_if_lt (hB : Bd G E md) {x : Int32} {off : Int} {tgt : Nat} (hd : decode md.2.1 pc = .ok (.ifCond .lt off, 3)) (ht : (pc : Int) + off = (tgt : Int)) (kt : x < 0 → Y G Z E md S tgt lv st) (kf : ¬ x < 0 → Y G Z E md S (pc + 3) lv st) : Y G Z E md S pc lv (.int x :: st) := fun H locs ls hP hD hS hl => lv_if_lt hB.1 hB.2.1 hd ht (fun c => kt c H locs ls hP hD hS hl) (fun c => kf c H locs ls hP hD hS hl)
theorem Y_icmp_lt (hB : Bd G E md) {x y : Int32} {off : Int} {tgt : Nat} (hd : decode md.2.1 pc = .ok (.if_icmp .lt off, 3)) (ht : (pc : Int) + off = (tgt : Int)) (kt : x < y → Y G Z E md S tgt lv st) (kf : ¬ x < y → Y G Z E md S (pc + 3) lv st) : Y G Z E md S pc lv (.int y :: .int x :: st) := fun H locs ls hP hD hS hl => lv_icmp_lt hB.1 hB.2.1 hd ht (fun c => kt c H locs ls hP hD hS hl) (fun c => kf c H locs ls hP hD hS hl)
theorem Y_if_ge (hB : Bd G E md) {x : Int32} {off : Int} {tgt : Nat} (hd : decode md.2.1 pc = .ok (.ifCond .ge off, 3)) (ht : (pc : Int) + off = (tgt : Int)) (kt : 0 ≤ x → Y G Z E md S tgt lv st) (kf : ¬ 0 ≤ x → Y G Z E md S (pc + 3) lv st) : Y G Z E md S pc lv (.int x :: st) := fun H locs ls hP hD hS hl => lv_if_ge hB.1 hB.2.1 hd ht (fun c => kt c H locs ls hP hD hS hl) (fun c => kf c H locs ls hP hD hS hl)
theorem Y_icmp_ge (hB : Bd G E md) {x y : Int32} {off : Int} {tgt : Nat} (hd : decode md.2.1 pc = .ok (.if_icmp .ge off, 3)) (ht : (pc : Int) + off = (tgt : Int)) (kt : y ≤ x → Y G Z E md S tgt lv st) (kf : ¬ y ≤ x → Y G Z E md S (pc + 3) lv st) : Y G Z E md S pc lv (.int y :: .int x :: st) := fun H locs ls hP hD hS hl => lv_icmp_ge hB.1 hB.2.1 hd ht (fun c => kt c H locs ls hP hD hS hl) (fun c => kf c H locs ls hP hD hS hl)
theorem Y_if_gt (hB : Bd G E md) {x : Int32} {off : Int} {tgt : Nat} (hd : decode md.2.1 pc = .ok (.ifCond .gt off, 3)) (ht : (pc : Int) + off = (tgt : Int)) (kt : 0 < x → Y G Z E md S tgt lv st) (kf : ¬ 0 < x → Y G Z E md S (pc + 3) lv st) : Y G Z E md S pc lv (.int x :: st) := fun H locs ls hP hD hS hl => lv_if_gt hB.1 hB.2.1 hd ht (fun c => kt c H locs ls hP hD hS hl) (fun c => kf c H locs ls hP hD hS hl)
theorem Y_icmp_gt (hB : Bd G E md) {x y : Int32} {off : Int} {tgt : Nat} (hd : decode md.2.1 pc = .ok (.if_icmp .gt off, 3)) (ht : (pc : Int) + off = (tgt : Int)) (kt : y < x → Y G Z E md S tgt lv st) (kf : ¬ y < x → Y G Z E md S (pc + 3) lv st) : Y G Z E md S pc lv (.int y :: .int x :: st) := fun H locs ls hP hD hS hl => lv_icmp_gt hB.1 hB.2.1 hd ht (fun c => kt c H locs ls hP hD hS hl) (fun c => kf c H locs ls hP hD hS hl)
theorem Y_if_le (hB : Bd G E md) {x : Int32} {off : Int} {tgt : Nat} (hd : decode md.2.1 pc = .ok (.ifCond .le off, 3)) (ht : (pc : Int) + off = (tgt : Int)) (kt : x ≤ 0 → Y G Z E md S tgt lv st) (kf : ¬ x ≤ 0 → Y G Z E md S (pc + 3) lv st) : Y G Z E md S pc lv (.int x :: st) := fun H locs ls hP hD hS hl => lv_if_le hB.1 hB.2.1 hd ht (fun c => kt c H locs ls hP hD hS hl) (fun c => kf c H locs ls hP hD hS hl)
theorem Y_icmp_le (hB : Bd G E md) {x y : Int32} {off : Int} {tgt : Nat} (hd : decode md.2.1 pc = .ok (.if_icmp .le off, 3)) (ht : (pc : Int) + off = (tgt : Int)) (kt : x ≤ y → Y G Z E md S tgt lv st) (kf : ¬ x ≤ y → Y G Z E md S (pc + 3) lv st) : Y G Z E md S pc lv (.int y :: .int x :: st) := fun H locs ls hP hD hS hl => lv_icmp_le hB.1 hB.2.1 hd ht (fun c => kt c H locs ls hP hD hS hl) (fun c => kf c H locs ls hP hD hS hl)
theorem Y_ifnonnull (hB : Bd G E md) {x : Nat} {off : Int} {tgt : Nat} (hd : decode md.2.1 pc = .ok (.ifnonnull off, 3)) (ht : (pc : Int) + off = (tgt : Int)) (k : Y G Z E md S tgt lv st) : Y G Z E md S pc lv (.ref x :: st) := fun H locs ls hP hD hS hl => lv_ifnonnull hB.1 hB.2.1 hd ht (k H locs ls hP hD hS hl)
theorem Y_ifnonnullN (hB : Bd G E md) {off : Int} (hd : decode md.2.1 pc = .ok (.ifnonnull off, 3)) (k : Y G Z E md S (pc + 3) lv st) : Y G Z E md S pc lv (.null :: st) := fun H locs ls hP hD hS hl => lv_ifnonnullN hB.1 hB.2.1 hd (k H locs ls hP hD hS hl)
theorem Y_ifnull (hB : Bd G E md) {x : Nat} {off : Int} (hd : decode md.2.1 pc = .ok (.ifnull off, 3)) (k : Y G Z E md S (pc + 3) lv st) : Y G Z E md S pc lv (.ref x :: st) := fun H locs ls hP hD hS hl => lv_ifnull hB.1 hB.2.1 hd (k H locs ls hP hD hS hl)
theorem Y_ifnullN (hB : Bd G E md) {off : Int} {tgt : Nat} (hd : decode md.2.1 pc = .ok (.ifnull off, 3)) (ht : (pc : Int) + off = (tgt : Int)) (k : Y G Z E md S tgt lv st) : Y G Z E md S pc lv (.null :: st) := fun H locs ls hP hD hS hl => lv_ifnullN hB.1 hB.2.1 hd ht (k H locs ls hP hD hS hl)
theorem Y_tableOut (hB : Bd G E md) {dflt lo hi : Int} {offs : Array Int} {len : Nat} {x : Int32} {tgt : Nat} (hd : decode md.2.1 pc = .ok (.tableswitch dflt lo hi offs, len)) (h : x.toInt < lo ∨ hi < x.toInt) (ht : (pc : Int) + dflt = (tgt : Int)) (k : Y G Z E md S tgt lv st) : Y G Z E md S pc lv (.int x :: st) := fun H locs ls hP hD hS hl => lv_tableOut hB.1 hB.2.1 hd h ht (k H locs ls hP hD hS hl)
theorem Y_tableIn (hB : Bd G E md) {dflt lo hi : Int} {offs : Array Int} {len : Nat} {x : Int32} {off : Int} {tgt : Nat} (hd : decode md.2.1 pc = .ok (.tableswitch dflt lo hi offs, len)) (h1 : ¬ x.toInt < lo) (h2 : ¬ hi < x.toInt) (ho : offs[(x.toInt - lo).toNat]? = some off) (ht : (pc : Int) + off = (tgt : Int)) (k : Y G Z E md S tgt lv st) : Y G Z E md S pc lv (.int x :: st) := fun H locs ls hP hD hS hl => lv_tableIn hB.1 hB.2.1 hd h1 h2 ho ht (k H locs ls hP hD hS hl)

theorem Y_getV (hB : Bd G E md) {a ci f idx : Nat} {Cn : String} {T : u_T} {v : Value} (hc : cwd ci Cn T) (hf : fwd md.1.cls idx ci f T) (ha : a ∈ gL G) (hk : gK G a = .inl ci) (hd : decode md.2.1 pc = .ok (.getfield idx, 3)) (hv : slv S a ci f = v) (k : Y G Z E md S (pc + 3) lv (v :: st)) : Y G Z E md S pc lv (.ref a :: st) := fun H locs ls hP hD hS hl => by
  obtain ⟨q, hq⟩ := gw_get S ha
  have hq2 : (gw G S)[q]? = some (a, .inr (ci, flv S a ci)) := by rw [hq]; unfold cel; rw [hk]
  exact va_get (D := gD G) hB.1 hB.2.1 hB.2.2.2.2.2.2.1 hc.2.1 hB.2.2.2.2.2.1 hB.2.2.2.2.2.2.2.1 hP q hq2 hc.1 f hf.1 (hB.2.2.2.2.2.2.1 _ hf.2) (fun _ h => h) (by rw [flv_get S hf.1, hv]) hd (k H locs ls hP hD hS hl)
theorem Y_geti (hB : Bd G E md) {a ci f idx : Nat} {Cn : String} {T : u_T} (hc : cwd ci Cn T) (hf : fwd md.1.cls idx ci f T) (hs : skd (tyOf ci f) = 0) (ha : a ∈ gL G) (hk : gK G a = .inl ci) (hd : decode md.2.1 pc = .ok (.getfield idx, 3)) (k : Y G Z E md S (pc + 3) lv (.int (S.1 a f) :: st)) : Y G Z E md S pc lv (.ref a :: st) :=
  Y_getV hB hc hf ha hk hd (by unfold slv; rw [if_pos hs]) k
theorem Y_getj (hB : Bd G E md) {a ci f idx : Nat} {Cn : String} {T : u_T} (hc : cwd ci Cn T) (hf : fwd md.1.cls idx ci f T) (hs : skd (tyOf ci f) = 1) (ha : a ∈ gL G) (hk : gK G a = .inl ci) (hd : decode md.2.1 pc = .ok (.getfield idx, 3)) (k : Y G Z E md S (pc + 3) lv (.long (S.2.1 a f) :: st)) : Y G Z E md S pc lv (.ref a :: st) :=
  Y_getV hB hc hf ha hk hd (by unfold slv; rw [if_neg (by rw [hs]; decide), if_pos hs]) k
theorem Y_getr (hB : Bd G E md) {a ci f idx b : Nat} {Cn : String} {T : u_T} (hc : cwd ci Cn T) (hf : fwd md.1.cls idx ci f T) (hs : skd (tyOf ci f) = 2) (ha : a ∈ gL G) (hk : gK G a = .inl ci) (hr : S.2.2 a f = some b) (hd : decode md.2.1 pc = .ok (.getfield idx, 3)) (k : Y G Z E md S (pc + 3) lv (.ref b :: st)) : Y G Z E md S pc lv (.ref a :: st) :=
  Y_getV hB hc hf ha hk hd (by unfold slv; rw [if_neg (by rw [hs]; decide), if_neg (by rw [hs]; decide), hr]; rfl) k
theorem Y_putV (hB : Bd G E md) {a ci f idx : Nat} {Cn : String} {T : u_T} {v : Value} {S' : St} (hc : cwd ci Cn T) (hf : fwd md.1.cls idx ci f T) (hfin : (T f).2.2.2 = false) (hn : narrow (tyOf ci f) v = v) (hfit : fits (tyOf ci f) v = true) (ha : a ∈ gL G) (hk : gK G a = .inl ci) (hd : decode md.2.1 pc = .ok (.putfield idx, 3))
    (hs : ∀ j, j < nOf ci → slv S' a ci j = if j = f then v else slv S a ci j) (ho : ∀ b, b ≠ a → S'.1 b = S.1 b ∧ S'.2.1 b = S.2.1 b ∧ S'.2.2 b = S.2.2 b) (k : Y G Z E md S' (pc + 3) lv st) : Y G Z E md S pc lv (v :: .ref a :: st) := fun H locs ls hP hD hS hl => by
  obtain ⟨q, hq⟩ := gw_get S ha
  have hq2 : (gw G S)[q]? = some (a, .inr (ci, flv S a ci)) := by rw [hq]; unfold cel; rw [hk]
  have he : (Sum.inr (ci, (flv S a ci).set f v) : va_E) = cel G S' a := by
    unfold cel; rw [hk]; show _ = Sum.inr (ci, flv S' a ci); rw [flv_set S S' hs]
  have hset := gw_set hD ha hq he ho
  refine va_put (D := gD G) hB.1 hB.2.1 hB.2.2.2.2.2.2.1 hc.2.1 (tyOf ci) hc.2.2.1 hc.2.2.2 hB.2.2.2.2.2.1 hB.2.2.2.2.2.2.2.1 hP hD hS q hq2 hc.1 f hf.1 (hB.2.2.2.2.2.2.1 _ hf.2) (fun _ h => h) hfin (hc.2.2.1 f hf.1) hn hfit (by rw [flv_len]; exact hf.1) hd (fun H1 locs1 hP1 hD1 hS1 => ?_)
  rw [hset] at hP1 hD1
  exact k H1 locs1 ls hP1 hD1 hS1 hl
theorem Y_puti (hB : Bd G E md) {a ci f idx : Nat} {Cn : String} {T : u_T} {x : Int32} (hc : cwd ci Cn T) (hf : fwd md.1.cls idx ci f T) (hfin : (T f).2.2.2 = false) (hty : tyOf ci f = .int) (ha : a ∈ gL G) (hk : gK G a = .inl ci) (hd : decode md.2.1 pc = .ok (.putfield idx, 3)) (k : Y G Z E md (setI S a f x) (pc + 3) lv st) : Y G Z E md S pc lv (.int x :: .ref a :: st) :=
  Y_putV hB hc hf hfin (by rw [hty]; rfl) (by rw [hty]; rfl) ha hk hd (slv_setI S (by rw [hty]; rfl)) (oth_I S a f x) k
theorem Y_putr (hB : Bd G E md) {a ci f idx b : Nat} {Cn Cr : String} {T : u_T} (hc : cwd ci Cn T) (hf : fwd md.1.cls idx ci f T) (hfin : (T f).2.2.2 = false) (hty : tyOf ci f = .object Cr) (ha : a ∈ gL G) (hk : gK G a = .inl ci) (hd : decode md.2.1 pc = .ok (.putfield idx, 3)) (k : Y G Z E md (setR S a f (some b)) (pc + 3) lv st) : Y G Z E md S pc lv (.ref b :: .ref a :: st) :=
  Y_putV hB hc hf hfin (by rw [hty]; rfl) (by rw [hty]; rfl) ha hk hd (slv_setR S (by rw [hty]; rfl)) (oth_R S a f (some b)) k
theorem Y_iald (hB : Bd G E md) {a m : Nat} {i : Int32} (ha : a ∈ gL G) (hk : gK G a = .inr (0, m)) (hi : vp_in i m) (hd : decode md.2.1 pc = .ok (.iaload, 1)) (k : Y G Z E md S (pc + 1) lv (.int (S.1 a i.toNatClampNeg) :: st)) : Y G Z E md S pc lv (.int i :: .ref a :: st) := fun H locs ls hP hD hS hl => by
  obtain ⟨q, hq⟩ := gw_get S ha
  have hq2 : (gw G S)[q]? = some (a, .inl (gC G 0, m, .inl (S.1 a))) := by rw [hq]; unfold cel; rw [hk]; rfl
  exact va_iald (D := gD G) hB.1 hB.2.1 hB.2.2.2.2.2.2.2.1 hP q 0 hq2 (gT_at G (by decide)) hi hd (k H locs ls hP hD hS hl)
theorem Y_iast (hB : Bd G E md) {a m : Nat} {i x : Int32} (ha : a ∈ gL G) (hk : gK G a = .inr (0, m)) (hi : vp_in i m) (hd : decode md.2.1 pc = .ok (.iastore, 1)) (k : Y G Z E md (setI S a i.toNatClampNeg x) (pc + 1) lv st) : Y G Z E md S pc lv (.int x :: .int i :: .ref a :: st) := fun H locs ls hP hD hS hl => by
  obtain ⟨q, hq⟩ := gw_get S ha
  have hq2 : (gw G S)[q]? = some (a, .inl (gC G 0, m, .inl (S.1 a))) := by rw [hq]; unfold cel; rw [hk]; rfl
  have he : (Sum.inl (gC G 0, m, .inl (upd (S.1 a) i.toNatClampNeg x)) : va_E) = cel G (setI S a i.toNatClampNeg x) a := by
    unfold cel; rw [hk]; show _ = Sum.inl (gC G 0, m, Sum.inl (ups S.1 a i.toNatClampNeg x a)); rw [ups_row]; rfl
  have hset := gw_set hD ha hq he (oth_I S a i.toNatClampNeg x)
  refine va_iast (D := gD G) hB.1 hB.2.1 hB.2.2.2.2.2.2.2.1 hP hD hS q 0 hq2 (gT_at G (by decide)) hi hd (fun H1 locs1 hP1 hD1 hS1 => ?_)
  rw [hset] at hP1 hD1
  exact k H1 locs1 ls hP1 hD1 hS1 hl
theorem Y_aast (hB : Bd G E md) {a m t b ci : Nat} {i : Int32} {Cn : String} {T : u_T} (hc : cwd ci Cn T) (ha : a ∈ gL G) (hk : gK G a = .inr (t, m)) (ht : 3 < t ∧ t < 9) (hty : atyOf t = .object Cn) (hb : b ∈ gL G) (hkb : gK G b = .inl ci) (hi : vp_in i m) (hd : decode md.2.1 pc = .ok (.aastore, 1)) (k : Y G Z E md (setR S a i.toNatClampNeg (some b)) (pc + 1) lv st) : Y G Z E md S pc lv (.ref b :: .int i :: .ref a :: st) := fun H locs ls hP hD hS hl => by
  obtain ⟨q, hq⟩ := gw_get S ha
  obtain ⟨q', hq'⟩ := gw_get S hb
  have hq2 : (gw G S)[q]? = some (a, .inl (gC G t, m, .inr (.inr (.inr (.inr (S.2.2 a)))))) := by rw [hq]; unfold cel; rw [hk]; show some (a, Sum.inl (gC G t, m, arv S a t)) = _; rw [arv_ref S a ht.1]
  have hq3 : (gw G S)[q']? = some (b, .inr (ci, flv S b ci)) := by rw [hq']; unfold cel; rw [hkb]
  have he : (Sum.inl (gC G t, m, .inr (.inr (.inr (.inr (va_up (S.2.2 a) i.toNatClampNeg (some b)))))) : va_E) = cel G (setR S a i.toNatClampNeg (some b)) a := by
    unfold cel; rw [hk]; show _ = Sum.inl (gC G t, m, arv (setR S a i.toNatClampNeg (some b)) a t); rw [arv_ref _ a ht.1]; show _ = Sum.inl (gC G t, m, Sum.inr (Sum.inr (Sum.inr (Sum.inr (ups S.2.2 a i.toNatClampNeg (some b) a))))); rw [ups_row]; rfl
  have hset := gw_set hD ha hq he (oth_R S a i.toNatClampNeg (some b))
  refine va_astq (D := gD G) (r := (Cn, T, nOf ci)) hB.1 hB.2.1 hB.2.2.2.2.2.2.2.1 hP hD hS q t q' ci hq2 (by rw [gT_at G ht.2, hty]) hq3 hc.1 hi hd (fun H1 locs1 hP1 hD1 hS1 => ?_)
  rw [hset] at hP1 hD1
  exact k H1 locs1 ls hP1 hD1 hS1 hl
/-- the end of a method -/
theorem Y_putFV (hB : Bd G E md) {a ci f idx : Nat} {Cn : String} {T : u_T} {v : Value} {S' : St} (hc : cwd ci Cn T) (hf : fwd md.1.cls idx ci f T) (hfin : (T f).2.2.2 = true) (hin2 : E.2.2.2.2.2.2.1.name = "<init>") (hdecl : (T f).1 = md.1.cls) (hn : narrow (tyOf ci f) v = v) (hfit : fits (tyOf ci f) v = true) (ha : a ∈ gL G) (hk : gK G a = .inl ci) (hd : decode md.2.1 pc = .ok (.putfield idx, 3))
    (hs : ∀ j, j < nOf ci → slv S' a ci j = if j = f then v else slv S a ci j) (ho : ∀ b, b ≠ a → S'.1 b = S.1 b ∧ S'.2.1 b = S.2.1 b ∧ S'.2.2 b = S.2.2 b) (k : Y G Z E md S' (pc + 3) lv st) : Y G Z E md S pc lv (v :: .ref a :: st) := fun H locs ls hP hD hS hl => by
  obtain ⟨q, hq⟩ := gw_get S ha
  have hq2 : (gw G S)[q]? = some (a, .inr (ci, flv S a ci)) := by rw [hq]; unfold cel; rw [hk]
  have he : (Sum.inr (ci, (flv S a ci).set f v) : va_E) = cel G S' a := by
    unfold cel; rw [hk]; show _ = Sum.inr (ci, flv S' a ci); rw [flv_set S S' hs]
  have hset := gw_set hD ha hq he ho
  refine va_putF (D := gD G) hB.1 hB.2.1 hB.2.2.2.2.2.2.1 hc.2.1 (tyOf ci) hc.2.2.1 hc.2.2.2 hB.2.2.2.2.2.1 hB.2.2.2.2.2.2.2.1 hP hD hS q hq2 hc.1 f hf.1 (hB.2.2.2.2.2.2.1 _ hf.2) (fun _ h => h) hfin hin2 hdecl (hc.2.2.1 f hf.1) hn hfit (by rw [flv_len]; exact hf.1) hd (fun H1 locs1 hP1 hD1 hS1 => ?_)
  rw [hset] at hP1 hD1
  exact k H1 locs1 ls hP1 hD1 hS1 hl

theorem Y_putFi (hB : Bd G E md) {a ci f idx : Nat} {Cn : String} {T : u_T} {x : Int32} (hc : cwd ci Cn T) (hf : fwd md.1.cls idx ci f T) (hfin : (T f).2.2.2 = true) (hin2 : E.2.2.2.2.2.2.1.name = "<init>") (hdecl : (T f).1 = md.1.cls) (hty : tyOf ci f = .int) (ha : a ∈ gL G) (hk : gK G a = .inl ci) (hd : decode md.2.1 pc = .ok (.putfield idx, 3)) (k : Y G Z E md (setI S a f x) (pc + 3) lv st) : Y G Z E md S pc lv (.int x :: .ref a :: st) :=
  Y_putFV hB hc hf hfin hin2 hdecl (by rw [hty]; rfl) (by rw [hty]; rfl) ha hk hd (slv_setI S (by rw [hty]; rfl)) (oth_I S a f x) k
theorem Y_putFr (hB : Bd G E md) {a ci f idx b : Nat} {Cn : String} {T : u_T} (hc : cwd ci Cn T) (hf : fwd md.1.cls idx ci f T) (hfin : (T f).2.2.2 = true) (hin2 : E.2.2.2.2.2.2.1.name = "<init>") (hdecl : (T f).1 = md.1.cls) (hs : skd (tyOf ci f) = 2) (hn : narrow (tyOf ci f) (.ref b) = .ref b) (hfit : fits (tyOf ci f) (.ref b) = true) (ha : a ∈ gL G) (hk : gK G a = .inl ci) (hd : decode md.2.1 pc = .ok (.putfield idx, 3)) (k : Y G Z E md (setR S a f (some b)) (pc + 3) lv st) : Y G Z E md S pc lv (.ref b :: .ref a :: st) :=
  Y_putFV hB hc hf hfin hin2 hdecl hn hfit ha hk hd (slv_setR S hs) (oth_R S a f (some b)) k
theorem Y_topi {x y : Int32} (h : x = y) (k : Y G Z E md S pc lv (.int y :: st)) : Y G Z E md S pc lv (.int x :: st) := by rw [h]; exact k
theorem Y_topl {x y : Int64} (h : x = y) (k : Y G Z E md S pc lv (.long y :: st)) : Y G Z E md S pc lv (.long x :: st) := by rw [h]; exact k
theorem Y_lv {lv' : List (Option Value)} (h : lv = lv') (k : Y G Z E md S pc lv' st) : Y G Z E md S pc lv st := by rw [h]; exact k
end YR
/-- the first k cells of a memory -/
def gk (G : Gc) (k : Nat) : Gc := (G.1, G.2.1, G.2.2.1, G.2.2.2.1, List.range' G.2.2.2.1 k, G.2.2.2.2.2)
/-- what is not yet there is blank -/
def zr (G : Gc) (S : St) (k : Nat) : Prop := ∀ a, gz G + k ≤ a → (∀ j, S.1 a j = 0) ∧ (∀ j, S.2.1 a j = 0) ∧ ∀ j, S.2.2 a j = none
theorem zr.mono {G : Gc} {S : St} {k k' : Nat} (h : zr G S k) (hk : k ≤ k') : zr G S k' := fun a ha => h a (by omega)
theorem zr.I {G : Gc} {S : St} {k a j : Nat} {v : Int32} (h : zr G S k) (ha : a < gz G + k) : zr G (setI S a j v) k := fun b hb => by
  obtain ⟨h1, h2, h3⟩ := h b hb
  exact ⟨fun i => by rw [setI_ne _ _ (Or.inl (by omega))]; exact h1 i, h2, h3⟩
theorem zr.R {G : Gc} {S : St} {k a j : Nat} {v : Option Nat} (h : zr G S k) (ha : a < gz G + k) : zr G (setR S a j v) k := fun b hb => by
  obtain ⟨h1, h2, h3⟩ := h b hb
  exact ⟨h1, h2, fun i => by rw [setR_ne _ _ (Or.inl (by omega))]; exact h3 i⟩
theorem gk_at {G : Gc} {S : St} {k i : Nat} (h : i < k) : (gw (gk G k) S)[i]? = some (gz G + i, cel (gk G k) S (gz G + i)) := by
  show ((List.range' (gz G) k).map (fun a => (a, cel (gk G k) S a)))[i]? = _
  rw [List.getElem?_map, List.getElem?_range' h]
  simp
theorem gk_mem {G : Gc} {k a : Nat} (h1 : gz G ≤ a) (h2 : a < gz G + k) : a ∈ gL (gk G k) := by
  show a ∈ List.range' (gz G) k
  rw [List.mem_range'_1]
  exact ⟨h1, h2⟩
theorem gk_suc {G : Gc} {S : St} {k : Nat} : gw (gk G (k + 1)) S = gw (gk G k) S ++ [(gz G + k, cel (gk G k) S (gz G + k))] := by
  show List.map (fun a => (a, cel (gk G (k + 1)) S a)) (List.range' (gz G) (k + 1)) = List.map (fun a => (a, cel (gk G k) S a)) (List.range' (gz G) k) ++ _
  rw [List.range'_1_concat, List.map_append]
  rfl
theorem gk_len {G : Gc} {S : St} {k : Nat} : (gw (gk G k) S).length = k := by
  show ((List.range' (gz G) k).map _).length = k
  rw [List.length_map, List.length_range']
/-- the address of what is new -/
theorem gk_new {G : Gc} {S : St} {k q n : Nat} {e : va_E} {H1 : Heap} (hP1 : va_P (gD G) vwCl (gw (gk G k) S ++ [(q, e)]) H1) (hD1 : va_D (gA G) (gw (gk G k) S ++ [(q, e)])) (hle : H1.size ≤ n) (hn : n = gz G + k + 1) : q = gz G + k := by
  have hl : (gw (gk G k) S ++ [(q, e)])[k]? = some (q, e) := by
    rw [List.getElem?_append_right (by rw [gk_len]; exact Nat.le_refl _), gk_len, Nat.sub_self]; rfl
  have h1 : q < H1.size := (hP1 k _ hl).lt
  have h2 : gz G ≤ q := hD1.2 k _ hl
  by_cases c : q < gz G + k
  · have hi : q - gz G < k := by omega
    have hg : (gw (gk G k) S ++ [(q, e)])[q - gz G]? = some (gz G + (q - gz G), cel (gk G k) S (gz G + (q - gz G))) := by
      rw [List.getElem?_append_left (by rw [gk_len]; exact hi)]; exact gk_at hi
    have := hD1.1 _ _ _ _ hg hl (show gz G + (q - gz G) = q by omega)
    omega
  · omega
theorem W_sz {p : Program} {l : Launch} {e : Env} {R : Room} {s : State} {m : MethodId} {args : Array Value} {below : List Frame} {meth : Method} {c : Code} {H : Heap} {locs : List Loc} {cells slots : Nat} {Q : State → Prop} {g : JFrame} (h : H.size ≤ s.heap.size + cells → W p l e R s m args below meth c H locs cells slots Q g) : W p l e R s m args below meth c H locs cells slots Q g := fun T hT X => h (by rw [← hT]; exact X.same.2.2.1) T hT X
theorem gk_low {G : Gc} {E : Ev} {md : Md} {S : St} {k : Nat} {H : Heap} {locs : List Loc} (hB : Bd (gk G k) E md) (hP : va_P (gD G) vwCl (gw (gk G k) S) H) (hS : va_S (gA G) E.2.2.1.heap H locs) : gz G + k ≤ H.size := by
  by_cases c : k = 0
  · have h1 : gz G ≤ E.2.2.1.heap.size := hB.2.2.2.2.2.2.2.2.1
    have h2 := hS.1
    omega
  · have h1 := (hP (k - 1) _ (gk_at (show k - 1 < k by omega))).lt
    have h1 : gz G + (k - 1) < H.size := h1
    omega
theorem dv_all : ∀ ci, ci < 11 → ∀ j, j < nOf ci → defaultValue (tyOf ci j) = if skd (tyOf ci j) = 0 then .int 0 else if skd (tyOf ci j) = 1 then .long 0 else .null := by decide +kernel
section YN
variable {G : Gc} {R : Room} {F : State → Prop} {E : Ev} {md : Md} {S : St} {pc : Nat} {lv : List (Option Value)} {st : List Value} {k c v : Nat}
theorem Y_new (hB : Bd (gk G k) E md) {idx ci : Nat} {Cn : String} {T : u_T} (hci : ci < 11) (hc : cwd ci Cn T) (hcl : Cond.classLink md.1.cls idx Cn ∈ lw_gd) (hins : Cond.instantiable Cn (nOf ci) ∈ lw_gd) (hini : Cond.initialized Cn ∈ lw_gd) (hk : gK G (gz G + k) = .inl ci) (hz : zr G S k) (hsz : E.2.2.1.heap.size + c = gz G + k) (hc1 : c + 1 ≤ R.cells) (hv1 : v + nOf ci ≤ R.slots) (hd : decode md.2.1 pc = .ok (.new idx, 3)) (kk : Y (gk G (k + 1)) (R, c + 1, v + nOf ci, F) E md S (pc + 3) lv (.ref (gz G + k) :: st)) : Y (gk G k) (R, c, v, F) E md S pc lv st := fun H locs ls hP hD hS hl => by
  have hts := hB.2.2.2.2.2.2.1
  have hz0 : gz G ≤ E.2.2.1.heap.size := hB.2.2.2.2.2.2.2.2.1
  refine va_new (D := gD G) (ci := ci) (fs := flv S (gz G + k) ci) hB.1 hB.2.1 hts hc.2.1 (tyOf ci) hc.2.2.1 hB.2.2.2.2.2.1 (hts _ hcl) (hts _ hins) (hts _ hini) hB.2.2.2.2.2.2.2.1 hP hD hS (fun q hq => Nat.le_trans hz0 hq) hc.1 (fun j hj => ?_) hc1 hv1 hd (fun q H1 hP1 hD1 hS1 => ?_)
  · rw [dv_all ci hci j hj]
    obtain ⟨z1, z2, z3⟩ := hz (gz G + k) (Nat.le_refl _)
    unfold vp_V
    rw [List.getD_eq_getElem?_getD, flv_get S hj]
    show _ = slv S (gz G + k) ci j
    unfold slv
    rw [z1 j, z2 j, z3 j]
    rfl
  · refine W_sz (fun hle => ?_)
    have hle : H1.size ≤ E.2.2.1.heap.size + (c + 1) := hle
    have hq := gk_new (G := G) hP1 hD1 hle (by omega)
    subst hq
    have he : (Sum.inr (ci, flv S (gz G + k) ci) : va_E) = cel (gk G k) S (gz G + k) := by
      show _ = (match gK G (gz G + k) with
        | .inl ci => Sum.inr (ci, flv S (gz G + k) ci)
        | .inr (t, n) => Sum.inl (gC G t, n, arv S (gz G + k) t))
      rw [hk]
    rw [he, ← gk_suc] at hP1 hD1
    exact kk H1 locs ls hP1 hD1 hS1 hl
theorem Y_newa (hB : Bd (gk G k) E md) {atype : ArrayType} {t N : Nat} {n : Int32} (ht : t < 4) (hw : Cond.arrayClass (newarray.typeOf atype) ∈ lw_gd) (hty : newarray.typeOf atype = atyOf t) (hk : gK G (gz G + k) = .inr (t, N)) (hz : zr G S k) (hsz : E.2.2.1.heap.size + c = gz G + k) (hn : ¬ n < 0) (hN : n.toNatClampNeg = N) (hby : N * componentBytes (atyOf t) ≤ 536870912) (hc1 : c + 1 ≤ R.cells) (hv1 : v + N ≤ R.slots) (hd : decode md.2.1 pc = .ok (.newarray atype, 2)) (kk : Y (gk G (k + 1)) (R, c + 1, v + N, F) E md S (pc + 2) lv (.ref (gz G + k) :: st)) : Y (gk G k) (R, c, v, F) E md S pc lv (.int n :: st) := fun H locs ls hP hD hS hl => by
  have hts := hB.2.2.2.2.2.2.1
  have hz0 : gz G ≤ E.2.2.1.heap.size := hB.2.2.2.2.2.2.2.2.1
  obtain ⟨z1, z2, z3⟩ := hz (gz G + k) (Nat.le_refl _)
  have e1 : S.1 (gz G + k) = fun _ => 0 := funext z1
  have e2 : S.2.1 (gz G + k) = fun _ => 0 := funext z2
  have hK := hB.2.2.2.2.2.2.2.1
  refine va_newa (D := gD G) (atype := atype) (a0 := (N, arv S (gz G + k) t)) hB.1 hB.2.1 (hts _ hw) hty hK hP hD hS (fun q hq => Nat.le_trans hz0 hq) (fun cA => ?_) hn hN hby hc1 hv1 hd (fun q cA H1 hK1 hP1 hD1 hS1 => ?_)
  · rcases (show t = 0 ∨ t = 1 ∨ t = 2 ∨ t = 3 by omega) with rfl | rfl | rfl | rfl
    · show vp_cell cA (N, Sum.inl (S.1 (gz G + k))) = _
      rw [e1]; rfl
    · show vp_cell cA (N, Sum.inl (S.1 (gz G + k))) = _
      rw [e1]; rfl
    · show vp_cell cA (N, Sum.inl (S.1 (gz G + k))) = _
      rw [e1]; rfl
    · show vp_cell cA (N, Sum.inr (Sum.inl (S.2.1 (gz G + k)))) = _
      rw [e2]; rfl
  · refine W_sz (fun hle => ?_)
    have hle : H1.size ≤ E.2.2.1.heap.size + (c + 1) := hle
    have hq := gk_new (G := G) hP1 hD1 hle (by omega)
    subst hq
    have hg : cA = gC G t := by
      have h1 : va_RA E.2.2.1 cA (atyOf t) := (hK1.2 9 (cA, atyOf t) (by rw [List.getElem?_append_right (by simp [gT])]; simp [gT])).2
      have h2 : va_RA E.2.2.1 (gC G t) (atyOf t) := (hK.2 t _ (gT_at (gk G k) (show t < 9 by omega))).2
      rcases (show t = 0 ∨ t = 1 ∨ t = 2 ∨ t = 3 by omega) with rfl | rfl | rfl | rfl <;> exact Option.some.inj ((show _ = some cA from h1).symm.trans (show _ = some _ from h2))
    subst hg
    have he : (Sum.inl (gC G t, N, arv S (gz G + k) t) : va_E) = cel (gk G k) S (gz G + k) := by
      show _ = (match gK G (gz G + k) with
        | .inl ci => Sum.inr (ci, flv S (gz G + k) ci)
        | .inr (t, n) => Sum.inl (gC G t, n, arv S (gz G + k) t))
      rw [hk]
    have he2 : ((gz G + k, Sum.inl (gC G t, (N, arv S (gz G + k) t))) : Nat × va_E) = (gz G + k, cel (gk G k) S (gz G + k)) := by rw [← he]
    rw [he2, ← gk_suc] at hP1 hD1
    exact kk H1 locs ls hP1 hD1 hS1 hl
theorem Y_anew (hB : Bd (gk G k) E md) {idx t N : Nat} {Cn : String} {n : Int32} (ht : 3 < t ∧ t < 9) (hty : atyOf t = .object Cn) (hcl : Cond.classLink md.1.cls idx Cn ∈ lw_gd) (hao : va_AO Cn E.2.2.1) (hk : gK G (gz G + k) = .inr (t, N)) (hz : zr G S k) (hsz : E.2.2.1.heap.size + c = gz G + k) (hn : ¬ n < 0) (hN : n.toNatClampNeg = N) (hby : N * 4 ≤ 536870912) (hc1 : c + 1 ≤ R.cells) (hv1 : v + N ≤ R.slots) (hd : decode md.2.1 pc = .ok (.anewarray idx, 3)) (kk : Y (gk G (k + 1)) (R, c + 1, v + N, F) E md S (pc + 3) lv (.ref (gz G + k) :: st)) : Y (gk G k) (R, c, v, F) E md S pc lv (.int n :: st) := fun H locs ls hP hD hS hl => by
  have hts := hB.2.2.2.2.2.2.1
  have hz0 : gz G ≤ E.2.2.1.heap.size := hB.2.2.2.2.2.2.2.2.1
  obtain ⟨z1, z2, z3⟩ := hz (gz G + k) (Nat.le_refl _)
  have e3 : S.2.2 (gz G + k) = fun _ => none := funext z3
  have hK := hB.2.2.2.2.2.2.2.1
  refine va_newq (D := gD G) (C := Cn) hB.1 hB.2.1 hB.2.2.2.2.2.1 (hts _ hcl) hao hK hP hD hS (fun q hq => Nat.le_trans hz0 hq) hn hN hby hc1 hv1 hd (fun q cA H1 hK1 hP1 hD1 hS1 => ?_)
  refine W_sz (fun hle => ?_)
  have hle : H1.size ≤ E.2.2.1.heap.size + (c + 1) := hle
  have hq := gk_new (G := G) hP1 hD1 hle (by omega)
  subst hq
  have hg : cA = gC G t := by
    have h1 : va_RA E.2.2.1 cA (.object Cn) := (hK1.2 9 (cA, .object Cn) (by rw [List.getElem?_append_right (by simp [gT])]; simp [gT])).2
    have h2 : va_RA E.2.2.1 (gC G t) (atyOf t) := (hK.2 t _ (gT_at (gk G k) ht.2)).2
    rw [hty] at h2
    obtain ⟨-, -, -, -, -, f1⟩ := h1
    obtain ⟨-, -, -, -, -, f2⟩ := h2
    exact Option.some.inj (f1.symm.trans f2)
  subst hg
  have he : ((gz G + k, Sum.inl (gC G t, (N, Sum.inr (Sum.inr (Sum.inr (Sum.inr (fun _ => none))))))) : Nat × va_E) = (gz G + k, cel (gk G k) S (gz G + k)) := by
    have : cel (gk G k) S (gz G + k) = Sum.inl (gC G t, N, arv S (gz G + k) t) := by
      show (match gK G (gz G + k) with
        | .inl ci => Sum.inr (ci, flv S (gz G + k) ci)
        | .inr (t, n) => Sum.inl (gC G t, n, arv S (gz G + k) t)) = _
      rw [hk]
    rw [this, arv_ref S _ ht.1, e3]
  rw [he, ← gk_suc] at hP1 hD1
  exact kk H1 locs ls hP1 hD1 hS1 hl
theorem Y_oinit (hB : Bd G E md) {Z : Yp} {idx : Nat} {a : Nat} (h1 : Cond.methodLink md.1.cls idx Lib.objectInit ∈ lw_gd) (h2 : Cond.instanceMethod Lib.objectInit ∈ lw_gd) (h3 : Cond.code Lib.objectInit ⟨#[0xb1]⟩ 1 none ∈ lw_gd) (hfr : 1 ≤ Z.1.frames) (hlo : (st.map fun v => v.category).sum + 12 ≤ Z.1.locals) (hd : decode md.2.1 pc = .ok (.invokespecial idx, 3)) (kk : Y G Z E md S (pc + 3) lv st) : Y G Z E md S pc lv (.ref a :: st) := fun H locs ls hP hD hS hl => by
  have hts := hB.2.2.2.2.2.2.1
  exact W.objInit hB.1 hB.2.1 hB.2.2.2.2.2.1 (hts _ h1) (hts _ h2) (hts _ h3) rfl (by rw [hB.2.2.1]; exact hl.1) rfl hd hfr (by show 2 * 0 + _ + 12 ≤ _; omega) (kk H locs ls hP hD hS hl)
end YN
def QI (G : Gc) (Q : St → Prop) : Array Value → State → Outcome → State → Prop := fun _ st oc t => ∃ S' : St, oc = .returned none ∧ Q S' ∧ Cx G S' t ∧ va_F (gA G) st t
def YR (n mc ms : Nat) : Room := { frames := n, cells := mc, slots := ms, locals := 40 * n }
/-- a constructor's contract: the memory grows from k cells to k' -/
def CI (G : Gc) (md : Md) (n mc ms : Nat) (as : List Value) (k k' : Nat) (S : St) (Q : St → Prop) : Prop :=
  Met (gl G) md.1 (mws md) (YR n mc ms) (fun v U => v = as.toArray ∧ Cx (gk G k) S U ∧ U.heap.size = gz G + k) (QI (gk G k') Q) mc ms (gA G)
def YF (G : Gc) (E : Ev) (k' mc ms : Nat) (Q : St → Prop) : State → Prop := MQ E.2.2.2.2.2.1 (QI (gk G k') Q) E.2.2.2.2.1 E.2.2.1 mc ms (gA G)
theorem CI.mk {G : Gc} {md : Md} {n mc ms k k' : Nat} {as : List Value} {S : St} {Q : St → Prop} {lv : List (Option Value)} (hp : plainName md.1.cls = true) (hi : md.1.name = "<init>") (hlen : (lg_sl as).length ≤ md.2.2.1) (hlv : lvi as md.2.2.1 = lv) (body : ∀ E : Ev, Bd (gk G k) E md → E.2.2.1.heap.size = gz G + k → E.2.2.2.2.2.2.1.name = "<init>" → Y (gk G k) (YR n mc ms, 0, 0, YF G E k' mc ms Q) E md S 0 lv []) : CI G md n mc ms as k k' S Q := by
  refine Met.ofW (cc := md.2.1) (maxL := md.2.2.1) (ret := md.2.2.2) hp rfl ?_
  intro p e s m args below meth c s₁ B hml hv
  obtain ⟨rfl, ⟨hP, hK, hD, hz, hZ, hok⟩, hsz⟩ := hv
  have hts0 := atoms_spec (ws := mws md) B.pre
  have hts : ∀ w ∈ lw_gd, w.before as.toArray s = true := fun w h => hts0 w (List.mem_cons_of_mem _ h)
  have hB : Bd (gk G k) (p, e, s, m, as.toArray, below, meth, c) md := ⟨B.exec, B.bytes, hml, B.returns, B.notSynchronized, findClass_of_methodNamed B.named, hts, hK, hz, hZ, hok⟩
  have hnm : meth.name = "<init>" := ((name_of_methodNamed B.named B.method).1).trans hi
  have hl := lv_entry as (n := md.2.2.1) hlen
  have hl2 : lv_has ((lg_sl as ++ List.replicate (md.2.2.1 - (lg_sl as).length) Slot.unset).toArray) md.2.2.1 (lvp 0 lv) := by
    refine lvh_weak hl (fun j v h => ?_)
    rw [← hlv] at h
    have := lvl_args as 0 j v (lg_app_none _ _ j v h)
    rwa [Nat.zero_add] at this
  have := body _ hB hsz hnm s.heap [] _ hP hD va_S.rf hl2
  rw [lg_entry_eq]
  exact this
section YC
variable {G : Gc} {R : Room} {F : State → Prop} {E : Ev} {md md' : Md} {S : St} {pc : Nat} {lv : List (Option Value)} {st st0 As : List Value} {k k' c v n' mc' ms' idx np : Nat} {Q' : St → Prop}
def kCt (own : String) (idx : Nat) (md' : Md) (np : Nat) : Prop := Cond.methodLink own idx md'.1 ∈ lw_gd ∧ Cond.instanceMethod md'.1 ∈ lw_gd ∧ Cond.initialized md'.1.cls ∈ lw_gd ∧ Cond.code md'.1 md'.2.1 md'.2.2.1 none ∈ lw_gd ∧ md'.2.2.2 = none ∧ md'.1.name = "<init>" ∧ md'.1.cls ≠ "java/lang/invoke/MethodHandle" ∧ md'.1.cls ≠ "java/lang/invoke/VarHandle" ∧ (parseMethodDescriptor md'.1.desc).map (fun d => d.parameters.length) = some np
def kCtN (own host : String) (idx : Nat) (md' : Md) (np : Nat) (s : State) : Prop := va_Nw (.methodLinkNest own idx md'.1 host) s ∧ Cond.instanceMethod md'.1 ∈ lw_gd ∧ Cond.initialized md'.1.cls ∈ lw_gd ∧ Cond.code md'.1 md'.2.1 md'.2.2.1 none ∈ lw_gd ∧ md'.2.2.2 = none ∧ md'.1.name = "<init>" ∧ md'.1.cls ≠ "java/lang/invoke/MethodHandle" ∧ md'.1.cls ≠ "java/lang/invoke/VarHandle" ∧ (parseMethodDescriptor md'.1.desc).map (fun d => d.parameters.length) = some np
theorem CI_blind : FrameBlind (fun v U => v = As.toArray ∧ Cx (gk G k) S U ∧ U.heap.size = gz G + k) := fun a U g mk q => by
  obtain ⟨q1, ⟨hP, hK, hD, hz, hZ, hok⟩, hsz⟩ := q
  exact ⟨q1, ⟨hP, va_K.moved (u := U) (U := U.calling g mk a) (Vm.Alike.refl U.vm) hK, hD, hz, hok U _ (State.WarmedH.refl U) (fun _ _ => rfl) hZ, hok⟩, hsz⟩
theorem Y_runI (hB : Bd (gk G k) E md) (hS' : ∀ (H : Heap) (locs : List Loc) (ls : Array Slot), H.size = gz G + k → va_P (gD G) vwCl (gw (gk G k) S) H → va_D (gA G) (gw (gk G k) S) → va_S (gA G) E.2.2.1.heap H locs → lv_has ls md.2.2.1 (lvp 0 lv) →
    ∃ a, va_Run E.1 (gl G) E.2.1 R E.2.2.1 E.2.2.2.1 E.2.2.2.2.1 E.2.2.2.2.2.1 E.2.2.2.2.2.2.1 E.2.2.2.2.2.2.2 H locs c v mc' ms' (F0 E.2.2.2.1 pc ls st0) st (QI (gk G k') Q' a) (gA G)) (hsz : E.2.2.1.heap.size + c = gz G + k)
    (kk : ∀ S', Q' S' → Y (gk G k') (R, c + mc', v + ms', F) E md S' (pc + 3) lv st) : Y (gk G k) (R, c, v, F) E md S pc lv st0 := fun H locs ls hP hD hS hl => by
  refine W_sz (fun hle => ?_)
  have hlo := gk_low hB hP hS
  have hH : H.size = gz G + k := by
    have hle : H.size ≤ E.2.2.1.heap.size + c := hle
    omega
  obtain ⟨a, hr⟩ := hS' H locs ls hH hP hD hS hl
  intro T hT Xs
  obtain ⟨w, st₀, t, T', L, h0, X', hL, e1, e2, ⟨S', hv, hq, hCx, hz, hk⟩, stp⟩ := hr T hT Xs
  cases hv
  rw [h0] at hz hk
  obtain ⟨t2, a1, b1⟩ := kk S' hq T'.heap (locs ++ L) ls (by rw [e1]; exact hCx.1) hCx.2.2.1 ⟨Nat.le_trans hS.1 (by rw [e1]; exact hz), fun q h1 h2 => by rw [e1, hk q (Nat.lt_of_lt_of_le h1 hS.1) h2]; exact hS.2.1 q h1 h2, fun q hq => by
      rcases List.mem_append.mp hq with h | h
      · exact hS.2.2 q h
      · exact hL q h⟩ hl T' rfl X'
  exact ⟨t2, stp t2 a1, b1⟩
theorem Y_callI (hB : Bd (gk G k) E md) {b : Nat} (hk : kCt md.1.cls idx md' np) (hC : CI G md' n' mc' ms' (.ref b :: As) k k' S Q') (hsz : E.2.2.1.heap.size + c = gz G + k) (hn : n' + 1 ≤ R.frames) (hm : 19 + md'.2.2.1 + 40 * n' ≤ R.locals) (hcs : c + mc' ≤ R.cells ∧ v + ms' ≤ R.slots) (hlen : As.length = np) (hst : st0 = As.reverse ++ .ref b :: st) (hsm : (st.map fun v => v.category).sum ≤ 8) (hd : decode md.2.1 pc = .ok (.invokespecial idx, 3)) (kk : ∀ S', Q' S' → Y (gk G k') (R, c + mc', v + ms', F) E md S' (pc + 3) lv st) : Y (gk G k) (R, c, v, F) E md S pc lv st0 := by
  refine Y_runI (Q' := Q') hB (fun H locs ls hH hP hD hS hl => ⟨(Value.ref b :: As).toArray, ?_⟩) hsz kk
  obtain ⟨k1, k2, k3, k4, k0, k5, k6, k7, k8⟩ := hk
  have hts := hB.2.2.2.2.2.2.1
  exact va_runI (As := As) (rest := st) ⟨hB.1, hB.2.1, hB.2.2.1, hB.2.2.2.2.2.1, hts⟩ hC (cwI np hts (mws_good (md := md') (by rw [k0]; exact k4)) (by unfold mws; rw [k0]) rfl rfl (hts _ k3) (hts _ k1) (hts _ k2) k5 ⟨k6, k7, k8⟩ ⟨hn, by show 8 + (md'.2.2.1 + 11) + 40 * n' ≤ R.locals; omega⟩) ⟨CI_blind, fun U hU hW => ⟨rfl, (Cx_end hB hP hD hS hU hW).1, by rw [hU]; exact hH⟩⟩ rfl hlen hl.1 hst (lv_room hsm) hd hcs
theorem Y_callIN (hB : Bd (gk G k) E md) {b : Nat} {host : String} (hk : kCtN md.1.cls host idx md' np E.2.2.1) (hC : CI G md' n' mc' ms' (.ref b :: As) k k' S Q') (hsz : E.2.2.1.heap.size + c = gz G + k) (hn : n' + 1 ≤ R.frames) (hm : 19 + md'.2.2.1 + 40 * n' ≤ R.locals) (hcs : c + mc' ≤ R.cells ∧ v + ms' ≤ R.slots) (hlen : As.length = np) (hst : st0 = As.reverse ++ .ref b :: st) (hsm : (st.map fun v => v.category).sum ≤ 8) (hd : decode md.2.1 pc = .ok (.invokespecial idx, 3)) (kk : ∀ S', Q' S' → Y (gk G k') (R, c + mc', v + ms', F) E md S' (pc + 3) lv st) : Y (gk G k) (R, c, v, F) E md S pc lv st0 := by
  refine Y_runI (Q' := Q') hB (fun H locs ls hH hP hD hS hl => ⟨(Value.ref b :: As).toArray, ?_⟩) hsz kk
  obtain ⟨k1, k2, k3, k4, k0, k5, k6, k7, k8⟩ := hk
  have hts := hB.2.2.2.2.2.2.1
  exact va_runIN (As := As) (rest := st) ⟨hB.1, hB.2.1, hB.2.2.1, hB.2.2.2.2.2.1, hts⟩ hC ⟨va_cnB np hts (mws_good (md := md') (by rw [k0]; exact k4)) (by unfold mws; rw [k0]) rfl rfl k1 (hts _ k3) ⟨k6, k7, k8⟩ ⟨hn, by show 8 + (md'.2.2.1 + 11) + 40 * n' ≤ R.locals; omega⟩, k5, hts _ k2⟩ ⟨CI_blind, fun U hU hW => ⟨rfl, (Cx_end hB hP hD hS hU hW).1, by rw [hU]; exact hH⟩⟩ rfl hlen hl.1 hst (lv_room hsm) hd hcs
end YC
section YV
variable {G : Gc} {Z : Yp} {E : Ev} {md md' : Md} {S : St} {pc : Nat} {lv : List (Option Value)} {st st0 As : List Value} {n' idx np : Nat} {Q' : Option Value → St → Prop}
theorem Y_callV (hB : Bd G E md) {b ci : Nat} {T : u_T} (hk : kV md.1.cls idx md' np) (hc : cwd ci md'.1.cls T) (hb : b ∈ gL G) (hkb : gK G b = .inl ci) (hC : C G md' n' (.ref b :: As) S Q') (hn : n' + 1 ≤ Z.1.frames) (hm : 19 + md'.2.2.1 + 40 * n' ≤ Z.1.locals) (hcs : Z.2.1 ≤ Z.1.cells ∧ Z.2.2.1 ≤ Z.1.slots) (hlen : As.length = np) (hst : st0 = As.reverse ++ .ref b :: st) (hsm : (st.map fun v => v.category).sum ≤ 8) (hd : decode md.2.1 pc = .ok (.invokevirtual idx, 3)) (kk : ∀ r S', Q' r S' → Y G Z E md S' (pc + 3) lv (r.toList ++ st)) : Y G Z E md S pc lv st0 := fun H locs ls hP hD hS hl => by
  obtain ⟨k1, k2, k3, k4, k5, k6, k7⟩ := hk
  have hts := hB.2.2.2.2.2.2.1
  obtain ⟨q, hq⟩ := gw_get S hb
  have hq2 : (gw G S)[q]? = some (b, .inr (ci, flv S b ci)) := by rw [hq]; unfold cel; rw [hkb]
  have hr : va_Run E.1 (gl G) E.2.1 Z.1 E.2.2.1 E.2.2.2.1 E.2.2.2.2.1 E.2.2.2.2.2.1 E.2.2.2.2.2.2.1 E.2.2.2.2.2.2.2 H locs Z.2.1 Z.2.2.1 0 0 (F0 E.2.2.2.1 pc ls st0) st (QS G Q' (Value.ref b :: As).toArray) (gA G) := va_runV (As := As) (rest := st) ⟨hB.1, hB.2.1, hB.2.2.1, hB.2.2.2.2.2.1, hts⟩ hC ⟨callB_of np hts (mws_good k4) rfl rfl rfl (hts _ k3) (hts _ k1) ⟨k5, k6, k7⟩ ⟨hn, by show 8 + (md'.2.2.1 + 11) + 40 * n' ≤ Z.1.locals; omega⟩, hts _ k2.1, hts _ k2.2⟩ ⟨C_blind, va_recv hB.2.2.2.2.2.2.2.1 hP hc.1 hq2, fun U hU hW => ⟨rfl, C_pre hB hP hD hS U hU hW⟩⟩ rfl hlen hl.1 hst (lv_room hsm) hd hcs
  intro T hT Xs
  obtain ⟨v, st₀, t, T', L, h0, X', hL, e1, e2, ⟨r, S', hv, hq, hCx, hz, hk⟩, stp⟩ := hr T hT Xs
  cases hv
  rw [h0] at hz hk
  obtain ⟨t2, a1, b1⟩ := kk v S' hq T'.heap (locs ++ L) ls (by rw [e1]; exact hCx.1) hCx.2.2.1 ⟨Nat.le_trans hS.1 (by rw [e1]; exact hz), fun q h1 h2 => by rw [e1, hk q (Nat.lt_of_lt_of_le h1 hS.1) h2]; exact hS.2.1 q h1 h2, fun q hq => by
      rcases List.mem_append.mp hq with h | h
      · exact hS.2.2 q h
      · exact hL q h⟩ hl T' rfl X'
  exact ⟨t2, stp t2 a1, b1⟩
end YV
theorem Y_vret {G : Gc} {R : Room} {E : Ev} {md : Md} {S : St} {pc k' mc ms : Nat} {lv : List (Option Value)} {Q : St → Prop} (hB : Bd (gk G k') E md) (hr : md.2.2.2 = none) (hd : decode md.2.1 pc = .ok (.return_, 1)) (kk : Q S) : Y (gk G k') (R, mc, ms, YF G E k' mc ms Q) E md S pc lv [] := fun H locs ls hP hD hS hl =>
  W.vret hB.1 hB.2.1 (hB.2.2.2.1.trans hr) (fun t ht hW => ⟨S, rfl, kk, Cx_end hB hP hD hS ht hW⟩) hS.2.2 hd hB.2.2.2.2.1
