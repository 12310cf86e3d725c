/-! constructors: words -/
set_option maxRecDepth 100000 in
theorem zL_7 : Cond.classLink RL 7 RX11 ∈ lw_gd := gdm (List.mem_of_getElem? (i := 141) (by decide +kernel)) (by decide +kernel)
set_option maxRecDepth 100000 in
theorem zX11_7 : Cond.classLink RX11 7 RX9 ∈ lw_gd := gdm (List.mem_of_getElem? (i := 149) (by decide +kernel)) (by decide +kernel)
set_option maxRecDepth 100000 in
theorem zX11_16 : Cond.classLink RX11 16 RX6 ∈ lw_gd := gdm (List.mem_of_getElem? (i := 172) (by decide +kernel)) (by decide +kernel)
set_option maxRecDepth 100000 in
theorem zX11_23 : Cond.classLink RX11 23 RX10 ∈ lw_gd := gdm (List.mem_of_getElem? (i := 222) (by decide +kernel)) (by decide +kernel)
set_option maxRecDepth 100000 in
theorem zX10_18 : Cond.classLink RX10 18 RX0 ∈ lw_gd := gdm (List.mem_of_getElem? (i := 228) (by decide +kernel)) (by decide +kernel)
set_option maxRecDepth 100000 in
theorem zX0_9 : Cond.classLink RX0 9 RX3 ∈ lw_gd := gdm (List.mem_of_getElem? (i := 234) (by decide +kernel)) (by decide +kernel)
set_option maxRecDepth 100000 in
theorem zX10_25 : Cond.classLink RX10 25 RX5 ∈ lw_gd := gdm (List.mem_of_getElem? (i := 293) (by decide +kernel)) (by decide +kernel)
set_option maxRecDepth 100000 in
theorem zX10_31 : Cond.classLink RX10 31 RX2 ∈ lw_gd := gdm (List.mem_of_getElem? (i := 295) (by decide +kernel)) (by decide +kernel)
set_option maxRecDepth 100000 in
theorem zX5_9 : Cond.classLink RX5 9 RX7 ∈ lw_gd := gdm (List.mem_of_getElem? (i := 302) (by decide +kernel)) (by decide +kernel)
set_option maxRecDepth 100000 in
theorem zX5_27 : Cond.classLink RX5 27 RX1 ∈ lw_gd := gdm (List.mem_of_getElem? (i := 324) (by decide +kernel)) (by decide +kernel)
set_option maxRecDepth 100000 in
theorem zX1_9 : Cond.classLink RX1 9 RX7 ∈ lw_gd := gdm (List.mem_of_getElem? (i := 330) (by decide +kernel)) (by decide +kernel)
set_option maxRecDepth 100000 in
theorem zL_10 : Cond.classLink RL 10 RX12 ∈ lw_gd := gdm (List.mem_of_getElem? (i := 1088) (by decide +kernel)) (by decide +kernel)
set_option maxRecDepth 100000 in
theorem ziX11 : Cond.instantiable RX11 (nOf 9) ∈ lw_gd := gdm (List.mem_of_getElem? (i := 142) (by decide +kernel)) (by decide +kernel)
set_option maxRecDepth 100000 in
theorem zsX11 : Cond.initialized RX11 ∈ lw_gd := gdm (List.mem_of_getElem? (i := 120) (by decide +kernel)) (by decide +kernel)
set_option maxRecDepth 100000 in
theorem ziX9 : Cond.instantiable RX9 (nOf 7) ∈ lw_gd := gdm (List.mem_of_getElem? (i := 150) (by decide +kernel)) (by decide +kernel)
set_option maxRecDepth 100000 in
theorem zsX9 : Cond.initialized RX9 ∈ lw_gd := gdm (List.mem_of_getElem? (i := 121) (by decide +kernel)) (by decide +kernel)
set_option maxRecDepth 100000 in
theorem ziX6 : Cond.instantiable RX6 (nOf 5) ∈ lw_gd := gdm (List.mem_of_getElem? (i := 173) (by decide +kernel)) (by decide +kernel)
set_option maxRecDepth 100000 in
theorem zsX6 : Cond.initialized RX6 ∈ lw_gd := gdm (List.mem_of_getElem? (i := 122) (by decide +kernel)) (by decide +kernel)
set_option maxRecDepth 100000 in
theorem ziX10 : Cond.instantiable RX10 (nOf 8) ∈ lw_gd := gdm (List.mem_of_getElem? (i := 223) (by decide +kernel)) (by decide +kernel)
set_option maxRecDepth 100000 in
theorem zsX10 : Cond.initialized RX10 ∈ lw_gd := gdm (List.mem_of_getElem? (i := 123) (by decide +kernel)) (by decide +kernel)
set_option maxRecDepth 100000 in
theorem ziX0 : Cond.instantiable RX0 (nOf 0) ∈ lw_gd := gdm (List.mem_of_getElem? (i := 229) (by decide +kernel)) (by decide +kernel)
set_option maxRecDepth 100000 in
theorem zsX0 : Cond.initialized RX0 ∈ lw_gd := gdm (List.mem_of_getElem? (i := 124) (by decide +kernel)) (by decide +kernel)
set_option maxRecDepth 100000 in
theorem ziX3 : Cond.instantiable RX3 (nOf 3) ∈ lw_gd := gdm (List.mem_of_getElem? (i := 236) (by decide +kernel)) (by decide +kernel)
set_option maxRecDepth 100000 in
theorem zsX3 : Cond.initialized RX3 ∈ lw_gd := gdm (List.mem_of_getElem? (i := 125) (by decide +kernel)) (by decide +kernel)
set_option maxRecDepth 100000 in
theorem ziX5 : Cond.instantiable RX5 (nOf 4) ∈ lw_gd := gdm (List.mem_of_getElem? (i := 297) (by decide +kernel)) (by decide +kernel)
set_option maxRecDepth 100000 in
theorem zsX5 : Cond.initialized RX5 ∈ lw_gd := gdm (List.mem_of_getElem? (i := 126) (by decide +kernel)) (by decide +kernel)
set_option maxRecDepth 100000 in
theorem ziX7 : Cond.instantiable RX7 (nOf 6) ∈ lw_gd := gdm (List.mem_of_getElem? (i := 303) (by decide +kernel)) (by decide +kernel)
set_option maxRecDepth 100000 in
theorem zsX7 : Cond.initialized RX7 ∈ lw_gd := gdm (List.mem_of_getElem? (i := 127) (by decide +kernel)) (by decide +kernel)
set_option maxRecDepth 100000 in
theorem ziX1 : Cond.instantiable RX1 (nOf 1) ∈ lw_gd := gdm (List.mem_of_getElem? (i := 325) (by decide +kernel)) (by decide +kernel)
set_option maxRecDepth 100000 in
theorem zsX1 : Cond.initialized RX1 ∈ lw_gd := gdm (List.mem_of_getElem? (i := 129) (by decide +kernel)) (by decide +kernel)
set_option maxRecDepth 100000 in
theorem ziX2 : Cond.instantiable RX2 (nOf 2) ∈ lw_gd := gdm (List.mem_of_getElem? (i := 390) (by decide +kernel)) (by decide +kernel)
set_option maxRecDepth 100000 in
theorem zsX2 : Cond.initialized RX2 ∈ lw_gd := gdm (List.mem_of_getElem? (i := 130) (by decide +kernel)) (by decide +kernel)
set_option maxRecDepth 100000 in
theorem ziX12 : Cond.instantiable RX12 (nOf 10) ∈ lw_gd := gdm (List.mem_of_getElem? (i := 1089) (by decide +kernel)) (by decide +kernel)
set_option maxRecDepth 100000 in
theorem zsX12 : Cond.initialized RX12 ∈ lw_gd := gdm (List.mem_of_getElem? (i := 132) (by decide +kernel)) (by decide +kernel)
set_option maxRecDepth 100000 in
theorem za_byte : Cond.arrayClass .byte ∈ lw_gd := gdm (List.mem_of_getElem? (i := 171) (by decide +kernel)) (by decide +kernel)
set_option maxRecDepth 100000 in
theorem za_int : Cond.arrayClass .int ∈ lw_gd := gdm (List.mem_of_getElem? (i := 221) (by decide +kernel)) (by decide +kernel)
set_option maxRecDepth 100000 in
theorem za_long : Cond.arrayClass .long ∈ lw_gd := gdm (List.mem_of_getElem? (i := 323) (by decide +kernel)) (by decide +kernel)
set_option maxRecDepth 100000 in
theorem za_boolean : Cond.arrayClass .boolean ∈ lw_gd := gdm (List.mem_of_getElem? (i := 1194) (by decide +kernel)) (by decide +kernel)
set_option maxRecDepth 100000 in
theorem zo_i : Cond.instanceMethod Lib.objectInit ∈ lw_gd := gdm (List.mem_of_getElem? (i := 147) (by decide +kernel)) (by decide +kernel)
set_option maxRecDepth 100000 in
theorem zo_c : Cond.code Lib.objectInit ⟨#[0xb1]⟩ 1 none ∈ lw_gd := gdm (List.mem_of_getElem? (i := 148) (by decide +kernel)) (by decide +kernel)
set_option maxRecDepth 100000 in
theorem kcL_9 : kCt RL 9 mX11_init 0 := ⟨gdm (List.mem_of_getElem? (i := 143) (by decide +kernel)) (by decide +kernel), gdm (List.mem_of_getElem? (i := 144) (by decide +kernel)) (by decide +kernel), gdm (List.mem_of_getElem? (i := 120) (by decide +kernel)) (by decide +kernel), gdm (List.mem_of_getElem? (i := 145) (by decide +kernel)) (by decide +kernel), rfl, rfl, by decide +kernel, by decide +kernel, by decide +kernel⟩
set_option maxRecDepth 100000 in
theorem zoX11_1 : Cond.methodLink RX11 1 Lib.objectInit ∈ lw_gd := gdm (List.mem_of_getElem? (i := 146) (by decide +kernel)) (by decide +kernel)
set_option maxRecDepth 100000 in
theorem zoX9_3 : Cond.methodLink RX9 3 Lib.objectInit ∈ lw_gd := gdm (List.mem_of_getElem? (i := 154) (by decide +kernel)) (by decide +kernel)
set_option maxRecDepth 100000 in
theorem zoX6_3 : Cond.methodLink RX6 3 Lib.objectInit ∈ lw_gd := gdm (List.mem_of_getElem? (i := 177) (by decide +kernel)) (by decide +kernel)
set_option maxRecDepth 100000 in
theorem kcX11_25 : kCt RX11 25 mX10_init 0 := ⟨gdm (List.mem_of_getElem? (i := 224) (by decide +kernel)) (by decide +kernel), gdm (List.mem_of_getElem? (i := 225) (by decide +kernel)) (by decide +kernel), gdm (List.mem_of_getElem? (i := 123) (by decide +kernel)) (by decide +kernel), gdm (List.mem_of_getElem? (i := 226) (by decide +kernel)) (by decide +kernel), rfl, rfl, by decide +kernel, by decide +kernel, by decide +kernel⟩
set_option maxRecDepth 100000 in
theorem zoX10_3 : Cond.methodLink RX10 3 Lib.objectInit ∈ lw_gd := gdm (List.mem_of_getElem? (i := 227) (by decide +kernel)) (by decide +kernel)
set_option maxRecDepth 100000 in
theorem kcX10_20 : kCt RX10 20 mX0_init 0 := ⟨gdm (List.mem_of_getElem? (i := 230) (by decide +kernel)) (by decide +kernel), gdm (List.mem_of_getElem? (i := 231) (by decide +kernel)) (by decide +kernel), gdm (List.mem_of_getElem? (i := 124) (by decide +kernel)) (by decide +kernel), gdm (List.mem_of_getElem? (i := 232) (by decide +kernel)) (by decide +kernel), rfl, rfl, by decide +kernel, by decide +kernel, by decide +kernel⟩
set_option maxRecDepth 100000 in
theorem zoX0_1 : Cond.methodLink RX0 1 Lib.objectInit ∈ lw_gd := gdm (List.mem_of_getElem? (i := 233) (by decide +kernel)) (by decide +kernel)
set_option maxRecDepth 100000 in
theorem zoX3_3 : Cond.methodLink RX3 3 Lib.objectInit ∈ lw_gd := gdm (List.mem_of_getElem? (i := 240) (by decide +kernel)) (by decide +kernel)
set_option maxRecDepth 100000 in
theorem kcX10_37 : kCt RX10 37 mX5_init 1 := ⟨gdm (List.mem_of_getElem? (i := 298) (by decide +kernel)) (by decide +kernel), gdm (List.mem_of_getElem? (i := 299) (by decide +kernel)) (by decide +kernel), gdm (List.mem_of_getElem? (i := 126) (by decide +kernel)) (by decide +kernel), gdm (List.mem_of_getElem? (i := 300) (by decide +kernel)) (by decide +kernel), rfl, rfl, by decide +kernel, by decide +kernel, by decide +kernel⟩
set_option maxRecDepth 100000 in
theorem zoX5_3 : Cond.methodLink RX5 3 Lib.objectInit ∈ lw_gd := gdm (List.mem_of_getElem? (i := 301) (by decide +kernel)) (by decide +kernel)
set_option maxRecDepth 100000 in
theorem kcX5_11 : kCt RX5 11 mX7_init 1 := ⟨gdm (List.mem_of_getElem? (i := 304) (by decide +kernel)) (by decide +kernel), gdm (List.mem_of_getElem? (i := 305) (by decide +kernel)) (by decide +kernel), gdm (List.mem_of_getElem? (i := 127) (by decide +kernel)) (by decide +kernel), gdm (List.mem_of_getElem? (i := 306) (by decide +kernel)) (by decide +kernel), rfl, rfl, by decide +kernel, by decide +kernel, by decide +kernel⟩
set_option maxRecDepth 100000 in
theorem zoX7_1 : Cond.methodLink RX7 1 Lib.objectInit ∈ lw_gd := gdm (List.mem_of_getElem? (i := 307) (by decide +kernel)) (by decide +kernel)
set_option maxRecDepth 100000 in
theorem kcX5_29 : kCt RX5 29 mX1_init 1 := ⟨gdm (List.mem_of_getElem? (i := 326) (by decide +kernel)) (by decide +kernel), gdm (List.mem_of_getElem? (i := 327) (by decide +kernel)) (by decide +kernel), gdm (List.mem_of_getElem? (i := 129) (by decide +kernel)) (by decide +kernel), gdm (List.mem_of_getElem? (i := 328) (by decide +kernel)) (by decide +kernel), rfl, rfl, by decide +kernel, by decide +kernel, by decide +kernel⟩
set_option maxRecDepth 100000 in
theorem zoX1_3 : Cond.methodLink RX1 3 Lib.objectInit ∈ lw_gd := gdm (List.mem_of_getElem? (i := 329) (by decide +kernel)) (by decide +kernel)
set_option maxRecDepth 100000 in
theorem kcX1_13 : kCt RX1 13 mX7_init 1 := ⟨gdm (List.mem_of_getElem? (i := 331) (by decide +kernel)) (by decide +kernel), gdm (List.mem_of_getElem? (i := 305) (by decide +kernel)) (by decide +kernel), gdm (List.mem_of_getElem? (i := 127) (by decide +kernel)) (by decide +kernel), gdm (List.mem_of_getElem? (i := 306) (by decide +kernel)) (by decide +kernel), rfl, rfl, by decide +kernel, by decide +kernel, by decide +kernel⟩
set_option maxRecDepth 100000 in
theorem kcX10_40 : kCt RX10 40 mX2_init 1 := ⟨gdm (List.mem_of_getElem? (i := 391) (by decide +kernel)) (by decide +kernel), gdm (List.mem_of_getElem? (i := 392) (by decide +kernel)) (by decide +kernel), gdm (List.mem_of_getElem? (i := 130) (by decide +kernel)) (by decide +kernel), gdm (List.mem_of_getElem? (i := 393) (by decide +kernel)) (by decide +kernel), rfl, rfl, by decide +kernel, by decide +kernel, by decide +kernel⟩
set_option maxRecDepth 100000 in
theorem zoX2_3 : Cond.methodLink RX2 3 Lib.objectInit ∈ lw_gd := gdm (List.mem_of_getElem? (i := 394) (by decide +kernel)) (by decide +kernel)
set_option maxRecDepth 100000 in
theorem kcL_12 : kCt RL 12 mX12_init 0 := ⟨gdm (List.mem_of_getElem? (i := 1090) (by decide +kernel)) (by decide +kernel), gdm (List.mem_of_getElem? (i := 1091) (by decide +kernel)) (by decide +kernel), gdm (List.mem_of_getElem? (i := 132) (by decide +kernel)) (by decide +kernel), gdm (List.mem_of_getElem? (i := 1092) (by decide +kernel)) (by decide +kernel), rfl, rfl, by decide +kernel, by decide +kernel, by decide +kernel⟩
set_option maxRecDepth 100000 in
theorem zoX12_1 : Cond.methodLink RX12 1 Lib.objectInit ∈ lw_gd := gdm (List.mem_of_getElem? (i := 1093) (by decide +kernel)) (by decide +kernel)
set_option maxRecDepth 100000 in
theorem kcX11_9 {s : State} (h : va_Nw (.methodLinkNest RX11 9 mX9_init.1 RX11) s) : kCtN RX11 RX11 9 mX9_init 0 s := ⟨h, gdm (List.mem_of_getElem? (i := 152) (by decide +kernel)) (by decide +kernel), gdm (List.mem_of_getElem? (i := 121) (by decide +kernel)) (by decide +kernel), gdm (List.mem_of_getElem? (i := 153) (by decide +kernel)) (by decide +kernel), rfl, rfl, by decide +kernel, by decide +kernel, by decide +kernel⟩
set_option maxRecDepth 100000 in
theorem kcX11_18 {s : State} (h : va_Nw (.methodLinkNest RX11 18 mX6_init.1 RX11) s) : kCtN RX11 RX11 18 mX6_init 0 s := ⟨h, gdm (List.mem_of_getElem? (i := 175) (by decide +kernel)) (by decide +kernel), gdm (List.mem_of_getElem? (i := 122) (by decide +kernel)) (by decide +kernel), gdm (List.mem_of_getElem? (i := 176) (by decide +kernel)) (by decide +kernel), rfl, rfl, by decide +kernel, by decide +kernel, by decide +kernel⟩
set_option maxRecDepth 100000 in
theorem kcX0_15 {s : State} (h : va_Nw (.methodLinkNest RX0 15 mX3_init.1 RX11) s) : kCtN RX0 RX11 15 mX3_init 0 s := ⟨h, gdm (List.mem_of_getElem? (i := 238) (by decide +kernel)) (by decide +kernel), gdm (List.mem_of_getElem? (i := 125) (by decide +kernel)) (by decide +kernel), gdm (List.mem_of_getElem? (i := 239) (by decide +kernel)) (by decide +kernel), rfl, rfl, by decide +kernel, by decide +kernel, by decide +kernel⟩
theorem Bd.gk {G : Gc} {E : Ev} {md : Md} {k : Nat} (hB : Bd (gk G k) E md) (k' : Nat) : Bd (gk G k') E md := hB
section CT
variable {G : Gc} {S : St} {k : Nat}
theorem Y_zz {R : Room} {F : State → Prop} {E : Ev} {md : Md} {pc c v c2 v2 : Nat} {lv : List (Option Value)} {st : List Value} {G : Gc} {S : St} (hc : c = c2) (hv : v = v2) (kk : Y G (R, c2, v2, F) E md S pc lv st) : Y G (R, c, v, F) E md S pc lv st := by rw [hc, hv]; exact kk
theorem Y_newA {R : Room} {F : State → Prop} {E : Ev} {md : Md} {pc c v : Nat} {lv : List (Option Value)} {st : List Value} (hB : Bd (gk G k) E md) {idx ci a : Nat} {Cn : String} {T : u_T} (ha : gz G + k = a) (hci : ci < 11) (hc : cwd ci Cn T) (hcl : Cond.classLink md.1.cls idx Cn ∈ lw_gd) (hins : Cond.instantiable Cn (nOf ci) ∈ lw_gd) (hini : Cond.initialized Cn ∈ lw_gd) (hk : gK G a = .inl ci) (hz : zr G S k) (hsz : E.2.2.1.heap.size + c = a) (hc1 : c + 1 ≤ R.cells) (hv1 : v + nOf ci ≤ R.slots) (hd : decode md.2.1 pc = .ok (.new idx, 3)) (kk : Y (gk G (k + 1)) (R, c + 1, v + nOf ci, F) E md S (pc + 3) lv (.ref a :: st)) : Y (gk G k) (R, c, v, F) E md S pc lv st := by
  subst ha
  exact Y_new hB hci hc hcl hins hini hk hz hsz hc1 hv1 hd kk
theorem Y_newaA {R : Room} {F : State → Prop} {E : Ev} {md : Md} {pc c v : Nat} {lv : List (Option Value)} {st : List Value} (hB : Bd (gk G k) E md) {atype : ArrayType} {t a : Nat} (N : Nat) {n : Int32} (ha : gz G + k = a) (ht : t < 4) (hw : Cond.arrayClass (newarray.typeOf atype) ∈ lw_gd) (hty : newarray.typeOf atype = atyOf t) (hk : gK G a = .inr (t, N)) (hz : zr G S k) (hsz : E.2.2.1.heap.size + c = a) (hn : n = nI N) (hN : N ≤ 20000) (hc1 : c + 1 ≤ R.cells) (hv1 : v + N ≤ R.slots) (hd : decode md.2.1 pc = .ok (.newarray atype, 2)) (kk : Y (gk G (k + 1)) (R, c + 1, v + N, F) E md S (pc + 2) lv (.ref a :: st)) : Y (gk G k) (R, c, v, F) E md S pc lv (.int n :: st) := by
  subst ha
  subst hn
  have hb : componentBytes (atyOf t) ≤ 8 := by
    rcases (show t = 0 ∨ t = 1 ∨ t = 2 ∨ t = 3 by omega) with rfl | rfl | rfl | rfl <;> decide
  exact Y_newa hB ht hw hty hk hz hsz (nI_pos (by omega)) (nI_clamp (by omega)) (Nat.le_trans (Nat.mul_le_mul hN hb) (by decide)) hc1 hv1 hd kk
theorem Y_anewA {R : Room} {F : State → Prop} {E : Ev} {md : Md} {pc c v : Nat} {lv : List (Option Value)} {st : List Value} (hB : Bd (gk G k) E md) {idx t a : Nat} (N : Nat) {Cn : String} {n : Int32} (ha : gz G + k = a) (ht : 3 < t ∧ t < 9) (hty : atyOf t = .object Cn) (hcl : Cond.classLink md.1.cls idx Cn ∈ lw_gd) (hao : ∀ U, gZ G U → va_AO Cn U) (hk : gK G a = .inr (t, N)) (hz : zr G S k) (hsz : E.2.2.1.heap.size + c = a) (hn : n = nI N) (hN : N ≤ 20000) (hc1 : c + 1 ≤ R.cells) (hv1 : v + N ≤ R.slots) (hd : decode md.2.1 pc = .ok (.anewarray idx, 3)) (kk : Y (gk G (k + 1)) (R, c + 1, v + N, F) E md S (pc + 3) lv (.ref a :: st)) : Y (gk G k) (R, c, v, F) E md S pc lv (.int n :: st) := by
  subst ha
  subst hn
  exact Y_anew hB ht hty hcl (hao _ hB.2.2.2.2.2.2.2.2.2.1) hk hz hsz (nI_pos (by omega)) (nI_clamp (by omega)) (by omega) hc1 hv1 hd kk
theorem Y_mmax {Z : Yp} {E : Ev} {md : Md} {pc idx : Nat} {lv : List (Option Value)} {st : List Value} (hB : Bd G E md) {x y : Int32} (hk : kS md.1.cls idx mJ9_max_7cf53 2) (hn : 1 ≤ Z.1.frames) (hlo : (st.map fun v => v.category).sum + 13 ≤ Z.1.locals) (hcs : Z.2.1 ≤ Z.1.cells ∧ Z.2.2.1 ≤ Z.1.slots) (hd : decode md.2.1 pc = .ok (.invokestatic idx, 3)) (kk : Y G Z E md S (pc + 3) lv (.int (if x < y then y else x) :: st)) : Y G Z E md S pc lv (.int y :: .int x :: st) := fun H locs ls hP hD hS hl =>
  va_mmax hB.1 hB.2.1 (hB.2.2.1.trans hl.1.symm) hB.2.2.2.2.2.1 (hB.2.2.2.2.2.2.1 _ hk.1) (hB.2.2.2.2.2.2.1 _ hk.2.1) (hB.2.2.2.2.2.2.1 _ hk.2.2.1) (mth_max ▸ hB.2.2.2.2.2.2.1 _ hk.2.2.2.1) hn (by omega) hcs.1 hcs.2 hd (kk H locs ls hP hD hS hl)
end CT
