/-! how many bits: the JDK's own counts -/
def bc1 (x : Int32) : Int32 := x - ((x.toUInt32 >>> ((1 : Int32).toUInt32 &&& Int32.toUInt32 31)).toInt32 &&& 1431655765)
def bc2 (x : Int32) : Int32 := (x &&& 858993459) + ((x.toUInt32 >>> ((2 : Int32).toUInt32 &&& Int32.toUInt32 31)).toInt32 &&& 858993459)
def bc3 (x : Int32) : Int32 := (x + (x.toUInt32 >>> ((4 : Int32).toUInt32 &&& Int32.toUInt32 31)).toInt32) &&& 252645135
def bc4 (x : Int32) : Int32 := x + (x.toUInt32 >>> ((8 : Int32).toUInt32 &&& Int32.toUInt32 31)).toInt32
def bc5 (x : Int32) : Int32 := x + (x.toUInt32 >>> ((16 : Int32).toUInt32 &&& Int32.toUInt32 31)).toInt32
def bcE (x : Int32) : Int32 := bc5 (bc4 (bc3 (bc2 (bc1 x)))) &&& 63
def lowN (n : Nat) : Nat := ((List.range 8).find? (fun j => n.testBit j)).getD 0
theorem low_bc : ∀ n, n < 256 → 0 < n → bcE ((nI n &&& -nI n) - 1) = nI (lowN n) := by decide +kernel
theorem find_congr {p q : Nat → Bool} : ∀ (l : List Nat), (∀ x ∈ l, p x = q x) → l.find? p = l.find? q
  | [], _ => rfl
  | a :: t, h => by
    rw [List.find?_cons, List.find?_cons, h a List.mem_cons_self, find_congr t (fun x hx => h x (List.mem_cons_of_mem _ hx))]
theorem lowN_bts (p : Nat → Bool) : lowN (bts p 8) = low8 p := by
  unfold lowN low8
  congr 1
  refine find_congr _ (fun j hj => ?_)
  rw [bts_bit, decide_eq_true (List.mem_range.mp hj), Bool.true_and]
/-- eight bytes alike -/
def rep (c : Nat) : Nat → Nat
  | 0 => 0
  | k + 1 => c + 256 * rep c k
theorem rep_st (c k : Nat) : rep c (k + 1) = c + 256 * rep c k := rfl
theorem and_cat {x y p q : Nat} (hx : x < 256) (hp : p < 256) : (x + 256 * y) &&& (p + 256 * q) = (x &&& p) + 256 * (y &&& q) := by
  have h1 : ((x + 256 * y) &&& (p + 256 * q)) % 2 ^ 8 = ((x + 256 * y) % 2 ^ 8) &&& ((p + 256 * q) % 2 ^ 8) := Nat.and_mod_two_pow
  have h2 : ((x + 256 * y) &&& (p + 256 * q)) / 2 ^ 8 = ((x + 256 * y) / 2 ^ 8) &&& ((p + 256 * q) / 2 ^ 8) := Nat.and_div_two_pow
  have e : (2 : Nat) ^ 8 = 256 := by decide
  rw [e] at h1 h2
  rw [show (x + 256 * y) % 256 = x by omega, show (p + 256 * q) % 256 = p by omega] at h1
  rw [show (x + 256 * y) / 256 = y by omega, show (p + 256 * q) / 256 = q by omega] at h2
  omega
/-- the byte-wise steps -/
def h1 (b : Nat) : Nat := b - ((b / 2) &&& 85)
def h2 (b : Nat) : Nat := (b &&& 51) + ((b / 4) &&& 51)
def h3 (b : Nat) : Nat := (b + b / 16) &&& 15
def g1 (k n : Nat) : Nat := n - ((n / 2) &&& rep 85 k)
def g2 (k n : Nat) : Nat := (n &&& rep 51 k) + ((n / 4) &&& rep 51 k)
def g3 (k n : Nat) : Nat := (n + n / 16) &&& rep 15 k
/-- a byte's bits -/
def pcb (b : Nat) : Nat := cnB (fun j => b.testBit j) 8
theorem byt1 : ∀ b, b < 256 → ∀ m, m < 2 → ((b / 2 + 128 * m) &&& 85) = ((b / 2) &&& 85) ∧ ((b / 2) &&& 85) ≤ b ∧ h1 b < 256 := by decide +kernel
theorem byt2 : ∀ b, b < 256 → ∀ m, m < 4 → ((h1 b / 4 + 64 * m) &&& 51) = ((h1 b / 4) &&& 51) ∧ h2 (h1 b) < 256 ∧ h2 (h1 b) % 16 ≤ 4 ∧ h2 (h1 b) / 16 ≤ 4 := by decide +kernel
theorem byt3 : ∀ b, b < 256 → ∀ m, m < 5 → ((h2 (h1 b) + (h2 (h1 b) / 16 + 16 * m)) &&& 15) = pcb b ∧ h2 (h1 b) + (h2 (h1 b) / 16 + 16 * m) < 256 ∧ pcb b ≤ 8 := by decide +kernel
theorem g1_st {k b m : Nat} (hb : b < 256) (hm : ((m / 2) &&& rep 85 k) ≤ m) : g1 (k + 1) (b + 256 * m) = h1 b + 256 * g1 k m := by
  unfold g1 h1
  rw [rep_st]
  obtain ⟨e1, e2, e3⟩ := byt1 b hb (m % 2) (by omega)
  rw [show (b + 256 * m) / 2 = (b / 2 + 128 * (m % 2)) + 256 * (m / 2) by omega, and_cat (by omega) (by decide), e1]
  omega
theorem g1_le : ∀ (k n : Nat), ((n / 2) &&& rep 85 k) ≤ n := fun k n => Nat.le_trans Nat.and_le_left (Nat.div_le_self _ _)
theorem g2_st {k b m : Nat} (hb : b < 256) : g2 (k + 1) (h1 b + 256 * m) = h2 (h1 b) + 256 * g2 k m := by
  have hh := (byt1 b hb 0 (by decide)).2.2
  unfold g2
  rw [rep_st]
  obtain ⟨e1, e2, e3⟩ := byt2 b hb (m % 4) (by omega)
  rw [show (h1 b + 256 * m) / 4 = (h1 b / 4 + 64 * (m % 4)) + 256 * (m / 4) by omega, and_cat (x := h1 b / 4 + 64 * (m % 4)) (by omega) (by decide), and_cat hh (by decide), e1]
  unfold h2
  omega
theorem g3_st {k b m : Nat} (hb : b < 256) (hm : m % 16 ≤ 4) : g3 (k + 1) (h2 (h1 b) + 256 * m) = pcb b + 256 * g3 k m := by
  have hh := (byt2 b hb 0 (by decide)).2
  unfold g3
  rw [rep_st]
  obtain ⟨e1, e2, e3⟩ := byt3 b hb (m % 16) (by omega)
  rw [show h2 (h1 b) + 256 * m + (h2 (h1 b) + 256 * m) / 16 = (h2 (h1 b) + (h2 (h1 b) / 16 + 16 * (m % 16))) + 256 * (m + m / 16) by omega, and_cat e2 (by decide), e1]
def sumB : Nat → Nat → Nat
  | 0, _ => 0
  | k + 1, n => pcb (n % 256) + 256 * sumB k (n / 256)
theorem g123 : ∀ (k n : Nat), n < 256 ^ k → g3 k (g2 k (g1 k n)) = sumB k n ∧ g2 k (g1 k n) % 16 ≤ 4
  | 0, n, h => by
    have : n = 0 := by simpa using h
    subst this
    decide
  | k + 1, n, h => by
    have hb : n % 256 < 256 := Nat.mod_lt _ (by decide)
    have hn : n = n % 256 + 256 * (n / 256) := by omega
    rw [Nat.pow_succ] at h
    obtain ⟨i1, i2⟩ := g123 k (n / 256) (by omega)
    have e1 : g1 (k + 1) n = h1 (n % 256) + 256 * g1 k (n / 256) := by
      conv => lhs; rw [hn]
      exact g1_st hb (g1_le _ _)
    have hh := (byt2 (n % 256) hb 0 (by decide)).2
    rw [e1, g2_st hb]
    constructor
    · rw [g3_st hb i2, i1]; rfl
    · omega
theorem cnB_add (p : Nat → Bool) (a : Nat) : ∀ b, cnB p (a + b) = cnB p a + cnB (fun j => p (a + j)) b
  | 0 => rfl
  | b + 1 => by
    show cnB p (a + b) + (if p (a + b) = true then 1 else 0) = cnB p a + (cnB (fun j => p (a + j)) b + (if p (a + b) = true then 1 else 0))
    rw [cnB_add p a b]; omega
theorem cnB_congr {p q : Nat → Bool} : ∀ {k : Nat}, (∀ j, j < k → p j = q j) → cnB p k = cnB q k
  | 0, _ => rfl
  | k + 1, h => by unfold cnB; rw [cnB_congr (fun j hj => h j (by omega)), h k (by omega)]
/-- the sum of the bytes of sumB is the number of bits -/
theorem pcb_eq (n : Nat) : ∀ k, pcb (n / 256 ^ k % 256) = cnB (fun j => n.testBit (8 * k + j)) 8 := fun k => cnB_congr (fun j hj => by
  show (n / 256 ^ k % 256).testBit j = _
  rw [show (256 : Nat) = 2 ^ 8 from rfl, Nat.testBit_mod_two_pow, decide_eq_true hj, Bool.true_and, ← Nat.pow_mul, Nat.testBit_div_two_pow]
  congr 1
  omega)
theorem pcb_le (b : Nat) : pcb b ≤ 8 := cnB_le _ 8
theorem cat_div {x y : Nat} (h : x < 256) : (x + 256 * y) / 256 = y := by omega
theorem modS {s x d : Nat} (hd : d = s + 256 * x) (hs : s ≤ 64) : d % 128 = s := by omega
theorem bnd1 {q x B : Nat} (hq : q ≤ 64) (hx : x ≤ B) : q + 256 * x ≤ 64 + 256 * B := by omega
theorem bnd8 {q0 q1 q2 q3 q4 q5 q6 q7 v : Nat} (h0 : q0 ≤ 64) (h1 : q1 ≤ 64) (h2 : q2 ≤ 64) (h3 : q3 ≤ 64) (h4 : q4 ≤ 64) (h5 : q5 ≤ 64) (h6 : q6 ≤ 64) (h7 : q7 ≤ 64) (hv : v = q0 + 256 * (q1 + 256 * (q2 + 256 * (q3 + 256 * (q4 + 256 * (q5 + 256 * (q6 + 256 * q7))))))) : v < 2 ^ 63 := by
  have := bnd1 h0 (bnd1 h1 (bnd1 h2 (bnd1 h3 (bnd1 h4 (bnd1 h5 (bnd1 h6 h7))))))
  rw [← hv] at this
  exact Nat.lt_of_le_of_lt this (by decide)
theorem sm1 (p0 p1 p2 p3 p4 p5 p6 p7 : Nat) : p0 + 256 * (p1 + 256 * (p2 + 256 * (p3 + 256 * (p4 + 256 * (p5 + 256 * (p6 + 256 * (p7 + 256 * 0))))))) + (p1 + 256 * (p2 + 256 * (p3 + 256 * (p4 + 256 * (p5 + 256 * (p6 + 256 * p7)))))) = (p0 + p1) + 256 * ((p1 + p2) + 256 * ((p2 + p3) + 256 * ((p3 + p4) + 256 * ((p4 + p5) + 256 * ((p5 + p6) + 256 * ((p6 + p7) + 256 * p7)))))) := by omega
theorem sm2 (q0 q1 q2 q3 q4 q5 q6 q7 : Nat) : q0 + 256 * (q1 + 256 * (q2 + 256 * (q3 + 256 * (q4 + 256 * (q5 + 256 * (q6 + 256 * q7)))))) + (q2 + 256 * (q3 + 256 * (q4 + 256 * (q5 + 256 * (q6 + 256 * q7))))) = (q0 + q2) + 256 * ((q1 + q3) + 256 * ((q2 + q4) + 256 * ((q3 + q5) + 256 * ((q4 + q6) + 256 * ((q5 + q7) + 256 * (q6 + 256 * q7)))))) := by omega
theorem sm3 (q0 q1 q2 q3 q4 q5 q6 q7 : Nat) : q0 + 256 * (q1 + 256 * (q2 + 256 * (q3 + 256 * (q4 + 256 * (q5 + 256 * (q6 + 256 * q7)))))) + (q4 + 256 * (q5 + 256 * (q6 + 256 * q7))) = (q0 + q4) + 256 * ((q1 + q5) + 256 * ((q2 + q6) + 256 * ((q3 + q7) + 256 * (q4 + 256 * (q5 + 256 * (q6 + 256 * q7)))))) := by omega
theorem dv2 {q0 q1 x : Nat} (h0 : q0 < 256) (h1 : q1 < 256) : (q0 + 256 * (q1 + 256 * x)) / 65536 = x := by rw [show (65536 : Nat) = 256 * 256 from rfl, ← Nat.div_div_eq_div_mul, cat_div h0, cat_div h1]
theorem dv4 {q0 q1 q2 q3 x : Nat} (h0 : q0 < 256) (h1 : q1 < 256) (h2 : q2 < 256) (h3 : q3 < 256) : (q0 + 256 * (q1 + 256 * (q2 + 256 * (q3 + 256 * x)))) / 4294967296 = x := by rw [show (4294967296 : Nat) = 65536 * 65536 from rfl, ← Nat.div_div_eq_div_mul, dv2 h0 h1, dv2 h2 h3]
theorem sum8 {p0 p1 p2 p3 p4 p5 p6 p7 : Nat} (h0 : p0 ≤ 8) (h1 : p1 ≤ 8) (h2 : p2 ≤ 8) (h3 : p3 ≤ 8) (h4 : p4 ≤ 8) (h5 : p5 ≤ 8) (h6 : p6 ≤ 8) (h7 : p7 ≤ 8) {a b c d : Nat} : a = p0 + 256 * (p1 + 256 * (p2 + 256 * (p3 + 256 * (p4 + 256 * (p5 + 256 * (p6 + 256 * (p7 + 256 * 0))))))) → b = a + a / 256 → c = b + b / 65536 → d = c + c / 4294967296 → d % 128 = p0 + p1 + p2 + p3 + p4 + p5 + p6 + p7 ∧ d < 2 ^ 63 ∧ a < 2 ^ 63 ∧ b < 2 ^ 63 ∧ c < 2 ^ 63 := by
  have i0 : p0 < 256 := by omega
  have i1 : p0 + p1 < 256 := by omega
  have i2 : p1 + p2 < 256 := by omega
  have i3 : p0 + p1 + (p2 + p3) < 256 := by omega
  have i4 : p1 + p2 + (p3 + p4) < 256 := by omega
  have i5 : p2 + p3 + (p4 + p5) < 256 := by omega
  have i6 : p3 + p4 + (p5 + p6) < 256 := by omega
  have j0 : p0 + p1 + (p2 + p3) + (p4 + p5 + (p6 + p7)) ≤ 64 := by omega
  have j1 : p1 + p2 + (p3 + p4) + (p5 + p6 + p7) ≤ 64 := by omega
  have j2 : p2 + p3 + (p4 + p5) + (p6 + p7) ≤ 64 := by omega
  have j3 : p3 + p4 + (p5 + p6) + p7 ≤ 64 := by omega
  have j4 : p4 + p5 + (p6 + p7) ≤ 64 := by omega
  have j5 : p5 + p6 + p7 ≤ 64 := by omega
  have j6 : p6 + p7 ≤ 64 := by omega
  have j7 : p7 ≤ 64 := by omega
  have j8 : p0 + p1 + (p2 + p3) + (p4 + p5 + (p6 + p7)) = p0 + p1 + p2 + p3 + p4 + p5 + p6 + p7 := by omega
  intro ha hb hc hd
  rw [ha, cat_div i0, Nat.mul_zero, Nat.add_zero] at hb
  have e2 := hb.trans (sm1 p0 p1 p2 p3 p4 p5 p6 p7)
  rw [e2, dv2 i1 i2] at hc
  have e4 := hc.trans (sm2 _ _ _ _ _ _ _ _)
  rw [e4, dv4 i3 i4 i5 i6] at hd
  have e6 := hd.trans (sm3 _ _ _ _ _ _ _ _)
  have hd2 := bnd8 j0 j1 j2 j3 j4 j5 j6 j7 e6
  have lc : c ≤ d := by rw [hd, e4]; exact Nat.le_add_right _ _
  have lb : b ≤ c := by rw [hc, e2]; exact Nat.le_add_right _ _
  have la : a ≤ b := by rw [hb, ha]; exact Nat.le_add_right _ _
  exact ⟨by rw [← j8]; exact modS e6 j0, hd2, Nat.lt_of_le_of_lt (Nat.le_trans la (Nat.le_trans lb lc)) hd2, Nat.lt_of_le_of_lt (Nat.le_trans lb lc) hd2, Nat.lt_of_le_of_lt lc hd2⟩
def lc1 (x : Int64) : Int64 := x - ((x.toUInt64 >>> ((1 : Int32).toInt64.toUInt64 &&& Int64.toUInt64 63)).toInt64 &&& 6148914691236517205)
def lc2 (x : Int64) : Int64 := (x &&& 3689348814741910323) + ((x.toUInt64 >>> ((2 : Int32).toInt64.toUInt64 &&& Int64.toUInt64 63)).toInt64 &&& 3689348814741910323)
def lc3 (x : Int64) : Int64 := (x + (x.toUInt64 >>> ((4 : Int32).toInt64.toUInt64 &&& Int64.toUInt64 63)).toInt64) &&& 1085102592571150095
def lc4 (x : Int64) : Int64 := x + (x.toUInt64 >>> ((8 : Int32).toInt64.toUInt64 &&& Int64.toUInt64 63)).toInt64
def lc5 (x : Int64) : Int64 := x + (x.toUInt64 >>> ((16 : Int32).toInt64.toUInt64 &&& Int64.toUInt64 63)).toInt64
def lc6 (x : Int64) : Int64 := x + (x.toUInt64 >>> ((32 : Int32).toInt64.toUInt64 &&& Int64.toUInt64 63)).toInt64
def lcE (x : Int64) : Int32 := (lc6 (lc5 (lc4 (lc3 (lc2 (lc1 x)))))).toInt32 &&& 127
theorem ush {n k : Nat} (hn : n < 2 ^ 64) (hk : k < 64) : ((lN n).toUInt64 >>> ((nI k).toInt64.toUInt64 &&& Int64.toUInt64 63)).toInt64 = lN (n / 2 ^ k) := wb_shr hn hk
theorem lcE_val {n : Nat} (hn : n < 2 ^ 64) : lcE (lN n) = nI (cnB (fun j => n.testBit j) 64) := by
  have r5 : rep 85 8 = 6148914691236517205 := by decide
  have r3 : rep 51 8 = 3689348814741910323 := by decide
  have rf : rep 15 8 = 1085102592571150095 := by decide
  have hlt1 : g1 8 n ≤ n := Nat.sub_le _ _
  have a1 : lc1 (lN n) = lN (g1 8 n) := by
    unfold lc1 g1
    rw [show (1 : Int32) = nI 1 from rfl, ush hn (by decide), show (6148914691236517205 : Int64) = lN 6148914691236517205 from rfl, wb_and (by omega) (by decide), r5, show (2 : Nat) ^ 1 = 2 from rfl]
    refine lN_sub ?_
    have := g1_le 8 n
    rwa [r5] at this
  have b2 : g2 8 (g1 8 n) < 2 ^ 63 := by
    unfold g2
    have q1 : g1 8 n &&& rep 51 8 ≤ rep 51 8 := Nat.and_le_right
    have q2 : g1 8 n / 4 &&& rep 51 8 ≤ rep 51 8 := Nat.and_le_right
    rw [r3] at q1 q2 ⊢
    omega
  have a2 : lc2 (lN (g1 8 n)) = lN (g2 8 (g1 8 n)) := by
    unfold lc2 g2
    rw [show (2 : Int32) = nI 2 from rfl, ush (by omega) (by decide), show (3689348814741910323 : Int64) = lN 3689348814741910323 from rfl, wb_and (by omega) (by decide), wb_and (by omega) (by decide), r3, show (2 : Nat) ^ 2 = 4 from rfl, lN_add]
  have a3 : lc3 (lN (g2 8 (g1 8 n))) = lN (sumB 8 n) := by
    rw [← (g123 8 n hn).1]
    unfold lc3 g3
    rw [show (4 : Int32) = nI 4 from rfl, ush (by omega) (by decide), lN_add, show (1085102592571150095 : Int64) = lN 1085102592571150095 from rfl, wb_and (by omega) (by decide), rf, show (2 : Nat) ^ 4 = 16 from rfl]
  have hs : sumB 8 n = pcb (n % 256) + 256 * (pcb (n / 256 % 256) + 256 * (pcb (n / 256 / 256 % 256) + 256 * (pcb (n / 256 / 256 / 256 % 256) + 256 * (pcb (n / 256 / 256 / 256 / 256 % 256) + 256 * (pcb (n / 256 / 256 / 256 / 256 / 256 % 256) + 256 * (pcb (n / 256 / 256 / 256 / 256 / 256 / 256 % 256) + 256 * (pcb (n / 256 / 256 / 256 / 256 / 256 / 256 / 256 % 256) + 256 * 0))))))) := rfl
  obtain ⟨t1, t2, t3, t4, t5⟩ := sum8 (pcb_le _) (pcb_le _) (pcb_le _) (pcb_le _) (pcb_le _) (pcb_le _) (pcb_le _) (pcb_le _) hs rfl rfl rfl
  unfold lcE
  rw [a1, a2, a3]
  have a4 : lc4 (lN (sumB 8 n)) = lN (sumB 8 n + sumB 8 n / 256) := by
    unfold lc4
    rw [show (8 : Int32) = nI 8 from rfl, ush (by omega) (by decide), lN_add]
  rw [a4]
  generalize sumB 8 n + sumB 8 n / 256 = b at *
  have a5 : lc5 (lN b) = lN (b + b / 65536) := by
    unfold lc5
    rw [show (16 : Int32) = nI 16 from rfl, ush (by omega) (by decide), lN_add]
  rw [a5]
  generalize b + b / 65536 = c at *
  have a6 : lc6 (lN c) = lN (c + c / 4294967296) := by
    unfold lc6
    rw [show (32 : Int32) = nI 32 from rfl, ush (by omega) (by decide), lN_add]
  rw [a6]
  generalize c + c / 4294967296 = d at *
  rw [lN_i, show (127 : Int32) = nI 127 from rfl, nI_and, show (127 : Nat) = 2 ^ 7 - 1 from rfl, Nat.and_two_pow_sub_one_eq_mod, show (2 : Nat) ^ 7 = 128 from rfl, t1]
  congr 1
  have e : ∀ k m, m = 256 ^ k → pcb (n / m % 256) = cnB (fun j => n.testBit (8 * k + j)) 8 := fun k m hm => by rw [hm]; exact pcb_eq n k
  simp only [Nat.div_div_eq_div_mul]
  rw [e 1 256 (by decide), e 2 (256 * 256) (by decide), e 3 (256 * 256 * 256) (by decide), e 4 (256 * 256 * 256 * 256) (by decide), e 5 (256 * 256 * 256 * 256 * 256) (by decide), e 6 (256 * 256 * 256 * 256 * 256 * 256) (by decide), e 7 (256 * 256 * 256 * 256 * 256 * 256 * 256) (by decide)]
  have e0 : pcb (n % 256) = cnB (fun j => n.testBit j) 8 := by
    have := e 0 1 rfl
    rw [Nat.div_one] at this
    rw [this]
    exact cnB_congr (fun j _ => by rw [Nat.mul_zero, Nat.zero_add])
  rw [e0]
  have s := fun a => cnB_add (fun j => n.testBit j) a 8
  have s1 : cnB (fun j => n.testBit j) 16 = _ := s 8
  have s2 : cnB (fun j => n.testBit j) 24 = _ := s 16
  have s3 : cnB (fun j => n.testBit j) 32 = _ := s 24
  have s4 : cnB (fun j => n.testBit j) 40 = _ := s 32
  have s5 : cnB (fun j => n.testBit j) 48 = _ := s 40
  have s6 : cnB (fun j => n.testBit j) 56 = _ := s 48
  have s7 : cnB (fun j => n.testBit j) 64 = _ := s 56
  rw [s7, s6, s5, s4, s3, s2, s1]
/-- pairs, each counted once -/
theorem cn_half {g : Nat → Nat → Bool} (hs : symB g) (hi : ∀ a, a < 8 → g a a = false) : cnB (fun k => g (k / 8) (k % 8)) 64 = 2 * cnB (fun k => g (k / 8) (k % 8) && decide (k / 8 < k % 8)) 64 := by
  have row : ∀ (p : Nat → Nat → Bool), cnB (fun k => p (k / 8) (k % 8)) 64 = cnB (p 0) 8 + cnB (p 1) 8 + cnB (p 2) 8 + cnB (p 3) 8 + cnB (p 4) 8 + cnB (p 5) 8 + cnB (p 6) 8 + cnB (p 7) 8 := fun p => by
    have e : ∀ a, cnB (fun j => p ((8 * a + j) / 8) ((8 * a + j) % 8)) 8 = cnB (p a) 8 := fun a => cnB_congr (fun j hj => by rw [show (8 * a + j) / 8 = a by omega, show (8 * a + j) % 8 = j by omega])
    have s := fun a => cnB_add (fun k => p (k / 8) (k % 8)) a 8
    have s0 := s 0
    have s1 := s 8
    have s2 := s 16
    have s3 := s 24
    have s4 := s 32
    have s5 := s 40
    have s6 := s 48
    have s7 := s 56
    have e0 := e 0
    have e1 := e 1
    have e2 := e 2
    have e3 := e 3
    have e4 := e 4
    have e5 := e 5
    have e6 := e 6
    have e7 := e 7
    simp only [Nat.reduceAdd, Nat.reduceMul, Nat.zero_add, Nat.mul_zero] at *
    have z : cnB (fun k => p (k / 8) (k % 8)) 0 = 0 := rfl
    omega
  rw [row g, row (fun a b => g a b && decide (a < b))]
  have S := fun a b ha hb => hs a b ha hb
  simp only [cnB, Nat.zero_add, hi 0 (by decide), hi 1 (by decide), hi 2 (by decide), hi 3 (by decide), hi 4 (by decide), hi 5 (by decide), hi 6 (by decide), hi 7 (by decide), S 1 0 (by decide) (by decide), S 2 0 (by decide) (by decide), S 3 0 (by decide) (by decide), S 4 0 (by decide) (by decide), S 5 0 (by decide) (by decide), S 6 0 (by decide) (by decide), S 7 0 (by decide) (by decide), S 2 1 (by decide) (by decide), S 3 1 (by decide) (by decide), S 4 1 (by decide) (by decide), S 5 1 (by decide) (by decide), S 6 1 (by decide) (by decide), S 7 1 (by decide) (by decide), S 3 2 (by decide) (by decide), S 4 2 (by decide) (by decide), S 5 2 (by decide) (by decide), S 6 2 (by decide) (by decide), S 7 2 (by decide) (by decide), S 4 3 (by decide) (by decide), S 5 3 (by decide) (by decide), S 6 3 (by decide) (by decide), S 7 3 (by decide) (by decide), S 5 4 (by decide) (by decide), S 6 4 (by decide) (by decide), S 7 4 (by decide) (by decide), S 6 5 (by decide) (by decide), S 7 5 (by decide) (by decide), S 7 6 (by decide) (by decide), Nat.reduceLT, decide_true, decide_false, Bool.and_true, Bool.and_false, Bool.false_eq_true, if_false]
  omega
