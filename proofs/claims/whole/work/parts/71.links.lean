/-! sets of links: eight times eight bits in one long -/
def lkR (v : Int64) (f : Nat → Nat → Bool) : Prop := ∀ a b, a < 8 → b < 8 → v.toBitVec.getLsbD (8 * a + b) = f a b
def symB (f : Nat → Nat → Bool) : Prop := ∀ a b, a < 8 → b < 8 → f a b = f b a
theorem lkR.eq {v w : Int64} {f : Nat → Nat → Bool} (h1 : lkR v f) (h2 : lkR w f) : v = w := by
  refine Int64.toBitVec_inj.mp (BitVec.eq_of_getLsbD_eq (fun i hi => ?_))
  have e : i = 8 * (i / 8) + i % 8 := by omega
  rw [e, h1 _ _ (by omega) (by omega), h2 _ _ (by omega) (by omega)]
theorem lkR.congr {v : Int64} {f g : Nat → Nat → Bool} (h : lkR v f) (hg : ∀ a b, a < 8 → b < 8 → g a b = f a b) : lkR v g := fun a b ha hb => by rw [hg a b ha hb]; exact h a b ha hb
theorem lkR_or {v w : Int64} {f g : Nat → Nat → Bool} (h1 : lkR v f) (h2 : lkR w g) : lkR (v ||| w) (fun a b => f a b || g a b) := fun a b ha hb => by rw [Int64.toBitVec_or, BitVec.getLsbD_or, h1 a b ha hb, h2 a b ha hb]
theorem lkR_and {v w : Int64} {f g : Nat → Nat → Bool} (h1 : lkR v f) (h2 : lkR w g) : lkR (v &&& w) (fun a b => f a b && g a b) := fun a b ha hb => by rw [Int64.toBitVec_and, BitVec.getLsbD_and, h1 a b ha hb, h2 a b ha hb]
theorem lkR_xor {v w : Int64} {f g : Nat → Nat → Bool} (h1 : lkR v f) (h2 : lkR w g) : lkR (v ^^^ w) (fun a b => f a b ^^ g a b) := fun a b ha hb => by rw [Int64.toBitVec_xor, BitVec.getLsbD_xor, h1 a b ha hb, h2 a b ha hb]
theorem lkR_m1 : lkR (-1) (fun _ _ => true) := fun a b ha hb => by
  have : ∀ i, i < 64 → (-1 : Int64).toBitVec.getLsbD i = true := by decide +kernel
  exact this _ (by omega)
theorem lkR_0 : lkR 0 (fun _ _ => false) := fun a b ha hb => by
  show (0#64).getLsbD _ = false
  rw [BitVec.getLsbD_zero]
theorem lkR_not {v w : Int64} {f g : Nat → Nat → Bool} (h1 : lkR v f) (h2 : lkR w g) : lkR (v &&& (w ^^^ (-1))) (fun a b => f a b && !g a b) := (lkR_and h1 (lkR_xor h2 lkR_m1)).congr (fun a b _ _ => by simp)
def bJ (a b : Nat) : Int64 := lN (2 ^ (8 * a + b)) ||| lN (2 ^ (8 * b + a))
def prB (a b : Nat) : Nat → Nat → Bool := fun p q => decide ((p = a ∧ q = b) ∨ (p = b ∧ q = a))
theorem lN_bit (n i : Nat) : (lN n).toBitVec.getLsbD i = (decide (i < 64) && n.testBit i) := by
  show (BitVec.ofNat 64 n).getLsbD i = _
  rw [BitVec.getLsbD_ofNat]
theorem bJ_R {a b : Nat} (ha : a < 8) (hb : b < 8) : lkR (bJ a b) (prB a b) := by
  intro p q hp hq
  unfold bJ prB
  rw [Int64.toBitVec_or, BitVec.getLsbD_or, lN_bit, lN_bit, Nat.testBit_two_pow, Nat.testBit_two_pow, decide_eq_true (show 8 * p + q < 64 by omega), Bool.true_and, Bool.true_and, ← Bool.decide_or]
  exact decide_eq_decide.mpr (by omega)
theorem hold_iff {v : Int64} {f : Nat → Nat → Bool} {a b : Nat} (h : lkR v f) (hs : f a b = f b a) (ha : a < 8) (hb : b < 8) : v &&& bJ a b = 0 ↔ f a b = false := by
  have h1 := lkR_and h (bJ_R ha hb)
  constructor
  · intro e
    have h2 := h1 a b ha hb
    rw [e] at h2
    have h3 := lkR_0 a b ha hb
    rw [h3] at h2
    simpa [prB] using h2.symm
  · intro e
    refine (h1.congr (g := fun _ _ => false) (fun p q hp hq => ?_)).eq lkR_0
    unfold prB
    by_cases c : (p = a ∧ q = b) ∨ (p = b ∧ q = a)
    · rcases c with ⟨rfl, rfl⟩ | ⟨rfl, rfl⟩
      · rw [e]; rfl
      · rw [← hs, e]; rfl
    · rw [decide_eq_false c, Bool.and_false]
theorem bts_bit (p : Nat → Bool) : ∀ k j, (bts p k).testBit j = (decide (j < k) && p j)
  | 0, j => by simp [bts]
  | k + 1, j => by
    unfold bts
    rw [Nat.testBit_or, bts_bit p k j]
    by_cases e : j = k
    · subst e
      by_cases c : p j = true
      · rw [if_pos c, Nat.one_shiftLeft, Nat.testBit_two_pow_self, c]; simp
      · have c2 : p j = false := by simpa using c
        rw [if_neg c, c2]; simp
    · have : ((if p k = true then 1 <<< k else 0) : Nat).testBit j = false := by
        split
        · rw [Nat.one_shiftLeft, Nat.testBit_two_pow, decide_eq_false (by omega)]
        · rw [Nat.zero_testBit]
      rw [this, Bool.or_false]
      congr 1
      exact decide_eq_decide.mpr (by omega)
theorem bts_ext {n : Nat} {p : Nat → Bool} (hn : n < 256) (h : ∀ j, j < 8 → n.testBit j = p j) : n = bts p 8 := by
  refine Nat.eq_of_testBit_eq (fun i => ?_)
  rw [bts_bit]
  by_cases c : i < 8
  · rw [h i c, decide_eq_true c, Bool.true_and]
  · rw [decide_eq_false c, Bool.false_and]
    exact Nat.testBit_lt_two_pow (Nat.lt_of_lt_of_le hn (show 2 ^ 8 ≤ 2 ^ i from Nat.pow_le_pow_right (by decide) (by omega)))
theorem bts_8 (p : Nat → Bool) : bts p 8 < 256 := bts_lt p 8
theorem bts_congr {p q : Nat → Bool} (h : ∀ j, j < 8 → p j = q j) : bts p 8 = bts q 8 := bts_ext (bts_8 p) (fun j hj => by rw [bts_bit, h j hj, decide_eq_true hj, Bool.true_and])
theorem bts_or (p q : Nat → Bool) : bts p 8 ||| bts q 8 = bts (fun x => p x || q x) 8 := bts_ext (Nat.or_lt_two_pow (n := 8) (bts_8 p) (bts_8 q)) (fun j hj => by rw [Nat.testBit_or, bts_bit, bts_bit, decide_eq_true hj, Bool.true_and, Bool.true_and])
theorem bts_and (p q : Nat → Bool) : bts p 8 &&& bts q 8 = bts (fun x => p x && q x) 8 := bts_ext (Nat.lt_of_le_of_lt Nat.and_le_left (bts_8 p)) (fun j hj => by rw [Nat.testBit_and, bts_bit, bts_bit, decide_eq_true hj, Bool.true_and, Bool.true_and])
theorem nI_bt {n i : Nat} (hi : i < 32) : bt (nI n) i = n.testBit i := by
  unfold bt
  show (BitVec.ofNat 32 n).getLsbD i = _
  rw [BitVec.getLsbD_ofNat, decide_eq_true hi, Bool.true_and]
theorem bts_not (p q : Nat → Bool) : nI (bts p 8) &&& (nI (bts q 8) ^^^ (-1)) = nI (bts (fun x => p x && !q x) 8) := by
  refine b_ext (fun i hi => ?_)
  rw [b_and, b_xor, nI_bt hi, nI_bt hi, nI_bt hi, b_m1 i hi, bts_bit, bts_bit, bts_bit]
  by_cases c : i < 8
  · simp [c]
  · simp [c]
theorem and255 (m : Nat) : nI m &&& 255 = nI (m % 256) := by
  rw [show (255 : Int32) = nI 255 from rfl, nI_and, show (255 : Nat) = 2 ^ 8 - 1 from rfl, Nat.and_two_pow_sub_one_eq_mod]
theorem near_val {v : Int64} {f : Nat → Nat → Bool} {x : Nat} (h : lkR v f) (hx : x < 8) : ((v.toUInt64 >>> ((nI (8 * x)).toInt64.toUInt64 &&& Int64.toUInt64 63)).toInt64).toInt32 &&& 255 = nI (bts (f x) 8) := by
  obtain ⟨n, hn, rfl⟩ := wb_of v
  rw [wb_shr hn (by omega), lN_i, and255]
  congr 1
  refine bts_ext (Nat.mod_lt _ (by decide)) (fun j hj => ?_)
  have h1 := h x j hx hj
  rw [lN_bit, decide_eq_true (by omega), Bool.true_and] at h1
  rw [show (256 : Nat) = 2 ^ 8 from rfl, Nat.testBit_mod_two_pow, decide_eq_true hj, Bool.true_and, Nat.testBit_div_two_pow, ← h1]
  congr 1
  omega
/-- side by side, one more at the end -/
theorem sbs_end {x y c : Nat} : ∀ (m : List Nat) (d : Nat), sbs x y (m ++ [d, c]) = (sbs x y (m ++ [d]) || (decide (d = x) && decide (c = y) || decide (d = y) && decide (c = x)))
  | [], d => by simp [sbs]
  | [a], d => by simp [sbs, Bool.or_assoc]
  | a :: b :: t, d => by
    have := sbs_end (x := x) (y := y) (c := c) (b :: t) d
    simp only [List.cons_append] at this ⊢
    simp only [sbs, this, Bool.or_assoc]
theorem sbs_tk {x y : Nat} {l : List Nat} {j : Nat} (h1 : 1 ≤ j) (h2 : j < l.length) : sbs x y (l.take (j + 1)) = (sbs x y (l.take j) || prB (l.getD (j - 1) 0) (l.getD j 0) x y) := by
  obtain ⟨i, rfl⟩ : ∃ i, j = i + 1 := ⟨j - 1, by omega⟩
  have e1 : l.take (i + 1) = l.take i ++ [l.getD i 0] := by rw [List.take_add_one, List.getElem?_eq_getElem (by omega), getD_lt (by omega)]; rfl
  have e2 : l.take (i + 1 + 1) = l.take i ++ [l.getD i 0, l.getD (i + 1) 0] := by rw [List.take_add_one, List.getElem?_eq_getElem h2, getD_lt h2, e1]; simp
  rw [e1, e2, sbs_end]
  congr 1
  unfold prB
  rw [Nat.add_sub_cancel, ← Bool.decide_and, ← Bool.decide_and, ← Bool.decide_or]
  exact decide_eq_decide.mpr (by omega)
theorem sbs_sym {x y : Nat} : ∀ l : List Nat, sbs x y l = sbs y x l
  | [] => rfl
  | [_] => rfl
  | a :: b :: t => by
    unfold sbs
    rw [sbs_sym (b :: t)]
    rw [Bool.or_comm (decide (a = x) && decide (b = y))]
theorem kn_sym {c : List (List Nat)} (x y : Nat) : kn c x y = kn c y x := by
  unfold kn
  rw [show (sbs x y) = sbs y x from funext (fun l => sbs_sym l)]
theorem sh_to : ∀ t, t < 8 → (1 : Int32) <<< (nI t &&& 31) = nI (bts (fun x => decide (x = t)) 8) := by decide +kernel
theorem shr1 (m n : Nat) (hm : m < 256) (hn : n < 8) : (nI m >>> (nI n &&& 31)) &&& 1 = if m.testBit n then 1 else 0 := by
  have h : ∀ n, n < 8 → ∀ m, m < 256 → (nI m >>> (nI n &&& 31)) &&& 1 = if m.testBit n then 1 else 0 := by decide +kernel
  exact h n hn m hm
/-- the next rim -/
theorem dst_step {f : Nat → Nat → Bool} (hs : symB f) {to d m : Nat} (hd : d + 1 < 8) (hm : m < 8) : dst f to m = d + 1 ↔ (¬ dst f to m ≤ d ∧ ∃ n, n < 8 ∧ dst f to n = d ∧ f n m = true) := by
  constructor
  · intro h
    refine ⟨by omega, ?_⟩
    obtain ⟨g1, g2, g3, g4⟩ := nxt_spec h hd
    exact ⟨_, g1, g3, by rw [hs _ _ g1 hm]; exact g2⟩
  · rintro ⟨h1, n, h2, h3, h4⟩
    have hw : wtn f to d n = true := by
      rcases dst_spec (f := f) (to := to) (x := n) with ⟨e, k1, k2, k3, k4⟩ | ⟨k1, k2⟩
      · rw [k2] at h3; rw [← h3]; exact k3
      · rw [k1] at h3; omega
    have := dst_le (f := f) (to := to) (x := m) (d + 1) (by omega) (wtn_edge h2 (by rw [hs _ _ hm h2]; exact h4) hw)
    omega
def levR (v : Int64) (f : Nat → Nat → Bool) (to d : Nat) : Prop := lkR v (fun e x => decide (e < d) && decide (dst f to x = e))
theorem lev_byte {p : Nat → Bool} {d : Nat} (hd : d < 8) : lkR ((nI (bts p 8)).toInt64 <<< ((nI (8 * d)).toInt64 &&& 63)) (fun e x => decide (e = d) && p x) := by
  have hb := bts_8 p
  rw [nI_l (by omega), wb_shl _ (by omega)]
  intro e x he hx
  rw [lN_bit, decide_eq_true (by omega), Bool.true_and, Nat.mul_comm, Nat.testBit_two_pow_mul, bts_bit]
  by_cases c : e = d
  · subst c
    simp [hx]
  · show _ = (decide (e = d) && p x)
    rw [decide_eq_false c, Bool.false_and]
    by_cases c2 : 8 * d ≤ 8 * e + x
    · rw [decide_eq_false (show ¬ (8 * e + x - 8 * d < 8) by omega)]; simp
    · rw [decide_eq_false (show ¬ (8 * e + x ≥ 8 * d) by omega)]; simp
/-- the lowest of eight -/
def low8 (p : Nat → Bool) : Nat := ((List.range 8).find? p).getD 0
theorem lev_val {v : Int64} {f : Nat → Nat → Bool} {to d : Nat} {q : Nat → Bool} (h : levR v f to 8) (hd : d < 8) : nI (bts q 8) &&& ((v.toUInt64 >>> ((nI (8 * d)).toInt64.toUInt64 &&& Int64.toUInt64 63)).toInt64).toInt32 = nI (bts (fun x => q x && decide (dst f to x = d)) 8) := by
  have h1 := near_val h hd
  have e : ∀ z : Int32, nI (bts q 8) &&& z = nI (bts q 8) &&& (z &&& 255) := fun z => by
    refine b_ext (fun i hi => ?_)
    rw [b_and, b_and, b_and, b_255, nI_bt hi, bts_bit]
    by_cases c : i < 8
    · simp [c]
    · simp [c]
  rw [e, h1, nI_and, bts_and]
  congr 1
  refine bts_congr (fun j hj => ?_)
  rw [decide_eq_true hd, Bool.true_and]
