/-! rows of nodes in one long: four bits each, the first lowest -/
def pw : List Nat → Nat
  | [] => 0
  | x :: t => (x + 1) + 16 * pw t
theorem pw_cons (x : Nat) (t : List Nat) : pw (x :: t) = (x + 1) + 16 * pw t := rfl
theorem pw_one (x : Nat) : pw [x] = x + 1 := rfl
def okR (l : List Nat) : Prop := l.length ≤ 8 ∧ ∀ x ∈ l, x < 8
def rJ (l : List Nat) : Int64 := lN (pw l)
theorem okR.drop {l : List Nat} (h : okR l) (i : Nat) : okR (l.drop i) := ⟨by rw [List.length_drop]; have := h.1; omega, fun x hx => h.2 x (List.mem_of_mem_drop hx)⟩
theorem okR.take {l : List Nat} (h : okR l) (i : Nat) : okR (l.take i) := ⟨by rw [List.length_take]; have := h.1; omega, fun x hx => h.2 x (List.mem_of_mem_take hx)⟩
theorem okR.rev {l : List Nat} (h : okR l) : okR l.reverse := ⟨by rw [List.length_reverse]; exact h.1, fun x hx => h.2 x (List.mem_reverse.mp hx)⟩
theorem okR.nil : okR [] := ⟨Nat.zero_le _, fun _ h => absurd h List.not_mem_nil⟩
theorem okR.of {l : List Nat} (h1 : l.Nodup) (h2 : ∀ x ∈ l, x < 8) : okR l := ⟨nodup8 h1 h2, h2⟩
theorem okR.app {l m : List Nat} (h1 : okR l) (h2 : okR m) (h : l.length + m.length ≤ 8) : okR (l ++ m) := ⟨by rw [List.length_append]; exact h, fun x hx => (List.mem_append.mp hx).elim (h1.2 x) (h2.2 x)⟩
theorem okR.cons {l : List Nat} {x : Nat} (h : okR l) (hx : x < 8) (hl : l.length < 8) : okR (x :: l) := ⟨by rw [List.length_cons]; omega, fun y hy => (List.mem_cons.mp hy).elim (fun e => e ▸ hx) (h.2 y)⟩
theorem okR.snoc {l : List Nat} {x : Nat} (h : okR l) (hx : x < 8) (hl : l.length < 8) : okR (l ++ [x]) := h.app ⟨by simp, fun y hy => by rw [List.mem_singleton.mp hy]; exact hx⟩ (by simp; omega)
theorem pw_lt : ∀ {l : List Nat}, (∀ x ∈ l, x < 8) → pw l < 16 ^ l.length
  | [], _ => by simp [pw]
  | x :: t, h => by
    have h1 := pw_lt (l := t) (fun y hy => h y (List.mem_cons_of_mem _ hy))
    have h2 := h x List.mem_cons_self
    unfold pw
    rw [List.length_cons, Nat.pow_succ]
    omega
theorem okR.lt {l : List Nat} (h : okR l) : pw l < 4294967296 := by
  have h1 := pw_lt h.2
  have h2 : (16 : Nat) ^ l.length ≤ 16 ^ 8 := Nat.pow_le_pow_right (by decide) h.1
  have h3 : (16 : Nat) ^ 8 = 4294967296 := by decide
  omega
theorem pw_drop : ∀ (i : Nat) {l : List Nat}, (∀ x ∈ l, x < 8) → pw l / 16 ^ i = pw (l.drop i)
  | 0, l, _ => by simp
  | i + 1, [], _ => by simp [pw]
  | i + 1, x :: t, h => by
    have h2 := h x List.mem_cons_self
    have h1 := pw_drop i (l := t) (fun y hy => h y (List.mem_cons_of_mem _ hy))
    rw [Nat.pow_succ, Nat.mul_comm, ← Nat.div_div_eq_div_mul, List.drop_succ_cons, ← h1]
    congr 1
    rw [pw_cons]
    omega
theorem pw_take : ∀ (i : Nat) {l : List Nat}, (∀ x ∈ l, x < 8) → pw l % 16 ^ i = pw (l.take i)
  | 0, l, _ => by simp [pw, Nat.mod_one]
  | i + 1, [], _ => by simp [pw]
  | i + 1, x :: t, h => by
    have h2 := h x List.mem_cons_self
    have h1 := pw_take i (l := t) (fun y hy => h y (List.mem_cons_of_mem _ hy))
    rw [List.take_succ_cons, pw_cons, pw_cons, ← h1, Nat.pow_succ, Nat.mul_comm (16 ^ i) 16, Nat.mod_mul, show (x + 1 + 16 * pw t) / 16 = pw t by omega, show (x + 1 + 16 * pw t) % 16 = x + 1 by omega]
theorem pw_zero {l : List Nat} : pw l = 0 ↔ l = [] := by
  cases l with
  | nil => simp [pw]
  | cons x t => simp [pw]
theorem pw_app : ∀ (l m : List Nat), pw (l ++ m) = pw l + 16 ^ l.length * pw m
  | [], m => by simp [pw]
  | x :: t, m => by
    rw [List.cons_append, pw_cons, pw_cons, pw_app t m, List.length_cons, Nat.pow_succ]
    rw [Nat.mul_add, Nat.mul_comm (16 ^ t.length) 16, Nat.mul_assoc]
    omega
theorem pw_inj : ∀ {l m : List Nat}, (∀ x ∈ l, x < 8) → (∀ x ∈ m, x < 8) → pw l = pw m → l = m
  | [], m, _, _, h => (pw_zero.mp h.symm).symm
  | x :: t, [], _, _, h => pw_zero.mp h
  | x :: t, y :: s, h1, h2, h => by
    have a := h1 x List.mem_cons_self
    have b := h2 y List.mem_cons_self
    unfold pw at h
    have e1 : x = y := by omega
    have e2 : pw t = pw s := by omega
    rw [e1, pw_inj (fun z hz => h1 z (List.mem_cons_of_mem _ hz)) (fun z hz => h2 z (List.mem_cons_of_mem _ hz)) e2]
theorem rJ_inj {l m : List Nat} (h1 : okR l) (h2 : okR m) (h : rJ l = rJ m) : l = m := pw_inj h1.2 h2.2 (lN_inj (by have := h1.lt; omega) (by have := h2.lt; omega) h)
theorem pow16 (i : Nat) : 2 ^ (4 * i) = 16 ^ i := by rw [Nat.pow_mul]
theorem rJ_shr {l : List Nat} (h : okR l) {i : Nat} (hi : i ≤ 8) : ((rJ l).toUInt64 >>> ((nI (4 * i)).toInt64.toUInt64 &&& Int64.toUInt64 63)).toInt64 = rJ (l.drop i) := by
  unfold rJ
  rw [wb_shr (by have := h.lt; omega) (by omega), pow16, pw_drop i h.2]
theorem rJ_15 {l : List Nat} (h : okR l) : rJ l &&& 15 = lN (pw l % 16) := wb_mask (k := 4) (by have := h.lt; omega) (by decide)
theorem cmp_eq {x y : Int64} : lg_cmp x y = 0 ↔ x = y := by
  unfold lg_cmp
  constructor
  · intro h
    split at h
    · cases h
    · split at h
      · assumption
      · exact absurd h (by decide)
  · intro h
    subst h
    rw [if_neg (by exact Int64.lt_irrefl), if_pos rfl]
theorem rJ_0 {l : List Nat} (h : okR l) : rJ l = 0 ↔ l = [] := ⟨fun e => rJ_inj h okR.nil e, fun e => by rw [e]; rfl⟩
theorem cmp_0 {l : List Nat} (h : okR l) : lg_cmp (rJ l) 0 = 0 ↔ l = [] := cmp_eq.trans (rJ_0 h)
theorem pw_hd {l : List Nat} {i : Nat} (h : ∀ x ∈ l, x < 8) (hi : i < l.length) : pw (l.drop i) % 16 = l.getD i 0 + 1 := by
  rw [List.drop_eq_getElem_cons hi, getD_lt hi]
  have := h _ (List.getElem_mem hi)
  unfold pw
  omega
theorem at_val {l : List Nat} (h : okR l) {i : Nat} (hi : i < 8) : nI (pw (l.drop i) % 16) - 1 = nth l (nI i) := by
  unfold nth
  by_cases c : i < l.length
  · rw [pw_hd h.2 c, inN_nI c (by omega), nI_pred]
  · rw [List.drop_eq_nil_of_le (by omega)]
    have : inN (nI i) l.length = none := by unfold inN; rw [nI_toInt (by omega), if_neg (by omega)]
    rw [this]
    show nI (pw [] % 16) - 1 = -1
    decide
theorem nth_in {l : List Nat} {i : Nat} (hi : i < l.length) (h8 : l.length ≤ 8) : nth l (nI i) = nI (l.getD i 0) := by unfold nth; rw [inN_nI hi (by omega)]
theorem nth_out {l : List Nat} {v : Int32} (h : v < 0 ∨ nI 8 ≤ v) (h8 : l.length ≤ 8) : nth l v = -1 := by
  unfold nth
  have : inN v l.length = none := by
    unfold inN
    rw [if_neg]
    rcases h with h | h
    · rw [Int32.lt_iff_toInt_lt] at h
      have : (0 : Int32).toInt = 0 := by decide
      omega
    · rw [Int32.le_iff_toInt_le, nI_toInt (by decide)] at h
      omega
  rw [this]
theorem lt8_of {v : Int32} (h1 : ¬ v < 0) (h2 : v < 8) : ∃ i : Nat, i < 8 ∧ v = nI i := by
  obtain ⟨j, hj, rfl⟩ := nI_of h1
  rw [show (8 : Int32) = nI 8 from rfl, nI_ltI hj (by decide)] at h2
  exact ⟨j, h2, rfl⟩
/-- where a node stands in a row, as both answer it -/
def ixR (l : List Nat) (x : Nat) : Int32 := if x ∈ l then nI (l.idxOf x) else -1
theorem idxOf_iff {l : List Nat} {x i : Nat} (hi : i < l.length) (h1 : l.getD i 0 = x) (h2 : ∀ j, j < i → l.getD j 0 ≠ x) : x ∈ l ∧ l.idxOf x = i := by
  refine ⟨h1 ▸ getD_mem hi, ?_⟩
  induction l generalizing i with
  | nil => simp at hi
  | cons a t ih =>
    cases i with
    | zero => simp at h1; subst h1; simp
    | succ i =>
      have h0 : a ≠ x := by simpa using h2 0 (by omega)
      rw [List.idxOf_cons, show (a == x) = false by simpa using h0]
      show t.idxOf x + 1 = i + 1
      rw [ih (by simpa using hi) (by simpa using h1) (fun j hj => by simpa using h2 (j + 1) (by omega))]
theorem not_memN {l : List Nat} {x : Nat} (h2 : ∀ j, j < l.length → l.getD j 0 ≠ x) : x ∉ l := by
  intro hm
  obtain ⟨i, hi, e⟩ := List.mem_iff_getElem.mp hm
  exact h2 i hi (by rw [getD_lt hi]; exact e)
theorem rJ_snoc {l : List Nat} {x : Nat} (h : okR l) (hx : x < 8) (hl : l.length < 8) : rJ l ||| ((nI x + 1).toInt64 <<< ((nI (4 * l.length)).toInt64 &&& 63)) = rJ (l ++ [x]) := by
  unfold rJ
  rw [nI_1, nI_l (by omega), wb_shl _ (by omega), pow16, pw_app]
  have h1 := pw_lt h.2
  have h3 := (h.snoc hx hl).lt
  rw [pw_app] at h3
  rw [pw_one] at h3 ⊢
  rw [g_or' (k := 4 * l.length) (pow16 _) h1 (by rw [Nat.mul_comm]; omega)]
  congr 1
  rw [Nat.mul_comm]
theorem rJ_take {l : List Nat} (h : okR l) {n : Nat} (hn : n ≤ 8) : rJ l &&& ((1 : Int64) <<< ((nI (4 * n)).toInt64 &&& 63) - 1) = rJ (l.take n) := by
  unfold rJ
  rw [show (1 : Int64) = lN 1 from rfl, wb_shl _ (by omega), Nat.one_mul, lN_sub (Nat.one_le_two_pow), wb_mask (by have := h.lt; omega) (by omega), pow16, pw_take n h.2]
theorem rJ_cons {l : List Nat} {x : Nat} (h : okR l) (hx : x < 8) (hl : l.length < 8) : (rJ l <<< ((4 : Int32).toInt64 &&& 63)) ||| (nI x + 1).toInt64 = rJ (x :: l) := by
  unfold rJ
  have h1 := (h.cons hx hl).lt
  simp only [pw] at h1
  rw [nI_1, nI_l (by omega), show (4 : Int32) = nI 4 from rfl, wb_shl _ (by decide)]
  rw [g_or (k := 4) (p := 2 ^ 4) rfl (by omega) (by omega)]
  congr 1
  simp only [pw]
  omega
theorem rJ_rev {m : List Nat} {x : Nat} (h : okR m) (hx : x < 8) (hl : m.length < 8) : (rJ m <<< ((4 : Int32).toInt64 &&& 63)) ||| lN (x + 1) = rJ (x :: m) := by
  have := rJ_cons h hx hl
  rwa [nI_1, nI_l (by omega)] at this
theorem rJ_join {l m : List Nat} (h1 : okR l) (h2 : okR m) (h : l.length + m.length ≤ 8) : rJ l ||| (rJ m <<< ((nI (4 * l.length)).toInt64 &&& 63)) = rJ (l ++ m) := by
  unfold rJ
  have h3 := (h1.app h2 h).lt
  rw [pw_app] at h3
  have hp := pow16 l.length
  rw [wb_shl _ (by omega), hp, pw_app, g_or' (k := 4 * l.length) hp (pw_lt h1.2) (by rw [Nat.mul_comm]; omega)]
  congr 1
  rw [Nat.mul_comm]
/-- the nodes of a row as a set of bits -/
def msk (l : List Nat) : Nat := l.foldl (fun a x => a ||| 1 <<< x) 0
theorem msk_snoc (l : List Nat) (x : Nat) : msk (l ++ [x]) = msk l ||| 1 <<< x := by simp [msk]
theorem msk_bit : ∀ (n : Nat) (l : List Nat), l.length = n → ∀ x, (msk l).testBit x = l.contains x
  | 0, l, h, x => by rw [List.length_eq_zero_iff.mp h]; simp [msk]
  | n + 1, l, h, x => by
    obtain ⟨l', c, rfl⟩ : ∃ l' c, l = l' ++ [c] := ⟨l.dropLast, l.getLast (by intro e; rw [e] at h; cases h), (List.dropLast_concat_getLast _).symm⟩
    rw [List.length_append, List.length_singleton] at h
    rw [msk_snoc, Nat.testBit_or, msk_bit n l' (by omega) x, Nat.testBit_shiftLeft]
    by_cases e : x = c
    · subst e; simp
    · have : (decide (x ≥ c) && Nat.testBit 1 (x - c)) = false := by
        by_cases g : x ≥ c
        · have : x - c ≠ 0 := by omega
          obtain ⟨k, hk⟩ : ∃ k, x - c = k + 1 := ⟨x - c - 1, by omega⟩
          simp [hk, Nat.testBit_succ]
        · simp [g]
      rw [this]
      simp [e]
theorem msk_lt {l : List Nat} (h : ∀ x ∈ l, x < 8) : msk l < 256 := by
  refine Nat.lt_pow_two_of_testBit (n := 8) _ (fun i hi => ?_)
  rw [msk_bit _ l rfl]
  simp only [List.contains_eq_mem, decide_eq_false_iff_not]
  intro hm
  have := h i hm
  omega
theorem nI_and (a b : Nat) : nI a &&& nI b = nI (a &&& b) := nx_and a b
theorem msk_dis {l m : List Nat} : msk l &&& msk m = 0 ↔ ∀ x ∈ l, x ∉ m := by
  constructor
  · intro h x h1 h2
    have := congrArg (fun n => n.testBit x) h
    simp only [Nat.testBit_and, msk_bit _ l rfl, msk_bit _ m rfl, Nat.zero_testBit] at this
    simp [h1, h2] at this
  · intro h
    refine Nat.eq_of_testBit_eq (fun i => ?_)
    rw [Nat.testBit_and, msk_bit _ l rfl, msk_bit _ m rfl, Nat.zero_testBit]
    by_cases c : i ∈ l
    · simp [h i c]
    · simp [c]
