/-! the text and how it is read: tokens -/
def isBl (c : Nat) : Bool := decide (c = 10) || decide (c = 32)
def isLt (c : Nat) : Bool := decide (97 ≤ c) && decide (c ≤ 122)
def isDg (c : Nat) : Bool := decide (48 ≤ c) && decide (c ≤ 57)
theorem isBl_iff {c : Nat} : isBl c = true ↔ c = 10 ∨ c = 32 := by simp [isBl]
theorem isLt_iff {c : Nat} : isLt c = true ↔ 97 ≤ c ∧ c ≤ 122 := by simp [isLt]
theorem isDg_iff {c : Nat} : isDg c = true ↔ 48 ≤ c ∧ c ≤ 57 := by simp [isDg]
def runE (q : Nat → Bool) (B : List Nat) (p : Nat) : Nat := p + ((B.drop p).takeWhile q).length
theorem runE_st {q : Nat → Bool} {B : List Nat} {p : Nat} (h : p < B.length) (hq : q (B.getD p 0) = true) : runE q B p = runE q B (p + 1) := by
  unfold runE
  rw [List.drop_eq_getElem_cons h, List.takeWhile_cons, if_pos (by rw [← getD_lt (d := 0) h]; exact hq), List.length_cons]
  omega
theorem runE_no {q : Nat → Bool} {B : List Nat} {p : Nat} (h : ¬ (p < B.length ∧ q (B.getD p 0) = true)) : runE q B p = p := by
  unfold runE
  by_cases hp : p < B.length
  · have hq : ¬ q (B.getD p 0) = true := fun e => h ⟨hp, e⟩
    rw [List.drop_eq_getElem_cons hp, List.takeWhile_cons, if_neg (by rw [← getD_lt (d := 0) hp]; exact hq)]
    rfl
  · rw [List.drop_eq_nil_of_le (by omega)]; rfl
theorem runE_ge {q : Nat → Bool} {B : List Nat} {p : Nat} : p ≤ runE q B p := Nat.le_add_right _ _
theorem runE_le {q : Nat → Bool} {B : List Nat} {p : Nat} (h : p ≤ B.length) : runE q B p ≤ B.length := by
  unfold runE
  have h1 : ((B.drop p).takeWhile q).length ≤ (B.drop p).length := (List.takeWhile_sublist q).length_le
  rw [List.length_drop] at h1
  omega
theorem runE_end {q : Nat → Bool} {B : List Nat} : ∀ (k p : Nat), B.length ≤ p + k → ¬ (runE q B p < B.length ∧ q (B.getD (runE q B p) 0) = true)
  | 0, p, h => by rw [runE_no (by omega)]; omega
  | k + 1, p, h => by
    by_cases c : p < B.length ∧ q (B.getD p 0) = true
    · rw [runE_st c.1 c.2]; exact runE_end k (p + 1) (by omega)
    · rw [runE_no c]; exact c
theorem runE_in {q : Nat → Bool} {B : List Nat} : ∀ (k p : Nat), B.length ≤ p + k → ∀ i, p ≤ i → i < runE q B p → i < B.length ∧ q (B.getD i 0) = true
  | 0, p, h, i, h1, h2 => by rw [runE_no (by omega)] at h2; omega
  | k + 1, p, h, i, h1, h2 => by
    by_cases c : p < B.length ∧ q (B.getD p 0) = true
    · by_cases e : i = p
      · subst e; exact c
      · rw [runE_st c.1 c.2] at h2; exact runE_in k (p + 1) (by omega) i (by omega) h2
    · rw [runE_no c] at h2; omega
def sub (B : List Nat) (i j : Nat) : List Nat := (B.drop i).take (j - i)
theorem sub_nil {B : List Nat} {i : Nat} : sub B i i = [] := by unfold sub; rw [Nat.sub_self, List.take_zero]
theorem sub_snoc {B : List Nat} {i j : Nat} (h1 : i ≤ j) (h2 : j < B.length) : sub B i (j + 1) = sub B i j ++ [B.getD j 0] := by
  unfold sub
  rw [show j + 1 - i = (j - i) + 1 by omega, List.take_add_one]
  congr 1
  rw [List.getElem?_drop, show i + (j - i) = j by omega, getD_lt h2, List.getElem?_eq_getElem h2]
  rfl
theorem sub_len {B : List Nat} {i j : Nat} (h : j ≤ B.length) : (sub B i j).length = j - i := by
  unfold sub; rw [List.length_take, List.length_drop]; omega
def tkB (B : List Nat) (p : Nat) : Nat := runE isBl B p
def tkC (B : List Nat) (p : Nat) : Nat := B.getD (tkB B p) 0
/-- 0 the end, 1 none, 2 a word, 3 a number, 4 the sign -/
def tkK (B : List Nat) (p : Nat) : Nat := if B.length ≤ tkB B p then 0 else if isLt (tkC B p) then 2 else if isDg (tkC B p) then (if runE isDg B (tkB B p) - tkB B p ≤ 2 then 3 else 1) else if tkC B p = 59 then 4 else 1
def tkE (B : List Nat) (p : Nat) : Nat := if B.length ≤ tkB B p then tkB B p else if isLt (tkC B p) then runE isLt B (tkB B p) else if isDg (tkC B p) then runE isDg B (tkB B p) else tkB B p + 1
def tkW (B : List Nat) (p : Nat) : List Nat := if tkK B p = 2 then sub B (tkB B p) (tkE B p) else []
def numV (l : List Nat) : Nat := l.foldl (fun a d => 10 * a + (d - 48)) 0
def tkV (B : List Nat) (p : Nat) : Nat := numV (sub B (tkB B p) (tkE B p))
theorem tkB_ge {B : List Nat} {p : Nat} : p ≤ tkB B p := runE_ge
theorem tkB_le {B : List Nat} {p : Nat} (h : p ≤ B.length) : tkB B p ≤ B.length := runE_le h
theorem tkE_gt {B : List Nat} {p : Nat} (h : tkK B p ≠ 0) : tkB B p < tkE B p := by
  unfold tkK at h
  unfold tkE
  by_cases c : B.length ≤ tkB B p
  · rw [if_pos c] at h; exact absurd rfl h
  · rw [if_neg c]
    have hlt : tkB B p < B.length := by omega
    split
    · rename_i q; rw [runE_st hlt q]; have := @runE_ge isLt B (tkB B p + 1); omega
    · split
      · rename_i q; rw [runE_st hlt q]; have := @runE_ge isDg B (tkB B p + 1); omega
      · omega
theorem tkE_le {B : List Nat} {p : Nat} (h : p ≤ B.length) : tkE B p ≤ B.length := by
  have h1 := tkB_le h
  unfold tkE
  split
  · exact h1
  · split
    · exact runE_le h1
    · split
      · exact runE_le h1
      · omega
theorem tkK_end {B : List Nat} {p : Nat} : tkK B p = 0 ↔ B.length ≤ tkB B p := by
  unfold tkK
  constructor
  · intro h
    split at h
    · assumption
    · split at h
      · cases h
      · split at h
        · split at h <;> cases h
        · split at h <;> cases h
  · intro h; rw [if_pos h]
def wPk (l : List Nat) : Nat := l.foldl (fun a c => a * 256 + c) 0
theorem wPk_snoc (l : List Nat) (c : Nat) : wPk (l ++ [c]) = wPk l * 256 + c := by simp [wPk]
theorem numV_snoc (l : List Nat) (c : Nat) : numV (l ++ [c]) = 10 * numV l + (c - 48) := by simp [numV]
theorem wPk_lt : ∀ (n : Nat) (l : List Nat), l.length = n → (∀ c ∈ l, c < 256) → wPk l < 256 ^ n
  | 0, l, h, _ => by rw [List.length_eq_zero_iff.mp h]; simp [wPk]
  | n + 1, l, h, hc => by
    obtain ⟨l', c, rfl⟩ : ∃ l' c, l = l' ++ [c] := ⟨l.dropLast, l.getLast (by intro e; rw [e] at h; cases h), (List.dropLast_concat_getLast _).symm⟩
    rw [List.length_append, List.length_singleton] at h
    have h1 := wPk_lt n l' (by omega) (fun x hx => hc x (List.mem_append_left _ hx))
    have h2 := hc c (by simp)
    rw [wPk_snoc, Nat.pow_succ]
    have : (wPk l' + 1) * 256 ≤ 256 ^ n * 256 := Nat.mul_le_mul_right _ h1
    omega
theorem wPk_inj : ∀ (n : Nat) (l m : List Nat), l.length = n → (∀ c ∈ l, 0 < c ∧ c < 256) → (∀ c ∈ m, 0 < c ∧ c < 256) → wPk l = wPk m → l = m
  | 0, l, m, h, _, hm, e => by
    rw [List.length_eq_zero_iff.mp h] at e ⊢
    by_cases q : m = []
    · exact q.symm
    · obtain ⟨m', c, rfl⟩ : ∃ l' c, m = l' ++ [c] := ⟨m.dropLast, m.getLast q, (List.dropLast_concat_getLast _).symm⟩
      rw [wPk_snoc] at e
      have := hm c (by simp)
      simp [wPk] at e
      omega
  | n + 1, l, m, h, hl, hm, e => by
    obtain ⟨l', c, rfl⟩ : ∃ l' c, l = l' ++ [c] := ⟨l.dropLast, l.getLast (by intro e; rw [e] at h; cases h), (List.dropLast_concat_getLast _).symm⟩
    rw [List.length_append, List.length_singleton] at h
    have h1 := hl c (by simp)
    by_cases q : m = []
    · subst q
      rw [wPk_snoc] at e
      simp [wPk] at e
      omega
    · obtain ⟨m', d, rfl⟩ : ∃ l' c, m = l' ++ [c] := ⟨m.dropLast, m.getLast q, (List.dropLast_concat_getLast _).symm⟩
      rw [wPk_snoc, wPk_snoc] at e
      have h2 := hm d (by simp)
      have e1 : c = d := by omega
      have e2 : wPk l' = wPk m' := by omega
      rw [wPk_inj n l' m' (by omega) (fun x hx => hl x (List.mem_append_left _ hx)) (fun x hx => hm x (List.mem_append_left _ hx)) e2, e1]
/-- the words, by has() -/
def kws : List (List Nat) := [[110, 111, 100, 101, 115], [104, 111, 112, 115], [114, 111, 111, 109], [116, 97, 98, 108, 101], [98, 117, 102, 102, 101, 114], [119, 97, 105, 116], [97, 103, 97, 105, 110], [115, 97, 108, 118, 97, 103, 101], [108, 105, 110, 107], [109, 97, 112], [100, 101, 97, 102]]
def kwI (l : List Nat) : Option Nat := if l ∈ kws then some (kws.idxOf l) else none
def wd (l : List Nat) : Int64 := if l.length ≤ 8 then lN (wPk l) else 0
theorem kws_ok : ∀ k, k < 11 → (kws.getD k []).length ≤ 8 ∧ 1 ≤ (kws.getD k []).length ∧ (∀ c ∈ kws.getD k [], 0 < c ∧ c < 256) ∧ kws.idxOf (kws.getD k []) = k ∧ wPk (kws.getD k []) ≠ 0 := by decide +kernel
theorem lN_inj {a b : Nat} (ha : a < 2 ^ 64) (hb : b < 2 ^ 64) (h : lN a = lN b) : a = b := by
  have h1 := congrArg (fun x : Int64 => x.toBitVec.toNat) h
  have e : ∀ n, n < 2 ^ 64 → (lN n).toBitVec.toNat = n := fun n hn => by
    show (BitVec.ofNat 64 n).toNat = n
    rw [BitVec.toNat_ofNat]; exact Nat.mod_eq_of_lt hn
  simpa only [e a ha, e b hb] using h1
theorem wd_eq {l : List Nat} {k : Nat} (hl : ∀ c ∈ l, 0 < c ∧ c < 256) (hk : k < 11) : wd l = lN (wPk (kws.getD k [])) ↔ l = kws.getD k [] := by
  obtain ⟨g1, g2, g3, g4, g5⟩ := kws_ok k hk
  have hb : ∀ m : List Nat, m.length ≤ 8 → (∀ c ∈ m, 0 < c ∧ c < 256) → wPk m < 2 ^ 64 := fun m h8 hm => by
    have := wPk_lt m.length m rfl (fun c hc => (hm c hc).2)
    have h2 : (256 : Nat) ^ m.length ≤ 256 ^ 8 := Nat.pow_le_pow_right (by decide) h8
    have h3 : (256 : Nat) ^ 8 = 2 ^ 64 := by decide
    omega
  unfold wd
  constructor
  · intro h
    split at h
    · rename_i h8
      exact wPk_inj _ l _ rfl hl g3 (lN_inj (hb l h8 hl) (hb _ g1 g3) h)
    · exact absurd (lN_inj (a := 0) (by decide) (hb _ g1 g3) h).symm g5
  · intro h
    subst h
    rw [if_pos g1]
theorem kwI_some {l : List Nat} {k : Nat} : kwI l = some k ↔ k < 11 ∧ l = kws.getD k [] := by
  unfold kwI
  constructor
  · intro h
    split at h
    · rename_i hm
      cases h
      have h1 := List.idxOf_lt_length_of_mem hm
      refine ⟨h1, ?_⟩
      rw [getD_lt h1]; exact (List.getElem_idxOf h1).symm
    · cases h
  · rintro ⟨h1, rfl⟩
    rw [if_pos (getD_mem h1), (kws_ok k h1).2.2.2.1]
theorem kwI_none {l : List Nat} : kwI l = none ↔ ∀ k, k < 11 → l ≠ kws.getD k [] := by
  constructor
  · intro h k hk e
    rw [kwI_some.mpr ⟨hk, e⟩] at h
    cases h
  · intro h
    cases q : kwI l with
    | none => rfl
    | some k => exact absurd (kwI_some.mp q).2 (h k (kwI_some.mp q).1)
/-- what is read so far: settings, links up, maps, deaf ones, the first number that can not be, where each node stands first -/
abbrev Ps : Type := (Nat → Nat) × (Nat → Nat → Bool) × (Nat → Bool) × (Nat → Bool) × Option Nat × (Nat → Option Nat)
abbrev pSe (s : Ps) : Nat → Nat := s.1
abbrev pUp (s : Ps) : Nat → Nat → Bool := s.2.1
abbrev pMp (s : Ps) : Nat → Bool := s.2.2.1
abbrev pDf (s : Ps) : Nat → Bool := s.2.2.2.1
abbrev pBd (s : Ps) : Option Nat := s.2.2.2.2.1
abbrev pNm (s : Ps) : Nat → Option Nat := s.2.2.2.2.2
def loW (w : Nat) : Nat := if w = 0 then 2 else if w = 7 then 0 else if w < 8 then 1 else 0
def hiW (w : Nat) : Nat := if w = 0 then 8 else if w = 1 then 7 else if w = 2 ∨ w = 3 then 6 else if w = 4 then 4 else if w = 5 then 20 else if w = 6 then 9 else if w = 7 then 3 else 7
def okV (w v : Nat) (but : Option Nat) : Bool := decide (loW w ≤ v) && decide (v ≤ hiW w) && decide (but ≠ some v)
def psT (s : Ps) (w v at_ : Nat) (but : Option Nat) : Ps := (s.1, s.2.1, s.2.2.1, s.2.2.2.1, (if okV w v but then s.2.2.2.2.1 else match s.2.2.2.2.1 with
  | none => some at_
  | some q => some q), if w < 8 then s.2.2.2.2.2 else fun n => if n = v then (match s.2.2.2.2.2 n with
    | none => some at_
    | some q => some q) else s.2.2.2.2.2 n)
def psSe (s : Ps) (w v : Nat) : Ps := (updN s.1 w v, s.2)
def psUp (s : Ps) (a b : Nat) : Ps := (s.1, (fun p q => if (p = a ∧ q = b) ∨ (p = b ∧ q = a) then true else s.2.1 p q), s.2.2)
def psMp (s : Ps) (a : Nat) : Ps := (s.1, s.2.1, (fun p => if p = a then true else s.2.2.1 p), s.2.2.2)
def psDf (s : Ps) (a : Nat) : Ps := (s.1, s.2.1, s.2.2.1, (fun p => if p = a then true else s.2.2.2.1 p), s.2.2.2.2)
/-- a clause whose word is w, from behind the word on: where it fails, or what is read and the place of the sign -/
def clS (B : List Nat) (w p : Nat) (s : Ps) : Nat ⊕ (Nat × Ps) :=
  if tkK B p ≠ 3 then .inl (tkB B p) else
  if w = 8 then (if tkK B (tkE B p) ≠ 3 then .inl (tkB B (tkE B p)) else .inr (tkE B (tkE B p), psUp (psT (psT s 8 (tkV B p) (tkB B p) none) 8 (tkV B (tkE B p)) (tkB B (tkE B p)) (some (tkV B p))) (tkV B p) (tkV B (tkE B p))))
  else .inr (tkE B p, if w < 8 then psSe (psT s w (tkV B p) (tkB B p) none) w (tkV B p) else if w = 9 then psMp (psT s w (tkV B p) (tkB B p) none) (tkV B p) else psDf (psT s w (tkV B p) (tkB B p) none) (tkV B p))
def linS (B : List Nat) : Nat → Nat → Ps → Nat ⊕ Ps
  | 0, p, _ => .inl p
  | k + 1, p, s => if tkK B p = 0 then .inr s else match kwI (tkW B p) with
    | none => .inl (tkB B p)
    | some w => match clS B w (tkE B p) s with
      | .inl e => .inl e
      | .inr (q, s') => if tkK B q = 4 then linS B k (tkE B q) s' else .inl (tkB B q)
def ps0 : Ps := ((fun k => match k with
  | 0 => 2
  | 1 => 7
  | 2 => 4
  | 3 => 4
  | 4 => 3
  | 5 => 9
  | 6 => 3
  | _ => 1), (fun _ _ => false), (fun _ => false), (fun _ => false), none, fun _ => none)
/-- the first place of a node that is not there -/
def misS (s : Ps) : Nat → Option Nat → Option Nat
  | 0, o => o
  | k + 1, o => misS s k (match pNm s (8 - (k + 1)) with
    | none => o
    | some a => match o with
      | none => some a
      | some q => if a < q then some a else some q)
/-- fault, place -/
def reaF (B : List Nat) : Nat × Option Nat × Ps := match linS B 401 0 ps0 with
  | .inl e => (1, some e, ps0)
  | .inr s => match pBd s with
    | some q => (2, some q, s)
    | none => match misS s (8 - pSe s 0) none with
      | some q => (3, some q, s)
      | none => (0, none, s)
