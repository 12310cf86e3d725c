/-! where all lies -/
def pk (o : Nat) : Kd := if o = 0 then .inl 4 else if o = 1 then .inl 6 else if o = 2 then .inr (3, 6) else if o = 3 then .inr (0, 4) else if o = 4 then .inr (0, 8) else if o = 5 then .inl 1 else if o = 6 then .inl 6 else .inr (3, 18)
def wk (o : Nat) : Kd := if o = 0 then .inl 8 else if o = 1 then .inr (0, 8) else if o = 2 then .inr (0, 11) else if o = 3 then .inl 0 else if o = 4 then .inr (4, 40) else if o < 46 then .inl 3 else if o = 46 then .inr (5, 8) else if o = 47 then .inr (6, 40) else if o < 112 then pk ((o - 48) % 8) else .inl 2
def kt (o : Nat) : Kd := if o = 0 then .inl 7 else if o = 1 then .inr (1, 400) else wk (o - 2)
def mk_ (o : Nat) : Kd := ([.inl 10, .inr (0, 12285), .inr (1, 2000), .inr (2, 3), .inr (0, 8), .inr (0, 64), .inr (0, 8), .inr (0, 9), .inr (0, 9), .inr (2, 64), .inr (0, 8), .inr (0, 16), .inr (0, 16)] : List Kd).getD o (.inl 0)
def kd (o : Nat) : Kd := if o = 0 then .inl 9 else if o = 1 then .inl 7 else if o = 2 then .inr (1, 400) else if o = 3 then .inl 5 else if o < 6 then .inr (0, 8) else if o < 158 then wk (o - 6) else if o < 310 then wk (o - 158) else if o = 310 then .inr (7, 3) else if o = 311 then .inr (8, 3) else if o < 774 then kt ((o - 312) % 154) else mk_ (o - 774)
theorem wk_post {n j : Nat} (hn : n < 8) (hj : j < 8) : wk (48 + 8 * n + j) = pk j := by
  unfold wk
  rw [if_neg (by omega), if_neg (by omega), if_neg (by omega), if_neg (by omega), if_neg (by omega), if_neg (by omega), if_neg (by omega), if_neg (by omega), if_pos (by omega), show (48 + 8 * n + j - 48) % 8 = j by omega]
theorem wk_fr {o : Nat} (h1 : 5 ≤ o) (h2 : o < 46) : wk o = .inl 3 := by
  unfold wk
  rw [if_neg (by omega), if_neg (by omega), if_neg (by omega), if_neg (by omega), if_neg (by omega), if_pos (by omega)]
theorem wk_da {o : Nat} (h1 : 112 ≤ o) : wk o = .inl 2 := by
  unfold wk
  rw [if_neg (by omega), if_neg (by omega), if_neg (by omega), if_neg (by omega), if_neg (by omega), if_neg (by omega), if_neg (by omega), if_neg (by omega), if_neg (by omega)]
theorem WLay_of {G : Gc} {w : Nat} (hm : ∀ a, w ≤ a → a < w + 152 → a ∈ gL G) (hk : ∀ o, o < 152 → gK G (w + o) = wk o) : WLay G w := by
  have h0 := hk 0 (by decide)
  refine ⟨⟨hm _ (by omega) (by omega), h0⟩, ⟨hm _ (by omega) (by omega), hk 1 (by decide)⟩, ⟨hm _ (by omega) (by omega), hk 2 (by decide)⟩, ⟨hm _ (by omega) (by omega), hk 3 (by decide)⟩, ⟨hm _ (by omega) (by omega), hk 4 (by decide)⟩, fun a q1 q2 => ⟨hm _ (by omega) (by omega), ?_⟩, ⟨hm _ (by omega) (by omega), hk 46 (by decide)⟩, ⟨hm _ (by omega) (by omega), hk 47 (by decide)⟩, fun n hn => ?_, fun k hk2 => ⟨hm _ (by unfold dA; omega) (by unfold dA; omega), ?_⟩⟩
  · rw [show a = w + (a - w) by omega, hk _ (by omega)]; exact wk_fr (by omega) (by omega)
  · have e : ∀ j, j < 8 → gK G (pA w n + j) = pk j := fun j hj => by
      show gK G (w + 48 + 8 * n + j) = _
      rw [show w + 48 + 8 * n + j = w + (48 + 8 * n + j) by omega, hk _ (by omega)]; exact wk_post hn hj
    have hq : ∀ j, j < 8 → pA w n + j ∈ gL G := fun j hj => hm _ (by unfold pA; omega) (by unfold pA; omega)
    exact ⟨⟨hq 0 (by decide), e 0 (by decide)⟩, ⟨⟨hq 1 (by decide), e 1 (by decide)⟩, ⟨hq 2 (by decide), e 2 (by decide)⟩, by decide, by decide⟩, ⟨hq 3 (by decide), e 3 (by decide)⟩, ⟨hq 4 (by decide), e 4 (by decide)⟩, ⟨⟨hq 5 (by decide), e 5 (by decide)⟩, ⟨⟨hq 6 (by decide), e 6 (by decide)⟩, ⟨hq 7 (by decide), e 7 (by decide)⟩, by decide, by decide⟩⟩⟩
  · show gK G (w + 112 + k) = _
    rw [show w + 112 + k = w + (112 + k) by omega, hk _ (by omega)]; exact wk_da (by omega)
theorem kd_w1 {o : Nat} (h : o < 152) : kd (6 + o) = wk o := by
  unfold kd
  rw [if_neg (by omega), if_neg (by omega), if_neg (by omega), if_neg (by omega), if_neg (by omega), if_pos (by omega), show 6 + o - 6 = o by omega]
theorem kd_w2 {o : Nat} (h : o < 152) : kd (158 + o) = wk o := by
  unfold kd
  rw [if_neg (by omega), if_neg (by omega), if_neg (by omega), if_neg (by omega), if_neg (by omega), if_neg (by omega), if_pos (by omega), show 158 + o - 158 = o by omega]
theorem kd_k {k o : Nat} (hk : k < 3) (h : o < 154) : kd (312 + 154 * k + o) = kt o := by
  unfold kd
  rw [if_neg (by omega), if_neg (by omega), if_neg (by omega), if_neg (by omega), if_neg (by omega), if_neg (by omega), if_neg (by omega), if_neg (by omega), if_neg (by omega), if_pos (by omega), show (312 + 154 * k + o - 312) % 154 = o by omega]
theorem kd_m {o : Nat} (h : o < 13) : kd (774 + o) = mk_ o := by
  unfold kd
  rw [if_neg (by omega), if_neg (by omega), if_neg (by omega), if_neg (by omega), if_neg (by omega), if_neg (by omega), if_neg (by omega), if_neg (by omega), if_neg (by omega), if_neg (by omega), show 774 + o - 774 = o by omega]
def G0 (l : Launch) (D : va_G) (Cf : Nat → ClassId) (z : Nat) (Zp : State → Prop) : Gc := (l, D, Cf, z, List.range' z 787, (fun a => kd (a - z)), Zp)
section LAY
variable {l : Launch} {D : va_G} {Cf : Nat → ClassId} {z : Nat} {Zp : State → Prop}
theorem g0_mem {a : Nat} (h1 : z ≤ a) (h2 : a < z + 787) : a ∈ gL (G0 l D Cf z Zp) := by
  show a ∈ List.range' z 787
  rw [List.mem_range'_1]
  exact ⟨h1, h2⟩
theorem g0_k {o : Nat} : gK (G0 l D Cf z Zp) (z + o) = kd o := by
  show kd (z + o - z) = kd o
  rw [Nat.add_sub_cancel_left]
theorem g0_S : SLay (G0 l D Cf z Zp) z := by
  have e0 : gK (G0 l D Cf z Zp) z = kd 0 := g0_k (o := 0)
  refine ⟨⟨g0_mem (by omega) (by omega), e0⟩, ⟨⟨g0_mem (by omega) (by omega), g0_k (o := 1)⟩, ⟨g0_mem (by omega) (by omega), g0_k (o := 2)⟩⟩, ⟨⟨g0_mem (by omega) (by omega), g0_k (o := 3)⟩, ⟨g0_mem (by omega) (by omega), g0_k (o := 4)⟩, ⟨g0_mem (by omega) (by omega), g0_k (o := 5)⟩⟩, WLay_of (fun a q1 q2 => g0_mem (by omega) (by omega)) (fun o ho => ?_), WLay_of (fun a q1 q2 => g0_mem (by omega) (by omega)) (fun o ho => ?_), ⟨g0_mem (by omega) (by omega), g0_k⟩, ⟨g0_mem (by omega) (by omega), g0_k⟩, fun k hk => ⟨⟨⟨g0_mem (by omega) (by omega), ?_⟩, ⟨g0_mem (by omega) (by omega), ?_⟩⟩, WLay_of (fun a q1 q2 => g0_mem (by omega) (by omega)) (fun o ho => ?_)⟩⟩
  · rw [show z + 6 + o = z + (6 + o) by omega, g0_k]; exact kd_w1 ho
  · rw [show z + 158 + o = z + (158 + o) by omega, g0_k]; exact kd_w2 ho
  · rw [show z + 312 + 154 * k = z + (312 + 154 * k + 0) by omega, g0_k, kd_k hk (by decide)]; rfl
  · rw [show z + 312 + 154 * k + 1 = z + (312 + 154 * k + 1) by omega, g0_k, kd_k hk (by decide)]; rfl
  · rw [show z + 314 + 154 * k + o = z + (312 + 154 * k + (o + 2)) by omega, g0_k, kd_k hk (by omega)]
    unfold kt
    rw [if_neg (by omega), if_neg (by omega), show o + 2 - 2 = o by omega]
theorem g0_R : RLay (G0 l D Cf z Zp) (z + 774) := by
  have e : ∀ o, o < 13 → (z + 774 + o ∈ gL (G0 l D Cf z Zp) ∧ gK (G0 l D Cf z Zp) (z + 774 + o) = mk_ o) := fun o ho => ⟨g0_mem (by omega) (by omega), by rw [show z + 774 + o = z + (774 + o) by omega, g0_k]; exact kd_m ho⟩
  exact ⟨e 0 (by decide), e 1 (by decide), e 2 (by decide), e 3 (by decide), e 4 (by decide), e 5 (by decide), e 6 (by decide), e 7 (by decide), e 8 (by decide), e 9 (by decide), e 10 (by decide), e 11 (by decide), e 12 (by decide)⟩
end LAY
