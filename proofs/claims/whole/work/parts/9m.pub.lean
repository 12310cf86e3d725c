/-! the class: its questions -/
def SLay (G : Gc) (x : Nat) : Prop := (x ∈ gL G ∧ gK G x = .inl 9) ∧ TxLay G (x + 1) ∧ RdLay G (x + 3) ∧ WLay G (x + 6) ∧ WLay G (x + 158) ∧ (x + 310 ∈ gL G ∧ gK G (x + 310) = .inr (7, 3)) ∧ (x + 311 ∈ gL G ∧ gK G (x + 311) = .inr (8, 3)) ∧ ∀ k, k < 3 → TxLay G (x + 312 + 154 * k) ∧ WLay G (x + 314 + 154 * k)
def SF (S : St) (x : Nat) : Prop := S.2.2 x 0 = some (x + 1) ∧ S.2.2 x 1 = some (x + 3) ∧ S.2.2 x 2 = some (x + 6) ∧ S.2.2 x 3 = some (x + 158) ∧ S.2.2 x 4 = some (x + 310) ∧ S.2.2 x 5 = some (x + 311) ∧ ∀ k, k < 3 → S.2.2 (x + 310) k = some (x + 312 + 154 * k) ∧ S.2.2 (x + 311) k = some (x + 314 + 154 * k)
/-- the text, and what is told of the last one that was read -/
def tx13 (S : St) (t : Nat) (σ : Net) (B : List Nat) : Prop := txC S t B ∧ B.length = nSe σ 11 ∧ S.1 t 2 = nI (nSe σ 12) ∧ S.1 t 3 = nI (nSe σ 13)
theorem wayN_R {σ : Net} {b n t : Nat} (hN : wfN σ b) (hn8 : n < 8) : okR (wayN σ n t) := by
  by_cases q : wayN σ n t = []
  · rw [q]; exact okR.nil
  · exact (wayN_good hn8 hN.1 (hN.o.no hn8) q).R
theorem neg_toInt {v : Int32} (h : v < 0) : v.toInt < 0 := by
  rw [Int32.lt_iff_toInt_lt] at h
  have : (0 : Int32).toInt = 0 := by decide
  omega
theorem nth_nil {v : Int32} : nth [] v = -1 := by
  unfold nth
  cases e : inN v ([] : List Nat).length with
  | none => rfl
  | some k => exact absurd (inN_some e).1 (Nat.not_lt_zero _)
theorem daRR {σ : Net} {b k : Nat} (hN : wfN σ b) (hk : k < (nDa σ).length) : okR (aTr (dat σ k)) ∧ okR (aRe (dat σ k)) := by
  have hdk := hN.da hk
  exact ⟨⟨(daOk_len hdk).1, hdk.2.1.2.2.1⟩, ⟨(daOk_len hdk).2, hdk.2.1.2.2.2.1⟩⟩
theorem frLR {σ : Net} {b : Nat} {f : Fm} (hN : wfN σ b) (hf : f ∈ nAir σ) : okR (frL σ f) := by
  have h := hN.2.2.2.1 f hf
  unfold frL
  split
  · rename_i q; exact (daRR hN (h.2.1 q).1).2
  · exact ⟨nodup8 h.1.2.2.1 h.1.2.2.2, h.1.2.2.2⟩
theorem upS {σ : Net} {b : Nat} (hN : wfN σ b) : symB (nUp σ) := fun x y _ _ => (hN.2.2.2.2.2.2.1).sym x y
theorem knS {c : List (List Nat)} : symB (kn c) := fun x y _ _ => kn_sym x y
theorem inN_no {v : Int32} {c : Nat} (hc : c < 2 ^ 31) (h : v < 0 ∨ nI c ≤ v) : inN v c = none := by
  unfold inN
  rw [if_neg]
  rintro ⟨h1, h2⟩
  rcases h with h | h
  · rw [Int32.lt_iff_toInt_lt] at h
    have : (0 : Int32).toInt = 0 := by decide
    omega
  · rw [Int32.le_iff_toInt_le, nI_toInt hc] at h
    omega
theorem chn_sbs {f : Nat → Nat → Bool} (hs : ∀ a b, f a b = f b a) {l : List Nat} (h8 : ∀ x ∈ l, x < 8) : (∀ a b, a < 8 → b < 8 → (sbs a b l && !f a b) = false) ↔ chnB f l (l.length - 1) = true := by
  have key : ∀ j, j < l.length → (chnB f l j = true ↔ ∀ a b, a < 8 → b < 8 → (sbs a b (l.take (j + 1)) && !f a b) = false) := fun j => by
    induction j with
    | zero =>
      intro hj
      refine ⟨fun _ a b _ _ => ?_, fun _ => rfl⟩
      cases l with
      | nil => rfl
      | cons y t => rfl
    | succ j ih =>
      intro hj
      have hg : l.getD j 0 < 8 := h8 _ (getD_mem (by omega))
      have hg1 : l.getD (j + 1) 0 < 8 := h8 _ (getD_mem hj)
      show (chnB f l j && f (l.getD j 0) (l.getD (j + 1) 0)) = true ↔ _
      rw [Bool.and_eq_true, ih (by omega)]
      constructor
      · rintro ⟨h1, h2⟩ a b ha hb
        rw [sbs_tk (by omega) (by omega)]
        have h3 := h1 a b ha hb
        rw [show j + 1 - 1 = j by omega]
        by_cases c : (a = l.getD j 0 ∧ b = l.getD (j + 1) 0) ∨ (a = l.getD (j + 1) 0 ∧ b = l.getD j 0)
        · have : f a b = true := by
            rcases c with ⟨rfl, rfl⟩ | ⟨rfl, rfl⟩
            · exact h2
            · rw [hs]; exact h2
          rw [this]; simp
        · have hp : prB (l.getD j 0) (l.getD (j + 1) 0) a b = false := decide_eq_false c
          rw [hp, Bool.or_false]; exact h3
      · intro h
        refine ⟨fun a b ha hb => ?_, ?_⟩
        · have h3 := h a b ha hb
          rw [sbs_tk (by omega) (by omega)] at h3
          cases q : sbs a b (l.take (j + 1)) with
          | false => rfl
          | true => rw [q] at h3; simpa using h3
        · have h3 := h _ _ hg hg1
          rw [sbs_tk (by omega) (by omega), show j + 1 - 1 = j by omega] at h3
          have hp : prB (l.getD j 0) (l.getD (j + 1) 0) (l.getD j 0) (l.getD (j + 1) 0) = true := decide_eq_true (Or.inl ⟨rfl, rfl⟩)
          rw [hp, Bool.or_true, Bool.true_and] at h3
          simpa using h3
  by_cases h0 : l.length = 0
  · have : l = [] := List.length_eq_zero_iff.mp h0
    subst this
    exact ⟨fun _ => rfl, fun _ a b _ _ => rfl⟩
  · have := key (l.length - 1) (by omega)
    rw [show l.length - 1 + 1 = l.length by omega, List.take_length] at this
    exact this.symm
theorem sbs_ir {a : Nat} : ∀ {l : List Nat}, l.Nodup → sbs a a l = false
  | [], _ => rfl
  | [_], _ => rfl
  | y :: z :: t, h => by
    have hyz : y ≠ z := fun e => (List.nodup_cons.mp h).1 (by rw [e]; exact List.mem_cons_self)
    show ((decide (y = a) && decide (z = a)) || (decide (y = a) && decide (z = a)) || sbs a a (z :: t)) = false
    rw [sbs_ir (List.nodup_cons.mp h).2]
    by_cases c : y = a
    · rw [decide_eq_false (show ¬ z = a from fun e => hyz (c.trans e.symm))]; simp
    · rw [decide_eq_false c]; simp
theorem kn_ir {mp : Bool} {room : Nat} {c : List (List Nat)} (h : okC mp room c) (a : Nat) : kn c a a = false := by
  unfold kn
  rw [List.any_eq_false]
  intro e he
  rw [sbs_ir (h.1 e he).2.2.2.1]
  decide
theorem lN_i32 (n : Nat) : (lN n).toInt32 = nI n := Int64.toInt32_ofNat
theorem worldR_up {S : St} {w x y : Nat} {u : Bool} {σ : Net} {v : Int64} (h : worldR S w σ) (hv : lkR v (nUp (uUp σ x y u))) : worldR (setJ S w 7 v) w (uUp σ x y u) := by
  obtain ⟨h1, h2, ⟨s, p, h3⟩, h4, h5, h6, h7, h8⟩ := h
  have hc : chg w (w + 1) S (setJ S w 7 v) := chg.setJ (Nat.le_refl _) (by omega)
  refine ⟨wdF_same h1 (fun a q1 q2 => rfl) (fun q hq => rfl), ⟨h2.1, h2.2.1, h2.2.2.1, h2.2.2.2.1, ?_⟩, ⟨s, p, ?_⟩, fun m hm => (h4 m hm).chg hc (by unfold pA; omega), fun q hq => daC_same (h5 q hq) rfl (hc _ (by unfold dA; omega)).2.1, h6, h7, h8⟩
  · rw [setJ_at]; exact hv
  · have := arR_same (S' := setJ S w 7 v) h3 rfl rfl rfl (fun a q1 q2 => ⟨rfl, (hc a (by omega)).2.1⟩)
    exact this
theorem wch_J {S : St} {w k : Nat} {v : Int64} {σ : Net} (h : worldR S w σ) : wch w S (setJ S w k v) := by
  obtain ⟨h1, h2, ⟨s, p, h3⟩, -⟩ := h
  refine ⟨chg.setJ (Nat.le_refl _) (by omega), rfl, fun a ha => ⟨rfl, ?_⟩⟩
  rw [h3.2.2.2.1] at ha
  have ha := Option.some.inj ha
  have q := h3.2.2.2.2.2.1 40 (by omega)
  exact ups_row_ne _ _ _ (by omega)
theorem lkR_turn {v : Int64} {f : Nat → Nat → Bool} {p q : Nat} (hv : lkR v f) (hs : symB f) (hp : p < 8) (hq : q < 8) : lkR (v ^^^ bJ p q) (fun a b => if (a = p ∧ b = q) ∨ (a = q ∧ b = p) then !f p q else f a b) := (lkR_xor hv (bJ_R hp hq)).congr (fun a b ha hb => by
  by_cases c : (a = p ∧ b = q) ∨ (a = q ∧ b = p)
  · rw [if_pos c, show prB p q a b = true from decide_eq_true c]
    rcases c with ⟨rfl, rfl⟩ | ⟨rfl, rfl⟩
    · simp
    · rw [hs _ _ hp hq]; simp
  · rw [if_neg c, show prB p q a b = false from decide_eq_false c]; simp)
theorem lkR_zero {v : Int64} {f : Nat → Nat → Bool} (h : lkR v f) : v = 0 ↔ ∀ a b, a < 8 → b < 8 → f a b = false := by
  constructor
  · intro e a b ha hb
    have h1 := h a b ha hb
    rw [e, lkR_0 a b ha hb] at h1
    exact h1.symm
  · intro e
    exact (h.congr (g := fun _ _ => false) (fun a b ha hb => (e a b ha hb).symm)).eq lkR_0
section CLS
variable {G : Gc} {S : St}
set_option maxRecDepth 100000 in
set_option maxHeartbeats 4000000 in
theorem c_X11_say (x : Nat) (hX : SLay G x) (hS : SF S x) (B : List Nat) (hT : txC S (x + 1) B) (v : Int64) : C G mX11_say 1 [.ref x, .long v] S (fun r S' => r = some (.int (sayA B v).1) ∧ chg (x + 1) (x + 3) S S' ∧ S'.2.2 = S.2.2 ∧ txC S' (x + 1) (sayA B v).2 ∧ S'.1 (x + 1) 2 = S.1 (x + 1) 2 ∧ S'.1 (x + 1) 3 = S.1 (x + 1) 3) := by
  refine C.mk (lv := [some (.ref x), some (.long v), none]) (by decide) (Nat.le_of_ble_eq_true rfl) rfl (fun E hB => ?_)
  refine X_aload_n (i := 0) hB dX11_say_0 rfl rfl ?_
  refine X_getr hB cw9 fX11_10 rfl hX.1.1 hX.1.2 hS.1 dX11_say_1 ?_
  refine X_lload_n (i := 1) hB dX11_say_4 rfl rfl ?_
  refine X_callV hB kX11_48 cw7 hX.2.1.1.1 hX.2.1.1.2 (c_X9_take (x + 1) hX.2.1 B hT v) (by decide) (by decide) rfl rfl (Nat.le_of_ble_eq_true rfl) dX11_say_5 (fun r5 S5 q5 => ?_)
  obtain ⟨rfl, q5⟩ := q5
  refine X_iret hB rfl dX11_say_8 ?_
  exact ⟨rfl, q5⟩
set_option maxRecDepth 100000 in
set_option maxHeartbeats 4000000 in
theorem c_X11_fault (x : Nat) (hX : SLay G x) (hS : SF S x) (σ : Net) (B : List Nat) (hT : tx13 S (x + 1) σ B) (p : Bool) : C G mX11_fault 0 [.ref x, .int (if p then 1 else 0)] S (fun r S' => r = some (.int (nI (nSe σ (if p then 13 else 12)))) ∧ S = S') := by
  refine C.mk (lv := [some (.ref x), some (.int (if p then 1 else 0))]) (by decide) (Nat.le_of_ble_eq_true rfl) rfl (fun E hB => ?_)
  refine X_iload_n (i := 1) hB dX11_fault_0 rfl rfl ?_
  refine X_if_eq (tgt := 14) hB dX11_fault_1 (by decide) (fun c1 => ?_) (fun c1 => ?_)
  · refine X_aload_n (i := 0) hB dX11_fault_14 rfl rfl ?_
    refine X_getr hB cw9 fX11_10 rfl hX.1.1 hX.1.2 hS.1 dX11_fault_15 ?_
    refine X_geti hB cw7 fX11_63 rfl hX.2.1.1.1 hX.2.1.1.2 dX11_fault_18 ?_
    refine X_iret hB rfl dX11_fault_21 ?_
    cases p with
    | true => exact absurd c1 (by decide)
    | false => exact ⟨congrArg (fun z => some (Value.int z)) hT.2.2.1, rfl⟩
  · refine X_aload_n (i := 0) hB dX11_fault_4 rfl rfl ?_
    refine X_getr hB cw9 fX11_10 rfl hX.1.1 hX.1.2 hS.1 dX11_fault_5 ?_
    refine X_geti hB cw7 fX11_67 rfl hX.2.1.1.1 hX.2.1.1.2 dX11_fault_8 ?_
    refine X_goto (tgt := 21) hB dX11_fault_11 (by decide) ?_
    refine X_iret hB rfl dX11_fault_21 ?_
    cases p with
    | false => exact absurd rfl c1
    | true => exact ⟨congrArg (fun z => some (Value.int z)) hT.2.2.2, rfl⟩
set_option maxRecDepth 100000 in
set_option maxHeartbeats 4000000 in
theorem c_X11_send (x : Nat) (hX : SLay G x) (hS : SF S x) (σ : Net) (hw : worldR S (x + 6) σ) (b : Nat) (hN : wfN σ b) (hb : b + 1 < 100000) (u v : Int32) : C G mX11_send 6 [.ref x, .int u, .int v] S (fun r S' => r = some (.int (aSend σ u v).1) ∧ worldR S' (x + 6) (aSend σ u v).2 ∧ wch (x + 6) S S') := by
  have hW := hX.2.2.2.1
  have hc8 := hN.1.1.2
  have h40 := hw.l40
  refine C.mk (lv := [some (.ref x), some (.int u), some (.int v)]) (by decide) (Nat.le_of_ble_eq_true rfl) rfl (fun E hB => ?_)
  refine X_aload_n (i := 0) hB dX11_send_0 rfl rfl ?_
  refine X_getr hB cw9 fX11_26 rfl hX.1.1 hX.1.2 hS.2.2.1 dX11_send_1 ?_
  refine X_iload_n (i := 1) hB dX11_send_4 rfl rfl ?_
  refine X_iload_n (i := 2) hB dX11_send_5 rfl rfl ?_
  refine X_callV hB kX11_72 cw8 hW.1.1 hW.1.2 (c_X10_bring (x + 6) hW σ hw b hN hb u v) (by decide) (by decide) rfl rfl (Nat.le_of_ble_eq_true rfl) dX11_send_6 (fun r6 S6 q6 => ?_)
  obtain ⟨rfl, q6⟩ := q6
  refine X_iret hB rfl dX11_send_9 ?_
  exact ⟨rfl, q6⟩
set_option maxRecDepth 100000 in
set_option maxHeartbeats 4000000 in
theorem c_X11_data (x : Nat) (hX : SLay G x) (hS : SF S x) (σ : Net) (hw : worldR S (x + 6) σ) (b : Nat) (hN : wfN σ b) (u v : Int32) : C G mX11_data 2 [.ref x, .int u, .int v] S (fun r S' => r = some (.int (aData σ u v)) ∧ S = S') := by
  have hW := hX.2.2.2.1
  have hc8 := hN.1.1.2
  have h40 := hw.l40
  refine C.mk (lv := [some (.ref x), some (.int u), some (.int v)]) (by decide) (Nat.le_of_ble_eq_true rfl) rfl (fun E hB => ?_)
  refine X_aload_n (i := 0) hB dX11_data_0 rfl rfl ?_
  refine X_getr hB cw9 fX11_26 rfl hX.1.1 hX.1.2 hS.2.2.1 dX11_data_1 ?_
  refine X_iload_n (i := 1) hB dX11_data_4 rfl rfl ?_
  refine X_iload_n (i := 2) hB dX11_data_5 rfl rfl ?_
  refine X_callV hB kX11_160 cw8 hW.1.1 hW.1.2 (c_X10_tellData (x + 6) hW σ hw b hN u v) (by decide) (by decide) rfl rfl (Nat.le_of_ble_eq_true rfl) dX11_data_6 (fun r6 S6 q6 => ?_)
  obtain ⟨rfl, rfl⟩ := q6
  refine X_iret hB rfl dX11_data_9 ?_
  exact ⟨rfl, rfl⟩
set_option maxRecDepth 100000 in
set_option maxHeartbeats 4000000 in
theorem c_X11_way (x : Nat) (hX : SLay G x) (hS : SF S x) (σ : Net) (hw : worldR S (x + 6) σ) (b : Nat) (hN : wfN σ b) (u v i : Int32) : C G mX11_way 5 [.ref x, .int u, .int v, .int i] S (fun r S' => r = some (.int (aWay σ u v i)) ∧ S = S') := by
  have hW := hX.2.2.2.1
  have hc8 := hN.1.1.2
  have h40 := hw.l40
  refine C.mk (lv := [some (.ref x), some (.int u), some (.int v), some (.int i)]) (by decide) (Nat.le_of_ble_eq_true rfl) rfl (fun E hB => ?_)
  refine X_aload_n (i := 0) hB dX11_way_0 rfl rfl ?_
  refine X_getr hB cw9 fX11_26 rfl hX.1.1 hX.1.2 hS.2.2.1 dX11_way_1 ?_
  refine X_iload_n (i := 1) hB dX11_way_4 rfl rfl ?_
  refine X_iload_n (i := 2) hB dX11_way_5 rfl rfl ?_
  refine X_callV hB kX11_154 cw8 hW.1.1 hW.1.2 (c_X10_wayOf (x + 6) hW σ hw hc8 u v) (by decide) (by decide) rfl rfl (Nat.le_of_ble_eq_true rfl) dX11_way_6 (fun r6 S6 q6 => ?_)
  obtain ⟨rfl, rfl⟩ := q6
  have hwr : ∃ l, okR l ∧ (match two σ u v with
    | some (x, y) => rJ (wayN σ x y)
    | none => rJ []) = rJ l ∧ (two σ u v = none → l = []) ∧ ∀ p q, two σ u v = some (p, q) → l = wayN σ p q := by
    cases e : two σ u v with
    | none => exact ⟨[], okR.nil, rfl, fun _ => rfl, fun p q z => (by cases z)⟩
    | some pq =>
      obtain ⟨p, q⟩ := pq
      obtain ⟨-, -, hp, -⟩ := two_some e
      exact ⟨wayN σ p q, wayN_R hN (by omega), rfl, fun z => (by cases z), fun p' q' z => (by cases z; rfl)⟩
  obtain ⟨l, hl, el, en, es⟩ := hwr
  refine X_topl (y := rJ l) (el) ?_
  refine X_iload_n (i := 3) hB dX11_way_9 rfl rfl ?_
  refine X_callS hB kX11_140 (c_X8_at l hl i) (by decide) (by decide) rfl rfl (Nat.le_of_ble_eq_true rfl) dX11_way_10 (fun r10 S10 q10 => ?_)
  obtain ⟨rfl, rfl⟩ := q10
  refine X_iret hB rfl dX11_way_13 ?_
  refine ⟨?_, rfl⟩
  unfold aWay
  cases e : two σ u v with
  | none => rw [en e, nth_nil]
  | some pq => rw [es _ _ e]
set_option maxRecDepth 100000 in
set_option maxHeartbeats 4000000 in
theorem c_X11_hops (x : Nat) (hX : SLay G x) (hS : SF S x) (σ : Net) (hw : worldR S (x + 6) σ) (b : Nat) (hN : wfN σ b) (u v : Int32) : C G mX11_hops 5 [.ref x, .int u, .int v] S (fun r S' => r = some (.int (aHops σ u v)) ∧ S = S') := by
  have hW := hX.2.2.2.1
  have hc8 := hN.1.1.2
  have h40 := hw.l40
  refine C.mk (lv := [some (.ref x), some (.int u), some (.int v), none, none]) (by decide) (Nat.le_of_ble_eq_true rfl) rfl (fun E hB => ?_)
  refine X_aload_n (i := 0) hB dX11_hops_0 rfl rfl ?_
  refine X_getr hB cw9 fX11_26 rfl hX.1.1 hX.1.2 hS.2.2.1 dX11_hops_1 ?_
  refine X_iload_n (i := 1) hB dX11_hops_4 rfl rfl ?_
  refine X_iload_n (i := 2) hB dX11_hops_5 rfl rfl ?_
  refine X_callV hB kX11_154 cw8 hW.1.1 hW.1.2 (c_X10_wayOf (x + 6) hW σ hw hc8 u v) (by decide) (by decide) rfl rfl (Nat.le_of_ble_eq_true rfl) dX11_hops_6 (fun r6 S6 q6 => ?_)
  obtain ⟨rfl, rfl⟩ := q6
  have hwr : ∃ l, okR l ∧ (match two σ u v with
    | some (x, y) => rJ (wayN σ x y)
    | none => rJ []) = rJ l ∧ (two σ u v = none → l = []) ∧ ∀ p q, two σ u v = some (p, q) → l = wayN σ p q := by
    cases e : two σ u v with
    | none => exact ⟨[], okR.nil, rfl, fun _ => rfl, fun p q z => (by cases z)⟩
    | some pq =>
      obtain ⟨p, q⟩ := pq
      obtain ⟨-, -, hp, -⟩ := two_some e
      exact ⟨wayN σ p q, wayN_R hN (by omega), rfl, fun z => (by cases z), fun p' q' z => (by cases z; rfl)⟩
  obtain ⟨l, hl, el, en, es⟩ := hwr
  refine X_topl (y := rJ l) (el) ?_
  refine X_lstore_n (i := 3) hB dX11_hops_9 rfl (by decide) rfl ?_
  refine X_lload_n (i := 3) hB dX11_hops_10 rfl rfl ?_
  refine X_lconst (v := 0) hB dX11_hops_11 (by decide) ?_
  refine X_lcmp hB dX11_hops_12 ?_
  refine X_if_ne (tgt := 20) hB dX11_hops_13 (by decide) (fun c13 => ?_) (fun c13 => ?_)
  · refine X_lload_n (i := 3) hB dX11_hops_20 rfl rfl ?_
    refine X_callS hB kX11_157 (c_X8_length l hl) (by decide) (by decide) rfl rfl (Nat.le_of_ble_eq_true rfl) dX11_hops_21 (fun r21 S21 q21 => ?_)
    obtain ⟨rfl, rfl⟩ := q21
    refine X_iconst (v := 1) hB dX11_hops_24 (by decide) ?_
    refine X_isub hB dX11_hops_25 ?_
    refine X_iret hB rfl dX11_hops_26 ?_
    have e13 : l ≠ [] := fun z => c13 ((cmp_0 hl).mpr z)
    refine ⟨?_, rfl⟩
    unfold aHops
    cases e : two σ u v with
    | none => exact absurd (en e) e13
    | some pq =>
      have e9 := es _ _ e
      dsimp only
      rw [← e9, if_neg e13]
      have : 1 ≤ l.length := by
        cases l with
        | nil => exact absurd rfl e13
        | cons a t => exact Nat.succ_le_succ (Nat.zero_le _)
      rw [show (1 : Int32) = nI 1 from rfl, nI_sub this]
  · refine X_iconst (v := (-1)) hB dX11_hops_16 (by decide) ?_
    refine X_goto (tgt := 26) hB dX11_hops_17 (by decide) ?_
    refine X_iret hB rfl dX11_hops_26 ?_
    have e13 : l = [] := (cmp_0 hl).mp c13
    refine ⟨?_, rfl⟩
    unfold aHops
    cases e : two σ u v with
    | none => rfl
    | some pq =>
      have e9 := es _ _ e
      dsimp only
      rw [← e9, if_pos e13]
set_option maxRecDepth 100000 in
set_option maxHeartbeats 4000000 in
theorem c_X11_sound (x : Nat) (hX : SLay G x) (hS : SF S x) (σ : Net) (hw : worldR S (x + 6) σ) (b : Nat) (hN : wfN σ b) (u v : Int32) : C G mX11_sound 5 [.ref x, .int u, .int v] S (fun r S' => r = some (.int (if aSound σ u v then 1 else 0)) ∧ S = S') := by
  have hW := hX.2.2.2.1
  have hc8 := hN.1.1.2
  have h40 := hw.l40
  refine C.mk (lv := [some (.ref x), some (.int u), some (.int v), none, none]) (by decide) (Nat.le_of_ble_eq_true rfl) rfl (fun E hB => ?_)
  refine X_aload_n (i := 0) hB dX11_sound_0 rfl rfl ?_
  refine X_getr hB cw9 fX11_26 rfl hX.1.1 hX.1.2 hS.2.2.1 dX11_sound_1 ?_
  refine X_iload_n (i := 1) hB dX11_sound_4 rfl rfl ?_
  refine X_iload_n (i := 2) hB dX11_sound_5 rfl rfl ?_
  refine X_callV hB kX11_154 cw8 hW.1.1 hW.1.2 (c_X10_wayOf (x + 6) hW σ hw hc8 u v) (by decide) (by decide) rfl rfl (Nat.le_of_ble_eq_true rfl) dX11_sound_6 (fun r6 S6 q6 => ?_)
  obtain ⟨rfl, rfl⟩ := q6
  have hwr : ∃ l, okR l ∧ (match two σ u v with
    | some (x, y) => rJ (wayN σ x y)
    | none => rJ []) = rJ l ∧ (two σ u v = none → l = []) ∧ ∀ p q, two σ u v = some (p, q) → l = wayN σ p q := by
    cases e : two σ u v with
    | none => exact ⟨[], okR.nil, rfl, fun _ => rfl, fun p q z => (by cases z)⟩
    | some pq =>
      obtain ⟨p, q⟩ := pq
      obtain ⟨-, -, hp, -⟩ := two_some e
      exact ⟨wayN σ p q, wayN_R hN (by omega), rfl, fun z => (by cases z), fun p' q' z => (by cases z; rfl)⟩
  obtain ⟨l, hl, el, en, es⟩ := hwr
  refine X_topl (y := rJ l) (el) ?_
  refine X_lstore_n (i := 3) hB dX11_sound_9 rfl (by decide) rfl ?_
  refine X_lload_n (i := 3) hB dX11_sound_10 rfl rfl ?_
  refine X_lconst (v := 0) hB dX11_sound_11 (by decide) ?_
  refine X_lcmp hB dX11_sound_12 ?_
  refine X_if_eq (tgt := 41) hB dX11_sound_13 (by decide) (fun c13 => ?_) (fun c13 => ?_)
  · refine X_iconst (v := 0) hB dX11_sound_41 (by decide) ?_
    refine X_zret hB rfl (by first | exact Or.inl rfl | exact Or.inr rfl) dX11_sound_42 ?_
    have e13 : l = [] := (cmp_0 hl).mp c13
    refine ⟨?_, rfl⟩
    have : aSound σ u v = false := by
      unfold aSound
      cases e : two σ u v with
      | none => rfl
      | some pq =>
        have e9 := es _ _ e
        dsimp only
        rw [← e9, e13]; rfl
    rw [this]; rfl
  · refine X_lload_n (i := 3) hB dX11_sound_16 rfl rfl ?_
    refine X_callS hB kX11_217 (c_X4_along l hl) (by decide) (by decide) rfl rfl (Nat.le_of_ble_eq_true rfl) dX11_sound_17 (fun r17 S17 q17 => ?_)
    obtain ⟨⟨vl, rfl, hvl⟩, rfl⟩ := q17
    refine X_aload_n (i := 0) hB dX11_sound_20 rfl rfl ?_
    refine X_getr hB cw9 fX11_26 rfl hX.1.1 hX.1.2 hS.2.2.1 dX11_sound_21 ?_
    refine X_getj hB cw8 fX11_80 rfl hW.1.1 hW.1.2 dX11_sound_24 ?_
    refine X_ldc2 hB qX11_213 dX11_sound_27 ?_
    refine X_lxor hB dX11_sound_30 ?_
    refine X_land hB dX11_sound_31 ?_
    refine X_lconst (v := 0) hB dX11_sound_32 (by decide) ?_
    refine X_lcmp hB dX11_sound_33 ?_
    refine X_if_ne (tgt := 41) hB dX11_sound_34 (by decide) (fun c34 => ?_) (fun c34 => ?_)
    · refine X_iconst (v := 0) hB dX11_sound_41 (by decide) ?_
      refine X_zret hB rfl (by first | exact Or.inl rfl | exact Or.inr rfl) dX11_sound_42 ?_
      have e13 : l ≠ [] := fun z => c13 ((cmp_0 hl).mpr z)
      have hz := (lkR_zero (lkR_not hvl hw.2.1.2.2.2.2)).trans (chn_sbs (hN.2.2.2.2.2.2.1).sym hl.2)
      rw [cmp_eq, hz] at c34
      have : aSound σ u v = chnB (nUp σ) l (l.length - 1) := by
        unfold aSound
        cases e : two σ u v with
        | none => exact absurd (en e) e13
        | some pq =>
          have e9 := es _ _ e
          dsimp only
          rw [← e9, decide_eq_true e13, Bool.true_and]
      refine ⟨?_, rfl⟩
      rw [this, if_neg c34]
    · refine X_iconst (v := 1) hB dX11_sound_37 (by decide) ?_
      refine X_goto (tgt := 42) hB dX11_sound_38 (by decide) ?_
      refine X_zret hB rfl (by first | exact Or.inl rfl | exact Or.inr rfl) dX11_sound_42 ?_
      have e13 : l ≠ [] := fun z => c13 ((cmp_0 hl).mpr z)
      have hz := (lkR_zero (lkR_not hvl hw.2.1.2.2.2.2)).trans (chn_sbs (hN.2.2.2.2.2.2.1).sym hl.2)
      rw [cmp_eq, hz] at c34
      have : aSound σ u v = chnB (nUp σ) l (l.length - 1) := by
        unfold aSound
        cases e : two σ u v with
        | none => exact absurd (en e) e13
        | some pq =>
          have e9 := es _ _ e
          dsimp only
          rw [← e9, decide_eq_true e13, Bool.true_and]
      refine ⟨?_, rfl⟩
      rw [this, if_pos c34]
set_option maxRecDepth 100000 in
set_option maxHeartbeats 4000000 in
theorem c_X11_node (x : Nat) (hX : SLay G x) (hS : SF S x) (σ : Net) (hw : worldR S (x + 6) σ) (b : Nat) (hN : wfN σ b) (u v : Int32) : C G mX11_node 7 [.ref x, .int u, .int v] S (fun r S' => r = some (.int (aNode σ u v)) ∧ S = S') := by
  have hW := hX.2.2.2.1
  have hc8 := hN.1.1.2
  have h40 := hw.l40
  refine C.mk (lv := [some (.ref x), some (.int u), some (.int v)]) (by decide) (Nat.le_of_ble_eq_true rfl) rfl (fun E hB => ?_)
  refine X_aload_n (i := 0) hB dX11_node_0 rfl rfl ?_
  refine X_getr hB cw9 fX11_26 rfl hX.1.1 hX.1.2 hS.2.2.1 dX11_node_1 ?_
  refine X_iload_n (i := 1) hB dX11_node_4 rfl rfl ?_
  refine X_callV hB kX11_111 cw8 hW.1.1 hW.1.2 (c_X10_isNode (x + 6) hW σ hw hc8 u) (by decide) (by decide) rfl rfl (Nat.le_of_ble_eq_true rfl) dX11_node_5 (fun r5 S5 q5 => ?_)
  obtain ⟨rfl, rfl⟩ := q5
  cases e8 : inN u (nSe σ 0) with
  | none =>
    refine X_topi (y := 0) (if_pos rfl) ?_
    refine X_if_eq (tgt := 23) hB dX11_node_8 (by decide) (fun c8 => ?_) (fun c8 => absurd rfl c8)
    refine X_bipush (v := (-2)) hB dX11_node_23 (by decide) ?_
    refine X_iret hB rfl dX11_node_25 ?_
    exact ⟨by unfold aNode; rw [e8], rfl⟩
  | some n =>
    obtain ⟨hn, rfl⟩ := inN_some e8
    refine X_topi (y := 1) (if_neg (fun z => by cases z)) ?_
    have hn8 : n < 8 := by omega
    have hPn := hW.po hn8
    refine X_if_eq (tgt := 23) hB dX11_node_8 (by decide) (fun c8 => absurd c8 (by decide)) (fun c8 => ?_)
    refine X_aload_n (i := 0) hB dX11_node_11 rfl rfl ?_
    refine X_getr hB cw9 fX11_26 rfl hX.1.1 hX.1.2 hS.2.2.1 dX11_node_12 ?_
    refine X_iload_n (i := 1) hB dX11_node_15 rfl rfl ?_
    refine X_iload_n (i := 2) hB dX11_node_16 rfl rfl ?_
    refine X_callV hB kX11_115 cw8 hW.1.1 hW.1.2 (c_X10_tellNode (x + 6) hW σ hw b hN n hn v) (by decide) (by decide) rfl rfl (Nat.le_of_ble_eq_true rfl) dX11_node_17 (fun r17 S17 q17 => ?_)
    obtain ⟨rfl, rfl⟩ := q17
    refine X_goto (tgt := 25) hB dX11_node_20 (by decide) ?_
    refine X_iret hB rfl dX11_node_25 ?_
    refine ⟨?_, rfl⟩
    unfold aNode
    rw [e8]
    cases inN v 10 <;> rfl
set_option maxRecDepth 100000 in
set_option maxHeartbeats 4000000 in
theorem c_X11_kept (x : Nat) (hX : SLay G x) (hS : SF S x) (σ : Net) (hw : worldR S (x + 6) σ) (b : Nat) (hN : wfN σ b) (u k i : Int32) : C G mX11_kept 1 [.ref x, .int u, .int k, .int i] S (fun r S' => r = some (.int (aKept σ u k i)) ∧ S = S') := by
  have hW := hX.2.2.2.1
  have hc8 := hN.1.1.2
  have h40 := hw.l40
  refine C.mk (lv := [some (.ref x), some (.int u), some (.int k), some (.int i)]) (by decide) (Nat.le_of_ble_eq_true rfl) rfl (fun E hB => ?_)
  refine X_aload_n (i := 0) hB dX11_kept_0 rfl rfl ?_
  refine X_getr hB cw9 fX11_26 rfl hX.1.1 hX.1.2 hS.2.2.1 dX11_kept_1 ?_
  refine X_iload_n (i := 1) hB dX11_kept_4 rfl rfl ?_
  refine X_callV hB kX11_111 cw8 hW.1.1 hW.1.2 (c_X10_isNode (x + 6) hW σ hw hc8 u) (by decide) (by decide) rfl rfl (Nat.le_of_ble_eq_true rfl) dX11_kept_5 (fun r5 S5 q5 => ?_)
  obtain ⟨rfl, rfl⟩ := q5
  cases e8 : inN u (nSe σ 0) with
  | none =>
    refine X_topi (y := 0) (if_pos rfl) ?_
    refine X_if_eq (tgt := 36) hB dX11_kept_8 (by decide) (fun c8 => ?_) (fun c8 => absurd rfl c8)
    refine X_iconst (v := (-1)) hB dX11_kept_36 (by decide) ?_
    refine X_iret hB rfl dX11_kept_37 ?_
    exact ⟨by unfold aKept; rw [e8], rfl⟩
  | some n =>
    obtain ⟨hn, rfl⟩ := inN_some e8
    refine X_topi (y := 1) (if_neg (fun z => by cases z)) ?_
    have hn8 : n < 8 := by omega
    have hPn := hW.po hn8
    obtain ⟨⟨f1, f2, f3, f4⟩, ⟨i1, i2, i3, i4, i5, i6, i7⟩, p3, p4, p5, p6⟩ := hw.po hn8
    refine X_if_eq (tgt := 36) hB dX11_kept_8 (by decide) (fun c8 => absurd c8 (by decide)) (fun c8 => ?_)
    refine X_aload_n (i := 0) hB dX11_kept_11 rfl rfl ?_
    refine X_getr hB cw9 fX11_26 rfl hX.1.1 hX.1.2 hS.2.2.1 dX11_kept_12 ?_
    refine X_iload_n (i := 1) hB dX11_kept_15 rfl rfl ?_
    refine X_callV hB kX11_118 cw8 hW.1.1 hW.1.2 (c_X10_post (x + 6) hW hw.1 n hn8) (by decide) (by decide) rfl rfl (Nat.le_of_ble_eq_true rfl) dX11_kept_16 (fun r16 S16 q16 => ?_)
    obtain ⟨rfl, rfl⟩ := q16
    refine X_getr hB cw4 fX11_122 rfl hPn.1.1 hPn.1.2 f1 dX11_kept_19 ?_
    refine X_getr hB cw1 fX11_128 rfl hPn.2.2.2.2.1.1 hPn.2.2.2.2.1.2 p3.1 dX11_kept_22 ?_
    refine X_iload_n (i := 2) hB dX11_kept_25 rfl rfl ?_
    refine X_callV hB kX11_134 cw6 hPn.2.2.2.2.2.1.1 hPn.2.2.2.2.2.1.2 (c_X7_get (pA (x + 6) n + 5 + 1) 18 hPn.2.2.2.2.2 _ p3.rc (caR18 p3) k) (by decide) (by decide) rfl rfl (Nat.le_of_ble_eq_true rfl) dX11_kept_26 (fun r26 S26 q26 => ?_)
    obtain ⟨rfl, rfl⟩ := q26
    have hrow : ∃ l, okR l ∧ (match inN k ((dCa (nNd σ n)).map rJ).length with
      | some i => ((dCa (nNd σ n)).map rJ).getD i 0
      | none => 0) = rJ l ∧ nth l i = (match inN k (dCa (nNd σ n)).length with
        | some p => nth ((dCa (nNd σ n)).getD p []) i
        | none => -1) := by
      rw [List.length_map]
      cases e : inN k (dCa (nNd σ n)).length with
      | none => exact ⟨[], okR.nil, rfl, nth_nil⟩
      | some j => exact ⟨(dCa (nNd σ n)).getD j [], (p3.ok.1 _ (getD_mem (inN_some e).1)).R, map_getD, rfl⟩
    obtain ⟨l, hl, el, el2⟩ := hrow
    refine X_topl (y := rJ l) (el) ?_
    refine X_iload_n (i := 3) hB dX11_kept_29 rfl rfl ?_
    refine X_callS hB kX11_140 (c_X8_at l hl i) (by decide) (by decide) rfl rfl (Nat.le_of_ble_eq_true rfl) dX11_kept_30 (fun r30 S30 q30 => ?_)
    obtain ⟨rfl, rfl⟩ := q30
    refine X_goto (tgt := 37) hB dX11_kept_33 (by decide) ?_
    refine X_iret hB rfl dX11_kept_37 ?_
    refine ⟨?_, rfl⟩
    unfold aKept
    rw [e8, el2]
    rfl
set_option maxRecDepth 100000 in
set_option maxHeartbeats 4000000 in
theorem c_X11_seen (x : Nat) (hX : SLay G x) (hS : SF S x) (σ : Net) (hw : worldR S (x + 6) σ) (b : Nat) (hN : wfN σ b) (u k : Int32) : C G mX11_seen 1 [.ref x, .int u, .int k] S (fun r S' => r = some (.int (aSeen σ u k)) ∧ S = S') := by
  have hW := hX.2.2.2.1
  have hc8 := hN.1.1.2
  have h40 := hw.l40
  refine C.mk (lv := [some (.ref x), some (.int u), some (.int k)]) (by decide) (Nat.le_of_ble_eq_true rfl) rfl (fun E hB => ?_)
  refine X_aload_n (i := 0) hB dX11_seen_0 rfl rfl ?_
  refine X_getr hB cw9 fX11_26 rfl hX.1.1 hX.1.2 hS.2.2.1 dX11_seen_1 ?_
  refine X_iload_n (i := 1) hB dX11_seen_4 rfl rfl ?_
  refine X_callV hB kX11_111 cw8 hW.1.1 hW.1.2 (c_X10_isNode (x + 6) hW σ hw hc8 u) (by decide) (by decide) rfl rfl (Nat.le_of_ble_eq_true rfl) dX11_seen_5 (fun r5 S5 q5 => ?_)
  obtain ⟨rfl, rfl⟩ := q5
  cases e8 : inN u (nSe σ 0) with
  | none =>
    refine X_topi (y := 0) (if_pos rfl) ?_
    refine X_if_eq (tgt := 33) hB dX11_seen_8 (by decide) (fun c8 => ?_) (fun c8 => absurd rfl c8)
    refine X_iconst (v := (-1)) hB dX11_seen_33 (by decide) ?_
    refine X_iret hB rfl dX11_seen_34 ?_
    exact ⟨by unfold aSeen; rw [e8], rfl⟩
  | some n =>
    obtain ⟨hn, rfl⟩ := inN_some e8
    refine X_topi (y := 1) (if_neg (fun z => by cases z)) ?_
    have hn8 : n < 8 := by omega
    have hPn := hW.po hn8
    obtain ⟨⟨f1, f2, f3, f4⟩, ⟨i1, i2, i3, i4, i5, i6, i7⟩, p3, p4, p5, p6⟩ := hw.po hn8
    refine X_if_eq (tgt := 33) hB dX11_seen_8 (by decide) (fun c8 => absurd c8 (by decide)) (fun c8 => ?_)
    refine X_iload_n (i := 2) hB dX11_seen_11 rfl rfl ?_
    refine X_if_lt (tgt := 33) hB dX11_seen_12 (by decide) (fun c12 => ?_) (fun c12 => ?_)
    · refine X_iconst (v := (-1)) hB dX11_seen_33 (by decide) ?_
      refine X_iret hB rfl dX11_seen_34 ?_
      have e9 : inN k (dTb (nNd σ n)).length = none := inN_no (by omega) (Or.inl c12)
      refine ⟨?_, rfl⟩
      unfold aSeen
      rw [e8]
      dsimp only
      rw [e9]
    · refine X_iload_n (i := 2) hB dX11_seen_15 rfl rfl ?_
      refine X_aload_n (i := 0) hB dX11_seen_16 rfl rfl ?_
      refine X_getr hB cw9 fX11_26 rfl hX.1.1 hX.1.2 hS.2.2.1 dX11_seen_17 ?_
      refine X_iload_n (i := 1) hB dX11_seen_20 rfl rfl ?_
      refine X_callV hB kX11_118 cw8 hW.1.1 hW.1.2 (c_X10_post (x + 6) hW hw.1 n hn8) (by decide) (by decide) rfl rfl (Nat.le_of_ble_eq_true rfl) dX11_seen_21 (fun r21 S21 q21 => ?_)
      obtain ⟨rfl, rfl⟩ := q21
      refine X_getr hB cw4 fX11_146 rfl hPn.1.1 hPn.1.2 f2 dX11_seen_24 ?_
      refine X_geti hB cw6 fX11_149 rfl hPn.2.1.1.1 hPn.2.1.1.2 dX11_seen_27 ?_
      refine X_topi (y := nI (dTb (nNd σ n)).length) (p4.2.1.trans (by rw [List.length_map])) ?_
      refine X_icmp_lt (tgt := 35) hB dX11_seen_30 (by decide) (fun c30 => ?_) (fun c30 => ?_)
      · refine X_aload_n (i := 0) hB dX11_seen_35 rfl rfl ?_
        refine X_getr hB cw9 fX11_26 rfl hX.1.1 hX.1.2 hS.2.2.1 dX11_seen_36 ?_
        refine X_iload_n (i := 1) hB dX11_seen_39 rfl rfl ?_
        refine X_callV hB kX11_118 cw8 hW.1.1 hW.1.2 (c_X10_post (x + 6) hW hw.1 n hn8) (by decide) (by decide) rfl rfl (Nat.le_of_ble_eq_true rfl) dX11_seen_40 (fun r40 S40 q40 => ?_)
        obtain ⟨rfl, rfl⟩ := q40
        refine X_getr hB cw4 fX11_146 rfl hPn.1.1 hPn.1.2 f2 dX11_seen_43 ?_
        refine X_iload_n (i := 2) hB dX11_seen_46 rfl rfl ?_
        refine X_callV hB kX11_134 cw6 hPn.2.1.1.1 hPn.2.1.1.2 (c_X7_get (pA (x + 6) n + 1) 6 hPn.2.1 _ p4 (by rw [List.length_map]; exact p5) k) (by decide) (by decide) rfl rfl (Nat.le_of_ble_eq_true rfl) dX11_seen_47 (fun r47 S47 q47 => ?_)
        obtain ⟨rfl, rfl⟩ := q47
        refine X_l2i hB dX11_seen_50 ?_
        refine X_iret hB rfl dX11_seen_51 ?_
        refine ⟨?_, rfl⟩
        obtain ⟨j, hj31, rfl⟩ := nI_of c12
        have hj : j < (dTb (nNd σ n)).length := by
          rw [nI_ltI hj31 (by omega)] at c30
          exact c30
        unfold aSeen
        rw [e8]
        dsimp only
        rw [List.length_map, inN_nI hj hj31]
        dsimp only
        have hjm : ((dTb (nNd σ n)).map tbJ).getD j 0 = tbJ ((dTb (nNd σ n)).getD j (0, 0)) := by
          rw [getD_lt (by rw [List.length_map]; exact hj), List.getElem_map, getD_lt hj]
        rw [hjm]
        have hb5 := hN.2.2.2.2.2.2.2.2.2
        have hq := (hN.2.2.1 n hn8).2.2.2.1 _ (getD_mem (d := (0, 0)) hj)
        have e32 : (tbJ ((dTb (nNd σ n)).getD j (0, 0))).toInt32 = nI (100000 * ((dTb (nNd σ n)).getD j (0, 0)).1 + ((dTb (nNd σ n)).getD j (0, 0)).2) := lN_i32 _
        rw [e32]
      · refine X_iconst (v := (-1)) hB dX11_seen_33 (by decide) ?_
        refine X_iret hB rfl dX11_seen_34 ?_
        have e9 : inN k (dTb (nNd σ n)).length = none := inN_no (by omega) (Or.inr (Int32.not_lt.mp c30))
        refine ⟨?_, rfl⟩
        unfold aSeen
        rw [e8]
        dsimp only
        rw [e9]
set_option maxRecDepth 100000 in
set_option maxHeartbeats 4000000 in
theorem c_X11_waits (x : Nat) (hX : SLay G x) (hS : SF S x) (σ : Net) (hw : worldR S (x + 6) σ) (b : Nat) (hN : wfN σ b) (u k : Int32) : C G mX11_waits 1 [.ref x, .int u, .int k] S (fun r S' => r = some (.int (aWaits σ u k)) ∧ S = S') := by
  have hW := hX.2.2.2.1
  have hc8 := hN.1.1.2
  have h40 := hw.l40
  refine C.mk (lv := [some (.ref x), some (.int u), some (.int k)]) (by decide) (Nat.le_of_ble_eq_true rfl) rfl (fun E hB => ?_)
  refine X_aload_n (i := 0) hB dX11_waits_0 rfl rfl ?_
  refine X_getr hB cw9 fX11_26 rfl hX.1.1 hX.1.2 hS.2.2.1 dX11_waits_1 ?_
  refine X_iload_n (i := 1) hB dX11_waits_4 rfl rfl ?_
  refine X_callV hB kX11_111 cw8 hW.1.1 hW.1.2 (c_X10_isNode (x + 6) hW σ hw hc8 u) (by decide) (by decide) rfl rfl (Nat.le_of_ble_eq_true rfl) dX11_waits_5 (fun r5 S5 q5 => ?_)
  obtain ⟨rfl, rfl⟩ := q5
  cases e8 : inN u (nSe σ 0) with
  | none =>
    refine X_topi (y := 0) (if_pos rfl) ?_
    refine X_if_eq (tgt := 26) hB dX11_waits_8 (by decide) (fun c8 => ?_) (fun c8 => absurd rfl c8)
    refine X_iconst (v := (-1)) hB dX11_waits_26 (by decide) ?_
    refine X_iret hB rfl dX11_waits_27 ?_
    exact ⟨by unfold aWaits; rw [e8], rfl⟩
  | some n =>
    obtain ⟨hn, rfl⟩ := inN_some e8
    refine X_topi (y := 1) (if_neg (fun z => by cases z)) ?_
    have hn8 : n < 8 := by omega
    have hPn := hW.po hn8
    refine X_if_eq (tgt := 26) hB dX11_waits_8 (by decide) (fun c8 => absurd c8 (by decide)) (fun c8 => ?_)
    refine X_aload_n (i := 0) hB dX11_waits_11 rfl rfl ?_
    refine X_getr hB cw9 fX11_26 rfl hX.1.1 hX.1.2 hS.2.2.1 dX11_waits_12 ?_
    refine X_iload_n (i := 1) hB dX11_waits_15 rfl rfl ?_
    refine X_callV hB kX11_118 cw8 hW.1.1 hW.1.2 (c_X10_post (x + 6) hW hw.1 n hn8) (by decide) (by decide) rfl rfl (Nat.le_of_ble_eq_true rfl) dX11_waits_16 (fun r16 S16 q16 => ?_)
    obtain ⟨rfl, rfl⟩ := q16
    refine X_iload_n (i := 2) hB dX11_waits_19 rfl rfl ?_
    refine X_callV hB kX11_150 cw4 hPn.1.1 hPn.1.2 (c_X5_waitingAt (pA (x + 6) n) n hPn (nSe σ) (nNd σ n) (hw.po hn8) k) (by decide) (by decide) rfl rfl (Nat.le_of_ble_eq_true rfl) dX11_waits_20 (fun r20 S20 q20 => ?_)
    obtain ⟨rfl, rfl⟩ := q20
    refine X_goto (tgt := 27) hB dX11_waits_23 (by decide) ?_
    refine X_iret hB rfl dX11_waits_27 ?_
    exact ⟨by unfold aWaits; rw [e8], rfl⟩
set_option maxRecDepth 100000 in
set_option maxHeartbeats 4000000 in
theorem c_X11_trail (x : Nat) (hX : SLay G x) (hS : SF S x) (σ : Net) (hw : worldR S (x + 6) σ) (b : Nat) (hN : wfN σ b) (u i : Int32) (rs : Bool) : C G mX11_trail 1 [.ref x, .int u, .int i, .int (if rs then 1 else 0)] S (fun r S' => r = some (.int (aTrail σ u i rs)) ∧ S = S') := by
  have hW := hX.2.2.2.1
  have hc8 := hN.1.1.2
  have h40 := hw.l40
  refine C.mk (lv := [some (.ref x), some (.int u), some (.int i), some (.int (if rs then 1 else 0)), none]) (by decide) (Nat.le_of_ble_eq_true rfl) rfl (fun E hB => ?_)
  refine X_iload_n (i := 1) hB dX11_trail_0 rfl rfl ?_
  refine X_if_lt (tgt := 15) hB dX11_trail_1 (by decide) (fun c1 => ?_) (fun c1 => ?_)
  · refine X_iconst (v := (-1)) hB dX11_trail_15 (by decide) ?_
    refine X_iret hB rfl dX11_trail_16 ?_
    exact ⟨by unfold aTrail; rw [inN_no (by omega) (Or.inl c1)], rfl⟩
  · refine X_iload_n (i := 1) hB dX11_trail_4 rfl rfl ?_
    refine X_aload_n (i := 0) hB dX11_trail_5 rfl rfl ?_
    refine X_getr hB cw9 fX11_26 rfl hX.1.1 hX.1.2 hS.2.2.1 dX11_trail_6 ?_
    refine X_geti hB cw8 fX11_101 rfl hW.1.1 hW.1.2 dX11_trail_9 ?_
    refine X_topi (y := nI (nDa σ).length) (hw.2.1.2.2.1) ?_
    refine X_icmp_lt (tgt := 17) hB dX11_trail_12 (by decide) (fun c12 => ?_) (fun c12 => ?_)
    · obtain ⟨k, hk31, rfl⟩ := nI_of c1
      have hk : k < (nDa σ).length := by
        rw [nI_ltI hk31 (by omega)] at c12
        exact c12
      have hD := hW.dd (show k < 40 by omega)
      have hdk := daRR hN hk
      obtain ⟨z1, z2, z3, z4, z5, z6, z7, z8, z9, z10⟩ := hw.dc hk
      have ed : aTrail σ (nI k) i rs = nth (if rs then aRe (dat σ k) else aTr (dat σ k)) i := by unfold aTrail; rw [inN_nI hk hk31]
      rw [ed]
      refine X_aload_n (i := 0) hB dX11_trail_17 rfl rfl ?_
      refine X_getr hB cw9 fX11_26 rfl hX.1.1 hX.1.2 hS.2.2.1 dX11_trail_18 ?_
      refine X_iload_n (i := 1) hB dX11_trail_21 rfl rfl ?_
      refine X_callV hB kX11_163 cw8 hW.1.1 hW.1.2 (c_X10_datum (x + 6) hW hw.1 k (by omega)) (by decide) (by decide) rfl rfl (Nat.le_of_ble_eq_true rfl) dX11_trail_22 (fun r22 S22 q22 => ?_)
      obtain ⟨rfl, rfl⟩ := q22
      refine X_astore hB dX11_trail_25 (by decide) rfl ?_
      refine X_iload_n (i := 3) hB dX11_trail_27 rfl rfl ?_
      refine X_if_eq (tgt := 39) hB dX11_trail_28 (by decide) (fun c28 => ?_) (fun c28 => ?_)
      · refine X_aload hB dX11_trail_39 rfl ?_
        refine X_getj hB cw2 fX11_172 rfl hD.1 hD.2 dX11_trail_41 ?_
        refine X_topl (y := rJ (aTr (dat σ k))) (z6) ?_
        refine X_iload_n (i := 2) hB dX11_trail_44 rfl rfl ?_
        refine X_callS hB kX11_140 (c_X8_at _ hdk.1 i) (by decide) (by decide) rfl rfl (Nat.le_of_ble_eq_true rfl) dX11_trail_45 (fun r45 S45 q45 => ?_)
        obtain ⟨rfl, rfl⟩ := q45
        refine X_iret hB rfl dX11_trail_48 ?_
        cases rs with
        | true => exact absurd c28 (by decide)
        | false => exact ⟨rfl, rfl⟩
      · refine X_aload hB dX11_trail_31 rfl ?_
        refine X_getj hB cw2 fX11_167 rfl hD.1 hD.2 dX11_trail_33 ?_
        refine X_goto (tgt := 44) hB dX11_trail_36 (by decide) ?_
        refine X_topl (y := rJ (aRe (dat σ k))) (z5) ?_
        refine X_iload_n (i := 2) hB dX11_trail_44 rfl rfl ?_
        refine X_callS hB kX11_140 (c_X8_at _ hdk.2 i) (by decide) (by decide) rfl rfl (Nat.le_of_ble_eq_true rfl) dX11_trail_45 (fun r45 S45 q45 => ?_)
        obtain ⟨rfl, rfl⟩ := q45
        refine X_iret hB rfl dX11_trail_48 ?_
        cases rs with
        | false => exact absurd rfl c28
        | true => exact ⟨rfl, rfl⟩
    · refine X_iconst (v := (-1)) hB dX11_trail_15 (by decide) ?_
      refine X_iret hB rfl dX11_trail_16 ?_
      exact ⟨by unfold aTrail; rw [inN_no (by omega) (Or.inr (Int32.not_lt.mp c12))], rfl⟩
set_option maxRecDepth 100000 in
set_option maxHeartbeats 4000000 in
theorem c_X11_tally (x : Nat) (hX : SLay G x) (hS : SF S x) (σ : Net) (hw : worldR S (x + 6) σ) (b : Nat) (hN : wfN σ b) (v : Int32) : C G mX11_tally 0 [.ref x, .int v] S (fun r S' => r = some (.int (aTally σ v)) ∧ S = S') := by
  have hW := hX.2.2.2.1
  have hc8 := hN.1.1.2
  have h40 := hw.l40
  refine C.mk (lv := [some (.ref x), some (.int v)]) (by decide) (Nat.le_of_ble_eq_true rfl) rfl (fun E hB => ?_)
  refine X_iload_n (i := 1) hB dX11_tally_0 rfl rfl ?_
  refine X_if_lt (tgt := 22) hB dX11_tally_1 (by decide) (fun c1 => ?_) (fun c1 => ?_)
  · refine X_iconst (v := (-1)) hB dX11_tally_22 (by decide) ?_
    refine X_iret hB rfl dX11_tally_23 ?_
    exact ⟨by unfold aTally; rw [inN_no (by decide) (Or.inl c1)], rfl⟩
  · refine X_iload_n (i := 1) hB dX11_tally_4 rfl rfl ?_
    refine X_bipush (v := 11) hB dX11_tally_5 (by decide) ?_
    refine X_icmp_ge (tgt := 22) hB dX11_tally_7 (by decide) (fun c7 => ?_) (fun c7 => ?_)
    · refine X_iconst (v := (-1)) hB dX11_tally_22 (by decide) ?_
      refine X_iret hB rfl dX11_tally_23 ?_
      exact ⟨by unfold aTally; rw [inN_no (by decide) (Or.inr c7)], rfl⟩
    · obtain ⟨k, hk31, rfl⟩ := nI_of c1
      have hk : k < 11 := by
        rw [show (11 : Int32) = nI 11 from rfl, nI_leI (by omega) hk31] at c7
        omega
      refine X_aload_n (i := 0) hB dX11_tally_10 rfl rfl ?_
      refine X_getr hB cw9 fX11_26 rfl hX.1.1 hX.1.2 hS.2.2.1 dX11_tally_11 ?_
      refine X_getr hB cw8 fX11_202 rfl hW.1.1 hW.1.2 hw.1.2.1 dX11_tally_14 ?_
      refine X_iload_n (i := 1) hB dX11_tally_17 rfl rfl ?_
      refine X_ialdN hB (k) hW.2.2.1.1 hW.2.2.1.2 (by decide) rfl hk (hw.2.1.2.1 k hk) dX11_tally_18 ?_
      refine X_goto (tgt := 23) hB dX11_tally_19 (by decide) ?_
      refine X_iret hB rfl dX11_tally_23 ?_
      exact ⟨by unfold aTally; rw [inN_nI hk hk31], rfl⟩
set_option maxRecDepth 100000 in
set_option maxHeartbeats 4000000 in
theorem c_X11_far (x : Nat) (hX : SLay G x) (hS : SF S x) (σ : Net) (hw : worldR S (x + 6) σ) (b : Nat) (hN : wfN σ b) (u v : Int32) : C G mX11_far 2 [.ref x, .int u, .int v] S (fun r S' => r = some (.int (aFar σ u v)) ∧ S = S') := by
  have hW := hX.2.2.2.1
  have hc8 := hN.1.1.2
  have h40 := hw.l40
  refine C.mk (lv := [some (.ref x), some (.int u), some (.int v)]) (by decide) (Nat.le_of_ble_eq_true rfl) rfl (fun E hB => ?_)
  refine X_aload_n (i := 0) hB dX11_far_0 rfl rfl ?_
  refine X_getr hB cw9 fX11_26 rfl hX.1.1 hX.1.2 hS.2.2.1 dX11_far_1 ?_
  refine X_iload_n (i := 1) hB dX11_far_4 rfl rfl ?_
  refine X_callV hB kX11_111 cw8 hW.1.1 hW.1.2 (c_X10_isNode (x + 6) hW σ hw hc8 u) (by decide) (by decide) rfl rfl (Nat.le_of_ble_eq_true rfl) dX11_far_5 (fun r5 S5 q5 => ?_)
  obtain ⟨rfl, rfl⟩ := q5
  cases e8 : inN u (nSe σ 0) with
  | none =>
    refine X_topi (y := 0) (if_pos rfl) ?_
    refine X_if_eq (tgt := 37) hB dX11_far_8 (by decide) (fun c8 => ?_) (fun c8 => absurd rfl c8)
    refine X_iconst (v := (-1)) hB dX11_far_37 (by decide) ?_
    refine X_iret hB rfl dX11_far_38 ?_
    exact ⟨by unfold aFar; rw [e8], rfl⟩
  | some n =>
    obtain ⟨hn, rfl⟩ := inN_some e8
    refine X_topi (y := 1) (if_neg (fun z => by cases z)) ?_
    have hn8 : n < 8 := by omega
    have hPn := hW.po hn8
    refine X_if_eq (tgt := 37) hB dX11_far_8 (by decide) (fun c8 => absurd c8 (by decide)) (fun c8 => ?_)
    refine X_aload_n (i := 0) hB dX11_far_11 rfl rfl ?_
    refine X_getr hB cw9 fX11_26 rfl hX.1.1 hX.1.2 hS.2.2.1 dX11_far_12 ?_
    refine X_iload_n (i := 2) hB dX11_far_15 rfl rfl ?_
    refine X_callV hB kX11_111 cw8 hW.1.1 hW.1.2 (c_X10_isNode (x + 6) hW σ hw hc8 v) (by decide) (by decide) rfl rfl (Nat.le_of_ble_eq_true rfl) dX11_far_16 (fun r16 S16 q16 => ?_)
    obtain ⟨rfl, rfl⟩ := q16
    cases e19 : inN v (nSe σ 0) with
    | none =>
      refine X_topi (y := 0) (if_pos rfl) ?_
      refine X_if_eq (tgt := 37) hB dX11_far_19 (by decide) (fun c19 => ?_) (fun c19 => absurd rfl c19)
      refine X_iconst (v := (-1)) hB dX11_far_37 (by decide) ?_
      refine X_iret hB rfl dX11_far_38 ?_
      exact ⟨by unfold aFar; rw [e8, e19], rfl⟩
    | some m =>
      obtain ⟨hm, rfl⟩ := inN_some e19
      refine X_topi (y := 1) (if_neg (fun z => by cases z)) ?_
      have hm8 : m < 8 := by omega
      have hPm := hW.po hm8
      refine X_if_eq (tgt := 37) hB dX11_far_19 (by decide) (fun c19 => absurd c19 (by decide)) (fun c19 => ?_)
      refine X_aload_n (i := 0) hB dX11_far_22 rfl rfl ?_
      refine X_getr hB cw9 fX11_26 rfl hX.1.1 hX.1.2 hS.2.2.1 dX11_far_23 ?_
      refine X_getj hB cw8 fX11_80 rfl hW.1.1 hW.1.2 dX11_far_26 ?_
      refine X_iload_n (i := 1) hB dX11_far_29 rfl rfl ?_
      refine X_iload_n (i := 2) hB dX11_far_30 rfl rfl ?_
      refine X_callS hB kX11_205 (c_X4_distance hw.2.1.2.2.2.2 (upS hN) hm8 hn8) (by decide) (by decide) rfl rfl (Nat.le_of_ble_eq_true rfl) dX11_far_31 (fun r31 S31 q31 => ?_)
      obtain ⟨rfl, rfl⟩ := q31
      refine X_goto (tgt := 38) hB dX11_far_34 (by decide) ?_
      refine X_iret hB rfl dX11_far_38 ?_
      exact ⟨by unfold aFar; rw [e8, e19], rfl⟩
set_option maxRecDepth 100000 in
set_option maxHeartbeats 4000000 in
theorem c_X11_stale (x : Nat) (hX : SLay G x) (hS : SF S x) (σ : Net) (hw : worldR S (x + 6) σ) (b : Nat) (hN : wfN σ b) (u : Int32) : C G mX11_stale 3 [.ref x, .int u] S (fun r S' => r = some (.int (aStale σ u)) ∧ S = S') := by
  have hW := hX.2.2.2.1
  have hc8 := hN.1.1.2
  have h40 := hw.l40
  refine C.mk (lv := [some (.ref x), some (.int u)]) (by decide) (Nat.le_of_ble_eq_true rfl) rfl (fun E hB => ?_)
  refine X_aload_n (i := 0) hB dX11_stale_0 rfl rfl ?_
  refine X_getr hB cw9 fX11_26 rfl hX.1.1 hX.1.2 hS.2.2.1 dX11_stale_1 ?_
  refine X_iload_n (i := 1) hB dX11_stale_4 rfl rfl ?_
  refine X_callV hB kX11_111 cw8 hW.1.1 hW.1.2 (c_X10_isNode (x + 6) hW σ hw hc8 u) (by decide) (by decide) rfl rfl (Nat.le_of_ble_eq_true rfl) dX11_stale_5 (fun r5 S5 q5 => ?_)
  obtain ⟨rfl, rfl⟩ := q5
  cases e8 : inN u (nSe σ 0) with
  | none =>
    refine X_topi (y := 0) (if_pos rfl) ?_
    refine X_if_ne (tgt := 13) hB dX11_stale_8 (by decide) (fun c8 => absurd rfl c8) (fun c8 => ?_)
    refine X_iconst (v := (-1)) hB dX11_stale_11 (by decide) ?_
    refine X_iret hB rfl dX11_stale_12 ?_
    exact ⟨by unfold aStale; rw [e8], rfl⟩
  | some n =>
    obtain ⟨hn, rfl⟩ := inN_some e8
    refine X_topi (y := 1) (if_neg (fun z => by cases z)) ?_
    have hn8 : n < 8 := by omega
    have hPn := hW.po hn8
    obtain ⟨⟨f1, f2, f3, f4⟩, ⟨i1, i2, i3, i4, i5, i6, i7⟩, p3, p4, p5, p6⟩ := hw.po hn8
    refine X_if_ne (tgt := 13) hB dX11_stale_8 (by decide) (fun c8 => ?_) (fun c8 => absurd c8 (by decide))
    refine X_aload_n (i := 0) hB dX11_stale_13 rfl rfl ?_
    refine X_getr hB cw9 fX11_26 rfl hX.1.1 hX.1.2 hS.2.2.1 dX11_stale_14 ?_
    refine X_iload_n (i := 1) hB dX11_stale_17 rfl rfl ?_
    refine X_callV hB kX11_118 cw8 hW.1.1 hW.1.2 (c_X10_post (x + 6) hW hw.1 n hn8) (by decide) (by decide) rfl rfl (Nat.le_of_ble_eq_true rfl) dX11_stale_18 (fun r18 S18 q18 => ?_)
    obtain ⟨rfl, rfl⟩ := q18
    refine X_getr hB cw4 fX11_122 rfl hPn.1.1 hPn.1.2 f1 dX11_stale_21 ?_
    refine X_callV hB kX11_209 cw1 hPn.2.2.2.2.1.1 hPn.2.2.2.2.1.2 (c_X1_links (pA (x + 6) n + 5) n _ _ _ _ hPn.2.2.2.2 p3) (by decide) (by decide) rfl rfl (Nat.le_of_ble_eq_true rfl) dX11_stale_24 (fun r24 S24 q24 => ?_)
    obtain ⟨⟨vl, rfl, hvl⟩, rfl⟩ := q24
    refine X_aload_n (i := 0) hB dX11_stale_27 rfl rfl ?_
    refine X_getr hB cw9 fX11_26 rfl hX.1.1 hX.1.2 hS.2.2.1 dX11_stale_28 ?_
    refine X_getj hB cw8 fX11_80 rfl hW.1.1 hW.1.2 dX11_stale_31 ?_
    refine X_ldc2 hB qX11_213 dX11_stale_34 ?_
    refine X_lxor hB dX11_stale_37 ?_
    refine X_land hB dX11_stale_38 ?_
    refine X_callS hB kX11_215 (c_X4_count (lkR_not hvl hw.2.1.2.2.2.2) (fun a c ha hc => by rw [knS a c ha hc, upS hN a c ha hc]) (fun a ha => by rw [kn_ir p3.ok a]; rfl)) (by decide) (by decide) rfl rfl (Nat.le_of_ble_eq_true rfl) dX11_stale_39 (fun r39 S39 q39 => ?_)
    obtain ⟨rfl, rfl⟩ := q39
    refine X_iret hB rfl dX11_stale_42 ?_
    refine ⟨?_, rfl⟩
    unfold aStale
    rw [e8]
    dsimp only
    refine congrArg (fun z => some (Value.int (nI z))) (cnB_congr (fun k _ => ?_))
    generalize kn (dCa (nNd σ n)) (k / 8) (k % 8) = b1
    generalize decide (k / 8 < k % 8) = b2
    generalize nUp σ (k / 8) (k % 8) = b3
    cases b1 <;> cases b2 <;> cases b3 <;> rfl
set_option maxRecDepth 100000 in
set_option maxHeartbeats 4000000 in
theorem c_X11_mapped (x : Nat) (hX : SLay G x) (hS : SF S x) (σ : Net) (hw : worldR S (x + 6) σ) (b : Nat) (hN : wfN σ b) (u v : Int32) : C G mX11_mapped 3 [.ref x, .int u, .int v] S (fun r S' => r = some (.int (aMapped σ u v)) ∧ S = S') := by
  have hW := hX.2.2.2.1
  have hc8 := hN.1.1.2
  have h40 := hw.l40
  refine C.mk (lv := [some (.ref x), some (.int u), some (.int v), none]) (by decide) (Nat.le_of_ble_eq_true rfl) rfl (fun E hB => ?_)
  refine X_aload_n (i := 0) hB dX11_mapped_0 rfl rfl ?_
  refine X_getr hB cw9 fX11_26 rfl hX.1.1 hX.1.2 hS.2.2.1 dX11_mapped_1 ?_
  refine X_iload_n (i := 1) hB dX11_mapped_4 rfl rfl ?_
  refine X_iload_n (i := 2) hB dX11_mapped_5 rfl rfl ?_
  refine X_callV hB kX11_76 cw8 hW.1.1 hW.1.2 (c_X10_areTwo (x + 6) hW σ hw hc8 u v) (by decide) (by decide) rfl rfl (Nat.le_of_ble_eq_true rfl) dX11_mapped_6 (fun r6 S6 q6 => ?_)
  obtain ⟨rfl, rfl⟩ := q6
  cases e9 : two σ u v with
  | none =>
    refine X_topi (y := 0) (if_pos rfl) ?_
    refine X_if_ne (tgt := 14) hB dX11_mapped_9 (by decide) (fun c9 => absurd rfl c9) (fun c9 => ?_)
    refine X_iconst (v := (-1)) hB dX11_mapped_12 (by decide) ?_
    refine X_iret hB rfl dX11_mapped_13 ?_
    exact ⟨by unfold aMapped; rw [e9], rfl⟩
  | some pq =>
    obtain ⟨p, q⟩ := pq
    obtain ⟨rfl, rfl, hp, hq, hpq⟩ := two_some e9
    refine X_topi (y := 1) (if_neg (fun z => by cases z)) ?_
    have hp8 : p < 8 := by omega
    have hq8 : q < 8 := by omega
    have hPp := hW.po hp8
    obtain ⟨⟨f1, f2, f3, f4⟩, -, p3, -⟩ := hw.po hp8
    refine X_if_ne (tgt := 14) hB dX11_mapped_9 (by decide) (fun c9 => ?_) (fun c9 => absurd c9 (by decide))
    refine X_aload_n (i := 0) hB dX11_mapped_14 rfl rfl ?_
    refine X_getr hB cw9 fX11_26 rfl hX.1.1 hX.1.2 hS.2.2.1 dX11_mapped_15 ?_
    refine X_iload_n (i := 1) hB dX11_mapped_18 rfl rfl ?_
    refine X_callV hB kX11_118 cw8 hW.1.1 hW.1.2 (c_X10_post (x + 6) hW hw.1 p hp8) (by decide) (by decide) rfl rfl (Nat.le_of_ble_eq_true rfl) dX11_mapped_19 (fun r19 S19 q19 => ?_)
    obtain ⟨rfl, rfl⟩ := q19
    refine X_getr hB cw4 fX11_122 rfl hPp.1.1 hPp.1.2 f1 dX11_mapped_22 ?_
    refine X_callV hB kX11_209 cw1 hPp.2.2.2.2.1.1 hPp.2.2.2.2.1.2 (c_X1_links (pA (x + 6) p + 5) p _ _ _ _ hPp.2.2.2.2 p3) (by decide) (by decide) rfl rfl (Nat.le_of_ble_eq_true rfl) dX11_mapped_25 (fun r25 S25 q25 => ?_)
    obtain ⟨⟨vl, rfl, hvl⟩, rfl⟩ := q25
    refine X_iload_n (i := 1) hB dX11_mapped_28 rfl rfl ?_
    refine X_iload_n (i := 2) hB dX11_mapped_29 rfl rfl ?_
    refine X_callS hB kX11_205 (c_X4_distance hvl knS hq8 hp8) (by decide) (by decide) rfl rfl (Nat.le_of_ble_eq_true rfl) dX11_mapped_30 (fun r30 S30 q30 => ?_)
    obtain ⟨rfl, rfl⟩ := q30
    refine X_istore_n (i := 3) hB dX11_mapped_33 rfl (by decide) rfl ?_
    refine X_iload_n (i := 3) hB dX11_mapped_34 rfl rfl ?_
    refine X_aload_n (i := 0) hB dX11_mapped_35 rfl rfl ?_
    refine X_getr hB cw9 fX11_26 rfl hX.1.1 hX.1.2 hS.2.2.1 dX11_mapped_36 ?_
    refine X_getr hB cw8 fX11_68 rfl hW.1.1 hW.1.2 hw.1.1 dX11_mapped_39 ?_
    refine X_iconst (v := 1) hB dX11_mapped_42 (by decide) ?_
    refine X_ialdN hB (1) hW.2.1.1 hW.2.1.2 (by decide) rfl (by decide) (hw.2.1.1 1 (by decide)) dX11_mapped_43 ?_
    refine X_icmp_gt (tgt := 51) hB dX11_mapped_44 (by decide) (fun c44 => ?_) (fun c44 => ?_)
    · refine X_iconst (v := (-1)) hB dX11_mapped_51 (by decide) ?_
      refine X_iret hB rfl dX11_mapped_52 ?_
      have h7 := hN.1.2.1.2
      have hd := @dst_99 (kn (dCa (nNd σ p))) q p
      refine ⟨?_, rfl⟩
      unfold aMapped
      rw [e9]
      dsimp only
      unfold dst1 at c44 
      by_cases c : dst (kn (dCa (nNd σ p))) q p < 99
      · rw [if_pos c] at c44 
        rw [nI_ltI (by omega) (by omega)] at c44
        rw [if_neg (by omega)]
      · skip
        rw [if_neg (by omega)]
    · refine X_iload_n (i := 3) hB dX11_mapped_47 rfl rfl ?_
      refine X_goto (tgt := 52) hB dX11_mapped_48 (by decide) ?_
      refine X_iret hB rfl dX11_mapped_52 ?_
      have h7 := hN.1.2.1.2
      have hd := @dst_99 (kn (dCa (nNd σ p))) q p
      refine ⟨?_, rfl⟩
      unfold aMapped
      rw [e9]
      dsimp only
      unfold dst1 at c44 ⊢
      by_cases c : dst (kn (dCa (nNd σ p))) q p < 99
      · rw [if_pos c] at c44 ⊢
        rw [nI_ltI (by omega) (by omega)] at c44
        rw [if_pos (by omega)]
      · rw [if_neg c]
        rw [if_neg (by omega)]
set_option maxRecDepth 100000 in
set_option maxHeartbeats 4000000 in
theorem c_X11_turn (x : Nat) (hX : SLay G x) (hS : SF S x) (σ : Net) (hw : worldR S (x + 6) σ) (b : Nat) (hN : wfN σ b) (u v : Int32) (dn : Bool) : C G mX11_turn 2 [.ref x, .int u, .int v, .int (if dn then 1 else 0)] S (fun r S' => r = some (.int (if (aTurn σ u v dn).1 then 1 else 0)) ∧ worldR S' (x + 6) (aTurn σ u v dn).2 ∧ wch (x + 6) S S') := by
  have hW := hX.2.2.2.1
  have hc8 := hN.1.1.2
  have h40 := hw.l40
  refine C.mk (lv := [some (.ref x), some (.int u), some (.int v), some (.int (if dn then 1 else 0))]) (by decide) (Nat.le_of_ble_eq_true rfl) rfl (fun E hB => ?_)
  refine X_aload_n (i := 0) hB dX11_turn_0 rfl rfl ?_
  refine X_getr hB cw9 fX11_26 rfl hX.1.1 hX.1.2 hS.2.2.1 dX11_turn_1 ?_
  refine X_iload_n (i := 1) hB dX11_turn_4 rfl rfl ?_
  refine X_iload_n (i := 2) hB dX11_turn_5 rfl rfl ?_
  refine X_callV hB kX11_76 cw8 hW.1.1 hW.1.2 (c_X10_areTwo (x + 6) hW σ hw hc8 u v) (by decide) (by decide) rfl rfl (Nat.le_of_ble_eq_true rfl) dX11_turn_6 (fun r6 S6 q6 => ?_)
  obtain ⟨rfl, rfl⟩ := q6
  cases e9 : two σ u v with
  | none =>
    refine X_topi (y := 0) (if_pos rfl) ?_
    refine X_if_eq (tgt := 28) hB dX11_turn_9 (by decide) (fun c9 => ?_) (fun c9 => absurd rfl c9)
    refine X_iconst (v := 0) hB dX11_turn_28 (by decide) ?_
    refine X_zret hB rfl (by first | exact Or.inl rfl | exact Or.inr rfl) dX11_turn_29 ?_
    have : aTurn σ u v dn = (false, σ) := by unfold aTurn; rw [e9]
    rw [this]
    exact ⟨rfl, hw, wch.rf⟩
  | some pq =>
    obtain ⟨p, q⟩ := pq
    obtain ⟨rfl, rfl, hp, hq, hpq⟩ := two_some e9
    refine X_topi (y := 1) (if_neg (fun z => by cases z)) ?_
    have hp8 : p < 8 := by omega
    have hq8 : q < 8 := by omega
    have hPp := hW.po hp8
    refine X_if_eq (tgt := 28) hB dX11_turn_9 (by decide) (fun c9 => absurd c9 (by decide)) (fun c9 => ?_)
    refine X_aload_n (i := 0) hB dX11_turn_12 rfl rfl ?_
    refine X_getr hB cw9 fX11_26 rfl hX.1.1 hX.1.2 hS.2.2.1 dX11_turn_13 ?_
    refine X_getj hB cw8 fX11_80 rfl hW.1.1 hW.1.2 dX11_turn_16 ?_
    refine X_iload_n (i := 1) hB dX11_turn_19 rfl rfl ?_
    refine X_iload_n (i := 2) hB dX11_turn_20 rfl rfl ?_
    refine X_callS hB kX11_84 (c_X4_hold hw.2.1.2.2.2.2 hp8 hq8 (upS hN p q hp8 hq8)) (by decide) (by decide) rfl rfl (Nat.le_of_ble_eq_true rfl) dX11_turn_21 (fun r21 S21 q21 => ?_)
    obtain ⟨rfl, rfl⟩ := q21
    refine X_iload_n (i := 3) hB dX11_turn_24 rfl rfl ?_
    refine X_icmp_eq (tgt := 30) hB dX11_turn_25 (by decide) (fun c25 => ?_) (fun c25 => ?_)
    · refine X_aload_n (i := 0) hB dX11_turn_30 rfl rfl ?_
      refine X_getr hB cw9 fX11_26 rfl hX.1.1 hX.1.2 hS.2.2.1 dX11_turn_31 ?_
      refine X_dup hB dX11_turn_34 rfl ?_
      refine X_getj hB cw8 fX11_80 rfl hW.1.1 hW.1.2 dX11_turn_35 ?_
      refine X_iload_n (i := 1) hB dX11_turn_38 rfl rfl ?_
      refine X_iload_n (i := 2) hB dX11_turn_39 rfl rfl ?_
      refine X_callS hB kX11_90 (c_X4_both hp8 hq8) (by decide) (by decide) rfl rfl (Nat.le_of_ble_eq_true rfl) dX11_turn_40 (fun r40 S40 q40 => ?_)
      obtain ⟨rfl, rfl⟩ := q40
      refine X_lxor hB dX11_turn_43 ?_
      refine X_putj hB cw8 fX11_80 rfl rfl hW.1.1 hW.1.2 dX11_turn_44 ?_
      refine X_iconst (v := 1) hB dX11_turn_47 (by decide) ?_
      refine X_zret hB rfl (by first | exact Or.inl rfl | exact Or.inr rfl) dX11_turn_48 ?_
      have e25 : nUp σ p q = dn := by
        revert c25
        cases nUp σ p q <;> cases dn <;> simp
      have : aTurn σ (nI p) (nI q) dn = (true, uUp σ p q (!nUp σ p q)) := by unfold aTurn; rw [e9]; dsimp only; rw [if_pos e25]
      rw [this]
      exact ⟨rfl, worldR_up hw (lkR_turn hw.2.1.2.2.2.2 (upS hN) hp8 hq8), wch_J hw⟩
    · refine X_iconst (v := 0) hB dX11_turn_28 (by decide) ?_
      refine X_zret hB rfl (by first | exact Or.inl rfl | exact Or.inr rfl) dX11_turn_29 ?_
      have e25 : ¬ nUp σ p q = dn := fun z => c25 (by rw [z])
      have : aTurn σ (nI p) (nI q) dn = (false, σ) := by unfold aTurn; rw [e9]; dsimp only; rw [if_neg e25]
      rw [this]
      exact ⟨rfl, hw, wch.rf⟩
set_option maxRecDepth 100000 in
set_option maxHeartbeats 4000000 in
theorem c_X11_has (x : Nat) (hX : SLay G x) (hS : SF S x) (σ : Net) (hw : worldR S (x + 6) σ) (b : Nat) (hN : wfN σ b) (B : List Nat) (hT : tx13 S (x + 1) σ B) (v : Int32) : C G mX11_has 0 [.ref x, .int v] S (fun r S' => r = some (.int (aHas σ v)) ∧ S = S') := by
  have hW := hX.2.2.2.1
  have hc8 := hN.1.1.2
  have h40 := hw.l40
  refine C.mk (lv := [some (.ref x), some (.int v)]) (by decide) (Nat.le_of_ble_eq_true rfl) rfl (fun E hB => ?_)
  refine X_iload_n (i := 1) hB dX11_has_0 rfl rfl ?_
  obtain ⟨s, p, ha⟩ := hw.2.2.1
  refine X_if_lt (tgt := 20) hB dX11_has_1 (by decide) (fun c1 => ?_) (fun c1 => ?_)
  · refine X_iload_n (i := 1) hB dX11_has_20 rfl rfl ?_
    refine X_tableOut (tgt := 87) hB dX11_has_21 (Or.inl (Int.lt_of_lt_of_le (neg_toInt c1) (by decide))) (by decide) ?_
    refine X_iconst (v := (-1)) hB dX11_has_87 (by decide) ?_
    refine X_iret hB rfl dX11_has_88 ?_
    exact ⟨by unfold aHas; rw [inN_no (by decide) (Or.inl c1)], rfl⟩
  · refine X_iload_n (i := 1) hB dX11_has_4 rfl rfl ?_
    refine X_bipush (v := 8) hB dX11_has_5 (by decide) ?_
    refine X_icmp_ge (tgt := 20) hB dX11_has_7 (by decide) (fun c7 => ?_) (fun c7 => ?_)
    · refine X_iload_n (i := 1) hB dX11_has_20 rfl rfl ?_
      obtain ⟨k, hk31, rfl⟩ := nI_of c1
      have hk : 8 ≤ k := by
        rw [show (8 : Int32) = nI 8 from rfl, nI_leI (by omega) hk31] at c7
        exact c7
      by_cases hk12 : k < 12
      · rcases (show k = 8 ∨ k = 9 ∨ k = 10 ∨ k = 11 by omega) with rfl | rfl | rfl | rfl
        · refine X_tableIn (tgt := 52) hB dX11_has_21 (by decide) (by decide) (by rfl) (by decide) ?_
          refine X_aload_n (i := 0) hB dX11_has_52 rfl rfl ?_
          refine X_getr hB cw9 fX11_26 rfl hX.1.1 hX.1.2 hS.2.2.1 dX11_has_53 ?_
          refine X_geti hB cw8 fX11_94 rfl hW.1.1 hW.1.2 dX11_has_56 ?_
          refine X_iret hB rfl dX11_has_59 ?_
          exact ⟨congrArg (fun z => some (Value.int z)) hw.2.1.2.2.2.1, rfl⟩
        · refine X_tableIn (tgt := 60) hB dX11_has_21 (by decide) (by decide) (by rfl) (by decide) ?_
          refine X_aload_n (i := 0) hB dX11_has_60 rfl rfl ?_
          refine X_getr hB cw9 fX11_26 rfl hX.1.1 hX.1.2 hS.2.2.1 dX11_has_61 ?_
          refine X_geti hB cw8 fX11_101 rfl hW.1.1 hW.1.2 dX11_has_64 ?_
          refine X_iret hB rfl dX11_has_67 ?_
          exact ⟨congrArg (fun z => some (Value.int z)) hw.2.1.2.2.1, rfl⟩
        · refine X_tableIn (tgt := 68) hB dX11_has_21 (by decide) (by decide) (by rfl) (by decide) ?_
          refine X_aload_n (i := 0) hB dX11_has_68 rfl rfl ?_
          refine X_getr hB cw9 fX11_26 rfl hX.1.1 hX.1.2 hS.2.2.1 dX11_has_69 ?_
          refine X_getr hB cw8 fX11_104 rfl hW.1.1 hW.1.2 hw.1.2.2.1 dX11_has_72 ?_
          refine X_geti hB cw0 fX11_108 rfl hW.2.2.2.1.1 hW.2.2.2.1.2 dX11_has_75 ?_
          refine X_iret hB rfl dX11_has_78 ?_
          exact ⟨congrArg (fun z => some (Value.int z)) ha.2.2.1, rfl⟩
        · refine X_tableIn (tgt := 79) hB dX11_has_21 (by decide) (by decide) (by rfl) (by decide) ?_
          refine X_aload_n (i := 0) hB dX11_has_79 rfl rfl ?_
          refine X_getr hB cw9 fX11_10 rfl hX.1.1 hX.1.2 hS.1 dX11_has_80 ?_
          refine X_geti hB cw7 fX11_56 rfl hX.2.1.1.1 hX.2.1.1.2 dX11_has_83 ?_
          refine X_iret hB rfl dX11_has_86 ?_
          exact ⟨congrArg (fun z => some (Value.int z)) (hT.1.2.1.trans (congrArg nI hT.2.1)), rfl⟩
      · refine X_tableOut (tgt := 87) hB dX11_has_21 (by rw [nI_toInt hk31]; omega) (by decide) ?_
        refine X_iconst (v := (-1)) hB dX11_has_87 (by decide) ?_
        refine X_iret hB rfl dX11_has_88 ?_
        exact ⟨by unfold aHas; rw [inN_no (by decide) (Or.inr ((nI_leI (by omega) hk31).mpr (by omega)))], rfl⟩
    · obtain ⟨k, hk31, rfl⟩ := nI_of c1
      have hk : k < 8 := by
        rw [show (8 : Int32) = nI 8 from rfl, nI_leI (by omega) hk31] at c7
        omega
      refine X_aload_n (i := 0) hB dX11_has_10 rfl rfl ?_
      refine X_getr hB cw9 fX11_26 rfl hX.1.1 hX.1.2 hS.2.2.1 dX11_has_11 ?_
      refine X_getr hB cw8 fX11_68 rfl hW.1.1 hW.1.2 hw.1.1 dX11_has_14 ?_
      refine X_iload_n (i := 1) hB dX11_has_17 rfl rfl ?_
      refine X_ialdN hB (k) hW.2.1.1 hW.2.1.2 (by decide) rfl hk (hw.2.1.1 k hk) dX11_has_18 ?_
      refine X_iret hB rfl dX11_has_19 ?_
      refine ⟨?_, rfl⟩
      unfold aHas
      rw [inN_nI (show k < 12 by omega) hk31]
      dsimp only
      rw [if_neg (by omega), if_neg (by omega), if_neg (by omega)]
set_option maxRecDepth 100000 in
set_option maxHeartbeats 4000000 in
theorem c_X11_air (x : Nat) (hX : SLay G x) (hS : SF S x) (σ : Net) (hw : worldR S (x + 6) σ) (b : Nat) (hN : wfN σ b) (u v : Int32) : C G mX11_air 1 [.ref x, .int u, .int v] S (fun r S' => r = some (.int (aAir σ u v)) ∧ S = S') := by
  have hW := hX.2.2.2.1
  have hc8 := hN.1.1.2
  have h40 := hw.l40
  refine C.mk (lv := [some (.ref x), some (.int u), some (.int v), none]) (by decide) (Nat.le_of_ble_eq_true rfl) rfl (fun E hB => ?_)
  refine X_aload_n (i := 0) hB dX11_air_0 rfl rfl ?_
  refine X_getr hB cw9 fX11_26 rfl hX.1.1 hX.1.2 hS.2.2.1 dX11_air_1 ?_
  refine X_getr hB cw8 fX11_104 rfl hW.1.1 hW.1.2 hw.1.2.2.1 dX11_air_4 ?_
  refine X_iload_n (i := 1) hB dX11_air_7 rfl rfl ?_
  refine X_callV hB kX11_175 cw0 hW.2.2.2.1.1 hW.2.2.2.1.2 (c_X0_frameAt (x + 6) hW σ hw u) (by decide) (by decide) rfl rfl (Nat.le_of_ble_eq_true rfl) dX11_air_8 (fun r8 S8 q8 => ?_)
  obtain ⟨q8, rfl⟩ := q8
  cases e8 : inN u (nAir σ).length with
  | none =>
    rw [e8] at q8
    obtain rfl := q8
    refine X_astore_nN (i := 3) hB dX11_air_11 rfl (by decide) rfl ?_
    refine X_aload_nN (i := 3) hB dX11_air_12 rfl rfl ?_
    refine X_ifnonnullN hB dX11_air_13 ?_
    refine X_bipush (v := (-2)) hB dX11_air_16 (by decide) ?_
    refine X_iret hB rfl dX11_air_18 ?_
    exact ⟨by unfold aAir; rw [e8], rfl⟩
  | some k =>
    rw [e8] at q8
    obtain ⟨s, p, ha, rfl⟩ := q8
    obtain ⟨hk, -⟩ := inN_some e8
    have hpa := ha.2.2.2.2.2.1 ((s + k) % 40) (by omega)
    have hfa := hW.2.2.2.2.2.1 _ (by omega) (show p ((s + k) % 40) < x + 6 + 46 by omega)
    obtain ⟨m0, m1, m2, m3, m4, m5, m6⟩ := ha.2.2.2.2.2.2.2 k hk
    refine X_astore_n (i := 3) hB dX11_air_11 rfl (by decide) rfl ?_
    refine X_aload_n (i := 3) hB dX11_air_12 rfl rfl ?_
    refine X_ifnonnull (tgt := 19) hB dX11_air_13 (by decide) ?_
    refine X_iload_n (i := 2) hB dX11_air_19 rfl rfl ?_
    cases eW : inN v 6 with
    | none =>
      refine X_tableOut (tgt := 90) hB dX11_air_20 (by have := inN_out eW; omega) (by decide) ?_
      refine X_bipush (v := (-2)) hB dX11_air_90 (by decide) ?_
      refine X_iret hB rfl dX11_air_92 ?_
      exact ⟨by unfold aAir; rw [e8, eW], rfl⟩
    | some y =>
      obtain ⟨ly, rfl⟩ := inN_some eW
      rcases (show y = 0 ∨ y = 1 ∨ y = 2 ∨ y = 3 ∨ y = 4 ∨ y = 5 by omega) with rfl | rfl | rfl | rfl | rfl | rfl
      · refine X_tableIn (tgt := 60) hB dX11_air_20 (by decide) (by decide) (by rfl) (by decide) ?_
        refine X_aload_n (i := 3) hB dX11_air_60 rfl rfl ?_
        refine X_geti hB cw3 fX11_179 rfl hfa.1 hfa.2 dX11_air_61 ?_
        refine X_iret hB rfl dX11_air_64 ?_
        refine ⟨congrArg (fun z => some (Value.int z)) (m0.trans ?_), rfl⟩
        unfold aAir
        rw [e8, eW]
        rfl
      · refine X_tableIn (tgt := 65) hB dX11_air_20 (by decide) (by decide) (by rfl) (by decide) ?_
        refine X_aload_n (i := 3) hB dX11_air_65 rfl rfl ?_
        refine X_geti hB cw3 fX11_184 rfl hfa.1 hfa.2 dX11_air_66 ?_
        refine X_iret hB rfl dX11_air_69 ?_
        refine ⟨congrArg (fun z => some (Value.int z)) (m1.trans ?_), rfl⟩
        unfold aAir
        rw [e8, eW]
        rfl
      · refine X_tableIn (tgt := 70) hB dX11_air_20 (by decide) (by decide) (by rfl) (by decide) ?_
        refine X_aload_n (i := 3) hB dX11_air_70 rfl rfl ?_
        refine X_geti hB cw3 fX11_187 rfl hfa.1 hfa.2 dX11_air_71 ?_
        refine X_iret hB rfl dX11_air_74 ?_
        refine ⟨congrArg (fun z => some (Value.int z)) (m2.trans ?_), rfl⟩
        unfold aAir
        rw [e8, eW]
        rfl
      · refine X_tableIn (tgt := 75) hB dX11_air_20 (by decide) (by decide) (by rfl) (by decide) ?_
        refine X_aload_n (i := 3) hB dX11_air_75 rfl rfl ?_
        refine X_geti hB cw3 fX11_190 rfl hfa.1 hfa.2 dX11_air_76 ?_
        refine X_iret hB rfl dX11_air_79 ?_
        refine ⟨congrArg (fun z => some (Value.int z)) (m3.trans ?_), rfl⟩
        unfold aAir
        rw [e8, eW]
        rfl
      · refine X_tableIn (tgt := 80) hB dX11_air_20 (by decide) (by decide) (by rfl) (by decide) ?_
        refine X_aload_n (i := 3) hB dX11_air_80 rfl rfl ?_
        refine X_geti hB cw3 fX11_193 rfl hfa.1 hfa.2 dX11_air_81 ?_
        refine X_iret hB rfl dX11_air_84 ?_
        refine ⟨congrArg (fun z => some (Value.int z)) (m4.trans ?_), rfl⟩
        unfold aAir
        rw [e8, eW]
        rfl
      · refine X_tableIn (tgt := 85) hB dX11_air_20 (by decide) (by decide) (by rfl) (by decide) ?_
        refine X_aload_n (i := 3) hB dX11_air_85 rfl rfl ?_
        refine X_geti hB cw3 fX11_196 rfl hfa.1 hfa.2 dX11_air_86 ?_
        refine X_iret hB rfl dX11_air_89 ?_
        refine ⟨congrArg (fun z => some (Value.int z)) (m5.trans ?_), rfl⟩
        unfold aAir
        rw [e8, eW]
        rfl
set_option maxRecDepth 100000 in
set_option maxHeartbeats 4000000 in
theorem c_X11_row (x : Nat) (hX : SLay G x) (hS : SF S x) (σ : Net) (hw : worldR S (x + 6) σ) (b : Nat) (hN : wfN σ b) (u v : Int32) : C G mX11_row 1 [.ref x, .int u, .int v] S (fun r S' => r = some (.int (aRow σ u v)) ∧ S = S') := by
  have hW := hX.2.2.2.1
  have hc8 := hN.1.1.2
  have h40 := hw.l40
  refine C.mk (lv := [some (.ref x), some (.int u), some (.int v), none]) (by decide) (Nat.le_of_ble_eq_true rfl) rfl (fun E hB => ?_)
  refine X_aload_n (i := 0) hB dX11_row_0 rfl rfl ?_
  refine X_getr hB cw9 fX11_26 rfl hX.1.1 hX.1.2 hS.2.2.1 dX11_row_1 ?_
  refine X_getr hB cw8 fX11_104 rfl hW.1.1 hW.1.2 hw.1.2.2.1 dX11_row_4 ?_
  refine X_iload_n (i := 1) hB dX11_row_7 rfl rfl ?_
  refine X_callV hB kX11_175 cw0 hW.2.2.2.1.1 hW.2.2.2.1.2 (c_X0_frameAt (x + 6) hW σ hw u) (by decide) (by decide) rfl rfl (Nat.le_of_ble_eq_true rfl) dX11_row_8 (fun r8 S8 q8 => ?_)
  obtain ⟨q8, rfl⟩ := q8
  cases e8 : inN u (nAir σ).length with
  | none =>
    rw [e8] at q8
    obtain rfl := q8
    refine X_astore_nN (i := 3) hB dX11_row_11 rfl (by decide) rfl ?_
    refine X_aload_nN (i := 3) hB dX11_row_12 rfl rfl ?_
    refine X_ifnonnullN hB dX11_row_13 ?_
    refine X_iconst (v := (-1)) hB dX11_row_16 (by decide) ?_
    refine X_goto (tgt := 28) hB dX11_row_17 (by decide) ?_
    refine X_iret hB rfl dX11_row_28 ?_
    exact ⟨by unfold aRow; rw [e8], rfl⟩
  | some k =>
    rw [e8] at q8
    obtain ⟨s, p, ha, rfl⟩ := q8
    obtain ⟨hk, -⟩ := inN_some e8
    have hpa := ha.2.2.2.2.2.1 ((s + k) % 40) (by omega)
    have hfa := hW.2.2.2.2.2.1 _ (by omega) (show p ((s + k) % 40) < x + 6 + 46 by omega)
    obtain ⟨m0, m1, m2, m3, m4, m5, m6⟩ := ha.2.2.2.2.2.2.2 k hk
    refine X_astore_n (i := 3) hB dX11_row_11 rfl (by decide) rfl ?_
    refine X_aload_n (i := 3) hB dX11_row_12 rfl rfl ?_
    refine X_ifnonnull (tgt := 20) hB dX11_row_13 (by decide) ?_
    refine X_aload_n (i := 3) hB dX11_row_20 rfl rfl ?_
    refine X_getj hB cw3 fX11_199 rfl hfa.1 hfa.2 dX11_row_21 ?_
    refine X_topl (y := rJ (frL σ ((nAir σ).getD k f0))) (m6) ?_
    refine X_iload_n (i := 2) hB dX11_row_24 rfl rfl ?_
    refine X_callS hB kX11_140 (c_X8_at _ (frLR hN (getD_mem hk)) v) (by decide) (by decide) rfl rfl (Nat.le_of_ble_eq_true rfl) dX11_row_25 (fun r25 S25 q25 => ?_)
    obtain ⟨rfl, rfl⟩ := q25
    refine X_iret hB rfl dX11_row_28 ?_
    exact ⟨by unfold aRow; rw [e8], rfl⟩
end CLS
