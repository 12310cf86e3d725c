/-! the class: the text is read -/
theorem aF_at : ∀ k, k < 8 → nI (aF.getD k 0) = nI (pSe ps0 k) := by decide +kernel
theorem bts_f : ∀ k, bts (fun _ => false) k = 0
  | 0 => rfl
  | k + 1 => by unfold bts; rw [bts_f k]; simp
theorem ps0_ok : psOk ps0 := ⟨fun a e => (by cases e), fun n a e => (by cases e)⟩
/-- what holds of all that is read without a number that can not be -/
def psW (s : Ps) : Prop := pBd s = none → seOk (pSe s) ∧ ∀ a b, pUp s a b = true → a < 8 ∧ b < 8 ∧ a ≠ b ∧ pUp s b a = true ∧ pNm s a ≠ none ∧ pNm s b ≠ none
theorem ps0_W : psW ps0 := fun _ => ⟨⟨⟨by decide, by decide⟩, ⟨by decide, by decide⟩, ⟨by decide, by decide⟩, ⟨by decide, by decide⟩, ⟨by decide, by decide⟩, ⟨by decide, by decide⟩, ⟨by decide, by decide⟩, by decide⟩, fun a b h => by cases h⟩
theorem se_lo : ∀ w, w < 8 → ∀ v, v < 100 → loW w ≤ v → v ≤ hiW w → ∀ s : Nat → Nat, seOk s → seOk (updN s w v) := by
  intro w hw v hv h1 h2 s h
  obtain ⟨g0, g1, g2, g3, g4, g5, g6, g7⟩ := h
  rcases (show w = 0 ∨ w = 1 ∨ w = 2 ∨ w = 3 ∨ w = 4 ∨ w = 5 ∨ w = 6 ∨ w = 7 by omega) with rfl | rfl | rfl | rfl | rfl | rfl | rfl | rfl <;> (simp [loW, hiW] at h1 h2; refine ⟨?_, ?_, ?_, ?_, ?_, ?_, ?_, ?_⟩ <;> simp [updN] <;> omega)
theorem psT_W {s : Ps} {w v at_ : Nat} {but : Option Nat} (h : psW s) : psW (psT s w v at_ but) := fun hb => by
  have hb0 : pBd s = none := by
    have hb : (if okV w v but then pBd s else match pBd s with
      | none => some at_
      | some q => some q) = none := hb
    split at hb
    · exact hb
    · cases hz : pBd s with
      | none => rfl
      | some q => rw [hz] at hb; cases hb
  obtain ⟨g1, g2⟩ := h hb0
  refine ⟨g1, fun a b q => ?_⟩
  obtain ⟨h1, h2, h3, h4, h5, h6⟩ := g2 a b q
  have hn : ∀ n, pNm s n ≠ none → pNm (psT s w v at_ but) n ≠ none := fun n hn => by
    show (if w < 8 then pNm s else fun n => if n = v then (match pNm s n with
      | none => some at_
      | some q => some q) else pNm s n) n ≠ none
    split
    · exact hn
    · dsimp only
      split
      · cases hz : pNm s n with
        | none => exact absurd hz hn
        | some q => exact fun z => by cases z
      · exact hn
  exact ⟨h1, h2, h3, h4, hn a h5, hn b h6⟩
theorem psT_nm {s : Ps} {w v at_ : Nat} {but : Option Nat} (hw : ¬ w < 8) : pNm (psT s w v at_ but) v ≠ none := by
  show (if w < 8 then pNm s else fun n => if n = v then (match pNm s n with
    | none => some at_
    | some q => some q) else pNm s n) v ≠ none
  rw [if_neg hw]
  show (if v = v then (match pNm s v with
    | none => some at_
    | some q => some q) else pNm s v) ≠ none
  rw [if_pos rfl]
  cases pNm s v with
  | none => exact fun z => by cases z
  | some q => exact fun z => by cases z
theorem psT_bd {s : Ps} {w v at_ : Nat} {but : Option Nat} (hb : pBd (psT s w v at_ but) = none) : okV w v but = true ∧ pBd s = none := by
  have hb : (if okV w v but then pBd s else match pBd s with
    | none => some at_
    | some q => some q) = none := hb
  by_cases c : okV w v but = true
  · rw [if_pos c] at hb; exact ⟨c, hb⟩
  · rw [if_neg c] at hb
    cases hz : pBd s with
    | none => rw [hz] at hb; cases hb
    | some q => rw [hz] at hb; cases hb
theorem okV_lo {w v : Nat} {but : Option Nat} (h : okV w v but = true) : loW w ≤ v := by
  unfold okV at h
  rw [Bool.and_eq_true, Bool.and_eq_true] at h
  exact of_decide_eq_true h.1.1
theorem psT_stay {s : Ps} {w v at_ n : Nat} {but : Option Nat} (hn : pNm s n ≠ none) : pNm (psT s w v at_ but) n ≠ none := by
  show (if w < 8 then pNm s else fun n => if n = v then (match pNm s n with
    | none => some at_
    | some q => some q) else pNm s n) n ≠ none
  split
  · exact hn
  · dsimp only
    split
    · cases hz : pNm s n with
      | none => exact absurd hz hn
      | some q => exact fun z => by cases z
    · exact hn
theorem cl1_W {B : List Nat} {p q : Nat} {s s' : Ps} (hpl : p ≤ B.length) (h : psW s) (hc : cl1 B p s = .inr (q, s')) : psW s' := by
  unfold cl1 at hc
  cases hk : kwI (tkW B p) with
  | none => rw [hk] at hc; cases hc
  | some w =>
    rw [hk] at hc
    have hw : w < 11 := (kwI_some.mp hk).1
    dsimp only at hc
    have hle : tkE B p ≤ B.length := tkE_le hpl
    by_cases h3 : tkK B (tkE B p) = 3
    · have hv1 := tkV_lt hle h3
      by_cases h8 : w = 8
      · subst h8
        by_cases h5 : tkK B (tkE B (tkE B p)) = 3
        · rw [clS_two h3 h5] at hc
          dsimp only at hc
          split at hc
          · cases hc
            intro hb
            rw [teS_N.1] at hb
            have hW := psT_W (w := 8) (v := tkV B (tkE B (tkE B p))) (at_ := tkB B (tkE B (tkE B p))) (but := some (tkV B (tkE B p))) (psT_W (w := 8) (v := tkV B (tkE B p)) (at_ := tkB B (tkE B p)) (but := none) h) hb
            obtain ⟨o1, hb1⟩ := psT_bd hb
            obtain ⟨o2, hb2⟩ := psT_bd hb1
            have u1 := okV_hi o1
            have u2 := okV_hi o2
            have e8 : hiW 8 = 7 := by decide
            refine ⟨hW.1, fun a b q => ?_⟩
            have n2 := psT_nm (s := psT s 8 (tkV B (tkE B p)) (tkB B (tkE B p)) none) (w := 8) (v := tkV B (tkE B (tkE B p))) (at_ := tkB B (tkE B (tkE B p))) (but := some (tkV B (tkE B p))) (by decide)
            have n1 : pNm (psT (psT s 8 (tkV B (tkE B p)) (tkB B (tkE B p)) none) 8 (tkV B (tkE B (tkE B p))) (tkB B (tkE B (tkE B p))) (some (tkV B (tkE B p)))) (tkV B (tkE B p)) ≠ none := psT_stay (psT_nm (by decide))
            generalize psT (psT s 8 (tkV B (tkE B p)) (tkB B (tkE B p)) none) 8 (tkV B (tkE B (tkE B p))) (tkB B (tkE B (tkE B p))) (some (tkV B (tkE B p))) = t at hW n1 n2 q
            have hne : tkV B (tkE B p) ≠ tkV B (tkE B (tkE B p)) := fun z => u1.2 (by rw [z])
            generalize tkV B (tkE B p) = x at *
            generalize tkV B (tkE B (tkE B p)) = y at *
            have q : (if (a = x ∧ b = y) ∨ (a = y ∧ b = x) then true else pUp t a b) = true := q
            show a < 8 ∧ b < 8 ∧ a ≠ b ∧ (if (b = x ∧ a = y) ∨ (b = y ∧ a = x) then true else pUp t b a) = true ∧ pNm t a ≠ none ∧ pNm t b ≠ none
            by_cases c : (a = x ∧ b = y) ∨ (a = y ∧ b = x)
            · rw [if_pos (by rcases c with c | c; (exact Or.inr ⟨c.2, c.1⟩); (exact Or.inl ⟨c.2, c.1⟩))]
              rcases c with ⟨rfl, rfl⟩ | ⟨rfl, rfl⟩
              · exact ⟨by omega, by omega, hne, rfl, n1, n2⟩
              · exact ⟨by omega, by omega, fun z => hne z.symm, rfl, n2, n1⟩
            · rw [if_neg c] at q
              obtain ⟨y1, y2, y3, y4, y5, y6⟩ := hW.2 a b q
              rw [if_neg (by rintro (z | z); (exact c (Or.inr ⟨z.2, z.1⟩)); (exact c (Or.inl ⟨z.2, z.1⟩)))]
              exact ⟨y1, y2, y3, y4, y5, y6⟩
          · cases hc
        · unfold clS at hc
          rw [if_neg (not_not_intro h3), if_pos rfl, if_pos h5] at hc
          cases hc
      · rw [clS_one h3 h8] at hc
        dsimp only at hc
        split at hc
        · cases hc
          intro hb
          rw [teS_N.1] at hb
          have hW := psT_W (w := w) (v := tkV B (tkE B p)) (at_ := tkB B (tkE B p)) (but := none) h hb
          obtain ⟨o1, hb1⟩ := psT_bd hb
          unfold teS
          by_cases c : w < 8
          · rw [if_pos c]
            exact ⟨se_lo w c _ hv1 (okV_lo o1) (okV_hi o1).1 _ hW.1, hW.2⟩
          · rw [if_neg c, if_neg h8]
            split
            · exact hW
            · exact hW
        · cases hc
    · unfold clS at hc
      rw [if_pos h3] at hc
      cases hc
theorem linS_W {B : List Nat} : ∀ (k p : Nat) (s t : Ps), p ≤ B.length → psW s → linS B k p s = .inr t → psW t
  | 0, _, _, _, _, _, h => by cases h
  | k + 1, p, s, t, hp, hs, h => by
    by_cases c : tkK B p = 0
    · have h : (if tkK B p = 0 then Sum.inr s else _) = Sum.inr t := h
      rw [if_pos c] at h
      cases h; exact hs
    · rw [linS_st c] at h
      cases hc : cl1 B p s with
      | inl e => rw [hc] at h; cases h
      | inr r =>
        obtain ⟨q, s'⟩ := r
        rw [hc] at h
        dsimp only at h
        have hq : q ≤ B.length := by
          unfold cl1 at hc
          cases hk : kwI (tkW B p) with
          | none => rw [hk] at hc; cases hc
          | some w =>
            rw [hk] at hc
            dsimp only at hc
            have hle : tkE B p ≤ B.length := tkE_le hp
            by_cases h3 : tkK B (tkE B p) = 3
            · by_cases h8 : w = 8
              · subst h8
                by_cases h5 : tkK B (tkE B (tkE B p)) = 3
                · rw [clS_two h3 h5] at hc
                  dsimp only at hc
                  split at hc
                  · cases hc; exact tkE_le (tkE_le (tkE_le hle))
                  · cases hc
                · unfold clS at hc
                  rw [if_neg (not_not_intro h3), if_pos rfl, if_pos h5] at hc
                  cases hc
              · rw [clS_one h3 h8] at hc
                dsimp only at hc
                split at hc
                · cases hc; exact tkE_le (tkE_le hle)
                · cases hc
            · unfold clS at hc
              rw [if_pos h3] at hc
              cases hc
        exact linS_W k q s' t hq (cl1_W hp hs hc) h
theorem misS_none {s : Ps} : ∀ (k : Nat) (o : Option Nat), k ≤ 8 → misS s k o = none → o = none ∧ ∀ n, 8 - k ≤ n → n < 8 → pNm s n = none
  | 0, o, _, h => ⟨h, fun n a b => by omega⟩
  | k + 1, o, hk, h => by
    obtain ⟨g1, g2⟩ := misS_none k _ (by omega) h
    cases hz : pNm s (8 - (k + 1)) with
    | none =>
      rw [hz] at g1
      refine ⟨g1, fun n a b => ?_⟩
      by_cases c : n = 8 - (k + 1)
      · rw [c]; exact hz
      · exact g2 n (by omega) b
    | some a =>
      rw [hz] at g1
      dsimp only at g1
      cases ho : o with
      | none => rw [ho] at g1; cases g1
      | some q =>
        rw [ho] at g1
        dsimp only at g1
        split at g1 <;> cases g1
/-- a net that is read is a good one -/
theorem reaF_W {B : List Nat} (h : (reaF B).1 = 0) : seOk (pSe (reaF B).2.2) ∧ upOk (pSe (reaF B).2.2 0) (pUp (reaF B).2.2) ∧ pBd (reaF B).2.2 = none ∧ (reaF B).2.1 = none := by
  unfold reaF at h ⊢
  cases hl : linS B 401 0 ps0 with
  | inl e => rw [hl] at h; cases h
  | inr s =>
    rw [hl] at h
    dsimp only at h ⊢
    have hW := linS_W 401 0 ps0 s (Nat.zero_le _) ps0_W hl
    cases hb : pBd s with
    | some q => rw [hb] at h; cases h
    | none =>
      rw [hb] at h
      dsimp only at h ⊢
      cases hm : misS s (8 - pSe s 0) none with
      | some q => rw [hm] at h; cases h
      | none =>
        rw [hm] at h
        obtain ⟨g1, g2⟩ := hW hb
        obtain ⟨-, m2⟩ := misS_none (8 - pSe s 0) none (by omega) hm
        have h8 := g1.1.2
        refine ⟨g1, fun a b q => ?_, hb, rfl⟩
        obtain ⟨y1, y2, y3, y4, y5, y6⟩ := g2 a b q
        refine ⟨?_, ?_, y3, y4⟩
        · exact Classical.byContradiction (fun z => y5 (m2 a (by have z : ¬ a < pSe s 0 := z; omega) y1))
        · exact Classical.byContradiction (fun z => y6 (m2 b (by have z : ¬ b < pSe s 0 := z; omega) y2))
section CLS
variable {G : Gc} {S : St}
set_option maxRecDepth 100000 in
set_option maxHeartbeats 4000000 in
theorem l_X6_begin {E : Ev} (hB : Bd G E mX6_begin) {Q : Option Value → St → Prop} (d : Nat) (hL : RdLay G d) (h11 : S.2.2 d 11 = some (d + 2)) (kk : ∀ S1, S1.2 = S.2 → (∀ a, a ≠ d + 2 → S1.1 a = S.1 a) → (∀ n, n < 8 → S1.1 (d + 2) n = -1) → Q none S1) :
    ∀ (j n : Nat) (S1 : St), n + j = 8 → S1.2 = S.2 → (∀ a, a ≠ d + 2 → S1.1 a = S.1 a) → (∀ m, m < n → S1.1 (d + 2) m = -1) → X G E mX6_begin 1 Q S1 46 [some (.ref d), some (.int (nI n))] [] := by
  intro j
  induction j with
  | zero =>
    intro n S1 h1 h2 h3 h4
    have e9 : n = 8 := by omega
    subst e9
    refine X_iload_n (i := 1) hB dX6_begin_46 rfl rfl ?_
    refine X_bipush (v := 8) hB dX6_begin_47 (by decide) ?_
    refine X_icmp_ge (tgt := 65) hB dX6_begin_49 (by decide) (fun c49 => ?_) (fun c49 => absurd c49 (by simp (disch := omega) only [nlit, nI_leI, nI_ltI]; omega))
    refine X_vret hB rfl dX6_begin_65 ?_
    exact kk S1 h2 h3 h4
  | succ j ih =>
    intro n S1 h1 h2 h3 h4
    refine X_iload_n (i := 1) hB dX6_begin_46 rfl rfl ?_
    refine X_bipush (v := 8) hB dX6_begin_47 (by decide) ?_
    refine X_icmp_ge (tgt := 65) hB dX6_begin_49 (by decide) (fun c49 => absurd c49 (by simp (disch := omega) only [nlit, nI_leI, nI_ltI]; omega)) (fun c49 => ?_)
    refine X_aload_n (i := 0) hB dX6_begin_52 rfl rfl ?_
    refine X_getr hB cw5 fX6_15 rfl hL.1.1 hL.1.2 (show S1.2.2 d 11 = some (d + 2) by rw [h2]; exact h11) dX6_begin_53 ?_
    refine X_iload_n (i := 1) hB dX6_begin_56 rfl rfl ?_
    refine X_iconst (v := (-1)) hB dX6_begin_57 (by decide) ?_
    refine X_iastN hB (n) hL.2.2.1 hL.2.2.2 (by decide) rfl (by omega) dX6_begin_58 ?_
    refine X_iinc hB dX6_begin_59 rfl rfl (by decide) rfl ?_
    refine X_goto (tgt := 46) hB dX6_begin_62 (by decide) ?_
    refine X_lv ?_ (ih (n + 1) _ (by omega) h2 (fun a ha => (setI_row _ _ _ ha).trans (h3 a ha)) (fun m hm => ?_))
    · rw [nI_succ]; rfl
    · by_cases z : m = n
      · rw [z, setI_at]
      · rw [setI_ne _ _ (Or.inr z)]; exact h4 m (by omega)
set_option maxRecDepth 100000 in
set_option maxHeartbeats 4000000 in
theorem c_X6_begin {tF : Nat} (hZF : ∀ U, gZ G U → zT G "AT_FIRST" tF aF U) (d : Nat) (hL : RdLay G d) (h0 : S.2.2 d 0 = some (d + 1)) (h11 : S.2.2 d 11 = some (d + 2)) : C G mX6_begin 1 [.ref d] S (fun r S' => r = none ∧ chg d (d + 3) S S' ∧ S'.2.2 = S.2.2 ∧ S'.1 d 4 = 0 ∧ S'.1 d 5 = -1 ∧ prN S' d ps0 ∧ prE S' d ps0) := by
  refine C.mk (lv := [some (.ref d), none]) (by decide) (Nat.le_of_ble_eq_true rfl) rfl (fun E hB => ?_)
  refine X_gets hB (hZF _ hB.2.2.2.2.2.2.2.2.2.1).1 zX6_18 dX6_begin_0 ?_
  refine X_iconst (v := 0) hB dX6_begin_3 (by decide) ?_
  refine X_aload_n (i := 0) hB dX6_begin_4 rfl rfl ?_
  refine X_getr hB cw5 fX6_9 rfl hL.1.1 hL.1.2 h0 dX6_begin_5 ?_
  refine X_iconst (v := 0) hB dX6_begin_8 (by decide) ?_
  refine X_bipush (v := 8) hB dX6_begin_9 (by decide) ?_
  refine X_copyT hB (8) (hZF _ hB.2.2.2.2.2.2.2.2.2.1).2 kCX6_21 hL.2.1.1 hL.2.1.2 rfl (by decide) (by decide) (by decide) (by decide) (Nat.le_of_ble_eq_true rfl) dX6_begin_11 ?_
  generalize hT1 : cpT_ S (fun j => nI (aF.getD j 0)) (d + 1) 8 = T1
  have t1 : ∀ c, c ≠ d + 1 → T1.1 c = S.1 c := fun c hc => by rw [← hT1]; exact (cpT_oth _ _ _ _ c hc).1
  have t2 : ∀ k, k < 8 → T1.1 (d + 1) k = nI (pSe ps0 k) := fun k hk => by rw [← hT1, cpT_at]; rw [← aF_at k hk]; exact if_pos hk
  have t3 : T1.2 = S.2 := by rw [← hT1]; rfl
  clear hT1
  refine X_aload_n (i := 0) hB dX6_begin_14 rfl rfl ?_
  refine X_lconst (v := 0) hB dX6_begin_15 (by decide) ?_
  refine X_putj hB cw5 fX6_27 rfl rfl hL.1.1 hL.1.2 dX6_begin_16 ?_
  refine X_aload_n (i := 0) hB dX6_begin_19 rfl rfl ?_
  refine X_iconst (v := 0) hB dX6_begin_20 (by decide) ?_
  refine X_puti hB cw5 fX6_31 rfl rfl hL.1.1 hL.1.2 dX6_begin_21 ?_
  refine X_aload_n (i := 0) hB dX6_begin_24 rfl rfl ?_
  refine X_iconst (v := 0) hB dX6_begin_25 (by decide) ?_
  refine X_puti hB cw5 fX6_35 rfl rfl hL.1.1 hL.1.2 dX6_begin_26 ?_
  refine X_aload_n (i := 0) hB dX6_begin_29 rfl rfl ?_
  refine X_iconst (v := 0) hB dX6_begin_30 (by decide) ?_
  refine X_puti hB cw5 fX6_38 rfl rfl hL.1.1 hL.1.2 dX6_begin_31 ?_
  refine X_aload_n (i := 0) hB dX6_begin_34 rfl rfl ?_
  refine X_iconst (v := (-1)) hB dX6_begin_35 (by decide) ?_
  refine X_puti hB cw5 fX6_41 rfl rfl hL.1.1 hL.1.2 dX6_begin_36 ?_
  refine X_aload_n (i := 0) hB dX6_begin_39 rfl rfl ?_
  refine X_iconst (v := (-1)) hB dX6_begin_40 (by decide) ?_
  refine X_puti hB cw5 fX6_44 rfl rfl hL.1.1 hL.1.2 dX6_begin_41 ?_
  refine X_iconst (v := 0) hB dX6_begin_44 (by decide) ?_
  refine X_istore_n (i := 1) hB dX6_begin_45 rfl (by decide) rfl ?_
  refine X_lv (lv' := [some (.ref d), some (.int (nI 0))]) (by rw [nI_0]; rfl) (l_X6_begin (S := setI (setI (setI (setI (setI (setJ T1 d 1 0) d 2 0) d 3 0) d 4 0) d 5 (-1)) d 10 (-1)) hB d hL (show T1.2.2 d 11 = _ by rw [t3]; exact h11) (fun S1 g1 g2 g3 => ?_) 8 0 _ (by omega) rfl (fun _ _ => rfl) (fun m hm => by omega))
  have gd : S1.1 d = (setI (setI (setI (setI (setI (setJ T1 d 1 0) d 2 0) d 3 0) d 4 0) d 5 (-1)) d 10 (-1)).1 d := g2 d (by omega)
  refine ⟨rfl, fun c hc => ⟨?_, ?_, ?_⟩, ?_, ?_, ?_, ⟨?_, fun n hn => g3 n hn⟩, ⟨fun k hk => ?_, ?_, ?_, ?_⟩⟩
  · rw [g2 c (by omega), setI_row _ _ _ (by omega), setI_row _ _ _ (by omega), setI_row _ _ _ (by omega), setI_row _ _ _ (by omega), setI_row _ _ _ (by omega)]
    exact t1 c (by omega)
  · rw [g1]
    show (setJ T1 d 1 0).2.1 c = _
    rw [show (setJ T1 d 1 0).2.1 c = T1.2.1 c from ups_row_ne _ _ _ (by omega), t3]
  · rw [g1]
    show T1.2.2 c = _
    rw [t3]
  · rw [g1]
    show T1.2.2 = _
    rw [t3]
  · rw [gd, setI_ne _ _ (Or.inr (by decide)), setI_ne _ _ (Or.inr (by decide)), setI_at]
  · rw [gd, setI_ne _ _ (Or.inr (by decide)), setI_at]
  · rw [gd, setI_at]; rfl
  · rw [g2 _ (by omega), setI_row _ _ _ (by omega), setI_row _ _ _ (by omega), setI_row _ _ _ (by omega), setI_row _ _ _ (by omega), setI_row _ _ _ (by omega)]
    exact t2 k hk
  · rw [g1]
    show lkR ((setJ T1 d 1 0).2.1 d 1) _
    rw [setJ_at]; exact lkR_0
  · rw [gd, setI_ne _ _ (Or.inr (by decide)), setI_ne _ _ (Or.inr (by decide)), setI_ne _ _ (Or.inr (by decide)), setI_ne _ _ (Or.inr (by decide)), setI_at]
    exact congrArg nI (bts_f 8).symm
  · rw [gd, setI_ne _ _ (Or.inr (by decide)), setI_ne _ _ (Or.inr (by decide)), setI_ne _ _ (Or.inr (by decide)), setI_at]
    exact congrArg nI (bts_f 8).symm
end CLS
