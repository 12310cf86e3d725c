/-! what a node knows of ways, in the class -/
def srt (e : List Nat) : Prop := e.getD 0 0 < e.getD 1 0
def CaLay (G : Gc) (c : Nat) : Prop := (c ∈ gL G ∧ gK G c = .inl 1) ∧ RcLay G (c + 1) 18
def caR (S : St) (c n : Nat) (mp : Bool) (hops room : Nat) (cs : List (List Nat)) : Prop := S.2.2 c 1 = some (c + 1) ∧ S.1 c 0 = nI n ∧ S.1 c 2 = (if mp then 1 else 0) ∧ S.1 c 3 = nI hops ∧ S.1 c 4 = nI (if mp then 3 * room else room) ∧ rcR S (c + 1) (cs.map rJ) ∧ okC mp room cs ∧ (mp = true → ∀ e ∈ cs, srt e) ∧ hops ≤ 7 ∧ n < 8
theorem okE.R {mp : Bool} {e : List Nat} (h : okE mp e) : okR e := ⟨h.1, h.2.2.1⟩
theorem caR.ok {S : St} {c n hops room : Nat} {mp : Bool} {cs : List (List Nat)} (h : caR S c n mp hops room cs) : okC mp room cs := h.2.2.2.2.2.2.1
theorem caR.rc {S : St} {c n hops room : Nat} {mp : Bool} {cs : List (List Nat)} (h : caR S c n mp hops room cs) : rcR S (c + 1) (cs.map rJ) := h.2.2.2.2.2.1
theorem okC.R {mp : Bool} {room : Nat} {cs : List (List Nat)} (h : okC mp room cs) : ∀ e ∈ cs, okR e := fun e he => (h.1 e he).R
theorem okC.l18 {mp : Bool} {room : Nat} {cs : List (List Nat)} (h : okC mp room cs) : (cs.map rJ).length ≤ 18 := by
  rw [List.length_map]
  have := h.2.1
  have := h.2.2.2.1
  split at * <;> omega
theorem caR.up {S S' : St} {c n hops room : Nat} {mp : Bool} {cs cs' : List (List Nat)} (h : caR S c n mp hops room cs) (hc : chg (c + 1) (c + 3) S S') (hr : rcR S' (c + 1) (cs'.map rJ)) (hok : okC mp room cs') (hs : mp = true → ∀ e ∈ cs', srt e) : caR S' c n mp hops room cs' := by
  obtain ⟨h1, h2, h3, h4, h5, h6, h7, h8, h9, h10⟩ := h
  have q := hc c (by omega)
  exact ⟨by rw [q.2.2]; exact h1, by rw [q.1]; exact h2, by rw [q.1]; exact h3, by rw [q.1]; exact h4, by rw [q.1]; exact h5, hr, hok, hs, h9, h10⟩
theorem caR.chg {lo hi c n hops room : Nat} {S S' : St} {mp : Bool} {cs : List (List Nat)} (h : caR S c n mp hops room cs) (hc : chg lo hi S S') (ho : c + 2 < lo ∨ hi ≤ c) : caR S' c n mp hops room cs := by
  obtain ⟨h1, h2, h3, h4, h5, h6, h7, h8, h9, h10⟩ := h
  have q := hc c (by omega)
  exact ⟨by rw [q.2.2]; exact h1, by rw [q.1]; exact h2, by rw [q.1]; exact h3, by rw [q.1]; exact h4, by rw [q.1]; exact h5, h6.chg hc (by omega), h7, h8, h9, h10⟩
theorem map_mem {cs : List (List Nat)} {x : List Nat} (h : ∀ e ∈ cs, okR e) (hx : okR x) : rJ x ∈ cs.map rJ ↔ x ∈ cs := by
  rw [List.mem_map]
  constructor
  · rintro ⟨e, he, q⟩
    rw [← rJ_inj (h e he) hx q]; exact he
  · intro q; exact ⟨x, q, rfl⟩
theorem map_erase : ∀ {cs : List (List Nat)} {x : List Nat}, (∀ e ∈ cs, okR e) → okR x → (cs.map rJ).erase (rJ x) = (cs.erase x).map rJ
  | [], _, _, _ => rfl
  | a :: t, x, h, hx => by
    rw [List.map_cons, List.erase_cons, List.erase_cons]
    by_cases e : a = x
    · subst e; simp
    · have e2 : rJ a ≠ rJ x := fun q => e (rJ_inj (h a List.mem_cons_self) hx q)
      rw [if_neg (by simpa using e2), if_neg (by simpa using e), map_erase (fun y hy => h y (List.mem_cons_of_mem _ hy)) hx, List.map_cons]
theorem tch_ins {cs : List (List Nat)} {e : List Nat} {most : Nat} (h : ∀ e ∈ cs, okR e) (he : okR e) : tch (cs.map rJ) (rJ e) most = (ins most e cs).map rJ := by
  unfold tch ins
  rw [map_erase h he, ← List.map_cons, List.map_take]
theorem map_getD {cs : List (List Nat)} {i : Nat} : (cs.map rJ).getD i 0 = rJ (cs.getD i []) := by
  simp only [List.getD_eq_getElem?_getD, List.getElem?_map]
  cases cs[i]? <;> rfl
theorem lnk_J {a b : Nat} (ha : a < 8) (hb : b < 8) : (nI (min a b) + 1).toInt64 ||| ((nI (max a b) + 1).toInt64 <<< ((4 : Int32).toInt64 &&& 63)) = rJ (lnk a b) := by
  have h := rJ_snoc (l := [min a b]) (x := max a b) ⟨by simp, fun y hy => by rw [List.mem_singleton.mp hy]; omega⟩ (by omega) (by simp)
  have e : rJ [min a b] = (nI (min a b) + 1).toInt64 := by rw [nI_1, nI_l (by omega)]; rfl
  rw [e] at h
  exact h
theorem srt_lnk {a b : Nat} (h : a ≠ b) : srt (lnk a b) := by
  show min a b < max a b
  omega
theorem ins_srt {cs : List (List Nat)} {e : List Nat} {most : Nat} (h : ∀ x ∈ cs, srt x) (he : srt e) : ∀ x ∈ ins most e cs, srt x := fun x hx => (ins_mem hx).elim (fun q => q ▸ he) (h x)
theorem insL_srt {most : Nat} : ∀ (L : List Nat) (cs : List (List Nat)), L.Nodup → (∀ x ∈ cs, srt x) → ∀ x ∈ insL most L cs, srt x
  | [], cs, _, h => h
  | [_], cs, _, h => h
  | a :: b :: t, cs, hn, h => by
    have hab : a ≠ b := fun e => (List.nodup_cons.mp hn).1 (e ▸ List.mem_cons_self)
    exact insL_srt (b :: t) _ (List.nodup_cons.mp hn).2 (ins_srt h (srt_lnk hab))
theorem learn_srt {mp : Bool} {hops room : Nat} {L : List Nat} {cs : List (List Nat)} (hn : L.Nodup) (h : mp = true → ∀ x ∈ cs, srt x) : mp = true → ∀ x ∈ learnL mp hops room L cs, srt x := by
  intro hm
  unfold learnL
  split
  · exact h hm
  · exact insL_srt _ _ (hn.sublist (List.take_sublist _ _)) (h hm)
theorem forget_srt {mp : Bool} {a b : Nat} {cs : List (List Nat)} (h : mp = true → ∀ x ∈ cs, srt x) : mp = true → ∀ x ∈ forgetL mp a b cs, srt x := by
  intro hm
  unfold forgetL
  rw [if_pos hm]
  intro x hx
  exact h hm x (List.mem_of_mem_erase hx)
/-- a link goes out of a map as it goes out of paths -/
theorem keep_map {a b : Nat} (hab : a ≠ b) : ∀ (l acc : List (List Nat)), (∀ e ∈ l, e.length = 2 ∧ srt e) → (acc ++ l).Nodup → keepL acc (l.map (cutAt a b)) = acc ++ l.erase (lnk a b)
  | [], acc, _, _ => by simp [keepL]
  | e :: t, acc, h, hn => by
    obtain ⟨h2, h3⟩ := h e List.mem_cons_self
    have ht : ∀ x ∈ t, x.length = 2 ∧ srt x := fun x hx => h x (List.mem_cons_of_mem _ hx)
    obtain ⟨x, y, rfl⟩ : ∃ x y, e = [x, y] := by
      match e, h2 with
      | [x, y], _ => exact ⟨x, y, rfl⟩
    have hxy : x < y := h3
    have hn2 := List.nodup_append.mp hn
    have hc : cutAt a b [x, y] = if (x = a ∧ y = b) ∨ (x = b ∧ y = a) then [x] else [x, y] := by simp [cutAt]
    rw [List.map_cons, hc]
    by_cases c : (x = a ∧ y = b) ∨ (x = b ∧ y = a)
    · have e1 : lnk a b = [x, y] := by unfold lnk; congr 1; · omega
                                       · congr 1; omega
      rw [if_pos c, keepL_vain (Or.inl (by simp)), e1, List.erase_cons_head]
      have hnt : [x, y] ∉ t := (List.nodup_cons.mp hn2.2.1).1
      have := keep_map hab t acc ht (by
        refine List.nodup_append.mpr ⟨hn2.1, (List.nodup_cons.mp hn2.2.1).2, fun u hu v hv => hn2.2.2 u hu v (List.mem_cons_of_mem _ hv)⟩)
      rw [this, e1, List.erase_of_not_mem hnt]
    · have e1 : lnk a b ≠ [x, y] := by
        intro q
        unfold lnk at q
        have q1 : min a b = x := (List.cons.inj q).1
        have q2 : max a b = y := (List.cons.inj (List.cons.inj q).2).1
        exact c (by omega)
      have hna : [x, y] ∉ acc := fun q => hn2.2.2 _ q _ List.mem_cons_self rfl
      rw [if_neg c, keepL_new (fun q => q.elim (by simp) hna), List.erase_cons_tail (by simpa using fun z => e1 z.symm)]
      have := keep_map hab t (acc ++ [[x, y]]) ht (by rw [List.append_assoc]; exact hn)
      rw [this, List.append_assoc]; rfl
theorem keep_forget {mp : Bool} {room a b : Nat} {cs : List (List Nat)} (hok : okC mp room cs) (hs : mp = true → ∀ e ∈ cs, srt e) (hab : a ≠ b) : keepL [] (cs.map (cutAt a b)) = forgetL mp a b cs := by
  unfold forgetL
  cases mp with
  | false => rfl
  | true =>
    rw [if_pos rfl, keep_map hab cs [] (fun e he => ⟨(hok.1 e he).2.2.2.2 rfl, hs rfl e he⟩) (by simpa using hok.2.2.2.2)]
    rfl
/-- the cut, by where two nodes stand -/
theorem cut_ix {l : List Nat} (hn : l.Nodup) {a b : Nat} : cutAt a b l = if a ∈ l ∧ b ∈ l ∧ (l.idxOf a + 1 = l.idxOf b ∨ l.idxOf b + 1 = l.idxOf a) then l.take (max (l.idxOf a) (l.idxOf b)) else l := by
  have ix : ∀ {x i : Nat}, i < l.length → l.getD i 0 = x → x ∈ l ∧ l.idxOf x = i := fun {x i} hi hx => idxOf_iff hi hx (fun j hj q => by
    have := List.pairwise_iff_getElem.mp hn j i (by omega) hi hj
    rw [getD_lt (by omega)] at q
    rw [getD_lt hi] at hx
    exact this (q.trans hx.symm))
  have gx : ∀ {x : Nat}, x ∈ l → l.idxOf x < l.length ∧ l.getD (l.idxOf x) 0 = x := fun {x} hx => by
    have h1 := List.idxOf_lt_length_of_mem hx
    exact ⟨h1, by rw [getD_lt h1]; exact List.getElem_idxOf h1⟩
  split
  · rename_i h
    obtain ⟨ha, hb, h3⟩ := h
    obtain ⟨a1, a2⟩ := gx ha
    obtain ⟨b1, b2⟩ := gx hb
    refine cutAt_at l (max (l.idxOf a) (l.idxOf b)) (by omega) (by omega) ?_ ?_
    · unfold adj
      rcases h3 with q | q
      · left
        rw [show max (l.idxOf a) (l.idxOf b) = l.idxOf b by omega, show l.idxOf b - 1 = l.idxOf a by omega]
        exact ⟨a2, b2⟩
      · right
        rw [show max (l.idxOf a) (l.idxOf b) = l.idxOf a by omega, show l.idxOf a - 1 = l.idxOf b by omega]
        exact ⟨b2, a2⟩
    · intro j j1 j2 q
      unfold adj at q
      rcases q with ⟨q1, q2⟩ | ⟨q1, q2⟩
      · have := (ix (by omega) q1).2
        have := (ix (by omega) q2).2
        omega
      · have := (ix (by omega) q1).2
        have := (ix (by omega) q2).2
        omega
  · rename_i h
    refine cutAt_none l (fun j j1 j2 q => h ?_)
    unfold adj at q
    rcases q with ⟨q1, q2⟩ | ⟨q1, q2⟩
    · have u := ix (by omega) q1
      have v := ix j2 q2
      exact ⟨u.1, v.1, by omega⟩
    · have u := ix (by omega) q1
      have v := ix j2 q2
      exact ⟨v.1, u.1, by omega⟩
