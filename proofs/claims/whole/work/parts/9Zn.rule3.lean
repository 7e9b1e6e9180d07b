/-! ===== the rule, kept as steps: what the class makes of a text ===== -/
def cR (r : xR) : Nat → Nat → Int → Int → Int → List Int × Int × Int
  | 0, _, _, a, w => ([], a, w)
  | f + 1, 0, dp, a, w =>
    if w = -1 then
      if rHere r a = 45 then ((cR r f 0 dp (a + 1) w).1 ++ [2000], (cR r f 0 dp (a + 1) w).2)
      else if rHere r a = 40 ∧ dp < 4 then ((cR r f 5 (dp + 1) (a + 1) w).1, tNeed r 41 (cR r f 5 (dp + 1) (a + 1) w).2.1 (cR r f 5 (dp + 1) (a + 1) w).2.2)
      else if 48 ≤ rHere r a ∧ rHere r a ≤ 57 then ([(tNum r a w 3).1], (tNum r a w 3).2)
      else if lOf (rHere r a) = -1 then ([], a, a)
      else ([1000 + lOf (rHere r a)], a + 1, w)
    else ([], a, w)
  | f + 1, 1, dp, a, w => ((cR r f 0 dp a w).1 ++ (cR r f 2 dp (cR r f 0 dp a w).2.1 (cR r f 0 dp a w).2.2).1, (cR r f 2 dp (cR r f 0 dp a w).2.1 (cR r f 0 dp a w).2.2).2)
  | f + 1, 2, dp, a, w =>
    if w = -1 ∧ (rHere r a = 42 ∨ rHere r a = 47) then
      ((cR r f 0 dp (a + 1) w).1 ++ -rHere r a :: (cR r f 2 dp (cR r f 0 dp (a + 1) w).2.1 (cR r f 0 dp (a + 1) w).2.2).1, (cR r f 2 dp (cR r f 0 dp (a + 1) w).2.1 (cR r f 0 dp (a + 1) w).2.2).2)
    else ([], a, w)
  | f + 1, 3, dp, a, w => ((cR r f 1 dp a w).1 ++ (cR r f 4 dp (cR r f 1 dp a w).2.1 (cR r f 1 dp a w).2.2).1, (cR r f 4 dp (cR r f 1 dp a w).2.1 (cR r f 1 dp a w).2.2).2)
  | f + 1, 4, dp, a, w =>
    if w = -1 ∧ (rHere r a = 43 ∨ rHere r a = 45) then
      ((cR r f 1 dp (a + 1) w).1 ++ -rHere r a :: (cR r f 4 dp (cR r f 1 dp (a + 1) w).2.1 (cR r f 1 dp (a + 1) w).2.2).1, (cR r f 4 dp (cR r f 1 dp (a + 1) w).2.1 (cR r f 1 dp (a + 1) w).2.2).2)
    else ([], a, w)
  | f + 1, _ + 5, dp, a, w =>
    if (cR r f 3 dp a w).2.2 = -1 ∧ (rHere r (cR r f 3 dp a w).2.1 = 60 ∨ rHere r (cR r f 3 dp a w).2.1 = 62 ∨ rHere r (cR r f 3 dp a w).2.1 = 61) then
      ((cR r f 3 dp a w).1 ++ ((cR r f 3 dp ((cR r f 3 dp a w).2.1 + 1) (cR r f 3 dp a w).2.2).1 ++ [-rHere r (cR r f 3 dp a w).2.1]), (cR r f 3 dp ((cR r f 3 dp a w).2.1 + 1) (cR r f 3 dp a w).2.2).2)
    else cR r f 3 dp a w
theorem cR_v (r : xR) : ∀ (f tag : Nat) (dp v a w : Int), (cR r f tag dp a w).2 = (vR r f tag dp v a w).2
  | 0, tag, dp, v, a, w => by unfold cR vR; rfl
  | f + 1, 0, dp, v, a, w => by
    have e0 := cR_v r f 0 dp 0 (a + 1) w
    have e5 := cR_v r f 5 (dp + 1) 0 (a + 1) w
    unfold cR vR
    rw [e0, e5]
    repeat' split
    all_goals rfl
  | f + 1, 1, dp, v, a, w => by
    have e0 := cR_v r f 0 dp 0 a w
    unfold cR vR
    rw [e0]
    exact cR_v r f 2 dp _ _ _
  | f + 1, 2, dp, v, a, w => by
    have e0 := cR_v r f 0 dp 0 (a + 1) w
    unfold cR vR
    rw [e0]
    split
    · exact cR_v r f 2 dp _ _ _
    · rfl
  | f + 1, 3, dp, v, a, w => by
    have e0 := cR_v r f 1 dp 0 a w
    unfold cR vR
    rw [e0]
    exact cR_v r f 4 dp _ _ _
  | f + 1, 4, dp, v, a, w => by
    have e0 := cR_v r f 1 dp 0 (a + 1) w
    unfold cR vR
    rw [e0]
    split
    · exact cR_v r f 4 dp _ _ _
    · rfl
  | f + 1, tag + 5, dp, v, a, w => by
    have e0 := cR_v r f 3 dp 0 a w
    have e1 := cR_v r f 3 dp 0 ((vR r f 3 dp 0 a w).2.1 + 1) (vR r f 3 dp 0 a w).2.2
    unfold cR vR
    dsimp only
    rw [e0, e1]
    by_cases d : (vR r f 3 dp 0 a w).2.2 = -1
    · by_cases d1 : rHere r (vR r f 3 dp 0 a w).2.1 = 60
      · rw [if_pos ⟨d, Or.inl d1⟩, if_pos ⟨d, d1⟩]
      · by_cases d2 : rHere r (vR r f 3 dp 0 a w).2.1 = 62
        · rw [if_pos ⟨d, Or.inr (Or.inl d2)⟩, if_neg (fun z => d1 z.2), if_pos ⟨d, d2⟩]
        · by_cases d3 : rHere r (vR r f 3 dp 0 a w).2.1 = 61
          · rw [if_pos ⟨d, Or.inr (Or.inr d3)⟩, if_neg (fun z => d1 z.2), if_neg (fun z => d2 z.2), if_pos ⟨d, d3⟩]
          · rw [if_neg (fun z => by rcases z.2 with y | y | y <;> contradiction), if_neg (fun z => d1 z.2), if_neg (fun z => d2 z.2), if_neg (fun z => d3 z.2)]
            exact e0
    · rw [if_neg (fun z => d z.1), if_neg (fun z => d z.1), if_neg (fun z => d z.1), if_neg (fun z => d z.1)]
      exact e0
/-- the same signs, the same steps -/
theorem cR_same {r r' : xR} (hh : ∀ a, rHere r a = rHere r' a) (hd : ∀ a w, tNum r a w 3 = tNum r' a w 3) : ∀ (f tag : Nat) (dp a w : Int), cR r f tag dp a w = cR r' f tag dp a w
  | 0, tag, dp, a, w => by unfold cR; rfl
  | f + 1, 0, dp, a, w => by
    unfold cR
    rw [cR_same hh hd f 0 dp (a + 1) w, cR_same hh hd f 5 (dp + 1) (a + 1) w, hh a, hd a w]
    have hn : ∀ k x y, tNeed r k x y = tNeed r' k x y := fun k x y => by unfold tNeed; rw [hh x]
    rw [hn]
  | f + 1, 1, dp, a, w => by
    unfold cR
    rw [cR_same hh hd f 0 dp a w, cR_same hh hd f 2]
  | f + 1, 2, dp, a, w => by
    unfold cR
    rw [cR_same hh hd f 0 dp (a + 1) w, cR_same hh hd f 2, hh a]
  | f + 1, 3, dp, a, w => by
    unfold cR
    rw [cR_same hh hd f 1 dp a w, cR_same hh hd f 4]
  | f + 1, 4, dp, a, w => by
    unfold cR
    rw [cR_same hh hd f 1 dp (a + 1) w, cR_same hh hd f 4, hh a]
  | f + 1, tag + 5, dp, a, w => by
    unfold cR
    rw [cR_same hh hd f 3 dp a w, cR_same hh hd f 3, hh]
/-- one step on the stack -/
def eX (q : Nat → Int) (st : Int) (s : Nat × (Nat → Int)) : Nat × (Nat → Int) :=
  if st = 2000 ∧ 0 < s.1 then (s.1, xfu s.2 (s.1 - 1) (xw (-s.2 (s.1 - 1))))
  else if st < 0 ∧ 1 < s.1 then (s.1 - 1, xfu s.2 (s.1 - 2) (cJoin (xw (-st)) (s.2 (s.1 - 2)) (s.2 (s.1 - 1))))
  else if (0 ≤ st ∧ st < 2000) ∧ s.1 < 40 then (s.1 + 1, xfu s.2 s.1 (if 0 ≤ xw (st - 1000) ∧ xw (st - 1000) < 7 then q (xw (st - 1000)).toNat else st))
  else s
def eXs (q : Nat → Int) (l : List Int) (s : Nat × (Nat → Int)) : Nat × (Nat → Int) := l.foldl (fun s st => eX q st s) s
theorem eXs_app (q : Nat → Int) (l m : List Int) (s : Nat × (Nat → Int)) : eXs q (l ++ m) s = eXs q m (eXs q l s) := List.foldl_append
theorem eXs_1 (q : Nat → Int) (x : Int) (s : Nat × (Nat → Int)) : eXs q [x] s = eX q x s := rfl
theorem eXs_c (q : Nat → Int) (x : Int) (l : List Int) (s : Nat × (Nat → Int)) : eXs q (x :: l) s = eXs q l (eX q x s) := rfl
theorem eXs_it {st q : Nat → Int} {l : List Int} (h : ∀ i, i < l.length → st i = l.getD i 0) (s : Nat × (Nat → Int)) : ∀ k, k ≤ l.length → xit (cStep st q) k s = eXs q (l.take k) s
  | 0, _ => rfl
  | k + 1, hk => by
    show cStep st q k (xit (cStep st q) k s) = _
    have hl : k < l.length := by omega
    rw [eXs_it h s k (by omega), List.take_succ_eq_append_getElem hl, eXs_app, eXs_1]
    have e := h k hl
    rw [List.getD_eq_getElem?_getD, List.getElem?_eq_getElem hl] at e
    show eX q (st k) _ = eX q _ _
    rw [e]
    rfl
/-- the steps leave v on the stack -/
def okX (q : Nat → Int) (l : List Int) (v : Int) : Prop := ∀ (top : Nat) (S : Nat → Int), top + l.length ≤ 40 → ∃ S', eXs q l (top, S) = (top + 1, S') ∧ S' top = v ∧ ∀ i, i < top → S' i = S i
def okL (q : Nat → Int) (l : List Int) (u v : Int) : Prop := ∀ (top : Nat) (S : Nat → Int), top + 1 + l.length ≤ 40 → S top = u → ∃ S', eXs q l (top + 1, S) = (top + 1, S') ∧ S' top = v ∧ ∀ i, i < top → S' i = S i
theorem okX_L {q : Nat → Int} {l m : List Int} {u v : Int} (h1 : okX q l u) (h2 : okL q m u v) (hl : 1 ≤ l.length) : okX q (l ++ m) v := by
  intro top S ht
  rw [List.length_append] at ht
  obtain ⟨S1, a1, a2, a3⟩ := h1 top S (by omega)
  obtain ⟨S2, b1, b2, b3⟩ := h2 top S1 (by omega) a2
  exact ⟨S2, by rw [eXs_app, a1, b1], b2, fun i hi => by rw [b3 i hi, a3 i hi]⟩
theorem eX_join (q : Nat → Int) {x : Int} (hx : 0 < x ∧ x < 1000) (top : Nat) (S : Nat → Int) : eX q (-x) (top + 1 + 1, S) = (top + 1, xfu S top (cJoin x (S top) (S (top + 1)))) := by
  have e1 : xw (- -x) = x := by rw [Int.neg_neg, xw_id (by omega) (by omega)]
  unfold eX
  dsimp only
  rw [if_neg (by omega), if_pos (by omega), e1]
  rfl
theorem okL_op {q : Nat → Int} {l m : List Int} {u o v x : Int} (hx : 0 < x ∧ x < 1000) (h1 : okX q l o) (h2 : okL q m (cJoin x u o) v) (hl : 1 ≤ l.length) : okL q (l ++ -x :: m) u v := by
  intro top S ht hu
  rw [List.length_append, List.length_cons] at ht
  obtain ⟨S1, a1, a2, a3⟩ := h1 (top + 1) S (by omega)
  have hu1 : S1 top = u := by rw [a3 top (by omega)]; exact hu
  obtain ⟨S2, b1, b2, b3⟩ := h2 top (xfu S1 top (cJoin x u o)) (by omega) (xfu_self _ _ _)
  refine ⟨S2, ?_, b2, fun i hi => ?_⟩
  · rw [eXs_app, a1, eXs_c, eX_join q hx, hu1, a2, b1]
  · rw [b3 i hi, xfu_ne _ _ (by omega), a3 i (by omega)]
theorem okL_0 (q : Nat → Int) (u : Int) : okL q [] u u := fun top S _ hu => ⟨S, rfl, hu, fun _ _ => rfl⟩
theorem okX_n {q : Nat → Int} {l : List Int} {v : Int} (h : okX q l v) (hl : 1 ≤ l.length) : okX q (l ++ [2000]) (xw (-v)) := by
  intro top S ht
  rw [List.length_append, List.length_singleton] at ht
  obtain ⟨S1, a1, a2, a3⟩ := h top S (by omega)
  refine ⟨xfu S1 top (xw (-v)), ?_, xfu_self _ _ _, fun i hi => by rw [xfu_ne _ _ (by omega), a3 i hi]⟩
  rw [eXs_app, a1, eXs_1]
  unfold eX
  dsimp only
  rw [if_pos (by omega), Nat.add_sub_cancel, a2]
theorem okX_v {q : Nat → Int} {v : Int} (h : 0 ≤ v ∧ v < 1000) : okX q [v] v := by
  intro top S ht
  rw [List.length_singleton] at ht
  refine ⟨xfu S top v, ?_, xfu_self _ _ _, fun i hi => xfu_ne _ _ (by omega)⟩
  rw [eXs_1]
  unfold eX
  dsimp only
  rw [if_neg (by omega), if_neg (by omega), if_pos (by omega), if_neg (by rw [xw_id (by omega) (by omega)]; omega)]
theorem okX_l {q : Nat → Int} {k : Int} (h : 0 ≤ k ∧ k < 7) : okX q [1000 + k] (q k.toNat) := by
  intro top S ht
  rw [List.length_singleton] at ht
  refine ⟨xfu S top (q k.toNat), ?_, xfu_self _ _ _, fun i hi => xfu_ne _ _ (by omega)⟩
  have e : xw (1000 + k - 1000) = k := by rw [xw_id (by omega) (by omega)]; omega
  rw [eXs_1]
  unfold eX
  dsimp only
  rw [if_neg (by omega), if_neg (by omega), if_pos (by omega), e, if_pos h]
