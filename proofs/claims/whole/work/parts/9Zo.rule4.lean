/-! ===== the rule's steps, reckoned ===== -/
/-- digits are what they show -/
def rDg (r : xR) : Prop := ∀ a : Int, 0 ≤ a → 48 ≤ rHere r a → rHere r a ≤ 57 → rSrc r a.toNat = rHere r a
section VRN
variable {r : xR}
theorem tDg_in (hd : rDg r) {a : Int} (ha : 0 ≤ a) (h : 48 ≤ rHere r a ∧ rHere r a ≤ 57) : tDigit r a (-1) 0 9 = (rHere r a - 48, a + 1, -1) := by
  rw [tDigit_ok (by omega), hd a ha h.1 h.2, xw_id (by omega) (by omega)]
theorem tNum3 (hd : rDg r) {a : Int} (ha : 0 ≤ a) (h : 48 ≤ rHere r a ∧ rHere r a ≤ 57) : tNum r a (-1) 3 =
    if 48 ≤ rHere r (a + 1) ∧ rHere r (a + 1) ≤ 57 then
      (if 48 ≤ rHere r (a + 2) ∧ rHere r (a + 2) ≤ 57 then (10 * (10 * (rHere r a - 48) + (rHere r (a + 1) - 48)) + (rHere r (a + 2) - 48), a + 3, -1)
       else (10 * (rHere r a - 48) + (rHere r (a + 1) - 48), a + 2, -1))
    else (rHere r a - 48, a + 1, -1) := by
  unfold tNum
  rw [tDg_in hd ha h]
  show tNumL r 2 (rHere r a - 48) (a + 1) (-1) = _
  by_cases d1 : 48 ≤ rHere r (a + 1) ∧ rHere r (a + 1) ≤ 57
  · rw [if_pos d1]
    unfold tNumL
    rw [if_pos ⟨rfl, d1⟩, tDg_in hd (by omega) d1]
    dsimp only
    rw [xw_id (n := 10 * (rHere r a - 48)) (by omega) (by omega), xw_id (by omega) (by omega), show a + 1 + 1 = a + 2 by omega]
    by_cases d2 : 48 ≤ rHere r (a + 2) ∧ rHere r (a + 2) ≤ 57
    · rw [if_pos d2]
      unfold tNumL
      rw [if_pos ⟨rfl, d2⟩, tDg_in hd (by omega) d2]
      dsimp only
      rw [xw_id (n := 10 * (10 * (rHere r a - 48) + (rHere r (a + 1) - 48))) (by omega) (by omega), xw_id (by omega) (by omega), show a + 2 + 1 = a + 3 by omega]
      unfold tNumL
      rfl
    · rw [if_neg d2]
      unfold tNumL
      rw [if_neg (fun z => d2 z.2)]
  · rw [if_neg d1]
    unfold tNumL
    rw [if_neg (fun z => d1 z.2)]
theorem tNum3_in (hd : rDg r) {a : Int} (ha : 0 ≤ a) (h : 48 ≤ rHere r a ∧ rHere r a ≤ 57) : (0 ≤ (tNum r a (-1) 3).1 ∧ (tNum r a (-1) 3).1 < 1000) ∧ (a + 1 ≤ (tNum r a (-1) 3).2.1 ∧ (tNum r a (-1) 3).2.1 ≤ a + 3) ∧ (tNum r a (-1) 3).2.2 = -1 := by
  rw [tNum3 hd ha h]
  split
  · split
    · dsimp only; omega
    · dsimp only; omega
  · dsimp only; omega
/-- the steps of a piece: they leave its value; they are no more than its signs -/
def rX (r : xR) (f tag : Nat) (dp a : Int) : Prop := (vR r f tag dp 0 a (-1)).2.2 = -1 → okX (r.2 9) (cR r f tag dp a (-1)).1 (vR r f tag dp 0 a (-1)).1 ∧ 1 ≤ (cR r f tag dp a (-1)).1.length ∧ ((cR r f tag dp a (-1)).1.length : Int) ≤ (vR r f tag dp 0 a (-1)).2.1 - a
def rL (r : xR) (f tag : Nat) (dp u a : Int) : Prop := (vR r f tag dp u a (-1)).2.2 = -1 → okL (r.2 9) (cR r f tag dp a (-1)).1 u (vR r f tag dp u a (-1)).1 ∧ ((cR r f tag dp a (-1)).1.length : Int) ≤ (vR r f tag dp u a (-1)).2.1 - a
theorem vR_w {f tag : Nat} {dp v a w : Int} (e : (vR r f tag dp v a w).2.2 = -1) : w = -1 := by
  refine Classical.byContradiction fun d => ?_
  rw [vR_stop r f tag dp v a w d] at e
  exact d e
theorem r_runT (hs : rSane r) (hd : rDg r) (h21 : ¬ r.1 21 = 0) {f : Nat} (i0 : ∀ dp a : Int, 0 ≤ a → a ≤ 100 → 8 * uRem a (-1) < f → rX r f 0 dp a) (i5 : ∀ dp a : Int, 0 ≤ a → a ≤ 100 → 8 * uRem a (-1) + 5 < f → rX r f 5 dp a) : ∀ dp a : Int, 0 ≤ a → a ≤ 100 → 8 * uRem a (-1) < f + 1 → rX r (f + 1) 0 dp a := by
  intro dp a ha0 ha1 hm
  unfold rX
  by_cases c1 : rHere r a = 45
  · have hl := rHere_le hs c1 (by omega)
    have e := uRem_1 ha1
    have e1 : vR r (f + 1) 0 dp 0 a (-1) = (xw (-(vR r f 0 dp 0 (a + 1) (-1)).1), (vR r f 0 dp 0 (a + 1) (-1)).2) := by rw [vR, if_pos rfl, if_pos c1]
    have e2 : cR r (f + 1) 0 dp a (-1) = ((cR r f 0 dp (a + 1) (-1)).1 ++ [2000], (cR r f 0 dp (a + 1) (-1)).2) := by rw [cR, if_pos rfl, if_pos c1]
    rw [e1, e2]
    dsimp only
    intro hw
    obtain ⟨k1, k2, k3⟩ := i0 dp (a + 1) (by omega) (by omega) (by omega) hw
    refine ⟨okX_n k1 k2, by rw [List.length_append, List.length_singleton]; omega, ?_⟩
    rw [List.length_append, List.length_singleton]
    omega
  · by_cases c2 : rHere r a = 40 ∧ dp < 4
    · have hl := rHere_le hs c2.1 (by omega)
      have e := uRem_1 ha1
      have e1 : vR r (f + 1) 0 dp 0 a (-1) = ((vR r f 5 (dp + 1) 0 (a + 1) (-1)).1, tNeed r 41 (vR r f 5 (dp + 1) 0 (a + 1) (-1)).2.1 (vR r f 5 (dp + 1) 0 (a + 1) (-1)).2.2) := by rw [vR, if_pos rfl, if_neg c1, if_pos c2]
      have e2 : cR r (f + 1) 0 dp a (-1) = ((cR r f 5 (dp + 1) (a + 1) (-1)).1, tNeed r 41 (cR r f 5 (dp + 1) (a + 1) (-1)).2.1 (cR r f 5 (dp + 1) (a + 1) (-1)).2.2) := by rw [cR, if_pos rfl, if_neg c1, if_pos c2]
      rw [e1, e2]
      dsimp only
      intro hw
      have hn := tNeed_at (r := r) (k := 41) (a := (vR r f 5 (dp + 1) 0 (a + 1) (-1)).2.1) (w := (vR r f 5 (dp + 1) 0 (a + 1) (-1)).2.2)
      obtain ⟨k1, k2, k3⟩ := i5 (dp + 1) (a + 1) (by omega) (by omega) (by omega) (tNeed_w hw)
      exact ⟨k1, k2, by omega⟩
    · by_cases c3 : 48 ≤ rHere r a ∧ rHere r a ≤ 57
      · have e1 : vR r (f + 1) 0 dp 0 a (-1) = tNum r a (-1) 3 := by rw [vR, if_pos rfl, if_neg c1, if_neg c2, if_pos c3]
        have e2 : cR r (f + 1) 0 dp a (-1) = ([(tNum r a (-1) 3).1], (tNum r a (-1) 3).2) := by rw [cR, if_pos rfl, if_neg c1, if_neg c2, if_pos c3]
        rw [e1, e2]
        intro hw
        obtain ⟨k1, k2, k3⟩ := tNum3_in hd ha0 c3
        refine ⟨okX_v k1, Nat.le_refl _, ?_⟩
        show (1 : Int) ≤ _
        omega
      · by_cases c4 : lOf (rHere r a) = -1
        · have e1 : vR r (f + 1) 0 dp 0 a (-1) = (0, a, a) := by rw [vR, if_pos rfl, if_neg c1, if_neg c2, if_neg c3, if_pos c4]
          rw [e1]
          intro hw
          dsimp only at hw
          omega
        · have e1 : vR r (f + 1) 0 dp 0 a (-1) = (r.2 9 (lOf (rHere r a)).toNat, a + 1, -1) := by rw [vR, if_pos rfl, if_neg c1, if_neg c2, if_neg c3, if_neg c4, if_neg h21]
          have e2 : cR r (f + 1) 0 dp a (-1) = ([1000 + lOf (rHere r a)], a + 1, -1) := by rw [cR, if_pos rfl, if_neg c1, if_neg c2, if_neg c3, if_neg c4]
          rw [e1, e2]
          intro hw
          refine ⟨okX_l (lOf_in c4), Nat.le_refl _, ?_⟩
          show (1 : Int) ≤ _
          dsimp only
          omega
/-- product, sum: a piece and then its loop -/
theorem r_run1 {f t0 t1 t2 : Nat} {dp a : Int} (e1 : vR r (f + 1) t2 dp 0 a (-1) = vR r f t1 dp (vR r f t0 dp 0 a (-1)).1 (vR r f t0 dp 0 a (-1)).2.1 (vR r f t0 dp 0 a (-1)).2.2)
    (e2 : cR r (f + 1) t2 dp a (-1) = ((cR r f t0 dp a (-1)).1 ++ (cR r f t1 dp (cR r f t0 dp a (-1)).2.1 (cR r f t0 dp a (-1)).2.2).1, (cR r f t1 dp (cR r f t0 dp a (-1)).2.1 (cR r f t0 dp a (-1)).2.2).2))
    (i0 : rX r f t0 dp a) (i1 : (vR r f t0 dp 0 a (-1)).2.2 = -1 → rL r f t1 dp (vR r f t0 dp 0 a (-1)).1 (vR r f t0 dp 0 a (-1)).2.1) : rX r (f + 1) t2 dp a := by
  unfold rX
  rw [e1, e2, cR_v r f t0 dp 0 a (-1)]
  dsimp only
  intro hw
  have w0 := vR_w hw
  obtain ⟨k1, k2, k3⟩ := i0 w0
  have i2 := i1 w0
  unfold rL at i2
  rw [w0] at hw ⊢
  obtain ⟨m1, m2⟩ := i2 hw
  refine ⟨okX_L k1 m1 k2, by rw [List.length_append]; omega, ?_⟩
  rw [List.length_append]
  omega
theorem r_runL {f t0 t1 : Nat} {dp u x a : Int} {j : Int} (hx : 0 < x ∧ x < 1000) (hj : j = cJoin x u (vR r f t0 dp 0 (a + 1) (-1)).1) (e1 : vR r (f + 1) t1 dp u a (-1) = vR r f t1 dp j (vR r f t0 dp 0 (a + 1) (-1)).2.1 (vR r f t0 dp 0 (a + 1) (-1)).2.2)
    (e2 : cR r (f + 1) t1 dp a (-1) = ((cR r f t0 dp (a + 1) (-1)).1 ++ -x :: (cR r f t1 dp (cR r f t0 dp (a + 1) (-1)).2.1 (cR r f t0 dp (a + 1) (-1)).2.2).1, (cR r f t1 dp (cR r f t0 dp (a + 1) (-1)).2.1 (cR r f t0 dp (a + 1) (-1)).2.2).2))
    (i0 : rX r f t0 dp (a + 1)) (i1 : (vR r f t0 dp 0 (a + 1) (-1)).2.2 = -1 → rL r f t1 dp j (vR r f t0 dp 0 (a + 1) (-1)).2.1) : rL r (f + 1) t1 dp u a := by
  unfold rL
  rw [e1, e2, cR_v r f t0 dp 0 (a + 1) (-1)]
  dsimp only
  intro hw
  have w0 := vR_w hw
  obtain ⟨k1, k2, k3⟩ := i0 w0
  have i2 := i1 w0
  unfold rL at i2
  rw [w0] at hw ⊢
  obtain ⟨m1, m2⟩ := i2 hw
  rw [hj] at m1 m2 ⊢
  refine ⟨okL_op hx k1 m1 k2, ?_⟩
  rw [List.length_append, List.length_cons]
  omega
theorem r_run5 (hs : rSane r) {f : Nat} {dp a : Int} (ha0 : 0 ≤ a) (ha1 : a ≤ 100) (hm : 8 * uRem a (-1) + 4 < f) (i3 : ∀ dp a : Int, 0 ≤ a → a ≤ 100 → 8 * uRem a (-1) + 4 < f → rX r f 3 dp a) : rX r (f + 1) 5 dp a := by
  have h3 := i3 dp a ha0 ha1 hm
  have hat := vR_at hs f 3 dp 0 a (-1) ha0 ha1
  have hrm := uRem_vR hs f 3 dp 0 (w := -1) ha0 ha1
  have ev := cR_v r f 3 dp 0 a (-1)
  unfold rX at h3 ⊢
  rw [cR, ev]
  rw [vR]
  generalize ht : vR r f 3 dp 0 a (-1) = t at *
  by_cases d : t.2.2 = -1
  · rw [d] at hrm ⊢
    by_cases dx : rHere r t.2.1 = 60 ∨ rHere r t.2.1 = 62 ∨ rHere r t.2.1 = 61
    · have hl : t.2.1 < 80 := by rcases dx with c | c | c <;> exact rHere_le hs c (by omega)
      have e := uRem_1 (a := t.2.1) (by omega)
      have h4 := i3 dp (t.2.1 + 1) (by omega) (by omega) (by omega)
      unfold rX at h4
      have ev4 := cR_v r f 3 dp 0 (t.2.1 + 1) (-1)
      have e9 : (if (-1 : Int) = -1 ∧ rHere r t.2.1 = 60 then ((if t.1 < (vR r f 3 dp 0 (t.2.1 + 1) (-1)).1 then (1 : Int) else 0), (vR r f 3 dp 0 (t.2.1 + 1) (-1)).2) else if (-1 : Int) = -1 ∧ rHere r t.2.1 = 62 then ((if (vR r f 3 dp 0 (t.2.1 + 1) (-1)).1 < t.1 then (1 : Int) else 0), (vR r f 3 dp 0 (t.2.1 + 1) (-1)).2) else if (-1 : Int) = -1 ∧ rHere r t.2.1 = 61 then ((if t.1 = (vR r f 3 dp 0 (t.2.1 + 1) (-1)).1 then (1 : Int) else 0), (vR r f 3 dp 0 (t.2.1 + 1) (-1)).2) else t) = (cJoin (rHere r t.2.1) t.1 (vR r f 3 dp 0 (t.2.1 + 1) (-1)).1, (vR r f 3 dp 0 (t.2.1 + 1) (-1)).2) := by
        unfold cJoin
        rcases dx with c | c | c
        · rw [c]
          simp only [Int.reduceEq, if_false, if_true, true_and]
        · rw [c]
          simp only [Int.reduceEq, if_false, if_true, true_and]
        · rw [c]
          simp only [Int.reduceEq, if_false, if_true, true_and]
      rw [e9, if_pos ⟨rfl, dx⟩]
      dsimp only
      generalize vR r f 3 dp 0 (t.2.1 + 1) (-1) = o at *
      generalize (cR r f 3 dp (t.2.1 + 1) (-1)).1 = lo at *
      intro hw
      obtain ⟨k1, k2, k3⟩ := h3 d
      obtain ⟨m1, m2, m3⟩ := h4 hw
      refine ⟨okX_L k1 (okL_op (by omega) m1 (okL_0 _ _) m2) k2, by rw [List.length_append]; omega, ?_⟩
      rw [List.length_append, List.length_append, List.length_singleton]
      omega
    · rw [if_neg (fun z => dx (Or.inl z.2)), if_neg (fun z => dx (Or.inr (Or.inl z.2))), if_neg (fun z => dx (Or.inr (Or.inr z.2))), if_neg (fun z => dx z.2)]
      exact h3
  · rw [if_neg (fun z => d z.1), if_neg (fun z => d z.1), if_neg (fun z => d z.1), if_neg (fun z => d z.1)]
    exact h3
theorem r_run (hs : rSane r) (hd : rDg r) (h21 : ¬ r.1 21 = 0) : ∀ f : Nat, (∀ dp a : Int, 0 ≤ a → a ≤ 100 → 8 * uRem a (-1) < f → rX r f 0 dp a) ∧ (∀ dp u a : Int, 0 ≤ a → a ≤ 100 → 8 * uRem a (-1) + 1 < f → rL r f 2 dp u a) ∧ (∀ dp a : Int, 0 ≤ a → a ≤ 100 → 8 * uRem a (-1) + 2 < f → rX r f 1 dp a) ∧ (∀ dp u a : Int, 0 ≤ a → a ≤ 100 → 8 * uRem a (-1) + 3 < f → rL r f 4 dp u a) ∧ (∀ dp a : Int, 0 ≤ a → a ≤ 100 → 8 * uRem a (-1) + 4 < f → rX r f 3 dp a) ∧ (∀ dp a : Int, 0 ≤ a → a ≤ 100 → 8 * uRem a (-1) + 5 < f → rX r f 5 dp a)
  | 0 => ⟨fun _ _ _ _ h => absurd h (by omega), fun _ _ _ _ _ h => absurd h (by omega), fun _ _ _ _ h => absurd h (by omega), fun _ _ _ _ _ h => absurd h (by omega), fun _ _ _ _ h => absurd h (by omega), fun _ _ _ _ h => absurd h (by omega)⟩
  | f + 1 => by
    obtain ⟨i0, i2, i1, i4, i3, i5⟩ := r_run hs hd h21 f
    have hrem : ∀ (t : Nat) (dp v a : Int), 0 ≤ a → a ≤ 100 → (vR r f t dp v a (-1)).2.2 = -1 → 0 ≤ (vR r f t dp v a (-1)).2.1 ∧ (vR r f t dp v a (-1)).2.1 ≤ 100 ∧ uRem (vR r f t dp v a (-1)).2.1 (-1) ≤ uRem a (-1) := by
      intro t dp v a h0 h1 hw
      have h2 := vR_at hs f t dp v a (-1) h0 h1
      have h3 := uRem_vR hs f t dp v (w := -1) h0 h1
      rw [hw] at h3
      exact ⟨by omega, h2.2, h3⟩
    refine ⟨r_runT hs hd h21 i0 i5, ?_, ?_, ?_, ?_, ?_⟩
    · intro dp u a ha0 ha1 hm
      by_cases c : rHere r a = 42 ∨ rHere r a = 47
      · have hl : a < 80 := by rcases c with c | c <;> exact rHere_le hs c (by omega)
        have e := uRem_1 ha1
        refine r_runL (x := rHere r a) (t0 := 0) (j := if rHere r a = 42 then xw (u * (vR r f 0 dp 0 (a + 1) (-1)).1) else if (vR r f 0 dp 0 (a + 1) (-1)).1 = 0 then 0 else xw (u.tdiv (vR r f 0 dp 0 (a + 1) (-1)).1)) (by omega) ?_ ?_ ?_ (i0 dp (a + 1) (by omega) (by omega) (by omega)) (fun hw => ?_)
        · unfold cJoin
          rcases c with c | c
          · rw [c, if_pos rfl, if_pos rfl]
          · rw [c]
            simp only [Int.reduceEq, if_false]
        · rw [vR, if_pos ⟨rfl, c⟩]
        · rw [cR, if_pos ⟨rfl, c⟩]
        · have := hrem 0 dp 0 (a + 1) (by omega) (by omega) hw
          exact i2 dp _ _ this.1 this.2.1 (by omega)
      · intro hw
        rw [vR, if_neg (fun z => c z.2)] at hw ⊢
        rw [cR, if_neg (fun z => c z.2)]
        refine ⟨okL_0 _ _, ?_⟩
        show (0 : Int) ≤ a - a
        omega
    · intro dp a ha0 ha1 hm
      exact r_run1 (t0 := 0) (t1 := 2) (by rw [vR]) (by rw [cR]) (i0 dp a ha0 ha1 (by omega)) (fun hw => by
        have := hrem 0 dp 0 a ha0 ha1 hw
        exact i2 dp _ _ this.1 this.2.1 (by omega))
    · intro dp u a ha0 ha1 hm
      by_cases c : rHere r a = 43 ∨ rHere r a = 45
      · have hl : a < 80 := by rcases c with c | c <;> exact rHere_le hs c (by omega)
        have e := uRem_1 ha1
        refine r_runL (x := rHere r a) (t0 := 1) (j := if rHere r a = 43 then xw (u + (vR r f 1 dp 0 (a + 1) (-1)).1) else xw (u - (vR r f 1 dp 0 (a + 1) (-1)).1)) (by omega) ?_ ?_ ?_ (i1 dp (a + 1) (by omega) (by omega) (by omega)) (fun hw => ?_)
        · unfold cJoin
          rcases c with c | c
          · rw [c]
            simp only [Int.reduceEq, if_false, if_true]
          · rw [c]
            simp only [Int.reduceEq, if_false, if_true]
        · rw [vR, if_pos ⟨rfl, c⟩]
        · rw [cR, if_pos ⟨rfl, c⟩]
        · have := hrem 1 dp 0 (a + 1) (by omega) (by omega) hw
          exact i4 dp _ _ this.1 this.2.1 (by omega)
      · intro hw
        rw [vR, if_neg (fun z => c z.2)] at hw ⊢
        rw [cR, if_neg (fun z => c z.2)]
        refine ⟨okL_0 _ _, ?_⟩
        show (0 : Int) ≤ a - a
        omega
    · intro dp a ha0 ha1 hm
      exact r_run1 (t0 := 1) (t1 := 4) (by rw [vR]) (by rw [cR]) (i1 dp a ha0 ha1 (by omega)) (fun hw => by
        have := hrem 1 dp 0 a ha0 ha1 hw
        exact i4 dp _ _ this.1 this.2.1 (by omega))
    · intro dp a ha0 ha1 hm
      exact r_run5 hs ha0 ha1 (by omega) i3
end VRN
