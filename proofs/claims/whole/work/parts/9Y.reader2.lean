/-! ===== the class's reader: cells, letters; places are alike where there is no fault ===== -/
/-- the class's place and fault, the reference's place and fault -/
def RS (a b a' w' : Int) : Prop := b = w' ∧ (w' = -1 → a = a') ∧ 0 ≤ a ∧ 0 ≤ a'
theorem RS_0 {a b : Int} (ha : 0 ≤ a) : RS a b a b := ⟨rfl, fun _ => rfl, ha, ha⟩
theorem tDigit_bad {r : xR} {a w lo hi : Int} (hw : w ≠ -1) : tDigit r a w lo hi = (0, a, w) := by
  unfold tDigit
  rw [if_neg hw]
theorem tNum_bad {r : xR} {a w : Int} {m : Nat} (hw : w ≠ -1) : tNum r a w m = (0, a, w) := by
  unfold tNum
  rw [tDigit_bad hw]
  generalize m - 1 = k
  cases k with
  | zero => rfl
  | succ k =>
    show (if w = -1 ∧ _ then _ else _) = _
    rw [if_neg (fun z => hw z.1)]
theorem tCell_bad {r : xR} {a w : Int} (hw : w ≠ -1) : tCell r a w = (0, a, w) := by
  unfold tCell
  rw [tNum_bad hw]
  dsimp only
  rw [if_neg (fun z => hw z.1)]
theorem tLetter_bad {r : xR} {a w m : Int} (hw : w ≠ -1) : tLetter r a w m = (0, a, w) := by
  unfold tLetter
  rw [if_neg hw]
theorem tDigit_ok {r : xR} {a lo hi : Int} (hd : 48 + lo ≤ rHere r a ∧ rHere r a ≤ 48 + hi) : tDigit r a (-1) lo hi = (xw (rSrc r a.toNat - 48), a + 1, -1) := by
  unfold tDigit
  rw [if_pos rfl, if_pos hd]
theorem tDigit_no {r : xR} {a lo hi : Int} (hd : ¬ (48 + lo ≤ rHere r a ∧ rHere r a ≤ 48 + hi)) : tDigit r a (-1) lo hi = (0, a, a) := by
  unfold tDigit
  rw [if_pos rfl, if_neg hd]
section CR2
variable {n : Nat} {h : xH} {c : xQ} {r : xR} {H : xH} {T m : Nat} {a b a' w' : Int}
theorem TX_src (hx : TX r c T m) (ha : 0 ≤ a) (z1 : 0 ≤ rHere r a) (z2 : rHere r a < 128) : rSrc r a.toNat = rHere r a := by
  have z3 := rHere_in (r := r) (a := a) rfl z1
  have hb := (hx.2.2.2.2.2.2.2 a.toNat (by rw [hx.2.2.2.1] at z3; omega)).1
  have e : rHere r a = xand (rSrc r a.toNat) 255 := by
    unfold rHere
    rw [if_pos z3]
  have e2 : rSrc r a.toNat = r.2 4 a.toNat := by
    unfold rSrc
    rw [if_pos hx.2.2.1]
  rw [e, xand_255] at z1 z2 ⊢
  rw [e2] at z1 z2 ⊢
  omega
/-- a cell's number from a place without a fault -/
theorem tCell_1 (hx : TX r c T m) (ha : 0 ≤ a) : tCell r a (-1) =
    if 48 ≤ rHere r a ∧ rHere r a ≤ 57 then
      (if 48 ≤ rHere r (a + 1) ∧ rHere r (a + 1) ≤ 57 then (10 * (rHere r a - 48) + (rHere r (a + 1) - 48), a + 2, if 15 < 10 * (rHere r a - 48) + (rHere r (a + 1) - 48) then a + 1 else -1) else (rHere r a - 48, a + 1, -1))
    else (0, a, a) := by
  have s1 := TX_src hx ha
  have s2 := TX_src (a := a + 1) hx (by omega)
  unfold tCell tNum
  by_cases d1 : 48 ≤ rHere r a ∧ rHere r a ≤ 57
  · rw [if_pos d1, tDigit_ok (lo := 0) (hi := 9) (by omega), s1 (by omega) (by omega)]
    have x1 : xw (rHere r a - 48) = rHere r a - 48 := xw_id (by omega) (by omega)
    rw [x1]
    have e1 : ∀ v, tNumL r (2 - 1) v (a + 1) (-1) = if (-1 : Int) = -1 ∧ 48 ≤ rHere r (a + 1) ∧ rHere r (a + 1) ≤ 57 then (xw (xw (10 * v) + (tDigit r (a + 1) (-1) 0 9).1), (tDigit r (a + 1) (-1) 0 9).2.1, (tDigit r (a + 1) (-1) 0 9).2.2) else (v, a + 1, -1) := fun v => rfl
    dsimp only
    rw [e1]
    by_cases d2 : 48 ≤ rHere r (a + 1) ∧ rHere r (a + 1) ≤ 57
    · rw [if_pos ⟨rfl, d2⟩, if_pos d2, tDigit_ok (lo := 0) (hi := 9) (by omega), s2 (by omega) (by omega)]
      have x2 : xw (rHere r (a + 1) - 48) = rHere r (a + 1) - 48 := xw_id (by omega) (by omega)
      have x3 : xw (10 * (rHere r a - 48)) = 10 * (rHere r a - 48) := xw_id (by omega) (by omega)
      have x4 : xw (10 * (rHere r a - 48) + (rHere r (a + 1) - 48)) = 10 * (rHere r a - 48) + (rHere r (a + 1) - 48) := xw_id (by omega) (by omega)
      dsimp only
      rw [x2, x3, x4]
      have x5 : a + 1 + 1 = a + 2 := by omega
      have x6 : a + 2 - 1 = a + 1 := by omega
      rw [x5, x6]
      by_cases d3 : 15 < 10 * (rHere r a - 48) + (rHere r (a + 1) - 48)
      · rw [if_pos ⟨rfl, d3⟩, if_pos d3]
      · rw [if_neg (fun z => d3 z.2), if_neg d3]
    · rw [if_neg (fun z => d2 z.2), if_neg d2]
      dsimp only
      rw [if_neg (by omega)]
  · rw [if_neg d1, tDigit_no (lo := 0) (hi := 9) (by omega)]
    have e1 : ∀ v, tNumL r (2 - 1) v a a = if a = -1 ∧ 48 ≤ rHere r a ∧ rHere r a ≤ 57 then (xw (xw (10 * v) + (tDigit r a a 0 9).1), (tDigit r a a 0 9).2.1, (tDigit r a a 0 9).2.2) else (v, a, a) := fun v => rfl
    dsimp only
    rw [e1, if_neg (by omega)]
    dsimp only
    rw [if_neg (by omega)]
theorem k_digit (hx : TX r c T m) (hr : RS a b a' w') (ha2 : a < 900) {lo hi : Int} (h0 : 0 ≤ lo) (h9 : hi ≤ 9) (h1 : 0 ≤ hi) (h2 : lo ≤ 9) : ∃ v a1 : Int, (gg (n + 3) 91).2 [.inr (.inr (.inl (0, 1))), .inl lo, .inl hi] (hC h (cRd c a b)) = some (some (.inl v), hC h (cRd c a1 (tDigit r a' w' lo hi).2.2)) ∧ RS a1 (tDigit r a' w' lo hi).2.2 (tDigit r a' w' lo hi).2.1 (tDigit r a' w' lo hi).2.2 ∧ ((tDigit r a' w' lo hi).2.2 = -1 → v = (tDigit r a' w' lo hi).1) ∧ a1 ≤ a + 1 := by
  obtain ⟨q1, q2, q3, q4⟩ := hr
  subst q1
  obtain ⟨v, f1, f2⟩ := c_digit (n := n) (h := h) (b := b) hx q3 (by omega) h0 h9 h1 h2
  by_cases d : b = -1
  · have q5 := q2 d
    subst q5
    have q6 := tDigit_at (r := r) (a := a) (w := b) (lo := lo) (hi := hi)
    exact ⟨v, _, f1, ⟨rfl, fun _ => rfl, by omega, by omega⟩, f2, by omega⟩
  · rw [tDigit_bad d] at f1 f2 ⊢
    exact ⟨v, a, f1, ⟨rfl, fun z => absurd z d, q3, q4⟩, fun z => absurd z d, by omega⟩
theorem k_coord (hx : TX r c T m) (hr : RS a b a' w') (ha2 : a < 900) : ∃ v a1 : Int, (gg (n + 4) 92).2 [.inr (.inr (.inl (0, 1)))] (hC h (cRd c a b)) = some (some (.inl v), hC h (cRd c a1 (tCell r a' w').2.2)) ∧ RS a1 (tCell r a' w').2.2 (tCell r a' w').2.1 (tCell r a' w').2.2 ∧ ((tCell r a' w').2.2 = -1 → v = (tCell r a' w').1) ∧ a1 ≤ a + 2 := by
  obtain ⟨q1, q2, q3, q4⟩ := hr
  subst q1
  rw [gr92]
  obtain ⟨v, f1, f2⟩ := c_digit (n := n) (h := h) (b := b) (lo := 0) (hi := 9) hx q3 (by omega) (by decide) (by decide) (by decide) (by decide)
  by_cases d : b = -1
  · have q5 := q2 d
    subst q5
    subst d
    rw [tCell_1 hx q3]
    have s1 := TX_src hx q3
    have y1 := TX_rng hx q3
    have y2 := TX_rng (a := a + 1) hx (by omega)
    by_cases d1 : 48 ≤ rHere r a ∧ rHere r a ≤ 57
    · rw [if_pos d1]
      rw [tDigit_ok (by omega), s1 (by omega) (by omega)] at f1 f2
      have x1 : xw (rHere r a - 48) = rHere r a - 48 := xw_id (by omega) (by omega)
      dsimp only at f1 f2
      rw [x1] at f2
      have f2 := f2 rfl
      subst f2
      have f3 := c_isDig (n := n + 1) (h := h) (b := -1) (a := a + 1) (lo := 0) (hi := 9) hx (by omega) (by decide) (by decide) (by decide) (by decide)
      have f4 := c_peek (n := n + 2) (h := h) (b := -1) (a := a + 1) hx (by omega)
      have f5 := c_refuse (n := n + 2) (h := h) (c := c) (a := a + 1) (b := -1)
      rw [if_pos rfl] at f4 f5
      by_cases d2 : 48 ≤ rHere r (a + 1) ∧ rHere r (a + 1) ≤ 57
      · rw [if_pos d2]
        rw [if_pos (by omega)] at f3
        have e4 : ∀ a b, (cRd c a b).1 4 = a := fun _ _ => rfl
        have x3 : xw (10 * (rHere r a - 48)) = 10 * (rHere r a - 48) := xw_id (by omega) (by omega)
        have x4 : xw (10 * (rHere r a - 48) + rHere r (a + 1)) = 10 * (rHere r a - 48) + rHere r (a + 1) := xw_id (by omega) (by omega)
        have x6 : xw (10 * (rHere r a - 48) + rHere r (a + 1) - 48) = 10 * (rHere r a - 48) + (rHere r (a + 1) - 48) := by rw [xw_id (by omega) (by omega)]; omega
        have x5 : xw (a + 1 + 1) = a + 2 := by rw [xw_id (by omega) (by omega)]; omega
        clear s1 y1 y2 d1 d2 x1
        generalize rHere r (a + 1) = u at *
        generalize rHere r a = t at *
        by_cases d3 : 15 < 10 * (t - 48) + (u - 48)
        · refine ⟨0, a + 1, ?_, ⟨rfl, ?_, ?_, ?_⟩, ?_, ?_⟩
          · rw [if_pos d3]
            have d4 : ¬ 10 * (t - 48) + (u - 48) < 16 := by omega
            clear hx q2 d3
            simp -implicitDefEqProofs (disch := first | with_reducible assumption | with_reducible exact isc_zs (by assumption) | with_reducible exact isc_zs (by decide) | with_reducible exact isc_zb (by assumption) (by assumption) | with_reducible exact isc_zb (by decide) (by assumption) | with_reducible exact isc_zg (by assumption) (by assumption) | with_reducible exact isc_zl (by assumption) (by assumption) | with_reducible exact isc_0 | with_reducible exact isc_1 | with_reducible exact isc_3 | with_reducible exact isc_7 | with_reducible exact isc_11 | with_reducible exact isc_15 | with_reducible exact isc_19 | with_reducible exact isc_24 | with_reducible exact isc_25 | (simp only [List.map_cons, List.map_nil, List.sum_cons, List.sum_nil, xcat, Nat.reduceAdd, Nat.reduceLeDiff, Nat.zero_le]; done) | omega) only [fX9_coordinate, k_p_sq, k_p_blk, k_sq0, k_sq11, k_sq12, k_sq13, k_sq14, k_sq15, k_sqr, k_sqi, k_blk0, k_blk1, k_blk2, k_blk3, k_blk4, k_blk5, k_blkr, k_blki, k_finr, k_fini, k_mapi, k_bindi, k_if1, k_if2, k_ops, k_br, k_rv, k_ri, k_rl, k_rz, k_rzi, k_01d, k_sw, k_01a, k_01b, k_01c, k_ifn, x_cmp, decide_eq_true_eq, Option.map_some, Option.bind_some, Option.toList_some, Option.toList_none, List.cons_append, List.nil_append, Nat.reduceAdd, true_or, or_true, Int.reduceNeg, Int.reduceEq, reduceIte, Nat.zero_le, Nat.reduceLeDiff, Nat.le_refl, Nat.reduceEqDiff, List.getElem?_cons_zero, List.getElem?_cons_succ, xst, List.set_cons_zero, List.set_cons_succ, List.map_cons, List.map_nil, List.sum_cons, List.sum_nil, xcat, Nat.reduceMul, Nat.reduceDiv, Nat.reduceMod, Nat.add_zero, e_nil, e_iconst, e_il, e_al, e_ll, e_istore, e_astore, e_lstore, e_ic, e_iadd, e_isub, e_imul, e_iand, e_ior, e_ixor, e_ishl, e_ishr, e_ineg, e_dupi, e_dupr, e_dupx, e_dup2, e_popi, eo_g0, eo_g1, eo_g2, eo_g3, eo_g4, eo_g5, eo_g6, eo_g7, eo_g8, eo_g9, eo_g10, eo_g11, eo_g12, eo_g13, eo_g14, eo_s14, eo_g15, eo_g16, eo_s16, et_g0, et_g1, et_s1, et_g2, et_s2, et_g3, et_s3, et_g4, et_s4, eu_g0, eu_g1, eu_s1, eu_g2, eu_g3, eu_s3, eu_g4, eh_g0, eh_g1, eh_s1, eh_g2, eh_s2, ed_g0, ed_g1, ed_g2, ed_g3, ed_s3, ew_g0, ew_g1, ew_g2, ew_g3, ew_s3, en_g0, en_g1, en_s1, en_g2, en_g3, en_g4, en_g5, en_s5, ex_g0, ex_s0, eq_g0, eq_s0, eq_g1, eq_s1, eq_g2, eq_s2, eq_g3, eq_s3, eq_g4, eq_s4, eq_g5, eq_s5, eq_g6, eq_s6, eq_g7, eq_s7, ez_g0, ez_g1, ez_g2, ez_g3, ez_s3, ez_g4, ez_s4, ez_g5, ez_s5, ez_g6, ez_s6, ez_g7, ez_s7, ez_g8, ez_s8, ez_g9, ez_s9, ez_g10, ez_s10, ez_g11, ez_s11, ez_g12, ez_s12, ez_g13, ez_s13, ez_g14, ez_g15, ez_b0g, ez_b0s, ez_b1g, ez_b1s, ez_b2g, ez_b2s, ez_b3g, ez_b3s, ez_b4g, ez_b4s, ez_b5g, ez_b5s, ez_ba, ez_g0g, ez_g0s, ez_g1g, ez_g1s, ez_g2g, ez_g2s, ez_g3g, ez_g3s, ez_g4g, ez_g4s, ez_g5g, ez_g5s, ez_g6g, ez_g6s, ez_g7g, ez_g7s, ez_ga, ez_l0g, ez_l0s, ez_l1g, ez_l1s, ez_l2g, ez_l2s, ez_la, q_zs, q_zz, q_z1, q_z2, q_i2, q_ig, q_iz, q_jz, true_and, false_and, or_self, or_true, true_or, or_false, false_or, and_true, and_false, and_self, not_true_eq_false, not_false_eq_true, ec91, f1, ec90, f3, ec83, f4, x3, x4, x6, d4, ec89, f5, Int.reduceEq]
          · rw [if_pos d3]; intro z; dsimp only at z; omega
          · omega
          · dsimp only; omega
          · rw [if_pos d3]; intro z; dsimp only at z; omega
          · omega
        · refine ⟨10 * (t - 48) + (u - 48), a + 2, ?_, ⟨rfl, ?_, ?_, ?_⟩, ?_, ?_⟩
          · rw [if_neg d3]
            have d4 : 10 * (t - 48) + (u - 48) < 16 := by omega
            clear hx q2 d3
            simp -implicitDefEqProofs (disch := first | with_reducible assumption | with_reducible exact isc_zs (by assumption) | with_reducible exact isc_zs (by decide) | with_reducible exact isc_zb (by assumption) (by assumption) | with_reducible exact isc_zb (by decide) (by assumption) | with_reducible exact isc_zg (by assumption) (by assumption) | with_reducible exact isc_zl (by assumption) (by assumption) | with_reducible exact isc_0 | with_reducible exact isc_1 | with_reducible exact isc_3 | with_reducible exact isc_7 | with_reducible exact isc_11 | with_reducible exact isc_15 | with_reducible exact isc_19 | with_reducible exact isc_24 | with_reducible exact isc_25 | (simp only [List.map_cons, List.map_nil, List.sum_cons, List.sum_nil, xcat, Nat.reduceAdd, Nat.reduceLeDiff, Nat.zero_le]; done) | omega) only [fX9_coordinate, k_p_sq, k_p_blk, k_sq0, k_sq11, k_sq12, k_sq13, k_sq14, k_sq15, k_sqr, k_sqi, k_blk0, k_blk1, k_blk2, k_blk3, k_blk4, k_blk5, k_blkr, k_blki, k_finr, k_fini, k_mapi, k_bindi, k_if1, k_if2, k_ops, k_br, k_rv, k_ri, k_rl, k_rz, k_rzi, k_01d, k_sw, k_01a, k_01b, k_01c, k_ifn, x_cmp, decide_eq_true_eq, Option.map_some, Option.bind_some, Option.toList_some, Option.toList_none, List.cons_append, List.nil_append, Nat.reduceAdd, true_or, or_true, Int.reduceNeg, Int.reduceEq, reduceIte, Nat.zero_le, Nat.reduceLeDiff, Nat.le_refl, Nat.reduceEqDiff, List.getElem?_cons_zero, List.getElem?_cons_succ, xst, List.set_cons_zero, List.set_cons_succ, List.map_cons, List.map_nil, List.sum_cons, List.sum_nil, xcat, Nat.reduceMul, Nat.reduceDiv, Nat.reduceMod, Nat.add_zero, e_nil, e_iconst, e_il, e_al, e_ll, e_istore, e_astore, e_lstore, e_ic, e_iadd, e_isub, e_imul, e_iand, e_ior, e_ixor, e_ishl, e_ishr, e_ineg, e_dupi, e_dupr, e_dupx, e_dup2, e_popi, eo_g0, eo_g1, eo_g2, eo_g3, eo_g4, eo_g5, eo_g6, eo_g7, eo_g8, eo_g9, eo_g10, eo_g11, eo_g12, eo_g13, eo_g14, eo_s14, eo_g15, eo_g16, eo_s16, et_g0, et_g1, et_s1, et_g2, et_s2, et_g3, et_s3, et_g4, et_s4, eu_g0, eu_g1, eu_s1, eu_g2, eu_g3, eu_s3, eu_g4, eh_g0, eh_g1, eh_s1, eh_g2, eh_s2, ed_g0, ed_g1, ed_g2, ed_g3, ed_s3, ew_g0, ew_g1, ew_g2, ew_g3, ew_s3, en_g0, en_g1, en_s1, en_g2, en_g3, en_g4, en_g5, en_s5, ex_g0, ex_s0, eq_g0, eq_s0, eq_g1, eq_s1, eq_g2, eq_s2, eq_g3, eq_s3, eq_g4, eq_s4, eq_g5, eq_s5, eq_g6, eq_s6, eq_g7, eq_s7, ez_g0, ez_g1, ez_g2, ez_g3, ez_s3, ez_g4, ez_s4, ez_g5, ez_s5, ez_g6, ez_s6, ez_g7, ez_s7, ez_g8, ez_s8, ez_g9, ez_s9, ez_g10, ez_s10, ez_g11, ez_s11, ez_g12, ez_s12, ez_g13, ez_s13, ez_g14, ez_g15, ez_b0g, ez_b0s, ez_b1g, ez_b1s, ez_b2g, ez_b2s, ez_b3g, ez_b3s, ez_b4g, ez_b4s, ez_b5g, ez_b5s, ez_ba, ez_g0g, ez_g0s, ez_g1g, ez_g1s, ez_g2g, ez_g2s, ez_g3g, ez_g3s, ez_g4g, ez_g4s, ez_g5g, ez_g5s, ez_g6g, ez_g6s, ez_g7g, ez_g7s, ez_ga, ez_l0g, ez_l0s, ez_l1g, ez_l1s, ez_l2g, ez_l2s, ez_la, q_zs, q_zz, q_z1, q_z2, q_i2, q_ig, q_iz, q_jz, true_and, false_and, or_self, or_true, true_or, or_false, false_or, and_true, and_false, and_self, not_true_eq_false, not_false_eq_true, ec91, f1, ec90, f3, ec83, f4, x3, x4, x6, d4, e4, x5, cRd_4, Int.reduceEq]
          · intro _; rfl
          · omega
          · dsimp only; omega
          · intro _; rfl
          · omega
      · rw [if_neg d2]
        rw [if_neg (by omega)] at f3
        refine ⟨rHere r a - 48, a + 1, ?_, ⟨rfl, fun _ => rfl, by omega, by dsimp only; omega⟩, fun _ => rfl, by omega⟩
        clear hx q2 s1 y1 y2 d1 d2
        simp -implicitDefEqProofs (disch := first | with_reducible assumption | with_reducible exact isc_zs (by assumption) | with_reducible exact isc_zs (by decide) | with_reducible exact isc_zb (by assumption) (by assumption) | with_reducible exact isc_zb (by decide) (by assumption) | with_reducible exact isc_zg (by assumption) (by assumption) | with_reducible exact isc_zl (by assumption) (by assumption) | with_reducible exact isc_0 | with_reducible exact isc_1 | with_reducible exact isc_3 | with_reducible exact isc_7 | with_reducible exact isc_11 | with_reducible exact isc_15 | with_reducible exact isc_19 | with_reducible exact isc_24 | with_reducible exact isc_25 | (simp only [List.map_cons, List.map_nil, List.sum_cons, List.sum_nil, xcat, Nat.reduceAdd, Nat.reduceLeDiff, Nat.zero_le]; done) | omega) only [fX9_coordinate, k_p_sq, k_p_blk, k_sq0, k_sq11, k_sq12, k_sq13, k_sq14, k_sq15, k_sqr, k_sqi, k_blk0, k_blk1, k_blk2, k_blk3, k_blk4, k_blk5, k_blkr, k_blki, k_finr, k_fini, k_mapi, k_bindi, k_if1, k_if2, k_ops, k_br, k_rv, k_ri, k_rl, k_rz, k_rzi, k_01d, k_sw, k_01a, k_01b, k_01c, k_ifn, x_cmp, decide_eq_true_eq, Option.map_some, Option.bind_some, Option.toList_some, Option.toList_none, List.cons_append, List.nil_append, Nat.reduceAdd, true_or, or_true, Int.reduceNeg, Int.reduceEq, reduceIte, Nat.zero_le, Nat.reduceLeDiff, Nat.le_refl, Nat.reduceEqDiff, List.getElem?_cons_zero, List.getElem?_cons_succ, xst, List.set_cons_zero, List.set_cons_succ, List.map_cons, List.map_nil, List.sum_cons, List.sum_nil, xcat, Nat.reduceMul, Nat.reduceDiv, Nat.reduceMod, Nat.add_zero, e_nil, e_iconst, e_il, e_al, e_ll, e_istore, e_astore, e_lstore, e_ic, e_iadd, e_isub, e_imul, e_iand, e_ior, e_ixor, e_ishl, e_ishr, e_ineg, e_dupi, e_dupr, e_dupx, e_dup2, e_popi, eo_g0, eo_g1, eo_g2, eo_g3, eo_g4, eo_g5, eo_g6, eo_g7, eo_g8, eo_g9, eo_g10, eo_g11, eo_g12, eo_g13, eo_g14, eo_s14, eo_g15, eo_g16, eo_s16, et_g0, et_g1, et_s1, et_g2, et_s2, et_g3, et_s3, et_g4, et_s4, eu_g0, eu_g1, eu_s1, eu_g2, eu_g3, eu_s3, eu_g4, eh_g0, eh_g1, eh_s1, eh_g2, eh_s2, ed_g0, ed_g1, ed_g2, ed_g3, ed_s3, ew_g0, ew_g1, ew_g2, ew_g3, ew_s3, en_g0, en_g1, en_s1, en_g2, en_g3, en_g4, en_g5, en_s5, ex_g0, ex_s0, eq_g0, eq_s0, eq_g1, eq_s1, eq_g2, eq_s2, eq_g3, eq_s3, eq_g4, eq_s4, eq_g5, eq_s5, eq_g6, eq_s6, eq_g7, eq_s7, ez_g0, ez_g1, ez_g2, ez_g3, ez_s3, ez_g4, ez_s4, ez_g5, ez_s5, ez_g6, ez_s6, ez_g7, ez_s7, ez_g8, ez_s8, ez_g9, ez_s9, ez_g10, ez_s10, ez_g11, ez_s11, ez_g12, ez_s12, ez_g13, ez_s13, ez_g14, ez_g15, ez_b0g, ez_b0s, ez_b1g, ez_b1s, ez_b2g, ez_b2s, ez_b3g, ez_b3s, ez_b4g, ez_b4s, ez_b5g, ez_b5s, ez_ba, ez_g0g, ez_g0s, ez_g1g, ez_g1s, ez_g2g, ez_g2s, ez_g3g, ez_g3s, ez_g4g, ez_g4s, ez_g5g, ez_g5s, ez_g6g, ez_g6s, ez_g7g, ez_g7s, ez_ga, ez_l0g, ez_l0s, ez_l1g, ez_l1s, ez_l2g, ez_l2s, ez_la, q_zs, q_zz, q_z1, q_z2, q_i2, q_ig, q_iz, q_jz, true_and, false_and, or_self, or_true, true_or, or_false, false_or, and_true, and_false, and_self, not_true_eq_false, not_false_eq_true, ec91, f1, ec90, f3]
    · rw [if_neg d1]
      rw [tDigit_no (by omega)] at f1 f2
      have f3 := c_isDig (n := n + 1) (h := h) (b := a) (a := a) (lo := 0) (hi := 9) hx q3 (by decide) (by decide) (by decide) (by decide)
      rw [if_neg (by omega)] at f3
      dsimp only at f1
      refine ⟨v, a, ?_, ⟨rfl, fun _ => rfl, q3, q3⟩, fun z => ?_, by omega⟩
      · clear hx q2 s1 y1 y2 d1 f2
        simp -implicitDefEqProofs (disch := first | with_reducible assumption | with_reducible exact isc_zs (by assumption) | with_reducible exact isc_zs (by decide) | with_reducible exact isc_zb (by assumption) (by assumption) | with_reducible exact isc_zb (by decide) (by assumption) | with_reducible exact isc_zg (by assumption) (by assumption) | with_reducible exact isc_zl (by assumption) (by assumption) | with_reducible exact isc_0 | with_reducible exact isc_1 | with_reducible exact isc_3 | with_reducible exact isc_7 | with_reducible exact isc_11 | with_reducible exact isc_15 | with_reducible exact isc_19 | with_reducible exact isc_24 | with_reducible exact isc_25 | (simp only [List.map_cons, List.map_nil, List.sum_cons, List.sum_nil, xcat, Nat.reduceAdd, Nat.reduceLeDiff, Nat.zero_le]; done) | omega) only [fX9_coordinate, k_p_sq, k_p_blk, k_sq0, k_sq11, k_sq12, k_sq13, k_sq14, k_sq15, k_sqr, k_sqi, k_blk0, k_blk1, k_blk2, k_blk3, k_blk4, k_blk5, k_blkr, k_blki, k_finr, k_fini, k_mapi, k_bindi, k_if1, k_if2, k_ops, k_br, k_rv, k_ri, k_rl, k_rz, k_rzi, k_01d, k_sw, k_01a, k_01b, k_01c, k_ifn, x_cmp, decide_eq_true_eq, Option.map_some, Option.bind_some, Option.toList_some, Option.toList_none, List.cons_append, List.nil_append, Nat.reduceAdd, true_or, or_true, Int.reduceNeg, Int.reduceEq, reduceIte, Nat.zero_le, Nat.reduceLeDiff, Nat.le_refl, Nat.reduceEqDiff, List.getElem?_cons_zero, List.getElem?_cons_succ, xst, List.set_cons_zero, List.set_cons_succ, List.map_cons, List.map_nil, List.sum_cons, List.sum_nil, xcat, Nat.reduceMul, Nat.reduceDiv, Nat.reduceMod, Nat.add_zero, e_nil, e_iconst, e_il, e_al, e_ll, e_istore, e_astore, e_lstore, e_ic, e_iadd, e_isub, e_imul, e_iand, e_ior, e_ixor, e_ishl, e_ishr, e_ineg, e_dupi, e_dupr, e_dupx, e_dup2, e_popi, eo_g0, eo_g1, eo_g2, eo_g3, eo_g4, eo_g5, eo_g6, eo_g7, eo_g8, eo_g9, eo_g10, eo_g11, eo_g12, eo_g13, eo_g14, eo_s14, eo_g15, eo_g16, eo_s16, et_g0, et_g1, et_s1, et_g2, et_s2, et_g3, et_s3, et_g4, et_s4, eu_g0, eu_g1, eu_s1, eu_g2, eu_g3, eu_s3, eu_g4, eh_g0, eh_g1, eh_s1, eh_g2, eh_s2, ed_g0, ed_g1, ed_g2, ed_g3, ed_s3, ew_g0, ew_g1, ew_g2, ew_g3, ew_s3, en_g0, en_g1, en_s1, en_g2, en_g3, en_g4, en_g5, en_s5, ex_g0, ex_s0, eq_g0, eq_s0, eq_g1, eq_s1, eq_g2, eq_s2, eq_g3, eq_s3, eq_g4, eq_s4, eq_g5, eq_s5, eq_g6, eq_s6, eq_g7, eq_s7, ez_g0, ez_g1, ez_g2, ez_g3, ez_s3, ez_g4, ez_s4, ez_g5, ez_s5, ez_g6, ez_s6, ez_g7, ez_s7, ez_g8, ez_s8, ez_g9, ez_s9, ez_g10, ez_s10, ez_g11, ez_s11, ez_g12, ez_s12, ez_g13, ez_s13, ez_g14, ez_g15, ez_b0g, ez_b0s, ez_b1g, ez_b1s, ez_b2g, ez_b2s, ez_b3g, ez_b3s, ez_b4g, ez_b4s, ez_b5g, ez_b5s, ez_ba, ez_g0g, ez_g0s, ez_g1g, ez_g1s, ez_g2g, ez_g2s, ez_g3g, ez_g3s, ez_g4g, ez_g4s, ez_g5g, ez_g5s, ez_g6g, ez_g6s, ez_g7g, ez_g7s, ez_ga, ez_l0g, ez_l0s, ez_l1g, ez_l1s, ez_l2g, ez_l2s, ez_la, q_zs, q_zz, q_z1, q_z2, q_i2, q_ig, q_iz, q_jz, true_and, false_and, or_self, or_true, true_or, or_false, false_or, and_true, and_false, and_self, not_true_eq_false, not_false_eq_true, ec91, f1, ec90, f3]
      · dsimp only at z
        omega
  · rw [tDigit_bad d] at f1 f2
    rw [tCell_bad d]
    have f3 := c_isDig (n := n + 1) (h := h) (b := b) (a := a) (lo := 0) (hi := 9) hx q3 (by decide) (by decide) (by decide) (by decide)
    rw [if_neg (fun z => d z.1)] at f3
    refine ⟨v, a, ?_, ⟨rfl, fun z => absurd z d, q3, q4⟩, fun z => absurd z d, by omega⟩
    clear hx q2 f2
    simp -implicitDefEqProofs (disch := first | with_reducible assumption | with_reducible exact isc_zs (by assumption) | with_reducible exact isc_zs (by decide) | with_reducible exact isc_zb (by assumption) (by assumption) | with_reducible exact isc_zb (by decide) (by assumption) | with_reducible exact isc_zg (by assumption) (by assumption) | with_reducible exact isc_zl (by assumption) (by assumption) | with_reducible exact isc_0 | with_reducible exact isc_1 | with_reducible exact isc_3 | with_reducible exact isc_7 | with_reducible exact isc_11 | with_reducible exact isc_15 | with_reducible exact isc_19 | with_reducible exact isc_24 | with_reducible exact isc_25 | (simp only [List.map_cons, List.map_nil, List.sum_cons, List.sum_nil, xcat, Nat.reduceAdd, Nat.reduceLeDiff, Nat.zero_le]; done) | omega) only [fX9_coordinate, k_p_sq, k_p_blk, k_sq0, k_sq11, k_sq12, k_sq13, k_sq14, k_sq15, k_sqr, k_sqi, k_blk0, k_blk1, k_blk2, k_blk3, k_blk4, k_blk5, k_blkr, k_blki, k_finr, k_fini, k_mapi, k_bindi, k_if1, k_if2, k_ops, k_br, k_rv, k_ri, k_rl, k_rz, k_rzi, k_01d, k_sw, k_01a, k_01b, k_01c, k_ifn, x_cmp, decide_eq_true_eq, Option.map_some, Option.bind_some, Option.toList_some, Option.toList_none, List.cons_append, List.nil_append, Nat.reduceAdd, true_or, or_true, Int.reduceNeg, Int.reduceEq, reduceIte, Nat.zero_le, Nat.reduceLeDiff, Nat.le_refl, Nat.reduceEqDiff, List.getElem?_cons_zero, List.getElem?_cons_succ, xst, List.set_cons_zero, List.set_cons_succ, List.map_cons, List.map_nil, List.sum_cons, List.sum_nil, xcat, Nat.reduceMul, Nat.reduceDiv, Nat.reduceMod, Nat.add_zero, e_nil, e_iconst, e_il, e_al, e_ll, e_istore, e_astore, e_lstore, e_ic, e_iadd, e_isub, e_imul, e_iand, e_ior, e_ixor, e_ishl, e_ishr, e_ineg, e_dupi, e_dupr, e_dupx, e_dup2, e_popi, eo_g0, eo_g1, eo_g2, eo_g3, eo_g4, eo_g5, eo_g6, eo_g7, eo_g8, eo_g9, eo_g10, eo_g11, eo_g12, eo_g13, eo_g14, eo_s14, eo_g15, eo_g16, eo_s16, et_g0, et_g1, et_s1, et_g2, et_s2, et_g3, et_s3, et_g4, et_s4, eu_g0, eu_g1, eu_s1, eu_g2, eu_g3, eu_s3, eu_g4, eh_g0, eh_g1, eh_s1, eh_g2, eh_s2, ed_g0, ed_g1, ed_g2, ed_g3, ed_s3, ew_g0, ew_g1, ew_g2, ew_g3, ew_s3, en_g0, en_g1, en_s1, en_g2, en_g3, en_g4, en_g5, en_s5, ex_g0, ex_s0, eq_g0, eq_s0, eq_g1, eq_s1, eq_g2, eq_s2, eq_g3, eq_s3, eq_g4, eq_s4, eq_g5, eq_s5, eq_g6, eq_s6, eq_g7, eq_s7, ez_g0, ez_g1, ez_g2, ez_g3, ez_s3, ez_g4, ez_s4, ez_g5, ez_s5, ez_g6, ez_s6, ez_g7, ez_s7, ez_g8, ez_s8, ez_g9, ez_s9, ez_g10, ez_s10, ez_g11, ez_s11, ez_g12, ez_s12, ez_g13, ez_s13, ez_g14, ez_g15, ez_b0g, ez_b0s, ez_b1g, ez_b1s, ez_b2g, ez_b2s, ez_b3g, ez_b3s, ez_b4g, ez_b4s, ez_b5g, ez_b5s, ez_ba, ez_g0g, ez_g0s, ez_g1g, ez_g1s, ez_g2g, ez_g2s, ez_g3g, ez_g3s, ez_g4g, ez_g4s, ez_g5g, ez_g5s, ez_g6g, ez_g6s, ez_g7g, ez_g7s, ez_ga, ez_l0g, ez_l0s, ez_l1g, ez_l1s, ez_l2g, ez_l2s, ez_la, q_zs, q_zz, q_z1, q_z2, q_i2, q_ig, q_iz, q_jz, true_and, false_and, or_self, or_true, true_or, or_false, false_or, and_true, and_false, and_self, not_true_eq_false, not_false_eq_true, ec91, f1, ec90, f3]
end CR2
