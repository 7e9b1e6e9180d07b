/-! ===== codes ===== -/
section CD
variable {n : Nat} {h : xH} {c : xQ} {r : xR} {T : Nat}
/-- the class's numbers with a draw, digits and draws -/
def cD (c : xQ) (S : Int × (Nat → Int) × (Nat → Int)) : xQ := q_i (q_j (q_j c 26 S.2.1) 27 S.2.2) 14 S.1
variable {S : Int × (Nat → Int) × (Nat → Int)}
theorem cD_14 : (cD c S).1 14 = S.1 := rfl
theorem cD_26 : (cD c S).2.1 26 = S.2.1 := rfl
theorem cD_27 : (cD c S).2.1 27 = S.2.2 := rfl
theorem cD_p14 (v : Int) : q_i (cD c S) 14 v = cD c (v, S.2) := by
  unfold cD
  rw [q_ii]
theorem cD_p26 (f : Nat → Int) : q_j (cD c S) 26 f = cD c (S.1, f, S.2.2) := by
  unfold cD
  rw [q_ij, q_jc _ (show 27 ≠ 26 by decide), q_jj]
theorem cD_p27 (f : Nat → Int) : q_j (cD c S) 27 f = cD c (S.1, S.2.1, f) := by
  unfold cD
  rw [q_ij, q_jj]
theorem cD_self (c : xQ) (d : Int) : cD c (d, c.2.1 26, c.2.1 27) = q_i c 14 d := by
  unfold cD
  show q_i (q_j (q_j c 26 (c.2.1 26)) 27 (c.2.1 27)) 14 d = q_i c 14 d
  rw [q_j0, q_j0]
theorem cD_rd (a b : Int) : cD (cRd c a b) S = cRd (cD c S) a b := by
  unfold cD cRd
  show q_i (q_i (q_i (q_j (q_j c 26 S.2.1) 27 S.2.2) 4 a) 5 b) 14 S.1 = q_i (q_i (q_i (q_j (q_j c 26 S.2.1) 27 S.2.2) 14 S.1) 4 a) 5 b
  rw [q_ic _ (show 5 ≠ 14 by decide), q_ic _ (show 4 ≠ 14 by decide)]
theorem c_sgAt {x : Int} (h2 : c.1 2 = (T : Int)) (hT : T ≤ 80) (h0 : 0 ≤ x) (h1 : x < (T : Int)) : (gg (n + 1) 84).2 [.inr (.inr (.inl (0, 1))), .inl x] (hC h c) = some (some (.inl (c.2.1 2 x.toNat)), hC h c) := by
  rw [gr84]
  have d1 : ¬ x < 0 := by omega
  have d2 : ¬ (T : Int) ≤ x := by omega
  have d3 : x < 80 := by omega
  clear hT
  simp -implicitDefEqProofs (disch := first | with_reducible assumption | with_reducible exact isc_zs (by assumption) | with_reducible exact isc_zs (by decide) | with_reducible exact isc_zb (by assumption) (by assumption) | with_reducible exact isc_zb (by decide) (by assumption) | with_reducible exact isc_zg (by assumption) (by assumption) | with_reducible exact isc_zl (by assumption) (by assumption) | with_reducible exact isc_0 | with_reducible exact isc_1 | with_reducible exact isc_3 | with_reducible exact isc_7 | with_reducible exact isc_11 | with_reducible exact isc_15 | with_reducible exact isc_19 | with_reducible exact isc_24 | with_reducible exact isc_25 | (simp only [List.map_cons, List.map_nil, List.sum_cons, List.sum_nil, xcat, Nat.reduceAdd, Nat.reduceLeDiff, Nat.zero_le]; done) | omega) only [fX9_signAt, k_p_sq, k_p_blk, k_sq0, k_sq11, k_sq12, k_sq13, k_sq14, k_sq15, k_sqr, k_sqi, k_blk0, k_blk1, k_blk2, k_blk3, k_blk4, k_blk5, k_blkr, k_blki, k_finr, k_fini, k_mapi, k_bindi, k_if1, k_if2, k_ops, k_br, k_rv, k_ri, k_rl, k_rz, k_rzi, k_01d, k_sw, k_01a, k_01b, k_01c, k_ifn, x_cmp, decide_eq_true_eq, Option.map_some, Option.bind_some, Option.toList_some, Option.toList_none, List.cons_append, List.nil_append, Nat.reduceAdd, true_or, or_true, Int.reduceNeg, Int.reduceEq, reduceIte, Nat.zero_le, Nat.reduceLeDiff, Nat.le_refl, Nat.reduceEqDiff, List.getElem?_cons_zero, List.getElem?_cons_succ, xst, List.set_cons_zero, List.set_cons_succ, List.map_cons, List.map_nil, List.sum_cons, List.sum_nil, xcat, Nat.reduceMul, Nat.reduceDiv, Nat.reduceMod, Nat.add_zero, e_nil, e_iconst, e_il, e_al, e_ll, e_istore, e_astore, e_lstore, e_ic, e_iadd, e_isub, e_imul, e_iand, e_ior, e_ixor, e_ishl, e_ishr, e_ineg, e_dupi, e_dupr, e_dupx, e_dup2, e_popi, eo_g0, eo_g1, eo_g2, eo_g3, eo_g4, eo_g5, eo_g6, eo_g7, eo_g8, eo_g9, eo_g10, eo_g11, eo_g12, eo_g13, eo_g14, eo_s14, eo_g15, eo_g16, eo_s16, et_g0, et_g1, et_s1, et_g2, et_s2, et_g3, et_s3, et_g4, et_s4, eu_g0, eu_g1, eu_s1, eu_g2, eu_g3, eu_s3, eu_g4, eh_g0, eh_g1, eh_s1, eh_g2, eh_s2, ed_g0, ed_g1, ed_g2, ed_g3, ed_s3, ew_g0, ew_g1, ew_g2, ew_g3, ew_s3, en_g0, en_g1, en_s1, en_g2, en_g3, en_g4, en_g5, en_s5, ex_g0, ex_s0, eq_g0, eq_s0, eq_g1, eq_s1, eq_g2, eq_s2, eq_g3, eq_s3, eq_g4, eq_s4, eq_g5, eq_s5, eq_g6, eq_s6, eq_g7, eq_s7, ez_g0, ez_g1, ez_g2, ez_g3, ez_s3, ez_g4, ez_s4, ez_g5, ez_s5, ez_g6, ez_s6, ez_g7, ez_s7, ez_g8, ez_s8, ez_g9, ez_s9, ez_g10, ez_s10, ez_g11, ez_s11, ez_g12, ez_s12, ez_g13, ez_s13, ez_g14, ez_g15, ez_b0g, ez_b0s, ez_b1g, ez_b1s, ez_b2g, ez_b2s, ez_b3g, ez_b3s, ez_b4g, ez_b4s, ez_b5g, ez_b5s, ez_ba, ez_g0g, ez_g0s, ez_g1g, ez_g1s, ez_g2g, ez_g2s, ez_g3g, ez_g3s, ez_g4g, ez_g4s, ez_g5g, ez_g5s, ez_g6g, ez_g6s, ez_g7g, ez_g7s, ez_ga, ez_l0g, ez_l0s, ez_l1g, ez_l1s, ez_l2g, ez_l2s, ez_la, q_zs, q_zz, q_z1, q_z2, q_i2, q_ig, q_iz, q_jz, true_and, false_and, or_self, or_true, true_or, or_false, false_or, and_true, and_false, and_self, not_true_eq_false, not_false_eq_true, h2, d1, d2, eq_r2]
/-- the digits are read -/
theorem c_cdL (hx : TX (tTx r T 12) c T 12) {sd : Int} (J : xV) (J2 : xV) : ∀ (m i : Nat), i + m = T → (i < T ∨ T = 0) → i < 12 → ∃ (D : Nat) (A B : Int), p_lop (lX11_codes_11 (gg (n + 4))) ([.inr (.inr (.inl (0, 0))), .inl sd, .inl (i : Int), J, J2], [], hC h (cRd c (i : Int) (-1))) = some (.inl 1, ([.inr (.inr (.inl (0, 0))), .inl sd, .inl (D : Int), J, J2], [], hC h (cRd c A B))) ∧ (0 ≤ A ∧ A < 100) ∧ (-1 ≤ B ∧ B < 100) ∧ D ≤ 12 ∧ (if B = -1 then (if A < (T : Int) then -1 - A else 0) else -1 - B) = (if T = 0 then -1 else kCd (r.2 4) m i) ∧ ((if B = -1 then (if A < (T : Int) then -1 - A else 0) else -1 - B) = 0 → D = T) := by
  intro m
  induction m with
  | zero =>
    intro i hi hor h12
    have hT0 : T = 0 := by omega
    subst hT0
    have hi0 : i = 0 := by omega
    subst hi0
    obtain ⟨v, f1, -⟩ := c_digit (n := n + 1) (h := h) (a := ((0 : Nat) : Int)) (b := -1) hx (by omega) (by omega) (lo := 0) (hi := 9) (by decide) (by decide) (by decide) (by decide)
    have hh : rHere (tTx r 0 12) ((0 : Nat) : Int) = -1 := by
      rw [TX_here hx (by omega), if_neg (by omega)]
    rw [tDigit_no (by rw [hh]; omega)] at f1
    have f2 := c_atEnd (n := n + 3) (h := h) (c := c) (a := ((0 : Nat) : Int)) (b := ((0 : Nat) : Int)) (L := ((0 : Nat) : Int)) hx.2.2.2.2.2.1
    rw [if_pos (Or.inl (by omega))] at f2
    refine ⟨1, ((0 : Nat) : Int), ((0 : Nat) : Int), ?_, ⟨by omega, by omega⟩, ⟨by omega, by omega⟩, by decide, (by rw [if_neg (by decide)]; rfl), by decide⟩
    refine k_l2 (k := 0) ?_
    have x1 : xw (((0 : Nat) : Int) + 1) = ((1 : Nat) : Int) := by decide
    have d1 : ¬ (12 : Int) ≤ ((1 : Nat) : Int) := by decide
    generalize ((0 : Nat) : Int) = q0 at *
    generalize ((1 : Nat) : Int) = q1 at *
    clear hx hh hor
    simp -implicitDefEqProofs (disch := first | with_reducible assumption | with_reducible exact isc_zs (by assumption) | with_reducible exact isc_zs (by decide) | with_reducible exact isc_zb (by assumption) (by assumption) | with_reducible exact isc_zb (by decide) (by assumption) | with_reducible exact isc_zg (by assumption) (by assumption) | with_reducible exact isc_zl (by assumption) (by assumption) | with_reducible exact isc_0 | with_reducible exact isc_1 | with_reducible exact isc_3 | with_reducible exact isc_7 | with_reducible exact isc_11 | with_reducible exact isc_15 | with_reducible exact isc_19 | with_reducible exact isc_24 | with_reducible exact isc_25 | (simp only [List.map_cons, List.map_nil, List.sum_cons, List.sum_nil, xcat, Nat.reduceAdd, Nat.reduceLeDiff, Nat.zero_le]; done) | omega) only [lX11_codes_11, k_p_sq, k_p_blk, k_sq0, k_sq11, k_sq12, k_sq13, k_sq14, k_sq15, k_sqr, k_sqi, k_blk0, k_blk1, k_blk2, k_blk3, k_blk4, k_blk5, k_blkr, k_blki, k_finr, k_fini, k_mapi, k_bindi, k_if1, k_if2, k_ops, k_br, k_rv, k_ri, k_rl, k_rz, k_rzi, k_01d, k_sw, k_01a, k_01b, k_01c, k_ifn, x_cmp, decide_eq_true_eq, Option.map_some, Option.bind_some, Option.toList_some, Option.toList_none, List.cons_append, List.nil_append, Nat.reduceAdd, true_or, or_true, Int.reduceNeg, Int.reduceEq, reduceIte, Nat.zero_le, Nat.reduceLeDiff, Nat.le_refl, Nat.reduceEqDiff, List.getElem?_cons_zero, List.getElem?_cons_succ, xst, List.set_cons_zero, List.set_cons_succ, List.map_cons, List.map_nil, List.sum_cons, List.sum_nil, xcat, Nat.reduceMul, Nat.reduceDiv, Nat.reduceMod, Nat.add_zero, e_nil, e_iconst, e_il, e_al, e_ll, e_istore, e_astore, e_lstore, e_ic, e_iadd, e_isub, e_imul, e_iand, e_ior, e_ixor, e_ishl, e_ishr, e_ineg, e_dupi, e_dupr, e_dupx, e_dup2, e_popi, eo_g0, eo_g1, eo_g2, eo_g3, eo_g4, eo_g5, eo_g6, eo_g7, eo_g8, eo_g9, eo_g10, eo_g11, eo_g12, eo_g13, eo_g14, eo_s14, eo_g15, eo_g16, eo_s16, et_g0, et_g1, et_s1, et_g2, et_s2, et_g3, et_s3, et_g4, et_s4, eu_g0, eu_g1, eu_s1, eu_g2, eu_g3, eu_s3, eu_g4, eh_g0, eh_g1, eh_s1, eh_g2, eh_s2, ed_g0, ed_g1, ed_g2, ed_g3, ed_s3, ew_g0, ew_g1, ew_g2, ew_g3, ew_s3, en_g0, en_g1, en_s1, en_g2, en_g3, en_g4, en_g5, en_s5, ex_g0, ex_s0, eq_g0, eq_s0, eq_g1, eq_s1, eq_g2, eq_s2, eq_g3, eq_s3, eq_g4, eq_s4, eq_g5, eq_s5, eq_g6, eq_s6, eq_g7, eq_s7, ez_g0, ez_g1, ez_g2, ez_g3, ez_s3, ez_g4, ez_s4, ez_g5, ez_s5, ez_g6, ez_s6, ez_g7, ez_s7, ez_g8, ez_s8, ez_g9, ez_s9, ez_g10, ez_s10, ez_g11, ez_s11, ez_g12, ez_s12, ez_g13, ez_s13, ez_g14, ez_g15, ez_b0g, ez_b0s, ez_b1g, ez_b1s, ez_b2g, ez_b2s, ez_b3g, ez_b3s, ez_b4g, ez_b4s, ez_b5g, ez_b5s, ez_ba, ez_g0g, ez_g0s, ez_g1g, ez_g1s, ez_g2g, ez_g2s, ez_g3g, ez_g3s, ez_g4g, ez_g4s, ez_g5g, ez_g5s, ez_g6g, ez_g6s, ez_g7g, ez_g7s, ez_ga, ez_l0g, ez_l0s, ez_l1g, ez_l1s, ez_l2g, ez_l2s, ez_la, q_zs, q_zz, q_z1, q_z2, q_i2, q_ig, q_iz, q_jz, true_and, false_and, or_self, or_true, true_or, or_false, false_or, and_true, and_false, and_self, not_true_eq_false, not_false_eq_true, ec91, f1, x1, e_iinc, d1, ec85, f2, Int.reduceEq]
  | succ m ih =>
    intro i hi hor h12
    have hT0 : ¬ T = 0 := by omega
    rw [if_neg hT0]
    have h2 : c.1 2 = (T : Int) := hx.2.2.2.2.2.1
    have x1 : xw ((i : Int) + 1) = ((i + 1 : Nat) : Int) := by rw [xw_id (by omega) (by omega)]; omega
    obtain ⟨v, f1, -⟩ := c_digit (n := n + 1) (h := h) (a := (i : Int)) (b := -1) hx (by omega) (by omega) (lo := 0) (hi := 9) (by decide) (by decide) (by decide) (by decide)
    have hh : rHere (tTx r T 12) (i : Int) = xand (r.2 4 i) 255 := by
      rw [TX_here hx (by omega), if_pos (by omega), Int.toNat_natCast]
      exact (hx.2.2.2.2.2.2.2 i (by omega)).2
    have hb := (hx.2.2.2.2.2.2.2 i (by omega)).1
    have hb : -128 ≤ r.2 4 i ∧ r.2 4 i < 128 := hb
    rw [xand_255] at hh
    unfold kCd
    by_cases d : 48 ≤ r.2 4 i ∧ r.2 4 i ≤ 57
    · rw [tDigit_ok (by rw [hh]; omega)] at f1
      rw [if_neg (by omega)]
      have e1 : (i : Int) + 1 = ((i + 1 : Nat) : Int) := by omega
      rw [e1] at f1
      have f2 := c_atEnd (n := n + 3) (h := h) (c := c) (a := ((i + 1 : Nat) : Int)) (b := -1) (L := (T : Int)) h2
      by_cases d12 : i + 1 = 12
      · refine ⟨i + 1, ((i + 1 : Nat) : Int), -1, ?_, ⟨by omega, by omega⟩, ⟨by omega, by omega⟩, by omega, ?_, ?_⟩
        · refine k_l2 (k := 0) ?_
          have d1 : (12 : Int) ≤ ((i + 1 : Nat) : Int) := by omega
          dsimp only at f1
          generalize ((i + 1 : Nat) : Int) = q1 at *
          clear hx hh hor ih f2
          simp -implicitDefEqProofs (disch := first | with_reducible assumption | with_reducible exact isc_zs (by assumption) | with_reducible exact isc_zs (by decide) | with_reducible exact isc_zb (by assumption) (by assumption) | with_reducible exact isc_zb (by decide) (by assumption) | with_reducible exact isc_zg (by assumption) (by assumption) | with_reducible exact isc_zl (by assumption) (by assumption) | with_reducible exact isc_0 | with_reducible exact isc_1 | with_reducible exact isc_3 | with_reducible exact isc_7 | with_reducible exact isc_11 | with_reducible exact isc_15 | with_reducible exact isc_19 | with_reducible exact isc_24 | with_reducible exact isc_25 | (simp only [List.map_cons, List.map_nil, List.sum_cons, List.sum_nil, xcat, Nat.reduceAdd, Nat.reduceLeDiff, Nat.zero_le]; done) | omega) only [lX11_codes_11, k_p_sq, k_p_blk, k_sq0, k_sq11, k_sq12, k_sq13, k_sq14, k_sq15, k_sqr, k_sqi, k_blk0, k_blk1, k_blk2, k_blk3, k_blk4, k_blk5, k_blkr, k_blki, k_finr, k_fini, k_mapi, k_bindi, k_if1, k_if2, k_ops, k_br, k_rv, k_ri, k_rl, k_rz, k_rzi, k_01d, k_sw, k_01a, k_01b, k_01c, k_ifn, x_cmp, decide_eq_true_eq, Option.map_some, Option.bind_some, Option.toList_some, Option.toList_none, List.cons_append, List.nil_append, Nat.reduceAdd, true_or, or_true, Int.reduceNeg, Int.reduceEq, reduceIte, Nat.zero_le, Nat.reduceLeDiff, Nat.le_refl, Nat.reduceEqDiff, List.getElem?_cons_zero, List.getElem?_cons_succ, xst, List.set_cons_zero, List.set_cons_succ, List.map_cons, List.map_nil, List.sum_cons, List.sum_nil, xcat, Nat.reduceMul, Nat.reduceDiv, Nat.reduceMod, Nat.add_zero, e_nil, e_iconst, e_il, e_al, e_ll, e_istore, e_astore, e_lstore, e_ic, e_iadd, e_isub, e_imul, e_iand, e_ior, e_ixor, e_ishl, e_ishr, e_ineg, e_dupi, e_dupr, e_dupx, e_dup2, e_popi, eo_g0, eo_g1, eo_g2, eo_g3, eo_g4, eo_g5, eo_g6, eo_g7, eo_g8, eo_g9, eo_g10, eo_g11, eo_g12, eo_g13, eo_g14, eo_s14, eo_g15, eo_g16, eo_s16, et_g0, et_g1, et_s1, et_g2, et_s2, et_g3, et_s3, et_g4, et_s4, eu_g0, eu_g1, eu_s1, eu_g2, eu_g3, eu_s3, eu_g4, eh_g0, eh_g1, eh_s1, eh_g2, eh_s2, ed_g0, ed_g1, ed_g2, ed_g3, ed_s3, ew_g0, ew_g1, ew_g2, ew_g3, ew_s3, en_g0, en_g1, en_s1, en_g2, en_g3, en_g4, en_g5, en_s5, ex_g0, ex_s0, eq_g0, eq_s0, eq_g1, eq_s1, eq_g2, eq_s2, eq_g3, eq_s3, eq_g4, eq_s4, eq_g5, eq_s5, eq_g6, eq_s6, eq_g7, eq_s7, ez_g0, ez_g1, ez_g2, ez_g3, ez_s3, ez_g4, ez_s4, ez_g5, ez_s5, ez_g6, ez_s6, ez_g7, ez_s7, ez_g8, ez_s8, ez_g9, ez_s9, ez_g10, ez_s10, ez_g11, ez_s11, ez_g12, ez_s12, ez_g13, ez_s13, ez_g14, ez_g15, ez_b0g, ez_b0s, ez_b1g, ez_b1s, ez_b2g, ez_b2s, ez_b3g, ez_b3s, ez_b4g, ez_b4s, ez_b5g, ez_b5s, ez_ba, ez_g0g, ez_g0s, ez_g1g, ez_g1s, ez_g2g, ez_g2s, ez_g3g, ez_g3s, ez_g4g, ez_g4s, ez_g5g, ez_g5s, ez_g6g, ez_g6s, ez_g7g, ez_g7s, ez_ga, ez_l0g, ez_l0s, ez_l1g, ez_l1s, ez_l2g, ez_l2s, ez_la, q_zs, q_zz, q_z1, q_z2, q_i2, q_ig, q_iz, q_jz, true_and, false_and, or_self, or_true, true_or, or_false, false_or, and_true, and_false, and_self, not_true_eq_false, not_false_eq_true, ec91, f1, x1, e_iinc, d1, Int.reduceEq]
        · rw [if_pos rfl, d12]
          cases m with
          | zero =>
            rw [if_neg (by omega)]
            rfl
          | succ m =>
            rw [if_pos (by omega)]
            unfold kCd
            rw [if_pos (Or.inl rfl)]
        · rw [if_pos rfl]
          intro z
          by_cases dd : ((i + 1 : Nat) : Int) < (T : Int)
          · rw [if_pos dd] at z
            omega
          · omega
      · have d1 : ¬ (12 : Int) ≤ ((i + 1 : Nat) : Int) := by omega
        by_cases dT : T ≤ i + 1
        · rw [if_pos (Or.inr (by omega))] at f2
          have hm0 : m = 0 := by omega
          subst hm0
          refine ⟨i + 1, ((i + 1 : Nat) : Int), -1, ?_, ⟨by omega, by omega⟩, ⟨by omega, by omega⟩, by omega, ?_, fun _ => by omega⟩
          · refine k_l2 (k := 0) ?_
            dsimp only at f1
            generalize ((i + 1 : Nat) : Int) = q1 at *
            clear hx hh hor ih
            simp -implicitDefEqProofs (disch := first | with_reducible assumption | with_reducible exact isc_zs (by assumption) | with_reducible exact isc_zs (by decide) | with_reducible exact isc_zb (by assumption) (by assumption) | with_reducible exact isc_zb (by decide) (by assumption) | with_reducible exact isc_zg (by assumption) (by assumption) | with_reducible exact isc_zl (by assumption) (by assumption) | with_reducible exact isc_0 | with_reducible exact isc_1 | with_reducible exact isc_3 | with_reducible exact isc_7 | with_reducible exact isc_11 | with_reducible exact isc_15 | with_reducible exact isc_19 | with_reducible exact isc_24 | with_reducible exact isc_25 | (simp only [List.map_cons, List.map_nil, List.sum_cons, List.sum_nil, xcat, Nat.reduceAdd, Nat.reduceLeDiff, Nat.zero_le]; done) | omega) only [lX11_codes_11, k_p_sq, k_p_blk, k_sq0, k_sq11, k_sq12, k_sq13, k_sq14, k_sq15, k_sqr, k_sqi, k_blk0, k_blk1, k_blk2, k_blk3, k_blk4, k_blk5, k_blkr, k_blki, k_finr, k_fini, k_mapi, k_bindi, k_if1, k_if2, k_ops, k_br, k_rv, k_ri, k_rl, k_rz, k_rzi, k_01d, k_sw, k_01a, k_01b, k_01c, k_ifn, x_cmp, decide_eq_true_eq, Option.map_some, Option.bind_some, Option.toList_some, Option.toList_none, List.cons_append, List.nil_append, Nat.reduceAdd, true_or, or_true, Int.reduceNeg, Int.reduceEq, reduceIte, Nat.zero_le, Nat.reduceLeDiff, Nat.le_refl, Nat.reduceEqDiff, List.getElem?_cons_zero, List.getElem?_cons_succ, xst, List.set_cons_zero, List.set_cons_succ, List.map_cons, List.map_nil, List.sum_cons, List.sum_nil, xcat, Nat.reduceMul, Nat.reduceDiv, Nat.reduceMod, Nat.add_zero, e_nil, e_iconst, e_il, e_al, e_ll, e_istore, e_astore, e_lstore, e_ic, e_iadd, e_isub, e_imul, e_iand, e_ior, e_ixor, e_ishl, e_ishr, e_ineg, e_dupi, e_dupr, e_dupx, e_dup2, e_popi, eo_g0, eo_g1, eo_g2, eo_g3, eo_g4, eo_g5, eo_g6, eo_g7, eo_g8, eo_g9, eo_g10, eo_g11, eo_g12, eo_g13, eo_g14, eo_s14, eo_g15, eo_g16, eo_s16, et_g0, et_g1, et_s1, et_g2, et_s2, et_g3, et_s3, et_g4, et_s4, eu_g0, eu_g1, eu_s1, eu_g2, eu_g3, eu_s3, eu_g4, eh_g0, eh_g1, eh_s1, eh_g2, eh_s2, ed_g0, ed_g1, ed_g2, ed_g3, ed_s3, ew_g0, ew_g1, ew_g2, ew_g3, ew_s3, en_g0, en_g1, en_s1, en_g2, en_g3, en_g4, en_g5, en_s5, ex_g0, ex_s0, eq_g0, eq_s0, eq_g1, eq_s1, eq_g2, eq_s2, eq_g3, eq_s3, eq_g4, eq_s4, eq_g5, eq_s5, eq_g6, eq_s6, eq_g7, eq_s7, ez_g0, ez_g1, ez_g2, ez_g3, ez_s3, ez_g4, ez_s4, ez_g5, ez_s5, ez_g6, ez_s6, ez_g7, ez_s7, ez_g8, ez_s8, ez_g9, ez_s9, ez_g10, ez_s10, ez_g11, ez_s11, ez_g12, ez_s12, ez_g13, ez_s13, ez_g14, ez_g15, ez_b0g, ez_b0s, ez_b1g, ez_b1s, ez_b2g, ez_b2s, ez_b3g, ez_b3s, ez_b4g, ez_b4s, ez_b5g, ez_b5s, ez_ba, ez_g0g, ez_g0s, ez_g1g, ez_g1s, ez_g2g, ez_g2s, ez_g3g, ez_g3s, ez_g4g, ez_g4s, ez_g5g, ez_g5s, ez_g6g, ez_g6s, ez_g7g, ez_g7s, ez_ga, ez_l0g, ez_l0s, ez_l1g, ez_l1s, ez_l2g, ez_l2s, ez_la, q_zs, q_zz, q_z1, q_z2, q_i2, q_ig, q_iz, q_jz, true_and, false_and, or_self, or_true, true_or, or_false, false_or, and_true, and_false, and_self, not_true_eq_false, not_false_eq_true, ec91, f1, x1, e_iinc, d1, ec85, f2, Int.reduceEq]
          · rw [if_pos rfl, if_neg (by omega)]
            rfl
        · rw [if_neg (by omega)] at f2
          obtain ⟨D, A, B, g1, g2, g3, g4, g5, g6⟩ := ih (i + 1) (by omega) (Or.inl (by omega)) (by omega)
          rw [if_neg hT0] at g5
          refine ⟨D, A, B, ?_, g2, g3, g4, g5, g6⟩
          rw [← g1]
          refine k_l1 ?_
          dsimp only at f1
          generalize ((i + 1 : Nat) : Int) = q1 at *
          clear hx hh hor ih g1 g2 g3 g4 g5 g6
          simp -implicitDefEqProofs (disch := first | with_reducible assumption | with_reducible exact isc_zs (by assumption) | with_reducible exact isc_zs (by decide) | with_reducible exact isc_zb (by assumption) (by assumption) | with_reducible exact isc_zb (by decide) (by assumption) | with_reducible exact isc_zg (by assumption) (by assumption) | with_reducible exact isc_zl (by assumption) (by assumption) | with_reducible exact isc_0 | with_reducible exact isc_1 | with_reducible exact isc_3 | with_reducible exact isc_7 | with_reducible exact isc_11 | with_reducible exact isc_15 | with_reducible exact isc_19 | with_reducible exact isc_24 | with_reducible exact isc_25 | (simp only [List.map_cons, List.map_nil, List.sum_cons, List.sum_nil, xcat, Nat.reduceAdd, Nat.reduceLeDiff, Nat.zero_le]; done) | omega) only [lX11_codes_11, k_p_sq, k_p_blk, k_sq0, k_sq11, k_sq12, k_sq13, k_sq14, k_sq15, k_sqr, k_sqi, k_blk0, k_blk1, k_blk2, k_blk3, k_blk4, k_blk5, k_blkr, k_blki, k_finr, k_fini, k_mapi, k_bindi, k_if1, k_if2, k_ops, k_br, k_rv, k_ri, k_rl, k_rz, k_rzi, k_01d, k_sw, k_01a, k_01b, k_01c, k_ifn, x_cmp, decide_eq_true_eq, Option.map_some, Option.bind_some, Option.toList_some, Option.toList_none, List.cons_append, List.nil_append, Nat.reduceAdd, true_or, or_true, Int.reduceNeg, Int.reduceEq, reduceIte, Nat.zero_le, Nat.reduceLeDiff, Nat.le_refl, Nat.reduceEqDiff, List.getElem?_cons_zero, List.getElem?_cons_succ, xst, List.set_cons_zero, List.set_cons_succ, List.map_cons, List.map_nil, List.sum_cons, List.sum_nil, xcat, Nat.reduceMul, Nat.reduceDiv, Nat.reduceMod, Nat.add_zero, e_nil, e_iconst, e_il, e_al, e_ll, e_istore, e_astore, e_lstore, e_ic, e_iadd, e_isub, e_imul, e_iand, e_ior, e_ixor, e_ishl, e_ishr, e_ineg, e_dupi, e_dupr, e_dupx, e_dup2, e_popi, eo_g0, eo_g1, eo_g2, eo_g3, eo_g4, eo_g5, eo_g6, eo_g7, eo_g8, eo_g9, eo_g10, eo_g11, eo_g12, eo_g13, eo_g14, eo_s14, eo_g15, eo_g16, eo_s16, et_g0, et_g1, et_s1, et_g2, et_s2, et_g3, et_s3, et_g4, et_s4, eu_g0, eu_g1, eu_s1, eu_g2, eu_g3, eu_s3, eu_g4, eh_g0, eh_g1, eh_s1, eh_g2, eh_s2, ed_g0, ed_g1, ed_g2, ed_g3, ed_s3, ew_g0, ew_g1, ew_g2, ew_g3, ew_s3, en_g0, en_g1, en_s1, en_g2, en_g3, en_g4, en_g5, en_s5, ex_g0, ex_s0, eq_g0, eq_s0, eq_g1, eq_s1, eq_g2, eq_s2, eq_g3, eq_s3, eq_g4, eq_s4, eq_g5, eq_s5, eq_g6, eq_s6, eq_g7, eq_s7, ez_g0, ez_g1, ez_g2, ez_g3, ez_s3, ez_g4, ez_s4, ez_g5, ez_s5, ez_g6, ez_s6, ez_g7, ez_s7, ez_g8, ez_s8, ez_g9, ez_s9, ez_g10, ez_s10, ez_g11, ez_s11, ez_g12, ez_s12, ez_g13, ez_s13, ez_g14, ez_g15, ez_b0g, ez_b0s, ez_b1g, ez_b1s, ez_b2g, ez_b2s, ez_b3g, ez_b3s, ez_b4g, ez_b4s, ez_b5g, ez_b5s, ez_ba, ez_g0g, ez_g0s, ez_g1g, ez_g1s, ez_g2g, ez_g2s, ez_g3g, ez_g3s, ez_g4g, ez_g4s, ez_g5g, ez_g5s, ez_g6g, ez_g6s, ez_g7g, ez_g7s, ez_ga, ez_l0g, ez_l0s, ez_l1g, ez_l1s, ez_l2g, ez_l2s, ez_la, q_zs, q_zz, q_z1, q_z2, q_i2, q_ig, q_iz, q_jz, true_and, false_and, or_self, or_true, true_or, or_false, false_or, and_true, and_false, and_self, not_true_eq_false, not_false_eq_true, ec91, f1, x1, e_iinc, d1, ec85, f2, Int.reduceEq]
    · rw [tDigit_no (by rw [hh]; omega)] at f1
      rw [if_pos (by omega)]
      have f2 := c_atEnd (n := n + 3) (h := h) (c := c) (a := (i : Int)) (b := (i : Int)) (L := (T : Int)) h2
      rw [if_pos (Or.inl (by omega))] at f2
      refine ⟨i + 1, (i : Int), (i : Int), ?_, ⟨by omega, by omega⟩, ⟨by omega, by omega⟩, by omega, ?_, ?_⟩
      · refine k_l2 (k := 0) ?_
        dsimp only at f1
        have d13 : ((i + 1 : Nat) : Int) < 12 ∨ ((i + 1 : Nat) : Int) = 12 := by omega
        generalize ((i + 1 : Nat) : Int) = q1 at *
        clear hx hh hor ih
        rcases d13 with d13 | d13
        · have d1 : ¬ (12 : Int) ≤ q1 := by omega
          clear hb d hi h12 hT0 h2 d13
          simp -implicitDefEqProofs (disch := first | with_reducible assumption | with_reducible exact isc_zs (by assumption) | with_reducible exact isc_zs (by decide) | with_reducible exact isc_zb (by assumption) (by assumption) | with_reducible exact isc_zb (by decide) (by assumption) | with_reducible exact isc_zg (by assumption) (by assumption) | with_reducible exact isc_zl (by assumption) (by assumption) | with_reducible exact isc_0 | with_reducible exact isc_1 | with_reducible exact isc_3 | with_reducible exact isc_7 | with_reducible exact isc_11 | with_reducible exact isc_15 | with_reducible exact isc_19 | with_reducible exact isc_24 | with_reducible exact isc_25 | (simp only [List.map_cons, List.map_nil, List.sum_cons, List.sum_nil, xcat, Nat.reduceAdd, Nat.reduceLeDiff, Nat.zero_le]; done) | omega) only [lX11_codes_11, k_p_sq, k_p_blk, k_sq0, k_sq11, k_sq12, k_sq13, k_sq14, k_sq15, k_sqr, k_sqi, k_blk0, k_blk1, k_blk2, k_blk3, k_blk4, k_blk5, k_blkr, k_blki, k_finr, k_fini, k_mapi, k_bindi, k_if1, k_if2, k_ops, k_br, k_rv, k_ri, k_rl, k_rz, k_rzi, k_01d, k_sw, k_01a, k_01b, k_01c, k_ifn, x_cmp, decide_eq_true_eq, Option.map_some, Option.bind_some, Option.toList_some, Option.toList_none, List.cons_append, List.nil_append, Nat.reduceAdd, true_or, or_true, Int.reduceNeg, Int.reduceEq, reduceIte, Nat.zero_le, Nat.reduceLeDiff, Nat.le_refl, Nat.reduceEqDiff, List.getElem?_cons_zero, List.getElem?_cons_succ, xst, List.set_cons_zero, List.set_cons_succ, List.map_cons, List.map_nil, List.sum_cons, List.sum_nil, xcat, Nat.reduceMul, Nat.reduceDiv, Nat.reduceMod, Nat.add_zero, e_nil, e_iconst, e_il, e_al, e_ll, e_istore, e_astore, e_lstore, e_ic, e_iadd, e_isub, e_imul, e_iand, e_ior, e_ixor, e_ishl, e_ishr, e_ineg, e_dupi, e_dupr, e_dupx, e_dup2, e_popi, eo_g0, eo_g1, eo_g2, eo_g3, eo_g4, eo_g5, eo_g6, eo_g7, eo_g8, eo_g9, eo_g10, eo_g11, eo_g12, eo_g13, eo_g14, eo_s14, eo_g15, eo_g16, eo_s16, et_g0, et_g1, et_s1, et_g2, et_s2, et_g3, et_s3, et_g4, et_s4, eu_g0, eu_g1, eu_s1, eu_g2, eu_g3, eu_s3, eu_g4, eh_g0, eh_g1, eh_s1, eh_g2, eh_s2, ed_g0, ed_g1, ed_g2, ed_g3, ed_s3, ew_g0, ew_g1, ew_g2, ew_g3, ew_s3, en_g0, en_g1, en_s1, en_g2, en_g3, en_g4, en_g5, en_s5, ex_g0, ex_s0, eq_g0, eq_s0, eq_g1, eq_s1, eq_g2, eq_s2, eq_g3, eq_s3, eq_g4, eq_s4, eq_g5, eq_s5, eq_g6, eq_s6, eq_g7, eq_s7, ez_g0, ez_g1, ez_g2, ez_g3, ez_s3, ez_g4, ez_s4, ez_g5, ez_s5, ez_g6, ez_s6, ez_g7, ez_s7, ez_g8, ez_s8, ez_g9, ez_s9, ez_g10, ez_s10, ez_g11, ez_s11, ez_g12, ez_s12, ez_g13, ez_s13, ez_g14, ez_g15, ez_b0g, ez_b0s, ez_b1g, ez_b1s, ez_b2g, ez_b2s, ez_b3g, ez_b3s, ez_b4g, ez_b4s, ez_b5g, ez_b5s, ez_ba, ez_g0g, ez_g0s, ez_g1g, ez_g1s, ez_g2g, ez_g2s, ez_g3g, ez_g3s, ez_g4g, ez_g4s, ez_g5g, ez_g5s, ez_g6g, ez_g6s, ez_g7g, ez_g7s, ez_ga, ez_l0g, ez_l0s, ez_l1g, ez_l1s, ez_l2g, ez_l2s, ez_la, q_zs, q_zz, q_z1, q_z2, q_i2, q_ig, q_iz, q_jz, true_and, false_and, or_self, or_true, true_or, or_false, false_or, and_true, and_false, and_self, not_true_eq_false, not_false_eq_true, ec91, f1, x1, e_iinc, d1, ec85, f2, Int.reduceEq]
        · have d1 : (12 : Int) ≤ q1 := by omega
          clear hb d hi h12 hT0 h2 d13
          simp -implicitDefEqProofs (disch := first | with_reducible assumption | with_reducible exact isc_zs (by assumption) | with_reducible exact isc_zs (by decide) | with_reducible exact isc_zb (by assumption) (by assumption) | with_reducible exact isc_zb (by decide) (by assumption) | with_reducible exact isc_zg (by assumption) (by assumption) | with_reducible exact isc_zl (by assumption) (by assumption) | with_reducible exact isc_0 | with_reducible exact isc_1 | with_reducible exact isc_3 | with_reducible exact isc_7 | with_reducible exact isc_11 | with_reducible exact isc_15 | with_reducible exact isc_19 | with_reducible exact isc_24 | with_reducible exact isc_25 | (simp only [List.map_cons, List.map_nil, List.sum_cons, List.sum_nil, xcat, Nat.reduceAdd, Nat.reduceLeDiff, Nat.zero_le]; done) | omega) only [lX11_codes_11, k_p_sq, k_p_blk, k_sq0, k_sq11, k_sq12, k_sq13, k_sq14, k_sq15, k_sqr, k_sqi, k_blk0, k_blk1, k_blk2, k_blk3, k_blk4, k_blk5, k_blkr, k_blki, k_finr, k_fini, k_mapi, k_bindi, k_if1, k_if2, k_ops, k_br, k_rv, k_ri, k_rl, k_rz, k_rzi, k_01d, k_sw, k_01a, k_01b, k_01c, k_ifn, x_cmp, decide_eq_true_eq, Option.map_some, Option.bind_some, Option.toList_some, Option.toList_none, List.cons_append, List.nil_append, Nat.reduceAdd, true_or, or_true, Int.reduceNeg, Int.reduceEq, reduceIte, Nat.zero_le, Nat.reduceLeDiff, Nat.le_refl, Nat.reduceEqDiff, List.getElem?_cons_zero, List.getElem?_cons_succ, xst, List.set_cons_zero, List.set_cons_succ, List.map_cons, List.map_nil, List.sum_cons, List.sum_nil, xcat, Nat.reduceMul, Nat.reduceDiv, Nat.reduceMod, Nat.add_zero, e_nil, e_iconst, e_il, e_al, e_ll, e_istore, e_astore, e_lstore, e_ic, e_iadd, e_isub, e_imul, e_iand, e_ior, e_ixor, e_ishl, e_ishr, e_ineg, e_dupi, e_dupr, e_dupx, e_dup2, e_popi, eo_g0, eo_g1, eo_g2, eo_g3, eo_g4, eo_g5, eo_g6, eo_g7, eo_g8, eo_g9, eo_g10, eo_g11, eo_g12, eo_g13, eo_g14, eo_s14, eo_g15, eo_g16, eo_s16, et_g0, et_g1, et_s1, et_g2, et_s2, et_g3, et_s3, et_g4, et_s4, eu_g0, eu_g1, eu_s1, eu_g2, eu_g3, eu_s3, eu_g4, eh_g0, eh_g1, eh_s1, eh_g2, eh_s2, ed_g0, ed_g1, ed_g2, ed_g3, ed_s3, ew_g0, ew_g1, ew_g2, ew_g3, ew_s3, en_g0, en_g1, en_s1, en_g2, en_g3, en_g4, en_g5, en_s5, ex_g0, ex_s0, eq_g0, eq_s0, eq_g1, eq_s1, eq_g2, eq_s2, eq_g3, eq_s3, eq_g4, eq_s4, eq_g5, eq_s5, eq_g6, eq_s6, eq_g7, eq_s7, ez_g0, ez_g1, ez_g2, ez_g3, ez_s3, ez_g4, ez_s4, ez_g5, ez_s5, ez_g6, ez_s6, ez_g7, ez_s7, ez_g8, ez_s8, ez_g9, ez_s9, ez_g10, ez_s10, ez_g11, ez_s11, ez_g12, ez_s12, ez_g13, ez_s13, ez_g14, ez_g15, ez_b0g, ez_b0s, ez_b1g, ez_b1s, ez_b2g, ez_b2s, ez_b3g, ez_b3s, ez_b4g, ez_b4s, ez_b5g, ez_b5s, ez_ba, ez_g0g, ez_g0s, ez_g1g, ez_g1s, ez_g2g, ez_g2s, ez_g3g, ez_g3s, ez_g4g, ez_g4s, ez_g5g, ez_g5s, ez_g6g, ez_g6s, ez_g7g, ez_g7s, ez_ga, ez_l0g, ez_l0s, ez_l1g, ez_l1s, ez_l2g, ez_l2s, ez_la, q_zs, q_zz, q_z1, q_z2, q_i2, q_ig, q_iz, q_jz, true_and, false_and, or_self, or_true, true_or, or_false, false_or, and_true, and_false, and_self, not_true_eq_false, not_false_eq_true, ec91, f1, x1, e_iinc, d1, Int.reduceEq]
      · rw [if_neg (by omega)]
      · rw [if_neg (by omega)]
        intro z
        omega
/-- the digits are kept, the draws made -/
theorem c_cdK {q : xQ} (h2 : q.1 2 = (T : Int)) (hT : T ≤ 12) {t : Nat → Int} (hc : ∀ i, i < T → q.2.1 2 i = t i) {sd f d : Int} : p_lop (lX11_codes_69 (gg (n + 4))) ([.inr (.inr (.inl (0, 0))), .inl sd, .inl (T : Int), .inl f, .inl 0], [], hC h (q_i q 14 d)) = some (.inl 1, ([.inr (.inr (.inl (0, 0))), .inl sd, .inl (T : Int), .inl f, .inl (T : Int)], [], hC h (cD q (xit (kCd1 t) T (d, q.2.1 26, q.2.1 27))))) := by
  refine k_for (fun i => ([.inr (.inr (.inl (0, 0))), .inl sd, .inl (T : Int), .inl f, .inl (i : Int)], [], hC h (cD q (xit (kCd1 t) i (d, q.2.1 26, q.2.1 27))))) T (by show (([.inr (.inr (.inl (0, 0))), .inl sd, .inl (T : Int), .inl f, .inl 0], [], hC h (cD q (d, q.2.1 26, q.2.1 27))) : xS) = _; rw [cD_self]) ?_ (fun i hi => ?_)
  · generalize xit (kCd1 t) T (d, q.2.1 26, q.2.1 27) = S
    have d1 : (T : Int) ≤ (T : Int) := Int.le_refl _
    clear hT hc h2
    simp -implicitDefEqProofs (disch := first | with_reducible assumption | with_reducible exact isc_zs (by assumption) | with_reducible exact isc_zs (by decide) | with_reducible exact isc_zb (by assumption) (by assumption) | with_reducible exact isc_zb (by decide) (by assumption) | with_reducible exact isc_zg (by assumption) (by assumption) | with_reducible exact isc_zl (by assumption) (by assumption) | with_reducible exact isc_0 | with_reducible exact isc_1 | with_reducible exact isc_3 | with_reducible exact isc_7 | with_reducible exact isc_11 | with_reducible exact isc_15 | with_reducible exact isc_19 | with_reducible exact isc_24 | with_reducible exact isc_25 | (simp only [List.map_cons, List.map_nil, List.sum_cons, List.sum_nil, xcat, Nat.reduceAdd, Nat.reduceLeDiff, Nat.zero_le]; done) | omega) only [lX11_codes_69, k_p_sq, k_p_blk, k_sq0, k_sq11, k_sq12, k_sq13, k_sq14, k_sq15, k_sqr, k_sqi, k_blk0, k_blk1, k_blk2, k_blk3, k_blk4, k_blk5, k_blkr, k_blki, k_finr, k_fini, k_mapi, k_bindi, k_if1, k_if2, k_ops, k_br, k_rv, k_ri, k_rl, k_rz, k_rzi, k_01d, k_sw, k_01a, k_01b, k_01c, k_ifn, x_cmp, decide_eq_true_eq, Option.map_some, Option.bind_some, Option.toList_some, Option.toList_none, List.cons_append, List.nil_append, Nat.reduceAdd, true_or, or_true, Int.reduceNeg, Int.reduceEq, reduceIte, Nat.zero_le, Nat.reduceLeDiff, Nat.le_refl, Nat.reduceEqDiff, List.getElem?_cons_zero, List.getElem?_cons_succ, xst, List.set_cons_zero, List.set_cons_succ, List.map_cons, List.map_nil, List.sum_cons, List.sum_nil, xcat, Nat.reduceMul, Nat.reduceDiv, Nat.reduceMod, Nat.add_zero, e_nil, e_iconst, e_il, e_al, e_ll, e_istore, e_astore, e_lstore, e_ic, e_iadd, e_isub, e_imul, e_iand, e_ior, e_ixor, e_ishl, e_ishr, e_ineg, e_dupi, e_dupr, e_dupx, e_dup2, e_popi, eo_g0, eo_g1, eo_g2, eo_g3, eo_g4, eo_g5, eo_g6, eo_g7, eo_g8, eo_g9, eo_g10, eo_g11, eo_g12, eo_g13, eo_g14, eo_s14, eo_g15, eo_g16, eo_s16, et_g0, et_g1, et_s1, et_g2, et_s2, et_g3, et_s3, et_g4, et_s4, eu_g0, eu_g1, eu_s1, eu_g2, eu_g3, eu_s3, eu_g4, eh_g0, eh_g1, eh_s1, eh_g2, eh_s2, ed_g0, ed_g1, ed_g2, ed_g3, ed_s3, ew_g0, ew_g1, ew_g2, ew_g3, ew_s3, en_g0, en_g1, en_s1, en_g2, en_g3, en_g4, en_g5, en_s5, ex_g0, ex_s0, eq_g0, eq_s0, eq_g1, eq_s1, eq_g2, eq_s2, eq_g3, eq_s3, eq_g4, eq_s4, eq_g5, eq_s5, eq_g6, eq_s6, eq_g7, eq_s7, ez_g0, ez_g1, ez_g2, ez_g3, ez_s3, ez_g4, ez_s4, ez_g5, ez_s5, ez_g6, ez_s6, ez_g7, ez_s7, ez_g8, ez_s8, ez_g9, ez_s9, ez_g10, ez_s10, ez_g11, ez_s11, ez_g12, ez_s12, ez_g13, ez_s13, ez_g14, ez_g15, ez_b0g, ez_b0s, ez_b1g, ez_b1s, ez_b2g, ez_b2s, ez_b3g, ez_b3s, ez_b4g, ez_b4s, ez_b5g, ez_b5s, ez_ba, ez_g0g, ez_g0s, ez_g1g, ez_g1s, ez_g2g, ez_g2s, ez_g3g, ez_g3s, ez_g4g, ez_g4s, ez_g5g, ez_g5s, ez_g6g, ez_g6s, ez_g7g, ez_g7s, ez_ga, ez_l0g, ez_l0s, ez_l1g, ez_l1s, ez_l2g, ez_l2s, ez_la, q_zs, q_zz, q_z1, q_z2, q_i2, q_ig, q_iz, q_jz, true_and, false_and, or_self, or_true, true_or, or_false, false_or, and_true, and_false, and_self, not_true_eq_false, not_false_eq_true, d1]
  · have hs : xit (kCd1 t) (i + 1) (d, q.2.1 26, q.2.1 27) = kCd1 t i (xit (kCd1 t) i (d, q.2.1 26, q.2.1 27)) := rfl
    rw [hs]
    generalize xit (kCd1 t) i (d, q.2.1 26, q.2.1 27) = S
    unfold kCd1
    have f1 := c_sgAt (n := n + 3) (h := h) (c := cD q S) (T := T) (x := (i : Int)) h2 (by omega) (by omega) (by omega)
    rw [Int.toNat_natCast, show (cD q S).2.1 2 i = t i from hc i hi] at f1
    have f2 := c_next (n := n + 3) (h := h) (c := cD q (S.1, xfu S.2.1 i (xw (t i - 48)), S.2.2)) (k := 11) (by decide)
    rw [cD_14, cD_p14] at f2
    dsimp only at f2
    have d1 : ¬ (T : Int) ≤ (i : Int) := by omega
    have d2 : (i : Int) < 12 := by omega
    have d3 : (0 : Int) ≤ (i : Int) := by omega
    have x1 : xw ((i : Int) + 1) = ((i + 1 : Nat) : Int) := by rw [xw_id (by omega) (by omega)]; omega
    clear hs hc h2 hT hi
    simp -implicitDefEqProofs (disch := first | with_reducible assumption | with_reducible exact isc_zs (by assumption) | with_reducible exact isc_zs (by decide) | with_reducible exact isc_zb (by assumption) (by assumption) | with_reducible exact isc_zb (by decide) (by assumption) | with_reducible exact isc_zg (by assumption) (by assumption) | with_reducible exact isc_zl (by assumption) (by assumption) | with_reducible exact isc_0 | with_reducible exact isc_1 | with_reducible exact isc_3 | with_reducible exact isc_7 | with_reducible exact isc_11 | with_reducible exact isc_15 | with_reducible exact isc_19 | with_reducible exact isc_24 | with_reducible exact isc_25 | (simp only [List.map_cons, List.map_nil, List.sum_cons, List.sum_nil, xcat, Nat.reduceAdd, Nat.reduceLeDiff, Nat.zero_le]; done) | omega) only [lX11_codes_69, k_p_sq, k_p_blk, k_sq0, k_sq11, k_sq12, k_sq13, k_sq14, k_sq15, k_sqr, k_sqi, k_blk0, k_blk1, k_blk2, k_blk3, k_blk4, k_blk5, k_blkr, k_blki, k_finr, k_fini, k_mapi, k_bindi, k_if1, k_if2, k_ops, k_br, k_rv, k_ri, k_rl, k_rz, k_rzi, k_01d, k_sw, k_01a, k_01b, k_01c, k_ifn, x_cmp, decide_eq_true_eq, Option.map_some, Option.bind_some, Option.toList_some, Option.toList_none, List.cons_append, List.nil_append, Nat.reduceAdd, true_or, or_true, Int.reduceNeg, Int.reduceEq, reduceIte, Nat.zero_le, Nat.reduceLeDiff, Nat.le_refl, Nat.reduceEqDiff, List.getElem?_cons_zero, List.getElem?_cons_succ, xst, List.set_cons_zero, List.set_cons_succ, List.map_cons, List.map_nil, List.sum_cons, List.sum_nil, xcat, Nat.reduceMul, Nat.reduceDiv, Nat.reduceMod, Nat.add_zero, e_nil, e_iconst, e_il, e_al, e_ll, e_istore, e_astore, e_lstore, e_ic, e_iadd, e_isub, e_imul, e_iand, e_ior, e_ixor, e_ishl, e_ishr, e_ineg, e_dupi, e_dupr, e_dupx, e_dup2, e_popi, eo_g0, eo_g1, eo_g2, eo_g3, eo_g4, eo_g5, eo_g6, eo_g7, eo_g8, eo_g9, eo_g10, eo_g11, eo_g12, eo_g13, eo_g14, eo_s14, eo_g15, eo_g16, eo_s16, et_g0, et_g1, et_s1, et_g2, et_s2, et_g3, et_s3, et_g4, et_s4, eu_g0, eu_g1, eu_s1, eu_g2, eu_g3, eu_s3, eu_g4, eh_g0, eh_g1, eh_s1, eh_g2, eh_s2, ed_g0, ed_g1, ed_g2, ed_g3, ed_s3, ew_g0, ew_g1, ew_g2, ew_g3, ew_s3, en_g0, en_g1, en_s1, en_g2, en_g3, en_g4, en_g5, en_s5, ex_g0, ex_s0, eq_g0, eq_s0, eq_g1, eq_s1, eq_g2, eq_s2, eq_g3, eq_s3, eq_g4, eq_s4, eq_g5, eq_s5, eq_g6, eq_s6, eq_g7, eq_s7, ez_g0, ez_g1, ez_g2, ez_g3, ez_s3, ez_g4, ez_s4, ez_g5, ez_s5, ez_g6, ez_s6, ez_g7, ez_s7, ez_g8, ez_s8, ez_g9, ez_s9, ez_g10, ez_s10, ez_g11, ez_s11, ez_g12, ez_s12, ez_g13, ez_s13, ez_g14, ez_g15, ez_b0g, ez_b0s, ez_b1g, ez_b1s, ez_b2g, ez_b2s, ez_b3g, ez_b3s, ez_b4g, ez_b4s, ez_b5g, ez_b5s, ez_ba, ez_g0g, ez_g0s, ez_g1g, ez_g1s, ez_g2g, ez_g2s, ez_g3g, ez_g3s, ez_g4g, ez_g4s, ez_g5g, ez_g5s, ez_g6g, ez_g6s, ez_g7g, ez_g7s, ez_ga, ez_l0g, ez_l0s, ez_l1g, ez_l1s, ez_l2g, ez_l2s, ez_la, q_zs, q_zz, q_z1, q_z2, q_i2, q_ig, q_iz, q_jz, true_and, false_and, or_self, or_true, true_or, or_false, false_or, and_true, and_false, and_self, not_true_eq_false, not_false_eq_true, d1, ec84, f1, eq_w26, cD_26, cD_p26, Int.toNat_natCast, ec10, f2, eq_w27, cD_27, cD_p27, x1, e_iinc]
theorem kCd1_v {t : Nat → Int} {d : Int} {f g f' g' : Nat → Int} : ∀ N, (xit (kCd1 t) N (d, f, g)).1 = (xit (kCd1 t) N (d, f', g')).1 ∧ ∀ i, i < N → (xit (kCd1 t) N (d, f, g)).2.1 i = (xit (kCd1 t) N (d, f', g')).2.1 i ∧ (xit (kCd1 t) N (d, f, g)).2.2 i = (xit (kCd1 t) N (d, f', g')).2.2 i
  | 0 => ⟨rfl, fun i hi => absurd hi (by omega)⟩
  | N + 1 => by
    obtain ⟨h1, h2⟩ := kCd1_v (t := t) (d := d) (f := f) (g := g) (f' := f') (g' := g') N
    show (kCd1 t N (xit (kCd1 t) N (d, f, g))).1 = (kCd1 t N (xit (kCd1 t) N (d, f', g'))).1 ∧ ∀ i, i < N + 1 → (kCd1 t N (xit (kCd1 t) N (d, f, g))).2.1 i = (kCd1 t N (xit (kCd1 t) N (d, f', g'))).2.1 i ∧ (kCd1 t N (xit (kCd1 t) N (d, f, g))).2.2 i = (kCd1 t N (xit (kCd1 t) N (d, f', g'))).2.2 i
    generalize xit (kCd1 t) N (d, f, g) = X at *
    generalize xit (kCd1 t) N (d, f', g') = Y at *
    unfold kCd1
    dsimp only
    rw [h1]
    refine ⟨rfl, fun i hi => ?_⟩
    unfold xfu
    by_cases e : i = N
    · rw [if_pos e, if_pos e, if_pos e, if_pos e]
      exact ⟨rfl, rfl⟩
    · rw [if_neg e, if_neg e, if_neg e, if_neg e]
      exact h2 i (by omega)
theorem kCd_dig (t : Nat → Int) : ∀ m k, kCd t m k = 0 → ∀ i, k ≤ i → i < k + m → 48 ≤ t i ∧ t i ≤ 57
  | 0, k, _, i, h1, h2 => by omega
  | m + 1, k, h, i, h1, h2 => by
    unfold kCd at h
    split at h
    · omega
    · rename_i c
      by_cases e : i = k
      · subst e
        omega
      · exact kCd_dig t m (k + 1) h i (by omega) (by omega)
theorem Rel_word (hr : Rel r c) {W : Nat} (hW : W ≤ 12) {f g f' g' : Nat → Int} (hf : ∀ i, i < W → f' i = f i ∧ g' i = g i) : Rel (xr_i (xr_j (xr_j r 18 f) 19 g) 42 (W : Int)) (q_i (q_j (q_j c 26 f') 27 g') 0 (W : Int)) := by
  obtain ⟨h1, h2, h3, h4, h5, h6, -, h8⟩ := hr
  exact ⟨h1, h2, h3, h4, h5, h6, ⟨W, hW, rfl, rfl, hf⟩, h8⟩
set_option maxHeartbeats 1000000 in
theorem P_codes (sd : Int) : Par 269 153 [.inl sd] := by
  intro n h h' r c hr
  obtain ⟨T, t1, t2, t3, t4⟩ := hr.2.2.2.2.1
  obtain ⟨r', fR, eR⟩ := R_codes (n := n + 898) (h := h) (r := r) (by omega) (by omega) sd
  have hx := TX_open (r := r) (c := c) (T := T) (m := 12) (by decide) t1 t3 t4
  rw [show ((12 : Nat) : Int) = 12 from rfl] at hx
  have f0 := c_open (n := n + 897) (h := h') (c := c) (T := T) 12 t3
  rw [show ((12 : Nat) : Int) = 12 from rfl] at f0
  obtain ⟨D, A, B, k1, ⟨a1, a2⟩, ⟨b1, b2⟩, hD, eF, eD⟩ := c_cdL (n := n + 895) (h := h') hx (sd := sd) (.inr (.inr (.inr 2))) (.inr (.inr (.inr 2))) T 0 (by omega) (by omega) (by decide)
  rw [show ((0 : Nat) : Int) = 0 from rfl] at k1
  have hq2 : (q_i c 3 ((min T 12 : Nat) : Int)).1 2 = (T : Int) := t3
  have hqz : ∀ j, j ≠ 2 → (q_i c 3 ((min T 12 : Nat) : Int)).2.1 j = c.2.1 j := fun _ _ => rfl
  have hqt : ∀ i, (q_i c 3 ((min T 12 : Nat) : Int)).2.1 2 i = c.2.1 2 i := fun _ => rfl
  have hQ : ∃ q, q = q_i c 3 ((min T 12 : Nat) : Int) := ⟨_, rfl⟩
  obtain ⟨q, hq⟩ := hQ
  rw [← hq] at k1 hq2 f0 hqz hqt
  have f1 := c_fault (n := n + 897) (h := h') (c := q) (a := A) (b := B) hq2 a1 (by omega) b1 (by omega)
  have hB' : -1 ≤ (if B = -1 ∧ A < (T : Int) then A else B) ∧ (if B = -1 ∧ A < (T : Int) then A else B) < 1000 := by split <;> omega
  by_cases d : (if B = -1 then (if A < (T : Int) then -1 - A else 0) else -1 - B) = 0
  · have eD := eD d
    rw [d] at f1 eF
    have hT0 : ¬ T = 0 := by
      intro z
      rw [if_pos z] at eF
      omega
    rw [if_neg hT0] at eF
    subst eD
    have hB1 : B = -1 := by
      by_cases z : B = -1
      · exact z
      · rw [if_neg z] at d
        omega
    subst hB1
    have hA : ¬ A < (D : Int) := by
      intro z
      rw [if_pos rfl, if_pos z] at d
      omega
    rw [if_neg (fun z => hA z.2)] at f1
    have hdig := kCd_dig (r.2 4) D 0 eF.symm
    have hcc : ∀ i, i < D → (q_i (cRd q A (-1)) 0 (D : Int)).2.1 2 i = r.2 4 i := by
      intro i hi
      show q.2.1 2 i = _
      rw [hqt, (t4 i hi).2, xand_255]
      have := hdig i (Nat.zero_le _) (by omega)
      omega
    have k2 := c_cdK (n := n + 895) (h := h') (q := q_i (cRd q A (-1)) 0 (D : Int)) (T := D) hq2 hD hcc (sd := sd) (f := 0) (d := sd)
    have eq1 : ∀ S, cD (q_i (cRd q A (-1)) 0 (D : Int)) S = cRd (cD (q_i q 0 (D : Int)) S) A (-1) := by
      intro S
      rw [← cD_rd]
      unfold cRd
      rw [q_ic _ (show 5 ≠ 0 by decide), q_ic _ (show 4 ≠ 0 by decide)]
    rw [eq1, show (q_i (cRd q A (-1)) 0 (D : Int)).2.1 26 = c.2.1 26 from hqz 26 (by decide), show (q_i (cRd q A (-1)) 0 (D : Int)).2.1 27 = c.2.1 27 from hqz 27 (by decide)] at k2
    have f3 := fun (Q : xQ) => c_start (n := n + 898) (h := h') (c := Q) sd
    have hv := (kCd1_v (t := r.2 4) (d := sd) (f := c.2.1 26) (g := c.2.1 27) (f' := r.2 18) (g' := r.2 19) D).2
    have hsC : sCodes r sd = ((D : Int), xr_i (rD (xr_i (xr_i r 11 0) 8 0) (xit (kCd1 (r.2 4)) D (sd, r.2 18, r.2 19))) 42 (D : Int)) := by
      unfold sCodes
      rw [t2, Int.toNat_natCast, if_neg (by omega), if_neg (by omega)]
    rw [hsC] at fR eR
    generalize xit (kCd1 (r.2 4)) D (sd, r.2 18, r.2 19) = S at *
    generalize xit (kCd1 (r.2 4)) D (sd, c.2.1 26, c.2.1 27) = S' at *
    have f4 := c_close (n := n + 896) (h := h') (c := cD (q_i q 0 (D : Int)) S') (a := A) (w := -1) (L := (D : Int)) hq2 a1 (by omega) (by decide) (by decide)
    rw [if_pos rfl, if_neg hA, if_neg (fun z => hA z.2)] at f4
    refine ⟨(D : Int), r', q_i (cRd (cD (q_i q 0 (D : Int)) S') A (-1)) 2 0, fR, ?_, ?_⟩
    · rw [gr153]
      have d9 : ¬ (0 : Int) < 0 := by decide
      clear hr hx t4 fR eR hdig hcc eq1 hv hsC hqz hqt hq d eF hB' a1 a2 b1 b2
      simp -implicitDefEqProofs (disch := first | with_reducible assumption | with_reducible exact isc_zs (by assumption) | with_reducible exact isc_zs (by decide) | with_reducible exact isc_zb (by assumption) (by assumption) | with_reducible exact isc_zb (by decide) (by assumption) | with_reducible exact isc_zg (by assumption) (by assumption) | with_reducible exact isc_zl (by assumption) (by assumption) | with_reducible exact isc_0 | with_reducible exact isc_1 | with_reducible exact isc_3 | with_reducible exact isc_7 | with_reducible exact isc_11 | with_reducible exact isc_15 | with_reducible exact isc_19 | with_reducible exact isc_24 | with_reducible exact isc_25 | (simp only [List.map_cons, List.map_nil, List.sum_cons, List.sum_nil, xcat, Nat.reduceAdd, Nat.reduceLeDiff, Nat.zero_le]; done) | omega) only [fX11_codes, k_p_sq, k_p_blk, k_sq0, k_sq11, k_sq12, k_sq13, k_sq14, k_sq15, k_sqr, k_sqi, k_blk0, k_blk1, k_blk2, k_blk3, k_blk4, k_blk5, k_blkr, k_blki, k_finr, k_fini, k_mapi, k_bindi, k_if1, k_if2, k_ops, k_br, k_rv, k_ri, k_rl, k_rz, k_rzi, k_01d, k_sw, k_01a, k_01b, k_01c, k_ifn, x_cmp, decide_eq_true_eq, Option.map_some, Option.bind_some, Option.toList_some, Option.toList_none, List.cons_append, List.nil_append, Nat.reduceAdd, true_or, or_true, Int.reduceNeg, Int.reduceEq, reduceIte, Nat.zero_le, Nat.reduceLeDiff, Nat.le_refl, Nat.reduceEqDiff, List.getElem?_cons_zero, List.getElem?_cons_succ, xst, List.set_cons_zero, List.set_cons_succ, List.map_cons, List.map_nil, List.sum_cons, List.sum_nil, xcat, Nat.reduceMul, Nat.reduceDiv, Nat.reduceMod, Nat.add_zero, e_nil, e_iconst, e_il, e_al, e_ll, e_istore, e_astore, e_lstore, e_ic, e_iadd, e_isub, e_imul, e_iand, e_ior, e_ixor, e_ishl, e_ishr, e_ineg, e_dupi, e_dupr, e_dupx, e_dup2, e_popi, eo_g0, eo_g1, eo_g2, eo_g3, eo_g4, eo_g5, eo_g6, eo_g7, eo_g8, eo_g9, eo_g10, eo_g11, eo_g12, eo_g13, eo_g14, eo_s14, eo_g15, eo_g16, eo_s16, et_g0, et_g1, et_s1, et_g2, et_s2, et_g3, et_s3, et_g4, et_s4, eu_g0, eu_g1, eu_s1, eu_g2, eu_g3, eu_s3, eu_g4, eh_g0, eh_g1, eh_s1, eh_g2, eh_s2, ed_g0, ed_g1, ed_g2, ed_g3, ed_s3, ew_g0, ew_g1, ew_g2, ew_g3, ew_s3, en_g0, en_g1, en_s1, en_g2, en_g3, en_g4, en_g5, en_s5, ex_g0, ex_s0, eq_g0, eq_s0, eq_g1, eq_s1, eq_g2, eq_s2, eq_g3, eq_s3, eq_g4, eq_s4, eq_g5, eq_s5, eq_g6, eq_s6, eq_g7, eq_s7, ez_g0, ez_g1, ez_g2, ez_g3, ez_s3, ez_g4, ez_s4, ez_g5, ez_s5, ez_g6, ez_s6, ez_g7, ez_s7, ez_g8, ez_s8, ez_g9, ez_s9, ez_g10, ez_s10, ez_g11, ez_s11, ez_g12, ez_s12, ez_g13, ez_s13, ez_g14, ez_g15, ez_b0g, ez_b0s, ez_b1g, ez_b1s, ez_b2g, ez_b2s, ez_b3g, ez_b3s, ez_b4g, ez_b4s, ez_b5g, ez_b5s, ez_ba, ez_g0g, ez_g0s, ez_g1g, ez_g1s, ez_g2g, ez_g2s, ez_g3g, ez_g3s, ez_g4g, ez_g4s, ez_g5g, ez_g5s, ez_g6g, ez_g6s, ez_g7g, ez_g7s, ez_ga, ez_l0g, ez_l0s, ez_l1g, ez_l1s, ez_l2g, ez_l2s, ez_la, q_zs, q_zz, q_z1, q_z2, q_i2, q_ig, q_iz, q_jz, true_and, false_and, or_self, or_true, true_or, or_false, false_or, and_true, and_false, and_self, not_true_eq_false, not_false_eq_true, ec82, f0, k1, ec94, f1, ec9, f3, k2, ec95, f4, Int.reduceEq, Int.reduceLT, Int.reduceLE]
    · refine Rel_r (REq_C eR.symm) ?_
      have hrw := Rel_word hr (W := D) hD (f := S.2.1) (g := S.2.2) (f' := S'.2.1) (g' := S'.2.2) hv
      subst hq
      refine Rel_shut hrw rfl (fun i hi => ?_) (fun j hj => ?_) rfl (fun i hi => ?_) (fun j hj => ?_) (fun k hk => rfl) (fun i hi => rfl)
      · rcases hi with rfl | rfl | rfl | rfl | rfl | rfl | rfl | rfl | rfl <;> rfl
      · rcases hj with rfl | rfl | rfl | rfl | rfl | rfl | rfl | rfl | rfl | rfl | rfl <;> rfl
      · rcases hi with rfl | rfl | rfl | rfl | rfl <;> rfl
      · rcases hj with rfl | rfl | rfl | rfl | rfl <;> rfl
  · have hsC : sCodes r sd = ((if B = -1 then (if A < (T : Int) then -1 - A else 0) else -1 - B), xr_i (xr_i r 11 0) 8 0) := by
      unfold sCodes
      rw [t2, Int.toNat_natCast]
      by_cases z : T = 0
      · rw [if_pos z] at eF
        subst z
        rw [if_neg (by show ¬ (0 : Int) < 0; decide), if_pos (show ((0 : Nat) : Int) = 0 from rfl), eF]
      · rw [if_neg z] at eF
        rw [eF] at d ⊢
        have := kCd_ok (r.2 4) T 0
        rw [if_pos (by omega)]
    have hF0 : (if B = -1 then (if A < (T : Int) then -1 - A else 0) else -1 - B) < 0 := by
      split <;> (try split) <;> omega
    rw [hsC] at fR eR
    have f4 := c_close (n := n + 896) (h := h') (c := q) (a := A) (w := if B = -1 ∧ A < (T : Int) then A else B) (L := (T : Int)) hq2 a1 (by omega) hB'.1 hB'.2
    generalize (if B = -1 then (if A < (T : Int) then -1 - A else 0) else -1 - B) = F at *
    generalize (if B = -1 ∧ A < (T : Int) then A else B) = B' at *
    generalize (if B' = -1 then (if A < (T : Int) then -1 - A else 0) else -1 - B') = F2 at *
    generalize (if B' = -1 ∧ A < (T : Int) then A else B') = B2 at *
    refine ⟨F, r', q_i (cRd q A B2) 2 0, fR, ?_, ?_⟩
    · rw [gr153]
      have d9 : ¬ (0 : Int) ≤ F := by omega
      clear hr hx t4 fR eR hqz hqt hq eF hB' a1 a2 b1 b2 hsC eD hF0
      simp -implicitDefEqProofs (disch := first | with_reducible assumption | with_reducible exact isc_zs (by assumption) | with_reducible exact isc_zs (by decide) | with_reducible exact isc_zb (by assumption) (by assumption) | with_reducible exact isc_zb (by decide) (by assumption) | with_reducible exact isc_zg (by assumption) (by assumption) | with_reducible exact isc_zl (by assumption) (by assumption) | with_reducible exact isc_0 | with_reducible exact isc_1 | with_reducible exact isc_3 | with_reducible exact isc_7 | with_reducible exact isc_11 | with_reducible exact isc_15 | with_reducible exact isc_19 | with_reducible exact isc_24 | with_reducible exact isc_25 | (simp only [List.map_cons, List.map_nil, List.sum_cons, List.sum_nil, xcat, Nat.reduceAdd, Nat.reduceLeDiff, Nat.zero_le]; done) | omega) only [fX11_codes, k_p_sq, k_p_blk, k_sq0, k_sq11, k_sq12, k_sq13, k_sq14, k_sq15, k_sqr, k_sqi, k_blk0, k_blk1, k_blk2, k_blk3, k_blk4, k_blk5, k_blkr, k_blki, k_finr, k_fini, k_mapi, k_bindi, k_if1, k_if2, k_ops, k_br, k_rv, k_ri, k_rl, k_rz, k_rzi, k_01d, k_sw, k_01a, k_01b, k_01c, k_ifn, x_cmp, decide_eq_true_eq, Option.map_some, Option.bind_some, Option.toList_some, Option.toList_none, List.cons_append, List.nil_append, Nat.reduceAdd, true_or, or_true, Int.reduceNeg, Int.reduceEq, reduceIte, Nat.zero_le, Nat.reduceLeDiff, Nat.le_refl, Nat.reduceEqDiff, List.getElem?_cons_zero, List.getElem?_cons_succ, xst, List.set_cons_zero, List.set_cons_succ, List.map_cons, List.map_nil, List.sum_cons, List.sum_nil, xcat, Nat.reduceMul, Nat.reduceDiv, Nat.reduceMod, Nat.add_zero, e_nil, e_iconst, e_il, e_al, e_ll, e_istore, e_astore, e_lstore, e_ic, e_iadd, e_isub, e_imul, e_iand, e_ior, e_ixor, e_ishl, e_ishr, e_ineg, e_dupi, e_dupr, e_dupx, e_dup2, e_popi, eo_g0, eo_g1, eo_g2, eo_g3, eo_g4, eo_g5, eo_g6, eo_g7, eo_g8, eo_g9, eo_g10, eo_g11, eo_g12, eo_g13, eo_g14, eo_s14, eo_g15, eo_g16, eo_s16, et_g0, et_g1, et_s1, et_g2, et_s2, et_g3, et_s3, et_g4, et_s4, eu_g0, eu_g1, eu_s1, eu_g2, eu_g3, eu_s3, eu_g4, eh_g0, eh_g1, eh_s1, eh_g2, eh_s2, ed_g0, ed_g1, ed_g2, ed_g3, ed_s3, ew_g0, ew_g1, ew_g2, ew_g3, ew_s3, en_g0, en_g1, en_s1, en_g2, en_g3, en_g4, en_g5, en_s5, ex_g0, ex_s0, eq_g0, eq_s0, eq_g1, eq_s1, eq_g2, eq_s2, eq_g3, eq_s3, eq_g4, eq_s4, eq_g5, eq_s5, eq_g6, eq_s6, eq_g7, eq_s7, ez_g0, ez_g1, ez_g2, ez_g3, ez_s3, ez_g4, ez_s4, ez_g5, ez_s5, ez_g6, ez_s6, ez_g7, ez_s7, ez_g8, ez_s8, ez_g9, ez_s9, ez_g10, ez_s10, ez_g11, ez_s11, ez_g12, ez_s12, ez_g13, ez_s13, ez_g14, ez_g15, ez_b0g, ez_b0s, ez_b1g, ez_b1s, ez_b2g, ez_b2s, ez_b3g, ez_b3s, ez_b4g, ez_b4s, ez_b5g, ez_b5s, ez_ba, ez_g0g, ez_g0s, ez_g1g, ez_g1s, ez_g2g, ez_g2s, ez_g3g, ez_g3s, ez_g4g, ez_g4s, ez_g5g, ez_g5s, ez_g6g, ez_g6s, ez_g7g, ez_g7s, ez_ga, ez_l0g, ez_l0s, ez_l1g, ez_l1s, ez_l2g, ez_l2s, ez_la, q_zs, q_zz, q_z1, q_z2, q_i2, q_ig, q_iz, q_jz, true_and, false_and, or_self, or_true, true_or, or_false, false_or, and_true, and_false, and_self, not_true_eq_false, not_false_eq_true, ec82, f0, k1, ec94, f1, d, d9, ec95, f4, Int.reduceEq]
    · refine Rel_r (REq_C eR.symm) ?_
      subst hq
      refine Rel_shut hr rfl (fun i hi => ?_) (fun j hj => ?_) rfl (fun i hi => ?_) (fun j hj => ?_) (fun k hk => rfl) (fun i hi => rfl)
      · rcases hi with rfl | rfl | rfl | rfl | rfl | rfl | rfl | rfl | rfl <;> rfl
      · rcases hj with rfl | rfl | rfl | rfl | rfl | rfl | rfl | rfl | rfl | rfl | rfl <;> rfl
      · rcases hi with rfl | rfl | rfl | rfl | rfl <;> rfl
      · rcases hj with rfl | rfl | rfl | rfl | rfl <;> rfl
end CD
