/-! ===== the class: what is told; what can be undone ===== -/
/-- a method of the reference and one of the class, at the same arguments -/
def Par (mr mc : Nat) (args : List xV) : Prop := ∀ (n : Nat) (h h' : xH) (r : xR) (c : xQ), Rel r c → ∃ (v : Int) (r' : xR) (c' : xQ), (gg (n + 900) mr).2 (.inr (.inr (.inl (1, 0))) :: args) (hR h r) = some (some (.inl v), hR h r') ∧ (gg (n + 900) mc).2 (.inr (.inr (.inl (0, 0))) :: args) (hC h' c) = some (some (.inl v), hC h' c') ∧ Rel r' c'
def qTell (c : xQ) (vs : List Int) : xQ := q_i (q_j c 28 (fun i => if i < vs.length then vs.getD i 0 else c.2.1 28 i)) 1 vs.length
theorem qTell_0 (c : xQ) : qTell c [] = q_i c 1 0 := by
  unfold qTell
  have e : (fun i => if i < ([] : List Int).length then ([] : List Int).getD i 0 else c.2.1 28 i) = c.2.1 28 := by
    funext i
    rw [if_neg (by show ¬ i < 0; omega)]
  rw [e, q_j0]
  rfl
theorem qTell_g (c : xQ) (vs : List Int) : (qTell c vs).1 1 = (vs.length : Int) := by
  show xfu c.1 1 (vs.length : Int) 1 = _
  exact xfu_self _ _ _
theorem qTell_28 (c : xQ) (vs : List Int) {i : Nat} (hi : i < vs.length) : (qTell c vs).2.1 28 i = vs.getD i 0 := by
  show xfu c.2.1 28 (fun i => if i < vs.length then vs.getD i 0 else c.2.1 28 i) 28 i = _
  rw [xfu_self, if_pos hi]
theorem qTell_1 (c : xQ) (vs : List Int) {i : Nat} (hi : i ≠ 1) : (qTell c vs).1 i = c.1 i := xfu_ne _ _ hi
theorem qTell_2 (c : xQ) (vs : List Int) {j : Nat} (hj : j ≠ 28) : (qTell c vs).2.1 j = c.2.1 j := xfu_ne _ _ hj
theorem qTell_3 (c : xQ) (vs : List Int) : (qTell c vs).2.2 = c.2.2 := rfl
theorem qTell_z (c : xQ) (vs : List Int) (k : Nat) (z : Nat → Int) : qTell (q_z c k z) vs = q_z (qTell c vs) k z := rfl
section CT
variable {n : Nat} {h : xH} {c : xQ} {H : xH} {k b g m : Nat}
theorem eq_l28 {G : xG} {rg : Nat} {l : List Instr} {L S : List xV} : xIs x_dd G rg (.arraylength :: l) (L, .inr (.inr (.inl (0, 28))) :: S, hC h c) = xIs x_dd G rg l (L, .inl 8 :: S, hC h c) := rfl
theorem c_tellMore (v : Int) {vs : List Int} (hv : vs.length < 8) : (gg (n + 1) 162).2 [.inr (.inr (.inl (0, 0))), .inl v] (hC h (qTell c vs)) = some (none, hC h (qTell c (vs ++ [v]))) := by
  rw [gr162]
  have e1 := qTell_g c vs
  have c1 : ¬ (8 : Int) ≤ (vs.length : Int) := by omega
  have x1 : xw ((vs.length : Int) + 1) = ((vs.length + 1 : Nat) : Int) := by rw [xw_id (by omega) (by omega)]; omega
  have e2 : q_i (q_j (qTell c vs) 28 (xfu ((qTell c vs).2.1 28) vs.length v)) 1 ((vs.length + 1 : Nat) : Int) = qTell c (vs ++ [v]) := by
    unfold qTell
    rw [q_ij, q_ii, q_jj, List.length_append, List.length_singleton]
    refine congrArg (fun f => q_i (q_j c 28 f) 1 ((vs.length + 1 : Nat) : Int)) (funext fun i => ?_)
    have e3 : (q_i (q_j c 28 (fun i => if i < vs.length then vs.getD i 0 else c.2.1 28 i)) 1 (vs.length : Int)).2.1 28 = fun i => if i < vs.length then vs.getD i 0 else c.2.1 28 i := q_js
    rw [e3]
    by_cases c2 : i = vs.length
    · subst c2
      rw [xfu_self, if_pos (by omega), List.getD_eq_getElem?_getD, List.getElem?_append_right (Nat.le_refl _), Nat.sub_self]
      rfl
    · rw [xfu_ne _ _ c2]
      try dsimp only
      by_cases c3 : i < vs.length
      · rw [if_pos c3, if_pos (by omega), List.getD_eq_getElem?_getD, List.getD_eq_getElem?_getD, List.getElem?_append_left c3]
      · rw [if_neg c3, if_neg (by omega)]
  rw [← e2]
  simp -implicitDefEqProofs (disch := first | with_reducible assumption | with_reducible exact isc_zs (by assumption) | with_reducible exact isc_zs (by decide) | with_reducible exact isc_zb (by assumption) (by assumption) | with_reducible exact isc_zb (by decide) (by assumption) | with_reducible exact isc_zg (by assumption) (by assumption) | with_reducible exact isc_zl (by assumption) (by assumption) | with_reducible exact isc_0 | with_reducible exact isc_1 | with_reducible exact isc_3 | with_reducible exact isc_7 | with_reducible exact isc_11 | with_reducible exact isc_15 | with_reducible exact isc_19 | with_reducible exact isc_24 | with_reducible exact isc_25 | (simp only [List.map_cons, List.map_nil, List.sum_cons, List.sum_nil, xcat, Nat.reduceAdd, Nat.reduceLeDiff, Nat.zero_le]; done) | omega) only [fX11_tellMore, k_p_sq, k_p_blk, k_sq0, k_sq11, k_sq12, k_sq13, k_sq14, k_sq15, k_sqr, k_sqi, k_blk0, k_blk1, k_blk2, k_blk3, k_blk4, k_blk5, k_blkr, k_blki, k_finr, k_fini, k_mapi, k_bindi, k_if1, k_if2, k_ops, k_br, k_rv, k_ri, k_rl, k_rz, k_rzi, k_01d, k_sw, k_01a, k_01b, k_01c, k_ifn, x_cmp, decide_eq_true_eq, Option.map_some, Option.bind_some, Option.toList_some, Option.toList_none, List.cons_append, List.nil_append, Nat.reduceAdd, true_or, or_true, Int.reduceNeg, Int.reduceEq, reduceIte, Nat.zero_le, Nat.reduceLeDiff, Nat.le_refl, Nat.reduceEqDiff, List.getElem?_cons_zero, List.getElem?_cons_succ, xst, List.set_cons_zero, List.set_cons_succ, List.map_cons, List.map_nil, List.sum_cons, List.sum_nil, xcat, Nat.reduceMul, Nat.reduceDiv, Nat.reduceMod, Nat.add_zero, e_nil, e_iconst, e_il, e_al, e_ll, e_istore, e_astore, e_lstore, e_ic, e_iadd, e_isub, e_imul, e_iand, e_ior, e_ixor, e_ishl, e_ishr, e_ineg, e_dupi, e_dupr, e_dupx, e_dup2, e_popi, eo_g0, eo_g1, eo_g2, eo_g3, eo_g4, eo_g5, eo_g6, eo_g7, eo_g8, eo_g9, eo_g10, eo_g11, eo_g12, eo_g13, eo_g14, eo_s14, eo_g15, eo_g16, eo_s16, et_g0, et_g1, et_s1, et_g2, et_s2, et_g3, et_s3, et_g4, et_s4, eu_g0, eu_g1, eu_s1, eu_g2, eu_g3, eu_s3, eu_g4, eh_g0, eh_g1, eh_s1, eh_g2, eh_s2, ed_g0, ed_g1, ed_g2, ed_g3, ed_s3, ew_g0, ew_g1, ew_g2, ew_g3, ew_s3, en_g0, en_g1, en_s1, en_g2, en_g3, en_g4, en_g5, en_s5, ex_g0, ex_s0, eq_g0, eq_s0, eq_g1, eq_s1, eq_g2, eq_s2, eq_g3, eq_s3, eq_g4, eq_s4, eq_g5, eq_s5, eq_g6, eq_s6, eq_g7, eq_s7, ez_g0, ez_g1, ez_g2, ez_g3, ez_s3, ez_g4, ez_s4, ez_g5, ez_s5, ez_g6, ez_s6, ez_g7, ez_s7, ez_g8, ez_s8, ez_g9, ez_s9, ez_g10, ez_s10, ez_g11, ez_s11, ez_g12, ez_s12, ez_g13, ez_s13, ez_g14, ez_g15, ez_b0g, ez_b0s, ez_b1g, ez_b1s, ez_b2g, ez_b2s, ez_b3g, ez_b3s, ez_b4g, ez_b4s, ez_b5g, ez_b5s, ez_ba, ez_g0g, ez_g0s, ez_g1g, ez_g1s, ez_g2g, ez_g2s, ez_g3g, ez_g3s, ez_g4g, ez_g4s, ez_g5g, ez_g5s, ez_g6g, ez_g6s, ez_g7g, ez_g7s, ez_ga, ez_l0g, ez_l0s, ez_l1g, ez_l1s, ez_l2g, ez_l2s, ez_la, q_zs, q_zz, q_z1, q_z2, q_i2, q_ig, q_iz, q_jz, true_and, false_and, or_self, or_true, true_or, or_false, false_or, and_true, and_false, and_self, not_true_eq_false, not_false_eq_true, e1, c1, x1, eq_l28, eq_w28, Int.reduceNeg, Int.reduceToNat, Int.toNat_natCast, Int.toNat_add_nat, q_j1]
theorem c_tellOne (v : Int) : (gg (n + 2) 163).2 [.inr (.inr (.inl (0, 0))), .inl v] (hC h c) = some (none, hC h (qTell c [v])) := by
  rw [gr163]
  have f1 := c_tellMore (n := n) (h := h) (c := c) v (vs := []) (by decide)
  rw [qTell_0] at f1
  rw [List.nil_append] at f1
  simp -implicitDefEqProofs (disch := first | with_reducible assumption | with_reducible exact isc_zs (by assumption) | with_reducible exact isc_zs (by decide) | with_reducible exact isc_zb (by assumption) (by assumption) | with_reducible exact isc_zb (by decide) (by assumption) | with_reducible exact isc_zg (by assumption) (by assumption) | with_reducible exact isc_zl (by assumption) (by assumption) | with_reducible exact isc_0 | with_reducible exact isc_1 | with_reducible exact isc_3 | with_reducible exact isc_7 | with_reducible exact isc_11 | with_reducible exact isc_15 | with_reducible exact isc_19 | with_reducible exact isc_24 | with_reducible exact isc_25 | (simp only [List.map_cons, List.map_nil, List.sum_cons, List.sum_nil, xcat, Nat.reduceAdd, Nat.reduceLeDiff, Nat.zero_le]; done) | omega) only [fX11_tellOne, k_p_sq, k_p_blk, k_sq0, k_sq11, k_sq12, k_sq13, k_sq14, k_sq15, k_sqr, k_sqi, k_blk0, k_blk1, k_blk2, k_blk3, k_blk4, k_blk5, k_blkr, k_blki, k_finr, k_fini, k_mapi, k_bindi, k_if1, k_if2, k_ops, k_br, k_rv, k_ri, k_rl, k_rz, k_rzi, k_01d, k_sw, k_01a, k_01b, k_01c, k_ifn, x_cmp, decide_eq_true_eq, Option.map_some, Option.bind_some, Option.toList_some, Option.toList_none, List.cons_append, List.nil_append, Nat.reduceAdd, true_or, or_true, Int.reduceNeg, Int.reduceEq, reduceIte, Nat.zero_le, Nat.reduceLeDiff, Nat.le_refl, Nat.reduceEqDiff, List.getElem?_cons_zero, List.getElem?_cons_succ, xst, List.set_cons_zero, List.set_cons_succ, List.map_cons, List.map_nil, List.sum_cons, List.sum_nil, xcat, Nat.reduceMul, Nat.reduceDiv, Nat.reduceMod, Nat.add_zero, e_nil, e_iconst, e_il, e_al, e_ll, e_istore, e_astore, e_lstore, e_ic, e_iadd, e_isub, e_imul, e_iand, e_ior, e_ixor, e_ishl, e_ishr, e_ineg, e_dupi, e_dupr, e_dupx, e_dup2, e_popi, eo_g0, eo_g1, eo_g2, eo_g3, eo_g4, eo_g5, eo_g6, eo_g7, eo_g8, eo_g9, eo_g10, eo_g11, eo_g12, eo_g13, eo_g14, eo_s14, eo_g15, eo_g16, eo_s16, et_g0, et_g1, et_s1, et_g2, et_s2, et_g3, et_s3, et_g4, et_s4, eu_g0, eu_g1, eu_s1, eu_g2, eu_g3, eu_s3, eu_g4, eh_g0, eh_g1, eh_s1, eh_g2, eh_s2, ed_g0, ed_g1, ed_g2, ed_g3, ed_s3, ew_g0, ew_g1, ew_g2, ew_g3, ew_s3, en_g0, en_g1, en_s1, en_g2, en_g3, en_g4, en_g5, en_s5, ex_g0, ex_s0, eq_g0, eq_s0, eq_g1, eq_s1, eq_g2, eq_s2, eq_g3, eq_s3, eq_g4, eq_s4, eq_g5, eq_s5, eq_g6, eq_s6, eq_g7, eq_s7, ez_g0, ez_g1, ez_g2, ez_g3, ez_s3, ez_g4, ez_s4, ez_g5, ez_s5, ez_g6, ez_s6, ez_g7, ez_s7, ez_g8, ez_s8, ez_g9, ez_s9, ez_g10, ez_s10, ez_g11, ez_s11, ez_g12, ez_s12, ez_g13, ez_s13, ez_g14, ez_g15, ez_b0g, ez_b0s, ez_b1g, ez_b1s, ez_b2g, ez_b2s, ez_b3g, ez_b3s, ez_b4g, ez_b4s, ez_b5g, ez_b5s, ez_ba, ez_g0g, ez_g0s, ez_g1g, ez_g1s, ez_g2g, ez_g2s, ez_g3g, ez_g3s, ez_g4g, ez_g4s, ez_g5g, ez_g5s, ez_g6g, ez_g6s, ez_g7g, ez_g7s, ez_ga, ez_l0g, ez_l0s, ez_l1g, ez_l1s, ez_l2g, ez_l2s, ez_la, q_zs, q_zz, q_z1, q_z2, q_i2, q_ig, q_iz, q_jz, true_and, false_and, or_self, or_true, true_or, or_false, false_or, and_true, and_false, and_self, not_true_eq_false, not_false_eq_true, ec162, f1]
theorem c_tellTwo (v w : Int) : (gg (n + 3) 164).2 [.inr (.inr (.inl (0, 0))), .inl v, .inl w] (hC h c) = some (none, hC h (qTell c [v, w])) := by
  rw [gr164]
  have f1 := c_tellMore (n := n + 1) (h := h) (c := c) w (vs := [v]) (by show 1 < 8; decide)
  simp -implicitDefEqProofs (disch := first | with_reducible assumption | with_reducible exact isc_zs (by assumption) | with_reducible exact isc_zs (by decide) | with_reducible exact isc_zb (by assumption) (by assumption) | with_reducible exact isc_zb (by decide) (by assumption) | with_reducible exact isc_zg (by assumption) (by assumption) | with_reducible exact isc_zl (by assumption) (by assumption) | with_reducible exact isc_0 | with_reducible exact isc_1 | with_reducible exact isc_3 | with_reducible exact isc_7 | with_reducible exact isc_11 | with_reducible exact isc_15 | with_reducible exact isc_19 | with_reducible exact isc_24 | with_reducible exact isc_25 | (simp only [List.map_cons, List.map_nil, List.sum_cons, List.sum_nil, xcat, Nat.reduceAdd, Nat.reduceLeDiff, Nat.zero_le]; done) | omega) only [fX11_tellTwo, k_p_sq, k_p_blk, k_sq0, k_sq11, k_sq12, k_sq13, k_sq14, k_sq15, k_sqr, k_sqi, k_blk0, k_blk1, k_blk2, k_blk3, k_blk4, k_blk5, k_blkr, k_blki, k_finr, k_fini, k_mapi, k_bindi, k_if1, k_if2, k_ops, k_br, k_rv, k_ri, k_rl, k_rz, k_rzi, k_01d, k_sw, k_01a, k_01b, k_01c, k_ifn, x_cmp, decide_eq_true_eq, Option.map_some, Option.bind_some, Option.toList_some, Option.toList_none, List.cons_append, List.nil_append, Nat.reduceAdd, true_or, or_true, Int.reduceNeg, Int.reduceEq, reduceIte, Nat.zero_le, Nat.reduceLeDiff, Nat.le_refl, Nat.reduceEqDiff, List.getElem?_cons_zero, List.getElem?_cons_succ, xst, List.set_cons_zero, List.set_cons_succ, List.map_cons, List.map_nil, List.sum_cons, List.sum_nil, xcat, Nat.reduceMul, Nat.reduceDiv, Nat.reduceMod, Nat.add_zero, e_nil, e_iconst, e_il, e_al, e_ll, e_istore, e_astore, e_lstore, e_ic, e_iadd, e_isub, e_imul, e_iand, e_ior, e_ixor, e_ishl, e_ishr, e_ineg, e_dupi, e_dupr, e_dupx, e_dup2, e_popi, eo_g0, eo_g1, eo_g2, eo_g3, eo_g4, eo_g5, eo_g6, eo_g7, eo_g8, eo_g9, eo_g10, eo_g11, eo_g12, eo_g13, eo_g14, eo_s14, eo_g15, eo_g16, eo_s16, et_g0, et_g1, et_s1, et_g2, et_s2, et_g3, et_s3, et_g4, et_s4, eu_g0, eu_g1, eu_s1, eu_g2, eu_g3, eu_s3, eu_g4, eh_g0, eh_g1, eh_s1, eh_g2, eh_s2, ed_g0, ed_g1, ed_g2, ed_g3, ed_s3, ew_g0, ew_g1, ew_g2, ew_g3, ew_s3, en_g0, en_g1, en_s1, en_g2, en_g3, en_g4, en_g5, en_s5, ex_g0, ex_s0, eq_g0, eq_s0, eq_g1, eq_s1, eq_g2, eq_s2, eq_g3, eq_s3, eq_g4, eq_s4, eq_g5, eq_s5, eq_g6, eq_s6, eq_g7, eq_s7, ez_g0, ez_g1, ez_g2, ez_g3, ez_s3, ez_g4, ez_s4, ez_g5, ez_s5, ez_g6, ez_s6, ez_g7, ez_s7, ez_g8, ez_s8, ez_g9, ez_s9, ez_g10, ez_s10, ez_g11, ez_s11, ez_g12, ez_s12, ez_g13, ez_s13, ez_g14, ez_g15, ez_b0g, ez_b0s, ez_b1g, ez_b1s, ez_b2g, ez_b2s, ez_b3g, ez_b3s, ez_b4g, ez_b4s, ez_b5g, ez_b5s, ez_ba, ez_g0g, ez_g0s, ez_g1g, ez_g1s, ez_g2g, ez_g2s, ez_g3g, ez_g3s, ez_g4g, ez_g4s, ez_g5g, ez_g5s, ez_g6g, ez_g6s, ez_g7g, ez_g7s, ez_ga, ez_l0g, ez_l0s, ez_l1g, ez_l1s, ez_l2g, ez_l2s, ez_la, q_zs, q_zz, q_z1, q_z2, q_i2, q_ig, q_iz, q_jz, true_and, false_and, or_self, or_true, true_or, or_false, false_or, and_true, and_false, and_self, not_true_eq_false, not_false_eq_true, ec163, ec162, c_tellOne, f1]
theorem c_tellThree (v w x : Int) : (gg (n + 4) 165).2 [.inr (.inr (.inl (0, 0))), .inl v, .inl w, .inl x] (hC h c) = some (none, hC h (qTell c [v, w, x])) := by
  rw [gr165]
  have f1 := c_tellMore (n := n + 2) (h := h) (c := c) x (vs := [v, w]) (by show 2 < 8; decide)
  simp -implicitDefEqProofs (disch := first | with_reducible assumption | with_reducible exact isc_zs (by assumption) | with_reducible exact isc_zs (by decide) | with_reducible exact isc_zb (by assumption) (by assumption) | with_reducible exact isc_zb (by decide) (by assumption) | with_reducible exact isc_zg (by assumption) (by assumption) | with_reducible exact isc_zl (by assumption) (by assumption) | with_reducible exact isc_0 | with_reducible exact isc_1 | with_reducible exact isc_3 | with_reducible exact isc_7 | with_reducible exact isc_11 | with_reducible exact isc_15 | with_reducible exact isc_19 | with_reducible exact isc_24 | with_reducible exact isc_25 | (simp only [List.map_cons, List.map_nil, List.sum_cons, List.sum_nil, xcat, Nat.reduceAdd, Nat.reduceLeDiff, Nat.zero_le]; done) | omega) only [fX11_tellThree, k_p_sq, k_p_blk, k_sq0, k_sq11, k_sq12, k_sq13, k_sq14, k_sq15, k_sqr, k_sqi, k_blk0, k_blk1, k_blk2, k_blk3, k_blk4, k_blk5, k_blkr, k_blki, k_finr, k_fini, k_mapi, k_bindi, k_if1, k_if2, k_ops, k_br, k_rv, k_ri, k_rl, k_rz, k_rzi, k_01d, k_sw, k_01a, k_01b, k_01c, k_ifn, x_cmp, decide_eq_true_eq, Option.map_some, Option.bind_some, Option.toList_some, Option.toList_none, List.cons_append, List.nil_append, Nat.reduceAdd, true_or, or_true, Int.reduceNeg, Int.reduceEq, reduceIte, Nat.zero_le, Nat.reduceLeDiff, Nat.le_refl, Nat.reduceEqDiff, List.getElem?_cons_zero, List.getElem?_cons_succ, xst, List.set_cons_zero, List.set_cons_succ, List.map_cons, List.map_nil, List.sum_cons, List.sum_nil, xcat, Nat.reduceMul, Nat.reduceDiv, Nat.reduceMod, Nat.add_zero, e_nil, e_iconst, e_il, e_al, e_ll, e_istore, e_astore, e_lstore, e_ic, e_iadd, e_isub, e_imul, e_iand, e_ior, e_ixor, e_ishl, e_ishr, e_ineg, e_dupi, e_dupr, e_dupx, e_dup2, e_popi, eo_g0, eo_g1, eo_g2, eo_g3, eo_g4, eo_g5, eo_g6, eo_g7, eo_g8, eo_g9, eo_g10, eo_g11, eo_g12, eo_g13, eo_g14, eo_s14, eo_g15, eo_g16, eo_s16, et_g0, et_g1, et_s1, et_g2, et_s2, et_g3, et_s3, et_g4, et_s4, eu_g0, eu_g1, eu_s1, eu_g2, eu_g3, eu_s3, eu_g4, eh_g0, eh_g1, eh_s1, eh_g2, eh_s2, ed_g0, ed_g1, ed_g2, ed_g3, ed_s3, ew_g0, ew_g1, ew_g2, ew_g3, ew_s3, en_g0, en_g1, en_s1, en_g2, en_g3, en_g4, en_g5, en_s5, ex_g0, ex_s0, eq_g0, eq_s0, eq_g1, eq_s1, eq_g2, eq_s2, eq_g3, eq_s3, eq_g4, eq_s4, eq_g5, eq_s5, eq_g6, eq_s6, eq_g7, eq_s7, ez_g0, ez_g1, ez_g2, ez_g3, ez_s3, ez_g4, ez_s4, ez_g5, ez_s5, ez_g6, ez_s6, ez_g7, ez_s7, ez_g8, ez_s8, ez_g9, ez_s9, ez_g10, ez_s10, ez_g11, ez_s11, ez_g12, ez_s12, ez_g13, ez_s13, ez_g14, ez_g15, ez_b0g, ez_b0s, ez_b1g, ez_b1s, ez_b2g, ez_b2s, ez_b3g, ez_b3s, ez_b4g, ez_b4s, ez_b5g, ez_b5s, ez_ba, ez_g0g, ez_g0s, ez_g1g, ez_g1s, ez_g2g, ez_g2s, ez_g3g, ez_g3s, ez_g4g, ez_g4s, ez_g5g, ez_g5s, ez_g6g, ez_g6s, ez_g7g, ez_g7s, ez_ga, ez_l0g, ez_l0s, ez_l1g, ez_l1s, ez_l2g, ez_l2s, ez_la, q_zs, q_zz, q_z1, q_z2, q_i2, q_ig, q_iz, q_jz, true_and, false_and, or_self, or_true, true_or, or_false, false_or, and_true, and_false, and_self, not_true_eq_false, not_false_eq_true, ec164, ec162, c_tellTwo, f1]
theorem rTell_5 (r : xR) : ∀ (m : Nat) (vs : List Int), vs.length = m → vs.length ≤ 100 → ∀ i, i < vs.length → (rTell r vs).2 5 i = vs.getD i 0
  | 0, vs, h0, _, i, hi => by omega
  | m + 1, vs, h0, hl, i, hi => by
    have hne : vs ≠ [] := by
      intro e
      rw [e] at h0
      cases h0
    have ih := rTell_5 r m vs.dropLast (by rw [List.length_dropLast]; omega) (by rw [List.length_dropLast]; omega)
    rw [← List.dropLast_concat_getLast hne] at hl hi ⊢
    generalize vs.dropLast = ws at *
    generalize vs.getLast hne = v at *
    rw [List.length_append, List.length_singleton] at hl hi
    rw [rTell_app, rTell_10 r ws (by omega)]
    show xfu (rTell r ws).2 5 (xfu ((rTell r ws).2 5) ((ws.length : Int)).toNat v) 5 i = _
    rw [xfu_self, Int.toNat_natCast, List.getD_eq_getElem?_getD]
    by_cases c1 : i = ws.length
    · subst c1
      rw [xfu_self, List.getElem?_append_right (Nat.le_refl _), Nat.sub_self]
      rfl
    · rw [xfu_ne _ _ c1, ih i (by omega), List.getElem?_append_left (by omega), List.getD_eq_getElem?_getD]
theorem Rel_tell {r : xR} {c : xQ} (hr : Rel r c) (vs : List Int) (hv : vs.length ≤ 8) : Rel (rTell r vs) (qTell c vs) := by
  obtain ⟨h1, h2, h3, h4, h5, h6, h7, h8⟩ := hr
  have hK : rK (rTell r vs) = rK r := by
    unfold rK
    rw [rTell_1 r vs (k := 1) (by decide), rTell_1 r vs (k := 2) (by decide), rTell_1 r vs (k := 5) (by decide), rTell_1 r vs (k := 6) (by decide), rTell_1 r vs (k := 20) (by decide), rTell_2 r vs (c := 2) (by decide), rTell_2 r vs (c := 3) (by decide), rTell_2 r vs (c := 8) (by decide)]
  have es : ∀ B N z a, sSea r B N z a → sSea (rTell r vs) B N z a := fun B N z a => sSea_r (fun g _ => by rw [rTell_2 r vs (by decide)]) (fun g _ => by rw [rTell_2 r vs (by decide)])
  refine ⟨?_, ?_, ?_, ?_, ?_, ?_, ?_, ?_⟩
  · unfold RNum at h1 ⊢
    rw [hK, rTell_1 r vs (k := 1) (by decide), rTell_1 r vs (k := 2) (by decide), rTell_1 r vs (k := 44) (by decide), rTell_1 r vs (k := 6) (by decide), rTell_2 r vs (c := 2) (by decide)]
    exact h1
  · unfold RSea at h2 ⊢
    rw [hK, rTell_1 r vs (k := 5) (by decide), rTell_1 r vs (k := 6) (by decide), rTell_2 r vs (c := 1) (by decide)]
    exact ⟨es _ _ _ _ h2.1, h2.2⟩
  · unfold RHist at h3 ⊢
    rw [hK, rTell_1 r vs (k := 28) (by decide), rTell_2 r vs (c := 11) (by decide), qTell_1 c vs (i := 8) (by decide), qTell_1 c vs (i := 9) (by decide), qTell_3]
    obtain ⟨U, f, u1, u2, u3, u4, u5, u6⟩ := h3
    exact ⟨U, f, u1, u2, u3, u4, u5, fun i hi => es _ _ _ _ (u6 i hi)⟩
  · unfold RKept at h4 ⊢
    rw [hK, rTell_1 r vs (k := 44) (by decide), rTell_2 r vs (c := 20) (by decide), rTell_2 r vs (c := 21) (by decide), rTell_2 r vs (c := 22) (by decide), qTell_2 c vs (j := 10) (by decide), qTell_3]
    intro i hi
    obtain ⟨k1, k2⟩ := h4 i hi
    refine ⟨k1, ?_⟩
    rcases k2 with k2 | ⟨k2, B, N, k3, k4, k5, k6⟩
    · exact Or.inl k2
    · exact Or.inr ⟨k2, B, N, k3, k4, es _ _ _ _ k5, k6⟩
  · unfold RText at h5 ⊢
    rw [rTell_1 r vs (k := 8) (by decide), rTell_2 r vs (c := 4) (by decide), qTell_1 c vs (i := 2) (by decide), qTell_2 c vs (j := 2) (by decide)]
    exact h5
  · unfold RRule at h6 ⊢
    rw [rTell_1 r vs (k := 20) (by decide), rTell_2 r vs (c := 8) (by decide)]
    exact ⟨h6.1, ruleOk_q (qTell_1 c vs (i := 6) (by decide)).symm (qTell_2 c vs (j := 4) (by decide)).symm h6.2⟩
  · unfold RWord at h7 ⊢
    rw [rTell_1 r vs (k := 42) (by decide), rTell_2 r vs (c := 18) (by decide), rTell_2 r vs (c := 19) (by decide), qTell_1 c vs (i := 0) (by decide), qTell_2 c vs (j := 26) (by decide), qTell_2 c vs (j := 27) (by decide)]
    exact h7
  · refine ⟨vs.length, hv, rTell_10 r vs (by omega), qTell_g c vs, fun i hi => ?_⟩
    rw [rTell_5 r _ vs rfl (by omega) i hi, qTell_28 c vs hi]
end CT
