/-! ===== the class: the lines of gulls ===== -/
def zG1 (g : Nat) (p q w : Int) (z : Nat → Int) : Nat → Int := xfu (xfu (xfu (xfu (xfu (xfu (xfu (xfu z (116 + g) p) (36 + g) q) (124 + g) w) (44 + g) 0) (52 + g) 0) (60 + g) 0) (68 + g) 0) (76 + g) (-1)
def zSl (g i : Nat) : Prop := i = 36 + g ∨ i = 44 + g ∨ i = 52 + g ∨ i = 60 + g ∨ i = 68 + g ∨ i = 76 + g ∨ i = 116 + g ∨ i = 124 + g
theorem zG1_n {g i : Nat} {p q w : Int} {z : Nat → Int} (hi : ¬ zSl g i) : zG1 g p q w z i = z i := by
  unfold zSl at hi
  unfold zG1 xfu
  rw [if_neg (by omega), if_neg (by omega), if_neg (by omega), if_neg (by omega), if_neg (by omega), if_neg (by omega), if_neg (by omega), if_neg (by omega)]
theorem zG1_v {g : Nat} {p q w : Int} {z : Nat → Int} (Z : Nat → Int) (hz : Z = zG1 g p q w z) (hg : g < 8) : Z (116 + g) = p ∧ Z (36 + g) = q ∧ Z (124 + g) = w ∧ Z (44 + g) = 0 ∧ Z (52 + g) = 0 ∧ Z (60 + g) = 0 ∧ Z (68 + g) = 0 ∧ Z (76 + g) = -1 := by
  subst hz
  unfold zG1 xfu
  refine ⟨?_, ?_, ?_, ?_, ?_, ?_, ?_, ?_⟩
  · rw [if_neg (by omega), if_neg (by omega), if_neg (by omega), if_neg (by omega), if_neg (by omega), if_neg (by omega), if_neg (by omega), if_pos rfl]
  · rw [if_neg (by omega), if_neg (by omega), if_neg (by omega), if_neg (by omega), if_neg (by omega), if_neg (by omega), if_pos rfl]
  · rw [if_neg (by omega), if_neg (by omega), if_neg (by omega), if_neg (by omega), if_neg (by omega), if_pos rfl]
  · rw [if_neg (by omega), if_neg (by omega), if_neg (by omega), if_neg (by omega), if_pos rfl]
  · rw [if_neg (by omega), if_neg (by omega), if_neg (by omega), if_pos rfl]
  · rw [if_neg (by omega), if_neg (by omega), if_pos rfl]
  · rw [if_neg (by omega), if_pos rfl]
  · rw [if_pos rfl]
section CG
variable {n : Nat} {h : xH} {c : xQ} {r : xR} {H : xH} {T m : Nat} {a w a' w' : Int} {k g B N : Nat} {z : Nat → Int}
theorem tLetter_in (hx : TX r c T m) (ha : 0 ≤ a) {M : Int} (h0 : 0 ≤ M) (h6 : M ≤ 6) (e : (tLetter r a w M).2.2 = -1) : 0 ≤ (tLetter r a w M).1 ∧ (tLetter r a w M).1 < M := by
  have hw := tLetter_w e
  subst hw
  have s1 := TX_src hx ha
  have x2 : xw (xw (97 + M) - 1) = 96 + M := by rw [xw_id (n := 97 + M) (by omega) (by omega), xw_id (by omega) (by omega)]; omega
  unfold tLetter at e ⊢
  rw [if_pos rfl, x2] at e ⊢
  by_cases d : 97 ≤ rHere r a ∧ rHere r a ≤ 96 + M
  · rw [if_pos d, s1 (by omega) (by omega), xw_id (by omega) (by omega)]
    dsimp only
    omega
  · rw [if_neg d] at e
    dsimp only at e
    omega
theorem c_readGull (hx : TX r c T m) (hz : z 132 = (B : Int)) (hB : B ≤ 6) (hg : g < 8) (hr : RS a w a' w') (ha2 : a < 800) : ∃ (a1 : Int) (z' : Nat → Int), (gg (n + 5) 114).2 [.inr (.inr (.inl (0, 0))), .inr (.inr (.inl (3, 11 + g)))] (hC h (q_z (cRd c a w) 0 z)) = some (none, hC h (q_z (cRd c a1 (tDigit r (tLetter r a' w' B).2.1 (tLetter r a' w' B).2.2 1 9).2.2) 0 z')) ∧ RS a1 (tDigit r (tLetter r a' w' B).2.1 (tLetter r a' w' B).2.2 1 9).2.2 (tDigit r (tLetter r a' w' B).2.1 (tLetter r a' w' B).2.2 1 9).2.1 (tDigit r (tLetter r a' w' B).2.1 (tLetter r a' w' B).2.2 1 9).2.2 ∧ a1 ≤ a + 2 ∧ (∀ i, ¬ zSl g i → z' i = z i) ∧ ((tDigit r (tLetter r a' w' B).2.1 (tLetter r a' w' B).2.2 1 9).2.2 = -1 → z' = zG1 g (tLetter r a' w' B).1 (z (24 + (tLetter r a' w' B).1.toNat)) (tDigit r (tLetter r a' w' B).2.1 (tLetter r a' w' B).2.2 1 9).1 z) := by
  rw [gr114]
  have hX : TX r (q_z c 0 z) T m := hx
  have ha' : 0 ≤ a' := hr.2.2.2
  obtain ⟨v, a1, f1, r1, v1, l1⟩ := k_letter (n := n + 2) (h := h) hX hr (by omega) (M := (B : Int)) (by omega) (by omega)
  have i1 := tLetter_in (w := w') hx ha' (M := (B : Int)) (by omega) (by omega)
  generalize tLetter r a' w' (B : Int) = L at *
  obtain ⟨p, a2, f2, r2, v2, l2⟩ := k_digit (n := n + 1) (h := h) (lo := 1) (hi := 9) hX r1 (by omega) (by decide) (by decide) (by decide) (by decide)
  have i2 := tDigit_w (r := r) (a := L.2.1) (w := L.2.2) (lo := 1) (hi := 9)
  generalize tDigit r L.2.1 L.2.2 1 9 = D at *
  rw [cRd_z, cRd_z] at f1 f2
  have f3 := c_hasB (n := n + 3) (h := h) (c := q_z (cRd c a2 D.2.2) 0 z) (k := 0) (by decide) v
  rw [q_zs, hz] at f3
  by_cases d : 0 ≤ v ∧ v < (B : Int)
  · rw [if_pos (by omega)] at f3
    have f4 := c_hatch (n := n + 2) (h := h) (c := q_z (cRd c a2 D.2.2) 0 z) (k := 0) (g := g) (by decide) hg v (z (24 + v.toNat)) p
    rw [q_zs, q_zz] at f4
    refine ⟨a2, zG1 g v (z (24 + v.toNat)) p z, ?_, r2, by omega, fun i hi => zG1_n hi, fun e => ?_⟩
    · have d1 := d.1
      have k0 : (0 : Nat) < 17 := by decide
      rw [Nat.zero_add] at f3 f4
      have d2 : v < 6 := by omega
      have d3 : v.toNat < 6 := by omega
      clear hx hX hr r1 r2 v1 v2 i1 i2 d l1 l2 ha' ha2 hB
      simp -implicitDefEqProofs (disch := first | with_reducible assumption | with_reducible exact isc_zs (by assumption) | with_reducible exact isc_zs (by decide) | with_reducible exact isc_zb (by assumption) (by assumption) | with_reducible exact isc_zb (by decide) (by assumption) | with_reducible exact isc_zg (by assumption) (by assumption) | with_reducible exact isc_zl (by assumption) (by assumption) | with_reducible exact isc_0 | with_reducible exact isc_1 | with_reducible exact isc_3 | with_reducible exact isc_7 | with_reducible exact isc_11 | with_reducible exact isc_15 | with_reducible exact isc_19 | with_reducible exact isc_24 | with_reducible exact isc_25 | (simp only [List.map_cons, List.map_nil, List.sum_cons, List.sum_nil, xcat, Nat.reduceAdd, Nat.reduceLeDiff, Nat.zero_le]; done) | omega) only [fX11_readGull, k_p_sq, k_p_blk, k_sq0, k_sq11, k_sq12, k_sq13, k_sq14, k_sq15, k_sqr, k_sqi, k_blk0, k_blk1, k_blk2, k_blk3, k_blk4, k_blk5, k_blkr, k_blki, k_finr, k_fini, k_mapi, k_bindi, k_if1, k_if2, k_ops, k_br, k_rv, k_ri, k_rl, k_rz, k_rzi, k_01d, k_sw, k_01a, k_01b, k_01c, k_ifn, x_cmp, decide_eq_true_eq, Option.map_some, Option.bind_some, Option.toList_some, Option.toList_none, List.cons_append, List.nil_append, Nat.reduceAdd, true_or, or_true, Int.reduceNeg, Int.reduceEq, reduceIte, Nat.zero_le, Nat.reduceLeDiff, Nat.le_refl, Nat.reduceEqDiff, List.getElem?_cons_zero, List.getElem?_cons_succ, xst, List.set_cons_zero, List.set_cons_succ, List.map_cons, List.map_nil, List.sum_cons, List.sum_nil, xcat, Nat.reduceMul, Nat.reduceDiv, Nat.reduceMod, Nat.add_zero, e_nil, e_iconst, e_il, e_al, e_ll, e_istore, e_astore, e_lstore, e_ic, e_iadd, e_isub, e_imul, e_iand, e_ior, e_ixor, e_ishl, e_ishr, e_ineg, e_dupi, e_dupr, e_dupx, e_dup2, e_popi, eo_g0, eo_g1, eo_g2, eo_g3, eo_g4, eo_g5, eo_g6, eo_g7, eo_g8, eo_g9, eo_g10, eo_g11, eo_g12, eo_g13, eo_g14, eo_s14, eo_g15, eo_g16, eo_s16, et_g0, et_g1, et_s1, et_g2, et_s2, et_g3, et_s3, et_g4, et_s4, eu_g0, eu_g1, eu_s1, eu_g2, eu_g3, eu_s3, eu_g4, eh_g0, eh_g1, eh_s1, eh_g2, eh_s2, ed_g0, ed_g1, ed_g2, ed_g3, ed_s3, ew_g0, ew_g1, ew_g2, ew_g3, ew_s3, en_g0, en_g1, en_s1, en_g2, en_g3, en_g4, en_g5, en_s5, ex_g0, ex_s0, eq_g0, eq_s0, eq_g1, eq_s1, eq_g2, eq_s2, eq_g3, eq_s3, eq_g4, eq_s4, eq_g5, eq_s5, eq_g6, eq_s6, eq_g7, eq_s7, ez_g0, ez_g1, ez_g2, ez_g3, ez_s3, ez_g4, ez_s4, ez_g5, ez_s5, ez_g6, ez_s6, ez_g7, ez_s7, ez_g8, ez_s8, ez_g9, ez_s9, ez_g10, ez_s10, ez_g11, ez_s11, ez_g12, ez_s12, ez_g13, ez_s13, ez_g14, ez_g15, ez_b0g, ez_b0s, ez_b1g, ez_b1s, ez_b2g, ez_b2s, ez_b3g, ez_b3s, ez_b4g, ez_b4s, ez_b5g, ez_b5s, ez_ba, ez_g0g, ez_g0s, ez_g1g, ez_g1s, ez_g2g, ez_g2s, ez_g3g, ez_g3s, ez_g4g, ez_g4s, ez_g5g, ez_g5s, ez_g6g, ez_g6s, ez_g7g, ez_g7s, ez_ga, ez_l0g, ez_l0s, ez_l1g, ez_l1s, ez_l2g, ez_l2s, ez_la, q_zs, q_zz, q_z1, q_z2, q_i2, q_ig, q_iz, q_jz, true_and, false_and, or_self, or_true, true_or, or_false, false_or, and_true, and_false, and_self, not_true_eq_false, not_false_eq_true, hz, ec93, f1, ec91, f2, ec40, f3, ec13, f4, Int.reduceEq]
      rfl
    · rw [v2 e, v1 (i2 e)]
  · rw [if_neg (by omega)] at f3
    refine ⟨a2, z, ?_, r2, by omega, fun i hi => rfl, fun e => ?_⟩
    · clear hx hX hr r1 r2 v1 v2 i1 i2 d l1 l2 ha' ha2 hB
      simp -implicitDefEqProofs (disch := first | with_reducible assumption | with_reducible exact isc_zs (by assumption) | with_reducible exact isc_zs (by decide) | with_reducible exact isc_zb (by assumption) (by assumption) | with_reducible exact isc_zb (by decide) (by assumption) | with_reducible exact isc_zg (by assumption) (by assumption) | with_reducible exact isc_zl (by assumption) (by assumption) | with_reducible exact isc_0 | with_reducible exact isc_1 | with_reducible exact isc_3 | with_reducible exact isc_7 | with_reducible exact isc_11 | with_reducible exact isc_15 | with_reducible exact isc_19 | with_reducible exact isc_24 | with_reducible exact isc_25 | (simp only [List.map_cons, List.map_nil, List.sum_cons, List.sum_nil, xcat, Nat.reduceAdd, Nat.reduceLeDiff, Nat.zero_le]; done) | omega) only [fX11_readGull, k_p_sq, k_p_blk, k_sq0, k_sq11, k_sq12, k_sq13, k_sq14, k_sq15, k_sqr, k_sqi, k_blk0, k_blk1, k_blk2, k_blk3, k_blk4, k_blk5, k_blkr, k_blki, k_finr, k_fini, k_mapi, k_bindi, k_if1, k_if2, k_ops, k_br, k_rv, k_ri, k_rl, k_rz, k_rzi, k_01d, k_sw, k_01a, k_01b, k_01c, k_ifn, x_cmp, decide_eq_true_eq, Option.map_some, Option.bind_some, Option.toList_some, Option.toList_none, List.cons_append, List.nil_append, Nat.reduceAdd, true_or, or_true, Int.reduceNeg, Int.reduceEq, reduceIte, Nat.zero_le, Nat.reduceLeDiff, Nat.le_refl, Nat.reduceEqDiff, List.getElem?_cons_zero, List.getElem?_cons_succ, xst, List.set_cons_zero, List.set_cons_succ, List.map_cons, List.map_nil, List.sum_cons, List.sum_nil, xcat, Nat.reduceMul, Nat.reduceDiv, Nat.reduceMod, Nat.add_zero, e_nil, e_iconst, e_il, e_al, e_ll, e_istore, e_astore, e_lstore, e_ic, e_iadd, e_isub, e_imul, e_iand, e_ior, e_ixor, e_ishl, e_ishr, e_ineg, e_dupi, e_dupr, e_dupx, e_dup2, e_popi, eo_g0, eo_g1, eo_g2, eo_g3, eo_g4, eo_g5, eo_g6, eo_g7, eo_g8, eo_g9, eo_g10, eo_g11, eo_g12, eo_g13, eo_g14, eo_s14, eo_g15, eo_g16, eo_s16, et_g0, et_g1, et_s1, et_g2, et_s2, et_g3, et_s3, et_g4, et_s4, eu_g0, eu_g1, eu_s1, eu_g2, eu_g3, eu_s3, eu_g4, eh_g0, eh_g1, eh_s1, eh_g2, eh_s2, ed_g0, ed_g1, ed_g2, ed_g3, ed_s3, ew_g0, ew_g1, ew_g2, ew_g3, ew_s3, en_g0, en_g1, en_s1, en_g2, en_g3, en_g4, en_g5, en_s5, ex_g0, ex_s0, eq_g0, eq_s0, eq_g1, eq_s1, eq_g2, eq_s2, eq_g3, eq_s3, eq_g4, eq_s4, eq_g5, eq_s5, eq_g6, eq_s6, eq_g7, eq_s7, ez_g0, ez_g1, ez_g2, ez_g3, ez_s3, ez_g4, ez_s4, ez_g5, ez_s5, ez_g6, ez_s6, ez_g7, ez_s7, ez_g8, ez_s8, ez_g9, ez_s9, ez_g10, ez_s10, ez_g11, ez_s11, ez_g12, ez_s12, ez_g13, ez_s13, ez_g14, ez_g15, ez_b0g, ez_b0s, ez_b1g, ez_b1s, ez_b2g, ez_b2s, ez_b3g, ez_b3s, ez_b4g, ez_b4s, ez_b5g, ez_b5s, ez_ba, ez_g0g, ez_g0s, ez_g1g, ez_g1s, ez_g2g, ez_g2s, ez_g3g, ez_g3s, ez_g4g, ez_g4s, ez_g5g, ez_g5s, ez_g6g, ez_g6s, ez_g7g, ez_g7s, ez_ga, ez_l0g, ez_l0s, ez_l1g, ez_l1s, ez_l2g, ez_l2s, ez_la, q_zs, q_zz, q_z1, q_z2, q_i2, q_ig, q_iz, q_jz, true_and, false_and, or_self, or_true, true_or, or_false, false_or, and_true, and_false, and_self, not_true_eq_false, not_false_eq_true, hz, ec93, f1, ec91, f2, ec40, f3, Int.reduceEq]
    · rw [v1 (i2 e)] at d
      exact absurd (i1 (i2 e)) d
/-- one line of gulls -/
theorem c_rg1 (hx : TX r c T m) (hz : z 132 = (B : Int)) (hz2 : z 133 = (N : Int)) (hB : B ≤ 6) (hk : N + k ≤ 8) (hr : RS a w a' w') (ha : a < 600) (J : xV) : ∃ (a1 : Int) (z' : Nat → Int), lX11_readGulls_4 (gg (n + 5)) ([.inr (.inr (.inl (0, 0))), .inl (k : Int), .inl 1, J], [], hC h (q_z (cRd c a w) 0 z)) = some (.inl 1, ([.inr (.inr (.inl (0, 0))), .inl ((k + 1 : Nat) : Int), .inl (tPs r 59 (tGl1 r B N k a' w').2.1 (tGl1 r B N k a' w').2.2).1, .inl ((N + k : Nat) : Int)], [], hC h (q_z (cRd c a1 (tPs r 59 (tGl1 r B N k a' w').2.1 (tGl1 r B N k a' w').2.2).2.2) 0 z'))) ∧ RS a1 (tPs r 59 (tGl1 r B N k a' w').2.1 (tGl1 r B N k a' w').2.2).2.2 (tPs r 59 (tGl1 r B N k a' w').2.1 (tGl1 r B N k a' w').2.2).2.1 (tPs r 59 (tGl1 r B N k a' w').2.1 (tGl1 r B N k a' w').2.2).2.2 ∧ a1 ≤ a + 3 ∧ (∀ i, (N + k < 8 → ¬ zSl (N + k) i) → z' i = z i) ∧ ((tGl1 r B N k a' w').2.2 = -1 → N + k < 8 ∧ z' = zG1 (N + k) (tGl1 r B N k a' w').1.1 (z (24 + (tGl1 r B N k a' w').1.1.toNat)) (tGl1 r B N k a' w').1.2 z) := by
  have x1 : xw ((k : Int) + 1) = ((k + 1 : Nat) : Int) := xw_id (by omega) (by omega)
  have x2 : xw ((N : Int) + (k : Int)) = ((N + k : Nat) : Int) := xw_id (by omega) (by omega)
  have d6 : ¬ (8 : Int) < (k : Int) := by omega
  by_cases d : N + k = 8
  · have e1 : tGl1 r B N k a' w' = (q20, a', if w' = -1 then a' else w') := by
      unfold tGl1
      rw [if_pos d]
    rw [e1]
    dsimp only
    obtain ⟨a1, f1, r1, l1⟩ := k_refuse (n := n + 4) (h := h) (c := q_z c 0 z) hr
    obtain ⟨a2, f2, r2, l2⟩ := k_take (n := n + 3) (h := h) (c := q_z c 0 z) (k := 59) hx r1 (by omega) (by decide)
    have hw : ¬ (if w' = -1 then a' else w') = -1 := by
      obtain ⟨q1, q2, q3, q4⟩ := hr
      split
      · omega
      · assumption
    refine ⟨a2, z, ?_, r2, by omega, fun i _ => rfl, fun e => absurd e hw⟩
    have d7 : (8 : Int) ≤ ((N + k : Nat) : Int) := by omega
    rw [cRd_z, cRd_z] at f1 f2
    generalize (if w' = -1 then a' else w') = W at *
    generalize tPs r 59 a' W = P at *
    clear hx hr r1 r2 hk e1 d hw ha l1 l2 hz hB
    simp -implicitDefEqProofs (disch := first | with_reducible assumption | with_reducible exact isc_zs (by assumption) | with_reducible exact isc_zs (by decide) | with_reducible exact isc_zb (by assumption) (by assumption) | with_reducible exact isc_zb (by decide) (by assumption) | with_reducible exact isc_zg (by assumption) (by assumption) | with_reducible exact isc_zl (by assumption) (by assumption) | with_reducible exact isc_0 | with_reducible exact isc_1 | with_reducible exact isc_3 | with_reducible exact isc_7 | with_reducible exact isc_11 | with_reducible exact isc_15 | with_reducible exact isc_19 | with_reducible exact isc_24 | with_reducible exact isc_25 | (simp only [List.map_cons, List.map_nil, List.sum_cons, List.sum_nil, xcat, Nat.reduceAdd, Nat.reduceLeDiff, Nat.zero_le]; done) | omega) only [lX11_readGulls_4, k_p_sq, k_p_blk, k_sq0, k_sq11, k_sq12, k_sq13, k_sq14, k_sq15, k_sqr, k_sqi, k_blk0, k_blk1, k_blk2, k_blk3, k_blk4, k_blk5, k_blkr, k_blki, k_finr, k_fini, k_mapi, k_bindi, k_if1, k_if2, k_ops, k_br, k_rv, k_ri, k_rl, k_rz, k_rzi, k_01d, k_sw, k_01a, k_01b, k_01c, k_ifn, x_cmp, decide_eq_true_eq, Option.map_some, Option.bind_some, Option.toList_some, Option.toList_none, List.cons_append, List.nil_append, Nat.reduceAdd, true_or, or_true, Int.reduceNeg, Int.reduceEq, reduceIte, Nat.zero_le, Nat.reduceLeDiff, Nat.le_refl, Nat.reduceEqDiff, List.getElem?_cons_zero, List.getElem?_cons_succ, xst, List.set_cons_zero, List.set_cons_succ, List.map_cons, List.map_nil, List.sum_cons, List.sum_nil, xcat, Nat.reduceMul, Nat.reduceDiv, Nat.reduceMod, Nat.add_zero, e_nil, e_iconst, e_il, e_al, e_ll, e_istore, e_astore, e_lstore, e_ic, e_iadd, e_isub, e_imul, e_iand, e_ior, e_ixor, e_ishl, e_ishr, e_ineg, e_dupi, e_dupr, e_dupx, e_dup2, e_popi, eo_g0, eo_g1, eo_g2, eo_g3, eo_g4, eo_g5, eo_g6, eo_g7, eo_g8, eo_g9, eo_g10, eo_g11, eo_g12, eo_g13, eo_g14, eo_s14, eo_g15, eo_g16, eo_s16, et_g0, et_g1, et_s1, et_g2, et_s2, et_g3, et_s3, et_g4, et_s4, eu_g0, eu_g1, eu_s1, eu_g2, eu_g3, eu_s3, eu_g4, eh_g0, eh_g1, eh_s1, eh_g2, eh_s2, ed_g0, ed_g1, ed_g2, ed_g3, ed_s3, ew_g0, ew_g1, ew_g2, ew_g3, ew_s3, en_g0, en_g1, en_s1, en_g2, en_g3, en_g4, en_g5, en_s5, ex_g0, ex_s0, eq_g0, eq_s0, eq_g1, eq_s1, eq_g2, eq_s2, eq_g3, eq_s3, eq_g4, eq_s4, eq_g5, eq_s5, eq_g6, eq_s6, eq_g7, eq_s7, ez_g0, ez_g1, ez_g2, ez_g3, ez_s3, ez_g4, ez_s4, ez_g5, ez_s5, ez_g6, ez_s6, ez_g7, ez_s7, ez_g8, ez_s8, ez_g9, ez_s9, ez_g10, ez_s10, ez_g11, ez_s11, ez_g12, ez_s12, ez_g13, ez_s13, ez_g14, ez_g15, ez_b0g, ez_b0s, ez_b1g, ez_b1s, ez_b2g, ez_b2s, ez_b3g, ez_b3s, ez_b4g, ez_b4s, ez_b5g, ez_b5s, ez_ba, ez_g0g, ez_g0s, ez_g1g, ez_g1s, ez_g2g, ez_g2s, ez_g3g, ez_g3s, ez_g4g, ez_g4s, ez_g5g, ez_g5s, ez_g6g, ez_g6s, ez_g7g, ez_g7s, ez_ga, ez_l0g, ez_l0s, ez_l1g, ez_l1s, ez_l2g, ez_l2s, ez_la, q_zs, q_zz, q_z1, q_z2, q_i2, q_ig, q_iz, q_jz, true_and, false_and, or_self, or_true, true_or, or_false, false_or, and_true, and_false, and_self, not_true_eq_false, not_false_eq_true, d6, hz2, x2, d7, ec89, f1, x1, ec87, f2, Int.reduceEq]
  · have e1 : tGl1 r B N k a' w' = (((tLetter r a' w' B).1, (tDigit r (tLetter r a' w' B).2.1 (tLetter r a' w' B).2.2 1 9).1), (tDigit r (tLetter r a' w' B).2.1 (tLetter r a' w' B).2.2 1 9).2) := by
      unfold tGl1
      rw [if_neg d]
    rw [e1]
    dsimp only
    have hb : N + k < 8 := by omega
    obtain ⟨a1, Z, f1, r1, l1, n1, v1⟩ := c_readGull (n := n) (h := h) (g := N + k) (z := z) hx hz hB hb hr (by omega)
    generalize tLetter r a' w' (B : Int) = L at *
    generalize tDigit r L.2.1 L.2.2 1 9 = D at *
    obtain ⟨a2, f2, r2, l2⟩ := k_take (n := n + 3) (h := h) (c := q_z c 0 Z) (k := 59) hx r1 (by omega) (by decide)
    rw [cRd_z, cRd_z] at f2
    generalize tPs r 59 D.2.1 D.2.2 = P at *
    refine ⟨a2, Z, ?_, r2, by omega, fun i hi => n1 i (hi hb), fun e => ⟨hb, v1 e⟩⟩
    have d7 : ¬ (8 : Int) ≤ ((N + k : Nat) : Int) := by omega
    have d8 : ((N + k : Nat) : Int) < 8 := by omega
    have d9 : (0 : Int) ≤ ((N + k : Nat) : Int) := by omega
    rw [← Int.toNat_natCast (N + k)] at f1
    generalize ((N + k : Nat) : Int) = Y at *
    clear hx hr r1 r2 hk e1 d ha l1 l2 v1 n1 hb hz hB
    simp -implicitDefEqProofs (disch := first | with_reducible assumption | with_reducible exact isc_zs (by assumption) | with_reducible exact isc_zs (by decide) | with_reducible exact isc_zb (by assumption) (by assumption) | with_reducible exact isc_zb (by decide) (by assumption) | with_reducible exact isc_zg (by assumption) (by assumption) | with_reducible exact isc_zl (by assumption) (by assumption) | with_reducible exact isc_0 | with_reducible exact isc_1 | with_reducible exact isc_3 | with_reducible exact isc_7 | with_reducible exact isc_11 | with_reducible exact isc_15 | with_reducible exact isc_19 | with_reducible exact isc_24 | with_reducible exact isc_25 | (simp only [List.map_cons, List.map_nil, List.sum_cons, List.sum_nil, xcat, Nat.reduceAdd, Nat.reduceLeDiff, Nat.zero_le]; done) | omega) only [lX11_readGulls_4, k_p_sq, k_p_blk, k_sq0, k_sq11, k_sq12, k_sq13, k_sq14, k_sq15, k_sqr, k_sqi, k_blk0, k_blk1, k_blk2, k_blk3, k_blk4, k_blk5, k_blkr, k_blki, k_finr, k_fini, k_mapi, k_bindi, k_if1, k_if2, k_ops, k_br, k_rv, k_ri, k_rl, k_rz, k_rzi, k_01d, k_sw, k_01a, k_01b, k_01c, k_ifn, x_cmp, decide_eq_true_eq, Option.map_some, Option.bind_some, Option.toList_some, Option.toList_none, List.cons_append, List.nil_append, Nat.reduceAdd, true_or, or_true, Int.reduceNeg, Int.reduceEq, reduceIte, Nat.zero_le, Nat.reduceLeDiff, Nat.le_refl, Nat.reduceEqDiff, List.getElem?_cons_zero, List.getElem?_cons_succ, xst, List.set_cons_zero, List.set_cons_succ, List.map_cons, List.map_nil, List.sum_cons, List.sum_nil, xcat, Nat.reduceMul, Nat.reduceDiv, Nat.reduceMod, Nat.add_zero, e_nil, e_iconst, e_il, e_al, e_ll, e_istore, e_astore, e_lstore, e_ic, e_iadd, e_isub, e_imul, e_iand, e_ior, e_ixor, e_ishl, e_ishr, e_ineg, e_dupi, e_dupr, e_dupx, e_dup2, e_popi, eo_g0, eo_g1, eo_g2, eo_g3, eo_g4, eo_g5, eo_g6, eo_g7, eo_g8, eo_g9, eo_g10, eo_g11, eo_g12, eo_g13, eo_g14, eo_s14, eo_g15, eo_g16, eo_s16, et_g0, et_g1, et_s1, et_g2, et_s2, et_g3, et_s3, et_g4, et_s4, eu_g0, eu_g1, eu_s1, eu_g2, eu_g3, eu_s3, eu_g4, eh_g0, eh_g1, eh_s1, eh_g2, eh_s2, ed_g0, ed_g1, ed_g2, ed_g3, ed_s3, ew_g0, ew_g1, ew_g2, ew_g3, ew_s3, en_g0, en_g1, en_s1, en_g2, en_g3, en_g4, en_g5, en_s5, ex_g0, ex_s0, eq_g0, eq_s0, eq_g1, eq_s1, eq_g2, eq_s2, eq_g3, eq_s3, eq_g4, eq_s4, eq_g5, eq_s5, eq_g6, eq_s6, eq_g7, eq_s7, ez_g0, ez_g1, ez_g2, ez_g3, ez_s3, ez_g4, ez_s4, ez_g5, ez_s5, ez_g6, ez_s6, ez_g7, ez_s7, ez_g8, ez_s8, ez_g9, ez_s9, ez_g10, ez_s10, ez_g11, ez_s11, ez_g12, ez_s12, ez_g13, ez_s13, ez_g14, ez_g15, ez_b0g, ez_b0s, ez_b1g, ez_b1s, ez_b2g, ez_b2s, ez_b3g, ez_b3s, ez_b4g, ez_b4s, ez_b5g, ez_b5s, ez_ba, ez_g0g, ez_g0s, ez_g1g, ez_g1s, ez_g2g, ez_g2s, ez_g3g, ez_g3s, ez_g4g, ez_g4s, ez_g5g, ez_g5s, ez_g6g, ez_g6s, ez_g7g, ez_g7s, ez_ga, ez_l0g, ez_l0s, ez_l1g, ez_l1s, ez_l2g, ez_l2s, ez_la, q_zs, q_zz, q_z1, q_z2, q_i2, q_ig, q_iz, q_jz, true_and, false_and, or_self, or_true, true_or, or_false, false_or, and_true, and_false, and_self, not_true_eq_false, not_false_eq_true, d6, hz2, x2, d7, ec114, f1, x1, ec87, f2, Int.reduceEq]
def tZs (N : Nat) (l : List (Int × Int)) (a : Nat → Int) : Nat → Int := xit (fun i a => zG1 (N + i) (l.getD i q20).1 (a (24 + (l.getD i q20).1.toNat)) (l.getD i q20).2 a) l.length a
theorem tZs_cons (N : Nat) (q : Int × Int) (l : List (Int × Int)) (a : Nat → Int) : tZs N (q :: l) a = tZs (N + 1) l (zG1 N q.1 (a (24 + q.1.toNat)) q.2 a) := by
  unfold tZs
  rw [List.length_cons, xit_front]
  refine xit_congr (n := l.length) (fun i _ x => ?_) _ l.length (Nat.le_refl _)
  show zG1 (N + (i + 1)) ((q :: l).getD (i + 1) q20).1 _ _ x = zG1 (N + 1 + i) (l.getD i q20).1 _ _ x
  rw [List.getD_cons_succ, show N + (i + 1) = N + 1 + i by omega]
theorem tGs_cons (N : Nat) (q : Int × Int) (l : List (Int × Int)) (a : Nat → Int) : tGs N (q :: l) a = tGs (N + 1) l (tG1 N q a) := by
  unfold tGs
  rw [List.length_cons, xit_front]
  refine xit_congr (n := l.length) (fun i _ x => ?_) _ l.length (Nat.le_refl _)
  show tG1 (N + (i + 1)) ((q :: l).getD (i + 1) q20) x = tG1 (N + 1 + i) (l.getD i q20) x
  rw [List.getD_cons_succ, show N + (i + 1) = N + 1 + i by omega]
theorem tHo_cons (N : Nat) (q : Int × Int) (l : List (Int × Int)) (a : Nat → Int) : tHo N (q :: l) a = tHo (N + 1) l (xfu a N q.1) := by
  unfold tHo
  rw [List.length_cons, xit_front]
  refine xit_congr (n := l.length) (fun i _ x => ?_) _ l.length (Nat.le_refl _)
  show xfu x (N + (i + 1)) ((q :: l).getD (i + 1) q20).1 = xfu x (N + 1 + i) (l.getD i q20).1
  rw [List.getD_cons_succ, show N + (i + 1) = N + 1 + i by omega]
theorem tPa_cons (N : Nat) (q : Int × Int) (l : List (Int × Int)) (a : Nat → Int) : tPa N (q :: l) a = tPa (N + 1) l (xfu a N q.2) := by
  unfold tPa
  rw [List.length_cons, xit_front]
  refine xit_congr (n := l.length) (fun i _ x => ?_) _ l.length (Nat.le_refl _)
  show xfu x (N + (i + 1)) ((q :: l).getD (i + 1) q20).2 = xfu x (N + 1 + i) (l.getD i q20).2
  rw [List.getD_cons_succ, show N + (i + 1) = N + 1 + i by omega]
theorem c_rgL (hx : TX r c T m) (hB : B ≤ 6) : ∀ (f k : Nat) (a w a' w' : Int) (z : Nat → Int) (J : xV), f + k = 9 → N + k ≤ 8 → z 132 = (B : Int) → z 133 = (N : Int) → RS a w a' w' → a + 3 * f < 600 → ∃ (a1 mo j : Int) (z' : Nat → Int), p_lop (lX11_readGulls_4 (gg (n + 5))) ([.inr (.inr (.inl (0, 0))), .inl (k : Int), .inl 1, J], [], hC h (q_z (cRd c a w) 0 z)) = some (.inl 1, ([.inr (.inr (.inl (0, 0))), .inl ((k + (tGl r B N f k a' w').1.length : Nat) : Int), .inl mo, .inl j], [], hC h (q_z (cRd c a1 (tGl r B N f k a' w').2.2) 0 z'))) ∧ RS a1 (tGl r B N f k a' w').2.2 (tGl r B N f k a' w').2.1 (tGl r B N f k a' w').2.2 ∧ a1 ≤ a + 3 * f ∧ (∀ i, (∀ g, N + k ≤ g → g < 8 → ¬ zSl g i) → z' i = z i) ∧ ((tGl r B N f k a' w').2.2 = -1 → z' = tZs (N + k) (tGl r B N f k a' w').1 z)
  | 0, k, a, w, a', w', z, J, hf, hk, hz, hz2, hr, ha => by omega
  | f + 1, k, a, w, a', w', z, J, hf, hk, hz, hz2, hr, ha => by
    obtain ⟨a1, z1, f1, r1, l1, n1, v1⟩ := c_rg1 (n := n) (h := h) hx hz hz2 hB hk hr (by omega) J
    have hp : (tPs r 59 (tGl1 r B N k a' w').2.1 (tGl1 r B N k a' w').2.2).2.2 = (tGl1 r B N k a' w').2.2 := tPs_w
    have hq : (tPs r 59 (tGl1 r B N k a' w').2.1 (tGl1 r B N k a' w').2.2).1 = 1 → (tPs r 59 (tGl1 r B N k a' w').2.1 (tGl1 r B N k a' w').2.2).2.2 = -1 := tPs_1
    unfold tGl
    by_cases d : (tPs r 59 (tGl1 r B N k a' w').2.1 (tGl1 r B N k a' w').2.2).1 = 1
    · rw [if_pos d]
      have hb := (v1 (by rw [← hp]; exact hq d))
      rw [d] at f1
      have h132 : z1 132 = (B : Int) := by rw [n1 132 (fun h8 => by unfold zSl; omega)]; exact hz
      have h133 : z1 133 = (N : Int) := by rw [n1 133 (fun h8 => by unfold zSl; omega)]; exact hz2
      obtain ⟨a2, mo, j, z2, f2, r2, l2, n2, v2⟩ := c_rgL hx hB f (k + 1) a1 _ _ _ z1 (.inl ((N + k : Nat) : Int)) (by omega) (by omega) h132 h133 r1 (by omega)
      generalize tGl r B N f (k + 1) (tPs r 59 (tGl1 r B N k a' w').2.1 (tGl1 r B N k a' w').2.2).2.1 (tPs r 59 (tGl1 r B N k a' w').2.1 (tGl1 r B N k a' w').2.2).2.2 = Q at *
      refine ⟨a2, mo, j, z2, ?_, r2, by omega, fun i hi => ?_, fun e => ?_⟩
      · rw [k_l1 f1, f2]
        dsimp only
        rw [List.length_cons, show k + 1 + Q.1.length = k + (Q.1.length + 1) by omega]
      · rw [n2 i (fun g h1 h2 => hi g (by omega) h2), n1 i (fun h8 => hi (N + k) (Nat.le_refl _) h8)]
      · dsimp only at e ⊢
        rw [v2 e, hb.2, tZs_cons]
        rfl
    · rw [if_neg d]
      have d2 : (tPs r 59 (tGl1 r B N k a' w').2.1 (tGl1 r B N k a' w').2.2).1 = 0 := by
        rcases tPs_01 (r := r) (k := 59) (a := (tGl1 r B N k a' w').2.1) (w := (tGl1 r B N k a' w').2.2) with y | y
        · exact y
        · exact absurd y d
      rw [d2] at f1
      refine ⟨a1, 0, ((N + k : Nat) : Int), z1, ?_, r1, by omega, fun i hi => n1 i (fun h8 => hi (N + k) (Nat.le_refl _) h8), fun e => ?_⟩
      · rw [k_l1 f1]
        refine k_l2 ?_
        generalize (tPs r 59 (tGl1 r B N k a' w').2.1 (tGl1 r B N k a' w').2.2).2.2 = W at *
        clear hx hz hz2 hr r1 n1 v1 hp hq d d2 f1
        simp -implicitDefEqProofs (disch := first | with_reducible assumption | with_reducible exact isc_zs (by assumption) | with_reducible exact isc_zs (by decide) | with_reducible exact isc_zb (by assumption) (by assumption) | with_reducible exact isc_zb (by decide) (by assumption) | with_reducible exact isc_zg (by assumption) (by assumption) | with_reducible exact isc_zl (by assumption) (by assumption) | with_reducible exact isc_0 | with_reducible exact isc_1 | with_reducible exact isc_3 | with_reducible exact isc_7 | with_reducible exact isc_11 | with_reducible exact isc_15 | with_reducible exact isc_19 | with_reducible exact isc_24 | with_reducible exact isc_25 | (simp only [List.map_cons, List.map_nil, List.sum_cons, List.sum_nil, xcat, Nat.reduceAdd, Nat.reduceLeDiff, Nat.zero_le]; done) | omega) only [lX11_readGulls_4, k_p_sq, k_p_blk, k_sq0, k_sq11, k_sq12, k_sq13, k_sq14, k_sq15, k_sqr, k_sqi, k_blk0, k_blk1, k_blk2, k_blk3, k_blk4, k_blk5, k_blkr, k_blki, k_finr, k_fini, k_mapi, k_bindi, k_if1, k_if2, k_ops, k_br, k_rv, k_ri, k_rl, k_rz, k_rzi, k_01d, k_sw, k_01a, k_01b, k_01c, k_ifn, x_cmp, decide_eq_true_eq, Option.map_some, Option.bind_some, Option.toList_some, Option.toList_none, List.cons_append, List.nil_append, Nat.reduceAdd, true_or, or_true, Int.reduceNeg, Int.reduceEq, reduceIte, Nat.zero_le, Nat.reduceLeDiff, Nat.le_refl, Nat.reduceEqDiff, List.getElem?_cons_zero, List.getElem?_cons_succ, xst, List.set_cons_zero, List.set_cons_succ, List.map_cons, List.map_nil, List.sum_cons, List.sum_nil, xcat, Nat.reduceMul, Nat.reduceDiv, Nat.reduceMod, Nat.add_zero, e_nil, e_iconst, e_il, e_al, e_ll, e_istore, e_astore, e_lstore, e_ic, e_iadd, e_isub, e_imul, e_iand, e_ior, e_ixor, e_ishl, e_ishr, e_ineg, e_dupi, e_dupr, e_dupx, e_dup2, e_popi, eo_g0, eo_g1, eo_g2, eo_g3, eo_g4, eo_g5, eo_g6, eo_g7, eo_g8, eo_g9, eo_g10, eo_g11, eo_g12, eo_g13, eo_g14, eo_s14, eo_g15, eo_g16, eo_s16, et_g0, et_g1, et_s1, et_g2, et_s2, et_g3, et_s3, et_g4, et_s4, eu_g0, eu_g1, eu_s1, eu_g2, eu_g3, eu_s3, eu_g4, eh_g0, eh_g1, eh_s1, eh_g2, eh_s2, ed_g0, ed_g1, ed_g2, ed_g3, ed_s3, ew_g0, ew_g1, ew_g2, ew_g3, ew_s3, en_g0, en_g1, en_s1, en_g2, en_g3, en_g4, en_g5, en_s5, ex_g0, ex_s0, eq_g0, eq_s0, eq_g1, eq_s1, eq_g2, eq_s2, eq_g3, eq_s3, eq_g4, eq_s4, eq_g5, eq_s5, eq_g6, eq_s6, eq_g7, eq_s7, ez_g0, ez_g1, ez_g2, ez_g3, ez_s3, ez_g4, ez_s4, ez_g5, ez_s5, ez_g6, ez_s6, ez_g7, ez_s7, ez_g8, ez_s8, ez_g9, ez_s9, ez_g10, ez_s10, ez_g11, ez_s11, ez_g12, ez_s12, ez_g13, ez_s13, ez_g14, ez_g15, ez_b0g, ez_b0s, ez_b1g, ez_b1s, ez_b2g, ez_b2s, ez_b3g, ez_b3s, ez_b4g, ez_b4s, ez_b5g, ez_b5s, ez_ba, ez_g0g, ez_g0s, ez_g1g, ez_g1s, ez_g2g, ez_g2s, ez_g3g, ez_g3s, ez_g4g, ez_g4s, ez_g5g, ez_g5s, ez_g6g, ez_g6s, ez_g7g, ez_g7s, ez_ga, ez_l0g, ez_l0s, ez_l1g, ez_l1s, ez_l2g, ez_l2s, ez_la, q_zs, q_zz, q_z1, q_z2, q_i2, q_ig, q_iz, q_jz, true_and, false_and, or_self, or_true, true_or, or_false, false_or, and_true, and_false, and_self, not_true_eq_false, not_false_eq_true, Int.reduceEq, List.length_singleton]
      · dsimp only at e ⊢
        rw [hp] at e
        rw [(v1 e).2]
        rfl
theorem c_readGulls (hx : TX r c T m) (hB : B ≤ 6) (hN : N ≤ 8) (hz : z 132 = (B : Int)) (hz2 : z 133 = (N : Int)) : ∃ (a1 : Int) (z' : Nat → Int), (gg (n + 6) 113).2 [.inr (.inr (.inl (0, 0)))] (hC h (q_z (cRd c 0 (-1)) 0 z)) = some (some (.inl (((tGl r B N 9 0 0 (-1)).1.length : Nat) : Int)), hC h (q_z (cRd c a1 (tGl r B N 9 0 0 (-1)).2.2) 0 z')) ∧ RS a1 (tGl r B N 9 0 0 (-1)).2.2 (tGl r B N 9 0 0 (-1)).2.1 (tGl r B N 9 0 0 (-1)).2.2 ∧ a1 ≤ 27 ∧ (∀ i, (∀ g, N ≤ g → g < 8 → ¬ zSl g i) → z' i = z i) ∧ ((tGl r B N 9 0 0 (-1)).2.2 = -1 → z' = tZs N (tGl r B N 9 0 0 (-1)).1 z) := by
  rw [gr113]
  obtain ⟨a1, mo, j, z1, f1, r1, l1, n1, v1⟩ := c_rgL (n := n) (h := h) (B := B) (N := N) hx hB 9 0 0 (-1) 0 (-1) z (.inr (.inr (.inr 2))) rfl (by omega) hz hz2 (RS_0 (by decide)) (by decide)
  rw [Nat.add_zero] at n1 v1
  rw [Nat.zero_add, show ((0 : Nat) : Int) = 0 from rfl] at f1
  generalize tGl r B N 9 0 0 (-1) = Q at *
  refine ⟨a1, z1, ?_, r1, by omega, n1, v1⟩
  clear hx hz hz2 r1 l1 n1 v1 hB
  simp -implicitDefEqProofs (disch := first | with_reducible assumption | with_reducible exact isc_zs (by assumption) | with_reducible exact isc_zs (by decide) | with_reducible exact isc_zb (by assumption) (by assumption) | with_reducible exact isc_zb (by decide) (by assumption) | with_reducible exact isc_zg (by assumption) (by assumption) | with_reducible exact isc_zl (by assumption) (by assumption) | with_reducible exact isc_0 | with_reducible exact isc_1 | with_reducible exact isc_3 | with_reducible exact isc_7 | with_reducible exact isc_11 | with_reducible exact isc_15 | with_reducible exact isc_19 | with_reducible exact isc_24 | with_reducible exact isc_25 | (simp only [List.map_cons, List.map_nil, List.sum_cons, List.sum_nil, xcat, Nat.reduceAdd, Nat.reduceLeDiff, Nat.zero_le]; done) | omega) only [fX11_readGulls, k_p_sq, k_p_blk, k_sq0, k_sq11, k_sq12, k_sq13, k_sq14, k_sq15, k_sqr, k_sqi, k_blk0, k_blk1, k_blk2, k_blk3, k_blk4, k_blk5, k_blkr, k_blki, k_finr, k_fini, k_mapi, k_bindi, k_if1, k_if2, k_ops, k_br, k_rv, k_ri, k_rl, k_rz, k_rzi, k_01d, k_sw, k_01a, k_01b, k_01c, k_ifn, x_cmp, decide_eq_true_eq, Option.map_some, Option.bind_some, Option.toList_some, Option.toList_none, List.cons_append, List.nil_append, Nat.reduceAdd, true_or, or_true, Int.reduceNeg, Int.reduceEq, reduceIte, Nat.zero_le, Nat.reduceLeDiff, Nat.le_refl, Nat.reduceEqDiff, List.getElem?_cons_zero, List.getElem?_cons_succ, xst, List.set_cons_zero, List.set_cons_succ, List.map_cons, List.map_nil, List.sum_cons, List.sum_nil, xcat, Nat.reduceMul, Nat.reduceDiv, Nat.reduceMod, Nat.add_zero, e_nil, e_iconst, e_il, e_al, e_ll, e_istore, e_astore, e_lstore, e_ic, e_iadd, e_isub, e_imul, e_iand, e_ior, e_ixor, e_ishl, e_ishr, e_ineg, e_dupi, e_dupr, e_dupx, e_dup2, e_popi, eo_g0, eo_g1, eo_g2, eo_g3, eo_g4, eo_g5, eo_g6, eo_g7, eo_g8, eo_g9, eo_g10, eo_g11, eo_g12, eo_g13, eo_g14, eo_s14, eo_g15, eo_g16, eo_s16, et_g0, et_g1, et_s1, et_g2, et_s2, et_g3, et_s3, et_g4, et_s4, eu_g0, eu_g1, eu_s1, eu_g2, eu_g3, eu_s3, eu_g4, eh_g0, eh_g1, eh_s1, eh_g2, eh_s2, ed_g0, ed_g1, ed_g2, ed_g3, ed_s3, ew_g0, ew_g1, ew_g2, ew_g3, ew_s3, en_g0, en_g1, en_s1, en_g2, en_g3, en_g4, en_g5, en_s5, ex_g0, ex_s0, eq_g0, eq_s0, eq_g1, eq_s1, eq_g2, eq_s2, eq_g3, eq_s3, eq_g4, eq_s4, eq_g5, eq_s5, eq_g6, eq_s6, eq_g7, eq_s7, ez_g0, ez_g1, ez_g2, ez_g3, ez_s3, ez_g4, ez_s4, ez_g5, ez_s5, ez_g6, ez_s6, ez_g7, ez_s7, ez_g8, ez_s8, ez_g9, ez_s9, ez_g10, ez_s10, ez_g11, ez_s11, ez_g12, ez_s12, ez_g13, ez_s13, ez_g14, ez_g15, ez_b0g, ez_b0s, ez_b1g, ez_b1s, ez_b2g, ez_b2s, ez_b3g, ez_b3s, ez_b4g, ez_b4s, ez_b5g, ez_b5s, ez_ba, ez_g0g, ez_g0s, ez_g1g, ez_g1s, ez_g2g, ez_g2s, ez_g3g, ez_g3s, ez_g4g, ez_g4s, ez_g5g, ez_g5s, ez_g6g, ez_g6s, ez_g7g, ez_g7s, ez_ga, ez_l0g, ez_l0s, ez_l1g, ez_l1s, ez_l2g, ez_l2s, ez_la, q_zs, q_zz, q_z1, q_z2, q_i2, q_ig, q_iz, q_jz, true_and, false_and, or_self, or_true, true_or, or_false, false_or, and_true, and_false, and_self, not_true_eq_false, not_false_eq_true, f1]
end CG
