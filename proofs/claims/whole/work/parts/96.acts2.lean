/-! ===== sending, paint, chum, hunger: the reference and the class alike ===== -/
section PB
variable {n : Nat} {h : xH} {c : xQ} {r : xR} {H : xH}
theorem eqB (hr : Rel r c) {i j : Nat} (hi : i < kB (rK r)) (hj : j < 6) : c.2.2 0 (6 * j + i) = r.2 1 (6 * j + i) := by
  obtain ⟨h1, h2, h3, ⟨M, h4, h5, h6, h7⟩, h8⟩ := hr.2.1.1
  exact kEq_b (rB6 hr.1) h6 hi hj
theorem eqG (hr : Rel r c) {i j : Nat} (hi : i < kN (rK r)) (hj : j < 6) : c.2.2 0 (36 + 8 * j + i) = r.2 1 (36 + 8 * j + i) := by
  obtain ⟨h1, h2, h3, ⟨M, h4, h5, h6, h7⟩, h8⟩ := hr.2.1.1
  exact kEq_g (rN8 hr.1) h6 hi hj
theorem eqL (hr : Rel r c) {M : Nat} (hM : r.2 1 114 = (M : Int)) {i j : Nat} (hi : i < M) (hj : j < 3) : c.2.2 0 (84 + 10 * j + i) = r.2 1 (84 + 10 * j + i) := by
  obtain ⟨h1, h2, h3, ⟨M', h4, h5, h6, h7⟩, h8⟩ := hr.2.1.1
  have e : M' = M := by omega
  subst e
  exact kEq_l h4 h6 hi hj
theorem hull_nn (hr : Rel r c) {b : Nat} (hb : b < kB (rK r)) : ¬ r.2 1 (24 + b) < 0 := by
  have := hr.2.1.1.2.2.2.2.2.1 b hb
  omega
theorem hung_nn (hr : Rel r c) {g : Nat} (hg : g < kN (rK r)) : ¬ r.2 1 (44 + g) < 0 := by
  have := hr.2.1.1.2.2.2.2.2.2 g hg
  omega
theorem eqH (hr : Rel r c) {g : Nat} (hg : g < kN (rK r)) : c.2.2 0 (116 + g) = r.2 2 g ∧ (0 ≤ r.2 2 g ∧ r.2 2 g < (kB (rK r) : Int)) := ⟨(hr.2.1.1.2.2.1 g hg).1, hr.1.2.2.1 g hg⟩
theorem P_paint (b p : Int) : Par 221 117 [.inl b, .inl p] := by
  intro n h h' r c hr
  obtain ⟨U, u1, u2, u3, u4⟩ := Rel_U hr
  obtain ⟨M, m1, m2, m3, m4⟩ := sSea_M hr.2.1.1
  have hB := rB6 hr.1
  have hN := rN8 hr.1
  have hs := hr.2.1
  have hok := Rel_ok hr
  have hxB : xw (r.1 1 - 1) < 6 := by rw [xw_id (by have := hok.1; omega) (by have := hok.1; omega)]; have := hok.1; omega
  have hxG : xw (r.1 2 - 1) < 8 := by rw [xw_id (by have := hok.2.1; omega) (by have := hok.2.1; omega)]; have := hok.2.1; omega
  have hB2 := rB hr.1
  have hN2 := rN hr.1
  have f1 := c_mark (n := n + 896) (h := h') hr
  have f3 := fun z v => c_held (n := n + 897) (h := h') (c := q_z (qMark r c) 0 z) u3 u4 v
  have fR := r_paint (n := n + 897) (h := h) (r := r) u2 u1 hxB b p
  have f2 := c_paint (n := n + 897) (h := h') (c := qMark r c) (k := 0) (by decide) b p
  have hb := isB hr b
  unfold rPaint at fR
  rw [qMark_0] at f2
  have ff : ∀ (v : Int) (z : Nat → Int), (gg (n + 899) 52).2 [.inr (.inr (.inl (3, 0))), .inl b, .inl p] (hC h' (qMark r c)) = some (some (.inl v), hC h' (q_z (qMark r c) 0 z)) → (gg (n + 900) 117).2 [.inr (.inr (.inl (0, 0))), .inl b, .inl p] (hC h' c) = some (some (.inl v), hC h' (if v < 0 then q_z (qMark r c) 0 z else qHold (q_z (qMark r c) 0 z))) := by
    intro v z f2
    have f3 := f3 z v
    rw [gr117]
    have i0 := isc_zs (h := h') (c := qMark r c) (k := 0) (by decide)
    clear hb hs fR hr
    simp -implicitDefEqProofs (disch := first | with_reducible assumption | with_reducible exact isc_zs (by assumption) | with_reducible exact isc_zs (by decide) | with_reducible exact isc_zb (by assumption) (by assumption) | with_reducible exact isc_zb (by decide) (by assumption) | with_reducible exact isc_zg (by assumption) (by assumption) | with_reducible exact isc_zl (by assumption) (by assumption) | with_reducible exact isc_0 | with_reducible exact isc_1 | with_reducible exact isc_3 | with_reducible exact isc_7 | with_reducible exact isc_11 | with_reducible exact isc_15 | with_reducible exact isc_19 | with_reducible exact isc_24 | with_reducible exact isc_25 | (simp only [List.map_cons, List.map_nil, List.sum_cons, List.sum_nil, xcat, Nat.reduceAdd, Nat.reduceLeDiff, Nat.zero_le]; done) | omega) only [fX11_paint, k_p_sq, k_p_blk, k_sq0, k_sq11, k_sq12, k_sq13, k_sq14, k_sq15, k_sqr, k_sqi, k_blk0, k_blk1, k_blk2, k_blk3, k_blk4, k_blk5, k_blkr, k_blki, k_finr, k_fini, k_mapi, k_bindi, k_if1, k_if2, k_ops, k_br, k_rv, k_ri, k_rl, k_rz, k_rzi, k_01d, k_sw, k_01a, k_01b, k_01c, k_ifn, x_cmp, decide_eq_true_eq, Option.map_some, Option.bind_some, Option.toList_some, Option.toList_none, List.cons_append, List.nil_append, Nat.reduceAdd, true_or, or_true, Int.reduceNeg, Int.reduceEq, reduceIte, Nat.zero_le, Nat.reduceLeDiff, Nat.le_refl, Nat.reduceEqDiff, List.getElem?_cons_zero, List.getElem?_cons_succ, xst, List.set_cons_zero, List.set_cons_succ, List.map_cons, List.map_nil, List.sum_cons, List.sum_nil, xcat, Nat.reduceMul, Nat.reduceDiv, Nat.reduceMod, Nat.add_zero, e_nil, e_iconst, e_il, e_al, e_ll, e_istore, e_astore, e_lstore, e_ic, e_iadd, e_isub, e_imul, e_iand, e_ior, e_ixor, e_ishl, e_ishr, e_ineg, e_dupi, e_dupr, e_dupx, e_dup2, e_popi, eo_g0, eo_g1, eo_g2, eo_g3, eo_g4, eo_g5, eo_g6, eo_g7, eo_g8, eo_g9, eo_g10, eo_g11, eo_g12, eo_g13, eo_g14, eo_s14, eo_g15, eo_g16, eo_s16, et_g0, et_g1, et_s1, et_g2, et_s2, et_g3, et_s3, et_g4, et_s4, eu_g0, eu_g1, eu_s1, eu_g2, eu_g3, eu_s3, eu_g4, eh_g0, eh_g1, eh_s1, eh_g2, eh_s2, ed_g0, ed_g1, ed_g2, ed_g3, ed_s3, ew_g0, ew_g1, ew_g2, ew_g3, ew_s3, en_g0, en_g1, en_s1, en_g2, en_g3, en_g4, en_g5, en_s5, ex_g0, ex_s0, eq_g0, eq_s0, eq_g1, eq_s1, eq_g2, eq_s2, eq_g3, eq_s3, eq_g4, eq_s4, eq_g5, eq_s5, eq_g6, eq_s6, eq_g7, eq_s7, ez_g0, ez_g1, ez_g2, ez_g3, ez_s3, ez_g4, ez_s4, ez_g5, ez_s5, ez_g6, ez_s6, ez_g7, ez_s7, ez_g8, ez_s8, ez_g9, ez_s9, ez_g10, ez_s10, ez_g11, ez_s11, ez_g12, ez_s12, ez_g13, ez_s13, ez_g14, ez_g15, ez_b0g, ez_b0s, ez_b1g, ez_b1s, ez_b2g, ez_b2s, ez_b3g, ez_b3s, ez_b4g, ez_b4s, ez_b5g, ez_b5s, ez_ba, ez_g0g, ez_g0s, ez_g1g, ez_g1s, ez_g2g, ez_g2s, ez_g3g, ez_g3s, ez_g4g, ez_g4s, ez_g5g, ez_g5s, ez_g6g, ez_g6s, ez_g7g, ez_g7s, ez_ga, ez_l0g, ez_l0s, ez_l1g, ez_l1s, ez_l2g, ez_l2s, ez_la, q_zs, q_zz, q_z1, q_z2, q_i2, q_ig, q_iz, q_jz, true_and, false_and, or_self, or_true, true_or, or_false, false_or, and_true, and_false, and_self, not_true_eq_false, not_false_eq_true, ec19, f1, ec52, f2, ec125, f3]
  by_cases c1 : (0 ≤ b ∧ b ≤ xw (r.1 1 - 1)) ∧ (0 ≤ p ∧ p ≤ 5)
  · have c2 : (0 ≤ b ∧ b < c.2.2 0 132 ∧ b < 6) ∧ (0 ≤ p ∧ p ≤ 5) := ⟨hb.1 c1.1, c1.2⟩
    rw [if_pos c1] at fR
    rw [if_pos c2, if_pos c2] at f2
    have hbl : b.toNat < kB (rK r) := by have := (rOk_isB hok b).1 c1.1; omega
    have e1 : c.2.2 0 (24 + b.toNat) = r.2 1 (24 + b.toNat) := eqB hr (j := 4) hbl (by decide)
    rw [e1] at f2
    by_cases c9 : r.2 1 (24 + b.toNat) < 0
    · exact absurd c9 (hull_nn hr hbl)
    · have f4 := ff _ _ f2
      rw [if_neg (c9)] at f4
      refine ⟨_, _, _, fR, f4, ?_⟩
      refine Rel_done hr u2 (sSea_w hB hN hs.1 (by omega) p (by omega)) ?_ ?_
      · rw [xfu_ne _ _ (by omega)]
        exact hs.2.1
      · rw [xfu_ne _ _ (by omega)]
        exact hs.2.2
  · have c2 : ¬ ((0 ≤ b ∧ b < c.2.2 0 132 ∧ b < 6) ∧ (0 ≤ p ∧ p ≤ 5)) := fun z => c1 ⟨hb.2 z.1, z.2⟩
    rw [if_neg c1] at fR
    rw [if_neg c2, if_neg c2] at f2
    try dsimp only at f2
    have f4 := ff _ _ f2
    rw [if_pos (by decide)] at f4
    refine ⟨_, _, _, fR, f4, ?_⟩
    have := (Rel_mark hr).1
    rw [← qMark_0 r c, q_z0]
    exact Rel_11 this 0
theorem P_chum (b p : Int) : Par 225 119 [.inl b, .inl p] := by
  intro n h h' r c hr
  obtain ⟨U, u1, u2, u3, u4⟩ := Rel_U hr
  obtain ⟨M, m1, m2, m3, m4⟩ := sSea_M hr.2.1.1
  have hB := rB6 hr.1
  have hN := rN8 hr.1
  have hs := hr.2.1
  have hok := Rel_ok hr
  have hxB : xw (r.1 1 - 1) < 6 := by rw [xw_id (by have := hok.1; omega) (by have := hok.1; omega)]; have := hok.1; omega
  have hxG : xw (r.1 2 - 1) < 8 := by rw [xw_id (by have := hok.2.1; omega) (by have := hok.2.1; omega)]; have := hok.2.1; omega
  have hB2 := rB hr.1
  have hN2 := rN hr.1
  have f1 := c_mark (n := n + 896) (h := h') hr
  have f3 := fun z v => c_held (n := n + 897) (h := h') (c := q_z (qMark r c) 0 z) u3 u4 v
  have fR := r_chum (n := n + 897) (h := h) (r := r) u2 u1 hxB b p
  have f2 := c_putChum (n := n + 897) (h := h') (c := qMark r c) (k := 0) (by decide) b p
  have hb := isB hr b
  unfold rChum at fR
  rw [qMark_0] at f2
  have ff : ∀ (v : Int) (z : Nat → Int), (gg (n + 899) 54).2 [.inr (.inr (.inl (3, 0))), .inl b, .inl p] (hC h' (qMark r c)) = some (some (.inl v), hC h' (q_z (qMark r c) 0 z)) → (gg (n + 900) 119).2 [.inr (.inr (.inl (0, 0))), .inl b, .inl p] (hC h' c) = some (some (.inl v), hC h' (if v < 0 then q_z (qMark r c) 0 z else qHold (q_z (qMark r c) 0 z))) := by
    intro v z f2
    have f3 := f3 z v
    rw [gr119]
    have i0 := isc_zs (h := h') (c := qMark r c) (k := 0) (by decide)
    clear hb hs fR hr
    simp -implicitDefEqProofs (disch := first | with_reducible assumption | with_reducible exact isc_zs (by assumption) | with_reducible exact isc_zs (by decide) | with_reducible exact isc_zb (by assumption) (by assumption) | with_reducible exact isc_zb (by decide) (by assumption) | with_reducible exact isc_zg (by assumption) (by assumption) | with_reducible exact isc_zl (by assumption) (by assumption) | with_reducible exact isc_0 | with_reducible exact isc_1 | with_reducible exact isc_3 | with_reducible exact isc_7 | with_reducible exact isc_11 | with_reducible exact isc_15 | with_reducible exact isc_19 | with_reducible exact isc_24 | with_reducible exact isc_25 | (simp only [List.map_cons, List.map_nil, List.sum_cons, List.sum_nil, xcat, Nat.reduceAdd, Nat.reduceLeDiff, Nat.zero_le]; done) | omega) only [fX11_chum, k_p_sq, k_p_blk, k_sq0, k_sq11, k_sq12, k_sq13, k_sq14, k_sq15, k_sqr, k_sqi, k_blk0, k_blk1, k_blk2, k_blk3, k_blk4, k_blk5, k_blkr, k_blki, k_finr, k_fini, k_mapi, k_bindi, k_if1, k_if2, k_ops, k_br, k_rv, k_ri, k_rl, k_rz, k_rzi, k_01d, k_sw, k_01a, k_01b, k_01c, k_ifn, x_cmp, decide_eq_true_eq, Option.map_some, Option.bind_some, Option.toList_some, Option.toList_none, List.cons_append, List.nil_append, Nat.reduceAdd, true_or, or_true, Int.reduceNeg, Int.reduceEq, reduceIte, Nat.zero_le, Nat.reduceLeDiff, Nat.le_refl, Nat.reduceEqDiff, List.getElem?_cons_zero, List.getElem?_cons_succ, xst, List.set_cons_zero, List.set_cons_succ, List.map_cons, List.map_nil, List.sum_cons, List.sum_nil, xcat, Nat.reduceMul, Nat.reduceDiv, Nat.reduceMod, Nat.add_zero, e_nil, e_iconst, e_il, e_al, e_ll, e_istore, e_astore, e_lstore, e_ic, e_iadd, e_isub, e_imul, e_iand, e_ior, e_ixor, e_ishl, e_ishr, e_ineg, e_dupi, e_dupr, e_dupx, e_dup2, e_popi, eo_g0, eo_g1, eo_g2, eo_g3, eo_g4, eo_g5, eo_g6, eo_g7, eo_g8, eo_g9, eo_g10, eo_g11, eo_g12, eo_g13, eo_g14, eo_s14, eo_g15, eo_g16, eo_s16, et_g0, et_g1, et_s1, et_g2, et_s2, et_g3, et_s3, et_g4, et_s4, eu_g0, eu_g1, eu_s1, eu_g2, eu_g3, eu_s3, eu_g4, eh_g0, eh_g1, eh_s1, eh_g2, eh_s2, ed_g0, ed_g1, ed_g2, ed_g3, ed_s3, ew_g0, ew_g1, ew_g2, ew_g3, ew_s3, en_g0, en_g1, en_s1, en_g2, en_g3, en_g4, en_g5, en_s5, ex_g0, ex_s0, eq_g0, eq_s0, eq_g1, eq_s1, eq_g2, eq_s2, eq_g3, eq_s3, eq_g4, eq_s4, eq_g5, eq_s5, eq_g6, eq_s6, eq_g7, eq_s7, ez_g0, ez_g1, ez_g2, ez_g3, ez_s3, ez_g4, ez_s4, ez_g5, ez_s5, ez_g6, ez_s6, ez_g7, ez_s7, ez_g8, ez_s8, ez_g9, ez_s9, ez_g10, ez_s10, ez_g11, ez_s11, ez_g12, ez_s12, ez_g13, ez_s13, ez_g14, ez_g15, ez_b0g, ez_b0s, ez_b1g, ez_b1s, ez_b2g, ez_b2s, ez_b3g, ez_b3s, ez_b4g, ez_b4s, ez_b5g, ez_b5s, ez_ba, ez_g0g, ez_g0s, ez_g1g, ez_g1s, ez_g2g, ez_g2s, ez_g3g, ez_g3s, ez_g4g, ez_g4s, ez_g5g, ez_g5s, ez_g6g, ez_g6s, ez_g7g, ez_g7s, ez_ga, ez_l0g, ez_l0s, ez_l1g, ez_l1s, ez_l2g, ez_l2s, ez_la, q_zs, q_zz, q_z1, q_z2, q_i2, q_ig, q_iz, q_jz, true_and, false_and, or_self, or_true, true_or, or_false, false_or, and_true, and_false, and_self, not_true_eq_false, not_false_eq_true, ec19, f1, ec54, f2, ec125, f3]
  by_cases c1 : (0 ≤ b ∧ b ≤ xw (r.1 1 - 1)) ∧ (0 ≤ p ∧ p ≤ 1)
  · have c2 : (0 ≤ b ∧ b < c.2.2 0 132 ∧ b < 6) ∧ (0 ≤ p ∧ p ≤ 1) := ⟨hb.1 c1.1, c1.2⟩
    rw [if_pos c1] at fR
    rw [if_pos c2, if_pos c2] at f2
    have hbl : b.toNat < kB (rK r) := by have := (rOk_isB hok b).1 c1.1; omega
    have e1 : c.2.2 0 (30 + b.toNat) = r.2 1 (30 + b.toNat) := eqB hr (j := 5) hbl (by decide)
    rw [e1] at f2
    have c9 : ¬ r.2 1 (30 + b.toNat) < 0 := by have := (hs.1.2.2.2.2.1.1 b.toNat hbl).2.2; omega
    have f4 := ff _ _ f2
    rw [if_neg (c9)] at f4
    refine ⟨_, _, _, fR, f4, ?_⟩
    refine Rel_done hr u2 (sSea_chum hB hN hs.1 (by omega) (by omega)) ?_ ?_
    · rw [xfu_ne _ _ (by omega)]
      exact hs.2.1
    · rw [xfu_ne _ _ (by omega)]
      exact hs.2.2
  · have c2 : ¬ ((0 ≤ b ∧ b < c.2.2 0 132 ∧ b < 6) ∧ (0 ≤ p ∧ p ≤ 1)) := fun z => c1 ⟨hb.2 z.1, z.2⟩
    rw [if_neg c1] at fR
    rw [if_neg c2, if_neg c2] at f2
    try dsimp only at f2
    have f4 := ff _ _ f2
    rw [if_pos (by decide)] at f4
    refine ⟨_, _, _, fR, f4, ?_⟩
    have := (Rel_mark hr).1
    rw [← qMark_0 r c, q_z0]
    exact Rel_11 this 0
theorem P_show (g : Int) : Par 224 118 [.inl g] := by
  intro n h h' r c hr
  obtain ⟨U, u1, u2, u3, u4⟩ := Rel_U hr
  obtain ⟨M, m1, m2, m3, m4⟩ := sSea_M hr.2.1.1
  have hB := rB6 hr.1
  have hN := rN8 hr.1
  have hs := hr.2.1
  have hok := Rel_ok hr
  have hxB : xw (r.1 1 - 1) < 6 := by rw [xw_id (by have := hok.1; omega) (by have := hok.1; omega)]; have := hok.1; omega
  have hxG : xw (r.1 2 - 1) < 8 := by rw [xw_id (by have := hok.2.1; omega) (by have := hok.2.1; omega)]; have := hok.2.1; omega
  have hB2 := rB hr.1
  have hN2 := rN hr.1
  have f1 := c_mark (n := n + 896) (h := h') hr
  have f3 := fun z v => c_held (n := n + 897) (h := h') (c := q_z (qMark r c) 0 z) u3 u4 v
  have fR := r_show (n := n + 896) (h := h) (r := r) u2 u1 hxG hr.1.2.2.2.2.2.1 g
  have hb := isG hr g
  have hgl : 0 ≤ g ∧ g < c.2.2 0 133 ∧ g < 8 → g.toNat < kN (rK r) := by
    intro z
    have := (rOk_isG hok g).1 (hb.2 z)
    omega
  have hh : 0 ≤ g → g < (qMark r c).2.2 0 133 → g < 8 → 0 ≤ (qMark r c).2.2 0 (116 + g.toNat) ∧ (qMark r c).2.2 0 (116 + g.toNat) < 6 := by
    intro z1 z2 z3
    rw [qMark_0] at z2 ⊢
    have h9 := eqH hr (hgl ⟨z1, z2, z3⟩)
    rw [h9.1]
    omega
  have f2 := c_learn (n := n + 897) (h := h') (c := qMark r c) (k := 0) (by decide) g hh
  unfold rShow at fR
  rw [qMark_0] at f2
  clear hh
  have ff : ∀ (v : Int) (z : Nat → Int), (gg (n + 899) 53).2 [.inr (.inr (.inl (3, 0))), .inl g] (hC h' (qMark r c)) = some (some (.inl v), hC h' (q_z (qMark r c) 0 z)) → (gg (n + 900) 118).2 [.inr (.inr (.inl (0, 0))), .inl g] (hC h' c) = some (some (.inl v), hC h' (if v < 0 then q_z (qMark r c) 0 z else qHold (q_z (qMark r c) 0 z))) := by
    intro v z f2
    have f3 := f3 z v
    rw [gr118]
    have i0 := isc_zs (h := h') (c := qMark r c) (k := 0) (by decide)
    clear hb hgl hs fR hr
    simp -implicitDefEqProofs (disch := first | with_reducible assumption | with_reducible exact isc_zs (by assumption) | with_reducible exact isc_zs (by decide) | with_reducible exact isc_zb (by assumption) (by assumption) | with_reducible exact isc_zb (by decide) (by assumption) | with_reducible exact isc_zg (by assumption) (by assumption) | with_reducible exact isc_zl (by assumption) (by assumption) | with_reducible exact isc_0 | with_reducible exact isc_1 | with_reducible exact isc_3 | with_reducible exact isc_7 | with_reducible exact isc_11 | with_reducible exact isc_15 | with_reducible exact isc_19 | with_reducible exact isc_24 | with_reducible exact isc_25 | (simp only [List.map_cons, List.map_nil, List.sum_cons, List.sum_nil, xcat, Nat.reduceAdd, Nat.reduceLeDiff, Nat.zero_le]; done) | omega) only [fX11_show, k_p_sq, k_p_blk, k_sq0, k_sq11, k_sq12, k_sq13, k_sq14, k_sq15, k_sqr, k_sqi, k_blk0, k_blk1, k_blk2, k_blk3, k_blk4, k_blk5, k_blkr, k_blki, k_finr, k_fini, k_mapi, k_bindi, k_if1, k_if2, k_ops, k_br, k_rv, k_ri, k_rl, k_rz, k_rzi, k_01d, k_sw, k_01a, k_01b, k_01c, k_ifn, x_cmp, decide_eq_true_eq, Option.map_some, Option.bind_some, Option.toList_some, Option.toList_none, List.cons_append, List.nil_append, Nat.reduceAdd, true_or, or_true, Int.reduceNeg, Int.reduceEq, reduceIte, Nat.zero_le, Nat.reduceLeDiff, Nat.le_refl, Nat.reduceEqDiff, List.getElem?_cons_zero, List.getElem?_cons_succ, xst, List.set_cons_zero, List.set_cons_succ, List.map_cons, List.map_nil, List.sum_cons, List.sum_nil, xcat, Nat.reduceMul, Nat.reduceDiv, Nat.reduceMod, Nat.add_zero, e_nil, e_iconst, e_il, e_al, e_ll, e_istore, e_astore, e_lstore, e_ic, e_iadd, e_isub, e_imul, e_iand, e_ior, e_ixor, e_ishl, e_ishr, e_ineg, e_dupi, e_dupr, e_dupx, e_dup2, e_popi, eo_g0, eo_g1, eo_g2, eo_g3, eo_g4, eo_g5, eo_g6, eo_g7, eo_g8, eo_g9, eo_g10, eo_g11, eo_g12, eo_g13, eo_g14, eo_s14, eo_g15, eo_g16, eo_s16, et_g0, et_g1, et_s1, et_g2, et_s2, et_g3, et_s3, et_g4, et_s4, eu_g0, eu_g1, eu_s1, eu_g2, eu_g3, eu_s3, eu_g4, eh_g0, eh_g1, eh_s1, eh_g2, eh_s2, ed_g0, ed_g1, ed_g2, ed_g3, ed_s3, ew_g0, ew_g1, ew_g2, ew_g3, ew_s3, en_g0, en_g1, en_s1, en_g2, en_g3, en_g4, en_g5, en_s5, ex_g0, ex_s0, eq_g0, eq_s0, eq_g1, eq_s1, eq_g2, eq_s2, eq_g3, eq_s3, eq_g4, eq_s4, eq_g5, eq_s5, eq_g6, eq_s6, eq_g7, eq_s7, ez_g0, ez_g1, ez_g2, ez_g3, ez_s3, ez_g4, ez_s4, ez_g5, ez_s5, ez_g6, ez_s6, ez_g7, ez_s7, ez_g8, ez_s8, ez_g9, ez_s9, ez_g10, ez_s10, ez_g11, ez_s11, ez_g12, ez_s12, ez_g13, ez_s13, ez_g14, ez_g15, ez_b0g, ez_b0s, ez_b1g, ez_b1s, ez_b2g, ez_b2s, ez_b3g, ez_b3s, ez_b4g, ez_b4s, ez_b5g, ez_b5s, ez_ba, ez_g0g, ez_g0s, ez_g1g, ez_g1s, ez_g2g, ez_g2s, ez_g3g, ez_g3s, ez_g4g, ez_g4s, ez_g5g, ez_g5s, ez_g6g, ez_g6s, ez_g7g, ez_g7s, ez_ga, ez_l0g, ez_l0s, ez_l1g, ez_l1s, ez_l2g, ez_l2s, ez_la, q_zs, q_zz, q_z1, q_z2, q_i2, q_ig, q_iz, q_jz, true_and, false_and, or_self, or_true, true_or, or_false, false_or, and_true, and_false, and_self, not_true_eq_false, not_false_eq_true, ec19, f1, ec53, f2, ec125, f3]
  by_cases c1 : 0 ≤ g ∧ g ≤ xw (r.1 2 - 1)
  · have c2 := hb.1 c1
    have hg := hgl c2
    have e1 : c.2.2 0 (68 + g.toNat) = r.2 1 (68 + g.toNat) := eqG hr (j := 4) hg (by decide)
    rw [if_pos c1] at fR
    rw [if_pos c2, e1] at f2
    by_cases c3 : r.2 1 (68 + g.toNat) = 0
    · rw [if_pos c3] at fR
      rw [if_pos c3, if_pos ⟨c2, c3⟩] at f2
      have h9 := eqH hr hg
      have h10 : (r.2 2 g.toNat).toNat < kB (rK r) := by omega
      have e2 : c.2.2 0 (24 + (r.2 2 g.toNat).toNat) = r.2 1 (24 + (r.2 2 g.toNat).toNat) := eqB hr (j := 4) h10 (by decide)
      rw [h9.1, e2] at f2
      have c9 := hull_nn hr h10
      have f4 := ff _ _ f2
      rw [if_neg (c9)] at f4
      refine ⟨_, _, _, fR, f4, ?_⟩
      refine Rel_done hr u2 (sSea_w hB hN hs.1 (by omega) _ (by omega)) ?_ ?_
      · rw [xfu_ne _ _ (by omega)]
        exact hs.2.1
      · rw [xfu_ne _ _ (by omega)]
        exact hs.2.2
    · rw [if_neg c3] at fR
      rw [if_neg c3, if_neg (fun z => c3 z.2)] at f2
      try dsimp only at f2
      have f4 := ff _ _ f2
      rw [if_pos (by decide)] at f4
      refine ⟨_, _, _, fR, f4, ?_⟩
      have := (Rel_mark hr).1
      rw [← qMark_0 r c, q_z0]
      exact Rel_11 this 0
  · have c2 : ¬ (0 ≤ g ∧ g < c.2.2 0 133 ∧ g < 8) := fun z => c1 (hb.2 z)
    rw [if_neg c1] at fR
    rw [if_neg c2, if_neg (fun z => c2 z.1)] at f2
    try dsimp only at f2
    have f4 := ff _ _ f2
    rw [if_pos (by decide)] at f4
    refine ⟨_, _, _, fR, f4, ?_⟩
    have := (Rel_mark hr).1
    rw [← qMark_0 r c, q_z0]
    exact Rel_11 this 0
theorem P_feed (g : Int) : Par 227 120 [.inl g] := by
  intro n h h' r c hr
  obtain ⟨U, u1, u2, u3, u4⟩ := Rel_U hr
  obtain ⟨M, m1, m2, m3, m4⟩ := sSea_M hr.2.1.1
  have hB := rB6 hr.1
  have hN := rN8 hr.1
  have hs := hr.2.1
  have hok := Rel_ok hr
  have hxB : xw (r.1 1 - 1) < 6 := by rw [xw_id (by have := hok.1; omega) (by have := hok.1; omega)]; have := hok.1; omega
  have hxG : xw (r.1 2 - 1) < 8 := by rw [xw_id (by have := hok.2.1; omega) (by have := hok.2.1; omega)]; have := hok.2.1; omega
  have hB2 := rB hr.1
  have hN2 := rN hr.1
  have f1 := c_mark (n := n + 896) (h := h') hr
  have f3 := fun z v => c_held (n := n + 897) (h := h') (c := q_z (qMark r c) 0 z) u3 u4 v
  have fR := r_feed (n := n + 896) (h := h) (r := r) u2 u1 hxG g
  have hb := isG hr g
  have hgl : 0 ≤ g ∧ g < c.2.2 0 133 ∧ g < 8 → g.toNat < kN (rK r) := by
    intro z
    have := (rOk_isG hok g).1 (hb.2 z)
    omega
  have f2 := c_fill (n := n + 897) (h := h') (c := qMark r c) (k := 0) (by decide) g
  unfold rFeed at fR
  rw [qMark_0] at f2
  have ff : ∀ (v : Int) (z : Nat → Int), (gg (n + 899) 57).2 [.inr (.inr (.inl (3, 0))), .inl g] (hC h' (qMark r c)) = some (some (.inl v), hC h' (q_z (qMark r c) 0 z)) → (gg (n + 900) 120).2 [.inr (.inr (.inl (0, 0))), .inl g] (hC h' c) = some (some (.inl v), hC h' (if v < 0 then q_z (qMark r c) 0 z else qHold (q_z (qMark r c) 0 z))) := by
    intro v z f2
    have f3 := f3 z v
    rw [gr120]
    have i0 := isc_zs (h := h') (c := qMark r c) (k := 0) (by decide)
    clear hb hgl hs fR hr
    simp -implicitDefEqProofs (disch := first | with_reducible assumption | with_reducible exact isc_zs (by assumption) | with_reducible exact isc_zs (by decide) | with_reducible exact isc_zb (by assumption) (by assumption) | with_reducible exact isc_zb (by decide) (by assumption) | with_reducible exact isc_zg (by assumption) (by assumption) | with_reducible exact isc_zl (by assumption) (by assumption) | with_reducible exact isc_0 | with_reducible exact isc_1 | with_reducible exact isc_3 | with_reducible exact isc_7 | with_reducible exact isc_11 | with_reducible exact isc_15 | with_reducible exact isc_19 | with_reducible exact isc_24 | with_reducible exact isc_25 | (simp only [List.map_cons, List.map_nil, List.sum_cons, List.sum_nil, xcat, Nat.reduceAdd, Nat.reduceLeDiff, Nat.zero_le]; done) | omega) only [fX11_feed, k_p_sq, k_p_blk, k_sq0, k_sq11, k_sq12, k_sq13, k_sq14, k_sq15, k_sqr, k_sqi, k_blk0, k_blk1, k_blk2, k_blk3, k_blk4, k_blk5, k_blkr, k_blki, k_finr, k_fini, k_mapi, k_bindi, k_if1, k_if2, k_ops, k_br, k_rv, k_ri, k_rl, k_rz, k_rzi, k_01d, k_sw, k_01a, k_01b, k_01c, k_ifn, x_cmp, decide_eq_true_eq, Option.map_some, Option.bind_some, Option.toList_some, Option.toList_none, List.cons_append, List.nil_append, Nat.reduceAdd, true_or, or_true, Int.reduceNeg, Int.reduceEq, reduceIte, Nat.zero_le, Nat.reduceLeDiff, Nat.le_refl, Nat.reduceEqDiff, List.getElem?_cons_zero, List.getElem?_cons_succ, xst, List.set_cons_zero, List.set_cons_succ, List.map_cons, List.map_nil, List.sum_cons, List.sum_nil, xcat, Nat.reduceMul, Nat.reduceDiv, Nat.reduceMod, Nat.add_zero, e_nil, e_iconst, e_il, e_al, e_ll, e_istore, e_astore, e_lstore, e_ic, e_iadd, e_isub, e_imul, e_iand, e_ior, e_ixor, e_ishl, e_ishr, e_ineg, e_dupi, e_dupr, e_dupx, e_dup2, e_popi, eo_g0, eo_g1, eo_g2, eo_g3, eo_g4, eo_g5, eo_g6, eo_g7, eo_g8, eo_g9, eo_g10, eo_g11, eo_g12, eo_g13, eo_g14, eo_s14, eo_g15, eo_g16, eo_s16, et_g0, et_g1, et_s1, et_g2, et_s2, et_g3, et_s3, et_g4, et_s4, eu_g0, eu_g1, eu_s1, eu_g2, eu_g3, eu_s3, eu_g4, eh_g0, eh_g1, eh_s1, eh_g2, eh_s2, ed_g0, ed_g1, ed_g2, ed_g3, ed_s3, ew_g0, ew_g1, ew_g2, ew_g3, ew_s3, en_g0, en_g1, en_s1, en_g2, en_g3, en_g4, en_g5, en_s5, ex_g0, ex_s0, eq_g0, eq_s0, eq_g1, eq_s1, eq_g2, eq_s2, eq_g3, eq_s3, eq_g4, eq_s4, eq_g5, eq_s5, eq_g6, eq_s6, eq_g7, eq_s7, ez_g0, ez_g1, ez_g2, ez_g3, ez_s3, ez_g4, ez_s4, ez_g5, ez_s5, ez_g6, ez_s6, ez_g7, ez_s7, ez_g8, ez_s8, ez_g9, ez_s9, ez_g10, ez_s10, ez_g11, ez_s11, ez_g12, ez_s12, ez_g13, ez_s13, ez_g14, ez_g15, ez_b0g, ez_b0s, ez_b1g, ez_b1s, ez_b2g, ez_b2s, ez_b3g, ez_b3s, ez_b4g, ez_b4s, ez_b5g, ez_b5s, ez_ba, ez_g0g, ez_g0s, ez_g1g, ez_g1s, ez_g2g, ez_g2s, ez_g3g, ez_g3s, ez_g4g, ez_g4s, ez_g5g, ez_g5s, ez_g6g, ez_g6s, ez_g7g, ez_g7s, ez_ga, ez_l0g, ez_l0s, ez_l1g, ez_l1s, ez_l2g, ez_l2s, ez_la, q_zs, q_zz, q_z1, q_z2, q_i2, q_ig, q_iz, q_jz, true_and, false_and, or_self, or_true, true_or, or_false, false_or, and_true, and_false, and_self, not_true_eq_false, not_false_eq_true, ec19, f1, ec57, f2, ec125, f3]
  by_cases c1 : 0 ≤ g ∧ g ≤ xw (r.1 2 - 1)
  · have c2 := hb.1 c1
    have hg := hgl c2
    have e1 : c.2.2 0 (68 + g.toNat) = r.2 1 (68 + g.toNat) := eqG hr (j := 4) hg (by decide)
    rw [if_pos c1] at fR
    rw [if_pos c2, e1] at f2
    by_cases c3 : r.2 1 (68 + g.toNat) = 0
    · rw [if_pos c3] at fR
      rw [if_pos c3, if_pos ⟨c2, c3⟩] at f2
      have e2 : c.2.2 0 (44 + g.toNat) = r.2 1 (44 + g.toNat) := eqG hr (j := 1) hg (by decide)
      rw [e2] at f2
      have c9 := hung_nn hr hg
      have f4 := ff _ _ f2
      rw [if_neg (c9)] at f4
      refine ⟨_, _, _, fR, f4, ?_⟩
      refine Rel_done hr u2 (sSea_w hB hN hs.1 (by omega) _ (by omega)) ?_ ?_
      · rw [xfu_ne _ _ (by omega)]
        exact hs.2.1
      · rw [xfu_ne _ _ (by omega)]
        exact hs.2.2
    · rw [if_neg c3] at fR
      rw [if_neg c3, if_neg (fun z => c3 z.2)] at f2
      try dsimp only at f2
      have f4 := ff _ _ f2
      rw [if_pos (by decide)] at f4
      refine ⟨_, _, _, fR, f4, ?_⟩
      have := (Rel_mark hr).1
      rw [← qMark_0 r c, q_z0]
      exact Rel_11 this 0
  · have c2 : ¬ (0 ≤ g ∧ g < c.2.2 0 133 ∧ g < 8) := fun z => c1 (hb.2 z)
    rw [if_neg c1] at fR
    rw [if_neg c2, if_neg (fun z => c2 z.1)] at f2
    try dsimp only at f2
    have f4 := ff _ _ f2
    rw [if_pos (by decide)] at f4
    refine ⟨_, _, _, fR, f4, ?_⟩
    have := (Rel_mark hr).1
    rw [← qMark_0 r c, q_z0]
    exact Rel_11 this 0
theorem P_send (g l : Int) : Par 220 116 [.inl g, .inl l] := by
  intro n h h' r c hr
  obtain ⟨U, u1, u2, u3, u4⟩ := Rel_U hr
  obtain ⟨M, m1, m2, m3, m4⟩ := sSea_M hr.2.1.1
  have hB := rB6 hr.1
  have hN := rN8 hr.1
  have hs := hr.2.1
  have hok := Rel_ok hr
  have hxB : xw (r.1 1 - 1) < 6 := by rw [xw_id (by have := hok.1; omega) (by have := hok.1; omega)]; have := hok.1; omega
  have hxG : xw (r.1 2 - 1) < 8 := by rw [xw_id (by have := hok.2.1; omega) (by have := hok.2.1; omega)]; have := hok.2.1; omega
  have hB2 := rB hr.1
  have hN2 := rN hr.1
  have f1 := c_mark (n := n + 896) (h := h') hr
  have f3 := fun z v => c_held (n := n + 897) (h := h') (c := q_z (qMark r c) 0 z) u3 u4 v
  have hxM : xw (r.2 1 114 - 1) < 10 := by rw [m2, xw_id (by omega) (by omega)]; omega
  have fR := r_send (n := n + 896) (h := h) (r := r) u2 u1 hxG hxM hr.1.2.2.2.2.2.1 g l
  have hb := isG hr g
  have hgl : 0 ≤ g ∧ g < c.2.2 0 133 ∧ g < 8 → g.toNat < kN (rK r) := by
    intro z
    have := (rOk_isG hok g).1 (hb.2 z)
    omega
  have hh : 0 ≤ g → g < (qMark r c).2.2 0 133 → g < 8 → 0 ≤ (qMark r c).2.2 0 (116 + g.toNat) ∧ (qMark r c).2.2 0 (116 + g.toNat) < 6 := by
    intro z1 z2 z3
    rw [qMark_0] at z2 ⊢
    have h9 := eqH hr (hgl ⟨z1, z2, z3⟩)
    rw [h9.1]
    omega
  have f2 := c_send (n := n + 896) (h := h') (c := qMark r c) (k := 0) (by decide) g l hh
  rw [qMark_0] at f2
  clear hh
  unfold cSend at f2
  have ff : ∀ (v : Int) (z : Nat → Int), (gg (n + 899) 51).2 [.inr (.inr (.inl (3, 0))), .inl g, .inl l] (hC h' (qMark r c)) = some (some (.inl v), hC h' (q_z (qMark r c) 0 z)) → (gg (n + 900) 116).2 [.inr (.inr (.inl (0, 0))), .inl g, .inl l] (hC h' c) = some (some (.inl v), hC h' (if v < 0 then q_z (qMark r c) 0 z else qHold (q_z (qMark r c) 0 z))) := by
    intro v z f2
    have f3 := f3 z v
    rw [gr116]
    have i0 := isc_zs (h := h') (c := qMark r c) (k := 0) (by decide)
    clear hb hgl hs fR hr
    simp -implicitDefEqProofs (disch := first | with_reducible assumption | with_reducible exact isc_zs (by assumption) | with_reducible exact isc_zs (by decide) | with_reducible exact isc_zb (by assumption) (by assumption) | with_reducible exact isc_zb (by decide) (by assumption) | with_reducible exact isc_zg (by assumption) (by assumption) | with_reducible exact isc_zl (by assumption) (by assumption) | with_reducible exact isc_0 | with_reducible exact isc_1 | with_reducible exact isc_3 | with_reducible exact isc_7 | with_reducible exact isc_11 | with_reducible exact isc_15 | with_reducible exact isc_19 | with_reducible exact isc_24 | with_reducible exact isc_25 | (simp only [List.map_cons, List.map_nil, List.sum_cons, List.sum_nil, xcat, Nat.reduceAdd, Nat.reduceLeDiff, Nat.zero_le]; done) | omega) only [fX11_send, k_p_sq, k_p_blk, k_sq0, k_sq11, k_sq12, k_sq13, k_sq14, k_sq15, k_sqr, k_sqi, k_blk0, k_blk1, k_blk2, k_blk3, k_blk4, k_blk5, k_blkr, k_blki, k_finr, k_fini, k_mapi, k_bindi, k_if1, k_if2, k_ops, k_br, k_rv, k_ri, k_rl, k_rz, k_rzi, k_01d, k_sw, k_01a, k_01b, k_01c, k_ifn, x_cmp, decide_eq_true_eq, Option.map_some, Option.bind_some, Option.toList_some, Option.toList_none, List.cons_append, List.nil_append, Nat.reduceAdd, true_or, or_true, Int.reduceNeg, Int.reduceEq, reduceIte, Nat.zero_le, Nat.reduceLeDiff, Nat.le_refl, Nat.reduceEqDiff, List.getElem?_cons_zero, List.getElem?_cons_succ, xst, List.set_cons_zero, List.set_cons_succ, List.map_cons, List.map_nil, List.sum_cons, List.sum_nil, xcat, Nat.reduceMul, Nat.reduceDiv, Nat.reduceMod, Nat.add_zero, e_nil, e_iconst, e_il, e_al, e_ll, e_istore, e_astore, e_lstore, e_ic, e_iadd, e_isub, e_imul, e_iand, e_ior, e_ixor, e_ishl, e_ishr, e_ineg, e_dupi, e_dupr, e_dupx, e_dup2, e_popi, eo_g0, eo_g1, eo_g2, eo_g3, eo_g4, eo_g5, eo_g6, eo_g7, eo_g8, eo_g9, eo_g10, eo_g11, eo_g12, eo_g13, eo_g14, eo_s14, eo_g15, eo_g16, eo_s16, et_g0, et_g1, et_s1, et_g2, et_s2, et_g3, et_s3, et_g4, et_s4, eu_g0, eu_g1, eu_s1, eu_g2, eu_g3, eu_s3, eu_g4, eh_g0, eh_g1, eh_s1, eh_g2, eh_s2, ed_g0, ed_g1, ed_g2, ed_g3, ed_s3, ew_g0, ew_g1, ew_g2, ew_g3, ew_s3, en_g0, en_g1, en_s1, en_g2, en_g3, en_g4, en_g5, en_s5, ex_g0, ex_s0, eq_g0, eq_s0, eq_g1, eq_s1, eq_g2, eq_s2, eq_g3, eq_s3, eq_g4, eq_s4, eq_g5, eq_s5, eq_g6, eq_s6, eq_g7, eq_s7, ez_g0, ez_g1, ez_g2, ez_g3, ez_s3, ez_g4, ez_s4, ez_g5, ez_s5, ez_g6, ez_s6, ez_g7, ez_s7, ez_g8, ez_s8, ez_g9, ez_s9, ez_g10, ez_s10, ez_g11, ez_s11, ez_g12, ez_s12, ez_g13, ez_s13, ez_g14, ez_g15, ez_b0g, ez_b0s, ez_b1g, ez_b1s, ez_b2g, ez_b2s, ez_b3g, ez_b3s, ez_b4g, ez_b4s, ez_b5g, ez_b5s, ez_ba, ez_g0g, ez_g0s, ez_g1g, ez_g1s, ez_g2g, ez_g2s, ez_g3g, ez_g3s, ez_g4g, ez_g4s, ez_g5g, ez_g5s, ez_g6g, ez_g6s, ez_g7g, ez_g7s, ez_ga, ez_l0g, ez_l0s, ez_l1g, ez_l1s, ez_l2g, ez_l2s, ez_la, q_zs, q_zz, q_z1, q_z2, q_i2, q_ig, q_iz, q_jz, true_and, false_and, or_self, or_true, true_or, or_false, false_or, and_true, and_false, and_self, not_true_eq_false, not_false_eq_true, ec19, f1, ec51, f2, ec125, f3]
  by_cases c1 : 0 ≤ g ∧ g ≤ xw (r.1 2 - 1)
  · have c2 := hb.1 c1
    have hg := hgl c2
    have e1 : c.2.2 0 (68 + g.toNat) = r.2 1 (68 + g.toNat) := eqG hr (j := 4) hg (by decide)
    rw [if_pos c1] at fR
    rw [if_pos c2, e1] at f2
    by_cases c3 : r.2 1 (68 + g.toNat) = 0
    · rw [if_pos c3] at fR
      rw [if_pos c3] at f2
      have hl : (l = -1 ∨ ((0 ≤ l ∧ l ≤ xw (r.2 1 114 - 1)) ∧ r.2 1 (94 + l.toNat) = 0)) ↔ (l = -1 ∨ ((0 ≤ l ∧ l < c.2.2 0 114 ∧ l < 10) ∧ c.2.2 0 (94 + l.toNat) = 0)) := by
        rw [m2, m3, xw_id (by omega) (by omega)]
        by_cases d : 0 ≤ l ∧ l < (M : Int)
        · have e5 : c.2.2 0 (94 + l.toNat) = r.2 1 (94 + l.toNat) := eqL hr m2 (i := l.toNat) (j := 1) (by omega) (by decide)
          rw [e5]
          omega
        · omega
      by_cases c4 : l = -1 ∨ ((0 ≤ l ∧ l ≤ xw (r.2 1 114 - 1)) ∧ r.2 1 (94 + l.toNat) = 0)
      · have c5 := hl.1 c4
        rw [if_pos c4] at fR
        rw [if_pos c5] at f2
        have h9 := eqH hr hg
        have hlM : l = -1 ∨ (0 ≤ l ∧ l < M) := by
          rw [m3] at c5
          omega
        have s2 := sSea_send hB hN hs.1 m2 m1 (show g.toNat < 8 by omega) hlM
        have e6 : rFar (rSend (c.2.2 0) g.toNat l) g.toNat (c.2.2 0 (116 + g.toNat)) = rFar (rSend (r.2 1) g.toNat l) g.toNat (r.2 2 g.toNat) := by
          rw [h9.1]
          obtain ⟨M', _, _, k6, _⟩ := s2.2.2.2.1
          exact rFar_eq hB hN hg (by omega) k6
        have c9 : ¬ rFar (rSend (r.2 1) g.toNat l) g.toNat (r.2 2 g.toNat) < 0 := by
          have := (rFar_in s2.2.2.2.2.1 hg (q := r.2 2 g.toNat) (by omega)).1
          omega
        dsimp only at f2
        rw [e6] at f2
        have f4 := ff _ _ f2
        rw [if_neg (c9)] at f4
        refine ⟨_, _, _, fR, f4, ?_⟩
        refine Rel_done hr u2 (s2) ?_ ?_
        · rw [rSend_hi _ (by omega) (by omega) (by omega)]
          exact hs.2.1
        · rw [rSend_hi _ (by omega) (by omega) (by omega)]
          exact hs.2.2
      · have c5 : ¬ _ := fun z => c4 (hl.2 z)
        rw [if_neg c4] at fR
        rw [if_neg c5] at f2
        try dsimp only at f2
        have f4 := ff _ _ f2
        rw [if_pos (by decide)] at f4
        refine ⟨_, _, _, fR, f4, ?_⟩
        have := (Rel_mark hr).1
        rw [← qMark_0 r c, q_z0]
        exact Rel_11 this 0
    · rw [if_neg c3] at fR
      rw [if_neg c3] at f2
      try dsimp only at f2
      have f4 := ff _ _ f2
      rw [if_pos (by decide)] at f4
      refine ⟨_, _, _, fR, f4, ?_⟩
      have := (Rel_mark hr).1
      rw [← qMark_0 r c, q_z0]
      exact Rel_11 this 0
  · have c2 : ¬ (0 ≤ g ∧ g < c.2.2 0 133 ∧ g < 8) := fun z => c1 (hb.2 z)
    rw [if_neg c1] at fR
    rw [if_neg c2] at f2
    try dsimp only at f2
    have f4 := ff _ _ f2
    rw [if_pos (by decide)] at f4
    refine ⟨_, _, _, fR, f4, ?_⟩
    have := (Rel_mark hr).1
    rw [← qMark_0 r c, q_z0]
    exact Rel_11 this 0
end PB
