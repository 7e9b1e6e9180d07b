/-! ===== the class: half hours go by ===== -/
section CS8
variable {n : Nat} {h : xH} {c : xQ} {H : xH} {k b g m : Nat} {z a t : Nat → Int} {T : xT5}
/-- what holds of a row and a tally while half hours go by -/
def cOk (kx : xKx) (M : Nat) (A : (Nat → Int) × xT5) : Prop := kSane (kB kx) (kN kx) A.1 ∧ A.1 114 = (M : Int) ∧ kBe M (kN kx) A.1 ∧ xin A.2.2.2.1
theorem cOk_fly {kx : xKx} {M : Nat} (hK : kxOk kx) (hM : M ≤ 10) {A : (Nat → Int) × xT5} (hA : cOk kx M A) (hg : g < kN kx) : cOk kx M (cFly kx g A.1 A.2) := by
  obtain ⟨h1, h2, h3, h4⟩ := hA
  have hl : A.1 (76 + g) = -1 ∨ (0 ≤ A.1 (76 + g) ∧ A.1 (76 + g) < 10) := by have := h3 g hg; omega
  have hN : kN kx ≤ 8 := hK.2.1
  refine ⟨kSane_gull hK h1 hg hl _, ?_, ?_, cFly_in h4⟩
  · show (kGull kx g _).1 114 = _
    rw [kGull_far (by omega) (by omega) hl]
    exact h2
  · exact kBe_gull (k := kx) (F := (A.1, A.2.2.1, A.2.2.2.1, A.2.2.2.2.1, fun _ => -1)) hN hM hg h3
theorem cOk_gulls {kx : xKx} {M : Nat} (hK : kxOk kx) (hM : M ≤ 10) {A : (Nat → Int) × xT5} (hA : cOk kx M A) : ∀ i, i ≤ kN kx → cOk kx M (cGulls kx i A)
  | 0, _ => hA
  | i + 1, hi => by
    have ih := cOk_gulls hK hM hA i (by omega)
    unfold cGulls
    split
    · exact cOk_fly hK hM ih (by omega)
    · exact ih
theorem cOk_boats {kx : xKx} {M : Nat} (hK : kxOk kx) {A : (Nat → Int) × xT5} (hA : cOk kx M A) : cOk kx M (xit boat1 (kB kx) A.1, A.2) := by
  obtain ⟨h1, h2, h3, h4⟩ := hA
  refine ⟨kSane_boats h1 hK.1 hK.2.1 _ (Nat.le_refl _), ?_, fun g hg => ?_, h4⟩
  · show xit boat1 (kB kx) A.1 114 = _
    rw [boats_far (by omega) _ _ hK.1]
    exact h2
  · dsimp only
    rw [boats_far (by omega) _ _ hK.1]
    exact h3 g hg
theorem cOk_115 {kx : xKx} {M : Nat} (hK : kxOk kx) {A : (Nat → Int) × xT5} (hA : cOk kx M A) (v : Int) : cOk kx M (xfu A.1 115 v, A.2) := by
  obtain ⟨h1, h2, h3, h4⟩ := hA
  have hN : kN kx ≤ 8 := hK.2.1
  refine ⟨kSane_w h1 hK.1 hK.2.1 (by omega) _, ?_, fun g hg => ?_, h4⟩
  · show xfu A.1 115 v 114 = _
    rw [xfu_ne _ _ (by omega)]
    exact h2
  · dsimp only
    rw [xfu_ne _ _ (by omega)]
    exact h3 g hg
theorem cOk_half {kx : xKx} {M : Nat} (hK : kxOk kx) (hM : M ≤ 10) {A : (Nat → Int) × xT5} (hA : cOk kx M A) : cOk kx M (cHalf kx A) :=
  cOk_115 hK (cOk_gulls hK hM (cOk_boats hK hA) (kN kx) (Nat.le_refl _)) _
theorem cOk_pass {kx : xKx} {M : Nat} (hK : kxOk kx) (hM : M ≤ 10) {A : (Nat → Int) × xT5} (hA : cOk kx M A) : ∀ i, cOk kx M (cPass kx i A)
  | 0 => hA
  | i + 1 => cOk_half hK hM (cOk_pass hK hM hA i)
theorem zw_boats {z a t : Nat → Int} {T : xT5} : ∀ B, B ≤ 6 → xit boat1 B (zw z a T t) = zw z (xit boat1 B a) T t
  | 0, _ => rfl
  | B + 1, hB => by
    show boat1 B (xit boat1 B (zw z a T t)) = zw z (boat1 B (xit boat1 B a)) T t
    rw [zw_boats B (by omega)]
    generalize xit boat1 B a = a1
    unfold boat1
    try dsimp only
    rw [zw_a (i := B) (by omega), zw_a (i := 12 + B) (by omega)]
    by_cases c1 : 0 ≤ xw (a1 B + a1 (12 + B)) ∧ xw (a1 B + a1 (12 + B)) ≤ 15
    · simp only [if_pos c1]
      rw [zw_pa (i := B) (by omega)]
      generalize xfu a1 B (xw (a1 B + a1 (12 + B))) = a2
      rw [zw_a (i := 6 + B) (by omega), zw_a (i := 18 + B) (by omega), zw_pa (i := 6 + B) (by omega), zw_pa (i := 18 + B) (by omega)]
      split <;> rfl
    · simp only [if_neg c1]
      rw [zw_pa (i := 12 + B) (by omega)]
      generalize xfu a1 (12 + B) (xw (-a1 (12 + B))) = a2
      rw [zw_a (i := 6 + B) (by omega), zw_a (i := 18 + B) (by omega), zw_pa (i := 6 + B) (by omega), zw_pa (i := 18 + B) (by omega)]
      split <;> rfl
theorem c_passG (hk : k < 17) {kx : xKx} (hK : kxOk kx) (hz : zKx kx z) {M : Nat} (hM : M ≤ 10) {A : (Nat → Int) × xT5} (hA : cOk kx M A) (hr : ruleOk c (kSize kx) (kText kx)) (v w : Int) : ∃ x : (Nat → Int) × (Nat → Int), p_lop (lX7_pass_13 (gg (n + 5))) ([.inr (.inr (.inl (k + 3, 0))), .inl v, .inl w, .inl 0], [], hC h (q_z c k (zw z A.1 A.2 t))) = some (.inl (0 + 1), ([.inr (.inr (.inl (k + 3, 0))), .inl v, .inl w, .inl (kN kx : Int)], [], hC h (q_z (q_j c 6 x.2) k (zw z (cGulls kx (kN kx) A).1 (cGulls kx (kN kx) A).2 x.1)))) := by
  have hN : kN kx ≤ 8 := hK.2.1
  have z2 : z 133 = (kN kx : Int) := hz.2.1
  refine k_forE (fun i (x : (Nat → Int) × (Nat → Int)) => ([.inr (.inr (.inl (k + 3, 0))), .inl v, .inl w, .inl (i : Int)], [], hC h (q_z (q_j c 6 x.2) k (zw z (cGulls kx i A).1 (cGulls kx i A).2 x.1)))) (kN kx) (e := fun x => ([.inr (.inr (.inl (k + 3, 0))), .inl v, .inl w, .inl (kN kx : Int)], [], hC h (q_z (q_j c 6 x.2) k (zw z (cGulls kx (kN kx) A).1 (cGulls kx (kN kx) A).2 x.1)))) (t, c.2.1 6) (by show _ = _; rw [q_j0]; rfl) ?_ ?_
  · intro x
    have y1 : ∀ a T t, zw z a T t 133 = (kN kx : Int) := fun a T t => z2
    clear hz z2 hA hr hK
    simp -implicitDefEqProofs (disch := first | with_reducible assumption | with_reducible exact isc_zs (by assumption) | with_reducible exact isc_zs (by decide) | with_reducible exact isc_zb (by assumption) (by assumption) | with_reducible exact isc_zb (by decide) (by assumption) | with_reducible exact isc_zg (by assumption) (by assumption) | with_reducible exact isc_zl (by assumption) (by assumption) | with_reducible exact isc_0 | with_reducible exact isc_1 | with_reducible exact isc_3 | with_reducible exact isc_7 | with_reducible exact isc_11 | with_reducible exact isc_15 | with_reducible exact isc_19 | with_reducible exact isc_24 | with_reducible exact isc_25 | (simp only [List.map_cons, List.map_nil, List.sum_cons, List.sum_nil, xcat, Nat.reduceAdd, Nat.reduceLeDiff, Nat.zero_le]; done) | omega) only [lX7_pass_13, k_p_sq, k_p_blk, k_sq0, k_sq11, k_sq12, k_sq13, k_sq14, k_sq15, k_sqr, k_sqi, k_blk0, k_blk1, k_blk2, k_blk3, k_blk4, k_blk5, k_blkr, k_blki, k_finr, k_fini, k_mapi, k_bindi, k_if1, k_if2, k_ops, k_br, k_rv, k_ri, k_rl, k_rz, k_rzi, k_01d, k_sw, k_01a, k_01b, k_01c, k_ifn, x_cmp, decide_eq_true_eq, Option.map_some, Option.bind_some, Option.toList_some, Option.toList_none, List.cons_append, List.nil_append, Nat.reduceAdd, true_or, or_true, Int.reduceNeg, Int.reduceEq, reduceIte, Nat.zero_le, Nat.reduceLeDiff, Nat.le_refl, Nat.reduceEqDiff, List.getElem?_cons_zero, List.getElem?_cons_succ, xst, List.set_cons_zero, List.set_cons_succ, List.map_cons, List.map_nil, List.sum_cons, List.sum_nil, xcat, Nat.reduceMul, Nat.reduceDiv, Nat.reduceMod, Nat.add_zero, e_nil, e_iconst, e_il, e_al, e_ll, e_istore, e_astore, e_lstore, e_ic, e_iadd, e_isub, e_imul, e_iand, e_ior, e_ixor, e_ishl, e_ishr, e_ineg, e_dupi, e_dupr, e_dupx, e_dup2, e_popi, eo_g0, eo_g1, eo_g2, eo_g3, eo_g4, eo_g5, eo_g6, eo_g7, eo_g8, eo_g9, eo_g10, eo_g11, eo_g12, eo_g13, eo_g14, eo_s14, eo_g15, eo_g16, eo_s16, et_g0, et_g1, et_s1, et_g2, et_s2, et_g3, et_s3, et_g4, et_s4, eu_g0, eu_g1, eu_s1, eu_g2, eu_g3, eu_s3, eu_g4, eh_g0, eh_g1, eh_s1, eh_g2, eh_s2, ed_g0, ed_g1, ed_g2, ed_g3, ed_s3, ew_g0, ew_g1, ew_g2, ew_g3, ew_s3, en_g0, en_g1, en_s1, en_g2, en_g3, en_g4, en_g5, en_s5, ex_g0, ex_s0, eq_g0, eq_s0, eq_g1, eq_s1, eq_g2, eq_s2, eq_g3, eq_s3, eq_g4, eq_s4, eq_g5, eq_s5, eq_g6, eq_s6, eq_g7, eq_s7, ez_g0, ez_g1, ez_g2, ez_g3, ez_s3, ez_g4, ez_s4, ez_g5, ez_s5, ez_g6, ez_s6, ez_g7, ez_s7, ez_g8, ez_s8, ez_g9, ez_s9, ez_g10, ez_s10, ez_g11, ez_s11, ez_g12, ez_s12, ez_g13, ez_s13, ez_g14, ez_g15, ez_b0g, ez_b0s, ez_b1g, ez_b1s, ez_b2g, ez_b2s, ez_b3g, ez_b3s, ez_b4g, ez_b4s, ez_b5g, ez_b5s, ez_ba, ez_g0g, ez_g0s, ez_g1g, ez_g1s, ez_g2g, ez_g2s, ez_g3g, ez_g3s, ez_g4g, ez_g4s, ez_g5g, ez_g5s, ez_g6g, ez_g6s, ez_g7g, ez_g7s, ez_ga, ez_l0g, ez_l0s, ez_l1g, ez_l1s, ez_l2g, ez_l2s, ez_la, q_zs, q_zz, q_z1, q_z2, q_i2, q_ig, q_iz, q_jz, true_and, false_and, or_self, or_true, true_or, or_false, false_or, and_true, and_false, and_self, not_true_eq_false, not_false_eq_true, y1, Int.le_refl]
  · intro i hi x
    have hA2 := cOk_gulls hK hM hA i (by omega)
    have e1 : cGulls kx (i + 1) A = if (cGulls kx i A).1 (68 + i) = 1 then cFly kx i (cGulls kx i A).1 (cGulls kx i A).2 else cGulls kx i A := rfl
    rw [e1]
    generalize cGulls kx i A = A1 at *
    have hi2 : ¬ (kN kx : Int) ≤ (i : Int) := by omega
    have hi8 : i < 8 := by omega
    have x1 : xw ((i : Int) + 1) = ((i + 1 : Nat) : Int) := by rw [xw_id (by omega) (by omega)]; omega
    have y1 : ∀ a T t, zw z a T t 133 = (kN kx : Int) := fun a T t => z2
    have y2 : ∀ T t, zw z A1.1 T t (68 + i) = A1.1 (68 + i) := fun T t => zw_a (by omega)
    by_cases c1 : A1.1 (68 + i) = 1
    · obtain ⟨t', J, f1⟩ := c_fly (n := n) (h := h) (c := q_j c 6 x.2) (k := k) (g := i) (z := z) (a := A1.1) (t := x.1) (T := A1.2) hk hK hz (ruleOk_6 _ hr) hi hA2.1 hM hA2.2.1 (hA2.2.2.1 i hi) hA2.2.2.2
      refine ⟨(t', J), ?_⟩
      rw [if_pos c1]
      rw [q_jj] at f1
      clear hz z2 hA hr hK hA2 e1 hN
      simp -implicitDefEqProofs (disch := first | with_reducible assumption | with_reducible exact isc_zs (by assumption) | with_reducible exact isc_zs (by decide) | with_reducible exact isc_zb (by assumption) (by assumption) | with_reducible exact isc_zb (by decide) (by assumption) | with_reducible exact isc_zg (by assumption) (by assumption) | with_reducible exact isc_zl (by assumption) (by assumption) | with_reducible exact isc_0 | with_reducible exact isc_1 | with_reducible exact isc_3 | with_reducible exact isc_7 | with_reducible exact isc_11 | with_reducible exact isc_15 | with_reducible exact isc_19 | with_reducible exact isc_24 | with_reducible exact isc_25 | (simp only [List.map_cons, List.map_nil, List.sum_cons, List.sum_nil, xcat, Nat.reduceAdd, Nat.reduceLeDiff, Nat.zero_le]; done) | omega) only [lX7_pass_13, k_p_sq, k_p_blk, k_sq0, k_sq11, k_sq12, k_sq13, k_sq14, k_sq15, k_sqr, k_sqi, k_blk0, k_blk1, k_blk2, k_blk3, k_blk4, k_blk5, k_blkr, k_blki, k_finr, k_fini, k_mapi, k_bindi, k_if1, k_if2, k_ops, k_br, k_rv, k_ri, k_rl, k_rz, k_rzi, k_01d, k_sw, k_01a, k_01b, k_01c, k_ifn, x_cmp, decide_eq_true_eq, Option.map_some, Option.bind_some, Option.toList_some, Option.toList_none, List.cons_append, List.nil_append, Nat.reduceAdd, true_or, or_true, Int.reduceNeg, Int.reduceEq, reduceIte, Nat.zero_le, Nat.reduceLeDiff, Nat.le_refl, Nat.reduceEqDiff, List.getElem?_cons_zero, List.getElem?_cons_succ, xst, List.set_cons_zero, List.set_cons_succ, List.map_cons, List.map_nil, List.sum_cons, List.sum_nil, xcat, Nat.reduceMul, Nat.reduceDiv, Nat.reduceMod, Nat.add_zero, e_nil, e_iconst, e_il, e_al, e_ll, e_istore, e_astore, e_lstore, e_ic, e_iadd, e_isub, e_imul, e_iand, e_ior, e_ixor, e_ishl, e_ishr, e_ineg, e_dupi, e_dupr, e_dupx, e_dup2, e_popi, eo_g0, eo_g1, eo_g2, eo_g3, eo_g4, eo_g5, eo_g6, eo_g7, eo_g8, eo_g9, eo_g10, eo_g11, eo_g12, eo_g13, eo_g14, eo_s14, eo_g15, eo_g16, eo_s16, et_g0, et_g1, et_s1, et_g2, et_s2, et_g3, et_s3, et_g4, et_s4, eu_g0, eu_g1, eu_s1, eu_g2, eu_g3, eu_s3, eu_g4, eh_g0, eh_g1, eh_s1, eh_g2, eh_s2, ed_g0, ed_g1, ed_g2, ed_g3, ed_s3, ew_g0, ew_g1, ew_g2, ew_g3, ew_s3, en_g0, en_g1, en_s1, en_g2, en_g3, en_g4, en_g5, en_s5, ex_g0, ex_s0, eq_g0, eq_s0, eq_g1, eq_s1, eq_g2, eq_s2, eq_g3, eq_s3, eq_g4, eq_s4, eq_g5, eq_s5, eq_g6, eq_s6, eq_g7, eq_s7, ez_g0, ez_g1, ez_g2, ez_g3, ez_s3, ez_g4, ez_s4, ez_g5, ez_s5, ez_g6, ez_s6, ez_g7, ez_s7, ez_g8, ez_s8, ez_g9, ez_s9, ez_g10, ez_s10, ez_g11, ez_s11, ez_g12, ez_s12, ez_g13, ez_s13, ez_g14, ez_g15, ez_b0g, ez_b0s, ez_b1g, ez_b1s, ez_b2g, ez_b2s, ez_b3g, ez_b3s, ez_b4g, ez_b4s, ez_b5g, ez_b5s, ez_ba, ez_g0g, ez_g0s, ez_g1g, ez_g1s, ez_g2g, ez_g2s, ez_g3g, ez_g3s, ez_g4g, ez_g4s, ez_g5g, ez_g5s, ez_g6g, ez_g6s, ez_g7g, ez_g7s, ez_ga, ez_l0g, ez_l0s, ez_l1g, ez_l1s, ez_l2g, ez_l2s, ez_la, q_zs, q_zz, q_z1, q_z2, q_i2, q_ig, q_iz, q_jz, true_and, false_and, or_self, or_true, true_or, or_false, false_or, and_true, and_false, and_self, not_true_eq_false, not_false_eq_true, y1, y2, hi2, Int.reduceNeg, Int.reduceToNat, Int.toNat_natCast, Int.toNat_add_nat, c1, ec65, f1, x1]
    · refine ⟨x, ?_⟩
      rw [if_neg c1]
      clear hz z2 hA hr hK hA2 e1 hN
      simp -implicitDefEqProofs (disch := first | with_reducible assumption | with_reducible exact isc_zs (by assumption) | with_reducible exact isc_zs (by decide) | with_reducible exact isc_zb (by assumption) (by assumption) | with_reducible exact isc_zb (by decide) (by assumption) | with_reducible exact isc_zg (by assumption) (by assumption) | with_reducible exact isc_zl (by assumption) (by assumption) | with_reducible exact isc_0 | with_reducible exact isc_1 | with_reducible exact isc_3 | with_reducible exact isc_7 | with_reducible exact isc_11 | with_reducible exact isc_15 | with_reducible exact isc_19 | with_reducible exact isc_24 | with_reducible exact isc_25 | (simp only [List.map_cons, List.map_nil, List.sum_cons, List.sum_nil, xcat, Nat.reduceAdd, Nat.reduceLeDiff, Nat.zero_le]; done) | omega) only [lX7_pass_13, k_p_sq, k_p_blk, k_sq0, k_sq11, k_sq12, k_sq13, k_sq14, k_sq15, k_sqr, k_sqi, k_blk0, k_blk1, k_blk2, k_blk3, k_blk4, k_blk5, k_blkr, k_blki, k_finr, k_fini, k_mapi, k_bindi, k_if1, k_if2, k_ops, k_br, k_rv, k_ri, k_rl, k_rz, k_rzi, k_01d, k_sw, k_01a, k_01b, k_01c, k_ifn, x_cmp, decide_eq_true_eq, Option.map_some, Option.bind_some, Option.toList_some, Option.toList_none, List.cons_append, List.nil_append, Nat.reduceAdd, true_or, or_true, Int.reduceNeg, Int.reduceEq, reduceIte, Nat.zero_le, Nat.reduceLeDiff, Nat.le_refl, Nat.reduceEqDiff, List.getElem?_cons_zero, List.getElem?_cons_succ, xst, List.set_cons_zero, List.set_cons_succ, List.map_cons, List.map_nil, List.sum_cons, List.sum_nil, xcat, Nat.reduceMul, Nat.reduceDiv, Nat.reduceMod, Nat.add_zero, e_nil, e_iconst, e_il, e_al, e_ll, e_istore, e_astore, e_lstore, e_ic, e_iadd, e_isub, e_imul, e_iand, e_ior, e_ixor, e_ishl, e_ishr, e_ineg, e_dupi, e_dupr, e_dupx, e_dup2, e_popi, eo_g0, eo_g1, eo_g2, eo_g3, eo_g4, eo_g5, eo_g6, eo_g7, eo_g8, eo_g9, eo_g10, eo_g11, eo_g12, eo_g13, eo_g14, eo_s14, eo_g15, eo_g16, eo_s16, et_g0, et_g1, et_s1, et_g2, et_s2, et_g3, et_s3, et_g4, et_s4, eu_g0, eu_g1, eu_s1, eu_g2, eu_g3, eu_s3, eu_g4, eh_g0, eh_g1, eh_s1, eh_g2, eh_s2, ed_g0, ed_g1, ed_g2, ed_g3, ed_s3, ew_g0, ew_g1, ew_g2, ew_g3, ew_s3, en_g0, en_g1, en_s1, en_g2, en_g3, en_g4, en_g5, en_s5, ex_g0, ex_s0, eq_g0, eq_s0, eq_g1, eq_s1, eq_g2, eq_s2, eq_g3, eq_s3, eq_g4, eq_s4, eq_g5, eq_s5, eq_g6, eq_s6, eq_g7, eq_s7, ez_g0, ez_g1, ez_g2, ez_g3, ez_s3, ez_g4, ez_s4, ez_g5, ez_s5, ez_g6, ez_s6, ez_g7, ez_s7, ez_g8, ez_s8, ez_g9, ez_s9, ez_g10, ez_s10, ez_g11, ez_s11, ez_g12, ez_s12, ez_g13, ez_s13, ez_g14, ez_g15, ez_b0g, ez_b0s, ez_b1g, ez_b1s, ez_b2g, ez_b2s, ez_b3g, ez_b3s, ez_b4g, ez_b4s, ez_b5g, ez_b5s, ez_ba, ez_g0g, ez_g0s, ez_g1g, ez_g1s, ez_g2g, ez_g2s, ez_g3g, ez_g3s, ez_g4g, ez_g4s, ez_g5g, ez_g5s, ez_g6g, ez_g6s, ez_g7g, ez_g7s, ez_ga, ez_l0g, ez_l0s, ez_l1g, ez_l1s, ez_l2g, ez_l2s, ez_la, q_zs, q_zz, q_z1, q_z2, q_i2, q_ig, q_iz, q_jz, true_and, false_and, or_self, or_true, true_or, or_false, false_or, and_true, and_false, and_self, not_true_eq_false, not_false_eq_true, y1, y2, hi2, Int.reduceNeg, Int.reduceToNat, Int.toNat_natCast, Int.toNat_add_nat, c1, x1]
theorem c_pass (hk : k < 17) {kx : xKx} (hK : kxOk kx) (hz : zKx kx z) {M : Nat} (hM : M ≤ 10) {A : (Nat → Int) × xT5} (hA : cOk kx M A) (hr : ruleOk c (kSize kx) (kText kx)) {m : Nat} (hm : m ≤ 1000) : ∃ t' J, (gg (n + 6) 58).2 [.inr (.inr (.inl (k + 3, 0))), .inl (m : Int)] (hC h (q_z c k (zw z A.1 A.2 t))) = some (none, hC h (q_z (q_j c 6 J) k (zw z (cPass kx m A).1 (cPass kx m A).2 t'))) := by
  have hB : kB kx ≤ 6 := hK.1
  have z1 : z 132 = (kB kx : Int) := hz.1
  have key : ∃ x : ((Nat → Int) × (Nat → Int)) × xV, p_lop (lX7_pass_2 (gg (n + 5))) ([.inr (.inr (.inl (k + 3, 0))), .inl (m : Int), .inl 0, .inr (.inr (.inr 2))], [], hC h (q_z c k (zw z A.1 A.2 t))) = some (.inl (0 + 1), ([.inr (.inr (.inl (k + 3, 0))), .inl (m : Int), .inl (m : Int), x.2], [], hC h (q_z (q_j c 6 x.1.2) k (zw z (cPass kx m A).1 (cPass kx m A).2 x.1.1)))) := by
    refine k_forE (fun i (x : ((Nat → Int) × (Nat → Int)) × xV) => ([.inr (.inr (.inl (k + 3, 0))), .inl (m : Int), .inl (i : Int), x.2], [], hC h (q_z (q_j c 6 x.1.2) k (zw z (cPass kx i A).1 (cPass kx i A).2 x.1.1)))) m (e := fun x => ([.inr (.inr (.inl (k + 3, 0))), .inl (m : Int), .inl (m : Int), x.2], [], hC h (q_z (q_j c 6 x.1.2) k (zw z (cPass kx m A).1 (cPass kx m A).2 x.1.1)))) ((t, c.2.1 6), .inr (.inr (.inr 2))) (by show _ = _; rw [q_j0]; rfl) ?_ ?_
    · intro x
      clear hz z1 hA hr hK
      simp -implicitDefEqProofs (disch := first | with_reducible assumption | with_reducible exact isc_zs (by assumption) | with_reducible exact isc_zs (by decide) | with_reducible exact isc_zb (by assumption) (by assumption) | with_reducible exact isc_zb (by decide) (by assumption) | with_reducible exact isc_zg (by assumption) (by assumption) | with_reducible exact isc_zl (by assumption) (by assumption) | with_reducible exact isc_0 | with_reducible exact isc_1 | with_reducible exact isc_3 | with_reducible exact isc_7 | with_reducible exact isc_11 | with_reducible exact isc_15 | with_reducible exact isc_19 | with_reducible exact isc_24 | with_reducible exact isc_25 | (simp only [List.map_cons, List.map_nil, List.sum_cons, List.sum_nil, xcat, Nat.reduceAdd, Nat.reduceLeDiff, Nat.zero_le]; done) | omega) only [lX7_pass_2, k_p_sq, k_p_blk, k_sq0, k_sq11, k_sq12, k_sq13, k_sq14, k_sq15, k_sqr, k_sqi, k_blk0, k_blk1, k_blk2, k_blk3, k_blk4, k_blk5, k_blkr, k_blki, k_finr, k_fini, k_mapi, k_bindi, k_if1, k_if2, k_ops, k_br, k_rv, k_ri, k_rl, k_rz, k_rzi, k_01d, k_sw, k_01a, k_01b, k_01c, k_ifn, x_cmp, decide_eq_true_eq, Option.map_some, Option.bind_some, Option.toList_some, Option.toList_none, List.cons_append, List.nil_append, Nat.reduceAdd, true_or, or_true, Int.reduceNeg, Int.reduceEq, reduceIte, Nat.zero_le, Nat.reduceLeDiff, Nat.le_refl, Nat.reduceEqDiff, List.getElem?_cons_zero, List.getElem?_cons_succ, xst, List.set_cons_zero, List.set_cons_succ, List.map_cons, List.map_nil, List.sum_cons, List.sum_nil, xcat, Nat.reduceMul, Nat.reduceDiv, Nat.reduceMod, Nat.add_zero, e_nil, e_iconst, e_il, e_al, e_ll, e_istore, e_astore, e_lstore, e_ic, e_iadd, e_isub, e_imul, e_iand, e_ior, e_ixor, e_ishl, e_ishr, e_ineg, e_dupi, e_dupr, e_dupx, e_dup2, e_popi, eo_g0, eo_g1, eo_g2, eo_g3, eo_g4, eo_g5, eo_g6, eo_g7, eo_g8, eo_g9, eo_g10, eo_g11, eo_g12, eo_g13, eo_g14, eo_s14, eo_g15, eo_g16, eo_s16, et_g0, et_g1, et_s1, et_g2, et_s2, et_g3, et_s3, et_g4, et_s4, eu_g0, eu_g1, eu_s1, eu_g2, eu_g3, eu_s3, eu_g4, eh_g0, eh_g1, eh_s1, eh_g2, eh_s2, ed_g0, ed_g1, ed_g2, ed_g3, ed_s3, ew_g0, ew_g1, ew_g2, ew_g3, ew_s3, en_g0, en_g1, en_s1, en_g2, en_g3, en_g4, en_g5, en_s5, ex_g0, ex_s0, eq_g0, eq_s0, eq_g1, eq_s1, eq_g2, eq_s2, eq_g3, eq_s3, eq_g4, eq_s4, eq_g5, eq_s5, eq_g6, eq_s6, eq_g7, eq_s7, ez_g0, ez_g1, ez_g2, ez_g3, ez_s3, ez_g4, ez_s4, ez_g5, ez_s5, ez_g6, ez_s6, ez_g7, ez_s7, ez_g8, ez_s8, ez_g9, ez_s9, ez_g10, ez_s10, ez_g11, ez_s11, ez_g12, ez_s12, ez_g13, ez_s13, ez_g14, ez_g15, ez_b0g, ez_b0s, ez_b1g, ez_b1s, ez_b2g, ez_b2s, ez_b3g, ez_b3s, ez_b4g, ez_b4s, ez_b5g, ez_b5s, ez_ba, ez_g0g, ez_g0s, ez_g1g, ez_g1s, ez_g2g, ez_g2s, ez_g3g, ez_g3s, ez_g4g, ez_g4s, ez_g5g, ez_g5s, ez_g6g, ez_g6s, ez_g7g, ez_g7s, ez_ga, ez_l0g, ez_l0s, ez_l1g, ez_l1s, ez_l2g, ez_l2s, ez_la, q_zs, q_zz, q_z1, q_z2, q_i2, q_ig, q_iz, q_jz, true_and, false_and, or_self, or_true, true_or, or_false, false_or, and_true, and_false, and_self, not_true_eq_false, not_false_eq_true, Int.le_refl]
    · intro i hi x
      have hA2 := cOk_pass hK hM hA i
      have e1 : cPass kx (i + 1) A = cHalf kx (cPass kx i A) := rfl
      rw [e1]
      generalize cPass kx i A = A1 at *
      have f1 := c_sailAll (n := n + 2) (h := h) (c := q_z (q_j c 6 x.1.2) k (zw z A1.1 A1.2 x.1.1)) hk hB (by rw [q_zs]; exact z1)
      rw [q_zs, q_zz, zw_boats _ hB] at f1
      have hA3 := cOk_boats hK hA2
      obtain ⟨x2, f2⟩ := c_passG (n := n) (h := h) (c := q_j c 6 x.1.2) (k := k) (z := z) (t := x.1.1) hk hK hz hM hA3 (ruleOk_6 _ hr) (m : Int) (i : Int)
      rw [q_jj] at f2
      have f2 : p_lop (lX7_pass_13 (gg (n + 5))) ([.inr (.inr (.inl (k + 3, 0))), .inl (m : Int), .inl (i : Int), .inl 0], [], hC h (q_z (q_j c 6 x.1.2) k (zw z (xit boat1 (kB kx) A1.1) A1.2 x.1.1))) = some (.inl 1, ([.inr (.inr (.inl (k + 3, 0))), .inl (m : Int), .inl (i : Int), .inl (kN kx : Int)], [], hC h (q_z (q_j c 6 x2.2) k (zw z (cGulls kx (kN kx) (xit boat1 (kB kx) A1.1, A1.2)).1 (cGulls kx (kN kx) (xit boat1 (kB kx) A1.1, A1.2)).2 x2.1)))) := f2
      unfold cHalf
      generalize cGulls kx (kN kx) (xit boat1 (kB kx) A1.1, A1.2) = A3 at *
      refine ⟨(x2, .inl (kN kx : Int)), ?_⟩
      have hi2 : ¬ (m : Int) ≤ (i : Int) := by omega
      have x1 : xw ((i : Int) + 1) = ((i + 1 : Nat) : Int) := by rw [xw_id (by omega) (by omega)]; omega
      have p1 : ∀ v, xfu (zw z A3.1 A3.2 x2.1) 115 v = zw z (xfu A3.1 115 v) A3.2 x2.1 := fun v => zw_pa (by omega)
      clear hz z1 hA hr hK hA2 hA3 e1
      simp -implicitDefEqProofs (disch := first | with_reducible assumption | with_reducible exact isc_zs (by assumption) | with_reducible exact isc_zs (by decide) | with_reducible exact isc_zb (by assumption) (by assumption) | with_reducible exact isc_zb (by decide) (by assumption) | with_reducible exact isc_zg (by assumption) (by assumption) | with_reducible exact isc_zl (by assumption) (by assumption) | with_reducible exact isc_0 | with_reducible exact isc_1 | with_reducible exact isc_3 | with_reducible exact isc_7 | with_reducible exact isc_11 | with_reducible exact isc_15 | with_reducible exact isc_19 | with_reducible exact isc_24 | with_reducible exact isc_25 | (simp only [List.map_cons, List.map_nil, List.sum_cons, List.sum_nil, xcat, Nat.reduceAdd, Nat.reduceLeDiff, Nat.zero_le]; done) | omega) only [lX7_pass_2, k_p_sq, k_p_blk, k_sq0, k_sq11, k_sq12, k_sq13, k_sq14, k_sq15, k_sqr, k_sqi, k_blk0, k_blk1, k_blk2, k_blk3, k_blk4, k_blk5, k_blkr, k_blki, k_finr, k_fini, k_mapi, k_bindi, k_if1, k_if2, k_ops, k_br, k_rv, k_ri, k_rl, k_rz, k_rzi, k_01d, k_sw, k_01a, k_01b, k_01c, k_ifn, x_cmp, decide_eq_true_eq, Option.map_some, Option.bind_some, Option.toList_some, Option.toList_none, List.cons_append, List.nil_append, Nat.reduceAdd, true_or, or_true, Int.reduceNeg, Int.reduceEq, reduceIte, Nat.zero_le, Nat.reduceLeDiff, Nat.le_refl, Nat.reduceEqDiff, List.getElem?_cons_zero, List.getElem?_cons_succ, xst, List.set_cons_zero, List.set_cons_succ, List.map_cons, List.map_nil, List.sum_cons, List.sum_nil, xcat, Nat.reduceMul, Nat.reduceDiv, Nat.reduceMod, Nat.add_zero, e_nil, e_iconst, e_il, e_al, e_ll, e_istore, e_astore, e_lstore, e_ic, e_iadd, e_isub, e_imul, e_iand, e_ior, e_ixor, e_ishl, e_ishr, e_ineg, e_dupi, e_dupr, e_dupx, e_dup2, e_popi, eo_g0, eo_g1, eo_g2, eo_g3, eo_g4, eo_g5, eo_g6, eo_g7, eo_g8, eo_g9, eo_g10, eo_g11, eo_g12, eo_g13, eo_g14, eo_s14, eo_g15, eo_g16, eo_s16, et_g0, et_g1, et_s1, et_g2, et_s2, et_g3, et_s3, et_g4, et_s4, eu_g0, eu_g1, eu_s1, eu_g2, eu_g3, eu_s3, eu_g4, eh_g0, eh_g1, eh_s1, eh_g2, eh_s2, ed_g0, ed_g1, ed_g2, ed_g3, ed_s3, ew_g0, ew_g1, ew_g2, ew_g3, ew_s3, en_g0, en_g1, en_s1, en_g2, en_g3, en_g4, en_g5, en_s5, ex_g0, ex_s0, eq_g0, eq_s0, eq_g1, eq_s1, eq_g2, eq_s2, eq_g3, eq_s3, eq_g4, eq_s4, eq_g5, eq_s5, eq_g6, eq_s6, eq_g7, eq_s7, ez_g0, ez_g1, ez_g2, ez_g3, ez_s3, ez_g4, ez_s4, ez_g5, ez_s5, ez_g6, ez_s6, ez_g7, ez_s7, ez_g8, ez_s8, ez_g9, ez_s9, ez_g10, ez_s10, ez_g11, ez_s11, ez_g12, ez_s12, ez_g13, ez_s13, ez_g14, ez_g15, ez_b0g, ez_b0s, ez_b1g, ez_b1s, ez_b2g, ez_b2s, ez_b3g, ez_b3s, ez_b4g, ez_b4s, ez_b5g, ez_b5s, ez_ba, ez_g0g, ez_g0s, ez_g1g, ez_g1s, ez_g2g, ez_g2s, ez_g3g, ez_g3s, ez_g4g, ez_g4s, ez_g5g, ez_g5s, ez_g6g, ez_g6s, ez_g7g, ez_g7s, ez_ga, ez_l0g, ez_l0s, ez_l1g, ez_l1s, ez_l2g, ez_l2s, ez_la, q_zs, q_zz, q_z1, q_z2, q_i2, q_ig, q_iz, q_jz, true_and, false_and, or_self, or_true, true_or, or_false, false_or, and_true, and_false, and_self, not_true_eq_false, not_false_eq_true, hi2, ec60, f1, f2, zw_115, p1, x1]
  obtain ⟨x, key⟩ := key
  have key : p_lop (lX7_pass_2 (gg (n + 5))) ([.inr (.inr (.inl (k + 3, 0))), .inl (m : Int), .inl 0, .inr (.inr (.inr 2))], [], hC h (q_z c k (zw z A.1 A.2 t))) = some (.inl 1, ([.inr (.inr (.inl (k + 3, 0))), .inl (m : Int), .inl (m : Int), x.2], [], hC h (q_z (q_j c 6 x.1.2) k (zw z (cPass kx m A).1 (cPass kx m A).2 x.1.1)))) := key
  refine ⟨x.1.1, x.1.2, ?_⟩
  rw [gr58]
  clear hz z1 hA hr hK
  simp -implicitDefEqProofs (disch := first | with_reducible assumption | with_reducible exact isc_zs (by assumption) | with_reducible exact isc_zs (by decide) | with_reducible exact isc_zb (by assumption) (by assumption) | with_reducible exact isc_zb (by decide) (by assumption) | with_reducible exact isc_zg (by assumption) (by assumption) | with_reducible exact isc_zl (by assumption) (by assumption) | with_reducible exact isc_0 | with_reducible exact isc_1 | with_reducible exact isc_3 | with_reducible exact isc_7 | with_reducible exact isc_11 | with_reducible exact isc_15 | with_reducible exact isc_19 | with_reducible exact isc_24 | with_reducible exact isc_25 | (simp only [List.map_cons, List.map_nil, List.sum_cons, List.sum_nil, xcat, Nat.reduceAdd, Nat.reduceLeDiff, Nat.zero_le]; done) | omega) only [fX7_pass, k_p_sq, k_p_blk, k_sq0, k_sq11, k_sq12, k_sq13, k_sq14, k_sq15, k_sqr, k_sqi, k_blk0, k_blk1, k_blk2, k_blk3, k_blk4, k_blk5, k_blkr, k_blki, k_finr, k_fini, k_mapi, k_bindi, k_if1, k_if2, k_ops, k_br, k_rv, k_ri, k_rl, k_rz, k_rzi, k_01d, k_sw, k_01a, k_01b, k_01c, k_ifn, x_cmp, decide_eq_true_eq, Option.map_some, Option.bind_some, Option.toList_some, Option.toList_none, List.cons_append, List.nil_append, Nat.reduceAdd, true_or, or_true, Int.reduceNeg, Int.reduceEq, reduceIte, Nat.zero_le, Nat.reduceLeDiff, Nat.le_refl, Nat.reduceEqDiff, List.getElem?_cons_zero, List.getElem?_cons_succ, xst, List.set_cons_zero, List.set_cons_succ, List.map_cons, List.map_nil, List.sum_cons, List.sum_nil, xcat, Nat.reduceMul, Nat.reduceDiv, Nat.reduceMod, Nat.add_zero, e_nil, e_iconst, e_il, e_al, e_ll, e_istore, e_astore, e_lstore, e_ic, e_iadd, e_isub, e_imul, e_iand, e_ior, e_ixor, e_ishl, e_ishr, e_ineg, e_dupi, e_dupr, e_dupx, e_dup2, e_popi, eo_g0, eo_g1, eo_g2, eo_g3, eo_g4, eo_g5, eo_g6, eo_g7, eo_g8, eo_g9, eo_g10, eo_g11, eo_g12, eo_g13, eo_g14, eo_s14, eo_g15, eo_g16, eo_s16, et_g0, et_g1, et_s1, et_g2, et_s2, et_g3, et_s3, et_g4, et_s4, eu_g0, eu_g1, eu_s1, eu_g2, eu_g3, eu_s3, eu_g4, eh_g0, eh_g1, eh_s1, eh_g2, eh_s2, ed_g0, ed_g1, ed_g2, ed_g3, ed_s3, ew_g0, ew_g1, ew_g2, ew_g3, ew_s3, en_g0, en_g1, en_s1, en_g2, en_g3, en_g4, en_g5, en_s5, ex_g0, ex_s0, eq_g0, eq_s0, eq_g1, eq_s1, eq_g2, eq_s2, eq_g3, eq_s3, eq_g4, eq_s4, eq_g5, eq_s5, eq_g6, eq_s6, eq_g7, eq_s7, ez_g0, ez_g1, ez_g2, ez_g3, ez_s3, ez_g4, ez_s4, ez_g5, ez_s5, ez_g6, ez_s6, ez_g7, ez_s7, ez_g8, ez_s8, ez_g9, ez_s9, ez_g10, ez_s10, ez_g11, ez_s11, ez_g12, ez_s12, ez_g13, ez_s13, ez_g14, ez_g15, ez_b0g, ez_b0s, ez_b1g, ez_b1s, ez_b2g, ez_b2s, ez_b3g, ez_b3s, ez_b4g, ez_b4s, ez_b5g, ez_b5s, ez_ba, ez_g0g, ez_g0s, ez_g1g, ez_g1s, ez_g2g, ez_g2s, ez_g3g, ez_g3s, ez_g4g, ez_g4s, ez_g5g, ez_g5s, ez_g6g, ez_g6s, ez_g7g, ez_g7s, ez_ga, ez_l0g, ez_l0s, ez_l1g, ez_l1s, ez_l2g, ez_l2s, ez_la, q_zs, q_zz, q_z1, q_z2, q_i2, q_ig, q_iz, q_jz, true_and, false_and, or_self, or_true, true_or, or_false, false_or, and_true, and_false, and_self, not_true_eq_false, not_false_eq_true, key]
end CS8
/-- who came in a half hour: as many as there are bits -/
theorem bitC_1 {g m : Nat} (hg : g < 8) (hm : m < 2 ^ g) : bitC (xor_ (m : Int) (xshl 1 g)) = bitC (m : Int) + 1 := by
  have h : ∀ g : Fin 8, ∀ m : Fin 256, m.1 < 2 ^ g.1 → bitC (xor_ ((m.1 : Nat) : Int) (xshl 1 ((g.1 : Nat) : Int))) = bitC ((m.1 : Nat) : Int) + 1 := by decide +kernel
  have h2 : 2 ^ g ≤ 2 ^ 8 := Nat.pow_le_pow_right (by decide) (by omega)
  exact h ⟨g, hg⟩ ⟨m, by omega⟩ hm
theorem xw_add (a b : Int) : xw (xw a + b) = xw (a + b) := by unfold xw; omega
/-- the class's tally and the reference's: over one half hour -/
theorem cGulls_eq (kx : xKx) (a : Nat → Int) (T : xT5) (ct : Nat → Int) (h1 : xin T.1) (h2 : xin T.2.1) (h3 : xin T.2.2.1) (h4 : xin T.2.2.2.1) : ∀ i, i ≤ 8 → (cGulls kx i (a, T)).1 = (kGulls kx i (a, 0, 0, 0, ct)).1 ∧ (cGulls kx i (a, T)).2.1 = xw (T.1 + bitC (kGulls kx i (a, 0, 0, 0, ct)).2.1) ∧ (cGulls kx i (a, T)).2.2.1 = xor_ T.2.1 (kGulls kx i (a, 0, 0, 0, ct)).2.1 ∧ (cGulls kx i (a, T)).2.2.2.1 = xor_ T.2.2.1 (kGulls kx i (a, 0, 0, 0, ct)).2.2.1 ∧ (cGulls kx i (a, T)).2.2.2.2.1 = xor_ T.2.2.2.1 (kGulls kx i (a, 0, 0, 0, ct)).2.2.2.1 ∧ ∃ m : Nat, m < 2 ^ i ∧ (kGulls kx i (a, 0, 0, 0, ct)).2.1 = (m : Int)
  | 0, _ => by
    refine ⟨rfl, ?_, ?_, ?_, ?_, 0, by decide, rfl⟩
    · show T.1 = xw (T.1 + bitC 0)
      rw [show bitC 0 = 0 by decide, Int.add_zero, xw_id h1.1 h1.2]
    · exact (xor_0 h2).symm
    · exact (xor_0 h3).symm
    · exact (xor_0 h4).symm
  | i + 1, hi => by
    obtain ⟨e1, e2, e3, e4, e5, m, hm, e6⟩ := cGulls_eq kx a T ct h1 h2 h3 h4 i (by omega)
    unfold cGulls kGulls
    rw [e1]
    generalize cGulls kx i (a, T) = A at *
    generalize kGulls kx i (a, 0, 0, 0, ct) = F at *
    obtain ⟨f1, f2, f3, f4, f5⟩ := F
    obtain ⟨A1, a1, a2, a3, a4, a5⟩ := A
    dsimp only at e1 e2 e3 e4 e5 e6 ⊢
    subst e1 e6
    have hp : 2 ^ i < 2 ^ (i + 1) := Nat.pow_lt_pow_right (by decide) (by omega)
    by_cases c : A1 (68 + i) = 1
    · rw [if_pos c, if_pos c]
      unfold cFly
      dsimp only
      rcases kGull_s kx i A1 with ⟨a', e⟩ | ⟨a', q, v, hq, e⟩ | ⟨a', e⟩
      · rw [e, e]
        dsimp only
        rw [if_pos rfl]
        exact ⟨rfl, e2, e3, e4, e5, m, by omega, rfl⟩
      · rw [e, e]
        dsimp only
        simp only [xfu_self, if_neg hq]
        have hs : 2 ^ i ≤ 2 ^ 8 := Nat.pow_le_pow_right (by decide) (by omega)
        refine ⟨trivial, ?_, ?_, ?_, e5, m ||| 2 ^ i, Nat.or_lt_two_pow (by omega) hp, xor_set (by omega) (by omega)⟩
        · rw [bitC_1 (by omega) hm, e2, xw_add, Int.add_assoc]
        · rw [e3, xor_assoc]
        · rw [e4, xor_assoc]
      · rw [e, e]
        dsimp only
        rw [if_pos rfl]
        refine ⟨rfl, e2, e3, e4, ?_, m, by omega, rfl⟩
        rw [e5, xor_assoc]
    · rw [if_neg c, if_neg c]
      exact ⟨rfl, e2, e3, e4, e5, m, by omega, rfl⟩
theorem cHalf_eq {kx : xKx} (hN : kN kx ≤ 8) (A : (Nat → Int) × xT5) (F : xFl) (hF : F.1 = A.1) (h1 : xin A.2.1) (h2 : xin A.2.2.1) (h3 : xin A.2.2.2.1) (h4 : xin A.2.2.2.2.1) : (cHalf kx A).1 = (kHalf kx F).1 ∧ (cHalf kx A).2.1 = xw (A.2.1 + bitC (kHalf kx F).2.1) ∧ (cHalf kx A).2.2.1 = xor_ A.2.2.1 (kHalf kx F).2.1 ∧ (cHalf kx A).2.2.2.1 = xor_ A.2.2.2.1 (kHalf kx F).2.2.1 ∧ (cHalf kx A).2.2.2.2.1 = xor_ A.2.2.2.2.1 (kHalf kx F).2.2.2.1 := by
  obtain ⟨a, T⟩ := A
  obtain ⟨f1, f2, f3, f4, ct⟩ := F
  dsimp only at hF
  subst hF
  obtain ⟨e1, e2, e3, e4, e5, _⟩ := cGulls_eq kx (xit boat1 (kB kx) f1) T ct h1 h2 h3 h4 (kN kx) hN
  unfold cHalf kHalf
  dsimp only
  rw [e1]
  exact ⟨rfl, e2, e3, e4, e5⟩
theorem cPass_eq {kx : xKx} (hN : kN kx ≤ 8) (a : Nat → Int) (T : xT5) (s : Int × Int × Int × (Nat → Int)) (h1 : xin T.1) (h2 : xin T.2.1) (h3 : xin T.2.2.1) (h4 : xin T.2.2.2.1) : ∀ m, (cPass kx m (a, T)).1 = (kHs kx m ((a, s), (T.1, T.2.1, T.2.2.1, T.2.2.2.1))).1.1 ∧ ((cPass kx m (a, T)).2.1, (cPass kx m (a, T)).2.2.1, (cPass kx m (a, T)).2.2.2.1, (cPass kx m (a, T)).2.2.2.2.1) = (kHs kx m ((a, s), (T.1, T.2.1, T.2.2.1, T.2.2.2.1))).2 ∧ xin (cPass kx m (a, T)).2.1 ∧ xin (cPass kx m (a, T)).2.2.1 ∧ xin (cPass kx m (a, T)).2.2.2.1 ∧ xin (cPass kx m (a, T)).2.2.2.2.1
  | 0 => ⟨rfl, rfl, h1, h2, h3, h4⟩
  | m + 1 => by
    obtain ⟨e1, e2, i1, i2, i3, i4⟩ := cPass_eq hN a T s h1 h2 h3 h4 m
    show (cHalf kx (cPass kx m (a, T))).1 = (kHs1 kx (kHs kx m ((a, s), (T.1, T.2.1, T.2.2.1, T.2.2.2.1)))).1.1 ∧ ((cHalf kx (cPass kx m (a, T))).2.1, (cHalf kx (cPass kx m (a, T))).2.2.1, (cHalf kx (cPass kx m (a, T))).2.2.2.1, (cHalf kx (cPass kx m (a, T))).2.2.2.2.1) = (kHs1 kx (kHs kx m ((a, s), (T.1, T.2.1, T.2.2.1, T.2.2.2.1)))).2 ∧ xin (cHalf kx (cPass kx m (a, T))).2.1 ∧ xin (cHalf kx (cPass kx m (a, T))).2.2.1 ∧ xin (cHalf kx (cPass kx m (a, T))).2.2.2.1 ∧ xin (cHalf kx (cPass kx m (a, T))).2.2.2.2.1
    generalize kHs kx m ((a, s), (T.1, T.2.1, T.2.2.1, T.2.2.2.1)) = P at *
    generalize cPass kx m (a, T) = A at *
    obtain ⟨F, P1, P2, P3, P4⟩ := P
    obtain ⟨q1, q2, q3, q4, q5⟩ := cHalf_eq hN A F e1.symm i1 i2 i3 i4
    simp only [Prod.mk.injEq] at e2
    obtain ⟨r1, r2, r3, r4⟩ := e2
    unfold kHs1
    dsimp only
    refine ⟨q1, ?_, ?_, ?_, ?_, ?_⟩
    · rw [q2, q3, q4, q5, r1, r2, r3, r4]
    · rw [q2]; exact xw_in _
    · rw [q3]; exact xin_or _ _
    · rw [q4]; exact xin_or _ _
    · rw [q5]; exact xin_or _ _
