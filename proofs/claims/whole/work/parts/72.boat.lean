/-! ===== the reference: a boat's line ===== -/
def tBoF (F : Nat → Int) (k : Nat) (q : Int × Int × Int × Int × Int) (F' : Nat → Int) : Prop := F' k = q.1 ∧ F' (k + 1) = q.2.1 ∧ F' (k + 2) = q.2.2.1 ∧ F' (k + 3) = q.2.2.2.1 ∧ F' (k + 4) = q.2.2.2.2 ∧ ∀ i, i < k → F' i = F i
theorem tBoF_1 (F : Nat → Int) (k : Nat) (x y d : Int) : tBoF F k (x, y, 0, 0, d) (xfu (xfu (xfu (xfu (xfu F k x) (k + 1) y) (k + 2) 0) (k + 3) 0) (k + 4) d) := by
  unfold tBoF xfu
  refine ⟨by simp, by simp, by simp, by simp, by simp, fun i hi => ?_⟩
  rw [if_neg (by omega), if_neg (by omega), if_neg (by omega), if_neg (by omega), if_neg (by omega)]
theorem tBoF_2 (F : Nat → Int) (k : Nat) (x y u v d : Int) : tBoF F k (x, y, u, v, d) (xfu (xfu (xfu (xfu (xfu (xfu (xfu F k x) (k + 1) y) (k + 2) 0) (k + 3) 0) (k + 2) u) (k + 3) v) (k + 4) d) := by
  unfold tBoF xfu
  refine ⟨by simp, by simp, by simp, by simp, by simp, fun i hi => ?_⟩
  rw [if_neg (by omega), if_neg (by omega), if_neg (by omega), if_neg (by omega), if_neg (by omega), if_neg (by omega), if_neg (by omega)]
section RJ2
variable {n : Nat} {h : xH} {r : xR} {H : xH} {a w : Int} {F : Nat → Int}
set_option maxHeartbeats 8000000 in
theorem r_readBoat (hs : rSane r) (ha : 0 ≤ a) (ha2 : a < 700) {k : Nat} (hk : k < 26) : ∃ F', (gg (n + 6) 190).2 [.inr (.inr (.inl (1, 0))), .inl (k : Int)] (hR h (rRj r 6 F a w)) = some (none, hR h (rRj r 6 F' (tBoat r a w).2.1 (tBoat r a w).2.2)) ∧ tBoF F k (tBoat r a w).1 F' := by
  have n4 : (6 : Nat) ≠ 4 := by decide
  have n8 : (6 : Nat) ≠ 8 := by decide
  have x1 : xw ((k : Int) + 1) = ((k + 1 : Nat) : Int) := xw_id (by omega) (by omega)
  have x2 : xw ((k : Int) + 2) = ((k + 2 : Nat) : Int) := xw_id (by omega) (by omega)
  have x3 : xw ((k : Int) + 3) = ((k + 3 : Nat) : Int) := xw_id (by omega) (by omega)
  have x4 : xw ((k : Int) + 4) = ((k + 4 : Nat) : Int) := xw_id (by omega) (by omega)
  unfold tBoat
  dsimp only
  have f1 := fun (F : Nat → Int) => u_cell (n := n) (h := h) (r := r) (a := a) (w := w) (F := F) n4 n8 hs ha (by omega)
  have h1 := tCell_at (r := r) (a := a) (w := w)
  generalize tCell r a w = x at *
  obtain ⟨x, a1, w1⟩ := x
  dsimp only at *
  have f2 := fun (F : Nat → Int) => u_need (n := n + 2) (h := h) (r := r) (a := a1) (w := w1) (F := F) n4 n8 hs (by omega) (by omega) 44
  have h2 := tNeed_at (r := r) (k := 44) (a := a1) (w := w1)
  generalize tNeed r 44 a1 w1 = m at *
  obtain ⟨a2, w2⟩ := m
  dsimp only at *
  have f3 := fun (F : Nat → Int) => u_cell (n := n) (h := h) (r := r) (a := a2) (w := w2) (F := F) n4 n8 hs (by omega) (by omega)
  have h3 := tCell_at (r := r) (a := a2) (w := w2)
  generalize tCell r a2 w2 = y at *
  obtain ⟨y, a3, w3⟩ := y
  dsimp only at *
  have f4 := fun (F : Nat → Int) => u_ps (n := n + 3) (h := h) (r := r) (a := a3) (w := w3) (F := F) n4 n8 hs (by omega) (by omega) 45
  have h4 := tPs_at (r := r) (k := 45) (a := a3) (w := w3)
  have z4 := tPs_01 (r := r) (k := 45) (a := a3) (w := w3)
  unfold tCrs
  generalize tPs r 45 a3 w3 = q4 at *
  obtain ⟨q4, a4, w4⟩ := q4
  dsimp only at *
  rcases z4 with z4 | z4
  · subst z4
    have e01 : ¬ (0 : Int) = 1 := by decide
    simp only [if_neg e01]
    unfold tCr1
    have f5 := fun (F : Nat → Int) => u_ps (n := n + 3) (h := h) (r := r) (a := a4) (w := w4) (F := F) n4 n8 hs (by omega) (by omega) 110
    have h5 := tPs_at (r := r) (k := 110) (a := a4) (w := w4)
    have z5 := tPs_01 (r := r) (k := 110) (a := a4) (w := w4)
    generalize tPs r 110 a4 w4 = q5 at *
    obtain ⟨q5, a5, w5⟩ := q5
    dsimp only at *
    rcases z5 with z5 | z5
    · subst z5
      simp only [if_neg e01]
      have f6 := fun (F : Nat → Int) => u_ps (n := n + 3) (h := h) (r := r) (a := a5) (w := w5) (F := F) n4 n8 hs (by omega) (by omega) 115
      have h6 := tPs_at (r := r) (k := 115) (a := a5) (w := w5)
      have z6 := tPs_01 (r := r) (k := 115) (a := a5) (w := w5)
      generalize tPs r 115 a5 w5 = q6 at *
      obtain ⟨q6, a6, w6⟩ := q6
      dsimp only at *
      have f7 := fun (F : Nat → Int) => u_ps (n := n + 3) (h := h) (r := r) (a := a6) (w := w6) (F := F) n4 n8 hs (by omega) (by omega) 101
      have h7 := tPs_at (r := r) (k := 101) (a := a6) (w := w6)
      have z7 := tPs_01 (r := r) (k := 101) (a := a6) (w := w6)
      generalize tPs r 101 a6 w6 = q7 at *
      obtain ⟨q7, a7, w7⟩ := q7
      dsimp only at *
      rcases z7 with z7 | z7
      · subst z7
        simp only [if_neg e01]
        have f8 := fun (F : Nat → Int) => u_ps (n := n + 3) (h := h) (r := r) (a := a7) (w := w7) (F := F) n4 n8 hs (by omega) (by omega) 119
        have h8 := tPs_at (r := r) (k := 119) (a := a7) (w := w7)
        have z8 := tPs_01 (r := r) (k := 119) (a := a7) (w := w7)
        generalize tPs r 119 a7 w7 = q8 at *
        obtain ⟨q8, a8, w8⟩ := q8
        dsimp only at *
        have f9 := fun (F : Nat → Int) (w : Int) => u_digit (n := n + 2) (h := h) (r := r) (a := a8) (w := w) (F := F) n4 n8 hs (by omega) (by omega) (lo := 0) (hi := 5) (by omega) (by omega) (by omega) (by omega)
        rcases z8 with z8 | z8
        · rcases z6 with z6 | z6
          · subst z6 z8
            have f10 := fun (F : Nat → Int) => u_fault (n := n + 3) (h := h) (r := r) (c := 6) (F := F) (a := a8) (w := w8) a8
            simp only [eq_self, true_and]
            refine ⟨_, ?_, tBoF_2 F k x y _ _ _⟩
            rw [gr190]
            simp -implicitDefEqProofs (disch := first | exact isc_R | (simp only [List.map_cons, List.map_nil, List.sum_cons, List.sum_nil, xcat, Nat.reduceAdd, Nat.reduceLeDiff, Nat.zero_le]; done) | omega) only [fX12_readBoat, k_p_sq, k_p_blk, k_sq0, k_sq11, k_sq12, k_sq13, k_sq14, k_sq15, k_sqr, k_sqi, k_blk0, k_blk1, k_blk2, k_blk3, k_blk4, k_blk5, k_blkr, k_blki, k_finr, k_fini, k_mapi, k_bindi, k_if1, k_if2, k_ops, k_br, k_rv, k_ri, k_rl, k_rz, k_rzi, k_01d, k_sw, k_01a, k_01b, k_01c, k_ifn, x_cmp, decide_eq_true_eq, Option.map_some, Option.bind_some, Option.toList_some, Option.toList_none, List.cons_append, List.nil_append, Nat.reduceAdd, true_or, or_true, Int.reduceNeg, Int.reduceEq, reduceIte, Nat.zero_le, Nat.reduceLeDiff, Nat.le_refl, Nat.reduceEqDiff, List.getElem?_cons_zero, List.getElem?_cons_succ, xst, List.set_cons_zero, List.set_cons_succ, List.map_cons, List.map_nil, List.sum_cons, List.sum_nil, xcat, Nat.reduceMul, Nat.reduceDiv, Nat.reduceMod, Nat.add_zero, e_nil, e_iconst, e_il, e_al, e_ll, e_istore, e_astore, e_lstore, e_ic, e_iadd, e_isub, e_imul, e_iand, e_ior, e_ixor, e_ishl, e_ishr, e_ineg, e_dupi, e_dupr, e_dupx, e_dup2, e_popi, er_g0, er_g1, er_g2, er_g3, er_g4, er_g5, er_g6, er_g7, er_g8, er_g9, er_g10, er_g11, er_g12, er_g13, er_g14, er_g15, er_g16, er_g17, er_g18, er_g19, er_g20, er_g21, er_g22, er_g23, er_g24, er_g25, er_g26, er_g27, er_g28, er_g29, er_g30, er_g31, er_g32, er_g33, er_g34, er_g35, er_g36, er_g37, er_g38, er_g39, er_g40, er_g41, er_g42, er_g43, er_g44, er_g45, er_g46, er_g47, er_s1, er_s2, er_s5, er_s6, er_s8, er_s10, er_s11, er_s13, er_s14, er_s15, er_s16, er_s20, er_s23, er_s24, er_s25, er_s28, er_s30, er_s31, er_s32, er_s33, er_s42, er_s43, er_s44, er_s21a, er_s21b, er_s12a, er_s12b, isc_R, ec189, ec185, ec184, ec183, ec186, f1, f2, f3, f4, f5, f6, f7, f8, f9, f10, isc_Rj, rRj_g, rRj_a, rRj_2, er_w6, x1, x2, x3, x4, Int.toNat_natCast, Nat.reduceEqDiff, Int.reduceEq, true_and, false_and, or_self, or_true, true_or, or_false, false_or, and_true, and_false, and_self, not_true_eq_false, not_false_eq_true]
          · subst z6 z8
            simp only [eq_self, e01, if_true, if_false, false_and, and_false]
            refine ⟨_, ?_, tBoF_2 F k x y _ _ _⟩
            rw [gr190]
            simp -implicitDefEqProofs (disch := first | exact isc_R | (simp only [List.map_cons, List.map_nil, List.sum_cons, List.sum_nil, xcat, Nat.reduceAdd, Nat.reduceLeDiff, Nat.zero_le]; done) | omega) only [fX12_readBoat, k_p_sq, k_p_blk, k_sq0, k_sq11, k_sq12, k_sq13, k_sq14, k_sq15, k_sqr, k_sqi, k_blk0, k_blk1, k_blk2, k_blk3, k_blk4, k_blk5, k_blkr, k_blki, k_finr, k_fini, k_mapi, k_bindi, k_if1, k_if2, k_ops, k_br, k_rv, k_ri, k_rl, k_rz, k_rzi, k_01d, k_sw, k_01a, k_01b, k_01c, k_ifn, x_cmp, decide_eq_true_eq, Option.map_some, Option.bind_some, Option.toList_some, Option.toList_none, List.cons_append, List.nil_append, Nat.reduceAdd, true_or, or_true, Int.reduceNeg, Int.reduceEq, reduceIte, Nat.zero_le, Nat.reduceLeDiff, Nat.le_refl, Nat.reduceEqDiff, List.getElem?_cons_zero, List.getElem?_cons_succ, xst, List.set_cons_zero, List.set_cons_succ, List.map_cons, List.map_nil, List.sum_cons, List.sum_nil, xcat, Nat.reduceMul, Nat.reduceDiv, Nat.reduceMod, Nat.add_zero, e_nil, e_iconst, e_il, e_al, e_ll, e_istore, e_astore, e_lstore, e_ic, e_iadd, e_isub, e_imul, e_iand, e_ior, e_ixor, e_ishl, e_ishr, e_ineg, e_dupi, e_dupr, e_dupx, e_dup2, e_popi, er_g0, er_g1, er_g2, er_g3, er_g4, er_g5, er_g6, er_g7, er_g8, er_g9, er_g10, er_g11, er_g12, er_g13, er_g14, er_g15, er_g16, er_g17, er_g18, er_g19, er_g20, er_g21, er_g22, er_g23, er_g24, er_g25, er_g26, er_g27, er_g28, er_g29, er_g30, er_g31, er_g32, er_g33, er_g34, er_g35, er_g36, er_g37, er_g38, er_g39, er_g40, er_g41, er_g42, er_g43, er_g44, er_g45, er_g46, er_g47, er_s1, er_s2, er_s5, er_s6, er_s8, er_s10, er_s11, er_s13, er_s14, er_s15, er_s16, er_s20, er_s23, er_s24, er_s25, er_s28, er_s30, er_s31, er_s32, er_s33, er_s42, er_s43, er_s44, er_s21a, er_s21b, er_s12a, er_s12b, isc_R, ec189, ec185, ec184, ec183, ec186, f1, f2, f3, f4, f5, f6, f7, f8, f9, isc_Rj, rRj_g, rRj_a, rRj_2, er_w6, x1, x2, x3, x4, Int.toNat_natCast, Nat.reduceEqDiff, Int.reduceEq, true_and, false_and, or_self, or_true, true_or, or_false, false_or, and_true, and_false, and_self, not_true_eq_false, not_false_eq_true]
        · rcases z6 with z6 | z6
          ·
            subst z6 z8
            simp only [eq_self, e01, if_true, if_false, false_and, and_false]
            refine ⟨_, ?_, tBoF_2 F k x y _ _ _⟩
            rw [gr190]
            simp -implicitDefEqProofs (disch := first | exact isc_R | (simp only [List.map_cons, List.map_nil, List.sum_cons, List.sum_nil, xcat, Nat.reduceAdd, Nat.reduceLeDiff, Nat.zero_le]; done) | omega) only [fX12_readBoat, k_p_sq, k_p_blk, k_sq0, k_sq11, k_sq12, k_sq13, k_sq14, k_sq15, k_sqr, k_sqi, k_blk0, k_blk1, k_blk2, k_blk3, k_blk4, k_blk5, k_blkr, k_blki, k_finr, k_fini, k_mapi, k_bindi, k_if1, k_if2, k_ops, k_br, k_rv, k_ri, k_rl, k_rz, k_rzi, k_01d, k_sw, k_01a, k_01b, k_01c, k_ifn, x_cmp, decide_eq_true_eq, Option.map_some, Option.bind_some, Option.toList_some, Option.toList_none, List.cons_append, List.nil_append, Nat.reduceAdd, true_or, or_true, Int.reduceNeg, Int.reduceEq, reduceIte, Nat.zero_le, Nat.reduceLeDiff, Nat.le_refl, Nat.reduceEqDiff, List.getElem?_cons_zero, List.getElem?_cons_succ, xst, List.set_cons_zero, List.set_cons_succ, List.map_cons, List.map_nil, List.sum_cons, List.sum_nil, xcat, Nat.reduceMul, Nat.reduceDiv, Nat.reduceMod, Nat.add_zero, e_nil, e_iconst, e_il, e_al, e_ll, e_istore, e_astore, e_lstore, e_ic, e_iadd, e_isub, e_imul, e_iand, e_ior, e_ixor, e_ishl, e_ishr, e_ineg, e_dupi, e_dupr, e_dupx, e_dup2, e_popi, er_g0, er_g1, er_g2, er_g3, er_g4, er_g5, er_g6, er_g7, er_g8, er_g9, er_g10, er_g11, er_g12, er_g13, er_g14, er_g15, er_g16, er_g17, er_g18, er_g19, er_g20, er_g21, er_g22, er_g23, er_g24, er_g25, er_g26, er_g27, er_g28, er_g29, er_g30, er_g31, er_g32, er_g33, er_g34, er_g35, er_g36, er_g37, er_g38, er_g39, er_g40, er_g41, er_g42, er_g43, er_g44, er_g45, er_g46, er_g47, er_s1, er_s2, er_s5, er_s6, er_s8, er_s10, er_s11, er_s13, er_s14, er_s15, er_s16, er_s20, er_s23, er_s24, er_s25, er_s28, er_s30, er_s31, er_s32, er_s33, er_s42, er_s43, er_s44, er_s21a, er_s21b, er_s12a, er_s12b, isc_R, ec189, ec185, ec184, ec183, ec186, f1, f2, f3, f4, f5, f6, f7, f8, f9, isc_Rj, rRj_g, rRj_a, rRj_2, er_w6, x1, x2, x3, x4, Int.toNat_natCast, Nat.reduceEqDiff, Int.reduceEq, true_and, false_and, or_self, or_true, true_or, or_false, false_or, and_true, and_false, and_self, not_true_eq_false, not_false_eq_true]
          ·
            subst z6 z8
            simp only [eq_self, e01, if_true, if_false, false_and, and_false]
            refine ⟨_, ?_, tBoF_2 F k x y _ _ _⟩
            rw [gr190]
            simp -implicitDefEqProofs (disch := first | exact isc_R | (simp only [List.map_cons, List.map_nil, List.sum_cons, List.sum_nil, xcat, Nat.reduceAdd, Nat.reduceLeDiff, Nat.zero_le]; done) | omega) only [fX12_readBoat, k_p_sq, k_p_blk, k_sq0, k_sq11, k_sq12, k_sq13, k_sq14, k_sq15, k_sqr, k_sqi, k_blk0, k_blk1, k_blk2, k_blk3, k_blk4, k_blk5, k_blkr, k_blki, k_finr, k_fini, k_mapi, k_bindi, k_if1, k_if2, k_ops, k_br, k_rv, k_ri, k_rl, k_rz, k_rzi, k_01d, k_sw, k_01a, k_01b, k_01c, k_ifn, x_cmp, decide_eq_true_eq, Option.map_some, Option.bind_some, Option.toList_some, Option.toList_none, List.cons_append, List.nil_append, Nat.reduceAdd, true_or, or_true, Int.reduceNeg, Int.reduceEq, reduceIte, Nat.zero_le, Nat.reduceLeDiff, Nat.le_refl, Nat.reduceEqDiff, List.getElem?_cons_zero, List.getElem?_cons_succ, xst, List.set_cons_zero, List.set_cons_succ, List.map_cons, List.map_nil, List.sum_cons, List.sum_nil, xcat, Nat.reduceMul, Nat.reduceDiv, Nat.reduceMod, Nat.add_zero, e_nil, e_iconst, e_il, e_al, e_ll, e_istore, e_astore, e_lstore, e_ic, e_iadd, e_isub, e_imul, e_iand, e_ior, e_ixor, e_ishl, e_ishr, e_ineg, e_dupi, e_dupr, e_dupx, e_dup2, e_popi, er_g0, er_g1, er_g2, er_g3, er_g4, er_g5, er_g6, er_g7, er_g8, er_g9, er_g10, er_g11, er_g12, er_g13, er_g14, er_g15, er_g16, er_g17, er_g18, er_g19, er_g20, er_g21, er_g22, er_g23, er_g24, er_g25, er_g26, er_g27, er_g28, er_g29, er_g30, er_g31, er_g32, er_g33, er_g34, er_g35, er_g36, er_g37, er_g38, er_g39, er_g40, er_g41, er_g42, er_g43, er_g44, er_g45, er_g46, er_g47, er_s1, er_s2, er_s5, er_s6, er_s8, er_s10, er_s11, er_s13, er_s14, er_s15, er_s16, er_s20, er_s23, er_s24, er_s25, er_s28, er_s30, er_s31, er_s32, er_s33, er_s42, er_s43, er_s44, er_s21a, er_s21b, er_s12a, er_s12b, isc_R, ec189, ec185, ec184, ec183, ec186, f1, f2, f3, f4, f5, f6, f7, f8, f9, isc_Rj, rRj_g, rRj_a, rRj_2, er_w6, x1, x2, x3, x4, Int.toNat_natCast, Nat.reduceEqDiff, Int.reduceEq, true_and, false_and, or_self, or_true, true_or, or_false, false_or, and_true, and_false, and_self, not_true_eq_false, not_false_eq_true]
      · subst z7
        have f9 := fun (F : Nat → Int) (w : Int) => u_digit (n := n + 2) (h := h) (r := r) (a := a7) (w := w) (F := F) n4 n8 hs (by omega) (by omega) (lo := 0) (hi := 5) (by omega) (by omega) (by omega) (by omega)
        rcases z6 with z6 | z6
        ·
          subst z6
          simp only [eq_self, e01, if_true, if_false, false_and, and_false]
          refine ⟨_, ?_, tBoF_2 F k x y _ _ _⟩
          rw [gr190]
          simp -implicitDefEqProofs (disch := first | exact isc_R | (simp only [List.map_cons, List.map_nil, List.sum_cons, List.sum_nil, xcat, Nat.reduceAdd, Nat.reduceLeDiff, Nat.zero_le]; done) | omega) only [fX12_readBoat, k_p_sq, k_p_blk, k_sq0, k_sq11, k_sq12, k_sq13, k_sq14, k_sq15, k_sqr, k_sqi, k_blk0, k_blk1, k_blk2, k_blk3, k_blk4, k_blk5, k_blkr, k_blki, k_finr, k_fini, k_mapi, k_bindi, k_if1, k_if2, k_ops, k_br, k_rv, k_ri, k_rl, k_rz, k_rzi, k_01d, k_sw, k_01a, k_01b, k_01c, k_ifn, x_cmp, decide_eq_true_eq, Option.map_some, Option.bind_some, Option.toList_some, Option.toList_none, List.cons_append, List.nil_append, Nat.reduceAdd, true_or, or_true, Int.reduceNeg, Int.reduceEq, reduceIte, Nat.zero_le, Nat.reduceLeDiff, Nat.le_refl, Nat.reduceEqDiff, List.getElem?_cons_zero, List.getElem?_cons_succ, xst, List.set_cons_zero, List.set_cons_succ, List.map_cons, List.map_nil, List.sum_cons, List.sum_nil, xcat, Nat.reduceMul, Nat.reduceDiv, Nat.reduceMod, Nat.add_zero, e_nil, e_iconst, e_il, e_al, e_ll, e_istore, e_astore, e_lstore, e_ic, e_iadd, e_isub, e_imul, e_iand, e_ior, e_ixor, e_ishl, e_ishr, e_ineg, e_dupi, e_dupr, e_dupx, e_dup2, e_popi, er_g0, er_g1, er_g2, er_g3, er_g4, er_g5, er_g6, er_g7, er_g8, er_g9, er_g10, er_g11, er_g12, er_g13, er_g14, er_g15, er_g16, er_g17, er_g18, er_g19, er_g20, er_g21, er_g22, er_g23, er_g24, er_g25, er_g26, er_g27, er_g28, er_g29, er_g30, er_g31, er_g32, er_g33, er_g34, er_g35, er_g36, er_g37, er_g38, er_g39, er_g40, er_g41, er_g42, er_g43, er_g44, er_g45, er_g46, er_g47, er_s1, er_s2, er_s5, er_s6, er_s8, er_s10, er_s11, er_s13, er_s14, er_s15, er_s16, er_s20, er_s23, er_s24, er_s25, er_s28, er_s30, er_s31, er_s32, er_s33, er_s42, er_s43, er_s44, er_s21a, er_s21b, er_s12a, er_s12b, isc_R, ec189, ec185, ec184, ec183, ec186, f1, f2, f3, f4, f5, f6, f7, f9, isc_Rj, rRj_g, rRj_a, rRj_2, er_w6, x1, x2, x3, x4, Int.toNat_natCast, Nat.reduceEqDiff, Int.reduceEq, true_and, false_and, or_self, or_true, true_or, or_false, false_or, and_true, and_false, and_self, not_true_eq_false, not_false_eq_true]
        ·
          subst z6
          simp only [eq_self, e01, if_true, if_false, false_and, and_false]
          refine ⟨_, ?_, tBoF_2 F k x y _ _ _⟩
          rw [gr190]
          simp -implicitDefEqProofs (disch := first | exact isc_R | (simp only [List.map_cons, List.map_nil, List.sum_cons, List.sum_nil, xcat, Nat.reduceAdd, Nat.reduceLeDiff, Nat.zero_le]; done) | omega) only [fX12_readBoat, k_p_sq, k_p_blk, k_sq0, k_sq11, k_sq12, k_sq13, k_sq14, k_sq15, k_sqr, k_sqi, k_blk0, k_blk1, k_blk2, k_blk3, k_blk4, k_blk5, k_blkr, k_blki, k_finr, k_fini, k_mapi, k_bindi, k_if1, k_if2, k_ops, k_br, k_rv, k_ri, k_rl, k_rz, k_rzi, k_01d, k_sw, k_01a, k_01b, k_01c, k_ifn, x_cmp, decide_eq_true_eq, Option.map_some, Option.bind_some, Option.toList_some, Option.toList_none, List.cons_append, List.nil_append, Nat.reduceAdd, true_or, or_true, Int.reduceNeg, Int.reduceEq, reduceIte, Nat.zero_le, Nat.reduceLeDiff, Nat.le_refl, Nat.reduceEqDiff, List.getElem?_cons_zero, List.getElem?_cons_succ, xst, List.set_cons_zero, List.set_cons_succ, List.map_cons, List.map_nil, List.sum_cons, List.sum_nil, xcat, Nat.reduceMul, Nat.reduceDiv, Nat.reduceMod, Nat.add_zero, e_nil, e_iconst, e_il, e_al, e_ll, e_istore, e_astore, e_lstore, e_ic, e_iadd, e_isub, e_imul, e_iand, e_ior, e_ixor, e_ishl, e_ishr, e_ineg, e_dupi, e_dupr, e_dupx, e_dup2, e_popi, er_g0, er_g1, er_g2, er_g3, er_g4, er_g5, er_g6, er_g7, er_g8, er_g9, er_g10, er_g11, er_g12, er_g13, er_g14, er_g15, er_g16, er_g17, er_g18, er_g19, er_g20, er_g21, er_g22, er_g23, er_g24, er_g25, er_g26, er_g27, er_g28, er_g29, er_g30, er_g31, er_g32, er_g33, er_g34, er_g35, er_g36, er_g37, er_g38, er_g39, er_g40, er_g41, er_g42, er_g43, er_g44, er_g45, er_g46, er_g47, er_s1, er_s2, er_s5, er_s6, er_s8, er_s10, er_s11, er_s13, er_s14, er_s15, er_s16, er_s20, er_s23, er_s24, er_s25, er_s28, er_s30, er_s31, er_s32, er_s33, er_s42, er_s43, er_s44, er_s21a, er_s21b, er_s12a, er_s12b, isc_R, ec189, ec185, ec184, ec183, ec186, f1, f2, f3, f4, f5, f6, f7, f9, isc_Rj, rRj_g, rRj_a, rRj_2, er_w6, x1, x2, x3, x4, Int.toNat_natCast, Nat.reduceEqDiff, Int.reduceEq, true_and, false_and, or_self, or_true, true_or, or_false, false_or, and_true, and_false, and_self, not_true_eq_false, not_false_eq_true]
    · subst z5
      simp only [eq_self, if_true]
      have f7 := fun (F : Nat → Int) => u_ps (n := n + 3) (h := h) (r := r) (a := a5) (w := w5) (F := F) n4 n8 hs (by omega) (by omega) 101
      have h7 := tPs_at (r := r) (k := 101) (a := a5) (w := w5)
      have z7 := tPs_01 (r := r) (k := 101) (a := a5) (w := w5)
      generalize tPs r 101 a5 w5 = q7 at *
      obtain ⟨q7, a7, w7⟩ := q7
      dsimp only at *
      rcases z7 with z7 | z7
      · subst z7
        simp only [if_neg e01]
        have f8 := fun (F : Nat → Int) => u_ps (n := n + 3) (h := h) (r := r) (a := a7) (w := w7) (F := F) n4 n8 hs (by omega) (by omega) 119
        have h8 := tPs_at (r := r) (k := 119) (a := a7) (w := w7)
        have z8 := tPs_01 (r := r) (k := 119) (a := a7) (w := w7)
        generalize tPs r 119 a7 w7 = q8 at *
        obtain ⟨q8, a8, w8⟩ := q8
        dsimp only at *
        have f9 := fun (F : Nat → Int) (w : Int) => u_digit (n := n + 2) (h := h) (r := r) (a := a8) (w := w) (F := F) n4 n8 hs (by omega) (by omega) (lo := 0) (hi := 5) (by omega) (by omega) (by omega) (by omega)
        rcases z8 with z8 | z8
        ·
          subst z8
          simp only [eq_self, e01, if_true, if_false, false_and, and_false]
          refine ⟨_, ?_, tBoF_2 F k x y _ _ _⟩
          rw [gr190]
          simp -implicitDefEqProofs (disch := first | exact isc_R | (simp only [List.map_cons, List.map_nil, List.sum_cons, List.sum_nil, xcat, Nat.reduceAdd, Nat.reduceLeDiff, Nat.zero_le]; done) | omega) only [fX12_readBoat, k_p_sq, k_p_blk, k_sq0, k_sq11, k_sq12, k_sq13, k_sq14, k_sq15, k_sqr, k_sqi, k_blk0, k_blk1, k_blk2, k_blk3, k_blk4, k_blk5, k_blkr, k_blki, k_finr, k_fini, k_mapi, k_bindi, k_if1, k_if2, k_ops, k_br, k_rv, k_ri, k_rl, k_rz, k_rzi, k_01d, k_sw, k_01a, k_01b, k_01c, k_ifn, x_cmp, decide_eq_true_eq, Option.map_some, Option.bind_some, Option.toList_some, Option.toList_none, List.cons_append, List.nil_append, Nat.reduceAdd, true_or, or_true, Int.reduceNeg, Int.reduceEq, reduceIte, Nat.zero_le, Nat.reduceLeDiff, Nat.le_refl, Nat.reduceEqDiff, List.getElem?_cons_zero, List.getElem?_cons_succ, xst, List.set_cons_zero, List.set_cons_succ, List.map_cons, List.map_nil, List.sum_cons, List.sum_nil, xcat, Nat.reduceMul, Nat.reduceDiv, Nat.reduceMod, Nat.add_zero, e_nil, e_iconst, e_il, e_al, e_ll, e_istore, e_astore, e_lstore, e_ic, e_iadd, e_isub, e_imul, e_iand, e_ior, e_ixor, e_ishl, e_ishr, e_ineg, e_dupi, e_dupr, e_dupx, e_dup2, e_popi, er_g0, er_g1, er_g2, er_g3, er_g4, er_g5, er_g6, er_g7, er_g8, er_g9, er_g10, er_g11, er_g12, er_g13, er_g14, er_g15, er_g16, er_g17, er_g18, er_g19, er_g20, er_g21, er_g22, er_g23, er_g24, er_g25, er_g26, er_g27, er_g28, er_g29, er_g30, er_g31, er_g32, er_g33, er_g34, er_g35, er_g36, er_g37, er_g38, er_g39, er_g40, er_g41, er_g42, er_g43, er_g44, er_g45, er_g46, er_g47, er_s1, er_s2, er_s5, er_s6, er_s8, er_s10, er_s11, er_s13, er_s14, er_s15, er_s16, er_s20, er_s23, er_s24, er_s25, er_s28, er_s30, er_s31, er_s32, er_s33, er_s42, er_s43, er_s44, er_s21a, er_s21b, er_s12a, er_s12b, isc_R, ec189, ec185, ec184, ec183, ec186, f1, f2, f3, f4, f5, f7, f8, f9, isc_Rj, rRj_g, rRj_a, rRj_2, er_w6, x1, x2, x3, x4, Int.toNat_natCast, Nat.reduceEqDiff, Int.reduceEq, true_and, false_and, or_self, or_true, true_or, or_false, false_or, and_true, and_false, and_self, not_true_eq_false, not_false_eq_true]
        ·
          subst z8
          simp only [eq_self, e01, if_true, if_false, false_and, and_false]
          refine ⟨_, ?_, tBoF_2 F k x y _ _ _⟩
          rw [gr190]
          simp -implicitDefEqProofs (disch := first | exact isc_R | (simp only [List.map_cons, List.map_nil, List.sum_cons, List.sum_nil, xcat, Nat.reduceAdd, Nat.reduceLeDiff, Nat.zero_le]; done) | omega) only [fX12_readBoat, k_p_sq, k_p_blk, k_sq0, k_sq11, k_sq12, k_sq13, k_sq14, k_sq15, k_sqr, k_sqi, k_blk0, k_blk1, k_blk2, k_blk3, k_blk4, k_blk5, k_blkr, k_blki, k_finr, k_fini, k_mapi, k_bindi, k_if1, k_if2, k_ops, k_br, k_rv, k_ri, k_rl, k_rz, k_rzi, k_01d, k_sw, k_01a, k_01b, k_01c, k_ifn, x_cmp, decide_eq_true_eq, Option.map_some, Option.bind_some, Option.toList_some, Option.toList_none, List.cons_append, List.nil_append, Nat.reduceAdd, true_or, or_true, Int.reduceNeg, Int.reduceEq, reduceIte, Nat.zero_le, Nat.reduceLeDiff, Nat.le_refl, Nat.reduceEqDiff, List.getElem?_cons_zero, List.getElem?_cons_succ, xst, List.set_cons_zero, List.set_cons_succ, List.map_cons, List.map_nil, List.sum_cons, List.sum_nil, xcat, Nat.reduceMul, Nat.reduceDiv, Nat.reduceMod, Nat.add_zero, e_nil, e_iconst, e_il, e_al, e_ll, e_istore, e_astore, e_lstore, e_ic, e_iadd, e_isub, e_imul, e_iand, e_ior, e_ixor, e_ishl, e_ishr, e_ineg, e_dupi, e_dupr, e_dupx, e_dup2, e_popi, er_g0, er_g1, er_g2, er_g3, er_g4, er_g5, er_g6, er_g7, er_g8, er_g9, er_g10, er_g11, er_g12, er_g13, er_g14, er_g15, er_g16, er_g17, er_g18, er_g19, er_g20, er_g21, er_g22, er_g23, er_g24, er_g25, er_g26, er_g27, er_g28, er_g29, er_g30, er_g31, er_g32, er_g33, er_g34, er_g35, er_g36, er_g37, er_g38, er_g39, er_g40, er_g41, er_g42, er_g43, er_g44, er_g45, er_g46, er_g47, er_s1, er_s2, er_s5, er_s6, er_s8, er_s10, er_s11, er_s13, er_s14, er_s15, er_s16, er_s20, er_s23, er_s24, er_s25, er_s28, er_s30, er_s31, er_s32, er_s33, er_s42, er_s43, er_s44, er_s21a, er_s21b, er_s12a, er_s12b, isc_R, ec189, ec185, ec184, ec183, ec186, f1, f2, f3, f4, f5, f7, f8, f9, isc_Rj, rRj_g, rRj_a, rRj_2, er_w6, x1, x2, x3, x4, Int.toNat_natCast, Nat.reduceEqDiff, Int.reduceEq, true_and, false_and, or_self, or_true, true_or, or_false, false_or, and_true, and_false, and_self, not_true_eq_false, not_false_eq_true]
      · subst z7
        have f9 := fun (F : Nat → Int) (w : Int) => u_digit (n := n + 2) (h := h) (r := r) (a := a7) (w := w) (F := F) n4 n8 hs (by omega) (by omega) (lo := 0) (hi := 5) (by omega) (by omega) (by omega) (by omega)
        simp only [eq_self, e01, if_true, if_false, false_and, and_false]
        refine ⟨_, ?_, tBoF_2 F k x y _ _ _⟩
        rw [gr190]
        simp -implicitDefEqProofs (disch := first | exact isc_R | (simp only [List.map_cons, List.map_nil, List.sum_cons, List.sum_nil, xcat, Nat.reduceAdd, Nat.reduceLeDiff, Nat.zero_le]; done) | omega) only [fX12_readBoat, k_p_sq, k_p_blk, k_sq0, k_sq11, k_sq12, k_sq13, k_sq14, k_sq15, k_sqr, k_sqi, k_blk0, k_blk1, k_blk2, k_blk3, k_blk4, k_blk5, k_blkr, k_blki, k_finr, k_fini, k_mapi, k_bindi, k_if1, k_if2, k_ops, k_br, k_rv, k_ri, k_rl, k_rz, k_rzi, k_01d, k_sw, k_01a, k_01b, k_01c, k_ifn, x_cmp, decide_eq_true_eq, Option.map_some, Option.bind_some, Option.toList_some, Option.toList_none, List.cons_append, List.nil_append, Nat.reduceAdd, true_or, or_true, Int.reduceNeg, Int.reduceEq, reduceIte, Nat.zero_le, Nat.reduceLeDiff, Nat.le_refl, Nat.reduceEqDiff, List.getElem?_cons_zero, List.getElem?_cons_succ, xst, List.set_cons_zero, List.set_cons_succ, List.map_cons, List.map_nil, List.sum_cons, List.sum_nil, xcat, Nat.reduceMul, Nat.reduceDiv, Nat.reduceMod, Nat.add_zero, e_nil, e_iconst, e_il, e_al, e_ll, e_istore, e_astore, e_lstore, e_ic, e_iadd, e_isub, e_imul, e_iand, e_ior, e_ixor, e_ishl, e_ishr, e_ineg, e_dupi, e_dupr, e_dupx, e_dup2, e_popi, er_g0, er_g1, er_g2, er_g3, er_g4, er_g5, er_g6, er_g7, er_g8, er_g9, er_g10, er_g11, er_g12, er_g13, er_g14, er_g15, er_g16, er_g17, er_g18, er_g19, er_g20, er_g21, er_g22, er_g23, er_g24, er_g25, er_g26, er_g27, er_g28, er_g29, er_g30, er_g31, er_g32, er_g33, er_g34, er_g35, er_g36, er_g37, er_g38, er_g39, er_g40, er_g41, er_g42, er_g43, er_g44, er_g45, er_g46, er_g47, er_s1, er_s2, er_s5, er_s6, er_s8, er_s10, er_s11, er_s13, er_s14, er_s15, er_s16, er_s20, er_s23, er_s24, er_s25, er_s28, er_s30, er_s31, er_s32, er_s33, er_s42, er_s43, er_s44, er_s21a, er_s21b, er_s12a, er_s12b, isc_R, ec189, ec185, ec184, ec183, ec186, f1, f2, f3, f4, f5, f7, f9, isc_Rj, rRj_g, rRj_a, rRj_2, er_w6, x1, x2, x3, x4, Int.toNat_natCast, Nat.reduceEqDiff, Int.reduceEq, true_and, false_and, or_self, or_true, true_or, or_false, false_or, and_true, and_false, and_self, not_true_eq_false, not_false_eq_true]
  · subst z4
    simp only [eq_self, if_true]
    have f9 := fun (F : Nat → Int) (w : Int) => u_digit (n := n + 2) (h := h) (r := r) (a := a4) (w := w) (F := F) n4 n8 hs (by omega) (by omega) (lo := 0) (hi := 5) (by omega) (by omega) (by omega) (by omega)
    refine ⟨_, ?_, tBoF_1 F k x y _⟩
    rw [gr190]
    simp -implicitDefEqProofs (disch := first | exact isc_R | (simp only [List.map_cons, List.map_nil, List.sum_cons, List.sum_nil, xcat, Nat.reduceAdd, Nat.reduceLeDiff, Nat.zero_le]; done) | omega) only [fX12_readBoat, k_p_sq, k_p_blk, k_sq0, k_sq11, k_sq12, k_sq13, k_sq14, k_sq15, k_sqr, k_sqi, k_blk0, k_blk1, k_blk2, k_blk3, k_blk4, k_blk5, k_blkr, k_blki, k_finr, k_fini, k_mapi, k_bindi, k_if1, k_if2, k_ops, k_br, k_rv, k_ri, k_rl, k_rz, k_rzi, k_01d, k_sw, k_01a, k_01b, k_01c, k_ifn, x_cmp, decide_eq_true_eq, Option.map_some, Option.bind_some, Option.toList_some, Option.toList_none, List.cons_append, List.nil_append, Nat.reduceAdd, true_or, or_true, Int.reduceNeg, Int.reduceEq, reduceIte, Nat.zero_le, Nat.reduceLeDiff, Nat.le_refl, Nat.reduceEqDiff, List.getElem?_cons_zero, List.getElem?_cons_succ, xst, List.set_cons_zero, List.set_cons_succ, List.map_cons, List.map_nil, List.sum_cons, List.sum_nil, xcat, Nat.reduceMul, Nat.reduceDiv, Nat.reduceMod, Nat.add_zero, e_nil, e_iconst, e_il, e_al, e_ll, e_istore, e_astore, e_lstore, e_ic, e_iadd, e_isub, e_imul, e_iand, e_ior, e_ixor, e_ishl, e_ishr, e_ineg, e_dupi, e_dupr, e_dupx, e_dup2, e_popi, er_g0, er_g1, er_g2, er_g3, er_g4, er_g5, er_g6, er_g7, er_g8, er_g9, er_g10, er_g11, er_g12, er_g13, er_g14, er_g15, er_g16, er_g17, er_g18, er_g19, er_g20, er_g21, er_g22, er_g23, er_g24, er_g25, er_g26, er_g27, er_g28, er_g29, er_g30, er_g31, er_g32, er_g33, er_g34, er_g35, er_g36, er_g37, er_g38, er_g39, er_g40, er_g41, er_g42, er_g43, er_g44, er_g45, er_g46, er_g47, er_s1, er_s2, er_s5, er_s6, er_s8, er_s10, er_s11, er_s13, er_s14, er_s15, er_s16, er_s20, er_s23, er_s24, er_s25, er_s28, er_s30, er_s31, er_s32, er_s33, er_s42, er_s43, er_s44, er_s21a, er_s21b, er_s12a, er_s12b, isc_R, ec189, ec185, ec184, ec183, ec186, f1, f2, f3, f4, f9, isc_Rj, rRj_g, rRj_a, rRj_2, er_w6, x1, x2, x3, x4, Int.toNat_natCast, Nat.reduceEqDiff, Int.reduceEq, true_and, false_and, or_self, or_true, true_or, or_false, false_or, and_true, and_false, and_self, not_true_eq_false, not_false_eq_true]
end RJ2
