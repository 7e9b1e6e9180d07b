/-! ===== the reference: an act of a day, read ===== -/
/-- an act: what it is, its two numbers, place, fault -/
def tAct (r : xR) (a : Int) : (Int × Int × Int) × Int × Int :=
  if rHere r a = 104 then (if 49 ≤ rHere r (a + 1) ∧ rHere r (a + 1) ≤ 57 then ((104, (tDigit r (a + 1) (-1) 1 9).1, -1), (tDigit r (a + 1) (-1) 1 9).2) else ((104, 1, -1), a + 1, -1))
  else if rHere r a = 119 ∨ rHere r a = 99 then ((rHere r a, (tLetter r (a + 1) (-1) 6).1, -1), (tLetter r (a + 1) (-1) 6).2)
  else if rHere r a = 112 then ((112, (tLetter r (a + 1) (-1) 6).1, (tDigit r (tLetter r (a + 1) (-1) 6).2.1 (tLetter r (a + 1) (-1) 6).2.2 0 5).1), (tDigit r (tLetter r (a + 1) (-1) 6).2.1 (tLetter r (a + 1) (-1) 6).2.2 0 5).2)
  else if rHere r a = 102 ∨ rHere r a = 111 then ((rHere r a, (tDigit r (a + 1) (-1) 0 9).1, -1), (tDigit r (a + 1) (-1) 0 9).2)
  else if rHere r a = 115 then
    (if (tPs r 45 (tDigit r (a + 1) (-1) 0 9).2.1 (tDigit r (a + 1) (-1) 0 9).2.2).1 = 1 then ((115, (tDigit r (a + 1) (-1) 0 9).1, -1), (tPs r 45 (tDigit r (a + 1) (-1) 0 9).2.1 (tDigit r (a + 1) (-1) 0 9).2.2).2)
    else ((115, (tDigit r (a + 1) (-1) 0 9).1, (tDigit r (tPs r 45 (tDigit r (a + 1) (-1) 0 9).2.1 (tDigit r (a + 1) (-1) 0 9).2.2).2.1 (tPs r 45 (tDigit r (a + 1) (-1) 0 9).2.1 (tDigit r (a + 1) (-1) 0 9).2.2).2.2 0 9).1), (tDigit r (tPs r 45 (tDigit r (a + 1) (-1) 0 9).2.1 (tDigit r (a + 1) (-1) 0 9).2.2).2.1 (tPs r 45 (tDigit r (a + 1) (-1) 0 9).2.1 (tDigit r (a + 1) (-1) 0 9).2.2).2.2 0 9).2))
  else ((-1, 0, 0), a + 1, a)
def tAc (F' : Nat → Int) (k : Nat) (q : Int × Int × Int) : Prop := F' k = q.1 ∧ F' (k + 1) = q.2.1 ∧ ((q.1 = 115 ∨ q.1 = 112) → F' (k + 2) = q.2.2)
def tAcF (F : Nat → Int) (k : Nat) (q : Int × Int × Int) (F' : Nat → Int) : Prop := (∀ i, i < k → F' i = F i) ∧ (q.1 ≠ -1 → tAc F' k q)
theorem tAcF_2 (F : Nat → Int) (k : Nat) (v x : Int) (y : Int) (hv : ¬ (v = 115 ∨ v = 112)) : tAcF F k (v, x, y) (xfu (xfu F k v) (k + 1) x) := by
  unfold tAcF tAc xfu
  refine ⟨fun i hi => ?_, fun _ => ⟨by simp, by simp, fun c => absurd c hv⟩⟩
  rw [if_neg (by omega), if_neg (by omega)]
theorem tAcF_3 (F : Nat → Int) (k : Nat) (v x y : Int) : tAcF F k (v, x, y) (xfu (xfu (xfu F k v) (k + 1) x) (k + 2) y) := by
  unfold tAcF tAc xfu
  refine ⟨fun i hi => ?_, fun _ => ⟨by simp, by simp, fun c => by simp⟩⟩
  rw [if_neg (by omega), if_neg (by omega), if_neg (by omega)]
theorem tAct_at {r : xR} {a : Int} : a + 1 ≤ (tAct r a).2.1 ∧ (tAct r a).2.1 ≤ a + 4 := by
  have h1 := tDigit_at (r := r) (a := a + 1) (w := -1) (lo := 1) (hi := 9)
  have h2 := tDigit_at (r := r) (a := a + 1) (w := -1) (lo := 0) (hi := 9)
  have h3 := tLetter_at (r := r) (a := a + 1) (w := -1) (m := 6)
  have h4 := tDigit_at (r := r) (a := (tLetter r (a + 1) (-1) 6).2.1) (w := (tLetter r (a + 1) (-1) 6).2.2) (lo := 0) (hi := 5)
  have h5 := tPs_at (r := r) (k := 45) (a := (tDigit r (a + 1) (-1) 0 9).2.1) (w := (tDigit r (a + 1) (-1) 0 9).2.2)
  have h6 := tDigit_at (r := r) (a := (tPs r 45 (tDigit r (a + 1) (-1) 0 9).2.1 (tDigit r (a + 1) (-1) 0 9).2.2).2.1) (w := (tPs r 45 (tDigit r (a + 1) (-1) 0 9).2.1 (tDigit r (a + 1) (-1) 0 9).2.2).2.2) (lo := 0) (hi := 9)
  unfold tAct
  split
  · split
    · dsimp only; omega
    · dsimp only; omega
  · split
    · dsimp only; omega
    · split
      · dsimp only; omega
      · split
        · dsimp only; omega
        · split
          · split
            · dsimp only; omega
            · dsimp only; omega
          · dsimp only; omega
section RA
variable {n : Nat} {h : xH} {r : xR} {H : xH} {a w : Int} {F : Nat → Int}
theorem rRj_15 {c : Nat} (v : Int) : xr_i (rRj r c F a w) 15 v = rRj r c F v w := rRd_15 _ a w v
set_option maxHeartbeats 8000000 in
theorem r_readAct (hs : rSane r) (ha : 0 ≤ a) (ha2 : a < 700) {k : Nat} (hk : k < 238) : ∃ F', (gg (n + 4) 234).2 [.inr (.inr (.inl (1, 0))), .inl (k : Int)] (hR h (rRj r 13 F a (-1))) = some (none, hR h (rRj r 13 F' (tAct r a).2.1 (tAct r a).2.2)) ∧ tAcF F k (tAct r a).1 F' := by
  have n4 : (13 : Nat) ≠ 4 := by decide
  have n8 : (13 : Nat) ≠ 8 := by decide
  have x0 : xw (a + 1) = a + 1 := xw_id (by omega) (by omega)
  have x1 : xw ((k : Int) + 1) = ((k + 1 : Nat) : Int) := xw_id (by omega) (by omega)
  have x2 : xw ((k : Int) + 2) = ((k + 2 : Nat) : Int) := xw_id (by omega) (by omega)
  have f1 := fun (F : Nat → Int) => u_here (n := n + 2) (h := h) (r := r) (a := a) (w := -1) (F := F) n4 n8 hs ha
  have f2 := fun (F : Nat → Int) => u_here (n := n + 2) (h := h) (r := r) (a := a + 1) (w := -1) (F := F) n4 n8 hs (by omega)
  unfold tAct
  by_cases c1 : rHere r a = 104
  · rw [if_pos c1]
    rw [c1] at f1
    by_cases c2 : 49 ≤ rHere r (a + 1) ∧ rHere r (a + 1) ≤ 57
    · rw [if_pos c2]
      have f3 := fun (F : Nat → Int) => u_digit (n := n) (h := h) (r := r) (a := a + 1) (w := -1) (F := F) n4 n8 hs (by omega) (by omega) (lo := 1) (hi := 9) (by omega) (by omega) (by omega) (by omega)
      refine ⟨_, ?_, tAcF_2 F k _ _ _ (by decide)⟩
      rw [gr234]
      simp -implicitDefEqProofs (disch := first | exact isc_R | (simp only [List.map_cons, List.map_nil, List.sum_cons, List.sum_nil, xcat, Nat.reduceAdd, Nat.reduceLeDiff, Nat.zero_le]; done) | omega) only [fX12_readAct, k_p_sq, k_p_blk, k_sq0, k_sq11, k_sq12, k_sq13, k_sq14, k_sq15, k_sqr, k_sqi, k_blk0, k_blk1, k_blk2, k_blk3, k_blk4, k_blk5, k_blkr, k_blki, k_finr, k_fini, k_mapi, k_bindi, k_if1, k_if2, k_ops, k_br, k_rv, k_ri, k_rl, k_rz, k_rzi, k_01d, k_sw, k_01a, k_01b, k_01c, k_ifn, x_cmp, decide_eq_true_eq, Option.map_some, Option.bind_some, Option.toList_some, Option.toList_none, List.cons_append, List.nil_append, Nat.reduceAdd, true_or, or_true, Int.reduceNeg, Int.reduceEq, reduceIte, Nat.zero_le, Nat.reduceLeDiff, Nat.le_refl, Nat.reduceEqDiff, List.getElem?_cons_zero, List.getElem?_cons_succ, xst, List.set_cons_zero, List.set_cons_succ, List.map_cons, List.map_nil, List.sum_cons, List.sum_nil, xcat, Nat.reduceMul, Nat.reduceDiv, Nat.reduceMod, Nat.add_zero, e_nil, e_iconst, e_il, e_al, e_ll, e_istore, e_astore, e_lstore, e_ic, e_iadd, e_isub, e_imul, e_iand, e_ior, e_ixor, e_ishl, e_ishr, e_ineg, e_dupi, e_dupr, e_dupx, e_dup2, e_popi, er_g0, er_g1, er_g2, er_g3, er_g4, er_g5, er_g6, er_g7, er_g8, er_g9, er_g10, er_g11, er_g12, er_g13, er_g14, er_g15, er_g16, er_g17, er_g18, er_g19, er_g20, er_g21, er_g22, er_g23, er_g24, er_g25, er_g26, er_g27, er_g28, er_g29, er_g30, er_g31, er_g32, er_g33, er_g34, er_g35, er_g36, er_g37, er_g38, er_g39, er_g40, er_g41, er_g42, er_g43, er_g44, er_g45, er_g46, er_g47, er_s1, er_s2, er_s5, er_s6, er_s8, er_s10, er_s11, er_s13, er_s14, er_s15, er_s16, er_s20, er_s23, er_s24, er_s25, er_s28, er_s30, er_s31, er_s32, er_s33, er_s42, er_s43, er_s44, er_s21a, er_s21b, er_s12a, er_s12b, isc_R, ec181, ec171, ec186, r_in, f1, f2, f3, c2, isc_Rj, rRj_g, rRj_a, rRj_2, rRj_15, er_w13, x0, x1, x2, Int.toNat_natCast, Nat.reduceEqDiff, Int.reduceEq, true_and, false_and, or_self, or_true, true_or, or_false, false_or, and_true, and_false, and_self, not_true_eq_false, not_false_eq_true]
    · rw [if_neg c2]
      refine ⟨_, ?_, tAcF_2 F k _ _ _ (by decide)⟩
      rw [gr234]
      simp -implicitDefEqProofs (disch := first | exact isc_R | (simp only [List.map_cons, List.map_nil, List.sum_cons, List.sum_nil, xcat, Nat.reduceAdd, Nat.reduceLeDiff, Nat.zero_le]; done) | omega) only [fX12_readAct, k_p_sq, k_p_blk, k_sq0, k_sq11, k_sq12, k_sq13, k_sq14, k_sq15, k_sqr, k_sqi, k_blk0, k_blk1, k_blk2, k_blk3, k_blk4, k_blk5, k_blkr, k_blki, k_finr, k_fini, k_mapi, k_bindi, k_if1, k_if2, k_ops, k_br, k_rv, k_ri, k_rl, k_rz, k_rzi, k_01d, k_sw, k_01a, k_01b, k_01c, k_ifn, x_cmp, decide_eq_true_eq, Option.map_some, Option.bind_some, Option.toList_some, Option.toList_none, List.cons_append, List.nil_append, Nat.reduceAdd, true_or, or_true, Int.reduceNeg, Int.reduceEq, reduceIte, Nat.zero_le, Nat.reduceLeDiff, Nat.le_refl, Nat.reduceEqDiff, List.getElem?_cons_zero, List.getElem?_cons_succ, xst, List.set_cons_zero, List.set_cons_succ, List.map_cons, List.map_nil, List.sum_cons, List.sum_nil, xcat, Nat.reduceMul, Nat.reduceDiv, Nat.reduceMod, Nat.add_zero, e_nil, e_iconst, e_il, e_al, e_ll, e_istore, e_astore, e_lstore, e_ic, e_iadd, e_isub, e_imul, e_iand, e_ior, e_ixor, e_ishl, e_ishr, e_ineg, e_dupi, e_dupr, e_dupx, e_dup2, e_popi, er_g0, er_g1, er_g2, er_g3, er_g4, er_g5, er_g6, er_g7, er_g8, er_g9, er_g10, er_g11, er_g12, er_g13, er_g14, er_g15, er_g16, er_g17, er_g18, er_g19, er_g20, er_g21, er_g22, er_g23, er_g24, er_g25, er_g26, er_g27, er_g28, er_g29, er_g30, er_g31, er_g32, er_g33, er_g34, er_g35, er_g36, er_g37, er_g38, er_g39, er_g40, er_g41, er_g42, er_g43, er_g44, er_g45, er_g46, er_g47, er_s1, er_s2, er_s5, er_s6, er_s8, er_s10, er_s11, er_s13, er_s14, er_s15, er_s16, er_s20, er_s23, er_s24, er_s25, er_s28, er_s30, er_s31, er_s32, er_s33, er_s42, er_s43, er_s44, er_s21a, er_s21b, er_s12a, er_s12b, isc_R, ec181, ec171, ec186, r_in, f1, f2, c2, isc_Rj, rRj_g, rRj_a, rRj_2, rRj_15, er_w13, x0, x1, x2, Int.toNat_natCast, Nat.reduceEqDiff, Int.reduceEq, true_and, false_and, or_self, or_true, true_or, or_false, false_or, and_true, and_false, and_self, not_true_eq_false, not_false_eq_true]
  · rw [if_neg c1]
    by_cases c2 : rHere r a = 119 ∨ rHere r a = 99
    · rw [if_pos c2]
      have f3 := fun (F : Nat → Int) => u_letter (n := n) (h := h) (r := r) (a := a + 1) (w := -1) (F := F) n4 n8 hs (by omega) (by omega) 6
      refine ⟨_, ?_, tAcF_2 F k _ _ _ (by omega)⟩
      rw [gr234]
      rcases c2 with c2 | c2
      · rw [c2] at f1 ⊢
        simp -implicitDefEqProofs (disch := first | exact isc_R | (simp only [List.map_cons, List.map_nil, List.sum_cons, List.sum_nil, xcat, Nat.reduceAdd, Nat.reduceLeDiff, Nat.zero_le]; done) | omega) only [fX12_readAct, k_p_sq, k_p_blk, k_sq0, k_sq11, k_sq12, k_sq13, k_sq14, k_sq15, k_sqr, k_sqi, k_blk0, k_blk1, k_blk2, k_blk3, k_blk4, k_blk5, k_blkr, k_blki, k_finr, k_fini, k_mapi, k_bindi, k_if1, k_if2, k_ops, k_br, k_rv, k_ri, k_rl, k_rz, k_rzi, k_01d, k_sw, k_01a, k_01b, k_01c, k_ifn, x_cmp, decide_eq_true_eq, Option.map_some, Option.bind_some, Option.toList_some, Option.toList_none, List.cons_append, List.nil_append, Nat.reduceAdd, true_or, or_true, Int.reduceNeg, Int.reduceEq, reduceIte, Nat.zero_le, Nat.reduceLeDiff, Nat.le_refl, Nat.reduceEqDiff, List.getElem?_cons_zero, List.getElem?_cons_succ, xst, List.set_cons_zero, List.set_cons_succ, List.map_cons, List.map_nil, List.sum_cons, List.sum_nil, xcat, Nat.reduceMul, Nat.reduceDiv, Nat.reduceMod, Nat.add_zero, e_nil, e_iconst, e_il, e_al, e_ll, e_istore, e_astore, e_lstore, e_ic, e_iadd, e_isub, e_imul, e_iand, e_ior, e_ixor, e_ishl, e_ishr, e_ineg, e_dupi, e_dupr, e_dupx, e_dup2, e_popi, er_g0, er_g1, er_g2, er_g3, er_g4, er_g5, er_g6, er_g7, er_g8, er_g9, er_g10, er_g11, er_g12, er_g13, er_g14, er_g15, er_g16, er_g17, er_g18, er_g19, er_g20, er_g21, er_g22, er_g23, er_g24, er_g25, er_g26, er_g27, er_g28, er_g29, er_g30, er_g31, er_g32, er_g33, er_g34, er_g35, er_g36, er_g37, er_g38, er_g39, er_g40, er_g41, er_g42, er_g43, er_g44, er_g45, er_g46, er_g47, er_s1, er_s2, er_s5, er_s6, er_s8, er_s10, er_s11, er_s13, er_s14, er_s15, er_s16, er_s20, er_s23, er_s24, er_s25, er_s28, er_s30, er_s31, er_s32, er_s33, er_s42, er_s43, er_s44, er_s21a, er_s21b, er_s12a, er_s12b, isc_R, ec181, ec188, f1, f3, isc_Rj, rRj_g, rRj_a, rRj_2, rRj_15, er_w13, x0, x1, x2, Int.toNat_natCast, Nat.reduceEqDiff, Int.reduceEq, true_and, false_and, or_self, or_true, true_or, or_false, false_or, and_true, and_false, and_self, not_true_eq_false, not_false_eq_true]
      · rw [c2] at f1 ⊢
        simp -implicitDefEqProofs (disch := first | exact isc_R | (simp only [List.map_cons, List.map_nil, List.sum_cons, List.sum_nil, xcat, Nat.reduceAdd, Nat.reduceLeDiff, Nat.zero_le]; done) | omega) only [fX12_readAct, k_p_sq, k_p_blk, k_sq0, k_sq11, k_sq12, k_sq13, k_sq14, k_sq15, k_sqr, k_sqi, k_blk0, k_blk1, k_blk2, k_blk3, k_blk4, k_blk5, k_blkr, k_blki, k_finr, k_fini, k_mapi, k_bindi, k_if1, k_if2, k_ops, k_br, k_rv, k_ri, k_rl, k_rz, k_rzi, k_01d, k_sw, k_01a, k_01b, k_01c, k_ifn, x_cmp, decide_eq_true_eq, Option.map_some, Option.bind_some, Option.toList_some, Option.toList_none, List.cons_append, List.nil_append, Nat.reduceAdd, true_or, or_true, Int.reduceNeg, Int.reduceEq, reduceIte, Nat.zero_le, Nat.reduceLeDiff, Nat.le_refl, Nat.reduceEqDiff, List.getElem?_cons_zero, List.getElem?_cons_succ, xst, List.set_cons_zero, List.set_cons_succ, List.map_cons, List.map_nil, List.sum_cons, List.sum_nil, xcat, Nat.reduceMul, Nat.reduceDiv, Nat.reduceMod, Nat.add_zero, e_nil, e_iconst, e_il, e_al, e_ll, e_istore, e_astore, e_lstore, e_ic, e_iadd, e_isub, e_imul, e_iand, e_ior, e_ixor, e_ishl, e_ishr, e_ineg, e_dupi, e_dupr, e_dupx, e_dup2, e_popi, er_g0, er_g1, er_g2, er_g3, er_g4, er_g5, er_g6, er_g7, er_g8, er_g9, er_g10, er_g11, er_g12, er_g13, er_g14, er_g15, er_g16, er_g17, er_g18, er_g19, er_g20, er_g21, er_g22, er_g23, er_g24, er_g25, er_g26, er_g27, er_g28, er_g29, er_g30, er_g31, er_g32, er_g33, er_g34, er_g35, er_g36, er_g37, er_g38, er_g39, er_g40, er_g41, er_g42, er_g43, er_g44, er_g45, er_g46, er_g47, er_s1, er_s2, er_s5, er_s6, er_s8, er_s10, er_s11, er_s13, er_s14, er_s15, er_s16, er_s20, er_s23, er_s24, er_s25, er_s28, er_s30, er_s31, er_s32, er_s33, er_s42, er_s43, er_s44, er_s21a, er_s21b, er_s12a, er_s12b, isc_R, ec181, ec188, f1, f3, isc_Rj, rRj_g, rRj_a, rRj_2, rRj_15, er_w13, x0, x1, x2, Int.toNat_natCast, Nat.reduceEqDiff, Int.reduceEq, true_and, false_and, or_self, or_true, true_or, or_false, false_or, and_true, and_false, and_self, not_true_eq_false, not_false_eq_true]
    · rw [if_neg c2]
      by_cases c3 : rHere r a = 112
      · rw [if_pos c3]
        rw [c3] at f1
        have f3 := fun (F : Nat → Int) => u_letter (n := n) (h := h) (r := r) (a := a + 1) (w := -1) (F := F) n4 n8 hs (by omega) (by omega) 6
        have h3 := tLetter_at (r := r) (a := a + 1) (w := -1) (m := 6)
        generalize tLetter r (a + 1) (-1) 6 = q at *
        obtain ⟨q1, q2, q3⟩ := q
        dsimp only at *
        have f4 := fun (F : Nat → Int) => u_digit (n := n) (h := h) (r := r) (a := q2) (w := q3) (F := F) n4 n8 hs (by omega) (by omega) (lo := 0) (hi := 5) (by omega) (by omega) (by omega) (by omega)
        refine ⟨_, ?_, tAcF_3 F k _ _ _⟩
        rw [gr234]
        clear c1 c2
        simp -implicitDefEqProofs (disch := first | exact isc_R | (simp only [List.map_cons, List.map_nil, List.sum_cons, List.sum_nil, xcat, Nat.reduceAdd, Nat.reduceLeDiff, Nat.zero_le]; done) | omega) only [fX12_readAct, k_p_sq, k_p_blk, k_sq0, k_sq11, k_sq12, k_sq13, k_sq14, k_sq15, k_sqr, k_sqi, k_blk0, k_blk1, k_blk2, k_blk3, k_blk4, k_blk5, k_blkr, k_blki, k_finr, k_fini, k_mapi, k_bindi, k_if1, k_if2, k_ops, k_br, k_rv, k_ri, k_rl, k_rz, k_rzi, k_01d, k_sw, k_01a, k_01b, k_01c, k_ifn, x_cmp, decide_eq_true_eq, Option.map_some, Option.bind_some, Option.toList_some, Option.toList_none, List.cons_append, List.nil_append, Nat.reduceAdd, true_or, or_true, Int.reduceNeg, Int.reduceEq, reduceIte, Nat.zero_le, Nat.reduceLeDiff, Nat.le_refl, Nat.reduceEqDiff, List.getElem?_cons_zero, List.getElem?_cons_succ, xst, List.set_cons_zero, List.set_cons_succ, List.map_cons, List.map_nil, List.sum_cons, List.sum_nil, xcat, Nat.reduceMul, Nat.reduceDiv, Nat.reduceMod, Nat.add_zero, e_nil, e_iconst, e_il, e_al, e_ll, e_istore, e_astore, e_lstore, e_ic, e_iadd, e_isub, e_imul, e_iand, e_ior, e_ixor, e_ishl, e_ishr, e_ineg, e_dupi, e_dupr, e_dupx, e_dup2, e_popi, er_g0, er_g1, er_g2, er_g3, er_g4, er_g5, er_g6, er_g7, er_g8, er_g9, er_g10, er_g11, er_g12, er_g13, er_g14, er_g15, er_g16, er_g17, er_g18, er_g19, er_g20, er_g21, er_g22, er_g23, er_g24, er_g25, er_g26, er_g27, er_g28, er_g29, er_g30, er_g31, er_g32, er_g33, er_g34, er_g35, er_g36, er_g37, er_g38, er_g39, er_g40, er_g41, er_g42, er_g43, er_g44, er_g45, er_g46, er_g47, er_s1, er_s2, er_s5, er_s6, er_s8, er_s10, er_s11, er_s13, er_s14, er_s15, er_s16, er_s20, er_s23, er_s24, er_s25, er_s28, er_s30, er_s31, er_s32, er_s33, er_s42, er_s43, er_s44, er_s21a, er_s21b, er_s12a, er_s12b, isc_R, ec181, ec188, ec186, f1, f3, f4, isc_Rj, rRj_g, rRj_a, rRj_2, rRj_15, er_w13, x0, x1, x2, Int.toNat_natCast, Nat.reduceEqDiff, Int.reduceEq, true_and, false_and, or_self, or_true, true_or, or_false, false_or, and_true, and_false, and_self, not_true_eq_false, not_false_eq_true]
      · rw [if_neg c3]
        by_cases c4 : rHere r a = 102 ∨ rHere r a = 111
        · rw [if_pos c4]
          have f3 := fun (F : Nat → Int) => u_digit (n := n) (h := h) (r := r) (a := a + 1) (w := -1) (F := F) n4 n8 hs (by omega) (by omega) (lo := 0) (hi := 9) (by omega) (by omega) (by omega) (by omega)
          refine ⟨_, ?_, tAcF_2 F k _ _ _ (by omega)⟩
          rw [gr234]
          clear c1 c2 c3
          rcases c4 with c2 | c2
          · rw [c2] at f1 ⊢
            simp -implicitDefEqProofs (disch := first | exact isc_R | (simp only [List.map_cons, List.map_nil, List.sum_cons, List.sum_nil, xcat, Nat.reduceAdd, Nat.reduceLeDiff, Nat.zero_le]; done) | omega) only [fX12_readAct, k_p_sq, k_p_blk, k_sq0, k_sq11, k_sq12, k_sq13, k_sq14, k_sq15, k_sqr, k_sqi, k_blk0, k_blk1, k_blk2, k_blk3, k_blk4, k_blk5, k_blkr, k_blki, k_finr, k_fini, k_mapi, k_bindi, k_if1, k_if2, k_ops, k_br, k_rv, k_ri, k_rl, k_rz, k_rzi, k_01d, k_sw, k_01a, k_01b, k_01c, k_ifn, x_cmp, decide_eq_true_eq, Option.map_some, Option.bind_some, Option.toList_some, Option.toList_none, List.cons_append, List.nil_append, Nat.reduceAdd, true_or, or_true, Int.reduceNeg, Int.reduceEq, reduceIte, Nat.zero_le, Nat.reduceLeDiff, Nat.le_refl, Nat.reduceEqDiff, List.getElem?_cons_zero, List.getElem?_cons_succ, xst, List.set_cons_zero, List.set_cons_succ, List.map_cons, List.map_nil, List.sum_cons, List.sum_nil, xcat, Nat.reduceMul, Nat.reduceDiv, Nat.reduceMod, Nat.add_zero, e_nil, e_iconst, e_il, e_al, e_ll, e_istore, e_astore, e_lstore, e_ic, e_iadd, e_isub, e_imul, e_iand, e_ior, e_ixor, e_ishl, e_ishr, e_ineg, e_dupi, e_dupr, e_dupx, e_dup2, e_popi, er_g0, er_g1, er_g2, er_g3, er_g4, er_g5, er_g6, er_g7, er_g8, er_g9, er_g10, er_g11, er_g12, er_g13, er_g14, er_g15, er_g16, er_g17, er_g18, er_g19, er_g20, er_g21, er_g22, er_g23, er_g24, er_g25, er_g26, er_g27, er_g28, er_g29, er_g30, er_g31, er_g32, er_g33, er_g34, er_g35, er_g36, er_g37, er_g38, er_g39, er_g40, er_g41, er_g42, er_g43, er_g44, er_g45, er_g46, er_g47, er_s1, er_s2, er_s5, er_s6, er_s8, er_s10, er_s11, er_s13, er_s14, er_s15, er_s16, er_s20, er_s23, er_s24, er_s25, er_s28, er_s30, er_s31, er_s32, er_s33, er_s42, er_s43, er_s44, er_s21a, er_s21b, er_s12a, er_s12b, isc_R, ec181, ec186, f1, f3, isc_Rj, rRj_g, rRj_a, rRj_2, rRj_15, er_w13, x0, x1, x2, Int.toNat_natCast, Nat.reduceEqDiff, Int.reduceEq, true_and, false_and, or_self, or_true, true_or, or_false, false_or, and_true, and_false, and_self, not_true_eq_false, not_false_eq_true]
          · rw [c2] at f1 ⊢
            simp -implicitDefEqProofs (disch := first | exact isc_R | (simp only [List.map_cons, List.map_nil, List.sum_cons, List.sum_nil, xcat, Nat.reduceAdd, Nat.reduceLeDiff, Nat.zero_le]; done) | omega) only [fX12_readAct, k_p_sq, k_p_blk, k_sq0, k_sq11, k_sq12, k_sq13, k_sq14, k_sq15, k_sqr, k_sqi, k_blk0, k_blk1, k_blk2, k_blk3, k_blk4, k_blk5, k_blkr, k_blki, k_finr, k_fini, k_mapi, k_bindi, k_if1, k_if2, k_ops, k_br, k_rv, k_ri, k_rl, k_rz, k_rzi, k_01d, k_sw, k_01a, k_01b, k_01c, k_ifn, x_cmp, decide_eq_true_eq, Option.map_some, Option.bind_some, Option.toList_some, Option.toList_none, List.cons_append, List.nil_append, Nat.reduceAdd, true_or, or_true, Int.reduceNeg, Int.reduceEq, reduceIte, Nat.zero_le, Nat.reduceLeDiff, Nat.le_refl, Nat.reduceEqDiff, List.getElem?_cons_zero, List.getElem?_cons_succ, xst, List.set_cons_zero, List.set_cons_succ, List.map_cons, List.map_nil, List.sum_cons, List.sum_nil, xcat, Nat.reduceMul, Nat.reduceDiv, Nat.reduceMod, Nat.add_zero, e_nil, e_iconst, e_il, e_al, e_ll, e_istore, e_astore, e_lstore, e_ic, e_iadd, e_isub, e_imul, e_iand, e_ior, e_ixor, e_ishl, e_ishr, e_ineg, e_dupi, e_dupr, e_dupx, e_dup2, e_popi, er_g0, er_g1, er_g2, er_g3, er_g4, er_g5, er_g6, er_g7, er_g8, er_g9, er_g10, er_g11, er_g12, er_g13, er_g14, er_g15, er_g16, er_g17, er_g18, er_g19, er_g20, er_g21, er_g22, er_g23, er_g24, er_g25, er_g26, er_g27, er_g28, er_g29, er_g30, er_g31, er_g32, er_g33, er_g34, er_g35, er_g36, er_g37, er_g38, er_g39, er_g40, er_g41, er_g42, er_g43, er_g44, er_g45, er_g46, er_g47, er_s1, er_s2, er_s5, er_s6, er_s8, er_s10, er_s11, er_s13, er_s14, er_s15, er_s16, er_s20, er_s23, er_s24, er_s25, er_s28, er_s30, er_s31, er_s32, er_s33, er_s42, er_s43, er_s44, er_s21a, er_s21b, er_s12a, er_s12b, isc_R, ec181, ec186, f1, f3, isc_Rj, rRj_g, rRj_a, rRj_2, rRj_15, er_w13, x0, x1, x2, Int.toNat_natCast, Nat.reduceEqDiff, Int.reduceEq, true_and, false_and, or_self, or_true, true_or, or_false, false_or, and_true, and_false, and_self, not_true_eq_false, not_false_eq_true]
        · rw [if_neg c4]
          by_cases c5 : rHere r a = 115
          · rw [if_pos c5]
            rw [c5] at f1
            clear c1 c2 c3 c4
            have f3 := fun (F : Nat → Int) => u_digit (n := n) (h := h) (r := r) (a := a + 1) (w := -1) (F := F) n4 n8 hs (by omega) (by omega) (lo := 0) (hi := 9) (by omega) (by omega) (by omega) (by omega)
            have h3 := tDigit_at (r := r) (a := a + 1) (w := -1) (lo := 0) (hi := 9)
            generalize tDigit r (a + 1) (-1) 0 9 = q at *
            obtain ⟨q1, q2, q3⟩ := q
            dsimp only at *
            have f4 := fun (F : Nat → Int) => u_ps (n := n + 1) (h := h) (r := r) (a := q2) (w := q3) (F := F) n4 n8 hs (by omega) (by omega) 45
            have h4 := tPs_at (r := r) (k := 45) (a := q2) (w := q3)
            have z4 := tPs_01 (r := r) (k := 45) (a := q2) (w := q3)
            generalize tPs r 45 q2 q3 = p at *
            obtain ⟨p1, p2, p3⟩ := p
            dsimp only at *
            have f5 := fun (F : Nat → Int) => u_digit (n := n) (h := h) (r := r) (a := p2) (w := p3) (F := F) n4 n8 hs (by omega) (by omega) (lo := 0) (hi := 9) (by omega) (by omega) (by omega) (by omega)
            rcases z4 with z4 | z4
            · subst z4
              rw [if_neg (by decide)]
              refine ⟨_, ?_, tAcF_3 F k _ _ _⟩
              rw [gr234]
              simp -implicitDefEqProofs (disch := first | exact isc_R | (simp only [List.map_cons, List.map_nil, List.sum_cons, List.sum_nil, xcat, Nat.reduceAdd, Nat.reduceLeDiff, Nat.zero_le]; done) | omega) only [fX12_readAct, k_p_sq, k_p_blk, k_sq0, k_sq11, k_sq12, k_sq13, k_sq14, k_sq15, k_sqr, k_sqi, k_blk0, k_blk1, k_blk2, k_blk3, k_blk4, k_blk5, k_blkr, k_blki, k_finr, k_fini, k_mapi, k_bindi, k_if1, k_if2, k_ops, k_br, k_rv, k_ri, k_rl, k_rz, k_rzi, k_01d, k_sw, k_01a, k_01b, k_01c, k_ifn, x_cmp, decide_eq_true_eq, Option.map_some, Option.bind_some, Option.toList_some, Option.toList_none, List.cons_append, List.nil_append, Nat.reduceAdd, true_or, or_true, Int.reduceNeg, Int.reduceEq, reduceIte, Nat.zero_le, Nat.reduceLeDiff, Nat.le_refl, Nat.reduceEqDiff, List.getElem?_cons_zero, List.getElem?_cons_succ, xst, List.set_cons_zero, List.set_cons_succ, List.map_cons, List.map_nil, List.sum_cons, List.sum_nil, xcat, Nat.reduceMul, Nat.reduceDiv, Nat.reduceMod, Nat.add_zero, e_nil, e_iconst, e_il, e_al, e_ll, e_istore, e_astore, e_lstore, e_ic, e_iadd, e_isub, e_imul, e_iand, e_ior, e_ixor, e_ishl, e_ishr, e_ineg, e_dupi, e_dupr, e_dupx, e_dup2, e_popi, er_g0, er_g1, er_g2, er_g3, er_g4, er_g5, er_g6, er_g7, er_g8, er_g9, er_g10, er_g11, er_g12, er_g13, er_g14, er_g15, er_g16, er_g17, er_g18, er_g19, er_g20, er_g21, er_g22, er_g23, er_g24, er_g25, er_g26, er_g27, er_g28, er_g29, er_g30, er_g31, er_g32, er_g33, er_g34, er_g35, er_g36, er_g37, er_g38, er_g39, er_g40, er_g41, er_g42, er_g43, er_g44, er_g45, er_g46, er_g47, er_s1, er_s2, er_s5, er_s6, er_s8, er_s10, er_s11, er_s13, er_s14, er_s15, er_s16, er_s20, er_s23, er_s24, er_s25, er_s28, er_s30, er_s31, er_s32, er_s33, er_s42, er_s43, er_s44, er_s21a, er_s21b, er_s12a, er_s12b, isc_R, ec181, ec184, ec186, f1, f3, f4, f5, isc_Rj, rRj_g, rRj_a, rRj_2, rRj_15, er_w13, x0, x1, x2, Int.toNat_natCast, Nat.reduceEqDiff, Int.reduceEq, true_and, false_and, or_self, or_true, true_or, or_false, false_or, and_true, and_false, and_self, not_true_eq_false, not_false_eq_true]
            · subst z4
              rw [if_pos rfl]
              refine ⟨_, ?_, tAcF_3 F k _ _ _⟩
              rw [gr234]
              simp -implicitDefEqProofs (disch := first | exact isc_R | (simp only [List.map_cons, List.map_nil, List.sum_cons, List.sum_nil, xcat, Nat.reduceAdd, Nat.reduceLeDiff, Nat.zero_le]; done) | omega) only [fX12_readAct, k_p_sq, k_p_blk, k_sq0, k_sq11, k_sq12, k_sq13, k_sq14, k_sq15, k_sqr, k_sqi, k_blk0, k_blk1, k_blk2, k_blk3, k_blk4, k_blk5, k_blkr, k_blki, k_finr, k_fini, k_mapi, k_bindi, k_if1, k_if2, k_ops, k_br, k_rv, k_ri, k_rl, k_rz, k_rzi, k_01d, k_sw, k_01a, k_01b, k_01c, k_ifn, x_cmp, decide_eq_true_eq, Option.map_some, Option.bind_some, Option.toList_some, Option.toList_none, List.cons_append, List.nil_append, Nat.reduceAdd, true_or, or_true, Int.reduceNeg, Int.reduceEq, reduceIte, Nat.zero_le, Nat.reduceLeDiff, Nat.le_refl, Nat.reduceEqDiff, List.getElem?_cons_zero, List.getElem?_cons_succ, xst, List.set_cons_zero, List.set_cons_succ, List.map_cons, List.map_nil, List.sum_cons, List.sum_nil, xcat, Nat.reduceMul, Nat.reduceDiv, Nat.reduceMod, Nat.add_zero, e_nil, e_iconst, e_il, e_al, e_ll, e_istore, e_astore, e_lstore, e_ic, e_iadd, e_isub, e_imul, e_iand, e_ior, e_ixor, e_ishl, e_ishr, e_ineg, e_dupi, e_dupr, e_dupx, e_dup2, e_popi, er_g0, er_g1, er_g2, er_g3, er_g4, er_g5, er_g6, er_g7, er_g8, er_g9, er_g10, er_g11, er_g12, er_g13, er_g14, er_g15, er_g16, er_g17, er_g18, er_g19, er_g20, er_g21, er_g22, er_g23, er_g24, er_g25, er_g26, er_g27, er_g28, er_g29, er_g30, er_g31, er_g32, er_g33, er_g34, er_g35, er_g36, er_g37, er_g38, er_g39, er_g40, er_g41, er_g42, er_g43, er_g44, er_g45, er_g46, er_g47, er_s1, er_s2, er_s5, er_s6, er_s8, er_s10, er_s11, er_s13, er_s14, er_s15, er_s16, er_s20, er_s23, er_s24, er_s25, er_s28, er_s30, er_s31, er_s32, er_s33, er_s42, er_s43, er_s44, er_s21a, er_s21b, er_s12a, er_s12b, isc_R, ec181, ec184, ec186, f1, f3, f4, isc_Rj, rRj_g, rRj_a, rRj_2, rRj_15, er_w13, x0, x1, x2, Int.toNat_natCast, Nat.reduceEqDiff, Int.reduceEq, true_and, false_and, or_self, or_true, true_or, or_false, false_or, and_true, and_false, and_self, not_true_eq_false, not_false_eq_true]
          · rw [if_neg c5]
            have d1 : ¬ rHere r a = 119 := fun z => c2 (Or.inl z)
            have d2 : ¬ rHere r a = 99 := fun z => c2 (Or.inr z)
            have d3 : ¬ rHere r a = 102 := fun z => c4 (Or.inl z)
            have d4 : ¬ rHere r a = 111 := fun z => c4 (Or.inr z)
            have f6 := fun (F : Nat → Int) => u_fault (n := n + 1) (h := h) (r := r) (c := 13) (F := F) (a := a) (w := -1) a
            clear c2 c4
            refine ⟨xfu F k (rHere r a), ?_, ⟨fun i hi => xfu_ne _ _ (by omega), fun z => absurd rfl z⟩⟩
            rw [gr234]
            simp -implicitDefEqProofs (disch := first | exact isc_R | (simp only [List.map_cons, List.map_nil, List.sum_cons, List.sum_nil, xcat, Nat.reduceAdd, Nat.reduceLeDiff, Nat.zero_le]; done) | omega) only [fX12_readAct, k_p_sq, k_p_blk, k_sq0, k_sq11, k_sq12, k_sq13, k_sq14, k_sq15, k_sqr, k_sqi, k_blk0, k_blk1, k_blk2, k_blk3, k_blk4, k_blk5, k_blkr, k_blki, k_finr, k_fini, k_mapi, k_bindi, k_if1, k_if2, k_ops, k_br, k_rv, k_ri, k_rl, k_rz, k_rzi, k_01d, k_sw, k_01a, k_01b, k_01c, k_ifn, x_cmp, decide_eq_true_eq, Option.map_some, Option.bind_some, Option.toList_some, Option.toList_none, List.cons_append, List.nil_append, Nat.reduceAdd, true_or, or_true, Int.reduceNeg, Int.reduceEq, reduceIte, Nat.zero_le, Nat.reduceLeDiff, Nat.le_refl, Nat.reduceEqDiff, List.getElem?_cons_zero, List.getElem?_cons_succ, xst, List.set_cons_zero, List.set_cons_succ, List.map_cons, List.map_nil, List.sum_cons, List.sum_nil, xcat, Nat.reduceMul, Nat.reduceDiv, Nat.reduceMod, Nat.add_zero, e_nil, e_iconst, e_il, e_al, e_ll, e_istore, e_astore, e_lstore, e_ic, e_iadd, e_isub, e_imul, e_iand, e_ior, e_ixor, e_ishl, e_ishr, e_ineg, e_dupi, e_dupr, e_dupx, e_dup2, e_popi, er_g0, er_g1, er_g2, er_g3, er_g4, er_g5, er_g6, er_g7, er_g8, er_g9, er_g10, er_g11, er_g12, er_g13, er_g14, er_g15, er_g16, er_g17, er_g18, er_g19, er_g20, er_g21, er_g22, er_g23, er_g24, er_g25, er_g26, er_g27, er_g28, er_g29, er_g30, er_g31, er_g32, er_g33, er_g34, er_g35, er_g36, er_g37, er_g38, er_g39, er_g40, er_g41, er_g42, er_g43, er_g44, er_g45, er_g46, er_g47, er_s1, er_s2, er_s5, er_s6, er_s8, er_s10, er_s11, er_s13, er_s14, er_s15, er_s16, er_s20, er_s23, er_s24, er_s25, er_s28, er_s30, er_s31, er_s32, er_s33, er_s42, er_s43, er_s44, er_s21a, er_s21b, er_s12a, er_s12b, isc_R, ec181, ec183, f1, f6, c1, c3, c5, d1, d2, d3, d4, isc_Rj, rRj_g, rRj_a, rRj_2, rRj_15, er_w13, x0, x1, x2, Int.toNat_natCast, Nat.reduceEqDiff, Int.reduceEq, true_and, false_and, or_self, or_true, true_or, or_false, false_or, and_true, and_false, and_self, not_true_eq_false, not_false_eq_true]
end RA
