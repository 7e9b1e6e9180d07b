/-! ===== the reference: fleet ===== -/
def tRow (F : Nat → Int) (k : Nat) (q : Int × Int × Int × Int × Int) : Prop := F k = q.1 ∧ F (k + 1) = q.2.1 ∧ F (k + 2) = q.2.2.1 ∧ F (k + 3) = q.2.2.2.1 ∧ F (k + 4) = q.2.2.2.2
def q50 : Int × Int × Int × Int × Int := (0, 0, 0, 0, 0)
def tFl1 (r : xR) (B n : Nat) (a w : Int) : (Int × Int × Int × Int × Int) × Int × Int := if B + n = 6 then (q50, a, if w = -1 then a else w) else tBoat r a w
/-- the lines of a fleet: what they say, place, fault -/
def tFl (r : xR) (B : Nat) : Nat → Nat → Int → Int → List (Int × Int × Int × Int × Int) × Int × Int
  | 0, _, a, w => ([], a, w)
  | f + 1, n, a, w =>
    if (tPs r 59 (tFl1 r B n a w).2.1 (tFl1 r B n a w).2.2).1 = 1 then
      ((tFl1 r B n a w).1 :: (tFl r B f (n + 1) (tPs r 59 (tFl1 r B n a w).2.1 (tFl1 r B n a w).2.2).2.1 (tPs r 59 (tFl1 r B n a w).2.1 (tFl1 r B n a w).2.2).2.2).1, (tFl r B f (n + 1) (tPs r 59 (tFl1 r B n a w).2.1 (tFl1 r B n a w).2.2).2.1 (tPs r 59 (tFl1 r B n a w).2.1 (tFl1 r B n a w).2.2).2.2).2)
    else ([(tFl1 r B n a w).1], (tPs r 59 (tFl1 r B n a w).2.1 (tFl1 r B n a w).2.2).2)
theorem tFl1_at {r : xR} {B n : Nat} {a w : Int} : a ≤ (tFl1 r B n a w).2.1 ∧ (tFl1 r B n a w).2.1 ≤ a + 11 := by
  unfold tFl1
  split
  · dsimp only
    omega
  · exact tBoat_at
section FL
variable {n : Nat} {h : xH} {r : xR} {H : xH} {a w : Int} {F : Nat → Int}
theorem r_fl1 (hs : rSane r) (ha : 0 ≤ a) (ha2 : a < 700) {B k : Nat} (hb : r.1 1 = B) (hk : B + k ≤ 6) (J : xV) : ∃ F', lX12_fleet_37 (gg (n + 6)) ([.inr (.inr (.inl (1, 0))), .inl (k : Int), .inl 1, J], [], hR h (rRj r 6 F a (-1))) = some (.inl 1, ([.inr (.inr (.inl (1, 0))), .inl ((k + 1 : Nat) : Int), .inl (tPs r 59 (tFl1 r B k a (-1)).2.1 (tFl1 r B k a (-1)).2.2).1, J], [], hR h (rRj r 6 F' (tPs r 59 (tFl1 r B k a (-1)).2.1 (tFl1 r B k a (-1)).2.2).2.1 (tPs r 59 (tFl1 r B k a (-1)).2.1 (tFl1 r B k a (-1)).2.2).2.2))) ∧ (∀ i, i < 5 * k → F' i = F i) ∧ (¬ B + k = 6 → tRow F' (5 * k) (tFl1 r B k a (-1)).1) := by
  have n4 : (6 : Nat) ≠ 4 := by decide
  have n8 : (6 : Nat) ≠ 8 := by decide
  have hat := tFl1_at (r := r) (B := B) (n := k) (a := a) (w := -1)
  have fp := fun (F : Nat → Int) => u_ps (n := n + 4) (h := h) (r := r) (a := (tFl1 r B k a (-1)).2.1) (w := (tFl1 r B k a (-1)).2.2) (F := F) n4 n8 hs (by omega) (by omega) 59
  have x1 : xw ((k : Int) + 1) = ((k + 1 : Nat) : Int) := xw_id (by omega) (by omega)
  have x2 : xw ((B : Int) + (k : Int)) = ((B + k : Nat) : Int) := xw_id (by omega) (by omega)
  have x3 : xw (5 * (k : Int)) = ((5 * k : Nat) : Int) := by rw [xw_id (by omega) (by omega)]; omega
  have ff := u_fine (n := n + 5) (h := h) (r := r) (c := 6) (F := F) (a := a) (w := -1)
  by_cases c : B + k = 6
  · have e1 : tFl1 r B k a (-1) = (q50, a, a) := by
      unfold tFl1
      rw [if_pos c]
      rfl
    refine ⟨F, ?_, fun i _ => rfl, fun z => absurd c z⟩
    have f1 := u_fault (n := n + 4) (h := h) (r := r) (c := 6) (F := F) (a := a) (w := -1) a
    rw [e1] at fp ⊢
    dsimp only at fp ⊢
    generalize tPs r 59 a a = p at *
    have c2 : ((B + k : Nat) : Int) = 6 := by omega
    simp -implicitDefEqProofs (disch := first | exact isc_R | (simp only [List.map_cons, List.map_nil, List.sum_cons, List.sum_nil, xcat, Nat.reduceAdd, Nat.reduceLeDiff, Nat.zero_le]; done) | omega) only [lX12_fleet_37, k_p_sq, k_p_blk, k_sq0, k_sq11, k_sq12, k_sq13, k_sq14, k_sq15, k_sqr, k_sqi, k_blk0, k_blk1, k_blk2, k_blk3, k_blk4, k_blk5, k_blkr, k_blki, k_finr, k_fini, k_mapi, k_bindi, k_if1, k_if2, k_ops, k_br, k_rv, k_ri, k_rl, k_rz, k_rzi, k_01d, k_sw, k_01a, k_01b, k_01c, k_ifn, x_cmp, decide_eq_true_eq, Option.map_some, Option.bind_some, Option.toList_some, Option.toList_none, List.cons_append, List.nil_append, Nat.reduceAdd, true_or, or_true, Int.reduceNeg, Int.reduceEq, reduceIte, Nat.zero_le, Nat.reduceLeDiff, Nat.le_refl, Nat.reduceEqDiff, List.getElem?_cons_zero, List.getElem?_cons_succ, xst, List.set_cons_zero, List.set_cons_succ, List.map_cons, List.map_nil, List.sum_cons, List.sum_nil, xcat, Nat.reduceMul, Nat.reduceDiv, Nat.reduceMod, Nat.add_zero, e_nil, e_iconst, e_il, e_al, e_ll, e_istore, e_astore, e_lstore, e_ic, e_iadd, e_isub, e_imul, e_iand, e_ior, e_ixor, e_ishl, e_ishr, e_ineg, e_dupi, e_dupr, e_dupx, e_dup2, e_popi, er_g0, er_g1, er_g2, er_g3, er_g4, er_g5, er_g6, er_g7, er_g8, er_g9, er_g10, er_g11, er_g12, er_g13, er_g14, er_g15, er_g16, er_g17, er_g18, er_g19, er_g20, er_g21, er_g22, er_g23, er_g24, er_g25, er_g26, er_g27, er_g28, er_g29, er_g30, er_g31, er_g32, er_g33, er_g34, er_g35, er_g36, er_g37, er_g38, er_g39, er_g40, er_g41, er_g42, er_g43, er_g44, er_g45, er_g46, er_g47, er_s1, er_s2, er_s5, er_s6, er_s8, er_s10, er_s11, er_s13, er_s14, er_s15, er_s16, er_s20, er_s23, er_s24, er_s25, er_s28, er_s30, er_s31, er_s32, er_s33, er_s42, er_s43, er_s44, er_s21a, er_s21b, er_s12a, er_s12b, isc_R, ec182, ec183, ec184, ff, f1, fp, isc_Rj, rRj_g, hb, c2, x1, x2, Int.reduceEq, Nat.reduceEqDiff, true_and, false_and, or_self, or_true, true_or, or_false, false_or, and_true, and_false, and_self, not_true_eq_false, not_false_eq_true]
  · have e1 : tFl1 r B k a (-1) = tBoat r a (-1) := by
      unfold tFl1
      rw [if_neg c]
    obtain ⟨F', f1, f2⟩ := r_readBoat (n := n) (h := h) (F := F) (w := -1) hs ha ha2 (k := 5 * k) (by omega)
    rw [e1] at fp ⊢
    refine ⟨F', ?_, f2.2.2.2.2.2, fun _ => ⟨f2.1, f2.2.1, f2.2.2.1, f2.2.2.2.1, f2.2.2.2.2.1⟩⟩
    have c2 : ¬ (((B + k : Nat) : Int) = 6) := by omega
    generalize tBoat r a (-1) = q at *
    obtain ⟨q1, q2, q3⟩ := q
    dsimp only at *
    generalize tPs r 59 q2 q3 = p at *
    simp -implicitDefEqProofs (disch := first | exact isc_R | (simp only [List.map_cons, List.map_nil, List.sum_cons, List.sum_nil, xcat, Nat.reduceAdd, Nat.reduceLeDiff, Nat.zero_le]; done) | omega) only [lX12_fleet_37, k_p_sq, k_p_blk, k_sq0, k_sq11, k_sq12, k_sq13, k_sq14, k_sq15, k_sqr, k_sqi, k_blk0, k_blk1, k_blk2, k_blk3, k_blk4, k_blk5, k_blkr, k_blki, k_finr, k_fini, k_mapi, k_bindi, k_if1, k_if2, k_ops, k_br, k_rv, k_ri, k_rl, k_rz, k_rzi, k_01d, k_sw, k_01a, k_01b, k_01c, k_ifn, x_cmp, decide_eq_true_eq, Option.map_some, Option.bind_some, Option.toList_some, Option.toList_none, List.cons_append, List.nil_append, Nat.reduceAdd, true_or, or_true, Int.reduceNeg, Int.reduceEq, reduceIte, Nat.zero_le, Nat.reduceLeDiff, Nat.le_refl, Nat.reduceEqDiff, List.getElem?_cons_zero, List.getElem?_cons_succ, xst, List.set_cons_zero, List.set_cons_succ, List.map_cons, List.map_nil, List.sum_cons, List.sum_nil, xcat, Nat.reduceMul, Nat.reduceDiv, Nat.reduceMod, Nat.add_zero, e_nil, e_iconst, e_il, e_al, e_ll, e_istore, e_astore, e_lstore, e_ic, e_iadd, e_isub, e_imul, e_iand, e_ior, e_ixor, e_ishl, e_ishr, e_ineg, e_dupi, e_dupr, e_dupx, e_dup2, e_popi, er_g0, er_g1, er_g2, er_g3, er_g4, er_g5, er_g6, er_g7, er_g8, er_g9, er_g10, er_g11, er_g12, er_g13, er_g14, er_g15, er_g16, er_g17, er_g18, er_g19, er_g20, er_g21, er_g22, er_g23, er_g24, er_g25, er_g26, er_g27, er_g28, er_g29, er_g30, er_g31, er_g32, er_g33, er_g34, er_g35, er_g36, er_g37, er_g38, er_g39, er_g40, er_g41, er_g42, er_g43, er_g44, er_g45, er_g46, er_g47, er_s1, er_s2, er_s5, er_s6, er_s8, er_s10, er_s11, er_s13, er_s14, er_s15, er_s16, er_s20, er_s23, er_s24, er_s25, er_s28, er_s30, er_s31, er_s32, er_s33, er_s42, er_s43, er_s44, er_s21a, er_s21b, er_s12a, er_s12b, isc_R, ec182, ec190, ec184, ff, f1, fp, isc_Rj, rRj_g, hb, c2, x1, x2, x3, Int.reduceEq, Nat.reduceEqDiff, true_and, false_and, or_self, or_true, true_or, or_false, false_or, and_true, and_false, and_self, not_true_eq_false, not_false_eq_true]
end FL
