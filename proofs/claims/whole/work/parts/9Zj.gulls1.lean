/-! ===== the reference: gulls ===== -/
def q20 : Int × Int := (0, 0)
def tGl1 (r : xR) (B : Int) (N n : Nat) (a w : Int) : (Int × Int) × Int × Int := if N + n = 8 then (q20, a, if w = -1 then a else w) else (((tLetter r a w B).1, (tDigit r (tLetter r a w B).2.1 (tLetter r a w B).2.2 1 9).1), (tDigit r (tLetter r a w B).2.1 (tLetter r a w B).2.2 1 9).2)
/-- the lines of gulls: what they say, place, fault -/
def tGl (r : xR) (B : Int) (N : Nat) : Nat → Nat → Int → Int → List (Int × Int) × Int × Int
  | 0, _, a, w => ([], a, w)
  | f + 1, n, a, w =>
    if (tPs r 59 (tGl1 r B N n a w).2.1 (tGl1 r B N n a w).2.2).1 = 1 then
      ((tGl1 r B N n a w).1 :: (tGl r B N f (n + 1) (tPs r 59 (tGl1 r B N n a w).2.1 (tGl1 r B N n a w).2.2).2.1 (tPs r 59 (tGl1 r B N n a w).2.1 (tGl1 r B N n a w).2.2).2.2).1, (tGl r B N f (n + 1) (tPs r 59 (tGl1 r B N n a w).2.1 (tGl1 r B N n a w).2.2).2.1 (tPs r 59 (tGl1 r B N n a w).2.1 (tGl1 r B N n a w).2.2).2.2).2)
    else ([(tGl1 r B N n a w).1], (tPs r 59 (tGl1 r B N n a w).2.1 (tGl1 r B N n a w).2.2).2)
theorem tGl1_at {r : xR} {B : Int} {N n : Nat} {a w : Int} : a ≤ (tGl1 r B N n a w).2.1 ∧ (tGl1 r B N n a w).2.1 ≤ a + 2 := by
  have h1 := tLetter_at (r := r) (a := a) (w := w) (m := B)
  have h2 := tDigit_at (r := r) (a := (tLetter r a w B).2.1) (w := (tLetter r a w B).2.2) (lo := 1) (hi := 9)
  unfold tGl1
  split
  · dsimp only
    omega
  · dsimp only
    omega
section GL
variable {n : Nat} {h : xH} {r : xR} {H : xH} {a w : Int} {F : Nat → Int}
theorem r_glA {Nn BB k z0 z1 k1 X q1 q2 q3 t1 t2 t3 p1 p2 p3 a : Int} {J : xV} (x2 : xw (Nn + k) = X) (c2 : ¬ X = 8) (x3 : xw (2 * k) = z0) (x4 : xw (z0 + 1) = z1) (x1 : xw (k + 1) = k1) (b0 : 0 ≤ z0) (b1 : z0 < 16) (b2 : 0 ≤ z1) (b3 : z1 < 16) (hb : r.1 2 = Nn) (hB : r.1 1 = BB)
    (ff : (gg n 182).2 [.inr (.inr (.inl (1, 0)))] (hR h (rRj r 7 F a (-1))) = some (some (.inl 1), hR h (rRj r 7 F a (-1))))
    (f1 : ∀ F, (gg n 188).2 [.inr (.inr (.inl (1, 0))), .inl BB] (hR h (rRj r 7 F a (-1))) = some (some (.inl q1), hR h (rRj r 7 F q2 q3)))
    (f2 : ∀ F, (gg n 186).2 [.inr (.inr (.inl (1, 0))), .inl 1, .inl 9] (hR h (rRj r 7 F q2 q3)) = some (some (.inl t1), hR h (rRj r 7 F t2 t3)))
    (fp : ∀ F, (gg n 184).2 [.inr (.inr (.inl (1, 0))), .inl 59] (hR h (rRj r 7 F t2 t3)) = some (some (.inl p1), hR h (rRj r 7 F p2 p3))) :
    lX12_gulls_37 (gg n) ([.inr (.inr (.inl (1, 0))), .inl k, .inl 1, J], [], hR h (rRj r 7 F a (-1))) = some (.inl 1, ([.inr (.inr (.inl (1, 0))), .inl k1, .inl p1, J], [], hR h (rRj r 7 (xfu (xfu F z0.toNat q1) z1.toNat t1) p2 p3))) := by
  simp -implicitDefEqProofs (disch := first | with_reducible assumption | exact isc_R | exact isc_Rj | (simp only [List.map_cons, List.map_nil, List.sum_cons, List.sum_nil, xcat, Nat.reduceAdd, Nat.reduceLeDiff, Nat.zero_le]; done)) only [lX12_gulls_37, k_p_sq, k_p_blk, k_sq0, k_sq11, k_sq12, k_sq13, k_sq14, k_sq15, k_sqr, k_sqi, k_blk0, k_blk1, k_blk2, k_blk3, k_blk4, k_blk5, k_blkr, k_blki, k_finr, k_fini, k_mapi, k_bindi, k_if1, k_if2, k_ops, k_br, k_rv, k_ri, k_rl, k_rz, k_rzi, k_01d, k_sw, k_01a, k_01b, k_01c, k_ifn, x_cmp, decide_eq_true_eq, Option.map_some, Option.bind_some, Option.toList_some, Option.toList_none, List.cons_append, List.nil_append, Nat.reduceAdd, true_or, or_true, Int.reduceNeg, Int.reduceEq, reduceIte, Nat.zero_le, Nat.reduceLeDiff, Nat.le_refl, Nat.reduceEqDiff, List.getElem?_cons_zero, List.getElem?_cons_succ, xst, List.set_cons_zero, List.set_cons_succ, List.map_cons, List.map_nil, List.sum_cons, List.sum_nil, xcat, Nat.reduceMul, Nat.reduceDiv, Nat.reduceMod, Nat.add_zero, e_nil, e_iconst, e_il, e_al, e_ll, e_istore, e_astore, e_lstore, e_ic, e_iadd, e_isub, e_imul, e_iand, e_ior, e_ixor, e_ishl, e_ishr, e_ineg, e_dupi, e_dupr, e_dupx, e_dup2, e_popi, er_g0, er_g1, er_g2, er_g3, er_g4, er_g5, er_g6, er_g7, er_g8, er_g9, er_g10, er_g11, er_g12, er_g13, er_g14, er_g15, er_g16, er_g17, er_g18, er_g19, er_g20, er_g21, er_g22, er_g23, er_g24, er_g25, er_g26, er_g27, er_g28, er_g29, er_g30, er_g31, er_g32, er_g33, er_g34, er_g35, er_g36, er_g37, er_g38, er_g39, er_g40, er_g41, er_g42, er_g43, er_g44, er_g45, er_g46, er_g47, er_s1, er_s2, er_s5, er_s6, er_s8, er_s10, er_s11, er_s13, er_s14, er_s15, er_s16, er_s20, er_s23, er_s24, er_s25, er_s28, er_s30, er_s31, er_s32, er_s33, er_s42, er_s43, er_s44, er_s21a, er_s21b, er_s12a, er_s12b, isc_R, ec182, ec188, ec186, ec184, ff, f1, f2, fp, isc_Rj, rRj_g, rRj_a, rRj_2, er_w7, hb, hB, c2, x1, x2, x3, x4, Int.reduceEq, Nat.reduceEqDiff, true_and, false_and, or_self, or_true, true_or, or_false, false_or, and_true, and_false, and_self, not_true_eq_false, not_false_eq_true]
theorem r_glB {Nn k k1 X p1 p2 p3 a : Int} {J : xV} (x2 : xw (Nn + k) = X) (c2 : X = 8) (x1 : xw (k + 1) = k1) (hb : r.1 2 = Nn)
    (ff : (gg n 182).2 [.inr (.inr (.inl (1, 0)))] (hR h (rRj r 7 F a (-1))) = some (some (.inl 1), hR h (rRj r 7 F a (-1))))
    (f1 : (gg n 183).2 [.inr (.inr (.inl (1, 0))), .inl a] (hR h (rRj r 7 F a (-1))) = some (none, hR h (rRj r 7 F a a)))
    (fp : (gg n 184).2 [.inr (.inr (.inl (1, 0))), .inl 59] (hR h (rRj r 7 F a a)) = some (some (.inl p1), hR h (rRj r 7 F p2 p3))) :
    lX12_gulls_37 (gg n) ([.inr (.inr (.inl (1, 0))), .inl k, .inl 1, J], [], hR h (rRj r 7 F a (-1))) = some (.inl 1, ([.inr (.inr (.inl (1, 0))), .inl k1, .inl p1, J], [], hR h (rRj r 7 F p2 p3))) := by
  simp -implicitDefEqProofs (disch := first | with_reducible assumption | exact isc_R | exact isc_Rj | (simp only [List.map_cons, List.map_nil, List.sum_cons, List.sum_nil, xcat, Nat.reduceAdd, Nat.reduceLeDiff, Nat.zero_le]; done)) only [lX12_gulls_37, k_p_sq, k_p_blk, k_sq0, k_sq11, k_sq12, k_sq13, k_sq14, k_sq15, k_sqr, k_sqi, k_blk0, k_blk1, k_blk2, k_blk3, k_blk4, k_blk5, k_blkr, k_blki, k_finr, k_fini, k_mapi, k_bindi, k_if1, k_if2, k_ops, k_br, k_rv, k_ri, k_rl, k_rz, k_rzi, k_01d, k_sw, k_01a, k_01b, k_01c, k_ifn, x_cmp, decide_eq_true_eq, Option.map_some, Option.bind_some, Option.toList_some, Option.toList_none, List.cons_append, List.nil_append, Nat.reduceAdd, true_or, or_true, Int.reduceNeg, Int.reduceEq, reduceIte, Nat.zero_le, Nat.reduceLeDiff, Nat.le_refl, Nat.reduceEqDiff, List.getElem?_cons_zero, List.getElem?_cons_succ, xst, List.set_cons_zero, List.set_cons_succ, List.map_cons, List.map_nil, List.sum_cons, List.sum_nil, xcat, Nat.reduceMul, Nat.reduceDiv, Nat.reduceMod, Nat.add_zero, e_nil, e_iconst, e_il, e_al, e_ll, e_istore, e_astore, e_lstore, e_ic, e_iadd, e_isub, e_imul, e_iand, e_ior, e_ixor, e_ishl, e_ishr, e_ineg, e_dupi, e_dupr, e_dupx, e_dup2, e_popi, er_g0, er_g1, er_g2, er_g3, er_g4, er_g5, er_g6, er_g7, er_g8, er_g9, er_g10, er_g11, er_g12, er_g13, er_g14, er_g15, er_g16, er_g17, er_g18, er_g19, er_g20, er_g21, er_g22, er_g23, er_g24, er_g25, er_g26, er_g27, er_g28, er_g29, er_g30, er_g31, er_g32, er_g33, er_g34, er_g35, er_g36, er_g37, er_g38, er_g39, er_g40, er_g41, er_g42, er_g43, er_g44, er_g45, er_g46, er_g47, er_s1, er_s2, er_s5, er_s6, er_s8, er_s10, er_s11, er_s13, er_s14, er_s15, er_s16, er_s20, er_s23, er_s24, er_s25, er_s28, er_s30, er_s31, er_s32, er_s33, er_s42, er_s43, er_s44, er_s21a, er_s21b, er_s12a, er_s12b, isc_R, ec182, ec183, ec184, ff, f1, fp, isc_Rj, rRj_g, rRj_2, hb, c2, x1, x2, Int.reduceEq, Nat.reduceEqDiff, true_and, false_and, or_self, or_true, true_or, or_false, false_or, and_true, and_false, and_self, not_true_eq_false, not_false_eq_true]
theorem r_gl1 (hs : rSane r) (ha : 0 ≤ a) (ha2 : a < 700) {N k : Nat} (hb : r.1 2 = N) (hk : N + k ≤ 8) (J : xV) : ∃ F', lX12_gulls_37 (gg (n + 6)) ([.inr (.inr (.inl (1, 0))), .inl (k : Int), .inl 1, J], [], hR h (rRj r 7 F a (-1))) = some (.inl 1, ([.inr (.inr (.inl (1, 0))), .inl ((k + 1 : Nat) : Int), .inl (tPs r 59 (tGl1 r (r.1 1) N k a (-1)).2.1 (tGl1 r (r.1 1) N k a (-1)).2.2).1, J], [], hR h (rRj r 7 F' (tPs r 59 (tGl1 r (r.1 1) N k a (-1)).2.1 (tGl1 r (r.1 1) N k a (-1)).2.2).2.1 (tPs r 59 (tGl1 r (r.1 1) N k a (-1)).2.1 (tGl1 r (r.1 1) N k a (-1)).2.2).2.2))) ∧ (∀ i, i < 2 * k → F' i = F i) ∧ (¬ N + k = 8 → F' (2 * k) = (tGl1 r (r.1 1) N k a (-1)).1.1 ∧ F' (2 * k + 1) = (tGl1 r (r.1 1) N k a (-1)).1.2) := by
  have n4 : (7 : Nat) ≠ 4 := by decide
  have n8 : (7 : Nat) ≠ 8 := by decide
  have hat := tGl1_at (r := r) (B := r.1 1) (N := N) (n := k) (a := a) (w := -1)
  have x1 : xw ((k : Int) + 1) = ((k + 1 : Nat) : Int) := xw_id (by omega) (by omega)
  have x2 : xw ((N : Int) + (k : Int)) = ((N + k : Nat) : Int) := xw_id (by omega) (by omega)
  have ff := u_fine (n := n + 5) (h := h) (r := r) (c := 7) (F := F) (a := a) (w := -1)
  rw [if_pos rfl] at ff
  by_cases c : N + k = 8
  · have e1 : tGl1 r (r.1 1) N k a (-1) = (q20, a, a) := by
      unfold tGl1
      rw [if_pos c]
      rfl
    refine ⟨F, ?_, fun i _ => rfl, fun z => absurd c z⟩
    have f1 := u_fault (n := n + 4) (h := h) (r := r) (c := 7) (F := F) (a := a) (w := -1) a
    rw [if_pos rfl] at f1
    rw [e1]
    exact r_glB (n := n + 6) x2 (by omega) x1 hb ff f1 (u_ps (n := n + 4) n4 n8 hs ha (by omega) 59)
  · have h1 := tLetter_at (r := r) (a := a) (w := -1) (m := r.1 1)
    have h2 := tDigit_at (r := r) (a := (tLetter r a (-1) (r.1 1)).2.1) (w := (tLetter r a (-1) (r.1 1)).2.2) (lo := 1) (hi := 9)
    have e1 : tGl1 r (r.1 1) N k a (-1) = (((tLetter r a (-1) (r.1 1)).1, (tDigit r (tLetter r a (-1) (r.1 1)).2.1 (tLetter r a (-1) (r.1 1)).2.2 1 9).1), (tDigit r (tLetter r a (-1) (r.1 1)).2.1 (tLetter r a (-1) (r.1 1)).2.2 1 9).2) := by
      unfold tGl1
      rw [if_neg c]
    rw [e1]
    have x3 : xw (2 * (k : Int)) = ((2 * k : Nat) : Int) := by rw [xw_id (by omega) (by omega)]; omega
    have x4 : xw (((2 * k : Nat) : Int) + 1) = ((2 * k + 1 : Nat) : Int) := by rw [xw_id (by omega) (by omega)]; omega
    refine ⟨xfu (xfu F (2 * k) (tLetter r a (-1) (r.1 1)).1) (2 * k + 1) (tDigit r (tLetter r a (-1) (r.1 1)).2.1 (tLetter r a (-1) (r.1 1)).2.2 1 9).1, ?_, fun i hi => ?_, fun _ => ⟨?_, xfu_self _ _ _⟩⟩
    · have f := r_glA (n := n + 6) (h := h) (r := r) (F := F) (a := a) (J := J) x2 (by omega) x3 x4 x1 (by omega) (by omega) (by omega) (by omega) hb rfl ff (fun F => u_letter (n := n + 3) n4 n8 hs ha (by omega) (r.1 1)) (fun F => u_digit (n := n + 3) n4 n8 hs (by omega) (by omega) (by decide) (by decide) (by decide) (by decide)) (fun F => u_ps (n := n + 4) n4 n8 hs (by omega) (by omega) 59)
      simp only [Int.toNat_natCast] at f
      exact f
    · rw [xfu_ne _ _ (by omega), xfu_ne _ _ (by omega)]
    · rw [xfu_ne _ _ (by omega), xfu_self]
theorem r_glL (hs : rSane r) {N : Nat} (hb : r.1 2 = N) (J : xV) : ∀ (f k : Nat) (a : Int) (F : Nat → Int), N + k ≤ 8 → 9 ≤ f + (N + k) → 0 ≤ a → a ≤ 3 * (k : Int) → ∃ F', p_lop (lX12_gulls_37 (gg (n + 6))) ([.inr (.inr (.inl (1, 0))), .inl (k : Int), .inl 1, J], [], hR h (rRj r 7 F a (-1))) = some (.inl 1, ([.inr (.inr (.inl (1, 0))), .inl ((k + (tGl r (r.1 1) N f k a (-1)).1.length : Nat) : Int), .inl 0, J], [], hR h (rRj r 7 F' (tGl r (r.1 1) N f k a (-1)).2.1 (tGl r (r.1 1) N f k a (-1)).2.2))) ∧ (∀ i, i < 2 * k → F' i = F i) ∧ ((tGl r (r.1 1) N f k a (-1)).2.2 = -1 → ∀ i, i < (tGl r (r.1 1) N f k a (-1)).1.length → F' (2 * (k + i)) = ((tGl r (r.1 1) N f k a (-1)).1.getD i q20).1 ∧ F' (2 * (k + i) + 1) = ((tGl r (r.1 1) N f k a (-1)).1.getD i q20).2)
  | 0, k, a, F, h1, h2, h3, h4 => by omega
  | f + 1, k, a, F, h1, h2, h3, h4 => by
    obtain ⟨F1, e1, e2, e3⟩ := r_gl1 (n := n) (h := h) (F := F) hs h3 (by omega) hb h1 J
    have hat := tGl1_at (r := r) (B := r.1 1) (N := N) (n := k) (a := a) (w := -1)
    have hp := tPs_at (r := r) (k := 59) (a := (tGl1 r (r.1 1) N k a (-1)).2.1) (w := (tGl1 r (r.1 1) N k a (-1)).2.2)
    have hz : N + k = 8 → (tGl1 r (r.1 1) N k a (-1)).2.2 ≠ -1 := by
      intro c
      unfold tGl1
      rw [if_pos c]
      show (if (-1 : Int) = -1 then a else -1) ≠ -1
      rw [if_pos rfl]
      omega
    have hw : (tPs r 59 (tGl1 r (r.1 1) N k a (-1)).2.1 (tGl1 r (r.1 1) N k a (-1)).2.2).2.2 = (tGl1 r (r.1 1) N k a (-1)).2.2 := by
      unfold tPs
      split <;> rfl
    rcases tPs_01 (r := r) (k := 59) (a := (tGl1 r (r.1 1) N k a (-1)).2.1) (w := (tGl1 r (r.1 1) N k a (-1)).2.2) with z | z
    · have e5 : tGl r (r.1 1) N (f + 1) k a (-1) = ([(tGl1 r (r.1 1) N k a (-1)).1], (tPs r 59 (tGl1 r (r.1 1) N k a (-1)).2.1 (tGl1 r (r.1 1) N k a (-1)).2.2).2) := by
        show (if _ then _ else _) = _
        rw [if_neg (by rw [z]; decide)]
      rw [z] at e1
      rw [e5]
      dsimp only
      refine ⟨F1, ?_, e2, ?_⟩
      · rw [k_l1 e1]
        refine k_l2 (k := 0) ?_
        simp -implicitDefEqProofs (disch := first | exact isc_R | (simp only [List.map_cons, List.map_nil, List.sum_cons, List.sum_nil, xcat, Nat.reduceAdd, Nat.reduceLeDiff, Nat.zero_le]; done) | omega) only [lX12_gulls_37, k_p_sq, k_p_blk, k_sq0, k_sq11, k_sq12, k_sq13, k_sq14, k_sq15, k_sqr, k_sqi, k_blk0, k_blk1, k_blk2, k_blk3, k_blk4, k_blk5, k_blkr, k_blki, k_finr, k_fini, k_mapi, k_bindi, k_if1, k_if2, k_ops, k_br, k_rv, k_ri, k_rl, k_rz, k_rzi, k_01d, k_sw, k_01a, k_01b, k_01c, k_ifn, x_cmp, decide_eq_true_eq, Option.map_some, Option.bind_some, Option.toList_some, Option.toList_none, List.cons_append, List.nil_append, Nat.reduceAdd, true_or, or_true, Int.reduceNeg, Int.reduceEq, reduceIte, Nat.zero_le, Nat.reduceLeDiff, Nat.le_refl, Nat.reduceEqDiff, List.getElem?_cons_zero, List.getElem?_cons_succ, xst, List.set_cons_zero, List.set_cons_succ, List.map_cons, List.map_nil, List.sum_cons, List.sum_nil, xcat, Nat.reduceMul, Nat.reduceDiv, Nat.reduceMod, Nat.add_zero, e_nil, e_iconst, e_il, e_al, e_ll, e_istore, e_astore, e_lstore, e_ic, e_iadd, e_isub, e_imul, e_iand, e_ior, e_ixor, e_ishl, e_ishr, e_ineg, e_dupi, e_dupr, e_dupx, e_dup2, e_popi, er_g0, er_g1, er_g2, er_g3, er_g4, er_g5, er_g6, er_g7, er_g8, er_g9, er_g10, er_g11, er_g12, er_g13, er_g14, er_g15, er_g16, er_g17, er_g18, er_g19, er_g20, er_g21, er_g22, er_g23, er_g24, er_g25, er_g26, er_g27, er_g28, er_g29, er_g30, er_g31, er_g32, er_g33, er_g34, er_g35, er_g36, er_g37, er_g38, er_g39, er_g40, er_g41, er_g42, er_g43, er_g44, er_g45, er_g46, er_g47, er_s1, er_s2, er_s5, er_s6, er_s8, er_s10, er_s11, er_s13, er_s14, er_s15, er_s16, er_s20, er_s23, er_s24, er_s25, er_s28, er_s30, er_s31, er_s32, er_s33, er_s42, er_s43, er_s44, er_s21a, er_s21b, er_s12a, er_s12b, isc_R, Int.reduceEq]
        rfl
      · intro hf i hi
        have i0 : i = 0 := by
          have : i < 1 := hi
          omega
        subst i0
        exact e3 (fun c => hz c (by rw [← hw]; exact hf))
    · have hm := tPs_1 z
      have e5 : tGl r (r.1 1) N (f + 1) k a (-1) = ((tGl1 r (r.1 1) N k a (-1)).1 :: (tGl r (r.1 1) N f (k + 1) (tPs r 59 (tGl1 r (r.1 1) N k a (-1)).2.1 (tGl1 r (r.1 1) N k a (-1)).2.2).2.1 (tPs r 59 (tGl1 r (r.1 1) N k a (-1)).2.1 (tGl1 r (r.1 1) N k a (-1)).2.2).2.2).1, (tGl r (r.1 1) N f (k + 1) (tPs r 59 (tGl1 r (r.1 1) N k a (-1)).2.1 (tGl1 r (r.1 1) N k a (-1)).2.2).2.1 (tPs r 59 (tGl1 r (r.1 1) N k a (-1)).2.1 (tGl1 r (r.1 1) N k a (-1)).2.2).2.2).2) := by
        show (if _ then _ else _) = _
        rw [if_pos z]
      rw [hm] at e5 e1
      have c6 : ¬ N + k = 8 := fun c => hz c (by rw [← hw]; exact hm)
      obtain ⟨F2, g1, g2, g3⟩ := r_glL hs hb J f (k + 1) (tPs r 59 (tGl1 r (r.1 1) N k a (-1)).2.1 (tGl1 r (r.1 1) N k a (-1)).2.2).2.1 F1 (by omega) (by omega) (by omega) (by omega)
      rw [z] at e1
      rw [e5]
      dsimp only
      refine ⟨F2, ?_, fun i hi => by rw [g2 i (by omega)]; exact e2 i hi, ?_⟩
      · rw [k_l1 e1, g1]
        rw [List.length_cons, show k + ((tGl r (r.1 1) N f (k + 1) (tPs r 59 (tGl1 r (r.1 1) N k a (-1)).2.1 (tGl1 r (r.1 1) N k a (-1)).2.2).2.1 (-1)).1.length + 1) = k + 1 + (tGl r (r.1 1) N f (k + 1) (tPs r 59 (tGl1 r (r.1 1) N k a (-1)).2.1 (tGl1 r (r.1 1) N k a (-1)).2.2).2.1 (-1)).1.length by omega]
      · intro hf i hi
        cases i with
        | zero =>
          obtain ⟨t1, t2⟩ := e3 c6
          rw [Nat.add_zero]
          exact ⟨by rw [g2 _ (by omega)]; exact t1, by rw [g2 _ (by omega)]; exact t2⟩
        | succ i =>
          have hi2 : i < (tGl r (r.1 1) N f (k + 1) (tPs r 59 (tGl1 r (r.1 1) N k a (-1)).2.1 (tGl1 r (r.1 1) N k a (-1)).2.2).2.1 (-1)).1.length := by
            rw [List.length_cons] at hi
            omega
          have := g3 hf i hi2
          rw [show k + (i + 1) = k + 1 + i by omega]
          exact this
/-- gull g is told by q: home, pace and its row -/
def tG1 (g : Nat) (q : Int × Int) (a : Nat → Int) : Nat → Int := xfu (xfu (xfu (xfu (xfu (xfu a (36 + g) (a (24 + q.1.toNat))) (44 + g) 0) (52 + g) 0) (60 + g) 0) (68 + g) 0) (76 + g) (-1)
def tGs (N : Nat) (l : List (Int × Int)) (a : Nat → Int) : Nat → Int := xit (fun i a => tG1 (N + i) (l.getD i q20) a) l.length a
def tHo (N : Nat) (l : List (Int × Int)) (a : Nat → Int) : Nat → Int := xit (fun i a => xfu a (N + i) (l.getD i q20).1) l.length a
def tPa (N : Nat) (l : List (Int × Int)) (a : Nat → Int) : Nat → Int := xit (fun i a => xfu a (N + i) (l.getD i q20).2) l.length a
def sG (q : xR) (A H P : Nat → Int) (X : Int) : xR := xr_i (xr_j (xr_j (xr_j q 1 A) 2 H) 3 P) 2 X
theorem sG_r (q : xR) (A H P : Nat → Int) (X : Int) (c : Nat) : (sG q A H P X).2 c = if c = 3 then P else if c = 2 then H else if c = 1 then A else q.2 c := rfl
theorem sG_1 (q : xR) (A H P : Nat → Int) (X : Int) : (sG q A H P X).2 1 = A := rfl
theorem sG_2 (q : xR) (A H P : Nat → Int) (X : Int) : (sG q A H P X).2 2 = H := rfl
theorem sG_3 (q : xR) (A H P : Nat → Int) (X : Int) : (sG q A H P X).2 3 = P := rfl
theorem sG_7 (q : xR) (A H P : Nat → Int) (X : Int) : (sG q A H P X).2 7 = q.2 7 := rfl
theorem sG_g (q : xR) (A H P : Nat → Int) (X : Int) : (sG q A H P X).1 2 = X := rfl
theorem xr_i_j (q : xR) (i j : Nat) (v : Int) (f : Nat → Int) : xr_j (xr_i q i v) j f = xr_i (xr_j q j f) i v := rfl
theorem xr_jc (q : xR) {i j : Nat} (hij : i ≠ j) (f g : Nat → Int) : xr_j (xr_j q i f) j g = xr_j (xr_j q j g) i f := by
  unfold xr_j
  dsimp only
  rw [xfu_comm _ _ _ hij]
theorem sG_a1 (q : xR) (A H P : Nat → Int) (X : Int) (i : Nat) (v : Int) : xr_a (sG q A H P X) 1 i v = sG q (xfu A i v) H P X := by
  show xr_j (sG q A H P X) 1 (xfu ((sG q A H P X).2 1) i v) = _
  rw [sG_1]
  unfold sG
  rw [xr_i_j, xr_jc (xr_j (xr_j q 1 A) 2 H) (i := 3) (j := 1) (by decide) P (xfu A i v), xr_jc (xr_j q 1 A) (i := 2) (j := 1) (by decide) H (xfu A i v), xr_j_j]
theorem sG_a2 (q : xR) (A H P : Nat → Int) (X : Int) (i : Nat) (v : Int) : xr_a (sG q A H P X) 2 i v = sG q A (xfu H i v) P X := by
  show xr_j (sG q A H P X) 2 (xfu ((sG q A H P X).2 2) i v) = _
  rw [sG_2]
  unfold sG
  rw [xr_i_j, xr_jc (xr_j (xr_j q 1 A) 2 H) (i := 3) (j := 2) (by decide) P (xfu H i v), xr_j_j]
theorem sG_a3 (q : xR) (A H P : Nat → Int) (X : Int) (i : Nat) (v : Int) : xr_a (sG q A H P X) 3 i v = sG q A H (xfu P i v) X := by
  show xr_j (sG q A H P X) 3 (xfu ((sG q A H P X).2 3) i v) = _
  rw [sG_3]
  unfold sG
  rw [xr_i_j, xr_j_j]
theorem sG_i (q : xR) (A H P : Nat → Int) (X Y : Int) : xr_i (sG q A H P X) 2 Y = sG q A H P Y := by
  unfold sG xr_i
  dsimp only
  rw [xfu_twice]
theorem sG_0 (q : xR) : sG q (q.2 1) (q.2 2) (q.2 3) (q.1 2) = q := by
  unfold sG
  rw [xr_j_0, xr_j_0, xr_j_0]
  unfold xr_i
  rw [xfu_get]
theorem r_gl151 {q : xR} {A H P : Nat → Int} {X i L p0 p1 p2 p3 p4 p5 z0 z1 u v X1 i1 j : Int} (hi : ¬ L ≤ i)
    (y0 : xw (36 + X) = p0) (y1 : xw (44 + X) = p1) (y2 : xw (52 + X) = p2) (y3 : xw (60 + X) = p3) (y4 : xw (68 + X) = p4) (y5 : xw (76 + X) = p5) (y6 : xw (X + 1) = X1)
    (g0 : xw (2 * i) = z0) (g1 : xw (z0 + 1) = z1) (g5 : xw (i + 1) = i1) (hv : q.2 7 z0.toNat = v) (y7 : xw (24 + v) = u)
    (a0 : 0 ≤ p0) (a1 : 0 ≤ p1) (a2 : 0 ≤ p2) (a3 : 0 ≤ p3) (a4 : 0 ≤ p4) (a5 : 0 ≤ p5) (b0 : p0 < 116) (b1 : p1 < 116) (b2 : p2 < 116) (b3 : p3 < 116) (b4 : p4 < 116) (b5 : p5 < 116)
    (c0 : 0 ≤ z0) (c1 : 0 ≤ z1) (d0 : z0 < 16) (d1 : z1 < 16) (e0 : 0 ≤ X) (e1 : X < 8) (e2 : 0 ≤ u) (e3 : u < 116) :
    lX12_gulls_151 (gg n) ([.inr (.inr (.inl (1, 0))), .inl L, .inl j, .inl i], [], hR h (sG q A H P X)) = some (.inl 1, ([.inr (.inr (.inl (1, 0))), .inl L, .inl j, .inl i1], [], hR h (sG q (xfu (xfu (xfu (xfu (xfu (xfu A p0.toNat (A u.toNat)) p1.toNat 0) p2.toNat 0) p3.toNat 0) p4.toNat 0) p5.toNat (-1)) (xfu H X.toNat v) (xfu P X.toNat (q.2 7 z1.toNat)) X1))) := by
  simp -implicitDefEqProofs (disch := first | with_reducible assumption | exact isc_R | (simp only [List.map_cons, List.map_nil, List.sum_cons, List.sum_nil, xcat, Nat.reduceAdd, Nat.reduceLeDiff, Nat.zero_le]; done)) only [lX12_gulls_151, k_p_sq, k_p_blk, k_sq0, k_sq11, k_sq12, k_sq13, k_sq14, k_sq15, k_sqr, k_sqi, k_blk0, k_blk1, k_blk2, k_blk3, k_blk4, k_blk5, k_blkr, k_blki, k_finr, k_fini, k_mapi, k_bindi, k_if1, k_if2, k_ops, k_br, k_rv, k_ri, k_rl, k_rz, k_rzi, k_01d, k_sw, k_01a, k_01b, k_01c, k_ifn, x_cmp, decide_eq_true_eq, Option.map_some, Option.bind_some, Option.toList_some, Option.toList_none, List.cons_append, List.nil_append, Nat.reduceAdd, true_or, or_true, Int.reduceNeg, Int.reduceEq, reduceIte, Nat.zero_le, Nat.reduceLeDiff, Nat.le_refl, Nat.reduceEqDiff, List.getElem?_cons_zero, List.getElem?_cons_succ, xst, List.set_cons_zero, List.set_cons_succ, List.map_cons, List.map_nil, List.sum_cons, List.sum_nil, xcat, Nat.reduceMul, Nat.reduceDiv, Nat.reduceMod, Nat.add_zero, e_nil, e_iconst, e_il, e_al, e_ll, e_istore, e_astore, e_lstore, e_ic, e_iadd, e_isub, e_imul, e_iand, e_ior, e_ixor, e_ishl, e_ishr, e_ineg, e_dupi, e_dupr, e_dupx, e_dup2, e_popi, er_g0, er_g1, er_g2, er_g3, er_g4, er_g5, er_g6, er_g7, er_g8, er_g9, er_g10, er_g11, er_g12, er_g13, er_g14, er_g15, er_g16, er_g17, er_g18, er_g19, er_g20, er_g21, er_g22, er_g23, er_g24, er_g25, er_g26, er_g27, er_g28, er_g29, er_g30, er_g31, er_g32, er_g33, er_g34, er_g35, er_g36, er_g37, er_g38, er_g39, er_g40, er_g41, er_g42, er_g43, er_g44, er_g45, er_g46, er_g47, er_s1, er_s2, er_s5, er_s6, er_s8, er_s10, er_s11, er_s13, er_s14, er_s15, er_s16, er_s20, er_s23, er_s24, er_s25, er_s28, er_s30, er_s31, er_s32, er_s33, er_s42, er_s43, er_s44, er_s21a, er_s21b, er_s12a, er_s12b, isc_R, hi, sG_1, sG_2, sG_3, sG_7, sG_g, sG_a1, sG_a2, sG_a3, sG_i, xfu_self, hv, er_r7, er_w1, er_r1, er_r2, er_w2, er_w3, y0, y1, y2, y3, y4, y5, y6, y7, g0, g1, g5]
theorem r_glF {q : xR} {N : Nat} {j : Int} {l : List (Int × Int)} (hb : q.1 2 = N) (hl : N + l.length ≤ 8) (hq : q.2 7 = F) (hF : ∀ i, i < l.length → F (2 * i) = (l.getD i q20).1 ∧ F (2 * i + 1) = (l.getD i q20).2) (h6 : ∀ i, i < l.length → 0 ≤ (l.getD i q20).1 ∧ (l.getD i q20).1 < 6) : p_lop (lX12_gulls_151 (gg n)) ([.inr (.inr (.inl (1, 0))), .inl (l.length : Int), .inl j, .inl 0], [], hR h q) = some (.inl 1, ([.inr (.inr (.inl (1, 0))), .inl (l.length : Int), .inl j, .inl (l.length : Int)], [], hR h (sG q (tGs N l (q.2 1)) (tHo N l (q.2 2)) (tPa N l (q.2 3)) ((N + l.length : Nat) : Int)))) := by
  refine k_for (fun i => ([.inr (.inr (.inl (1, 0))), .inl (l.length : Int), .inl j, .inl (i : Int)], [], hR h (sG q (xit (fun i a => tG1 (N + i) (l.getD i q20) a) i (q.2 1)) (xit (fun i a => xfu a (N + i) (l.getD i q20).1) i (q.2 2)) (xit (fun i a => xfu a (N + i) (l.getD i q20).2) i (q.2 3)) ((N + i : Nat) : Int)))) l.length ?_ ?_ (fun i hi => ?_)
  · have e : sG q (q.2 1) (q.2 2) (q.2 3) ((N + 0 : Nat) : Int) = q := by
      rw [Nat.add_zero, ← hb]
      exact sG_0 q
    exact congrArg (fun z => (([.inr (.inr (.inl (1, 0))), .inl (l.length : Int), .inl j, .inl 0] : List xV), ([] : List xV), hR h z)) e
  · have hle : (l.length : Int) ≤ (l.length : Int) := Int.le_refl _
    clear hF hq hb hl h6
    unfold tGs tHo tPa
    generalize xit (fun i a => tG1 (N + i) (l.getD i q20) a) l.length (q.2 1) = A
    generalize xit (fun i a => xfu a (N + i) (l.getD i q20).1) l.length (q.2 2) = A2
    generalize xit (fun i a => xfu a (N + i) (l.getD i q20).2) l.length (q.2 3) = A3
    generalize ((N + l.length : Nat) : Int) = Y
    generalize (l.length : Int) = L at *
    simp -implicitDefEqProofs (disch := first | exact isc_R | (simp only [List.map_cons, List.map_nil, List.sum_cons, List.sum_nil, xcat, Nat.reduceAdd, Nat.reduceLeDiff, Nat.zero_le]; done) | omega) only [lX12_gulls_151, k_p_sq, k_p_blk, k_sq0, k_sq11, k_sq12, k_sq13, k_sq14, k_sq15, k_sqr, k_sqi, k_blk0, k_blk1, k_blk2, k_blk3, k_blk4, k_blk5, k_blkr, k_blki, k_finr, k_fini, k_mapi, k_bindi, k_if1, k_if2, k_ops, k_br, k_rv, k_ri, k_rl, k_rz, k_rzi, k_01d, k_sw, k_01a, k_01b, k_01c, k_ifn, x_cmp, decide_eq_true_eq, Option.map_some, Option.bind_some, Option.toList_some, Option.toList_none, List.cons_append, List.nil_append, Nat.reduceAdd, true_or, or_true, Int.reduceNeg, Int.reduceEq, reduceIte, Nat.zero_le, Nat.reduceLeDiff, Nat.le_refl, Nat.reduceEqDiff, List.getElem?_cons_zero, List.getElem?_cons_succ, xst, List.set_cons_zero, List.set_cons_succ, List.map_cons, List.map_nil, List.sum_cons, List.sum_nil, xcat, Nat.reduceMul, Nat.reduceDiv, Nat.reduceMod, Nat.add_zero, e_nil, e_iconst, e_il, e_al, e_ll, e_istore, e_astore, e_lstore, e_ic, e_iadd, e_isub, e_imul, e_iand, e_ior, e_ixor, e_ishl, e_ishr, e_ineg, e_dupi, e_dupr, e_dupx, e_dup2, e_popi, er_g0, er_g1, er_g2, er_g3, er_g4, er_g5, er_g6, er_g7, er_g8, er_g9, er_g10, er_g11, er_g12, er_g13, er_g14, er_g15, er_g16, er_g17, er_g18, er_g19, er_g20, er_g21, er_g22, er_g23, er_g24, er_g25, er_g26, er_g27, er_g28, er_g29, er_g30, er_g31, er_g32, er_g33, er_g34, er_g35, er_g36, er_g37, er_g38, er_g39, er_g40, er_g41, er_g42, er_g43, er_g44, er_g45, er_g46, er_g47, er_s1, er_s2, er_s5, er_s6, er_s8, er_s10, er_s11, er_s13, er_s14, er_s15, er_s16, er_s20, er_s23, er_s24, er_s25, er_s28, er_s30, er_s31, er_s32, er_s33, er_s42, er_s43, er_s44, er_s21a, er_s21b, er_s12a, er_s12b, isc_R, hle]
  · have e1 : xit (fun i a => tG1 (N + i) (l.getD i q20) a) (i + 1) (q.2 1) = tG1 (N + i) (l.getD i q20) (xit (fun i a => tG1 (N + i) (l.getD i q20) a) i (q.2 1)) := rfl
    have e2 : xit (fun i a => xfu a (N + i) (l.getD i q20).1) (i + 1) (q.2 2) = xfu (xit (fun i a => xfu a (N + i) (l.getD i q20).1) i (q.2 2)) (N + i) (l.getD i q20).1 := rfl
    have e3 : xit (fun i a => xfu a (N + i) (l.getD i q20).2) (i + 1) (q.2 3) = xfu (xit (fun i a => xfu a (N + i) (l.getD i q20).2) i (q.2 3)) (N + i) (l.getD i q20).2 := rfl
    rw [e1, e2, e3]
    clear e1 e2 e3
    generalize xit (fun i a => tG1 (N + i) (l.getD i q20) a) i (q.2 1) = A
    generalize xit (fun i a => xfu a (N + i) (l.getD i q20).1) i (q.2 2) = A2
    generalize xit (fun i a => xfu a (N + i) (l.getD i q20).2) i (q.2 3) = A3
    obtain ⟨t1, t2⟩ := hF i hi
    have t6 := h6 i hi
    generalize l.getD i q20 = Q at *
    clear hF h6
    have hBi : N + i < 8 := by omega
    have hi2 : ¬ (l.length : Int) ≤ (i : Int) := by omega
    have i6 : i < 8 := by omega
    generalize (l.length : Int) = L at *
    clear hl hi hb
    rw [show ((N + (i + 1) : Nat) : Int) = ((N + i : Nat) : Int) + 1 by omega]
    generalize N + i = X at *
    have hv : q.2 7 ((2 * i : Nat) : Int).toNat = Q.1 := by rw [hq, Int.toNat_natCast]; exact t1
    have f := r_gl151 (n := n) (h := h) (q := q) (A := A) (H := A2) (P := A3) (j := j) (X := (X : Int)) (i := (i : Int)) (L := L) (p0 := ((36 + X : Nat) : Int)) (p1 := ((44 + X : Nat) : Int)) (p2 := ((52 + X : Nat) : Int)) (p3 := ((60 + X : Nat) : Int)) (p4 := ((68 + X : Nat) : Int)) (p5 := ((76 + X : Nat) : Int)) (X1 := (X : Int) + 1) (z0 := ((2 * i : Nat) : Int)) (z1 := ((2 * i + 1 : Nat) : Int)) (i1 := ((i + 1 : Nat) : Int)) (v := Q.1) (u := ((24 + Q.1.toNat : Nat) : Int)) hi2
      (by rw [xw_id (by omega) (by omega)]; omega) (by rw [xw_id (by omega) (by omega)]; omega) (by rw [xw_id (by omega) (by omega)]; omega) (by rw [xw_id (by omega) (by omega)]; omega) (by rw [xw_id (by omega) (by omega)]; omega) (by rw [xw_id (by omega) (by omega)]; omega) (xw_id (by omega) (by omega))
      (by rw [xw_id (by omega) (by omega)]; omega) (by rw [xw_id (by omega) (by omega)]; omega) (by rw [xw_id (by omega) (by omega)]; omega) hv (by rw [xw_id (by omega) (by omega)]; omega)
      (by omega) (by omega) (by omega) (by omega) (by omega) (by omega) (by omega) (by omega) (by omega) (by omega) (by omega) (by omega) (by omega) (by omega) (by omega) (by omega) (by omega) (by omega) (by omega) (by omega)
    simp only [Int.toNat_natCast] at f
    rw [hq, t2] at f
    exact f
end GL
