/-! ===== train ===== -/
theorem kPow_rng {p : Int} (h0 : 0 ≤ p) (h1 : p ≤ 10) {k : Nat} (hk : k ≤ 8) : 0 ≤ kPow (xw (10 - p)) k ∧ kPow (xw (10 - p)) k ≤ kPow 10 k ∧ 0 < kPow 10 k ∧ kPow 10 k ≤ 100000000 := by
  have h : ∀ p : Fin 11, ∀ k : Fin 9, 0 ≤ kPow (xw (10 - ((p.1 : Nat) : Int))) k.1 ∧ kPow (xw (10 - ((p.1 : Nat) : Int))) k.1 ≤ kPow 10 k.1 ∧ 0 < kPow 10 k.1 ∧ kPow 10 k.1 ≤ 100000000 := by decide +kernel
  have := h ⟨p.toNat, by omega⟩ ⟨k, by omega⟩
  rw [show (((⟨p.toNat, by omega⟩ : Fin 11).1 : Nat) : Int) = p from by show ((p.toNat : Nat) : Int) = p; omega] at this
  exact this
theorem kCh_rng {p : Int} (h0 : 0 ≤ p) (h1 : p ≤ 10) {k : Nat} (hk : k ≤ 8) {ch : Int} (c0 : 0 ≤ ch) (c1 : ch ≤ 10000) : 0 ≤ kCh p ch k ∧ kCh p ch k ≤ 10000 := by
  obtain ⟨p0, p1, p2, p3⟩ := kPow_rng h0 h1 hk
  unfold kCh
  generalize kPow (xw (10 - p)) k = D at p0 p1
  generalize kPow 10 k = A at p1 p2 p3
  rw [xlw_id (n := A - D) (by omega) (by omega)]
  have m0 : 0 ≤ ch * (A - D) := Int.mul_nonneg c0 (by omega)
  have m1 : ch * (A - D) ≤ 10000 * A := Int.mul_le_mul c1 (by omega) (by omega) (by omega)
  rw [xlw_id (n := ch * (A - D)) (by omega) (by omega)]
  generalize ch * (A - D) = X at m0 m1
  have e : X.tdiv A = X / A := Int.tdiv_eq_ediv_of_nonneg m0
  have d0 : 0 ≤ X / A := Int.ediv_nonneg m0 (by omega)
  have d1 : X / A ≤ 10000 := Int.ediv_le_of_le_mul p2 m1
  rw [e, xlw_id (by omega) (by omega)]
  exact ⟨d0, d1⟩
theorem kGo_pos {B : Nat} {p : Int} (h0 : 0 ≤ p) (h1 : p ≤ 10) : ∀ (d b left : Nat) (ch : Int) (s : xTr), 0 ≤ ch → ch ≤ 10000 → left ≤ 8 → (left = 0 ∨ 0 < d) → 0 ≤ (kGo B p d b left ch s).1
  | 0, b, left, ch, s, c0, c1, hl, hd => by
    unfold kGo
    split
    · rename_i c
      omega
    · exact c0
  | d + 1, b, left, ch, s, c0, c1, hl, hd => by
    unfold kGo
    show 0 ≤ (kGo B p d (b + 1) (left - left) (kCh p ch left) _).1
    obtain ⟨k0, k1⟩ := kCh_rng h0 h1 hl c0 c1
    exact kGo_pos h0 h1 d (b + 1) (left - left) (kCh p ch left) _ k0 k1 (by omega) (Or.inl (by omega))
section TS
variable {n : Nat} {h : xH} {r : xR}
set_option maxHeartbeats 200000 in
theorem r_trainL {w : xR} {t : Nat → Int} {B : Nat} (hB6 : B ≤ 6) (w1 : w.1 1 = (B : Int)) (w17 : w.2 17 = t) {m p : Int} : p_lop (lX12_train_58 (gg (n + 8))) ([.inr (.inr (.inl (1, 0))), .inl m, .inl p, .inl 0], [], hR h (rTell w [])) = some (.inl 1, ([.inr (.inr (.inl (1, 0))), .inl m, .inl p, .inl (B : Int)], [], hR h (rTell w ((List.range B).map t)))) := by
  refine k_for (fun i => ([.inr (.inr (.inl (1, 0))), .inl m, .inl p, .inl (i : Int)], [], hR h (rTell w ((List.range i).map t)))) B rfl ?_ (fun i hi => ?_)
  · have g1 : (rTell w ((List.range B).map t)).1 1 = (B : Int) := by rw [rTell_1 _ _ (by decide), w1]
    generalize (List.range B).map t = vs at g1
    simp -implicitDefEqProofs (disch := first | exact isc_R | (simp only [List.map_cons, List.map_nil, List.sum_cons, List.sum_nil, xcat, Nat.reduceAdd, Nat.reduceLeDiff, Nat.zero_le]; done) | omega) only [lX12_train_58, k_p_sq, k_p_blk, k_sq0, k_sq11, k_sq12, k_sq13, k_sq14, k_sq15, k_sqr, k_sqi, k_blk0, k_blk1, k_blk2, k_blk3, k_blk4, k_blk5, k_blkr, k_blki, k_finr, k_fini, k_mapi, k_bindi, k_if1, k_if2, k_ops, k_br, k_rv, k_ri, k_rl, k_rz, k_rzi, k_01d, k_sw, k_01a, k_01b, k_01c, k_ifn, x_cmp, decide_eq_true_eq, Option.map_some, Option.bind_some, Option.toList_some, Option.toList_none, List.cons_append, List.nil_append, Nat.reduceAdd, true_or, or_true, Int.reduceNeg, Int.reduceEq, reduceIte, Nat.zero_le, Nat.reduceLeDiff, Nat.le_refl, Nat.reduceEqDiff, List.getElem?_cons_zero, List.getElem?_cons_succ, xst, List.set_cons_zero, List.set_cons_succ, List.map_cons, List.map_nil, List.sum_cons, List.sum_nil, xcat, Nat.reduceMul, Nat.reduceDiv, Nat.reduceMod, Nat.add_zero, e_nil, e_iconst, e_il, e_al, e_ll, e_istore, e_astore, e_lstore, e_ic, e_iadd, e_isub, e_imul, e_iand, e_ior, e_ixor, e_ishl, e_ishr, e_ineg, e_dupi, e_dupr, e_dupx, e_dup2, e_popi, er_g0, er_g1, er_g2, er_g3, er_g4, er_g5, er_g6, er_g7, er_g8, er_g9, er_g10, er_g11, er_g12, er_g13, er_g14, er_g15, er_g16, er_g17, er_g18, er_g19, er_g20, er_g21, er_g22, er_g23, er_g24, er_g25, er_g26, er_g27, er_g28, er_g29, er_g30, er_g31, er_g32, er_g33, er_g34, er_g35, er_g36, er_g37, er_g38, er_g39, er_g40, er_g41, er_g42, er_g43, er_g44, er_g45, er_g46, er_g47, er_s1, er_s2, er_s5, er_s6, er_s8, er_s10, er_s11, er_s13, er_s14, er_s15, er_s16, er_s20, er_s23, er_s24, er_s25, er_s28, er_s30, er_s31, er_s32, er_s33, er_s42, er_s43, er_s44, er_s21a, er_s21b, er_s12a, er_s12b, isc_R, g1, Int.le_refl]
  · rw [map_succ]
    have hlen : ((List.range i).map t).length < 16 := by rw [List.length_map, List.length_range]; omega
    generalize ((List.range i).map t) = vs at hlen
    have g1 : (rTell w vs).1 1 = (B : Int) := by rw [rTell_1 _ _ (by decide), w1]
    have g17 : (rTell w vs).2 17 = t := by rw [rTell_2 _ _ (by decide), w17]
    have g4 := r_tellN (n := n + 7) (h := h) (r := w) (t i) hlen
    have hk2 : ¬ (B : Int) ≤ (i : Int) := by omega
    have hi6 : i < 6 := by omega
    have x1 : xw ((i : Int) + 1) = (i : Int) + 1 := xw_id (by omega) (by omega)
    generalize rTell w vs = z at g1 g17 g4
    generalize rTell w (vs ++ [t i]) = z2 at g4
    clear hlen w1 w17
    simp -implicitDefEqProofs (disch := first | exact isc_R | (simp only [List.map_cons, List.map_nil, List.sum_cons, List.sum_nil, xcat, Nat.reduceAdd, Nat.reduceLeDiff, Nat.zero_le]; done) | omega) only [lX12_train_58, k_p_sq, k_p_blk, k_sq0, k_sq11, k_sq12, k_sq13, k_sq14, k_sq15, k_sqr, k_sqi, k_blk0, k_blk1, k_blk2, k_blk3, k_blk4, k_blk5, k_blkr, k_blki, k_finr, k_fini, k_mapi, k_bindi, k_if1, k_if2, k_ops, k_br, k_rv, k_ri, k_rl, k_rz, k_rzi, k_01d, k_sw, k_01a, k_01b, k_01c, k_ifn, x_cmp, decide_eq_true_eq, Option.map_some, Option.bind_some, Option.toList_some, Option.toList_none, List.cons_append, List.nil_append, Nat.reduceAdd, true_or, or_true, Int.reduceNeg, Int.reduceEq, reduceIte, Nat.zero_le, Nat.reduceLeDiff, Nat.le_refl, Nat.reduceEqDiff, List.getElem?_cons_zero, List.getElem?_cons_succ, xst, List.set_cons_zero, List.set_cons_succ, List.map_cons, List.map_nil, List.sum_cons, List.sum_nil, xcat, Nat.reduceMul, Nat.reduceDiv, Nat.reduceMod, Nat.add_zero, e_nil, e_iconst, e_il, e_al, e_ll, e_istore, e_astore, e_lstore, e_ic, e_iadd, e_isub, e_imul, e_iand, e_ior, e_ixor, e_ishl, e_ishr, e_ineg, e_dupi, e_dupr, e_dupx, e_dup2, e_popi, er_g0, er_g1, er_g2, er_g3, er_g4, er_g5, er_g6, er_g7, er_g8, er_g9, er_g10, er_g11, er_g12, er_g13, er_g14, er_g15, er_g16, er_g17, er_g18, er_g19, er_g20, er_g21, er_g22, er_g23, er_g24, er_g25, er_g26, er_g27, er_g28, er_g29, er_g30, er_g31, er_g32, er_g33, er_g34, er_g35, er_g36, er_g37, er_g38, er_g39, er_g40, er_g41, er_g42, er_g43, er_g44, er_g45, er_g46, er_g47, er_s1, er_s2, er_s5, er_s6, er_s8, er_s10, er_s11, er_s13, er_s14, er_s15, er_s16, er_s20, er_s23, er_s24, er_s25, er_s28, er_s30, er_s31, er_s32, er_s33, er_s42, er_s43, er_s44, er_s21a, er_s21b, er_s12a, er_s12b, isc_R, g1, hk2, er_r17, Int.reduceNeg, Int.reduceToNat, Int.toNat_natCast, Int.toNat_add_nat, g17, ec174, g4, x1, e_iinc, Int.natCast_add, Int.cast_ofNat_Int]
set_option maxHeartbeats 400000 in
theorem R_train (hr : rOk r) (m p : Int) : ∃ r', (gg (n + 9) 267).2 [.inr (.inr (.inl (1, 0))), .inl m, .inl p] (hR h r) = some (some (.inl (sTrain r m p).1), hR h r') ∧ rC r' = rC (sTrain r m p).2 := by
  unfold sTrain
  by_cases c1 : 1 ≤ m ∧ m ≤ 8
  · by_cases c2 : 0 ≤ p ∧ p ≤ 10
    · by_cases c3 : r.1 1 = 0
      · rw [if_neg (fun z => z.2.2 c3)]
        refine ⟨_, ?_, rfl⟩
        rw [gr267]
        clear hr
        simp -implicitDefEqProofs (disch := first | exact isc_R | (simp only [List.map_cons, List.map_nil, List.sum_cons, List.sum_nil, xcat, Nat.reduceAdd, Nat.reduceLeDiff, Nat.zero_le]; done) | omega) only [fX12_train, k_p_sq, k_p_blk, k_sq0, k_sq11, k_sq12, k_sq13, k_sq14, k_sq15, k_sqr, k_sqi, k_blk0, k_blk1, k_blk2, k_blk3, k_blk4, k_blk5, k_blkr, k_blki, k_finr, k_fini, k_mapi, k_bindi, k_if1, k_if2, k_ops, k_br, k_rv, k_ri, k_rl, k_rz, k_rzi, k_01d, k_sw, k_01a, k_01b, k_01c, k_ifn, x_cmp, decide_eq_true_eq, Option.map_some, Option.bind_some, Option.toList_some, Option.toList_none, List.cons_append, List.nil_append, Nat.reduceAdd, true_or, or_true, Int.reduceNeg, Int.reduceEq, reduceIte, Nat.zero_le, Nat.reduceLeDiff, Nat.le_refl, Nat.reduceEqDiff, List.getElem?_cons_zero, List.getElem?_cons_succ, xst, List.set_cons_zero, List.set_cons_succ, List.map_cons, List.map_nil, List.sum_cons, List.sum_nil, xcat, Nat.reduceMul, Nat.reduceDiv, Nat.reduceMod, Nat.add_zero, e_nil, e_iconst, e_il, e_al, e_ll, e_istore, e_astore, e_lstore, e_ic, e_iadd, e_isub, e_imul, e_iand, e_ior, e_ixor, e_ishl, e_ishr, e_ineg, e_dupi, e_dupr, e_dupx, e_dup2, e_popi, er_g0, er_g1, er_g2, er_g3, er_g4, er_g5, er_g6, er_g7, er_g8, er_g9, er_g10, er_g11, er_g12, er_g13, er_g14, er_g15, er_g16, er_g17, er_g18, er_g19, er_g20, er_g21, er_g22, er_g23, er_g24, er_g25, er_g26, er_g27, er_g28, er_g29, er_g30, er_g31, er_g32, er_g33, er_g34, er_g35, er_g36, er_g37, er_g38, er_g39, er_g40, er_g41, er_g42, er_g43, er_g44, er_g45, er_g46, er_g47, er_s1, er_s2, er_s5, er_s6, er_s8, er_s10, er_s11, er_s13, er_s14, er_s15, er_s16, er_s20, er_s23, er_s24, er_s25, er_s28, er_s30, er_s31, er_s32, er_s33, er_s42, er_s43, er_s44, er_s21a, er_s21b, er_s12a, er_s12b, isc_R, ec171, r_in, c1, c2, true_and, false_and, or_self, or_true, true_or, or_false, false_or, and_true, and_false, and_self, not_true_eq_false, not_false_eq_true, xr_i_g, Nat.reduceEqDiff, c3, Int.reduceEq]
      · rw [if_pos ⟨c1, c2, c3⟩]
        dsimp only
        have hB6 := rOk_B hr
        have hB : r.1 1 = (kB (rK r) : Int) := by have := hr.1.1; show r.1 1 = ((r.1 1).toNat : Int); omega
        clear hr
        generalize kB (rK r) = B at hB hB6
        have hBq : (xr_i r 11 0).1 1 = (B : Int) := hB
        have c3q : ¬ (xr_i r 11 0).1 1 = 0 := c3
        have hmn : ((m.toNat : Nat) : Int) = m := by omega
        generalize hq : xr_i r 11 0 = q at hBq c3q
        have f1 := r_goTrain (n := n + 6 - B) (h := h) (q := q) hB6 hBq (p := p) B 0 m.toNat 10000 (-1, q.2 16, q.2 17) (by omega) (by omega)
        rw [show n + 6 - B + 2 + B = n + 8 from by omega, hmn, rE_self] at f1
        have f1 : (gg (n + 8) 266).2 [.inr (.inr (.inl (1, 0))), .inl 0, .inl m, .inl p, .inr (.inl 10000)] (hR h (xr_i q 39 (-1))) = some (none, hR h (rE q (kGo B p B 0 m.toNat 10000 (-1, q.2 16, q.2 17)))) := f1
        obtain ⟨_, e1, e2⟩ := kGo_eq (B := B) (p := p) B 0 m.toNat 10000 (-1, q.2 16, q.2 17) (-1, fun _ => 0, fun _ => 0) (by omega) (fun i hi => by omega) rfl (Or.inl rfl)
        have e3 := kGo_pos (B := B) c2.1 c2.2 B 0 m.toNat 10000 (-1, q.2 16, q.2 17) (by omega) (by omega) (by omega) (Or.inr (by omega))
        generalize kGo B p B 0 m.toNat 10000 (-1, q.2 16, q.2 17) = S at f1 e1 e2 e3
        generalize kGo B p B 0 m.toNat 10000 (-1, fun _ => 0, fun _ => 0) = S' at e1 e2
        have e2 : ∀ i, i < B → S.2.2 i = S'.2.2 i := by
          rcases e2 with z | z
          · omega
          · exact z
        have e4 : ((List.range B).map fun b => S'.2.2 b) = (List.range B).map fun b => S.2.2 b := List.map_congr_left fun i hi => (e2 i (List.mem_range.1 hi)).symm
        rw [← e1, e4]
        have w1 : (rE q S).1 1 = (B : Int) := by rw [rE_1, hBq]
        have w39 : (rE q S).1 39 = S.1 := rE_39
        have w17 : (rE q S).2 17 = S.2.2 := rE_17
        have wC : rC (rE q S) = rC q := rE_c
        generalize rE q S = w at f1 w1 w39 w17 wC
        have key := r_trainL (n := n) (h := h) hB6 w1 w17 (m := m) (p := p)
        have key : p_lop (lX12_train_58 (gg (n + 8))) ([.inr (.inr (.inl (1, 0))), .inl m, .inl p, .inl 0], [], hR h (rTell w [])) = some (.inl 1, ([.inr (.inr (.inl (1, 0))), .inl m, .inl p, .inl (B : Int)], [], hR h (rTell w ((List.range B).map fun b => S.2.2 b)))) := key
        refine ⟨rTell w ((List.range B).map fun b => S.2.2 b), ?_, by rw [rC_tell, rC_tell, wC]⟩
        have g39 : (rTell w ((List.range B).map fun b => S.2.2 b)).1 39 = S.1 := by rw [rTell_1 _ _ (by decide), w39]
        generalize rTell w ((List.range B).map fun b => S.2.2 b) = z at key g39
        rw [gr267]
        clear e2 e3 e4
        simp -implicitDefEqProofs (disch := first | exact isc_R | (simp only [List.map_cons, List.map_nil, List.sum_cons, List.sum_nil, xcat, Nat.reduceAdd, Nat.reduceLeDiff, Nat.zero_le]; done) | omega) only [fX12_train, k_p_sq, k_p_blk, k_sq0, k_sq11, k_sq12, k_sq13, k_sq14, k_sq15, k_sqr, k_sqi, k_blk0, k_blk1, k_blk2, k_blk3, k_blk4, k_blk5, k_blkr, k_blki, k_finr, k_fini, k_mapi, k_bindi, k_if1, k_if2, k_ops, k_br, k_rv, k_ri, k_rl, k_rz, k_rzi, k_01d, k_sw, k_01a, k_01b, k_01c, k_ifn, x_cmp, decide_eq_true_eq, Option.map_some, Option.bind_some, Option.toList_some, Option.toList_none, List.cons_append, List.nil_append, Nat.reduceAdd, true_or, or_true, Int.reduceNeg, Int.reduceEq, reduceIte, Nat.zero_le, Nat.reduceLeDiff, Nat.le_refl, Nat.reduceEqDiff, List.getElem?_cons_zero, List.getElem?_cons_succ, xst, List.set_cons_zero, List.set_cons_succ, List.map_cons, List.map_nil, List.sum_cons, List.sum_nil, xcat, Nat.reduceMul, Nat.reduceDiv, Nat.reduceMod, Nat.add_zero, e_nil, e_iconst, e_il, e_al, e_ll, e_istore, e_astore, e_lstore, e_ic, e_iadd, e_isub, e_imul, e_iand, e_ior, e_ixor, e_ishl, e_ishr, e_ineg, e_dupi, e_dupr, e_dupx, e_dup2, e_popi, er_g0, er_g1, er_g2, er_g3, er_g4, er_g5, er_g6, er_g7, er_g8, er_g9, er_g10, er_g11, er_g12, er_g13, er_g14, er_g15, er_g16, er_g17, er_g18, er_g19, er_g20, er_g21, er_g22, er_g23, er_g24, er_g25, er_g26, er_g27, er_g28, er_g29, er_g30, er_g31, er_g32, er_g33, er_g34, er_g35, er_g36, er_g37, er_g38, er_g39, er_g40, er_g41, er_g42, er_g43, er_g44, er_g45, er_g46, er_g47, er_s1, er_s2, er_s5, er_s6, er_s8, er_s10, er_s11, er_s13, er_s14, er_s15, er_s16, er_s20, er_s23, er_s24, er_s25, er_s28, er_s30, er_s31, er_s32, er_s33, er_s42, er_s43, er_s44, er_s21a, er_s21b, er_s12a, er_s12b, isc_R, hq, ec171, r_in, c1, c2, true_and, false_and, or_self, or_true, true_or, or_false, false_or, and_true, and_false, and_self, not_true_eq_false, not_false_eq_true, c3q, e_lconst, er_s39, ec266, f1, rTell_0, key, er_g39, g39, e_l2i, Int.reduceEq]
    · rw [if_neg (fun z => c2 z.2.1)]
      refine ⟨_, ?_, rfl⟩
      rw [gr267]
      clear hr
      simp -implicitDefEqProofs (disch := first | exact isc_R | (simp only [List.map_cons, List.map_nil, List.sum_cons, List.sum_nil, xcat, Nat.reduceAdd, Nat.reduceLeDiff, Nat.zero_le]; done) | omega) only [fX12_train, k_p_sq, k_p_blk, k_sq0, k_sq11, k_sq12, k_sq13, k_sq14, k_sq15, k_sqr, k_sqi, k_blk0, k_blk1, k_blk2, k_blk3, k_blk4, k_blk5, k_blkr, k_blki, k_finr, k_fini, k_mapi, k_bindi, k_if1, k_if2, k_ops, k_br, k_rv, k_ri, k_rl, k_rz, k_rzi, k_01d, k_sw, k_01a, k_01b, k_01c, k_ifn, x_cmp, decide_eq_true_eq, Option.map_some, Option.bind_some, Option.toList_some, Option.toList_none, List.cons_append, List.nil_append, Nat.reduceAdd, true_or, or_true, Int.reduceNeg, Int.reduceEq, reduceIte, Nat.zero_le, Nat.reduceLeDiff, Nat.le_refl, Nat.reduceEqDiff, List.getElem?_cons_zero, List.getElem?_cons_succ, xst, List.set_cons_zero, List.set_cons_succ, List.map_cons, List.map_nil, List.sum_cons, List.sum_nil, xcat, Nat.reduceMul, Nat.reduceDiv, Nat.reduceMod, Nat.add_zero, e_nil, e_iconst, e_il, e_al, e_ll, e_istore, e_astore, e_lstore, e_ic, e_iadd, e_isub, e_imul, e_iand, e_ior, e_ixor, e_ishl, e_ishr, e_ineg, e_dupi, e_dupr, e_dupx, e_dup2, e_popi, er_g0, er_g1, er_g2, er_g3, er_g4, er_g5, er_g6, er_g7, er_g8, er_g9, er_g10, er_g11, er_g12, er_g13, er_g14, er_g15, er_g16, er_g17, er_g18, er_g19, er_g20, er_g21, er_g22, er_g23, er_g24, er_g25, er_g26, er_g27, er_g28, er_g29, er_g30, er_g31, er_g32, er_g33, er_g34, er_g35, er_g36, er_g37, er_g38, er_g39, er_g40, er_g41, er_g42, er_g43, er_g44, er_g45, er_g46, er_g47, er_s1, er_s2, er_s5, er_s6, er_s8, er_s10, er_s11, er_s13, er_s14, er_s15, er_s16, er_s20, er_s23, er_s24, er_s25, er_s28, er_s30, er_s31, er_s32, er_s33, er_s42, er_s43, er_s44, er_s21a, er_s21b, er_s12a, er_s12b, isc_R, ec171, r_in, c1, c2, true_and, false_and, or_self, or_true, true_or, or_false, false_or, and_true, and_false, and_self, not_true_eq_false, not_false_eq_true, Int.reduceEq]
  · rw [if_neg (fun z => c1 z.1)]
    refine ⟨_, ?_, rfl⟩
    rw [gr267]
    clear hr
    simp -implicitDefEqProofs (disch := first | exact isc_R | (simp only [List.map_cons, List.map_nil, List.sum_cons, List.sum_nil, xcat, Nat.reduceAdd, Nat.reduceLeDiff, Nat.zero_le]; done) | omega) only [fX12_train, k_p_sq, k_p_blk, k_sq0, k_sq11, k_sq12, k_sq13, k_sq14, k_sq15, k_sqr, k_sqi, k_blk0, k_blk1, k_blk2, k_blk3, k_blk4, k_blk5, k_blkr, k_blki, k_finr, k_fini, k_mapi, k_bindi, k_if1, k_if2, k_ops, k_br, k_rv, k_ri, k_rl, k_rz, k_rzi, k_01d, k_sw, k_01a, k_01b, k_01c, k_ifn, x_cmp, decide_eq_true_eq, Option.map_some, Option.bind_some, Option.toList_some, Option.toList_none, List.cons_append, List.nil_append, Nat.reduceAdd, true_or, or_true, Int.reduceNeg, Int.reduceEq, reduceIte, Nat.zero_le, Nat.reduceLeDiff, Nat.le_refl, Nat.reduceEqDiff, List.getElem?_cons_zero, List.getElem?_cons_succ, xst, List.set_cons_zero, List.set_cons_succ, List.map_cons, List.map_nil, List.sum_cons, List.sum_nil, xcat, Nat.reduceMul, Nat.reduceDiv, Nat.reduceMod, Nat.add_zero, e_nil, e_iconst, e_il, e_al, e_ll, e_istore, e_astore, e_lstore, e_ic, e_iadd, e_isub, e_imul, e_iand, e_ior, e_ixor, e_ishl, e_ishr, e_ineg, e_dupi, e_dupr, e_dupx, e_dup2, e_popi, er_g0, er_g1, er_g2, er_g3, er_g4, er_g5, er_g6, er_g7, er_g8, er_g9, er_g10, er_g11, er_g12, er_g13, er_g14, er_g15, er_g16, er_g17, er_g18, er_g19, er_g20, er_g21, er_g22, er_g23, er_g24, er_g25, er_g26, er_g27, er_g28, er_g29, er_g30, er_g31, er_g32, er_g33, er_g34, er_g35, er_g36, er_g37, er_g38, er_g39, er_g40, er_g41, er_g42, er_g43, er_g44, er_g45, er_g46, er_g47, er_s1, er_s2, er_s5, er_s6, er_s8, er_s10, er_s11, er_s13, er_s14, er_s15, er_s16, er_s20, er_s23, er_s24, er_s25, er_s28, er_s30, er_s31, er_s32, er_s33, er_s42, er_s43, er_s44, er_s21a, er_s21b, er_s12a, er_s12b, isc_R, ec171, r_in, c1, true_and, false_and, or_self, or_true, true_or, or_false, false_or, and_true, and_false, and_self, not_true_eq_false, not_false_eq_true, Int.reduceEq]
end TS
