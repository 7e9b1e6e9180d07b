/-! ===== half hours to come ===== -/
/-- when a gull comes (from the t-th half hour on), and where -/
def kCome (k : xKx) (g : Nat) : Nat → Nat → xFl → Int × Int
  | 0, _, _ => (-2, 0)
  | m + 1, t, F => if F.1 (68 + g) = 1 then (if xand (xshr (kHalf k F).2.1 g) 1 = 1 then ((t : Int), (kHalf k F).2.2.2.2 g) else kCome k g m (t + 1) (kHalf k F)) else (-2, 0)
theorem kCome_eq {B N M : Nat} {k : xKx} {g : Nat} (hB : B ≤ 6) (hN : N ≤ 8) (hM : M ≤ 10) (hk : kB k ≤ B) (hk2 : kN k ≤ N) (hh : ∀ g, g < N → (0 ≤ kHome k g ∧ kHome k g < B)) (hg : g < N) : ∀ (m t : Nat) {F F' : xFl}, kBe M N F.1 → kEq B N M F.1 F'.1 → kCome k g m t F = kCome k g m t F'
  | 0, _, _, _, _, _ => rfl
  | m + 1, t, F, F', hl, e => by
    obtain ⟨i0, i1, q1, q2, q3, s, hs, q4, q5⟩ := kHalf_c hB hN hM hk hk2 hh hl e
    have ih := kCome_eq hB hN hM hk hk2 hh hg m (t + 1) i0 i1
    have x68 : F.1 (68 + g) = F'.1 (68 + g) := kEq_g hN e (c := 4) hg (by decide)
    unfold kCome
    rw [x68, ih, ← q1, q4]
    by_cases c : xand (xshr (s : Int) g) 1 = 1
    · rw [if_pos c, if_pos c, q5 g ((xbit_n (by omega) (by omega)).1 c)]
    · rw [if_neg c, if_neg c]
section TH
variable {n : Nat} {h : xH} {r : xR} {H : xH} {j : Nat} {F : xFl} {J : xR}
theorem rW_14c (r : xR) (F : xFl) (J : xR) : rC (rW r 14 F J) = rC r := rC_Ws (Or.inr rfl) r F J
set_option maxHeartbeats 400000 in
theorem r_comesL {g : Nat} (hg : g < 8) (hr : rOk r) : ∀ (m t : Nat) (F : xFl) (J : xR), t + m = 61 → 1 ≤ t → kBear (kN (rK r)) F.1 → ∃ (r' : xR) (L' : List xV),
    (p_lop (lX12_comesThen_2 (gg (n + 823))) ([.inr (.inr (.inl (1, 0))), .inl (g : Int), .inl (t : Int)], [], hR h (rW r 14 F J)) = some (.inl 1, (L', [], hR h r')) ∧ (kCome (rK r) g m t F).1 = -2 ∧ rC r' = rC r) ∨
    (p_lop (lX12_comesThen_2 (gg (n + 823))) ([.inr (.inr (.inl (1, 0))), .inl (g : Int), .inl (t : Int)], [], hR h (rW r 14 F J)) = some (.inr (some (.inl (kCome (rK r) g m t F).1)), (L', [], hR h r')) ∧ 0 < (kCome (rK r) g m t F).1 ∧ rC r' = rTell (rC r) [(kCome (rK r) g m t F).2])
  | 0, t, F, J, hm, ht, hl => by
    refine ⟨rW r 14 F J, [.inr (.inr (.inl (1, 0))), .inl (g : Int), .inl (t : Int)], Or.inl ⟨k_l2 (k := 0) ?_, rfl, rW_14c r F J⟩⟩
    have c1 : (60 : Int) < (t : Int) := by omega
    clear hl hr
    simp -implicitDefEqProofs (disch := first | exact isc_R | (simp only [List.map_cons, List.map_nil, List.sum_cons, List.sum_nil, xcat, Nat.reduceAdd, Nat.reduceLeDiff, Nat.zero_le]; done) | omega) only [lX12_comesThen_2, k_p_sq, k_p_blk, k_sq0, k_sq11, k_sq12, k_sq13, k_sq14, k_sq15, k_sqr, k_sqi, k_blk0, k_blk1, k_blk2, k_blk3, k_blk4, k_blk5, k_blkr, k_blki, k_finr, k_fini, k_mapi, k_bindi, k_if1, k_if2, k_ops, k_br, k_rv, k_ri, k_rl, k_rz, k_rzi, k_01d, k_sw, k_01a, k_01b, k_01c, k_ifn, x_cmp, decide_eq_true_eq, Option.map_some, Option.bind_some, Option.toList_some, Option.toList_none, List.cons_append, List.nil_append, Nat.reduceAdd, true_or, or_true, Int.reduceNeg, Int.reduceEq, reduceIte, Nat.zero_le, Nat.reduceLeDiff, Nat.le_refl, Nat.reduceEqDiff, List.getElem?_cons_zero, List.getElem?_cons_succ, xst, List.set_cons_zero, List.set_cons_succ, List.map_cons, List.map_nil, List.sum_cons, List.sum_nil, xcat, Nat.reduceMul, Nat.reduceDiv, Nat.reduceMod, Nat.add_zero, e_nil, e_iconst, e_il, e_al, e_ll, e_istore, e_astore, e_lstore, e_ic, e_iadd, e_isub, e_imul, e_iand, e_ior, e_ixor, e_ishl, e_ishr, e_ineg, e_dupi, e_dupr, e_dupx, e_dup2, e_popi, er_g0, er_g1, er_g2, er_g3, er_g4, er_g5, er_g6, er_g7, er_g8, er_g9, er_g10, er_g11, er_g12, er_g13, er_g14, er_g15, er_g16, er_g17, er_g18, er_g19, er_g20, er_g21, er_g22, er_g23, er_g24, er_g25, er_g26, er_g27, er_g28, er_g29, er_g30, er_g31, er_g32, er_g33, er_g34, er_g35, er_g36, er_g37, er_g38, er_g39, er_g40, er_g41, er_g42, er_g43, er_g44, er_g45, er_g46, er_g47, er_s1, er_s2, er_s5, er_s6, er_s8, er_s10, er_s11, er_s13, er_s14, er_s15, er_s16, er_s20, er_s23, er_s24, er_s25, er_s28, er_s30, er_s31, er_s32, er_s33, er_s42, er_s43, er_s44, er_s21a, er_s21b, er_s12a, er_s12b, isc_R, c1]
  | m + 1, t, F, J, hm, ht, hl => by
    have c1 : ¬ (60 : Int) < (t : Int) := by omega
    have x68 : xw (68 + (g : Int)) = 68 + (g : Int) := xw_id (by omega) (by omega)
    unfold kCome
    by_cases c2 : F.1 (68 + g) = 1
    · rw [if_pos c2]
      obtain ⟨J2, f2⟩ := r_goHalf (n := n) (h := h) (r := r) (j := 14) (F := F) (J := J) (by decide) hr hl
      have hl2 := kBear_half (F := F) (rOk_B hr) (rOk_N hr) hl
      have ih := r_comesL hg hr m (t + 1) (kHalf (rK r) F) J2 (by omega) (by omega) hl2
      generalize kHalf (rK r) F = F2 at f2 ih
      by_cases c3 : xand (xshr F2.2.1 g) 1 = 1
      · rw [if_pos c3]
        refine ⟨rTell (rW r 14 F2 J2) [F2.2.2.2.2 g], [.inr (.inr (.inl (1, 0))), .inl (g : Int), .inl (t : Int)], Or.inr ⟨k_lr ?_, ?_, ?_⟩⟩
        · have e10 : (rW r 14 F2 J2).2 10 = F2.2.2.2.2 := rW_10 (by decide)
          clear hl hr ih hl2
          simp -implicitDefEqProofs (disch := first | exact isc_R | (simp only [List.map_cons, List.map_nil, List.sum_cons, List.sum_nil, xcat, Nat.reduceAdd, Nat.reduceLeDiff, Nat.zero_le]; done) | omega) only [lX12_comesThen_2, k_p_sq, k_p_blk, k_sq0, k_sq11, k_sq12, k_sq13, k_sq14, k_sq15, k_sqr, k_sqi, k_blk0, k_blk1, k_blk2, k_blk3, k_blk4, k_blk5, k_blkr, k_blki, k_finr, k_fini, k_mapi, k_bindi, k_if1, k_if2, k_ops, k_br, k_rv, k_ri, k_rl, k_rz, k_rzi, k_01d, k_sw, k_01a, k_01b, k_01c, k_ifn, x_cmp, decide_eq_true_eq, Option.map_some, Option.bind_some, Option.toList_some, Option.toList_none, List.cons_append, List.nil_append, Nat.reduceAdd, true_or, or_true, Int.reduceNeg, Int.reduceEq, reduceIte, Nat.zero_le, Nat.reduceLeDiff, Nat.le_refl, Nat.reduceEqDiff, List.getElem?_cons_zero, List.getElem?_cons_succ, xst, List.set_cons_zero, List.set_cons_succ, List.map_cons, List.map_nil, List.sum_cons, List.sum_nil, xcat, Nat.reduceMul, Nat.reduceDiv, Nat.reduceMod, Nat.add_zero, e_nil, e_iconst, e_il, e_al, e_ll, e_istore, e_astore, e_lstore, e_ic, e_iadd, e_isub, e_imul, e_iand, e_ior, e_ixor, e_ishl, e_ishr, e_ineg, e_dupi, e_dupr, e_dupx, e_dup2, e_popi, er_g0, er_g1, er_g2, er_g3, er_g4, er_g5, er_g6, er_g7, er_g8, er_g9, er_g10, er_g11, er_g12, er_g13, er_g14, er_g15, er_g16, er_g17, er_g18, er_g19, er_g20, er_g21, er_g22, er_g23, er_g24, er_g25, er_g26, er_g27, er_g28, er_g29, er_g30, er_g31, er_g32, er_g33, er_g34, er_g35, er_g36, er_g37, er_g38, er_g39, er_g40, er_g41, er_g42, er_g43, er_g44, er_g45, er_g46, er_g47, er_s1, er_s2, er_s5, er_s6, er_s8, er_s10, er_s11, er_s13, er_s14, er_s15, er_s16, er_s20, er_s23, er_s24, er_s25, er_s28, er_s30, er_s31, er_s32, er_s33, er_s42, er_s43, er_s44, er_s21a, er_s21b, er_s12a, er_s12b, isc_R, c1, c2, er_r14, er_r10, x68, Int.reduceNeg, Int.reduceToNat, Int.toNat_natCast, Int.toNat_add_nat, rW_j, ec211, f2, ec172, r_has, rW_23, c3, xr_i_2, e10, ec174, r_tell1, Int.reduceEq]
        · show (0 : Int) < (t : Int)
          omega
        · rw [rC_tell, rW_14c]
      · rw [if_neg c3]
        have e1 : p_lop (lX12_comesThen_2 (gg (n + 823))) ([.inr (.inr (.inl (1, 0))), .inl (g : Int), .inl (t : Int)], [], hR h (rW r 14 F J)) = p_lop (lX12_comesThen_2 (gg (n + 823))) ([.inr (.inr (.inl (1, 0))), .inl (g : Int), .inl ((t + 1 : Nat) : Int)], [], hR h (rW r 14 F2 J2)) := by
          refine k_l1 ?_
          have x1 : xw ((t : Int) + 1) = (t : Int) + 1 := xw_id (by omega) (by omega)
          clear hl hr ih hl2
          simp -implicitDefEqProofs (disch := first | exact isc_R | (simp only [List.map_cons, List.map_nil, List.sum_cons, List.sum_nil, xcat, Nat.reduceAdd, Nat.reduceLeDiff, Nat.zero_le]; done) | omega) only [lX12_comesThen_2, k_p_sq, k_p_blk, k_sq0, k_sq11, k_sq12, k_sq13, k_sq14, k_sq15, k_sqr, k_sqi, k_blk0, k_blk1, k_blk2, k_blk3, k_blk4, k_blk5, k_blkr, k_blki, k_finr, k_fini, k_mapi, k_bindi, k_if1, k_if2, k_ops, k_br, k_rv, k_ri, k_rl, k_rz, k_rzi, k_01d, k_sw, k_01a, k_01b, k_01c, k_ifn, x_cmp, decide_eq_true_eq, Option.map_some, Option.bind_some, Option.toList_some, Option.toList_none, List.cons_append, List.nil_append, Nat.reduceAdd, true_or, or_true, Int.reduceNeg, Int.reduceEq, reduceIte, Nat.zero_le, Nat.reduceLeDiff, Nat.le_refl, Nat.reduceEqDiff, List.getElem?_cons_zero, List.getElem?_cons_succ, xst, List.set_cons_zero, List.set_cons_succ, List.map_cons, List.map_nil, List.sum_cons, List.sum_nil, xcat, Nat.reduceMul, Nat.reduceDiv, Nat.reduceMod, Nat.add_zero, e_nil, e_iconst, e_il, e_al, e_ll, e_istore, e_astore, e_lstore, e_ic, e_iadd, e_isub, e_imul, e_iand, e_ior, e_ixor, e_ishl, e_ishr, e_ineg, e_dupi, e_dupr, e_dupx, e_dup2, e_popi, er_g0, er_g1, er_g2, er_g3, er_g4, er_g5, er_g6, er_g7, er_g8, er_g9, er_g10, er_g11, er_g12, er_g13, er_g14, er_g15, er_g16, er_g17, er_g18, er_g19, er_g20, er_g21, er_g22, er_g23, er_g24, er_g25, er_g26, er_g27, er_g28, er_g29, er_g30, er_g31, er_g32, er_g33, er_g34, er_g35, er_g36, er_g37, er_g38, er_g39, er_g40, er_g41, er_g42, er_g43, er_g44, er_g45, er_g46, er_g47, er_s1, er_s2, er_s5, er_s6, er_s8, er_s10, er_s11, er_s13, er_s14, er_s15, er_s16, er_s20, er_s23, er_s24, er_s25, er_s28, er_s30, er_s31, er_s32, er_s33, er_s42, er_s43, er_s44, er_s21a, er_s21b, er_s12a, er_s12b, isc_R, c1, c2, er_r14, x68, Int.reduceNeg, Int.reduceToNat, Int.toNat_natCast, Int.toNat_add_nat, rW_j, ec211, f2, ec172, r_has, rW_23, c3, Int.reduceEq, x1, e_iinc, Int.natCast_add, Int.cast_ofNat_Int]
        rw [e1]
        exact ih
    · rw [if_neg c2]
      refine ⟨rW r 14 F J, [.inr (.inr (.inl (1, 0))), .inl (g : Int), .inl (t : Int)], Or.inl ⟨k_l2 (k := 0) ?_, rfl, rW_14c r F J⟩⟩
      clear hl hr
      simp -implicitDefEqProofs (disch := first | exact isc_R | (simp only [List.map_cons, List.map_nil, List.sum_cons, List.sum_nil, xcat, Nat.reduceAdd, Nat.reduceLeDiff, Nat.zero_le]; done) | omega) only [lX12_comesThen_2, k_p_sq, k_p_blk, k_sq0, k_sq11, k_sq12, k_sq13, k_sq14, k_sq15, k_sqr, k_sqi, k_blk0, k_blk1, k_blk2, k_blk3, k_blk4, k_blk5, k_blkr, k_blki, k_finr, k_fini, k_mapi, k_bindi, k_if1, k_if2, k_ops, k_br, k_rv, k_ri, k_rl, k_rz, k_rzi, k_01d, k_sw, k_01a, k_01b, k_01c, k_ifn, x_cmp, decide_eq_true_eq, Option.map_some, Option.bind_some, Option.toList_some, Option.toList_none, List.cons_append, List.nil_append, Nat.reduceAdd, true_or, or_true, Int.reduceNeg, Int.reduceEq, reduceIte, Nat.zero_le, Nat.reduceLeDiff, Nat.le_refl, Nat.reduceEqDiff, List.getElem?_cons_zero, List.getElem?_cons_succ, xst, List.set_cons_zero, List.set_cons_succ, List.map_cons, List.map_nil, List.sum_cons, List.sum_nil, xcat, Nat.reduceMul, Nat.reduceDiv, Nat.reduceMod, Nat.add_zero, e_nil, e_iconst, e_il, e_al, e_ll, e_istore, e_astore, e_lstore, e_ic, e_iadd, e_isub, e_imul, e_iand, e_ior, e_ixor, e_ishl, e_ishr, e_ineg, e_dupi, e_dupr, e_dupx, e_dup2, e_popi, er_g0, er_g1, er_g2, er_g3, er_g4, er_g5, er_g6, er_g7, er_g8, er_g9, er_g10, er_g11, er_g12, er_g13, er_g14, er_g15, er_g16, er_g17, er_g18, er_g19, er_g20, er_g21, er_g22, er_g23, er_g24, er_g25, er_g26, er_g27, er_g28, er_g29, er_g30, er_g31, er_g32, er_g33, er_g34, er_g35, er_g36, er_g37, er_g38, er_g39, er_g40, er_g41, er_g42, er_g43, er_g44, er_g45, er_g46, er_g47, er_s1, er_s2, er_s5, er_s6, er_s8, er_s10, er_s11, er_s13, er_s14, er_s15, er_s16, er_s20, er_s23, er_s24, er_s25, er_s28, er_s30, er_s31, er_s32, er_s33, er_s42, er_s43, er_s44, er_s21a, er_s21b, er_s12a, er_s12b, isc_R, c1, c2, er_r14, x68, Int.reduceNeg, Int.reduceToNat, Int.toNat_natCast, Int.toNat_add_nat, rW_j, Int.reduceEq]
set_option maxHeartbeats 400000 in
theorem r_comesThen {g : Nat} (hg : g < 8) (hr : rOk r) (hl : kBear (kN (rK r)) F.1) : ∃ r', (gg (n + 824) 239).2 [.inr (.inr (.inl (1, 0))), .inl (g : Int)] (hR h (rW r 14 F J)) = some (some (.inl (kCome (rK r) g 60 1 F).1), hR h r') ∧ rC r' = if (kCome (rK r) g 60 1 F).1 = -2 then rC r else rTell (rC r) [(kCome (rK r) g 60 1 F).2] := by
  obtain ⟨r', L', ⟨e1, e2, e3⟩ | ⟨e1, e2, e3⟩⟩ := r_comesL (n := n) (h := h) hg hr 60 1 F J rfl (Nat.le_refl _) hl
  · refine ⟨r', ?_, ?_⟩
    · rw [gr239, e2]
      have e1 : p_lop (lX12_comesThen_2 (gg (n + 823))) ([.inr (.inr (.inl (1, 0))), .inl (g : Int), .inl 1], [], hR h (rW r 14 F J)) = some (.inl 1, (L', [], hR h r')) := e1
      clear hl hr
      simp -implicitDefEqProofs (disch := first | exact isc_R | (simp only [List.map_cons, List.map_nil, List.sum_cons, List.sum_nil, xcat, Nat.reduceAdd, Nat.reduceLeDiff, Nat.zero_le]; done) | omega) only [fX12_comesThen, k_p_sq, k_p_blk, k_sq0, k_sq11, k_sq12, k_sq13, k_sq14, k_sq15, k_sqr, k_sqi, k_blk0, k_blk1, k_blk2, k_blk3, k_blk4, k_blk5, k_blkr, k_blki, k_finr, k_fini, k_mapi, k_bindi, k_if1, k_if2, k_ops, k_br, k_rv, k_ri, k_rl, k_rz, k_rzi, k_01d, k_sw, k_01a, k_01b, k_01c, k_ifn, x_cmp, decide_eq_true_eq, Option.map_some, Option.bind_some, Option.toList_some, Option.toList_none, List.cons_append, List.nil_append, Nat.reduceAdd, true_or, or_true, Int.reduceNeg, Int.reduceEq, reduceIte, Nat.zero_le, Nat.reduceLeDiff, Nat.le_refl, Nat.reduceEqDiff, List.getElem?_cons_zero, List.getElem?_cons_succ, xst, List.set_cons_zero, List.set_cons_succ, List.map_cons, List.map_nil, List.sum_cons, List.sum_nil, xcat, Nat.reduceMul, Nat.reduceDiv, Nat.reduceMod, Nat.add_zero, e_nil, e_iconst, e_il, e_al, e_ll, e_istore, e_astore, e_lstore, e_ic, e_iadd, e_isub, e_imul, e_iand, e_ior, e_ixor, e_ishl, e_ishr, e_ineg, e_dupi, e_dupr, e_dupx, e_dup2, e_popi, er_g0, er_g1, er_g2, er_g3, er_g4, er_g5, er_g6, er_g7, er_g8, er_g9, er_g10, er_g11, er_g12, er_g13, er_g14, er_g15, er_g16, er_g17, er_g18, er_g19, er_g20, er_g21, er_g22, er_g23, er_g24, er_g25, er_g26, er_g27, er_g28, er_g29, er_g30, er_g31, er_g32, er_g33, er_g34, er_g35, er_g36, er_g37, er_g38, er_g39, er_g40, er_g41, er_g42, er_g43, er_g44, er_g45, er_g46, er_g47, er_s1, er_s2, er_s5, er_s6, er_s8, er_s10, er_s11, er_s13, er_s14, er_s15, er_s16, er_s20, er_s23, er_s24, er_s25, er_s28, er_s30, er_s31, er_s32, er_s33, er_s42, er_s43, er_s44, er_s21a, er_s21b, er_s12a, er_s12b, isc_R, e1]
    · rw [if_pos e2, e3]
  · refine ⟨r', ?_, ?_⟩
    · rw [gr239]
      have e1 : p_lop (lX12_comesThen_2 (gg (n + 823))) ([.inr (.inr (.inl (1, 0))), .inl (g : Int), .inl 1], [], hR h (rW r 14 F J)) = some (.inr (some (.inl (kCome (rK r) g 60 1 F).1)), (L', [], hR h r')) := e1
      clear hl hr
      simp -implicitDefEqProofs (disch := first | exact isc_R | (simp only [List.map_cons, List.map_nil, List.sum_cons, List.sum_nil, xcat, Nat.reduceAdd, Nat.reduceLeDiff, Nat.zero_le]; done) | omega) only [fX12_comesThen, k_p_sq, k_p_blk, k_sq0, k_sq11, k_sq12, k_sq13, k_sq14, k_sq15, k_sqr, k_sqi, k_blk0, k_blk1, k_blk2, k_blk3, k_blk4, k_blk5, k_blkr, k_blki, k_finr, k_fini, k_mapi, k_bindi, k_if1, k_if2, k_ops, k_br, k_rv, k_ri, k_rl, k_rz, k_rzi, k_01d, k_sw, k_01a, k_01b, k_01c, k_ifn, x_cmp, decide_eq_true_eq, Option.map_some, Option.bind_some, Option.toList_some, Option.toList_none, List.cons_append, List.nil_append, Nat.reduceAdd, true_or, or_true, Int.reduceNeg, Int.reduceEq, reduceIte, Nat.zero_le, Nat.reduceLeDiff, Nat.le_refl, Nat.reduceEqDiff, List.getElem?_cons_zero, List.getElem?_cons_succ, xst, List.set_cons_zero, List.set_cons_succ, List.map_cons, List.map_nil, List.sum_cons, List.sum_nil, xcat, Nat.reduceMul, Nat.reduceDiv, Nat.reduceMod, Nat.add_zero, e_nil, e_iconst, e_il, e_al, e_ll, e_istore, e_astore, e_lstore, e_ic, e_iadd, e_isub, e_imul, e_iand, e_ior, e_ixor, e_ishl, e_ishr, e_ineg, e_dupi, e_dupr, e_dupx, e_dup2, e_popi, er_g0, er_g1, er_g2, er_g3, er_g4, er_g5, er_g6, er_g7, er_g8, er_g9, er_g10, er_g11, er_g12, er_g13, er_g14, er_g15, er_g16, er_g17, er_g18, er_g19, er_g20, er_g21, er_g22, er_g23, er_g24, er_g25, er_g26, er_g27, er_g28, er_g29, er_g30, er_g31, er_g32, er_g33, er_g34, er_g35, er_g36, er_g37, er_g38, er_g39, er_g40, er_g41, er_g42, er_g43, er_g44, er_g45, er_g46, er_g47, er_s1, er_s2, er_s5, er_s6, er_s8, er_s10, er_s11, er_s13, er_s14, er_s15, er_s16, er_s20, er_s23, er_s24, er_s25, er_s28, er_s30, er_s31, er_s32, er_s33, er_s42, er_s43, er_s44, er_s21a, er_s21b, er_s12a, er_s12b, isc_R, e1]
    · rw [if_neg (by omega), e3]
/-- the row that then has, laid from now -/
def rThen (r : xR) : xR := xr_j r 14 (rCopy (r.2 1) (r.2 14) 0 116)
theorem rThen_c (r : xR) : rC (rThen r) = rC r := rC_j (c := 14) rfl r _
theorem rThen_1 (r : xR) : (rThen r).1 = r.1 := rfl
theorem rThen_14 (r : xR) {i : Nat} (hi : i < 116) : (rThen r).2 14 i = r.2 1 i := by
  show rCopy (r.2 1) (r.2 14) 0 116 i = r.2 1 i
  unfold rCopy
  rw [if_pos (by omega)]
  rfl
theorem rThen_eq (r : xR) {B N M : Nat} : kEq B N M ((rThen r).2 14) (r.2 1) := kEq_116 fun _ hi => rThen_14 r hi
theorem rThen_ok (hr : rOk r) : rOk (rThen r) := hr
theorem rThen_k (r : xR) : rK (rThen r) = rK r := rfl
theorem r_then : (gg (n + 1) 213).2 [.inr (.inr (.inl (1, 1))), .inr (.inr (.inl (1, 14))), .inl 0] (hR h r) = some (none, hR h (rThen r)) := r_lay (n := n) (h := h) (r := r) (j := 1) (c := 14) (N := 116) (k := 0) (Or.inl rfl) (by decide) (by decide) (by decide)
theorem rW_self14 (r : xR) : rW r 14 (r.2 14, r.1 23, r.1 24, r.1 25, r.2 10) r = r := rW_self (by decide)
/-- the reference's numbers with a row for then -/
theorem r_comesThen' {g : Nat} (hr : rOk r) (hg : g < kN (rK r)) {a : Nat → Int} (hl : kBe 10 (kN (rK r)) a) (he : ∀ i, i < 116 → r.2 14 i = a i) : ∃ r', (gg (n + 824) 239).2 [.inr (.inr (.inl (1, 0))), .inl (g : Int)] (hR h r) = some (some (.inl (kCome (rK r) g 60 1 (a, 0, 0, 0, fun _ => 0)).1), hR h r') ∧ rC r' = if (kCome (rK r) g 60 1 (a, 0, 0, 0, fun _ => 0)).1 = -2 then rC r else rTell (rC r) [(kCome (rK r) g 60 1 (a, 0, 0, 0, fun _ => 0)).2] := by
  have hl2 : kBe 10 (kN (rK r)) (r.2 14) := fun g hg => by rw [he _ (by have := rOk_N hr; omega)]; exact hl g hg
  obtain ⟨r', f1, f2⟩ := r_comesThen (n := n) (h := h) (r := r) (F := (r.2 14, r.1 23, r.1 24, r.1 25, r.2 10)) (J := r) (Nat.lt_of_lt_of_le hg (rOk_N hr)) hr hl2
  have e := kCome_eq (B := 6) (N := kN (rK r)) (M := 10) (by decide) (rOk_N hr) (by decide) (rOk_B hr) (Nat.le_refl _) hr.2.2.1 hg 60 1 (F := (r.2 14, r.1 23, r.1 24, r.1 25, r.2 10)) (F' := (a, 0, 0, 0, fun _ => 0)) hl2 (kEq_116 he)
  rw [rW_self14, e] at f1
  rw [e] at f2
  exact ⟨r', f1, f2⟩
theorem rOk_isG (hr : rOk r) (g : Int) : (0 ≤ g ∧ g ≤ xw (r.1 2 - 1)) ↔ (0 ≤ g ∧ g < r.1 2) := by
  obtain ⟨_, ⟨n0, n1⟩, _⟩ := hr
  rw [xw_id (by omega) (by omega)]
  omega
theorem rOk_isB (hr : rOk r) (g : Int) : (0 ≤ g ∧ g ≤ xw (r.1 1 - 1)) ↔ (0 ≤ g ∧ g < r.1 1) := by
  obtain ⟨⟨n0, n1⟩, _⟩ := hr
  rw [xw_id (by omega) (by omega)]
  omega
def sComes (r : xR) (g : Int) : Int × xR :=
  if (0 ≤ g ∧ g < r.1 2) ∧ r.2 1 (68 + g.toNat) = 1 then
    (let A := kCome (rK r) g.toNat 60 1 (r.2 1, 0, 0, 0, fun _ => 0)
     if A.1 = -2 then (-2, xr_i r 11 0) else (A.1, rTell (xr_i r 11 0) [A.2]))
  else (-1, xr_i r 11 0)
set_option maxHeartbeats 400000 in
theorem R_comes (hr : rOk r) (hl : kBe 10 (kN (rK r)) (r.2 1)) (g : Int) : ∃ r', (gg (n + 825) 240).2 [.inr (.inr (.inl (1, 0))), .inl g] (hR h r) = some (some (.inl (sComes r g).1), hR h r') ∧ rC r' = rC (sComes r g).2 := by
  have f1 := r_isGull (n := n + 822) (h := h) (r := xr_i r 11 0) g
  rw [show (xr_i r 11 0).1 2 = r.1 2 from rfl] at f1
  simp only [rOk_isG hr] at f1
  unfold sComes
  by_cases c1 : 0 ≤ g ∧ g < r.1 2
  · have hg8 : g < 8 := by have := hr.2.1.2; omega
    have x68 : xw (68 + g) = 68 + g := xw_id (by omega) (by omega)
    have n68 : (68 + g).toNat = 68 + g.toNat := by omega
    by_cases c2 : r.2 1 (68 + g.toNat) = 1
    · rw [if_pos ⟨c1, c2⟩]
      obtain ⟨r', f3, f4⟩ := r_comesThen' (n := n) (h := h) (r := rThen (xr_i r 11 0)) (g := g.toNat) (rThen_ok hr) (by show g.toNat < (r.1 2).toNat; omega) (a := r.2 1) hl (fun i hi => rThen_14 (xr_i r 11 0) hi)
      rw [rThen_c, show rK (rThen (xr_i r 11 0)) = rK r from rfl] at f4
      rw [show rK (rThen (xr_i r 11 0)) = rK r from rfl, show ((g.toNat : Nat) : Int) = g from by omega] at f3
      dsimp only
      generalize kCome (rK r) g.toNat 60 1 (r.2 1, 0, 0, 0, fun _ => 0) = A at f3 f4
      have f2 := r_then (n := n + 823) (h := h) (r := xr_i r 11 0)
      refine ⟨r', ?_, ?_⟩
      · have e1 : (if A.1 = -2 then ((-2, xr_i r 11 0) : Int × xR) else (A.1, rTell (xr_i r 11 0) [A.2])).1 = A.1 := by
          split
          · rename_i c; exact c.symm
          · rfl
        rw [e1, gr240]
        clear hl hr f4 e1
        simp -implicitDefEqProofs (disch := first | exact isc_R | (simp only [List.map_cons, List.map_nil, List.sum_cons, List.sum_nil, xcat, Nat.reduceAdd, Nat.reduceLeDiff, Nat.zero_le]; done) | omega) only [fX12_comes, k_p_sq, k_p_blk, k_sq0, k_sq11, k_sq12, k_sq13, k_sq14, k_sq15, k_sqr, k_sqi, k_blk0, k_blk1, k_blk2, k_blk3, k_blk4, k_blk5, k_blkr, k_blki, k_finr, k_fini, k_mapi, k_bindi, k_if1, k_if2, k_ops, k_br, k_rv, k_ri, k_rl, k_rz, k_rzi, k_01d, k_sw, k_01a, k_01b, k_01c, k_ifn, x_cmp, decide_eq_true_eq, Option.map_some, Option.bind_some, Option.toList_some, Option.toList_none, List.cons_append, List.nil_append, Nat.reduceAdd, true_or, or_true, Int.reduceNeg, Int.reduceEq, reduceIte, Nat.zero_le, Nat.reduceLeDiff, Nat.le_refl, Nat.reduceEqDiff, List.getElem?_cons_zero, List.getElem?_cons_succ, xst, List.set_cons_zero, List.set_cons_succ, List.map_cons, List.map_nil, List.sum_cons, List.sum_nil, xcat, Nat.reduceMul, Nat.reduceDiv, Nat.reduceMod, Nat.add_zero, e_nil, e_iconst, e_il, e_al, e_ll, e_istore, e_astore, e_lstore, e_ic, e_iadd, e_isub, e_imul, e_iand, e_ior, e_ixor, e_ishl, e_ishr, e_ineg, e_dupi, e_dupr, e_dupx, e_dup2, e_popi, er_g0, er_g1, er_g2, er_g3, er_g4, er_g5, er_g6, er_g7, er_g8, er_g9, er_g10, er_g11, er_g12, er_g13, er_g14, er_g15, er_g16, er_g17, er_g18, er_g19, er_g20, er_g21, er_g22, er_g23, er_g24, er_g25, er_g26, er_g27, er_g28, er_g29, er_g30, er_g31, er_g32, er_g33, er_g34, er_g35, er_g36, er_g37, er_g38, er_g39, er_g40, er_g41, er_g42, er_g43, er_g44, er_g45, er_g46, er_g47, er_s1, er_s2, er_s5, er_s6, er_s8, er_s10, er_s11, er_s13, er_s14, er_s15, er_s16, er_s20, er_s23, er_s24, er_s25, er_s28, er_s30, er_s31, er_s32, er_s33, er_s42, er_s43, er_s44, er_s21a, er_s21b, er_s12a, er_s12b, isc_R, ec176, f1, c1, c2, true_and, false_and, or_self, or_true, true_or, or_false, false_or, and_true, and_false, and_self, not_true_eq_false, not_false_eq_true, er_r1, x68, n68, xr_i_2, Int.reduceEq, ec213, f2, ec239, f3]
      · rw [f4]
        split
        · rfl
        · rw [rC_tell]
    · rw [if_neg (fun c => c2 c.2)]
      refine ⟨_, ?_, rfl⟩
      rw [gr240]
      clear hl hr
      simp -implicitDefEqProofs (disch := first | exact isc_R | (simp only [List.map_cons, List.map_nil, List.sum_cons, List.sum_nil, xcat, Nat.reduceAdd, Nat.reduceLeDiff, Nat.zero_le]; done) | omega) only [fX12_comes, k_p_sq, k_p_blk, k_sq0, k_sq11, k_sq12, k_sq13, k_sq14, k_sq15, k_sqr, k_sqi, k_blk0, k_blk1, k_blk2, k_blk3, k_blk4, k_blk5, k_blkr, k_blki, k_finr, k_fini, k_mapi, k_bindi, k_if1, k_if2, k_ops, k_br, k_rv, k_ri, k_rl, k_rz, k_rzi, k_01d, k_sw, k_01a, k_01b, k_01c, k_ifn, x_cmp, decide_eq_true_eq, Option.map_some, Option.bind_some, Option.toList_some, Option.toList_none, List.cons_append, List.nil_append, Nat.reduceAdd, true_or, or_true, Int.reduceNeg, Int.reduceEq, reduceIte, Nat.zero_le, Nat.reduceLeDiff, Nat.le_refl, Nat.reduceEqDiff, List.getElem?_cons_zero, List.getElem?_cons_succ, xst, List.set_cons_zero, List.set_cons_succ, List.map_cons, List.map_nil, List.sum_cons, List.sum_nil, xcat, Nat.reduceMul, Nat.reduceDiv, Nat.reduceMod, Nat.add_zero, e_nil, e_iconst, e_il, e_al, e_ll, e_istore, e_astore, e_lstore, e_ic, e_iadd, e_isub, e_imul, e_iand, e_ior, e_ixor, e_ishl, e_ishr, e_ineg, e_dupi, e_dupr, e_dupx, e_dup2, e_popi, er_g0, er_g1, er_g2, er_g3, er_g4, er_g5, er_g6, er_g7, er_g8, er_g9, er_g10, er_g11, er_g12, er_g13, er_g14, er_g15, er_g16, er_g17, er_g18, er_g19, er_g20, er_g21, er_g22, er_g23, er_g24, er_g25, er_g26, er_g27, er_g28, er_g29, er_g30, er_g31, er_g32, er_g33, er_g34, er_g35, er_g36, er_g37, er_g38, er_g39, er_g40, er_g41, er_g42, er_g43, er_g44, er_g45, er_g46, er_g47, er_s1, er_s2, er_s5, er_s6, er_s8, er_s10, er_s11, er_s13, er_s14, er_s15, er_s16, er_s20, er_s23, er_s24, er_s25, er_s28, er_s30, er_s31, er_s32, er_s33, er_s42, er_s43, er_s44, er_s21a, er_s21b, er_s12a, er_s12b, isc_R, ec176, f1, c1, c2, true_and, false_and, or_self, or_true, true_or, or_false, false_or, and_true, and_false, and_self, not_true_eq_false, not_false_eq_true, er_r1, x68, n68, xr_i_2, Int.reduceEq]
  · rw [if_neg (fun c => c1 c.1)]
    refine ⟨_, ?_, rfl⟩
    rw [gr240]
    clear hl hr
    simp -implicitDefEqProofs (disch := first | exact isc_R | (simp only [List.map_cons, List.map_nil, List.sum_cons, List.sum_nil, xcat, Nat.reduceAdd, Nat.reduceLeDiff, Nat.zero_le]; done) | omega) only [fX12_comes, k_p_sq, k_p_blk, k_sq0, k_sq11, k_sq12, k_sq13, k_sq14, k_sq15, k_sqr, k_sqi, k_blk0, k_blk1, k_blk2, k_blk3, k_blk4, k_blk5, k_blkr, k_blki, k_finr, k_fini, k_mapi, k_bindi, k_if1, k_if2, k_ops, k_br, k_rv, k_ri, k_rl, k_rz, k_rzi, k_01d, k_sw, k_01a, k_01b, k_01c, k_ifn, x_cmp, decide_eq_true_eq, Option.map_some, Option.bind_some, Option.toList_some, Option.toList_none, List.cons_append, List.nil_append, Nat.reduceAdd, true_or, or_true, Int.reduceNeg, Int.reduceEq, reduceIte, Nat.zero_le, Nat.reduceLeDiff, Nat.le_refl, Nat.reduceEqDiff, List.getElem?_cons_zero, List.getElem?_cons_succ, xst, List.set_cons_zero, List.set_cons_succ, List.map_cons, List.map_nil, List.sum_cons, List.sum_nil, xcat, Nat.reduceMul, Nat.reduceDiv, Nat.reduceMod, Nat.add_zero, e_nil, e_iconst, e_il, e_al, e_ll, e_istore, e_astore, e_lstore, e_ic, e_iadd, e_isub, e_imul, e_iand, e_ior, e_ixor, e_ishl, e_ishr, e_ineg, e_dupi, e_dupr, e_dupx, e_dup2, e_popi, er_g0, er_g1, er_g2, er_g3, er_g4, er_g5, er_g6, er_g7, er_g8, er_g9, er_g10, er_g11, er_g12, er_g13, er_g14, er_g15, er_g16, er_g17, er_g18, er_g19, er_g20, er_g21, er_g22, er_g23, er_g24, er_g25, er_g26, er_g27, er_g28, er_g29, er_g30, er_g31, er_g32, er_g33, er_g34, er_g35, er_g36, er_g37, er_g38, er_g39, er_g40, er_g41, er_g42, er_g43, er_g44, er_g45, er_g46, er_g47, er_s1, er_s2, er_s5, er_s6, er_s8, er_s10, er_s11, er_s13, er_s14, er_s15, er_s16, er_s20, er_s23, er_s24, er_s25, er_s28, er_s30, er_s31, er_s32, er_s33, er_s42, er_s43, er_s44, er_s21a, er_s21b, er_s12a, er_s12b, isc_R, ec176, f1, c1, true_and, false_and, or_self, or_true, true_or, or_false, false_or, and_true, and_false, and_self, not_true_eq_false, not_false_eq_true, Int.reduceEq]
def sWould (r : xR) (g : Int) : Int × xR :=
  if (0 ≤ g ∧ g < r.1 2) ∧ r.2 1 (68 + g.toNat) = 0 then
    (let A := kCome (rK r) g.toNat 60 1 (rSend (r.2 1) g.toNat (-1), 0, 0, 0, fun _ => 0)
     if A.1 = -2 then (-2, xr_i r 11 0) else (A.1, rTell (xr_i r 11 0) [A.2]))
  else (-1, xr_i r 11 0)
theorem rSend_0 (a : Nat → Int) (g : Nat) : rSend a g (-1) = xfu (xfu a (68 + g) 1) (76 + g) (-1) := by
  unfold rSend
  rw [if_pos rfl]
theorem kBe_send0 {M N : Nat} {a : Nat → Int} {g : Nat} (hN : N ≤ 8) (hl : kBe M N a) (hg : g < N) : kBe M N (rSend a g (-1)) := fun g' hg' => by
  rw [rSend_0]
  by_cases c : g' = g
  · subst c
    exact Or.inl (xfu_self _ _ _)
  · rw [xfu_ne _ _ (by omega), xfu_ne _ _ (by omega)]
    exact hl g' hg'
theorem rSend_116 {a b : Nat → Int} (g : Nat) (e : ∀ i, i < 116 → a i = b i) : ∀ i, i < 116 → rSend a g (-1) i = rSend b g (-1) i := fun i hi => by
  rw [rSend_0, rSend_0]
  unfold xfu
  rw [e i hi]
set_option maxHeartbeats 400000 in
theorem R_would (hr : rOk r) (hl : kBe 10 (kN (rK r)) (r.2 1)) (g : Int) : ∃ r', (gg (n + 825) 241).2 [.inr (.inr (.inl (1, 0))), .inl g] (hR h r) = some (some (.inl (sWould r g).1), hR h r') ∧ rC r' = rC (sWould r g).2 := by
  have f1 := r_isGull (n := n + 822) (h := h) (r := xr_i r 11 0) g
  rw [show (xr_i r 11 0).1 2 = r.1 2 from rfl] at f1
  simp only [rOk_isG hr] at f1
  unfold sWould
  by_cases c1 : 0 ≤ g ∧ g < r.1 2
  · have hg8 : g < 8 := by have := hr.2.1.2; omega
    have x68 : xw (68 + g) = 68 + g := xw_id (by omega) (by omega)
    have n68 : (68 + g).toNat = 68 + g.toNat := by omega
    by_cases c2 : r.2 1 (68 + g.toNat) = 0
    · rw [if_pos ⟨c1, c2⟩]
      have f2 := r_then (n := n + 823) (h := h) (r := xr_i r 11 0)
      have f5 := r_goSend (n := n + 823) (h := h) (r := rThen (xr_i r 11 0)) (j := 14) (g := g.toNat) (by decide) (by omega) (l := -1) (Or.inl rfl)
      rw [show ((g.toNat : Nat) : Int) = g from by omega] at f5
      obtain ⟨r', f3, f4⟩ := r_comesThen' (n := n) (h := h) (r := xr_j (rThen (xr_i r 11 0)) 14 (rSend ((rThen (xr_i r 11 0)).2 14) g.toNat (-1))) (g := g.toNat) hr (by show g.toNat < (r.1 2).toNat; omega) (a := rSend (r.2 1) g.toNat (-1)) (kBe_send0 (rOk_N hr) hl (by show g.toNat < (r.1 2).toNat; omega)) (fun i hi => rSend_116 g.toNat (fun i hi => rThen_14 (xr_i r 11 0) hi) i hi)
      rw [rC_j (c := 14) rfl, rThen_c, show rK (xr_j (rThen (xr_i r 11 0)) 14 (rSend ((rThen (xr_i r 11 0)).2 14) g.toNat (-1))) = rK r from rfl] at f4
      rw [show rK (xr_j (rThen (xr_i r 11 0)) 14 (rSend ((rThen (xr_i r 11 0)).2 14) g.toNat (-1))) = rK r from rfl, show ((g.toNat : Nat) : Int) = g from by omega] at f3
      dsimp only
      generalize kCome (rK r) g.toNat 60 1 (rSend (r.2 1) g.toNat (-1), 0, 0, 0, fun _ => 0) = A at f3 f4
      refine ⟨r', ?_, ?_⟩
      · have e1 : (if A.1 = -2 then ((-2, xr_i r 11 0) : Int × xR) else (A.1, rTell (xr_i r 11 0) [A.2])).1 = A.1 := by
          split
          · rename_i c; exact c.symm
          · rfl
        rw [e1, gr241]
        clear hl hr f4 e1
        simp -implicitDefEqProofs (disch := first | exact isc_R | (simp only [List.map_cons, List.map_nil, List.sum_cons, List.sum_nil, xcat, Nat.reduceAdd, Nat.reduceLeDiff, Nat.zero_le]; done) | omega) only [fX12_would, k_p_sq, k_p_blk, k_sq0, k_sq11, k_sq12, k_sq13, k_sq14, k_sq15, k_sqr, k_sqi, k_blk0, k_blk1, k_blk2, k_blk3, k_blk4, k_blk5, k_blkr, k_blki, k_finr, k_fini, k_mapi, k_bindi, k_if1, k_if2, k_ops, k_br, k_rv, k_ri, k_rl, k_rz, k_rzi, k_01d, k_sw, k_01a, k_01b, k_01c, k_ifn, x_cmp, decide_eq_true_eq, Option.map_some, Option.bind_some, Option.toList_some, Option.toList_none, List.cons_append, List.nil_append, Nat.reduceAdd, true_or, or_true, Int.reduceNeg, Int.reduceEq, reduceIte, Nat.zero_le, Nat.reduceLeDiff, Nat.le_refl, Nat.reduceEqDiff, List.getElem?_cons_zero, List.getElem?_cons_succ, xst, List.set_cons_zero, List.set_cons_succ, List.map_cons, List.map_nil, List.sum_cons, List.sum_nil, xcat, Nat.reduceMul, Nat.reduceDiv, Nat.reduceMod, Nat.add_zero, e_nil, e_iconst, e_il, e_al, e_ll, e_istore, e_astore, e_lstore, e_ic, e_iadd, e_isub, e_imul, e_iand, e_ior, e_ixor, e_ishl, e_ishr, e_ineg, e_dupi, e_dupr, e_dupx, e_dup2, e_popi, er_g0, er_g1, er_g2, er_g3, er_g4, er_g5, er_g6, er_g7, er_g8, er_g9, er_g10, er_g11, er_g12, er_g13, er_g14, er_g15, er_g16, er_g17, er_g18, er_g19, er_g20, er_g21, er_g22, er_g23, er_g24, er_g25, er_g26, er_g27, er_g28, er_g29, er_g30, er_g31, er_g32, er_g33, er_g34, er_g35, er_g36, er_g37, er_g38, er_g39, er_g40, er_g41, er_g42, er_g43, er_g44, er_g45, er_g46, er_g47, er_s1, er_s2, er_s5, er_s6, er_s8, er_s10, er_s11, er_s13, er_s14, er_s15, er_s16, er_s20, er_s23, er_s24, er_s25, er_s28, er_s30, er_s31, er_s32, er_s33, er_s42, er_s43, er_s44, er_s21a, er_s21b, er_s12a, er_s12b, isc_R, ec176, f1, c1, c2, true_and, false_and, or_self, or_true, true_or, or_false, false_or, and_true, and_false, and_self, not_true_eq_false, not_false_eq_true, er_r1, x68, n68, xr_i_2, Int.reduceEq, ec213, f2, ec219, f5, ec239, f3]
      · rw [f4]
        split
        · rfl
        · rw [rC_tell]
    · rw [if_neg (fun c => c2 c.2)]
      refine ⟨_, ?_, rfl⟩
      rw [gr241]
      clear hl hr
      simp -implicitDefEqProofs (disch := first | exact isc_R | (simp only [List.map_cons, List.map_nil, List.sum_cons, List.sum_nil, xcat, Nat.reduceAdd, Nat.reduceLeDiff, Nat.zero_le]; done) | omega) only [fX12_would, k_p_sq, k_p_blk, k_sq0, k_sq11, k_sq12, k_sq13, k_sq14, k_sq15, k_sqr, k_sqi, k_blk0, k_blk1, k_blk2, k_blk3, k_blk4, k_blk5, k_blkr, k_blki, k_finr, k_fini, k_mapi, k_bindi, k_if1, k_if2, k_ops, k_br, k_rv, k_ri, k_rl, k_rz, k_rzi, k_01d, k_sw, k_01a, k_01b, k_01c, k_ifn, x_cmp, decide_eq_true_eq, Option.map_some, Option.bind_some, Option.toList_some, Option.toList_none, List.cons_append, List.nil_append, Nat.reduceAdd, true_or, or_true, Int.reduceNeg, Int.reduceEq, reduceIte, Nat.zero_le, Nat.reduceLeDiff, Nat.le_refl, Nat.reduceEqDiff, List.getElem?_cons_zero, List.getElem?_cons_succ, xst, List.set_cons_zero, List.set_cons_succ, List.map_cons, List.map_nil, List.sum_cons, List.sum_nil, xcat, Nat.reduceMul, Nat.reduceDiv, Nat.reduceMod, Nat.add_zero, e_nil, e_iconst, e_il, e_al, e_ll, e_istore, e_astore, e_lstore, e_ic, e_iadd, e_isub, e_imul, e_iand, e_ior, e_ixor, e_ishl, e_ishr, e_ineg, e_dupi, e_dupr, e_dupx, e_dup2, e_popi, er_g0, er_g1, er_g2, er_g3, er_g4, er_g5, er_g6, er_g7, er_g8, er_g9, er_g10, er_g11, er_g12, er_g13, er_g14, er_g15, er_g16, er_g17, er_g18, er_g19, er_g20, er_g21, er_g22, er_g23, er_g24, er_g25, er_g26, er_g27, er_g28, er_g29, er_g30, er_g31, er_g32, er_g33, er_g34, er_g35, er_g36, er_g37, er_g38, er_g39, er_g40, er_g41, er_g42, er_g43, er_g44, er_g45, er_g46, er_g47, er_s1, er_s2, er_s5, er_s6, er_s8, er_s10, er_s11, er_s13, er_s14, er_s15, er_s16, er_s20, er_s23, er_s24, er_s25, er_s28, er_s30, er_s31, er_s32, er_s33, er_s42, er_s43, er_s44, er_s21a, er_s21b, er_s12a, er_s12b, isc_R, ec176, f1, c1, c2, true_and, false_and, or_self, or_true, true_or, or_false, false_or, and_true, and_false, and_self, not_true_eq_false, not_false_eq_true, er_r1, x68, n68, xr_i_2, Int.reduceEq]
  · rw [if_neg (fun c => c1 c.1)]
    refine ⟨_, ?_, rfl⟩
    rw [gr241]
    clear hl hr
    simp -implicitDefEqProofs (disch := first | exact isc_R | (simp only [List.map_cons, List.map_nil, List.sum_cons, List.sum_nil, xcat, Nat.reduceAdd, Nat.reduceLeDiff, Nat.zero_le]; done) | omega) only [fX12_would, k_p_sq, k_p_blk, k_sq0, k_sq11, k_sq12, k_sq13, k_sq14, k_sq15, k_sqr, k_sqi, k_blk0, k_blk1, k_blk2, k_blk3, k_blk4, k_blk5, k_blkr, k_blki, k_finr, k_fini, k_mapi, k_bindi, k_if1, k_if2, k_ops, k_br, k_rv, k_ri, k_rl, k_rz, k_rzi, k_01d, k_sw, k_01a, k_01b, k_01c, k_ifn, x_cmp, decide_eq_true_eq, Option.map_some, Option.bind_some, Option.toList_some, Option.toList_none, List.cons_append, List.nil_append, Nat.reduceAdd, true_or, or_true, Int.reduceNeg, Int.reduceEq, reduceIte, Nat.zero_le, Nat.reduceLeDiff, Nat.le_refl, Nat.reduceEqDiff, List.getElem?_cons_zero, List.getElem?_cons_succ, xst, List.set_cons_zero, List.set_cons_succ, List.map_cons, List.map_nil, List.sum_cons, List.sum_nil, xcat, Nat.reduceMul, Nat.reduceDiv, Nat.reduceMod, Nat.add_zero, e_nil, e_iconst, e_il, e_al, e_ll, e_istore, e_astore, e_lstore, e_ic, e_iadd, e_isub, e_imul, e_iand, e_ior, e_ixor, e_ishl, e_ishr, e_ineg, e_dupi, e_dupr, e_dupx, e_dup2, e_popi, er_g0, er_g1, er_g2, er_g3, er_g4, er_g5, er_g6, er_g7, er_g8, er_g9, er_g10, er_g11, er_g12, er_g13, er_g14, er_g15, er_g16, er_g17, er_g18, er_g19, er_g20, er_g21, er_g22, er_g23, er_g24, er_g25, er_g26, er_g27, er_g28, er_g29, er_g30, er_g31, er_g32, er_g33, er_g34, er_g35, er_g36, er_g37, er_g38, er_g39, er_g40, er_g41, er_g42, er_g43, er_g44, er_g45, er_g46, er_g47, er_s1, er_s2, er_s5, er_s6, er_s8, er_s10, er_s11, er_s13, er_s14, er_s15, er_s16, er_s20, er_s23, er_s24, er_s25, er_s28, er_s30, er_s31, er_s32, er_s33, er_s42, er_s43, er_s44, er_s21a, er_s21b, er_s12a, er_s12b, isc_R, ec176, f1, c1, true_and, false_and, or_self, or_true, true_or, or_false, false_or, and_true, and_false, and_self, not_true_eq_false, not_false_eq_true, Int.reduceEq]
end TH
