/-! ===== which gulls to train ===== -/
def kPow (v : Int) (k : Nat) : Int := xit (fun _ p => xlw (p * v)) k 1
abbrev xTr : Type := Int × (Nat → Int) × (Nat → Int)
def kCh (p ch : Int) (k : Nat) : Int := xlw ((xlw (ch * xlw (kPow 10 k - kPow (xw (10 - p)) k))).tdiv (kPow 10 k))
def kCpy (B : Nat) (f t : Nat → Int) : Nat → Int := xit (fun k t => xfu t k (f k)) B t
def kGo (B : Nat) (p : Int) : Nat → Nat → Nat → Int → xTr → xTr
  | 0, _, left, ch, s => if 0 < left ∨ ch ≤ s.1 then s else (ch, s.2.1, kCpy B s.2.1 s.2.2)
  | d + 1, b, left, ch, s => xit (fun k s => kGo B p d (b + 1) (left - k) (kCh p ch k) (s.1, xfu s.2.1 b (k : Int), s.2.2)) (left + 1) s
def rE (q : xR) (s : xTr) : xR := xr_i (xr_j (xr_j q 16 s.2.1) 17 s.2.2) 39 s.1
section TR
variable {n : Nat} {h : xH} {r : xR} {H : xH} {j : Nat} {q : xR} {s : xTr}
theorem rE_39 : (rE q s).1 39 = s.1 := rfl
theorem rE_1 : (rE q s).1 1 = q.1 1 := rfl
theorem rE_16 : (rE q s).2 16 = s.2.1 := rfl
theorem rE_17 : (rE q s).2 17 = s.2.2 := rfl
theorem rE_p39 (v : Int) : xr_i (rE q s) 39 v = rE q (v, s.2) := by
  unfold rE xr_i
  rw [xfu_twice]
theorem rE_p16 (f : Nat → Int) : xr_j (rE q s) 16 f = rE q (s.1, f, s.2.2) := by
  unfold rE xr_i xr_j
  refine Prod.ext rfl (funext fun c => ?_)
  show xfu (xfu (xfu q.2 16 s.2.1) 17 s.2.2) 16 f c = xfu (xfu q.2 16 f) 17 s.2.2 c
  unfold xfu
  by_cases c1 : c = 16
  · subst c1
    rfl
  · by_cases c2 : c = 17
    · subst c2
      rfl
    · rw [if_neg c1, if_neg c2, if_neg c2, if_neg c1, if_neg c1]
theorem rE_p17 (f : Nat → Int) : xr_j (rE q s) 17 f = rE q (s.1, s.2.1, f) := by
  unfold rE xr_i xr_j
  refine Prod.ext rfl ?_
  show xfu (xfu (xfu q.2 16 s.2.1) 17 s.2.2) 17 f = xfu (xfu q.2 16 s.2.1) 17 f
  rw [xfu_twice]
theorem rE_self (q : xR) (d : Int) : rE q (d, q.2 16, q.2 17) = xr_i q 39 d := by
  unfold rE
  show xr_i (xr_j (xr_j q 16 (q.2 16)) 17 (q.2 17)) 39 d = xr_i q 39 d
  rw [xr_j_0, xr_j_0]
theorem rE_c : rC (rE q s) = rC q := by
  unfold rE
  rw [rC_i (k := 39) rfl, rC_j (c := 17) rfl, rC_j (c := 16) rfl]
theorem r_power (v : Int) {k : Nat} (hk : k ≤ 100) : (gg (n + 1) 265).2 [.inr (.inl v), .inl (k : Int)] H = some (some (.inr (.inl (kPow v k))), H) := by
  have key : p_lop (lX12_power_5 (gg n)) ([.inr (.inl v), .inr (.inr (.inr 2)), .inl (k : Int), .inr (.inl 1), .inr (.inr (.inr 2)), .inl 0], [], H) = some (.inl 1, ([.inr (.inl v), .inr (.inr (.inr 2)), .inl (k : Int), .inr (.inl (kPow v k)), .inr (.inr (.inr 2)), .inl (k : Int)], [], H)) := by
    unfold kPow
    refine k_for (fun i => ([.inr (.inl v), .inr (.inr (.inr 2)), .inl (k : Int), .inr (.inl (xit (fun _ p => xlw (p * v)) i 1)), .inr (.inr (.inr 2)), .inl (i : Int)], [], H)) k rfl ?_ (fun i hi => ?_)
    · generalize xit (fun _ p => xlw (p * v)) k 1 = x
      simp -implicitDefEqProofs (disch := first | exact isc_R | (simp only [List.map_cons, List.map_nil, List.sum_cons, List.sum_nil, xcat, Nat.reduceAdd, Nat.reduceLeDiff, Nat.zero_le]; done) | omega) only [lX12_power_5, k_p_sq, k_p_blk, k_sq0, k_sq11, k_sq12, k_sq13, k_sq14, k_sq15, k_sqr, k_sqi, k_blk0, k_blk1, k_blk2, k_blk3, k_blk4, k_blk5, k_blkr, k_blki, k_finr, k_fini, k_mapi, k_bindi, k_if1, k_if2, k_ops, k_br, k_rv, k_ri, k_rl, k_rz, k_rzi, k_01d, k_sw, k_01a, k_01b, k_01c, k_ifn, x_cmp, decide_eq_true_eq, Option.map_some, Option.bind_some, Option.toList_some, Option.toList_none, List.cons_append, List.nil_append, Nat.reduceAdd, true_or, or_true, Int.reduceNeg, Int.reduceEq, reduceIte, Nat.zero_le, Nat.reduceLeDiff, Nat.le_refl, Nat.reduceEqDiff, List.getElem?_cons_zero, List.getElem?_cons_succ, xst, List.set_cons_zero, List.set_cons_succ, List.map_cons, List.map_nil, List.sum_cons, List.sum_nil, xcat, Nat.reduceMul, Nat.reduceDiv, Nat.reduceMod, Nat.add_zero, e_nil, e_iconst, e_il, e_al, e_ll, e_istore, e_astore, e_lstore, e_ic, e_iadd, e_isub, e_imul, e_iand, e_ior, e_ixor, e_ishl, e_ishr, e_ineg, e_dupi, e_dupr, e_dupx, e_dup2, e_popi, er_g0, er_g1, er_g2, er_g3, er_g4, er_g5, er_g6, er_g7, er_g8, er_g9, er_g10, er_g11, er_g12, er_g13, er_g14, er_g15, er_g16, er_g17, er_g18, er_g19, er_g20, er_g21, er_g22, er_g23, er_g24, er_g25, er_g26, er_g27, er_g28, er_g29, er_g30, er_g31, er_g32, er_g33, er_g34, er_g35, er_g36, er_g37, er_g38, er_g39, er_g40, er_g41, er_g42, er_g43, er_g44, er_g45, er_g46, er_g47, er_s1, er_s2, er_s5, er_s6, er_s8, er_s10, er_s11, er_s13, er_s14, er_s15, er_s16, er_s20, er_s23, er_s24, er_s25, er_s28, er_s30, er_s31, er_s32, er_s33, er_s42, er_s43, er_s44, er_s21a, er_s21b, er_s12a, er_s12b, isc_R, Int.le_refl]
    · have hs : xit (fun _ p => xlw (p * v)) (i + 1) 1 = xlw (xit (fun _ p => xlw (p * v)) i 1 * v) := rfl
      rw [hs]
      generalize xit (fun _ p => xlw (p * v)) i 1 = x
      have hk2 : ¬ (k : Int) ≤ (i : Int) := by omega
      have x1 : xw ((i : Int) + 1) = (i : Int) + 1 := xw_id (by omega) (by omega)
      simp -implicitDefEqProofs (disch := first | exact isc_R | (simp only [List.map_cons, List.map_nil, List.sum_cons, List.sum_nil, xcat, Nat.reduceAdd, Nat.reduceLeDiff, Nat.zero_le]; done) | omega) only [lX12_power_5, k_p_sq, k_p_blk, k_sq0, k_sq11, k_sq12, k_sq13, k_sq14, k_sq15, k_sqr, k_sqi, k_blk0, k_blk1, k_blk2, k_blk3, k_blk4, k_blk5, k_blkr, k_blki, k_finr, k_fini, k_mapi, k_bindi, k_if1, k_if2, k_ops, k_br, k_rv, k_ri, k_rl, k_rz, k_rzi, k_01d, k_sw, k_01a, k_01b, k_01c, k_ifn, x_cmp, decide_eq_true_eq, Option.map_some, Option.bind_some, Option.toList_some, Option.toList_none, List.cons_append, List.nil_append, Nat.reduceAdd, true_or, or_true, Int.reduceNeg, Int.reduceEq, reduceIte, Nat.zero_le, Nat.reduceLeDiff, Nat.le_refl, Nat.reduceEqDiff, List.getElem?_cons_zero, List.getElem?_cons_succ, xst, List.set_cons_zero, List.set_cons_succ, List.map_cons, List.map_nil, List.sum_cons, List.sum_nil, xcat, Nat.reduceMul, Nat.reduceDiv, Nat.reduceMod, Nat.add_zero, e_nil, e_iconst, e_il, e_al, e_ll, e_istore, e_astore, e_lstore, e_ic, e_iadd, e_isub, e_imul, e_iand, e_ior, e_ixor, e_ishl, e_ishr, e_ineg, e_dupi, e_dupr, e_dupx, e_dup2, e_popi, er_g0, er_g1, er_g2, er_g3, er_g4, er_g5, er_g6, er_g7, er_g8, er_g9, er_g10, er_g11, er_g12, er_g13, er_g14, er_g15, er_g16, er_g17, er_g18, er_g19, er_g20, er_g21, er_g22, er_g23, er_g24, er_g25, er_g26, er_g27, er_g28, er_g29, er_g30, er_g31, er_g32, er_g33, er_g34, er_g35, er_g36, er_g37, er_g38, er_g39, er_g40, er_g41, er_g42, er_g43, er_g44, er_g45, er_g46, er_g47, er_s1, er_s2, er_s5, er_s6, er_s8, er_s10, er_s11, er_s13, er_s14, er_s15, er_s16, er_s20, er_s23, er_s24, er_s25, er_s28, er_s30, er_s31, er_s32, er_s33, er_s42, er_s43, er_s44, er_s21a, er_s21b, er_s12a, er_s12b, isc_R, xst2, e_lmul, hk2, x1, e_iinc, Int.natCast_add, Int.cast_ofNat_Int]
  generalize kPow v k = x at key
  rw [gr265]
  simp -implicitDefEqProofs (disch := first | exact isc_R | (simp only [List.map_cons, List.map_nil, List.sum_cons, List.sum_nil, xcat, Nat.reduceAdd, Nat.reduceLeDiff, Nat.zero_le]; done) | omega) only [fX12_power, k_p_sq, k_p_blk, k_sq0, k_sq11, k_sq12, k_sq13, k_sq14, k_sq15, k_sqr, k_sqi, k_blk0, k_blk1, k_blk2, k_blk3, k_blk4, k_blk5, k_blkr, k_blki, k_finr, k_fini, k_mapi, k_bindi, k_if1, k_if2, k_ops, k_br, k_rv, k_ri, k_rl, k_rz, k_rzi, k_01d, k_sw, k_01a, k_01b, k_01c, k_ifn, x_cmp, decide_eq_true_eq, Option.map_some, Option.bind_some, Option.toList_some, Option.toList_none, List.cons_append, List.nil_append, Nat.reduceAdd, true_or, or_true, Int.reduceNeg, Int.reduceEq, reduceIte, Nat.zero_le, Nat.reduceLeDiff, Nat.le_refl, Nat.reduceEqDiff, List.getElem?_cons_zero, List.getElem?_cons_succ, xst, List.set_cons_zero, List.set_cons_succ, List.map_cons, List.map_nil, List.sum_cons, List.sum_nil, xcat, Nat.reduceMul, Nat.reduceDiv, Nat.reduceMod, Nat.add_zero, e_nil, e_iconst, e_il, e_al, e_ll, e_istore, e_astore, e_lstore, e_ic, e_iadd, e_isub, e_imul, e_iand, e_ior, e_ixor, e_ishl, e_ishr, e_ineg, e_dupi, e_dupr, e_dupx, e_dup2, e_popi, er_g0, er_g1, er_g2, er_g3, er_g4, er_g5, er_g6, er_g7, er_g8, er_g9, er_g10, er_g11, er_g12, er_g13, er_g14, er_g15, er_g16, er_g17, er_g18, er_g19, er_g20, er_g21, er_g22, er_g23, er_g24, er_g25, er_g26, er_g27, er_g28, er_g29, er_g30, er_g31, er_g32, er_g33, er_g34, er_g35, er_g36, er_g37, er_g38, er_g39, er_g40, er_g41, er_g42, er_g43, er_g44, er_g45, er_g46, er_g47, er_s1, er_s2, er_s5, er_s6, er_s8, er_s10, er_s11, er_s13, er_s14, er_s15, er_s16, er_s20, er_s23, er_s24, er_s25, er_s28, er_s30, er_s31, er_s32, er_s33, er_s42, er_s43, er_s44, er_s21a, er_s21b, er_s12a, er_s12b, isc_R, xst2, e_lconst, key]
theorem kPow_10 {k : Nat} (hk : k ≤ 8) : kPow 10 k ≠ 0 := by
  have h : ∀ k : Fin 9, kPow 10 k.1 ≠ 0 := by decide +kernel
  exact h ⟨k, by omega⟩
set_option maxHeartbeats 800000 in
theorem r_goTrain {B : Nat} (hB : B ≤ 6) (hb : q.1 1 = B) {p : Int} : ∀ (d b left : Nat) (ch : Int) (s : xTr), b + d = B → left ≤ 8 → (gg (n + 2 + d) 266).2 [.inr (.inr (.inl (1, 0))), .inl (b : Int), .inl (left : Int), .inl p, .inr (.inl ch)] (hR h (rE q s)) = some (none, hR h (rE q (kGo B p d b left ch s)))
  | 0, b, left, ch, s, hd, hl => by
    have hbB : (b : Int) = (B : Int) := by omega
    rw [gr266]
    unfold kGo
    rw [hbB]
    by_cases c1 : 0 < left
    · rw [if_pos (Or.inl c1)]
      have c1i : (0 : Int) < (left : Int) := by omega
      simp -implicitDefEqProofs (disch := first | exact isc_R | (simp only [List.map_cons, List.map_nil, List.sum_cons, List.sum_nil, xcat, Nat.reduceAdd, Nat.reduceLeDiff, Nat.zero_le]; done) | omega) only [fX12_goTrain, k_p_sq, k_p_blk, k_sq0, k_sq11, k_sq12, k_sq13, k_sq14, k_sq15, k_sqr, k_sqi, k_blk0, k_blk1, k_blk2, k_blk3, k_blk4, k_blk5, k_blkr, k_blki, k_finr, k_fini, k_mapi, k_bindi, k_if1, k_if2, k_ops, k_br, k_rv, k_ri, k_rl, k_rz, k_rzi, k_01d, k_sw, k_01a, k_01b, k_01c, k_ifn, x_cmp, decide_eq_true_eq, Option.map_some, Option.bind_some, Option.toList_some, Option.toList_none, List.cons_append, List.nil_append, Nat.reduceAdd, true_or, or_true, Int.reduceNeg, Int.reduceEq, reduceIte, Nat.zero_le, Nat.reduceLeDiff, Nat.le_refl, Nat.reduceEqDiff, List.getElem?_cons_zero, List.getElem?_cons_succ, xst, List.set_cons_zero, List.set_cons_succ, List.map_cons, List.map_nil, List.sum_cons, List.sum_nil, xcat, Nat.reduceMul, Nat.reduceDiv, Nat.reduceMod, Nat.add_zero, e_nil, e_iconst, e_il, e_al, e_ll, e_istore, e_astore, e_lstore, e_ic, e_iadd, e_isub, e_imul, e_iand, e_ior, e_ixor, e_ishl, e_ishr, e_ineg, e_dupi, e_dupr, e_dupx, e_dup2, e_popi, er_g0, er_g1, er_g2, er_g3, er_g4, er_g5, er_g6, er_g7, er_g8, er_g9, er_g10, er_g11, er_g12, er_g13, er_g14, er_g15, er_g16, er_g17, er_g18, er_g19, er_g20, er_g21, er_g22, er_g23, er_g24, er_g25, er_g26, er_g27, er_g28, er_g29, er_g30, er_g31, er_g32, er_g33, er_g34, er_g35, er_g36, er_g37, er_g38, er_g39, er_g40, er_g41, er_g42, er_g43, er_g44, er_g45, er_g46, er_g47, er_s1, er_s2, er_s5, er_s6, er_s8, er_s10, er_s11, er_s13, er_s14, er_s15, er_s16, er_s20, er_s23, er_s24, er_s25, er_s28, er_s30, er_s31, er_s32, er_s33, er_s42, er_s43, er_s44, er_s21a, er_s21b, er_s12a, er_s12b, isc_R, rE_1, hb, c1i]
    · have c1i : ¬ (0 : Int) < (left : Int) := by omega
      by_cases c2 : ch ≤ s.1
      · rw [if_pos (Or.inr c2)]
        have c2i : ¬ s.1 < ch := by omega
        by_cases c3 : ch = s.1
        · simp -implicitDefEqProofs (disch := first | exact isc_R | (simp only [List.map_cons, List.map_nil, List.sum_cons, List.sum_nil, xcat, Nat.reduceAdd, Nat.reduceLeDiff, Nat.zero_le]; done) | omega) only [fX12_goTrain, k_p_sq, k_p_blk, k_sq0, k_sq11, k_sq12, k_sq13, k_sq14, k_sq15, k_sqr, k_sqi, k_blk0, k_blk1, k_blk2, k_blk3, k_blk4, k_blk5, k_blkr, k_blki, k_finr, k_fini, k_mapi, k_bindi, k_if1, k_if2, k_ops, k_br, k_rv, k_ri, k_rl, k_rz, k_rzi, k_01d, k_sw, k_01a, k_01b, k_01c, k_ifn, x_cmp, decide_eq_true_eq, Option.map_some, Option.bind_some, Option.toList_some, Option.toList_none, List.cons_append, List.nil_append, Nat.reduceAdd, true_or, or_true, Int.reduceNeg, Int.reduceEq, reduceIte, Nat.zero_le, Nat.reduceLeDiff, Nat.le_refl, Nat.reduceEqDiff, List.getElem?_cons_zero, List.getElem?_cons_succ, xst, List.set_cons_zero, List.set_cons_succ, List.map_cons, List.map_nil, List.sum_cons, List.sum_nil, xcat, Nat.reduceMul, Nat.reduceDiv, Nat.reduceMod, Nat.add_zero, e_nil, e_iconst, e_il, e_al, e_ll, e_istore, e_astore, e_lstore, e_ic, e_iadd, e_isub, e_imul, e_iand, e_ior, e_ixor, e_ishl, e_ishr, e_ineg, e_dupi, e_dupr, e_dupx, e_dup2, e_popi, er_g0, er_g1, er_g2, er_g3, er_g4, er_g5, er_g6, er_g7, er_g8, er_g9, er_g10, er_g11, er_g12, er_g13, er_g14, er_g15, er_g16, er_g17, er_g18, er_g19, er_g20, er_g21, er_g22, er_g23, er_g24, er_g25, er_g26, er_g27, er_g28, er_g29, er_g30, er_g31, er_g32, er_g33, er_g34, er_g35, er_g36, er_g37, er_g38, er_g39, er_g40, er_g41, er_g42, er_g43, er_g44, er_g45, er_g46, er_g47, er_s1, er_s2, er_s5, er_s6, er_s8, er_s10, er_s11, er_s13, er_s14, er_s15, er_s16, er_s20, er_s23, er_s24, er_s25, er_s28, er_s30, er_s31, er_s32, er_s33, er_s42, er_s43, er_s44, er_s21a, er_s21b, er_s12a, er_s12b, isc_R, rE_1, hb, c1i, e_ll, er_g39, rE_39, e_lcmp, c2i, eq_true c3, Int.reduceLT]
        · simp -implicitDefEqProofs (disch := first | exact isc_R | (simp only [List.map_cons, List.map_nil, List.sum_cons, List.sum_nil, xcat, Nat.reduceAdd, Nat.reduceLeDiff, Nat.zero_le]; done) | omega) only [fX12_goTrain, k_p_sq, k_p_blk, k_sq0, k_sq11, k_sq12, k_sq13, k_sq14, k_sq15, k_sqr, k_sqi, k_blk0, k_blk1, k_blk2, k_blk3, k_blk4, k_blk5, k_blkr, k_blki, k_finr, k_fini, k_mapi, k_bindi, k_if1, k_if2, k_ops, k_br, k_rv, k_ri, k_rl, k_rz, k_rzi, k_01d, k_sw, k_01a, k_01b, k_01c, k_ifn, x_cmp, decide_eq_true_eq, Option.map_some, Option.bind_some, Option.toList_some, Option.toList_none, List.cons_append, List.nil_append, Nat.reduceAdd, true_or, or_true, Int.reduceNeg, Int.reduceEq, reduceIte, Nat.zero_le, Nat.reduceLeDiff, Nat.le_refl, Nat.reduceEqDiff, List.getElem?_cons_zero, List.getElem?_cons_succ, xst, List.set_cons_zero, List.set_cons_succ, List.map_cons, List.map_nil, List.sum_cons, List.sum_nil, xcat, Nat.reduceMul, Nat.reduceDiv, Nat.reduceMod, Nat.add_zero, e_nil, e_iconst, e_il, e_al, e_ll, e_istore, e_astore, e_lstore, e_ic, e_iadd, e_isub, e_imul, e_iand, e_ior, e_ixor, e_ishl, e_ishr, e_ineg, e_dupi, e_dupr, e_dupx, e_dup2, e_popi, er_g0, er_g1, er_g2, er_g3, er_g4, er_g5, er_g6, er_g7, er_g8, er_g9, er_g10, er_g11, er_g12, er_g13, er_g14, er_g15, er_g16, er_g17, er_g18, er_g19, er_g20, er_g21, er_g22, er_g23, er_g24, er_g25, er_g26, er_g27, er_g28, er_g29, er_g30, er_g31, er_g32, er_g33, er_g34, er_g35, er_g36, er_g37, er_g38, er_g39, er_g40, er_g41, er_g42, er_g43, er_g44, er_g45, er_g46, er_g47, er_s1, er_s2, er_s5, er_s6, er_s8, er_s10, er_s11, er_s13, er_s14, er_s15, er_s16, er_s20, er_s23, er_s24, er_s25, er_s28, er_s30, er_s31, er_s32, er_s33, er_s42, er_s43, er_s44, er_s21a, er_s21b, er_s12a, er_s12b, isc_R, rE_1, hb, c1i, e_ll, er_g39, rE_39, e_lcmp, c2i, c3, Int.reduceLT]
      · rw [if_neg (by rintro (z | z); exact c1 z; exact c2 z)]
        have c2i : s.1 < ch := by omega
        have key : p_lop (lX12_goTrain_32 (gg (n + 1))) ([.inr (.inr (.inl (1, 0))), .inl (B : Int), .inl (left : Int), .inl p, .inr (.inl ch), .inr (.inr (.inr 2)), .inl 0], [], hR h (rE q (ch, s.2))) = some (.inl 1, ([.inr (.inr (.inl (1, 0))), .inl (B : Int), .inl (left : Int), .inl p, .inr (.inl ch), .inr (.inr (.inr 2)), .inl (B : Int)], [], hR h (rE q (ch, s.2.1, kCpy B s.2.1 s.2.2)))) := by
          unfold kCpy
          refine k_for (fun i => ([.inr (.inr (.inl (1, 0))), .inl (B : Int), .inl (left : Int), .inl p, .inr (.inl ch), .inr (.inr (.inr 2)), .inl (i : Int)], [], hR h (rE q (ch, s.2.1, xit (fun k t => xfu t k (s.2.1 k)) i s.2.2)))) B rfl ?_ (fun i hi => ?_)
          · generalize xit (fun k t => xfu t k (s.2.1 k)) B s.2.2 = t
            simp -implicitDefEqProofs (disch := first | exact isc_R | (simp only [List.map_cons, List.map_nil, List.sum_cons, List.sum_nil, xcat, Nat.reduceAdd, Nat.reduceLeDiff, Nat.zero_le]; done) | omega) only [lX12_goTrain_32, k_p_sq, k_p_blk, k_sq0, k_sq11, k_sq12, k_sq13, k_sq14, k_sq15, k_sqr, k_sqi, k_blk0, k_blk1, k_blk2, k_blk3, k_blk4, k_blk5, k_blkr, k_blki, k_finr, k_fini, k_mapi, k_bindi, k_if1, k_if2, k_ops, k_br, k_rv, k_ri, k_rl, k_rz, k_rzi, k_01d, k_sw, k_01a, k_01b, k_01c, k_ifn, x_cmp, decide_eq_true_eq, Option.map_some, Option.bind_some, Option.toList_some, Option.toList_none, List.cons_append, List.nil_append, Nat.reduceAdd, true_or, or_true, Int.reduceNeg, Int.reduceEq, reduceIte, Nat.zero_le, Nat.reduceLeDiff, Nat.le_refl, Nat.reduceEqDiff, List.getElem?_cons_zero, List.getElem?_cons_succ, xst, List.set_cons_zero, List.set_cons_succ, List.map_cons, List.map_nil, List.sum_cons, List.sum_nil, xcat, Nat.reduceMul, Nat.reduceDiv, Nat.reduceMod, Nat.add_zero, e_nil, e_iconst, e_il, e_al, e_ll, e_istore, e_astore, e_lstore, e_ic, e_iadd, e_isub, e_imul, e_iand, e_ior, e_ixor, e_ishl, e_ishr, e_ineg, e_dupi, e_dupr, e_dupx, e_dup2, e_popi, er_g0, er_g1, er_g2, er_g3, er_g4, er_g5, er_g6, er_g7, er_g8, er_g9, er_g10, er_g11, er_g12, er_g13, er_g14, er_g15, er_g16, er_g17, er_g18, er_g19, er_g20, er_g21, er_g22, er_g23, er_g24, er_g25, er_g26, er_g27, er_g28, er_g29, er_g30, er_g31, er_g32, er_g33, er_g34, er_g35, er_g36, er_g37, er_g38, er_g39, er_g40, er_g41, er_g42, er_g43, er_g44, er_g45, er_g46, er_g47, er_s1, er_s2, er_s5, er_s6, er_s8, er_s10, er_s11, er_s13, er_s14, er_s15, er_s16, er_s20, er_s23, er_s24, er_s25, er_s28, er_s30, er_s31, er_s32, er_s33, er_s42, er_s43, er_s44, er_s21a, er_s21b, er_s12a, er_s12b, isc_R, rE_1, hb, Int.le_refl]
          · have hs : xit (fun k t => xfu t k (s.2.1 k)) (i + 1) s.2.2 = xfu (xit (fun k t => xfu t k (s.2.1 k)) i s.2.2) i (s.2.1 i) := rfl
            rw [hs]
            generalize xit (fun k t => xfu t k (s.2.1 k)) i s.2.2 = t
            have hk2 : ¬ (B : Int) ≤ (i : Int) := by omega
            have x1 : xw ((i : Int) + 1) = (i : Int) + 1 := xw_id (by omega) (by omega)
            simp -implicitDefEqProofs (disch := first | exact isc_R | (simp only [List.map_cons, List.map_nil, List.sum_cons, List.sum_nil, xcat, Nat.reduceAdd, Nat.reduceLeDiff, Nat.zero_le]; done) | omega) only [lX12_goTrain_32, k_p_sq, k_p_blk, k_sq0, k_sq11, k_sq12, k_sq13, k_sq14, k_sq15, k_sqr, k_sqi, k_blk0, k_blk1, k_blk2, k_blk3, k_blk4, k_blk5, k_blkr, k_blki, k_finr, k_fini, k_mapi, k_bindi, k_if1, k_if2, k_ops, k_br, k_rv, k_ri, k_rl, k_rz, k_rzi, k_01d, k_sw, k_01a, k_01b, k_01c, k_ifn, x_cmp, decide_eq_true_eq, Option.map_some, Option.bind_some, Option.toList_some, Option.toList_none, List.cons_append, List.nil_append, Nat.reduceAdd, true_or, or_true, Int.reduceNeg, Int.reduceEq, reduceIte, Nat.zero_le, Nat.reduceLeDiff, Nat.le_refl, Nat.reduceEqDiff, List.getElem?_cons_zero, List.getElem?_cons_succ, xst, List.set_cons_zero, List.set_cons_succ, List.map_cons, List.map_nil, List.sum_cons, List.sum_nil, xcat, Nat.reduceMul, Nat.reduceDiv, Nat.reduceMod, Nat.add_zero, e_nil, e_iconst, e_il, e_al, e_ll, e_istore, e_astore, e_lstore, e_ic, e_iadd, e_isub, e_imul, e_iand, e_ior, e_ixor, e_ishl, e_ishr, e_ineg, e_dupi, e_dupr, e_dupx, e_dup2, e_popi, er_g0, er_g1, er_g2, er_g3, er_g4, er_g5, er_g6, er_g7, er_g8, er_g9, er_g10, er_g11, er_g12, er_g13, er_g14, er_g15, er_g16, er_g17, er_g18, er_g19, er_g20, er_g21, er_g22, er_g23, er_g24, er_g25, er_g26, er_g27, er_g28, er_g29, er_g30, er_g31, er_g32, er_g33, er_g34, er_g35, er_g36, er_g37, er_g38, er_g39, er_g40, er_g41, er_g42, er_g43, er_g44, er_g45, er_g46, er_g47, er_s1, er_s2, er_s5, er_s6, er_s8, er_s10, er_s11, er_s13, er_s14, er_s15, er_s16, er_s20, er_s23, er_s24, er_s25, er_s28, er_s30, er_s31, er_s32, er_s33, er_s42, er_s43, er_s44, er_s21a, er_s21b, er_s12a, er_s12b, isc_R, rE_1, hb, hk2, er_r16, er_w17, Int.reduceNeg, Int.reduceToNat, Int.toNat_natCast, Int.toNat_add_nat, rE_16, xr_a_j, rE_17, rE_p17, x1, e_iinc, Int.natCast_add, Int.cast_ofNat_Int]
        generalize kCpy B s.2.1 s.2.2 = t at key
        simp -implicitDefEqProofs (disch := first | exact isc_R | (simp only [List.map_cons, List.map_nil, List.sum_cons, List.sum_nil, xcat, Nat.reduceAdd, Nat.reduceLeDiff, Nat.zero_le]; done) | omega) only [fX12_goTrain, k_p_sq, k_p_blk, k_sq0, k_sq11, k_sq12, k_sq13, k_sq14, k_sq15, k_sqr, k_sqi, k_blk0, k_blk1, k_blk2, k_blk3, k_blk4, k_blk5, k_blkr, k_blki, k_finr, k_fini, k_mapi, k_bindi, k_if1, k_if2, k_ops, k_br, k_rv, k_ri, k_rl, k_rz, k_rzi, k_01d, k_sw, k_01a, k_01b, k_01c, k_ifn, x_cmp, decide_eq_true_eq, Option.map_some, Option.bind_some, Option.toList_some, Option.toList_none, List.cons_append, List.nil_append, Nat.reduceAdd, true_or, or_true, Int.reduceNeg, Int.reduceEq, reduceIte, Nat.zero_le, Nat.reduceLeDiff, Nat.le_refl, Nat.reduceEqDiff, List.getElem?_cons_zero, List.getElem?_cons_succ, xst, List.set_cons_zero, List.set_cons_succ, List.map_cons, List.map_nil, List.sum_cons, List.sum_nil, xcat, Nat.reduceMul, Nat.reduceDiv, Nat.reduceMod, Nat.add_zero, e_nil, e_iconst, e_il, e_al, e_ll, e_istore, e_astore, e_lstore, e_ic, e_iadd, e_isub, e_imul, e_iand, e_ior, e_ixor, e_ishl, e_ishr, e_ineg, e_dupi, e_dupr, e_dupx, e_dup2, e_popi, er_g0, er_g1, er_g2, er_g3, er_g4, er_g5, er_g6, er_g7, er_g8, er_g9, er_g10, er_g11, er_g12, er_g13, er_g14, er_g15, er_g16, er_g17, er_g18, er_g19, er_g20, er_g21, er_g22, er_g23, er_g24, er_g25, er_g26, er_g27, er_g28, er_g29, er_g30, er_g31, er_g32, er_g33, er_g34, er_g35, er_g36, er_g37, er_g38, er_g39, er_g40, er_g41, er_g42, er_g43, er_g44, er_g45, er_g46, er_g47, er_s1, er_s2, er_s5, er_s6, er_s8, er_s10, er_s11, er_s13, er_s14, er_s15, er_s16, er_s20, er_s23, er_s24, er_s25, er_s28, er_s30, er_s31, er_s32, er_s33, er_s42, er_s43, er_s44, er_s21a, er_s21b, er_s12a, er_s12b, isc_R, rE_1, hb, c1i, e_ll, er_g39, er_s39, rE_39, rE_p39, e_lcmp, c2i, key, Int.reduceLT]
  | d + 1, b, left, ch, s, hd, hl => by
    have hbB : ¬ (b : Int) = (B : Int) := by omega
    have hb6 : b < 6 := by omega
    have key : p_lop (lX12_goTrain_65 (gg (n + 2 + d))) ([.inr (.inr (.inl (1, 0))), .inl (b : Int), .inl (left : Int), .inl p, .inr (.inl ch), .inr (.inr (.inr 2)), .inl 0], [], hR h (rE q s)) = some (.inl 1, ([.inr (.inr (.inl (1, 0))), .inl (b : Int), .inl (left : Int), .inl p, .inr (.inl ch), .inr (.inr (.inr 2)), .inl ((left + 1 : Nat) : Int)], [], hR h (rE q (kGo B p (d + 1) b left ch s)))) := by
      unfold kGo
      refine k_for (fun i => ([.inr (.inr (.inl (1, 0))), .inl (b : Int), .inl (left : Int), .inl p, .inr (.inl ch), .inr (.inr (.inr 2)), .inl (i : Int)], [], hR h (rE q (xit (fun k s => kGo B p d (b + 1) (left - k) (kCh p ch k) (s.1, xfu s.2.1 b (k : Int), s.2.2)) i s)))) (left + 1) rfl ?_ (fun i hi => ?_)
      · generalize xit (fun k s => kGo B p d (b + 1) (left - k) (kCh p ch k) (s.1, xfu s.2.1 b (k : Int), s.2.2)) (left + 1) s = S
        have c1 : (left : Int) < ((left + 1 : Nat) : Int) := by omega
        simp -implicitDefEqProofs (disch := first | exact isc_R | (simp only [List.map_cons, List.map_nil, List.sum_cons, List.sum_nil, xcat, Nat.reduceAdd, Nat.reduceLeDiff, Nat.zero_le]; done) | omega) only [lX12_goTrain_65, k_p_sq, k_p_blk, k_sq0, k_sq11, k_sq12, k_sq13, k_sq14, k_sq15, k_sqr, k_sqi, k_blk0, k_blk1, k_blk2, k_blk3, k_blk4, k_blk5, k_blkr, k_blki, k_finr, k_fini, k_mapi, k_bindi, k_if1, k_if2, k_ops, k_br, k_rv, k_ri, k_rl, k_rz, k_rzi, k_01d, k_sw, k_01a, k_01b, k_01c, k_ifn, x_cmp, decide_eq_true_eq, Option.map_some, Option.bind_some, Option.toList_some, Option.toList_none, List.cons_append, List.nil_append, Nat.reduceAdd, true_or, or_true, Int.reduceNeg, Int.reduceEq, reduceIte, Nat.zero_le, Nat.reduceLeDiff, Nat.le_refl, Nat.reduceEqDiff, List.getElem?_cons_zero, List.getElem?_cons_succ, xst, List.set_cons_zero, List.set_cons_succ, List.map_cons, List.map_nil, List.sum_cons, List.sum_nil, xcat, Nat.reduceMul, Nat.reduceDiv, Nat.reduceMod, Nat.add_zero, e_nil, e_iconst, e_il, e_al, e_ll, e_istore, e_astore, e_lstore, e_ic, e_iadd, e_isub, e_imul, e_iand, e_ior, e_ixor, e_ishl, e_ishr, e_ineg, e_dupi, e_dupr, e_dupx, e_dup2, e_popi, er_g0, er_g1, er_g2, er_g3, er_g4, er_g5, er_g6, er_g7, er_g8, er_g9, er_g10, er_g11, er_g12, er_g13, er_g14, er_g15, er_g16, er_g17, er_g18, er_g19, er_g20, er_g21, er_g22, er_g23, er_g24, er_g25, er_g26, er_g27, er_g28, er_g29, er_g30, er_g31, er_g32, er_g33, er_g34, er_g35, er_g36, er_g37, er_g38, er_g39, er_g40, er_g41, er_g42, er_g43, er_g44, er_g45, er_g46, er_g47, er_s1, er_s2, er_s5, er_s6, er_s8, er_s10, er_s11, er_s13, er_s14, er_s15, er_s16, er_s20, er_s23, er_s24, er_s25, er_s28, er_s30, er_s31, er_s32, er_s33, er_s42, er_s43, er_s44, er_s21a, er_s21b, er_s12a, er_s12b, isc_R, c1]
      · have hs : xit (fun k s => kGo B p d (b + 1) (left - k) (kCh p ch k) (s.1, xfu s.2.1 b (k : Int), s.2.2)) (i + 1) s = kGo B p d (b + 1) (left - i) (kCh p ch i) ((xit (fun k s => kGo B p d (b + 1) (left - k) (kCh p ch k) (s.1, xfu s.2.1 b (k : Int), s.2.2)) i s).1, xfu (xit (fun k s => kGo B p d (b + 1) (left - k) (kCh p ch k) (s.1, xfu s.2.1 b (k : Int), s.2.2)) i s).2.1 b (i : Int), (xit (fun k s => kGo B p d (b + 1) (left - k) (kCh p ch k) (s.1, xfu s.2.1 b (k : Int), s.2.2)) i s).2.2) := rfl
        rw [hs]
        generalize xit (fun k s => kGo B p d (b + 1) (left - k) (kCh p ch k) (s.1, xfu s.2.1 b (k : Int), s.2.2)) i s = S
        have ih := r_goTrain hB hb (p := p) d (b + 1) (left - i) (kCh p ch i) (S.1, xfu S.2.1 b (i : Int), S.2.2) (by omega) (by omega)
        rw [show ((left - i : Nat) : Int) = (left : Int) - (i : Int) from by omega, show ((b + 1 : Nat) : Int) = (b : Int) + 1 from by omega] at ih
        generalize kGo B p d (b + 1) (left - i) (kCh p ch i) (S.1, xfu S.2.1 b (i : Int), S.2.2) = S2 at ih
        unfold kCh at ih
        have e1 := fun v => r_power (n := n + 1 + d) (H := hR h (rE q (S.1, xfu S.2.1 b (i : Int), S.2.2))) v (k := i) (by omega)
        have hp10 := kPow_10 (k := i) (by omega)
        rw [show n + 1 + d + 1 = n + 2 + d from by omega] at e1
        have hk2 : ¬ (left : Int) < (i : Int) := by omega
        have x1 : xw ((i : Int) + 1) = (i : Int) + 1 := xw_id (by omega) (by omega)
        have x2 : xw ((b : Int) + 1) = (b : Int) + 1 := xw_id (by omega) (by omega)
        have x3 : xw ((left : Int) - (i : Int)) = (left : Int) - (i : Int) := xw_id (by omega) (by omega)
        clear hs
        generalize n + 2 + d = N at ih e1
        have e2 := e1 10
        have e3 := e1 (xw (10 - p))
        clear e1
        generalize kPow 10 i = p10 at ih e2 hp10
        generalize kPow (xw (10 - p)) i = pp at ih e3
        simp -implicitDefEqProofs (disch := first | exact isc_R | (simp only [List.map_cons, List.map_nil, List.sum_cons, List.sum_nil, xcat, Nat.reduceAdd, Nat.reduceLeDiff, Nat.zero_le]; done) | omega) only [lX12_goTrain_65, k_p_sq, k_p_blk, k_sq0, k_sq11, k_sq12, k_sq13, k_sq14, k_sq15, k_sqr, k_sqi, k_blk0, k_blk1, k_blk2, k_blk3, k_blk4, k_blk5, k_blkr, k_blki, k_finr, k_fini, k_mapi, k_bindi, k_if1, k_if2, k_ops, k_br, k_rv, k_ri, k_rl, k_rz, k_rzi, k_01d, k_sw, k_01a, k_01b, k_01c, k_ifn, x_cmp, decide_eq_true_eq, Option.map_some, Option.bind_some, Option.toList_some, Option.toList_none, List.cons_append, List.nil_append, Nat.reduceAdd, true_or, or_true, Int.reduceNeg, Int.reduceEq, reduceIte, Nat.zero_le, Nat.reduceLeDiff, Nat.le_refl, Nat.reduceEqDiff, List.getElem?_cons_zero, List.getElem?_cons_succ, xst, List.set_cons_zero, List.set_cons_succ, List.map_cons, List.map_nil, List.sum_cons, List.sum_nil, xcat, Nat.reduceMul, Nat.reduceDiv, Nat.reduceMod, Nat.add_zero, e_nil, e_iconst, e_il, e_al, e_ll, e_istore, e_astore, e_lstore, e_ic, e_iadd, e_isub, e_imul, e_iand, e_ior, e_ixor, e_ishl, e_ishr, e_ineg, e_dupi, e_dupr, e_dupx, e_dup2, e_popi, er_g0, er_g1, er_g2, er_g3, er_g4, er_g5, er_g6, er_g7, er_g8, er_g9, er_g10, er_g11, er_g12, er_g13, er_g14, er_g15, er_g16, er_g17, er_g18, er_g19, er_g20, er_g21, er_g22, er_g23, er_g24, er_g25, er_g26, er_g27, er_g28, er_g29, er_g30, er_g31, er_g32, er_g33, er_g34, er_g35, er_g36, er_g37, er_g38, er_g39, er_g40, er_g41, er_g42, er_g43, er_g44, er_g45, er_g46, er_g47, er_s1, er_s2, er_s5, er_s6, er_s8, er_s10, er_s11, er_s13, er_s14, er_s15, er_s16, er_s20, er_s23, er_s24, er_s25, er_s28, er_s30, er_s31, er_s32, er_s33, er_s42, er_s43, er_s44, er_s21a, er_s21b, er_s12a, er_s12b, isc_R, e_ll, hk2, er_w16, Int.reduceNeg, Int.reduceToNat, Int.toNat_natCast, Int.toNat_add_nat, xr_a_j, rE_16, rE_p16, x2, x3, e_lconst, ec265, e2, e3, e_i2l, e_lsub, e_lmul, e_ldiv hp10, ec266, ih, x1, e_iinc, Int.natCast_add, Int.cast_ofNat_Int]
    rw [show n + 2 + (d + 1) = n + 2 + d + 1 from rfl, gr266]
    generalize kGo B p (d + 1) b left ch s = S at key
    generalize n + 2 + d = N at key
    simp -implicitDefEqProofs (disch := first | exact isc_R | (simp only [List.map_cons, List.map_nil, List.sum_cons, List.sum_nil, xcat, Nat.reduceAdd, Nat.reduceLeDiff, Nat.zero_le]; done) | omega) only [fX12_goTrain, k_p_sq, k_p_blk, k_sq0, k_sq11, k_sq12, k_sq13, k_sq14, k_sq15, k_sqr, k_sqi, k_blk0, k_blk1, k_blk2, k_blk3, k_blk4, k_blk5, k_blkr, k_blki, k_finr, k_fini, k_mapi, k_bindi, k_if1, k_if2, k_ops, k_br, k_rv, k_ri, k_rl, k_rz, k_rzi, k_01d, k_sw, k_01a, k_01b, k_01c, k_ifn, x_cmp, decide_eq_true_eq, Option.map_some, Option.bind_some, Option.toList_some, Option.toList_none, List.cons_append, List.nil_append, Nat.reduceAdd, true_or, or_true, Int.reduceNeg, Int.reduceEq, reduceIte, Nat.zero_le, Nat.reduceLeDiff, Nat.le_refl, Nat.reduceEqDiff, List.getElem?_cons_zero, List.getElem?_cons_succ, xst, List.set_cons_zero, List.set_cons_succ, List.map_cons, List.map_nil, List.sum_cons, List.sum_nil, xcat, Nat.reduceMul, Nat.reduceDiv, Nat.reduceMod, Nat.add_zero, e_nil, e_iconst, e_il, e_al, e_ll, e_istore, e_astore, e_lstore, e_ic, e_iadd, e_isub, e_imul, e_iand, e_ior, e_ixor, e_ishl, e_ishr, e_ineg, e_dupi, e_dupr, e_dupx, e_dup2, e_popi, er_g0, er_g1, er_g2, er_g3, er_g4, er_g5, er_g6, er_g7, er_g8, er_g9, er_g10, er_g11, er_g12, er_g13, er_g14, er_g15, er_g16, er_g17, er_g18, er_g19, er_g20, er_g21, er_g22, er_g23, er_g24, er_g25, er_g26, er_g27, er_g28, er_g29, er_g30, er_g31, er_g32, er_g33, er_g34, er_g35, er_g36, er_g37, er_g38, er_g39, er_g40, er_g41, er_g42, er_g43, er_g44, er_g45, er_g46, er_g47, er_s1, er_s2, er_s5, er_s6, er_s8, er_s10, er_s11, er_s13, er_s14, er_s15, er_s16, er_s20, er_s23, er_s24, er_s25, er_s28, er_s30, er_s31, er_s32, er_s33, er_s42, er_s43, er_s44, er_s21a, er_s21b, er_s12a, er_s12b, isc_R, rE_1, hb, hbB, key]
def sTrain (r : xR) (m p : Int) : Int × xR :=
  if (1 ≤ m ∧ m ≤ 8) ∧ (0 ≤ p ∧ p ≤ 10) ∧ ¬ r.1 1 = 0 then
    (let S := kGo (kB (rK r)) p (kB (rK r)) 0 m.toNat 10000 (-1, fun _ => 0, fun _ => 0)
     (xw S.1, rTell (xr_i r 11 0) ((List.range (kB (rK r))).map fun b => S.2.2 b)))
  else (-1, xr_i r 11 0)
/-- what rows hold behind the boats does not matter -/
def trEq (B : Nat) (s s' : xTr) : Prop := s.1 = s'.1 ∧ (∀ i, i < B → s.2.2 i = s'.2.2 i)
theorem kCpy_in (B : Nat) (f t : Nat → Int) : ∀ m i, i < m → kCpy m f t i = f i
  | 0, i, hi => by omega
  | m + 1, i, hi => by
    show xfu (kCpy m f t) m (f m) i = f i
    unfold xfu
    split
    · rename_i c; rw [c]
    · exact kCpy_in B f t m i (by omega)
/-- the rows tried agree below b, the best ones everywhere below B -/
theorem kGo_eq {B : Nat} {p : Int} : ∀ (d b left : Nat) (ch : Int) (s s' : xTr), b + d = B → (∀ i, i < b → s.2.1 i = s'.2.1 i) → s.1 = s'.1 → (s.1 = -1 ∨ ∀ i, i < B → s.2.2 i = s'.2.2 i) → (∀ i, i < b → (kGo B p d b left ch s).2.1 i = s.2.1 i ∧ (kGo B p d b left ch s').2.1 i = s'.2.1 i) ∧ (kGo B p d b left ch s).1 = (kGo B p d b left ch s').1 ∧ ((kGo B p d b left ch s).1 = -1 ∨ ∀ i, i < B → (kGo B p d b left ch s).2.2 i = (kGo B p d b left ch s').2.2 i)
  | 0, b, left, ch, s, s', hd, e1, e2, e3 => by
    unfold kGo
    rw [← e2]
    split
    · exact ⟨fun i hi => ⟨rfl, rfl⟩, e2, e3⟩
    · refine ⟨fun i hi => ⟨rfl, rfl⟩, rfl, Or.inr fun i hi => ?_⟩
      dsimp only
      rw [kCpy_in B _ _ B i hi, kCpy_in B _ _ B i hi, e1 i (by omega)]
  | d + 1, b, left, ch, s, s', hd, e1, e2, e3 => by
    unfold kGo
    have key : ∀ m, (∀ i, i < b → (xit (fun k s => kGo B p d (b + 1) (left - k) (kCh p ch k) (s.1, xfu s.2.1 b (k : Int), s.2.2)) m s).2.1 i = s.2.1 i ∧ (xit (fun k s => kGo B p d (b + 1) (left - k) (kCh p ch k) (s.1, xfu s.2.1 b (k : Int), s.2.2)) m s').2.1 i = s'.2.1 i) ∧ (xit (fun k s => kGo B p d (b + 1) (left - k) (kCh p ch k) (s.1, xfu s.2.1 b (k : Int), s.2.2)) m s).1 = (xit (fun k s => kGo B p d (b + 1) (left - k) (kCh p ch k) (s.1, xfu s.2.1 b (k : Int), s.2.2)) m s').1 ∧ ((xit (fun k s => kGo B p d (b + 1) (left - k) (kCh p ch k) (s.1, xfu s.2.1 b (k : Int), s.2.2)) m s).1 = -1 ∨ ∀ i, i < B → (xit (fun k s => kGo B p d (b + 1) (left - k) (kCh p ch k) (s.1, xfu s.2.1 b (k : Int), s.2.2)) m s).2.2 i = (xit (fun k s => kGo B p d (b + 1) (left - k) (kCh p ch k) (s.1, xfu s.2.1 b (k : Int), s.2.2)) m s').2.2 i) := fun m => by
      induction m with
      | zero => exact ⟨fun i hi => ⟨rfl, rfl⟩, e2, e3⟩
      | succ m ih =>
        obtain ⟨i1, i2, i3⟩ := ih
        have hs : ∀ s, xit (fun k s => kGo B p d (b + 1) (left - k) (kCh p ch k) (s.1, xfu s.2.1 b (k : Int), s.2.2)) (m + 1) s = kGo B p d (b + 1) (left - m) (kCh p ch m) ((xit (fun k s => kGo B p d (b + 1) (left - k) (kCh p ch k) (s.1, xfu s.2.1 b (k : Int), s.2.2)) m s).1, xfu (xit (fun k s => kGo B p d (b + 1) (left - k) (kCh p ch k) (s.1, xfu s.2.1 b (k : Int), s.2.2)) m s).2.1 b (m : Int), (xit (fun k s => kGo B p d (b + 1) (left - k) (kCh p ch k) (s.1, xfu s.2.1 b (k : Int), s.2.2)) m s).2.2) := fun s => rfl
        rw [hs s, hs s']
        generalize xit (fun k s => kGo B p d (b + 1) (left - k) (kCh p ch k) (s.1, xfu s.2.1 b (k : Int), s.2.2)) m s = S at i1 i2 i3
        generalize xit (fun k s => kGo B p d (b + 1) (left - k) (kCh p ch k) (s.1, xfu s.2.1 b (k : Int), s.2.2)) m s' = S' at i1 i2 i3
        obtain ⟨j1, j2, j3⟩ := kGo_eq (B := B) (p := p) d (b + 1) (left - m) (kCh p ch m) (S.1, xfu S.2.1 b (m : Int), S.2.2) (S'.1, xfu S'.2.1 b (m : Int), S'.2.2) (by omega) (fun i hi => by
          dsimp only
          unfold xfu
          split
          · rfl
          · rw [(i1 i (by omega)).1, (i1 i (by omega)).2, e1 i (by omega)]) i2 i3
        refine ⟨fun i hi => ?_, j2, j3⟩
        obtain ⟨k1, k2⟩ := j1 i (by omega)
        rw [k1, k2]
        dsimp only
        rw [xfu_ne _ _ (by omega), xfu_ne _ _ (by omega)]
        exact i1 i hi
    exact key (left + 1)
end TR
