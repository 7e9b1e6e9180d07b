/-! ===== where boats are ===== -/
def kSail (B m : Nat) (a : Nat → Int) : Nat → Int := xit (fun _ a => xit boat1 B a) m a
theorem kSail_eq {B N M : Nat} {a b : Nat → Int} (hB : B ≤ 6) {B' : Nat} (hB' : B' ≤ B) (e : kEq B N M a b) : ∀ m, kEq B N M (kSail B' m a) (kSail B' m b)
  | 0 => e
  | m + 1 => boats_eq hB (kSail_eq hB hB' e m) B' hB'
theorem rApart_eq {B N M : Nat} {a b : Nat → Int} (hB : B ≤ 6) (e : kEq B N M a b) {x y : Nat} (hx : x < B) (hy : y < B) : rApart a x y = rApart b x y := by
  have x0 : a x = b x := e _ (by unfold kLv; omega)
  have x6 : a (6 + x) = b (6 + x) := e _ (by unfold kLv; omega)
  have y0 : a y = b y := e _ (by unfold kLv; omega)
  have y6 : a (6 + y) = b (6 + y) := e _ (by unfold kLv; omega)
  unfold rApart
  rw [x0, x6, y0, y6]
def sWhere (r : xR) (b m : Int) : Int × xR :=
  if (0 ≤ b ∧ b < r.1 1) ∧ (0 ≤ m ∧ m ≤ 60) then
    (let a := kSail (kB (rK r)) m.toNat (r.2 1)
     (xw (xw (16 * a (6 + b.toNat)) + a b.toNat), rTell (xr_i r 11 0) [a (12 + b.toNat), a (18 + b.toNat)]))
  else (-1, xr_i r 11 0)
def kNr1 (B : Nat) (a : Nat → Int) (b c : Nat) (i : Nat) (s : Int × Int) : Int × Int :=
  let d := rApart (kSail B (i + 1) a) b c
  if s.2 ≤ d then s else (((i + 1 : Nat) : Int), d)
def sNearest (r : xR) (b c : Int) : Int × xR :=
  if (0 ≤ b ∧ b < r.1 1) ∧ (0 ≤ c ∧ c < r.1 1) ∧ ¬ b = c then
    (let S := xit (kNr1 (kB (rK r)) (r.2 1) b.toNat c.toNat) 60 (0, rApart (r.2 1) b.toNat c.toNat)
     (S.1, rTell (xr_i r 11 0) [S.2]))
  else (-1, xr_i r 11 0)
theorem kNr_eq {B N M : Nat} {a a' : Nat → Int} (hB : B ≤ 6) {B' : Nat} (hB' : B' ≤ B) (e : kEq B N M a a') {b c : Nat} (hb : b < B) (hc : c < B) (s : Int × Int) : ∀ m, xit (kNr1 B' a b c) m s = xit (kNr1 B' a' b c) m s
  | 0 => by show s = s; rfl
  | m + 1 => by
    show kNr1 B' a b c m (xit (kNr1 B' a b c) m s) = kNr1 B' a' b c m (xit (kNr1 B' a' b c) m s)
    rw [kNr_eq hB hB' e hb hc s m]
    unfold kNr1
    rw [rApart_eq hB (kSail_eq hB hB' e (m + 1)) hb hc]
section WH
variable {n : Nat} {h : xH} {r : xR} {H : xH} {j : Nat} {F : xFl} {J : xR}
set_option maxHeartbeats 800000 in
theorem R_where (hr : rOk r) (b m : Int) : ∃ r', (gg (n + 3) 238).2 [.inr (.inr (.inl (1, 0))), .inl b, .inl m] (hR h r) = some (some (.inl (sWhere r b m).1), hR h r') ∧ rC r' = rC (sWhere r b m).2 := by
  have f1 := r_isBoat (n := n) (h := h) (r := xr_i r 11 0) b
  rw [show (xr_i r 11 0).1 1 = r.1 1 from rfl] at f1
  simp only [rOk_isB hr] at f1
  have f0 := fun x => r_isLook (n := n) (H := hR h (xr_i r 11 0)) x
  unfold sWhere
  by_cases c1 : 0 ≤ b ∧ b < r.1 1
  · by_cases c2 : 0 ≤ m ∧ m ≤ 60
    · rw [if_pos ⟨c1, c2⟩]
      dsimp only
      have f2 := r_then (n := n + 1) (h := h) (r := xr_i r 11 0)
      have e0 : kEq 6 8 10 ((rThen (xr_i r 11 0)).2 14) (r.2 1) := rThen_eq (xr_i r 11 0)
      have hC : rC (rThen (xr_i r 11 0)) = rC (xr_i r 11 0) := rThen_c _
      have hB : (rThen (xr_i r 11 0)).1 1 = (kB (rK r) : Int) := by have := hr.1.1; show r.1 1 = ((r.1 1).toNat : Int); omega
      have hb6 : b < 6 := by have := hr.1.2; omega
      have hB6 := rOk_B hr
      generalize rThen (xr_i r 11 0) = q at f2 e0 hC hB
      have key : p_lop (lX12_where_36 (gg (n + 2))) ([.inr (.inr (.inl (1, 0))), .inl b, .inl m, .inl 0], [], hR h q) = some (.inl 1, ([.inr (.inr (.inl (1, 0))), .inl b, .inl m, .inl m], [], hR h (xr_j q 14 (kSail (kB (rK r)) m.toNat (q.2 14))))) := by
        refine k_for (fun i => ([.inr (.inr (.inl (1, 0))), .inl b, .inl m, .inl (i : Int)], [], hR h (xr_j q 14 (kSail (kB (rK r)) i (q.2 14))))) m.toNat (by show (([.inr (.inr (.inl (1, 0))), .inl b, .inl m, .inl 0], [], hR h (xr_j q 14 (q.2 14))) : xS) = _; rw [xr_j_0]) ?_ (fun i hi => ?_)
        · have hm : ((m.toNat : Nat) : Int) = m := by omega
          simp -implicitDefEqProofs (disch := first | exact isc_R | (simp only [List.map_cons, List.map_nil, List.sum_cons, List.sum_nil, xcat, Nat.reduceAdd, Nat.reduceLeDiff, Nat.zero_le]; done) | omega) only [lX12_where_36, k_p_sq, k_p_blk, k_sq0, k_sq11, k_sq12, k_sq13, k_sq14, k_sq15, k_sqr, k_sqi, k_blk0, k_blk1, k_blk2, k_blk3, k_blk4, k_blk5, k_blkr, k_blki, k_finr, k_fini, k_mapi, k_bindi, k_if1, k_if2, k_ops, k_br, k_rv, k_ri, k_rl, k_rz, k_rzi, k_01d, k_sw, k_01a, k_01b, k_01c, k_ifn, x_cmp, decide_eq_true_eq, Option.map_some, Option.bind_some, Option.toList_some, Option.toList_none, List.cons_append, List.nil_append, Nat.reduceAdd, true_or, or_true, Int.reduceNeg, Int.reduceEq, reduceIte, Nat.zero_le, Nat.reduceLeDiff, Nat.le_refl, Nat.reduceEqDiff, List.getElem?_cons_zero, List.getElem?_cons_succ, xst, List.set_cons_zero, List.set_cons_succ, List.map_cons, List.map_nil, List.sum_cons, List.sum_nil, xcat, Nat.reduceMul, Nat.reduceDiv, Nat.reduceMod, Nat.add_zero, e_nil, e_iconst, e_il, e_al, e_ll, e_istore, e_astore, e_lstore, e_ic, e_iadd, e_isub, e_imul, e_iand, e_ior, e_ixor, e_ishl, e_ishr, e_ineg, e_dupi, e_dupr, e_dupx, e_dup2, e_popi, er_g0, er_g1, er_g2, er_g3, er_g4, er_g5, er_g6, er_g7, er_g8, er_g9, er_g10, er_g11, er_g12, er_g13, er_g14, er_g15, er_g16, er_g17, er_g18, er_g19, er_g20, er_g21, er_g22, er_g23, er_g24, er_g25, er_g26, er_g27, er_g28, er_g29, er_g30, er_g31, er_g32, er_g33, er_g34, er_g35, er_g36, er_g37, er_g38, er_g39, er_g40, er_g41, er_g42, er_g43, er_g44, er_g45, er_g46, er_g47, er_s1, er_s2, er_s5, er_s6, er_s8, er_s10, er_s11, er_s13, er_s14, er_s15, er_s16, er_s20, er_s23, er_s24, er_s25, er_s28, er_s30, er_s31, er_s32, er_s33, er_s42, er_s43, er_s44, er_s21a, er_s21b, er_s12a, er_s12b, isc_R, hm, Int.le_refl]
        · have hs : kSail (kB (rK r)) (i + 1) (q.2 14) = xit boat1 (kB (rK r)) (kSail (kB (rK r)) i (q.2 14)) := rfl
          rw [hs]
          generalize kSail (kB (rK r)) i (q.2 14) = a
          have f3 := r_goBoats (n := n) (h := h) (r := xr_j q 14 a) (j := 14) (B := kB (rK r)) (by decide) hB6 hB
          rw [xr_j_2, xr_j_j] at f3
          have hk2 : ¬ m ≤ (i : Int) := by omega
          have x1 : xw ((i : Int) + 1) = (i : Int) + 1 := xw_id (by omega) (by omega)
          clear hr e0
          simp -implicitDefEqProofs (disch := first | exact isc_R | (simp only [List.map_cons, List.map_nil, List.sum_cons, List.sum_nil, xcat, Nat.reduceAdd, Nat.reduceLeDiff, Nat.zero_le]; done) | omega) only [lX12_where_36, k_p_sq, k_p_blk, k_sq0, k_sq11, k_sq12, k_sq13, k_sq14, k_sq15, k_sqr, k_sqi, k_blk0, k_blk1, k_blk2, k_blk3, k_blk4, k_blk5, k_blkr, k_blki, k_finr, k_fini, k_mapi, k_bindi, k_if1, k_if2, k_ops, k_br, k_rv, k_ri, k_rl, k_rz, k_rzi, k_01d, k_sw, k_01a, k_01b, k_01c, k_ifn, x_cmp, decide_eq_true_eq, Option.map_some, Option.bind_some, Option.toList_some, Option.toList_none, List.cons_append, List.nil_append, Nat.reduceAdd, true_or, or_true, Int.reduceNeg, Int.reduceEq, reduceIte, Nat.zero_le, Nat.reduceLeDiff, Nat.le_refl, Nat.reduceEqDiff, List.getElem?_cons_zero, List.getElem?_cons_succ, xst, List.set_cons_zero, List.set_cons_succ, List.map_cons, List.map_nil, List.sum_cons, List.sum_nil, xcat, Nat.reduceMul, Nat.reduceDiv, Nat.reduceMod, Nat.add_zero, e_nil, e_iconst, e_il, e_al, e_ll, e_istore, e_astore, e_lstore, e_ic, e_iadd, e_isub, e_imul, e_iand, e_ior, e_ixor, e_ishl, e_ishr, e_ineg, e_dupi, e_dupr, e_dupx, e_dup2, e_popi, er_g0, er_g1, er_g2, er_g3, er_g4, er_g5, er_g6, er_g7, er_g8, er_g9, er_g10, er_g11, er_g12, er_g13, er_g14, er_g15, er_g16, er_g17, er_g18, er_g19, er_g20, er_g21, er_g22, er_g23, er_g24, er_g25, er_g26, er_g27, er_g28, er_g29, er_g30, er_g31, er_g32, er_g33, er_g34, er_g35, er_g36, er_g37, er_g38, er_g39, er_g40, er_g41, er_g42, er_g43, er_g44, er_g45, er_g46, er_g47, er_s1, er_s2, er_s5, er_s6, er_s8, er_s10, er_s11, er_s13, er_s14, er_s15, er_s16, er_s20, er_s23, er_s24, er_s25, er_s28, er_s30, er_s31, er_s32, er_s33, er_s42, er_s43, er_s44, er_s21a, er_s21b, er_s12a, er_s12b, isc_R, hk2, ec206, f3, x1, Int.natCast_add, Int.cast_ofNat_Int, e_iinc]
      have e1 := kSail_eq (B' := kB (rK r)) (by decide) hB6 e0 m.toNat
      generalize kSail (kB (rK r)) m.toNat (q.2 14) = a at key e1
      generalize kSail (kB (rK r)) m.toNat (r.2 1) = a' at e1
      have x0 : a b.toNat = a' b.toNat := e1 _ (by unfold kLv; omega)
      have x6 : a (6 + b.toNat) = a' (6 + b.toNat) := e1 _ (by unfold kLv; omega)
      have x12 : a (12 + b.toNat) = a' (12 + b.toNat) := e1 _ (by unfold kLv; omega)
      have x18 : a (18 + b.toNat) = a' (18 + b.toNat) := e1 _ (by unfold kLv; omega)
      rw [← x0, ← x6, ← x12, ← x18]
      have g3 := r_tellN (n := n + 1) (h := h) (r := xr_j q 14 a) (a (12 + b.toNat)) (vs := []) (by decide)
      have g4 := r_tellN (n := n + 1) (h := h) (r := xr_j q 14 a) (a (18 + b.toNat)) (vs := [a (12 + b.toNat)]) (by show 1 < 16; decide)
      have g14 : ∀ vs, (rTell (xr_j q 14 a) vs).2 14 = a := fun vs => by rw [rTell_2 _ _ (by decide), xr_j_2]
      refine ⟨rTell (xr_j q 14 a) [a (12 + b.toNat), a (18 + b.toNat)], ?_, by rw [rC_tell, rC_tell, rC_j (c := 14) rfl, hC]⟩
      have y0 : xw (0 + b) = b := by rw [Int.zero_add]; exact xw_id (by omega) (by omega)
      have y6 : xw (6 + b) = 6 + b := xw_id (by omega) (by omega)
      have y12 : xw (12 + b) = 12 + b := xw_id (by omega) (by omega)
      have y18 : xw (18 + b) = 18 + b := xw_id (by omega) (by omega)
      have n6 : (6 + b).toNat = 6 + b.toNat := by omega
      have n12 : (12 + b).toNat = 12 + b.toNat := by omega
      have n18 : (18 + b).toNat = 18 + b.toNat := by omega
      rw [gr238]
      clear hr e0 e1 hC hB x0 x6 x12 x18
      simp -implicitDefEqProofs (disch := first | exact isc_R | (simp only [List.map_cons, List.map_nil, List.sum_cons, List.sum_nil, xcat, Nat.reduceAdd, Nat.reduceLeDiff, Nat.zero_le]; done) | omega) only [fX12_where, k_p_sq, k_p_blk, k_sq0, k_sq11, k_sq12, k_sq13, k_sq14, k_sq15, k_sqr, k_sqi, k_blk0, k_blk1, k_blk2, k_blk3, k_blk4, k_blk5, k_blkr, k_blki, k_finr, k_fini, k_mapi, k_bindi, k_if1, k_if2, k_ops, k_br, k_rv, k_ri, k_rl, k_rz, k_rzi, k_01d, k_sw, k_01a, k_01b, k_01c, k_ifn, x_cmp, decide_eq_true_eq, Option.map_some, Option.bind_some, Option.toList_some, Option.toList_none, List.cons_append, List.nil_append, Nat.reduceAdd, true_or, or_true, Int.reduceNeg, Int.reduceEq, reduceIte, Nat.zero_le, Nat.reduceLeDiff, Nat.le_refl, Nat.reduceEqDiff, List.getElem?_cons_zero, List.getElem?_cons_succ, xst, List.set_cons_zero, List.set_cons_succ, List.map_cons, List.map_nil, List.sum_cons, List.sum_nil, xcat, Nat.reduceMul, Nat.reduceDiv, Nat.reduceMod, Nat.add_zero, e_nil, e_iconst, e_il, e_al, e_ll, e_istore, e_astore, e_lstore, e_ic, e_iadd, e_isub, e_imul, e_iand, e_ior, e_ixor, e_ishl, e_ishr, e_ineg, e_dupi, e_dupr, e_dupx, e_dup2, e_popi, er_g0, er_g1, er_g2, er_g3, er_g4, er_g5, er_g6, er_g7, er_g8, er_g9, er_g10, er_g11, er_g12, er_g13, er_g14, er_g15, er_g16, er_g17, er_g18, er_g19, er_g20, er_g21, er_g22, er_g23, er_g24, er_g25, er_g26, er_g27, er_g28, er_g29, er_g30, er_g31, er_g32, er_g33, er_g34, er_g35, er_g36, er_g37, er_g38, er_g39, er_g40, er_g41, er_g42, er_g43, er_g44, er_g45, er_g46, er_g47, er_s1, er_s2, er_s5, er_s6, er_s8, er_s10, er_s11, er_s13, er_s14, er_s15, er_s16, er_s20, er_s23, er_s24, er_s25, er_s28, er_s30, er_s31, er_s32, er_s33, er_s42, er_s43, er_s44, er_s21a, er_s21b, er_s12a, er_s12b, isc_R, ec175, f1, c1, true_and, false_and, or_self, or_true, true_or, or_false, false_or, and_true, and_false, and_self, not_true_eq_false, not_false_eq_true, ec237, f0, c2, ec213, f2, key, rTell_0, er_r14, y0, y6, y12, y18, n6, n12, n18, g14, ec174, g3, g4, Int.reduceEq]
    · rw [if_neg (fun c => c2 c.2)]
      refine ⟨_, ?_, rfl⟩
      rw [gr238]
      clear hr
      simp -implicitDefEqProofs (disch := first | exact isc_R | (simp only [List.map_cons, List.map_nil, List.sum_cons, List.sum_nil, xcat, Nat.reduceAdd, Nat.reduceLeDiff, Nat.zero_le]; done) | omega) only [fX12_where, k_p_sq, k_p_blk, k_sq0, k_sq11, k_sq12, k_sq13, k_sq14, k_sq15, k_sqr, k_sqi, k_blk0, k_blk1, k_blk2, k_blk3, k_blk4, k_blk5, k_blkr, k_blki, k_finr, k_fini, k_mapi, k_bindi, k_if1, k_if2, k_ops, k_br, k_rv, k_ri, k_rl, k_rz, k_rzi, k_01d, k_sw, k_01a, k_01b, k_01c, k_ifn, x_cmp, decide_eq_true_eq, Option.map_some, Option.bind_some, Option.toList_some, Option.toList_none, List.cons_append, List.nil_append, Nat.reduceAdd, true_or, or_true, Int.reduceNeg, Int.reduceEq, reduceIte, Nat.zero_le, Nat.reduceLeDiff, Nat.le_refl, Nat.reduceEqDiff, List.getElem?_cons_zero, List.getElem?_cons_succ, xst, List.set_cons_zero, List.set_cons_succ, List.map_cons, List.map_nil, List.sum_cons, List.sum_nil, xcat, Nat.reduceMul, Nat.reduceDiv, Nat.reduceMod, Nat.add_zero, e_nil, e_iconst, e_il, e_al, e_ll, e_istore, e_astore, e_lstore, e_ic, e_iadd, e_isub, e_imul, e_iand, e_ior, e_ixor, e_ishl, e_ishr, e_ineg, e_dupi, e_dupr, e_dupx, e_dup2, e_popi, er_g0, er_g1, er_g2, er_g3, er_g4, er_g5, er_g6, er_g7, er_g8, er_g9, er_g10, er_g11, er_g12, er_g13, er_g14, er_g15, er_g16, er_g17, er_g18, er_g19, er_g20, er_g21, er_g22, er_g23, er_g24, er_g25, er_g26, er_g27, er_g28, er_g29, er_g30, er_g31, er_g32, er_g33, er_g34, er_g35, er_g36, er_g37, er_g38, er_g39, er_g40, er_g41, er_g42, er_g43, er_g44, er_g45, er_g46, er_g47, er_s1, er_s2, er_s5, er_s6, er_s8, er_s10, er_s11, er_s13, er_s14, er_s15, er_s16, er_s20, er_s23, er_s24, er_s25, er_s28, er_s30, er_s31, er_s32, er_s33, er_s42, er_s43, er_s44, er_s21a, er_s21b, er_s12a, er_s12b, isc_R, ec175, f1, c1, true_and, false_and, or_self, or_true, true_or, or_false, false_or, and_true, and_false, and_self, not_true_eq_false, not_false_eq_true, ec237, f0, c2, Int.reduceEq]
  · rw [if_neg (fun c => c1 c.1)]
    refine ⟨_, ?_, rfl⟩
    rw [gr238]
    clear hr
    simp -implicitDefEqProofs (disch := first | exact isc_R | (simp only [List.map_cons, List.map_nil, List.sum_cons, List.sum_nil, xcat, Nat.reduceAdd, Nat.reduceLeDiff, Nat.zero_le]; done) | omega) only [fX12_where, k_p_sq, k_p_blk, k_sq0, k_sq11, k_sq12, k_sq13, k_sq14, k_sq15, k_sqr, k_sqi, k_blk0, k_blk1, k_blk2, k_blk3, k_blk4, k_blk5, k_blkr, k_blki, k_finr, k_fini, k_mapi, k_bindi, k_if1, k_if2, k_ops, k_br, k_rv, k_ri, k_rl, k_rz, k_rzi, k_01d, k_sw, k_01a, k_01b, k_01c, k_ifn, x_cmp, decide_eq_true_eq, Option.map_some, Option.bind_some, Option.toList_some, Option.toList_none, List.cons_append, List.nil_append, Nat.reduceAdd, true_or, or_true, Int.reduceNeg, Int.reduceEq, reduceIte, Nat.zero_le, Nat.reduceLeDiff, Nat.le_refl, Nat.reduceEqDiff, List.getElem?_cons_zero, List.getElem?_cons_succ, xst, List.set_cons_zero, List.set_cons_succ, List.map_cons, List.map_nil, List.sum_cons, List.sum_nil, xcat, Nat.reduceMul, Nat.reduceDiv, Nat.reduceMod, Nat.add_zero, e_nil, e_iconst, e_il, e_al, e_ll, e_istore, e_astore, e_lstore, e_ic, e_iadd, e_isub, e_imul, e_iand, e_ior, e_ixor, e_ishl, e_ishr, e_ineg, e_dupi, e_dupr, e_dupx, e_dup2, e_popi, er_g0, er_g1, er_g2, er_g3, er_g4, er_g5, er_g6, er_g7, er_g8, er_g9, er_g10, er_g11, er_g12, er_g13, er_g14, er_g15, er_g16, er_g17, er_g18, er_g19, er_g20, er_g21, er_g22, er_g23, er_g24, er_g25, er_g26, er_g27, er_g28, er_g29, er_g30, er_g31, er_g32, er_g33, er_g34, er_g35, er_g36, er_g37, er_g38, er_g39, er_g40, er_g41, er_g42, er_g43, er_g44, er_g45, er_g46, er_g47, er_s1, er_s2, er_s5, er_s6, er_s8, er_s10, er_s11, er_s13, er_s14, er_s15, er_s16, er_s20, er_s23, er_s24, er_s25, er_s28, er_s30, er_s31, er_s32, er_s33, er_s42, er_s43, er_s44, er_s21a, er_s21b, er_s12a, er_s12b, isc_R, ec175, f1, c1, true_and, false_and, or_self, or_true, true_or, or_false, false_or, and_true, and_false, and_self, not_true_eq_false, not_false_eq_true, Int.reduceEq]
set_option maxHeartbeats 800000 in
theorem R_nearest (hr : rOk r) (b c : Int) : ∃ r', (gg (n + 3) 247).2 [.inr (.inr (.inl (1, 0))), .inl b, .inl c] (hR h r) = some (some (.inl (sNearest r b c).1), hR h r') ∧ rC r' = rC (sNearest r b c).2 := by
  have f1 := fun x => r_isBoat (n := n) (h := h) (r := xr_i r 11 0) x
  rw [show (xr_i r 11 0).1 1 = r.1 1 from rfl] at f1
  simp only [rOk_isB hr] at f1
  unfold sNearest
  by_cases c1 : 0 ≤ b ∧ b < r.1 1
  · by_cases c2 : 0 ≤ c ∧ c < r.1 1
    · by_cases c3 : b = c
      · rw [if_neg (fun z => z.2.2 c3)]
        refine ⟨_, ?_, rfl⟩
        rw [gr247]
        clear hr
        simp -implicitDefEqProofs (disch := first | exact isc_R | (simp only [List.map_cons, List.map_nil, List.sum_cons, List.sum_nil, xcat, Nat.reduceAdd, Nat.reduceLeDiff, Nat.zero_le]; done) | omega) only [fX12_nearest, k_p_sq, k_p_blk, k_sq0, k_sq11, k_sq12, k_sq13, k_sq14, k_sq15, k_sqr, k_sqi, k_blk0, k_blk1, k_blk2, k_blk3, k_blk4, k_blk5, k_blkr, k_blki, k_finr, k_fini, k_mapi, k_bindi, k_if1, k_if2, k_ops, k_br, k_rv, k_ri, k_rl, k_rz, k_rzi, k_01d, k_sw, k_01a, k_01b, k_01c, k_ifn, x_cmp, decide_eq_true_eq, Option.map_some, Option.bind_some, Option.toList_some, Option.toList_none, List.cons_append, List.nil_append, Nat.reduceAdd, true_or, or_true, Int.reduceNeg, Int.reduceEq, reduceIte, Nat.zero_le, Nat.reduceLeDiff, Nat.le_refl, Nat.reduceEqDiff, List.getElem?_cons_zero, List.getElem?_cons_succ, xst, List.set_cons_zero, List.set_cons_succ, List.map_cons, List.map_nil, List.sum_cons, List.sum_nil, xcat, Nat.reduceMul, Nat.reduceDiv, Nat.reduceMod, Nat.add_zero, e_nil, e_iconst, e_il, e_al, e_ll, e_istore, e_astore, e_lstore, e_ic, e_iadd, e_isub, e_imul, e_iand, e_ior, e_ixor, e_ishl, e_ishr, e_ineg, e_dupi, e_dupr, e_dupx, e_dup2, e_popi, er_g0, er_g1, er_g2, er_g3, er_g4, er_g5, er_g6, er_g7, er_g8, er_g9, er_g10, er_g11, er_g12, er_g13, er_g14, er_g15, er_g16, er_g17, er_g18, er_g19, er_g20, er_g21, er_g22, er_g23, er_g24, er_g25, er_g26, er_g27, er_g28, er_g29, er_g30, er_g31, er_g32, er_g33, er_g34, er_g35, er_g36, er_g37, er_g38, er_g39, er_g40, er_g41, er_g42, er_g43, er_g44, er_g45, er_g46, er_g47, er_s1, er_s2, er_s5, er_s6, er_s8, er_s10, er_s11, er_s13, er_s14, er_s15, er_s16, er_s20, er_s23, er_s24, er_s25, er_s28, er_s30, er_s31, er_s32, er_s33, er_s42, er_s43, er_s44, er_s21a, er_s21b, er_s12a, er_s12b, isc_R, ec175, f1, c1, c2, c3, true_and, false_and, or_self, or_true, true_or, or_false, false_or, and_true, and_false, and_self, not_true_eq_false, not_false_eq_true, Int.reduceEq]
      · rw [if_pos ⟨c1, c2, c3⟩]
        dsimp only
        have f2 := r_then (n := n + 1) (h := h) (r := xr_i r 11 0)
        have e0 : kEq 6 8 10 ((rThen (xr_i r 11 0)).2 14) (r.2 1) := rThen_eq (xr_i r 11 0)
        have hC : rC (rThen (xr_i r 11 0)) = rC (xr_i r 11 0) := rThen_c _
        have hB : (rThen (xr_i r 11 0)).1 1 = (kB (rK r) : Int) := by have := hr.1.1; show r.1 1 = ((r.1 1).toNat : Int); omega
        have hb6 : b < 6 := by have := hr.1.2; omega
        have hc6 : c < 6 := by have := hr.1.2; omega
        have hB6 := rOk_B hr
        generalize rThen (xr_i r 11 0) = q at f2 e0 hC hB
        rw [← rApart_eq (by decide) e0 (show b.toNat < 6 by omega) (show c.toNat < 6 by omega), ← kNr_eq (by decide) hB6 e0 (show b.toNat < 6 by omega) (show c.toNat < 6 by omega)]
        have f4 : ∀ a, (gg (n + 2) 246).2 [.inr (.inr (.inl (1, 14))), .inl b, .inl c] (hR h (xr_j q 14 a)) = some (some (.inl (rApart a b.toNat c.toNat)), hR h (xr_j q 14 a)) := fun a => by
          have e := r_apart (n := n) (h := h) (r := xr_j q 14 a) (j := 14) (by decide) (show b.toNat < 6 by omega) (show c.toNat < 6 by omega)
          rw [xr_j_2, show ((b.toNat : Nat) : Int) = b from by omega, show ((c.toNat : Nat) : Int) = c from by omega] at e
          exact e
        have f5 := f4 (q.2 14)
        rw [xr_j_0] at f5
        generalize rApart (q.2 14) b.toNat c.toNat = d0 at f5
        have key : p_lop (lX12_nearest_56 (gg (n + 2))) ([.inr (.inr (.inl (1, 0))), .inl b, .inl c, .inl 0, .inl d0, .inl 1], [], hR h q) = some (.inl 1, ([.inr (.inr (.inl (1, 0))), .inl b, .inl c, .inl (xit (kNr1 (kB (rK r)) (q.2 14) b.toNat c.toNat) 60 (0, d0)).1, .inl (xit (kNr1 (kB (rK r)) (q.2 14) b.toNat c.toNat) 60 (0, d0)).2, .inl 61], [], hR h (xr_j q 14 (kSail (kB (rK r)) 60 (q.2 14))))) := by
          refine k_for (fun i => ([.inr (.inr (.inl (1, 0))), .inl b, .inl c, .inl (xit (kNr1 (kB (rK r)) (q.2 14) b.toNat c.toNat) i (0, d0)).1, .inl (xit (kNr1 (kB (rK r)) (q.2 14) b.toNat c.toNat) i (0, d0)).2, .inl ((i + 1 : Nat) : Int)], [], hR h (xr_j q 14 (kSail (kB (rK r)) i (q.2 14))))) 60 (by show (([.inr (.inr (.inl (1, 0))), .inl b, .inl c, .inl 0, .inl d0, .inl 1], [], hR h (xr_j q 14 (q.2 14))) : xS) = _; rw [xr_j_0]) ?_ (fun i hi => ?_)
          · generalize xit (kNr1 (kB (rK r)) (q.2 14) b.toNat c.toNat) 60 (0, d0) = S
            generalize kSail (kB (rK r)) 60 (q.2 14) = a
            clear hr e0
            simp -implicitDefEqProofs (disch := first | exact isc_R | (simp only [List.map_cons, List.map_nil, List.sum_cons, List.sum_nil, xcat, Nat.reduceAdd, Nat.reduceLeDiff, Nat.zero_le]; done) | omega) only [lX12_nearest_56, k_p_sq, k_p_blk, k_sq0, k_sq11, k_sq12, k_sq13, k_sq14, k_sq15, k_sqr, k_sqi, k_blk0, k_blk1, k_blk2, k_blk3, k_blk4, k_blk5, k_blkr, k_blki, k_finr, k_fini, k_mapi, k_bindi, k_if1, k_if2, k_ops, k_br, k_rv, k_ri, k_rl, k_rz, k_rzi, k_01d, k_sw, k_01a, k_01b, k_01c, k_ifn, x_cmp, decide_eq_true_eq, Option.map_some, Option.bind_some, Option.toList_some, Option.toList_none, List.cons_append, List.nil_append, Nat.reduceAdd, true_or, or_true, Int.reduceNeg, Int.reduceEq, reduceIte, Nat.zero_le, Nat.reduceLeDiff, Nat.le_refl, Nat.reduceEqDiff, List.getElem?_cons_zero, List.getElem?_cons_succ, xst, List.set_cons_zero, List.set_cons_succ, List.map_cons, List.map_nil, List.sum_cons, List.sum_nil, xcat, Nat.reduceMul, Nat.reduceDiv, Nat.reduceMod, Nat.add_zero, e_nil, e_iconst, e_il, e_al, e_ll, e_istore, e_astore, e_lstore, e_ic, e_iadd, e_isub, e_imul, e_iand, e_ior, e_ixor, e_ishl, e_ishr, e_ineg, e_dupi, e_dupr, e_dupx, e_dup2, e_popi, er_g0, er_g1, er_g2, er_g3, er_g4, er_g5, er_g6, er_g7, er_g8, er_g9, er_g10, er_g11, er_g12, er_g13, er_g14, er_g15, er_g16, er_g17, er_g18, er_g19, er_g20, er_g21, er_g22, er_g23, er_g24, er_g25, er_g26, er_g27, er_g28, er_g29, er_g30, er_g31, er_g32, er_g33, er_g34, er_g35, er_g36, er_g37, er_g38, er_g39, er_g40, er_g41, er_g42, er_g43, er_g44, er_g45, er_g46, er_g47, er_s1, er_s2, er_s5, er_s6, er_s8, er_s10, er_s11, er_s13, er_s14, er_s15, er_s16, er_s20, er_s23, er_s24, er_s25, er_s28, er_s30, er_s31, er_s32, er_s33, er_s42, er_s43, er_s44, er_s21a, er_s21b, er_s12a, er_s12b, isc_R, Int.reduceLT, Int.cast_ofNat_Int]
          · have hs : kSail (kB (rK r)) (i + 1) (q.2 14) = xit boat1 (kB (rK r)) (kSail (kB (rK r)) i (q.2 14)) := rfl
            have hs2 : xit (kNr1 (kB (rK r)) (q.2 14) b.toNat c.toNat) (i + 1) (0, d0) = kNr1 (kB (rK r)) (q.2 14) b.toNat c.toNat i (xit (kNr1 (kB (rK r)) (q.2 14) b.toNat c.toNat) i (0, d0)) := rfl
            rw [hs2]
            unfold kNr1
            dsimp only
            generalize xit (fun i s => if s.2 ≤ rApart (kSail (kB (rK r)) (i + 1) (q.2 14)) b.toNat c.toNat then s else (((i + 1 : Nat) : Int), rApart (kSail (kB (rK r)) (i + 1) (q.2 14)) b.toNat c.toNat)) i (0, d0) = S
            rw [hs]
            generalize kSail (kB (rK r)) i (q.2 14) = a
            have f3 := r_goBoats (n := n) (h := h) (r := xr_j q 14 a) (j := 14) (B := kB (rK r)) (by decide) hB6 hB
            rw [xr_j_2, xr_j_j] at f3
            have f4 := f4 (xit boat1 (kB (rK r)) a)
            generalize xit boat1 (kB (rK r)) a = a1 at f3 f4
            generalize rApart a1 b.toNat c.toNat = d at f4
            have hk2 : ¬ (60 : Int) < ((i : Nat) : Int) + 1 := by omega
            have x1 : xw ((i : Int) + 1 + 1) = (i : Int) + 1 + 1 := xw_id (by omega) (by omega)
            clear hr e0 hs hs2
            by_cases c4 : S.2 ≤ d
            · have c4n : ¬ d < S.2 := by omega
              rw [if_pos c4]
              simp -implicitDefEqProofs (disch := first | exact isc_R | (simp only [List.map_cons, List.map_nil, List.sum_cons, List.sum_nil, xcat, Nat.reduceAdd, Nat.reduceLeDiff, Nat.zero_le]; done) | omega) only [lX12_nearest_56, k_p_sq, k_p_blk, k_sq0, k_sq11, k_sq12, k_sq13, k_sq14, k_sq15, k_sqr, k_sqi, k_blk0, k_blk1, k_blk2, k_blk3, k_blk4, k_blk5, k_blkr, k_blki, k_finr, k_fini, k_mapi, k_bindi, k_if1, k_if2, k_ops, k_br, k_rv, k_ri, k_rl, k_rz, k_rzi, k_01d, k_sw, k_01a, k_01b, k_01c, k_ifn, x_cmp, decide_eq_true_eq, Option.map_some, Option.bind_some, Option.toList_some, Option.toList_none, List.cons_append, List.nil_append, Nat.reduceAdd, true_or, or_true, Int.reduceNeg, Int.reduceEq, reduceIte, Nat.zero_le, Nat.reduceLeDiff, Nat.le_refl, Nat.reduceEqDiff, List.getElem?_cons_zero, List.getElem?_cons_succ, xst, List.set_cons_zero, List.set_cons_succ, List.map_cons, List.map_nil, List.sum_cons, List.sum_nil, xcat, Nat.reduceMul, Nat.reduceDiv, Nat.reduceMod, Nat.add_zero, e_nil, e_iconst, e_il, e_al, e_ll, e_istore, e_astore, e_lstore, e_ic, e_iadd, e_isub, e_imul, e_iand, e_ior, e_ixor, e_ishl, e_ishr, e_ineg, e_dupi, e_dupr, e_dupx, e_dup2, e_popi, er_g0, er_g1, er_g2, er_g3, er_g4, er_g5, er_g6, er_g7, er_g8, er_g9, er_g10, er_g11, er_g12, er_g13, er_g14, er_g15, er_g16, er_g17, er_g18, er_g19, er_g20, er_g21, er_g22, er_g23, er_g24, er_g25, er_g26, er_g27, er_g28, er_g29, er_g30, er_g31, er_g32, er_g33, er_g34, er_g35, er_g36, er_g37, er_g38, er_g39, er_g40, er_g41, er_g42, er_g43, er_g44, er_g45, er_g46, er_g47, er_s1, er_s2, er_s5, er_s6, er_s8, er_s10, er_s11, er_s13, er_s14, er_s15, er_s16, er_s20, er_s23, er_s24, er_s25, er_s28, er_s30, er_s31, er_s32, er_s33, er_s42, er_s43, er_s44, er_s21a, er_s21b, er_s12a, er_s12b, isc_R, hk2, ec206, f3, ec246, f4, c4, c4n, x1, Int.natCast_add, Int.cast_ofNat_Int, e_iinc]
            · have c4n : d < S.2 := by omega
              rw [if_neg c4]
              simp -implicitDefEqProofs (disch := first | exact isc_R | (simp only [List.map_cons, List.map_nil, List.sum_cons, List.sum_nil, xcat, Nat.reduceAdd, Nat.reduceLeDiff, Nat.zero_le]; done) | omega) only [lX12_nearest_56, k_p_sq, k_p_blk, k_sq0, k_sq11, k_sq12, k_sq13, k_sq14, k_sq15, k_sqr, k_sqi, k_blk0, k_blk1, k_blk2, k_blk3, k_blk4, k_blk5, k_blkr, k_blki, k_finr, k_fini, k_mapi, k_bindi, k_if1, k_if2, k_ops, k_br, k_rv, k_ri, k_rl, k_rz, k_rzi, k_01d, k_sw, k_01a, k_01b, k_01c, k_ifn, x_cmp, decide_eq_true_eq, Option.map_some, Option.bind_some, Option.toList_some, Option.toList_none, List.cons_append, List.nil_append, Nat.reduceAdd, true_or, or_true, Int.reduceNeg, Int.reduceEq, reduceIte, Nat.zero_le, Nat.reduceLeDiff, Nat.le_refl, Nat.reduceEqDiff, List.getElem?_cons_zero, List.getElem?_cons_succ, xst, List.set_cons_zero, List.set_cons_succ, List.map_cons, List.map_nil, List.sum_cons, List.sum_nil, xcat, Nat.reduceMul, Nat.reduceDiv, Nat.reduceMod, Nat.add_zero, e_nil, e_iconst, e_il, e_al, e_ll, e_istore, e_astore, e_lstore, e_ic, e_iadd, e_isub, e_imul, e_iand, e_ior, e_ixor, e_ishl, e_ishr, e_ineg, e_dupi, e_dupr, e_dupx, e_dup2, e_popi, er_g0, er_g1, er_g2, er_g3, er_g4, er_g5, er_g6, er_g7, er_g8, er_g9, er_g10, er_g11, er_g12, er_g13, er_g14, er_g15, er_g16, er_g17, er_g18, er_g19, er_g20, er_g21, er_g22, er_g23, er_g24, er_g25, er_g26, er_g27, er_g28, er_g29, er_g30, er_g31, er_g32, er_g33, er_g34, er_g35, er_g36, er_g37, er_g38, er_g39, er_g40, er_g41, er_g42, er_g43, er_g44, er_g45, er_g46, er_g47, er_s1, er_s2, er_s5, er_s6, er_s8, er_s10, er_s11, er_s13, er_s14, er_s15, er_s16, er_s20, er_s23, er_s24, er_s25, er_s28, er_s30, er_s31, er_s32, er_s33, er_s42, er_s43, er_s44, er_s21a, er_s21b, er_s12a, er_s12b, isc_R, hk2, ec206, f3, ec246, f4, c4, c4n, x1, Int.natCast_add, Int.cast_ofNat_Int, e_iinc]
        generalize xit (kNr1 (kB (rK r)) (q.2 14) b.toNat c.toNat) 60 (0, d0) = S at key
        generalize kSail (kB (rK r)) 60 (q.2 14) = a at key
        have g3 := r_tellN (n := n + 1) (h := h) (r := xr_j q 14 a) S.2 (vs := []) (by decide)
        refine ⟨rTell (xr_j q 14 a) [S.2], ?_, by rw [rC_tell, rC_tell, rC_j (c := 14) rfl, hC]⟩
        rw [gr247]
        clear hr e0 hC hB
        simp -implicitDefEqProofs (disch := first | exact isc_R | (simp only [List.map_cons, List.map_nil, List.sum_cons, List.sum_nil, xcat, Nat.reduceAdd, Nat.reduceLeDiff, Nat.zero_le]; done) | omega) only [fX12_nearest, k_p_sq, k_p_blk, k_sq0, k_sq11, k_sq12, k_sq13, k_sq14, k_sq15, k_sqr, k_sqi, k_blk0, k_blk1, k_blk2, k_blk3, k_blk4, k_blk5, k_blkr, k_blki, k_finr, k_fini, k_mapi, k_bindi, k_if1, k_if2, k_ops, k_br, k_rv, k_ri, k_rl, k_rz, k_rzi, k_01d, k_sw, k_01a, k_01b, k_01c, k_ifn, x_cmp, decide_eq_true_eq, Option.map_some, Option.bind_some, Option.toList_some, Option.toList_none, List.cons_append, List.nil_append, Nat.reduceAdd, true_or, or_true, Int.reduceNeg, Int.reduceEq, reduceIte, Nat.zero_le, Nat.reduceLeDiff, Nat.le_refl, Nat.reduceEqDiff, List.getElem?_cons_zero, List.getElem?_cons_succ, xst, List.set_cons_zero, List.set_cons_succ, List.map_cons, List.map_nil, List.sum_cons, List.sum_nil, xcat, Nat.reduceMul, Nat.reduceDiv, Nat.reduceMod, Nat.add_zero, e_nil, e_iconst, e_il, e_al, e_ll, e_istore, e_astore, e_lstore, e_ic, e_iadd, e_isub, e_imul, e_iand, e_ior, e_ixor, e_ishl, e_ishr, e_ineg, e_dupi, e_dupr, e_dupx, e_dup2, e_popi, er_g0, er_g1, er_g2, er_g3, er_g4, er_g5, er_g6, er_g7, er_g8, er_g9, er_g10, er_g11, er_g12, er_g13, er_g14, er_g15, er_g16, er_g17, er_g18, er_g19, er_g20, er_g21, er_g22, er_g23, er_g24, er_g25, er_g26, er_g27, er_g28, er_g29, er_g30, er_g31, er_g32, er_g33, er_g34, er_g35, er_g36, er_g37, er_g38, er_g39, er_g40, er_g41, er_g42, er_g43, er_g44, er_g45, er_g46, er_g47, er_s1, er_s2, er_s5, er_s6, er_s8, er_s10, er_s11, er_s13, er_s14, er_s15, er_s16, er_s20, er_s23, er_s24, er_s25, er_s28, er_s30, er_s31, er_s32, er_s33, er_s42, er_s43, er_s44, er_s21a, er_s21b, er_s12a, er_s12b, isc_R, ec175, f1, c1, c2, c3, true_and, false_and, or_self, or_true, true_or, or_false, false_or, and_true, and_false, and_self, not_true_eq_false, not_false_eq_true, ec213, f2, ec246, f5, key, rTell_0, ec174, g3, Int.reduceEq]
    · rw [if_neg (fun z => c2 z.2.1)]
      refine ⟨_, ?_, rfl⟩
      rw [gr247]
      clear hr
      simp -implicitDefEqProofs (disch := first | exact isc_R | (simp only [List.map_cons, List.map_nil, List.sum_cons, List.sum_nil, xcat, Nat.reduceAdd, Nat.reduceLeDiff, Nat.zero_le]; done) | omega) only [fX12_nearest, k_p_sq, k_p_blk, k_sq0, k_sq11, k_sq12, k_sq13, k_sq14, k_sq15, k_sqr, k_sqi, k_blk0, k_blk1, k_blk2, k_blk3, k_blk4, k_blk5, k_blkr, k_blki, k_finr, k_fini, k_mapi, k_bindi, k_if1, k_if2, k_ops, k_br, k_rv, k_ri, k_rl, k_rz, k_rzi, k_01d, k_sw, k_01a, k_01b, k_01c, k_ifn, x_cmp, decide_eq_true_eq, Option.map_some, Option.bind_some, Option.toList_some, Option.toList_none, List.cons_append, List.nil_append, Nat.reduceAdd, true_or, or_true, Int.reduceNeg, Int.reduceEq, reduceIte, Nat.zero_le, Nat.reduceLeDiff, Nat.le_refl, Nat.reduceEqDiff, List.getElem?_cons_zero, List.getElem?_cons_succ, xst, List.set_cons_zero, List.set_cons_succ, List.map_cons, List.map_nil, List.sum_cons, List.sum_nil, xcat, Nat.reduceMul, Nat.reduceDiv, Nat.reduceMod, Nat.add_zero, e_nil, e_iconst, e_il, e_al, e_ll, e_istore, e_astore, e_lstore, e_ic, e_iadd, e_isub, e_imul, e_iand, e_ior, e_ixor, e_ishl, e_ishr, e_ineg, e_dupi, e_dupr, e_dupx, e_dup2, e_popi, er_g0, er_g1, er_g2, er_g3, er_g4, er_g5, er_g6, er_g7, er_g8, er_g9, er_g10, er_g11, er_g12, er_g13, er_g14, er_g15, er_g16, er_g17, er_g18, er_g19, er_g20, er_g21, er_g22, er_g23, er_g24, er_g25, er_g26, er_g27, er_g28, er_g29, er_g30, er_g31, er_g32, er_g33, er_g34, er_g35, er_g36, er_g37, er_g38, er_g39, er_g40, er_g41, er_g42, er_g43, er_g44, er_g45, er_g46, er_g47, er_s1, er_s2, er_s5, er_s6, er_s8, er_s10, er_s11, er_s13, er_s14, er_s15, er_s16, er_s20, er_s23, er_s24, er_s25, er_s28, er_s30, er_s31, er_s32, er_s33, er_s42, er_s43, er_s44, er_s21a, er_s21b, er_s12a, er_s12b, isc_R, ec175, f1, c1, c2, true_and, false_and, or_self, or_true, true_or, or_false, false_or, and_true, and_false, and_self, not_true_eq_false, not_false_eq_true, Int.reduceEq]
  · rw [if_neg (fun z => c1 z.1)]
    refine ⟨_, ?_, rfl⟩
    rw [gr247]
    clear hr
    simp -implicitDefEqProofs (disch := first | exact isc_R | (simp only [List.map_cons, List.map_nil, List.sum_cons, List.sum_nil, xcat, Nat.reduceAdd, Nat.reduceLeDiff, Nat.zero_le]; done) | omega) only [fX12_nearest, k_p_sq, k_p_blk, k_sq0, k_sq11, k_sq12, k_sq13, k_sq14, k_sq15, k_sqr, k_sqi, k_blk0, k_blk1, k_blk2, k_blk3, k_blk4, k_blk5, k_blkr, k_blki, k_finr, k_fini, k_mapi, k_bindi, k_if1, k_if2, k_ops, k_br, k_rv, k_ri, k_rl, k_rz, k_rzi, k_01d, k_sw, k_01a, k_01b, k_01c, k_ifn, x_cmp, decide_eq_true_eq, Option.map_some, Option.bind_some, Option.toList_some, Option.toList_none, List.cons_append, List.nil_append, Nat.reduceAdd, true_or, or_true, Int.reduceNeg, Int.reduceEq, reduceIte, Nat.zero_le, Nat.reduceLeDiff, Nat.le_refl, Nat.reduceEqDiff, List.getElem?_cons_zero, List.getElem?_cons_succ, xst, List.set_cons_zero, List.set_cons_succ, List.map_cons, List.map_nil, List.sum_cons, List.sum_nil, xcat, Nat.reduceMul, Nat.reduceDiv, Nat.reduceMod, Nat.add_zero, e_nil, e_iconst, e_il, e_al, e_ll, e_istore, e_astore, e_lstore, e_ic, e_iadd, e_isub, e_imul, e_iand, e_ior, e_ixor, e_ishl, e_ishr, e_ineg, e_dupi, e_dupr, e_dupx, e_dup2, e_popi, er_g0, er_g1, er_g2, er_g3, er_g4, er_g5, er_g6, er_g7, er_g8, er_g9, er_g10, er_g11, er_g12, er_g13, er_g14, er_g15, er_g16, er_g17, er_g18, er_g19, er_g20, er_g21, er_g22, er_g23, er_g24, er_g25, er_g26, er_g27, er_g28, er_g29, er_g30, er_g31, er_g32, er_g33, er_g34, er_g35, er_g36, er_g37, er_g38, er_g39, er_g40, er_g41, er_g42, er_g43, er_g44, er_g45, er_g46, er_g47, er_s1, er_s2, er_s5, er_s6, er_s8, er_s10, er_s11, er_s13, er_s14, er_s15, er_s16, er_s20, er_s23, er_s24, er_s25, er_s28, er_s30, er_s31, er_s32, er_s33, er_s42, er_s43, er_s44, er_s21a, er_s21b, er_s12a, er_s12b, isc_R, ec175, f1, c1, true_and, false_and, or_self, or_true, true_or, or_false, false_or, and_true, and_false, and_self, not_true_eq_false, not_false_eq_true, Int.reduceEq]
end WH
