/-! ===== seasons, their method ===== -/
def sSeason (r : xR) (sd m p : Int) : Int × xR :=
  if (1 ≤ m ∧ m ≤ 60) ∧ (1 ≤ p ∧ p ≤ 10) then
    (let Z := kSea (rK r) p m.toNat (sd, ((r.2 1, 0, 0, 0, fun _ => 0), (0, 0, 0, 0)))
     (Z.2.2.1, rTell (xr_i r 11 0) [bitC Z.2.2.2.2.2, rAt Z.2.1.1 2 (-1)]))
  else (-1, xr_i r 11 0)
section SH
variable {n : Nat} {h : xH} {r : xR} {H : xH} {j : Nat} {F : xFl} {J : xR} {T : Int × Int × Int × Int} {w s d : Int}
set_option maxHeartbeats 800000 in
theorem r_seaStep {q : xR} (hr : rOk q) {sd m p w0 s0 : Int} {x7 : xV} {i : Nat} (hi : (i : Int) < m) (hi2 : i < 100) (hp : 1 ≤ p) (hl : kBe 10 (kN (rK q)) F.1) :
    ∃ (z : xR × xV × Int × Int), lX12_season_63 (gg (n + 824)) ([.inr (.inr (.inl (1, 0))), .inl sd, .inl m, .inl p, .inl w0, .inl s0, .inl (i : Int), x7], [], hR h (rZ q w s d T F J)) = some (.inl 1, ([.inr (.inr (.inl (1, 0))), .inl sd, .inl m, .inl p, .inl w0, .inl s0, .inl ((i + 1 : Nat) : Int), z.2.1], [], hR h (rZ q z.2.2.1 z.2.2.2 (kSea1 (rK q) p (d, (F, T))).1 (kSea1 (rK q) p (d, (F, T))).2.2 (kSea1 (rK q) p (d, (F, T))).2.1 z.1))) := by
  unfold kSea1
  dsimp only
  have hN : q.1 2 = (kN (rK q) : Int) := by have := hr.2.1.1; show q.1 2 = ((q.1 2).toNat : Int); omega
  have hN8 := rOk_N hr
  have f1 := fun (w s d : Int) => rZ_draw (n := n + 823) (h := h) (r := q) (w := w) (s := s) (d := d) (T := T) (F := F) (J := J) (k := 10) (by decide)
  have f2 := fun (w s d : Int) => rZ_draw (n := n + 823) (h := h) (r := q) (w := w) (s := s) (d := d) (T := T) (F := F) (J := J) (k := p) (by omega)
  have f3 := fun (w s d : Int) => rZ_draw (n := n + 823) (h := h) (r := q) (w := w) (s := s) (d := d) (T := T) (F := F) (J := J) (k := 8) (by decide)
  have f4 : ∀ (w s d g : Int), (gg (n + 824) 176).2 [.inr (.inr (.inl (1, 0))), .inl g] (hR h (rZ q w s d T F J)) = some (some (.inl (if 0 ≤ g ∧ g < (kN (rK q) : Int) then 1 else 0)), hR h (rZ q w s d T F J)) := fun w s d g => by
    have e := r_isGull (n := n + 822) (h := h) (r := rZ q w s d T F J) g
    rw [rZ_2] at e
    simp only [rOk_isG hr] at e
    rw [hN] at e
    exact e
  have f5 : ∀ (w s d : Int) (g : Int), 0 ≤ g → g < 8 → (gg (n + 824) 219).2 [.inr (.inr (.inl (1, 14))), .inl g, .inl (-1)] (hR h (rZ q w s d T F J)) = some (none, hR h (rZ q w s d T (rSend F.1 g.toNat (-1), F.2) J)) := fun w s d g h0 h1 => by
    have e := r_goSend (n := n + 823) (h := h) (r := rZ q w s d T F J) (j := 14) (g := g.toNat) (by decide) (by omega) (l := -1) (Or.inl rfl)
    rw [rZ_p14, rZ_14, show ((g.toNat : Nat) : Int) = g from by omega] at e
    exact e
  have f6 : ∀ (w s d : Int) (G : xFl), kBe 10 (kN (rK q)) G.1 → ∃ J', (gg (n + 824) 228).2 [.inr (.inr (.inl (1, 0))), .inr (.inr (.inl (1, 14))), .inl 1] (hR h (rZ q w s d T G J)) = some (none, hR h (rZ q w s d (kHs1 (kWS (rK q) w s) (G, T)).2 (kHs1 (kWS (rK q) w s) (G, T)).1 J')) := fun w s d G hG => r_goHalves (n := n) (h := h) (r := rS q w s d) (T := T) (F := G) (J := J) (j := 14) (by decide) hr hG (m := 1) (by decide)
  have x1 : xw ((i : Int) + 1) = (i : Int) + 1 := xw_id (by omega) (by omega)
  have hk2 : ¬ m ≤ (i : Int) := by omega
  have e1 := f1 w s d
  generalize dNext d = d1 at e1
  generalize dDraw d1 10 = w1 at e1
  have e2 := f2 w1 s d1
  generalize dNext d1 = d2 at e2
  have e3 := fun s1 => f3 w1 s1 d2
  generalize dNext d2 = d3 at e3
  generalize dDraw d3 8 = g at e3
  have e4 := fun s1 => f4 w1 s1 d3 g
  have e5 := fun s1 => f5 w1 s1 d3 g
  have e6 := fun s1 => f6 w1 s1 d3
  have hss : (if dDraw d2 p = 0 then (1 : Int) else 0) = 1 ∨ (if dDraw d2 p = 0 then (1 : Int) else 0) = 0 := by split <;> simp
  generalize hs1 : (if dDraw d2 p = 0 then (1 : Int) else 0) = s1 at hss
  have e3 := e3 s1
  have e4 := e4 s1
  have e5 := e5 s1
  have e6 := e6 s1
  clear f1 f2 f3 f4 f5 f6
  unfold kSeaG
  by_cases cB : 0 ≤ g ∧ g < (kN (rK q) : Int)
  · have e5 := e5 cB.1 (by omega)
    have x68 : xw (68 + g) = 68 + g := xw_id (by omega) (by omega)
    have n68 : (68 + g).toNat = 68 + g.toNat := by omega
    have hgn : g.toNat < kN (rK q) := by omega
    have hg8 : g < 8 := by omega
    by_cases cC : F.1 (68 + g.toNat) = 0
    · rw [if_pos ⟨cB, cC⟩]
      have hb1 : kBe 10 (kN (rK q)) (rSend F.1 g.toNat (-1)) := kBe_send0 hN8 hl hgn
      generalize hG : rSend F.1 g.toNat (-1) = a3 at hb1 e5
      obtain ⟨J', e6⟩ := e6 (a3, F.2) hb1
      refine ⟨(J', .inl g, w1, s1), ?_⟩
      generalize kHs1 (kWS (rK q) w1 s1) ((a3, F.2), T) = P at e6
      clear hr hl hN hN8 hgn
      by_cases cA : dDraw d2 p = 0
      · rw [if_pos cA] at hs1
        subst hs1
        simp -implicitDefEqProofs (disch := first | exact isc_R | (simp only [List.map_cons, List.map_nil, List.sum_cons, List.sum_nil, xcat, Nat.reduceAdd, Nat.reduceLeDiff, Nat.zero_le]; done) | omega) only [lX12_season_63, k_p_sq, k_p_blk, k_sq0, k_sq11, k_sq12, k_sq13, k_sq14, k_sq15, k_sqr, k_sqi, k_blk0, k_blk1, k_blk2, k_blk3, k_blk4, k_blk5, k_blkr, k_blki, k_finr, k_fini, k_mapi, k_bindi, k_if1, k_if2, k_ops, k_br, k_rv, k_ri, k_rl, k_rz, k_rzi, k_01d, k_sw, k_01a, k_01b, k_01c, k_ifn, x_cmp, decide_eq_true_eq, Option.map_some, Option.bind_some, Option.toList_some, Option.toList_none, List.cons_append, List.nil_append, Nat.reduceAdd, true_or, or_true, Int.reduceNeg, Int.reduceEq, reduceIte, Nat.zero_le, Nat.reduceLeDiff, Nat.le_refl, Nat.reduceEqDiff, List.getElem?_cons_zero, List.getElem?_cons_succ, xst, List.set_cons_zero, List.set_cons_succ, List.map_cons, List.map_nil, List.sum_cons, List.sum_nil, xcat, Nat.reduceMul, Nat.reduceDiv, Nat.reduceMod, Nat.add_zero, e_nil, e_iconst, e_il, e_al, e_ll, e_istore, e_astore, e_lstore, e_ic, e_iadd, e_isub, e_imul, e_iand, e_ior, e_ixor, e_ishl, e_ishr, e_ineg, e_dupi, e_dupr, e_dupx, e_dup2, e_popi, er_g0, er_g1, er_g2, er_g3, er_g4, er_g5, er_g6, er_g7, er_g8, er_g9, er_g10, er_g11, er_g12, er_g13, er_g14, er_g15, er_g16, er_g17, er_g18, er_g19, er_g20, er_g21, er_g22, er_g23, er_g24, er_g25, er_g26, er_g27, er_g28, er_g29, er_g30, er_g31, er_g32, er_g33, er_g34, er_g35, er_g36, er_g37, er_g38, er_g39, er_g40, er_g41, er_g42, er_g43, er_g44, er_g45, er_g46, er_g47, er_s1, er_s2, er_s5, er_s6, er_s8, er_s10, er_s11, er_s13, er_s14, er_s15, er_s16, er_s20, er_s23, er_s24, er_s25, er_s28, er_s30, er_s31, er_s32, er_s33, er_s42, er_s43, er_s44, er_s21a, er_s21b, er_s12a, er_s12b, isc_R, hk2, ec268, e1, rZ_p5, e2, cA, rZ_p6, e3, ec176, e4, cB, true_and, false_and, or_self, or_true, true_or, or_false, false_or, and_true, and_false, and_self, not_true_eq_false, not_false_eq_true, er_r14, x68, n68, rZ_14, cC, ec219, e5, ec228, e6, x1, Int.natCast_add, Int.cast_ofNat_Int, e_iinc, Int.reduceEq]
      · rw [if_neg cA] at hs1
        subst hs1
        simp -implicitDefEqProofs (disch := first | exact isc_R | (simp only [List.map_cons, List.map_nil, List.sum_cons, List.sum_nil, xcat, Nat.reduceAdd, Nat.reduceLeDiff, Nat.zero_le]; done) | omega) only [lX12_season_63, k_p_sq, k_p_blk, k_sq0, k_sq11, k_sq12, k_sq13, k_sq14, k_sq15, k_sqr, k_sqi, k_blk0, k_blk1, k_blk2, k_blk3, k_blk4, k_blk5, k_blkr, k_blki, k_finr, k_fini, k_mapi, k_bindi, k_if1, k_if2, k_ops, k_br, k_rv, k_ri, k_rl, k_rz, k_rzi, k_01d, k_sw, k_01a, k_01b, k_01c, k_ifn, x_cmp, decide_eq_true_eq, Option.map_some, Option.bind_some, Option.toList_some, Option.toList_none, List.cons_append, List.nil_append, Nat.reduceAdd, true_or, or_true, Int.reduceNeg, Int.reduceEq, reduceIte, Nat.zero_le, Nat.reduceLeDiff, Nat.le_refl, Nat.reduceEqDiff, List.getElem?_cons_zero, List.getElem?_cons_succ, xst, List.set_cons_zero, List.set_cons_succ, List.map_cons, List.map_nil, List.sum_cons, List.sum_nil, xcat, Nat.reduceMul, Nat.reduceDiv, Nat.reduceMod, Nat.add_zero, e_nil, e_iconst, e_il, e_al, e_ll, e_istore, e_astore, e_lstore, e_ic, e_iadd, e_isub, e_imul, e_iand, e_ior, e_ixor, e_ishl, e_ishr, e_ineg, e_dupi, e_dupr, e_dupx, e_dup2, e_popi, er_g0, er_g1, er_g2, er_g3, er_g4, er_g5, er_g6, er_g7, er_g8, er_g9, er_g10, er_g11, er_g12, er_g13, er_g14, er_g15, er_g16, er_g17, er_g18, er_g19, er_g20, er_g21, er_g22, er_g23, er_g24, er_g25, er_g26, er_g27, er_g28, er_g29, er_g30, er_g31, er_g32, er_g33, er_g34, er_g35, er_g36, er_g37, er_g38, er_g39, er_g40, er_g41, er_g42, er_g43, er_g44, er_g45, er_g46, er_g47, er_s1, er_s2, er_s5, er_s6, er_s8, er_s10, er_s11, er_s13, er_s14, er_s15, er_s16, er_s20, er_s23, er_s24, er_s25, er_s28, er_s30, er_s31, er_s32, er_s33, er_s42, er_s43, er_s44, er_s21a, er_s21b, er_s12a, er_s12b, isc_R, hk2, ec268, e1, rZ_p5, e2, cA, rZ_p6, e3, ec176, e4, cB, true_and, false_and, or_self, or_true, true_or, or_false, false_or, and_true, and_false, and_self, not_true_eq_false, not_false_eq_true, er_r14, x68, n68, rZ_14, cC, ec219, e5, ec228, e6, x1, Int.natCast_add, Int.cast_ofNat_Int, e_iinc, Int.reduceEq]
    · rw [if_neg (fun c => cC c.2)]
      obtain ⟨J', e6⟩ := e6 F hl
      refine ⟨(J', .inl g, w1, s1), ?_⟩
      generalize kHs1 (kWS (rK q) w1 s1) (F, T) = P at e6
      clear hr hl hN hN8 hgn
      by_cases cA : dDraw d2 p = 0
      · rw [if_pos cA] at hs1
        subst hs1
        simp -implicitDefEqProofs (disch := first | exact isc_R | (simp only [List.map_cons, List.map_nil, List.sum_cons, List.sum_nil, xcat, Nat.reduceAdd, Nat.reduceLeDiff, Nat.zero_le]; done) | omega) only [lX12_season_63, k_p_sq, k_p_blk, k_sq0, k_sq11, k_sq12, k_sq13, k_sq14, k_sq15, k_sqr, k_sqi, k_blk0, k_blk1, k_blk2, k_blk3, k_blk4, k_blk5, k_blkr, k_blki, k_finr, k_fini, k_mapi, k_bindi, k_if1, k_if2, k_ops, k_br, k_rv, k_ri, k_rl, k_rz, k_rzi, k_01d, k_sw, k_01a, k_01b, k_01c, k_ifn, x_cmp, decide_eq_true_eq, Option.map_some, Option.bind_some, Option.toList_some, Option.toList_none, List.cons_append, List.nil_append, Nat.reduceAdd, true_or, or_true, Int.reduceNeg, Int.reduceEq, reduceIte, Nat.zero_le, Nat.reduceLeDiff, Nat.le_refl, Nat.reduceEqDiff, List.getElem?_cons_zero, List.getElem?_cons_succ, xst, List.set_cons_zero, List.set_cons_succ, List.map_cons, List.map_nil, List.sum_cons, List.sum_nil, xcat, Nat.reduceMul, Nat.reduceDiv, Nat.reduceMod, Nat.add_zero, e_nil, e_iconst, e_il, e_al, e_ll, e_istore, e_astore, e_lstore, e_ic, e_iadd, e_isub, e_imul, e_iand, e_ior, e_ixor, e_ishl, e_ishr, e_ineg, e_dupi, e_dupr, e_dupx, e_dup2, e_popi, er_g0, er_g1, er_g2, er_g3, er_g4, er_g5, er_g6, er_g7, er_g8, er_g9, er_g10, er_g11, er_g12, er_g13, er_g14, er_g15, er_g16, er_g17, er_g18, er_g19, er_g20, er_g21, er_g22, er_g23, er_g24, er_g25, er_g26, er_g27, er_g28, er_g29, er_g30, er_g31, er_g32, er_g33, er_g34, er_g35, er_g36, er_g37, er_g38, er_g39, er_g40, er_g41, er_g42, er_g43, er_g44, er_g45, er_g46, er_g47, er_s1, er_s2, er_s5, er_s6, er_s8, er_s10, er_s11, er_s13, er_s14, er_s15, er_s16, er_s20, er_s23, er_s24, er_s25, er_s28, er_s30, er_s31, er_s32, er_s33, er_s42, er_s43, er_s44, er_s21a, er_s21b, er_s12a, er_s12b, isc_R, hk2, ec268, e1, rZ_p5, e2, cA, rZ_p6, e3, ec176, e4, cB, true_and, false_and, or_self, or_true, true_or, or_false, false_or, and_true, and_false, and_self, not_true_eq_false, not_false_eq_true, er_r14, x68, n68, rZ_14, cC, ec228, e6, x1, Int.natCast_add, Int.cast_ofNat_Int, e_iinc, Int.reduceEq]
      · rw [if_neg cA] at hs1
        subst hs1
        simp -implicitDefEqProofs (disch := first | exact isc_R | (simp only [List.map_cons, List.map_nil, List.sum_cons, List.sum_nil, xcat, Nat.reduceAdd, Nat.reduceLeDiff, Nat.zero_le]; done) | omega) only [lX12_season_63, k_p_sq, k_p_blk, k_sq0, k_sq11, k_sq12, k_sq13, k_sq14, k_sq15, k_sqr, k_sqi, k_blk0, k_blk1, k_blk2, k_blk3, k_blk4, k_blk5, k_blkr, k_blki, k_finr, k_fini, k_mapi, k_bindi, k_if1, k_if2, k_ops, k_br, k_rv, k_ri, k_rl, k_rz, k_rzi, k_01d, k_sw, k_01a, k_01b, k_01c, k_ifn, x_cmp, decide_eq_true_eq, Option.map_some, Option.bind_some, Option.toList_some, Option.toList_none, List.cons_append, List.nil_append, Nat.reduceAdd, true_or, or_true, Int.reduceNeg, Int.reduceEq, reduceIte, Nat.zero_le, Nat.reduceLeDiff, Nat.le_refl, Nat.reduceEqDiff, List.getElem?_cons_zero, List.getElem?_cons_succ, xst, List.set_cons_zero, List.set_cons_succ, List.map_cons, List.map_nil, List.sum_cons, List.sum_nil, xcat, Nat.reduceMul, Nat.reduceDiv, Nat.reduceMod, Nat.add_zero, e_nil, e_iconst, e_il, e_al, e_ll, e_istore, e_astore, e_lstore, e_ic, e_iadd, e_isub, e_imul, e_iand, e_ior, e_ixor, e_ishl, e_ishr, e_ineg, e_dupi, e_dupr, e_dupx, e_dup2, e_popi, er_g0, er_g1, er_g2, er_g3, er_g4, er_g5, er_g6, er_g7, er_g8, er_g9, er_g10, er_g11, er_g12, er_g13, er_g14, er_g15, er_g16, er_g17, er_g18, er_g19, er_g20, er_g21, er_g22, er_g23, er_g24, er_g25, er_g26, er_g27, er_g28, er_g29, er_g30, er_g31, er_g32, er_g33, er_g34, er_g35, er_g36, er_g37, er_g38, er_g39, er_g40, er_g41, er_g42, er_g43, er_g44, er_g45, er_g46, er_g47, er_s1, er_s2, er_s5, er_s6, er_s8, er_s10, er_s11, er_s13, er_s14, er_s15, er_s16, er_s20, er_s23, er_s24, er_s25, er_s28, er_s30, er_s31, er_s32, er_s33, er_s42, er_s43, er_s44, er_s21a, er_s21b, er_s12a, er_s12b, isc_R, hk2, ec268, e1, rZ_p5, e2, cA, rZ_p6, e3, ec176, e4, cB, true_and, false_and, or_self, or_true, true_or, or_false, false_or, and_true, and_false, and_self, not_true_eq_false, not_false_eq_true, er_r14, x68, n68, rZ_14, cC, ec228, e6, x1, Int.natCast_add, Int.cast_ofNat_Int, e_iinc, Int.reduceEq]
  · rw [if_neg (fun c => cB c.1)]
    obtain ⟨J', e6⟩ := e6 F hl
    refine ⟨(J', .inl g, w1, s1), ?_⟩
    generalize kHs1 (kWS (rK q) w1 s1) (F, T) = P at e6
    clear hr hl hN hN8
    by_cases cA : dDraw d2 p = 0
    · rw [if_pos cA] at hs1
      subst hs1
      simp -implicitDefEqProofs (disch := first | exact isc_R | (simp only [List.map_cons, List.map_nil, List.sum_cons, List.sum_nil, xcat, Nat.reduceAdd, Nat.reduceLeDiff, Nat.zero_le]; done) | omega) only [lX12_season_63, k_p_sq, k_p_blk, k_sq0, k_sq11, k_sq12, k_sq13, k_sq14, k_sq15, k_sqr, k_sqi, k_blk0, k_blk1, k_blk2, k_blk3, k_blk4, k_blk5, k_blkr, k_blki, k_finr, k_fini, k_mapi, k_bindi, k_if1, k_if2, k_ops, k_br, k_rv, k_ri, k_rl, k_rz, k_rzi, k_01d, k_sw, k_01a, k_01b, k_01c, k_ifn, x_cmp, decide_eq_true_eq, Option.map_some, Option.bind_some, Option.toList_some, Option.toList_none, List.cons_append, List.nil_append, Nat.reduceAdd, true_or, or_true, Int.reduceNeg, Int.reduceEq, reduceIte, Nat.zero_le, Nat.reduceLeDiff, Nat.le_refl, Nat.reduceEqDiff, List.getElem?_cons_zero, List.getElem?_cons_succ, xst, List.set_cons_zero, List.set_cons_succ, List.map_cons, List.map_nil, List.sum_cons, List.sum_nil, xcat, Nat.reduceMul, Nat.reduceDiv, Nat.reduceMod, Nat.add_zero, e_nil, e_iconst, e_il, e_al, e_ll, e_istore, e_astore, e_lstore, e_ic, e_iadd, e_isub, e_imul, e_iand, e_ior, e_ixor, e_ishl, e_ishr, e_ineg, e_dupi, e_dupr, e_dupx, e_dup2, e_popi, er_g0, er_g1, er_g2, er_g3, er_g4, er_g5, er_g6, er_g7, er_g8, er_g9, er_g10, er_g11, er_g12, er_g13, er_g14, er_g15, er_g16, er_g17, er_g18, er_g19, er_g20, er_g21, er_g22, er_g23, er_g24, er_g25, er_g26, er_g27, er_g28, er_g29, er_g30, er_g31, er_g32, er_g33, er_g34, er_g35, er_g36, er_g37, er_g38, er_g39, er_g40, er_g41, er_g42, er_g43, er_g44, er_g45, er_g46, er_g47, er_s1, er_s2, er_s5, er_s6, er_s8, er_s10, er_s11, er_s13, er_s14, er_s15, er_s16, er_s20, er_s23, er_s24, er_s25, er_s28, er_s30, er_s31, er_s32, er_s33, er_s42, er_s43, er_s44, er_s21a, er_s21b, er_s12a, er_s12b, isc_R, hk2, ec268, e1, rZ_p5, e2, cA, rZ_p6, e3, ec176, e4, cB, true_and, false_and, or_self, or_true, true_or, or_false, false_or, and_true, and_false, and_self, not_true_eq_false, not_false_eq_true, ec228, e6, x1, Int.natCast_add, Int.cast_ofNat_Int, e_iinc, Int.reduceEq]
    · rw [if_neg cA] at hs1
      subst hs1
      simp -implicitDefEqProofs (disch := first | exact isc_R | (simp only [List.map_cons, List.map_nil, List.sum_cons, List.sum_nil, xcat, Nat.reduceAdd, Nat.reduceLeDiff, Nat.zero_le]; done) | omega) only [lX12_season_63, k_p_sq, k_p_blk, k_sq0, k_sq11, k_sq12, k_sq13, k_sq14, k_sq15, k_sqr, k_sqi, k_blk0, k_blk1, k_blk2, k_blk3, k_blk4, k_blk5, k_blkr, k_blki, k_finr, k_fini, k_mapi, k_bindi, k_if1, k_if2, k_ops, k_br, k_rv, k_ri, k_rl, k_rz, k_rzi, k_01d, k_sw, k_01a, k_01b, k_01c, k_ifn, x_cmp, decide_eq_true_eq, Option.map_some, Option.bind_some, Option.toList_some, Option.toList_none, List.cons_append, List.nil_append, Nat.reduceAdd, true_or, or_true, Int.reduceNeg, Int.reduceEq, reduceIte, Nat.zero_le, Nat.reduceLeDiff, Nat.le_refl, Nat.reduceEqDiff, List.getElem?_cons_zero, List.getElem?_cons_succ, xst, List.set_cons_zero, List.set_cons_succ, List.map_cons, List.map_nil, List.sum_cons, List.sum_nil, xcat, Nat.reduceMul, Nat.reduceDiv, Nat.reduceMod, Nat.add_zero, e_nil, e_iconst, e_il, e_al, e_ll, e_istore, e_astore, e_lstore, e_ic, e_iadd, e_isub, e_imul, e_iand, e_ior, e_ixor, e_ishl, e_ishr, e_ineg, e_dupi, e_dupr, e_dupx, e_dup2, e_popi, er_g0, er_g1, er_g2, er_g3, er_g4, er_g5, er_g6, er_g7, er_g8, er_g9, er_g10, er_g11, er_g12, er_g13, er_g14, er_g15, er_g16, er_g17, er_g18, er_g19, er_g20, er_g21, er_g22, er_g23, er_g24, er_g25, er_g26, er_g27, er_g28, er_g29, er_g30, er_g31, er_g32, er_g33, er_g34, er_g35, er_g36, er_g37, er_g38, er_g39, er_g40, er_g41, er_g42, er_g43, er_g44, er_g45, er_g46, er_g47, er_s1, er_s2, er_s5, er_s6, er_s8, er_s10, er_s11, er_s13, er_s14, er_s15, er_s16, er_s20, er_s23, er_s24, er_s25, er_s28, er_s30, er_s31, er_s32, er_s33, er_s42, er_s43, er_s44, er_s21a, er_s21b, er_s12a, er_s12b, isc_R, hk2, ec268, e1, rZ_p5, e2, cA, rZ_p6, e3, ec176, e4, cB, true_and, false_and, or_self, or_true, true_or, or_false, false_or, and_true, and_false, and_self, not_true_eq_false, not_false_eq_true, ec228, e6, x1, Int.natCast_add, Int.cast_ofNat_Int, e_iinc, Int.reduceEq]
set_option maxHeartbeats 800000 in
theorem R_season (hr : rOk r) (ha : rA r) (sd m p : Int) : ∃ r', (gg (n + 825) 272).2 [.inr (.inr (.inl (1, 0))), .inl sd, .inl m, .inl p] (hR h r) = some (some (.inl (sSeason r sd m p).1), hR h r') ∧ rC r' = rC (sSeason r sd m p).2 := by
  unfold sSeason
  by_cases c1 : 1 ≤ m ∧ m ≤ 60
  · by_cases c2 : 1 ≤ p ∧ p ≤ 10
    · rw [if_pos ⟨c1, c2⟩]
      dsimp only
      obtain ⟨hl, a0, a1⟩ := ha
      have f2 := r_then (n := n + 823) (h := h) (r := xr_i (xr_i r 11 0) 43 sd)
      have hr1 : rOk (rThen (xr_i (xr_i r 11 0) 43 sd)) := hr
      have hK : rK (rThen (xr_i (xr_i r 11 0) 43 sd)) = rK r := rfl
      have hC : rC (rThen (xr_i (xr_i r 11 0) 43 sd)) = rC (xr_i r 11 0) := (rThen_c _).trans (rC_i (k := 43) rfl _ _)
      have h5 : (rThen (xr_i (xr_i r 11 0) 43 sd)).1 5 = r.1 5 := rfl
      have h6 : (rThen (xr_i (xr_i r 11 0) 43 sd)).1 6 = r.1 6 := rfl
      have h43 : xr_i (rThen (xr_i (xr_i r 11 0) 43 sd)) 43 sd = rThen (xr_i (xr_i r 11 0) 43 sd) := by
        refine Prod.ext (funext fun k => ?_) rfl
        show xfu (xfu (xr_i r 11 0).1 43 sd) 43 sd k = xfu (xr_i r 11 0).1 43 sd k
        unfold xfu
        split <;> rfl
      have e0 : kEq 6 (kN (rK r)) 10 ((rThen (xr_i (xr_i r 11 0) 43 sd)).2 14) (r.2 1) := rThen_eq (xr_i (xr_i r 11 0) 43 sd)
      generalize rThen (xr_i (xr_i r 11 0) 43 sd) = q at f2 hr1 hK hC h5 h6 e0 h43
      have e14 : q.2 14 114 = r.2 1 114 := kEq_114 e0
      have hl2 : kBe 10 (kN (rK r)) (q.2 14) := fun g hg => by rw [show q.2 14 (76 + g) = r.2 1 (76 + g) from kEq_g (rOk_N hr) e0 (c := 5) hg (by decide)]; exact hl g hg
      have h0 := rZ_self q sd
      rw [h43] at h0
      have key : ∃ z : xR × xV × Int × Int, p_lop (lX12_season_63 (gg (n + 824))) ([.inr (.inr (.inl (1, 0))), .inl sd, .inl m, .inl p, .inl (r.1 5), .inl (r.1 6), .inl 0, .inr (.inr (.inr 2))], [], hR h (rT q (0, 0, 0, 0))) = some (.inl (0 + 1), ([.inr (.inr (.inl (1, 0))), .inl sd, .inl m, .inl p, .inl (r.1 5), .inl (r.1 6), .inl m, z.2.1], [], hR h (rZ q z.2.2.1 z.2.2.2 (kSea (rK r) p m.toNat (sd, ((q.2 14, q.1 23, q.1 24, q.1 25, q.2 10), (0, 0, 0, 0)))).1 (kSea (rK r) p m.toNat (sd, ((q.2 14, q.1 23, q.1 24, q.1 25, q.2 10), (0, 0, 0, 0)))).2.2 (kSea (rK r) p m.toNat (sd, ((q.2 14, q.1 23, q.1 24, q.1 25, q.2 10), (0, 0, 0, 0)))).2.1 z.1))) := by
        refine k_forE (fun i (z : xR × xV × Int × Int) => ([.inr (.inr (.inl (1, 0))), .inl sd, .inl m, .inl p, .inl (r.1 5), .inl (r.1 6), .inl (i : Int), z.2.1], [], hR h (rZ q z.2.2.1 z.2.2.2 (kSea (rK r) p i (sd, ((q.2 14, q.1 23, q.1 24, q.1 25, q.2 10), (0, 0, 0, 0)))).1 (kSea (rK r) p i (sd, ((q.2 14, q.1 23, q.1 24, q.1 25, q.2 10), (0, 0, 0, 0)))).2.2 (kSea (rK r) p i (sd, ((q.2 14, q.1 23, q.1 24, q.1 25, q.2 10), (0, 0, 0, 0)))).2.1 z.1))) m.toNat (e := fun (z : xR × xV × Int × Int) => ([.inr (.inr (.inl (1, 0))), .inl sd, .inl m, .inl p, .inl (r.1 5), .inl (r.1 6), .inl m, z.2.1], [], hR h (rZ q z.2.2.1 z.2.2.2 (kSea (rK r) p m.toNat (sd, ((q.2 14, q.1 23, q.1 24, q.1 25, q.2 10), (0, 0, 0, 0)))).1 (kSea (rK r) p m.toNat (sd, ((q.2 14, q.1 23, q.1 24, q.1 25, q.2 10), (0, 0, 0, 0)))).2.2 (kSea (rK r) p m.toNat (sd, ((q.2 14, q.1 23, q.1 24, q.1 25, q.2 10), (0, 0, 0, 0)))).2.1 z.1))) (q, .inr (.inr (.inr 2)), q.1 5, q.1 6) (by show (([.inr (.inr (.inl (1, 0))), .inl sd, .inl m, .inl p, .inl (r.1 5), .inl (r.1 6), .inl 0, .inr (.inr (.inr 2))], [], hR h (rZ q (q.1 5) (q.1 6) sd (0, 0, 0, 0) (q.2 14, q.1 23, q.1 24, q.1 25, q.2 10) q)) : xS) = _; rw [h0]) ?_ ?_
        · rintro ⟨J', x7, w, s⟩
          have hm : ((m.toNat : Nat) : Int) = m := by omega
          simp -implicitDefEqProofs (disch := first | exact isc_R | (simp only [List.map_cons, List.map_nil, List.sum_cons, List.sum_nil, xcat, Nat.reduceAdd, Nat.reduceLeDiff, Nat.zero_le]; done) | omega) only [lX12_season_63, k_p_sq, k_p_blk, k_sq0, k_sq11, k_sq12, k_sq13, k_sq14, k_sq15, k_sqr, k_sqi, k_blk0, k_blk1, k_blk2, k_blk3, k_blk4, k_blk5, k_blkr, k_blki, k_finr, k_fini, k_mapi, k_bindi, k_if1, k_if2, k_ops, k_br, k_rv, k_ri, k_rl, k_rz, k_rzi, k_01d, k_sw, k_01a, k_01b, k_01c, k_ifn, x_cmp, decide_eq_true_eq, Option.map_some, Option.bind_some, Option.toList_some, Option.toList_none, List.cons_append, List.nil_append, Nat.reduceAdd, true_or, or_true, Int.reduceNeg, Int.reduceEq, reduceIte, Nat.zero_le, Nat.reduceLeDiff, Nat.le_refl, Nat.reduceEqDiff, List.getElem?_cons_zero, List.getElem?_cons_succ, xst, List.set_cons_zero, List.set_cons_succ, List.map_cons, List.map_nil, List.sum_cons, List.sum_nil, xcat, Nat.reduceMul, Nat.reduceDiv, Nat.reduceMod, Nat.add_zero, e_nil, e_iconst, e_il, e_al, e_ll, e_istore, e_astore, e_lstore, e_ic, e_iadd, e_isub, e_imul, e_iand, e_ior, e_ixor, e_ishl, e_ishr, e_ineg, e_dupi, e_dupr, e_dupx, e_dup2, e_popi, er_g0, er_g1, er_g2, er_g3, er_g4, er_g5, er_g6, er_g7, er_g8, er_g9, er_g10, er_g11, er_g12, er_g13, er_g14, er_g15, er_g16, er_g17, er_g18, er_g19, er_g20, er_g21, er_g22, er_g23, er_g24, er_g25, er_g26, er_g27, er_g28, er_g29, er_g30, er_g31, er_g32, er_g33, er_g34, er_g35, er_g36, er_g37, er_g38, er_g39, er_g40, er_g41, er_g42, er_g43, er_g44, er_g45, er_g46, er_g47, er_s1, er_s2, er_s5, er_s6, er_s8, er_s10, er_s11, er_s13, er_s14, er_s15, er_s16, er_s20, er_s23, er_s24, er_s25, er_s28, er_s30, er_s31, er_s32, er_s33, er_s42, er_s43, er_s44, er_s21a, er_s21b, er_s12a, er_s12b, isc_R, hm, Int.le_refl]
        · rintro i hi ⟨J', x7, w, s⟩
          obtain ⟨i0, _⟩ := kSea_ok (k := rK r) (M := 10) (rOk_B hr) (rOk_N hr) (Nat.le_refl 10) p (Z := (sd, ((q.2 14, q.1 23, q.1 24, q.1 25, q.2 10), (0, 0, 0, 0)))) hl2 i
          have hs : kSea (rK r) p (i + 1) (sd, ((q.2 14, q.1 23, q.1 24, q.1 25, q.2 10), (0, 0, 0, 0))) = kSea1 (rK r) p (kSea (rK r) p i (sd, ((q.2 14, q.1 23, q.1 24, q.1 25, q.2 10), (0, 0, 0, 0)))) := rfl
          rw [hs]
          generalize kSea (rK r) p i (sd, ((q.2 14, q.1 23, q.1 24, q.1 25, q.2 10), (0, 0, 0, 0))) = Z at i0
          obtain ⟨d, F1, T1⟩ := Z
          have e := r_seaStep (n := n) (h := h) (q := q) (F := F1) (T := T1) (J := J') (w := w) (s := s) (d := d) hr1 (sd := sd) (m := m) (p := p) (w0 := r.1 5) (s0 := r.1 6) (x7 := x7) (i := i) (by omega) (by omega) c2.1 (by rw [hK]; exact i0)
          rw [hK] at e
          exact e
      obtain ⟨⟨J1, x7, w, s⟩, key⟩ := key
      dsimp only at key
      obtain ⟨i0, i1, i2, i3⟩ := kSea_eq (k := rK r) (B := 6) (M := 10) (by decide) (rOk_N hr) (Nat.le_refl 10) (rOk_B hr) hr.2.2.1 p (Z := (sd, ((q.2 14, q.1 23, q.1 24, q.1 25, q.2 10), (0, 0, 0, 0)))) (Z' := (sd, ((r.2 1, 0, 0, 0, fun _ => 0), (0, 0, 0, 0)))) hl2 rfl e0 rfl m.toNat
      obtain ⟨_, i4⟩ := kSea_ok (k := rK r) (M := 10) (rOk_B hr) (rOk_N hr) (Nat.le_refl 10) p (Z := (sd, ((q.2 14, q.1 23, q.1 24, q.1 25, q.2 10), (0, 0, 0, 0)))) hl2 m.toNat
      dsimp only at i4
      generalize kSea (rK r) p m.toNat (sd, ((q.2 14, q.1 23, q.1 24, q.1 25, q.2 10), (0, 0, 0, 0))) = Z at key i0 i1 i2 i3 i4
      generalize kSea (rK r) p m.toNat (sd, ((r.2 1, 0, 0, 0, fun _ => 0), (0, 0, 0, 0))) = Y at i1 i2 i3
      obtain ⟨d, F1, T1⟩ := Z
      dsimp only at key i0 i1 i2 i3 i4
      have b0 : 0 ≤ F1.1 114 := by rw [i4, e14]; exact a0
      have b1 : F1.1 114 ≤ 10 := by rw [i4, e14]; exact a1
      rw [← i3, ← rAt_eq (Nat.le_refl 10) (by omega) i2]
      try dsimp only
      have hZ : rC (rZ q (r.1 5) (r.1 6) d T1 F1 J1) = rC (xr_i r 11 0) := (rZ_c h5.symm h6.symm).trans hC
      have g2 : (gg (n + 824) 203).2 [.inr (.inr (.inl (1, 14))), .inl 2, .inl (-1)] (hR h (rTell (rZ q (r.1 5) (r.1 6) d T1 F1 J1) [bitC T1.2.2.2])) = some (some (.inl (rAt F1.1 2 (-1))), hR h (rTell (rZ q (r.1 5) (r.1 6) d T1 F1 J1) [bitC T1.2.2.2])) := by
        have e := r_at (n := n + 823) (h := h) (r := rTell (rZ q (r.1 5) (r.1 6) d T1 F1 J1) [bitC T1.2.2.2]) (j := 14) (by decide) 2 (-1) (by rw [rTell_2 _ _ (by decide), rZ_14]; exact b0) (by rw [rTell_2 _ _ (by decide), rZ_14]; exact b1)
        rw [rTell_2 _ _ (by decide), rZ_14] at e
        exact e
      have g3 := r_tellN (n := n + 823) (h := h) (r := rZ q (r.1 5) (r.1 6) d T1 F1 J1) (bitC T1.2.2.2) (vs := []) (by decide)
      have g4 := r_tellN (n := n + 823) (h := h) (r := rZ q (r.1 5) (r.1 6) d T1 F1 J1) (rAt F1.1 2 (-1)) (vs := [bitC T1.2.2.2]) (by show 1 < 16; decide)
      have g33 : ∀ vs, (rTell (rZ q (r.1 5) (r.1 6) d T1 F1 J1) vs).1 33 = T1.2.2.2 := fun vs => by rw [rTell_1 _ _ (by decide), rZ_33]
      have g30 : ∀ vs, (rTell (rZ q (r.1 5) (r.1 6) d T1 F1 J1) vs).1 30 = T1.1 := fun vs => by rw [rTell_1 _ _ (by decide), rZ_30]
      refine ⟨rTell (rZ q (r.1 5) (r.1 6) d T1 F1 J1) [bitC T1.2.2.2, rAt F1.1 2 (-1)], ?_, by rw [rC_tell, rC_tell, hZ]⟩
      rw [gr272]
      clear hl hr hl2 hr1 e0 e14 hK hC i0 i1 i2 i3 i4 hZ h5 h6 h0 h43
      simp -implicitDefEqProofs (disch := first | exact isc_R | (simp only [List.map_cons, List.map_nil, List.sum_cons, List.sum_nil, xcat, Nat.reduceAdd, Nat.reduceLeDiff, Nat.zero_le]; done) | omega) only [fX12_season, k_p_sq, k_p_blk, k_sq0, k_sq11, k_sq12, k_sq13, k_sq14, k_sq15, k_sqr, k_sqi, k_blk0, k_blk1, k_blk2, k_blk3, k_blk4, k_blk5, k_blkr, k_blki, k_finr, k_fini, k_mapi, k_bindi, k_if1, k_if2, k_ops, k_br, k_rv, k_ri, k_rl, k_rz, k_rzi, k_01d, k_sw, k_01a, k_01b, k_01c, k_ifn, x_cmp, decide_eq_true_eq, Option.map_some, Option.bind_some, Option.toList_some, Option.toList_none, List.cons_append, List.nil_append, Nat.reduceAdd, true_or, or_true, Int.reduceNeg, Int.reduceEq, reduceIte, Nat.zero_le, Nat.reduceLeDiff, Nat.le_refl, Nat.reduceEqDiff, List.getElem?_cons_zero, List.getElem?_cons_succ, xst, List.set_cons_zero, List.set_cons_succ, List.map_cons, List.map_nil, List.sum_cons, List.sum_nil, xcat, Nat.reduceMul, Nat.reduceDiv, Nat.reduceMod, Nat.add_zero, e_nil, e_iconst, e_il, e_al, e_ll, e_istore, e_astore, e_lstore, e_ic, e_iadd, e_isub, e_imul, e_iand, e_ior, e_ixor, e_ishl, e_ishr, e_ineg, e_dupi, e_dupr, e_dupx, e_dup2, e_popi, er_g0, er_g1, er_g2, er_g3, er_g4, er_g5, er_g6, er_g7, er_g8, er_g9, er_g10, er_g11, er_g12, er_g13, er_g14, er_g15, er_g16, er_g17, er_g18, er_g19, er_g20, er_g21, er_g22, er_g23, er_g24, er_g25, er_g26, er_g27, er_g28, er_g29, er_g30, er_g31, er_g32, er_g33, er_g34, er_g35, er_g36, er_g37, er_g38, er_g39, er_g40, er_g41, er_g42, er_g43, er_g44, er_g45, er_g46, er_g47, er_s1, er_s2, er_s5, er_s6, er_s8, er_s10, er_s11, er_s13, er_s14, er_s15, er_s16, er_s20, er_s23, er_s24, er_s25, er_s28, er_s30, er_s31, er_s32, er_s33, er_s42, er_s43, er_s44, er_s21a, er_s21b, er_s12a, er_s12b, isc_R, xr_i_g, Nat.reduceEqDiff, ec171, r_in, c1, c2, true_and, false_and, or_self, or_true, true_or, or_false, false_or, and_true, and_false, and_self, not_true_eq_false, not_false_eq_true, ec213, f2, ec229, r_begH, rT_0, key, rZ_p5, rZ_p6, rTell_0, g33, g30, ec282, r_bitC, ec174, g3, ec203, g2, g4, Int.reduceEq]
    · rw [if_neg (fun c => c2 c.2)]
      refine ⟨_, ?_, rfl⟩
      rw [gr272]
      clear hr ha
      simp -implicitDefEqProofs (disch := first | exact isc_R | (simp only [List.map_cons, List.map_nil, List.sum_cons, List.sum_nil, xcat, Nat.reduceAdd, Nat.reduceLeDiff, Nat.zero_le]; done) | omega) only [fX12_season, k_p_sq, k_p_blk, k_sq0, k_sq11, k_sq12, k_sq13, k_sq14, k_sq15, k_sqr, k_sqi, k_blk0, k_blk1, k_blk2, k_blk3, k_blk4, k_blk5, k_blkr, k_blki, k_finr, k_fini, k_mapi, k_bindi, k_if1, k_if2, k_ops, k_br, k_rv, k_ri, k_rl, k_rz, k_rzi, k_01d, k_sw, k_01a, k_01b, k_01c, k_ifn, x_cmp, decide_eq_true_eq, Option.map_some, Option.bind_some, Option.toList_some, Option.toList_none, List.cons_append, List.nil_append, Nat.reduceAdd, true_or, or_true, Int.reduceNeg, Int.reduceEq, reduceIte, Nat.zero_le, Nat.reduceLeDiff, Nat.le_refl, Nat.reduceEqDiff, List.getElem?_cons_zero, List.getElem?_cons_succ, xst, List.set_cons_zero, List.set_cons_succ, List.map_cons, List.map_nil, List.sum_cons, List.sum_nil, xcat, Nat.reduceMul, Nat.reduceDiv, Nat.reduceMod, Nat.add_zero, e_nil, e_iconst, e_il, e_al, e_ll, e_istore, e_astore, e_lstore, e_ic, e_iadd, e_isub, e_imul, e_iand, e_ior, e_ixor, e_ishl, e_ishr, e_ineg, e_dupi, e_dupr, e_dupx, e_dup2, e_popi, er_g0, er_g1, er_g2, er_g3, er_g4, er_g5, er_g6, er_g7, er_g8, er_g9, er_g10, er_g11, er_g12, er_g13, er_g14, er_g15, er_g16, er_g17, er_g18, er_g19, er_g20, er_g21, er_g22, er_g23, er_g24, er_g25, er_g26, er_g27, er_g28, er_g29, er_g30, er_g31, er_g32, er_g33, er_g34, er_g35, er_g36, er_g37, er_g38, er_g39, er_g40, er_g41, er_g42, er_g43, er_g44, er_g45, er_g46, er_g47, er_s1, er_s2, er_s5, er_s6, er_s8, er_s10, er_s11, er_s13, er_s14, er_s15, er_s16, er_s20, er_s23, er_s24, er_s25, er_s28, er_s30, er_s31, er_s32, er_s33, er_s42, er_s43, er_s44, er_s21a, er_s21b, er_s12a, er_s12b, isc_R, ec171, r_in, c1, c2, true_and, false_and, or_self, or_true, true_or, or_false, false_or, and_true, and_false, and_self, not_true_eq_false, not_false_eq_true, Int.reduceEq]
  · rw [if_neg (fun c => c1 c.1)]
    refine ⟨_, ?_, rfl⟩
    rw [gr272]
    clear hr ha
    simp -implicitDefEqProofs (disch := first | exact isc_R | (simp only [List.map_cons, List.map_nil, List.sum_cons, List.sum_nil, xcat, Nat.reduceAdd, Nat.reduceLeDiff, Nat.zero_le]; done) | omega) only [fX12_season, k_p_sq, k_p_blk, k_sq0, k_sq11, k_sq12, k_sq13, k_sq14, k_sq15, k_sqr, k_sqi, k_blk0, k_blk1, k_blk2, k_blk3, k_blk4, k_blk5, k_blkr, k_blki, k_finr, k_fini, k_mapi, k_bindi, k_if1, k_if2, k_ops, k_br, k_rv, k_ri, k_rl, k_rz, k_rzi, k_01d, k_sw, k_01a, k_01b, k_01c, k_ifn, x_cmp, decide_eq_true_eq, Option.map_some, Option.bind_some, Option.toList_some, Option.toList_none, List.cons_append, List.nil_append, Nat.reduceAdd, true_or, or_true, Int.reduceNeg, Int.reduceEq, reduceIte, Nat.zero_le, Nat.reduceLeDiff, Nat.le_refl, Nat.reduceEqDiff, List.getElem?_cons_zero, List.getElem?_cons_succ, xst, List.set_cons_zero, List.set_cons_succ, List.map_cons, List.map_nil, List.sum_cons, List.sum_nil, xcat, Nat.reduceMul, Nat.reduceDiv, Nat.reduceMod, Nat.add_zero, e_nil, e_iconst, e_il, e_al, e_ll, e_istore, e_astore, e_lstore, e_ic, e_iadd, e_isub, e_imul, e_iand, e_ior, e_ixor, e_ishl, e_ishr, e_ineg, e_dupi, e_dupr, e_dupx, e_dup2, e_popi, er_g0, er_g1, er_g2, er_g3, er_g4, er_g5, er_g6, er_g7, er_g8, er_g9, er_g10, er_g11, er_g12, er_g13, er_g14, er_g15, er_g16, er_g17, er_g18, er_g19, er_g20, er_g21, er_g22, er_g23, er_g24, er_g25, er_g26, er_g27, er_g28, er_g29, er_g30, er_g31, er_g32, er_g33, er_g34, er_g35, er_g36, er_g37, er_g38, er_g39, er_g40, er_g41, er_g42, er_g43, er_g44, er_g45, er_g46, er_g47, er_s1, er_s2, er_s5, er_s6, er_s8, er_s10, er_s11, er_s13, er_s14, er_s15, er_s16, er_s20, er_s23, er_s24, er_s25, er_s28, er_s30, er_s31, er_s32, er_s33, er_s42, er_s43, er_s44, er_s21a, er_s21b, er_s12a, er_s12b, isc_R, ec171, r_in, c1, true_and, false_and, or_self, or_true, true_or, or_false, false_or, and_true, and_false, and_self, not_true_eq_false, not_false_eq_true, Int.reduceEq]
end SH
