/-! ===== half hours hang on the row alone ===== -/
def p4 (F : xFl) : (Nat → Int) × Int × Int × Int := (F.1, F.2.1, F.2.2.1, F.2.2.2.1)
theorem p4_gull {k : xKx} {g : Nat} {F F' : xFl} (e : p4 F = p4 F') : p4 (kGull k g F) = p4 (kGull k g F') := by
  obtain ⟨a, c, d, x, t⟩ := F
  obtain ⟨a', c', d', x', t'⟩ := F'
  unfold p4 at e
  dsimp only at e
  injection e with e1 e
  injection e with e2 e
  injection e with e3 e4
  subst e1 e2 e3 e4
  unfold kGull
  dsimp only
  generalize rAim (kStorm k) (kB k) (kHome k) a g = q
  generalize kRg k a g (rFar a g q) = rg
  repeat' split
  all_goals rfl
theorem p4_gulls {k : xKx} {F F' : xFl} (e : p4 F = p4 F') : ∀ m, p4 (kGulls k m F) = p4 (kGulls k m F')
  | 0 => e
  | m + 1 => by
    have ih := p4_gulls (k := k) e m
    have e1 : (kGulls k m F).1 = (kGulls k m F').1 := congrArg (fun z => z.1) ih
    unfold kGulls
    rw [e1]
    split
    · exact p4_gull ih
    · exact ih
theorem p4_half {k : xKx} {F F' : xFl} (e : F.1 = F'.1) : p4 (kHalf k F) = p4 (kHalf k F') := by
  unfold kHalf
  dsimp only
  have e1 := p4_gulls (k := k) (F := (xit boat1 (kB k) F.1, 0, 0, 0, F.2.2.2.2)) (F' := (xit boat1 (kB k) F'.1, 0, 0, 0, F'.2.2.2.2)) (by rw [e]; rfl) (kN k)
  generalize kGulls k (kN k) (xit boat1 (kB k) F.1, 0, 0, 0, F.2.2.2.2) = G1 at e1
  generalize kGulls k (kN k) (xit boat1 (kB k) F'.1, 0, 0, 0, F'.2.2.2.2) = G2 at e1
  obtain ⟨a, c, d, x, t⟩ := G1
  obtain ⟨a', c', d', x', t'⟩ := G2
  unfold p4 at e1
  dsimp only at e1
  injection e1 with e1 e
  injection e with e2 e
  injection e with e3 e4
  subst e1 e2 e3 e4
  rfl
theorem p4_hs {k : xKx} {P P' : xHs} (e1 : P.1.1 = P'.1.1) (e2 : P.2 = P'.2) : ∀ m, (kHs k m P).1.1 = (kHs k m P').1.1 ∧ (kHs k m P).2 = (kHs k m P').2
  | 0 => ⟨e1, e2⟩
  | m + 1 => by
    obtain ⟨i1, i2⟩ := p4_hs (k := k) e1 e2 m
    show (kHs1 k (kHs k m P)).1.1 = (kHs1 k (kHs k m P')).1.1 ∧ (kHs1 k (kHs k m P)).2 = (kHs1 k (kHs k m P')).2
    unfold kHs1
    dsimp only
    have e3 := p4_half (k := k) i1
    rw [i2]
    generalize kHalf k (kHs k m P).1 = G1 at e3
    generalize kHalf k (kHs k m P').1 = G2 at e3
    obtain ⟨a, c, d, x, t⟩ := G1
    obtain ⟨a', c', d', x', t'⟩ := G2
    unfold p4 at e3
    dsimp only at e3
    injection e3 with e1 e
    injection e with e2 e
    injection e with e3 e4
    subst e1 e2 e3 e4
    exact ⟨rfl, rfl⟩
/-- m half hours of a row, and what came -/
def kPass (k : xKx) (m : Nat) (a : Nat → Int) : (Nat → Int) × (Int × Int × Int × Int) := ((kHs k m ((a, 0, 0, 0, fun _ => 0), (0, 0, 0, 0))).1.1, (kHs k m ((a, 0, 0, 0, fun _ => 0), (0, 0, 0, 0))).2)
section GY
variable {n : Nat} {h : xH} {r : xR} {H : xH} {j : Nat} {F : xFl} {J : xR} {T : Int × Int × Int × Int}
theorem rRem_C (r : xR) (U : Nat) : rC (rRem r 1 U) = rRem (rC r) 1 U := by
  unfold rRem
  split
  · rw [rC_in (k := 28) rfl, rC_jn (c := 11) rfl, rC_in (k := 28) rfl, rC_jn (c := 11) rfl, rC_2 (c := 11) rfl, rC_2 (c := 1) rfl]
  · rw [rC_in (k := 28) rfl, rC_jn (c := 11) rfl, rC_2 (c := 11) rfl, rC_2 (c := 1) rfl]
theorem rRem_K (r : xR) (j U : Nat) : rK (rRem r j U) = rK r := by
  unfold rK
  rw [rRem_1 _ _ _ 1 (by decide), rRem_1 _ _ _ 2 (by decide), rRem_1 _ _ _ 5 (by decide), rRem_1 _ _ _ 6 (by decide), rRem_1 _ _ _ 20 (by decide), rRem_2 _ _ _ 2 (by decide), rRem_2 _ _ _ 3 (by decide), rRem_2 _ _ _ 8 (by decide)]
theorem rRem_ok (hr : rOk r) (j U : Nat) : rOk (rRem r j U) := by
  unfold rOk
  rw [rRem_1 _ _ _ 1 (by decide), rRem_1 _ _ _ 2 (by decide), rRem_1 _ _ _ 20 (by decide), rRem_2 _ _ _ 2 (by decide)]
  exact hr
/-- beginHalves, goHalves(now, m), tellHalves -/
theorem r_hs {m : Nat} (hm : m ≤ 1000) (hr : rOk r) (hl : kBear (kN (rK r)) (r.2 1)) : ∃ r2, (gg (n + 824) 228).2 [.inr (.inr (.inl (1, 0))), .inr (.inr (.inl (1, 1))), .inl (m : Int)] (hR h (rT r (0, 0, 0, 0))) = some (none, hR h r2) ∧ rC r2 = xr_j (rC r) 1 (kPass (rK r) m (r.2 1)).1 ∧ (r2.1 30, r2.1 31, r2.1 32, r2.1 33) = (kPass (rK r) m (r.2 1)).2 := by
  have hw : rT r (0, 0, 0, 0) = rW (rT r (0, 0, 0, 0)) 1 (r.2 1, r.1 23, r.1 24, r.1 25, r.2 10) (rT r (0, 0, 0, 0)) := (rW_self (r := rT r (0, 0, 0, 0)) (j := 1) (by decide)).symm
  obtain ⟨J', f1⟩ := r_goHalves (n := n) (h := h) (r := r) (j := 1) (F := (r.2 1, r.1 23, r.1 24, r.1 25, r.2 10)) (T := (0, 0, 0, 0)) (J := rT r (0, 0, 0, 0)) (Or.inl rfl) hr hl hm
  rw [← hw] at f1
  obtain ⟨e1, e2⟩ := p4_hs (k := rK r) (P := ((r.2 1, r.1 23, r.1 24, r.1 25, r.2 10), (0, 0, 0, 0))) (P' := ((r.2 1, 0, 0, 0, fun _ => 0), (0, 0, 0, 0))) rfl rfl m
  unfold kPass
  dsimp only
  rw [← e1, ← e2]
  generalize kHs (rK r) m ((r.2 1, r.1 23, r.1 24, r.1 25, r.2 10), (0, 0, 0, 0)) = P at f1
  exact ⟨_, f1, by rw [rC_W1, rC_T], rfl⟩
set_option maxHeartbeats 400000 in
theorem r_halves {U : Nat} (hU : r.1 28 = U) (hU2 : U ≤ 12) (hr : rOk r) (hl : kBear (kN (rK r)) (r.2 1)) (v : Int) :
    ∃ r', (gg (n + 825) 232).2 [.inr (.inr (.inl (1, 0))), .inl v] (hR h r) = some (some (.inl (if 0 ≤ v ∧ v ≤ 48 then (kPass (rK r) v.toNat (r.2 1)).2.1 else -1)), hR h r') ∧
      rC r' = if 0 ≤ v ∧ v ≤ 48 then rTell (xr_j (if 0 < v then rRem (rC (xr_i r 11 0)) 1 U else rC (xr_i r 11 0)) 1 (kPass (rK r) v.toNat (r.2 1)).1) [(kPass (rK r) v.toNat (r.2 1)).2.2.1, (kPass (rK r) v.toNat (r.2 1)).2.2.2.1, (kPass (rK r) v.toNat (r.2 1)).2.2.2.2] else rC (xr_i r 11 0) := by
  by_cases c1 : 0 ≤ v ∧ v ≤ 48
  · rw [if_pos c1, if_pos c1]
    obtain ⟨c2, c3⟩ := c1
    have hv : v = (v.toNat : Int) := by omega
    have f1 := r_rem (n := n + 822) (h := h) (r := xr_i r 11 0) (Or.inl rfl) (show (xr_i r 11 0).1 28 = (U : Int) from hU) hU2
    by_cases c4 : 0 < v
    · rw [if_pos c4, ← rRem_C]
      have hr1 : rOk (rRem (xr_i r 11 0) 1 U) := rRem_ok (r := xr_i r 11 0) hr 1 U
      have e2 : (rRem (xr_i r 11 0) 1 U).2 1 = r.2 1 := rRem_2 _ _ _ 1 (by decide)
      have eK : rK (rRem (xr_i r 11 0) 1 U) = rK r := rRem_K _ _ _
      generalize rRem (xr_i r 11 0) 1 U = r1 at f1 hr1 e2 eK
      obtain ⟨r2, f2, g1, g2⟩ := r_hs (n := n) (h := h) (r := r1) (m := v.toNat) (by omega) hr1 (by rw [eK, e2]; exact hl)
      rw [← hv] at f2
      rw [eK, e2] at g1 g2
      generalize kPass (rK r) v.toNat (r.2 1) = P at g1 g2
      have f3 := r_tellH (n := n + 822) (h := h) (r := r2) rfl rfl rfl
      have g3 : r2.1 30 = P.2.1 := congrArg (fun z => z.1) g2
      have g4 : r2.1 31 = P.2.2.1 := congrArg (fun z => z.2.1) g2
      have g5 : r2.1 32 = P.2.2.2.1 := congrArg (fun z => z.2.2.1) g2
      have g6 : r2.1 33 = P.2.2.2.2 := congrArg (fun z => z.2.2.2) g2
      rw [g3, g4, g5, g6] at f3
      refine ⟨rTell r2 [P.2.2.1, P.2.2.2.1, P.2.2.2.2], ?_, ?_⟩
      · have c4n : ¬ v ≤ 0 := by omega
        rw [gr232]
        clear hl hr hr1 eK hU hU2 g1 g3 g4 g5 g6 e2
        simp -implicitDefEqProofs (disch := first | exact isc_R | (simp only [List.map_cons, List.map_nil, List.sum_cons, List.sum_nil, xcat, Nat.reduceAdd, Nat.reduceLeDiff, Nat.zero_le]; done) | omega) only [fX12_halves, k_p_sq, k_p_blk, k_sq0, k_sq11, k_sq12, k_sq13, k_sq14, k_sq15, k_sqr, k_sqi, k_blk0, k_blk1, k_blk2, k_blk3, k_blk4, k_blk5, k_blkr, k_blki, k_finr, k_fini, k_mapi, k_bindi, k_if1, k_if2, k_ops, k_br, k_rv, k_ri, k_rl, k_rz, k_rzi, k_01d, k_sw, k_01a, k_01b, k_01c, k_ifn, x_cmp, decide_eq_true_eq, Option.map_some, Option.bind_some, Option.toList_some, Option.toList_none, List.cons_append, List.nil_append, Nat.reduceAdd, true_or, or_true, Int.reduceNeg, Int.reduceEq, reduceIte, Nat.zero_le, Nat.reduceLeDiff, Nat.le_refl, Nat.reduceEqDiff, List.getElem?_cons_zero, List.getElem?_cons_succ, xst, List.set_cons_zero, List.set_cons_succ, List.map_cons, List.map_nil, List.sum_cons, List.sum_nil, xcat, Nat.reduceMul, Nat.reduceDiv, Nat.reduceMod, Nat.add_zero, e_nil, e_iconst, e_il, e_al, e_ll, e_istore, e_astore, e_lstore, e_ic, e_iadd, e_isub, e_imul, e_iand, e_ior, e_ixor, e_ishl, e_ishr, e_ineg, e_dupi, e_dupr, e_dupx, e_dup2, e_popi, er_g0, er_g1, er_g2, er_g3, er_g4, er_g5, er_g6, er_g7, er_g8, er_g9, er_g10, er_g11, er_g12, er_g13, er_g14, er_g15, er_g16, er_g17, er_g18, er_g19, er_g20, er_g21, er_g22, er_g23, er_g24, er_g25, er_g26, er_g27, er_g28, er_g29, er_g30, er_g31, er_g32, er_g33, er_g34, er_g35, er_g36, er_g37, er_g38, er_g39, er_g40, er_g41, er_g42, er_g43, er_g44, er_g45, er_g46, er_g47, er_s1, er_s2, er_s5, er_s6, er_s8, er_s10, er_s11, er_s13, er_s14, er_s15, er_s16, er_s20, er_s23, er_s24, er_s25, er_s28, er_s30, er_s31, er_s32, er_s33, er_s42, er_s43, er_s44, er_s21a, er_s21b, er_s12a, er_s12b, isc_R, ec171, r_in, c2, c3, c4n, true_and, false_and, or_self, or_true, true_or, or_false, false_or, and_true, and_false, and_self, not_true_eq_false, not_false_eq_true, ec214, f1, ec229, r_begH, rT_0, ec228, f2, ec230, f3]
      · rw [rC_tell, g1]
    · have hv0 : v = 0 := by omega
      subst hv0
      rw [if_neg c4]
      obtain ⟨r2, f2, g1, g2⟩ := r_hs (n := n) (h := h) (r := xr_i r 11 0) (m := (0 : Int).toNat) (by decide) hr hl
      have f2 : (gg (n + 824) 228).2 [.inr (.inr (.inl (1, 0))), .inr (.inr (.inl (1, 1))), .inl 0] (hR h (rT (xr_i r 11 0) (0, 0, 0, 0))) = some (none, hR h r2) := f2
      have g1 : rC r2 = xr_j (rC (xr_i r 11 0)) 1 (kPass (rK r) (0 : Int).toNat (r.2 1)).1 := g1
      have g2 : (r2.1 30, r2.1 31, r2.1 32, r2.1 33) = (kPass (rK r) (0 : Int).toNat (r.2 1)).2 := g2
      generalize kPass (rK r) (0 : Int).toNat (r.2 1) = P at g1 g2
      have f3 := r_tellH (n := n + 822) (h := h) (r := r2) rfl rfl rfl
      have g3 : r2.1 30 = P.2.1 := congrArg (fun z => z.1) g2
      have g4 : r2.1 31 = P.2.2.1 := congrArg (fun z => z.2.1) g2
      have g5 : r2.1 32 = P.2.2.2.1 := congrArg (fun z => z.2.2.1) g2
      have g6 : r2.1 33 = P.2.2.2.2 := congrArg (fun z => z.2.2.2) g2
      rw [g3, g4, g5, g6] at f3
      refine ⟨rTell r2 [P.2.2.1, P.2.2.2.1, P.2.2.2.2], ?_, ?_⟩
      · rw [gr232]
        clear hl hr hU hU2 g1 g3 g4 g5 g6
        simp -implicitDefEqProofs (disch := first | exact isc_R | (simp only [List.map_cons, List.map_nil, List.sum_cons, List.sum_nil, xcat, Nat.reduceAdd, Nat.reduceLeDiff, Nat.zero_le]; done) | omega) only [fX12_halves, k_p_sq, k_p_blk, k_sq0, k_sq11, k_sq12, k_sq13, k_sq14, k_sq15, k_sqr, k_sqi, k_blk0, k_blk1, k_blk2, k_blk3, k_blk4, k_blk5, k_blkr, k_blki, k_finr, k_fini, k_mapi, k_bindi, k_if1, k_if2, k_ops, k_br, k_rv, k_ri, k_rl, k_rz, k_rzi, k_01d, k_sw, k_01a, k_01b, k_01c, k_ifn, x_cmp, decide_eq_true_eq, Option.map_some, Option.bind_some, Option.toList_some, Option.toList_none, List.cons_append, List.nil_append, Nat.reduceAdd, true_or, or_true, Int.reduceNeg, Int.reduceEq, reduceIte, Nat.zero_le, Nat.reduceLeDiff, Nat.le_refl, Nat.reduceEqDiff, List.getElem?_cons_zero, List.getElem?_cons_succ, xst, List.set_cons_zero, List.set_cons_succ, List.map_cons, List.map_nil, List.sum_cons, List.sum_nil, xcat, Nat.reduceMul, Nat.reduceDiv, Nat.reduceMod, Nat.add_zero, e_nil, e_iconst, e_il, e_al, e_ll, e_istore, e_astore, e_lstore, e_ic, e_iadd, e_isub, e_imul, e_iand, e_ior, e_ixor, e_ishl, e_ishr, e_ineg, e_dupi, e_dupr, e_dupx, e_dup2, e_popi, er_g0, er_g1, er_g2, er_g3, er_g4, er_g5, er_g6, er_g7, er_g8, er_g9, er_g10, er_g11, er_g12, er_g13, er_g14, er_g15, er_g16, er_g17, er_g18, er_g19, er_g20, er_g21, er_g22, er_g23, er_g24, er_g25, er_g26, er_g27, er_g28, er_g29, er_g30, er_g31, er_g32, er_g33, er_g34, er_g35, er_g36, er_g37, er_g38, er_g39, er_g40, er_g41, er_g42, er_g43, er_g44, er_g45, er_g46, er_g47, er_s1, er_s2, er_s5, er_s6, er_s8, er_s10, er_s11, er_s13, er_s14, er_s15, er_s16, er_s20, er_s23, er_s24, er_s25, er_s28, er_s30, er_s31, er_s32, er_s33, er_s42, er_s43, er_s44, er_s21a, er_s21b, er_s12a, er_s12b, isc_R, ec171, r_in, c2, c3, Int.le_refl, true_and, false_and, or_self, or_true, true_or, or_false, false_or, and_true, and_false, and_self, not_true_eq_false, not_false_eq_true, ec229, r_begH, rT_0, ec228, f2, ec230, f3]
      · rw [rC_tell, g1]
  · rw [if_neg c1, if_neg c1]
    refine ⟨_, ?_, rfl⟩
    rw [gr232]
    clear hl hr hU hU2
    simp -implicitDefEqProofs (disch := first | exact isc_R | (simp only [List.map_cons, List.map_nil, List.sum_cons, List.sum_nil, xcat, Nat.reduceAdd, Nat.reduceLeDiff, Nat.zero_le]; done) | omega) only [fX12_halves, k_p_sq, k_p_blk, k_sq0, k_sq11, k_sq12, k_sq13, k_sq14, k_sq15, k_sqr, k_sqi, k_blk0, k_blk1, k_blk2, k_blk3, k_blk4, k_blk5, k_blkr, k_blki, k_finr, k_fini, k_mapi, k_bindi, k_if1, k_if2, k_ops, k_br, k_rv, k_ri, k_rl, k_rz, k_rzi, k_01d, k_sw, k_01a, k_01b, k_01c, k_ifn, x_cmp, decide_eq_true_eq, Option.map_some, Option.bind_some, Option.toList_some, Option.toList_none, List.cons_append, List.nil_append, Nat.reduceAdd, true_or, or_true, Int.reduceNeg, Int.reduceEq, reduceIte, Nat.zero_le, Nat.reduceLeDiff, Nat.le_refl, Nat.reduceEqDiff, List.getElem?_cons_zero, List.getElem?_cons_succ, xst, List.set_cons_zero, List.set_cons_succ, List.map_cons, List.map_nil, List.sum_cons, List.sum_nil, xcat, Nat.reduceMul, Nat.reduceDiv, Nat.reduceMod, Nat.add_zero, e_nil, e_iconst, e_il, e_al, e_ll, e_istore, e_astore, e_lstore, e_ic, e_iadd, e_isub, e_imul, e_iand, e_ior, e_ixor, e_ishl, e_ishr, e_ineg, e_dupi, e_dupr, e_dupx, e_dup2, e_popi, er_g0, er_g1, er_g2, er_g3, er_g4, er_g5, er_g6, er_g7, er_g8, er_g9, er_g10, er_g11, er_g12, er_g13, er_g14, er_g15, er_g16, er_g17, er_g18, er_g19, er_g20, er_g21, er_g22, er_g23, er_g24, er_g25, er_g26, er_g27, er_g28, er_g29, er_g30, er_g31, er_g32, er_g33, er_g34, er_g35, er_g36, er_g37, er_g38, er_g39, er_g40, er_g41, er_g42, er_g43, er_g44, er_g45, er_g46, er_g47, er_s1, er_s2, er_s5, er_s6, er_s8, er_s10, er_s11, er_s13, er_s14, er_s15, er_s16, er_s20, er_s23, er_s24, er_s25, er_s28, er_s30, er_s31, er_s32, er_s33, er_s42, er_s43, er_s44, er_s21a, er_s21b, er_s12a, er_s12b, isc_R, ec171, r_in, c1, true_and, false_and, or_self, or_true, true_or, or_false, false_or, and_true, and_false, and_self, not_true_eq_false, not_false_eq_true]
end GY
