/-! ===== the reference: fleet, whole ===== -/
section FLe
variable {n : Nat} {h : xH} {r : xR} {H : xH}
theorem r_fleet0 {T : Nat} (hT : r.1 8 = T) {U V W : xV} : p_ops x_dd (gg (n + 6)) 1 [.aload 0, .iconst 0, .putfield 779, .aload 0, .aload 0, .getfield 775, .aload 0, .getfield 776, .iconst 76, .invokevirtual 2892, .aload 0, .iconst 0, .putfield 776, .aload 0, .getfield 781] ([.inr (.inr (.inl (1, 0))), U, V, W], [], hR h r) = some (.inl 0, ([.inr (.inr (.inl (1, 0))), U, V, W], [.inl (T : Int)], hR h (rRd (tTx r T 76) 0 (-1)))) := by
  have f := fun q le mo => r_beginT (n := n + 5) (h := h) (r := q) le mo
  have hX : rRd (xr_i (xr_i (xr_i (xr_i (xr_i r 11 0) 12 1) 13 T) 14 76) 8 0) 0 (-1) = rRd (tTx r T 76) 0 (-1) := rfl
  have h8 : (xr_i r 11 0).1 8 = T := hT
  have h13 : (rRd (tTx r T 76) 0 (-1)).1 13 = T := rfl
  simp -implicitDefEqProofs (disch := first | exact isc_R | (simp only [List.map_cons, List.map_nil, List.sum_cons, List.sum_nil, xcat, Nat.reduceAdd, Nat.reduceLeDiff, Nat.zero_le]; done) | omega) only [k_p_sq, k_p_blk, k_sq0, k_sq11, k_sq12, k_sq13, k_sq14, k_sq15, k_sqr, k_sqi, k_blk0, k_blk1, k_blk2, k_blk3, k_blk4, k_blk5, k_blkr, k_blki, k_finr, k_fini, k_mapi, k_bindi, k_if1, k_if2, k_ops, k_br, k_rv, k_ri, k_rl, k_rz, k_rzi, k_01d, k_sw, k_01a, k_01b, k_01c, k_ifn, x_cmp, decide_eq_true_eq, Option.map_some, Option.bind_some, Option.toList_some, Option.toList_none, List.cons_append, List.nil_append, Nat.reduceAdd, true_or, or_true, Int.reduceNeg, Int.reduceEq, reduceIte, Nat.zero_le, Nat.reduceLeDiff, Nat.le_refl, Nat.reduceEqDiff, List.getElem?_cons_zero, List.getElem?_cons_succ, xst, List.set_cons_zero, List.set_cons_succ, List.map_cons, List.map_nil, List.sum_cons, List.sum_nil, xcat, Nat.reduceMul, Nat.reduceDiv, Nat.reduceMod, Nat.add_zero, e_nil, e_iconst, e_il, e_al, e_ll, e_istore, e_astore, e_lstore, e_ic, e_iadd, e_isub, e_imul, e_iand, e_ior, e_ixor, e_ishl, e_ishr, e_ineg, e_dupi, e_dupr, e_dupx, e_dup2, e_popi, er_g0, er_g1, er_g2, er_g3, er_g4, er_g5, er_g6, er_g7, er_g8, er_g9, er_g10, er_g11, er_g12, er_g13, er_g14, er_g15, er_g16, er_g17, er_g18, er_g19, er_g20, er_g21, er_g22, er_g23, er_g24, er_g25, er_g26, er_g27, er_g28, er_g29, er_g30, er_g31, er_g32, er_g33, er_g34, er_g35, er_g36, er_g37, er_g38, er_g39, er_g40, er_g41, er_g42, er_g43, er_g44, er_g45, er_g46, er_g47, er_s1, er_s2, er_s5, er_s6, er_s8, er_s10, er_s11, er_s13, er_s14, er_s15, er_s16, er_s20, er_s23, er_s24, er_s25, er_s28, er_s30, er_s31, er_s32, er_s33, er_s42, er_s43, er_s44, er_s21a, er_s21b, er_s12a, er_s12b, isc_R, h8, ec180, f, rRd_i, hX, h13]
theorem rC_sB (q : xR) (A : Nat → Int) (b : Int) : rC (sB q 1 A b) = sB (rC q) 1 A b := by
  unfold sB
  rw [rC_in rfl, rC_jn rfl]
theorem r_fleet9 {q : xR} {F : Nat → Int} {A : Nat → Int} {b a w v : Int} : rC (xr_i (xr_i (sB (rRj q 6 F a w) 1 A b) 28 0) 44 v) = rC (xr_i (xr_i (sB q 1 A b) 28 0) 44 v) := by
  rw [rC_in rfl, rC_in rfl, rC_sB, rC_Rj rfl, rC_in rfl, rC_in rfl, rC_sB]
theorem r_fleet {T B : Nat} (hT : r.1 8 = T) (hT2 : T ≤ 80) (hb : r.1 1 = B) (hB : B ≤ 6) : ∃ r', (gg (n + 7) 191).2 [.inr (.inr (.inl (1, 0)))] (hR h r) = some (some (.inl (sFleet r T B).1), hR h r') ∧ rC r' = rC (sFleet r T B).2 := by
  rw [gr191]
  unfold fX12_fleet sFleet
  have f0 := r_fleet0 (n := n) (h := h) (r := r) hT (U := .inr (.inr (.inr 2))) (V := .inr (.inr (.inr 2))) (W := .inr (.inr (.inr 2)))
  by_cases c0 : T = 0
  · rw [if_pos c0]
    refine ⟨rRd (tTx r T 76) 0 (-1), k_seq _ f0 ?_, rC_Rd 0 (-1)⟩
    have c1 : (T : Int) = 0 := by omega
    rw [c1]
    generalize tTx r T 76 = q
    simp -implicitDefEqProofs (disch := first | exact isc_R | (simp only [List.map_cons, List.map_nil, List.sum_cons, List.sum_nil, xcat, Nat.reduceAdd, Nat.reduceLeDiff, Nat.zero_le]; done) | omega) only [k_p_sq, k_p_blk, k_sq0, k_sq11, k_sq12, k_sq13, k_sq14, k_sq15, k_sqr, k_sqi, k_blk0, k_blk1, k_blk2, k_blk3, k_blk4, k_blk5, k_blkr, k_blki, k_finr, k_fini, k_mapi, k_bindi, k_if1, k_if2, k_ops, k_br, k_rv, k_ri, k_rl, k_rz, k_rzi, k_01d, k_sw, k_01a, k_01b, k_01c, k_ifn, x_cmp, decide_eq_true_eq, Option.map_some, Option.bind_some, Option.toList_some, Option.toList_none, List.cons_append, List.nil_append, Nat.reduceAdd, true_or, or_true, Int.reduceNeg, Int.reduceEq, reduceIte, Nat.zero_le, Nat.reduceLeDiff, Nat.le_refl, Nat.reduceEqDiff, List.getElem?_cons_zero, List.getElem?_cons_succ, xst, List.set_cons_zero, List.set_cons_succ, List.map_cons, List.map_nil, List.sum_cons, List.sum_nil, xcat, Nat.reduceMul, Nat.reduceDiv, Nat.reduceMod, Nat.add_zero, e_nil, e_iconst, e_il, e_al, e_ll, e_istore, e_astore, e_lstore, e_ic, e_iadd, e_isub, e_imul, e_iand, e_ior, e_ixor, e_ishl, e_ishr, e_ineg, e_dupi, e_dupr, e_dupx, e_dup2, e_popi, er_g0, er_g1, er_g2, er_g3, er_g4, er_g5, er_g6, er_g7, er_g8, er_g9, er_g10, er_g11, er_g12, er_g13, er_g14, er_g15, er_g16, er_g17, er_g18, er_g19, er_g20, er_g21, er_g22, er_g23, er_g24, er_g25, er_g26, er_g27, er_g28, er_g29, er_g30, er_g31, er_g32, er_g33, er_g34, er_g35, er_g36, er_g37, er_g38, er_g39, er_g40, er_g41, er_g42, er_g43, er_g44, er_g45, er_g46, er_g47, er_s1, er_s2, er_s5, er_s6, er_s8, er_s10, er_s11, er_s13, er_s14, er_s15, er_s16, er_s20, er_s23, er_s24, er_s25, er_s28, er_s30, er_s31, er_s32, er_s33, er_s42, er_s43, er_s44, er_s21a, er_s21b, er_s12a, er_s12b, isc_R, Int.reduceEq]
  · rw [if_neg c0]
    have c1 : ¬ (T : Int) = 0 := by omega
    have hs : rSane (tTx r T 76) := tTx_sane hT2 (by decide)
    obtain ⟨F', g1, g2, g3⟩ := r_flL (n := n) (h := h) hs (B := B) hb (.inr (.inr (.inr 2))) 7 0 0 (r.2 6) (by omega) (by omega) (by decide) (by decide)
    have hn : (tFl (tTx r T 76) B 7 0 0 (-1)).2.2 = -1 → B + 0 + (tFl (tTx r T 76) B 7 0 0 (-1)).1.length ≤ 6 := tFl_len (r := tTx r T 76) (B := B) 7 0 0 (by decide) (by omega)
    have hat := tFl_at (r := tTx r T 76) (B := B) 7 0 0 (-1) (by decide)
    have e0 : rRd (tTx r T 76) 0 (-1) = rRj (tTx r T 76) 6 (r.2 6) 0 (-1) := rRj_0 6 0 (-1)
    rw [e0] at f0
    have t13 : ∀ F a w, (rRj (tTx r T 76) 6 F a w).1 13 = T := fun _ _ _ => rfl
    have t1 : ∀ F a w, (rRj (tTx r T 76) 6 F a w).1 1 = B := fun _ _ _ => hb
    have t44 : ∀ F a w, (rRj (tTx r T 76) 6 F a w).1 44 = r.1 44 := fun _ _ _ => rfl
    have t21 : ∀ F a w, (rRj (tTx r T 76) 6 F a w).2 1 = r.2 1 := fun _ _ _ => rfl
    have t15 : ∀ F a w, (rRj (tTx r T 76) 6 F a w).1 15 = a := fun _ _ _ => rfl
    have t16 : ∀ F a w, (rRj (tTx r T 76) 6 F a w).1 16 = w := fun _ _ _ => rfl
    have ff := fun (w : Int) => u_fine (n := n + 5) (h := h) (r := tTx r T 76) (c := 6) (F := F') (a := (tFl (tTx r T 76) B 7 0 0 (-1)).2.1) (w := w)
    have fv := fun (w : Int) => u_fault (n := n + 4) (h := h) (r := tTx r T 76) (c := 6) (F := F') (a := (tFl (tTx r T 76) B 7 0 0 (-1)).2.1) (w := w) (tFl (tTx r T 76) B 7 0 0 (-1)).2.1
    have k8 : rC (tTx r T 76) = rC (tTx r T 76) := rfl
    dsimp only
    have fF := fun (hl : B + (tFl (tTx r T 76) B 7 0 0 (-1)).1.length ≤ 6) (a w : Int) (hF : ∀ i, i < (tFl (tTx r T 76) B 7 0 0 (-1)).1.length → tRow F' (5 * i) ((tFl (tTx r T 76) B 7 0 0 (-1)).1.getD i q50)) => r_flF (n := n + 6) (h := h) (q := rRj (tTx r T 76) 6 F' a w) (F := F') (j := 0) hb hl (rRj_2 _ _ _ _ _) hF
    generalize tFl (tTx r T 76) B 7 0 0 (-1) = Q at *
    obtain ⟨l, a, w⟩ := Q
    dsimp only at *
    rw [Nat.zero_add, show ((0 : Nat) : Int) = 0 from rfl] at g1
    have n15 : (xr_i (sB (rRj (tTx r T 76) 6 F' a w) 1 (tBs B l (r.2 1)) ((B + l.length : Nat) : Int)) 28 0).1 44 = r.1 44 := rfl
    by_cases c2 : a < (T : Int)
    · by_cases c4 : w = -1
      · subst c4
        have ff2 := ff a
        have fv2 := fv (-1)
        rw [if_pos rfl] at fv2
        have c5 : ¬ a = -1 := by omega
        have c6 : ¬ (T : Int) ≤ a := by omega
        rw [if_neg c5] at ff2
        simp only [if_pos c2, if_neg c5, if_true]
        refine ⟨rRj (tTx r T 76) 6 F' a a, k_seq _ f0 ?_, rC_Rj rfl a a⟩
        clear fF g2 g3 hs hn hat k8 n15 ff fv e0 f0
        generalize tTx r T 76 = q at *
        simp -implicitDefEqProofs (disch := first | exact isc_R | (simp only [List.map_cons, List.map_nil, List.sum_cons, List.sum_nil, xcat, Nat.reduceAdd, Nat.reduceLeDiff, Nat.zero_le]; done) | omega) only [k_p_sq, k_p_blk, k_sq0, k_sq11, k_sq12, k_sq13, k_sq14, k_sq15, k_sqr, k_sqi, k_blk0, k_blk1, k_blk2, k_blk3, k_blk4, k_blk5, k_blkr, k_blki, k_finr, k_fini, k_mapi, k_bindi, k_if1, k_if2, k_ops, k_br, k_rv, k_ri, k_rl, k_rz, k_rzi, k_01d, k_sw, k_01a, k_01b, k_01c, k_ifn, x_cmp, decide_eq_true_eq, Option.map_some, Option.bind_some, Option.toList_some, Option.toList_none, List.cons_append, List.nil_append, Nat.reduceAdd, true_or, or_true, Int.reduceNeg, Int.reduceEq, reduceIte, Nat.zero_le, Nat.reduceLeDiff, Nat.le_refl, Nat.reduceEqDiff, List.getElem?_cons_zero, List.getElem?_cons_succ, xst, List.set_cons_zero, List.set_cons_succ, List.map_cons, List.map_nil, List.sum_cons, List.sum_nil, xcat, Nat.reduceMul, Nat.reduceDiv, Nat.reduceMod, Nat.add_zero, e_nil, e_iconst, e_il, e_al, e_ll, e_istore, e_astore, e_lstore, e_ic, e_iadd, e_isub, e_imul, e_iand, e_ior, e_ixor, e_ishl, e_ishr, e_ineg, e_dupi, e_dupr, e_dupx, e_dup2, e_popi, er_g0, er_g1, er_g2, er_g3, er_g4, er_g5, er_g6, er_g7, er_g8, er_g9, er_g10, er_g11, er_g12, er_g13, er_g14, er_g15, er_g16, er_g17, er_g18, er_g19, er_g20, er_g21, er_g22, er_g23, er_g24, er_g25, er_g26, er_g27, er_g28, er_g29, er_g30, er_g31, er_g32, er_g33, er_g34, er_g35, er_g36, er_g37, er_g38, er_g39, er_g40, er_g41, er_g42, er_g43, er_g44, er_g45, er_g46, er_g47, er_s1, er_s2, er_s5, er_s6, er_s8, er_s10, er_s11, er_s13, er_s14, er_s15, er_s16, er_s20, er_s23, er_s24, er_s25, er_s28, er_s30, er_s31, er_s32, er_s33, er_s42, er_s43, er_s44, er_s21a, er_s21b, er_s12a, er_s12b, isc_R, c1, k_blk1, g1, t13, t15, t16, c2, c6, ec183, fv2, ec182, ff2, isc_Rj, Int.reduceEq]
      · have ff2 := ff w
        have fv2 := fv w
        rw [if_neg c4] at fv2 ff2
        have c6 : ¬ (T : Int) ≤ a := by omega
        simp only [if_neg c4]
        refine ⟨rRj (tTx r T 76) 6 F' a w, k_seq _ f0 ?_, rC_Rj rfl a w⟩
        clear fF g2 g3 hs hn hat k8 n15 ff fv e0 f0
        generalize tTx r T 76 = q at *
        simp -implicitDefEqProofs (disch := first | exact isc_R | (simp only [List.map_cons, List.map_nil, List.sum_cons, List.sum_nil, xcat, Nat.reduceAdd, Nat.reduceLeDiff, Nat.zero_le]; done) | omega) only [k_p_sq, k_p_blk, k_sq0, k_sq11, k_sq12, k_sq13, k_sq14, k_sq15, k_sqr, k_sqi, k_blk0, k_blk1, k_blk2, k_blk3, k_blk4, k_blk5, k_blkr, k_blki, k_finr, k_fini, k_mapi, k_bindi, k_if1, k_if2, k_ops, k_br, k_rv, k_ri, k_rl, k_rz, k_rzi, k_01d, k_sw, k_01a, k_01b, k_01c, k_ifn, x_cmp, decide_eq_true_eq, Option.map_some, Option.bind_some, Option.toList_some, Option.toList_none, List.cons_append, List.nil_append, Nat.reduceAdd, true_or, or_true, Int.reduceNeg, Int.reduceEq, reduceIte, Nat.zero_le, Nat.reduceLeDiff, Nat.le_refl, Nat.reduceEqDiff, List.getElem?_cons_zero, List.getElem?_cons_succ, xst, List.set_cons_zero, List.set_cons_succ, List.map_cons, List.map_nil, List.sum_cons, List.sum_nil, xcat, Nat.reduceMul, Nat.reduceDiv, Nat.reduceMod, Nat.add_zero, e_nil, e_iconst, e_il, e_al, e_ll, e_istore, e_astore, e_lstore, e_ic, e_iadd, e_isub, e_imul, e_iand, e_ior, e_ixor, e_ishl, e_ishr, e_ineg, e_dupi, e_dupr, e_dupx, e_dup2, e_popi, er_g0, er_g1, er_g2, er_g3, er_g4, er_g5, er_g6, er_g7, er_g8, er_g9, er_g10, er_g11, er_g12, er_g13, er_g14, er_g15, er_g16, er_g17, er_g18, er_g19, er_g20, er_g21, er_g22, er_g23, er_g24, er_g25, er_g26, er_g27, er_g28, er_g29, er_g30, er_g31, er_g32, er_g33, er_g34, er_g35, er_g36, er_g37, er_g38, er_g39, er_g40, er_g41, er_g42, er_g43, er_g44, er_g45, er_g46, er_g47, er_s1, er_s2, er_s5, er_s6, er_s8, er_s10, er_s11, er_s13, er_s14, er_s15, er_s16, er_s20, er_s23, er_s24, er_s25, er_s28, er_s30, er_s31, er_s32, er_s33, er_s42, er_s43, er_s44, er_s21a, er_s21b, er_s12a, er_s12b, isc_R, c1, k_blk1, g1, t13, t15, t16, c2, c6, ec183, fv2, ec182, ff2, isc_Rj, Int.reduceEq]
    · by_cases c4 : w = -1
      · subst c4
        have ff2 := ff (-1)
        rw [if_pos rfl] at ff2
        have c6 : (T : Int) ≤ a := by omega
        have fF2 := fF (by have := hn rfl; omega) a (-1) (fun i hi => by have := g3 rfl i hi; rwa [Nat.zero_add] at this)
        rw [t21] at fF2
        simp only [if_neg c2, if_true]
        refine ⟨xr_i (xr_i (sB (rRj (tTx r T 76) 6 F' a (-1)) 1 (tBs B l (r.2 1)) ((B + l.length : Nat) : Int)) 28 0) 44 (xw (r.1 44 + 1)), k_seq _ f0 ?_, r_fleet9⟩
        clear fF g2 g3 hs hn hat k8 ff fv e0 f0
        generalize tTx r T 76 = q at *
        generalize tBs B l (r.2 1) = A at *
        generalize ((B + l.length : Nat) : Int) = Y at *
        simp -implicitDefEqProofs (disch := first | exact isc_R | (simp only [List.map_cons, List.map_nil, List.sum_cons, List.sum_nil, xcat, Nat.reduceAdd, Nat.reduceLeDiff, Nat.zero_le]; done) | omega) only [k_p_sq, k_p_blk, k_sq0, k_sq11, k_sq12, k_sq13, k_sq14, k_sq15, k_sqr, k_sqi, k_blk0, k_blk1, k_blk2, k_blk3, k_blk4, k_blk5, k_blkr, k_blki, k_finr, k_fini, k_mapi, k_bindi, k_if1, k_if2, k_ops, k_br, k_rv, k_ri, k_rl, k_rz, k_rzi, k_01d, k_sw, k_01a, k_01b, k_01c, k_ifn, x_cmp, decide_eq_true_eq, Option.map_some, Option.bind_some, Option.toList_some, Option.toList_none, List.cons_append, List.nil_append, Nat.reduceAdd, true_or, or_true, Int.reduceNeg, Int.reduceEq, reduceIte, Nat.zero_le, Nat.reduceLeDiff, Nat.le_refl, Nat.reduceEqDiff, List.getElem?_cons_zero, List.getElem?_cons_succ, xst, List.set_cons_zero, List.set_cons_succ, List.map_cons, List.map_nil, List.sum_cons, List.sum_nil, xcat, Nat.reduceMul, Nat.reduceDiv, Nat.reduceMod, Nat.add_zero, e_nil, e_iconst, e_il, e_al, e_ll, e_istore, e_astore, e_lstore, e_ic, e_iadd, e_isub, e_imul, e_iand, e_ior, e_ixor, e_ishl, e_ishr, e_ineg, e_dupi, e_dupr, e_dupx, e_dup2, e_popi, er_g0, er_g1, er_g2, er_g3, er_g4, er_g5, er_g6, er_g7, er_g8, er_g9, er_g10, er_g11, er_g12, er_g13, er_g14, er_g15, er_g16, er_g17, er_g18, er_g19, er_g20, er_g21, er_g22, er_g23, er_g24, er_g25, er_g26, er_g27, er_g28, er_g29, er_g30, er_g31, er_g32, er_g33, er_g34, er_g35, er_g36, er_g37, er_g38, er_g39, er_g40, er_g41, er_g42, er_g43, er_g44, er_g45, er_g46, er_g47, er_s1, er_s2, er_s5, er_s6, er_s8, er_s10, er_s11, er_s13, er_s14, er_s15, er_s16, er_s20, er_s23, er_s24, er_s25, er_s28, er_s30, er_s31, er_s32, er_s33, er_s42, er_s43, er_s44, er_s21a, er_s21b, er_s12a, er_s12b, isc_R, c1, k_blk1, g1, t13, t15, t16, c2, c6, ec182, ff2, isc_Rj, Int.reduceEq, fF2, n15]
      · have ff2 := ff w
        rw [if_neg c4] at ff2
        have c6 : (T : Int) ≤ a := by omega
        simp only [if_neg c4]
        refine ⟨rRj (tTx r T 76) 6 F' a w, k_seq _ f0 ?_, rC_Rj rfl a w⟩
        clear fF g2 g3 hs hn hat k8 n15 ff fv e0 f0
        generalize tTx r T 76 = q at *
        simp -implicitDefEqProofs (disch := first | exact isc_R | (simp only [List.map_cons, List.map_nil, List.sum_cons, List.sum_nil, xcat, Nat.reduceAdd, Nat.reduceLeDiff, Nat.zero_le]; done) | omega) only [k_p_sq, k_p_blk, k_sq0, k_sq11, k_sq12, k_sq13, k_sq14, k_sq15, k_sqr, k_sqi, k_blk0, k_blk1, k_blk2, k_blk3, k_blk4, k_blk5, k_blkr, k_blki, k_finr, k_fini, k_mapi, k_bindi, k_if1, k_if2, k_ops, k_br, k_rv, k_ri, k_rl, k_rz, k_rzi, k_01d, k_sw, k_01a, k_01b, k_01c, k_ifn, x_cmp, decide_eq_true_eq, Option.map_some, Option.bind_some, Option.toList_some, Option.toList_none, List.cons_append, List.nil_append, Nat.reduceAdd, true_or, or_true, Int.reduceNeg, Int.reduceEq, reduceIte, Nat.zero_le, Nat.reduceLeDiff, Nat.le_refl, Nat.reduceEqDiff, List.getElem?_cons_zero, List.getElem?_cons_succ, xst, List.set_cons_zero, List.set_cons_succ, List.map_cons, List.map_nil, List.sum_cons, List.sum_nil, xcat, Nat.reduceMul, Nat.reduceDiv, Nat.reduceMod, Nat.add_zero, e_nil, e_iconst, e_il, e_al, e_ll, e_istore, e_astore, e_lstore, e_ic, e_iadd, e_isub, e_imul, e_iand, e_ior, e_ixor, e_ishl, e_ishr, e_ineg, e_dupi, e_dupr, e_dupx, e_dup2, e_popi, er_g0, er_g1, er_g2, er_g3, er_g4, er_g5, er_g6, er_g7, er_g8, er_g9, er_g10, er_g11, er_g12, er_g13, er_g14, er_g15, er_g16, er_g17, er_g18, er_g19, er_g20, er_g21, er_g22, er_g23, er_g24, er_g25, er_g26, er_g27, er_g28, er_g29, er_g30, er_g31, er_g32, er_g33, er_g34, er_g35, er_g36, er_g37, er_g38, er_g39, er_g40, er_g41, er_g42, er_g43, er_g44, er_g45, er_g46, er_g47, er_s1, er_s2, er_s5, er_s6, er_s8, er_s10, er_s11, er_s13, er_s14, er_s15, er_s16, er_s20, er_s23, er_s24, er_s25, er_s28, er_s30, er_s31, er_s32, er_s33, er_s42, er_s43, er_s44, er_s21a, er_s21b, er_s12a, er_s12b, isc_R, c1, k_blk1, g1, t13, t15, t16, c2, c6, ec182, ff2, isc_Rj, Int.reduceEq]
end FLe
