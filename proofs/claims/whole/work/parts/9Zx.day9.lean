/-! ===== day: alike, whole ===== -/
section DJ
variable {n n2 : Nat} {h h' : xH} {c : xQ} {r b : xR} {H : xH} {T : Nat}
theorem r_day0 {k : Nat} (hT : r.1 8 = (T : Int)) {U V W : xV} : p_blk (p_sq (p_ops x_dd (gg (k + 3)) 1 [.aload 0, .iconst 0, .putfield 779, .aload 0, .aload 0, .getfield 775, .aload 0, .getfield 776, .iconst 60, .invokevirtual 2892, .aload 0, .iconst 0, .putfield 776, .iconst 0, .istore 1, .aload 0, .getfield 781]) (p_if1 .le (p_sq (p_ops x_dd (gg (k + 3)) 1 [.iconst 1]) (p_br 1)) (p_sq (p_ops x_dd (gg (k + 3)) 1 [.iconst 0]) (p_br 1)))) ([.inr (.inr (.inl (1, 0))), U, V, W], [], hR h r) = some (.inl 0, ([.inr (.inr (.inl (1, 0))), .inl 0, V, W], [.inl (if T = 0 then 0 else 1)], hR h (rRd (tTx r T 60) 0 (-1)))) := by
  have f := fun q le mo => r_beginT (n := k + 2) (h := h) (r := q) le mo
  have hX : rRd (xr_i (xr_i (xr_i (xr_i (xr_i r 11 0) 12 1) 13 T) 14 60) 8 0) 0 (-1) = rRd (tTx r T 60) 0 (-1) := rfl
  have h8 : (xr_i r 11 0).1 8 = T := hT
  have h13 : (rRd (tTx r T 60) 0 (-1)).1 13 = T := rfl
  by_cases d : T = 0
  · rw [if_pos d]
    have d2 : (T : Int) ≤ 0 := by omega
    simp -implicitDefEqProofs (disch := first | exact isc_R | (simp only [List.map_cons, List.map_nil, List.sum_cons, List.sum_nil, xcat, Nat.reduceAdd, Nat.reduceLeDiff, Nat.zero_le]; done) | omega) only [k_p_sq, k_p_blk, k_sq0, k_sq11, k_sq12, k_sq13, k_sq14, k_sq15, k_sqr, k_sqi, k_blk0, k_blk1, k_blk2, k_blk3, k_blk4, k_blk5, k_blkr, k_blki, k_finr, k_fini, k_mapi, k_bindi, k_if1, k_if2, k_ops, k_br, k_rv, k_ri, k_rl, k_rz, k_rzi, k_01d, k_sw, k_01a, k_01b, k_01c, k_ifn, x_cmp, decide_eq_true_eq, Option.map_some, Option.bind_some, Option.toList_some, Option.toList_none, List.cons_append, List.nil_append, Nat.reduceAdd, true_or, or_true, Int.reduceNeg, Int.reduceEq, reduceIte, Nat.zero_le, Nat.reduceLeDiff, Nat.le_refl, Nat.reduceEqDiff, List.getElem?_cons_zero, List.getElem?_cons_succ, xst, List.set_cons_zero, List.set_cons_succ, List.map_cons, List.map_nil, List.sum_cons, List.sum_nil, xcat, Nat.reduceMul, Nat.reduceDiv, Nat.reduceMod, Nat.add_zero, e_nil, e_iconst, e_il, e_al, e_ll, e_istore, e_astore, e_lstore, e_ic, e_iadd, e_isub, e_imul, e_iand, e_ior, e_ixor, e_ishl, e_ishr, e_ineg, e_dupi, e_dupr, e_dupx, e_dup2, e_popi, er_g0, er_g1, er_g2, er_g3, er_g4, er_g5, er_g6, er_g7, er_g8, er_g9, er_g10, er_g11, er_g12, er_g13, er_g14, er_g15, er_g16, er_g17, er_g18, er_g19, er_g20, er_g21, er_g22, er_g23, er_g24, er_g25, er_g26, er_g27, er_g28, er_g29, er_g30, er_g31, er_g32, er_g33, er_g34, er_g35, er_g36, er_g37, er_g38, er_g39, er_g40, er_g41, er_g42, er_g43, er_g44, er_g45, er_g46, er_g47, er_s1, er_s2, er_s5, er_s6, er_s8, er_s10, er_s11, er_s13, er_s14, er_s15, er_s16, er_s20, er_s23, er_s24, er_s25, er_s28, er_s30, er_s31, er_s32, er_s33, er_s42, er_s43, er_s44, er_s21a, er_s21b, er_s12a, er_s12b, isc_R, h8, ec180, f, rRd_i, hX, h13, d2]
  · rw [if_neg d]
    have d2 : ¬ (T : Int) ≤ 0 := by omega
    simp -implicitDefEqProofs (disch := first | exact isc_R | (simp only [List.map_cons, List.map_nil, List.sum_cons, List.sum_nil, xcat, Nat.reduceAdd, Nat.reduceLeDiff, Nat.zero_le]; done) | omega) only [k_p_sq, k_p_blk, k_sq0, k_sq11, k_sq12, k_sq13, k_sq14, k_sq15, k_sqr, k_sqi, k_blk0, k_blk1, k_blk2, k_blk3, k_blk4, k_blk5, k_blkr, k_blki, k_finr, k_fini, k_mapi, k_bindi, k_if1, k_if2, k_ops, k_br, k_rv, k_ri, k_rl, k_rz, k_rzi, k_01d, k_sw, k_01a, k_01b, k_01c, k_ifn, x_cmp, decide_eq_true_eq, Option.map_some, Option.bind_some, Option.toList_some, Option.toList_none, List.cons_append, List.nil_append, Nat.reduceAdd, true_or, or_true, Int.reduceNeg, Int.reduceEq, reduceIte, Nat.zero_le, Nat.reduceLeDiff, Nat.le_refl, Nat.reduceEqDiff, List.getElem?_cons_zero, List.getElem?_cons_succ, xst, List.set_cons_zero, List.set_cons_succ, List.map_cons, List.map_nil, List.sum_cons, List.sum_nil, xcat, Nat.reduceMul, Nat.reduceDiv, Nat.reduceMod, Nat.add_zero, e_nil, e_iconst, e_il, e_al, e_ll, e_istore, e_astore, e_lstore, e_ic, e_iadd, e_isub, e_imul, e_iand, e_ior, e_ixor, e_ishl, e_ishr, e_ineg, e_dupi, e_dupr, e_dupx, e_dup2, e_popi, er_g0, er_g1, er_g2, er_g3, er_g4, er_g5, er_g6, er_g7, er_g8, er_g9, er_g10, er_g11, er_g12, er_g13, er_g14, er_g15, er_g16, er_g17, er_g18, er_g19, er_g20, er_g21, er_g22, er_g23, er_g24, er_g25, er_g26, er_g27, er_g28, er_g29, er_g30, er_g31, er_g32, er_g33, er_g34, er_g35, er_g36, er_g37, er_g38, er_g39, er_g40, er_g41, er_g42, er_g43, er_g44, er_g45, er_g46, er_g47, er_s1, er_s2, er_s5, er_s6, er_s8, er_s10, er_s11, er_s13, er_s14, er_s15, er_s16, er_s20, er_s23, er_s24, er_s25, er_s28, er_s30, er_s31, er_s32, er_s33, er_s42, er_s43, er_s44, er_s21a, er_s21b, er_s12a, er_s12b, isc_R, h8, ec180, f, rRd_i, hX, h13, d2]
/-- what is remembered of a day is how it was before -/
theorem rRem_12 {r1 r3 : xR} {U : Nat} (h11 : r3.2 11 = r1.2 11) (h12 : ∀ i, i < 116 → r3.2 12 i = r1.2 1 i) : (rRem r3 12 U).2 11 = (rRem r1 1 U).2 11 ∧ (rRem r3 12 U).1 28 = (rRem r1 1 U).1 28 := by
  have key : ∀ (t : Nat → Int) (k : Nat), rCopy (r3.2 12) t k 116 = rCopy (r1.2 1) t k 116 := by
    intro t k
    funext x
    unfold rCopy
    by_cases d : k ≤ x ∧ x < k + 116
    · rw [if_pos d, if_pos d]
      exact h12 _ (by omega)
    · rw [if_neg d, if_neg d]
  unfold rRem
  by_cases d : U = 12
  · rw [if_pos d, if_pos d]
    refine ⟨?_, rfl⟩
    show xfu (xfu r3.2 11 (rShift (r3.2 11) 1276)) 11 (rCopy (r3.2 12) (rShift (r3.2 11) 1276) 1276 116) 11 = xfu (xfu r1.2 11 (rShift (r1.2 11) 1276)) 11 (rCopy (r1.2 1) (rShift (r1.2 11) 1276) 1276 116) 11
    rw [xfu_self, xfu_self, h11, key]
  · rw [if_neg d, if_neg d]
    refine ⟨?_, rfl⟩
    show xfu r3.2 11 (rCopy (r3.2 12) (r3.2 11) (116 * U) 116) 11 = xfu r1.2 11 (rCopy (r1.2 1) (r1.2 11) (116 * U) 116) 11
    rw [xfu_self, xfu_self, h11, key]
/-- a day's end in both: done d acts of N -/
theorem day_rel {r1 r3 : xR} {c1 : xQ} {U d : Nat} {z' J A' : Nat → Int} {T' : Int × Int × Int × Int} {x : Int} (hr : Rel r1 c1) (hU : r1.1 28 = (U : Int)) (hb : rC b = rC r1) (hb12 : ∀ i, i < 116 → b.2 12 i = r1.2 1 i) (hd : dR r1 z' A' T') (hD : rDy b A' T' r3) (h0 : d = 0 → A' = r1.2 1) :
    Rel (rTell (if 0 < d then rRem r3 12 U else r3) [x, T'.1]) (qTell (if 0 < d then qHold (q_z (q_j (qMark r1 c1) 6 J) 0 z') else q_z (q_j (qMark r1 c1) 6 J) 0 z') [x, T'.1]) := by
  refine Rel_tell ?_ _ (by show 2 ≤ 8; decide)
  obtain ⟨d1, d2, d3, d4, d5⟩ := hD
  have hc3 : rC r3 = rC (xr_j r1 1 A') := by rw [d3, hb, rC_jn rfl]
  by_cases e : 0 < d
  · rw [if_pos e, if_pos e]
    have h9 := Rel_done0 hr hU hd.1 hd.2.1.1 hd.2.1.2
    have h10 := Rel_q (QEq_hold (QEq_zz (QEq_j (c := qMark r1 c1) (j := 6) (by decide) J) 0 z')) h9
    refine Rel_r ?_ h10
    have e11 : r3.2 11 = r1.2 11 := (rC_e2 hc3 rfl).trans (xfu_ne r1.2 A' (by decide : (11 : Nat) ≠ 1))
    have e12 := rRem_12 (r1 := r1) (r3 := r3) (U := U) e11 (fun i hi => by rw [d4]; exact hb12 i hi)
    refine ⟨fun i hi => ?_, fun j hj => ?_⟩
    · by_cases w : i = 28
      · subst w
        exact e12.2.symm
      · show (rRem r1 1 U).1 i = _
        rw [rRem_1 _ _ _ _ w, rRem_1 _ _ _ _ w]
        refine (rC_e1 hc3 (k := i) ?_).symm
        rcases hi with rfl | rfl | rfl | rfl | rfl | rfl | rfl | rfl | rfl | rfl <;> rfl
    · by_cases w : j = 11
      · subst w
        show xfu (rRem r1 1 U).2 1 A' 11 = _
        rw [xfu_ne _ _ (by decide)]
        exact e12.1.symm
      · rw [rRem_2 _ _ _ _ w]
        have e13 : (xr_j (rRem r1 1 U) 1 A').2 j = (xr_j r1 1 A').2 j := by
          show xfu (rRem r1 1 U).2 1 A' j = xfu r1.2 1 A' j
          by_cases w1 : j = 1
          · subst w1
            rw [xfu_self, xfu_self]
          · rw [xfu_ne _ _ w1, xfu_ne _ _ w1, rRem_2 _ _ _ _ w]
        rw [e13]
        refine (rC_e2 hc3 (c := j) ?_).symm
        rcases hj with rfl | rfl | rfl | rfl | rfl | rfl | rfl | rfl | rfl | rfl | rfl | rfl <;> rfl
  · rw [if_neg e, if_neg e]
    have hA : A' = r1.2 1 := h0 (by omega)
    have m9 := (Rel_mark hr).1
    have h9 := Rel_sea m9 hd.1 hd.2.1.1 hd.2.1.2
    have h10 := Rel_q (QEq_zz (QEq_j (c := qMark r1 c1) (j := 6) (by decide) J) 0 z') h9
    exact Rel_r (REq_C hc3.symm) h10
end DJ
