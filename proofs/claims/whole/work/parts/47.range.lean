/-! ===== the reference: its rule is told; how far a gull flies ===== -/
theorem rRd_i (r : xR) (a w : Int) {k : Nat} (h1 : k ≠ 15) (h2 : k ≠ 16) (v : Int) : xr_i (rRd r a w) k v = rRd (xr_i r k v) a w := by
  unfold rRd xr_i
  dsimp only
  congr 1
  funext i
  unfold xfu
  by_cases c1 : i = k
  · subst c1; simp [h1, h2]
  · simp [c1]
theorem rHere_top {r : xR} {L : Int} (hs : ∀ a, L ≤ a → rHere r a = -1) {a v : Int} (h : rHere r a = v) (hv : 0 ≤ v) : a < L := by
  refine Classical.byContradiction fun z => ?_
  have := hs a (by omega)
  omega
theorem tDigit_top {r : xR} {L : Int} (hs : ∀ a, L ≤ a → rHere r a = -1) {a w lo hi : Int} (ha : a ≤ L) (hlo : 0 ≤ lo) : (tDigit r a w lo hi).2.1 ≤ L := by
  unfold tDigit
  split
  · split
    · rename_i c
      have := rHere_top hs (a := a) rfl (by omega)
      dsimp only
      omega
    · exact ha
  · exact ha
theorem tNumL_top {r : xR} {L : Int} (hs : ∀ a, L ≤ a → rHere r a = -1) : ∀ (m : Nat) (v a w : Int), a ≤ L → (tNumL r m v a w).2.1 ≤ L
  | 0, v, a, w, ha => ha
  | m + 1, v, a, w, ha => by
    unfold tNumL
    split
    · exact tNumL_top hs m _ _ _ (tDigit_top hs ha (by omega))
    · exact ha
/-- a place stays within the text, and never goes back -/
theorem vR_top {r : xR} {L : Int} (hs : ∀ a, L ≤ a → rHere r a = -1) : ∀ (f tag : Nat) (dp v a w : Int), 0 ≤ a → a ≤ L → a ≤ (vR r f tag dp v a w).2.1 ∧ (vR r f tag dp v a w).2.1 ≤ L
  | 0, tag, dp, v, a, w, h0, h1 => by unfold vR; exact ⟨Int.le_refl _, h1⟩
  | f + 1, 0, dp, v, a, w, h0, h1 => by
    unfold vR
    split
    · split
      · rename_i c
        have hl := rHere_top hs c (by omega)
        have := vR_top hs f 0 dp 0 (a + 1) w (by omega) (by omega)
        dsimp only
        omega
      · split
        · rename_i c
          have hl := rHere_top hs c.1 (by omega)
          have h9 := vR_top hs f 5 (dp + 1) 0 (a + 1) w (by omega) (by omega)
          dsimp only
          unfold tNeed
          split
          · split
            · rename_i c2
              have := rHere_top hs c2 (by omega)
              dsimp only
              omega
            · dsimp only
              omega
          · dsimp only
            omega
        · split
          · have h2 := tDigit_at (r := r) (a := a) (w := w) (lo := 0) (hi := 9)
            have h3 := tNumL_at (r := r) 2 (tDigit r a w 0 9).1 (tDigit r a w 0 9).2.1 (tDigit r a w 0 9).2.2
            have h4 := tNumL_top hs 2 (tDigit r a w 0 9).1 (tDigit r a w 0 9).2.1 (tDigit r a w 0 9).2.2 (tDigit_top hs h1 (by omega))
            show a ≤ (tNumL r 2 (tDigit r a w 0 9).1 (tDigit r a w 0 9).2.1 (tDigit r a w 0 9).2.2).2.1 ∧ (tNumL r 2 (tDigit r a w 0 9).1 (tDigit r a w 0 9).2.1 (tDigit r a w 0 9).2.2).2.1 ≤ L
            omega
          · split
            · dsimp only; omega
            · rename_i c
              have hl : a < L := by
                refine Classical.byContradiction fun z => c ?_
                rw [hs a (by omega)]
                rfl
              dsimp only
              omega
    · dsimp only; omega
  | f + 1, 1, dp, v, a, w, h0, h1 => by
    unfold vR
    have h2 := vR_top hs f 0 dp 0 a w h0 h1
    have h3 := vR_top hs f 2 dp (vR r f 0 dp 0 a w).1 (vR r f 0 dp 0 a w).2.1 (vR r f 0 dp 0 a w).2.2 (by omega) h2.2
    omega
  | f + 1, 2, dp, v, a, w, h0, h1 => by
    unfold vR
    split
    · rename_i c
      have hl : a < L := by rcases c.2 with c | c <;> exact rHere_top hs c (by omega)
      have h2 := vR_top hs f 0 dp 0 (a + 1) w (by omega) (by omega)
      have h3 := vR_top hs f 2 dp (if rHere r a = 42 then xw (v * (vR r f 0 dp 0 (a + 1) w).1) else if (vR r f 0 dp 0 (a + 1) w).1 = 0 then 0 else xw (v.tdiv (vR r f 0 dp 0 (a + 1) w).1)) (vR r f 0 dp 0 (a + 1) w).2.1 (vR r f 0 dp 0 (a + 1) w).2.2 (by omega) h2.2
      omega
    · dsimp only; omega
  | f + 1, 3, dp, v, a, w, h0, h1 => by
    unfold vR
    have h2 := vR_top hs f 1 dp 0 a w h0 h1
    have h3 := vR_top hs f 4 dp (vR r f 1 dp 0 a w).1 (vR r f 1 dp 0 a w).2.1 (vR r f 1 dp 0 a w).2.2 (by omega) h2.2
    omega
  | f + 1, 4, dp, v, a, w, h0, h1 => by
    unfold vR
    split
    · rename_i c
      have hl : a < L := by rcases c.2 with c | c <;> exact rHere_top hs c (by omega)
      have h2 := vR_top hs f 1 dp 0 (a + 1) w (by omega) (by omega)
      have h3 := vR_top hs f 4 dp (if rHere r a = 43 then xw (v + (vR r f 1 dp 0 (a + 1) w).1) else xw (v - (vR r f 1 dp 0 (a + 1) w).1)) (vR r f 1 dp 0 (a + 1) w).2.1 (vR r f 1 dp 0 (a + 1) w).2.2 (by omega) h2.2
      omega
    · dsimp only; omega
  | f + 1, tag + 5, dp, v, a, w, h0, h1 => by
    unfold vR
    have h2 := vR_top hs f 3 dp 0 a w h0 h1
    dsimp only
    split
    · rename_i c
      have hl := rHere_top hs c.2 (by omega)
      have h3 := vR_top hs f 3 dp 0 ((vR r f 3 dp 0 a w).2.1 + 1) (vR r f 3 dp 0 a w).2.2 (by omega) (by omega)
      dsimp only
      omega
    · split
      · rename_i c
        have hl := rHere_top hs c.2 (by omega)
        have h3 := vR_top hs f 3 dp 0 ((vR r f 3 dp 0 a w).2.1 + 1) (vR r f 3 dp 0 a w).2.2 (by omega) (by omega)
        dsimp only
        omega
      · split
        · rename_i c
          have hl := rHere_top hs c.2 (by omega)
          have h3 := vR_top hs f 3 dp 0 ((vR r f 3 dp 0 a w).2.1 + 1) (vR r f 3 dp 0 a w).2.2 (by omega) (by omega)
          dsimp only
          omega
        · exact h2
/-- what the reader of a rule answers, read from the beginning -/
def rHeld (r : xR) : Int × Int × Int := vR r 814 5 0 0 0 (-1)
section RG
variable {n : Nat} {h : xH} {r : xR} {H : xH} {j : Nat}
theorem r_held (hs : rSane r) : (gg (n + 820) 193).2 [.inr (.inr (.inl (1, 0))), .inl 0] (hR h (rRd r 0 (-1))) = some (some (.inl (rHeld r).1), hR h (rRd r (rHeld r).2.1 (rHeld r).2.2)) := by
  have f := (u_all (h := h) hs 814).2.2.2.2.2 n 0 0 (-1) (by decide) (by decide) (by decide) (by decide) (by decide)
  exact f
/-- the reader stands at the text of T signs; it asks nothing -/
def rRuX (r : xR) (T : Nat) : xR := xr_i (xr_i (xr_i (xr_i (xr_i (xr_i r 11 0) 12 1) 13 T) 14 40) 8 0) 21 0
def rRuW (r : xR) (T : Nat) : Int := if (rHeld (rRuX r T)).2.2 = -1 then (if (rHeld (rRuX r T)).2.1 < T then (rHeld (rRuX r T)).2.1 else -1) else (rHeld (rRuX r T)).2.2
def rRule (r : xR) (T : Nat) : Int × xR :=
  if T = 0 then (0, xr_i (rRd (rRuX r T) 0 (-1)) 20 0)
  else if rRuW r T = -1 then (0, xr_i (xr_j (rRd (rRuX r T) (rHeld (rRuX r T)).2.1 (-1)) 8 (rCopy (fun x => xb8 (r.2 4 x)) (r.2 8) 0 T)) 20 T)
  else (xw (-1 - rRuW r T), rRd (rRuX r T) (rHeld (rRuX r T)).2.1 (rRuW r T))
theorem rRuX_sane {T : Nat} (hT : T ≤ 80) : rSane (rRuX r T) := by
  refine Or.inl ⟨rfl, ?_, ?_⟩
  · show (T : Int) ≤ 80
    omega
  · show (40 : Int) ≤ 80
    decide
set_option maxHeartbeats 4000000 in
theorem r_rule {T : Nat} (hT : r.1 8 = T) (hT2 : T ≤ 80) : (gg (n + 821) 198).2 [.inr (.inr (.inl (1, 0)))] (hR h r) = some (some (.inl (rRule r T).1), hR h (rRule r T).2) := by
  rw [gr198]
  unfold rRule
  have hs := rRuX_sane (r := r) hT2
  have f1 := r_held (n := n) (h := h) hs
  have hv := vR_at hs 814 5 0 0 0 (-1) (by decide) (by decide)
  have f3 := fun (w : Int) (v : Int) => t_fault (n := n + 818) (h := h) (r := rRuX r T) (a := (rHeld (rRuX r T)).2.1) (w := w) v
  have hX : rRd (xr_i (xr_i (xr_i (xr_i (xr_i (xr_i r 11 0) 12 1) 13 (T : Int)) 14 40) 8 0) 21 0) 0 (-1) = rRd (rRuX r T) 0 (-1) := rfl
  have hlen : ∀ a, 40 ≤ a → rHere (rRuX r T) a = -1 := by
    intro a ha
    unfold rHere
    rw [if_neg]
    intro z
    have z2 : a < 40 := z.2
    omega
  have ht := vR_top hlen 814 5 0 0 0 (-1) (by decide) (by decide)
  have key : ∀ (q : xR) (m : Nat), T ≤ 40 → p_lop (lX12_rule_73 (gg m)) ([.inr (.inr (.inl (1, 0))), .inl (T : Int), .inl 0], [], hR h q) = some (.inl 1, ([.inr (.inr (.inl (1, 0))), .inl (T : Int), .inl (T : Int)], [], hR h (xr_j q 8 (rCopy (fun x => xb8 (q.2 4 x)) (q.2 8) 0 T)))) := by
    intro q m hT4
    refine k_for (fun i => ([.inr (.inr (.inl (1, 0))), .inl (T : Int), .inl (i : Int)], [], hR h (xr_j q 8 (rCopy (fun x => xb8 (q.2 4 x)) (q.2 8) 0 i)))) T (by simp only [rCopy_0, xr_j_0]; rfl) ?_ (fun i hi => ?_)
    · simp -implicitDefEqProofs (disch := first | omega | exact isc_R | exact isc_R | (simp only [List.map_cons, List.map_nil, List.sum_cons, List.sum_nil, xcat, Nat.reduceAdd, Nat.reduceLeDiff, Nat.zero_le]; done)) only [lX12_rule_73, k_p_sq, k_p_blk, k_sq0, k_sq11, k_sq12, k_sq13, k_sq14, k_sq15, k_sqr, k_sqi, k_blk0, k_blk1, k_blk2, k_blk3, k_blk4, k_blk5, k_blkr, k_blki, k_finr, k_fini, k_mapi, k_bindi, k_if1, k_if2, k_ops, k_br, k_rv, k_ri, k_rl, k_rz, k_rzi, k_01d, k_sw, k_01a, k_01b, k_01c, k_ifn, x_cmp, decide_eq_true_eq, Option.map_some, Option.bind_some, Option.toList_some, Option.toList_none, List.cons_append, List.nil_append, Nat.reduceAdd, true_or, or_true, Int.reduceNeg, Int.reduceEq, reduceIte, Nat.zero_le, Nat.reduceLeDiff, Nat.le_refl, Nat.reduceEqDiff, List.getElem?_cons_zero, List.getElem?_cons_succ, xst, List.set_cons_zero, List.set_cons_succ, List.map_cons, List.map_nil, List.sum_cons, List.sum_nil, xcat, Nat.reduceMul, Nat.reduceDiv, Nat.reduceMod, Nat.add_zero, e_nil, e_iconst, e_il, e_al, e_ll, e_istore, e_astore, e_lstore, e_ic, e_iadd, e_isub, e_imul, e_iand, e_ior, e_ixor, e_ishl, e_ishr, e_ineg, e_dupi, e_dupr, e_dupx, e_dup2, e_popi, er_g0, er_g1, er_g2, er_g3, er_g4, er_g5, er_g6, er_g7, er_g8, er_g9, er_g10, er_g11, er_g12, er_g13, er_g14, er_g15, er_g16, er_g17, er_g18, er_g19, er_g20, er_g21, er_g22, er_g23, er_g24, er_g25, er_g26, er_g27, er_g28, er_g29, er_g30, er_g31, er_g32, er_g33, er_g34, er_g35, er_g36, er_g37, er_g38, er_g39, er_g40, er_g41, er_g42, er_g43, er_g44, er_g45, er_g46, er_g47, er_s1, er_s2, er_s5, er_s6, er_s8, er_s10, er_s11, er_s13, er_s14, er_s15, er_s16, er_s20, er_s23, er_s24, er_s25, er_s28, er_s30, er_s31, er_s32, er_s33, er_s42, er_s43, er_s44, er_s21a, er_s21b, er_s12a, er_s12b, isc_R, Int.le_refl]
    · have hi2 : ¬ (T : Int) ≤ (i : Int) := by omega
      have e8 := rCopy_s (fun x => xb8 (q.2 4 x)) (q.2 8) 0 i
      rw [Nat.zero_add] at e8
      rw [show ((i + 1 : Nat) : Int) = (i : Int) + 1 by omega]
      simp -implicitDefEqProofs (disch := first | omega | exact isc_R | exact isc_R | (simp only [List.map_cons, List.map_nil, List.sum_cons, List.sum_nil, xcat, Nat.reduceAdd, Nat.reduceLeDiff, Nat.zero_le]; done)) only [lX12_rule_73, k_p_sq, k_p_blk, k_sq0, k_sq11, k_sq12, k_sq13, k_sq14, k_sq15, k_sqr, k_sqi, k_blk0, k_blk1, k_blk2, k_blk3, k_blk4, k_blk5, k_blkr, k_blki, k_finr, k_fini, k_mapi, k_bindi, k_if1, k_if2, k_ops, k_br, k_rv, k_ri, k_rl, k_rz, k_rzi, k_01d, k_sw, k_01a, k_01b, k_01c, k_ifn, x_cmp, decide_eq_true_eq, Option.map_some, Option.bind_some, Option.toList_some, Option.toList_none, List.cons_append, List.nil_append, Nat.reduceAdd, true_or, or_true, Int.reduceNeg, Int.reduceEq, reduceIte, Nat.zero_le, Nat.reduceLeDiff, Nat.le_refl, Nat.reduceEqDiff, List.getElem?_cons_zero, List.getElem?_cons_succ, xst, List.set_cons_zero, List.set_cons_succ, List.map_cons, List.map_nil, List.sum_cons, List.sum_nil, xcat, Nat.reduceMul, Nat.reduceDiv, Nat.reduceMod, Nat.add_zero, e_nil, e_iconst, e_il, e_al, e_ll, e_istore, e_astore, e_lstore, e_ic, e_iadd, e_isub, e_imul, e_iand, e_ior, e_ixor, e_ishl, e_ishr, e_ineg, e_dupi, e_dupr, e_dupx, e_dup2, e_popi, er_g0, er_g1, er_g2, er_g3, er_g4, er_g5, er_g6, er_g7, er_g8, er_g9, er_g10, er_g11, er_g12, er_g13, er_g14, er_g15, er_g16, er_g17, er_g18, er_g19, er_g20, er_g21, er_g22, er_g23, er_g24, er_g25, er_g26, er_g27, er_g28, er_g29, er_g30, er_g31, er_g32, er_g33, er_g34, er_g35, er_g36, er_g37, er_g38, er_g39, er_g40, er_g41, er_g42, er_g43, er_g44, er_g45, er_g46, er_g47, er_s1, er_s2, er_s5, er_s6, er_s8, er_s10, er_s11, er_s13, er_s14, er_s15, er_s16, er_s20, er_s23, er_s24, er_s25, er_s28, er_s30, er_s31, er_s32, er_s33, er_s42, er_s43, er_s44, er_s21a, er_s21b, er_s12a, er_s12b, isc_R, er_r4, er_w8, e_iinc, Int.reduceNeg, Int.reduceToNat, Int.toNat_natCast, Int.toNat_add_nat, xw_id, hi2, xr_a_j, xr_j_j, xr_j_2, xr_j_1, xfu_self, xfu_ne, xr_j_n (show (4 : Nat) ≠ 8 by decide), e8]
  have hr4 : ∀ a w, (rRd (rRuX r T) a w).2 4 = r.2 4 := fun a w => rfl
  have hr8 : ∀ a w, (rRd (rRuX r T) a w).2 8 = r.2 8 := fun a w => rfl
  by_cases c0 : T = 0
  · have c1 : (T : Int) ≤ 0 := by omega
    have k1 := key (rRd (rRuX r T) 0 (-1)) (n + 820) (by omega)
    have e0 : xr_j (rRd (rRuX r T) 0 (-1)) 8 (rCopy (fun x => xb8 ((rRd (rRuX r T) 0 (-1)).2 4 x)) ((rRd (rRuX r T) 0 (-1)).2 8) 0 T) = rRd (rRuX r T) 0 (-1) := by
      rw [c0, rCopy_0]
      exact xr_j_0 _ 8
    rw [e0] at k1
    have e1 : (T : Int) = 0 := by omega
    rw [if_pos c0]
    simp -implicitDefEqProofs (disch := first | omega | exact isc_R | exact isc_R | (simp only [List.map_cons, List.map_nil, List.sum_cons, List.sum_nil, xcat, Nat.reduceAdd, Nat.reduceLeDiff, Nat.zero_le]; done)) only [fX12_rule, k_p_sq, k_p_blk, k_sq0, k_sq11, k_sq12, k_sq13, k_sq14, k_sq15, k_sqr, k_sqi, k_blk0, k_blk1, k_blk2, k_blk3, k_blk4, k_blk5, k_blkr, k_blki, k_finr, k_fini, k_mapi, k_bindi, k_if1, k_if2, k_ops, k_br, k_rv, k_ri, k_rl, k_rz, k_rzi, k_01d, k_sw, k_01a, k_01b, k_01c, k_ifn, x_cmp, decide_eq_true_eq, Option.map_some, Option.bind_some, Option.toList_some, Option.toList_none, List.cons_append, List.nil_append, Nat.reduceAdd, true_or, or_true, Int.reduceNeg, Int.reduceEq, reduceIte, Nat.zero_le, Nat.reduceLeDiff, Nat.le_refl, Nat.reduceEqDiff, List.getElem?_cons_zero, List.getElem?_cons_succ, xst, List.set_cons_zero, List.set_cons_succ, List.map_cons, List.map_nil, List.sum_cons, List.sum_nil, xcat, Nat.reduceMul, Nat.reduceDiv, Nat.reduceMod, Nat.add_zero, e_nil, e_iconst, e_il, e_al, e_ll, e_istore, e_astore, e_lstore, e_ic, e_iadd, e_isub, e_imul, e_iand, e_ior, e_ixor, e_ishl, e_ishr, e_ineg, e_dupi, e_dupr, e_dupx, e_dup2, e_popi, er_g0, er_g1, er_g2, er_g3, er_g4, er_g5, er_g6, er_g7, er_g8, er_g9, er_g10, er_g11, er_g12, er_g13, er_g14, er_g15, er_g16, er_g17, er_g18, er_g19, er_g20, er_g21, er_g22, er_g23, er_g24, er_g25, er_g26, er_g27, er_g28, er_g29, er_g30, er_g31, er_g32, er_g33, er_g34, er_g35, er_g36, er_g37, er_g38, er_g39, er_g40, er_g41, er_g42, er_g43, er_g44, er_g45, er_g46, er_g47, er_s1, er_s2, er_s5, er_s6, er_s8, er_s10, er_s11, er_s13, er_s14, er_s15, er_s16, er_s20, er_s23, er_s24, er_s25, er_s28, er_s30, er_s31, er_s32, er_s33, er_s42, er_s43, er_s44, er_s21a, er_s21b, er_s12a, er_s12b, isc_R, xr_i_g, xr_i_2, xr_j_1, Nat.reduceEqDiff, hT, ec180, r_beginT, rRd_i, hX, c1, k1]
    rw [e1]
  · have c1 : ¬ (T : Int) ≤ 0 := by omega
    have hw : rRuW r T = if (rHeld (rRuX r T)).2.2 = -1 then (if (rHeld (rRuX r T)).2.1 < T then (rHeld (rRuX r T)).2.1 else -1) else (rHeld (rRuX r T)).2.2 := rfl
    have hv' : 0 ≤ (rHeld (rRuX r T)).2.1 ∧ (rHeld (rRuX r T)).2.1 ≤ 40 := ⟨hv.1, ht.2⟩
    generalize rHeld (rRuX r T) = q at *
    obtain ⟨q1, q2, q3⟩ := q
    dsimp only at f1 f3 hw hv' ⊢
    by_cases c2 : (T : Int) ≤ q2
    · have c3 : ¬ q2 < (T : Int) := by omega
      rw [if_neg c3] at hw
      by_cases c4 : q3 = -1
      · subst c4
        have hw1 : rRuW r T = -1 := by rw [hw]; split <;> rfl
        have k1 := key (rRd (rRuX r T) q2 (-1)) (n + 820) (by omega)
        rw [hr4, hr8] at k1
        simp -implicitDefEqProofs (disch := first | omega | exact isc_R | exact isc_R | (simp only [List.map_cons, List.map_nil, List.sum_cons, List.sum_nil, xcat, Nat.reduceAdd, Nat.reduceLeDiff, Nat.zero_le]; done)) only [fX12_rule, k_p_sq, k_p_blk, k_sq0, k_sq11, k_sq12, k_sq13, k_sq14, k_sq15, k_sqr, k_sqi, k_blk0, k_blk1, k_blk2, k_blk3, k_blk4, k_blk5, k_blkr, k_blki, k_finr, k_fini, k_mapi, k_bindi, k_if1, k_if2, k_ops, k_br, k_rv, k_ri, k_rl, k_rz, k_rzi, k_01d, k_sw, k_01a, k_01b, k_01c, k_ifn, x_cmp, decide_eq_true_eq, Option.map_some, Option.bind_some, Option.toList_some, Option.toList_none, List.cons_append, List.nil_append, Nat.reduceAdd, true_or, or_true, Int.reduceNeg, Int.reduceEq, reduceIte, Nat.zero_le, Nat.reduceLeDiff, Nat.le_refl, Nat.reduceEqDiff, List.getElem?_cons_zero, List.getElem?_cons_succ, xst, List.set_cons_zero, List.set_cons_succ, List.map_cons, List.map_nil, List.sum_cons, List.sum_nil, xcat, Nat.reduceMul, Nat.reduceDiv, Nat.reduceMod, Nat.add_zero, e_nil, e_iconst, e_il, e_al, e_ll, e_istore, e_astore, e_lstore, e_ic, e_iadd, e_isub, e_imul, e_iand, e_ior, e_ixor, e_ishl, e_ishr, e_ineg, e_dupi, e_dupr, e_dupx, e_dup2, e_popi, er_g0, er_g1, er_g2, er_g3, er_g4, er_g5, er_g6, er_g7, er_g8, er_g9, er_g10, er_g11, er_g12, er_g13, er_g14, er_g15, er_g16, er_g17, er_g18, er_g19, er_g20, er_g21, er_g22, er_g23, er_g24, er_g25, er_g26, er_g27, er_g28, er_g29, er_g30, er_g31, er_g32, er_g33, er_g34, er_g35, er_g36, er_g37, er_g38, er_g39, er_g40, er_g41, er_g42, er_g43, er_g44, er_g45, er_g46, er_g47, er_s1, er_s2, er_s5, er_s6, er_s8, er_s10, er_s11, er_s13, er_s14, er_s15, er_s16, er_s20, er_s23, er_s24, er_s25, er_s28, er_s30, er_s31, er_s32, er_s33, er_s42, er_s43, er_s44, er_s21a, er_s21b, er_s12a, er_s12b, isc_R, xr_i_g, xr_i_2, xr_j_1, Nat.reduceEqDiff, hT, ec180, ec193, ec182, t_fine, r_beginT, rRd_i, rRd_g, isc_Rd, hX, c0, c1, c2, f1, hw1, k1, true_and, false_and, or_self, or_true, true_or, or_false, false_or, and_true, and_false, and_self, not_true_eq_false, not_false_eq_true]
      · have hw1 : rRuW r T = q3 := by rw [hw, if_neg c4]
        simp -implicitDefEqProofs (disch := first | omega | exact isc_R | exact isc_R | (simp only [List.map_cons, List.map_nil, List.sum_cons, List.sum_nil, xcat, Nat.reduceAdd, Nat.reduceLeDiff, Nat.zero_le]; done)) only [fX12_rule, k_p_sq, k_p_blk, k_sq0, k_sq11, k_sq12, k_sq13, k_sq14, k_sq15, k_sqr, k_sqi, k_blk0, k_blk1, k_blk2, k_blk3, k_blk4, k_blk5, k_blkr, k_blki, k_finr, k_fini, k_mapi, k_bindi, k_if1, k_if2, k_ops, k_br, k_rv, k_ri, k_rl, k_rz, k_rzi, k_01d, k_sw, k_01a, k_01b, k_01c, k_ifn, x_cmp, decide_eq_true_eq, Option.map_some, Option.bind_some, Option.toList_some, Option.toList_none, List.cons_append, List.nil_append, Nat.reduceAdd, true_or, or_true, Int.reduceNeg, Int.reduceEq, reduceIte, Nat.zero_le, Nat.reduceLeDiff, Nat.le_refl, Nat.reduceEqDiff, List.getElem?_cons_zero, List.getElem?_cons_succ, xst, List.set_cons_zero, List.set_cons_succ, List.map_cons, List.map_nil, List.sum_cons, List.sum_nil, xcat, Nat.reduceMul, Nat.reduceDiv, Nat.reduceMod, Nat.add_zero, e_nil, e_iconst, e_il, e_al, e_ll, e_istore, e_astore, e_lstore, e_ic, e_iadd, e_isub, e_imul, e_iand, e_ior, e_ixor, e_ishl, e_ishr, e_ineg, e_dupi, e_dupr, e_dupx, e_dup2, e_popi, er_g0, er_g1, er_g2, er_g3, er_g4, er_g5, er_g6, er_g7, er_g8, er_g9, er_g10, er_g11, er_g12, er_g13, er_g14, er_g15, er_g16, er_g17, er_g18, er_g19, er_g20, er_g21, er_g22, er_g23, er_g24, er_g25, er_g26, er_g27, er_g28, er_g29, er_g30, er_g31, er_g32, er_g33, er_g34, er_g35, er_g36, er_g37, er_g38, er_g39, er_g40, er_g41, er_g42, er_g43, er_g44, er_g45, er_g46, er_g47, er_s1, er_s2, er_s5, er_s6, er_s8, er_s10, er_s11, er_s13, er_s14, er_s15, er_s16, er_s20, er_s23, er_s24, er_s25, er_s28, er_s30, er_s31, er_s32, er_s33, er_s42, er_s43, er_s44, er_s21a, er_s21b, er_s12a, er_s12b, isc_R, xr_i_g, xr_i_2, xr_j_1, Nat.reduceEqDiff, hT, ec180, ec193, ec182, t_fine, r_beginT, rRd_i, rRd_g, isc_Rd, hX, c0, c1, c2, c4, f1, hw1, true_and, false_and, or_self, or_true, true_or, or_false, false_or, and_true, and_false, and_self, not_true_eq_false, not_false_eq_true]
    · have c3 : q2 < (T : Int) := by omega
      rw [if_pos c3] at hw
      have c5 : ¬ q2 = -1 := by omega
      by_cases c4 : q3 = -1
      · have hw1 : rRuW r T = q2 := by rw [hw, if_pos c4]
        simp -implicitDefEqProofs (disch := first | omega | exact isc_R | exact isc_R | (simp only [List.map_cons, List.map_nil, List.sum_cons, List.sum_nil, xcat, Nat.reduceAdd, Nat.reduceLeDiff, Nat.zero_le]; done)) only [fX12_rule, k_p_sq, k_p_blk, k_sq0, k_sq11, k_sq12, k_sq13, k_sq14, k_sq15, k_sqr, k_sqi, k_blk0, k_blk1, k_blk2, k_blk3, k_blk4, k_blk5, k_blkr, k_blki, k_finr, k_fini, k_mapi, k_bindi, k_if1, k_if2, k_ops, k_br, k_rv, k_ri, k_rl, k_rz, k_rzi, k_01d, k_sw, k_01a, k_01b, k_01c, k_ifn, x_cmp, decide_eq_true_eq, Option.map_some, Option.bind_some, Option.toList_some, Option.toList_none, List.cons_append, List.nil_append, Nat.reduceAdd, true_or, or_true, Int.reduceNeg, Int.reduceEq, reduceIte, Nat.zero_le, Nat.reduceLeDiff, Nat.le_refl, Nat.reduceEqDiff, List.getElem?_cons_zero, List.getElem?_cons_succ, xst, List.set_cons_zero, List.set_cons_succ, List.map_cons, List.map_nil, List.sum_cons, List.sum_nil, xcat, Nat.reduceMul, Nat.reduceDiv, Nat.reduceMod, Nat.add_zero, e_nil, e_iconst, e_il, e_al, e_ll, e_istore, e_astore, e_lstore, e_ic, e_iadd, e_isub, e_imul, e_iand, e_ior, e_ixor, e_ishl, e_ishr, e_ineg, e_dupi, e_dupr, e_dupx, e_dup2, e_popi, er_g0, er_g1, er_g2, er_g3, er_g4, er_g5, er_g6, er_g7, er_g8, er_g9, er_g10, er_g11, er_g12, er_g13, er_g14, er_g15, er_g16, er_g17, er_g18, er_g19, er_g20, er_g21, er_g22, er_g23, er_g24, er_g25, er_g26, er_g27, er_g28, er_g29, er_g30, er_g31, er_g32, er_g33, er_g34, er_g35, er_g36, er_g37, er_g38, er_g39, er_g40, er_g41, er_g42, er_g43, er_g44, er_g45, er_g46, er_g47, er_s1, er_s2, er_s5, er_s6, er_s8, er_s10, er_s11, er_s13, er_s14, er_s15, er_s16, er_s20, er_s23, er_s24, er_s25, er_s28, er_s30, er_s31, er_s32, er_s33, er_s42, er_s43, er_s44, er_s21a, er_s21b, er_s12a, er_s12b, isc_R, xr_i_g, xr_i_2, xr_j_1, Nat.reduceEqDiff, hT, ec180, ec193, ec182, ec183, t_fine, t_fault, r_beginT, rRd_i, rRd_g, isc_Rd, hX, c0, c1, c2, c4, c5, f1, hw1, true_and, false_and, or_self, or_true, true_or, or_false, false_or, and_true, and_false, and_self, not_true_eq_false, not_false_eq_true]
      · have hw1 : rRuW r T = q3 := by rw [hw, if_neg c4]
        simp -implicitDefEqProofs (disch := first | omega | exact isc_R | exact isc_R | (simp only [List.map_cons, List.map_nil, List.sum_cons, List.sum_nil, xcat, Nat.reduceAdd, Nat.reduceLeDiff, Nat.zero_le]; done)) only [fX12_rule, k_p_sq, k_p_blk, k_sq0, k_sq11, k_sq12, k_sq13, k_sq14, k_sq15, k_sqr, k_sqi, k_blk0, k_blk1, k_blk2, k_blk3, k_blk4, k_blk5, k_blkr, k_blki, k_finr, k_fini, k_mapi, k_bindi, k_if1, k_if2, k_ops, k_br, k_rv, k_ri, k_rl, k_rz, k_rzi, k_01d, k_sw, k_01a, k_01b, k_01c, k_ifn, x_cmp, decide_eq_true_eq, Option.map_some, Option.bind_some, Option.toList_some, Option.toList_none, List.cons_append, List.nil_append, Nat.reduceAdd, true_or, or_true, Int.reduceNeg, Int.reduceEq, reduceIte, Nat.zero_le, Nat.reduceLeDiff, Nat.le_refl, Nat.reduceEqDiff, List.getElem?_cons_zero, List.getElem?_cons_succ, xst, List.set_cons_zero, List.set_cons_succ, List.map_cons, List.map_nil, List.sum_cons, List.sum_nil, xcat, Nat.reduceMul, Nat.reduceDiv, Nat.reduceMod, Nat.add_zero, e_nil, e_iconst, e_il, e_al, e_ll, e_istore, e_astore, e_lstore, e_ic, e_iadd, e_isub, e_imul, e_iand, e_ior, e_ixor, e_ishl, e_ishr, e_ineg, e_dupi, e_dupr, e_dupx, e_dup2, e_popi, er_g0, er_g1, er_g2, er_g3, er_g4, er_g5, er_g6, er_g7, er_g8, er_g9, er_g10, er_g11, er_g12, er_g13, er_g14, er_g15, er_g16, er_g17, er_g18, er_g19, er_g20, er_g21, er_g22, er_g23, er_g24, er_g25, er_g26, er_g27, er_g28, er_g29, er_g30, er_g31, er_g32, er_g33, er_g34, er_g35, er_g36, er_g37, er_g38, er_g39, er_g40, er_g41, er_g42, er_g43, er_g44, er_g45, er_g46, er_g47, er_s1, er_s2, er_s5, er_s6, er_s8, er_s10, er_s11, er_s13, er_s14, er_s15, er_s16, er_s20, er_s23, er_s24, er_s25, er_s28, er_s30, er_s31, er_s32, er_s33, er_s42, er_s43, er_s44, er_s21a, er_s21b, er_s12a, er_s12b, isc_R, xr_i_g, xr_i_2, xr_j_1, Nat.reduceEqDiff, hT, ec180, ec193, ec182, ec183, t_fine, t_fault, r_beginT, rRd_i, rRd_g, isc_Rd, hX, c0, c1, c2, c4, f1, hw1, true_and, false_and, or_self, or_true, true_or, or_false, false_or, and_true, and_false, and_self, not_true_eq_false, not_false_eq_true]
/-- what a rule is asked with -/
def rAsk (r : xR) (j g : Nat) (far : Int) : Nat → Int := xfu (xfu (xfu (xfu (xfu (xfu (xfu (r.2 9) 0 (r.2 3 g)) 1 (r.2 j (44 + g))) 2 far) 3 (r.1 5)) 4 (r.2 j 115)) 5 g) 6 (if r.2 j (76 + g) = -1 then 0 else 1)
def rRgX (r : xR) (q : Nat → Int) : xR := xr_i (xr_i (xr_i (xr_i (xr_j r 9 q) 12 2) 13 (r.1 20)) 14 40) 21 1
def rRgS (r : xR) (q : Nat → Int) : xR := rRd (xr_i (rRgX r q) 21 0) (rHeld (rRgX r q)).2.1 (rHeld (rRgX r q)).2.2
def rRgV (r : xR) (j g : Nat) (far : Int) : Int := mMax 0 (mMin 30 (if r.1 20 ≤ 0 then xw (r.2 3 g - (if r.2 j (44 + g) < 1 then 1 else 0)) else (rHeld (rRgX r (rAsk r j g far))).1))
def rRg (r : xR) (j g : Nat) (far : Int) : xR := if r.1 20 ≤ 0 then r else rRgS r (rAsk r j g far)
theorem rRgX_sane (hS : r.1 20 ≤ 40) (q : Nat → Int) : rSane (rRgX r q) := Or.inr ⟨rfl, hS, show (40 : Int) ≤ 40 by decide⟩
set_option maxHeartbeats 4000000 in
theorem r_range (hj : j = 1 ∨ j = 12 ∨ j = 14) {g : Nat} (hg : g < 8) (hS : r.1 20 ≤ 40) (far : Int) : (gg (n + 821) 199).2 [.inr (.inr (.inl (1, 0))), .inr (.inr (.inl (1, j))), .inl (g : Int), .inl far] (hR h r) = some (some (.inl (rRgV r j g far)), hR h (rRg r j g far)) := by
  rw [gr199]
  unfold rRgV rRg
  have hjn : j ≠ 9 := by omega
  by_cases c1 : r.1 20 ≤ 0
  · by_cases c2 : 1 ≤ r.2 j (44 + g)
    · have c3 : ¬ r.2 j (44 + g) < 1 := by omega
      simp -implicitDefEqProofs (disch := first | omega | exact isc_R | exact isc_R | (simp only [List.map_cons, List.map_nil, List.sum_cons, List.sum_nil, xcat, Nat.reduceAdd, Nat.reduceLeDiff, Nat.zero_le]; done)) only [fX12_rangeOf, k_p_sq, k_p_blk, k_sq0, k_sq11, k_sq12, k_sq13, k_sq14, k_sq15, k_sqr, k_sqi, k_blk0, k_blk1, k_blk2, k_blk3, k_blk4, k_blk5, k_blkr, k_blki, k_finr, k_fini, k_mapi, k_bindi, k_if1, k_if2, k_ops, k_br, k_rv, k_ri, k_rl, k_rz, k_rzi, k_01d, k_sw, k_01a, k_01b, k_01c, k_ifn, x_cmp, decide_eq_true_eq, Option.map_some, Option.bind_some, Option.toList_some, Option.toList_none, List.cons_append, List.nil_append, Nat.reduceAdd, true_or, or_true, Int.reduceNeg, Int.reduceEq, reduceIte, Nat.zero_le, Nat.reduceLeDiff, Nat.le_refl, Nat.reduceEqDiff, List.getElem?_cons_zero, List.getElem?_cons_succ, xst, List.set_cons_zero, List.set_cons_succ, List.map_cons, List.map_nil, List.sum_cons, List.sum_nil, xcat, Nat.reduceMul, Nat.reduceDiv, Nat.reduceMod, Nat.add_zero, e_nil, e_iconst, e_il, e_al, e_ll, e_istore, e_astore, e_lstore, e_ic, e_iadd, e_isub, e_imul, e_iand, e_ior, e_ixor, e_ishl, e_ishr, e_ineg, e_dupi, e_dupr, e_dupx, e_dup2, e_popi, er_g0, er_g1, er_g2, er_g3, er_g4, er_g5, er_g6, er_g7, er_g8, er_g9, er_g10, er_g11, er_g12, er_g13, er_g14, er_g15, er_g16, er_g17, er_g18, er_g19, er_g20, er_g21, er_g22, er_g23, er_g24, er_g25, er_g26, er_g27, er_g28, er_g29, er_g30, er_g31, er_g32, er_g33, er_g34, er_g35, er_g36, er_g37, er_g38, er_g39, er_g40, er_g41, er_g42, er_g43, er_g44, er_g45, er_g46, er_g47, er_s1, er_s2, er_s5, er_s6, er_s8, er_s10, er_s11, er_s13, er_s14, er_s15, er_s16, er_s20, er_s23, er_s24, er_s25, er_s28, er_s30, er_s31, er_s32, er_s33, er_s42, er_s43, er_s44, er_s21a, er_s21b, er_s12a, er_s12b, isc_R, er_r3, er_rj hj, Int.reduceNeg, Int.reduceToNat, Int.toNat_natCast, Int.toNat_add_nat, xw_id, c1, c2, c3, ec280, ec281, r_max, r_min]
    · have c3 : r.2 j (44 + g) < 1 := by omega
      simp -implicitDefEqProofs (disch := first | omega | exact isc_R | exact isc_R | (simp only [List.map_cons, List.map_nil, List.sum_cons, List.sum_nil, xcat, Nat.reduceAdd, Nat.reduceLeDiff, Nat.zero_le]; done)) only [fX12_rangeOf, k_p_sq, k_p_blk, k_sq0, k_sq11, k_sq12, k_sq13, k_sq14, k_sq15, k_sqr, k_sqi, k_blk0, k_blk1, k_blk2, k_blk3, k_blk4, k_blk5, k_blkr, k_blki, k_finr, k_fini, k_mapi, k_bindi, k_if1, k_if2, k_ops, k_br, k_rv, k_ri, k_rl, k_rz, k_rzi, k_01d, k_sw, k_01a, k_01b, k_01c, k_ifn, x_cmp, decide_eq_true_eq, Option.map_some, Option.bind_some, Option.toList_some, Option.toList_none, List.cons_append, List.nil_append, Nat.reduceAdd, true_or, or_true, Int.reduceNeg, Int.reduceEq, reduceIte, Nat.zero_le, Nat.reduceLeDiff, Nat.le_refl, Nat.reduceEqDiff, List.getElem?_cons_zero, List.getElem?_cons_succ, xst, List.set_cons_zero, List.set_cons_succ, List.map_cons, List.map_nil, List.sum_cons, List.sum_nil, xcat, Nat.reduceMul, Nat.reduceDiv, Nat.reduceMod, Nat.add_zero, e_nil, e_iconst, e_il, e_al, e_ll, e_istore, e_astore, e_lstore, e_ic, e_iadd, e_isub, e_imul, e_iand, e_ior, e_ixor, e_ishl, e_ishr, e_ineg, e_dupi, e_dupr, e_dupx, e_dup2, e_popi, er_g0, er_g1, er_g2, er_g3, er_g4, er_g5, er_g6, er_g7, er_g8, er_g9, er_g10, er_g11, er_g12, er_g13, er_g14, er_g15, er_g16, er_g17, er_g18, er_g19, er_g20, er_g21, er_g22, er_g23, er_g24, er_g25, er_g26, er_g27, er_g28, er_g29, er_g30, er_g31, er_g32, er_g33, er_g34, er_g35, er_g36, er_g37, er_g38, er_g39, er_g40, er_g41, er_g42, er_g43, er_g44, er_g45, er_g46, er_g47, er_s1, er_s2, er_s5, er_s6, er_s8, er_s10, er_s11, er_s13, er_s14, er_s15, er_s16, er_s20, er_s23, er_s24, er_s25, er_s28, er_s30, er_s31, er_s32, er_s33, er_s42, er_s43, er_s44, er_s21a, er_s21b, er_s12a, er_s12b, isc_R, er_r3, er_rj hj, Int.reduceNeg, Int.reduceToNat, Int.toNat_natCast, Int.toNat_add_nat, xw_id, c1, c2, c3, ec280, ec281, r_max, r_min]
  · have hs := rRgX_sane hS (rAsk r j g far)
    have f1 := r_held (n := n) (h := h) hs
    have hX : rRd (xr_i (xr_i (xr_i (xr_i (xr_j r 9 (rAsk r j g far)) 12 2) 13 (r.1 20)) 14 40) 21 1) 0 (-1) = rRd (rRgX r (rAsk r j g far)) 0 (-1) := rfl
    have hA : rAsk r j g far = xfu (xfu (xfu (xfu (xfu (xfu (xfu (r.2 9) 0 (r.2 3 g)) 1 (r.2 j (44 + g))) 2 far) 3 (r.1 5)) 4 (r.2 j 115)) 5 g) 6 (if r.2 j (76 + g) = -1 then 0 else 1) := rfl
    by_cases c2 : 1 ≤ r.2 j (44 + g) <;> by_cases c4 : r.2 j (76 + g) = -1
    all_goals first | rw [if_pos c4] at hA | rw [if_neg c4] at hA
    all_goals simp -implicitDefEqProofs (disch := first | omega | exact isc_R | exact isc_R | (simp only [List.map_cons, List.map_nil, List.sum_cons, List.sum_nil, xcat, Nat.reduceAdd, Nat.reduceLeDiff, Nat.zero_le]; done)) only [fX12_rangeOf, k_p_sq, k_p_blk, k_sq0, k_sq11, k_sq12, k_sq13, k_sq14, k_sq15, k_sqr, k_sqi, k_blk0, k_blk1, k_blk2, k_blk3, k_blk4, k_blk5, k_blkr, k_blki, k_finr, k_fini, k_mapi, k_bindi, k_if1, k_if2, k_ops, k_br, k_rv, k_ri, k_rl, k_rz, k_rzi, k_01d, k_sw, k_01a, k_01b, k_01c, k_ifn, x_cmp, decide_eq_true_eq, Option.map_some, Option.bind_some, Option.toList_some, Option.toList_none, List.cons_append, List.nil_append, Nat.reduceAdd, true_or, or_true, Int.reduceNeg, Int.reduceEq, reduceIte, Nat.zero_le, Nat.reduceLeDiff, Nat.le_refl, Nat.reduceEqDiff, List.getElem?_cons_zero, List.getElem?_cons_succ, xst, List.set_cons_zero, List.set_cons_succ, List.map_cons, List.map_nil, List.sum_cons, List.sum_nil, xcat, Nat.reduceMul, Nat.reduceDiv, Nat.reduceMod, Nat.add_zero, e_nil, e_iconst, e_il, e_al, e_ll, e_istore, e_astore, e_lstore, e_ic, e_iadd, e_isub, e_imul, e_iand, e_ior, e_ixor, e_ishl, e_ishr, e_ineg, e_dupi, e_dupr, e_dupx, e_dup2, e_popi, er_g0, er_g1, er_g2, er_g3, er_g4, er_g5, er_g6, er_g7, er_g8, er_g9, er_g10, er_g11, er_g12, er_g13, er_g14, er_g15, er_g16, er_g17, er_g18, er_g19, er_g20, er_g21, er_g22, er_g23, er_g24, er_g25, er_g26, er_g27, er_g28, er_g29, er_g30, er_g31, er_g32, er_g33, er_g34, er_g35, er_g36, er_g37, er_g38, er_g39, er_g40, er_g41, er_g42, er_g43, er_g44, er_g45, er_g46, er_g47, er_s1, er_s2, er_s5, er_s6, er_s8, er_s10, er_s11, er_s13, er_s14, er_s15, er_s16, er_s20, er_s23, er_s24, er_s25, er_s28, er_s30, er_s31, er_s32, er_s33, er_s42, er_s43, er_s44, er_s21a, er_s21b, er_s12a, er_s12b, isc_R, er_r3, er_rj hj, er_w9, Int.reduceNeg, Int.reduceToNat, Int.toNat_natCast, Int.toNat_add_nat, xw_id, c1, c2, c4, xr_a_j, xr_j_j, xr_j_2, xr_j_1, xfu_self, xfu_ne, xr_j_n (show (3 : Nat) ≠ 9 by decide), xr_j_n hjn, ← hA, ec180, r_beginR, rRd_i, hX, ec193, f1, isc_Rd, ec280, ec281, r_max, r_min]
    all_goals rfl
end RG
