section FLb
variable {n : Nat} {h : xH} {r : xR} {H : xH} {a w : Int} {F : Nat → Int}
theorem r_flL (hs : rSane r) {B : Nat} (hb : r.1 1 = B) (J : xV) : ∀ (f k : Nat) (a : Int) (F : Nat → Int), B + k ≤ 6 → 7 ≤ f + (B + k) → 0 ≤ a → a ≤ 12 * (k : Int) → ∃ F', p_lop (lX12_fleet_37 (gg (n + 6))) ([.inr (.inr (.inl (1, 0))), .inl (k : Int), .inl 1, J], [], hR h (rRj r 6 F a (-1))) = some (.inl 1, ([.inr (.inr (.inl (1, 0))), .inl ((k + (tFl r B f k a (-1)).1.length : Nat) : Int), .inl 0, J], [], hR h (rRj r 6 F' (tFl r B f k a (-1)).2.1 (tFl r B f k a (-1)).2.2))) ∧ (∀ i, i < 5 * k → F' i = F i) ∧ ((tFl r B f k a (-1)).2.2 = -1 → ∀ i, i < (tFl r B f k a (-1)).1.length → tRow F' (5 * (k + i)) ((tFl r B f k a (-1)).1.getD i q50))
  | 0, k, a, F, h1, h2, h3, h4 => by omega
  | f + 1, k, a, F, h1, h2, h3, h4 => by
    obtain ⟨F1, e1, e2, e3⟩ := r_fl1 (n := n) (h := h) (F := F) hs h3 (by omega) hb h1 J
    have hat := tFl1_at (r := r) (B := B) (n := k) (a := a) (w := -1)
    have hp := tPs_at (r := r) (k := 59) (a := (tFl1 r B k a (-1)).2.1) (w := (tFl1 r B k a (-1)).2.2)
    have hz : B + k = 6 → (tFl1 r B k a (-1)).2.2 ≠ -1 := by
      intro c
      unfold tFl1
      rw [if_pos c]
      show (if (-1 : Int) = -1 then a else -1) ≠ -1
      rw [if_pos rfl]
      omega
    have hw : (tPs r 59 (tFl1 r B k a (-1)).2.1 (tFl1 r B k a (-1)).2.2).2.2 = (tFl1 r B k a (-1)).2.2 := by
      unfold tPs
      split <;> rfl
    rcases tPs_01 (r := r) (k := 59) (a := (tFl1 r B k a (-1)).2.1) (w := (tFl1 r B k a (-1)).2.2) with z | z
    · have e5 : tFl r B (f + 1) k a (-1) = ([(tFl1 r B k a (-1)).1], (tPs r 59 (tFl1 r B k a (-1)).2.1 (tFl1 r B k a (-1)).2.2).2) := by
        show (if _ then _ else _) = _
        rw [if_neg (by rw [z]; decide)]
      rw [z] at e1
      rw [e5]
      dsimp only
      refine ⟨F1, ?_, e2, ?_⟩
      · rw [k_l1 e1]
        refine k_l2 (k := 0) ?_
        simp -implicitDefEqProofs (disch := first | exact isc_R | (simp only [List.map_cons, List.map_nil, List.sum_cons, List.sum_nil, xcat, Nat.reduceAdd, Nat.reduceLeDiff, Nat.zero_le]; done) | omega) only [lX12_fleet_37, k_p_sq, k_p_blk, k_sq0, k_sq11, k_sq12, k_sq13, k_sq14, k_sq15, k_sqr, k_sqi, k_blk0, k_blk1, k_blk2, k_blk3, k_blk4, k_blk5, k_blkr, k_blki, k_finr, k_fini, k_mapi, k_bindi, k_if1, k_if2, k_ops, k_br, k_rv, k_ri, k_rl, k_rz, k_rzi, k_01d, k_sw, k_01a, k_01b, k_01c, k_ifn, x_cmp, decide_eq_true_eq, Option.map_some, Option.bind_some, Option.toList_some, Option.toList_none, List.cons_append, List.nil_append, Nat.reduceAdd, true_or, or_true, Int.reduceNeg, Int.reduceEq, reduceIte, Nat.zero_le, Nat.reduceLeDiff, Nat.le_refl, Nat.reduceEqDiff, List.getElem?_cons_zero, List.getElem?_cons_succ, xst, List.set_cons_zero, List.set_cons_succ, List.map_cons, List.map_nil, List.sum_cons, List.sum_nil, xcat, Nat.reduceMul, Nat.reduceDiv, Nat.reduceMod, Nat.add_zero, e_nil, e_iconst, e_il, e_al, e_ll, e_istore, e_astore, e_lstore, e_ic, e_iadd, e_isub, e_imul, e_iand, e_ior, e_ixor, e_ishl, e_ishr, e_ineg, e_dupi, e_dupr, e_dupx, e_dup2, e_popi, er_g0, er_g1, er_g2, er_g3, er_g4, er_g5, er_g6, er_g7, er_g8, er_g9, er_g10, er_g11, er_g12, er_g13, er_g14, er_g15, er_g16, er_g17, er_g18, er_g19, er_g20, er_g21, er_g22, er_g23, er_g24, er_g25, er_g26, er_g27, er_g28, er_g29, er_g30, er_g31, er_g32, er_g33, er_g34, er_g35, er_g36, er_g37, er_g38, er_g39, er_g40, er_g41, er_g42, er_g43, er_g44, er_g45, er_g46, er_g47, er_s1, er_s2, er_s5, er_s6, er_s8, er_s10, er_s11, er_s13, er_s14, er_s15, er_s16, er_s20, er_s23, er_s24, er_s25, er_s28, er_s30, er_s31, er_s32, er_s33, er_s42, er_s43, er_s44, er_s21a, er_s21b, er_s12a, er_s12b, isc_R, Int.reduceEq]
        rfl
      · intro hf i hi
        have i0 : i = 0 := by
          have : i < 1 := hi
          omega
        subst i0
        exact e3 (fun c => hz c (by rw [← hw]; exact hf))
    · have hm := tPs_1 z
      have e5 : tFl r B (f + 1) k a (-1) = ((tFl1 r B k a (-1)).1 :: (tFl r B f (k + 1) (tPs r 59 (tFl1 r B k a (-1)).2.1 (tFl1 r B k a (-1)).2.2).2.1 (tPs r 59 (tFl1 r B k a (-1)).2.1 (tFl1 r B k a (-1)).2.2).2.2).1, (tFl r B f (k + 1) (tPs r 59 (tFl1 r B k a (-1)).2.1 (tFl1 r B k a (-1)).2.2).2.1 (tPs r 59 (tFl1 r B k a (-1)).2.1 (tFl1 r B k a (-1)).2.2).2.2).2) := by
        show (if _ then _ else _) = _
        rw [if_pos z]
      rw [hm] at e5 e1
      have c6 : ¬ B + k = 6 := fun c => hz c (by rw [← hw]; exact hm)
      obtain ⟨F2, g1, g2, g3⟩ := r_flL hs hb J f (k + 1) (tPs r 59 (tFl1 r B k a (-1)).2.1 (tFl1 r B k a (-1)).2.2).2.1 F1 (by omega) (by omega) (by omega) (by omega)
      rw [z] at e1
      rw [e5]
      dsimp only
      refine ⟨F2, ?_, fun i hi => by rw [g2 i (by omega)]; exact e2 i hi, ?_⟩
      · rw [k_l1 e1, g1]
        rw [List.length_cons, show k + ((tFl r B f (k + 1) (tPs r 59 (tFl1 r B k a (-1)).2.1 (tFl1 r B k a (-1)).2.2).2.1 (-1)).1.length + 1) = k + 1 + (tFl r B f (k + 1) (tPs r 59 (tFl1 r B k a (-1)).2.1 (tFl1 r B k a (-1)).2.2).2.1 (-1)).1.length by omega]
      · intro hf i hi
        cases i with
        | zero =>
          obtain ⟨t1, t2, t3, t4, t5⟩ := e3 c6
          rw [Nat.add_zero]
          exact ⟨by rw [g2 _ (by omega)]; exact t1, by rw [g2 _ (by omega)]; exact t2, by rw [g2 _ (by omega)]; exact t3, by rw [g2 _ (by omega)]; exact t4, by rw [g2 _ (by omega)]; exact t5⟩
        | succ i =>
          have hi2 : i < (tFl r B f (k + 1) (tPs r 59 (tFl1 r B k a (-1)).2.1 (tFl1 r B k a (-1)).2.2).2.1 (-1)).1.length := by
            rw [List.length_cons] at hi
            omega
          have := g3 hf i hi2
          rw [show k + (i + 1) = k + 1 + i by omega]
          exact this
end FLb
