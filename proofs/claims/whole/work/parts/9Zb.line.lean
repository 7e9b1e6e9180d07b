/-! ===== the class: a boat's line ===== -/
theorem tDigit_w {r : xR} {a w lo hi : Int} (e : (tDigit r a w lo hi).2.2 = -1) : w = -1 := by
  refine Classical.byContradiction fun d => ?_
  rw [tDigit_bad d] at e
  exact d e
theorem tCell_w {r : xR} {a w : Int} (e : (tCell r a w).2.2 = -1) : w = -1 := by
  refine Classical.byContradiction fun d => ?_
  rw [tCell_bad d] at e
  exact d e
theorem tLetter_w {r : xR} {a w m : Int} (e : (tLetter r a w m).2.2 = -1) : w = -1 := by
  refine Classical.byContradiction fun d => ?_
  rw [tLetter_bad d] at e
  exact d e
theorem tNeed_w {r : xR} {k a w : Int} (e : (tNeed r k a w).2 = -1) : w = -1 := by
  refine Classical.byContradiction fun d => ?_
  unfold tNeed at e
  rw [if_neg d] at e
  exact d e
theorem tPs_w {r : xR} {k a w : Int} : (tPs r k a w).2.2 = w := by
  unfold tPs
  split <;> rfl
theorem tCr1_w {r : xR} {k m a w : Int} : (tCr1 r k m a w).2.2.2 = w := by
  unfold tCr1
  split
  · exact tPs_w
  · show (tPs r m _ _).2.2 = w
    rw [tPs_w, tPs_w]
theorem tCrs_w {r : xR} {a w : Int} (e : (tCrs r a w).2.2.2 = -1) : w = -1 := by
  unfold tCrs at e
  split at e
  · rw [← tPs_w (r := r) (k := 45) (a := a) (w := w)]
    exact e
  · dsimp only at e
    split at e
    · rename_i z
      have := z.2
      rw [tCr1_w, tCr1_w, tPs_w] at this
      exact this
    · rw [tCr1_w, tCr1_w, tPs_w] at e
      exact e
section CL1
variable {n : Nat} {h : xH} {c : xQ} {r : xR} {H : xH} {T m : Nat} {a w a' w' : Int} {k b : Nat} {z : Nat → Int}
theorem zLine_n {z : Nat → Int} {b i : Nat} {x y dx dy u : Int} (hi : i ≠ b ∧ i ≠ 6 + b ∧ i ≠ 12 + b ∧ i ≠ 18 + b ∧ i ≠ 24 + b ∧ i ≠ 30 + b) : xfu (xfu (zd (xfu (xfu z b x) (6 + b) y) b dx dy) (24 + b) u) (30 + b) 0 i = z i := by
  unfold zd xfu
  rw [if_neg hi.2.2.2.2.2, if_neg hi.2.2.2.2.1, if_neg hi.2.2.2.1, if_neg hi.2.2.1, if_neg hi.2.1, if_neg hi.1]
theorem zLine_v {z : Nat → Int} {b : Nat} {x y dx dy u : Int} (Z : Nat → Int) (hz : Z = xfu (xfu (zd (xfu (xfu z b x) (6 + b) y) b dx dy) (24 + b) u) (30 + b) 0) : Z b = x ∧ Z (6 + b) = y ∧ Z (12 + b) = dx ∧ Z (18 + b) = dy ∧ Z (24 + b) = u ∧ Z (30 + b) = 0 := by
  subst hz
  unfold zd xfu
  refine ⟨?_, ?_, ?_, ?_, ?_, ?_⟩
  · rw [if_neg (by omega), if_neg (by omega), if_neg (by omega), if_neg (by omega), if_neg (by omega), if_pos rfl]
  · rw [if_neg (by omega), if_neg (by omega), if_neg (by omega), if_neg (by omega), if_pos rfl]
  · rw [if_neg (by omega), if_neg (by omega), if_neg (by omega), if_pos rfl]
  · rw [if_neg (by omega), if_neg (by omega), if_pos rfl]
  · rw [if_neg (by omega), if_pos rfl]
  · rw [if_pos rfl]
theorem c_line (hx : TX r c T m) (hk : k < 17) (hb : b < 6) (hr : RS a w a' w') (ha2 : a < 600) : ∃ (a1 x y dx dy u : Int), (gg (n + 5) 2).2 [.inr (.inr (.inl (k + 3, 5 + b))), .inr (.inr (.inl (0, 1)))] (hC h (q_z (cRd c a w) k z)) = some (none, hC h (q_z (cRd c a1 (tBoat r a' w').2.2) k (xfu (xfu (zd (xfu (xfu z b x) (6 + b) y) b dx dy) (24 + b) u) (30 + b) 0))) ∧ RS a1 (tBoat r a' w').2.2 (tBoat r a' w').2.1 (tBoat r a' w').2.2 ∧ a1 ≤ a + 11 ∧ ((tBoat r a' w').2.2 = -1 → (x, y, dx, dy, u) = (tBoat r a' w').1) := by
  rw [gr2]
  have hX : ∀ z, TX r (q_z c k z) T m := fun _ => hx
  unfold tBoat
  dsimp only
  obtain ⟨x, a1, f1, r1, v1, l1⟩ := k_coord (n := n) (h := h) (hX z) hr (by omega)
  have w1 := fun z => tCell_w (r := r) (a := a') (w := w') z
  generalize tCell r a' w' = t1 at *
  obtain ⟨a2, f2, r2, l2⟩ := k_need (n := n + 1) (h := h) (k := 44) (hX (xfu z b x)) r1 (by omega) (by decide)
  have w2 := fun z => tNeed_w (r := r) (k := 44) (a := t1.2.1) (w := t1.2.2) z
  generalize tNeed r 44 t1.2.1 t1.2.2 = t2 at *
  obtain ⟨y, a3, f3, r3, v3, l3⟩ := k_coord (n := n) (h := h) (hX (xfu z b x)) r2 (by omega)
  have w3 := fun z => tCell_w (r := r) (a := t2.1) (w := t2.2) z
  generalize tCell r t2.1 t2.2 = t3 at *
  obtain ⟨a4, f4, r4, l4⟩ := c_course (n := n + 1) (h := h) (z := xfu (xfu z b x) (6 + b) y) hx hk hb r3 (by omega)
  have w4 := fun z => tCrs_w (r := r) (a := t3.2.1) (w := t3.2.2) z
  generalize tCrs r t3.2.1 t3.2.2 = t4 at *
  obtain ⟨u, a5, f5, r5, v5, l5⟩ := k_digit (n := n + 1) (h := h) (lo := 0) (hi := 5) (hX (zd (xfu (xfu z b x) (6 + b) y) b t4.1 t4.2.1)) r4 (by omega) (by decide) (by decide) (by decide) (by decide)
  have w5 := fun z => tDigit_w (r := r) (a := t4.2.2.1) (w := t4.2.2.2) (lo := 0) (hi := 5) z
  generalize tDigit r t4.2.2.1 t4.2.2.2 0 5 = t5 at *
  refine ⟨a5, x, y, t4.1, t4.2.1, u, ?_, r5, by omega, ?_⟩
  · rw [cRd_z, cRd_z] at f1 f2 f3 f5
    clear hx hX hr r1 r2 r3 r4 r5 w1 w2 w3 w4 w5 v1 v3 v5
    simp -implicitDefEqProofs (disch := first | with_reducible assumption | with_reducible exact isc_zs (by assumption) | with_reducible exact isc_zs (by decide) | with_reducible exact isc_zb (by assumption) (by assumption) | with_reducible exact isc_zb (by decide) (by assumption) | with_reducible exact isc_zg (by assumption) (by assumption) | with_reducible exact isc_zl (by assumption) (by assumption) | with_reducible exact isc_0 | with_reducible exact isc_1 | with_reducible exact isc_3 | with_reducible exact isc_7 | with_reducible exact isc_11 | with_reducible exact isc_15 | with_reducible exact isc_19 | with_reducible exact isc_24 | with_reducible exact isc_25 | (simp only [List.map_cons, List.map_nil, List.sum_cons, List.sum_nil, xcat, Nat.reduceAdd, Nat.reduceLeDiff, Nat.zero_le]; done) | omega) only [fX0_readLine, k_p_sq, k_p_blk, k_sq0, k_sq11, k_sq12, k_sq13, k_sq14, k_sq15, k_sqr, k_sqi, k_blk0, k_blk1, k_blk2, k_blk3, k_blk4, k_blk5, k_blkr, k_blki, k_finr, k_fini, k_mapi, k_bindi, k_if1, k_if2, k_ops, k_br, k_rv, k_ri, k_rl, k_rz, k_rzi, k_01d, k_sw, k_01a, k_01b, k_01c, k_ifn, x_cmp, decide_eq_true_eq, Option.map_some, Option.bind_some, Option.toList_some, Option.toList_none, List.cons_append, List.nil_append, Nat.reduceAdd, true_or, or_true, Int.reduceNeg, Int.reduceEq, reduceIte, Nat.zero_le, Nat.reduceLeDiff, Nat.le_refl, Nat.reduceEqDiff, List.getElem?_cons_zero, List.getElem?_cons_succ, xst, List.set_cons_zero, List.set_cons_succ, List.map_cons, List.map_nil, List.sum_cons, List.sum_nil, xcat, Nat.reduceMul, Nat.reduceDiv, Nat.reduceMod, Nat.add_zero, e_nil, e_iconst, e_il, e_al, e_ll, e_istore, e_astore, e_lstore, e_ic, e_iadd, e_isub, e_imul, e_iand, e_ior, e_ixor, e_ishl, e_ishr, e_ineg, e_dupi, e_dupr, e_dupx, e_dup2, e_popi, eo_g0, eo_g1, eo_g2, eo_g3, eo_g4, eo_g5, eo_g6, eo_g7, eo_g8, eo_g9, eo_g10, eo_g11, eo_g12, eo_g13, eo_g14, eo_s14, eo_g15, eo_g16, eo_s16, et_g0, et_g1, et_s1, et_g2, et_s2, et_g3, et_s3, et_g4, et_s4, eu_g0, eu_g1, eu_s1, eu_g2, eu_g3, eu_s3, eu_g4, eh_g0, eh_g1, eh_s1, eh_g2, eh_s2, ed_g0, ed_g1, ed_g2, ed_g3, ed_s3, ew_g0, ew_g1, ew_g2, ew_g3, ew_s3, en_g0, en_g1, en_s1, en_g2, en_g3, en_g4, en_g5, en_s5, ex_g0, ex_s0, eq_g0, eq_s0, eq_g1, eq_s1, eq_g2, eq_s2, eq_g3, eq_s3, eq_g4, eq_s4, eq_g5, eq_s5, eq_g6, eq_s6, eq_g7, eq_s7, ez_g0, ez_g1, ez_g2, ez_g3, ez_s3, ez_g4, ez_s4, ez_g5, ez_s5, ez_g6, ez_s6, ez_g7, ez_s7, ez_g8, ez_s8, ez_g9, ez_s9, ez_g10, ez_s10, ez_g11, ez_s11, ez_g12, ez_s12, ez_g13, ez_s13, ez_g14, ez_g15, ez_b0g, ez_b0s, ez_b1g, ez_b1s, ez_b2g, ez_b2s, ez_b3g, ez_b3s, ez_b4g, ez_b4s, ez_b5g, ez_b5s, ez_ba, ez_g0g, ez_g0s, ez_g1g, ez_g1s, ez_g2g, ez_g2s, ez_g3g, ez_g3s, ez_g4g, ez_g4s, ez_g5g, ez_g5s, ez_g6g, ez_g6s, ez_g7g, ez_g7s, ez_ga, ez_l0g, ez_l0s, ez_l1g, ez_l1s, ez_l2g, ez_l2s, ez_la, q_zs, q_zz, q_z1, q_z2, q_i2, q_ig, q_iz, q_jz, true_and, false_and, or_self, or_true, true_or, or_false, false_or, and_true, and_false, and_self, not_true_eq_false, not_false_eq_true, ec92, f1, ec88, f2, f3, ec3, f4, ec91, f5]
  · intro e
    rw [v5 e, v3 (w4 (w5 e)), v1 (w2 (w3 (w4 (w5 e))))]
end CL1
