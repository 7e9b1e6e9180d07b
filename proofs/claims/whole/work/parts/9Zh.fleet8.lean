/-! ===== fleet: alike ===== -/
/-- a fault is a place that was read -/
def wB (a w : Int) : Prop := 0 ≤ a ∧ -1 ≤ w ∧ w ≤ a
section FH
variable {r : xR} {c : xQ} {T m : Nat} {a w : Int}
theorem tDigit_b {lo hi : Int} (h : wB a w) : wB (tDigit r a w lo hi).2.1 (tDigit r a w lo hi).2.2 := by
  obtain ⟨h1, h2, h3⟩ := h
  unfold tDigit wB
  split
  · split <;> dsimp only <;> omega
  · dsimp only; omega
theorem tLetter_b {k : Int} (h : wB a w) : wB (tLetter r a w k).2.1 (tLetter r a w k).2.2 := by
  obtain ⟨h1, h2, h3⟩ := h
  unfold tLetter wB
  split
  · split <;> dsimp only <;> omega
  · dsimp only; omega
theorem tNeed_b {k : Int} (h : wB a w) : wB (tNeed r k a w).1 (tNeed r k a w).2 := by
  obtain ⟨h1, h2, h3⟩ := h
  unfold tNeed wB
  split
  · split <;> dsimp only <;> omega
  · dsimp only; omega
theorem tPs_b {k : Int} (h : wB a w) : wB (tPs r k a w).2.1 (tPs r k a w).2.2 := by
  obtain ⟨h1, h2, h3⟩ := h
  unfold tPs wB
  split <;> dsimp only <;> omega
theorem tCr1_b {k l : Int} (h : wB a w) : wB (tCr1 r k l a w).2.2.1 (tCr1 r k l a w).2.2.2 := by
  unfold tCr1
  split
  · exact tPs_b h
  · exact tPs_b (tPs_b h)
theorem tCrs_b (h : wB a w) : wB (tCrs r a w).2.2.1 (tCrs r a w).2.2.2 := by
  have h1 := tPs_b (r := r) (k := 45) h
  have h2 := tCr1_b (r := r) (k := 110) (l := 115) h1
  have h3 := tCr1_b (r := r) (k := 101) (l := 119) h2
  unfold tCrs
  split
  · exact h1
  · dsimp only
    generalize (tCr1 r 110 115 (tPs r 45 a w).2.1 (tPs r 45 a w).2.2) = u at *
    generalize (tCr1 r 101 119 u.2.2.1 u.2.2.2) = v at *
    split
    · obtain ⟨y1, y2, y3⟩ := h3
      exact ⟨y1, by omega, by omega⟩
    · exact h3
theorem tCell_b (hx : TX r c T m) (h : wB a w) : wB (tCell r a w).2.1 (tCell r a w).2.2 := by
  obtain ⟨h1, h2, h3⟩ := h
  by_cases d : w = -1
  · subst d
    rw [tCell_1 hx h1]
    unfold wB
    split
    · split
      · dsimp only
        split <;> omega
      · dsimp only; omega
    · dsimp only; omega
  · rw [tCell_bad d]
    exact ⟨h1, h2, h3⟩
theorem tBoat_b (hx : TX r c T m) (h : wB a w) : wB (tBoat r a w).2.1 (tBoat r a w).2.2 := by
  unfold tBoat
  dsimp only
  exact tDigit_b (tCrs_b (tCell_b hx (tNeed_b (tCell_b hx h))))
theorem tFl1_b (hx : TX r c T m) {B k : Nat} (h : wB a w) : wB (tFl1 r B k a w).2.1 (tFl1 r B k a w).2.2 := by
  unfold tFl1
  split
  · obtain ⟨h1, h2, h3⟩ := h
    unfold wB
    dsimp only
    split <;> omega
  · exact tBoat_b hx h
theorem tFl_b (hx : TX r c T m) {B : Nat} : ∀ (f k : Nat) (a w : Int), wB a w → wB (tFl r B f k a w).2.1 (tFl r B f k a w).2.2
  | 0, k, a, w, h => h
  | f + 1, k, a, w, h => by
    have h1 := tPs_b (r := r) (k := 59) (tFl1_b (B := B) (k := k) hx h)
    unfold tFl
    split
    · exact tFl_b hx f (k + 1) _ _ h1
    · exact h1
theorem tFl_ne {B f k : Nat} : 1 ≤ (tFl r B (f + 1) k a w).1.length := by
  unfold tFl
  split
  · rw [List.length_cons]
    omega
  · exact Nat.le_refl _
end FH
section PF
variable {n : Nat} {h : xH} {c : xQ} {r : xR}
theorem c_fleet0 (hT : c.1 2 = 0) : (gg (n + 10) 104).2 [.inr (.inr (.inl (0, 0)))] (hC h c) = some (some (.inl 0), hC h (q_i (cRd (q_i c 3 ((min 0 76 : Nat) : Int)) 0 (-1)) 2 0)) := by
  rw [gr104]
  have f1 := c_open (n := n + 7) (h := h) (c := c) (T := 0) 76 hT
  have f2 := c_empty (n := n + 8) (h := h) (c := cRd (q_i c 3 ((min 0 76 : Nat) : Int)) 0 (-1))
  have f3 := c_close (n := n + 6) (h := h) (c := q_i c 3 ((min 0 76 : Nat) : Int)) (a := 0) (w := -1) (L := 0) hT (by decide) (by decide) (by decide) (by decide)
  rw [if_pos (show (cRd (q_i c 3 ((min 0 76 : Nat) : Int)) 0 (-1)).1 2 = 0 from hT)] at f2
  rw [if_pos rfl, if_neg (by decide), if_neg (by decide)] at f3
  generalize ((min 0 76 : Nat) : Int) = L at *
  rw [show ((76 : Nat) : Int) = 76 from rfl] at f1
  clear hT
  simp -implicitDefEqProofs (disch := first | with_reducible assumption | with_reducible exact isc_zs (by assumption) | with_reducible exact isc_zs (by decide) | with_reducible exact isc_zb (by assumption) (by assumption) | with_reducible exact isc_zb (by decide) (by assumption) | with_reducible exact isc_zg (by assumption) (by assumption) | with_reducible exact isc_zl (by assumption) (by assumption) | with_reducible exact isc_0 | with_reducible exact isc_1 | with_reducible exact isc_3 | with_reducible exact isc_7 | with_reducible exact isc_11 | with_reducible exact isc_15 | with_reducible exact isc_19 | with_reducible exact isc_24 | with_reducible exact isc_25 | (simp only [List.map_cons, List.map_nil, List.sum_cons, List.sum_nil, xcat, Nat.reduceAdd, Nat.reduceLeDiff, Nat.zero_le]; done) | omega) only [fX11_fleet, k_p_sq, k_p_blk, k_sq0, k_sq11, k_sq12, k_sq13, k_sq14, k_sq15, k_sqr, k_sqi, k_blk0, k_blk1, k_blk2, k_blk3, k_blk4, k_blk5, k_blkr, k_blki, k_finr, k_fini, k_mapi, k_bindi, k_if1, k_if2, k_ops, k_br, k_rv, k_ri, k_rl, k_rz, k_rzi, k_01d, k_sw, k_01a, k_01b, k_01c, k_ifn, x_cmp, decide_eq_true_eq, Option.map_some, Option.bind_some, Option.toList_some, Option.toList_none, List.cons_append, List.nil_append, Nat.reduceAdd, true_or, or_true, Int.reduceNeg, Int.reduceEq, reduceIte, Nat.zero_le, Nat.reduceLeDiff, Nat.le_refl, Nat.reduceEqDiff, List.getElem?_cons_zero, List.getElem?_cons_succ, xst, List.set_cons_zero, List.set_cons_succ, List.map_cons, List.map_nil, List.sum_cons, List.sum_nil, xcat, Nat.reduceMul, Nat.reduceDiv, Nat.reduceMod, Nat.add_zero, e_nil, e_iconst, e_il, e_al, e_ll, e_istore, e_astore, e_lstore, e_ic, e_iadd, e_isub, e_imul, e_iand, e_ior, e_ixor, e_ishl, e_ishr, e_ineg, e_dupi, e_dupr, e_dupx, e_dup2, e_popi, eo_g0, eo_g1, eo_g2, eo_g3, eo_g4, eo_g5, eo_g6, eo_g7, eo_g8, eo_g9, eo_g10, eo_g11, eo_g12, eo_g13, eo_g14, eo_s14, eo_g15, eo_g16, eo_s16, et_g0, et_g1, et_s1, et_g2, et_s2, et_g3, et_s3, et_g4, et_s4, eu_g0, eu_g1, eu_s1, eu_g2, eu_g3, eu_s3, eu_g4, eh_g0, eh_g1, eh_s1, eh_g2, eh_s2, ed_g0, ed_g1, ed_g2, ed_g3, ed_s3, ew_g0, ew_g1, ew_g2, ew_g3, ew_s3, en_g0, en_g1, en_s1, en_g2, en_g3, en_g4, en_g5, en_s5, ex_g0, ex_s0, eq_g0, eq_s0, eq_g1, eq_s1, eq_g2, eq_s2, eq_g3, eq_s3, eq_g4, eq_s4, eq_g5, eq_s5, eq_g6, eq_s6, eq_g7, eq_s7, ez_g0, ez_g1, ez_g2, ez_g3, ez_s3, ez_g4, ez_s4, ez_g5, ez_s5, ez_g6, ez_s6, ez_g7, ez_s7, ez_g8, ez_s8, ez_g9, ez_s9, ez_g10, ez_s10, ez_g11, ez_s11, ez_g12, ez_s12, ez_g13, ez_s13, ez_g14, ez_g15, ez_b0g, ez_b0s, ez_b1g, ez_b1s, ez_b2g, ez_b2s, ez_b3g, ez_b3s, ez_b4g, ez_b4s, ez_b5g, ez_b5s, ez_ba, ez_g0g, ez_g0s, ez_g1g, ez_g1s, ez_g2g, ez_g2s, ez_g3g, ez_g3s, ez_g4g, ez_g4s, ez_g5g, ez_g5s, ez_g6g, ez_g6s, ez_g7g, ez_g7s, ez_ga, ez_l0g, ez_l0s, ez_l1g, ez_l1s, ez_l2g, ez_l2s, ez_la, q_zs, q_zz, q_z1, q_z2, q_i2, q_ig, q_iz, q_jz, true_and, false_and, or_self, or_true, true_or, or_false, false_or, and_true, and_false, and_self, not_true_eq_false, not_false_eq_true, ec82, f1, ec79, f2, ec95, f3, Int.reduceEq, Int.reduceLE, Int.reduceLT]
theorem c_fleet1 {T B : Nat} (hT : c.1 2 = (T : Int)) (hT0 : T ≠ 0) {q : xQ} (hq : q = q_i c 3 ((min T 76 : Nat) : Int)) (hx : TX r q T 76) (hB : B ≤ 6) (hz : c.2.2 0 132 = (B : Int)) : ∃ (a1 : Int) (z' : Nat → Int),
    (gg (n + 10) 104).2 [.inr (.inr (.inl (0, 0)))] (hC h c) = (if (tFl r B 7 0 0 (-1)).2.2 = -1 then (if (tFl r B 7 0 0 (-1)).2.1 < T then some (some (.inl (-1 - (tFl r B 7 0 0 (-1)).2.1)), hC h (q_i (q_z (cRd q a1 (tFl r B 7 0 0 (-1)).2.1) 0 z') 2 0)) else some (some (.inl (((tFl r B 7 0 0 (-1)).1.length : Nat) : Int)), hC h (q_i (q_i (q_z (cRd q a1 (-1)) 0 (xfu z' 132 ((B + (tFl r B 7 0 0 (-1)).1.length : Nat) : Int))) 2 0) 9 0))) else some (some (.inl (-1 - (tFl r B 7 0 0 (-1)).2.2)), hC h (q_i (q_z (cRd q a1 (tFl r B 7 0 0 (-1)).2.2) 0 z') 2 0))) ∧ (∀ i, ¬ (i < 36 ∧ B ≤ i % 6) → z' i = c.2.2 0 i) ∧ ((tFl r B 7 0 0 (-1)).2.2 = -1 → z' = tBs B (tFl r B 7 0 0 (-1)).1 (c.2.2 0)) := by
  rw [gr104]
  have f1 := c_open (n := n + 7) (h := h) (c := c) (T := T) 76 hT
  rw [← hq, show ((76 : Nat) : Int) = 76 from rfl] at f1
  have h2 : q.1 2 = (T : Int) := hx.2.2.2.2.2.1
  have f2 := c_empty (n := n + 8) (h := h) (c := cRd q 0 (-1))
  rw [if_neg (show ¬ (cRd q 0 (-1)).1 2 = 0 by show ¬ q.1 2 = 0; rw [h2]; omega)] at f2
  have e0 : q_z (cRd q 0 (-1)) 0 (c.2.2 0) = cRd q 0 (-1) := by
    subst hq
    exact q_z0 (c := cRd (q_i c 3 ((min T 76 : Nat) : Int)) 0 (-1)) (k := 0)
  obtain ⟨a1, z1, f3, r1, l1, n1, v1⟩ := c_readBoats (n := n + 3) (h := h) hx hB hz
  rw [e0] at f3
  have hb := tFl_b hx (B := B) 7 0 0 (-1) ⟨by decide, by decide, by decide⟩
  have hl : (tFl r B 7 0 0 (-1)).2.2 = -1 → B + 0 + (tFl r B 7 0 0 (-1)).1.length ≤ 6 := tFl_len (r := r) (B := B) 7 0 0 (by decide) (by omega)
  have hne := tFl_ne (r := r) (B := B) (f := 6) (k := 0) (a := 0) (w := -1)
  have hat := tFl_at (r := r) (B := B) 7 0 0 (-1) (by decide)
  generalize tFl r B 7 0 0 (-1) = Q at *
  obtain ⟨Ql, A, W⟩ := Q
  dsimp only at *
  obtain ⟨y1, y2, y3⟩ := hb
  obtain ⟨x1, x2, x3, x4⟩ := r1
  have f4 := c_close (n := n + 6) (h := h) (c := q_z q 0 z1) (a := a1) (w := W) (L := (T : Int)) h2 x3 (by omega) y2 (by omega)
  rw [cRd_z, cRd_z] at f4
  have hT76 := hx.1
  refine ⟨a1, z1, ?_, n1, v1⟩
  by_cases d : W = -1
  · have e1 := x2 d
    subst e1
    subst d
    by_cases d2 : a1 < (T : Int)
    · simp only [if_true, true_and, if_pos d2] at f4 ⊢
      have d3 : -1 - a1 < 0 := by omega
      have d4 : ¬ 0 ≤ -1 - a1 := by omega
      clear hx hT hT0 hq h2 e0 n1 v1 hl hne hat y1 y2 y3 x2 x3 x4 x1 hz hT76
      simp -implicitDefEqProofs (disch := first | with_reducible assumption | with_reducible exact isc_zs (by assumption) | with_reducible exact isc_zs (by decide) | with_reducible exact isc_zb (by assumption) (by assumption) | with_reducible exact isc_zb (by decide) (by assumption) | with_reducible exact isc_zg (by assumption) (by assumption) | with_reducible exact isc_zl (by assumption) (by assumption) | with_reducible exact isc_0 | with_reducible exact isc_1 | with_reducible exact isc_3 | with_reducible exact isc_7 | with_reducible exact isc_11 | with_reducible exact isc_15 | with_reducible exact isc_19 | with_reducible exact isc_24 | with_reducible exact isc_25 | (simp only [List.map_cons, List.map_nil, List.sum_cons, List.sum_nil, xcat, Nat.reduceAdd, Nat.reduceLeDiff, Nat.zero_le]; done) | omega) only [fX11_fleet, k_p_sq, k_p_blk, k_sq0, k_sq11, k_sq12, k_sq13, k_sq14, k_sq15, k_sqr, k_sqi, k_blk0, k_blk1, k_blk2, k_blk3, k_blk4, k_blk5, k_blkr, k_blki, k_finr, k_fini, k_mapi, k_bindi, k_if1, k_if2, k_ops, k_br, k_rv, k_ri, k_rl, k_rz, k_rzi, k_01d, k_sw, k_01a, k_01b, k_01c, k_ifn, x_cmp, decide_eq_true_eq, Option.map_some, Option.bind_some, Option.toList_some, Option.toList_none, List.cons_append, List.nil_append, Nat.reduceAdd, true_or, or_true, Int.reduceNeg, Int.reduceEq, reduceIte, Nat.zero_le, Nat.reduceLeDiff, Nat.le_refl, Nat.reduceEqDiff, List.getElem?_cons_zero, List.getElem?_cons_succ, xst, List.set_cons_zero, List.set_cons_succ, List.map_cons, List.map_nil, List.sum_cons, List.sum_nil, xcat, Nat.reduceMul, Nat.reduceDiv, Nat.reduceMod, Nat.add_zero, e_nil, e_iconst, e_il, e_al, e_ll, e_istore, e_astore, e_lstore, e_ic, e_iadd, e_isub, e_imul, e_iand, e_ior, e_ixor, e_ishl, e_ishr, e_ineg, e_dupi, e_dupr, e_dupx, e_dup2, e_popi, eo_g0, eo_g1, eo_g2, eo_g3, eo_g4, eo_g5, eo_g6, eo_g7, eo_g8, eo_g9, eo_g10, eo_g11, eo_g12, eo_g13, eo_g14, eo_s14, eo_g15, eo_g16, eo_s16, et_g0, et_g1, et_s1, et_g2, et_s2, et_g3, et_s3, et_g4, et_s4, eu_g0, eu_g1, eu_s1, eu_g2, eu_g3, eu_s3, eu_g4, eh_g0, eh_g1, eh_s1, eh_g2, eh_s2, ed_g0, ed_g1, ed_g2, ed_g3, ed_s3, ew_g0, ew_g1, ew_g2, ew_g3, ew_s3, en_g0, en_g1, en_s1, en_g2, en_g3, en_g4, en_g5, en_s5, ex_g0, ex_s0, eq_g0, eq_s0, eq_g1, eq_s1, eq_g2, eq_s2, eq_g3, eq_s3, eq_g4, eq_s4, eq_g5, eq_s5, eq_g6, eq_s6, eq_g7, eq_s7, ez_g0, ez_g1, ez_g2, ez_g3, ez_s3, ez_g4, ez_s4, ez_g5, ez_s5, ez_g6, ez_s6, ez_g7, ez_s7, ez_g8, ez_s8, ez_g9, ez_s9, ez_g10, ez_s10, ez_g11, ez_s11, ez_g12, ez_s12, ez_g13, ez_s13, ez_g14, ez_g15, ez_b0g, ez_b0s, ez_b1g, ez_b1s, ez_b2g, ez_b2s, ez_b3g, ez_b3s, ez_b4g, ez_b4s, ez_b5g, ez_b5s, ez_ba, ez_g0g, ez_g0s, ez_g1g, ez_g1s, ez_g2g, ez_g2s, ez_g3g, ez_g3s, ez_g4g, ez_g4s, ez_g5g, ez_g5s, ez_g6g, ez_g6s, ez_g7g, ez_g7s, ez_ga, ez_l0g, ez_l0s, ez_l1g, ez_l1s, ez_l2g, ez_l2s, ez_la, q_zs, q_zz, q_z1, q_z2, q_i2, q_ig, q_iz, q_jz, true_and, false_and, or_self, or_true, true_or, or_false, false_or, and_true, and_false, and_self, not_true_eq_false, not_false_eq_true, ec82, f1, ec79, f2, ec112, f3, ec95, f4, Int.reduceEq, d3, d4]
    · simp only [if_true, true_and, if_neg d2] at f4 ⊢
      have d3 : ¬ ((Ql.length : Nat) : Int) ≤ 0 := by omega
      have d4 : (0 : Int) < ((Ql.length : Nat) : Int) := by omega
      have hl2 := hl rfl
      have x5 : xw ((B : Int) + ((Ql.length : Nat) : Int)) = ((B + Ql.length : Nat) : Int) := by rw [xw_id (by omega) (by omega)]; omega
      have hz1 : z1 132 = (B : Int) := by rw [n1 132 (by omega)]; exact hz
      generalize ((B + Ql.length : Nat) : Int) = Y at *
      generalize ((Ql.length : Nat) : Int) = X at *
      clear hx hT hT0 hq h2 e0 n1 v1 hl hne hat y1 y2 y3 x2 x3 x4 x1 hz hl2 hT76
      simp -implicitDefEqProofs (disch := first | with_reducible assumption | with_reducible exact isc_zs (by assumption) | with_reducible exact isc_zs (by decide) | with_reducible exact isc_zb (by assumption) (by assumption) | with_reducible exact isc_zb (by decide) (by assumption) | with_reducible exact isc_zg (by assumption) (by assumption) | with_reducible exact isc_zl (by assumption) (by assumption) | with_reducible exact isc_0 | with_reducible exact isc_1 | with_reducible exact isc_3 | with_reducible exact isc_7 | with_reducible exact isc_11 | with_reducible exact isc_15 | with_reducible exact isc_19 | with_reducible exact isc_24 | with_reducible exact isc_25 | (simp only [List.map_cons, List.map_nil, List.sum_cons, List.sum_nil, xcat, Nat.reduceAdd, Nat.reduceLeDiff, Nat.zero_le]; done) | omega) only [fX11_fleet, k_p_sq, k_p_blk, k_sq0, k_sq11, k_sq12, k_sq13, k_sq14, k_sq15, k_sqr, k_sqi, k_blk0, k_blk1, k_blk2, k_blk3, k_blk4, k_blk5, k_blkr, k_blki, k_finr, k_fini, k_mapi, k_bindi, k_if1, k_if2, k_ops, k_br, k_rv, k_ri, k_rl, k_rz, k_rzi, k_01d, k_sw, k_01a, k_01b, k_01c, k_ifn, x_cmp, decide_eq_true_eq, Option.map_some, Option.bind_some, Option.toList_some, Option.toList_none, List.cons_append, List.nil_append, Nat.reduceAdd, true_or, or_true, Int.reduceNeg, Int.reduceEq, reduceIte, Nat.zero_le, Nat.reduceLeDiff, Nat.le_refl, Nat.reduceEqDiff, List.getElem?_cons_zero, List.getElem?_cons_succ, xst, List.set_cons_zero, List.set_cons_succ, List.map_cons, List.map_nil, List.sum_cons, List.sum_nil, xcat, Nat.reduceMul, Nat.reduceDiv, Nat.reduceMod, Nat.add_zero, e_nil, e_iconst, e_il, e_al, e_ll, e_istore, e_astore, e_lstore, e_ic, e_iadd, e_isub, e_imul, e_iand, e_ior, e_ixor, e_ishl, e_ishr, e_ineg, e_dupi, e_dupr, e_dupx, e_dup2, e_popi, eo_g0, eo_g1, eo_g2, eo_g3, eo_g4, eo_g5, eo_g6, eo_g7, eo_g8, eo_g9, eo_g10, eo_g11, eo_g12, eo_g13, eo_g14, eo_s14, eo_g15, eo_g16, eo_s16, et_g0, et_g1, et_s1, et_g2, et_s2, et_g3, et_s3, et_g4, et_s4, eu_g0, eu_g1, eu_s1, eu_g2, eu_g3, eu_s3, eu_g4, eh_g0, eh_g1, eh_s1, eh_g2, eh_s2, ed_g0, ed_g1, ed_g2, ed_g3, ed_s3, ew_g0, ew_g1, ew_g2, ew_g3, ew_s3, en_g0, en_g1, en_s1, en_g2, en_g3, en_g4, en_g5, en_s5, ex_g0, ex_s0, eq_g0, eq_s0, eq_g1, eq_s1, eq_g2, eq_s2, eq_g3, eq_s3, eq_g4, eq_s4, eq_g5, eq_s5, eq_g6, eq_s6, eq_g7, eq_s7, ez_g0, ez_g1, ez_g2, ez_g3, ez_s3, ez_g4, ez_s4, ez_g5, ez_s5, ez_g6, ez_s6, ez_g7, ez_s7, ez_g8, ez_s8, ez_g9, ez_s9, ez_g10, ez_s10, ez_g11, ez_s11, ez_g12, ez_s12, ez_g13, ez_s13, ez_g14, ez_g15, ez_b0g, ez_b0s, ez_b1g, ez_b1s, ez_b2g, ez_b2s, ez_b3g, ez_b3s, ez_b4g, ez_b4s, ez_b5g, ez_b5s, ez_ba, ez_g0g, ez_g0s, ez_g1g, ez_g1s, ez_g2g, ez_g2s, ez_g3g, ez_g3s, ez_g4g, ez_g4s, ez_g5g, ez_g5s, ez_g6g, ez_g6s, ez_g7g, ez_g7s, ez_ga, ez_l0g, ez_l0s, ez_l1g, ez_l1s, ez_l2g, ez_l2s, ez_la, q_zs, q_zz, q_z1, q_z2, q_i2, q_ig, q_iz, q_jz, true_and, false_and, or_self, or_true, true_or, or_false, false_or, and_true, and_false, and_self, not_true_eq_false, not_false_eq_true, ec82, f1, ec79, f2, ec112, f3, ec95, f4, Int.reduceEq, Int.reduceLE, Int.reduceLT, d3, d4, hz1, x5, ec18, c_forget]
  · rw [if_neg d] at f4 ⊢
    rw [if_neg (fun y => d y.1)] at f4
    have d3 : -1 - W < 0 := by omega
    have d4 : ¬ 0 ≤ -1 - W := by omega
    clear hx hT hT0 hq h2 e0 n1 v1 hl hne hat y1 y2 y3 x2 x3 x4 x1 hz hT76
    simp -implicitDefEqProofs (disch := first | with_reducible assumption | with_reducible exact isc_zs (by assumption) | with_reducible exact isc_zs (by decide) | with_reducible exact isc_zb (by assumption) (by assumption) | with_reducible exact isc_zb (by decide) (by assumption) | with_reducible exact isc_zg (by assumption) (by assumption) | with_reducible exact isc_zl (by assumption) (by assumption) | with_reducible exact isc_0 | with_reducible exact isc_1 | with_reducible exact isc_3 | with_reducible exact isc_7 | with_reducible exact isc_11 | with_reducible exact isc_15 | with_reducible exact isc_19 | with_reducible exact isc_24 | with_reducible exact isc_25 | (simp only [List.map_cons, List.map_nil, List.sum_cons, List.sum_nil, xcat, Nat.reduceAdd, Nat.reduceLeDiff, Nat.zero_le]; done) | omega) only [fX11_fleet, k_p_sq, k_p_blk, k_sq0, k_sq11, k_sq12, k_sq13, k_sq14, k_sq15, k_sqr, k_sqi, k_blk0, k_blk1, k_blk2, k_blk3, k_blk4, k_blk5, k_blkr, k_blki, k_finr, k_fini, k_mapi, k_bindi, k_if1, k_if2, k_ops, k_br, k_rv, k_ri, k_rl, k_rz, k_rzi, k_01d, k_sw, k_01a, k_01b, k_01c, k_ifn, x_cmp, decide_eq_true_eq, Option.map_some, Option.bind_some, Option.toList_some, Option.toList_none, List.cons_append, List.nil_append, Nat.reduceAdd, true_or, or_true, Int.reduceNeg, Int.reduceEq, reduceIte, Nat.zero_le, Nat.reduceLeDiff, Nat.le_refl, Nat.reduceEqDiff, List.getElem?_cons_zero, List.getElem?_cons_succ, xst, List.set_cons_zero, List.set_cons_succ, List.map_cons, List.map_nil, List.sum_cons, List.sum_nil, xcat, Nat.reduceMul, Nat.reduceDiv, Nat.reduceMod, Nat.add_zero, e_nil, e_iconst, e_il, e_al, e_ll, e_istore, e_astore, e_lstore, e_ic, e_iadd, e_isub, e_imul, e_iand, e_ior, e_ixor, e_ishl, e_ishr, e_ineg, e_dupi, e_dupr, e_dupx, e_dup2, e_popi, eo_g0, eo_g1, eo_g2, eo_g3, eo_g4, eo_g5, eo_g6, eo_g7, eo_g8, eo_g9, eo_g10, eo_g11, eo_g12, eo_g13, eo_g14, eo_s14, eo_g15, eo_g16, eo_s16, et_g0, et_g1, et_s1, et_g2, et_s2, et_g3, et_s3, et_g4, et_s4, eu_g0, eu_g1, eu_s1, eu_g2, eu_g3, eu_s3, eu_g4, eh_g0, eh_g1, eh_s1, eh_g2, eh_s2, ed_g0, ed_g1, ed_g2, ed_g3, ed_s3, ew_g0, ew_g1, ew_g2, ew_g3, ew_s3, en_g0, en_g1, en_s1, en_g2, en_g3, en_g4, en_g5, en_s5, ex_g0, ex_s0, eq_g0, eq_s0, eq_g1, eq_s1, eq_g2, eq_s2, eq_g3, eq_s3, eq_g4, eq_s4, eq_g5, eq_s5, eq_g6, eq_s6, eq_g7, eq_s7, ez_g0, ez_g1, ez_g2, ez_g3, ez_s3, ez_g4, ez_s4, ez_g5, ez_s5, ez_g6, ez_s6, ez_g7, ez_s7, ez_g8, ez_s8, ez_g9, ez_s9, ez_g10, ez_s10, ez_g11, ez_s11, ez_g12, ez_s12, ez_g13, ez_s13, ez_g14, ez_g15, ez_b0g, ez_b0s, ez_b1g, ez_b1s, ez_b2g, ez_b2s, ez_b3g, ez_b3s, ez_b4g, ez_b4s, ez_b5g, ez_b5s, ez_ba, ez_g0g, ez_g0s, ez_g1g, ez_g1s, ez_g2g, ez_g2s, ez_g3g, ez_g3s, ez_g4g, ez_g4s, ez_g5g, ez_g5s, ez_g6g, ez_g6s, ez_g7g, ez_g7s, ez_ga, ez_l0g, ez_l0s, ez_l1g, ez_l1s, ez_l2g, ez_l2s, ez_la, q_zs, q_zz, q_z1, q_z2, q_i2, q_ig, q_iz, q_jz, true_and, false_and, or_self, or_true, true_or, or_false, false_or, and_true, and_false, and_self, not_true_eq_false, not_false_eq_true, ec82, f1, ec79, f2, ec112, f3, ec95, f4, Int.reduceEq, d3, d4]
end PF
