/-! ===== rule: alike, whole ===== -/
theorem tNumL_b {r : xR} : ∀ (m : Nat) (v a w : Int), wB a w → wB (tNumL r m v a w).2.1 (tNumL r m v a w).2.2
  | 0, v, a, w, h => h
  | m + 1, v, a, w, h => by
    unfold tNumL
    split
    · exact tNumL_b m _ _ _ (tDigit_b h)
    · exact h
theorem vR_b {r : xR} : ∀ (f tag : Nat) (dp v a w : Int), wB a w → wB (vR r f tag dp v a w).2.1 (vR r f tag dp v a w).2.2
  | 0, tag, dp, v, a, w, h => by unfold vR; exact h
  | f + 1, 0, dp, v, a, w, h => by
    have h1 : wB (a + 1) w := ⟨by have := h.1; omega, h.2.1, by have := h.2.2; omega⟩
    unfold vR
    split
    · split
      · exact vR_b f 0 dp 0 (a + 1) w h1
      · split
        · exact tNeed_b (vR_b f 5 (dp + 1) 0 (a + 1) w h1)
        · split
          · exact tNumL_b _ _ _ _ (tDigit_b h)
          · split
            · exact ⟨h.1, by have := h.1; show -1 ≤ a; omega, Int.le_refl _⟩
            · exact h1
    · exact h
  | f + 1, 1, dp, v, a, w, h => by
    unfold vR
    exact vR_b f 2 dp _ _ _ (vR_b f 0 dp 0 a w h)
  | f + 1, 2, dp, v, a, w, h => by
    have h1 : wB (a + 1) w := ⟨by have := h.1; omega, h.2.1, by have := h.2.2; omega⟩
    unfold vR
    split
    · exact vR_b f 2 dp _ _ _ (vR_b f 0 dp 0 (a + 1) w h1)
    · exact h
  | f + 1, 3, dp, v, a, w, h => by
    unfold vR
    exact vR_b f 4 dp _ _ _ (vR_b f 1 dp 0 a w h)
  | f + 1, 4, dp, v, a, w, h => by
    have h1 : wB (a + 1) w := ⟨by have := h.1; omega, h.2.1, by have := h.2.2; omega⟩
    unfold vR
    split
    · exact vR_b f 4 dp _ _ _ (vR_b f 1 dp 0 (a + 1) w h1)
    · exact h
  | f + 1, tag + 5, dp, v, a, w, h => by
    have h0 := vR_b (r := r) f 3 dp 0 a w h
    have h1 : wB ((vR r f 3 dp 0 a w).2.1 + 1) (vR r f 3 dp 0 a w).2.2 := ⟨by have := h0.1; omega, h0.2.1, by have := h0.2.2; omega⟩
    have h2 := vR_b (r := r) f 3 dp 0 _ _ h1
    unfold vR
    dsimp only
    split
    · exact h2
    · split
      · exact h2
      · split
        · exact h2
        · exact h0
section SB
variable {n : Nat} {h : xH} {c : xQ} {r : xR} {H : xH} {T : Nat}
theorem k_cpyR {L S : List xV} {X : xQ} {K : Nat} (hK : K ≤ 40) (hc : (S.map xcat).sum ≤ 8) : p_cpy (L, .inl (K : Int) :: .inl 0 :: .inr (.inr (.inl (0, 4))) :: .inl 0 :: .inr (.inr (.inl (0, 5))) :: S, hC h X) = some (.inl 0, (L, S, hC h (q_j X 4 (x_cpf (X.2.1 5) (X.2.1 4) 0 0 K)))) := by
  unfold p_cpy
  dsimp only
  have e5 : xcell (hC h X) 0 5 = some (.inr (.inl (0, 40, X.2.1 5))) := rfl
  have e4 : xcell (hC h X) 0 4 = some (.inr (.inl (0, 40, X.2.1 4))) := rfl
  rw [e5, e4]
  dsimp only
  rw [if_pos ⟨⟨rfl, rfl⟩, ⟨by decide, by decide, by omega⟩, ⟨by omega, by omega⟩, hc⟩, Int.toNat_natCast]
  rfl
/-- the class's rule read from a text of T signs -/
theorem c_readR {q : xQ} (hq : q = q_i c 3 ((min T 40 : Nat) : Int)) (hx : TX r q T 40) (hd : rDg r) (hl : ∀ a, (40 : Int) ≤ a → rHere r a = -1) (hT : c.1 2 = (T : Int)) : ∃ (a1 w1 : Int) (k : Nat) (D : Nat → Int) (P W : Int), P = (if T = 0 then 0 else (vR r 814 5 0 0 0 (-1)).2.1) ∧ W = (if T = 0 then -1 else (vR r 814 5 0 0 0 (-1)).2.2) ∧ k ≤ 40 ∧
    (gg (n + 33) 27).2 [.inr (.inr (.inl (0, 3))), .inr (.inr (.inl (0, 1)))] (hC h c) = (if W = -1 ∧ ¬ P < T then some (some (.inl 0), hC h (q_i (q_j (q_i (cRd (qP q (k : Int) D) a1 w1) 2 0) 4 (x_cpf D (c.2.1 4) 0 0 k)) 6 (k : Int))) else some (some (.inl (if W = -1 then -1 - P else -1 - W)), hC h (q_i (cRd (qP q (k : Int) D) a1 w1) 2 0))) ∧ (T = 0 → k = 0) ∧ (T ≠ 0 → W = -1 → (cR r 814 5 0 0 (-1)).1.length ≤ 40 → dOk D k (cR r 814 5 0 0 (-1)).1) ∧ wB P W ∧ P ≤ 40 := by
  have f1 := c_open (n := n + 30) (h := h) (c := q_i c 7 0) (T := T) 40 hT
  have e1 : q_i (q_i c 7 0) 3 ((min T 40 : Nat) : Int) = qP q 0 (c.2.1 5) := by
    rw [q_ic _ (by decide : (7 : Nat) ≠ 3), ← hq]
    have : q_j q 5 (q.2.1 5) = q := q_j0
    unfold qP
    subst hq
    exact congrArg (fun z => q_i z 7 0) this.symm
  rw [e1, show ((40 : Nat) : Int) = 40 from rfl] at f1
  have hq4 : ∀ k D a b, (cRd (qP q k D) a b).2.1 4 = c.2.1 4 := by
    intro k D a b
    subst hq
    rfl
  have h2 : ∀ (k : Int) D a b, (cRd (qP q k D) a b).1 2 = (T : Int) := fun k D a b => hx.2.2.2.2.2.1
  have hq2 : ∀ k D, (qP q k D).1 2 = (T : Int) := fun k D => hx.2.2.2.2.2.1
  have f2 := c_empty (n := n + 31) (h := h) (c := cRd (qP q 0 (c.2.1 5)) 0 (-1))
  rw [h2] at f2
  have hT80 := hx.1
  rw [gr27]
  have g7 : ∀ k D a b, (q_i (cRd (qP q k D) a b) 2 0).1 7 = k := fun _ _ _ _ => rfl
  have g5 : ∀ k D a b, (q_i (cRd (qP q k D) a b) 2 0).2.1 5 = D := fun _ _ _ _ => rfl
  have g4 : ∀ k D a b, (q_i (cRd (qP q k D) a b) 2 0).2.1 4 = c.2.1 4 := fun k D a b => hq4 k D a b
  have g7' : ∀ k D a b F, (q_j (q_i (cRd (qP q k D) a b) 2 0) 4 F).1 7 = k := fun _ _ _ _ _ => rfl
  by_cases d0 : T = 0
  · subst d0
    rw [show ((0 : Nat) : Int) = 0 from rfl, if_pos rfl] at f2
    have f4 := c_close (n := n + 29) (h := h) (c := qP q 0 (c.2.1 5)) (a := 0) (w := -1) (L := ((0 : Nat) : Int)) (hq2 _ _) (by decide) (by decide) (by decide) (by decide)
    rw [if_pos rfl, if_neg (by decide), if_neg (by decide)] at f4
    refine ⟨0, -1, 0, c.2.1 5, 0, -1, rfl, rfl, by decide, ?_, fun _ => rfl, fun z => absurd rfl z, ⟨by decide, by decide, by decide⟩, by decide⟩
    rw [if_pos ⟨rfl, by decide⟩]
    have kc := k_cpyR (h := h) (L := [.inr (.inr (.inl (0, 3))), .inr (.inr (.inl (0, 1))), .inl 0]) (S := []) (X := q_i (cRd (qP q 0 (c.2.1 5)) 0 (-1)) 2 0) (K := 0) (by decide) (Nat.zero_le _)
    rw [g5, g4, show ((0 : Nat) : Int) = 0 from rfl] at kc
    rw [show ((0 : Nat) : Int) = 0 from rfl]
    have gY : (cRd (qP q 0 (c.2.1 5)) 0 (-1)).1 7 = 0 := rfl
    clear hx hd hl hT e1 h2 hq2 g7 g5 g4 hq4 g7' hq
    generalize cRd (qP q 0 (c.2.1 5)) 0 (-1) = Y at *
    generalize x_cpf (c.2.1 5) (c.2.1 4) 0 0 0 = Z at *
    simp -implicitDefEqProofs (disch := first | with_reducible assumption | with_reducible exact isc_zs (by assumption) | with_reducible exact isc_zs (by decide) | with_reducible exact isc_zb (by assumption) (by assumption) | with_reducible exact isc_zb (by decide) (by assumption) | with_reducible exact isc_zg (by assumption) (by assumption) | with_reducible exact isc_zl (by assumption) (by assumption) | with_reducible exact isc_0 | with_reducible exact isc_1 | with_reducible exact isc_3 | with_reducible exact isc_7 | with_reducible exact isc_11 | with_reducible exact isc_15 | with_reducible exact isc_19 | with_reducible exact isc_24 | with_reducible exact isc_25 | (simp only [List.map_cons, List.map_nil, List.sum_cons, List.sum_nil, xcat, Nat.reduceAdd, Nat.reduceLeDiff, Nat.zero_le]; done) | omega) only [fX6_read, k_p_sq, k_p_blk, k_sq0, k_sq11, k_sq12, k_sq13, k_sq14, k_sq15, k_sqr, k_sqi, k_blk0, k_blk1, k_blk2, k_blk3, k_blk4, k_blk5, k_blkr, k_blki, k_finr, k_fini, k_mapi, k_bindi, k_if1, k_if2, k_ops, k_br, k_rv, k_ri, k_rl, k_rz, k_rzi, k_01d, k_sw, k_01a, k_01b, k_01c, k_ifn, x_cmp, decide_eq_true_eq, Option.map_some, Option.bind_some, Option.toList_some, Option.toList_none, List.cons_append, List.nil_append, Nat.reduceAdd, true_or, or_true, Int.reduceNeg, Int.reduceEq, reduceIte, Nat.zero_le, Nat.reduceLeDiff, Nat.le_refl, Nat.reduceEqDiff, List.getElem?_cons_zero, List.getElem?_cons_succ, xst, List.set_cons_zero, List.set_cons_succ, List.map_cons, List.map_nil, List.sum_cons, List.sum_nil, xcat, Nat.reduceMul, Nat.reduceDiv, Nat.reduceMod, Nat.add_zero, e_nil, e_iconst, e_il, e_al, e_ll, e_istore, e_astore, e_lstore, e_ic, e_iadd, e_isub, e_imul, e_iand, e_ior, e_ixor, e_ishl, e_ishr, e_ineg, e_dupi, e_dupr, e_dupx, e_dup2, e_popi, eo_g0, eo_g1, eo_g2, eo_g3, eo_g4, eo_g5, eo_g6, eo_g7, eo_g8, eo_g9, eo_g10, eo_g11, eo_g12, eo_g13, eo_g14, eo_s14, eo_g15, eo_g16, eo_s16, et_g0, et_g1, et_s1, et_g2, et_s2, et_g3, et_s3, et_g4, et_s4, eu_g0, eu_g1, eu_s1, eu_g2, eu_g3, eu_s3, eu_g4, eh_g0, eh_g1, eh_s1, eh_g2, eh_s2, ed_g0, ed_g1, ed_g2, ed_g3, ed_s3, ew_g0, ew_g1, ew_g2, ew_g3, ew_s3, en_g0, en_g1, en_s1, en_g2, en_g3, en_g4, en_g5, en_s5, ex_g0, ex_s0, eq_g0, eq_s0, eq_g1, eq_s1, eq_g2, eq_s2, eq_g3, eq_s3, eq_g4, eq_s4, eq_g5, eq_s5, eq_g6, eq_s6, eq_g7, eq_s7, ez_g0, ez_g1, ez_g2, ez_g3, ez_s3, ez_g4, ez_s4, ez_g5, ez_s5, ez_g6, ez_s6, ez_g7, ez_s7, ez_g8, ez_s8, ez_g9, ez_s9, ez_g10, ez_s10, ez_g11, ez_s11, ez_g12, ez_s12, ez_g13, ez_s13, ez_g14, ez_g15, ez_b0g, ez_b0s, ez_b1g, ez_b1s, ez_b2g, ez_b2s, ez_b3g, ez_b3s, ez_b4g, ez_b4s, ez_b5g, ez_b5s, ez_ba, ez_g0g, ez_g0s, ez_g1g, ez_g1s, ez_g2g, ez_g2s, ez_g3g, ez_g3s, ez_g4g, ez_g4s, ez_g5g, ez_g5s, ez_g6g, ez_g6s, ez_g7g, ez_g7s, ez_ga, ez_l0g, ez_l0s, ez_l1g, ez_l1s, ez_l2g, ez_l2s, ez_la, q_zs, q_zz, q_z1, q_z2, q_i2, q_ig, q_iz, q_jz, true_and, false_and, or_self, or_true, true_or, or_false, false_or, and_true, and_false, and_self, not_true_eq_false, not_false_eq_true, ec82, f1, ec79, f2, ec95, f4, gY, kc, q_j1, Int.reduceEq]
  · rw [if_neg (by omega)] at f2
    obtain ⟨a1, k1, D1, j1, j2, j3, j4, j5⟩ := (c_allR (h := h) hx hd hl 814).2.2.2 (n + 2) 4 0 0 (c.2.1 5) (by decide) (by decide) (by decide) (by decide) (fun z => by cases z) (fun z => by cases z) (fun z => by cases z) (fun _ => by decide)
    rw [show (4 : Int) - ((4 : Nat) : Int) = 0 from rfl] at j1 j2 j5
    rw [show ((0 : Nat) : Int) = 0 from rfl] at j1
    have hvt := vR_top hl 814 5 0 0 0 (-1) (by decide) (by decide)
    have hvb := vR_b (r := r) 814 5 0 0 0 (-1) ⟨by decide, by decide, by decide⟩
    have j6 := fun w hlen => j5 w [] ⟨rfl, fun i hi => absurd hi (by show ¬ i < 0; omega)⟩ hlen
    refine ⟨a1, (if (vR r 814 5 0 0 0 (-1)).2.2 = -1 ∧ a1 < (T : Int) then a1 else (vR r 814 5 0 0 0 (-1)).2.2), k1, D1, _, _, (if_neg d0).symm, (if_neg d0).symm, j4, ?_, fun z => absurd z d0, fun _ w hlen => ?_, hvb, hvt.2⟩
    · generalize (vR r 814 5 0 0 0 (-1)).2 = V at *
      obtain ⟨P, W⟩ := V
      dsimp only at *
      obtain ⟨y1, y2, y3⟩ := hvb
      obtain ⟨x1, x2, x3, x4⟩ := j2
      have f4 := c_close (n := n + 29) (h := h) (c := qP q (k1 : Int) D1) (a := a1) (w := W) (L := (T : Int)) (hq2 _ _) x3 (by omega) y2 (by omega)
      have kc := k_cpyR (h := h) (L := [.inr (.inr (.inl (0, 3))), .inr (.inr (.inl (0, 1))), .inl 0]) (S := []) (X := q_i (cRd (qP q (k1 : Int) D1) a1 (if W = -1 ∧ a1 < (T : Int) then a1 else W)) 2 0) (K := k1) j4 (Nat.zero_le _)
      rw [g5, g4] at kc
      by_cases d : W = -1
      · have ea := x2 d
        subst d
        subst ea
        by_cases d2 : a1 < (T : Int)
        · rw [if_neg (fun z => z.2 d2)]
          simp only [if_true, if_pos d2, true_and] at f4 ⊢
          have d3 : ¬ -1 - a1 = 0 := by omega
          clear hx hd hl hT e1 h2 hq2 g7 g5 g4 hq4 g7' hq kc j5 j6 hvt x1 x2 x3 x4 y1 y2 y3 hT80 d0
          simp -implicitDefEqProofs (disch := first | with_reducible assumption | with_reducible exact isc_zs (by assumption) | with_reducible exact isc_zs (by decide) | with_reducible exact isc_zb (by assumption) (by assumption) | with_reducible exact isc_zb (by decide) (by assumption) | with_reducible exact isc_zg (by assumption) (by assumption) | with_reducible exact isc_zl (by assumption) (by assumption) | with_reducible exact isc_0 | with_reducible exact isc_1 | with_reducible exact isc_3 | with_reducible exact isc_7 | with_reducible exact isc_11 | with_reducible exact isc_15 | with_reducible exact isc_19 | with_reducible exact isc_24 | with_reducible exact isc_25 | (simp only [List.map_cons, List.map_nil, List.sum_cons, List.sum_nil, xcat, Nat.reduceAdd, Nat.reduceLeDiff, Nat.zero_le]; done) | omega) only [fX6_read, k_p_sq, k_p_blk, k_sq0, k_sq11, k_sq12, k_sq13, k_sq14, k_sq15, k_sqr, k_sqi, k_blk0, k_blk1, k_blk2, k_blk3, k_blk4, k_blk5, k_blkr, k_blki, k_finr, k_fini, k_mapi, k_bindi, k_if1, k_if2, k_ops, k_br, k_rv, k_ri, k_rl, k_rz, k_rzi, k_01d, k_sw, k_01a, k_01b, k_01c, k_ifn, x_cmp, decide_eq_true_eq, Option.map_some, Option.bind_some, Option.toList_some, Option.toList_none, List.cons_append, List.nil_append, Nat.reduceAdd, true_or, or_true, Int.reduceNeg, Int.reduceEq, reduceIte, Nat.zero_le, Nat.reduceLeDiff, Nat.le_refl, Nat.reduceEqDiff, List.getElem?_cons_zero, List.getElem?_cons_succ, xst, List.set_cons_zero, List.set_cons_succ, List.map_cons, List.map_nil, List.sum_cons, List.sum_nil, xcat, Nat.reduceMul, Nat.reduceDiv, Nat.reduceMod, Nat.add_zero, e_nil, e_iconst, e_il, e_al, e_ll, e_istore, e_astore, e_lstore, e_ic, e_iadd, e_isub, e_imul, e_iand, e_ior, e_ixor, e_ishl, e_ishr, e_ineg, e_dupi, e_dupr, e_dupx, e_dup2, e_popi, eo_g0, eo_g1, eo_g2, eo_g3, eo_g4, eo_g5, eo_g6, eo_g7, eo_g8, eo_g9, eo_g10, eo_g11, eo_g12, eo_g13, eo_g14, eo_s14, eo_g15, eo_g16, eo_s16, et_g0, et_g1, et_s1, et_g2, et_s2, et_g3, et_s3, et_g4, et_s4, eu_g0, eu_g1, eu_s1, eu_g2, eu_g3, eu_s3, eu_g4, eh_g0, eh_g1, eh_s1, eh_g2, eh_s2, ed_g0, ed_g1, ed_g2, ed_g3, ed_s3, ew_g0, ew_g1, ew_g2, ew_g3, ew_s3, en_g0, en_g1, en_s1, en_g2, en_g3, en_g4, en_g5, en_s5, ex_g0, ex_s0, eq_g0, eq_s0, eq_g1, eq_s1, eq_g2, eq_s2, eq_g3, eq_s3, eq_g4, eq_s4, eq_g5, eq_s5, eq_g6, eq_s6, eq_g7, eq_s7, ez_g0, ez_g1, ez_g2, ez_g3, ez_s3, ez_g4, ez_s4, ez_g5, ez_s5, ez_g6, ez_s6, ez_g7, ez_s7, ez_g8, ez_s8, ez_g9, ez_s9, ez_g10, ez_s10, ez_g11, ez_s11, ez_g12, ez_s12, ez_g13, ez_s13, ez_g14, ez_g15, ez_b0g, ez_b0s, ez_b1g, ez_b1s, ez_b2g, ez_b2s, ez_b3g, ez_b3s, ez_b4g, ez_b4s, ez_b5g, ez_b5s, ez_ba, ez_g0g, ez_g0s, ez_g1g, ez_g1s, ez_g2g, ez_g2s, ez_g3g, ez_g3s, ez_g4g, ez_g4s, ez_g5g, ez_g5s, ez_g6g, ez_g6s, ez_g7g, ez_g7s, ez_ga, ez_l0g, ez_l0s, ez_l1g, ez_l1s, ez_l2g, ez_l2s, ez_la, q_zs, q_zz, q_z1, q_z2, q_i2, q_ig, q_iz, q_jz, true_and, false_and, or_self, or_true, true_or, or_false, false_or, and_true, and_false, and_self, not_true_eq_false, not_false_eq_true, ec82, f1, ec79, f2, ec28, j1, ec95, f4, d3, Int.reduceEq]
        · rw [if_pos ⟨rfl, d2⟩]
          simp only [if_true, if_neg d2, true_and] at f4 kc ⊢
          clear hx hd hl hT e1 h2 hq2 g7 g5 g4 hq4 g7' hq j5 j6 hvt x1 x2 x3 x4 y1 y2 y3 hT80 d0
          generalize x_cpf D1 (c.2.1 4) 0 0 k1 = Z at *
          simp -implicitDefEqProofs (disch := first | with_reducible assumption | with_reducible exact isc_zs (by assumption) | with_reducible exact isc_zs (by decide) | with_reducible exact isc_zb (by assumption) (by assumption) | with_reducible exact isc_zb (by decide) (by assumption) | with_reducible exact isc_zg (by assumption) (by assumption) | with_reducible exact isc_zl (by assumption) (by assumption) | with_reducible exact isc_0 | with_reducible exact isc_1 | with_reducible exact isc_3 | with_reducible exact isc_7 | with_reducible exact isc_11 | with_reducible exact isc_15 | with_reducible exact isc_19 | with_reducible exact isc_24 | with_reducible exact isc_25 | (simp only [List.map_cons, List.map_nil, List.sum_cons, List.sum_nil, xcat, Nat.reduceAdd, Nat.reduceLeDiff, Nat.zero_le]; done) | omega) only [fX6_read, k_p_sq, k_p_blk, k_sq0, k_sq11, k_sq12, k_sq13, k_sq14, k_sq15, k_sqr, k_sqi, k_blk0, k_blk1, k_blk2, k_blk3, k_blk4, k_blk5, k_blkr, k_blki, k_finr, k_fini, k_mapi, k_bindi, k_if1, k_if2, k_ops, k_br, k_rv, k_ri, k_rl, k_rz, k_rzi, k_01d, k_sw, k_01a, k_01b, k_01c, k_ifn, x_cmp, decide_eq_true_eq, Option.map_some, Option.bind_some, Option.toList_some, Option.toList_none, List.cons_append, List.nil_append, Nat.reduceAdd, true_or, or_true, Int.reduceNeg, Int.reduceEq, reduceIte, Nat.zero_le, Nat.reduceLeDiff, Nat.le_refl, Nat.reduceEqDiff, List.getElem?_cons_zero, List.getElem?_cons_succ, xst, List.set_cons_zero, List.set_cons_succ, List.map_cons, List.map_nil, List.sum_cons, List.sum_nil, xcat, Nat.reduceMul, Nat.reduceDiv, Nat.reduceMod, Nat.add_zero, e_nil, e_iconst, e_il, e_al, e_ll, e_istore, e_astore, e_lstore, e_ic, e_iadd, e_isub, e_imul, e_iand, e_ior, e_ixor, e_ishl, e_ishr, e_ineg, e_dupi, e_dupr, e_dupx, e_dup2, e_popi, eo_g0, eo_g1, eo_g2, eo_g3, eo_g4, eo_g5, eo_g6, eo_g7, eo_g8, eo_g9, eo_g10, eo_g11, eo_g12, eo_g13, eo_g14, eo_s14, eo_g15, eo_g16, eo_s16, et_g0, et_g1, et_s1, et_g2, et_s2, et_g3, et_s3, et_g4, et_s4, eu_g0, eu_g1, eu_s1, eu_g2, eu_g3, eu_s3, eu_g4, eh_g0, eh_g1, eh_s1, eh_g2, eh_s2, ed_g0, ed_g1, ed_g2, ed_g3, ed_s3, ew_g0, ew_g1, ew_g2, ew_g3, ew_s3, en_g0, en_g1, en_s1, en_g2, en_g3, en_g4, en_g5, en_s5, ex_g0, ex_s0, eq_g0, eq_s0, eq_g1, eq_s1, eq_g2, eq_s2, eq_g3, eq_s3, eq_g4, eq_s4, eq_g5, eq_s5, eq_g6, eq_s6, eq_g7, eq_s7, ez_g0, ez_g1, ez_g2, ez_g3, ez_s3, ez_g4, ez_s4, ez_g5, ez_s5, ez_g6, ez_s6, ez_g7, ez_s7, ez_g8, ez_s8, ez_g9, ez_s9, ez_g10, ez_s10, ez_g11, ez_s11, ez_g12, ez_s12, ez_g13, ez_s13, ez_g14, ez_g15, ez_b0g, ez_b0s, ez_b1g, ez_b1s, ez_b2g, ez_b2s, ez_b3g, ez_b3s, ez_b4g, ez_b4s, ez_b5g, ez_b5s, ez_ba, ez_g0g, ez_g0s, ez_g1g, ez_g1s, ez_g2g, ez_g2s, ez_g3g, ez_g3s, ez_g4g, ez_g4s, ez_g5g, ez_g5s, ez_g6g, ez_g6s, ez_g7g, ez_g7s, ez_ga, ez_l0g, ez_l0s, ez_l1g, ez_l1s, ez_l2g, ez_l2s, ez_la, q_zs, q_zz, q_z1, q_z2, q_i2, q_ig, q_iz, q_jz, true_and, false_and, or_self, or_true, true_or, or_false, false_or, and_true, and_false, and_self, not_true_eq_false, not_false_eq_true, ec82, f1, ec79, f2, ec28, j1, ec95, f4, qP_7, kc, q_j1, Int.reduceEq]
      · rw [if_neg (fun z => d z.1)]
        simp only [if_neg d] at f4 ⊢
        have d3 : ¬ -1 - W = 0 := by omega
        clear hx hd hl hT e1 h2 hq2 g7 g5 g4 hq4 g7' hq kc j5 j6 hvt x1 x2 x3 x4 y1 y2 y3 hT80 d0
        simp -implicitDefEqProofs (disch := first | with_reducible assumption | with_reducible exact isc_zs (by assumption) | with_reducible exact isc_zs (by decide) | with_reducible exact isc_zb (by assumption) (by assumption) | with_reducible exact isc_zb (by decide) (by assumption) | with_reducible exact isc_zg (by assumption) (by assumption) | with_reducible exact isc_zl (by assumption) (by assumption) | with_reducible exact isc_0 | with_reducible exact isc_1 | with_reducible exact isc_3 | with_reducible exact isc_7 | with_reducible exact isc_11 | with_reducible exact isc_15 | with_reducible exact isc_19 | with_reducible exact isc_24 | with_reducible exact isc_25 | (simp only [List.map_cons, List.map_nil, List.sum_cons, List.sum_nil, xcat, Nat.reduceAdd, Nat.reduceLeDiff, Nat.zero_le]; done) | omega) only [fX6_read, k_p_sq, k_p_blk, k_sq0, k_sq11, k_sq12, k_sq13, k_sq14, k_sq15, k_sqr, k_sqi, k_blk0, k_blk1, k_blk2, k_blk3, k_blk4, k_blk5, k_blkr, k_blki, k_finr, k_fini, k_mapi, k_bindi, k_if1, k_if2, k_ops, k_br, k_rv, k_ri, k_rl, k_rz, k_rzi, k_01d, k_sw, k_01a, k_01b, k_01c, k_ifn, x_cmp, decide_eq_true_eq, Option.map_some, Option.bind_some, Option.toList_some, Option.toList_none, List.cons_append, List.nil_append, Nat.reduceAdd, true_or, or_true, Int.reduceNeg, Int.reduceEq, reduceIte, Nat.zero_le, Nat.reduceLeDiff, Nat.le_refl, Nat.reduceEqDiff, List.getElem?_cons_zero, List.getElem?_cons_succ, xst, List.set_cons_zero, List.set_cons_succ, List.map_cons, List.map_nil, List.sum_cons, List.sum_nil, xcat, Nat.reduceMul, Nat.reduceDiv, Nat.reduceMod, Nat.add_zero, e_nil, e_iconst, e_il, e_al, e_ll, e_istore, e_astore, e_lstore, e_ic, e_iadd, e_isub, e_imul, e_iand, e_ior, e_ixor, e_ishl, e_ishr, e_ineg, e_dupi, e_dupr, e_dupx, e_dup2, e_popi, eo_g0, eo_g1, eo_g2, eo_g3, eo_g4, eo_g5, eo_g6, eo_g7, eo_g8, eo_g9, eo_g10, eo_g11, eo_g12, eo_g13, eo_g14, eo_s14, eo_g15, eo_g16, eo_s16, et_g0, et_g1, et_s1, et_g2, et_s2, et_g3, et_s3, et_g4, et_s4, eu_g0, eu_g1, eu_s1, eu_g2, eu_g3, eu_s3, eu_g4, eh_g0, eh_g1, eh_s1, eh_g2, eh_s2, ed_g0, ed_g1, ed_g2, ed_g3, ed_s3, ew_g0, ew_g1, ew_g2, ew_g3, ew_s3, en_g0, en_g1, en_s1, en_g2, en_g3, en_g4, en_g5, en_s5, ex_g0, ex_s0, eq_g0, eq_s0, eq_g1, eq_s1, eq_g2, eq_s2, eq_g3, eq_s3, eq_g4, eq_s4, eq_g5, eq_s5, eq_g6, eq_s6, eq_g7, eq_s7, ez_g0, ez_g1, ez_g2, ez_g3, ez_s3, ez_g4, ez_s4, ez_g5, ez_s5, ez_g6, ez_s6, ez_g7, ez_s7, ez_g8, ez_s8, ez_g9, ez_s9, ez_g10, ez_s10, ez_g11, ez_s11, ez_g12, ez_s12, ez_g13, ez_s13, ez_g14, ez_g15, ez_b0g, ez_b0s, ez_b1g, ez_b1s, ez_b2g, ez_b2s, ez_b3g, ez_b3s, ez_b4g, ez_b4s, ez_b5g, ez_b5s, ez_ba, ez_g0g, ez_g0s, ez_g1g, ez_g1s, ez_g2g, ez_g2s, ez_g3g, ez_g3s, ez_g4g, ez_g4s, ez_g5g, ez_g5s, ez_g6g, ez_g6s, ez_g7g, ez_g7s, ez_ga, ez_l0g, ez_l0s, ez_l1g, ez_l1s, ez_l2g, ez_l2s, ez_la, q_zs, q_zz, q_z1, q_z2, q_i2, q_ig, q_iz, q_jz, true_and, false_and, or_self, or_true, true_or, or_false, false_or, and_true, and_false, and_self, not_true_eq_false, not_false_eq_true, ec82, f1, ec79, f2, ec28, j1, ec95, f4, d3, Int.reduceEq]
    · have := j6 w (by show 0 + _ ≤ 40; omega)
      rwa [List.nil_append] at this
theorem P_rule : Par 198 106 [] := by
  intro n h h' r c hr
  obtain ⟨T, t1, t2, t3, t4⟩ := hr.2.2.2.2.1
  have fR := r_rule (n := n + 79) (h := h) (r := r) t2 t1
  have hx : TX (rRuX r T) (q_i c 3 ((min T 40 : Nat) : Int)) T 40 := ⟨t1, by decide, rfl, rfl, rfl, t3, rfl, t4⟩
  have hl : ∀ a, (40 : Int) ≤ a → rHere (rRuX r T) a = -1 := by
    intro a ha
    unfold rHere
    rw [if_neg]
    intro z
    have z2 : a < 40 := z.2
    omega
  have hd : rDg (rRuX r T) := fun a ha d1 d2 => TX_src hx ha (by omega) (by omega)
  obtain ⟨a1, w1, k, D, P, W, eP, eW, hk, fC, k0, kD, ⟨y1, y2, y3⟩, hP⟩ := c_readR (n := n + 866) (h := h') (c := c) (r := rRuX r T) rfl hx hd hl t3
  have fC2 : ∀ (v : Int) (c' : xQ), (gg (n + 899) 27).2 [.inr (.inr (.inl (0, 3))), .inr (.inr (.inl (0, 1)))] (hC h' c) = some (some (.inl v), hC h' c') → (gg (n + 900) 106).2 [.inr (.inr (.inl (0, 0)))] (hC h' c) = some (some (.inl v), hC h' c') := by
    intro v c' f
    rw [gr106]
    clear fC kD k0 hr hx hd hl t4 fR
    simp -implicitDefEqProofs (disch := first | with_reducible assumption | with_reducible exact isc_zs (by assumption) | with_reducible exact isc_zs (by decide) | with_reducible exact isc_zb (by assumption) (by assumption) | with_reducible exact isc_zb (by decide) (by assumption) | with_reducible exact isc_zg (by assumption) (by assumption) | with_reducible exact isc_zl (by assumption) (by assumption) | with_reducible exact isc_0 | with_reducible exact isc_1 | with_reducible exact isc_3 | with_reducible exact isc_7 | with_reducible exact isc_11 | with_reducible exact isc_15 | with_reducible exact isc_19 | with_reducible exact isc_24 | with_reducible exact isc_25 | (simp only [List.map_cons, List.map_nil, List.sum_cons, List.sum_nil, xcat, Nat.reduceAdd, Nat.reduceLeDiff, Nat.zero_le]; done) | omega) only [fX11_rule, k_p_sq, k_p_blk, k_sq0, k_sq11, k_sq12, k_sq13, k_sq14, k_sq15, k_sqr, k_sqi, k_blk0, k_blk1, k_blk2, k_blk3, k_blk4, k_blk5, k_blkr, k_blki, k_finr, k_fini, k_mapi, k_bindi, k_if1, k_if2, k_ops, k_br, k_rv, k_ri, k_rl, k_rz, k_rzi, k_01d, k_sw, k_01a, k_01b, k_01c, k_ifn, x_cmp, decide_eq_true_eq, Option.map_some, Option.bind_some, Option.toList_some, Option.toList_none, List.cons_append, List.nil_append, Nat.reduceAdd, true_or, or_true, Int.reduceNeg, Int.reduceEq, reduceIte, Nat.zero_le, Nat.reduceLeDiff, Nat.le_refl, Nat.reduceEqDiff, List.getElem?_cons_zero, List.getElem?_cons_succ, xst, List.set_cons_zero, List.set_cons_succ, List.map_cons, List.map_nil, List.sum_cons, List.sum_nil, xcat, Nat.reduceMul, Nat.reduceDiv, Nat.reduceMod, Nat.add_zero, e_nil, e_iconst, e_il, e_al, e_ll, e_istore, e_astore, e_lstore, e_ic, e_iadd, e_isub, e_imul, e_iand, e_ior, e_ixor, e_ishl, e_ishr, e_ineg, e_dupi, e_dupr, e_dupx, e_dup2, e_popi, eo_g0, eo_g1, eo_g2, eo_g3, eo_g4, eo_g5, eo_g6, eo_g7, eo_g8, eo_g9, eo_g10, eo_g11, eo_g12, eo_g13, eo_g14, eo_s14, eo_g15, eo_g16, eo_s16, et_g0, et_g1, et_s1, et_g2, et_s2, et_g3, et_s3, et_g4, et_s4, eu_g0, eu_g1, eu_s1, eu_g2, eu_g3, eu_s3, eu_g4, eh_g0, eh_g1, eh_s1, eh_g2, eh_s2, ed_g0, ed_g1, ed_g2, ed_g3, ed_s3, ew_g0, ew_g1, ew_g2, ew_g3, ew_s3, en_g0, en_g1, en_s1, en_g2, en_g3, en_g4, en_g5, en_s5, ex_g0, ex_s0, eq_g0, eq_s0, eq_g1, eq_s1, eq_g2, eq_s2, eq_g3, eq_s3, eq_g4, eq_s4, eq_g5, eq_s5, eq_g6, eq_s6, eq_g7, eq_s7, ez_g0, ez_g1, ez_g2, ez_g3, ez_s3, ez_g4, ez_s4, ez_g5, ez_s5, ez_g6, ez_s6, ez_g7, ez_s7, ez_g8, ez_s8, ez_g9, ez_s9, ez_g10, ez_s10, ez_g11, ez_s11, ez_g12, ez_s12, ez_g13, ez_s13, ez_g14, ez_g15, ez_b0g, ez_b0s, ez_b1g, ez_b1s, ez_b2g, ez_b2s, ez_b3g, ez_b3s, ez_b4g, ez_b4s, ez_b5g, ez_b5s, ez_ba, ez_g0g, ez_g0s, ez_g1g, ez_g1s, ez_g2g, ez_g2s, ez_g3g, ez_g3s, ez_g4g, ez_g4s, ez_g5g, ez_g5s, ez_g6g, ez_g6s, ez_g7g, ez_g7s, ez_ga, ez_l0g, ez_l0s, ez_l1g, ez_l1s, ez_l2g, ez_l2s, ez_la, q_zs, q_zz, q_z1, q_z2, q_i2, q_ig, q_iz, q_jz, true_and, false_and, or_self, or_true, true_or, or_false, false_or, and_true, and_false, and_self, not_true_eq_false, not_false_eq_true, ec27, f]
  have r1 : ∀ (X : xR), (X.1 = (rRuX r T).1) → True := fun _ _ => trivial
  have rr : ∀ i, i = 1 ∨ i = 2 ∨ i = 5 ∨ i = 6 ∨ i = 10 ∨ i = 20 ∨ i = 28 ∨ i = 42 ∨ i = 44 → ∀ a w, (rRd (rRuX r T) a w).1 i = r.1 i := by
    intro i hi a w
    rcases hi with rfl | rfl | rfl | rfl | rfl | rfl | rfl | rfl | rfl <;> rfl
  have cc1 : ∀ (K : Int) (i : Nat), i = 0 ∨ i = 1 ∨ i = 6 ∨ i = 8 ∨ i = 9 → (q_i (cRd (qP (q_i c 3 ((min T 40 : Nat) : Int)) K D) a1 w1) 2 0).1 i = c.1 i := by
    intro K i hi
    rcases hi with rfl | rfl | rfl | rfl | rfl <;> rfl
  have cc2 : ∀ (K : Int) (j : Nat), j ≠ 5 → (q_i (cRd (qP (q_i c 3 ((min T 40 : Nat) : Int)) K D) a1 w1) 2 0).2.1 j = c.2.1 j := fun K j hj => xfu_ne _ _ hj
  unfold rRule at fR
  by_cases d0 : T = 0
  · rw [if_pos d0] at fR eP eW
    have hk0 := k0 d0
    subst d0
    subst hk0
    rw [eP, eW, if_pos ⟨rfl, by decide⟩] at fC
    refine ⟨0, _, _, fR, fC2 _ _ fC, ?_⟩
    refine Rel_rule hr rfl (fun i hi => ?_) (fun j hj => rfl) (by show (0 : Int) ≤ 40; decide) ?_ rfl (fun i hi => ?_) (fun j hj => ?_) rfl
    · rcases hi with rfl | rfl | rfl | rfl | rfl | rfl | rfl | rfl <;> rfl
    · exact ⟨0, by decide, rfl, ⟨fun _ => by show (0 : Int) ≤ 0; decide, fun _ => rfl⟩, fun q S z => absurd rfl z⟩
    · rcases hi with rfl | rfl | rfl | rfl <;> rfl
    · rcases hj with rfl | rfl | rfl | rfl <;> rfl
  · rw [if_neg d0] at fR eP eW
    unfold rRuW rHeld at fR
    rw [← eP, ← eW] at fR
    by_cases d : W = -1
    · simp only [if_pos d] at fR
      by_cases d2 : P < (T : Int)
      · simp only [if_pos d2] at fR
        rw [if_neg (show ¬ P = -1 by omega)] at fR
        rw [if_neg (fun z => z.2 d2), if_pos d] at fC
        rw [show xw (-1 - P) = -1 - P from xw_id (by omega) (by omega)] at fR
        refine ⟨-1 - P, _, _, fR, fC2 _ _ fC, ?_⟩
        refine Rel_shut hr rfl (fun i hi => ?_) (fun j hj => rfl) rfl (fun i hi => cc1 _ i hi) (fun j hj => cc2 _ j (by omega)) (fun k hk => rfl) (fun i hi => rfl)
        exact rr i hi _ _
      · simp only [if_neg d2, if_true] at fR
        rw [if_pos ⟨d, d2⟩] at fC
        have hT40 : T ≤ 40 := by omega
        have hw : (vR (rRuX r T) 814 5 0 0 0 (-1)).2.2 = -1 := by rw [← eW]; exact d
        have hb : ∀ i, i < T → -128 ≤ r.2 4 i ∧ r.2 4 i < 128 := fun i hi => (t4 i hi).1
        have hlen := rule_new (r := r) (T := T) (by omega) hT40 hb hw (st := fun i => (cR (rRuX r T) 814 5 0 0 (-1)).1.getD i 0) (fun i hi => rfl)
        obtain ⟨z1, z2⟩ := kD d0 d hlen.2.1
        have hst : ∀ i, i < (cR (rRuX r T) 814 5 0 0 (-1)).1.length → x_cpf D (c.2.1 4) 0 0 k i = (cR (rRuX r T) 814 5 0 0 (-1)).1.getD i 0 := by
          intro i hi
          unfold x_cpf
          rw [if_pos (by omega), Nat.sub_zero, Nat.zero_add]
          exact z2 i hi
        have hnew := rule_new (r := r) (T := T) (by omega) hT40 hb hw hst
        refine ⟨0, _, _, fR, fC2 _ _ fC, ?_⟩
        have htx : ∀ i, i < T → rCopy (fun x => xb8 (r.2 4 x)) (r.2 8) 0 T i = r.2 4 i := by
          intro i hi
          unfold rCopy
          rw [if_pos (by omega), Nat.sub_zero]
          show xb8 (r.2 4 i) = r.2 4 i
          rw [xb8_b]
          have := hb i hi
          split <;> omega
        refine Rel_rule hr rfl (fun i hi => ?_) (fun j hj => ?_) (by show (T : Int) ≤ 40; omega) ?_ rfl (fun i hi => ?_) (fun j hj => ?_) rfl
        · rcases hi with rfl | rfl | rfl | rfl | rfl | rfl | rfl | rfl <;> rfl
        · rcases hj with rfl | rfl | rfl | rfl | rfl | rfl | rfl | rfl | rfl | rfl <;> rfl
        · refine ⟨k, hk, rfl, ⟨fun z => absurd z (by omega), fun z => absurd z (by show ¬ (T : Int) ≤ 0; omega)⟩, fun q S _ => ?_⟩
          have := hnew.2.2 (rCopy (fun x => xb8 (r.2 4 x)) (r.2 8) 0 T) htx q S
          rw [← z1] at this
          exact this
        · rcases hi with rfl | rfl | rfl | rfl <;> rfl
        · rcases hj with rfl | rfl | rfl | rfl <;> rfl
    · simp only [if_neg d] at fR
      rw [if_neg (fun z => d z.1), if_neg d] at fC
      rw [show xw (-1 - W) = -1 - W from xw_id (by omega) (by omega)] at fR
      refine ⟨-1 - W, _, _, fR, fC2 _ _ fC, ?_⟩
      refine Rel_shut hr rfl (fun i hi => ?_) (fun j hj => rfl) rfl (fun i hi => cc1 _ i hi) (fun j hj => cc2 _ j (by omega)) (fun k hk => rfl) (fun i hi => rfl)
      exact rr i hi _ _
end SB
