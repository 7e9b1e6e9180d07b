/-! ===== a day's acts, done by both ===== -/
/-- in the midst of a day: the reference -/
def rDy (b : xR) (A : Nat → Int) (T : Int × Int × Int × Int) (r2 : xR) : Prop := r2.2 1 = A ∧ (r2.1 30, r2.1 31, r2.1 32, r2.1 33) = T ∧ rC r2 = xr_j (rC b) 1 A ∧ r2.2 12 = b.2 12 ∧ r2.2 13 = b.2 13
theorem kDo_y {k : xKx} {a : Nat → Int} {v x y y' : Int} (h : ¬ (v = 115 ∨ v = 112)) : kDo k a v x y = kDo k a v x y' := by
  unfold kDo
  rw [if_neg (c := v = 115) (fun z => h (Or.inl z)), if_neg (c := v = 112) (fun z => h (Or.inr z)), if_neg (c := v = 115) (fun z => h (Or.inl z)), if_neg (c := v = 112) (fun z => h (Or.inr z))]
section DG
variable {n : Nat} {h : xH} {b r2 : xR} {H : xH} {A : Nat → Int} {T : Int × Int × Int × Int}
theorem rDy_K (hd : rDy b A T r2) : rK r2 = rK b := by
  have e := rC_K (r := r2) (r' := xr_j b 1 A) (by rw [hd.2.2.1, rC_jn rfl])
  rw [e]
  rfl
theorem rDy_ok (hd : rDy b A T r2) (hb : rOk b) : rOk r2 := by
  have hc : rC r2 = rC (xr_j b 1 A) := by rw [hd.2.2.1, rC_jn rfl]
  obtain ⟨h1, h2, h3, h4⟩ := hb
  have e1 : r2.1 1 = b.1 1 := rC_e1 hc rfl
  have e2 : r2.1 2 = b.1 2 := rC_e1 hc rfl
  have e20 : r2.1 20 = b.1 20 := rC_e1 hc rfl
  have e22 : r2.2 2 = b.2 2 := rC_e2 hc rfl
  have eK := rDy_K hd
  unfold rOk
  rw [e1, e2, e20, e22]
  exact ⟨h1, h2, by first | exact h3 | (rw [eK]; exact h3), h4⟩
theorem rT_id (r2 : xR) : rT r2 (r2.1 30, r2.1 31, r2.1 32, r2.1 33) = r2 := by
  refine Prod.ext (funext fun k => ?_) rfl
  show (if k = 30 then r2.1 30 else if k = 31 then r2.1 31 else if k = 32 then r2.1 32 else if k = 33 then r2.1 33 else r2.1 k) = r2.1 k
  split
  · rename_i e; rw [e]
  · split
    · rename_i e; rw [e]
    · split
      · rename_i e; rw [e]
      · split
        · rename_i e; rw [e]
        · rfl
theorem r_hsT {m : Nat} (hm : m ≤ 1000) (hb : rOk b) (hd : rDy b A T r2) (hl : kBear (kN (rK b)) A) : ∃ r3, (gg (n + 824) 228).2 [.inr (.inr (.inl (1, 0))), .inr (.inr (.inl (1, 1))), .inl (m : Int)] (hR h r2) = some (none, hR h r3) ∧ rDy b (kPs (rK b) m A T).1 (kPs (rK b) m A T).2 r3 := by
  have hok := rDy_ok hd hb
  have eK := rDy_K hd
  obtain ⟨h1, h2, h3, h4, h5⟩ := hd
  have hw : r2 = rW (rT r2 T) 1 (r2.2 1, r2.1 23, r2.1 24, r2.1 25, r2.2 10) r2 := by
    rw [← h2, rT_id]
    exact (rW_self (r := r2) (j := 1) (by decide)).symm
  obtain ⟨J', f1⟩ := r_goHalves (n := n) (h := h) (r := r2) (j := 1) (F := (r2.2 1, r2.1 23, r2.1 24, r2.1 25, r2.2 10)) (T := T) (J := r2) (Or.inl rfl) hok (by rw [eK, h1]; exact hl) hm
  rw [← hw] at f1
  obtain ⟨e1, e2⟩ := p4_hs (k := rK r2) (P := ((r2.2 1, r2.1 23, r2.1 24, r2.1 25, r2.2 10), T)) (P' := ((A, 0, 0, 0, fun _ => 0), T)) h1 rfl m
  unfold kPs
  dsimp only
  rw [← eK, ← e1, ← e2]
  generalize kHs (rK r2) m ((r2.2 1, r2.1 23, r2.1 24, r2.1 25, r2.2 10), T) = P at f1
  refine ⟨_, f1, rfl, rfl, ?_, h4, h5⟩
  rw [rC_W1, rC_T, h3]
  exact xr_j_j _ _ _ _
theorem r_acth {m : Nat} {y : Int} {r3 : xR} (f : (gg (n + 824) 228).2 [.inr (.inr (.inl (1, 0))), .inr (.inr (.inl (1, 1))), .inl (m : Int)] (hR h r2) = some (none, hR h r3)) : (gg (n + 825) 235).2 [.inr (.inr (.inl (1, 0))), .inl 104, .inl (m : Int), .inl y] (hR h r2) = some (some (.inl 1), hR h r3) := by
  rw [gr235]
  unfold fX12_act
  have ek : x_key [(99, 7), (102, 6), (104, 5), (112, 4), (115, 3), (119, 2)] 1 104 = 5 := by decide
  refine k_f (k_p3 (k_p3 (k_p1 (t := ([.inr (.inr (.inl (1, 0))), .inl 104, .inl (m : Int), .inl y], [], hR h r2)) (u := ([.inr (.inr (.inl (1, 0))), .inl 104, .inl (m : Int), .inl y], [], hR h r3)) (k_p2 (t := ([.inr (.inr (.inl (1, 0))), .inl 104, .inl (m : Int), .inl y], [], hR h r2)) (k_p2 (t := ([.inr (.inr (.inl (1, 0))), .inl 104, .inl (m : Int), .inl y], [], hR h r2)) (k_p2 (t := ([.inr (.inr (.inl (1, 0))), .inl 104, .inl (m : Int), .inl y], [], hR h r2)) (k_p2 (t := ([.inr (.inr (.inl (1, 0))), .inl 104, .inl (m : Int), .inl y], [], hR h r2)) ?_)))) ?_)))
  · simp -implicitDefEqProofs (disch := first | exact isc_R | (simp only [List.map_cons, List.map_nil, List.sum_cons, List.sum_nil, xcat, Nat.reduceAdd, Nat.reduceLeDiff, Nat.zero_le]; done) | omega) only [k_p_sq, k_p_blk, k_sq0, k_sq11, k_sq12, k_sq13, k_sq14, k_sq15, k_sqr, k_sqi, k_blk0, k_blk1, k_blk2, k_blk3, k_blk4, k_blk5, k_blkr, k_blki, k_finr, k_fini, k_mapi, k_bindi, k_if1, k_if2, k_ops, k_br, k_rv, k_ri, k_rl, k_rz, k_rzi, k_01d, k_sw, k_01a, k_01b, k_01c, k_ifn, x_cmp, decide_eq_true_eq, Option.map_some, Option.bind_some, Option.toList_some, Option.toList_none, List.cons_append, List.nil_append, Nat.reduceAdd, true_or, or_true, Int.reduceNeg, Int.reduceEq, reduceIte, Nat.zero_le, Nat.reduceLeDiff, Nat.le_refl, Nat.reduceEqDiff, List.getElem?_cons_zero, List.getElem?_cons_succ, xst, List.set_cons_zero, List.set_cons_succ, List.map_cons, List.map_nil, List.sum_cons, List.sum_nil, xcat, Nat.reduceMul, Nat.reduceDiv, Nat.reduceMod, Nat.add_zero, e_nil, e_iconst, e_il, e_al, e_ll, e_istore, e_astore, e_lstore, e_ic, e_iadd, e_isub, e_imul, e_iand, e_ior, e_ixor, e_ishl, e_ishr, e_ineg, e_dupi, e_dupr, e_dupx, e_dup2, e_popi, er_g0, er_g1, er_g2, er_g3, er_g4, er_g5, er_g6, er_g7, er_g8, er_g9, er_g10, er_g11, er_g12, er_g13, er_g14, er_g15, er_g16, er_g17, er_g18, er_g19, er_g20, er_g21, er_g22, er_g23, er_g24, er_g25, er_g26, er_g27, er_g28, er_g29, er_g30, er_g31, er_g32, er_g33, er_g34, er_g35, er_g36, er_g37, er_g38, er_g39, er_g40, er_g41, er_g42, er_g43, er_g44, er_g45, er_g46, er_g47, er_s1, er_s2, er_s5, er_s6, er_s8, er_s10, er_s11, er_s13, er_s14, er_s15, er_s16, er_s20, er_s23, er_s24, er_s25, er_s28, er_s30, er_s31, er_s32, er_s33, er_s42, er_s43, er_s44, er_s21a, er_s21b, er_s12a, er_s12b, isc_R, ek]
  · simp -implicitDefEqProofs (disch := first | exact isc_R | (simp only [List.map_cons, List.map_nil, List.sum_cons, List.sum_nil, xcat, Nat.reduceAdd, Nat.reduceLeDiff, Nat.zero_le]; done) | omega) only [k_p_sq, k_p_blk, k_sq0, k_sq11, k_sq12, k_sq13, k_sq14, k_sq15, k_sqr, k_sqi, k_blk0, k_blk1, k_blk2, k_blk3, k_blk4, k_blk5, k_blkr, k_blki, k_finr, k_fini, k_mapi, k_bindi, k_if1, k_if2, k_ops, k_br, k_rv, k_ri, k_rl, k_rz, k_rzi, k_01d, k_sw, k_01a, k_01b, k_01c, k_ifn, x_cmp, decide_eq_true_eq, Option.map_some, Option.bind_some, Option.toList_some, Option.toList_none, List.cons_append, List.nil_append, Nat.reduceAdd, true_or, or_true, Int.reduceNeg, Int.reduceEq, reduceIte, Nat.zero_le, Nat.reduceLeDiff, Nat.le_refl, Nat.reduceEqDiff, List.getElem?_cons_zero, List.getElem?_cons_succ, xst, List.set_cons_zero, List.set_cons_succ, List.map_cons, List.map_nil, List.sum_cons, List.sum_nil, xcat, Nat.reduceMul, Nat.reduceDiv, Nat.reduceMod, Nat.add_zero, e_nil, e_iconst, e_il, e_al, e_ll, e_istore, e_astore, e_lstore, e_ic, e_iadd, e_isub, e_imul, e_iand, e_ior, e_ixor, e_ishl, e_ishr, e_ineg, e_dupi, e_dupr, e_dupx, e_dup2, e_popi, er_g0, er_g1, er_g2, er_g3, er_g4, er_g5, er_g6, er_g7, er_g8, er_g9, er_g10, er_g11, er_g12, er_g13, er_g14, er_g15, er_g16, er_g17, er_g18, er_g19, er_g20, er_g21, er_g22, er_g23, er_g24, er_g25, er_g26, er_g27, er_g28, er_g29, er_g30, er_g31, er_g32, er_g33, er_g34, er_g35, er_g36, er_g37, er_g38, er_g39, er_g40, er_g41, er_g42, er_g43, er_g44, er_g45, er_g46, er_g47, er_s1, er_s2, er_s5, er_s6, er_s8, er_s10, er_s11, er_s13, er_s14, er_s15, er_s16, er_s20, er_s23, er_s24, er_s25, er_s28, er_s30, er_s31, er_s32, er_s33, er_s42, er_s43, er_s44, er_s21a, er_s21b, er_s12a, er_s12b, isc_R, ec228, f, isc_R, Int.reduceEq, true_and, false_and, or_self, or_true, true_or, or_false, false_or, and_true, and_false, and_self, not_true_eq_false, not_false_eq_true]
theorem r_act1 (hb : rOk b) (hd : rDy b A T r2) (hl : kBear (kN (rK b)) A) (a0 : 0 ≤ A 114) (a1 : A 114 ≤ 10) {q : Int × Int × Int} (hq : daOk q) {y : Int} (hy : q.1 = 115 ∨ q.1 = 112 → y = q.2.2) : match kAc (rK b) (A, T) q with
    | none => (gg (n + 825) 235).2 [.inr (.inr (.inl (1, 0))), .inl q.1, .inl q.2.1, .inl y] (hR h r2) = some (some (.inl 0), hR h r2)
    | some P => ∃ r3, (gg (n + 825) 235).2 [.inr (.inr (.inl (1, 0))), .inl q.1, .inl q.2.1, .inl y] (hR h r2) = some (some (.inl 1), hR h r3) ∧ rDy b P.1 P.2 r3 := by
  have hok := rDy_ok hd hb
  have eK := rDy_K hd
  obtain ⟨v, x, y0⟩ := q
  dsimp only at *
  by_cases c : v = 104
  · have e1 : kAc (rK b) (A, T) (v, x, y0) = some (kPs (rK b) x.toNat A T) := by
      unfold kAc
      rw [if_pos c]
    rw [e1]
    have hx : 0 ≤ x ∧ x ≤ 9 := by
      unfold daOk at hq
      dsimp only at hq
      omega
    obtain ⟨r3, f1, f2⟩ := r_hsT (n := n) (h := h) (m := x.toNat) (by omega) hb hd hl
    refine ⟨r3, ?_, f2⟩
    have f3 := r_acth (y := y) f1
    rw [show ((x.toNat : Nat) : Int) = x by omega] at f3
    rw [c]
    exact f3
  · have hv : v = 119 ∨ v = 115 ∨ v = 112 ∨ v = 99 ∨ v = 102 ∨ v = 111 := by
      unfold daOk at hq
      dsimp only at hq
      omega
    have e0 : kDo (rK b) A v x y0 = kDo (rK b) A v x y := by
      by_cases d : v = 115 ∨ v = 112
      · rw [hy d]
      · exact kDo_y d
    have e1 : kAc (rK b) (A, T) (v, x, y0) = (kDo (rK b) A v x y).map (fun a => (a, T)) := by
      unfold kAc
      rw [if_neg c, e0]
    rw [e1]
    have h114 : r2.2 1 114 = A 114 := by rw [hd.1]
    cases e2 : kDo (rK b) A v x y with
    | none => exact r_do0 (n := n) (h := h) hok (by rw [h114]; exact a0) (by rw [h114]; exact a1) hv (by rw [eK, hd.1]; exact e2)
    | some A' =>
      have f := r_do1 (n := n) (h := h) hok (by rw [h114]; exact a0) (by rw [h114]; exact a1) hv (A := A') (by rw [eK, hd.1]; exact e2)
      refine ⟨_, f, xr_j_2 _ _ _, hd.2.1, ?_, ?_, ?_⟩
      · rw [rC_jn rfl, hd.2.2.1]
        exact xr_j_j _ _ _ _
      · show xfu r2.2 1 A' 12 = _
        rw [xfu_ne _ _ (by decide)]
        exact hd.2.2.2.1
      · show xfu r2.2 1 A' 13 = _
        rw [xfu_ne _ _ (by decide)]
        exact hd.2.2.2.2
end DG
section DH
variable {n n2 : Nat} {h h' : xH} {r b : xR} {H : xH}
theorem day_both (hK : kxOk (rK r)) (hb : rOk b) (hKb : rK b = rK r) (N : Nat) (j1 f1 : Int) : ∀ (l : List (Int × Int × Int)) (i : Nat) (c : xQ) (z A : Nat → Int) (T : Int × Int × Int × Int) (r2 : xR), i + l.length = N → N ≤ 31 → (∀ q, q ∈ l → daOk q) → c.1 10 = (N : Int) → (∀ j, j < l.length → (c.2.1 12 (i + j), c.2.1 13 (i + j), c.2.1 14 (i + j)) = l.getD j q30) → (∀ j, j < l.length → tAc (b.2 13) (3 * (i + j)) (l.getD j q30)) → ruleOk c (kSize (rK r)) (kText (rK r)) → dR r z A T → rDy b A T r2 →
    ∃ (d : Nat) (z' J A' : Nat → Int) (T' : Int × Int × Int × Int) (r3 : xR), i + d ≤ N ∧ p_lop (lX11_day_38 (gg (n + 8))) ([.inr (.inr (.inl (0, 0))), .inl f1, .inl (i : Int)], [], hC h' (q_z c 0 z)) = some (.inl 1, ([.inr (.inr (.inl (0, 0))), .inl f1, .inl ((i + d : Nat) : Int)], [], hC h' (q_z (q_j c 6 J) 0 z'))) ∧ p_lop (lX12_day_121 (gg (n2 + 825))) ([.inr (.inr (.inl (1, 0))), .inl (N : Int), .inl j1, .inl (i : Int)], [], hR h r2) = some (.inl 1, ([.inr (.inr (.inl (1, 0))), .inl (N : Int), .inl j1, .inl ((i + d : Nat) : Int)], [], hR h r3)) ∧ dR r z' A' T' ∧ rDy b A' T' r3 ∧ (d = 0 → A' = A)
  | [], i, c, z, A, T, r2, hn, hN, hq, h10, hc, hr, hru, hd, hd2 => by
    have hi : i = N := by
      have : i + 0 = N := hn
      omega
    subst hi
    refine ⟨0, z, c.2.1 6, A, T, r2, by omega, ?_, ?_, hd, hd2, fun _ => rfl⟩
    · refine k_l2 (k := 0) ?_
      rw [q_j0, Nat.add_zero]
      have e1 : (i : Int) ≤ (i : Int) := Int.le_refl _
      clear hq hc hr hru hd hd2 hn
      simp -implicitDefEqProofs (disch := first | with_reducible assumption | with_reducible exact isc_zs (by assumption) | with_reducible exact isc_zs (by decide) | with_reducible exact isc_zb (by assumption) (by assumption) | with_reducible exact isc_zb (by decide) (by assumption) | with_reducible exact isc_zg (by assumption) (by assumption) | with_reducible exact isc_zl (by assumption) (by assumption) | with_reducible exact isc_0 | with_reducible exact isc_1 | with_reducible exact isc_3 | with_reducible exact isc_7 | with_reducible exact isc_11 | with_reducible exact isc_15 | with_reducible exact isc_19 | with_reducible exact isc_24 | with_reducible exact isc_25 | (simp only [List.map_cons, List.map_nil, List.sum_cons, List.sum_nil, xcat, Nat.reduceAdd, Nat.reduceLeDiff, Nat.zero_le]; done) | omega) only [lX11_day_38, k_p_sq, k_p_blk, k_sq0, k_sq11, k_sq12, k_sq13, k_sq14, k_sq15, k_sqr, k_sqi, k_blk0, k_blk1, k_blk2, k_blk3, k_blk4, k_blk5, k_blkr, k_blki, k_finr, k_fini, k_mapi, k_bindi, k_if1, k_if2, k_ops, k_br, k_rv, k_ri, k_rl, k_rz, k_rzi, k_01d, k_sw, k_01a, k_01b, k_01c, k_ifn, x_cmp, decide_eq_true_eq, Option.map_some, Option.bind_some, Option.toList_some, Option.toList_none, List.cons_append, List.nil_append, Nat.reduceAdd, true_or, or_true, Int.reduceNeg, Int.reduceEq, reduceIte, Nat.zero_le, Nat.reduceLeDiff, Nat.le_refl, Nat.reduceEqDiff, List.getElem?_cons_zero, List.getElem?_cons_succ, xst, List.set_cons_zero, List.set_cons_succ, List.map_cons, List.map_nil, List.sum_cons, List.sum_nil, xcat, Nat.reduceMul, Nat.reduceDiv, Nat.reduceMod, Nat.add_zero, e_nil, e_iconst, e_il, e_al, e_ll, e_istore, e_astore, e_lstore, e_ic, e_iadd, e_isub, e_imul, e_iand, e_ior, e_ixor, e_ishl, e_ishr, e_ineg, e_dupi, e_dupr, e_dupx, e_dup2, e_popi, eo_g0, eo_g1, eo_g2, eo_g3, eo_g4, eo_g5, eo_g6, eo_g7, eo_g8, eo_g9, eo_g10, eo_g11, eo_g12, eo_g13, eo_g14, eo_s14, eo_g15, eo_g16, eo_s16, et_g0, et_g1, et_s1, et_g2, et_s2, et_g3, et_s3, et_g4, et_s4, eu_g0, eu_g1, eu_s1, eu_g2, eu_g3, eu_s3, eu_g4, eh_g0, eh_g1, eh_s1, eh_g2, eh_s2, ed_g0, ed_g1, ed_g2, ed_g3, ed_s3, ew_g0, ew_g1, ew_g2, ew_g3, ew_s3, en_g0, en_g1, en_s1, en_g2, en_g3, en_g4, en_g5, en_s5, ex_g0, ex_s0, eq_g0, eq_s0, eq_g1, eq_s1, eq_g2, eq_s2, eq_g3, eq_s3, eq_g4, eq_s4, eq_g5, eq_s5, eq_g6, eq_s6, eq_g7, eq_s7, ez_g0, ez_g1, ez_g2, ez_g3, ez_s3, ez_g4, ez_s4, ez_g5, ez_s5, ez_g6, ez_s6, ez_g7, ez_s7, ez_g8, ez_s8, ez_g9, ez_s9, ez_g10, ez_s10, ez_g11, ez_s11, ez_g12, ez_s12, ez_g13, ez_s13, ez_g14, ez_g15, ez_b0g, ez_b0s, ez_b1g, ez_b1s, ez_b2g, ez_b2s, ez_b3g, ez_b3s, ez_b4g, ez_b4s, ez_b5g, ez_b5s, ez_ba, ez_g0g, ez_g0s, ez_g1g, ez_g1s, ez_g2g, ez_g2s, ez_g3g, ez_g3s, ez_g4g, ez_g4s, ez_g5g, ez_g5s, ez_g6g, ez_g6s, ez_g7g, ez_g7s, ez_ga, ez_l0g, ez_l0s, ez_l1g, ez_l1s, ez_l2g, ez_l2s, ez_la, q_zs, q_zz, q_z1, q_z2, q_i2, q_ig, q_iz, q_jz, true_and, false_and, or_self, or_true, true_or, or_false, false_or, and_true, and_false, and_self, not_true_eq_false, not_false_eq_true, h10, e1]
    · refine k_l2 (k := 0) ?_
      rw [Nat.add_zero]
      have e1 : (i : Int) ≤ (i : Int) := Int.le_refl _
      clear hq hc hr hru hd hd2 hn
      simp -implicitDefEqProofs (disch := first | exact isc_R | (simp only [List.map_cons, List.map_nil, List.sum_cons, List.sum_nil, xcat, Nat.reduceAdd, Nat.reduceLeDiff, Nat.zero_le]; done) | omega) only [lX12_day_121, k_p_sq, k_p_blk, k_sq0, k_sq11, k_sq12, k_sq13, k_sq14, k_sq15, k_sqr, k_sqi, k_blk0, k_blk1, k_blk2, k_blk3, k_blk4, k_blk5, k_blkr, k_blki, k_finr, k_fini, k_mapi, k_bindi, k_if1, k_if2, k_ops, k_br, k_rv, k_ri, k_rl, k_rz, k_rzi, k_01d, k_sw, k_01a, k_01b, k_01c, k_ifn, x_cmp, decide_eq_true_eq, Option.map_some, Option.bind_some, Option.toList_some, Option.toList_none, List.cons_append, List.nil_append, Nat.reduceAdd, true_or, or_true, Int.reduceNeg, Int.reduceEq, reduceIte, Nat.zero_le, Nat.reduceLeDiff, Nat.le_refl, Nat.reduceEqDiff, List.getElem?_cons_zero, List.getElem?_cons_succ, xst, List.set_cons_zero, List.set_cons_succ, List.map_cons, List.map_nil, List.sum_cons, List.sum_nil, xcat, Nat.reduceMul, Nat.reduceDiv, Nat.reduceMod, Nat.add_zero, e_nil, e_iconst, e_il, e_al, e_ll, e_istore, e_astore, e_lstore, e_ic, e_iadd, e_isub, e_imul, e_iand, e_ior, e_ixor, e_ishl, e_ishr, e_ineg, e_dupi, e_dupr, e_dupx, e_dup2, e_popi, er_g0, er_g1, er_g2, er_g3, er_g4, er_g5, er_g6, er_g7, er_g8, er_g9, er_g10, er_g11, er_g12, er_g13, er_g14, er_g15, er_g16, er_g17, er_g18, er_g19, er_g20, er_g21, er_g22, er_g23, er_g24, er_g25, er_g26, er_g27, er_g28, er_g29, er_g30, er_g31, er_g32, er_g33, er_g34, er_g35, er_g36, er_g37, er_g38, er_g39, er_g40, er_g41, er_g42, er_g43, er_g44, er_g45, er_g46, er_g47, er_s1, er_s2, er_s5, er_s6, er_s8, er_s10, er_s11, er_s13, er_s14, er_s15, er_s16, er_s20, er_s23, er_s24, er_s25, er_s28, er_s30, er_s31, er_s32, er_s33, er_s42, er_s43, er_s44, er_s21a, er_s21b, er_s12a, er_s12b, isc_R, e1]
  | q :: l, i, c, z, A, T, r2, hn, hN, hq, h10, hc, hr, hru, hd, hd2 => by
    rw [List.length_cons] at hn
    have hq0 := hq q List.mem_cons_self
    obtain ⟨v, z1, J, g1, g2⟩ := c_perf (n := n) (h := h') (c := c) hK hru hd hq0
    have hc0 := hc 0 (by rw [List.length_cons]; omega)
    rw [Nat.add_zero, List.getD_cons_zero] at hc0
    have hr0 := hr 0 (by rw [List.length_cons]; omega)
    rw [Nat.add_zero, List.getD_cons_zero] at hr0
    obtain ⟨M, m1, m2, m3, m4⟩ := sSea_M hd.1
    have hl : kBear (kN (rK b)) A := by
      rw [hKb]
      intro g hg
      have := (sSea_fine m2 hd.1).2.2.1 g hg
      omega
    have ra := r_act1 (n := n2) (h := h) (q := q) hb hd2 hl (by rw [m2]; omega) (by rw [m2]; omega) hq0 (y := b.2 13 (3 * i + 2)) hr0.2.2
    rw [hKb] at ra
    have hi1 : ¬ (N : Int) ≤ (i : Int) := by omega
    have hi0 : (0 : Int) ≤ (i : Int) := by omega
    have hi31 : (i : Int) < 31 := by omega
    have x1 : xw ((i : Int) + 1) = ((i + 1 : Nat) : Int) := xw_id (by omega) (by omega)
    have x3 : xw (3 * (i : Int)) = ((3 * i : Nat) : Int) := by rw [xw_id (by omega) (by omega)]; omega
    have x4 : xw (((3 * i : Nat) : Int) + 1) = ((3 * i + 1 : Nat) : Int) := by rw [xw_id (by omega) (by omega)]; omega
    have x5 : xw (((3 * i : Nat) : Int) + 2) = ((3 * i + 2 : Nat) : Int) := by rw [xw_id (by omega) (by omega)]; omega
    have b3 : ((3 * i : Nat) : Int) < 240 := by omega
    have b4 : ((3 * i + 1 : Nat) : Int) < 240 := by omega
    have b5 : ((3 * i + 2 : Nat) : Int) < 240 := by omega
    have p3 : (0 : Int) ≤ ((3 * i : Nat) : Int) := by omega
    have p4' : (0 : Int) ≤ ((3 * i + 1 : Nat) : Int) := by omega
    have p5 : (0 : Int) ≤ ((3 * i + 2 : Nat) : Int) := by omega
    have t13 : r2.2 13 = b.2 13 := hd2.2.2.2.2
    have a12 : c.2.1 12 i = q.1 := congrArg (fun p => p.1) hc0
    have a13 : c.2.1 13 i = q.2.1 := congrArg (fun p => p.2.1) hc0
    have a14 : c.2.1 14 i = q.2.2 := congrArg (fun p => p.2.2) hc0
    have r0 := hr0.1
    have r1 := hr0.2.1
    cases hk : kAc (rK r) (A, T) q with
    | none =>
      rw [hk] at g2 ra
      obtain ⟨v0, g3⟩ := g2
      refine ⟨0, z1, J, A, T, r2, by omega, ?_, ?_, g3, hd2, fun _ => rfl⟩
      · refine k_l2 (k := 0) ?_
        rw [Nat.add_zero]
        clear hq hc hr hru hd hd2 hn hr0 hc0 ra g3 hk m4 m3 hl r0 r1
        simp -implicitDefEqProofs (disch := first | with_reducible assumption | with_reducible exact isc_zs (by assumption) | with_reducible exact isc_zs (by decide) | with_reducible exact isc_zb (by assumption) (by assumption) | with_reducible exact isc_zb (by decide) (by assumption) | with_reducible exact isc_zg (by assumption) (by assumption) | with_reducible exact isc_zl (by assumption) (by assumption) | with_reducible exact isc_0 | with_reducible exact isc_1 | with_reducible exact isc_3 | with_reducible exact isc_7 | with_reducible exact isc_11 | with_reducible exact isc_15 | with_reducible exact isc_19 | with_reducible exact isc_24 | with_reducible exact isc_25 | (simp only [List.map_cons, List.map_nil, List.sum_cons, List.sum_nil, xcat, Nat.reduceAdd, Nat.reduceLeDiff, Nat.zero_le]; done) | omega) only [lX11_day_38, k_p_sq, k_p_blk, k_sq0, k_sq11, k_sq12, k_sq13, k_sq14, k_sq15, k_sqr, k_sqi, k_blk0, k_blk1, k_blk2, k_blk3, k_blk4, k_blk5, k_blkr, k_blki, k_finr, k_fini, k_mapi, k_bindi, k_if1, k_if2, k_ops, k_br, k_rv, k_ri, k_rl, k_rz, k_rzi, k_01d, k_sw, k_01a, k_01b, k_01c, k_ifn, x_cmp, decide_eq_true_eq, Option.map_some, Option.bind_some, Option.toList_some, Option.toList_none, List.cons_append, List.nil_append, Nat.reduceAdd, true_or, or_true, Int.reduceNeg, Int.reduceEq, reduceIte, Nat.zero_le, Nat.reduceLeDiff, Nat.le_refl, Nat.reduceEqDiff, List.getElem?_cons_zero, List.getElem?_cons_succ, xst, List.set_cons_zero, List.set_cons_succ, List.map_cons, List.map_nil, List.sum_cons, List.sum_nil, xcat, Nat.reduceMul, Nat.reduceDiv, Nat.reduceMod, Nat.add_zero, e_nil, e_iconst, e_il, e_al, e_ll, e_istore, e_astore, e_lstore, e_ic, e_iadd, e_isub, e_imul, e_iand, e_ior, e_ixor, e_ishl, e_ishr, e_ineg, e_dupi, e_dupr, e_dupx, e_dup2, e_popi, eo_g0, eo_g1, eo_g2, eo_g3, eo_g4, eo_g5, eo_g6, eo_g7, eo_g8, eo_g9, eo_g10, eo_g11, eo_g12, eo_g13, eo_g14, eo_s14, eo_g15, eo_g16, eo_s16, et_g0, et_g1, et_s1, et_g2, et_s2, et_g3, et_s3, et_g4, et_s4, eu_g0, eu_g1, eu_s1, eu_g2, eu_g3, eu_s3, eu_g4, eh_g0, eh_g1, eh_s1, eh_g2, eh_s2, ed_g0, ed_g1, ed_g2, ed_g3, ed_s3, ew_g0, ew_g1, ew_g2, ew_g3, ew_s3, en_g0, en_g1, en_s1, en_g2, en_g3, en_g4, en_g5, en_s5, ex_g0, ex_s0, eq_g0, eq_s0, eq_g1, eq_s1, eq_g2, eq_s2, eq_g3, eq_s3, eq_g4, eq_s4, eq_g5, eq_s5, eq_g6, eq_s6, eq_g7, eq_s7, ez_g0, ez_g1, ez_g2, ez_g3, ez_s3, ez_g4, ez_s4, ez_g5, ez_s5, ez_g6, ez_s6, ez_g7, ez_s7, ez_g8, ez_s8, ez_g9, ez_s9, ez_g10, ez_s10, ez_g11, ez_s11, ez_g12, ez_s12, ez_g13, ez_s13, ez_g14, ez_g15, ez_b0g, ez_b0s, ez_b1g, ez_b1s, ez_b2g, ez_b2s, ez_b3g, ez_b3s, ez_b4g, ez_b4s, ez_b5g, ez_b5s, ez_ba, ez_g0g, ez_g0s, ez_g1g, ez_g1s, ez_g2g, ez_g2s, ez_g3g, ez_g3s, ez_g4g, ez_g4s, ez_g5g, ez_g5s, ez_g6g, ez_g6s, ez_g7g, ez_g7s, ez_ga, ez_l0g, ez_l0s, ez_l1g, ez_l1s, ez_l2g, ez_l2s, ez_la, q_zs, q_zz, q_z1, q_z2, q_i2, q_ig, q_iz, q_jz, true_and, false_and, or_self, or_true, true_or, or_false, false_or, and_true, and_false, and_self, not_true_eq_false, not_false_eq_true, h10, hi1, eq_r12, eq_r13, eq_r14, a12, a13, a14, Int.toNat_natCast, ec127, g1, v0]
      · refine k_l2 (k := 0) ?_
        rw [Nat.add_zero]
        dsimp only at ra
        clear hq hc hr hru hd hd2 hn hr0 hc0 g3 hk m4 m3 hl g1 a12 a13 a14 v0 m2
        simp -implicitDefEqProofs (disch := first | exact isc_R | (simp only [List.map_cons, List.map_nil, List.sum_cons, List.sum_nil, xcat, Nat.reduceAdd, Nat.reduceLeDiff, Nat.zero_le]; done) | omega) only [lX12_day_121, k_p_sq, k_p_blk, k_sq0, k_sq11, k_sq12, k_sq13, k_sq14, k_sq15, k_sqr, k_sqi, k_blk0, k_blk1, k_blk2, k_blk3, k_blk4, k_blk5, k_blkr, k_blki, k_finr, k_fini, k_mapi, k_bindi, k_if1, k_if2, k_ops, k_br, k_rv, k_ri, k_rl, k_rz, k_rzi, k_01d, k_sw, k_01a, k_01b, k_01c, k_ifn, x_cmp, decide_eq_true_eq, Option.map_some, Option.bind_some, Option.toList_some, Option.toList_none, List.cons_append, List.nil_append, Nat.reduceAdd, true_or, or_true, Int.reduceNeg, Int.reduceEq, reduceIte, Nat.zero_le, Nat.reduceLeDiff, Nat.le_refl, Nat.reduceEqDiff, List.getElem?_cons_zero, List.getElem?_cons_succ, xst, List.set_cons_zero, List.set_cons_succ, List.map_cons, List.map_nil, List.sum_cons, List.sum_nil, xcat, Nat.reduceMul, Nat.reduceDiv, Nat.reduceMod, Nat.add_zero, e_nil, e_iconst, e_il, e_al, e_ll, e_istore, e_astore, e_lstore, e_ic, e_iadd, e_isub, e_imul, e_iand, e_ior, e_ixor, e_ishl, e_ishr, e_ineg, e_dupi, e_dupr, e_dupx, e_dup2, e_popi, er_g0, er_g1, er_g2, er_g3, er_g4, er_g5, er_g6, er_g7, er_g8, er_g9, er_g10, er_g11, er_g12, er_g13, er_g14, er_g15, er_g16, er_g17, er_g18, er_g19, er_g20, er_g21, er_g22, er_g23, er_g24, er_g25, er_g26, er_g27, er_g28, er_g29, er_g30, er_g31, er_g32, er_g33, er_g34, er_g35, er_g36, er_g37, er_g38, er_g39, er_g40, er_g41, er_g42, er_g43, er_g44, er_g45, er_g46, er_g47, er_s1, er_s2, er_s5, er_s6, er_s8, er_s10, er_s11, er_s13, er_s14, er_s15, er_s16, er_s20, er_s23, er_s24, er_s25, er_s28, er_s30, er_s31, er_s32, er_s33, er_s42, er_s43, er_s44, er_s21a, er_s21b, er_s12a, er_s12b, isc_R, hi1, er_r13, x3, x4, x5, t13, r0, r1, Int.toNat_natCast, ec235, ra, Int.reduceEq, true_and, false_and, or_self, or_true, true_or, or_false, false_or, and_true, and_false, and_self, not_true_eq_false, not_false_eq_true]
    | some P =>
      rw [hk] at g2 ra
      obtain ⟨v0, g3⟩ := g2
      obtain ⟨r3, f2, f3⟩ := ra
      have v1 : ¬ v < 0 := by omega
      obtain ⟨d, z', J', A', T', r4, k1, k2, k3, k4, k5⟩ := day_both hK hb hKb N j1 f1 l (i + 1) (q_j c 6 J) z1 P.1 P.2 r3 (by omega) hN (fun q' hq' => hq q' (List.mem_cons_of_mem _ hq')) h10 (fun j hj => by
        have := hc (j + 1) (by rw [List.length_cons]; omega)
        rw [List.getD_cons_succ, show i + (j + 1) = i + 1 + j by omega] at this
        exact this) (fun j hj => by
        have := hr (j + 1) (by rw [List.length_cons]; omega)
        rw [List.getD_cons_succ, show i + (j + 1) = i + 1 + j by omega] at this
        exact this) (ruleOk_6 _ hru) g3 f3
      rw [q_jj] at k2
      refine ⟨d + 1, z', J', A', T', r4, by omega, ?_, ?_, k4, k5.1, fun w => absurd w (by omega)⟩
      · rw [show i + (d + 1) = i + 1 + d by omega, ← k2]
        refine k_l1 ?_
        clear hq hc hr hru hd hd2 hn hr0 hc0 g3 hk m4 m3 hl r0 r1 k1 k2 k3 k4 k5 f2 f3 v0
        simp -implicitDefEqProofs (disch := first | with_reducible assumption | with_reducible exact isc_zs (by assumption) | with_reducible exact isc_zs (by decide) | with_reducible exact isc_zb (by assumption) (by assumption) | with_reducible exact isc_zb (by decide) (by assumption) | with_reducible exact isc_zg (by assumption) (by assumption) | with_reducible exact isc_zl (by assumption) (by assumption) | with_reducible exact isc_0 | with_reducible exact isc_1 | with_reducible exact isc_3 | with_reducible exact isc_7 | with_reducible exact isc_11 | with_reducible exact isc_15 | with_reducible exact isc_19 | with_reducible exact isc_24 | with_reducible exact isc_25 | (simp only [List.map_cons, List.map_nil, List.sum_cons, List.sum_nil, xcat, Nat.reduceAdd, Nat.reduceLeDiff, Nat.zero_le]; done) | omega) only [lX11_day_38, k_p_sq, k_p_blk, k_sq0, k_sq11, k_sq12, k_sq13, k_sq14, k_sq15, k_sqr, k_sqi, k_blk0, k_blk1, k_blk2, k_blk3, k_blk4, k_blk5, k_blkr, k_blki, k_finr, k_fini, k_mapi, k_bindi, k_if1, k_if2, k_ops, k_br, k_rv, k_ri, k_rl, k_rz, k_rzi, k_01d, k_sw, k_01a, k_01b, k_01c, k_ifn, x_cmp, decide_eq_true_eq, Option.map_some, Option.bind_some, Option.toList_some, Option.toList_none, List.cons_append, List.nil_append, Nat.reduceAdd, true_or, or_true, Int.reduceNeg, Int.reduceEq, reduceIte, Nat.zero_le, Nat.reduceLeDiff, Nat.le_refl, Nat.reduceEqDiff, List.getElem?_cons_zero, List.getElem?_cons_succ, xst, List.set_cons_zero, List.set_cons_succ, List.map_cons, List.map_nil, List.sum_cons, List.sum_nil, xcat, Nat.reduceMul, Nat.reduceDiv, Nat.reduceMod, Nat.add_zero, e_nil, e_iconst, e_il, e_al, e_ll, e_istore, e_astore, e_lstore, e_ic, e_iadd, e_isub, e_imul, e_iand, e_ior, e_ixor, e_ishl, e_ishr, e_ineg, e_dupi, e_dupr, e_dupx, e_dup2, e_popi, eo_g0, eo_g1, eo_g2, eo_g3, eo_g4, eo_g5, eo_g6, eo_g7, eo_g8, eo_g9, eo_g10, eo_g11, eo_g12, eo_g13, eo_g14, eo_s14, eo_g15, eo_g16, eo_s16, et_g0, et_g1, et_s1, et_g2, et_s2, et_g3, et_s3, et_g4, et_s4, eu_g0, eu_g1, eu_s1, eu_g2, eu_g3, eu_s3, eu_g4, eh_g0, eh_g1, eh_s1, eh_g2, eh_s2, ed_g0, ed_g1, ed_g2, ed_g3, ed_s3, ew_g0, ew_g1, ew_g2, ew_g3, ew_s3, en_g0, en_g1, en_s1, en_g2, en_g3, en_g4, en_g5, en_s5, ex_g0, ex_s0, eq_g0, eq_s0, eq_g1, eq_s1, eq_g2, eq_s2, eq_g3, eq_s3, eq_g4, eq_s4, eq_g5, eq_s5, eq_g6, eq_s6, eq_g7, eq_s7, ez_g0, ez_g1, ez_g2, ez_g3, ez_s3, ez_g4, ez_s4, ez_g5, ez_s5, ez_g6, ez_s6, ez_g7, ez_s7, ez_g8, ez_s8, ez_g9, ez_s9, ez_g10, ez_s10, ez_g11, ez_s11, ez_g12, ez_s12, ez_g13, ez_s13, ez_g14, ez_g15, ez_b0g, ez_b0s, ez_b1g, ez_b1s, ez_b2g, ez_b2s, ez_b3g, ez_b3s, ez_b4g, ez_b4s, ez_b5g, ez_b5s, ez_ba, ez_g0g, ez_g0s, ez_g1g, ez_g1s, ez_g2g, ez_g2s, ez_g3g, ez_g3s, ez_g4g, ez_g4s, ez_g5g, ez_g5s, ez_g6g, ez_g6s, ez_g7g, ez_g7s, ez_ga, ez_l0g, ez_l0s, ez_l1g, ez_l1s, ez_l2g, ez_l2s, ez_la, q_zs, q_zz, q_z1, q_z2, q_i2, q_ig, q_iz, q_jz, true_and, false_and, or_self, or_true, true_or, or_false, false_or, and_true, and_false, and_self, not_true_eq_false, not_false_eq_true, h10, hi1, eq_r12, eq_r13, eq_r14, a12, a13, a14, Int.toNat_natCast, ec127, g1, v1, x1]
      · rw [show i + (d + 1) = i + 1 + d by omega, ← k3]
        refine k_l1 ?_
        clear hq hc hr hru hd hd2 hn hr0 hc0 g3 hk m4 m3 hl g1 a12 a13 a14 v0 m2 k1 k2 k3 k4 k5 f3 v1
        simp -implicitDefEqProofs (disch := first | exact isc_R | (simp only [List.map_cons, List.map_nil, List.sum_cons, List.sum_nil, xcat, Nat.reduceAdd, Nat.reduceLeDiff, Nat.zero_le]; done) | omega) only [lX12_day_121, k_p_sq, k_p_blk, k_sq0, k_sq11, k_sq12, k_sq13, k_sq14, k_sq15, k_sqr, k_sqi, k_blk0, k_blk1, k_blk2, k_blk3, k_blk4, k_blk5, k_blkr, k_blki, k_finr, k_fini, k_mapi, k_bindi, k_if1, k_if2, k_ops, k_br, k_rv, k_ri, k_rl, k_rz, k_rzi, k_01d, k_sw, k_01a, k_01b, k_01c, k_ifn, x_cmp, decide_eq_true_eq, Option.map_some, Option.bind_some, Option.toList_some, Option.toList_none, List.cons_append, List.nil_append, Nat.reduceAdd, true_or, or_true, Int.reduceNeg, Int.reduceEq, reduceIte, Nat.zero_le, Nat.reduceLeDiff, Nat.le_refl, Nat.reduceEqDiff, List.getElem?_cons_zero, List.getElem?_cons_succ, xst, List.set_cons_zero, List.set_cons_succ, List.map_cons, List.map_nil, List.sum_cons, List.sum_nil, xcat, Nat.reduceMul, Nat.reduceDiv, Nat.reduceMod, Nat.add_zero, e_nil, e_iconst, e_il, e_al, e_ll, e_istore, e_astore, e_lstore, e_ic, e_iadd, e_isub, e_imul, e_iand, e_ior, e_ixor, e_ishl, e_ishr, e_ineg, e_dupi, e_dupr, e_dupx, e_dup2, e_popi, er_g0, er_g1, er_g2, er_g3, er_g4, er_g5, er_g6, er_g7, er_g8, er_g9, er_g10, er_g11, er_g12, er_g13, er_g14, er_g15, er_g16, er_g17, er_g18, er_g19, er_g20, er_g21, er_g22, er_g23, er_g24, er_g25, er_g26, er_g27, er_g28, er_g29, er_g30, er_g31, er_g32, er_g33, er_g34, er_g35, er_g36, er_g37, er_g38, er_g39, er_g40, er_g41, er_g42, er_g43, er_g44, er_g45, er_g46, er_g47, er_s1, er_s2, er_s5, er_s6, er_s8, er_s10, er_s11, er_s13, er_s14, er_s15, er_s16, er_s20, er_s23, er_s24, er_s25, er_s28, er_s30, er_s31, er_s32, er_s33, er_s42, er_s43, er_s44, er_s21a, er_s21b, er_s12a, er_s12b, isc_R, hi1, er_r13, x1, x3, x4, x5, t13, r0, r1, Int.toNat_natCast, ec235, f2, Int.reduceEq, true_and, false_and, or_self, or_true, true_or, or_false, false_or, and_true, and_false, and_self, not_true_eq_false, not_false_eq_true]
end DH
