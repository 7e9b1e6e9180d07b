/-! ===== a day's acts, read by both ===== -/
def q30 : Int × Int × Int := (0, 0, 0)
def tDa (r : xR) : Nat → Int → List (Int × Int × Int) × Int × Int
  | 0, a => ([], a, -1)
  | f + 1, a =>
    if (tPs r 59 (tAct r a).2.1 (tAct r a).2.2).1 = 1 then
      ((tAct r a).1 :: (tDa r f (tPs r 59 (tAct r a).2.1 (tAct r a).2.2).2.1).1, (tDa r f (tPs r 59 (tAct r a).2.1 (tAct r a).2.2).2.1).2)
    else ([(tAct r a).1], (tPs r 59 (tAct r a).2.1 (tAct r a).2.2).2)
theorem tAct_ne {r : xR} {a : Int} (ha : 0 ≤ a) (e : (tAct r a).2.2 = -1) : (tAct r a).1.1 ≠ -1 := by
  unfold tAct at e ⊢
  split
  · split
    · show (104 : Int) ≠ -1
      decide
    · show (104 : Int) ≠ -1
      decide
  · split
    · rename_i c
      dsimp only
      omega
    · split
      · dsimp only; omega
      · split
        · rename_i c
          dsimp only
          omega
        · split
          · split <;> dsimp only <;> omega
          · rename_i c1 c2 c3 c4 c5
            rw [if_neg c1, if_neg c2, if_neg c3, if_neg c4, if_neg c5] at e
            dsimp only at e
            omega
/-- a turn that goes on: the place grows, and stays inside -/
theorem tDa_go {r : xR} {a : Int} {L : Int} (hl : ∀ a, L ≤ a → rHere r a = -1) (h : (tPs r 59 (tAct r a).2.1 (tAct r a).2.2).1 = 1) : a + 2 ≤ (tPs r 59 (tAct r a).2.1 (tAct r a).2.2).2.1 ∧ (tPs r 59 (tAct r a).2.1 (tAct r a).2.2).2.1 ≤ L ∧ (tPs r 59 (tAct r a).2.1 (tAct r a).2.2).2.2 = -1 ∧ (tAct r a).2.2 = -1 := by
  have hat := tAct_at (r := r) (a := a)
  unfold tPs at h ⊢
  split at h
  · rename_i c
    rw [if_pos c]
    dsimp only
    refine ⟨by omega, ?_, c.1, c.1⟩
    refine Classical.byContradiction fun d => ?_
    rw [hl _ (by omega)] at c
    exact absurd c.2 (by decide)
  · cases h
section DB
variable {n : Nat} {h : xH} {r : xR} {H : xH} {a w : Int} {F : Nat → Int}
theorem r_da1 (hs : rSane r) (ha : 0 ≤ a) (ha2 : a < 700) {k : Nat} (hk : k < 79) (J : xV) : ∃ F', lX12_day_39 (gg (n + 5)) ([.inr (.inr (.inl (1, 0))), .inl (k : Int), .inl 1, J], [], hR h (rRj r 13 F a (-1))) = some (.inl 1, ([.inr (.inr (.inl (1, 0))), .inl ((k + 1 : Nat) : Int), .inl (tPs r 59 (tAct r a).2.1 (tAct r a).2.2).1, J], [], hR h (rRj r 13 F' (tPs r 59 (tAct r a).2.1 (tAct r a).2.2).2.1 (tPs r 59 (tAct r a).2.1 (tAct r a).2.2).2.2))) ∧ tAcF F (3 * k) (tAct r a).1 F' := by
  have n4 : (13 : Nat) ≠ 4 := by decide
  have n8 : (13 : Nat) ≠ 8 := by decide
  have hat := tAct_at (r := r) (a := a)
  have x1 : xw ((k : Int) + 1) = ((k + 1 : Nat) : Int) := xw_id (by omega) (by omega)
  have x3 : xw (3 * (k : Int)) = ((3 * k : Nat) : Int) := by rw [xw_id (by omega) (by omega)]; omega
  have ff := u_fine (n := n + 4) (h := h) (r := r) (c := 13) (F := F) (a := a) (w := -1)
  rw [if_pos rfl] at ff
  obtain ⟨F', f1, f2⟩ := r_readAct (n := n + 1) (h := h) (F := F) hs ha ha2 (k := 3 * k) (by omega)
  have fp := u_ps (n := n + 3) (h := h) (r := r) (a := (tAct r a).2.1) (w := (tAct r a).2.2) (F := F') n4 n8 hs (by omega) (by omega) 59
  refine ⟨F', ?_, f2⟩
  generalize tAct r a = q at *
  obtain ⟨q1, q2, q3⟩ := q
  dsimp only at *
  generalize tPs r 59 q2 q3 = p at *
  clear f2 hs hat
  simp -implicitDefEqProofs (disch := first | exact isc_R | (simp only [List.map_cons, List.map_nil, List.sum_cons, List.sum_nil, xcat, Nat.reduceAdd, Nat.reduceLeDiff, Nat.zero_le]; done) | omega) only [lX12_day_39, k_p_sq, k_p_blk, k_sq0, k_sq11, k_sq12, k_sq13, k_sq14, k_sq15, k_sqr, k_sqi, k_blk0, k_blk1, k_blk2, k_blk3, k_blk4, k_blk5, k_blkr, k_blki, k_finr, k_fini, k_mapi, k_bindi, k_if1, k_if2, k_ops, k_br, k_rv, k_ri, k_rl, k_rz, k_rzi, k_01d, k_sw, k_01a, k_01b, k_01c, k_ifn, x_cmp, decide_eq_true_eq, Option.map_some, Option.bind_some, Option.toList_some, Option.toList_none, List.cons_append, List.nil_append, Nat.reduceAdd, true_or, or_true, Int.reduceNeg, Int.reduceEq, reduceIte, Nat.zero_le, Nat.reduceLeDiff, Nat.le_refl, Nat.reduceEqDiff, List.getElem?_cons_zero, List.getElem?_cons_succ, xst, List.set_cons_zero, List.set_cons_succ, List.map_cons, List.map_nil, List.sum_cons, List.sum_nil, xcat, Nat.reduceMul, Nat.reduceDiv, Nat.reduceMod, Nat.add_zero, e_nil, e_iconst, e_il, e_al, e_ll, e_istore, e_astore, e_lstore, e_ic, e_iadd, e_isub, e_imul, e_iand, e_ior, e_ixor, e_ishl, e_ishr, e_ineg, e_dupi, e_dupr, e_dupx, e_dup2, e_popi, er_g0, er_g1, er_g2, er_g3, er_g4, er_g5, er_g6, er_g7, er_g8, er_g9, er_g10, er_g11, er_g12, er_g13, er_g14, er_g15, er_g16, er_g17, er_g18, er_g19, er_g20, er_g21, er_g22, er_g23, er_g24, er_g25, er_g26, er_g27, er_g28, er_g29, er_g30, er_g31, er_g32, er_g33, er_g34, er_g35, er_g36, er_g37, er_g38, er_g39, er_g40, er_g41, er_g42, er_g43, er_g44, er_g45, er_g46, er_g47, er_s1, er_s2, er_s5, er_s6, er_s8, er_s10, er_s11, er_s13, er_s14, er_s15, er_s16, er_s20, er_s23, er_s24, er_s25, er_s28, er_s30, er_s31, er_s32, er_s33, er_s42, er_s43, er_s44, er_s21a, er_s21b, er_s12a, er_s12b, isc_R, ec182, ec234, ec184, ff, f1, fp, isc_Rj, rRj_g, x1, x3, Int.reduceEq, Nat.reduceEqDiff, true_and, false_and, or_self, or_true, true_or, or_false, false_or, and_true, and_false, and_self, not_true_eq_false, not_false_eq_true]
theorem r_daL (hs : rSane r) (hl : ∀ a, (60 : Int) ≤ a → rHere r a = -1) (J : xV) : ∀ (f k : Nat) (a : Int) (F : Nat → Int), 2 * (k : Int) ≤ a → a ≤ 60 → 62 ≤ a + 2 * f → ∃ F', p_lop (lX12_day_39 (gg (n + 5))) ([.inr (.inr (.inl (1, 0))), .inl (k : Int), .inl 1, J], [], hR h (rRj r 13 F a (-1))) = some (.inl 1, ([.inr (.inr (.inl (1, 0))), .inl ((k + (tDa r f a).1.length : Nat) : Int), .inl 0, J], [], hR h (rRj r 13 F' (tDa r f a).2.1 (tDa r f a).2.2))) ∧ (∀ i, i < 3 * k → F' i = F i) ∧ ((tDa r f a).2.2 = -1 → ∀ i, i < (tDa r f a).1.length → tAc F' (3 * (k + i)) ((tDa r f a).1.getD i q30))
  | 0, k, a, F, h1, h2, h3 => by omega
  | f + 1, k, a, F, h1, h2, h3 => by
    obtain ⟨F1, e1, e2, e3⟩ := r_da1 (n := n) (h := h) (F := F) hs (show 0 ≤ a by omega) (by omega) (k := k) (by omega) J
    have hgo := tDa_go (r := r) (a := a) hl
    have hne := tAct_ne (r := r) (a := a) (by omega)
    have hw : (tPs r 59 (tAct r a).2.1 (tAct r a).2.2).2.2 = (tAct r a).2.2 := tPs_w
    unfold tDa
    rcases tPs_01 (r := r) (k := 59) (a := (tAct r a).2.1) (w := (tAct r a).2.2) with z | z
    · rw [if_neg (by rw [z]; decide)]
      rw [z] at e1
      dsimp only
      refine ⟨F1, ?_, e2, ?_⟩
      · rw [k_l1 e1]
        refine k_l2 (k := 0) ?_
        simp -implicitDefEqProofs (disch := first | exact isc_R | (simp only [List.map_cons, List.map_nil, List.sum_cons, List.sum_nil, xcat, Nat.reduceAdd, Nat.reduceLeDiff, Nat.zero_le]; done) | omega) only [lX12_day_39, k_p_sq, k_p_blk, k_sq0, k_sq11, k_sq12, k_sq13, k_sq14, k_sq15, k_sqr, k_sqi, k_blk0, k_blk1, k_blk2, k_blk3, k_blk4, k_blk5, k_blkr, k_blki, k_finr, k_fini, k_mapi, k_bindi, k_if1, k_if2, k_ops, k_br, k_rv, k_ri, k_rl, k_rz, k_rzi, k_01d, k_sw, k_01a, k_01b, k_01c, k_ifn, x_cmp, decide_eq_true_eq, Option.map_some, Option.bind_some, Option.toList_some, Option.toList_none, List.cons_append, List.nil_append, Nat.reduceAdd, true_or, or_true, Int.reduceNeg, Int.reduceEq, reduceIte, Nat.zero_le, Nat.reduceLeDiff, Nat.le_refl, Nat.reduceEqDiff, List.getElem?_cons_zero, List.getElem?_cons_succ, xst, List.set_cons_zero, List.set_cons_succ, List.map_cons, List.map_nil, List.sum_cons, List.sum_nil, xcat, Nat.reduceMul, Nat.reduceDiv, Nat.reduceMod, Nat.add_zero, e_nil, e_iconst, e_il, e_al, e_ll, e_istore, e_astore, e_lstore, e_ic, e_iadd, e_isub, e_imul, e_iand, e_ior, e_ixor, e_ishl, e_ishr, e_ineg, e_dupi, e_dupr, e_dupx, e_dup2, e_popi, er_g0, er_g1, er_g2, er_g3, er_g4, er_g5, er_g6, er_g7, er_g8, er_g9, er_g10, er_g11, er_g12, er_g13, er_g14, er_g15, er_g16, er_g17, er_g18, er_g19, er_g20, er_g21, er_g22, er_g23, er_g24, er_g25, er_g26, er_g27, er_g28, er_g29, er_g30, er_g31, er_g32, er_g33, er_g34, er_g35, er_g36, er_g37, er_g38, er_g39, er_g40, er_g41, er_g42, er_g43, er_g44, er_g45, er_g46, er_g47, er_s1, er_s2, er_s5, er_s6, er_s8, er_s10, er_s11, er_s13, er_s14, er_s15, er_s16, er_s20, er_s23, er_s24, er_s25, er_s28, er_s30, er_s31, er_s32, er_s33, er_s42, er_s43, er_s44, er_s21a, er_s21b, er_s12a, er_s12b, isc_R, Int.reduceEq]
        rfl
      · intro hf i hi
        have i0 : i = 0 := by
          have : i < 1 := hi
          omega
        subst i0
        exact e3 (hne (by rw [← hw]; exact hf))
    · rw [if_pos z]
      obtain ⟨g1, g2, g3, g4⟩ := hgo z
      rw [z, g3] at e1
      obtain ⟨F2, k1, k2, k3⟩ := r_daL hs hl J f (k + 1) (tPs r 59 (tAct r a).2.1 (tAct r a).2.2).2.1 F1 (by omega) (by omega) (by omega)
      dsimp only
      refine ⟨F2, ?_, fun i hi => by rw [k2 i (by omega)]; exact e2 i hi, ?_⟩
      · rw [k_l1 e1, k1]
        rw [List.length_cons, show k + ((tDa r f (tPs r 59 (tAct r a).2.1 (tAct r a).2.2).2.1).1.length + 1) = k + 1 + (tDa r f (tPs r 59 (tAct r a).2.1 (tAct r a).2.2).2.1).1.length by omega]
      · intro hf i hi
        cases i with
        | zero =>
          obtain ⟨t1, t2, t3⟩ := e3 (hne g4)
          rw [Nat.add_zero]
          exact ⟨by rw [k2 _ (by omega)]; exact t1, by rw [k2 _ (by omega)]; exact t2, fun hq => by rw [k2 _ (by omega)]; exact t3 hq⟩
        | succ i =>
          have := k3 hf i (by rw [List.length_cons] at hi; omega)
          rw [show k + (i + 1) = k + 1 + i by omega]
          exact this
end DB
section DC
variable {n : Nat} {h : xH} {c : xQ} {r : xR} {H : xH} {T m : Nat} {a w : Int}
theorem cRd_10 (c : xQ) (A B D : Nat → Int) (a b v : Int) : q_i (cRd (qD c A B D) a b) 10 v = cRd (qD (q_i c 10 v) A B D) a b := by
  refine Prod.ext (funext fun i => ?_) rfl
  show xfu (xfu (xfu c.1 4 a) 5 b) 10 v i = xfu (xfu (xfu c.1 10 v) 4 a) 5 b i
  rw [xfu_comm _ _ _ (by decide : (5 : Nat) ≠ 10), xfu_comm _ _ _ (by decide : (4 : Nat) ≠ 10)]
theorem c_daL (hx : TX r c T m) (hl : ∀ a, (60 : Int) ≤ a → rHere r a = -1) : ∀ (f k : Nat) (a : Int) (A B D : Nat → Int), 2 * (k : Int) ≤ a → a ≤ 60 → 62 ≤ a + 2 * f → ∃ (a1 : Int) (A' B' D' : Nat → Int), p_lop (lX1_read_24 (gg (n + 4))) ([.inr (.inr (.inl (0, 11))), .inr (.inr (.inl (0, 1))), .inl 1], [], hC h (cRd (qD (q_i c 10 (k : Int)) A B D) a (-1))) = some (.inl 1, ([.inr (.inr (.inl (0, 11))), .inr (.inr (.inl (0, 1))), .inl 0], [], hC h (cRd (qD (q_i c 10 ((k + (tDa r f a).1.length : Nat) : Int)) A' B' D') a1 (tDa r f a).2.2))) ∧ RS a1 (tDa r f a).2.2 (tDa r f a).2.1 (tDa r f a).2.2 ∧ a1 ≤ 70 ∧ (∀ i, i < k → A' i = A i ∧ B' i = B i ∧ D' i = D i) ∧ ((tDa r f a).2.2 = -1 → ∀ i, i < (tDa r f a).1.length → (A' (k + i), B' (k + i), D' (k + i)) = (tDa r f a).1.getD i q30)
  | 0, k, a, A, B, D, h1, h2, h3 => by omega
  | f + 1, k, a, A, B, D, h1, h2, h3 => by
    have hx2 : TX r (q_i c 10 (k : Int)) T m := hx
    obtain ⟨a1, v, x, y, B1, f1, r1, l1, b1, v1⟩ := c_act0 (n := n) (h := h) (A := A) (B := B) (D := D) hx2 (k := k) (by omega) rfl (show 0 ≤ a by omega) (by omega)
    obtain ⟨a2, f2, r2, l2⟩ := k_take (n := n + 2) (h := h) (k := 59) (qD_tx (c := q_i c 10 ((k + 1 : Nat) : Int)) hx (xfu A k v) B1 (xfu D k y)) r1 (by omega) (by decide)
    have hgo := tDa_go (r := r) (a := a) hl
    have hw : (tPs r 59 (tAct r a).2.1 (tAct r a).2.2).2.2 = (tAct r a).2.2 := tPs_w
    have x1 : xw ((k : Int) + 1) = ((k + 1 : Nat) : Int) := xw_id (by omega) (by omega)
    have g10 : ∀ (A B D : Nat → Int) (a b v : Int), (cRd (qD (q_i c 10 v) A B D) a b).1 10 = v := fun _ _ _ _ _ _ => rfl
    have d31 : ¬ (31 : Int) ≤ (k : Int) := by omega
    have e1 : lX1_read_24 (gg (n + 4)) ([.inr (.inr (.inl (0, 11))), .inr (.inr (.inl (0, 1))), .inl 1], [], hC h (cRd (qD (q_i c 10 (k : Int)) A B D) a (-1))) = some (.inl 1, ([.inr (.inr (.inl (0, 11))), .inr (.inr (.inl (0, 1))), .inl (tPs r 59 (tAct r a).2.1 (tAct r a).2.2).1], [], hC h (cRd (qD (q_i c 10 ((k + 1 : Nat) : Int)) (xfu A k v) B1 (xfu D k y)) a2 (tPs r 59 (tAct r a).2.1 (tAct r a).2.2).2.2))) := by
      generalize tAct r a = q at *
      generalize tPs r 59 q.2.1 q.2.2 = p at *
      generalize xfu A k v = A2 at *
      generalize xfu D k y = D2 at *
      generalize ((k + 1 : Nat) : Int) = K at *
      clear hx hx2 r1 r2 hgo v1 b1 hl h1 h2 h3 l1 l2 hw
      simp -implicitDefEqProofs (disch := first | with_reducible assumption | with_reducible exact isc_zs (by assumption) | with_reducible exact isc_zs (by decide) | with_reducible exact isc_zb (by assumption) (by assumption) | with_reducible exact isc_zb (by decide) (by assumption) | with_reducible exact isc_zg (by assumption) (by assumption) | with_reducible exact isc_zl (by assumption) (by assumption) | with_reducible exact isc_0 | with_reducible exact isc_1 | with_reducible exact isc_3 | with_reducible exact isc_7 | with_reducible exact isc_11 | with_reducible exact isc_15 | with_reducible exact isc_19 | with_reducible exact isc_24 | with_reducible exact isc_25 | (simp only [List.map_cons, List.map_nil, List.sum_cons, List.sum_nil, xcat, Nat.reduceAdd, Nat.reduceLeDiff, Nat.zero_le]; done) | omega) only [lX1_read_24, k_p_sq, k_p_blk, k_sq0, k_sq11, k_sq12, k_sq13, k_sq14, k_sq15, k_sqr, k_sqi, k_blk0, k_blk1, k_blk2, k_blk3, k_blk4, k_blk5, k_blkr, k_blki, k_finr, k_fini, k_mapi, k_bindi, k_if1, k_if2, k_ops, k_br, k_rv, k_ri, k_rl, k_rz, k_rzi, k_01d, k_sw, k_01a, k_01b, k_01c, k_ifn, x_cmp, decide_eq_true_eq, Option.map_some, Option.bind_some, Option.toList_some, Option.toList_none, List.cons_append, List.nil_append, Nat.reduceAdd, true_or, or_true, Int.reduceNeg, Int.reduceEq, reduceIte, Nat.zero_le, Nat.reduceLeDiff, Nat.le_refl, Nat.reduceEqDiff, List.getElem?_cons_zero, List.getElem?_cons_succ, xst, List.set_cons_zero, List.set_cons_succ, List.map_cons, List.map_nil, List.sum_cons, List.sum_nil, xcat, Nat.reduceMul, Nat.reduceDiv, Nat.reduceMod, Nat.add_zero, e_nil, e_iconst, e_il, e_al, e_ll, e_istore, e_astore, e_lstore, e_ic, e_iadd, e_isub, e_imul, e_iand, e_ior, e_ixor, e_ishl, e_ishr, e_ineg, e_dupi, e_dupr, e_dupx, e_dup2, e_popi, eo_g0, eo_g1, eo_g2, eo_g3, eo_g4, eo_g5, eo_g6, eo_g7, eo_g8, eo_g9, eo_g10, eo_g11, eo_g12, eo_g13, eo_g14, eo_s14, eo_g15, eo_g16, eo_s16, et_g0, et_g1, et_s1, et_g2, et_s2, et_g3, et_s3, et_g4, et_s4, eu_g0, eu_g1, eu_s1, eu_g2, eu_g3, eu_s3, eu_g4, eh_g0, eh_g1, eh_s1, eh_g2, eh_s2, ed_g0, ed_g1, ed_g2, ed_g3, ed_s3, ew_g0, ew_g1, ew_g2, ew_g3, ew_s3, en_g0, en_g1, en_s1, en_g2, en_g3, en_g4, en_g5, en_s5, ex_g0, ex_s0, eq_g0, eq_s0, eq_g1, eq_s1, eq_g2, eq_s2, eq_g3, eq_s3, eq_g4, eq_s4, eq_g5, eq_s5, eq_g6, eq_s6, eq_g7, eq_s7, ez_g0, ez_g1, ez_g2, ez_g3, ez_s3, ez_g4, ez_s4, ez_g5, ez_s5, ez_g6, ez_s6, ez_g7, ez_s7, ez_g8, ez_s8, ez_g9, ez_s9, ez_g10, ez_s10, ez_g11, ez_s11, ez_g12, ez_s12, ez_g13, ez_s13, ez_g14, ez_g15, ez_b0g, ez_b0s, ez_b1g, ez_b1s, ez_b2g, ez_b2s, ez_b3g, ez_b3s, ez_b4g, ez_b4s, ez_b5g, ez_b5s, ez_ba, ez_g0g, ez_g0s, ez_g1g, ez_g1s, ez_g2g, ez_g2s, ez_g3g, ez_g3s, ez_g4g, ez_g4s, ez_g5g, ez_g5s, ez_g6g, ez_g6s, ez_g7g, ez_g7s, ez_ga, ez_l0g, ez_l0s, ez_l1g, ez_l1s, ez_l2g, ez_l2s, ez_la, q_zs, q_zz, q_z1, q_z2, q_i2, q_ig, q_iz, q_jz, true_and, false_and, or_self, or_true, true_or, or_false, false_or, and_true, and_false, and_self, not_true_eq_false, not_false_eq_true, g10, d31, ec7, f1, x1, cRd_10, q_ii, ec87, f2, Int.reduceEq]
    unfold tDa
    rcases tPs_01 (r := r) (k := 59) (a := (tAct r a).2.1) (w := (tAct r a).2.2) with z | z
    · rw [if_neg (by rw [z]; decide)]
      rw [z] at e1
      dsimp only
      refine ⟨a2, xfu A k v, B1, xfu D k y, ?_, r2, by omega, fun i hi => ⟨xfu_ne _ _ (by omega), b1 i (by omega), xfu_ne _ _ (by omega)⟩, ?_⟩
      · rw [k_l1 e1]
        refine k_l2 (k := 0) ?_
        generalize (tPs r 59 (tAct r a).2.1 (tAct r a).2.2).2.2 = W at *
        clear hx hx2 r1 r2 hgo v1 b1 hl h1 h2 h3 l1 l2 hw f1 f2 e1
        simp -implicitDefEqProofs (disch := first | with_reducible assumption | with_reducible exact isc_zs (by assumption) | with_reducible exact isc_zs (by decide) | with_reducible exact isc_zb (by assumption) (by assumption) | with_reducible exact isc_zb (by decide) (by assumption) | with_reducible exact isc_zg (by assumption) (by assumption) | with_reducible exact isc_zl (by assumption) (by assumption) | with_reducible exact isc_0 | with_reducible exact isc_1 | with_reducible exact isc_3 | with_reducible exact isc_7 | with_reducible exact isc_11 | with_reducible exact isc_15 | with_reducible exact isc_19 | with_reducible exact isc_24 | with_reducible exact isc_25 | (simp only [List.map_cons, List.map_nil, List.sum_cons, List.sum_nil, xcat, Nat.reduceAdd, Nat.reduceLeDiff, Nat.zero_le]; done) | omega) only [lX1_read_24, k_p_sq, k_p_blk, k_sq0, k_sq11, k_sq12, k_sq13, k_sq14, k_sq15, k_sqr, k_sqi, k_blk0, k_blk1, k_blk2, k_blk3, k_blk4, k_blk5, k_blkr, k_blki, k_finr, k_fini, k_mapi, k_bindi, k_if1, k_if2, k_ops, k_br, k_rv, k_ri, k_rl, k_rz, k_rzi, k_01d, k_sw, k_01a, k_01b, k_01c, k_ifn, x_cmp, decide_eq_true_eq, Option.map_some, Option.bind_some, Option.toList_some, Option.toList_none, List.cons_append, List.nil_append, Nat.reduceAdd, true_or, or_true, Int.reduceNeg, Int.reduceEq, reduceIte, Nat.zero_le, Nat.reduceLeDiff, Nat.le_refl, Nat.reduceEqDiff, List.getElem?_cons_zero, List.getElem?_cons_succ, xst, List.set_cons_zero, List.set_cons_succ, List.map_cons, List.map_nil, List.sum_cons, List.sum_nil, xcat, Nat.reduceMul, Nat.reduceDiv, Nat.reduceMod, Nat.add_zero, e_nil, e_iconst, e_il, e_al, e_ll, e_istore, e_astore, e_lstore, e_ic, e_iadd, e_isub, e_imul, e_iand, e_ior, e_ixor, e_ishl, e_ishr, e_ineg, e_dupi, e_dupr, e_dupx, e_dup2, e_popi, eo_g0, eo_g1, eo_g2, eo_g3, eo_g4, eo_g5, eo_g6, eo_g7, eo_g8, eo_g9, eo_g10, eo_g11, eo_g12, eo_g13, eo_g14, eo_s14, eo_g15, eo_g16, eo_s16, et_g0, et_g1, et_s1, et_g2, et_s2, et_g3, et_s3, et_g4, et_s4, eu_g0, eu_g1, eu_s1, eu_g2, eu_g3, eu_s3, eu_g4, eh_g0, eh_g1, eh_s1, eh_g2, eh_s2, ed_g0, ed_g1, ed_g2, ed_g3, ed_s3, ew_g0, ew_g1, ew_g2, ew_g3, ew_s3, en_g0, en_g1, en_s1, en_g2, en_g3, en_g4, en_g5, en_s5, ex_g0, ex_s0, eq_g0, eq_s0, eq_g1, eq_s1, eq_g2, eq_s2, eq_g3, eq_s3, eq_g4, eq_s4, eq_g5, eq_s5, eq_g6, eq_s6, eq_g7, eq_s7, ez_g0, ez_g1, ez_g2, ez_g3, ez_s3, ez_g4, ez_s4, ez_g5, ez_s5, ez_g6, ez_s6, ez_g7, ez_s7, ez_g8, ez_s8, ez_g9, ez_s9, ez_g10, ez_s10, ez_g11, ez_s11, ez_g12, ez_s12, ez_g13, ez_s13, ez_g14, ez_g15, ez_b0g, ez_b0s, ez_b1g, ez_b1s, ez_b2g, ez_b2s, ez_b3g, ez_b3s, ez_b4g, ez_b4s, ez_b5g, ez_b5s, ez_ba, ez_g0g, ez_g0s, ez_g1g, ez_g1s, ez_g2g, ez_g2s, ez_g3g, ez_g3s, ez_g4g, ez_g4s, ez_g5g, ez_g5s, ez_g6g, ez_g6s, ez_g7g, ez_g7s, ez_ga, ez_l0g, ez_l0s, ez_l1g, ez_l1s, ez_l2g, ez_l2s, ez_la, q_zs, q_zz, q_z1, q_z2, q_i2, q_ig, q_iz, q_jz, true_and, false_and, or_self, or_true, true_or, or_false, false_or, and_true, and_false, and_self, not_true_eq_false, not_false_eq_true, Int.reduceEq, List.length_singleton]
      · intro hf i hi
        have i0 : i = 0 := by
          have : i < 1 := hi
          omega
        subst i0
        rw [Nat.add_zero, xfu_self, xfu_self]
        obtain ⟨k1, k2⟩ := v1 (by rw [← hw]; exact hf)
        rw [k1]
        exact k2
    · rw [if_pos z]
      obtain ⟨g1, g2, g3, g4⟩ := hgo z
      have ha2 : a2 = (tPs r 59 (tAct r a).2.1 (tAct r a).2.2).2.1 := r2.2.1 g3
      rw [z, g3, ha2] at e1
      obtain ⟨a3, A3, B3, D3, k1, k2, k3, k4, k5⟩ := c_daL hx hl f (k + 1) (tPs r 59 (tAct r a).2.1 (tAct r a).2.2).2.1 (xfu A k v) B1 (xfu D k y) (by omega) (by omega) (by omega)
      dsimp only
      refine ⟨a3, A3, B3, D3, ?_, k2, k3, fun i hi => ?_, ?_⟩
      · rw [k_l1 e1, k1]
        rw [List.length_cons, show k + ((tDa r f (tPs r 59 (tAct r a).2.1 (tAct r a).2.2).2.1).1.length + 1) = k + 1 + (tDa r f (tPs r 59 (tAct r a).2.1 (tAct r a).2.2).2.1).1.length by omega]
      · obtain ⟨j1, j2, j3⟩ := k4 i (by omega)
        rw [j1, j2, j3]
        exact ⟨xfu_ne _ _ (by omega), b1 i (by omega), xfu_ne _ _ (by omega)⟩
      · intro hf i hi
        cases i with
        | zero =>
          obtain ⟨j1, j2, j3⟩ := k4 k (by omega)
          rw [Nat.add_zero, j1, j2, j3, xfu_self, xfu_self]
          obtain ⟨m1, m2⟩ := v1 g4
          rw [m1]
          exact m2
        | succ i =>
          have := k5 hf i (by rw [List.length_cons] at hi; omega)
          rw [show k + (i + 1) = k + 1 + i by omega]
          exact this
end DC
