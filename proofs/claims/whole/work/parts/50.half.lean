/-! ===== loops with a rest that nobody looks at ===== -/
theorem k_l1 {a : xP} {s t : xS} (h : a s = some (.inl 1, t)) : p_lop a s = p_lop a t := by rw [p_lop_eq, h]
theorem k_l2 {a : xP} {s t : xS} {k : Nat} (h : a s = some (.inl (k + 2), t)) : p_lop a s = some (.inl (k + 1), t) := by rw [p_lop_eq, h]
theorem k_lr {a : xP} {s t : xS} {v : Option xV} (h : a s = some (.inr v, t)) : p_lop a s = some (.inr v, t) := by rw [p_lop_eq, h]
theorem k_lE {α : Type} {a : xP} (s : Nat → α → xS) : ∀ (m i : Nat) (J : α), (∀ i', i ≤ i' → i' < i + m → ∀ J, ∃ J', a (s i' J) = some (.inl 1, s (i' + 1) J')) → ∃ J', p_lop a (s i J) = p_lop a (s (i + m) J')
  | 0, i, J, _ => ⟨J, rfl⟩
  | m + 1, i, J, hs => by
    obtain ⟨J1, e1⟩ := hs i (Nat.le_refl _) (by omega) J
    obtain ⟨J2, e2⟩ := k_lE s m (i + 1) J1 (fun i' h1 h2 => hs i' (by omega) (by omega))
    refine ⟨J2, ?_⟩
    rw [k_l1 e1, e2, show i + 1 + m = i + (m + 1) from by omega]
theorem k_forE {α : Type} {a : xP} (s : Nat → α → xS) (N : Nat) {k : Nat} {t : xS} {e : α → xS} (J0 : α) (h0 : s 0 J0 = t) (he : ∀ J, a (s N J) = some (.inl (k + 2), e J)) (hs : ∀ i, i < N → ∀ J, ∃ J', a (s i J) = some (.inl 1, s (i + 1) J')) : ∃ J', p_lop a t = some (.inl (k + 1), e J') := by
  obtain ⟨J1, e1⟩ := k_lE s N 0 J0 (fun i _ h2 => hs i (by omega))
  refine ⟨J1, ?_⟩
  rw [← h0, e1, Nat.zero_add]
  exact k_l2 (he J1)
/-! ===== a half hour ===== -/
def kGulls (k : xKx) : Nat → xFl → xFl
  | 0, F => F
  | m + 1, F => if (kGulls k m F).1 (68 + m) = 1 then kGull k m (kGulls k m F) else kGulls k m F
def kHalf (k : xKx) (F : xFl) : xFl :=
  let F1 := kGulls k (kN k) (xit boat1 (kB k) F.1, 0, 0, 0, F.2.2.2.2)
  (xfu F1.1 115 (xw (F1.1 115 + 1)), F1.2)
/-- what gulls bear is a letter -/
def kBear (N : Nat) (a : Nat → Int) : Prop := ∀ g, g < N → (a (76 + g) = -1 ∨ (0 ≤ a (76 + g) ∧ a (76 + g) < 10))
/-- what one gull's half hour leaves -/
theorem kGull_76 (k : xKx) {g g' : Nat} (F : xFl) (hg : g < 8) (hg' : g' < 8) (hl : F.1 (76 + g) = -1 ∨ (0 ≤ F.1 (76 + g) ∧ F.1 (76 + g) < 10)) : (kGull k g F).1 (76 + g') = F.1 (76 + g') ∨ (kGull k g F).1 (76 + g') = -1 := by
  unfold kGull
  dsimp only
  generalize rAim (kStorm k) (kB k) (kHome k) F.1 g = q
  generalize kRg k F.1 g (rFar F.1 g q) = rg
  generalize (rToward (F.1 (52 + g)) (if q = -1 then 0 else F.1 q.toNat) rg) = v1
  generalize (mMax 0 (xw (rg - mAbs (xw (F.1 (52 + g) - if q = -1 then 0 else F.1 q.toNat))))) = v2
  generalize (rToward (xfu F.1 (52 + g) v1 (60 + g)) (if q = -1 then 0 else F.1 (6 + q.toNat)) v2) = v3
  have e : ∀ i, 76 ≤ i → (xfu (xfu F.1 (52 + g) v1) (60 + g) v3) i = F.1 i := fun i hi => by rw [xfu_ne _ _ (by omega), xfu_ne _ _ (by omega)]
  generalize (xfu (xfu F.1 (52 + g) v1) (60 + g) v3) = a2 at e
  rw [← e _ (by omega)] at hl
  rw [← e (76 + g') (by omega)]
  generalize a2 (76 + g) = l at hl
  by_cases c : g' = g
  · subst c
    repeat' split
    all_goals simp (disch := omega) only [xfu_ne, xfu_self, true_or, or_true]
  · repeat' split
    all_goals simp (disch := omega) only [xfu_ne, xfu_self, true_or, or_true]
theorem kBear_gull {k : xKx} {g N : Nat} {F : xFl} (hN : N ≤ 8) (hg : g < N) (hl : kBear N F.1) : kBear N (kGull k g F).1 := fun g' hg' => by
  rcases kGull_76 k F (show g < 8 by omega) (show g' < 8 by omega) (hl g hg) with e | e
  · rw [e]; exact hl g' hg'
  · exact Or.inl e
theorem kBear_gulls {k : xKx} {N : Nat} {F : xFl} (hN : N ≤ 8) (hl : kBear N F.1) : ∀ m, m ≤ N → kBear N (kGulls k m F).1
  | 0, _ => hl
  | m + 1, hm => by
    unfold kGulls
    split
    · exact kBear_gull hN (by omega) (kBear_gulls hN hl m (by omega))
    · exact kBear_gulls hN hl m (by omega)
theorem boat1_far {b i : Nat} (a : Nat → Int) (hb : b < 6) (hi : 24 ≤ i) : boat1 b a i = a i := by
  unfold boat1
  try dsimp only
  repeat' split
  all_goals simp (disch := omega) only [xfu_ne]
theorem boats_far {i : Nat} (hi : 24 ≤ i) (a : Nat → Int) : ∀ B, B ≤ 6 → xit boat1 B a i = a i
  | 0, _ => rfl
  | B + 1, hB => by
    show boat1 B (xit boat1 B a) i = a i
    rw [boat1_far _ (by omega) hi, boats_far hi a B (by omega)]
theorem kBear_half {k : xKx} {F : xFl} (hB : kB k ≤ 6) (hN : kN k ≤ 8) (hl : kBear (kN k) F.1) : kBear (kN k) (kHalf k F).1 := by
  have e1 : kBear (kN k) (xit boat1 (kB k) F.1) := fun g hg => by rw [boats_far (by omega) _ _ hB]; exact hl g hg
  have e2 := kBear_gulls (k := k) (F := (xit boat1 (kB k) F.1, 0, 0, 0, F.2.2.2.2)) hN e1 (kN k) (Nat.le_refl _)
  intro g hg
  unfold kHalf
  try dsimp only
  rw [xfu_ne _ _ (by omega)]
  exact e2 g hg
section GW
variable {n : Nat} {h : xH} {r : xR} {H : xH} {j : Nat} {F : xFl} {J : xR}
/-- what holds of the reference's numbers where a half hour goes by -/
def rOk (r : xR) : Prop := (0 ≤ r.1 1 ∧ r.1 1 ≤ 6) ∧ (0 ≤ r.1 2 ∧ r.1 2 ≤ 8) ∧ (∀ g, g < (r.1 2).toNat → (0 ≤ r.2 2 g ∧ r.2 2 g < 6)) ∧ r.1 20 ≤ 40
set_option maxHeartbeats 400000 in
theorem r_goHalf (hj : j = 1 ∨ j = 12 ∨ j = 14) (hr : rOk r) (hl : kBear (kN (rK r)) F.1) : ∃ J', (gg (n + 823) 211).2 [.inr (.inr (.inl (1, 0))), .inr (.inr (.inl (1, j)))] (hR h (rW r j F J)) = some (none, hR h (rW r j (kHalf (rK r) F) J')) := by
  obtain ⟨⟨b0, b1⟩, ⟨n0, n1⟩, hh, hS⟩ := hr
  have f1 := r_goBoats (n := n + 820) (h := h) (r := rW r j (F.1, 0, 0, 0, F.2.2.2.2) J) (B := (r.1 1).toNat) hj (by omega) (by rw [rW_1]; omega)
  rw [rW_j, rW_pj] at f1
  have hN : kN (rK r) ≤ 8 := by show (r.1 2).toNat ≤ 8; omega
  have e1 : kBear (kN (rK r)) (xit boat1 (kB (rK r)) F.1) := fun g hg => by rw [boats_far (by omega) _ _ (by show (r.1 1).toNat ≤ 6; omega)]; exact hl g hg
  have f1 : (gg (n + 822) 206).2 [.inr (.inr (.inl (1, 0))), .inr (.inr (.inl (1, j)))] (hR h (rW r j (F.1, 0, 0, 0, F.2.2.2.2) J)) = some (none, hR h (rW r j (xit boat1 (kB (rK r)) F.1, 0, 0, 0, F.2.2.2.2) J)) := f1
  unfold kHalf
  dsimp only
  generalize hF0 : ((xit boat1 (kB (rK r)) F.1, 0, 0, 0, F.2.2.2.2) : xFl) = F0 at f1
  have hb0 : kBear (kN (rK r)) F0.1 := by rw [← hF0]; exact e1
  have hk : r.1 2 = (kN (rK r) : Int) := by show r.1 2 = ((r.1 2).toNat : Int); omega
  have key : ∃ J1, p_lop (lX12_goHalf_22 (gg (n + 822))) ([.inr (.inr (.inl (1, 0))), .inr (.inr (.inl (1, j))), .inl 0], [], hR h (rW r j F0 J)) = some (.inl (0 + 1), ([.inr (.inr (.inl (1, 0))), .inr (.inr (.inl (1, j))), .inl (kN (rK r) : Int)], [], hR h (rW r j (kGulls (rK r) (kN (rK r)) F0) J1))) := by
    refine k_forE (fun i J => ([.inr (.inr (.inl (1, 0))), .inr (.inr (.inl (1, j))), .inl (i : Int)], [], hR h (rW r j (kGulls (rK r) i F0) J))) (kN (rK r)) (e := fun J1 => ([.inr (.inr (.inl (1, 0))), .inr (.inr (.inl (1, j))), .inl (kN (rK r) : Int)], [], hR h (rW r j (kGulls (rK r) (kN (rK r)) F0) J1))) J rfl ?_ ?_
    · intro J'
      simp -implicitDefEqProofs (disch := first | exact isc_R | (simp only [List.map_cons, List.map_nil, List.sum_cons, List.sum_nil, xcat, Nat.reduceAdd, Nat.reduceLeDiff, Nat.zero_le]; done) | omega) only [lX12_goHalf_22, k_p_sq, k_p_blk, k_sq0, k_sq11, k_sq12, k_sq13, k_sq14, k_sq15, k_sqr, k_sqi, k_blk0, k_blk1, k_blk2, k_blk3, k_blk4, k_blk5, k_blkr, k_blki, k_finr, k_fini, k_mapi, k_bindi, k_if1, k_if2, k_ops, k_br, k_rv, k_ri, k_rl, k_rz, k_rzi, k_01d, k_sw, k_01a, k_01b, k_01c, k_ifn, x_cmp, decide_eq_true_eq, Option.map_some, Option.bind_some, Option.toList_some, Option.toList_none, List.cons_append, List.nil_append, Nat.reduceAdd, true_or, or_true, Int.reduceNeg, Int.reduceEq, reduceIte, Nat.zero_le, Nat.reduceLeDiff, Nat.le_refl, Nat.reduceEqDiff, List.getElem?_cons_zero, List.getElem?_cons_succ, xst, List.set_cons_zero, List.set_cons_succ, List.map_cons, List.map_nil, List.sum_cons, List.sum_nil, xcat, Nat.reduceMul, Nat.reduceDiv, Nat.reduceMod, Nat.add_zero, e_nil, e_iconst, e_il, e_al, e_ll, e_istore, e_astore, e_lstore, e_ic, e_iadd, e_isub, e_imul, e_iand, e_ior, e_ixor, e_ishl, e_ishr, e_ineg, e_dupi, e_dupr, e_dupx, e_dup2, e_popi, er_g0, er_g1, er_g2, er_g3, er_g4, er_g5, er_g6, er_g7, er_g8, er_g9, er_g10, er_g11, er_g12, er_g13, er_g14, er_g15, er_g16, er_g17, er_g18, er_g19, er_g20, er_g21, er_g22, er_g23, er_g24, er_g25, er_g26, er_g27, er_g28, er_g29, er_g30, er_g31, er_g32, er_g33, er_g34, er_g35, er_g36, er_g37, er_g38, er_g39, er_g40, er_g41, er_g42, er_g43, er_g44, er_g45, er_g46, er_g47, er_s1, er_s2, er_s5, er_s6, er_s8, er_s10, er_s11, er_s13, er_s14, er_s15, er_s16, er_s20, er_s23, er_s24, er_s25, er_s28, er_s30, er_s31, er_s32, er_s33, er_s42, er_s43, er_s44, er_s21a, er_s21b, er_s12a, er_s12b, isc_R, rW_2, hk, Int.le_refl]
    · intro i hi J'
      have hb := kBear_gulls (k := rK r) (F := F0) hN hb0 i (by omega)
      have hs : kGulls (rK r) (i + 1) F0 = if (kGulls (rK r) i F0).1 (68 + i) = 1 then kGull (rK r) i (kGulls (rK r) i F0) else kGulls (rK r) i F0 := rfl
      rw [hs]
      generalize kGulls (rK r) i F0 = F1 at hb
      have hk2 : ¬ (kN (rK r) : Int) ≤ (i : Int) := by omega
      have hk3 : (i : Int) < (kN (rK r) : Int) := by omega
      have hi8 : i < 8 := by omega
      have x68 : xw (68 + (i : Int)) = 68 + (i : Int) := xw_id (by omega) (by omega)
      have x1 : xw ((i : Int) + 1) = (i : Int) + 1 := xw_id (by omega) (by omega)
      by_cases c1 : F1.1 (68 + i) = 1
      · obtain ⟨J2, f2⟩ := r_goGull (n := n) (h := h) (r := r) (F := F1) (J := J') hj hi8 (B := (r.1 1).toNat) (by omega) (by omega) (hh i hi).1 (hh i hi).2 hS (hb i hi)
        refine ⟨J2, ?_⟩
        rw [if_pos c1]
        simp -implicitDefEqProofs (disch := first | exact isc_R | (simp only [List.map_cons, List.map_nil, List.sum_cons, List.sum_nil, xcat, Nat.reduceAdd, Nat.reduceLeDiff, Nat.zero_le]; done) | omega) only [lX12_goHalf_22, k_p_sq, k_p_blk, k_sq0, k_sq11, k_sq12, k_sq13, k_sq14, k_sq15, k_sqr, k_sqi, k_blk0, k_blk1, k_blk2, k_blk3, k_blk4, k_blk5, k_blkr, k_blki, k_finr, k_fini, k_mapi, k_bindi, k_if1, k_if2, k_ops, k_br, k_rv, k_ri, k_rl, k_rz, k_rzi, k_01d, k_sw, k_01a, k_01b, k_01c, k_ifn, x_cmp, decide_eq_true_eq, Option.map_some, Option.bind_some, Option.toList_some, Option.toList_none, List.cons_append, List.nil_append, Nat.reduceAdd, true_or, or_true, Int.reduceNeg, Int.reduceEq, reduceIte, Nat.zero_le, Nat.reduceLeDiff, Nat.le_refl, Nat.reduceEqDiff, List.getElem?_cons_zero, List.getElem?_cons_succ, xst, List.set_cons_zero, List.set_cons_succ, List.map_cons, List.map_nil, List.sum_cons, List.sum_nil, xcat, Nat.reduceMul, Nat.reduceDiv, Nat.reduceMod, Nat.add_zero, e_nil, e_iconst, e_il, e_al, e_ll, e_istore, e_astore, e_lstore, e_ic, e_iadd, e_isub, e_imul, e_iand, e_ior, e_ixor, e_ishl, e_ishr, e_ineg, e_dupi, e_dupr, e_dupx, e_dup2, e_popi, er_g0, er_g1, er_g2, er_g3, er_g4, er_g5, er_g6, er_g7, er_g8, er_g9, er_g10, er_g11, er_g12, er_g13, er_g14, er_g15, er_g16, er_g17, er_g18, er_g19, er_g20, er_g21, er_g22, er_g23, er_g24, er_g25, er_g26, er_g27, er_g28, er_g29, er_g30, er_g31, er_g32, er_g33, er_g34, er_g35, er_g36, er_g37, er_g38, er_g39, er_g40, er_g41, er_g42, er_g43, er_g44, er_g45, er_g46, er_g47, er_s1, er_s2, er_s5, er_s6, er_s8, er_s10, er_s11, er_s13, er_s14, er_s15, er_s16, er_s20, er_s23, er_s24, er_s25, er_s28, er_s30, er_s31, er_s32, er_s33, er_s42, er_s43, er_s44, er_s21a, er_s21b, er_s12a, er_s12b, isc_R, rW_2, hk, hk2, hk3, er_rj hj, x68, Int.reduceNeg, Int.reduceToNat, Int.toNat_natCast, Int.toNat_add_nat, rW_j, c1, ec212, f2, x1, Int.natCast_add, Int.cast_ofNat_Int, Int.reduceEq, e_iinc]
      · refine ⟨J', ?_⟩
        rw [if_neg c1]
        simp -implicitDefEqProofs (disch := first | exact isc_R | (simp only [List.map_cons, List.map_nil, List.sum_cons, List.sum_nil, xcat, Nat.reduceAdd, Nat.reduceLeDiff, Nat.zero_le]; done) | omega) only [lX12_goHalf_22, k_p_sq, k_p_blk, k_sq0, k_sq11, k_sq12, k_sq13, k_sq14, k_sq15, k_sqr, k_sqi, k_blk0, k_blk1, k_blk2, k_blk3, k_blk4, k_blk5, k_blkr, k_blki, k_finr, k_fini, k_mapi, k_bindi, k_if1, k_if2, k_ops, k_br, k_rv, k_ri, k_rl, k_rz, k_rzi, k_01d, k_sw, k_01a, k_01b, k_01c, k_ifn, x_cmp, decide_eq_true_eq, Option.map_some, Option.bind_some, Option.toList_some, Option.toList_none, List.cons_append, List.nil_append, Nat.reduceAdd, true_or, or_true, Int.reduceNeg, Int.reduceEq, reduceIte, Nat.zero_le, Nat.reduceLeDiff, Nat.le_refl, Nat.reduceEqDiff, List.getElem?_cons_zero, List.getElem?_cons_succ, xst, List.set_cons_zero, List.set_cons_succ, List.map_cons, List.map_nil, List.sum_cons, List.sum_nil, xcat, Nat.reduceMul, Nat.reduceDiv, Nat.reduceMod, Nat.add_zero, e_nil, e_iconst, e_il, e_al, e_ll, e_istore, e_astore, e_lstore, e_ic, e_iadd, e_isub, e_imul, e_iand, e_ior, e_ixor, e_ishl, e_ishr, e_ineg, e_dupi, e_dupr, e_dupx, e_dup2, e_popi, er_g0, er_g1, er_g2, er_g3, er_g4, er_g5, er_g6, er_g7, er_g8, er_g9, er_g10, er_g11, er_g12, er_g13, er_g14, er_g15, er_g16, er_g17, er_g18, er_g19, er_g20, er_g21, er_g22, er_g23, er_g24, er_g25, er_g26, er_g27, er_g28, er_g29, er_g30, er_g31, er_g32, er_g33, er_g34, er_g35, er_g36, er_g37, er_g38, er_g39, er_g40, er_g41, er_g42, er_g43, er_g44, er_g45, er_g46, er_g47, er_s1, er_s2, er_s5, er_s6, er_s8, er_s10, er_s11, er_s13, er_s14, er_s15, er_s16, er_s20, er_s23, er_s24, er_s25, er_s28, er_s30, er_s31, er_s32, er_s33, er_s42, er_s43, er_s44, er_s21a, er_s21b, er_s12a, er_s12b, isc_R, rW_2, hk, hk2, hk3, er_rj hj, x68, Int.reduceNeg, Int.reduceToNat, Int.toNat_natCast, Int.toNat_add_nat, rW_j, c1, x1, Int.natCast_add, Int.cast_ofNat_Int, Int.reduceEq, e_iinc]
  obtain ⟨J1, key⟩ := key
  refine ⟨J1, ?_⟩
  have key : p_lop (lX12_goHalf_22 (gg (n + 822))) ([.inr (.inr (.inl (1, 0))), .inr (.inr (.inl (1, j))), .inl 0], [], hR h (rW r j F0 J)) = some (.inl 1, ([.inr (.inr (.inl (1, 0))), .inr (.inr (.inl (1, j))), .inl (kN (rK r) : Int)], [], hR h (rW r j (kGulls (rK r) (kN (rK r)) F0) J1))) := key
  generalize kGulls (rK r) (kN (rK r)) F0 = F1 at key
  rw [gr211]
  unfold fX12_goHalf
  simp -implicitDefEqProofs (disch := first | exact isc_R | (simp only [List.map_cons, List.map_nil, List.sum_cons, List.sum_nil, xcat, Nat.reduceAdd, Nat.reduceLeDiff, Nat.zero_le]; done) | omega) only [k_p_sq, k_p_blk, k_sq0, k_sq11, k_sq12, k_sq13, k_sq14, k_sq15, k_sqr, k_sqi, k_blk0, k_blk1, k_blk2, k_blk3, k_blk4, k_blk5, k_blkr, k_blki, k_finr, k_fini, k_mapi, k_bindi, k_if1, k_if2, k_ops, k_br, k_rv, k_ri, k_rl, k_rz, k_rzi, k_01d, k_sw, k_01a, k_01b, k_01c, k_ifn, x_cmp, decide_eq_true_eq, Option.map_some, Option.bind_some, Option.toList_some, Option.toList_none, List.cons_append, List.nil_append, Nat.reduceAdd, true_or, or_true, Int.reduceNeg, Int.reduceEq, reduceIte, Nat.zero_le, Nat.reduceLeDiff, Nat.le_refl, Nat.reduceEqDiff, List.getElem?_cons_zero, List.getElem?_cons_succ, xst, List.set_cons_zero, List.set_cons_succ, List.map_cons, List.map_nil, List.sum_cons, List.sum_nil, xcat, Nat.reduceMul, Nat.reduceDiv, Nat.reduceMod, Nat.add_zero, e_nil, e_iconst, e_il, e_al, e_ll, e_istore, e_astore, e_lstore, e_ic, e_iadd, e_isub, e_imul, e_iand, e_ior, e_ixor, e_ishl, e_ishr, e_ineg, e_dupi, e_dupr, e_dupx, e_dup2, e_popi, er_g0, er_g1, er_g2, er_g3, er_g4, er_g5, er_g6, er_g7, er_g8, er_g9, er_g10, er_g11, er_g12, er_g13, er_g14, er_g15, er_g16, er_g17, er_g18, er_g19, er_g20, er_g21, er_g22, er_g23, er_g24, er_g25, er_g26, er_g27, er_g28, er_g29, er_g30, er_g31, er_g32, er_g33, er_g34, er_g35, er_g36, er_g37, er_g38, er_g39, er_g40, er_g41, er_g42, er_g43, er_g44, er_g45, er_g46, er_g47, er_s1, er_s2, er_s5, er_s6, er_s8, er_s10, er_s11, er_s13, er_s14, er_s15, er_s16, er_s20, er_s23, er_s24, er_s25, er_s28, er_s30, er_s31, er_s32, er_s33, er_s42, er_s43, er_s44, er_s21a, er_s21b, er_s12a, er_s12b, isc_R, rW_p23, rW_p24, rW_p25, ec206, f1, key, er_rj hj, er_wj hj, Int.reduceNeg, Int.reduceToNat, Int.toNat_natCast, Int.toNat_add_nat, (fun r0 => xr_a_j r0 j), rW_j, rW_pj]
end GW
