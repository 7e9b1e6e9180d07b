/-! ===== the reference: gulls, whole ===== -/
section GLd
variable {n : Nat} {h : xH} {r : xR} {H : xH} {a w : Int} {F : Nat → Int}
theorem tGl_len {B : Int} {N : Nat} : ∀ (f k : Nat) (a : Int), 0 ≤ a → N + k ≤ 8 → (tGl r B N f k a (-1)).2.2 = -1 → N + k + (tGl r B N f k a (-1)).1.length ≤ 8
  | 0, k, a, h0, h1, h2 => h1
  | f + 1, k, a, h0, h1, h2 => by
    have hat := tGl1_at (r := r) (B := B) (N := N) (n := k) (a := a) (w := -1)
    have hp := tPs_at (r := r) (k := 59) (a := (tGl1 r B N k a (-1)).2.1) (w := (tGl1 r B N k a (-1)).2.2)
    have hz : N + k = 8 → (tGl1 r B N k a (-1)).2.2 ≠ -1 := by
      intro c
      unfold tGl1
      rw [if_pos c]
      show (if (-1 : Int) = -1 then a else -1) ≠ -1
      rw [if_pos rfl]
      omega
    have hw : (tPs r 59 (tGl1 r B N k a (-1)).2.1 (tGl1 r B N k a (-1)).2.2).2.2 = (tGl1 r B N k a (-1)).2.2 := by
      unfold tPs
      split <;> rfl
    unfold tGl at h2 ⊢
    split at h2
    · rename_i z
      have hm := tPs_1 z
      rw [if_pos z]
      rw [hm] at h2 ⊢
      have c8 : ¬ N + k = 8 := fun c => hz c (by rw [← hw]; exact hm)
      have := tGl_len f (k + 1) (tPs r 59 (tGl1 r B N k a (-1)).2.1 (tGl1 r B N k a (-1)).2.2).2.1 (by omega) (by omega) h2
      rw [List.length_cons]
      omega
    · rename_i z
      rw [if_neg z]
      have c8 : ¬ N + k = 8 := fun c => hz c (by rw [← hw]; exact h2)
      show N + k + 1 ≤ 8
      omega
end GLd
section GLe
variable {n : Nat} {h : xH} {r : xR} {H : xH} {a w : Int} {F : Nat → Int}
theorem tGl_at {B : Int} {N : Nat} : ∀ (f k : Nat) (a w : Int), 0 ≤ a → a ≤ (tGl r B N f k a w).2.1 ∧ (tGl r B N f k a w).2.1 ≤ a + 3 * f
  | 0, k, a, w, h0 => by show a ≤ a ∧ a ≤ a + 3 * ((0 : Nat) : Int); omega
  | f + 1, k, a, w, h0 => by
    have hat := tGl1_at (r := r) (B := B) (N := N) (n := k) (a := a) (w := w)
    have hp := tPs_at (r := r) (k := 59) (a := (tGl1 r B N k a w).2.1) (w := (tGl1 r B N k a w).2.2)
    unfold tGl
    split
    · have := tGl_at (B := B) (N := N) f (k + 1) (tPs r 59 (tGl1 r B N k a w).2.1 (tGl1 r B N k a w).2.2).2.1 (tPs r 59 (tGl1 r B N k a w).2.1 (tGl1 r B N k a w).2.2).2.2 (by omega)
      dsimp only
      omega
    · dsimp only
      omega
def sGulls (r : xR) (T N : Nat) : Int × xR :=
  if T = 0 then (0, tTx r T 76)
  else
    let q := tGl (tTx r T 76) (r.1 1) N 9 0 0 (-1)
    let w := if q.2.2 = -1 then (if q.2.1 < T then q.2.1 else -1) else q.2.2
    if w = -1 then ((q.1.length : Int), xr_i (xr_i (sG (tTx r T 76) (tGs N q.1 (r.2 1)) (tHo N q.1 (r.2 2)) (tPa N q.1 (r.2 3)) ((N + q.1.length : Nat) : Int)) 28 0) 44 (xw (r.1 44 + 1)))
    else (xw (-1 - w), tTx r T 76)
theorem rC_sG (q : xR) (A H P : Nat → Int) (b : Int) : rC (sG q A H P b) = sG (rC q) A H P b := by
  unfold sG
  rw [rC_in rfl, rC_jn rfl, rC_jn rfl, rC_jn rfl]
theorem r_gulls9 {q : xR} {F : Nat → Int} {A H P : Nat → Int} {b a w v : Int} : rC (xr_i (xr_i (sG (rRj q 7 F a w) A H P b) 28 0) 44 v) = rC (xr_i (xr_i (sG q A H P b) 28 0) 44 v) := by
  rw [rC_in rfl, rC_in rfl, rC_sG, rC_Rj rfl, rC_in rfl, rC_in rfl, rC_sG]
theorem r_gulls {T N : Nat} (hT : r.1 8 = T) (hT2 : T ≤ 80) (hb : r.1 2 = N) (hN : N ≤ 8) (h6 : (tGl (tTx r T 76) (r.1 1) N 9 0 0 (-1)).2.2 = -1 → ∀ i, i < (tGl (tTx r T 76) (r.1 1) N 9 0 0 (-1)).1.length → 0 ≤ ((tGl (tTx r T 76) (r.1 1) N 9 0 0 (-1)).1.getD i q20).1 ∧ ((tGl (tTx r T 76) (r.1 1) N 9 0 0 (-1)).1.getD i q20).1 < 6) : ∃ r', (gg (n + 7) 192).2 [.inr (.inr (.inl (1, 0)))] (hR h r) = some (some (.inl (sGulls r T N).1), hR h r') ∧ rC r' = rC (sGulls r T N).2 := by
  rw [gr192]
  unfold fX12_gulls sGulls
  have f0 := r_fleet0 (n := n) (h := h) (r := r) hT (U := .inr (.inr (.inr 2))) (V := .inr (.inr (.inr 2))) (W := .inr (.inr (.inr 2)))
  by_cases c0 : T = 0
  · rw [if_pos c0]
    refine ⟨rRd (tTx r T 76) 0 (-1), k_seq _ f0 ?_, rC_Rd 0 (-1)⟩
    have c1 : (T : Int) = 0 := by omega
    rw [c1]
    generalize tTx r T 76 = q
    simp -implicitDefEqProofs (disch := first | exact isc_R | (simp only [List.map_cons, List.map_nil, List.sum_cons, List.sum_nil, xcat, Nat.reduceAdd, Nat.reduceLeDiff, Nat.zero_le]; done) | omega) only [k_p_sq, k_p_blk, k_sq0, k_sq11, k_sq12, k_sq13, k_sq14, k_sq15, k_sqr, k_sqi, k_blk0, k_blk1, k_blk2, k_blk3, k_blk4, k_blk5, k_blkr, k_blki, k_finr, k_fini, k_mapi, k_bindi, k_if1, k_if2, k_ops, k_br, k_rv, k_ri, k_rl, k_rz, k_rzi, k_01d, k_sw, k_01a, k_01b, k_01c, k_ifn, x_cmp, decide_eq_true_eq, Option.map_some, Option.bind_some, Option.toList_some, Option.toList_none, List.cons_append, List.nil_append, Nat.reduceAdd, true_or, or_true, Int.reduceNeg, Int.reduceEq, reduceIte, Nat.zero_le, Nat.reduceLeDiff, Nat.le_refl, Nat.reduceEqDiff, List.getElem?_cons_zero, List.getElem?_cons_succ, xst, List.set_cons_zero, List.set_cons_succ, List.map_cons, List.map_nil, List.sum_cons, List.sum_nil, xcat, Nat.reduceMul, Nat.reduceDiv, Nat.reduceMod, Nat.add_zero, e_nil, e_iconst, e_il, e_al, e_ll, e_istore, e_astore, e_lstore, e_ic, e_iadd, e_isub, e_imul, e_iand, e_ior, e_ixor, e_ishl, e_ishr, e_ineg, e_dupi, e_dupr, e_dupx, e_dup2, e_popi, er_g0, er_g1, er_g2, er_g3, er_g4, er_g5, er_g6, er_g7, er_g8, er_g9, er_g10, er_g11, er_g12, er_g13, er_g14, er_g15, er_g16, er_g17, er_g18, er_g19, er_g20, er_g21, er_g22, er_g23, er_g24, er_g25, er_g26, er_g27, er_g28, er_g29, er_g30, er_g31, er_g32, er_g33, er_g34, er_g35, er_g36, er_g37, er_g38, er_g39, er_g40, er_g41, er_g42, er_g43, er_g44, er_g45, er_g46, er_g47, er_s1, er_s2, er_s5, er_s6, er_s8, er_s10, er_s11, er_s13, er_s14, er_s15, er_s16, er_s20, er_s23, er_s24, er_s25, er_s28, er_s30, er_s31, er_s32, er_s33, er_s42, er_s43, er_s44, er_s21a, er_s21b, er_s12a, er_s12b, isc_R, Int.reduceEq]
  · rw [if_neg c0]
    have c1 : ¬ (T : Int) = 0 := by omega
    have hs : rSane (tTx r T 76) := tTx_sane hT2 (by decide)
    obtain ⟨F', g1, g2, g3⟩ := r_glL (n := n) (h := h) hs (N := N) hb (.inr (.inr (.inr 2))) 9 0 0 (r.2 7) (by omega) (by omega) (by decide) (by decide)
    have hn : (tGl (tTx r T 76) (r.1 1) N 9 0 0 (-1)).2.2 = -1 → N + 0 + (tGl (tTx r T 76) (r.1 1) N 9 0 0 (-1)).1.length ≤ 8 := tGl_len (r := tTx r T 76) (B := r.1 1) (N := N) 9 0 0 (by decide) (by omega)
    have hat := tGl_at (r := tTx r T 76) (B := r.1 1) (N := N) 9 0 0 (-1) (by decide)
    have e0 : rRd (tTx r T 76) 0 (-1) = rRj (tTx r T 76) 7 (r.2 7) 0 (-1) := rRj_0 7 0 (-1)
    rw [e0] at f0
    have t13 : ∀ F a w, (rRj (tTx r T 76) 7 F a w).1 13 = T := fun _ _ _ => rfl
    have g0 : (tTx r T 76).1 1 = r.1 1 := rfl
    rw [g0] at g1 g3
    have t22 : ∀ F a w, (rRj (tTx r T 76) 7 F a w).2 2 = r.2 2 := fun _ _ _ => rfl
    have t23 : ∀ F a w, (rRj (tTx r T 76) 7 F a w).2 3 = r.2 3 := fun _ _ _ => rfl
    have t44 : ∀ F a w, (rRj (tTx r T 76) 7 F a w).1 44 = r.1 44 := fun _ _ _ => rfl
    have t21 : ∀ F a w, (rRj (tTx r T 76) 7 F a w).2 1 = r.2 1 := fun _ _ _ => rfl
    have t15 : ∀ F a w, (rRj (tTx r T 76) 7 F a w).1 15 = a := fun _ _ _ => rfl
    have t16 : ∀ F a w, (rRj (tTx r T 76) 7 F a w).1 16 = w := fun _ _ _ => rfl
    have ff := fun (w : Int) => u_fine (n := n + 5) (h := h) (r := tTx r T 76) (c := 7) (F := F') (a := (tGl (tTx r T 76) (r.1 1) N 9 0 0 (-1)).2.1) (w := w)
    have fv := fun (w : Int) => u_fault (n := n + 4) (h := h) (r := tTx r T 76) (c := 7) (F := F') (a := (tGl (tTx r T 76) (r.1 1) N 9 0 0 (-1)).2.1) (w := w) (tGl (tTx r T 76) (r.1 1) N 9 0 0 (-1)).2.1
    have k8 : rC (tTx r T 76) = rC (tTx r T 76) := rfl
    dsimp only
    have fF := fun (hl : N + (tGl (tTx r T 76) (r.1 1) N 9 0 0 (-1)).1.length ≤ 8) (a w : Int) (hF : ∀ i, i < (tGl (tTx r T 76) (r.1 1) N 9 0 0 (-1)).1.length → F' (2 * i) = ((tGl (tTx r T 76) (r.1 1) N 9 0 0 (-1)).1.getD i q20).1 ∧ F' (2 * i + 1) = ((tGl (tTx r T 76) (r.1 1) N 9 0 0 (-1)).1.getD i q20).2) (h66 : ∀ i, i < (tGl (tTx r T 76) (r.1 1) N 9 0 0 (-1)).1.length → 0 ≤ ((tGl (tTx r T 76) (r.1 1) N 9 0 0 (-1)).1.getD i q20).1 ∧ ((tGl (tTx r T 76) (r.1 1) N 9 0 0 (-1)).1.getD i q20).1 < 6) => r_glF (n := n + 6) (h := h) (q := rRj (tTx r T 76) 7 F' a w) (F := F') (j := 0) hb hl (rRj_2 _ _ _ _ _) hF h66
    generalize tGl (tTx r T 76) (r.1 1) N 9 0 0 (-1) = Q at *
    obtain ⟨l, a, w⟩ := Q
    dsimp only at *
    rw [Nat.zero_add, show ((0 : Nat) : Int) = 0 from rfl] at g1
    have n15 : (xr_i (sG (rRj (tTx r T 76) 7 F' a w) (tGs N l (r.2 1)) (tHo N l (r.2 2)) (tPa N l (r.2 3)) ((N + l.length : Nat) : Int)) 28 0).1 44 = r.1 44 := rfl
    by_cases c2 : a < (T : Int)
    · by_cases c4 : w = -1
      · subst c4
        have ff2 := ff a
        have fv2 := fv (-1)
        rw [if_pos rfl] at fv2
        have c5 : ¬ a = -1 := by omega
        have c6 : ¬ (T : Int) ≤ a := by omega
        rw [if_neg c5] at ff2
        simp only [if_pos c2, if_neg c5, if_true]
        refine ⟨rRj (tTx r T 76) 7 F' a a, k_seq _ f0 ?_, rC_Rj rfl a a⟩
        clear h6 fF g2 g3 hs hn hat k8 n15 ff fv e0 f0
        generalize tTx r T 76 = q at *
        simp -implicitDefEqProofs (disch := first | exact isc_R | (simp only [List.map_cons, List.map_nil, List.sum_cons, List.sum_nil, xcat, Nat.reduceAdd, Nat.reduceLeDiff, Nat.zero_le]; done) | omega) only [k_p_sq, k_p_blk, k_sq0, k_sq11, k_sq12, k_sq13, k_sq14, k_sq15, k_sqr, k_sqi, k_blk0, k_blk1, k_blk2, k_blk3, k_blk4, k_blk5, k_blkr, k_blki, k_finr, k_fini, k_mapi, k_bindi, k_if1, k_if2, k_ops, k_br, k_rv, k_ri, k_rl, k_rz, k_rzi, k_01d, k_sw, k_01a, k_01b, k_01c, k_ifn, x_cmp, decide_eq_true_eq, Option.map_some, Option.bind_some, Option.toList_some, Option.toList_none, List.cons_append, List.nil_append, Nat.reduceAdd, true_or, or_true, Int.reduceNeg, Int.reduceEq, reduceIte, Nat.zero_le, Nat.reduceLeDiff, Nat.le_refl, Nat.reduceEqDiff, List.getElem?_cons_zero, List.getElem?_cons_succ, xst, List.set_cons_zero, List.set_cons_succ, List.map_cons, List.map_nil, List.sum_cons, List.sum_nil, xcat, Nat.reduceMul, Nat.reduceDiv, Nat.reduceMod, Nat.add_zero, e_nil, e_iconst, e_il, e_al, e_ll, e_istore, e_astore, e_lstore, e_ic, e_iadd, e_isub, e_imul, e_iand, e_ior, e_ixor, e_ishl, e_ishr, e_ineg, e_dupi, e_dupr, e_dupx, e_dup2, e_popi, er_g0, er_g1, er_g2, er_g3, er_g4, er_g5, er_g6, er_g7, er_g8, er_g9, er_g10, er_g11, er_g12, er_g13, er_g14, er_g15, er_g16, er_g17, er_g18, er_g19, er_g20, er_g21, er_g22, er_g23, er_g24, er_g25, er_g26, er_g27, er_g28, er_g29, er_g30, er_g31, er_g32, er_g33, er_g34, er_g35, er_g36, er_g37, er_g38, er_g39, er_g40, er_g41, er_g42, er_g43, er_g44, er_g45, er_g46, er_g47, er_s1, er_s2, er_s5, er_s6, er_s8, er_s10, er_s11, er_s13, er_s14, er_s15, er_s16, er_s20, er_s23, er_s24, er_s25, er_s28, er_s30, er_s31, er_s32, er_s33, er_s42, er_s43, er_s44, er_s21a, er_s21b, er_s12a, er_s12b, isc_R, c1, k_blk1, g1, t13, t15, t16, c2, c6, ec183, fv2, ec182, ff2, isc_Rj, Int.reduceEq]
      · have ff2 := ff w
        have fv2 := fv w
        rw [if_neg c4] at fv2 ff2
        have c6 : ¬ (T : Int) ≤ a := by omega
        simp only [if_neg c4]
        refine ⟨rRj (tTx r T 76) 7 F' a w, k_seq _ f0 ?_, rC_Rj rfl a w⟩
        clear h6 fF g2 g3 hs hn hat k8 n15 ff fv e0 f0
        generalize tTx r T 76 = q at *
        simp -implicitDefEqProofs (disch := first | exact isc_R | (simp only [List.map_cons, List.map_nil, List.sum_cons, List.sum_nil, xcat, Nat.reduceAdd, Nat.reduceLeDiff, Nat.zero_le]; done) | omega) only [k_p_sq, k_p_blk, k_sq0, k_sq11, k_sq12, k_sq13, k_sq14, k_sq15, k_sqr, k_sqi, k_blk0, k_blk1, k_blk2, k_blk3, k_blk4, k_blk5, k_blkr, k_blki, k_finr, k_fini, k_mapi, k_bindi, k_if1, k_if2, k_ops, k_br, k_rv, k_ri, k_rl, k_rz, k_rzi, k_01d, k_sw, k_01a, k_01b, k_01c, k_ifn, x_cmp, decide_eq_true_eq, Option.map_some, Option.bind_some, Option.toList_some, Option.toList_none, List.cons_append, List.nil_append, Nat.reduceAdd, true_or, or_true, Int.reduceNeg, Int.reduceEq, reduceIte, Nat.zero_le, Nat.reduceLeDiff, Nat.le_refl, Nat.reduceEqDiff, List.getElem?_cons_zero, List.getElem?_cons_succ, xst, List.set_cons_zero, List.set_cons_succ, List.map_cons, List.map_nil, List.sum_cons, List.sum_nil, xcat, Nat.reduceMul, Nat.reduceDiv, Nat.reduceMod, Nat.add_zero, e_nil, e_iconst, e_il, e_al, e_ll, e_istore, e_astore, e_lstore, e_ic, e_iadd, e_isub, e_imul, e_iand, e_ior, e_ixor, e_ishl, e_ishr, e_ineg, e_dupi, e_dupr, e_dupx, e_dup2, e_popi, er_g0, er_g1, er_g2, er_g3, er_g4, er_g5, er_g6, er_g7, er_g8, er_g9, er_g10, er_g11, er_g12, er_g13, er_g14, er_g15, er_g16, er_g17, er_g18, er_g19, er_g20, er_g21, er_g22, er_g23, er_g24, er_g25, er_g26, er_g27, er_g28, er_g29, er_g30, er_g31, er_g32, er_g33, er_g34, er_g35, er_g36, er_g37, er_g38, er_g39, er_g40, er_g41, er_g42, er_g43, er_g44, er_g45, er_g46, er_g47, er_s1, er_s2, er_s5, er_s6, er_s8, er_s10, er_s11, er_s13, er_s14, er_s15, er_s16, er_s20, er_s23, er_s24, er_s25, er_s28, er_s30, er_s31, er_s32, er_s33, er_s42, er_s43, er_s44, er_s21a, er_s21b, er_s12a, er_s12b, isc_R, c1, k_blk1, g1, t13, t15, t16, c2, c6, ec183, fv2, ec182, ff2, isc_Rj, Int.reduceEq]
    · by_cases c4 : w = -1
      · subst c4
        have ff2 := ff (-1)
        rw [if_pos rfl] at ff2
        have c6 : (T : Int) ≤ a := by omega
        have fF2 := fF (by have := hn rfl; omega) a (-1) (fun i hi => by have := g3 rfl i hi; rwa [Nat.zero_add] at this) (h6 rfl)
        rw [t21, t22, t23] at fF2
        simp only [if_neg c2, if_true]
        refine ⟨xr_i (xr_i (sG (rRj (tTx r T 76) 7 F' a (-1)) (tGs N l (r.2 1)) (tHo N l (r.2 2)) (tPa N l (r.2 3)) ((N + l.length : Nat) : Int)) 28 0) 44 (xw (r.1 44 + 1)), k_seq _ f0 ?_, r_gulls9⟩
        clear h6 fF g2 g3 hs hn hat k8 ff fv e0 f0
        generalize tTx r T 76 = q at *
        generalize tGs N l (r.2 1) = A at *
        generalize tHo N l (r.2 2) = A2 at *
        generalize tPa N l (r.2 3) = A3 at *
        generalize ((N + l.length : Nat) : Int) = Y at *
        simp -implicitDefEqProofs (disch := first | exact isc_R | (simp only [List.map_cons, List.map_nil, List.sum_cons, List.sum_nil, xcat, Nat.reduceAdd, Nat.reduceLeDiff, Nat.zero_le]; done) | omega) only [k_p_sq, k_p_blk, k_sq0, k_sq11, k_sq12, k_sq13, k_sq14, k_sq15, k_sqr, k_sqi, k_blk0, k_blk1, k_blk2, k_blk3, k_blk4, k_blk5, k_blkr, k_blki, k_finr, k_fini, k_mapi, k_bindi, k_if1, k_if2, k_ops, k_br, k_rv, k_ri, k_rl, k_rz, k_rzi, k_01d, k_sw, k_01a, k_01b, k_01c, k_ifn, x_cmp, decide_eq_true_eq, Option.map_some, Option.bind_some, Option.toList_some, Option.toList_none, List.cons_append, List.nil_append, Nat.reduceAdd, true_or, or_true, Int.reduceNeg, Int.reduceEq, reduceIte, Nat.zero_le, Nat.reduceLeDiff, Nat.le_refl, Nat.reduceEqDiff, List.getElem?_cons_zero, List.getElem?_cons_succ, xst, List.set_cons_zero, List.set_cons_succ, List.map_cons, List.map_nil, List.sum_cons, List.sum_nil, xcat, Nat.reduceMul, Nat.reduceDiv, Nat.reduceMod, Nat.add_zero, e_nil, e_iconst, e_il, e_al, e_ll, e_istore, e_astore, e_lstore, e_ic, e_iadd, e_isub, e_imul, e_iand, e_ior, e_ixor, e_ishl, e_ishr, e_ineg, e_dupi, e_dupr, e_dupx, e_dup2, e_popi, er_g0, er_g1, er_g2, er_g3, er_g4, er_g5, er_g6, er_g7, er_g8, er_g9, er_g10, er_g11, er_g12, er_g13, er_g14, er_g15, er_g16, er_g17, er_g18, er_g19, er_g20, er_g21, er_g22, er_g23, er_g24, er_g25, er_g26, er_g27, er_g28, er_g29, er_g30, er_g31, er_g32, er_g33, er_g34, er_g35, er_g36, er_g37, er_g38, er_g39, er_g40, er_g41, er_g42, er_g43, er_g44, er_g45, er_g46, er_g47, er_s1, er_s2, er_s5, er_s6, er_s8, er_s10, er_s11, er_s13, er_s14, er_s15, er_s16, er_s20, er_s23, er_s24, er_s25, er_s28, er_s30, er_s31, er_s32, er_s33, er_s42, er_s43, er_s44, er_s21a, er_s21b, er_s12a, er_s12b, isc_R, c1, k_blk1, g1, t13, t15, t16, c2, c6, ec182, ff2, isc_Rj, Int.reduceEq, fF2, n15]
      · have ff2 := ff w
        rw [if_neg c4] at ff2
        have c6 : (T : Int) ≤ a := by omega
        simp only [if_neg c4]
        refine ⟨rRj (tTx r T 76) 7 F' a w, k_seq _ f0 ?_, rC_Rj rfl a w⟩
        clear h6 fF g2 g3 hs hn hat k8 n15 ff fv e0 f0
        generalize tTx r T 76 = q at *
        simp -implicitDefEqProofs (disch := first | exact isc_R | (simp only [List.map_cons, List.map_nil, List.sum_cons, List.sum_nil, xcat, Nat.reduceAdd, Nat.reduceLeDiff, Nat.zero_le]; done) | omega) only [k_p_sq, k_p_blk, k_sq0, k_sq11, k_sq12, k_sq13, k_sq14, k_sq15, k_sqr, k_sqi, k_blk0, k_blk1, k_blk2, k_blk3, k_blk4, k_blk5, k_blkr, k_blki, k_finr, k_fini, k_mapi, k_bindi, k_if1, k_if2, k_ops, k_br, k_rv, k_ri, k_rl, k_rz, k_rzi, k_01d, k_sw, k_01a, k_01b, k_01c, k_ifn, x_cmp, decide_eq_true_eq, Option.map_some, Option.bind_some, Option.toList_some, Option.toList_none, List.cons_append, List.nil_append, Nat.reduceAdd, true_or, or_true, Int.reduceNeg, Int.reduceEq, reduceIte, Nat.zero_le, Nat.reduceLeDiff, Nat.le_refl, Nat.reduceEqDiff, List.getElem?_cons_zero, List.getElem?_cons_succ, xst, List.set_cons_zero, List.set_cons_succ, List.map_cons, List.map_nil, List.sum_cons, List.sum_nil, xcat, Nat.reduceMul, Nat.reduceDiv, Nat.reduceMod, Nat.add_zero, e_nil, e_iconst, e_il, e_al, e_ll, e_istore, e_astore, e_lstore, e_ic, e_iadd, e_isub, e_imul, e_iand, e_ior, e_ixor, e_ishl, e_ishr, e_ineg, e_dupi, e_dupr, e_dupx, e_dup2, e_popi, er_g0, er_g1, er_g2, er_g3, er_g4, er_g5, er_g6, er_g7, er_g8, er_g9, er_g10, er_g11, er_g12, er_g13, er_g14, er_g15, er_g16, er_g17, er_g18, er_g19, er_g20, er_g21, er_g22, er_g23, er_g24, er_g25, er_g26, er_g27, er_g28, er_g29, er_g30, er_g31, er_g32, er_g33, er_g34, er_g35, er_g36, er_g37, er_g38, er_g39, er_g40, er_g41, er_g42, er_g43, er_g44, er_g45, er_g46, er_g47, er_s1, er_s2, er_s5, er_s6, er_s8, er_s10, er_s11, er_s13, er_s14, er_s15, er_s16, er_s20, er_s23, er_s24, er_s25, er_s28, er_s30, er_s31, er_s32, er_s33, er_s42, er_s43, er_s44, er_s21a, er_s21b, er_s12a, er_s12b, isc_R, c1, k_blk1, g1, t13, t15, t16, c2, c6, ec182, ff2, isc_Rj, Int.reduceEq]
end GLe
