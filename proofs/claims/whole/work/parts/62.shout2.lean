/-! ===== who knows when ===== -/
def kIn1 (m : Nat) (t : Nat) (b : Nat) (w : Nat → Int) : Nat → Int := if m.testBit b = true ∧ w b = -1 then xfu w b (t : Int) else w
/-- who knows, and since when, after i half hours -/
def kShF (B : Nat) (s : Int) (a : Nat → Int) (m0 : Nat) (w0 : Nat → Int) : Nat → Nat × (Nat → Int)
  | 0 => (m0, w0)
  | i + 1 => (nFix (kHear (kSail B i a) s) B 64 (kShF B s a m0 w0 i).1, xit (kIn1 (nFix (kHear (kSail B i a) s) B 64 (kShF B s a m0 w0 i).1) i) B (kShF B s a m0 w0 i).2)
section N2
variable {f f' : Nat → Nat → Bool} {B b c m : Nat}
theorem nRow_eq (e : ∀ b c, b < B → c < B → f b c = f' b c) (hb : b < B) (m : Nat) : nRow f B b m = nRow f' B b m := by
  have key : ∀ i, i ≤ B → xit (fun c m => nStep f b c m) i m = xit (fun c m => nStep f' b c m) i m := fun i => by
    induction i with
    | zero => intro _; show m = m; rfl
    | succ i ih =>
      intro hi
      show nStep f b i (xit (fun c m => nStep f b c m) i m) = nStep f' b i (xit (fun c m => nStep f' b c m) i m)
      rw [ih (by omega)]
      unfold nStep
      rw [e b i hb (by omega)]
  exact key B (Nat.le_refl _)
theorem nRd_eq (e : ∀ b c, b < B → c < B → f b c = f' b c) (m : Nat) : nRd f B m = nRd f' B m := by
  have key : ∀ i, i ≤ B → xit (fun b m => nRow f B b m) i m = xit (fun b m => nRow f' B b m) i m := fun i => by
    induction i with
    | zero => intro _; show m = m; rfl
    | succ i ih =>
      intro hi
      show nRow f B i (xit (fun b m => nRow f B b m) i m) = nRow f' B i (xit (fun b m => nRow f' B b m) i m)
      rw [ih (by omega), nRow_eq e (by omega)]
  exact key B (Nat.le_refl _)
theorem nFix_eq (e : ∀ b c, b < B → c < B → f b c = f' b c) : ∀ k m, nFix f B k m = nFix f' B k m
  | 0, m => rfl
  | k + 1, m => by
    unfold nFix
    rw [nRd_eq e, nFix_eq e k]
theorem kHear_eq {N M B' : Nat} {a a' : Nat → Int} (hB : B ≤ 6) (e : kEq B N M a a') (s : Int) : ∀ b c, b < B → c < B → kHear a s b c = kHear a' s b c := fun b c hb hc => by
  unfold kHear
  rw [rApart_eq hB e hb hc]
theorem kIn_eq {w w' : Nat → Int} (m t : Nat) (e : ∀ b, b < 6 → w b = w' b) : ∀ i, i ≤ 6 → ∀ b, b < 6 → xit (kIn1 m t) i w b = xit (kIn1 m t) i w' b
  | 0, _, b, hb => e b hb
  | i + 1, hi, b, hb => by
    have ih := kIn_eq m t e i (by omega)
    show kIn1 m t i (xit (kIn1 m t) i w) b = kIn1 m t i (xit (kIn1 m t) i w') b
    generalize xit (kIn1 m t) i w = u at ih
    generalize xit (kIn1 m t) i w' = u' at ih
    unfold kIn1
    rw [ih i (by omega)]
    split
    · unfold xfu
      rw [ih b hb]
    · exact ih b hb
theorem kShF_eq {N M : Nat} {a a' : Nat → Int} (hB : B ≤ 6) (e : kEq B N M a a') (s : Int) (m0 : Nat) {w w' : Nat → Int} (ew : ∀ b, b < 6 → w b = w' b) : ∀ i, (kShF B s a m0 w i).1 = (kShF B s a' m0 w' i).1 ∧ ∀ b, b < 6 → (kShF B s a m0 w i).2 b = (kShF B s a' m0 w' i).2 b
  | 0 => ⟨rfl, ew⟩
  | i + 1 => by
    obtain ⟨h1, h2⟩ := kShF_eq hB e s m0 ew i
    unfold kShF
    rw [h1, nFix_eq (kHear_eq (B' := B) hB (kSail_eq hB (Nat.le_refl B) e i) s)]
    exact ⟨rfl, kIn_eq _ _ h2 B hB⟩
theorem kShF_lt {s : Int} {a : Nat → Int} {m0 : Nat} {w : Nat → Int} (hB : B ≤ 6) (hm : m0 < 64) : ∀ i, (kShF B s a m0 w i).1 < 64
  | 0 => hm
  | i + 1 => (nFix_i hB 64 _ (kShF_lt hB hm i)).2
end N2
section SP
variable {n : Nat} {h : xH} {r : xR} {H : xH} {j : Nat}
def rV (q : xR) (a w : Nat → Int) : xR := xr_j (xr_j q 14 a) 15 w
variable {q : xR} {a w : Nat → Int}
theorem rV_1 (k : Nat) : (rV q a w).1 k = q.1 k := rfl
theorem rV_14 : (rV q a w).2 14 = a := rfl
theorem rV_15 : (rV q a w).2 15 = w := rfl
theorem rV_p14 (b : Nat → Int) : xr_j (rV q a w) 14 b = rV q b w := by
  unfold rV xr_j
  refine Prod.ext rfl (funext fun c => ?_)
  show xfu (xfu (xfu q.2 14 a) 15 w) 14 b c = xfu (xfu q.2 14 b) 15 w c
  unfold xfu
  by_cases c1 : c = 14
  · subst c1
    rfl
  · by_cases c2 : c = 15
    · subst c2
      rfl
    · rw [if_neg c1, if_neg c2, if_neg c2, if_neg c1, if_neg c1]
theorem rV_p15 (b : Nat → Int) : xr_j (rV q a w) 15 b = rV q a b := xr_j_j _ _ _ _
theorem rV_c : rC (rV q a w) = rC q := by
  unfold rV
  rw [rC_j (c := 15) rfl, rC_j (c := 14) rfl]
theorem rV_self : rV q (q.2 14) (q.2 15) = q := by
  unfold rV
  rw [xr_j_0]
  exact xr_j_0 q 15
set_option maxHeartbeats 800000 in
theorem r_shoutFor (hr : rOk r) (sh : Int) {m : Nat} (hm : m < 64) {t : Nat} (ht : t ≤ 100) : ∃ r', (gg (n + 4) 251).2 [.inr (.inr (.inl (1, 0))), .inl (m : Int), .inl sh, .inl (t : Int)] (hR h r) = some (some (.inl ((kShF (kB (rK r)) sh (r.2 1) m (fun _ => -1) (t + 1)).1 : Int)), hR h r') ∧ rC r' = rC r ∧ ∀ b, b < 6 → r'.2 15 b = (kShF (kB (rK r)) sh (r.2 1) m (fun _ => -1) (t + 1)).2 b := by
  have f2 := r_then (n := n + 2) (h := h) (r := r)
  have hB : (rThen r).1 1 = (kB (rK r) : Int) := by have := hr.1.1; show r.1 1 = ((r.1 1).toNat : Int); omega
  have hB6 := rOk_B hr
  have e0 : kEq (kB (rK r)) 8 10 ((rThen r).2 14) (r.2 1) := rThen_eq r
  have hC : rC (rThen r) = rC r := rThen_c r
  generalize kB (rK r) = B at hB hB6 e0
  generalize rThen r = q at f2 hB e0 hC
  have k1 : p_lop (lX12_shoutFor_15 (gg (n + 3))) ([.inr (.inr (.inl (1, 0))), .inl (m : Int), .inl sh, .inl (t : Int), .inl 0, .inr (.inr (.inr 2)), .inr (.inr (.inr 2))], [], hR h q) = some (.inl 1, ([.inr (.inr (.inl (1, 0))), .inl (m : Int), .inl sh, .inl (t : Int), .inl 6, .inr (.inr (.inr 2)), .inr (.inr (.inr 2))], [], hR h (rV q (q.2 14) (xit (fun b w => xfu w b (-1)) 6 (q.2 15))))) := by
    refine k_for (fun i => ([.inr (.inr (.inl (1, 0))), .inl (m : Int), .inl sh, .inl (t : Int), .inl (i : Int), .inr (.inr (.inr 2)), .inr (.inr (.inr 2))], [], hR h (rV q (q.2 14) (xit (fun b w => xfu w b (-1)) i (q.2 15))))) 6 (by show (([.inr (.inr (.inl (1, 0))), .inl (m : Int), .inl sh, .inl (t : Int), .inl 0, .inr (.inr (.inr 2)), .inr (.inr (.inr 2))], [], hR h (rV q (q.2 14) (q.2 15))) : xS) = _; rw [rV_self]) ?_ (fun i hi => ?_)
    · generalize xit (fun b w => xfu w b (-1)) 6 (q.2 15) = w
      clear hr
      simp -implicitDefEqProofs (disch := first | exact isc_R | (simp only [List.map_cons, List.map_nil, List.sum_cons, List.sum_nil, xcat, Nat.reduceAdd, Nat.reduceLeDiff, Nat.zero_le]; done) | omega) only [lX12_shoutFor_15, k_p_sq, k_p_blk, k_sq0, k_sq11, k_sq12, k_sq13, k_sq14, k_sq15, k_sqr, k_sqi, k_blk0, k_blk1, k_blk2, k_blk3, k_blk4, k_blk5, k_blkr, k_blki, k_finr, k_fini, k_mapi, k_bindi, k_if1, k_if2, k_ops, k_br, k_rv, k_ri, k_rl, k_rz, k_rzi, k_01d, k_sw, k_01a, k_01b, k_01c, k_ifn, x_cmp, decide_eq_true_eq, Option.map_some, Option.bind_some, Option.toList_some, Option.toList_none, List.cons_append, List.nil_append, Nat.reduceAdd, true_or, or_true, Int.reduceNeg, Int.reduceEq, reduceIte, Nat.zero_le, Nat.reduceLeDiff, Nat.le_refl, Nat.reduceEqDiff, List.getElem?_cons_zero, List.getElem?_cons_succ, xst, List.set_cons_zero, List.set_cons_succ, List.map_cons, List.map_nil, List.sum_cons, List.sum_nil, xcat, Nat.reduceMul, Nat.reduceDiv, Nat.reduceMod, Nat.add_zero, e_nil, e_iconst, e_il, e_al, e_ll, e_istore, e_astore, e_lstore, e_ic, e_iadd, e_isub, e_imul, e_iand, e_ior, e_ixor, e_ishl, e_ishr, e_ineg, e_dupi, e_dupr, e_dupx, e_dup2, e_popi, er_g0, er_g1, er_g2, er_g3, er_g4, er_g5, er_g6, er_g7, er_g8, er_g9, er_g10, er_g11, er_g12, er_g13, er_g14, er_g15, er_g16, er_g17, er_g18, er_g19, er_g20, er_g21, er_g22, er_g23, er_g24, er_g25, er_g26, er_g27, er_g28, er_g29, er_g30, er_g31, er_g32, er_g33, er_g34, er_g35, er_g36, er_g37, er_g38, er_g39, er_g40, er_g41, er_g42, er_g43, er_g44, er_g45, er_g46, er_g47, er_s1, er_s2, er_s5, er_s6, er_s8, er_s10, er_s11, er_s13, er_s14, er_s15, er_s16, er_s20, er_s23, er_s24, er_s25, er_s28, er_s30, er_s31, er_s32, er_s33, er_s42, er_s43, er_s44, er_s21a, er_s21b, er_s12a, er_s12b, isc_R, Int.cast_ofNat_Int, Int.le_refl]
    · have hs : xit (fun b w => xfu w b (-1)) (i + 1) (q.2 15) = xfu (xit (fun b w => xfu w b (-1)) i (q.2 15)) i (-1) := rfl
      rw [hs]
      generalize xit (fun b w => xfu w b (-1)) i (q.2 15) = w
      have hk2 : ¬ (6 : Int) ≤ (i : Int) := by omega
      have x1 : xw ((i : Int) + 1) = (i : Int) + 1 := xw_id (by omega) (by omega)
      clear hr e0
      simp -implicitDefEqProofs (disch := first | exact isc_R | (simp only [List.map_cons, List.map_nil, List.sum_cons, List.sum_nil, xcat, Nat.reduceAdd, Nat.reduceLeDiff, Nat.zero_le]; done) | omega) only [lX12_shoutFor_15, k_p_sq, k_p_blk, k_sq0, k_sq11, k_sq12, k_sq13, k_sq14, k_sq15, k_sqr, k_sqi, k_blk0, k_blk1, k_blk2, k_blk3, k_blk4, k_blk5, k_blkr, k_blki, k_finr, k_fini, k_mapi, k_bindi, k_if1, k_if2, k_ops, k_br, k_rv, k_ri, k_rl, k_rz, k_rzi, k_01d, k_sw, k_01a, k_01b, k_01c, k_ifn, x_cmp, decide_eq_true_eq, Option.map_some, Option.bind_some, Option.toList_some, Option.toList_none, List.cons_append, List.nil_append, Nat.reduceAdd, true_or, or_true, Int.reduceNeg, Int.reduceEq, reduceIte, Nat.zero_le, Nat.reduceLeDiff, Nat.le_refl, Nat.reduceEqDiff, List.getElem?_cons_zero, List.getElem?_cons_succ, xst, List.set_cons_zero, List.set_cons_succ, List.map_cons, List.map_nil, List.sum_cons, List.sum_nil, xcat, Nat.reduceMul, Nat.reduceDiv, Nat.reduceMod, Nat.add_zero, e_nil, e_iconst, e_il, e_al, e_ll, e_istore, e_astore, e_lstore, e_ic, e_iadd, e_isub, e_imul, e_iand, e_ior, e_ixor, e_ishl, e_ishr, e_ineg, e_dupi, e_dupr, e_dupx, e_dup2, e_popi, er_g0, er_g1, er_g2, er_g3, er_g4, er_g5, er_g6, er_g7, er_g8, er_g9, er_g10, er_g11, er_g12, er_g13, er_g14, er_g15, er_g16, er_g17, er_g18, er_g19, er_g20, er_g21, er_g22, er_g23, er_g24, er_g25, er_g26, er_g27, er_g28, er_g29, er_g30, er_g31, er_g32, er_g33, er_g34, er_g35, er_g36, er_g37, er_g38, er_g39, er_g40, er_g41, er_g42, er_g43, er_g44, er_g45, er_g46, er_g47, er_s1, er_s2, er_s5, er_s6, er_s8, er_s10, er_s11, er_s13, er_s14, er_s15, er_s16, er_s20, er_s23, er_s24, er_s25, er_s28, er_s30, er_s31, er_s32, er_s33, er_s42, er_s43, er_s44, er_s21a, er_s21b, er_s12a, er_s12b, isc_R, hk2, er_w15, Int.reduceNeg, Int.reduceToNat, Int.toNat_natCast, Int.toNat_add_nat, xr_a_j, rV_15, rV_p15, x1, Int.natCast_add, Int.cast_ofNat_Int, e_iinc]
  have ew : ∀ b, b < 6 → xit (fun b w => xfu w b (-1)) 6 (q.2 15) b = -1 := fun b hb => by
    obtain rfl | rfl | rfl | rfl | rfl | rfl : b = 0 ∨ b = 1 ∨ b = 2 ∨ b = 3 ∨ b = 4 ∨ b = 5 := by omega
    all_goals rfl
  generalize xit (fun b w => xfu w b (-1)) 6 (q.2 15) = w0 at k1 ew
  have key : ∃ x6 : xV, p_lop (lX12_shoutFor_42 (gg (n + 3))) ([.inr (.inr (.inl (1, 0))), .inl (m : Int), .inl sh, .inl (t : Int), .inl (m : Int), .inl 0, .inr (.inr (.inr 2))], [], hR h (rV q (q.2 14) w0)) = some (.inl (0 + 1), ([.inr (.inr (.inl (1, 0))), .inl (m : Int), .inl sh, .inl (t : Int), .inl ((kShF B sh (q.2 14) m w0 (t + 1)).1 : Int), .inl ((t + 1 : Nat) : Int), x6], [], hR h (rV q (kSail B (t + 1 - 1) (q.2 14)) (kShF B sh (q.2 14) m w0 (t + 1)).2))) := by
    refine k_forE (fun i (x6 : xV) => ([.inr (.inr (.inl (1, 0))), .inl (m : Int), .inl sh, .inl (t : Int), .inl ((kShF B sh (q.2 14) m w0 i).1 : Int), .inl (i : Int), x6], [], hR h (rV q (kSail B (i - 1) (q.2 14)) (kShF B sh (q.2 14) m w0 i).2))) (t + 1) (e := fun x6 => ([.inr (.inr (.inl (1, 0))), .inl (m : Int), .inl sh, .inl (t : Int), .inl ((kShF B sh (q.2 14) m w0 (t + 1)).1 : Int), .inl ((t + 1 : Nat) : Int), x6], [], hR h (rV q (kSail B (t + 1 - 1) (q.2 14)) (kShF B sh (q.2 14) m w0 (t + 1)).2))) (.inr (.inr (.inr 2))) rfl ?_ ?_
    · intro x6
      generalize kShF B sh (q.2 14) m w0 (t + 1) = S
      generalize kSail B (t + 1 - 1) (q.2 14) = a
      have c1 : (t : Int) < ((t + 1 : Nat) : Int) := by omega
      clear hr e0 k1 f2
      simp -implicitDefEqProofs (disch := first | exact isc_R | (simp only [List.map_cons, List.map_nil, List.sum_cons, List.sum_nil, xcat, Nat.reduceAdd, Nat.reduceLeDiff, Nat.zero_le]; done) | omega) only [lX12_shoutFor_42, k_p_sq, k_p_blk, k_sq0, k_sq11, k_sq12, k_sq13, k_sq14, k_sq15, k_sqr, k_sqi, k_blk0, k_blk1, k_blk2, k_blk3, k_blk4, k_blk5, k_blkr, k_blki, k_finr, k_fini, k_mapi, k_bindi, k_if1, k_if2, k_ops, k_br, k_rv, k_ri, k_rl, k_rz, k_rzi, k_01d, k_sw, k_01a, k_01b, k_01c, k_ifn, x_cmp, decide_eq_true_eq, Option.map_some, Option.bind_some, Option.toList_some, Option.toList_none, List.cons_append, List.nil_append, Nat.reduceAdd, true_or, or_true, Int.reduceNeg, Int.reduceEq, reduceIte, Nat.zero_le, Nat.reduceLeDiff, Nat.le_refl, Nat.reduceEqDiff, List.getElem?_cons_zero, List.getElem?_cons_succ, xst, List.set_cons_zero, List.set_cons_succ, List.map_cons, List.map_nil, List.sum_cons, List.sum_nil, xcat, Nat.reduceMul, Nat.reduceDiv, Nat.reduceMod, Nat.add_zero, e_nil, e_iconst, e_il, e_al, e_ll, e_istore, e_astore, e_lstore, e_ic, e_iadd, e_isub, e_imul, e_iand, e_ior, e_ixor, e_ishl, e_ishr, e_ineg, e_dupi, e_dupr, e_dupx, e_dup2, e_popi, er_g0, er_g1, er_g2, er_g3, er_g4, er_g5, er_g6, er_g7, er_g8, er_g9, er_g10, er_g11, er_g12, er_g13, er_g14, er_g15, er_g16, er_g17, er_g18, er_g19, er_g20, er_g21, er_g22, er_g23, er_g24, er_g25, er_g26, er_g27, er_g28, er_g29, er_g30, er_g31, er_g32, er_g33, er_g34, er_g35, er_g36, er_g37, er_g38, er_g39, er_g40, er_g41, er_g42, er_g43, er_g44, er_g45, er_g46, er_g47, er_s1, er_s2, er_s5, er_s6, er_s8, er_s10, er_s11, er_s13, er_s14, er_s15, er_s16, er_s20, er_s23, er_s24, er_s25, er_s28, er_s30, er_s31, er_s32, er_s33, er_s42, er_s43, er_s44, er_s21a, er_s21b, er_s12a, er_s12b, isc_R, c1]
    · intro i hi x6
      refine ⟨.inl (B : Int), ?_⟩
      have hs : kShF B sh (q.2 14) m w0 (i + 1) = (nFix (kHear (kSail B i (q.2 14)) sh) B 64 (kShF B sh (q.2 14) m w0 i).1, xit (kIn1 (nFix (kHear (kSail B i (q.2 14)) sh) B 64 (kShF B sh (q.2 14) m w0 i).1) i) B (kShF B sh (q.2 14) m w0 i).2) := rfl
      rw [hs, show i + 1 - 1 = i from rfl]
      have hlt := kShF_lt (s := sh) (a := q.2 14) (w := w0) hB6 hm i
      generalize kShF B sh (q.2 14) m w0 i = S at hlt
      dsimp only
      have hb1 : (i : Int) ≤ 0 → kSail B (i - 1) (q.2 14) = kSail B i (q.2 14) := fun z => by rw [show i = 0 from by omega]
      have hb2 : ¬ (i : Int) ≤ 0 → xit boat1 B (kSail B (i - 1) (q.2 14)) = kSail B i (q.2 14) := fun z => by
        obtain ⟨i', rfl⟩ : ∃ i', i = i' + 1 := ⟨i - 1, by omega⟩
        rfl
      generalize kSail B (i - 1) (q.2 14) = a1 at hb1 hb2
      generalize kSail B i (q.2 14) = a at hb1 hb2
      have f3 := r_goBoats (n := n + 1) (h := h) (r := rV q a1 S.2) (j := 14) (by decide) hB6 hB
      rw [rV_14, rV_p14] at f3
      have f4 := r_shoutOn (n := n) (h := h) (r := rV q a S.2) (j := 14) (by decide) hB6 hB sh hlt
      rw [rV_14] at f4
      have hz := (nFix_i (f := kHear a sh) hB6 64 S.1 hlt).2
      generalize nFix (kHear a sh) B 64 S.1 = z at f4 hz
      have k2 : p_lop (lX12_shoutFor_77 (gg (n + 3))) ([.inr (.inr (.inl (1, 0))), .inl (m : Int), .inl sh, .inl (t : Int), .inl (z : Int), .inl (i : Int), .inl 0], [], hR h (rV q a S.2)) = some (.inl 1, ([.inr (.inr (.inl (1, 0))), .inl (m : Int), .inl sh, .inl (t : Int), .inl (z : Int), .inl (i : Int), .inl (B : Int)], [], hR h (rV q a (xit (kIn1 z i) B S.2)))) := by
        refine k_for (fun b => ([.inr (.inr (.inl (1, 0))), .inl (m : Int), .inl sh, .inl (t : Int), .inl (z : Int), .inl (i : Int), .inl (b : Int)], [], hR h (rV q a (xit (kIn1 z i) b S.2)))) B rfl ?_ (fun b hb => ?_)
        · generalize xit (kIn1 z i) B S.2 = w
          clear hr e0 k1 f2 f3 f4 hb1 hb2
          simp -implicitDefEqProofs (disch := first | exact isc_R | (simp only [List.map_cons, List.map_nil, List.sum_cons, List.sum_nil, xcat, Nat.reduceAdd, Nat.reduceLeDiff, Nat.zero_le]; done) | omega) only [lX12_shoutFor_77, k_p_sq, k_p_blk, k_sq0, k_sq11, k_sq12, k_sq13, k_sq14, k_sq15, k_sqr, k_sqi, k_blk0, k_blk1, k_blk2, k_blk3, k_blk4, k_blk5, k_blkr, k_blki, k_finr, k_fini, k_mapi, k_bindi, k_if1, k_if2, k_ops, k_br, k_rv, k_ri, k_rl, k_rz, k_rzi, k_01d, k_sw, k_01a, k_01b, k_01c, k_ifn, x_cmp, decide_eq_true_eq, Option.map_some, Option.bind_some, Option.toList_some, Option.toList_none, List.cons_append, List.nil_append, Nat.reduceAdd, true_or, or_true, Int.reduceNeg, Int.reduceEq, reduceIte, Nat.zero_le, Nat.reduceLeDiff, Nat.le_refl, Nat.reduceEqDiff, List.getElem?_cons_zero, List.getElem?_cons_succ, xst, List.set_cons_zero, List.set_cons_succ, List.map_cons, List.map_nil, List.sum_cons, List.sum_nil, xcat, Nat.reduceMul, Nat.reduceDiv, Nat.reduceMod, Nat.add_zero, e_nil, e_iconst, e_il, e_al, e_ll, e_istore, e_astore, e_lstore, e_ic, e_iadd, e_isub, e_imul, e_iand, e_ior, e_ixor, e_ishl, e_ishr, e_ineg, e_dupi, e_dupr, e_dupx, e_dup2, e_popi, er_g0, er_g1, er_g2, er_g3, er_g4, er_g5, er_g6, er_g7, er_g8, er_g9, er_g10, er_g11, er_g12, er_g13, er_g14, er_g15, er_g16, er_g17, er_g18, er_g19, er_g20, er_g21, er_g22, er_g23, er_g24, er_g25, er_g26, er_g27, er_g28, er_g29, er_g30, er_g31, er_g32, er_g33, er_g34, er_g35, er_g36, er_g37, er_g38, er_g39, er_g40, er_g41, er_g42, er_g43, er_g44, er_g45, er_g46, er_g47, er_s1, er_s2, er_s5, er_s6, er_s8, er_s10, er_s11, er_s13, er_s14, er_s15, er_s16, er_s20, er_s23, er_s24, er_s25, er_s28, er_s30, er_s31, er_s32, er_s33, er_s42, er_s43, er_s44, er_s21a, er_s21b, er_s12a, er_s12b, isc_R, rV_1, hB, Int.le_refl]
        · have hs : xit (kIn1 z i) (b + 1) S.2 = kIn1 z i b (xit (kIn1 z i) b S.2) := rfl
          rw [hs]
          generalize xit (kIn1 z i) b S.2 = w
          unfold kIn1
          have e1 := xbit_n (m := z) (g := b) (by omega) (by omega)
          have hk2 : ¬ (B : Int) ≤ (b : Int) := by omega
          have hb6 : b < 6 := by omega
          have x1 : xw ((b : Int) + 1) = (b : Int) + 1 := xw_id (by omega) (by omega)
          clear hr e0 k1 f2 f3 f4 hb1 hb2 hs
          by_cases c1 : z.testBit b = true
          · have e1 := e1.2 c1
            by_cases c2 : w b = -1
            · rw [if_pos ⟨c1, c2⟩]
              simp -implicitDefEqProofs (disch := first | exact isc_R | (simp only [List.map_cons, List.map_nil, List.sum_cons, List.sum_nil, xcat, Nat.reduceAdd, Nat.reduceLeDiff, Nat.zero_le]; done) | omega) only [lX12_shoutFor_77, k_p_sq, k_p_blk, k_sq0, k_sq11, k_sq12, k_sq13, k_sq14, k_sq15, k_sqr, k_sqi, k_blk0, k_blk1, k_blk2, k_blk3, k_blk4, k_blk5, k_blkr, k_blki, k_finr, k_fini, k_mapi, k_bindi, k_if1, k_if2, k_ops, k_br, k_rv, k_ri, k_rl, k_rz, k_rzi, k_01d, k_sw, k_01a, k_01b, k_01c, k_ifn, x_cmp, decide_eq_true_eq, Option.map_some, Option.bind_some, Option.toList_some, Option.toList_none, List.cons_append, List.nil_append, Nat.reduceAdd, true_or, or_true, Int.reduceNeg, Int.reduceEq, reduceIte, Nat.zero_le, Nat.reduceLeDiff, Nat.le_refl, Nat.reduceEqDiff, List.getElem?_cons_zero, List.getElem?_cons_succ, xst, List.set_cons_zero, List.set_cons_succ, List.map_cons, List.map_nil, List.sum_cons, List.sum_nil, xcat, Nat.reduceMul, Nat.reduceDiv, Nat.reduceMod, Nat.add_zero, e_nil, e_iconst, e_il, e_al, e_ll, e_istore, e_astore, e_lstore, e_ic, e_iadd, e_isub, e_imul, e_iand, e_ior, e_ixor, e_ishl, e_ishr, e_ineg, e_dupi, e_dupr, e_dupx, e_dup2, e_popi, er_g0, er_g1, er_g2, er_g3, er_g4, er_g5, er_g6, er_g7, er_g8, er_g9, er_g10, er_g11, er_g12, er_g13, er_g14, er_g15, er_g16, er_g17, er_g18, er_g19, er_g20, er_g21, er_g22, er_g23, er_g24, er_g25, er_g26, er_g27, er_g28, er_g29, er_g30, er_g31, er_g32, er_g33, er_g34, er_g35, er_g36, er_g37, er_g38, er_g39, er_g40, er_g41, er_g42, er_g43, er_g44, er_g45, er_g46, er_g47, er_s1, er_s2, er_s5, er_s6, er_s8, er_s10, er_s11, er_s13, er_s14, er_s15, er_s16, er_s20, er_s23, er_s24, er_s25, er_s28, er_s30, er_s31, er_s32, er_s33, er_s42, er_s43, er_s44, er_s21a, er_s21b, er_s12a, er_s12b, isc_R, rV_1, hB, hk2, ec172, r_has, e1, er_r15, er_w15, Int.reduceNeg, Int.reduceToNat, Int.toNat_natCast, Int.toNat_add_nat, rV_15, c2, xr_a_j, rV_p15, x1, Int.natCast_add, Int.cast_ofNat_Int, e_iinc]
            · rw [if_neg (fun y => c2 y.2)]
              simp -implicitDefEqProofs (disch := first | exact isc_R | (simp only [List.map_cons, List.map_nil, List.sum_cons, List.sum_nil, xcat, Nat.reduceAdd, Nat.reduceLeDiff, Nat.zero_le]; done) | omega) only [lX12_shoutFor_77, k_p_sq, k_p_blk, k_sq0, k_sq11, k_sq12, k_sq13, k_sq14, k_sq15, k_sqr, k_sqi, k_blk0, k_blk1, k_blk2, k_blk3, k_blk4, k_blk5, k_blkr, k_blki, k_finr, k_fini, k_mapi, k_bindi, k_if1, k_if2, k_ops, k_br, k_rv, k_ri, k_rl, k_rz, k_rzi, k_01d, k_sw, k_01a, k_01b, k_01c, k_ifn, x_cmp, decide_eq_true_eq, Option.map_some, Option.bind_some, Option.toList_some, Option.toList_none, List.cons_append, List.nil_append, Nat.reduceAdd, true_or, or_true, Int.reduceNeg, Int.reduceEq, reduceIte, Nat.zero_le, Nat.reduceLeDiff, Nat.le_refl, Nat.reduceEqDiff, List.getElem?_cons_zero, List.getElem?_cons_succ, xst, List.set_cons_zero, List.set_cons_succ, List.map_cons, List.map_nil, List.sum_cons, List.sum_nil, xcat, Nat.reduceMul, Nat.reduceDiv, Nat.reduceMod, Nat.add_zero, e_nil, e_iconst, e_il, e_al, e_ll, e_istore, e_astore, e_lstore, e_ic, e_iadd, e_isub, e_imul, e_iand, e_ior, e_ixor, e_ishl, e_ishr, e_ineg, e_dupi, e_dupr, e_dupx, e_dup2, e_popi, er_g0, er_g1, er_g2, er_g3, er_g4, er_g5, er_g6, er_g7, er_g8, er_g9, er_g10, er_g11, er_g12, er_g13, er_g14, er_g15, er_g16, er_g17, er_g18, er_g19, er_g20, er_g21, er_g22, er_g23, er_g24, er_g25, er_g26, er_g27, er_g28, er_g29, er_g30, er_g31, er_g32, er_g33, er_g34, er_g35, er_g36, er_g37, er_g38, er_g39, er_g40, er_g41, er_g42, er_g43, er_g44, er_g45, er_g46, er_g47, er_s1, er_s2, er_s5, er_s6, er_s8, er_s10, er_s11, er_s13, er_s14, er_s15, er_s16, er_s20, er_s23, er_s24, er_s25, er_s28, er_s30, er_s31, er_s32, er_s33, er_s42, er_s43, er_s44, er_s21a, er_s21b, er_s12a, er_s12b, isc_R, rV_1, hB, hk2, ec172, r_has, e1, er_r15, er_w15, Int.reduceNeg, Int.reduceToNat, Int.toNat_natCast, Int.toNat_add_nat, rV_15, c2, x1, Int.natCast_add, Int.cast_ofNat_Int, e_iinc]
          · have e1 : ¬ xand (xshr (z : Int) b) 1 = 1 := fun y => c1 (e1.1 y)
            rw [if_neg (fun y => c1 y.1)]
            simp -implicitDefEqProofs (disch := first | exact isc_R | (simp only [List.map_cons, List.map_nil, List.sum_cons, List.sum_nil, xcat, Nat.reduceAdd, Nat.reduceLeDiff, Nat.zero_le]; done) | omega) only [lX12_shoutFor_77, k_p_sq, k_p_blk, k_sq0, k_sq11, k_sq12, k_sq13, k_sq14, k_sq15, k_sqr, k_sqi, k_blk0, k_blk1, k_blk2, k_blk3, k_blk4, k_blk5, k_blkr, k_blki, k_finr, k_fini, k_mapi, k_bindi, k_if1, k_if2, k_ops, k_br, k_rv, k_ri, k_rl, k_rz, k_rzi, k_01d, k_sw, k_01a, k_01b, k_01c, k_ifn, x_cmp, decide_eq_true_eq, Option.map_some, Option.bind_some, Option.toList_some, Option.toList_none, List.cons_append, List.nil_append, Nat.reduceAdd, true_or, or_true, Int.reduceNeg, Int.reduceEq, reduceIte, Nat.zero_le, Nat.reduceLeDiff, Nat.le_refl, Nat.reduceEqDiff, List.getElem?_cons_zero, List.getElem?_cons_succ, xst, List.set_cons_zero, List.set_cons_succ, List.map_cons, List.map_nil, List.sum_cons, List.sum_nil, xcat, Nat.reduceMul, Nat.reduceDiv, Nat.reduceMod, Nat.add_zero, e_nil, e_iconst, e_il, e_al, e_ll, e_istore, e_astore, e_lstore, e_ic, e_iadd, e_isub, e_imul, e_iand, e_ior, e_ixor, e_ishl, e_ishr, e_ineg, e_dupi, e_dupr, e_dupx, e_dup2, e_popi, er_g0, er_g1, er_g2, er_g3, er_g4, er_g5, er_g6, er_g7, er_g8, er_g9, er_g10, er_g11, er_g12, er_g13, er_g14, er_g15, er_g16, er_g17, er_g18, er_g19, er_g20, er_g21, er_g22, er_g23, er_g24, er_g25, er_g26, er_g27, er_g28, er_g29, er_g30, er_g31, er_g32, er_g33, er_g34, er_g35, er_g36, er_g37, er_g38, er_g39, er_g40, er_g41, er_g42, er_g43, er_g44, er_g45, er_g46, er_g47, er_s1, er_s2, er_s5, er_s6, er_s8, er_s10, er_s11, er_s13, er_s14, er_s15, er_s16, er_s20, er_s23, er_s24, er_s25, er_s28, er_s30, er_s31, er_s32, er_s33, er_s42, er_s43, er_s44, er_s21a, er_s21b, er_s12a, er_s12b, isc_R, rV_1, hB, hk2, ec172, r_has, e1, x1, Int.natCast_add, Int.cast_ofNat_Int, e_iinc]
      generalize xit (kIn1 z i) B S.2 = w at k2
      have hk2 : ¬ (t : Int) < (i : Int) := by omega
      have x1 : xw ((i : Int) + 1) = (i : Int) + 1 := xw_id (by omega) (by omega)
      clear hr e0 k1 f2 hs hz hlt
      by_cases c1 : (i : Int) ≤ 0
      · have hb1 := hb1 c1
        subst hb1
        clear hb2
        simp -implicitDefEqProofs (disch := first | exact isc_R | (simp only [List.map_cons, List.map_nil, List.sum_cons, List.sum_nil, xcat, Nat.reduceAdd, Nat.reduceLeDiff, Nat.zero_le]; done) | omega) only [lX12_shoutFor_42, k_p_sq, k_p_blk, k_sq0, k_sq11, k_sq12, k_sq13, k_sq14, k_sq15, k_sqr, k_sqi, k_blk0, k_blk1, k_blk2, k_blk3, k_blk4, k_blk5, k_blkr, k_blki, k_finr, k_fini, k_mapi, k_bindi, k_if1, k_if2, k_ops, k_br, k_rv, k_ri, k_rl, k_rz, k_rzi, k_01d, k_sw, k_01a, k_01b, k_01c, k_ifn, x_cmp, decide_eq_true_eq, Option.map_some, Option.bind_some, Option.toList_some, Option.toList_none, List.cons_append, List.nil_append, Nat.reduceAdd, true_or, or_true, Int.reduceNeg, Int.reduceEq, reduceIte, Nat.zero_le, Nat.reduceLeDiff, Nat.le_refl, Nat.reduceEqDiff, List.getElem?_cons_zero, List.getElem?_cons_succ, xst, List.set_cons_zero, List.set_cons_succ, List.map_cons, List.map_nil, List.sum_cons, List.sum_nil, xcat, Nat.reduceMul, Nat.reduceDiv, Nat.reduceMod, Nat.add_zero, e_nil, e_iconst, e_il, e_al, e_ll, e_istore, e_astore, e_lstore, e_ic, e_iadd, e_isub, e_imul, e_iand, e_ior, e_ixor, e_ishl, e_ishr, e_ineg, e_dupi, e_dupr, e_dupx, e_dup2, e_popi, er_g0, er_g1, er_g2, er_g3, er_g4, er_g5, er_g6, er_g7, er_g8, er_g9, er_g10, er_g11, er_g12, er_g13, er_g14, er_g15, er_g16, er_g17, er_g18, er_g19, er_g20, er_g21, er_g22, er_g23, er_g24, er_g25, er_g26, er_g27, er_g28, er_g29, er_g30, er_g31, er_g32, er_g33, er_g34, er_g35, er_g36, er_g37, er_g38, er_g39, er_g40, er_g41, er_g42, er_g43, er_g44, er_g45, er_g46, er_g47, er_s1, er_s2, er_s5, er_s6, er_s8, er_s10, er_s11, er_s13, er_s14, er_s15, er_s16, er_s20, er_s23, er_s24, er_s25, er_s28, er_s30, er_s31, er_s32, er_s33, er_s42, er_s43, er_s44, er_s21a, er_s21b, er_s12a, er_s12b, isc_R, hk2, c1, ec248, f4, k2, x1, Int.natCast_add, Int.cast_ofNat_Int, e_iinc]
      · have hb2 := hb2 c1
        subst hb2
        clear hb1
        simp -implicitDefEqProofs (disch := first | exact isc_R | (simp only [List.map_cons, List.map_nil, List.sum_cons, List.sum_nil, xcat, Nat.reduceAdd, Nat.reduceLeDiff, Nat.zero_le]; done) | omega) only [lX12_shoutFor_42, k_p_sq, k_p_blk, k_sq0, k_sq11, k_sq12, k_sq13, k_sq14, k_sq15, k_sqr, k_sqi, k_blk0, k_blk1, k_blk2, k_blk3, k_blk4, k_blk5, k_blkr, k_blki, k_finr, k_fini, k_mapi, k_bindi, k_if1, k_if2, k_ops, k_br, k_rv, k_ri, k_rl, k_rz, k_rzi, k_01d, k_sw, k_01a, k_01b, k_01c, k_ifn, x_cmp, decide_eq_true_eq, Option.map_some, Option.bind_some, Option.toList_some, Option.toList_none, List.cons_append, List.nil_append, Nat.reduceAdd, true_or, or_true, Int.reduceNeg, Int.reduceEq, reduceIte, Nat.zero_le, Nat.reduceLeDiff, Nat.le_refl, Nat.reduceEqDiff, List.getElem?_cons_zero, List.getElem?_cons_succ, xst, List.set_cons_zero, List.set_cons_succ, List.map_cons, List.map_nil, List.sum_cons, List.sum_nil, xcat, Nat.reduceMul, Nat.reduceDiv, Nat.reduceMod, Nat.add_zero, e_nil, e_iconst, e_il, e_al, e_ll, e_istore, e_astore, e_lstore, e_ic, e_iadd, e_isub, e_imul, e_iand, e_ior, e_ixor, e_ishl, e_ishr, e_ineg, e_dupi, e_dupr, e_dupx, e_dup2, e_popi, er_g0, er_g1, er_g2, er_g3, er_g4, er_g5, er_g6, er_g7, er_g8, er_g9, er_g10, er_g11, er_g12, er_g13, er_g14, er_g15, er_g16, er_g17, er_g18, er_g19, er_g20, er_g21, er_g22, er_g23, er_g24, er_g25, er_g26, er_g27, er_g28, er_g29, er_g30, er_g31, er_g32, er_g33, er_g34, er_g35, er_g36, er_g37, er_g38, er_g39, er_g40, er_g41, er_g42, er_g43, er_g44, er_g45, er_g46, er_g47, er_s1, er_s2, er_s5, er_s6, er_s8, er_s10, er_s11, er_s13, er_s14, er_s15, er_s16, er_s20, er_s23, er_s24, er_s25, er_s28, er_s30, er_s31, er_s32, er_s33, er_s42, er_s43, er_s44, er_s21a, er_s21b, er_s12a, er_s12b, isc_R, hk2, c1, ec206, f3, ec248, f4, k2, x1, Int.natCast_add, Int.cast_ofNat_Int, e_iinc]
  obtain ⟨x6, key⟩ := key
  obtain ⟨g1, g2⟩ := kShF_eq (a := q.2 14) (a' := r.2 1) hB6 e0 sh m (w := w0) (w' := fun _ => -1) ew (t + 1)
  generalize kShF B sh (q.2 14) m w0 (t + 1) = S at key g1 g2
  rw [← g1]
  refine ⟨rV q (kSail B (t + 1 - 1) (q.2 14)) S.2, ?_, by rw [rV_c, hC], fun b hb => by rw [rV_15]; exact g2 b hb⟩
  generalize kSail B (t + 1 - 1) (q.2 14) = a at key
  rw [gr251]
  clear hr e0 g1 g2 hC
  simp -implicitDefEqProofs (disch := first | exact isc_R | (simp only [List.map_cons, List.map_nil, List.sum_cons, List.sum_nil, xcat, Nat.reduceAdd, Nat.reduceLeDiff, Nat.zero_le]; done) | omega) only [fX12_shoutFor, k_p_sq, k_p_blk, k_sq0, k_sq11, k_sq12, k_sq13, k_sq14, k_sq15, k_sqr, k_sqi, k_blk0, k_blk1, k_blk2, k_blk3, k_blk4, k_blk5, k_blkr, k_blki, k_finr, k_fini, k_mapi, k_bindi, k_if1, k_if2, k_ops, k_br, k_rv, k_ri, k_rl, k_rz, k_rzi, k_01d, k_sw, k_01a, k_01b, k_01c, k_ifn, x_cmp, decide_eq_true_eq, Option.map_some, Option.bind_some, Option.toList_some, Option.toList_none, List.cons_append, List.nil_append, Nat.reduceAdd, true_or, or_true, Int.reduceNeg, Int.reduceEq, reduceIte, Nat.zero_le, Nat.reduceLeDiff, Nat.le_refl, Nat.reduceEqDiff, List.getElem?_cons_zero, List.getElem?_cons_succ, xst, List.set_cons_zero, List.set_cons_succ, List.map_cons, List.map_nil, List.sum_cons, List.sum_nil, xcat, Nat.reduceMul, Nat.reduceDiv, Nat.reduceMod, Nat.add_zero, e_nil, e_iconst, e_il, e_al, e_ll, e_istore, e_astore, e_lstore, e_ic, e_iadd, e_isub, e_imul, e_iand, e_ior, e_ixor, e_ishl, e_ishr, e_ineg, e_dupi, e_dupr, e_dupx, e_dup2, e_popi, er_g0, er_g1, er_g2, er_g3, er_g4, er_g5, er_g6, er_g7, er_g8, er_g9, er_g10, er_g11, er_g12, er_g13, er_g14, er_g15, er_g16, er_g17, er_g18, er_g19, er_g20, er_g21, er_g22, er_g23, er_g24, er_g25, er_g26, er_g27, er_g28, er_g29, er_g30, er_g31, er_g32, er_g33, er_g34, er_g35, er_g36, er_g37, er_g38, er_g39, er_g40, er_g41, er_g42, er_g43, er_g44, er_g45, er_g46, er_g47, er_s1, er_s2, er_s5, er_s6, er_s8, er_s10, er_s11, er_s13, er_s14, er_s15, er_s16, er_s20, er_s23, er_s24, er_s25, er_s28, er_s30, er_s31, er_s32, er_s33, er_s42, er_s43, er_s44, er_s21a, er_s21b, er_s12a, er_s12b, isc_R, ec213, f2, k1, key]
def kAll1 (w : Nat → Int) (b : Nat) (x : Int) : Int := mMax x (w b)
/-- when all know (1000000: never) -/
def kAll (B : Nat) (s : Int) (a : Nat → Int) (m : Nat) : Int :=
  let S := kShF B s a m (fun _ => -1) 61
  if S.1 = 2 ^ B - 1 then xit (kAll1 S.2) B 0 else 1000000
def sShouted (r : xR) (th sh t : Int) : Int × xR :=
  if (0 ≤ th ∧ th ≤ xw (xshl 1 (r.1 1) - 1)) ∧ (0 ≤ sh ∧ sh ≤ 15) ∧ (0 ≤ t ∧ t ≤ 60) then
    (let S := kShF (kB (rK r)) sh (r.2 1) th.toNat (fun _ => -1) (t.toNat + 1)
     ((S.1 : Int), rTell (xr_i r 11 0) ((List.range (kB (rK r))).map fun b => S.2 b)))
  else (-1, xr_i r 11 0)
theorem shl_B {B : Nat} (hB : B ≤ 6) : xw (xshl 1 (B : Int) - 1) = ((2 ^ B - 1 : Nat) : Int) ∧ 2 ^ B - 1 < 64 := by
  obtain rfl | rfl | rfl | rfl | rfl | rfl | rfl : B = 0 ∨ B = 1 ∨ B = 2 ∨ B = 3 ∨ B = 4 ∨ B = 5 ∨ B = 6 := by omega
  all_goals decide
set_option maxHeartbeats 800000 in
theorem R_shouted (hr : rOk r) (th sh t : Int) : ∃ r', (gg (n + 5) 252).2 [.inr (.inr (.inl (1, 0))), .inl th, .inl sh, .inl t] (hR h r) = some (some (.inl (sShouted r th sh t).1), hR h r') ∧ rC r' = rC (sShouted r th sh t).2 := by
  have f1 := r_areBoats (n := n + 2) (h := h) (r := xr_i r 11 0) th
  rw [show (xr_i r 11 0).1 1 = r.1 1 from rfl] at f1
  have f2 := r_isShout (n := n + 2) (H := hR h (xr_i r 11 0)) sh
  have f3 := r_isLook (n := n + 2) (H := hR h (xr_i r 11 0)) t
  have hB : r.1 1 = (kB (rK r) : Int) := by have := hr.1.1; show r.1 1 = ((r.1 1).toNat : Int); omega
  have hB6 := rOk_B hr
  have hsh := shl_B hB6
  unfold sShouted
  by_cases c1 : 0 ≤ th ∧ th ≤ xw (xshl 1 (r.1 1) - 1)
  · by_cases c2 : 0 ≤ sh ∧ sh ≤ 15
    · by_cases c3 : 0 ≤ t ∧ t ≤ 60
      · rw [if_pos ⟨c1, c2, c3⟩]
        dsimp only
        have hth : th.toNat < 64 := by rw [hB] at c1; omega
        obtain ⟨r2, f4, f5, f6⟩ := r_shoutFor (n := n) (h := h) (r := xr_i r 11 0) hr sh hth (t := t.toNat) (by omega)
        rw [show ((th.toNat : Nat) : Int) = th from by omega, show ((t.toNat : Nat) : Int) = t from by omega, show rK (xr_i r 11 0) = rK r from rfl, show (xr_i r 11 0).2 1 = r.2 1 from rfl] at f4
        rw [show rK (xr_i r 11 0) = rK r from rfl, show (xr_i r 11 0).2 1 = r.2 1 from rfl] at f6
        have hB2 : ∀ vs, (rTell r2 vs).1 1 = (kB (rK r) : Int) := fun vs => by rw [rTell_1 _ _ (by decide), rC_e1 f5 (k := 1) rfl]; exact hB
        generalize kShF (kB (rK r)) sh (r.2 1) th.toNat (fun _ => -1) (t.toNat + 1) = S at f4 f6
        generalize kB (rK r) = B at hB hB6 hsh hB2
        have key : p_lop (lX12_shouted_46 (gg (n + 4))) ([.inr (.inr (.inl (1, 0))), .inl th, .inl sh, .inl t, .inl (S.1 : Int), .inl 0], [], hR h (rTell r2 [])) = some (.inl 1, ([.inr (.inr (.inl (1, 0))), .inl th, .inl sh, .inl t, .inl (S.1 : Int), .inl (B : Int)], [], hR h (rTell r2 ((List.range B).map fun b => S.2 b)))) := by
          refine k_for (fun i => ([.inr (.inr (.inl (1, 0))), .inl th, .inl sh, .inl t, .inl (S.1 : Int), .inl (i : Int)], [], hR h (rTell r2 ((List.range i).map fun b => S.2 b)))) B rfl ?_ (fun i hi => ?_)
          · generalize ((List.range B).map fun b => S.2 b) = vs
            clear hr
            simp -implicitDefEqProofs (disch := first | exact isc_R | (simp only [List.map_cons, List.map_nil, List.sum_cons, List.sum_nil, xcat, Nat.reduceAdd, Nat.reduceLeDiff, Nat.zero_le]; done) | omega) only [lX12_shouted_46, k_p_sq, k_p_blk, k_sq0, k_sq11, k_sq12, k_sq13, k_sq14, k_sq15, k_sqr, k_sqi, k_blk0, k_blk1, k_blk2, k_blk3, k_blk4, k_blk5, k_blkr, k_blki, k_finr, k_fini, k_mapi, k_bindi, k_if1, k_if2, k_ops, k_br, k_rv, k_ri, k_rl, k_rz, k_rzi, k_01d, k_sw, k_01a, k_01b, k_01c, k_ifn, x_cmp, decide_eq_true_eq, Option.map_some, Option.bind_some, Option.toList_some, Option.toList_none, List.cons_append, List.nil_append, Nat.reduceAdd, true_or, or_true, Int.reduceNeg, Int.reduceEq, reduceIte, Nat.zero_le, Nat.reduceLeDiff, Nat.le_refl, Nat.reduceEqDiff, List.getElem?_cons_zero, List.getElem?_cons_succ, xst, List.set_cons_zero, List.set_cons_succ, List.map_cons, List.map_nil, List.sum_cons, List.sum_nil, xcat, Nat.reduceMul, Nat.reduceDiv, Nat.reduceMod, Nat.add_zero, e_nil, e_iconst, e_il, e_al, e_ll, e_istore, e_astore, e_lstore, e_ic, e_iadd, e_isub, e_imul, e_iand, e_ior, e_ixor, e_ishl, e_ishr, e_ineg, e_dupi, e_dupr, e_dupx, e_dup2, e_popi, er_g0, er_g1, er_g2, er_g3, er_g4, er_g5, er_g6, er_g7, er_g8, er_g9, er_g10, er_g11, er_g12, er_g13, er_g14, er_g15, er_g16, er_g17, er_g18, er_g19, er_g20, er_g21, er_g22, er_g23, er_g24, er_g25, er_g26, er_g27, er_g28, er_g29, er_g30, er_g31, er_g32, er_g33, er_g34, er_g35, er_g36, er_g37, er_g38, er_g39, er_g40, er_g41, er_g42, er_g43, er_g44, er_g45, er_g46, er_g47, er_s1, er_s2, er_s5, er_s6, er_s8, er_s10, er_s11, er_s13, er_s14, er_s15, er_s16, er_s20, er_s23, er_s24, er_s25, er_s28, er_s30, er_s31, er_s32, er_s33, er_s42, er_s43, er_s44, er_s21a, er_s21b, er_s12a, er_s12b, isc_R, hB2, Int.le_refl]
          · rw [map_succ]
            have hlen : ((List.range i).map fun b => S.2 b).length < 16 := by rw [List.length_map, List.length_range]; omega
            generalize ((List.range i).map fun b => S.2 b) = vs at hlen
            have g15 : (rTell r2 vs).2 15 i = S.2 i := by rw [rTell_2 _ _ (by decide)]; exact f6 i (by omega)
            have g4 := r_tellN (n := n + 3) (h := h) (r := r2) (S.2 i) hlen
            have hk2 : ¬ (B : Int) ≤ (i : Int) := by omega
            have hi6 : i < 6 := by omega
            have x1 : xw ((i : Int) + 1) = (i : Int) + 1 := xw_id (by omega) (by omega)
            clear hr f6 c1 c2 c3 hsh
            simp -implicitDefEqProofs (disch := first | exact isc_R | (simp only [List.map_cons, List.map_nil, List.sum_cons, List.sum_nil, xcat, Nat.reduceAdd, Nat.reduceLeDiff, Nat.zero_le]; done) | omega) only [lX12_shouted_46, k_p_sq, k_p_blk, k_sq0, k_sq11, k_sq12, k_sq13, k_sq14, k_sq15, k_sqr, k_sqi, k_blk0, k_blk1, k_blk2, k_blk3, k_blk4, k_blk5, k_blkr, k_blki, k_finr, k_fini, k_mapi, k_bindi, k_if1, k_if2, k_ops, k_br, k_rv, k_ri, k_rl, k_rz, k_rzi, k_01d, k_sw, k_01a, k_01b, k_01c, k_ifn, x_cmp, decide_eq_true_eq, Option.map_some, Option.bind_some, Option.toList_some, Option.toList_none, List.cons_append, List.nil_append, Nat.reduceAdd, true_or, or_true, Int.reduceNeg, Int.reduceEq, reduceIte, Nat.zero_le, Nat.reduceLeDiff, Nat.le_refl, Nat.reduceEqDiff, List.getElem?_cons_zero, List.getElem?_cons_succ, xst, List.set_cons_zero, List.set_cons_succ, List.map_cons, List.map_nil, List.sum_cons, List.sum_nil, xcat, Nat.reduceMul, Nat.reduceDiv, Nat.reduceMod, Nat.add_zero, e_nil, e_iconst, e_il, e_al, e_ll, e_istore, e_astore, e_lstore, e_ic, e_iadd, e_isub, e_imul, e_iand, e_ior, e_ixor, e_ishl, e_ishr, e_ineg, e_dupi, e_dupr, e_dupx, e_dup2, e_popi, er_g0, er_g1, er_g2, er_g3, er_g4, er_g5, er_g6, er_g7, er_g8, er_g9, er_g10, er_g11, er_g12, er_g13, er_g14, er_g15, er_g16, er_g17, er_g18, er_g19, er_g20, er_g21, er_g22, er_g23, er_g24, er_g25, er_g26, er_g27, er_g28, er_g29, er_g30, er_g31, er_g32, er_g33, er_g34, er_g35, er_g36, er_g37, er_g38, er_g39, er_g40, er_g41, er_g42, er_g43, er_g44, er_g45, er_g46, er_g47, er_s1, er_s2, er_s5, er_s6, er_s8, er_s10, er_s11, er_s13, er_s14, er_s15, er_s16, er_s20, er_s23, er_s24, er_s25, er_s28, er_s30, er_s31, er_s32, er_s33, er_s42, er_s43, er_s44, er_s21a, er_s21b, er_s12a, er_s12b, isc_R, hB2, hk2, er_r15, Int.reduceNeg, Int.reduceToNat, Int.toNat_natCast, Int.toNat_add_nat, g15, ec174, g4, x1, Int.natCast_add, Int.cast_ofNat_Int, e_iinc]
        refine ⟨rTell r2 ((List.range B).map fun b => S.2 b), ?_, by rw [rC_tell, rC_tell, f5]⟩
        generalize ((List.range B).map fun b => S.2 b) = vs at key
        rw [gr252]
        clear hr f5 f6 hsh
        simp -implicitDefEqProofs (disch := first | exact isc_R | (simp only [List.map_cons, List.map_nil, List.sum_cons, List.sum_nil, xcat, Nat.reduceAdd, Nat.reduceLeDiff, Nat.zero_le]; done) | omega) only [fX12_shouted, k_p_sq, k_p_blk, k_sq0, k_sq11, k_sq12, k_sq13, k_sq14, k_sq15, k_sqr, k_sqi, k_blk0, k_blk1, k_blk2, k_blk3, k_blk4, k_blk5, k_blkr, k_blki, k_finr, k_fini, k_mapi, k_bindi, k_if1, k_if2, k_ops, k_br, k_rv, k_ri, k_rl, k_rz, k_rzi, k_01d, k_sw, k_01a, k_01b, k_01c, k_ifn, x_cmp, decide_eq_true_eq, Option.map_some, Option.bind_some, Option.toList_some, Option.toList_none, List.cons_append, List.nil_append, Nat.reduceAdd, true_or, or_true, Int.reduceNeg, Int.reduceEq, reduceIte, Nat.zero_le, Nat.reduceLeDiff, Nat.le_refl, Nat.reduceEqDiff, List.getElem?_cons_zero, List.getElem?_cons_succ, xst, List.set_cons_zero, List.set_cons_succ, List.map_cons, List.map_nil, List.sum_cons, List.sum_nil, xcat, Nat.reduceMul, Nat.reduceDiv, Nat.reduceMod, Nat.add_zero, e_nil, e_iconst, e_il, e_al, e_ll, e_istore, e_astore, e_lstore, e_ic, e_iadd, e_isub, e_imul, e_iand, e_ior, e_ixor, e_ishl, e_ishr, e_ineg, e_dupi, e_dupr, e_dupx, e_dup2, e_popi, er_g0, er_g1, er_g2, er_g3, er_g4, er_g5, er_g6, er_g7, er_g8, er_g9, er_g10, er_g11, er_g12, er_g13, er_g14, er_g15, er_g16, er_g17, er_g18, er_g19, er_g20, er_g21, er_g22, er_g23, er_g24, er_g25, er_g26, er_g27, er_g28, er_g29, er_g30, er_g31, er_g32, er_g33, er_g34, er_g35, er_g36, er_g37, er_g38, er_g39, er_g40, er_g41, er_g42, er_g43, er_g44, er_g45, er_g46, er_g47, er_s1, er_s2, er_s5, er_s6, er_s8, er_s10, er_s11, er_s13, er_s14, er_s15, er_s16, er_s20, er_s23, er_s24, er_s25, er_s28, er_s30, er_s31, er_s32, er_s33, er_s42, er_s43, er_s44, er_s21a, er_s21b, er_s12a, er_s12b, isc_R, ec249, f1, c1, ec250, f2, c2, ec237, f3, c3, true_and, false_and, or_self, or_true, true_or, or_false, false_or, and_true, and_false, and_self, not_true_eq_false, not_false_eq_true, ec251, f4, rTell_0, key, Int.reduceEq]
      · rw [if_neg (fun z => c3 z.2.2)]
        refine ⟨_, ?_, rfl⟩
        rw [gr252]
        clear hr hsh
        simp -implicitDefEqProofs (disch := first | exact isc_R | (simp only [List.map_cons, List.map_nil, List.sum_cons, List.sum_nil, xcat, Nat.reduceAdd, Nat.reduceLeDiff, Nat.zero_le]; done) | omega) only [fX12_shouted, k_p_sq, k_p_blk, k_sq0, k_sq11, k_sq12, k_sq13, k_sq14, k_sq15, k_sqr, k_sqi, k_blk0, k_blk1, k_blk2, k_blk3, k_blk4, k_blk5, k_blkr, k_blki, k_finr, k_fini, k_mapi, k_bindi, k_if1, k_if2, k_ops, k_br, k_rv, k_ri, k_rl, k_rz, k_rzi, k_01d, k_sw, k_01a, k_01b, k_01c, k_ifn, x_cmp, decide_eq_true_eq, Option.map_some, Option.bind_some, Option.toList_some, Option.toList_none, List.cons_append, List.nil_append, Nat.reduceAdd, true_or, or_true, Int.reduceNeg, Int.reduceEq, reduceIte, Nat.zero_le, Nat.reduceLeDiff, Nat.le_refl, Nat.reduceEqDiff, List.getElem?_cons_zero, List.getElem?_cons_succ, xst, List.set_cons_zero, List.set_cons_succ, List.map_cons, List.map_nil, List.sum_cons, List.sum_nil, xcat, Nat.reduceMul, Nat.reduceDiv, Nat.reduceMod, Nat.add_zero, e_nil, e_iconst, e_il, e_al, e_ll, e_istore, e_astore, e_lstore, e_ic, e_iadd, e_isub, e_imul, e_iand, e_ior, e_ixor, e_ishl, e_ishr, e_ineg, e_dupi, e_dupr, e_dupx, e_dup2, e_popi, er_g0, er_g1, er_g2, er_g3, er_g4, er_g5, er_g6, er_g7, er_g8, er_g9, er_g10, er_g11, er_g12, er_g13, er_g14, er_g15, er_g16, er_g17, er_g18, er_g19, er_g20, er_g21, er_g22, er_g23, er_g24, er_g25, er_g26, er_g27, er_g28, er_g29, er_g30, er_g31, er_g32, er_g33, er_g34, er_g35, er_g36, er_g37, er_g38, er_g39, er_g40, er_g41, er_g42, er_g43, er_g44, er_g45, er_g46, er_g47, er_s1, er_s2, er_s5, er_s6, er_s8, er_s10, er_s11, er_s13, er_s14, er_s15, er_s16, er_s20, er_s23, er_s24, er_s25, er_s28, er_s30, er_s31, er_s32, er_s33, er_s42, er_s43, er_s44, er_s21a, er_s21b, er_s12a, er_s12b, isc_R, ec249, f1, c1, ec250, f2, c2, ec237, f3, c3, true_and, false_and, or_self, or_true, true_or, or_false, false_or, and_true, and_false, and_self, not_true_eq_false, not_false_eq_true, Int.reduceEq]
    · rw [if_neg (fun z => c2 z.2.1)]
      refine ⟨_, ?_, rfl⟩
      rw [gr252]
      clear hr hsh
      simp -implicitDefEqProofs (disch := first | exact isc_R | (simp only [List.map_cons, List.map_nil, List.sum_cons, List.sum_nil, xcat, Nat.reduceAdd, Nat.reduceLeDiff, Nat.zero_le]; done) | omega) only [fX12_shouted, k_p_sq, k_p_blk, k_sq0, k_sq11, k_sq12, k_sq13, k_sq14, k_sq15, k_sqr, k_sqi, k_blk0, k_blk1, k_blk2, k_blk3, k_blk4, k_blk5, k_blkr, k_blki, k_finr, k_fini, k_mapi, k_bindi, k_if1, k_if2, k_ops, k_br, k_rv, k_ri, k_rl, k_rz, k_rzi, k_01d, k_sw, k_01a, k_01b, k_01c, k_ifn, x_cmp, decide_eq_true_eq, Option.map_some, Option.bind_some, Option.toList_some, Option.toList_none, List.cons_append, List.nil_append, Nat.reduceAdd, true_or, or_true, Int.reduceNeg, Int.reduceEq, reduceIte, Nat.zero_le, Nat.reduceLeDiff, Nat.le_refl, Nat.reduceEqDiff, List.getElem?_cons_zero, List.getElem?_cons_succ, xst, List.set_cons_zero, List.set_cons_succ, List.map_cons, List.map_nil, List.sum_cons, List.sum_nil, xcat, Nat.reduceMul, Nat.reduceDiv, Nat.reduceMod, Nat.add_zero, e_nil, e_iconst, e_il, e_al, e_ll, e_istore, e_astore, e_lstore, e_ic, e_iadd, e_isub, e_imul, e_iand, e_ior, e_ixor, e_ishl, e_ishr, e_ineg, e_dupi, e_dupr, e_dupx, e_dup2, e_popi, er_g0, er_g1, er_g2, er_g3, er_g4, er_g5, er_g6, er_g7, er_g8, er_g9, er_g10, er_g11, er_g12, er_g13, er_g14, er_g15, er_g16, er_g17, er_g18, er_g19, er_g20, er_g21, er_g22, er_g23, er_g24, er_g25, er_g26, er_g27, er_g28, er_g29, er_g30, er_g31, er_g32, er_g33, er_g34, er_g35, er_g36, er_g37, er_g38, er_g39, er_g40, er_g41, er_g42, er_g43, er_g44, er_g45, er_g46, er_g47, er_s1, er_s2, er_s5, er_s6, er_s8, er_s10, er_s11, er_s13, er_s14, er_s15, er_s16, er_s20, er_s23, er_s24, er_s25, er_s28, er_s30, er_s31, er_s32, er_s33, er_s42, er_s43, er_s44, er_s21a, er_s21b, er_s12a, er_s12b, isc_R, ec249, f1, c1, ec250, f2, c2, true_and, false_and, or_self, or_true, true_or, or_false, false_or, and_true, and_false, and_self, not_true_eq_false, not_false_eq_true, Int.reduceEq]
  · rw [if_neg (fun z => c1 z.1)]
    refine ⟨_, ?_, rfl⟩
    rw [gr252]
    clear hr hsh
    simp -implicitDefEqProofs (disch := first | exact isc_R | (simp only [List.map_cons, List.map_nil, List.sum_cons, List.sum_nil, xcat, Nat.reduceAdd, Nat.reduceLeDiff, Nat.zero_le]; done) | omega) only [fX12_shouted, k_p_sq, k_p_blk, k_sq0, k_sq11, k_sq12, k_sq13, k_sq14, k_sq15, k_sqr, k_sqi, k_blk0, k_blk1, k_blk2, k_blk3, k_blk4, k_blk5, k_blkr, k_blki, k_finr, k_fini, k_mapi, k_bindi, k_if1, k_if2, k_ops, k_br, k_rv, k_ri, k_rl, k_rz, k_rzi, k_01d, k_sw, k_01a, k_01b, k_01c, k_ifn, x_cmp, decide_eq_true_eq, Option.map_some, Option.bind_some, Option.toList_some, Option.toList_none, List.cons_append, List.nil_append, Nat.reduceAdd, true_or, or_true, Int.reduceNeg, Int.reduceEq, reduceIte, Nat.zero_le, Nat.reduceLeDiff, Nat.le_refl, Nat.reduceEqDiff, List.getElem?_cons_zero, List.getElem?_cons_succ, xst, List.set_cons_zero, List.set_cons_succ, List.map_cons, List.map_nil, List.sum_cons, List.sum_nil, xcat, Nat.reduceMul, Nat.reduceDiv, Nat.reduceMod, Nat.add_zero, e_nil, e_iconst, e_il, e_al, e_ll, e_istore, e_astore, e_lstore, e_ic, e_iadd, e_isub, e_imul, e_iand, e_ior, e_ixor, e_ishl, e_ishr, e_ineg, e_dupi, e_dupr, e_dupx, e_dup2, e_popi, er_g0, er_g1, er_g2, er_g3, er_g4, er_g5, er_g6, er_g7, er_g8, er_g9, er_g10, er_g11, er_g12, er_g13, er_g14, er_g15, er_g16, er_g17, er_g18, er_g19, er_g20, er_g21, er_g22, er_g23, er_g24, er_g25, er_g26, er_g27, er_g28, er_g29, er_g30, er_g31, er_g32, er_g33, er_g34, er_g35, er_g36, er_g37, er_g38, er_g39, er_g40, er_g41, er_g42, er_g43, er_g44, er_g45, er_g46, er_g47, er_s1, er_s2, er_s5, er_s6, er_s8, er_s10, er_s11, er_s13, er_s14, er_s15, er_s16, er_s20, er_s23, er_s24, er_s25, er_s28, er_s30, er_s31, er_s32, er_s33, er_s42, er_s43, er_s44, er_s21a, er_s21b, er_s12a, er_s12b, isc_R, ec249, f1, c1, true_and, false_and, or_self, or_true, true_or, or_false, false_or, and_true, and_false, and_self, not_true_eq_false, not_false_eq_true, Int.reduceEq]
set_option maxHeartbeats 800000 in
theorem r_allKnow (hr : rOk r) (sh : Int) {m : Nat} (hm : m < 64) : ∃ r', (gg (n + 5) 253).2 [.inr (.inr (.inl (1, 0))), .inl (m : Int), .inl sh] (hR h r) = some (some (.inl (kAll (kB (rK r)) sh (r.2 1) m)), hR h r') ∧ rC r' = rC r := by
  obtain ⟨r2, f4, f5, f6⟩ := r_shoutFor (n := n) (h := h) (r := r) hr sh hm (t := 60) (by omega)
  have hB : r2.1 1 = (kB (rK r) : Int) := by rw [rC_e1 f5 (k := 1) rfl]; have := hr.1.1; show r.1 1 = ((r.1 1).toNat : Int); omega
  have hB6 := rOk_B hr
  have hsh := shl_B hB6
  have f4 : (gg (n + 4) 251).2 [.inr (.inr (.inl (1, 0))), .inl (m : Int), .inl sh, .inl 60] (hR h r) = some (some (.inl ((kShF (kB (rK r)) sh (r.2 1) m (fun _ => -1) 61).1 : Int)), hR h r2) := f4
  have f6 : ∀ b, b < 6 → r2.2 15 b = (kShF (kB (rK r)) sh (r.2 1) m (fun _ => -1) 61).2 b := f6
  unfold kAll
  dsimp only
  generalize kShF (kB (rK r)) sh (r.2 1) m (fun _ => -1) 61 = S at f4 f6
  generalize kB (rK r) = B at hB hB6 hsh
  refine ⟨r2, ?_, f5⟩
  rw [gr253]
  by_cases c1 : S.1 = 2 ^ B - 1
  · rw [if_pos c1]
    have c1i : (S.1 : Int) = ((2 ^ B - 1 : Nat) : Int) := by rw [c1]
    have key : p_lop (lX12_allKnow_28 (gg (n + 4))) ([.inr (.inr (.inl (1, 0))), .inl (m : Int), .inl sh, .inl 0, .inl 0], [], hR h r2) = some (.inl 1, ([.inr (.inr (.inl (1, 0))), .inl (m : Int), .inl sh, .inl (xit (kAll1 S.2) B 0), .inl (B : Int)], [], hR h r2)) := by
      refine k_for (fun i => ([.inr (.inr (.inl (1, 0))), .inl (m : Int), .inl sh, .inl (xit (kAll1 S.2) i 0), .inl (i : Int)], [], hR h r2)) B rfl ?_ (fun i hi => ?_)
      · generalize xit (kAll1 S.2) B 0 = x
        clear hr hsh
        simp -implicitDefEqProofs (disch := first | exact isc_R | (simp only [List.map_cons, List.map_nil, List.sum_cons, List.sum_nil, xcat, Nat.reduceAdd, Nat.reduceLeDiff, Nat.zero_le]; done) | omega) only [lX12_allKnow_28, k_p_sq, k_p_blk, k_sq0, k_sq11, k_sq12, k_sq13, k_sq14, k_sq15, k_sqr, k_sqi, k_blk0, k_blk1, k_blk2, k_blk3, k_blk4, k_blk5, k_blkr, k_blki, k_finr, k_fini, k_mapi, k_bindi, k_if1, k_if2, k_ops, k_br, k_rv, k_ri, k_rl, k_rz, k_rzi, k_01d, k_sw, k_01a, k_01b, k_01c, k_ifn, x_cmp, decide_eq_true_eq, Option.map_some, Option.bind_some, Option.toList_some, Option.toList_none, List.cons_append, List.nil_append, Nat.reduceAdd, true_or, or_true, Int.reduceNeg, Int.reduceEq, reduceIte, Nat.zero_le, Nat.reduceLeDiff, Nat.le_refl, Nat.reduceEqDiff, List.getElem?_cons_zero, List.getElem?_cons_succ, xst, List.set_cons_zero, List.set_cons_succ, List.map_cons, List.map_nil, List.sum_cons, List.sum_nil, xcat, Nat.reduceMul, Nat.reduceDiv, Nat.reduceMod, Nat.add_zero, e_nil, e_iconst, e_il, e_al, e_ll, e_istore, e_astore, e_lstore, e_ic, e_iadd, e_isub, e_imul, e_iand, e_ior, e_ixor, e_ishl, e_ishr, e_ineg, e_dupi, e_dupr, e_dupx, e_dup2, e_popi, er_g0, er_g1, er_g2, er_g3, er_g4, er_g5, er_g6, er_g7, er_g8, er_g9, er_g10, er_g11, er_g12, er_g13, er_g14, er_g15, er_g16, er_g17, er_g18, er_g19, er_g20, er_g21, er_g22, er_g23, er_g24, er_g25, er_g26, er_g27, er_g28, er_g29, er_g30, er_g31, er_g32, er_g33, er_g34, er_g35, er_g36, er_g37, er_g38, er_g39, er_g40, er_g41, er_g42, er_g43, er_g44, er_g45, er_g46, er_g47, er_s1, er_s2, er_s5, er_s6, er_s8, er_s10, er_s11, er_s13, er_s14, er_s15, er_s16, er_s20, er_s23, er_s24, er_s25, er_s28, er_s30, er_s31, er_s32, er_s33, er_s42, er_s43, er_s44, er_s21a, er_s21b, er_s12a, er_s12b, isc_R, hB, Int.le_refl]
      · have hs : xit (kAll1 S.2) (i + 1) 0 = mMax (xit (kAll1 S.2) i 0) (S.2 i) := rfl
        rw [hs]
        generalize xit (kAll1 S.2) i 0 = x
        have g15 := f6 i (by omega)
        have hk2 : ¬ (B : Int) ≤ (i : Int) := by omega
        have hi6 : i < 6 := by omega
        have x1 : xw ((i : Int) + 1) = (i : Int) + 1 := xw_id (by omega) (by omega)
        clear hr hsh f6 hs c1 c1i f5
        simp -implicitDefEqProofs (disch := first | exact isc_R | (simp only [List.map_cons, List.map_nil, List.sum_cons, List.sum_nil, xcat, Nat.reduceAdd, Nat.reduceLeDiff, Nat.zero_le]; done) | omega) only [lX12_allKnow_28, k_p_sq, k_p_blk, k_sq0, k_sq11, k_sq12, k_sq13, k_sq14, k_sq15, k_sqr, k_sqi, k_blk0, k_blk1, k_blk2, k_blk3, k_blk4, k_blk5, k_blkr, k_blki, k_finr, k_fini, k_mapi, k_bindi, k_if1, k_if2, k_ops, k_br, k_rv, k_ri, k_rl, k_rz, k_rzi, k_01d, k_sw, k_01a, k_01b, k_01c, k_ifn, x_cmp, decide_eq_true_eq, Option.map_some, Option.bind_some, Option.toList_some, Option.toList_none, List.cons_append, List.nil_append, Nat.reduceAdd, true_or, or_true, Int.reduceNeg, Int.reduceEq, reduceIte, Nat.zero_le, Nat.reduceLeDiff, Nat.le_refl, Nat.reduceEqDiff, List.getElem?_cons_zero, List.getElem?_cons_succ, xst, List.set_cons_zero, List.set_cons_succ, List.map_cons, List.map_nil, List.sum_cons, List.sum_nil, xcat, Nat.reduceMul, Nat.reduceDiv, Nat.reduceMod, Nat.add_zero, e_nil, e_iconst, e_il, e_al, e_ll, e_istore, e_astore, e_lstore, e_ic, e_iadd, e_isub, e_imul, e_iand, e_ior, e_ixor, e_ishl, e_ishr, e_ineg, e_dupi, e_dupr, e_dupx, e_dup2, e_popi, er_g0, er_g1, er_g2, er_g3, er_g4, er_g5, er_g6, er_g7, er_g8, er_g9, er_g10, er_g11, er_g12, er_g13, er_g14, er_g15, er_g16, er_g17, er_g18, er_g19, er_g20, er_g21, er_g22, er_g23, er_g24, er_g25, er_g26, er_g27, er_g28, er_g29, er_g30, er_g31, er_g32, er_g33, er_g34, er_g35, er_g36, er_g37, er_g38, er_g39, er_g40, er_g41, er_g42, er_g43, er_g44, er_g45, er_g46, er_g47, er_s1, er_s2, er_s5, er_s6, er_s8, er_s10, er_s11, er_s13, er_s14, er_s15, er_s16, er_s20, er_s23, er_s24, er_s25, er_s28, er_s30, er_s31, er_s32, er_s33, er_s42, er_s43, er_s44, er_s21a, er_s21b, er_s12a, er_s12b, isc_R, hB, hk2, er_r15, Int.reduceNeg, Int.reduceToNat, Int.toNat_natCast, Int.toNat_add_nat, g15, ec280, r_max, x1, Int.natCast_add, Int.cast_ofNat_Int, e_iinc]
    generalize xit (kAll1 S.2) B 0 = x at key
    have h1 := hsh.1
    clear hr hsh f6 f5 c1
    simp -implicitDefEqProofs (disch := first | exact isc_R | (simp only [List.map_cons, List.map_nil, List.sum_cons, List.sum_nil, xcat, Nat.reduceAdd, Nat.reduceLeDiff, Nat.zero_le]; done) | omega) only [fX12_allKnow, k_p_sq, k_p_blk, k_sq0, k_sq11, k_sq12, k_sq13, k_sq14, k_sq15, k_sqr, k_sqi, k_blk0, k_blk1, k_blk2, k_blk3, k_blk4, k_blk5, k_blkr, k_blki, k_finr, k_fini, k_mapi, k_bindi, k_if1, k_if2, k_ops, k_br, k_rv, k_ri, k_rl, k_rz, k_rzi, k_01d, k_sw, k_01a, k_01b, k_01c, k_ifn, x_cmp, decide_eq_true_eq, Option.map_some, Option.bind_some, Option.toList_some, Option.toList_none, List.cons_append, List.nil_append, Nat.reduceAdd, true_or, or_true, Int.reduceNeg, Int.reduceEq, reduceIte, Nat.zero_le, Nat.reduceLeDiff, Nat.le_refl, Nat.reduceEqDiff, List.getElem?_cons_zero, List.getElem?_cons_succ, xst, List.set_cons_zero, List.set_cons_succ, List.map_cons, List.map_nil, List.sum_cons, List.sum_nil, xcat, Nat.reduceMul, Nat.reduceDiv, Nat.reduceMod, Nat.add_zero, e_nil, e_iconst, e_il, e_al, e_ll, e_istore, e_astore, e_lstore, e_ic, e_iadd, e_isub, e_imul, e_iand, e_ior, e_ixor, e_ishl, e_ishr, e_ineg, e_dupi, e_dupr, e_dupx, e_dup2, e_popi, er_g0, er_g1, er_g2, er_g3, er_g4, er_g5, er_g6, er_g7, er_g8, er_g9, er_g10, er_g11, er_g12, er_g13, er_g14, er_g15, er_g16, er_g17, er_g18, er_g19, er_g20, er_g21, er_g22, er_g23, er_g24, er_g25, er_g26, er_g27, er_g28, er_g29, er_g30, er_g31, er_g32, er_g33, er_g34, er_g35, er_g36, er_g37, er_g38, er_g39, er_g40, er_g41, er_g42, er_g43, er_g44, er_g45, er_g46, er_g47, er_s1, er_s2, er_s5, er_s6, er_s8, er_s10, er_s11, er_s13, er_s14, er_s15, er_s16, er_s20, er_s23, er_s24, er_s25, er_s28, er_s30, er_s31, er_s32, er_s33, er_s42, er_s43, er_s44, er_s21a, er_s21b, er_s12a, er_s12b, isc_R, ec251, f4, hB, h1, c1i, key]
  · rw [if_neg c1]
    have c1i : ¬ (S.1 : Int) = ((2 ^ B - 1 : Nat) : Int) := fun z => c1 (by omega)
    have h1 := hsh.1
    clear hr hsh f6 f5 c1
    simp -implicitDefEqProofs (disch := first | exact isc_R | (simp only [List.map_cons, List.map_nil, List.sum_cons, List.sum_nil, xcat, Nat.reduceAdd, Nat.reduceLeDiff, Nat.zero_le]; done) | omega) only [fX12_allKnow, k_p_sq, k_p_blk, k_sq0, k_sq11, k_sq12, k_sq13, k_sq14, k_sq15, k_sqr, k_sqi, k_blk0, k_blk1, k_blk2, k_blk3, k_blk4, k_blk5, k_blkr, k_blki, k_finr, k_fini, k_mapi, k_bindi, k_if1, k_if2, k_ops, k_br, k_rv, k_ri, k_rl, k_rz, k_rzi, k_01d, k_sw, k_01a, k_01b, k_01c, k_ifn, x_cmp, decide_eq_true_eq, Option.map_some, Option.bind_some, Option.toList_some, Option.toList_none, List.cons_append, List.nil_append, Nat.reduceAdd, true_or, or_true, Int.reduceNeg, Int.reduceEq, reduceIte, Nat.zero_le, Nat.reduceLeDiff, Nat.le_refl, Nat.reduceEqDiff, List.getElem?_cons_zero, List.getElem?_cons_succ, xst, List.set_cons_zero, List.set_cons_succ, List.map_cons, List.map_nil, List.sum_cons, List.sum_nil, xcat, Nat.reduceMul, Nat.reduceDiv, Nat.reduceMod, Nat.add_zero, e_nil, e_iconst, e_il, e_al, e_ll, e_istore, e_astore, e_lstore, e_ic, e_iadd, e_isub, e_imul, e_iand, e_ior, e_ixor, e_ishl, e_ishr, e_ineg, e_dupi, e_dupr, e_dupx, e_dup2, e_popi, er_g0, er_g1, er_g2, er_g3, er_g4, er_g5, er_g6, er_g7, er_g8, er_g9, er_g10, er_g11, er_g12, er_g13, er_g14, er_g15, er_g16, er_g17, er_g18, er_g19, er_g20, er_g21, er_g22, er_g23, er_g24, er_g25, er_g26, er_g27, er_g28, er_g29, er_g30, er_g31, er_g32, er_g33, er_g34, er_g35, er_g36, er_g37, er_g38, er_g39, er_g40, er_g41, er_g42, er_g43, er_g44, er_g45, er_g46, er_g47, er_s1, er_s2, er_s5, er_s6, er_s8, er_s10, er_s11, er_s13, er_s14, er_s15, er_s16, er_s20, er_s23, er_s24, er_s25, er_s28, er_s30, er_s31, er_s32, er_s33, er_s42, er_s43, er_s44, er_s21a, er_s21b, er_s12a, er_s12b, isc_R, ec251, f4, hB, h1, c1i]
def sSpreads (r : xR) (th sh : Int) : Int × xR :=
  if (0 ≤ th ∧ th ≤ xw (xshl 1 (r.1 1) - 1)) ∧ ¬ th = 0 ∧ (0 ≤ sh ∧ sh ≤ 15) then
    (if kAll (kB (rK r)) sh (r.2 1) th.toNat = 1000000 then -2 else kAll (kB (rK r)) sh (r.2 1) th.toNat, xr_i r 11 0)
  else (-1, xr_i r 11 0)
set_option maxHeartbeats 800000 in
theorem R_spreads (hr : rOk r) (th sh : Int) : ∃ r', (gg (n + 6) 254).2 [.inr (.inr (.inl (1, 0))), .inl th, .inl sh] (hR h r) = some (some (.inl (sSpreads r th sh).1), hR h r') ∧ rC r' = rC (sSpreads r th sh).2 := by
  have f1 := r_areBoats (n := n + 3) (h := h) (r := xr_i r 11 0) th
  rw [show (xr_i r 11 0).1 1 = r.1 1 from rfl] at f1
  have f2 := r_isShout (n := n + 3) (H := hR h (xr_i r 11 0)) sh
  have hB : r.1 1 = (kB (rK r) : Int) := by have := hr.1.1; show r.1 1 = ((r.1 1).toNat : Int); omega
  have hsh := shl_B (rOk_B hr)
  unfold sSpreads
  by_cases c1 : 0 ≤ th ∧ th ≤ xw (xshl 1 (r.1 1) - 1)
  · by_cases c3 : th = 0
    · rw [if_neg (fun z => z.2.1 c3)]
      refine ⟨_, ?_, rfl⟩
      rw [gr254]
      clear hr hsh
      rw [if_pos c1] at f1
      subst c3
      simp -implicitDefEqProofs (disch := first | exact isc_R | (simp only [List.map_cons, List.map_nil, List.sum_cons, List.sum_nil, xcat, Nat.reduceAdd, Nat.reduceLeDiff, Nat.zero_le]; done) | omega) only [fX12_spreads, k_p_sq, k_p_blk, k_sq0, k_sq11, k_sq12, k_sq13, k_sq14, k_sq15, k_sqr, k_sqi, k_blk0, k_blk1, k_blk2, k_blk3, k_blk4, k_blk5, k_blkr, k_blki, k_finr, k_fini, k_mapi, k_bindi, k_if1, k_if2, k_ops, k_br, k_rv, k_ri, k_rl, k_rz, k_rzi, k_01d, k_sw, k_01a, k_01b, k_01c, k_ifn, x_cmp, decide_eq_true_eq, Option.map_some, Option.bind_some, Option.toList_some, Option.toList_none, List.cons_append, List.nil_append, Nat.reduceAdd, true_or, or_true, Int.reduceNeg, Int.reduceEq, reduceIte, Nat.zero_le, Nat.reduceLeDiff, Nat.le_refl, Nat.reduceEqDiff, List.getElem?_cons_zero, List.getElem?_cons_succ, xst, List.set_cons_zero, List.set_cons_succ, List.map_cons, List.map_nil, List.sum_cons, List.sum_nil, xcat, Nat.reduceMul, Nat.reduceDiv, Nat.reduceMod, Nat.add_zero, e_nil, e_iconst, e_il, e_al, e_ll, e_istore, e_astore, e_lstore, e_ic, e_iadd, e_isub, e_imul, e_iand, e_ior, e_ixor, e_ishl, e_ishr, e_ineg, e_dupi, e_dupr, e_dupx, e_dup2, e_popi, er_g0, er_g1, er_g2, er_g3, er_g4, er_g5, er_g6, er_g7, er_g8, er_g9, er_g10, er_g11, er_g12, er_g13, er_g14, er_g15, er_g16, er_g17, er_g18, er_g19, er_g20, er_g21, er_g22, er_g23, er_g24, er_g25, er_g26, er_g27, er_g28, er_g29, er_g30, er_g31, er_g32, er_g33, er_g34, er_g35, er_g36, er_g37, er_g38, er_g39, er_g40, er_g41, er_g42, er_g43, er_g44, er_g45, er_g46, er_g47, er_s1, er_s2, er_s5, er_s6, er_s8, er_s10, er_s11, er_s13, er_s14, er_s15, er_s16, er_s20, er_s23, er_s24, er_s25, er_s28, er_s30, er_s31, er_s32, er_s33, er_s42, er_s43, er_s44, er_s21a, er_s21b, er_s12a, er_s12b, isc_R, ec249, f1, true_and, false_and, or_self, or_true, true_or, or_false, false_or, and_true, and_false, and_self, not_true_eq_false, not_false_eq_true, Int.reduceEq]
    · by_cases c2 : 0 ≤ sh ∧ sh ≤ 15
      · rw [if_pos ⟨c1, c3, c2⟩]
        dsimp only
        have hth : th.toNat < 64 := by rw [hB] at c1; omega
        obtain ⟨r2, f4, f5⟩ := r_allKnow (n := n) (h := h) (r := xr_i r 11 0) hr sh hth
        rw [show ((th.toNat : Nat) : Int) = th from by omega, show rK (xr_i r 11 0) = rK r from rfl, show (xr_i r 11 0).2 1 = r.2 1 from rfl] at f4
        generalize kAll (kB (rK r)) sh (r.2 1) th.toNat = v at f4
        refine ⟨r2, ?_, f5⟩
        rw [gr254]
        clear hr hsh f5 hB
        by_cases c4 : v = 1000000
        · subst c4
          simp -implicitDefEqProofs (disch := first | exact isc_R | (simp only [List.map_cons, List.map_nil, List.sum_cons, List.sum_nil, xcat, Nat.reduceAdd, Nat.reduceLeDiff, Nat.zero_le]; done) | omega) only [fX12_spreads, k_p_sq, k_p_blk, k_sq0, k_sq11, k_sq12, k_sq13, k_sq14, k_sq15, k_sqr, k_sqi, k_blk0, k_blk1, k_blk2, k_blk3, k_blk4, k_blk5, k_blkr, k_blki, k_finr, k_fini, k_mapi, k_bindi, k_if1, k_if2, k_ops, k_br, k_rv, k_ri, k_rl, k_rz, k_rzi, k_01d, k_sw, k_01a, k_01b, k_01c, k_ifn, x_cmp, decide_eq_true_eq, Option.map_some, Option.bind_some, Option.toList_some, Option.toList_none, List.cons_append, List.nil_append, Nat.reduceAdd, true_or, or_true, Int.reduceNeg, Int.reduceEq, reduceIte, Nat.zero_le, Nat.reduceLeDiff, Nat.le_refl, Nat.reduceEqDiff, List.getElem?_cons_zero, List.getElem?_cons_succ, xst, List.set_cons_zero, List.set_cons_succ, List.map_cons, List.map_nil, List.sum_cons, List.sum_nil, xcat, Nat.reduceMul, Nat.reduceDiv, Nat.reduceMod, Nat.add_zero, e_nil, e_iconst, e_il, e_al, e_ll, e_istore, e_astore, e_lstore, e_ic, e_iadd, e_isub, e_imul, e_iand, e_ior, e_ixor, e_ishl, e_ishr, e_ineg, e_dupi, e_dupr, e_dupx, e_dup2, e_popi, er_g0, er_g1, er_g2, er_g3, er_g4, er_g5, er_g6, er_g7, er_g8, er_g9, er_g10, er_g11, er_g12, er_g13, er_g14, er_g15, er_g16, er_g17, er_g18, er_g19, er_g20, er_g21, er_g22, er_g23, er_g24, er_g25, er_g26, er_g27, er_g28, er_g29, er_g30, er_g31, er_g32, er_g33, er_g34, er_g35, er_g36, er_g37, er_g38, er_g39, er_g40, er_g41, er_g42, er_g43, er_g44, er_g45, er_g46, er_g47, er_s1, er_s2, er_s5, er_s6, er_s8, er_s10, er_s11, er_s13, er_s14, er_s15, er_s16, er_s20, er_s23, er_s24, er_s25, er_s28, er_s30, er_s31, er_s32, er_s33, er_s42, er_s43, er_s44, er_s21a, er_s21b, er_s12a, er_s12b, isc_R, ec249, f1, c1, ec250, f2, c2, c3, true_and, false_and, or_self, or_true, true_or, or_false, false_or, and_true, and_false, and_self, not_true_eq_false, not_false_eq_true, ec253, f4, Int.reduceEq]
        · simp -implicitDefEqProofs (disch := first | exact isc_R | (simp only [List.map_cons, List.map_nil, List.sum_cons, List.sum_nil, xcat, Nat.reduceAdd, Nat.reduceLeDiff, Nat.zero_le]; done) | omega) only [fX12_spreads, k_p_sq, k_p_blk, k_sq0, k_sq11, k_sq12, k_sq13, k_sq14, k_sq15, k_sqr, k_sqi, k_blk0, k_blk1, k_blk2, k_blk3, k_blk4, k_blk5, k_blkr, k_blki, k_finr, k_fini, k_mapi, k_bindi, k_if1, k_if2, k_ops, k_br, k_rv, k_ri, k_rl, k_rz, k_rzi, k_01d, k_sw, k_01a, k_01b, k_01c, k_ifn, x_cmp, decide_eq_true_eq, Option.map_some, Option.bind_some, Option.toList_some, Option.toList_none, List.cons_append, List.nil_append, Nat.reduceAdd, true_or, or_true, Int.reduceNeg, Int.reduceEq, reduceIte, Nat.zero_le, Nat.reduceLeDiff, Nat.le_refl, Nat.reduceEqDiff, List.getElem?_cons_zero, List.getElem?_cons_succ, xst, List.set_cons_zero, List.set_cons_succ, List.map_cons, List.map_nil, List.sum_cons, List.sum_nil, xcat, Nat.reduceMul, Nat.reduceDiv, Nat.reduceMod, Nat.add_zero, e_nil, e_iconst, e_il, e_al, e_ll, e_istore, e_astore, e_lstore, e_ic, e_iadd, e_isub, e_imul, e_iand, e_ior, e_ixor, e_ishl, e_ishr, e_ineg, e_dupi, e_dupr, e_dupx, e_dup2, e_popi, er_g0, er_g1, er_g2, er_g3, er_g4, er_g5, er_g6, er_g7, er_g8, er_g9, er_g10, er_g11, er_g12, er_g13, er_g14, er_g15, er_g16, er_g17, er_g18, er_g19, er_g20, er_g21, er_g22, er_g23, er_g24, er_g25, er_g26, er_g27, er_g28, er_g29, er_g30, er_g31, er_g32, er_g33, er_g34, er_g35, er_g36, er_g37, er_g38, er_g39, er_g40, er_g41, er_g42, er_g43, er_g44, er_g45, er_g46, er_g47, er_s1, er_s2, er_s5, er_s6, er_s8, er_s10, er_s11, er_s13, er_s14, er_s15, er_s16, er_s20, er_s23, er_s24, er_s25, er_s28, er_s30, er_s31, er_s32, er_s33, er_s42, er_s43, er_s44, er_s21a, er_s21b, er_s12a, er_s12b, isc_R, ec249, f1, c1, ec250, f2, c2, c3, true_and, false_and, or_self, or_true, true_or, or_false, false_or, and_true, and_false, and_self, not_true_eq_false, not_false_eq_true, ec253, f4, c4, Int.reduceEq]
      · rw [if_neg (fun z => c2 z.2.2)]
        refine ⟨_, ?_, rfl⟩
        rw [gr254]
        clear hr hsh
        simp -implicitDefEqProofs (disch := first | exact isc_R | (simp only [List.map_cons, List.map_nil, List.sum_cons, List.sum_nil, xcat, Nat.reduceAdd, Nat.reduceLeDiff, Nat.zero_le]; done) | omega) only [fX12_spreads, k_p_sq, k_p_blk, k_sq0, k_sq11, k_sq12, k_sq13, k_sq14, k_sq15, k_sqr, k_sqi, k_blk0, k_blk1, k_blk2, k_blk3, k_blk4, k_blk5, k_blkr, k_blki, k_finr, k_fini, k_mapi, k_bindi, k_if1, k_if2, k_ops, k_br, k_rv, k_ri, k_rl, k_rz, k_rzi, k_01d, k_sw, k_01a, k_01b, k_01c, k_ifn, x_cmp, decide_eq_true_eq, Option.map_some, Option.bind_some, Option.toList_some, Option.toList_none, List.cons_append, List.nil_append, Nat.reduceAdd, true_or, or_true, Int.reduceNeg, Int.reduceEq, reduceIte, Nat.zero_le, Nat.reduceLeDiff, Nat.le_refl, Nat.reduceEqDiff, List.getElem?_cons_zero, List.getElem?_cons_succ, xst, List.set_cons_zero, List.set_cons_succ, List.map_cons, List.map_nil, List.sum_cons, List.sum_nil, xcat, Nat.reduceMul, Nat.reduceDiv, Nat.reduceMod, Nat.add_zero, e_nil, e_iconst, e_il, e_al, e_ll, e_istore, e_astore, e_lstore, e_ic, e_iadd, e_isub, e_imul, e_iand, e_ior, e_ixor, e_ishl, e_ishr, e_ineg, e_dupi, e_dupr, e_dupx, e_dup2, e_popi, er_g0, er_g1, er_g2, er_g3, er_g4, er_g5, er_g6, er_g7, er_g8, er_g9, er_g10, er_g11, er_g12, er_g13, er_g14, er_g15, er_g16, er_g17, er_g18, er_g19, er_g20, er_g21, er_g22, er_g23, er_g24, er_g25, er_g26, er_g27, er_g28, er_g29, er_g30, er_g31, er_g32, er_g33, er_g34, er_g35, er_g36, er_g37, er_g38, er_g39, er_g40, er_g41, er_g42, er_g43, er_g44, er_g45, er_g46, er_g47, er_s1, er_s2, er_s5, er_s6, er_s8, er_s10, er_s11, er_s13, er_s14, er_s15, er_s16, er_s20, er_s23, er_s24, er_s25, er_s28, er_s30, er_s31, er_s32, er_s33, er_s42, er_s43, er_s44, er_s21a, er_s21b, er_s12a, er_s12b, isc_R, ec249, f1, c1, ec250, f2, c2, c3, true_and, false_and, or_self, or_true, true_or, or_false, false_or, and_true, and_false, and_self, not_true_eq_false, not_false_eq_true, Int.reduceEq]
  · rw [if_neg (fun z => c1 z.1)]
    refine ⟨_, ?_, rfl⟩
    rw [gr254]
    clear hr hsh
    simp -implicitDefEqProofs (disch := first | exact isc_R | (simp only [List.map_cons, List.map_nil, List.sum_cons, List.sum_nil, xcat, Nat.reduceAdd, Nat.reduceLeDiff, Nat.zero_le]; done) | omega) only [fX12_spreads, k_p_sq, k_p_blk, k_sq0, k_sq11, k_sq12, k_sq13, k_sq14, k_sq15, k_sqr, k_sqi, k_blk0, k_blk1, k_blk2, k_blk3, k_blk4, k_blk5, k_blkr, k_blki, k_finr, k_fini, k_mapi, k_bindi, k_if1, k_if2, k_ops, k_br, k_rv, k_ri, k_rl, k_rz, k_rzi, k_01d, k_sw, k_01a, k_01b, k_01c, k_ifn, x_cmp, decide_eq_true_eq, Option.map_some, Option.bind_some, Option.toList_some, Option.toList_none, List.cons_append, List.nil_append, Nat.reduceAdd, true_or, or_true, Int.reduceNeg, Int.reduceEq, reduceIte, Nat.zero_le, Nat.reduceLeDiff, Nat.le_refl, Nat.reduceEqDiff, List.getElem?_cons_zero, List.getElem?_cons_succ, xst, List.set_cons_zero, List.set_cons_succ, List.map_cons, List.map_nil, List.sum_cons, List.sum_nil, xcat, Nat.reduceMul, Nat.reduceDiv, Nat.reduceMod, Nat.add_zero, e_nil, e_iconst, e_il, e_al, e_ll, e_istore, e_astore, e_lstore, e_ic, e_iadd, e_isub, e_imul, e_iand, e_ior, e_ixor, e_ishl, e_ishr, e_ineg, e_dupi, e_dupr, e_dupx, e_dup2, e_popi, er_g0, er_g1, er_g2, er_g3, er_g4, er_g5, er_g6, er_g7, er_g8, er_g9, er_g10, er_g11, er_g12, er_g13, er_g14, er_g15, er_g16, er_g17, er_g18, er_g19, er_g20, er_g21, er_g22, er_g23, er_g24, er_g25, er_g26, er_g27, er_g28, er_g29, er_g30, er_g31, er_g32, er_g33, er_g34, er_g35, er_g36, er_g37, er_g38, er_g39, er_g40, er_g41, er_g42, er_g43, er_g44, er_g45, er_g46, er_g47, er_s1, er_s2, er_s5, er_s6, er_s8, er_s10, er_s11, er_s13, er_s14, er_s15, er_s16, er_s20, er_s23, er_s24, er_s25, er_s28, er_s30, er_s31, er_s32, er_s33, er_s42, er_s43, er_s44, er_s21a, er_s21b, er_s12a, er_s12b, isc_R, ec249, f1, c1, true_and, false_and, or_self, or_true, true_or, or_false, false_or, and_true, and_false, and_self, not_true_eq_false, not_false_eq_true, Int.reduceEq]
def kTl1 (B : Nat) (sh : Int) (a : Nat → Int) (b : Nat) (s : Int × Int) : Int × Int := if s.2 ≤ kAll B sh a (2 ^ b) then s else ((b : Int), kAll B sh a (2 ^ b))
def sTeller (r : xR) (sh : Int) : Int × xR :=
  if 0 ≤ sh ∧ sh ≤ 15 then
    (let S := xit (kTl1 (kB (rK r)) sh (r.2 1)) (kB (rK r)) (-2, 1000000)
     if S.1 < 0 then (-2, xr_i r 11 0) else (S.1, rTell (xr_i r 11 0) [S.2]))
  else (-1, xr_i r 11 0)
set_option maxHeartbeats 800000 in
theorem R_teller (hr : rOk r) (sh : Int) : ∃ r', (gg (n + 6) 255).2 [.inr (.inr (.inl (1, 0))), .inl sh] (hR h r) = some (some (.inl (sTeller r sh).1), hR h r') ∧ rC r' = rC (sTeller r sh).2 := by
  have f2 := r_isShout (n := n + 3) (H := hR h (xr_i r 11 0)) sh
  have hB : r.1 1 = (kB (rK r) : Int) := by have := hr.1.1; show r.1 1 = ((r.1 1).toNat : Int); omega
  have hB6 := rOk_B hr
  unfold sTeller
  by_cases c2 : 0 ≤ sh ∧ sh ≤ 15
  · rw [if_pos c2]
    dsimp only
    have hr0 : rOk (xr_i r 11 0) := hr
    have hK0 : rK (xr_i r 11 0) = rK r := rfl
    have h21 : (xr_i r 11 0).2 1 = r.2 1 := rfl
    have hb0 : (xr_i r 11 0).1 1 = r.1 1 := rfl
    generalize hq : xr_i r 11 0 = q at hr0 hK0 h21 hb0 f2
    have key : ∃ J1 : {p : xR // rC p = rC q} × xV, p_lop (lX12_teller_24 (gg (n + 5))) ([.inr (.inr (.inl (1, 0))), .inl sh, .inl (-2), .inl 1000000, .inl 0, .inr (.inr (.inr 2))], [], hR h q) = some (.inl (0 + 1), ([.inr (.inr (.inl (1, 0))), .inl sh, .inl (xit (kTl1 (kB (rK r)) sh (r.2 1)) (kB (rK r)) (-2, 1000000)).1, .inl (xit (kTl1 (kB (rK r)) sh (r.2 1)) (kB (rK r)) (-2, 1000000)).2, .inl (kB (rK r) : Int), J1.2], [], hR h J1.1.1)) := by
      refine k_forE (fun i (J : {p : xR // rC p = rC q} × xV) => ([.inr (.inr (.inl (1, 0))), .inl sh, .inl (xit (kTl1 (kB (rK r)) sh (r.2 1)) i (-2, 1000000)).1, .inl (xit (kTl1 (kB (rK r)) sh (r.2 1)) i (-2, 1000000)).2, .inl (i : Int), J.2], [], hR h J.1.1)) (kB (rK r)) (e := fun J1 => ([.inr (.inr (.inl (1, 0))), .inl sh, .inl (xit (kTl1 (kB (rK r)) sh (r.2 1)) (kB (rK r)) (-2, 1000000)).1, .inl (xit (kTl1 (kB (rK r)) sh (r.2 1)) (kB (rK r)) (-2, 1000000)).2, .inl (kB (rK r) : Int), J1.2], [], hR h J1.1.1)) (⟨q, rfl⟩, .inr (.inr (.inr 2))) rfl ?_ ?_
      · rintro ⟨⟨p, hp⟩, x5⟩
        have hp1 : p.1 1 = (kB (rK r) : Int) := by rw [rC_e1 hp (k := 1) rfl, hb0, hB]
        clear hr hr0
        simp -implicitDefEqProofs (disch := first | exact isc_R | (simp only [List.map_cons, List.map_nil, List.sum_cons, List.sum_nil, xcat, Nat.reduceAdd, Nat.reduceLeDiff, Nat.zero_le]; done) | omega) only [lX12_teller_24, k_p_sq, k_p_blk, k_sq0, k_sq11, k_sq12, k_sq13, k_sq14, k_sq15, k_sqr, k_sqi, k_blk0, k_blk1, k_blk2, k_blk3, k_blk4, k_blk5, k_blkr, k_blki, k_finr, k_fini, k_mapi, k_bindi, k_if1, k_if2, k_ops, k_br, k_rv, k_ri, k_rl, k_rz, k_rzi, k_01d, k_sw, k_01a, k_01b, k_01c, k_ifn, x_cmp, decide_eq_true_eq, Option.map_some, Option.bind_some, Option.toList_some, Option.toList_none, List.cons_append, List.nil_append, Nat.reduceAdd, true_or, or_true, Int.reduceNeg, Int.reduceEq, reduceIte, Nat.zero_le, Nat.reduceLeDiff, Nat.le_refl, Nat.reduceEqDiff, List.getElem?_cons_zero, List.getElem?_cons_succ, xst, List.set_cons_zero, List.set_cons_succ, List.map_cons, List.map_nil, List.sum_cons, List.sum_nil, xcat, Nat.reduceMul, Nat.reduceDiv, Nat.reduceMod, Nat.add_zero, e_nil, e_iconst, e_il, e_al, e_ll, e_istore, e_astore, e_lstore, e_ic, e_iadd, e_isub, e_imul, e_iand, e_ior, e_ixor, e_ishl, e_ishr, e_ineg, e_dupi, e_dupr, e_dupx, e_dup2, e_popi, er_g0, er_g1, er_g2, er_g3, er_g4, er_g5, er_g6, er_g7, er_g8, er_g9, er_g10, er_g11, er_g12, er_g13, er_g14, er_g15, er_g16, er_g17, er_g18, er_g19, er_g20, er_g21, er_g22, er_g23, er_g24, er_g25, er_g26, er_g27, er_g28, er_g29, er_g30, er_g31, er_g32, er_g33, er_g34, er_g35, er_g36, er_g37, er_g38, er_g39, er_g40, er_g41, er_g42, er_g43, er_g44, er_g45, er_g46, er_g47, er_s1, er_s2, er_s5, er_s6, er_s8, er_s10, er_s11, er_s13, er_s14, er_s15, er_s16, er_s20, er_s23, er_s24, er_s25, er_s28, er_s30, er_s31, er_s32, er_s33, er_s42, er_s43, er_s44, er_s21a, er_s21b, er_s12a, er_s12b, isc_R, hp1, Int.le_refl]
      · rintro i hi ⟨⟨p, hp⟩, x5⟩
        have hs : xit (kTl1 (kB (rK r)) sh (r.2 1)) (i + 1) (-2, 1000000) = kTl1 (kB (rK r)) sh (r.2 1) i (xit (kTl1 (kB (rK r)) sh (r.2 1)) i (-2, 1000000)) := rfl
        rw [hs]
        generalize xit (kTl1 (kB (rK r)) sh (r.2 1)) i (-2, 1000000) = S
        have hp1 : p.1 1 = (kB (rK r) : Int) := by rw [rC_e1 hp (k := 1) rfl, hb0, hB]
        have hp21 : p.2 1 = r.2 1 := by rw [rC_e2 hp (c := 1) rfl, h21]
        have hpk : rK p = rK r := by rw [rC_K hp, hK0]
        have hpo : rOk p := rOk_C hp.symm hr0
        have h2i : 2 ^ i < 64 := Nat.pow_lt_pow_right (m := i) (n := 6) (by decide) (by omega)
        obtain ⟨r2, f4, f5⟩ := r_allKnow (n := n) (h := h) (r := p) hpo sh h2i
        rw [hpk, hp21, ← xshl_n (show i < 16 by omega)] at f4
        rw [hp] at f5
        have hk2 : ¬ (kB (rK r) : Int) ≤ (i : Int) := by omega
        have x1 : xw ((i : Int) + 1) = (i : Int) + 1 := xw_id (by omega) (by omega)
        refine ⟨(⟨r2, f5⟩, .inl (kAll (kB (rK r)) sh (r.2 1) (2 ^ i))), ?_⟩
        unfold kTl1
        generalize kAll (kB (rK r)) sh (r.2 1) (2 ^ i) = v at f4
        dsimp only
        clear hr hr0 hB hpo f5
        by_cases c3 : S.2 ≤ v
        · have c3n : ¬ v < S.2 := by omega
          rw [if_pos c3]
          simp -implicitDefEqProofs (disch := first | exact isc_R | (simp only [List.map_cons, List.map_nil, List.sum_cons, List.sum_nil, xcat, Nat.reduceAdd, Nat.reduceLeDiff, Nat.zero_le]; done) | omega) only [lX12_teller_24, k_p_sq, k_p_blk, k_sq0, k_sq11, k_sq12, k_sq13, k_sq14, k_sq15, k_sqr, k_sqi, k_blk0, k_blk1, k_blk2, k_blk3, k_blk4, k_blk5, k_blkr, k_blki, k_finr, k_fini, k_mapi, k_bindi, k_if1, k_if2, k_ops, k_br, k_rv, k_ri, k_rl, k_rz, k_rzi, k_01d, k_sw, k_01a, k_01b, k_01c, k_ifn, x_cmp, decide_eq_true_eq, Option.map_some, Option.bind_some, Option.toList_some, Option.toList_none, List.cons_append, List.nil_append, Nat.reduceAdd, true_or, or_true, Int.reduceNeg, Int.reduceEq, reduceIte, Nat.zero_le, Nat.reduceLeDiff, Nat.le_refl, Nat.reduceEqDiff, List.getElem?_cons_zero, List.getElem?_cons_succ, xst, List.set_cons_zero, List.set_cons_succ, List.map_cons, List.map_nil, List.sum_cons, List.sum_nil, xcat, Nat.reduceMul, Nat.reduceDiv, Nat.reduceMod, Nat.add_zero, e_nil, e_iconst, e_il, e_al, e_ll, e_istore, e_astore, e_lstore, e_ic, e_iadd, e_isub, e_imul, e_iand, e_ior, e_ixor, e_ishl, e_ishr, e_ineg, e_dupi, e_dupr, e_dupx, e_dup2, e_popi, er_g0, er_g1, er_g2, er_g3, er_g4, er_g5, er_g6, er_g7, er_g8, er_g9, er_g10, er_g11, er_g12, er_g13, er_g14, er_g15, er_g16, er_g17, er_g18, er_g19, er_g20, er_g21, er_g22, er_g23, er_g24, er_g25, er_g26, er_g27, er_g28, er_g29, er_g30, er_g31, er_g32, er_g33, er_g34, er_g35, er_g36, er_g37, er_g38, er_g39, er_g40, er_g41, er_g42, er_g43, er_g44, er_g45, er_g46, er_g47, er_s1, er_s2, er_s5, er_s6, er_s8, er_s10, er_s11, er_s13, er_s14, er_s15, er_s16, er_s20, er_s23, er_s24, er_s25, er_s28, er_s30, er_s31, er_s32, er_s33, er_s42, er_s43, er_s44, er_s21a, er_s21b, er_s12a, er_s12b, isc_R, hp1, hk2, ec253, f4, c3, c3n, x1, Int.natCast_add, Int.cast_ofNat_Int, e_iinc]
        · have c3n : v < S.2 := by omega
          rw [if_neg c3]
          simp -implicitDefEqProofs (disch := first | exact isc_R | (simp only [List.map_cons, List.map_nil, List.sum_cons, List.sum_nil, xcat, Nat.reduceAdd, Nat.reduceLeDiff, Nat.zero_le]; done) | omega) only [lX12_teller_24, k_p_sq, k_p_blk, k_sq0, k_sq11, k_sq12, k_sq13, k_sq14, k_sq15, k_sqr, k_sqi, k_blk0, k_blk1, k_blk2, k_blk3, k_blk4, k_blk5, k_blkr, k_blki, k_finr, k_fini, k_mapi, k_bindi, k_if1, k_if2, k_ops, k_br, k_rv, k_ri, k_rl, k_rz, k_rzi, k_01d, k_sw, k_01a, k_01b, k_01c, k_ifn, x_cmp, decide_eq_true_eq, Option.map_some, Option.bind_some, Option.toList_some, Option.toList_none, List.cons_append, List.nil_append, Nat.reduceAdd, true_or, or_true, Int.reduceNeg, Int.reduceEq, reduceIte, Nat.zero_le, Nat.reduceLeDiff, Nat.le_refl, Nat.reduceEqDiff, List.getElem?_cons_zero, List.getElem?_cons_succ, xst, List.set_cons_zero, List.set_cons_succ, List.map_cons, List.map_nil, List.sum_cons, List.sum_nil, xcat, Nat.reduceMul, Nat.reduceDiv, Nat.reduceMod, Nat.add_zero, e_nil, e_iconst, e_il, e_al, e_ll, e_istore, e_astore, e_lstore, e_ic, e_iadd, e_isub, e_imul, e_iand, e_ior, e_ixor, e_ishl, e_ishr, e_ineg, e_dupi, e_dupr, e_dupx, e_dup2, e_popi, er_g0, er_g1, er_g2, er_g3, er_g4, er_g5, er_g6, er_g7, er_g8, er_g9, er_g10, er_g11, er_g12, er_g13, er_g14, er_g15, er_g16, er_g17, er_g18, er_g19, er_g20, er_g21, er_g22, er_g23, er_g24, er_g25, er_g26, er_g27, er_g28, er_g29, er_g30, er_g31, er_g32, er_g33, er_g34, er_g35, er_g36, er_g37, er_g38, er_g39, er_g40, er_g41, er_g42, er_g43, er_g44, er_g45, er_g46, er_g47, er_s1, er_s2, er_s5, er_s6, er_s8, er_s10, er_s11, er_s13, er_s14, er_s15, er_s16, er_s20, er_s23, er_s24, er_s25, er_s28, er_s30, er_s31, er_s32, er_s33, er_s42, er_s43, er_s44, er_s21a, er_s21b, er_s12a, er_s12b, isc_R, hp1, hk2, ec253, f4, c3, c3n, x1, Int.natCast_add, Int.cast_ofNat_Int, e_iinc]
    obtain ⟨⟨⟨p, hp⟩, x5⟩, key⟩ := key
    dsimp only at key
    generalize xit (kTl1 (kB (rK r)) sh (r.2 1)) (kB (rK r)) (-2, 1000000) = S at key
    clear hr hr0 hB
    by_cases c3 : S.1 < 0
    · rw [if_pos c3]
      have c3n : ¬ 0 ≤ S.1 := by omega
      refine ⟨p, ?_, hp⟩
      rw [gr255]
      simp -implicitDefEqProofs (disch := first | exact isc_R | (simp only [List.map_cons, List.map_nil, List.sum_cons, List.sum_nil, xcat, Nat.reduceAdd, Nat.reduceLeDiff, Nat.zero_le]; done) | omega) only [fX12_teller, k_p_sq, k_p_blk, k_sq0, k_sq11, k_sq12, k_sq13, k_sq14, k_sq15, k_sqr, k_sqi, k_blk0, k_blk1, k_blk2, k_blk3, k_blk4, k_blk5, k_blkr, k_blki, k_finr, k_fini, k_mapi, k_bindi, k_if1, k_if2, k_ops, k_br, k_rv, k_ri, k_rl, k_rz, k_rzi, k_01d, k_sw, k_01a, k_01b, k_01c, k_ifn, x_cmp, decide_eq_true_eq, Option.map_some, Option.bind_some, Option.toList_some, Option.toList_none, List.cons_append, List.nil_append, Nat.reduceAdd, true_or, or_true, Int.reduceNeg, Int.reduceEq, reduceIte, Nat.zero_le, Nat.reduceLeDiff, Nat.le_refl, Nat.reduceEqDiff, List.getElem?_cons_zero, List.getElem?_cons_succ, xst, List.set_cons_zero, List.set_cons_succ, List.map_cons, List.map_nil, List.sum_cons, List.sum_nil, xcat, Nat.reduceMul, Nat.reduceDiv, Nat.reduceMod, Nat.add_zero, e_nil, e_iconst, e_il, e_al, e_ll, e_istore, e_astore, e_lstore, e_ic, e_iadd, e_isub, e_imul, e_iand, e_ior, e_ixor, e_ishl, e_ishr, e_ineg, e_dupi, e_dupr, e_dupx, e_dup2, e_popi, er_g0, er_g1, er_g2, er_g3, er_g4, er_g5, er_g6, er_g7, er_g8, er_g9, er_g10, er_g11, er_g12, er_g13, er_g14, er_g15, er_g16, er_g17, er_g18, er_g19, er_g20, er_g21, er_g22, er_g23, er_g24, er_g25, er_g26, er_g27, er_g28, er_g29, er_g30, er_g31, er_g32, er_g33, er_g34, er_g35, er_g36, er_g37, er_g38, er_g39, er_g40, er_g41, er_g42, er_g43, er_g44, er_g45, er_g46, er_g47, er_s1, er_s2, er_s5, er_s6, er_s8, er_s10, er_s11, er_s13, er_s14, er_s15, er_s16, er_s20, er_s23, er_s24, er_s25, er_s28, er_s30, er_s31, er_s32, er_s33, er_s42, er_s43, er_s44, er_s21a, er_s21b, er_s12a, er_s12b, isc_R, hq, ec250, f2, c2, true_and, false_and, or_self, or_true, true_or, or_false, false_or, and_true, and_false, and_self, not_true_eq_false, not_false_eq_true, key, c3, c3n, Int.reduceEq]
    · rw [if_neg c3]
      have c3n : 0 ≤ S.1 := by omega
      have g3 := r_tellN (n := n + 4) (h := h) (r := p) S.2 (vs := []) (by decide)
      refine ⟨rTell p [S.2], ?_, by rw [rC_tell, rC_tell, hp]⟩
      rw [gr255]
      simp -implicitDefEqProofs (disch := first | exact isc_R | (simp only [List.map_cons, List.map_nil, List.sum_cons, List.sum_nil, xcat, Nat.reduceAdd, Nat.reduceLeDiff, Nat.zero_le]; done) | omega) only [fX12_teller, k_p_sq, k_p_blk, k_sq0, k_sq11, k_sq12, k_sq13, k_sq14, k_sq15, k_sqr, k_sqi, k_blk0, k_blk1, k_blk2, k_blk3, k_blk4, k_blk5, k_blkr, k_blki, k_finr, k_fini, k_mapi, k_bindi, k_if1, k_if2, k_ops, k_br, k_rv, k_ri, k_rl, k_rz, k_rzi, k_01d, k_sw, k_01a, k_01b, k_01c, k_ifn, x_cmp, decide_eq_true_eq, Option.map_some, Option.bind_some, Option.toList_some, Option.toList_none, List.cons_append, List.nil_append, Nat.reduceAdd, true_or, or_true, Int.reduceNeg, Int.reduceEq, reduceIte, Nat.zero_le, Nat.reduceLeDiff, Nat.le_refl, Nat.reduceEqDiff, List.getElem?_cons_zero, List.getElem?_cons_succ, xst, List.set_cons_zero, List.set_cons_succ, List.map_cons, List.map_nil, List.sum_cons, List.sum_nil, xcat, Nat.reduceMul, Nat.reduceDiv, Nat.reduceMod, Nat.add_zero, e_nil, e_iconst, e_il, e_al, e_ll, e_istore, e_astore, e_lstore, e_ic, e_iadd, e_isub, e_imul, e_iand, e_ior, e_ixor, e_ishl, e_ishr, e_ineg, e_dupi, e_dupr, e_dupx, e_dup2, e_popi, er_g0, er_g1, er_g2, er_g3, er_g4, er_g5, er_g6, er_g7, er_g8, er_g9, er_g10, er_g11, er_g12, er_g13, er_g14, er_g15, er_g16, er_g17, er_g18, er_g19, er_g20, er_g21, er_g22, er_g23, er_g24, er_g25, er_g26, er_g27, er_g28, er_g29, er_g30, er_g31, er_g32, er_g33, er_g34, er_g35, er_g36, er_g37, er_g38, er_g39, er_g40, er_g41, er_g42, er_g43, er_g44, er_g45, er_g46, er_g47, er_s1, er_s2, er_s5, er_s6, er_s8, er_s10, er_s11, er_s13, er_s14, er_s15, er_s16, er_s20, er_s23, er_s24, er_s25, er_s28, er_s30, er_s31, er_s32, er_s33, er_s42, er_s43, er_s44, er_s21a, er_s21b, er_s12a, er_s12b, isc_R, hq, ec250, f2, c2, true_and, false_and, or_self, or_true, true_or, or_false, false_or, and_true, and_false, and_self, not_true_eq_false, not_false_eq_true, key, c3, c3n, rTell_0, ec174, g3, Int.reduceEq]
  · rw [if_neg c2]
    refine ⟨_, ?_, rfl⟩
    rw [gr255]
    clear hr
    simp -implicitDefEqProofs (disch := first | exact isc_R | (simp only [List.map_cons, List.map_nil, List.sum_cons, List.sum_nil, xcat, Nat.reduceAdd, Nat.reduceLeDiff, Nat.zero_le]; done) | omega) only [fX12_teller, k_p_sq, k_p_blk, k_sq0, k_sq11, k_sq12, k_sq13, k_sq14, k_sq15, k_sqr, k_sqi, k_blk0, k_blk1, k_blk2, k_blk3, k_blk4, k_blk5, k_blkr, k_blki, k_finr, k_fini, k_mapi, k_bindi, k_if1, k_if2, k_ops, k_br, k_rv, k_ri, k_rl, k_rz, k_rzi, k_01d, k_sw, k_01a, k_01b, k_01c, k_ifn, x_cmp, decide_eq_true_eq, Option.map_some, Option.bind_some, Option.toList_some, Option.toList_none, List.cons_append, List.nil_append, Nat.reduceAdd, true_or, or_true, Int.reduceNeg, Int.reduceEq, reduceIte, Nat.zero_le, Nat.reduceLeDiff, Nat.le_refl, Nat.reduceEqDiff, List.getElem?_cons_zero, List.getElem?_cons_succ, xst, List.set_cons_zero, List.set_cons_succ, List.map_cons, List.map_nil, List.sum_cons, List.sum_nil, xcat, Nat.reduceMul, Nat.reduceDiv, Nat.reduceMod, Nat.add_zero, e_nil, e_iconst, e_il, e_al, e_ll, e_istore, e_astore, e_lstore, e_ic, e_iadd, e_isub, e_imul, e_iand, e_ior, e_ixor, e_ishl, e_ishr, e_ineg, e_dupi, e_dupr, e_dupx, e_dup2, e_popi, er_g0, er_g1, er_g2, er_g3, er_g4, er_g5, er_g6, er_g7, er_g8, er_g9, er_g10, er_g11, er_g12, er_g13, er_g14, er_g15, er_g16, er_g17, er_g18, er_g19, er_g20, er_g21, er_g22, er_g23, er_g24, er_g25, er_g26, er_g27, er_g28, er_g29, er_g30, er_g31, er_g32, er_g33, er_g34, er_g35, er_g36, er_g37, er_g38, er_g39, er_g40, er_g41, er_g42, er_g43, er_g44, er_g45, er_g46, er_g47, er_s1, er_s2, er_s5, er_s6, er_s8, er_s10, er_s11, er_s13, er_s14, er_s15, er_s16, er_s20, er_s23, er_s24, er_s25, er_s28, er_s30, er_s31, er_s32, er_s33, er_s42, er_s43, er_s44, er_s21a, er_s21b, er_s12a, er_s12b, isc_R, ec250, f2, c2, true_and, false_and, or_self, or_true, true_or, or_false, false_or, and_true, and_false, and_self, not_true_eq_false, not_false_eq_true, Int.reduceEq]
end SP
