section FLc
variable {n : Nat} {h : xH} {r : xR} {H : xH} {a w : Int} {F : Nat → Int}
/-- the text of T signs is opened, m at most are read -/
def tTx (r : xR) (T : Nat) (m : Int) : xR := xr_i (xr_i (xr_i (xr_i (xr_i r 11 0) 12 1) 13 T) 14 m) 8 0
theorem tTx_sane {T : Nat} {m : Int} (hT : T ≤ 80) (hm : m ≤ 80) : rSane (tTx r T m) := by
  refine Or.inl ⟨rfl, ?_, hm⟩
  show (T : Int) ≤ 80
  omega
theorem rRj_0 (c : Nat) (a w : Int) : rRd r a w = rRj r c (r.2 c) a w := by
  unfold rRj
  rw [xr_j_0]
theorem rC_Rd (a w : Int) : rC (rRd r a w) = rC r := by
  unfold rRd
  rw [rC_i rfl, rC_i rfl]
theorem rC_Rj {c : Nat} (hc : sR c = true) (a w : Int) : rC (rRj r c F a w) = rC r := by
  unfold rRj
  rw [rC_Rd, rC_j hc]
/-- row 1 is A, the number at k is b -/
def sB (q : xR) (k : Nat) (A : Nat → Int) (b : Int) : xR := xr_i (xr_j q 1 A) k b
theorem sB_a (q : xR) (k : Nat) (A : Nat → Int) (b : Int) (i : Nat) (v : Int) : xr_a (sB q k A b) 1 i v = sB q k (xfu A i v) b := by
  unfold sB
  show xr_i (xr_j (xr_j q 1 A) 1 (xfu ((xr_j q 1 A).2 1) i v)) k b = _
  rw [xr_j_j, xr_j_2]
theorem sB_i (q : xR) (k : Nat) (A : Nat → Int) (b c : Int) : xr_i (sB q k A b) k c = sB q k A c := by
  unfold sB xr_i
  dsimp only
  rw [xfu_twice]
theorem sB_g (q : xR) (k : Nat) (A : Nat → Int) (b : Int) : (sB q k A b).1 k = b := xfu_self _ _ _
theorem sB_1 (q : xR) (k : Nat) (A : Nat → Int) (b : Int) : (sB q k A b).2 1 = A := by
  show xfu q.2 1 A 1 = A
  exact xfu_self _ _ _
theorem sB_n (q : xR) (k : Nat) (A : Nat → Int) (b : Int) {c : Nat} (hc : c ≠ 1) : (sB q k A b).2 c = q.2 c := xfu_ne _ _ hc
theorem sB_0 (q : xR) (k : Nat) : sB q k (q.2 1) (q.1 k) = q := by
  unfold sB
  rw [xr_j_0]
  unfold xr_i
  rw [xfu_get]
/-- boat b is told by q -/
def tB1 (b : Nat) (q : Int × Int × Int × Int × Int) (a : Nat → Int) : Nat → Int := xfu (xfu (xfu (xfu (xfu (xfu a b q.1) (6 + b) q.2.1) (12 + b) q.2.2.1) (18 + b) q.2.2.2.1) (24 + b) q.2.2.2.2) (30 + b) 0
def tBs (B : Nat) (l : List (Int × Int × Int × Int × Int)) (a : Nat → Int) : Nat → Int := xit (fun i a => tB1 (B + i) (l.getD i q50) a) l.length a
theorem r_fl125 {q : xR} {A : Nat → Int} {X i L p0 p1 p2 p3 p4 p5 z0 z1 z2 z3 z4 X1 i1 j : Int} (hi : ¬ L ≤ i)
    (y0 : xw (0 + X) = p0) (y1 : xw (6 + X) = p1) (y2 : xw (12 + X) = p2) (y3 : xw (18 + X) = p3) (y4 : xw (24 + X) = p4) (y5 : xw (30 + X) = p5) (y6 : xw (X + 1) = X1)
    (g0 : xw (5 * i) = z0) (g1 : xw (z0 + 1) = z1) (g2 : xw (z0 + 2) = z2) (g3 : xw (z0 + 3) = z3) (g4 : xw (z0 + 4) = z4) (g5 : xw (i + 1) = i1)
    (a0 : 0 ≤ p0) (a1 : 0 ≤ p1) (a2 : 0 ≤ p2) (a3 : 0 ≤ p3) (a4 : 0 ≤ p4) (a5 : 0 ≤ p5) (b0 : p0 < 116) (b1 : p1 < 116) (b2 : p2 < 116) (b3 : p3 < 116) (b4 : p4 < 116) (b5 : p5 < 116)
    (c0 : 0 ≤ z0) (c1 : 0 ≤ z1) (c2 : 0 ≤ z2) (c3 : 0 ≤ z3) (c4 : 0 ≤ z4) (d0 : z0 < 30) (d1 : z1 < 30) (d2 : z2 < 30) (d3 : z3 < 30) (d4 : z4 < 30) :
    lX12_fleet_125 (gg n) ([.inr (.inr (.inl (1, 0))), .inl L, .inl j, .inl i], [], hR h (sB q 1 A X)) = some (.inl 1, ([.inr (.inr (.inl (1, 0))), .inl L, .inl j, .inl i1], [], hR h (sB q 1 (xfu (xfu (xfu (xfu (xfu (xfu A p0.toNat (q.2 6 z0.toNat)) p1.toNat (q.2 6 z1.toNat)) p2.toNat (q.2 6 z2.toNat)) p3.toNat (q.2 6 z3.toNat)) p4.toNat (q.2 6 z4.toNat)) p5.toNat 0) X1))) := by
  have n6 : (6 : Nat) ≠ 1 := by decide
  simp -implicitDefEqProofs (disch := first | with_reducible assumption | exact isc_R | (simp only [List.map_cons, List.map_nil, List.sum_cons, List.sum_nil, xcat, Nat.reduceAdd, Nat.reduceLeDiff, Nat.zero_le]; done)) only [lX12_fleet_125, k_p_sq, k_p_blk, k_sq0, k_sq11, k_sq12, k_sq13, k_sq14, k_sq15, k_sqr, k_sqi, k_blk0, k_blk1, k_blk2, k_blk3, k_blk4, k_blk5, k_blkr, k_blki, k_finr, k_fini, k_mapi, k_bindi, k_if1, k_if2, k_ops, k_br, k_rv, k_ri, k_rl, k_rz, k_rzi, k_01d, k_sw, k_01a, k_01b, k_01c, k_ifn, x_cmp, decide_eq_true_eq, Option.map_some, Option.bind_some, Option.toList_some, Option.toList_none, List.cons_append, List.nil_append, Nat.reduceAdd, true_or, or_true, Int.reduceNeg, Int.reduceEq, reduceIte, Nat.zero_le, Nat.reduceLeDiff, Nat.le_refl, Nat.reduceEqDiff, List.getElem?_cons_zero, List.getElem?_cons_succ, xst, List.set_cons_zero, List.set_cons_succ, List.map_cons, List.map_nil, List.sum_cons, List.sum_nil, xcat, Nat.reduceMul, Nat.reduceDiv, Nat.reduceMod, Nat.add_zero, e_nil, e_iconst, e_il, e_al, e_ll, e_istore, e_astore, e_lstore, e_ic, e_iadd, e_isub, e_imul, e_iand, e_ior, e_ixor, e_ishl, e_ishr, e_ineg, e_dupi, e_dupr, e_dupx, e_dup2, e_popi, er_g0, er_g1, er_g2, er_g3, er_g4, er_g5, er_g6, er_g7, er_g8, er_g9, er_g10, er_g11, er_g12, er_g13, er_g14, er_g15, er_g16, er_g17, er_g18, er_g19, er_g20, er_g21, er_g22, er_g23, er_g24, er_g25, er_g26, er_g27, er_g28, er_g29, er_g30, er_g31, er_g32, er_g33, er_g34, er_g35, er_g36, er_g37, er_g38, er_g39, er_g40, er_g41, er_g42, er_g43, er_g44, er_g45, er_g46, er_g47, er_s1, er_s2, er_s5, er_s6, er_s8, er_s10, er_s11, er_s13, er_s14, er_s15, er_s16, er_s20, er_s23, er_s24, er_s25, er_s28, er_s30, er_s31, er_s32, er_s33, er_s42, er_s43, er_s44, er_s21a, er_s21b, er_s12a, er_s12b, isc_R, hi, sB_g, sB_a, sB_i, sB_1, sB_n _ _ _ _ n6, er_r6, er_w1, y0, y1, y2, y3, y4, y5, y6, g0, g1, g2, g3, g4, g5]
theorem r_flF {q : xR} {B : Nat} {j : Int} {l : List (Int × Int × Int × Int × Int)} (hb : q.1 1 = B) (hl : B + l.length ≤ 6) (hq : q.2 6 = F) (hF : ∀ i, i < l.length → tRow F (5 * i) (l.getD i q50)) : p_lop (lX12_fleet_125 (gg n)) ([.inr (.inr (.inl (1, 0))), .inl (l.length : Int), .inl j, .inl 0], [], hR h q) = some (.inl 1, ([.inr (.inr (.inl (1, 0))), .inl (l.length : Int), .inl j, .inl (l.length : Int)], [], hR h (sB q 1 (tBs B l (q.2 1)) ((B + l.length : Nat) : Int)))) := by
  refine k_for (fun i => ([.inr (.inr (.inl (1, 0))), .inl (l.length : Int), .inl j, .inl (i : Int)], [], hR h (sB q 1 (xit (fun i a => tB1 (B + i) (l.getD i q50) a) i (q.2 1)) ((B + i : Nat) : Int)))) l.length ?_ ?_ (fun i hi => ?_)
  · have e : sB q 1 (xit (fun i a => tB1 (B + i) (l.getD i q50) a) 0 (q.2 1)) ((B + 0 : Nat) : Int) = q := by
      show sB q 1 (q.2 1) ((B + 0 : Nat) : Int) = q
      rw [Nat.add_zero, ← hb]
      exact sB_0 q 1
    exact congrArg (fun z => (([.inr (.inr (.inl (1, 0))), .inl (l.length : Int), .inl j, .inl 0] : List xV), ([] : List xV), hR h z)) e
  · have hle : (l.length : Int) ≤ (l.length : Int) := Int.le_refl _
    clear hF hq hb hl
    unfold tBs
    generalize xit (fun i a => tB1 (B + i) (l.getD i q50) a) l.length (q.2 1) = A
    generalize ((B + l.length : Nat) : Int) = Y
    generalize (l.length : Int) = L at *
    simp -implicitDefEqProofs (disch := first | exact isc_R | (simp only [List.map_cons, List.map_nil, List.sum_cons, List.sum_nil, xcat, Nat.reduceAdd, Nat.reduceLeDiff, Nat.zero_le]; done) | omega) only [lX12_fleet_125, k_p_sq, k_p_blk, k_sq0, k_sq11, k_sq12, k_sq13, k_sq14, k_sq15, k_sqr, k_sqi, k_blk0, k_blk1, k_blk2, k_blk3, k_blk4, k_blk5, k_blkr, k_blki, k_finr, k_fini, k_mapi, k_bindi, k_if1, k_if2, k_ops, k_br, k_rv, k_ri, k_rl, k_rz, k_rzi, k_01d, k_sw, k_01a, k_01b, k_01c, k_ifn, x_cmp, decide_eq_true_eq, Option.map_some, Option.bind_some, Option.toList_some, Option.toList_none, List.cons_append, List.nil_append, Nat.reduceAdd, true_or, or_true, Int.reduceNeg, Int.reduceEq, reduceIte, Nat.zero_le, Nat.reduceLeDiff, Nat.le_refl, Nat.reduceEqDiff, List.getElem?_cons_zero, List.getElem?_cons_succ, xst, List.set_cons_zero, List.set_cons_succ, List.map_cons, List.map_nil, List.sum_cons, List.sum_nil, xcat, Nat.reduceMul, Nat.reduceDiv, Nat.reduceMod, Nat.add_zero, e_nil, e_iconst, e_il, e_al, e_ll, e_istore, e_astore, e_lstore, e_ic, e_iadd, e_isub, e_imul, e_iand, e_ior, e_ixor, e_ishl, e_ishr, e_ineg, e_dupi, e_dupr, e_dupx, e_dup2, e_popi, er_g0, er_g1, er_g2, er_g3, er_g4, er_g5, er_g6, er_g7, er_g8, er_g9, er_g10, er_g11, er_g12, er_g13, er_g14, er_g15, er_g16, er_g17, er_g18, er_g19, er_g20, er_g21, er_g22, er_g23, er_g24, er_g25, er_g26, er_g27, er_g28, er_g29, er_g30, er_g31, er_g32, er_g33, er_g34, er_g35, er_g36, er_g37, er_g38, er_g39, er_g40, er_g41, er_g42, er_g43, er_g44, er_g45, er_g46, er_g47, er_s1, er_s2, er_s5, er_s6, er_s8, er_s10, er_s11, er_s13, er_s14, er_s15, er_s16, er_s20, er_s23, er_s24, er_s25, er_s28, er_s30, er_s31, er_s32, er_s33, er_s42, er_s43, er_s44, er_s21a, er_s21b, er_s12a, er_s12b, isc_R, hle]
  · have e1 : xit (fun i a => tB1 (B + i) (l.getD i q50) a) (i + 1) (q.2 1) = tB1 (B + i) (l.getD i q50) (xit (fun i a => tB1 (B + i) (l.getD i q50) a) i (q.2 1)) := rfl
    rw [e1]
    clear e1
    generalize xit (fun i a => tB1 (B + i) (l.getD i q50) a) i (q.2 1) = A
    obtain ⟨t1, t2, t3, t4, t5⟩ := hF i hi
    generalize l.getD i q50 = Q at *
    clear hF
    have hN : l.length ≤ 6 := by omega
    have hBi : B + i < 6 := by omega
    have hi2 : ¬ (l.length : Int) ≤ (i : Int) := by omega
    have i6 : i < 6 := by omega
    generalize (l.length : Int) = L at *
    clear hl hN hi hb
    rw [show ((B + (i + 1) : Nat) : Int) = ((B + i : Nat) : Int) + 1 by omega]
    generalize B + i = X at *
    have f := r_fl125 (n := n) (h := h) (q := q) (A := A) (j := j) (X := (X : Int)) (i := (i : Int)) (L := L) (p0 := (X : Int)) (p1 := ((6 + X : Nat) : Int)) (p2 := ((12 + X : Nat) : Int)) (p3 := ((18 + X : Nat) : Int)) (p4 := ((24 + X : Nat) : Int)) (p5 := ((30 + X : Nat) : Int)) (X1 := (X : Int) + 1) (z0 := ((5 * i : Nat) : Int)) (z1 := ((5 * i + 1 : Nat) : Int)) (z2 := ((5 * i + 2 : Nat) : Int)) (z3 := ((5 * i + 3 : Nat) : Int)) (z4 := ((5 * i + 4 : Nat) : Int)) (i1 := ((i + 1 : Nat) : Int)) hi2
      (by rw [xw_id (by omega) (by omega)]; omega) (by rw [xw_id (by omega) (by omega)]; omega) (by rw [xw_id (by omega) (by omega)]; omega) (by rw [xw_id (by omega) (by omega)]; omega) (by rw [xw_id (by omega) (by omega)]; omega) (by rw [xw_id (by omega) (by omega)]; omega) (xw_id (by omega) (by omega))
      (by rw [xw_id (by omega) (by omega)]; omega) (by rw [xw_id (by omega) (by omega)]; omega) (by rw [xw_id (by omega) (by omega)]; omega) (by rw [xw_id (by omega) (by omega)]; omega) (by rw [xw_id (by omega) (by omega)]; omega) (by rw [xw_id (by omega) (by omega)]; omega)
      (by omega) (by omega) (by omega) (by omega) (by omega) (by omega) (by omega) (by omega) (by omega) (by omega) (by omega) (by omega) (by omega) (by omega) (by omega) (by omega) (by omega) (by omega) (by omega) (by omega) (by omega) (by omega)
    simp only [Int.toNat_natCast] at f
    rw [hq, t1, t2, t3, t4, t5] at f
    exact f
def sFleet (r : xR) (T B : Nat) : Int × xR :=
  if T = 0 then (0, tTx r T 76)
  else
    let q := tFl (tTx r T 76) B 7 0 0 (-1)
    let w := if q.2.2 = -1 then (if q.2.1 < T then q.2.1 else -1) else q.2.2
    if w = -1 then ((q.1.length : Int), xr_i (xr_i (sB (tTx r T 76) 1 (tBs B q.1 (r.2 1)) ((B + q.1.length : Nat) : Int)) 28 0) 44 (xw (r.1 44 + 1)))
    else (xw (-1 - w), tTx r T 76)
theorem tFl_at {B : Nat} : ∀ (f k : Nat) (a w : Int), 0 ≤ a → a ≤ (tFl r B f k a w).2.1 ∧ (tFl r B f k a w).2.1 ≤ a + 12 * f
  | 0, k, a, w, h0 => by show a ≤ a ∧ a ≤ a + 12 * ((0 : Nat) : Int); omega
  | f + 1, k, a, w, h0 => by
    have hat := tFl1_at (r := r) (B := B) (n := k) (a := a) (w := w)
    have hp := tPs_at (r := r) (k := 59) (a := (tFl1 r B k a w).2.1) (w := (tFl1 r B k a w).2.2)
    unfold tFl
    split
    · have := tFl_at (B := B) f (k + 1) (tPs r 59 (tFl1 r B k a w).2.1 (tFl1 r B k a w).2.2).2.1 (tPs r 59 (tFl1 r B k a w).2.1 (tFl1 r B k a w).2.2).2.2 (by omega)
      dsimp only
      omega
    · dsimp only
      omega
end FLc
