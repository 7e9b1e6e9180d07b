/-! ===== the reference's rule: what the reader makes of a text (fuel; 0 thing, 1 product, 2 its loop, 3 sum, 4 its loop, 5 held) ===== -/
def lOf (c : Int) : Int := if c = 112 then 0 else if c = 104 then 1 else if c = 100 then 2 else if c = 119 then 3 else if c = 115 then 4 else if c = 103 then 5 else if c = 108 then 6 else -1
def tNeed (r : xR) (c a w : Int) : Int × Int := if w = -1 then (if rHere r a = c then (a + 1, w) else (a, a)) else (a, w)
def vR (r : xR) : Nat → Nat → Int → Int → Int → Int → Int × Int × Int
  | 0, _, _, v, a, w => (v, a, w)
  | f + 1, 0, dp, _, a, w =>
    if w = -1 then
      if rHere r a = 45 then (xw (-(vR r f 0 dp 0 (a + 1) w).1), (vR r f 0 dp 0 (a + 1) w).2)
      else if rHere r a = 40 ∧ dp < 4 then ((vR r f 5 (dp + 1) 0 (a + 1) w).1, tNeed r 41 (vR r f 5 (dp + 1) 0 (a + 1) w).2.1 (vR r f 5 (dp + 1) 0 (a + 1) w).2.2)
      else if 48 ≤ rHere r a ∧ rHere r a ≤ 57 then tNum r a w 3
      else if lOf (rHere r a) = -1 then (0, a, a)
      else (if r.1 21 = 0 then 0 else r.2 9 (lOf (rHere r a)).toNat, a + 1, w)
    else (0, a, w)
  | f + 1, 1, dp, _, a, w => vR r f 2 dp (vR r f 0 dp 0 a w).1 (vR r f 0 dp 0 a w).2.1 (vR r f 0 dp 0 a w).2.2
  | f + 1, 2, dp, v, a, w =>
    if w = -1 ∧ (rHere r a = 42 ∨ rHere r a = 47) then
      vR r f 2 dp (if rHere r a = 42 then xw (v * (vR r f 0 dp 0 (a + 1) w).1) else if (vR r f 0 dp 0 (a + 1) w).1 = 0 then 0 else xw (v.tdiv (vR r f 0 dp 0 (a + 1) w).1)) (vR r f 0 dp 0 (a + 1) w).2.1 (vR r f 0 dp 0 (a + 1) w).2.2
    else (v, a, w)
  | f + 1, 3, dp, _, a, w => vR r f 4 dp (vR r f 1 dp 0 a w).1 (vR r f 1 dp 0 a w).2.1 (vR r f 1 dp 0 a w).2.2
  | f + 1, 4, dp, v, a, w =>
    if w = -1 ∧ (rHere r a = 43 ∨ rHere r a = 45) then
      vR r f 4 dp (if rHere r a = 43 then xw (v + (vR r f 1 dp 0 (a + 1) w).1) else xw (v - (vR r f 1 dp 0 (a + 1) w).1)) (vR r f 1 dp 0 (a + 1) w).2.1 (vR r f 1 dp 0 (a + 1) w).2.2
    else (v, a, w)
  | f + 1, _ + 5, dp, _, a, w =>
    let t := vR r f 3 dp 0 a w
    let o := vR r f 3 dp 0 (t.2.1 + 1) t.2.2
    if t.2.2 = -1 ∧ rHere r t.2.1 = 60 then (if t.1 < o.1 then 1 else 0, o.2)
    else if t.2.2 = -1 ∧ rHere r t.2.1 = 62 then (if o.1 < t.1 then 1 else 0, o.2)
    else if t.2.2 = -1 ∧ rHere r t.2.1 = 61 then (if t.1 = o.1 then 1 else 0, o.2)
    else t
theorem rHere_out {r : xR} (hs : rSane r) {a : Int} (ha : 80 ≤ a) : rHere r a = -1 := by
  unfold rHere
  rw [if_neg]
  rcases hs with h | h <;> omega
theorem rHere_le {r : xR} (hs : rSane r) {a v : Int} (h : rHere r a = v) (hv : 0 ≤ v) : a < 80 := by
  have := rHere_in h hv
  rcases hs with h | h <;> omega
theorem tDigit_le {r : xR} (hs : rSane r) {a w lo hi : Int} (ha : a ≤ 100) (hlo : 0 ≤ lo) : (tDigit r a w lo hi).2.1 ≤ 100 := by
  unfold tDigit
  split
  · split
    · rename_i c
      have := rHere_le hs (a := a) rfl (by omega)
      dsimp only
      omega
    · exact ha
  · exact ha
theorem tNumL_le {r : xR} (hs : rSane r) : ∀ (m : Nat) (v a w : Int), a ≤ 100 → (tNumL r m v a w).2.1 ≤ 100
  | 0, v, a, w, ha => ha
  | m + 1, v, a, w, ha => by
    unfold tNumL
    split
    · exact tNumL_le hs m _ _ _ (tDigit_le hs ha (by omega))
    · exact ha
/-- a place stays within the text, and never goes back -/
theorem vR_at {r : xR} (hs : rSane r) : ∀ (f tag : Nat) (dp v a w : Int), 0 ≤ a → a ≤ 100 → a ≤ (vR r f tag dp v a w).2.1 ∧ (vR r f tag dp v a w).2.1 ≤ 100
  | 0, tag, dp, v, a, w, h0, h1 => by unfold vR; exact ⟨Int.le_refl _, h1⟩
  | f + 1, 0, dp, v, a, w, h0, h1 => by
    unfold vR
    split
    · split
      · rename_i c
        have hl := rHere_le hs c (by omega)
        have := vR_at hs f 0 dp 0 (a + 1) w (by omega) (by omega)
        dsimp only
        omega
      · split
        · rename_i c
          have hl := rHere_le hs c.1 (by omega)
          have h9 := vR_at hs f 5 (dp + 1) 0 (a + 1) w (by omega) (by omega)
          dsimp only
          unfold tNeed
          split
          · split
            · rename_i c2
              have := rHere_le hs c2 (by omega)
              dsimp only
              omega
            · dsimp only
              omega
          · dsimp only
            omega
        · split
          · have h2 := tDigit_at (r := r) (a := a) (w := w) (lo := 0) (hi := 9)
            have h3 := tNumL_at (r := r) 2 (tDigit r a w 0 9).1 (tDigit r a w 0 9).2.1 (tDigit r a w 0 9).2.2
            have h4 := tNumL_le hs 2 (tDigit r a w 0 9).1 (tDigit r a w 0 9).2.1 (tDigit r a w 0 9).2.2 (tDigit_le hs h1 (by omega))
            show a ≤ (tNumL r 2 (tDigit r a w 0 9).1 (tDigit r a w 0 9).2.1 (tDigit r a w 0 9).2.2).2.1 ∧ (tNumL r 2 (tDigit r a w 0 9).1 (tDigit r a w 0 9).2.1 (tDigit r a w 0 9).2.2).2.1 ≤ 100
            omega
          · split
            · dsimp only; omega
            · rename_i c
              have hl : a < 80 := by
                refine Classical.byContradiction fun z => c ?_
                rw [rHere_out hs (by omega)]
                rfl
              dsimp only
              omega
    · dsimp only; omega
  | f + 1, 1, dp, v, a, w, h0, h1 => by
    unfold vR
    have h2 := vR_at hs f 0 dp 0 a w h0 h1
    have h3 := vR_at hs f 2 dp (vR r f 0 dp 0 a w).1 (vR r f 0 dp 0 a w).2.1 (vR r f 0 dp 0 a w).2.2 (by omega) h2.2
    omega
  | f + 1, 2, dp, v, a, w, h0, h1 => by
    unfold vR
    split
    · rename_i c
      have hl : a < 80 := by rcases c.2 with c | c <;> exact rHere_le hs c (by omega)
      have h2 := vR_at hs f 0 dp 0 (a + 1) w (by omega) (by omega)
      have h3 := vR_at hs f 2 dp (if rHere r a = 42 then xw (v * (vR r f 0 dp 0 (a + 1) w).1) else if (vR r f 0 dp 0 (a + 1) w).1 = 0 then 0 else xw (v.tdiv (vR r f 0 dp 0 (a + 1) w).1)) (vR r f 0 dp 0 (a + 1) w).2.1 (vR r f 0 dp 0 (a + 1) w).2.2 (by omega) h2.2
      omega
    · dsimp only; omega
  | f + 1, 3, dp, v, a, w, h0, h1 => by
    unfold vR
    have h2 := vR_at hs f 1 dp 0 a w h0 h1
    have h3 := vR_at hs f 4 dp (vR r f 1 dp 0 a w).1 (vR r f 1 dp 0 a w).2.1 (vR r f 1 dp 0 a w).2.2 (by omega) h2.2
    omega
  | f + 1, 4, dp, v, a, w, h0, h1 => by
    unfold vR
    split
    · rename_i c
      have hl : a < 80 := by rcases c.2 with c | c <;> exact rHere_le hs c (by omega)
      have h2 := vR_at hs f 1 dp 0 (a + 1) w (by omega) (by omega)
      have h3 := vR_at hs f 4 dp (if rHere r a = 43 then xw (v + (vR r f 1 dp 0 (a + 1) w).1) else xw (v - (vR r f 1 dp 0 (a + 1) w).1)) (vR r f 1 dp 0 (a + 1) w).2.1 (vR r f 1 dp 0 (a + 1) w).2.2 (by omega) h2.2
      omega
    · dsimp only; omega
  | f + 1, tag + 5, dp, v, a, w, h0, h1 => by
    unfold vR
    have h2 := vR_at hs f 3 dp 0 a w h0 h1
    dsimp only
    split
    · rename_i c
      have hl := rHere_le hs c.2 (by omega)
      have h3 := vR_at hs f 3 dp 0 ((vR r f 3 dp 0 a w).2.1 + 1) (vR r f 3 dp 0 a w).2.2 (by omega) (by omega)
      dsimp only
      omega
    · split
      · rename_i c
        have hl := rHere_le hs c.2 (by omega)
        have h3 := vR_at hs f 3 dp 0 ((vR r f 3 dp 0 a w).2.1 + 1) (vR r f 3 dp 0 a w).2.2 (by omega) (by omega)
        dsimp only
        omega
      · split
        · rename_i c
          have hl := rHere_le hs c.2 (by omega)
          have h3 := vR_at hs f 3 dp 0 ((vR r f 3 dp 0 a w).2.1 + 1) (vR r f 3 dp 0 a w).2.2 (by omega) (by omega)
          dsimp only
          omega
        · exact h2
section RU
variable {n : Nat} {h : xH} {r : xR} {H : xH} {a w : Int}
theorem u_lOf (c : Int) : (gg (n + 1) 196).2 [.inl c] H = some (some (.inl (lOf c)), H) := by
  rw [gr196]
  unfold lOf
  simp -implicitDefEqProofs (disch := first | omega | exact isc_R | exact isc_R | (simp only [List.map_cons, List.map_nil, List.sum_cons, List.sum_nil, xcat, Nat.reduceAdd, Nat.reduceLeDiff, Nat.zero_le]; done)) only [fX12_letterOf, k_p_sq, k_p_blk, k_sq0, k_sq11, k_sq12, k_sq13, k_sq14, k_sq15, k_sqr, k_sqi, k_blk0, k_blk1, k_blk2, k_blk3, k_blk4, k_blk5, k_blkr, k_blki, k_finr, k_fini, k_mapi, k_bindi, k_if1, k_if2, k_ops, k_br, k_rv, k_ri, k_rl, k_rz, k_rzi, k_01d, k_sw, k_01a, k_01b, k_01c, k_ifn, x_cmp, decide_eq_true_eq, Option.map_some, Option.bind_some, Option.toList_some, Option.toList_none, List.cons_append, List.nil_append, Nat.reduceAdd, true_or, or_true, Int.reduceNeg, Int.reduceEq, reduceIte, Nat.zero_le, Nat.reduceLeDiff, Nat.le_refl, Nat.reduceEqDiff, List.getElem?_cons_zero, List.getElem?_cons_succ, xst, List.set_cons_zero, List.set_cons_succ, List.map_cons, List.map_nil, List.sum_cons, List.sum_nil, xcat, Nat.reduceMul, Nat.reduceDiv, Nat.reduceMod, Nat.add_zero, e_nil, e_iconst, e_il, e_al, e_ll, e_istore, e_astore, e_lstore, e_ic, e_iadd, e_isub, e_imul, e_iand, e_ior, e_ixor, e_ishl, e_ishr, e_ineg, e_dupi, e_dupr, e_dupx, e_dup2, e_popi, er_g0, er_g1, er_g2, er_g3, er_g4, er_g5, er_g6, er_g7, er_g8, er_g9, er_g10, er_g11, er_g12, er_g13, er_g14, er_g15, er_g16, er_g17, er_g18, er_g19, er_g20, er_g21, er_g22, er_g23, er_g24, er_g25, er_g26, er_g27, er_g28, er_g29, er_g30, er_g31, er_g32, er_g33, er_g34, er_g35, er_g36, er_g37, er_g38, er_g39, er_g40, er_g41, er_g42, er_g43, er_g44, er_g45, er_g46, er_g47, er_s1, er_s2, er_s5, er_s6, er_s8, er_s10, er_s11, er_s13, er_s14, er_s15, er_s16, er_s20, er_s23, er_s24, er_s25, er_s28, er_s30, er_s31, er_s32, er_s33, er_s42, er_s43, er_s44, er_s21a, er_s21b, er_s12a, er_s12b, isc_R]
  repeat' split
  all_goals rfl
end RU
