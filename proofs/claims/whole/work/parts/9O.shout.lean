/-! ===== shouts: how the class reckons who knows ===== -/
section NR
variable {f : Nat → Nat → Bool} {B b m : Nat}
theorem nStep_bit (c i : Nat) : (nStep f b c m).testBit i = (m.testBit i || (m.testBit b && f b c && decide (c = i))) := by
  unfold nStep
  by_cases d : m.testBit b = true ∧ f b c = true
  · rw [if_pos d, bit_or, d.1, d.2]
    simp
  · rw [if_neg d]
    by_cases d1 : m.testBit b = true
    · have d2 : f b c = false := by
        cases e : f b c with
        | false => rfl
        | true => exact absurd ⟨d1, e⟩ d
      rw [d2]
      simp
    · simp [d1]
theorem nRow_c : ∀ (k i : Nat), (xit (fun c m => nStep f b c m) k m).testBit i = (m.testBit i || (m.testBit b && decide (i < k) && f b i))
  | 0, i => by
    show m.testBit i = _
    simp
  | k + 1, i => by
    have ih := nRow_c k i
    have ihb := nRow_c k b
    show (nStep f b k (xit (fun c m => nStep f b c m) k m)).testBit i = _
    rw [nStep_bit, ih, ihb]
    by_cases e : k = i
    · subst e
      cases m.testBit b <;> cases m.testBit k <;> cases f b k <;> simp
    · have e2 : decide (i < k + 1) = decide (i < k) := by
        by_cases z : i < k
        · simp [z, Nat.lt_succ_of_lt z]
        · simp [z, show ¬ i < k + 1 by omega]
      rw [e2]
      simp [e]
theorem nRow_s (hB : B ≤ 10) : nRow f B b m = if m.testBit b = true then m ||| nSet (f b) B else m := by
  refine Nat.eq_of_testBit_eq fun i => ?_
  unfold nRow
  rw [nRow_c]
  split
  · rename_i d
    rw [Nat.testBit_or, nSet_bit, d]
    simp
  · rename_i d
    simp [d]
theorem nRd_sup (i : Nat) (hi : m.testBit i = true) : ∀ k, (xit (fun b m => nRow f B b m) k m).testBit i = true
  | 0 => hi
  | k + 1 => by
    have ih := nRd_sup i hi k
    show (nRow f B k (xit (fun b m => nRow f B b m) k m)).testBit i = true
    generalize xit (fun b m => nRow f B b m) k m = y at *
    unfold nRow
    rw [nRow_c, ih]
    rfl
theorem nRd_or : m ||| nRd f B m = nRd f B m := by
  refine Nat.eq_of_testBit_eq fun i => ?_
  rw [Nat.testBit_or]
  cases h : m.testBit i with
  | false => rfl
  | true =>
    have := nRd_sup (f := f) (B := B) i h B
    unfold nRd
    rw [this]
    rfl
theorem nRow_B (hm : m < 2 ^ B) : nRow f B b m < 2 ^ B := by
  refine Nat.lt_pow_two_of_testBit _ fun i hi => ?_
  unfold nRow
  rw [nRow_c, Nat.testBit_lt_two_pow (Nat.lt_of_lt_of_le hm (Nat.pow_le_pow_right (by decide) hi))]
  simp
  intro _ h
  omega
theorem nRd_B (hm : m < 2 ^ B) : ∀ k, xit (fun b m => nRow f B b m) k m < 2 ^ B
  | 0 => hm
  | k + 1 => nRow_B (nRd_B hm k)
/-- how many bits -/
def pc (m : Nat) : Nat := (if m.testBit 0 = true then 1 else 0) + (if m.testBit 1 = true then 1 else 0) + (if m.testBit 2 = true then 1 else 0) + (if m.testBit 3 = true then 1 else 0) + (if m.testBit 4 = true then 1 else 0) + (if m.testBit 5 = true then 1 else 0)
theorem pc_lt {a b : Nat} (ha : a < 64) (hb : b < 64) (h : a ||| b = b) (hn : ¬ b = a) : pc a < pc b := by
  have key : ∀ a b : Fin 64, a.1 ||| b.1 = b.1 → ¬ b.1 = a.1 → pc a.1 < pc b.1 := by decide +kernel
  exact key ⟨a, ha⟩ ⟨b, hb⟩ h hn
theorem pc_B {B m : Nat} (hB : B ≤ 6) (hm : m < 2 ^ B) : pc m ≤ B := by
  have key : ∀ B : Fin 7, ∀ m : Fin 64, m.1 < 2 ^ B.1 → pc m.1 ≤ B.1 := by decide +kernel
  have h2 : 2 ^ B ≤ 2 ^ 6 := Nat.pow_le_pow_right (by decide) hB
  exact key ⟨B, by omega⟩ ⟨m, by omega⟩ hm
/-- enough turns are enough -/
theorem nFix_more (hB : B ≤ 6) : ∀ (d k k' m : Nat), m < 2 ^ B → B - pc m ≤ d → d ≤ k → d ≤ k' → (pc m = B → nRd f B m = m) → nFix f B k m = nFix f B k' m
  | 0, k, k', m, hm, h1, h2, h3, h4 => by
    have e : nRd f B m = m := h4 (by have := pc_B hB hm; omega)
    have g : ∀ k, nFix f B k m = m := fun k => by
      cases k with
      | zero => rfl
      | succ k => unfold nFix; rw [if_pos e]
    rw [g, g]
  | d + 1, 0, k', m, hm, h1, h2, h3, h4 => by omega
  | d + 1, k + 1, 0, m, hm, h1, h2, h3, h4 => by omega
  | d + 1, k + 1, k' + 1, m, hm, h1, h2, h3, h4 => by
    unfold nFix
    by_cases e : nRd f B m = m
    · rw [if_pos e, if_pos e]
    · rw [if_neg e, if_neg e]
      have h64 : 2 ^ B ≤ 2 ^ 6 := Nat.pow_le_pow_right (by decide) hB
      have hm2 : nRd f B m < 2 ^ B := nRd_B hm B
      have := pc_lt (by omega) (by omega) nRd_or e
      refine nFix_more hB d k k' (nRd f B m) hm2 (by omega) (by omega) (by omega) (fun h5 => ?_)
      have hm3 : nRd f B (nRd f B m) < 2 ^ B := nRd_B hm2 B
      refine Classical.byContradiction fun h6 => ?_
      have h7 := pc_lt (a := nRd f B m) (b := nRd f B (nRd f B m)) (by omega) (by omega) nRd_or h6
      have h8 := pc_B hB hm3
      omega
theorem nFix_B (hB : B ≤ 6) (hm : m < 2 ^ B) : nFix f B B m = nFix f B 64 m := by
  refine nFix_more hB B B 64 m hm (by omega) (Nat.le_refl _) (by omega) (fun h => ?_)
  refine Classical.byContradiction fun h6 => ?_
  have h64 : 2 ^ B ≤ 2 ^ 6 := Nat.pow_le_pow_right (by decide) hB
  have hm3 : nRd f B m < 2 ^ B := nRd_B hm B
  have h7 := pc_lt (by omega) (by omega) nRd_or h6
  have h8 := pc_B hB hm3
  omega
theorem nFix_lt : ∀ (k m : Nat), m < 2 ^ B → nFix f B k m < 2 ^ B
  | 0, m, hm => hm
  | k + 1, m, hm => by
    unfold nFix
    split
    · exact hm
    · exact nFix_lt k (nRd f B m) (nRd_B hm B)
theorem nFix_sup (i : Nat) : ∀ (k m : Nat), m.testBit i = true → (nFix f B k m).testBit i = true
  | 0, m, hi => hi
  | k + 1, m, hi => by
    unfold nFix
    split
    · exact hi
    · exact nFix_sup i k (nRd f B m) (nRd_sup i hi B)
end NR
/-- the sets of those in earshot, row by row -/
def sW (E : Nat → Nat → Int) (B t b : Nat) (e : Nat → Int) : Nat → Int := fun i => if (i / 6 < t ∧ i % 6 < B) ∨ (i / 6 = t ∧ i % 6 < b) then E (i / 6) (i % 6) else e i
theorem sW_s (E : Nat → Nat → Int) {B t b : Nat} (hb : b < 6) (e : Nat → Int) : xfu (sW E B t b e) (t * 6 + b) (E t b) = sW E B t (b + 1) e := by
  funext i
  unfold xfu sW
  by_cases c1 : i = t * 6 + b
  · rw [if_pos c1, if_pos (Or.inr ⟨by omega, by omega⟩), show i / 6 = t by omega, show i % 6 = b by omega]
  · rw [if_neg c1]
    by_cases c2 : (i / 6 < t ∧ i % 6 < B) ∨ (i / 6 = t ∧ i % 6 < b)
    · rw [if_pos c2, if_pos (by omega)]
    · rw [if_neg c2, if_neg (by omega)]
theorem sW_0 (E : Nat → Nat → Int) (B t : Nat) (e : Nat → Int) : sW E B t B e = sW E B (t + 1) 0 e := by
  funext i
  unfold sW
  by_cases c2 : (i / 6 < t ∧ i % 6 < B) ∨ (i / 6 = t ∧ i % 6 < B)
  · rw [if_pos c2, if_pos (by omega)]
  · rw [if_neg c2, if_neg (by omega)]
theorem sW_i (E : Nat → Nat → Int) (B : Nat) (e : Nat → Int) : sW E B 0 0 e = e := by
  funext i
  unfold sW
  rw [if_neg (by omega)]
theorem sW_v (E : Nat → Nat → Int) {B T t b : Nat} (ht : t < T) (hb : b < B) (hB : B ≤ 6) (e : Nat → Int) : sW E B T 0 e (t * 6 + b) = E t b := by
  unfold sW
  rw [if_pos (Or.inl ⟨by omega, by omega⟩), show (t * 6 + b) / 6 = t by omega, show (t * 6 + b) % 6 = b by omega]
section PSh
variable {n : Nat} {h : xH} {c : xQ} {r : xR} {H : xH}
theorem c_heard {z : Nat → Int} {B : Nat} (hB : B ≤ 6) (hb : z 132 = (B : Int)) {b : Nat} (hb6 : b < 6) (s : Int) : ∃ x6 : xV, (gg (n + 3) 71).2 [.inr (.inr (.inl (4, 0))), .inl (b : Int), .inl s] (hC h (q_z c 1 z)) = some (some (.inl ((nSet (kHear z s b) B : Nat) : Int)), hC h (q_z c 1 z)) := by
  have key : ∃ x6 : xV, p_lop (lX8_heardBy_13 (gg (n + 2))) ([.inr (.inr (.inl (4, 0))), .inl (b : Int), .inl s, .inr (.inr (.inl (4, 5 + b))), .inl 0, .inl 0, .inr (.inr (.inr 2))], [], hC h (q_z c 1 z)) = some (.inl (0 + 1), ([.inr (.inr (.inl (4, 0))), .inl (b : Int), .inl s, .inr (.inr (.inl (4, 5 + b))), .inl (xit (fun i x => if rApart z b i ≤ s then xor_ x (xshl 1 (i : Nat)) else x) B 0), .inl (B : Int), x6], [], hC h (q_z c 1 z))) := by
    refine k_forE (fun i (x6 : xV) => ([.inr (.inr (.inl (4, 0))), .inl (b : Int), .inl s, .inr (.inr (.inl (4, 5 + b))), .inl (xit (fun i x => if rApart z b i ≤ s then xor_ x (xshl 1 (i : Nat)) else x) i 0), .inl (i : Int), x6], [], hC h (q_z c 1 z))) B (e := fun x6 => ([.inr (.inr (.inl (4, 0))), .inl (b : Int), .inl s, .inr (.inr (.inl (4, 5 + b))), .inl (xit (fun i x => if rApart z b i ≤ s then xor_ x (xshl 1 (i : Nat)) else x) B 0), .inl (B : Int), x6], [], hC h (q_z c 1 z))) (.inr (.inr (.inr 2))) rfl ?_ ?_
    · intro x6
      generalize xit (fun i x => if rApart z b i ≤ s then xor_ x (xshl 1 (i : Nat)) else x) B 0 = y
      simp -implicitDefEqProofs (disch := first | with_reducible assumption | with_reducible exact isc_zs (by assumption) | with_reducible exact isc_zs (by decide) | with_reducible exact isc_zb (by assumption) (by assumption) | with_reducible exact isc_zb (by decide) (by assumption) | with_reducible exact isc_zg (by assumption) (by assumption) | with_reducible exact isc_zl (by assumption) (by assumption) | with_reducible exact isc_0 | with_reducible exact isc_1 | with_reducible exact isc_3 | with_reducible exact isc_7 | with_reducible exact isc_11 | with_reducible exact isc_15 | with_reducible exact isc_19 | with_reducible exact isc_24 | with_reducible exact isc_25 | (simp only [List.map_cons, List.map_nil, List.sum_cons, List.sum_nil, xcat, Nat.reduceAdd, Nat.reduceLeDiff, Nat.zero_le]; done) | omega) only [lX8_heardBy_13, k_p_sq, k_p_blk, k_sq0, k_sq11, k_sq12, k_sq13, k_sq14, k_sq15, k_sqr, k_sqi, k_blk0, k_blk1, k_blk2, k_blk3, k_blk4, k_blk5, k_blkr, k_blki, k_finr, k_fini, k_mapi, k_bindi, k_if1, k_if2, k_ops, k_br, k_rv, k_ri, k_rl, k_rz, k_rzi, k_01d, k_sw, k_01a, k_01b, k_01c, k_ifn, x_cmp, decide_eq_true_eq, Option.map_some, Option.bind_some, Option.toList_some, Option.toList_none, List.cons_append, List.nil_append, Nat.reduceAdd, true_or, or_true, Int.reduceNeg, Int.reduceEq, reduceIte, Nat.zero_le, Nat.reduceLeDiff, Nat.le_refl, Nat.reduceEqDiff, List.getElem?_cons_zero, List.getElem?_cons_succ, xst, List.set_cons_zero, List.set_cons_succ, List.map_cons, List.map_nil, List.sum_cons, List.sum_nil, xcat, Nat.reduceMul, Nat.reduceDiv, Nat.reduceMod, Nat.add_zero, e_nil, e_iconst, e_il, e_al, e_ll, e_istore, e_astore, e_lstore, e_ic, e_iadd, e_isub, e_imul, e_iand, e_ior, e_ixor, e_ishl, e_ishr, e_ineg, e_dupi, e_dupr, e_dupx, e_dup2, e_popi, eo_g0, eo_g1, eo_g2, eo_g3, eo_g4, eo_g5, eo_g6, eo_g7, eo_g8, eo_g9, eo_g10, eo_g11, eo_g12, eo_g13, eo_g14, eo_s14, eo_g15, eo_g16, eo_s16, et_g0, et_g1, et_s1, et_g2, et_s2, et_g3, et_s3, et_g4, et_s4, eu_g0, eu_g1, eu_s1, eu_g2, eu_g3, eu_s3, eu_g4, eh_g0, eh_g1, eh_s1, eh_g2, eh_s2, ed_g0, ed_g1, ed_g2, ed_g3, ed_s3, ew_g0, ew_g1, ew_g2, ew_g3, ew_s3, en_g0, en_g1, en_s1, en_g2, en_g3, en_g4, en_g5, en_s5, ex_g0, ex_s0, eq_g0, eq_s0, eq_g1, eq_s1, eq_g2, eq_s2, eq_g3, eq_s3, eq_g4, eq_s4, eq_g5, eq_s5, eq_g6, eq_s6, eq_g7, eq_s7, ez_g0, ez_g1, ez_g2, ez_g3, ez_s3, ez_g4, ez_s4, ez_g5, ez_s5, ez_g6, ez_s6, ez_g7, ez_s7, ez_g8, ez_s8, ez_g9, ez_s9, ez_g10, ez_s10, ez_g11, ez_s11, ez_g12, ez_s12, ez_g13, ez_s13, ez_g14, ez_g15, ez_b0g, ez_b0s, ez_b1g, ez_b1s, ez_b2g, ez_b2s, ez_b3g, ez_b3s, ez_b4g, ez_b4s, ez_b5g, ez_b5s, ez_ba, ez_g0g, ez_g0s, ez_g1g, ez_g1s, ez_g2g, ez_g2s, ez_g3g, ez_g3s, ez_g4g, ez_g4s, ez_g5g, ez_g5s, ez_g6g, ez_g6s, ez_g7g, ez_g7s, ez_ga, ez_l0g, ez_l0s, ez_l1g, ez_l1s, ez_l2g, ez_l2s, ez_la, q_zs, q_zz, q_z1, q_z2, q_i2, q_ig, q_iz, q_jz, true_and, false_and, or_self, or_true, true_or, or_false, false_or, and_true, and_false, and_self, not_true_eq_false, not_false_eq_true, hb, Int.le_refl]
    · intro i hi x6
      refine ⟨.inr (.inr (.inl (4, 5 + i))), ?_⟩
      have e1 : xit (fun i x => if rApart z b i ≤ s then xor_ x (xshl 1 (i : Nat)) else x) (i + 1) 0 = if rApart z b i ≤ s then xor_ (xit (fun i x => if rApart z b i ≤ s then xor_ x (xshl 1 (i : Nat)) else x) i 0) (xshl 1 (i : Nat)) else xit (fun i x => if rApart z b i ≤ s then xor_ x (xshl 1 (i : Nat)) else x) i 0 := rfl
      rw [e1]
      generalize xit (fun i x => if rApart z b i ≤ s then xor_ x (xshl 1 (i : Nat)) else x) i 0 = y
      have e2 : xw (mAbs (xw (z b - z i)) + mAbs (xw (z (6 + b) - z (6 + i)))) = rApart z b i := rfl
      generalize rApart z b i = ap at *
      have hi2 : ¬ (B : Int) ≤ (i : Int) := by omega
      have hi6 : i < 6 := by omega
      have x1 : xw ((i : Int) + 1) = ((i + 1 : Nat) : Int) := by rw [xw_id (by omega) (by omega)]; omega
      clear e1
      by_cases d : ap ≤ s
      · have d2 : ¬ s < ap := by omega
        rw [if_pos d]
        simp -implicitDefEqProofs (disch := first | with_reducible assumption | with_reducible exact isc_zs (by assumption) | with_reducible exact isc_zs (by decide) | with_reducible exact isc_zb (by assumption) (by assumption) | with_reducible exact isc_zb (by decide) (by assumption) | with_reducible exact isc_zg (by assumption) (by assumption) | with_reducible exact isc_zl (by assumption) (by assumption) | with_reducible exact isc_0 | with_reducible exact isc_1 | with_reducible exact isc_3 | with_reducible exact isc_7 | with_reducible exact isc_11 | with_reducible exact isc_15 | with_reducible exact isc_19 | with_reducible exact isc_24 | with_reducible exact isc_25 | (simp only [List.map_cons, List.map_nil, List.sum_cons, List.sum_nil, xcat, Nat.reduceAdd, Nat.reduceLeDiff, Nat.zero_le]; done) | omega) only [lX8_heardBy_13, k_p_sq, k_p_blk, k_sq0, k_sq11, k_sq12, k_sq13, k_sq14, k_sq15, k_sqr, k_sqi, k_blk0, k_blk1, k_blk2, k_blk3, k_blk4, k_blk5, k_blkr, k_blki, k_finr, k_fini, k_mapi, k_bindi, k_if1, k_if2, k_ops, k_br, k_rv, k_ri, k_rl, k_rz, k_rzi, k_01d, k_sw, k_01a, k_01b, k_01c, k_ifn, x_cmp, decide_eq_true_eq, Option.map_some, Option.bind_some, Option.toList_some, Option.toList_none, List.cons_append, List.nil_append, Nat.reduceAdd, true_or, or_true, Int.reduceNeg, Int.reduceEq, reduceIte, Nat.zero_le, Nat.reduceLeDiff, Nat.le_refl, Nat.reduceEqDiff, List.getElem?_cons_zero, List.getElem?_cons_succ, xst, List.set_cons_zero, List.set_cons_succ, List.map_cons, List.map_nil, List.sum_cons, List.sum_nil, xcat, Nat.reduceMul, Nat.reduceDiv, Nat.reduceMod, Nat.add_zero, e_nil, e_iconst, e_il, e_al, e_ll, e_istore, e_astore, e_lstore, e_ic, e_iadd, e_isub, e_imul, e_iand, e_ior, e_ixor, e_ishl, e_ishr, e_ineg, e_dupi, e_dupr, e_dupx, e_dup2, e_popi, eo_g0, eo_g1, eo_g2, eo_g3, eo_g4, eo_g5, eo_g6, eo_g7, eo_g8, eo_g9, eo_g10, eo_g11, eo_g12, eo_g13, eo_g14, eo_s14, eo_g15, eo_g16, eo_s16, et_g0, et_g1, et_s1, et_g2, et_s2, et_g3, et_s3, et_g4, et_s4, eu_g0, eu_g1, eu_s1, eu_g2, eu_g3, eu_s3, eu_g4, eh_g0, eh_g1, eh_s1, eh_g2, eh_s2, ed_g0, ed_g1, ed_g2, ed_g3, ed_s3, ew_g0, ew_g1, ew_g2, ew_g3, ew_s3, en_g0, en_g1, en_s1, en_g2, en_g3, en_g4, en_g5, en_s5, ex_g0, ex_s0, eq_g0, eq_s0, eq_g1, eq_s1, eq_g2, eq_s2, eq_g3, eq_s3, eq_g4, eq_s4, eq_g5, eq_s5, eq_g6, eq_s6, eq_g7, eq_s7, ez_g0, ez_g1, ez_g2, ez_g3, ez_s3, ez_g4, ez_s4, ez_g5, ez_s5, ez_g6, ez_s6, ez_g7, ez_s7, ez_g8, ez_s8, ez_g9, ez_s9, ez_g10, ez_s10, ez_g11, ez_s11, ez_g12, ez_s12, ez_g13, ez_s13, ez_g14, ez_g15, ez_b0g, ez_b0s, ez_b1g, ez_b1s, ez_b2g, ez_b2s, ez_b3g, ez_b3s, ez_b4g, ez_b4s, ez_b5g, ez_b5s, ez_ba, ez_g0g, ez_g0s, ez_g1g, ez_g1s, ez_g2g, ez_g2s, ez_g3g, ez_g3s, ez_g4g, ez_g4s, ez_g5g, ez_g5s, ez_g6g, ez_g6s, ez_g7g, ez_g7s, ez_ga, ez_l0g, ez_l0s, ez_l1g, ez_l1s, ez_l2g, ez_l2s, ez_la, q_zs, q_zz, q_z1, q_z2, q_i2, q_ig, q_iz, q_jz, true_and, false_and, or_self, or_true, true_or, or_false, false_or, and_true, and_false, and_self, not_true_eq_false, not_false_eq_true, hb, hi2, Int.reduceNeg, Int.reduceToNat, Int.toNat_natCast, Int.toNat_add_nat, ec166, c_apart, e2, d2, x1]
      · have d2 : s < ap := by omega
        rw [if_neg d]
        simp -implicitDefEqProofs (disch := first | with_reducible assumption | with_reducible exact isc_zs (by assumption) | with_reducible exact isc_zs (by decide) | with_reducible exact isc_zb (by assumption) (by assumption) | with_reducible exact isc_zb (by decide) (by assumption) | with_reducible exact isc_zg (by assumption) (by assumption) | with_reducible exact isc_zl (by assumption) (by assumption) | with_reducible exact isc_0 | with_reducible exact isc_1 | with_reducible exact isc_3 | with_reducible exact isc_7 | with_reducible exact isc_11 | with_reducible exact isc_15 | with_reducible exact isc_19 | with_reducible exact isc_24 | with_reducible exact isc_25 | (simp only [List.map_cons, List.map_nil, List.sum_cons, List.sum_nil, xcat, Nat.reduceAdd, Nat.reduceLeDiff, Nat.zero_le]; done) | omega) only [lX8_heardBy_13, k_p_sq, k_p_blk, k_sq0, k_sq11, k_sq12, k_sq13, k_sq14, k_sq15, k_sqr, k_sqi, k_blk0, k_blk1, k_blk2, k_blk3, k_blk4, k_blk5, k_blkr, k_blki, k_finr, k_fini, k_mapi, k_bindi, k_if1, k_if2, k_ops, k_br, k_rv, k_ri, k_rl, k_rz, k_rzi, k_01d, k_sw, k_01a, k_01b, k_01c, k_ifn, x_cmp, decide_eq_true_eq, Option.map_some, Option.bind_some, Option.toList_some, Option.toList_none, List.cons_append, List.nil_append, Nat.reduceAdd, true_or, or_true, Int.reduceNeg, Int.reduceEq, reduceIte, Nat.zero_le, Nat.reduceLeDiff, Nat.le_refl, Nat.reduceEqDiff, List.getElem?_cons_zero, List.getElem?_cons_succ, xst, List.set_cons_zero, List.set_cons_succ, List.map_cons, List.map_nil, List.sum_cons, List.sum_nil, xcat, Nat.reduceMul, Nat.reduceDiv, Nat.reduceMod, Nat.add_zero, e_nil, e_iconst, e_il, e_al, e_ll, e_istore, e_astore, e_lstore, e_ic, e_iadd, e_isub, e_imul, e_iand, e_ior, e_ixor, e_ishl, e_ishr, e_ineg, e_dupi, e_dupr, e_dupx, e_dup2, e_popi, eo_g0, eo_g1, eo_g2, eo_g3, eo_g4, eo_g5, eo_g6, eo_g7, eo_g8, eo_g9, eo_g10, eo_g11, eo_g12, eo_g13, eo_g14, eo_s14, eo_g15, eo_g16, eo_s16, et_g0, et_g1, et_s1, et_g2, et_s2, et_g3, et_s3, et_g4, et_s4, eu_g0, eu_g1, eu_s1, eu_g2, eu_g3, eu_s3, eu_g4, eh_g0, eh_g1, eh_s1, eh_g2, eh_s2, ed_g0, ed_g1, ed_g2, ed_g3, ed_s3, ew_g0, ew_g1, ew_g2, ew_g3, ew_s3, en_g0, en_g1, en_s1, en_g2, en_g3, en_g4, en_g5, en_s5, ex_g0, ex_s0, eq_g0, eq_s0, eq_g1, eq_s1, eq_g2, eq_s2, eq_g3, eq_s3, eq_g4, eq_s4, eq_g5, eq_s5, eq_g6, eq_s6, eq_g7, eq_s7, ez_g0, ez_g1, ez_g2, ez_g3, ez_s3, ez_g4, ez_s4, ez_g5, ez_s5, ez_g6, ez_s6, ez_g7, ez_s7, ez_g8, ez_s8, ez_g9, ez_s9, ez_g10, ez_s10, ez_g11, ez_s11, ez_g12, ez_s12, ez_g13, ez_s13, ez_g14, ez_g15, ez_b0g, ez_b0s, ez_b1g, ez_b1s, ez_b2g, ez_b2s, ez_b3g, ez_b3s, ez_b4g, ez_b4s, ez_b5g, ez_b5s, ez_ba, ez_g0g, ez_g0s, ez_g1g, ez_g1s, ez_g2g, ez_g2s, ez_g3g, ez_g3s, ez_g4g, ez_g4s, ez_g5g, ez_g5s, ez_g6g, ez_g6s, ez_g7g, ez_g7s, ez_ga, ez_l0g, ez_l0s, ez_l1g, ez_l1s, ez_l2g, ez_l2s, ez_la, q_zs, q_zz, q_z1, q_z2, q_i2, q_ig, q_iz, q_jz, true_and, false_and, or_self, or_true, true_or, or_false, false_or, and_true, and_false, and_self, not_true_eq_false, not_false_eq_true, hb, hi2, Int.reduceNeg, Int.reduceToNat, Int.toNat_natCast, Int.toNat_add_nat, ec166, c_apart, e2, d2, x1]
  obtain ⟨x6, key⟩ := key
  refine ⟨x6, ?_⟩
  have e3 : xit (fun i x => if rApart z b i ≤ s then xor_ x (xshl 1 (i : Nat)) else x) B 0 = ((nSet (kHear z s b) B : Nat) : Int) := nSet_c (p := fun i => rApart z b i ≤ s) (by omega)
  rw [e3] at key
  have key : p_lop (lX8_heardBy_13 (gg (n + 2))) ([.inr (.inr (.inl (4, 0))), .inl (b : Int), .inl s, .inr (.inr (.inl (4, 5 + b))), .inl 0, .inl 0, .inr (.inr (.inr 2))], [], hC h (q_z c 1 z)) = some (.inl 1, ([.inr (.inr (.inl (4, 0))), .inl (b : Int), .inl s, .inr (.inr (.inl (4, 5 + b))), .inl ((nSet (kHear z s b) B : Nat) : Int), .inl (B : Int), x6], [], hC h (q_z c 1 z))) := key
  rw [gr71]
  simp -implicitDefEqProofs (disch := first | with_reducible assumption | with_reducible exact isc_zs (by assumption) | with_reducible exact isc_zs (by decide) | with_reducible exact isc_zb (by assumption) (by assumption) | with_reducible exact isc_zb (by decide) (by assumption) | with_reducible exact isc_zg (by assumption) (by assumption) | with_reducible exact isc_zl (by assumption) (by assumption) | with_reducible exact isc_0 | with_reducible exact isc_1 | with_reducible exact isc_3 | with_reducible exact isc_7 | with_reducible exact isc_11 | with_reducible exact isc_15 | with_reducible exact isc_19 | with_reducible exact isc_24 | with_reducible exact isc_25 | (simp only [List.map_cons, List.map_nil, List.sum_cons, List.sum_nil, xcat, Nat.reduceAdd, Nat.reduceLeDiff, Nat.zero_le]; done) | omega) only [fX8_heardBy, k_p_sq, k_p_blk, k_sq0, k_sq11, k_sq12, k_sq13, k_sq14, k_sq15, k_sqr, k_sqi, k_blk0, k_blk1, k_blk2, k_blk3, k_blk4, k_blk5, k_blkr, k_blki, k_finr, k_fini, k_mapi, k_bindi, k_if1, k_if2, k_ops, k_br, k_rv, k_ri, k_rl, k_rz, k_rzi, k_01d, k_sw, k_01a, k_01b, k_01c, k_ifn, x_cmp, decide_eq_true_eq, Option.map_some, Option.bind_some, Option.toList_some, Option.toList_none, List.cons_append, List.nil_append, Nat.reduceAdd, true_or, or_true, Int.reduceNeg, Int.reduceEq, reduceIte, Nat.zero_le, Nat.reduceLeDiff, Nat.le_refl, Nat.reduceEqDiff, List.getElem?_cons_zero, List.getElem?_cons_succ, xst, List.set_cons_zero, List.set_cons_succ, List.map_cons, List.map_nil, List.sum_cons, List.sum_nil, xcat, Nat.reduceMul, Nat.reduceDiv, Nat.reduceMod, Nat.add_zero, e_nil, e_iconst, e_il, e_al, e_ll, e_istore, e_astore, e_lstore, e_ic, e_iadd, e_isub, e_imul, e_iand, e_ior, e_ixor, e_ishl, e_ishr, e_ineg, e_dupi, e_dupr, e_dupx, e_dup2, e_popi, eo_g0, eo_g1, eo_g2, eo_g3, eo_g4, eo_g5, eo_g6, eo_g7, eo_g8, eo_g9, eo_g10, eo_g11, eo_g12, eo_g13, eo_g14, eo_s14, eo_g15, eo_g16, eo_s16, et_g0, et_g1, et_s1, et_g2, et_s2, et_g3, et_s3, et_g4, et_s4, eu_g0, eu_g1, eu_s1, eu_g2, eu_g3, eu_s3, eu_g4, eh_g0, eh_g1, eh_s1, eh_g2, eh_s2, ed_g0, ed_g1, ed_g2, ed_g3, ed_s3, ew_g0, ew_g1, ew_g2, ew_g3, ew_s3, en_g0, en_g1, en_s1, en_g2, en_g3, en_g4, en_g5, en_s5, ex_g0, ex_s0, eq_g0, eq_s0, eq_g1, eq_s1, eq_g2, eq_s2, eq_g3, eq_s3, eq_g4, eq_s4, eq_g5, eq_s5, eq_g6, eq_s6, eq_g7, eq_s7, ez_g0, ez_g1, ez_g2, ez_g3, ez_s3, ez_g4, ez_s4, ez_g5, ez_s5, ez_g6, ez_s6, ez_g7, ez_s7, ez_g8, ez_s8, ez_g9, ez_s9, ez_g10, ez_s10, ez_g11, ez_s11, ez_g12, ez_s12, ez_g13, ez_s13, ez_g14, ez_g15, ez_b0g, ez_b0s, ez_b1g, ez_b1s, ez_b2g, ez_b2s, ez_b3g, ez_b3s, ez_b4g, ez_b4s, ez_b5g, ez_b5s, ez_ba, ez_g0g, ez_g0s, ez_g1g, ez_g1s, ez_g2g, ez_g2s, ez_g3g, ez_g3s, ez_g4g, ez_g4s, ez_g5g, ez_g5s, ez_g6g, ez_g6s, ez_g7g, ez_g7s, ez_ga, ez_l0g, ez_l0s, ez_l1g, ez_l1s, ez_l2g, ez_l2s, ez_la, q_zs, q_zz, q_z1, q_z2, q_i2, q_ig, q_iz, q_jz, true_and, false_and, or_self, or_true, true_or, or_false, false_or, and_true, and_false, and_self, not_true_eq_false, not_false_eq_true, Int.reduceNeg, Int.reduceToNat, Int.toNat_natCast, Int.toNat_add_nat, key]
end PSh
