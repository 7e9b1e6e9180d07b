/-! ===== delivers, thief: alike ===== -/
theorem rOn_n {a : Nat → Int} {M : Nat} (hM : M ≤ 10) (ha : a 114 = (M : Int)) : rOn a 1 = ((nSet (fun l => decide (a (94 + l) = 2) && decide (a (104 + l) = a (84 + l))) M : Nat) : Int) ∧ rOn a 0 = ((nSet (fun l => decide (a (94 + l) = 2) && !decide (a (104 + l) = a (84 + l))) M : Nat) : Int) := by
  unfold rOn
  rw [show (a 114).toNat = M by omega]
  constructor
  · rw [show nSet (fun l => decide (a (94 + l) = 2) && decide (a (104 + l) = a (84 + l))) M = nSet (fun l => decide (a (94 + l) = 2 ∧ a (104 + l) = a (84 + l))) M from nSet_eq fun i _ => by simp, ← nSet_x (p := fun l => a (94 + l) = 2 ∧ a (104 + l) = a (84 + l)) M hM]
    refine xit_congr (n := M) (fun i _ x => ?_) 0 M (Nat.le_refl _)
    unfold rOn1
    by_cases d : a (104 + i) = a (84 + i)
    · simp [d]
    · simp [d]
  · rw [show nSet (fun l => decide (a (94 + l) = 2) && !decide (a (104 + l) = a (84 + l))) M = nSet (fun l => decide (a (94 + l) = 2 ∧ ¬ a (104 + l) = a (84 + l))) M from nSet_eq fun i _ => by simp, ← nSet_x (p := fun l => a (94 + l) = 2 ∧ ¬ a (104 + l) = a (84 + l)) M hM]
    refine xit_congr (n := M) (fun i _ x => ?_) 0 M (Nat.le_refl _)
    unfold rOn1
    by_cases d : a (104 + i) = a (84 + i)
    · simp [d]
    · simp [d]
/-- how many of the numbers below m -/
def nCnt (p : Nat → Bool) (m : Nat) : Int := xit (fun l x => if p l = true then x + 1 else x) m 0
theorem nCnt_le (p : Nat → Bool) : ∀ m : Nat, 0 ≤ nCnt p m ∧ nCnt p m ≤ m
  | 0 => ⟨Int.le_refl _, Int.le_refl _⟩
  | m + 1 => by
    have ih := nCnt_le p m
    show 0 ≤ (if p m = true then nCnt p m + 1 else nCnt p m) ∧ (if p m = true then nCnt p m + 1 else nCnt p m) ≤ ((m + 1 : Nat) : Int)
    split <;> omega
theorem bitC_10 {g m : Nat} (hg : g < 10) (hm : m < 2 ^ g) : bitC (((m ||| 2 ^ g : Nat)) : Int) = bitC (m : Int) + 1 := by
  have h : ∀ g : Fin 10, ∀ m : Fin 512, m.1 < 2 ^ g.1 → bitC (((m.1 ||| 2 ^ g.1 : Nat)) : Int) = bitC ((m.1 : Nat) : Int) + 1 := by decide +kernel
  have h2 : 2 ^ g ≤ 2 ^ 9 := Nat.pow_le_pow_right (by decide) (by omega)
  exact h ⟨g, hg⟩ ⟨m, by omega⟩ hm
theorem bitC_n (p : Nat → Bool) : ∀ m, m ≤ 10 → bitC ((nSet p m : Nat) : Int) = nCnt p m
  | 0, _ => by
    show bitC 0 = 0
    decide
  | m + 1, hm => by
    have ih := bitC_n p m (by omega)
    show bitC (((if p m = true then nSet p m ||| 2 ^ m else nSet p m : Nat)) : Int) = if p m = true then nCnt p m + 1 else nCnt p m
    split
    · rw [bitC_10 (by omega) (nSet_lt p m), ih]
    · exact ih
section PW
variable {n : Nat} {h : xH} {c : xQ} {r : xR} {H : xH}
theorem aT_to {z : Nat → Int} (h : zw z z (0, 0, 0, 0, z 140) z = z) : z 136 = 0 ∧ z 137 = 0 ∧ z 138 = 0 ∧ z 139 = 0 := by
  refine ⟨?_, ?_, ?_, ?_⟩
  · rw [← h]; rfl
  · rw [← h]; rfl
  · rw [← h]; rfl
  · rw [← h]; rfl
theorem aT_of {z : Nat → Int} (h : z 136 = 0 ∧ z 137 = 0 ∧ z 138 = 0 ∧ z 139 = 0) : zw z z (0, 0, 0, 0, z 140) z = z := by
  have e := zw_0 (z := z)
  rw [h.1, h.2.1, h.2.2.1, h.2.2.2] at e
  exact e
/-- half hours go by ahead -/
theorem c_aheadPass (hr : Rel r c) {z a : Nat → Int} (hs : sSea r (kB (rK r)) (kN (rK r)) z a) (hz : zKx (rK r) z) (ht : zw z z (0, 0, 0, 0, z 140) z = z) {m : Nat} (hm : m ≤ 60) : ∃ z' J, (gg (n + 6) 58).2 [.inr (.inr (.inl (4, 0))), .inl (m : Int)] (hC h (q_z c 1 z)) = some (none, hC h (q_z (q_j c 6 J) 1 z')) ∧ sSea r (kB (rK r)) (kN (rK r)) z' (kHN (rK r) m (a, 0, 0, 0, fun _ => 0)).1 := by
  obtain ⟨hK, _, hru⟩ := Rel_kx hr
  obtain ⟨M, m1, m2, m3, m4⟩ := sSea_M hs
  have x0 : xin 0 := by unfold xin; omega
  have hA := cOk_sea (T := (0, 0, 0, 0, z 140)) hK.1 hK.2.1 m2 hs x0
  obtain ⟨t, J, f3⟩ := c_pass (n := n) (h := h) (c := c) (k := 1) (z := z) (t := z) (by decide) hK hz m1 hA hru (m := m) (by omega)
  dsimp only at f3
  rw [ht] at f3
  have s1 := (sea_pass hK m1 m2 hs m (z 140) t).1
  have e : (kPass (rK r) m a).1 = (kHN (rK r) m (a, 0, 0, 0, fun _ => 0)).1 := by
    show (kHs (rK r) m ((a, 0, 0, 0, fun _ => 0), (0, 0, 0, 0))).1.1 = _
    rw [kHs_N]
  rw [e] at s1
  exact ⟨_, J, f3, s1⟩
theorem c_delL {M : Nat} (hM : M ≤ 10) (hm : c.2.2 1 114 = (M : Int)) (b : Int) : p_lop (lX11_delivers_28 (gg (n + 1))) ([.inr (.inr (.inl (0, 0))), .inl b, .inl 0, .inl 0], [], hC h c) = some (.inl 1, ([.inr (.inr (.inl (0, 0))), .inl b, .inl (xit (fun l x => if c.2.2 1 (94 + l) = 2 ∧ c.2.2 1 (104 + l) = c.2.2 1 (84 + l) then xor_ x (xshl 1 (l : Nat)) else x) M 0), .inl (M : Int)], [], hC h c)) := by
  refine k_for (fun i => ([.inr (.inr (.inl (0, 0))), .inl b, .inl (xit (fun l x => if c.2.2 1 (94 + l) = 2 ∧ c.2.2 1 (104 + l) = c.2.2 1 (84 + l) then xor_ x (xshl 1 (l : Nat)) else x) i 0), .inl (i : Int)], [], hC h c)) M rfl ?_ (fun i hi => ?_)
  · generalize xit (fun l x => if c.2.2 1 (94 + l) = 2 ∧ c.2.2 1 (104 + l) = c.2.2 1 (84 + l) then xor_ x (xshl 1 (l : Nat)) else x) M 0 = y
    simp -implicitDefEqProofs (disch := first | with_reducible assumption | with_reducible exact isc_zs (by assumption) | with_reducible exact isc_zs (by decide) | with_reducible exact isc_zb (by assumption) (by assumption) | with_reducible exact isc_zb (by decide) (by assumption) | with_reducible exact isc_zg (by assumption) (by assumption) | with_reducible exact isc_zl (by assumption) (by assumption) | with_reducible exact isc_0 | with_reducible exact isc_1 | with_reducible exact isc_3 | with_reducible exact isc_7 | with_reducible exact isc_11 | with_reducible exact isc_15 | with_reducible exact isc_19 | with_reducible exact isc_24 | with_reducible exact isc_25 | (simp only [List.map_cons, List.map_nil, List.sum_cons, List.sum_nil, xcat, Nat.reduceAdd, Nat.reduceLeDiff, Nat.zero_le]; done) | omega) only [lX11_delivers_28, k_p_sq, k_p_blk, k_sq0, k_sq11, k_sq12, k_sq13, k_sq14, k_sq15, k_sqr, k_sqi, k_blk0, k_blk1, k_blk2, k_blk3, k_blk4, k_blk5, k_blkr, k_blki, k_finr, k_fini, k_mapi, k_bindi, k_if1, k_if2, k_ops, k_br, k_rv, k_ri, k_rl, k_rz, k_rzi, k_01d, k_sw, k_01a, k_01b, k_01c, k_ifn, x_cmp, decide_eq_true_eq, Option.map_some, Option.bind_some, Option.toList_some, Option.toList_none, List.cons_append, List.nil_append, Nat.reduceAdd, true_or, or_true, Int.reduceNeg, Int.reduceEq, reduceIte, Nat.zero_le, Nat.reduceLeDiff, Nat.le_refl, Nat.reduceEqDiff, List.getElem?_cons_zero, List.getElem?_cons_succ, xst, List.set_cons_zero, List.set_cons_succ, List.map_cons, List.map_nil, List.sum_cons, List.sum_nil, xcat, Nat.reduceMul, Nat.reduceDiv, Nat.reduceMod, Nat.add_zero, e_nil, e_iconst, e_il, e_al, e_ll, e_istore, e_astore, e_lstore, e_ic, e_iadd, e_isub, e_imul, e_iand, e_ior, e_ixor, e_ishl, e_ishr, e_ineg, e_dupi, e_dupr, e_dupx, e_dup2, e_popi, eo_g0, eo_g1, eo_g2, eo_g3, eo_g4, eo_g5, eo_g6, eo_g7, eo_g8, eo_g9, eo_g10, eo_g11, eo_g12, eo_g13, eo_g14, eo_s14, eo_g15, eo_g16, eo_s16, et_g0, et_g1, et_s1, et_g2, et_s2, et_g3, et_s3, et_g4, et_s4, eu_g0, eu_g1, eu_s1, eu_g2, eu_g3, eu_s3, eu_g4, eh_g0, eh_g1, eh_s1, eh_g2, eh_s2, ed_g0, ed_g1, ed_g2, ed_g3, ed_s3, ew_g0, ew_g1, ew_g2, ew_g3, ew_s3, en_g0, en_g1, en_s1, en_g2, en_g3, en_g4, en_g5, en_s5, ex_g0, ex_s0, eq_g0, eq_s0, eq_g1, eq_s1, eq_g2, eq_s2, eq_g3, eq_s3, eq_g4, eq_s4, eq_g5, eq_s5, eq_g6, eq_s6, eq_g7, eq_s7, ez_g0, ez_g1, ez_g2, ez_g3, ez_s3, ez_g4, ez_s4, ez_g5, ez_s5, ez_g6, ez_s6, ez_g7, ez_s7, ez_g8, ez_s8, ez_g9, ez_s9, ez_g10, ez_s10, ez_g11, ez_s11, ez_g12, ez_s12, ez_g13, ez_s13, ez_g14, ez_g15, ez_b0g, ez_b0s, ez_b1g, ez_b1s, ez_b2g, ez_b2s, ez_b3g, ez_b3s, ez_b4g, ez_b4s, ez_b5g, ez_b5s, ez_ba, ez_g0g, ez_g0s, ez_g1g, ez_g1s, ez_g2g, ez_g2s, ez_g3g, ez_g3s, ez_g4g, ez_g4s, ez_g5g, ez_g5s, ez_g6g, ez_g6s, ez_g7g, ez_g7s, ez_ga, ez_l0g, ez_l0s, ez_l1g, ez_l1s, ez_l2g, ez_l2s, ez_la, q_zs, q_zz, q_z1, q_z2, q_i2, q_ig, q_iz, q_jz, true_and, false_and, or_self, or_true, true_or, or_false, false_or, and_true, and_false, and_self, not_true_eq_false, not_false_eq_true, hm, Int.le_refl]
  · have e1 : xit (fun l x => if c.2.2 1 (94 + l) = 2 ∧ c.2.2 1 (104 + l) = c.2.2 1 (84 + l) then xor_ x (xshl 1 (l : Nat)) else x) (i + 1) 0 = if c.2.2 1 (94 + i) = 2 ∧ c.2.2 1 (104 + i) = c.2.2 1 (84 + i) then xor_ (xit (fun l x => if c.2.2 1 (94 + l) = 2 ∧ c.2.2 1 (104 + l) = c.2.2 1 (84 + l) then xor_ x (xshl 1 (l : Nat)) else x) i 0) (xshl 1 (i : Nat)) else xit (fun l x => if c.2.2 1 (94 + l) = 2 ∧ c.2.2 1 (104 + l) = c.2.2 1 (84 + l) then xor_ x (xshl 1 (l : Nat)) else x) i 0 := rfl
    rw [e1]
    generalize xit (fun l x => if c.2.2 1 (94 + l) = 2 ∧ c.2.2 1 (104 + l) = c.2.2 1 (84 + l) then xor_ x (xshl 1 (l : Nat)) else x) i 0 = y
    have hi2 : ¬ (M : Int) ≤ (i : Int) := by omega
    have hi10 : i < 10 := by omega
    have x1 : xw ((i : Int) + 1) = ((i + 1 : Nat) : Int) := by rw [xw_id (by omega) (by omega)]; omega
    have f1 := c_isHome (n := n) (h := h) (c := c) (k := 1) (by decide) hi10
    have f1 : (gg (n + 1) 25).2 [.inr (.inr (.inl (4, 19 + i)))] (hC h c) = some (some (.inl (if c.2.2 1 (94 + i) = 2 ∧ c.2.2 1 (104 + i) = c.2.2 1 (84 + i) then 1 else 0)), hC h c) := f1
    have i1 : x_isc (hC h c) 4 (19 + i) 5 = true := isc_zl (k := 1) (by decide) hi10
    clear e1
    by_cases d2 : c.2.2 1 (94 + i) = 2 ∧ c.2.2 1 (104 + i) = c.2.2 1 (84 + i)
    · rw [if_pos d2] at f1
      rw [if_pos d2]
      clear d2
      simp -implicitDefEqProofs (disch := first | with_reducible assumption | with_reducible exact isc_zs (by assumption) | with_reducible exact isc_zs (by decide) | with_reducible exact isc_zb (by assumption) (by assumption) | with_reducible exact isc_zb (by decide) (by assumption) | with_reducible exact isc_zg (by assumption) (by assumption) | with_reducible exact isc_zl (by assumption) (by assumption) | with_reducible exact isc_0 | with_reducible exact isc_1 | with_reducible exact isc_3 | with_reducible exact isc_7 | with_reducible exact isc_11 | with_reducible exact isc_15 | with_reducible exact isc_19 | with_reducible exact isc_24 | with_reducible exact isc_25 | (simp only [List.map_cons, List.map_nil, List.sum_cons, List.sum_nil, xcat, Nat.reduceAdd, Nat.reduceLeDiff, Nat.zero_le]; done) | omega) only [lX11_delivers_28, k_p_sq, k_p_blk, k_sq0, k_sq11, k_sq12, k_sq13, k_sq14, k_sq15, k_sqr, k_sqi, k_blk0, k_blk1, k_blk2, k_blk3, k_blk4, k_blk5, k_blkr, k_blki, k_finr, k_fini, k_mapi, k_bindi, k_if1, k_if2, k_ops, k_br, k_rv, k_ri, k_rl, k_rz, k_rzi, k_01d, k_sw, k_01a, k_01b, k_01c, k_ifn, x_cmp, decide_eq_true_eq, Option.map_some, Option.bind_some, Option.toList_some, Option.toList_none, List.cons_append, List.nil_append, Nat.reduceAdd, true_or, or_true, Int.reduceNeg, Int.reduceEq, reduceIte, Nat.zero_le, Nat.reduceLeDiff, Nat.le_refl, Nat.reduceEqDiff, List.getElem?_cons_zero, List.getElem?_cons_succ, xst, List.set_cons_zero, List.set_cons_succ, List.map_cons, List.map_nil, List.sum_cons, List.sum_nil, xcat, Nat.reduceMul, Nat.reduceDiv, Nat.reduceMod, Nat.add_zero, e_nil, e_iconst, e_il, e_al, e_ll, e_istore, e_astore, e_lstore, e_ic, e_iadd, e_isub, e_imul, e_iand, e_ior, e_ixor, e_ishl, e_ishr, e_ineg, e_dupi, e_dupr, e_dupx, e_dup2, e_popi, eo_g0, eo_g1, eo_g2, eo_g3, eo_g4, eo_g5, eo_g6, eo_g7, eo_g8, eo_g9, eo_g10, eo_g11, eo_g12, eo_g13, eo_g14, eo_s14, eo_g15, eo_g16, eo_s16, et_g0, et_g1, et_s1, et_g2, et_s2, et_g3, et_s3, et_g4, et_s4, eu_g0, eu_g1, eu_s1, eu_g2, eu_g3, eu_s3, eu_g4, eh_g0, eh_g1, eh_s1, eh_g2, eh_s2, ed_g0, ed_g1, ed_g2, ed_g3, ed_s3, ew_g0, ew_g1, ew_g2, ew_g3, ew_s3, en_g0, en_g1, en_s1, en_g2, en_g3, en_g4, en_g5, en_s5, ex_g0, ex_s0, eq_g0, eq_s0, eq_g1, eq_s1, eq_g2, eq_s2, eq_g3, eq_s3, eq_g4, eq_s4, eq_g5, eq_s5, eq_g6, eq_s6, eq_g7, eq_s7, ez_g0, ez_g1, ez_g2, ez_g3, ez_s3, ez_g4, ez_s4, ez_g5, ez_s5, ez_g6, ez_s6, ez_g7, ez_s7, ez_g8, ez_s8, ez_g9, ez_s9, ez_g10, ez_s10, ez_g11, ez_s11, ez_g12, ez_s12, ez_g13, ez_s13, ez_g14, ez_g15, ez_b0g, ez_b0s, ez_b1g, ez_b1s, ez_b2g, ez_b2s, ez_b3g, ez_b3s, ez_b4g, ez_b4s, ez_b5g, ez_b5s, ez_ba, ez_g0g, ez_g0s, ez_g1g, ez_g1s, ez_g2g, ez_g2s, ez_g3g, ez_g3s, ez_g4g, ez_g4s, ez_g5g, ez_g5s, ez_g6g, ez_g6s, ez_g7g, ez_g7s, ez_ga, ez_l0g, ez_l0s, ez_l1g, ez_l1s, ez_l2g, ez_l2s, ez_la, q_zs, q_zz, q_z1, q_z2, q_i2, q_ig, q_iz, q_jz, true_and, false_and, or_self, or_true, true_or, or_false, false_or, and_true, and_false, and_self, not_true_eq_false, not_false_eq_true, hm, hi2, Int.reduceNeg, Int.reduceToNat, Int.toNat_natCast, Int.toNat_add_nat, ec25, f1, x1, Int.reduceEq]
    · rw [if_neg d2] at f1
      rw [if_neg d2]
      clear d2
      simp -implicitDefEqProofs (disch := first | with_reducible assumption | with_reducible exact isc_zs (by assumption) | with_reducible exact isc_zs (by decide) | with_reducible exact isc_zb (by assumption) (by assumption) | with_reducible exact isc_zb (by decide) (by assumption) | with_reducible exact isc_zg (by assumption) (by assumption) | with_reducible exact isc_zl (by assumption) (by assumption) | with_reducible exact isc_0 | with_reducible exact isc_1 | with_reducible exact isc_3 | with_reducible exact isc_7 | with_reducible exact isc_11 | with_reducible exact isc_15 | with_reducible exact isc_19 | with_reducible exact isc_24 | with_reducible exact isc_25 | (simp only [List.map_cons, List.map_nil, List.sum_cons, List.sum_nil, xcat, Nat.reduceAdd, Nat.reduceLeDiff, Nat.zero_le]; done) | omega) only [lX11_delivers_28, k_p_sq, k_p_blk, k_sq0, k_sq11, k_sq12, k_sq13, k_sq14, k_sq15, k_sqr, k_sqi, k_blk0, k_blk1, k_blk2, k_blk3, k_blk4, k_blk5, k_blkr, k_blki, k_finr, k_fini, k_mapi, k_bindi, k_if1, k_if2, k_ops, k_br, k_rv, k_ri, k_rl, k_rz, k_rzi, k_01d, k_sw, k_01a, k_01b, k_01c, k_ifn, x_cmp, decide_eq_true_eq, Option.map_some, Option.bind_some, Option.toList_some, Option.toList_none, List.cons_append, List.nil_append, Nat.reduceAdd, true_or, or_true, Int.reduceNeg, Int.reduceEq, reduceIte, Nat.zero_le, Nat.reduceLeDiff, Nat.le_refl, Nat.reduceEqDiff, List.getElem?_cons_zero, List.getElem?_cons_succ, xst, List.set_cons_zero, List.set_cons_succ, List.map_cons, List.map_nil, List.sum_cons, List.sum_nil, xcat, Nat.reduceMul, Nat.reduceDiv, Nat.reduceMod, Nat.add_zero, e_nil, e_iconst, e_il, e_al, e_ll, e_istore, e_astore, e_lstore, e_ic, e_iadd, e_isub, e_imul, e_iand, e_ior, e_ixor, e_ishl, e_ishr, e_ineg, e_dupi, e_dupr, e_dupx, e_dup2, e_popi, eo_g0, eo_g1, eo_g2, eo_g3, eo_g4, eo_g5, eo_g6, eo_g7, eo_g8, eo_g9, eo_g10, eo_g11, eo_g12, eo_g13, eo_g14, eo_s14, eo_g15, eo_g16, eo_s16, et_g0, et_g1, et_s1, et_g2, et_s2, et_g3, et_s3, et_g4, et_s4, eu_g0, eu_g1, eu_s1, eu_g2, eu_g3, eu_s3, eu_g4, eh_g0, eh_g1, eh_s1, eh_g2, eh_s2, ed_g0, ed_g1, ed_g2, ed_g3, ed_s3, ew_g0, ew_g1, ew_g2, ew_g3, ew_s3, en_g0, en_g1, en_s1, en_g2, en_g3, en_g4, en_g5, en_s5, ex_g0, ex_s0, eq_g0, eq_s0, eq_g1, eq_s1, eq_g2, eq_s2, eq_g3, eq_s3, eq_g4, eq_s4, eq_g5, eq_s5, eq_g6, eq_s6, eq_g7, eq_s7, ez_g0, ez_g1, ez_g2, ez_g3, ez_s3, ez_g4, ez_s4, ez_g5, ez_s5, ez_g6, ez_s6, ez_g7, ez_s7, ez_g8, ez_s8, ez_g9, ez_s9, ez_g10, ez_s10, ez_g11, ez_s11, ez_g12, ez_s12, ez_g13, ez_s13, ez_g14, ez_g15, ez_b0g, ez_b0s, ez_b1g, ez_b1s, ez_b2g, ez_b2s, ez_b3g, ez_b3s, ez_b4g, ez_b4s, ez_b5g, ez_b5s, ez_ba, ez_g0g, ez_g0s, ez_g1g, ez_g1s, ez_g2g, ez_g2s, ez_g3g, ez_g3s, ez_g4g, ez_g4s, ez_g5g, ez_g5s, ez_g6g, ez_g6s, ez_g7g, ez_g7s, ez_ga, ez_l0g, ez_l0s, ez_l1g, ez_l1s, ez_l2g, ez_l2s, ez_la, q_zs, q_zz, q_z1, q_z2, q_i2, q_ig, q_iz, q_jz, true_and, false_and, or_self, or_true, true_or, or_false, false_or, and_true, and_false, and_self, not_true_eq_false, not_false_eq_true, hm, hi2, Int.reduceNeg, Int.reduceToNat, Int.toNat_natCast, Int.toNat_add_nat, ec25, f1, x1]
theorem P_delivers (m : Int) : Par 243 131 [.inl m] := by
  intro n h h' r c hr
  have hrA : rA r := by
    obtain ⟨M, m1, m2, m3, m4⟩ := sSea_M hr.2.1.1
    have := (sSea_fine m2 hr.2.1.1).2.2.1
    exact ⟨fun g hg => by have := this g hg; omega, by omega, by omega⟩
  obtain ⟨r', fR, eR⟩ := R_delivers (n := n + 76) (h := h) (Rel_ok hr) hrA m
  unfold sDelivers at fR eR
  by_cases c1 : 0 ≤ m ∧ m ≤ 60
  · rw [if_pos c1] at fR eR
    dsimp only at fR eR
    obtain ⟨k, rfl⟩ : ∃ k : Nat, m = (k : Int) := ⟨m.toNat, by omega⟩
    rw [Int.toNat_natCast] at fR eR
    obtain ⟨z, f1, hs, hz, ht⟩ := c_look (n := n + 896) (h := h') hr
    obtain ⟨z', J, f2, hs'⟩ := c_aheadPass (n := n + 893) (h := h') hr hs hz ht (m := k) (by omega)
    obtain ⟨M, m1, m2, m3, m4⟩ := sSea_M hs'
    have hk := sSea_keq m2 hs'
    generalize (kHN (rK r) k (r.2 1, 0, 0, 0, fun _ => 0)).1 = a at *
    have n1 := rOn_n m1 m2
    have f3 := c_delL (n := n + 898) (h := h') (c := q_z (q_j c 6 J) 1 z') m1 (by rw [q_zs]; exact m3) (k : Int)
    rw [q_zs] at f3
    have e1 : xit (fun l x => if z' (94 + l) = 2 ∧ z' (104 + l) = z' (84 + l) then xor_ x (xshl 1 (l : Nat)) else x) M 0 = rOn a 1 := by
      rw [nSet_c (p := fun l => z' (94 + l) = 2 ∧ z' (104 + l) = z' (84 + l)) m1, n1.1]
      congr 1
      refine nSet_eq fun i hi => ?_
      have q1 : z' (84 + i) = a (84 + i) := kEq_l m1 hk (c := 0) hi (by decide)
      have q2 : z' (94 + i) = a (94 + i) := kEq_l m1 hk (c := 1) hi (by decide)
      have q3 : z' (104 + i) = a (104 + i) := kEq_l m1 hk (c := 2) hi (by decide)
      rw [q1, q2, q3]
      simp
    rw [e1] at f3
    have hat : ∀ p, (gg (n + 899) 46).2 [.inr (.inr (.inl (4, 0))), .inl p] (hC h' (q_z (q_j c 6 J) 1 z')) = some (some (.inl (rAt a p (-1))), hC h' (q_z (q_j c 6 J) 1 z')) := by
      intro p
      have := c_lettersAt (n := n + 898) (h := h') (c := q_z (q_j c 6 J) 1 z') (k := 1) (by decide) m1 (by rw [q_zs]; exact m3) p
      rw [q_zs, at_eq m1 m2 hk] at this
      exact this
    have e2 : xand (rAt a 2 (-1)) (xxor (rOn a 1) (-1)) = rOn a 0 := by
      rw [rAt_n m1 m2, n1.1, n1.2, nSet_diff m1]
      congr 1
      refine nSet_eq fun i hi => ?_
      by_cases d : a (94 + i) = 2
      · simp [d]
      · simp [d]
    refine ⟨rOn a 1, r', qTell (q_z (q_j c 6 J) 1 z') [rOn a 0, rAt a 3 (-1)], fR, ?_, Rel_r (REq_symm (REq_C eR)) (Rel_tell (Rel_q (QEq_trans (QEq_j (by decide) J) (QEq_z1 _)) (Rel_11 hr 0)) _ (by show 2 ≤ 8; decide))⟩
    have f1 : (gg (n + 899) 135).2 [.inr (.inr (.inl (0, 0)))] (hC h' c) = some (none, hC h' (q_z c 1 z)) := f1
    have f2 : (gg (n + 899) 58).2 [.inr (.inr (.inl (4, 0))), .inl (k : Int)] (hC h' (q_z c 1 z)) = some (none, hC h' (q_z (q_j c 6 J) 1 z')) := f2
    have d1 : ¬ (k : Int) < 0 := by omega
    have d2 : (k : Int) ≤ 60 := by omega
    rw [gr131]
    clear fR eR hr hs hz ht hs' hk m2 m3 m4 n1 e1 c1 hrA
    generalize q_z (q_j c 6 J) 1 z' = c5 at *
    generalize q_z c 1 z = c4 at *
    simp -implicitDefEqProofs (disch := first | with_reducible assumption | with_reducible exact isc_zs (by assumption) | with_reducible exact isc_zs (by decide) | with_reducible exact isc_zb (by assumption) (by assumption) | with_reducible exact isc_zb (by decide) (by assumption) | with_reducible exact isc_zg (by assumption) (by assumption) | with_reducible exact isc_zl (by assumption) (by assumption) | with_reducible exact isc_0 | with_reducible exact isc_1 | with_reducible exact isc_3 | with_reducible exact isc_7 | with_reducible exact isc_11 | with_reducible exact isc_15 | with_reducible exact isc_19 | with_reducible exact isc_24 | with_reducible exact isc_25 | (simp only [List.map_cons, List.map_nil, List.sum_cons, List.sum_nil, xcat, Nat.reduceAdd, Nat.reduceLeDiff, Nat.zero_le]; done) | omega) only [fX11_delivers, k_p_sq, k_p_blk, k_sq0, k_sq11, k_sq12, k_sq13, k_sq14, k_sq15, k_sqr, k_sqi, k_blk0, k_blk1, k_blk2, k_blk3, k_blk4, k_blk5, k_blkr, k_blki, k_finr, k_fini, k_mapi, k_bindi, k_if1, k_if2, k_ops, k_br, k_rv, k_ri, k_rl, k_rz, k_rzi, k_01d, k_sw, k_01a, k_01b, k_01c, k_ifn, x_cmp, decide_eq_true_eq, Option.map_some, Option.bind_some, Option.toList_some, Option.toList_none, List.cons_append, List.nil_append, Nat.reduceAdd, true_or, or_true, Int.reduceNeg, Int.reduceEq, reduceIte, Nat.zero_le, Nat.reduceLeDiff, Nat.le_refl, Nat.reduceEqDiff, List.getElem?_cons_zero, List.getElem?_cons_succ, xst, List.set_cons_zero, List.set_cons_succ, List.map_cons, List.map_nil, List.sum_cons, List.sum_nil, xcat, Nat.reduceMul, Nat.reduceDiv, Nat.reduceMod, Nat.add_zero, e_nil, e_iconst, e_il, e_al, e_ll, e_istore, e_astore, e_lstore, e_ic, e_iadd, e_isub, e_imul, e_iand, e_ior, e_ixor, e_ishl, e_ishr, e_ineg, e_dupi, e_dupr, e_dupx, e_dup2, e_popi, eo_g0, eo_g1, eo_g2, eo_g3, eo_g4, eo_g5, eo_g6, eo_g7, eo_g8, eo_g9, eo_g10, eo_g11, eo_g12, eo_g13, eo_g14, eo_s14, eo_g15, eo_g16, eo_s16, et_g0, et_g1, et_s1, et_g2, et_s2, et_g3, et_s3, et_g4, et_s4, eu_g0, eu_g1, eu_s1, eu_g2, eu_g3, eu_s3, eu_g4, eh_g0, eh_g1, eh_s1, eh_g2, eh_s2, ed_g0, ed_g1, ed_g2, ed_g3, ed_s3, ew_g0, ew_g1, ew_g2, ew_g3, ew_s3, en_g0, en_g1, en_s1, en_g2, en_g3, en_g4, en_g5, en_s5, ex_g0, ex_s0, eq_g0, eq_s0, eq_g1, eq_s1, eq_g2, eq_s2, eq_g3, eq_s3, eq_g4, eq_s4, eq_g5, eq_s5, eq_g6, eq_s6, eq_g7, eq_s7, ez_g0, ez_g1, ez_g2, ez_g3, ez_s3, ez_g4, ez_s4, ez_g5, ez_s5, ez_g6, ez_s6, ez_g7, ez_s7, ez_g8, ez_s8, ez_g9, ez_s9, ez_g10, ez_s10, ez_g11, ez_s11, ez_g12, ez_s12, ez_g13, ez_s13, ez_g14, ez_g15, ez_b0g, ez_b0s, ez_b1g, ez_b1s, ez_b2g, ez_b2s, ez_b3g, ez_b3s, ez_b4g, ez_b4s, ez_b5g, ez_b5s, ez_ba, ez_g0g, ez_g0s, ez_g1g, ez_g1s, ez_g2g, ez_g2s, ez_g3g, ez_g3s, ez_g4g, ez_g4s, ez_g5g, ez_g5s, ez_g6g, ez_g6s, ez_g7g, ez_g7s, ez_ga, ez_l0g, ez_l0s, ez_l1g, ez_l1s, ez_l2g, ez_l2s, ez_la, q_zs, q_zz, q_z1, q_z2, q_i2, q_ig, q_iz, q_jz, true_and, false_and, or_self, or_true, true_or, or_false, false_or, and_true, and_false, and_self, not_true_eq_false, not_false_eq_true, d1, d2, ec135, f1, ec58, f2, f3, ec46, hat, e2, ec164, c_tellTwo, e_ixor]
  · rw [if_neg c1] at fR eR
    refine ⟨-1, r', c, fR, ?_, Rel_r (REq_symm (REq_C eR)) (Rel_11 hr 0)⟩
    rw [gr131]
    clear fR eR hr hrA
    by_cases d1 : m < 0
    · simp -implicitDefEqProofs (disch := first | with_reducible assumption | with_reducible exact isc_zs (by assumption) | with_reducible exact isc_zs (by decide) | with_reducible exact isc_zb (by assumption) (by assumption) | with_reducible exact isc_zb (by decide) (by assumption) | with_reducible exact isc_zg (by assumption) (by assumption) | with_reducible exact isc_zl (by assumption) (by assumption) | with_reducible exact isc_0 | with_reducible exact isc_1 | with_reducible exact isc_3 | with_reducible exact isc_7 | with_reducible exact isc_11 | with_reducible exact isc_15 | with_reducible exact isc_19 | with_reducible exact isc_24 | with_reducible exact isc_25 | (simp only [List.map_cons, List.map_nil, List.sum_cons, List.sum_nil, xcat, Nat.reduceAdd, Nat.reduceLeDiff, Nat.zero_le]; done) | omega) only [fX11_delivers, k_p_sq, k_p_blk, k_sq0, k_sq11, k_sq12, k_sq13, k_sq14, k_sq15, k_sqr, k_sqi, k_blk0, k_blk1, k_blk2, k_blk3, k_blk4, k_blk5, k_blkr, k_blki, k_finr, k_fini, k_mapi, k_bindi, k_if1, k_if2, k_ops, k_br, k_rv, k_ri, k_rl, k_rz, k_rzi, k_01d, k_sw, k_01a, k_01b, k_01c, k_ifn, x_cmp, decide_eq_true_eq, Option.map_some, Option.bind_some, Option.toList_some, Option.toList_none, List.cons_append, List.nil_append, Nat.reduceAdd, true_or, or_true, Int.reduceNeg, Int.reduceEq, reduceIte, Nat.zero_le, Nat.reduceLeDiff, Nat.le_refl, Nat.reduceEqDiff, List.getElem?_cons_zero, List.getElem?_cons_succ, xst, List.set_cons_zero, List.set_cons_succ, List.map_cons, List.map_nil, List.sum_cons, List.sum_nil, xcat, Nat.reduceMul, Nat.reduceDiv, Nat.reduceMod, Nat.add_zero, e_nil, e_iconst, e_il, e_al, e_ll, e_istore, e_astore, e_lstore, e_ic, e_iadd, e_isub, e_imul, e_iand, e_ior, e_ixor, e_ishl, e_ishr, e_ineg, e_dupi, e_dupr, e_dupx, e_dup2, e_popi, eo_g0, eo_g1, eo_g2, eo_g3, eo_g4, eo_g5, eo_g6, eo_g7, eo_g8, eo_g9, eo_g10, eo_g11, eo_g12, eo_g13, eo_g14, eo_s14, eo_g15, eo_g16, eo_s16, et_g0, et_g1, et_s1, et_g2, et_s2, et_g3, et_s3, et_g4, et_s4, eu_g0, eu_g1, eu_s1, eu_g2, eu_g3, eu_s3, eu_g4, eh_g0, eh_g1, eh_s1, eh_g2, eh_s2, ed_g0, ed_g1, ed_g2, ed_g3, ed_s3, ew_g0, ew_g1, ew_g2, ew_g3, ew_s3, en_g0, en_g1, en_s1, en_g2, en_g3, en_g4, en_g5, en_s5, ex_g0, ex_s0, eq_g0, eq_s0, eq_g1, eq_s1, eq_g2, eq_s2, eq_g3, eq_s3, eq_g4, eq_s4, eq_g5, eq_s5, eq_g6, eq_s6, eq_g7, eq_s7, ez_g0, ez_g1, ez_g2, ez_g3, ez_s3, ez_g4, ez_s4, ez_g5, ez_s5, ez_g6, ez_s6, ez_g7, ez_s7, ez_g8, ez_s8, ez_g9, ez_s9, ez_g10, ez_s10, ez_g11, ez_s11, ez_g12, ez_s12, ez_g13, ez_s13, ez_g14, ez_g15, ez_b0g, ez_b0s, ez_b1g, ez_b1s, ez_b2g, ez_b2s, ez_b3g, ez_b3s, ez_b4g, ez_b4s, ez_b5g, ez_b5s, ez_ba, ez_g0g, ez_g0s, ez_g1g, ez_g1s, ez_g2g, ez_g2s, ez_g3g, ez_g3s, ez_g4g, ez_g4s, ez_g5g, ez_g5s, ez_g6g, ez_g6s, ez_g7g, ez_g7s, ez_ga, ez_l0g, ez_l0s, ez_l1g, ez_l1s, ez_l2g, ez_l2s, ez_la, q_zs, q_zz, q_z1, q_z2, q_i2, q_ig, q_iz, q_jz, true_and, false_and, or_self, or_true, true_or, or_false, false_or, and_true, and_false, and_self, not_true_eq_false, not_false_eq_true, d1]
    · have d2 : ¬ m ≤ 60 := by omega
      simp -implicitDefEqProofs (disch := first | with_reducible assumption | with_reducible exact isc_zs (by assumption) | with_reducible exact isc_zs (by decide) | with_reducible exact isc_zb (by assumption) (by assumption) | with_reducible exact isc_zb (by decide) (by assumption) | with_reducible exact isc_zg (by assumption) (by assumption) | with_reducible exact isc_zl (by assumption) (by assumption) | with_reducible exact isc_0 | with_reducible exact isc_1 | with_reducible exact isc_3 | with_reducible exact isc_7 | with_reducible exact isc_11 | with_reducible exact isc_15 | with_reducible exact isc_19 | with_reducible exact isc_24 | with_reducible exact isc_25 | (simp only [List.map_cons, List.map_nil, List.sum_cons, List.sum_nil, xcat, Nat.reduceAdd, Nat.reduceLeDiff, Nat.zero_le]; done) | omega) only [fX11_delivers, k_p_sq, k_p_blk, k_sq0, k_sq11, k_sq12, k_sq13, k_sq14, k_sq15, k_sqr, k_sqi, k_blk0, k_blk1, k_blk2, k_blk3, k_blk4, k_blk5, k_blkr, k_blki, k_finr, k_fini, k_mapi, k_bindi, k_if1, k_if2, k_ops, k_br, k_rv, k_ri, k_rl, k_rz, k_rzi, k_01d, k_sw, k_01a, k_01b, k_01c, k_ifn, x_cmp, decide_eq_true_eq, Option.map_some, Option.bind_some, Option.toList_some, Option.toList_none, List.cons_append, List.nil_append, Nat.reduceAdd, true_or, or_true, Int.reduceNeg, Int.reduceEq, reduceIte, Nat.zero_le, Nat.reduceLeDiff, Nat.le_refl, Nat.reduceEqDiff, List.getElem?_cons_zero, List.getElem?_cons_succ, xst, List.set_cons_zero, List.set_cons_succ, List.map_cons, List.map_nil, List.sum_cons, List.sum_nil, xcat, Nat.reduceMul, Nat.reduceDiv, Nat.reduceMod, Nat.add_zero, e_nil, e_iconst, e_il, e_al, e_ll, e_istore, e_astore, e_lstore, e_ic, e_iadd, e_isub, e_imul, e_iand, e_ior, e_ixor, e_ishl, e_ishr, e_ineg, e_dupi, e_dupr, e_dupx, e_dup2, e_popi, eo_g0, eo_g1, eo_g2, eo_g3, eo_g4, eo_g5, eo_g6, eo_g7, eo_g8, eo_g9, eo_g10, eo_g11, eo_g12, eo_g13, eo_g14, eo_s14, eo_g15, eo_g16, eo_s16, et_g0, et_g1, et_s1, et_g2, et_s2, et_g3, et_s3, et_g4, et_s4, eu_g0, eu_g1, eu_s1, eu_g2, eu_g3, eu_s3, eu_g4, eh_g0, eh_g1, eh_s1, eh_g2, eh_s2, ed_g0, ed_g1, ed_g2, ed_g3, ed_s3, ew_g0, ew_g1, ew_g2, ew_g3, ew_s3, en_g0, en_g1, en_s1, en_g2, en_g3, en_g4, en_g5, en_s5, ex_g0, ex_s0, eq_g0, eq_s0, eq_g1, eq_s1, eq_g2, eq_s2, eq_g3, eq_s3, eq_g4, eq_s4, eq_g5, eq_s5, eq_g6, eq_s6, eq_g7, eq_s7, ez_g0, ez_g1, ez_g2, ez_g3, ez_s3, ez_g4, ez_s4, ez_g5, ez_s5, ez_g6, ez_s6, ez_g7, ez_s7, ez_g8, ez_s8, ez_g9, ez_s9, ez_g10, ez_s10, ez_g11, ez_s11, ez_g12, ez_s12, ez_g13, ez_s13, ez_g14, ez_g15, ez_b0g, ez_b0s, ez_b1g, ez_b1s, ez_b2g, ez_b2s, ez_b3g, ez_b3s, ez_b4g, ez_b4s, ez_b5g, ez_b5s, ez_ba, ez_g0g, ez_g0s, ez_g1g, ez_g1s, ez_g2g, ez_g2s, ez_g3g, ez_g3s, ez_g4g, ez_g4s, ez_g5g, ez_g5s, ez_g6g, ez_g6s, ez_g7g, ez_g7s, ez_ga, ez_l0g, ez_l0s, ez_l1g, ez_l1s, ez_l2g, ez_l2s, ez_la, q_zs, q_zz, q_z1, q_z2, q_i2, q_ig, q_iz, q_jz, true_and, false_and, or_self, or_true, true_or, or_false, false_or, and_true, and_false, and_self, not_true_eq_false, not_false_eq_true, d1, d2]
end PW
