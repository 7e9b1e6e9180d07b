/-! ===== letters, sending, paint, chum: the reference and the class alike ===== -/
theorem kSane_w2 {B N : Nat} {a : Nat → Int} (hs : kSane B N a) (hB : B ≤ 6) (hN : N ≤ 8) {i : Nat} (hi : (24 ≤ i ∧ i < 30) ∨ (36 ≤ i ∧ i < 52) ∨ 68 ≤ i) (v : Int) : kSane B N (xfu a i v) := by
  obtain ⟨h1, h2⟩ := hs
  refine ⟨fun b hb => ?_, fun g hg => ?_⟩
  · rw [xfu_ne _ _ (show b ≠ i by omega), xfu_ne _ _ (show 6 + b ≠ i by omega), xfu_ne _ _ (show 12 + b ≠ i by omega), xfu_ne _ _ (show 18 + b ≠ i by omega), xfu_ne _ _ (show 30 + b ≠ i by omega)]
    exact h1 b hb
  · rw [xfu_ne _ _ (show 52 + g ≠ i by omega), xfu_ne _ _ (show 60 + g ≠ i by omega)]
    exact h2 g hg
theorem kSane_chum {B N : Nat} {a : Nat → Int} (hs : kSane B N a) (hB : B ≤ 6) {b : Nat} (hb6 : b < 6) {v : Int} (hv : v = 0 ∨ v = 1) : kSane B N (xfu a (30 + b) v) := by
  obtain ⟨h1, h2⟩ := hs
  refine ⟨fun b' hb => ?_, fun g hg => ?_⟩
  · rw [xfu_ne _ _ (show b' ≠ 30 + b by omega), xfu_ne _ _ (show 6 + b' ≠ 30 + b by omega), xfu_ne _ _ (show 12 + b' ≠ 30 + b by omega), xfu_ne _ _ (show 18 + b' ≠ 30 + b by omega)]
    have h3 := h1 b' hb
    refine ⟨h3.1, h3.2.1, ?_⟩
    unfold xfu
    split
    · exact hv
    · exact h3.2.2
  · rw [xfu_ne _ _ (show 52 + g ≠ 30 + b by omega), xfu_ne _ _ (show 60 + g ≠ 30 + b by omega)]
    exact h2 g hg
theorem sSea_w {r : xR} {B N : Nat} {z a : Nat → Int} (hB : B ≤ 6) (hN : N ≤ 8) (h : sSea r B N z a) {i : Nat} (hi : (24 ≤ i ∧ i < 30) ∨ (36 ≤ i ∧ i < 52) ∨ (68 ≤ i ∧ i < 76) ∨ (84 ≤ i ∧ i < 114)) (v : Int) (hv : 0 ≤ v ∨ ¬ ((24 ≤ i ∧ i < 30) ∨ (44 ≤ i ∧ i < 52))) : sSea r B N (xfu z i v) (xfu a i v) := by
  obtain ⟨h1, h2, h3, ⟨M, h4, h5, h6, h7⟩, h8, h9⟩ := h
  refine ⟨by rw [xfu_ne _ _ (by omega)]; exact h1, by rw [xfu_ne _ _ (by omega)]; exact h2, fun g hg => ?_, ⟨M, h4, by rw [xfu_ne _ _ (by omega)]; exact h5, kEq_xfu h6 i rfl, fun g hg => ?_⟩, kSane_w2 h8 hB hN (by omega) v, kNn_w h9 (by omega)⟩
  · rw [xfu_ne _ _ (by omega), xfu_ne _ _ (by omega)]
    exact h3 g hg
  · rw [xfu_ne _ _ (by omega)]
    exact h7 g hg
theorem sSea_chum {r : xR} {B N : Nat} {z a : Nat → Int} (hB : B ≤ 6) (hN : N ≤ 8) (h : sSea r B N z a) {b : Nat} (hb : b < 6) {v : Int} (hv : v = 0 ∨ v = 1) : sSea r B N (xfu z (30 + b) v) (xfu a (30 + b) v) := by
  obtain ⟨h1, h2, h3, ⟨M, h4, h5, h6, h7⟩, h8, h9⟩ := h
  refine ⟨by rw [xfu_ne _ _ (by omega)]; exact h1, by rw [xfu_ne _ _ (by omega)]; exact h2, fun g hg => ?_, ⟨M, h4, by rw [xfu_ne _ _ (by omega)]; exact h5, kEq_xfu h6 _ rfl, fun g hg => ?_⟩, kSane_chum h8 hB hb hv, kNn_w h9 (by omega)⟩
  · rw [xfu_ne _ _ (by omega), xfu_ne _ _ (by omega)]
    exact h3 g hg
  · rw [xfu_ne _ _ (by omega)]
    exact h7 g hg
theorem sSea_bear {r : xR} {B N M : Nat} {z a : Nat → Int} (hB : B ≤ 6) (hN : N ≤ 8) (h : sSea r B N z a) (hM : a 114 = (M : Int)) {g : Nat} (hg : g < 8) {l : Int} (hl : l = -1 ∨ (0 ≤ l ∧ l < M)) : sSea r B N (xfu z (76 + g) l) (xfu a (76 + g) l) := by
  obtain ⟨h1, h2, h3, ⟨M', h4, h5, h6, h7⟩, h8, h9⟩ := h
  refine ⟨by rw [xfu_ne _ _ (by omega)]; exact h1, by rw [xfu_ne _ _ (by omega)]; exact h2, fun g hg => ?_, ⟨M', h4, by rw [xfu_ne _ _ (by omega)]; exact h5, kEq_xfu h6 _ rfl, fun g' hg' => ?_⟩, kSane_w2 h8 hB hN (by omega) l, kNn_w h9 (by omega)⟩
  · rw [xfu_ne _ _ (by omega), xfu_ne _ _ (by omega)]
    exact h3 g hg
  · unfold xfu
    split
    · omega
    · exact h7 g' hg'
theorem sSea_send {r : xR} {B N M : Nat} {z a : Nat → Int} (hB : B ≤ 6) (hN : N ≤ 8) (h : sSea r B N z a) (hM : a 114 = (M : Int)) (hM10 : M ≤ 10) {g : Nat} (hg : g < 8) {l : Int} (hl : l = -1 ∨ (0 ≤ l ∧ l < M)) : sSea r B N (rSend z g l) (rSend a g l) := by
  have s1 := sSea_bear (M := M) hB hN (sSea_w hB hN h (i := 68 + g) (by omega) 1 (by omega)) (by rw [xfu_ne _ _ (by omega)]; exact hM) hg hl
  unfold rSend
  by_cases c : l = -1
  · rw [if_pos c, if_pos c]
    exact s1
  · rw [if_neg c, if_neg c]
    exact sSea_w hB hN (sSea_w hB hN s1 (i := 94 + l.toNat) (by omega) 1 (by omega)) (i := 104 + l.toNat) (by omega) g (by omega)
theorem sSea_write {r : xR} {B N M : Nat} {z a : Nat → Int} (hB : B ≤ 6) (hN : N ≤ 8) (h : sSea r B N z a) (hM : a 114 = (M : Int)) (hM10 : M < 10) (b : Int) : sSea r B N (rWr z M b) (rWr a M b) := by
  obtain ⟨h1, h2, h3, ⟨M', h4, h5, h6, h7⟩, h8, h9⟩ := h
  have e : M' = M := by omega
  subst e
  unfold rWr
  refine ⟨by simp (disch := omega) only [xfu_ne]; exact h1, by simp (disch := omega) only [xfu_ne]; exact h2, fun g hg => ?_, ⟨M' + 1, by omega, by rw [xfu_self]; omega, fun i hi => ?_, fun g hg => ?_⟩, kSane_w2 (kSane_w2 (kSane_w2 (kSane_w2 h8 hB hN (by omega) _) hB hN (by omega) _) hB hN (by omega) _) hB hN (by omega) _, kNn_w (kNn_w (kNn_w (kNn_w h9 (by omega)) (by omega)) (by omega)) (by omega)⟩
  · simp (disch := omega) only [xfu_ne]
    exact h3 g hg
  · by_cases c1 : kLv B N M' i
    · exact kEq_xfu (kEq_xfu (kEq_xfu (kEq_xfu h6 _ rfl) _ rfl) _ rfl) _ rfl i c1
    · have c2 : i = 84 + M' ∨ i = 94 + M' ∨ i = 104 + M' := by
        unfold kLv at hi c1
        omega
      rcases c2 with rfl | rfl | rfl
      all_goals simp (disch := omega) only [xfu_ne, xfu_self]
  · simp (disch := omega) only [xfu_ne]
    have := h7 g hg
    omega
theorem Rel_ok {r : xR} {c : xQ} (h : Rel r c) : rOk r := by
  obtain ⟨⟨h1, h2, h3, h4, h5, h6, _⟩, _, _, _, _, ⟨h7, _⟩, _⟩ := h
  exact ⟨h1, h2, fun g hg => h6 g (by omega), h7⟩
theorem Rel_U {r : xR} {c : xQ} (h : Rel r c) : ∃ U : Nat, U ≤ 12 ∧ r.1 28 = (U : Int) ∧ 0 ≤ c.1 9 ∧ 0 ≤ c.1 8 := by
  obtain ⟨_, _, ⟨U, f, u1, u2, u3, u4, u5, u6⟩, _⟩ := h
  exact ⟨U, u1, u3, by omega, by omega⟩
theorem qHold_z (c : xQ) (k : Nat) (z : Nat → Int) : qHold (q_z c k z) = q_z (qHold c) k z := by
  unfold qHold
  show (if c.1 9 < 12 then _ else _) = q_z (if c.1 9 < 12 then _ else _) k z
  split <;> rfl
theorem qMark_1 (r : xR) (c : xQ) : (qMark r c).1 = c.1 := rfl
theorem qMark_0 (r : xR) (c : xQ) : (qMark r c).2.2 0 = c.2.2 0 := by
  unfold qMark
  rw [q_zn]
  unfold qSlot
  omega
/-- what an act that is done leaves -/
theorem Rel_done {r : xR} {c : xQ} (hr : Rel r c) {U : Nat} (hU : r.1 28 = (U : Int)) {z a : Nat → Int} (hs : sSea r (kB (rK r)) (kN (rK r)) z a) (h5 : z 134 = r.1 5) (h6 : z 135 = r.1 6) : Rel (xr_j (rRem (xr_i r 11 0) 1 U) 1 a) (qHold (q_z (qMark r c) 0 z)) := by
  rw [qHold_z]
  obtain ⟨m1, m2⟩ := Rel_mark (Rel_11 hr 0)
  have h0 := Rel_hold (r := xr_i r 11 0) (c := qMark r c) m1 m2 (U := U) hU
  refine Rel_sea h0 ?_ ?_ ?_
  · have hK : rK (rRem (xr_i r 11 0) 1 U) = rK r := by
      unfold rK
      rw [rRem_1 _ _ _ _ (by decide), rRem_1 _ _ _ _ (by decide), rRem_1 _ _ _ _ (by decide), rRem_1 _ _ _ _ (by decide), rRem_1 _ _ _ _ (by decide), rRem_2 _ _ _ _ (by decide), rRem_2 _ _ _ _ (by decide), rRem_2 _ _ _ _ (by decide)]
      rfl
    rw [hK]
    exact sSea_r (fun g _ => by rw [rRem_2 _ _ _ _ (by decide)]; rfl) (fun g _ => by rw [rRem_2 _ _ _ _ (by decide)]; rfl) hs
  · rw [rRem_1 _ _ _ _ (by decide)]
    exact h5
  · rw [rRem_1 _ _ _ _ (by decide)]
    exact h6
section PA
variable {n : Nat} {h : xH} {c : xQ} {r : xR} {H : xH}
theorem c_held (h9 : 0 ≤ c.1 9) (h8 : 0 ≤ c.1 8) (v : Int) : (gg (n + 2) 125).2 [.inr (.inr (.inl (0, 0))), .inl v] (hC h c) = some (some (.inl v), hC h (if v < 0 then c else qHold c)) := by
  rw [gr125]
  have f1 := c_holdM (n := n) (h := h) h9 h8
  by_cases c1 : v < 0
  · rw [if_pos c1]
    simp -implicitDefEqProofs (disch := first | with_reducible assumption | with_reducible exact isc_zs (by assumption) | with_reducible exact isc_zs (by decide) | with_reducible exact isc_zb (by assumption) (by assumption) | with_reducible exact isc_zb (by decide) (by assumption) | with_reducible exact isc_zg (by assumption) (by assumption) | with_reducible exact isc_zl (by assumption) (by assumption) | with_reducible exact isc_0 | with_reducible exact isc_1 | with_reducible exact isc_3 | with_reducible exact isc_7 | with_reducible exact isc_11 | with_reducible exact isc_15 | with_reducible exact isc_19 | with_reducible exact isc_24 | with_reducible exact isc_25 | (simp only [List.map_cons, List.map_nil, List.sum_cons, List.sum_nil, xcat, Nat.reduceAdd, Nat.reduceLeDiff, Nat.zero_le]; done) | omega) only [fX11_held, k_p_sq, k_p_blk, k_sq0, k_sq11, k_sq12, k_sq13, k_sq14, k_sq15, k_sqr, k_sqi, k_blk0, k_blk1, k_blk2, k_blk3, k_blk4, k_blk5, k_blkr, k_blki, k_finr, k_fini, k_mapi, k_bindi, k_if1, k_if2, k_ops, k_br, k_rv, k_ri, k_rl, k_rz, k_rzi, k_01d, k_sw, k_01a, k_01b, k_01c, k_ifn, x_cmp, decide_eq_true_eq, Option.map_some, Option.bind_some, Option.toList_some, Option.toList_none, List.cons_append, List.nil_append, Nat.reduceAdd, true_or, or_true, Int.reduceNeg, Int.reduceEq, reduceIte, Nat.zero_le, Nat.reduceLeDiff, Nat.le_refl, Nat.reduceEqDiff, List.getElem?_cons_zero, List.getElem?_cons_succ, xst, List.set_cons_zero, List.set_cons_succ, List.map_cons, List.map_nil, List.sum_cons, List.sum_nil, xcat, Nat.reduceMul, Nat.reduceDiv, Nat.reduceMod, Nat.add_zero, e_nil, e_iconst, e_il, e_al, e_ll, e_istore, e_astore, e_lstore, e_ic, e_iadd, e_isub, e_imul, e_iand, e_ior, e_ixor, e_ishl, e_ishr, e_ineg, e_dupi, e_dupr, e_dupx, e_dup2, e_popi, eo_g0, eo_g1, eo_g2, eo_g3, eo_g4, eo_g5, eo_g6, eo_g7, eo_g8, eo_g9, eo_g10, eo_g11, eo_g12, eo_g13, eo_g14, eo_s14, eo_g15, eo_g16, eo_s16, et_g0, et_g1, et_s1, et_g2, et_s2, et_g3, et_s3, et_g4, et_s4, eu_g0, eu_g1, eu_s1, eu_g2, eu_g3, eu_s3, eu_g4, eh_g0, eh_g1, eh_s1, eh_g2, eh_s2, ed_g0, ed_g1, ed_g2, ed_g3, ed_s3, ew_g0, ew_g1, ew_g2, ew_g3, ew_s3, en_g0, en_g1, en_s1, en_g2, en_g3, en_g4, en_g5, en_s5, ex_g0, ex_s0, eq_g0, eq_s0, eq_g1, eq_s1, eq_g2, eq_s2, eq_g3, eq_s3, eq_g4, eq_s4, eq_g5, eq_s5, eq_g6, eq_s6, eq_g7, eq_s7, ez_g0, ez_g1, ez_g2, ez_g3, ez_s3, ez_g4, ez_s4, ez_g5, ez_s5, ez_g6, ez_s6, ez_g7, ez_s7, ez_g8, ez_s8, ez_g9, ez_s9, ez_g10, ez_s10, ez_g11, ez_s11, ez_g12, ez_s12, ez_g13, ez_s13, ez_g14, ez_g15, ez_b0g, ez_b0s, ez_b1g, ez_b1s, ez_b2g, ez_b2s, ez_b3g, ez_b3s, ez_b4g, ez_b4s, ez_b5g, ez_b5s, ez_ba, ez_g0g, ez_g0s, ez_g1g, ez_g1s, ez_g2g, ez_g2s, ez_g3g, ez_g3s, ez_g4g, ez_g4s, ez_g5g, ez_g5s, ez_g6g, ez_g6s, ez_g7g, ez_g7s, ez_ga, ez_l0g, ez_l0s, ez_l1g, ez_l1s, ez_l2g, ez_l2s, ez_la, q_zs, q_zz, q_z1, q_z2, q_i2, q_ig, q_iz, q_jz, true_and, false_and, or_self, or_true, true_or, or_false, false_or, and_true, and_false, and_self, not_true_eq_false, not_false_eq_true, c1]
  · rw [if_neg c1]
    simp -implicitDefEqProofs (disch := first | with_reducible assumption | with_reducible exact isc_zs (by assumption) | with_reducible exact isc_zs (by decide) | with_reducible exact isc_zb (by assumption) (by assumption) | with_reducible exact isc_zb (by decide) (by assumption) | with_reducible exact isc_zg (by assumption) (by assumption) | with_reducible exact isc_zl (by assumption) (by assumption) | with_reducible exact isc_0 | with_reducible exact isc_1 | with_reducible exact isc_3 | with_reducible exact isc_7 | with_reducible exact isc_11 | with_reducible exact isc_15 | with_reducible exact isc_19 | with_reducible exact isc_24 | with_reducible exact isc_25 | (simp only [List.map_cons, List.map_nil, List.sum_cons, List.sum_nil, xcat, Nat.reduceAdd, Nat.reduceLeDiff, Nat.zero_le]; done) | omega) only [fX11_held, k_p_sq, k_p_blk, k_sq0, k_sq11, k_sq12, k_sq13, k_sq14, k_sq15, k_sqr, k_sqi, k_blk0, k_blk1, k_blk2, k_blk3, k_blk4, k_blk5, k_blkr, k_blki, k_finr, k_fini, k_mapi, k_bindi, k_if1, k_if2, k_ops, k_br, k_rv, k_ri, k_rl, k_rz, k_rzi, k_01d, k_sw, k_01a, k_01b, k_01c, k_ifn, x_cmp, decide_eq_true_eq, Option.map_some, Option.bind_some, Option.toList_some, Option.toList_none, List.cons_append, List.nil_append, Nat.reduceAdd, true_or, or_true, Int.reduceNeg, Int.reduceEq, reduceIte, Nat.zero_le, Nat.reduceLeDiff, Nat.le_refl, Nat.reduceEqDiff, List.getElem?_cons_zero, List.getElem?_cons_succ, xst, List.set_cons_zero, List.set_cons_succ, List.map_cons, List.map_nil, List.sum_cons, List.sum_nil, xcat, Nat.reduceMul, Nat.reduceDiv, Nat.reduceMod, Nat.add_zero, e_nil, e_iconst, e_il, e_al, e_ll, e_istore, e_astore, e_lstore, e_ic, e_iadd, e_isub, e_imul, e_iand, e_ior, e_ixor, e_ishl, e_ishr, e_ineg, e_dupi, e_dupr, e_dupx, e_dup2, e_popi, eo_g0, eo_g1, eo_g2, eo_g3, eo_g4, eo_g5, eo_g6, eo_g7, eo_g8, eo_g9, eo_g10, eo_g11, eo_g12, eo_g13, eo_g14, eo_s14, eo_g15, eo_g16, eo_s16, et_g0, et_g1, et_s1, et_g2, et_s2, et_g3, et_s3, et_g4, et_s4, eu_g0, eu_g1, eu_s1, eu_g2, eu_g3, eu_s3, eu_g4, eh_g0, eh_g1, eh_s1, eh_g2, eh_s2, ed_g0, ed_g1, ed_g2, ed_g3, ed_s3, ew_g0, ew_g1, ew_g2, ew_g3, ew_s3, en_g0, en_g1, en_s1, en_g2, en_g3, en_g4, en_g5, en_s5, ex_g0, ex_s0, eq_g0, eq_s0, eq_g1, eq_s1, eq_g2, eq_s2, eq_g3, eq_s3, eq_g4, eq_s4, eq_g5, eq_s5, eq_g6, eq_s6, eq_g7, eq_s7, ez_g0, ez_g1, ez_g2, ez_g3, ez_s3, ez_g4, ez_s4, ez_g5, ez_s5, ez_g6, ez_s6, ez_g7, ez_s7, ez_g8, ez_s8, ez_g9, ez_s9, ez_g10, ez_s10, ez_g11, ez_s11, ez_g12, ez_s12, ez_g13, ez_s13, ez_g14, ez_g15, ez_b0g, ez_b0s, ez_b1g, ez_b1s, ez_b2g, ez_b2s, ez_b3g, ez_b3s, ez_b4g, ez_b4s, ez_b5g, ez_b5s, ez_ba, ez_g0g, ez_g0s, ez_g1g, ez_g1s, ez_g2g, ez_g2s, ez_g3g, ez_g3s, ez_g4g, ez_g4s, ez_g5g, ez_g5s, ez_g6g, ez_g6s, ez_g7g, ez_g7s, ez_ga, ez_l0g, ez_l0s, ez_l1g, ez_l1s, ez_l2g, ez_l2s, ez_la, q_zs, q_zz, q_z1, q_z2, q_i2, q_ig, q_iz, q_jz, true_and, false_and, or_self, or_true, true_or, or_false, false_or, and_true, and_false, and_self, not_true_eq_false, not_false_eq_true, c1, ec20, f1]
theorem isB (hr : Rel r c) (b : Int) : (0 ≤ b ∧ b ≤ xw (r.1 1 - 1)) ↔ (0 ≤ b ∧ b < c.2.2 0 132 ∧ b < 6) := by
  rw [rOk_isB (Rel_ok hr)]
  have h1 := hr.1.1
  have h2 := hr.2.1.1.1
  have h3 := rB hr.1
  omega
theorem isG (hr : Rel r c) (g : Int) : (0 ≤ g ∧ g ≤ xw (r.1 2 - 1)) ↔ (0 ≤ g ∧ g < c.2.2 0 133 ∧ g < 8) := by
  rw [rOk_isG (Rel_ok hr)]
  have h1 := hr.1.2.1
  have h2 := hr.2.1.1.2.1
  have h3 := rN hr.1
  omega
theorem P_write (b : Int) : Par 217 115 [.inl b] := by
  intro n h h' r c hr
  obtain ⟨U, u1, u2, u3, u4⟩ := Rel_U hr
  obtain ⟨M, m1, m2, m3, m4⟩ := sSea_M hr.2.1.1
  have hB := rB6 hr.1
  have hN := rN8 hr.1
  have fR := r_write (n := n + 896) (h := h) (r := r) u2 u1 m2 m1 b
  have f1 := c_mark (n := n + 896) (h := h') hr
  have f2 := c_add (n := n + 897) (h := h') (c := qMark r c) (k := 0) (by decide) m1 (by rw [qMark_0]; exact m3) b
  have f3 := fun z v => c_held (n := n + 897) (h := h') (c := q_z (qMark r c) 0 z) u3 u4 v
  have hb := isB hr b
  have hs := hr.2.1
  unfold rWrite at fR
  rw [qMark_0] at f2
  have ff : ∀ (v : Int) (z : Nat → Int), (gg (n + 899) 50).2 [.inr (.inr (.inl (3, 0))), .inl b] (hC h' (qMark r c)) = some (some (.inl v), hC h' (q_z (qMark r c) 0 z)) → (gg (n + 900) 115).2 [.inr (.inr (.inl (0, 0))), .inl b] (hC h' c) = some (some (.inl v), hC h' (if v < 0 then q_z (qMark r c) 0 z else qHold (q_z (qMark r c) 0 z))) := by
    intro v z f2
    have f3 := f3 z v
    rw [gr115]
    have i0 := isc_zs (h := h') (c := qMark r c) (k := 0) (by decide)
    clear hb hs fR hr
    simp -implicitDefEqProofs (disch := first | with_reducible assumption | with_reducible exact isc_zs (by assumption) | with_reducible exact isc_zs (by decide) | with_reducible exact isc_zb (by assumption) (by assumption) | with_reducible exact isc_zb (by decide) (by assumption) | with_reducible exact isc_zg (by assumption) (by assumption) | with_reducible exact isc_zl (by assumption) (by assumption) | with_reducible exact isc_0 | with_reducible exact isc_1 | with_reducible exact isc_3 | with_reducible exact isc_7 | with_reducible exact isc_11 | with_reducible exact isc_15 | with_reducible exact isc_19 | with_reducible exact isc_24 | with_reducible exact isc_25 | (simp only [List.map_cons, List.map_nil, List.sum_cons, List.sum_nil, xcat, Nat.reduceAdd, Nat.reduceLeDiff, Nat.zero_le]; done) | omega) only [fX11_write, k_p_sq, k_p_blk, k_sq0, k_sq11, k_sq12, k_sq13, k_sq14, k_sq15, k_sqr, k_sqi, k_blk0, k_blk1, k_blk2, k_blk3, k_blk4, k_blk5, k_blkr, k_blki, k_finr, k_fini, k_mapi, k_bindi, k_if1, k_if2, k_ops, k_br, k_rv, k_ri, k_rl, k_rz, k_rzi, k_01d, k_sw, k_01a, k_01b, k_01c, k_ifn, x_cmp, decide_eq_true_eq, Option.map_some, Option.bind_some, Option.toList_some, Option.toList_none, List.cons_append, List.nil_append, Nat.reduceAdd, true_or, or_true, Int.reduceNeg, Int.reduceEq, reduceIte, Nat.zero_le, Nat.reduceLeDiff, Nat.le_refl, Nat.reduceEqDiff, List.getElem?_cons_zero, List.getElem?_cons_succ, xst, List.set_cons_zero, List.set_cons_succ, List.map_cons, List.map_nil, List.sum_cons, List.sum_nil, xcat, Nat.reduceMul, Nat.reduceDiv, Nat.reduceMod, Nat.add_zero, e_nil, e_iconst, e_il, e_al, e_ll, e_istore, e_astore, e_lstore, e_ic, e_iadd, e_isub, e_imul, e_iand, e_ior, e_ixor, e_ishl, e_ishr, e_ineg, e_dupi, e_dupr, e_dupx, e_dup2, e_popi, eo_g0, eo_g1, eo_g2, eo_g3, eo_g4, eo_g5, eo_g6, eo_g7, eo_g8, eo_g9, eo_g10, eo_g11, eo_g12, eo_g13, eo_g14, eo_s14, eo_g15, eo_g16, eo_s16, et_g0, et_g1, et_s1, et_g2, et_s2, et_g3, et_s3, et_g4, et_s4, eu_g0, eu_g1, eu_s1, eu_g2, eu_g3, eu_s3, eu_g4, eh_g0, eh_g1, eh_s1, eh_g2, eh_s2, ed_g0, ed_g1, ed_g2, ed_g3, ed_s3, ew_g0, ew_g1, ew_g2, ew_g3, ew_s3, en_g0, en_g1, en_s1, en_g2, en_g3, en_g4, en_g5, en_s5, ex_g0, ex_s0, eq_g0, eq_s0, eq_g1, eq_s1, eq_g2, eq_s2, eq_g3, eq_s3, eq_g4, eq_s4, eq_g5, eq_s5, eq_g6, eq_s6, eq_g7, eq_s7, ez_g0, ez_g1, ez_g2, ez_g3, ez_s3, ez_g4, ez_s4, ez_g5, ez_s5, ez_g6, ez_s6, ez_g7, ez_s7, ez_g8, ez_s8, ez_g9, ez_s9, ez_g10, ez_s10, ez_g11, ez_s11, ez_g12, ez_s12, ez_g13, ez_s13, ez_g14, ez_g15, ez_b0g, ez_b0s, ez_b1g, ez_b1s, ez_b2g, ez_b2s, ez_b3g, ez_b3s, ez_b4g, ez_b4s, ez_b5g, ez_b5s, ez_ba, ez_g0g, ez_g0s, ez_g1g, ez_g1s, ez_g2g, ez_g2s, ez_g3g, ez_g3s, ez_g4g, ez_g4s, ez_g5g, ez_g5s, ez_g6g, ez_g6s, ez_g7g, ez_g7s, ez_ga, ez_l0g, ez_l0s, ez_l1g, ez_l1s, ez_l2g, ez_l2s, ez_la, q_zs, q_zz, q_z1, q_z2, q_i2, q_ig, q_iz, q_jz, true_and, false_and, or_self, or_true, true_or, or_false, false_or, and_true, and_false, and_self, not_true_eq_false, not_false_eq_true, ec19, f1, ec50, f2, ec125, f3]
  by_cases c1 : 0 ≤ b ∧ b ≤ xw (r.1 1 - 1)
  · have c2 := hb.1 c1
    rw [if_pos c1] at fR
    by_cases c3 : M = 10
    · rw [if_pos c3] at fR
      rw [if_pos c2, if_pos c3, if_neg (fun z => z.2 c3)] at f2
      have f4 := ff _ _ f2
      rw [if_pos (by decide)] at f4
      refine ⟨_, _, _, fR, f4, ?_⟩
      have := (Rel_mark hr).1
      rw [← qMark_0 r c, q_z0]
      exact Rel_11 this 0
    · rw [if_neg c3] at fR
      rw [if_pos c2, if_neg c3, if_pos ⟨c2, c3⟩] at f2
      have f4 := ff _ _ f2
      rw [if_neg (by omega)] at f4
      refine ⟨_, _, _, fR, f4, ?_⟩
      refine Rel_done hr u2 (sSea_write hB hN hs.1 m2 (by omega) b) ?_ ?_
      · unfold rWr
        simp (disch := omega) only [xfu_ne]
        exact hs.2.1
      · unfold rWr
        simp (disch := omega) only [xfu_ne]
        exact hs.2.2
  · have c2 : ¬ (0 ≤ b ∧ b < c.2.2 0 132 ∧ b < 6) := fun z => c1 (hb.2 z)
    rw [if_neg c1] at fR
    rw [if_neg c2, if_neg (fun z => c2 z.1)] at f2
    have f4 := ff _ _ f2
    rw [if_pos (by decide)] at f4
    refine ⟨_, _, _, fR, f4, ?_⟩
    have := (Rel_mark hr).1
    rw [← qMark_0 r c, q_z0]
    exact Rel_11 this 0
end PA
