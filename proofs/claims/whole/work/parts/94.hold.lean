/-! ===== the class: marked, held, taken back ===== -/
/-- the reference without its thrown and with another row now -/
theorem Rel_sea {r : xR} {c : xQ} (hr : Rel r c) {z a : Nat → Int} (hs : sSea r (kB (rK r)) (kN (rK r)) z a) (h5 : z 134 = r.1 5) (h6 : z 135 = r.1 6) : Rel (xr_j r 1 a) (q_z c 0 z) := by
  obtain ⟨h1, h2, h3, h4, h5', h6', h7, h8⟩ := hr
  have e2 : ∀ j, j ≠ 1 → (xr_j r 1 a).2 j = r.2 j := fun j hj => xfu_ne _ _ hj
  have hK : rK (xr_j r 1 a) = rK r := by
    unfold rK
    rw [e2 2 (by decide), e2 3 (by decide), e2 8 (by decide)]
    rfl
  have es : ∀ B N z a', sSea r B N z a' → sSea (xr_j r 1 a) B N z a' := fun B N z a' => sSea_r (fun g _ => by rw [e2 2 (by decide)]) (fun g _ => by rw [e2 3 (by decide)])
  refine ⟨?_, ?_, ?_, ?_, ?_, ?_, ?_, ?_⟩
  · unfold RNum at h1 ⊢
    rw [hK, e2 2 (by decide)]
    exact h1
  · unfold RSea
    rw [hK, xr_j_2, q_zs]
    exact ⟨es _ _ _ _ hs, h5, h6⟩
  · unfold RHist at h3 ⊢
    rw [hK, e2 11 (by decide)]
    obtain ⟨U, f, u1, u2, u3, u4, u5, u6⟩ := h3
    refine ⟨U, f, u1, u2, u3, u4, u5, fun i hi => ?_⟩
    rw [q_zn (by omega)]
    exact es _ _ _ _ (u6 i hi)
  · unfold RKept at h4 ⊢
    rw [hK, e2 20 (by decide), e2 21 (by decide), e2 22 (by decide)]
    intro i hi
    obtain ⟨k1, k2⟩ := h4 i hi
    refine ⟨k1, ?_⟩
    rcases k2 with k2 | ⟨k2, B, N, k3, k4, k5, k6⟩
    · exact Or.inl k2
    · refine Or.inr ⟨k2, B, N, k3, k4, ?_, k6⟩
      rw [q_zn (by omega)]
      exact es _ _ _ _ k5
  · unfold RText at h5' ⊢
    rw [e2 4 (by decide)]
    exact h5'
  · unfold RRule at h6' ⊢
    rw [e2 8 (by decide)]
    exact h6'
  · unfold RWord at h7 ⊢
    rw [e2 18 (by decide), e2 19 (by decide)]
    exact h7
  · unfold RTold at h8 ⊢
    rw [e2 5 (by decide)]
    exact h8
/-- where the mark is made -/
def qSlot (c : xQ) : Nat := ((c.1 8).toNat + (c.1 9).toNat) % 13 + 2
def qMark (r : xR) (c : xQ) : xQ := q_z c (qSlot c) (cpAll (kB (rK r)) (kN (rK r)) (r.2 1 114).toNat (c.2.2 0) (c.2.2 (qSlot c)))
def qHold (c : xQ) : xQ := if c.1 9 < 12 then q_i c 9 (xw (c.1 9 + 1)) else q_i c 8 ((xw (c.1 8 + 1)).tmod 13)
theorem sSea_cp {r : xR} {B N : Nat} {z a : Nat → Int} (hB : B ≤ 6) (hN : N ≤ 8) (h : sSea r B N z a) (o : Nat → Int) : sSea r B N (cpAll B N (a 114).toNat z o) a := by
  obtain ⟨h1, h2, h3, ⟨M, h4, h5, h6, h7⟩, h8⟩ := h
  have hM : (a 114).toNat = M := by omega
  rw [hM]
  obtain ⟨p1, p2, p3, p4, p5⟩ := cpAll_p (B := B) (N := N) (M := M) z o hB hN h4
  refine ⟨by rw [p3]; exact h1, by rw [p4]; exact h2, fun g hg => ?_, ⟨M, h4, h5, kEq_trans p1 h6, h7⟩, h8⟩
  rw [(p2 g hg).1, (p2 g hg).2]
  exact h3 g hg
theorem sSea_M {r : xR} {B N : Nat} {z a : Nat → Int} (h : sSea r B N z a) : ∃ M : Nat, M ≤ 10 ∧ a 114 = (M : Int) ∧ z 114 = (M : Int) ∧ (a 114).toNat = M := by
  obtain ⟨h1, h2, h3, ⟨M, h4, h5, h6, h7⟩, h8⟩ := h
  exact ⟨M, h4, h5, by rw [kEq_114 h6]; exact h5, by omega⟩
theorem md13 {f U : Nat} (hf : f ≤ 12) (hU : U ≤ 12) : xw ((f : Int) + (U : Int)) = ((f + U : Nat) : Int) ∧ (((f + U : Nat) : Int).tmod 13) = (((f + U) % 13 : Nat) : Int) ∧ (((f + U) % 13 : Nat) : Int) < 13 ∧ (f + U) % 13 + 2 < 17 := by
  refine ⟨by rw [xw_id (by omega) (by omega)]; omega, ?_, by omega, by omega⟩
  rw [Int.tmod_eq_emod_of_nonneg (by omega)]
  omega
theorem md13b {f : Nat} (hf : f ≤ 12) : (xw ((f : Int) + 1)).tmod 13 = (((f + 1) % 13 : Nat) : Int) := by
  rw [xw_id (by omega) (by omega), Int.tmod_eq_emod_of_nonneg (by omega)]
  omega
section CH
variable {n : Nat} {h : xH} {c : xQ} {r : xR} {H : xH} {k b g m : Nat}
theorem Rel_mark (hr : Rel r c) : Rel r (qMark r c) ∧ sSea r (kB (rK r)) (kN (rK r)) ((qMark r c).2.2 (qSlot c)) (r.2 1) := by
  obtain ⟨h1, h2, h3, h4, h5, h6, h7, h8⟩ := hr
  have hB := rB6 h1
  have hN := rN8 h1
  have hs := sSea_cp hB hN h2.1 (c.2.2 (qSlot c))
  have hsl : 2 ≤ qSlot c ∧ qSlot c < 15 := by unfold qSlot; omega
  refine ⟨⟨h1, ?_, ?_, ?_, h5, h6, h7, h8⟩, ?_⟩
  · unfold RSea qMark
    rw [q_zn (by omega)]
    exact h2
  · obtain ⟨U, f, u1, u2, u3, u4, u5, u6⟩ := h3
    refine ⟨U, f, u1, u2, u3, u4, u5, fun i hi => ?_⟩
    unfold qMark
    rw [q_zn]
    · exact u6 i hi
    · unfold qSlot
      rw [u4, u5, Int.toNat_natCast, Int.toNat_natCast]
      omega
  · intro i hi
    obtain ⟨k1, k2⟩ := h4 i hi
    refine ⟨k1, ?_⟩
    rcases k2 with k2 | ⟨k2, B, N, k3, k4, k5, k6⟩
    · exact Or.inl k2
    · refine Or.inr ⟨k2, B, N, k3, k4, ?_, k6⟩
      unfold qMark
      rw [q_zn (by omega)]
      exact k5
  · unfold qMark
    rw [q_zs]
    exact hs
theorem rRem_11 {U : Nat} (hU : U ≤ 12) {i x : Nat} (hx : x < 116) : (rRem r 1 U).2 11 (116 * i + x) = if U = 12 then (if i < 11 then r.2 11 (116 * (i + 1) + x) else if i = 11 then r.2 1 x else r.2 11 (116 * i + x)) else (if i = U then r.2 1 x else r.2 11 (116 * i + x)) := by
  unfold rRem
  by_cases c1 : U = 12
  · rw [if_pos c1, if_pos c1]
    have e : (xr_i (xr_j (xr_i (xr_j r 11 (rShift (r.2 11) 1276)) 28 11) 11 (rCopy (r.2 1) (rShift (r.2 11) 1276) 1276 116)) 28 12).2 11 = rCopy (r.2 1) (rShift (r.2 11) 1276) 1276 116 := by rw [xr_i_2, xr_j_2]
    rw [e]
    unfold rCopy rShift
    by_cases c2 : i < 11
    · rw [if_pos c2, if_neg (by omega), if_pos (by omega), show 116 * i + x + 116 = 116 * (i + 1) + x by omega]
    · rw [if_neg c2]
      by_cases c3 : i = 11
      · subst c3
        rw [if_pos rfl, if_pos (by omega), show 116 * 11 + x - 1276 = x by omega]
      · rw [if_neg c3, if_neg (by omega), if_neg (by omega)]
  · rw [if_neg c1, if_neg c1]
    have e : (xr_i (xr_j r 11 (rCopy (r.2 1) (r.2 11) (116 * U) 116)) 28 ((U : Int) + 1)).2 11 = rCopy (r.2 1) (r.2 11) (116 * U) 116 := by rw [xr_i_2, xr_j_2]
    rw [e]
    unfold rCopy
    by_cases c2 : i = U
    · subst c2
      rw [if_pos rfl, if_pos (by omega), show 116 * i + x - 116 * i = x by omega]
    · rw [if_neg c2, if_neg]
      intro z
      have : i = U := by omega
      exact c2 this
theorem rRem_28 {U : Nat} : (rRem r 1 U).1 28 = if U = 12 then 12 else (U : Int) + 1 := by
  unfold rRem
  split
  · rfl
  · rfl
theorem Rel_hold (hr : Rel r c) (hs : sSea r (kB (rK r)) (kN (rK r)) (c.2.2 (qSlot c)) (r.2 1)) {U : Nat} (hU : r.1 28 = (U : Int)) : Rel (rRem r 1 U) (qHold c) := by
  obtain ⟨h1, h2, h3, h4, h5, h6, h7, h8⟩ := hr
  have hB := rB6 h1
  have hN := rN8 h1
  have e1 : ∀ k, k ≠ 28 → (rRem r 1 U).1 k = r.1 k := fun k hk => rRem_1 r 1 U k hk
  have e2 : ∀ j, j ≠ 11 → (rRem r 1 U).2 j = r.2 j := fun j hj => rRem_2 r 1 U j hj
  have hK : rK (rRem r 1 U) = rK r := by
    unfold rK
    rw [e1 1 (by decide), e1 2 (by decide), e1 5 (by decide), e1 6 (by decide), e1 20 (by decide), e2 2 (by decide), e2 3 (by decide), e2 8 (by decide)]
  have es : ∀ B N z a', sSea r B N z a' → sSea (rRem r 1 U) B N z a' := fun B N z a' => sSea_r (fun g _ => by rw [e2 2 (by decide)]) (fun g _ => by rw [e2 3 (by decide)])
  have q2 : (qHold c).2 = c.2 := by unfold qHold; split <;> rfl
  have q1 : ∀ i, i ≠ 8 → i ≠ 9 → (qHold c).1 i = c.1 i := by
    intro i h8 h9
    unfold qHold
    split
    · exact xfu_ne _ _ h9
    · exact xfu_ne _ _ h8
  refine ⟨?_, ?_, ?_, ?_, ?_, ?_, ?_, ?_⟩
  · unfold RNum at h1 ⊢
    rw [hK, e1 1 (by decide), e1 2 (by decide), e1 44 (by decide), e1 6 (by decide), e2 2 (by decide)]
    exact h1
  · unfold RSea at h2 ⊢
    rw [hK, e2 1 (by decide), e1 5 (by decide), e1 6 (by decide), q2]
    exact ⟨es _ _ _ _ h2.1, h2.2⟩
  · obtain ⟨U', f, u1, u2, u3, u4, u5, u6⟩ := h3
    have e : U' = U := by omega
    subst e
    have hsl : qSlot c = (f + U') % 13 + 2 := by
      unfold qSlot
      rw [u4, u5, Int.toNat_natCast, Int.toNat_natCast]
    rw [hsl] at hs
    unfold RHist
    rw [hK, rRem_28, q2]
    by_cases c1 : U' = 12
    · rw [if_pos c1]
      have q8 : (qHold c).1 8 = (((f + 1) % 13 : Nat) : Int) := by
        unfold qHold
        rw [if_neg (by omega)]
        rw [q_ig, if_pos rfl, u5]
        exact md13b u2
      have q9 : (qHold c).1 9 = 12 := by
        unfold qHold
        rw [if_neg (by omega)]
        rw [q_ig, if_neg (by decide), u4, c1]
        rfl
      refine ⟨12, (f + 1) % 13, by omega, by omega, rfl, q9, q8, fun i hi => es _ _ _ _ ?_⟩
      by_cases c2 : i < 11
      · have := u6 (i + 1) (by omega)
        rw [show ((f + 1) % 13 + i) % 13 = (f + (i + 1)) % 13 by omega]
        refine sSea_a hB hN (fun x hx => ?_) this
        rw [rRem_11 u1 hx, if_pos c1, if_pos c2]
      · have c3 : i = 11 := by omega
        subst c3
        rw [show ((f + 1) % 13 + 11) % 13 = (f + U') % 13 by omega]
        refine sSea_a hB hN (fun x hx => ?_) hs
        rw [rRem_11 u1 hx, if_pos c1, if_neg (by omega), if_pos rfl]
    · rw [if_neg c1]
      have q8 : (qHold c).1 8 = (f : Int) := by
        unfold qHold
        rw [if_pos (by omega)]
        rw [q_ig, if_neg (by decide), u5]
      have q9 : (qHold c).1 9 = ((U' + 1 : Nat) : Int) := by
        unfold qHold
        rw [if_pos (by omega)]
        rw [q_ig, if_pos rfl, u4, xw_id (by omega) (by omega)]
        rfl
      refine ⟨U' + 1, f, by omega, u2, by omega, q9, q8, fun i hi => es _ _ _ _ ?_⟩
      by_cases c2 : i = U'
      · subst c2
        refine sSea_a hB hN (fun x hx => ?_) hs
        rw [rRem_11 u1 hx, if_neg c1, if_pos rfl]
      · refine sSea_a hB hN (fun x hx => ?_) (u6 i (by omega))
        rw [rRem_11 u1 hx, if_neg c1, if_neg c2]
  · unfold RKept at h4 ⊢
    rw [hK, e1 44 (by decide), e2 20 (by decide), e2 21 (by decide), e2 22 (by decide), q2]
    intro i hi
    obtain ⟨k1, k2⟩ := h4 i hi
    refine ⟨k1, ?_⟩
    rcases k2 with k2 | ⟨k2, B, N, k3, k4, k5, k6⟩
    · exact Or.inl k2
    · exact Or.inr ⟨k2, B, N, k3, k4, es _ _ _ _ k5, k6⟩
  · unfold RText at h5 ⊢
    rw [e1 8 (by decide), e2 4 (by decide), q1 2 (by decide) (by decide), q2]
    exact h5
  · unfold RRule at h6 ⊢
    rw [e1 20 (by decide), e2 8 (by decide)]
    exact ⟨h6.1, ruleOk_q (q1 6 (by decide) (by decide)).symm (by rw [q2]) h6.2⟩
  · unfold RWord at h7 ⊢
    rw [e1 42 (by decide), e2 18 (by decide), e2 19 (by decide), q1 0 (by decide) (by decide), q2]
    exact h7
  · unfold RTold at h8 ⊢
    rw [e1 10 (by decide), e2 5 (by decide), q1 1 (by decide) (by decide), q2]
    exact h8
theorem c_mark0 {f U B N M : Nat} (hf : f ≤ 12) (hU : U ≤ 12) (u4 : c.1 9 = (U : Int)) (u5 : c.1 8 = (f : Int)) (hB : B ≤ 6) (hN : N ≤ 8) (hM : M ≤ 10) (hb : c.2.2 0 132 = (B : Int)) (hg : c.2.2 0 133 = (N : Int)) (hm : c.2.2 0 114 = (M : Int)) : (gg (n + 3) 19).2 [.inr (.inr (.inl (0, 7))), .inr (.inr (.inl (3, 0)))] (hC h c) = some (none, hC h (q_z c ((f + U) % 13 + 2) (cpAll B N M (c.2.2 0) (c.2.2 ((f + U) % 13 + 2))))) := by
  obtain ⟨x1, x2, x3, x4⟩ := md13 hf hU
  have f1 := c_copy (n := n) (h := h) (c := c) (k := (f + U) % 13 + 2) (k' := 0) x4 (by decide) (Nat.succ_ne_zero _).symm hB hN hM hb hg hm
  have e13 := fun (G : xG) (rg : Nat) (l : List Instr) (L S : List xV) (x : Int) => e_irem (G := G) (rg := rg) (l := l) (L := L) (S := S) (H := hC h c) (x := x) (y := 13) (by decide)
  have f1 : (gg (n + 2) 38).2 [.inr (.inr (.inl ((f + U) % 13 + 2 + 3, 0))), .inr (.inr (.inl (3, 0)))] (hC h c) = some (none, hC h (q_z c ((f + U) % 13 + 2) (cpAll B N M (c.2.2 0) (c.2.2 ((f + U) % 13 + 2))))) := f1
  have r8 := fun (G : xG) (rg : Nat) (l : List Instr) (L S : List xV) => eq_r8 (G := G) (rg := rg) (l := l) (L := L) (S := S) (h := h) (c := c) (i := (((f + U) % 13 : Nat) : Int)) (Int.natCast_nonneg _) x3
  rw [gr19]
  clear hB hN hM hb hg hm hf hU
  generalize (f + U) % 13 = j at *
  have x5 : j + 2 < 17 := x4
  simp -implicitDefEqProofs (disch := first | with_reducible assumption | with_reducible exact isc_zs (by assumption) | with_reducible exact isc_zs (by decide) | with_reducible exact isc_zb (by assumption) (by assumption) | with_reducible exact isc_zb (by decide) (by assumption) | with_reducible exact isc_zg (by assumption) (by assumption) | with_reducible exact isc_zl (by assumption) (by assumption) | with_reducible exact isc_0 | with_reducible exact isc_1 | with_reducible exact isc_3 | with_reducible exact isc_7 | with_reducible exact isc_11 | with_reducible exact isc_15 | with_reducible exact isc_19 | with_reducible exact isc_24 | with_reducible exact isc_25 | (simp only [List.map_cons, List.map_nil, List.sum_cons, List.sum_nil, xcat, Nat.reduceAdd, Nat.reduceLeDiff, Nat.zero_le]; done) | omega) only [fX4_mark, k_p_sq, k_p_blk, k_sq0, k_sq11, k_sq12, k_sq13, k_sq14, k_sq15, k_sqr, k_sqi, k_blk0, k_blk1, k_blk2, k_blk3, k_blk4, k_blk5, k_blkr, k_blki, k_finr, k_fini, k_mapi, k_bindi, k_if1, k_if2, k_ops, k_br, k_rv, k_ri, k_rl, k_rz, k_rzi, k_01d, k_sw, k_01a, k_01b, k_01c, k_ifn, x_cmp, decide_eq_true_eq, Option.map_some, Option.bind_some, Option.toList_some, Option.toList_none, List.cons_append, List.nil_append, Nat.reduceAdd, true_or, or_true, Int.reduceNeg, Int.reduceEq, reduceIte, Nat.zero_le, Nat.reduceLeDiff, Nat.le_refl, Nat.reduceEqDiff, List.getElem?_cons_zero, List.getElem?_cons_succ, xst, List.set_cons_zero, List.set_cons_succ, List.map_cons, List.map_nil, List.sum_cons, List.sum_nil, xcat, Nat.reduceMul, Nat.reduceDiv, Nat.reduceMod, Nat.add_zero, e_nil, e_iconst, e_il, e_al, e_ll, e_istore, e_astore, e_lstore, e_ic, e_iadd, e_isub, e_imul, e_iand, e_ior, e_ixor, e_ishl, e_ishr, e_ineg, e_dupi, e_dupr, e_dupx, e_dup2, e_popi, eo_g0, eo_g1, eo_g2, eo_g3, eo_g4, eo_g5, eo_g6, eo_g7, eo_g8, eo_g9, eo_g10, eo_g11, eo_g12, eo_g13, eo_g14, eo_s14, eo_g15, eo_g16, eo_s16, et_g0, et_g1, et_s1, et_g2, et_s2, et_g3, et_s3, et_g4, et_s4, eu_g0, eu_g1, eu_s1, eu_g2, eu_g3, eu_s3, eu_g4, eh_g0, eh_g1, eh_s1, eh_g2, eh_s2, ed_g0, ed_g1, ed_g2, ed_g3, ed_s3, ew_g0, ew_g1, ew_g2, ew_g3, ew_s3, en_g0, en_g1, en_s1, en_g2, en_g3, en_g4, en_g5, en_s5, ex_g0, ex_s0, eq_g0, eq_s0, eq_g1, eq_s1, eq_g2, eq_s2, eq_g3, eq_s3, eq_g4, eq_s4, eq_g5, eq_s5, eq_g6, eq_s6, eq_g7, eq_s7, ez_g0, ez_g1, ez_g2, ez_g3, ez_s3, ez_g4, ez_s4, ez_g5, ez_s5, ez_g6, ez_s6, ez_g7, ez_s7, ez_g8, ez_s8, ez_g9, ez_s9, ez_g10, ez_s10, ez_g11, ez_s11, ez_g12, ez_s12, ez_g13, ez_s13, ez_g14, ez_g15, ez_b0g, ez_b0s, ez_b1g, ez_b1s, ez_b2g, ez_b2s, ez_b3g, ez_b3s, ez_b4g, ez_b4s, ez_b5g, ez_b5s, ez_ba, ez_g0g, ez_g0s, ez_g1g, ez_g1s, ez_g2g, ez_g2s, ez_g3g, ez_g3s, ez_g4g, ez_g4s, ez_g5g, ez_g5s, ez_g6g, ez_g6s, ez_g7g, ez_g7s, ez_ga, ez_l0g, ez_l0s, ez_l1g, ez_l1s, ez_l2g, ez_l2s, ez_la, q_zs, q_zz, q_z1, q_z2, q_i2, q_ig, q_iz, q_jz, true_and, false_and, or_self, or_true, true_or, or_false, false_or, and_true, and_false, and_self, not_true_eq_false, not_false_eq_true, u4, u5, x1, x2, e13, r8, Int.toNat_natCast, ec38, f1]
theorem c_mark (hr : Rel r c) : (gg (n + 3) 19).2 [.inr (.inr (.inl (0, 7))), .inr (.inr (.inl (3, 0)))] (hC h c) = some (none, hC h (qMark r c)) := by
  obtain ⟨h1, h2, ⟨U, f, u1, u2, u3, u4, u5, u6⟩, _⟩ := hr
  have hB := rB6 h1
  have hN := rN8 h1
  obtain ⟨M, m1, m2, m3, m4⟩ := sSea_M h2.1
  have hsl : qSlot c = (f + U) % 13 + 2 := by
    unfold qSlot
    rw [u4, u5, Int.toNat_natCast, Int.toNat_natCast]
  unfold qMark
  rw [hsl, m4]
  exact c_mark0 u2 u1 u4 u5 hB hN m1 h2.1.1 h2.1.2.1 m3
theorem c_holdM (h9 : 0 ≤ c.1 9) (h8 : 0 ≤ c.1 8) : (gg (n + 1) 20).2 [.inr (.inr (.inl (0, 7)))] (hC h c) = some (none, hC h (qHold c)) := by
  rw [gr20]
  have e13 := fun (G : xG) (rg : Nat) (l : List Instr) (L S : List xV) (x : Int) => e_irem (G := G) (rg := rg) (l := l) (L := L) (S := S) (H := hC h c) (x := x) (y := 13) (by decide)
  unfold qHold
  by_cases c1 : c.1 9 < 12
  · have c2 : ¬ 12 ≤ c.1 9 := by omega
    rw [if_pos c1]
    simp -implicitDefEqProofs (disch := first | with_reducible assumption | with_reducible exact isc_zs (by assumption) | with_reducible exact isc_zs (by decide) | with_reducible exact isc_zb (by assumption) (by assumption) | with_reducible exact isc_zb (by decide) (by assumption) | with_reducible exact isc_zg (by assumption) (by assumption) | with_reducible exact isc_zl (by assumption) (by assumption) | with_reducible exact isc_0 | with_reducible exact isc_1 | with_reducible exact isc_3 | with_reducible exact isc_7 | with_reducible exact isc_11 | with_reducible exact isc_15 | with_reducible exact isc_19 | with_reducible exact isc_24 | with_reducible exact isc_25 | (simp only [List.map_cons, List.map_nil, List.sum_cons, List.sum_nil, xcat, Nat.reduceAdd, Nat.reduceLeDiff, Nat.zero_le]; done) | omega) only [fX4_hold, k_p_sq, k_p_blk, k_sq0, k_sq11, k_sq12, k_sq13, k_sq14, k_sq15, k_sqr, k_sqi, k_blk0, k_blk1, k_blk2, k_blk3, k_blk4, k_blk5, k_blkr, k_blki, k_finr, k_fini, k_mapi, k_bindi, k_if1, k_if2, k_ops, k_br, k_rv, k_ri, k_rl, k_rz, k_rzi, k_01d, k_sw, k_01a, k_01b, k_01c, k_ifn, x_cmp, decide_eq_true_eq, Option.map_some, Option.bind_some, Option.toList_some, Option.toList_none, List.cons_append, List.nil_append, Nat.reduceAdd, true_or, or_true, Int.reduceNeg, Int.reduceEq, reduceIte, Nat.zero_le, Nat.reduceLeDiff, Nat.le_refl, Nat.reduceEqDiff, List.getElem?_cons_zero, List.getElem?_cons_succ, xst, List.set_cons_zero, List.set_cons_succ, List.map_cons, List.map_nil, List.sum_cons, List.sum_nil, xcat, Nat.reduceMul, Nat.reduceDiv, Nat.reduceMod, Nat.add_zero, e_nil, e_iconst, e_il, e_al, e_ll, e_istore, e_astore, e_lstore, e_ic, e_iadd, e_isub, e_imul, e_iand, e_ior, e_ixor, e_ishl, e_ishr, e_ineg, e_dupi, e_dupr, e_dupx, e_dup2, e_popi, eo_g0, eo_g1, eo_g2, eo_g3, eo_g4, eo_g5, eo_g6, eo_g7, eo_g8, eo_g9, eo_g10, eo_g11, eo_g12, eo_g13, eo_g14, eo_s14, eo_g15, eo_g16, eo_s16, et_g0, et_g1, et_s1, et_g2, et_s2, et_g3, et_s3, et_g4, et_s4, eu_g0, eu_g1, eu_s1, eu_g2, eu_g3, eu_s3, eu_g4, eh_g0, eh_g1, eh_s1, eh_g2, eh_s2, ed_g0, ed_g1, ed_g2, ed_g3, ed_s3, ew_g0, ew_g1, ew_g2, ew_g3, ew_s3, en_g0, en_g1, en_s1, en_g2, en_g3, en_g4, en_g5, en_s5, ex_g0, ex_s0, eq_g0, eq_s0, eq_g1, eq_s1, eq_g2, eq_s2, eq_g3, eq_s3, eq_g4, eq_s4, eq_g5, eq_s5, eq_g6, eq_s6, eq_g7, eq_s7, ez_g0, ez_g1, ez_g2, ez_g3, ez_s3, ez_g4, ez_s4, ez_g5, ez_s5, ez_g6, ez_s6, ez_g7, ez_s7, ez_g8, ez_s8, ez_g9, ez_s9, ez_g10, ez_s10, ez_g11, ez_s11, ez_g12, ez_s12, ez_g13, ez_s13, ez_g14, ez_g15, ez_b0g, ez_b0s, ez_b1g, ez_b1s, ez_b2g, ez_b2s, ez_b3g, ez_b3s, ez_b4g, ez_b4s, ez_b5g, ez_b5s, ez_ba, ez_g0g, ez_g0s, ez_g1g, ez_g1s, ez_g2g, ez_g2s, ez_g3g, ez_g3s, ez_g4g, ez_g4s, ez_g5g, ez_g5s, ez_g6g, ez_g6s, ez_g7g, ez_g7s, ez_ga, ez_l0g, ez_l0s, ez_l1g, ez_l1s, ez_l2g, ez_l2s, ez_la, q_zs, q_zz, q_z1, q_z2, q_i2, q_ig, q_iz, q_jz, true_and, false_and, or_self, or_true, true_or, or_false, false_or, and_true, and_false, and_self, not_true_eq_false, not_false_eq_true, c2]
  · have c2 : 12 ≤ c.1 9 := by omega
    rw [if_neg c1]
    simp -implicitDefEqProofs (disch := first | with_reducible assumption | with_reducible exact isc_zs (by assumption) | with_reducible exact isc_zs (by decide) | with_reducible exact isc_zb (by assumption) (by assumption) | with_reducible exact isc_zb (by decide) (by assumption) | with_reducible exact isc_zg (by assumption) (by assumption) | with_reducible exact isc_zl (by assumption) (by assumption) | with_reducible exact isc_0 | with_reducible exact isc_1 | with_reducible exact isc_3 | with_reducible exact isc_7 | with_reducible exact isc_11 | with_reducible exact isc_15 | with_reducible exact isc_19 | with_reducible exact isc_24 | with_reducible exact isc_25 | (simp only [List.map_cons, List.map_nil, List.sum_cons, List.sum_nil, xcat, Nat.reduceAdd, Nat.reduceLeDiff, Nat.zero_le]; done) | omega) only [fX4_hold, k_p_sq, k_p_blk, k_sq0, k_sq11, k_sq12, k_sq13, k_sq14, k_sq15, k_sqr, k_sqi, k_blk0, k_blk1, k_blk2, k_blk3, k_blk4, k_blk5, k_blkr, k_blki, k_finr, k_fini, k_mapi, k_bindi, k_if1, k_if2, k_ops, k_br, k_rv, k_ri, k_rl, k_rz, k_rzi, k_01d, k_sw, k_01a, k_01b, k_01c, k_ifn, x_cmp, decide_eq_true_eq, Option.map_some, Option.bind_some, Option.toList_some, Option.toList_none, List.cons_append, List.nil_append, Nat.reduceAdd, true_or, or_true, Int.reduceNeg, Int.reduceEq, reduceIte, Nat.zero_le, Nat.reduceLeDiff, Nat.le_refl, Nat.reduceEqDiff, List.getElem?_cons_zero, List.getElem?_cons_succ, xst, List.set_cons_zero, List.set_cons_succ, List.map_cons, List.map_nil, List.sum_cons, List.sum_nil, xcat, Nat.reduceMul, Nat.reduceDiv, Nat.reduceMod, Nat.add_zero, e_nil, e_iconst, e_il, e_al, e_ll, e_istore, e_astore, e_lstore, e_ic, e_iadd, e_isub, e_imul, e_iand, e_ior, e_ixor, e_ishl, e_ishr, e_ineg, e_dupi, e_dupr, e_dupx, e_dup2, e_popi, eo_g0, eo_g1, eo_g2, eo_g3, eo_g4, eo_g5, eo_g6, eo_g7, eo_g8, eo_g9, eo_g10, eo_g11, eo_g12, eo_g13, eo_g14, eo_s14, eo_g15, eo_g16, eo_s16, et_g0, et_g1, et_s1, et_g2, et_s2, et_g3, et_s3, et_g4, et_s4, eu_g0, eu_g1, eu_s1, eu_g2, eu_g3, eu_s3, eu_g4, eh_g0, eh_g1, eh_s1, eh_g2, eh_s2, ed_g0, ed_g1, ed_g2, ed_g3, ed_s3, ew_g0, ew_g1, ew_g2, ew_g3, ew_s3, en_g0, en_g1, en_s1, en_g2, en_g3, en_g4, en_g5, en_s5, ex_g0, ex_s0, eq_g0, eq_s0, eq_g1, eq_s1, eq_g2, eq_s2, eq_g3, eq_s3, eq_g4, eq_s4, eq_g5, eq_s5, eq_g6, eq_s6, eq_g7, eq_s7, ez_g0, ez_g1, ez_g2, ez_g3, ez_s3, ez_g4, ez_s4, ez_g5, ez_s5, ez_g6, ez_s6, ez_g7, ez_s7, ez_g8, ez_s8, ez_g9, ez_s9, ez_g10, ez_s10, ez_g11, ez_s11, ez_g12, ez_s12, ez_g13, ez_s13, ez_g14, ez_g15, ez_b0g, ez_b0s, ez_b1g, ez_b1s, ez_b2g, ez_b2s, ez_b3g, ez_b3s, ez_b4g, ez_b4s, ez_b5g, ez_b5s, ez_ba, ez_g0g, ez_g0s, ez_g1g, ez_g1s, ez_g2g, ez_g2s, ez_g3g, ez_g3s, ez_g4g, ez_g4s, ez_g5g, ez_g5s, ez_g6g, ez_g6s, ez_g7g, ez_g7s, ez_ga, ez_l0g, ez_l0s, ez_l1g, ez_l1s, ez_l2g, ez_l2s, ez_la, q_zs, q_zz, q_z1, q_z2, q_i2, q_ig, q_iz, q_jz, true_and, false_and, or_self, or_true, true_or, or_false, false_or, and_true, and_false, and_self, not_true_eq_false, not_false_eq_true, c2, e13]
end CH
