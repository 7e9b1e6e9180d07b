/-! ===== season: alike ===== -/
section S1
variable {z a t : Nat → Int} {T : xT5} {i : Nat} {v : Int}
theorem zw_pz (h1 : 116 ≤ i) (h2 : i < 136) : xfu (zw z a T t) i v = zw (xfu z i v) a T t := by
  funext x
  by_cases c : x = i
  · subst c
    rw [xfu_self, zw_z h1 h2, xfu_self]
  · rw [xfu_ne _ _ c]
    unfold zw
    rw [xfu_ne _ _ c]
theorem zw_send {g : Nat} (hg : g < 8) : rSend (zw z a T t) g (-1) = zw z (rSend a g (-1)) T t := by
  rw [rSend_0, rSend_0, zw_pa (by omega), zw_pa (by omega)]
end S1
/-- one half hour of a season, as the class reckons it -/
def cSeaG (N : Nat) (g : Int) (A : (Nat → Int) × xT5) : (Nat → Int) × xT5 := if (0 ≤ g ∧ g < (N : Int)) ∧ A.1 (68 + g.toNat) = 0 then (rSend A.1 g.toNat (-1), A.2) else A
def cSea1 (kx : xKx) (p : Int) (Y : Int × ((Nat → Int) × xT5)) : Int × ((Nat → Int) × xT5) :=
  (dNext (dNext (dNext Y.1)), cHalf (kWS kx (dDraw (dNext Y.1) 10) (if dDraw (dNext (dNext Y.1)) p = 0 then 1 else 0)) (cSeaG (kN kx) (dDraw (dNext (dNext (dNext Y.1))) 8) Y.2))
def cSea (kx : xKx) (p : Int) (m : Nat) (Y : Int × ((Nat → Int) × xT5)) : Int × ((Nat → Int) × xT5) := xit (fun _ => cSea1 kx p) m Y
theorem kxOk_ws {kx : xKx} (h : kxOk kx) (w s : Int) : kxOk (kWS kx w s) := h
theorem cOk_ws {kx : xKx} {M : Nat} {A : (Nat → Int) × xT5} (h : cOk kx M A) (w s : Int) : cOk (kWS kx w s) M A := h
theorem cOk_G {kx : xKx} {M : Nat} (hK : kxOk kx) {A : (Nat → Int) × xT5} (hA : cOk kx M A) (g : Int) : cOk kx M (cSeaG (kN kx) g A) := by
  obtain ⟨h1, h2, h3, h4⟩ := hA
  unfold cSeaG
  split
  · rename_i c
    have hN := hK.2.1
    refine ⟨?_, ?_, kBe_send0 hN h3 (by omega), h4⟩
    · dsimp only
      rw [rSend_0]
      exact kSane_w2 (kSane_w2 h1 hK.1 hN (by omega) _) hK.1 hN (by omega) _
    · dsimp only
      rw [rSend_0, xfu_ne _ _ (by omega), xfu_ne _ _ (by omega)]
      exact h2
  · exact ⟨h1, h2, h3, h4⟩
theorem cOk_wsr {kx : xKx} {M : Nat} {A : (Nat → Int) × xT5} (w s : Int) (h : cOk (kWS kx w s) M A) : cOk kx M A := h
theorem cOk_sea1 {kx : xKx} {M : Nat} (hK : kxOk kx) (hM : M ≤ 10) (p : Int) {Y : Int × ((Nat → Int) × xT5)} (hA : cOk kx M Y.2) : cOk kx M (cSea1 kx p Y).2 := by
  unfold cSea1
  dsimp only
  have hG := cOk_G hK hA (dDraw (dNext (dNext (dNext Y.1))) 8)
  generalize dDraw (dNext Y.1) 10 = w
  generalize (if dDraw (dNext (dNext Y.1)) p = 0 then (1 : Int) else 0) = s
  generalize cSeaG (kN kx) (dDraw (dNext (dNext (dNext Y.1))) 8) Y.2 = A at *
  exact cOk_wsr w s (cOk_half (kx := kWS kx w s) (kxOk_ws hK w s) hM (cOk_ws hG w s))
theorem cOk_seas {kx : xKx} {M : Nat} (hK : kxOk kx) (hM : M ≤ 10) (p : Int) {Y : Int × ((Nat → Int) × xT5)} (hA : cOk kx M Y.2) : ∀ m, cOk kx M (cSea kx p m Y).2
  | 0 => hA
  | m + 1 => cOk_sea1 hK hM p (cOk_seas hK hM p hA m)
theorem kEq_send {B N M : Nat} {a b : Nat → Int} (e : kEq B N M a b) (g : Nat) : kEq B N M (rSend a g (-1)) (rSend b g (-1)) := by
  rw [rSend_0, rSend_0]
  exact kEq_xfu (kEq_xfu e _ rfl) _ rfl
/-- seasons: the class's and the reference's -/
theorem sea_eq {kx : xKx} {M : Nat} (hK : kxOk kx) (hM : M ≤ 10) (p d : Int) {z a : Nat → Int} (e : kEq (kB kx) (kN kx) M a z) (hl : kBe M (kN kx) a) (w : Int) : ∀ m, (cSea kx p m (d, (z, (0, 0, 0, 0, w)))).1 = (kSea kx p m (d, ((a, 0, 0, 0, fun _ => 0), (0, 0, 0, 0)))).1 ∧ kEq (kB kx) (kN kx) M (kSea kx p m (d, ((a, 0, 0, 0, fun _ => 0), (0, 0, 0, 0)))).2.1.1 (cSea kx p m (d, (z, (0, 0, 0, 0, w)))).2.1 ∧ kBe M (kN kx) (kSea kx p m (d, ((a, 0, 0, 0, fun _ => 0), (0, 0, 0, 0)))).2.1.1 ∧ ((cSea kx p m (d, (z, (0, 0, 0, 0, w)))).2.2.1, (cSea kx p m (d, (z, (0, 0, 0, 0, w)))).2.2.2.1, (cSea kx p m (d, (z, (0, 0, 0, 0, w)))).2.2.2.2.1, (cSea kx p m (d, (z, (0, 0, 0, 0, w)))).2.2.2.2.2.1) = (kSea kx p m (d, ((a, 0, 0, 0, fun _ => 0), (0, 0, 0, 0)))).2.2 ∧ xin (cSea kx p m (d, (z, (0, 0, 0, 0, w)))).2.2.1 ∧ xin (cSea kx p m (d, (z, (0, 0, 0, 0, w)))).2.2.2.1 ∧ xin (cSea kx p m (d, (z, (0, 0, 0, 0, w)))).2.2.2.2.1 ∧ xin (cSea kx p m (d, (z, (0, 0, 0, 0, w)))).2.2.2.2.2.1
  | 0 => by
    have x0 : xin 0 := by unfold xin; omega
    exact ⟨rfl, e, hl, rfl, x0, x0, x0, x0⟩
  | m + 1 => by
    obtain ⟨i1, i2, i3, i4, x1, x2, x3, x4⟩ := sea_eq hK hM p d e hl w m
    show (cSea1 kx p (cSea kx p m (d, (z, (0, 0, 0, 0, w))))).1 = (kSea1 kx p (kSea kx p m (d, ((a, 0, 0, 0, fun _ => 0), (0, 0, 0, 0))))).1 ∧ kEq (kB kx) (kN kx) M (kSea1 kx p (kSea kx p m (d, ((a, 0, 0, 0, fun _ => 0), (0, 0, 0, 0))))).2.1.1 (cSea1 kx p (cSea kx p m (d, (z, (0, 0, 0, 0, w))))).2.1 ∧ kBe M (kN kx) (kSea1 kx p (kSea kx p m (d, ((a, 0, 0, 0, fun _ => 0), (0, 0, 0, 0))))).2.1.1 ∧ ((cSea1 kx p (cSea kx p m (d, (z, (0, 0, 0, 0, w))))).2.2.1, (cSea1 kx p (cSea kx p m (d, (z, (0, 0, 0, 0, w))))).2.2.2.1, (cSea1 kx p (cSea kx p m (d, (z, (0, 0, 0, 0, w))))).2.2.2.2.1, (cSea1 kx p (cSea kx p m (d, (z, (0, 0, 0, 0, w))))).2.2.2.2.2.1) = (kSea1 kx p (kSea kx p m (d, ((a, 0, 0, 0, fun _ => 0), (0, 0, 0, 0))))).2.2 ∧ xin (cSea1 kx p (cSea kx p m (d, (z, (0, 0, 0, 0, w))))).2.2.1 ∧ xin (cSea1 kx p (cSea kx p m (d, (z, (0, 0, 0, 0, w))))).2.2.2.1 ∧ xin (cSea1 kx p (cSea kx p m (d, (z, (0, 0, 0, 0, w))))).2.2.2.2.1 ∧ xin (cSea1 kx p (cSea kx p m (d, (z, (0, 0, 0, 0, w))))).2.2.2.2.2.1
    generalize cSea kx p m (d, (z, (0, 0, 0, 0, w))) = Y at *
    generalize kSea kx p m (d, ((a, 0, 0, 0, fun _ => 0), (0, 0, 0, 0))) = Z at *
    obtain ⟨y, A⟩ := Y
    obtain ⟨z9, F, T4⟩ := Z
    dsimp only at i1 i2 i3 i4 x1 x2 x3 x4
    subst i1
    unfold cSea1 kSea1
    dsimp only
    generalize dDraw (dNext y) 10 = w1
    generalize (if dDraw (dNext (dNext y)) p = 0 then (1 : Int) else 0) = s1
    generalize dDraw (dNext (dNext (dNext y))) 8 = g
    have hN := hK.2.1
    -- sending
    have hG : kEq (kB kx) (kN kx) M (kSeaG (kN kx) g F).1 (cSeaG (kN kx) g A).1 ∧ kBe M (kN kx) (kSeaG (kN kx) g F).1 ∧ (cSeaG (kN kx) g A).2 = A.2 := by
      unfold kSeaG cSeaG
      by_cases c1 : 0 ≤ g ∧ g < (kN kx : Int)
      · have e68 : F.1 (68 + g.toNat) = A.1 (68 + g.toNat) := kEq_g hN i2 (c := 4) (by omega) (by decide)
        rw [e68]
        by_cases c2 : A.1 (68 + g.toNat) = 0
        · rw [if_pos ⟨c1, c2⟩, if_pos ⟨c1, c2⟩]
          exact ⟨kEq_send i2 _, kBe_send0 hN i3 (by omega), rfl⟩
        · rw [if_neg (fun z => c2 z.2), if_neg (fun z => c2 z.2)]
          exact ⟨i2, i3, rfl⟩
      · rw [if_neg (fun z => c1 z.1), if_neg (fun z => c1 z.1)]
        exact ⟨i2, i3, rfl⟩
    generalize kSeaG (kN kx) g F = F1 at *
    generalize cSeaG (kN kx) g A = A1 at *
    obtain ⟨g1, g2, g3⟩ := hG
    rw [← g3] at i4 x1 x2 x3 x4
    obtain ⟨q1, q2, q3, q4, q5⟩ := cHalf_eq (kx := kWS kx w1 s1) hN A1 (A1.1, F1.2) rfl x1 x2 x3 x4
    obtain ⟨j1, j2, j3⟩ := kHalf_eq (k := kWS kx w1 s1) (F := F1) (F' := (A1.1, F1.2)) hK.1 hN hM (Nat.le_refl _) (Nat.le_refl _) hK.2.2 g2 g1 rfl
    simp only [Prod.ext_iff] at i4
    obtain ⟨r1, r2, r3, r4⟩ := i4
    unfold kHs1
    dsimp only
    refine ⟨rfl, by rw [q1]; exact j2, j1, ?_, ?_, ?_, ?_, ?_⟩
    · rw [q2, q3, q4, q5, ← j3, r1, r2, r3, r4]
    · rw [q2]; exact xw_in _
    · rw [q3]; exact xin_or _ _
    · rw [q4]; exact xin_or _ _
    · rw [q5]; exact xin_or _ _
section SN
variable {n : Nat} {h : xH} {c : xQ} {r : xR} {H : xH}
theorem c_start (v : Int) : (gg (n + 1) 9).2 [.inr (.inr (.inl (0, 24))), .inl v] (hC h c) = some (none, hC h (q_i c 14 v)) := by
  rw [gr9]
  simp -implicitDefEqProofs (disch := first | with_reducible assumption | with_reducible exact isc_zs (by assumption) | with_reducible exact isc_zs (by decide) | with_reducible exact isc_zb (by assumption) (by assumption) | with_reducible exact isc_zb (by decide) (by assumption) | with_reducible exact isc_zg (by assumption) (by assumption) | with_reducible exact isc_zl (by assumption) (by assumption) | with_reducible exact isc_0 | with_reducible exact isc_1 | with_reducible exact isc_3 | with_reducible exact isc_7 | with_reducible exact isc_11 | with_reducible exact isc_15 | with_reducible exact isc_19 | with_reducible exact isc_24 | with_reducible exact isc_25 | (simp only [List.map_cons, List.map_nil, List.sum_cons, List.sum_nil, xcat, Nat.reduceAdd, Nat.reduceLeDiff, Nat.zero_le]; done) | omega) only [fX2_start, k_p_sq, k_p_blk, k_sq0, k_sq11, k_sq12, k_sq13, k_sq14, k_sq15, k_sqr, k_sqi, k_blk0, k_blk1, k_blk2, k_blk3, k_blk4, k_blk5, k_blkr, k_blki, k_finr, k_fini, k_mapi, k_bindi, k_if1, k_if2, k_ops, k_br, k_rv, k_ri, k_rl, k_rz, k_rzi, k_01d, k_sw, k_01a, k_01b, k_01c, k_ifn, x_cmp, decide_eq_true_eq, Option.map_some, Option.bind_some, Option.toList_some, Option.toList_none, List.cons_append, List.nil_append, Nat.reduceAdd, true_or, or_true, Int.reduceNeg, Int.reduceEq, reduceIte, Nat.zero_le, Nat.reduceLeDiff, Nat.le_refl, Nat.reduceEqDiff, List.getElem?_cons_zero, List.getElem?_cons_succ, xst, List.set_cons_zero, List.set_cons_succ, List.map_cons, List.map_nil, List.sum_cons, List.sum_nil, xcat, Nat.reduceMul, Nat.reduceDiv, Nat.reduceMod, Nat.add_zero, e_nil, e_iconst, e_il, e_al, e_ll, e_istore, e_astore, e_lstore, e_ic, e_iadd, e_isub, e_imul, e_iand, e_ior, e_ixor, e_ishl, e_ishr, e_ineg, e_dupi, e_dupr, e_dupx, e_dup2, e_popi, eo_g0, eo_g1, eo_g2, eo_g3, eo_g4, eo_g5, eo_g6, eo_g7, eo_g8, eo_g9, eo_g10, eo_g11, eo_g12, eo_g13, eo_g14, eo_s14, eo_g15, eo_g16, eo_s16, et_g0, et_g1, et_s1, et_g2, et_s2, et_g3, et_s3, et_g4, et_s4, eu_g0, eu_g1, eu_s1, eu_g2, eu_g3, eu_s3, eu_g4, eh_g0, eh_g1, eh_s1, eh_g2, eh_s2, ed_g0, ed_g1, ed_g2, ed_g3, ed_s3, ew_g0, ew_g1, ew_g2, ew_g3, ew_s3, en_g0, en_g1, en_s1, en_g2, en_g3, en_g4, en_g5, en_s5, ex_g0, ex_s0, eq_g0, eq_s0, eq_g1, eq_s1, eq_g2, eq_s2, eq_g3, eq_s3, eq_g4, eq_s4, eq_g5, eq_s5, eq_g6, eq_s6, eq_g7, eq_s7, ez_g0, ez_g1, ez_g2, ez_g3, ez_s3, ez_g4, ez_s4, ez_g5, ez_s5, ez_g6, ez_s6, ez_g7, ez_s7, ez_g8, ez_s8, ez_g9, ez_s9, ez_g10, ez_s10, ez_g11, ez_s11, ez_g12, ez_s12, ez_g13, ez_s13, ez_g14, ez_g15, ez_b0g, ez_b0s, ez_b1g, ez_b1s, ez_b2g, ez_b2s, ez_b3g, ez_b3s, ez_b4g, ez_b4s, ez_b5g, ez_b5s, ez_ba, ez_g0g, ez_g0s, ez_g1g, ez_g1s, ez_g2g, ez_g2s, ez_g3g, ez_g3s, ez_g4g, ez_g4s, ez_g5g, ez_g5s, ez_g6g, ez_g6s, ez_g7g, ez_g7s, ez_ga, ez_l0g, ez_l0s, ez_l1g, ez_l1s, ez_l2g, ez_l2s, ez_la, q_zs, q_zz, q_z1, q_z2, q_i2, q_ig, q_iz, q_jz, true_and, false_and, or_self, or_true, true_or, or_false, false_or, and_true, and_false, and_self, not_true_eq_false, not_false_eq_true]
theorem c_next {k : Int} (hk : 1 ≤ k) : (gg (n + 1) 10).2 [.inr (.inr (.inl (0, 24))), .inl k] (hC h c) = some (some (.inl (dDraw (dNext (c.1 14)) k)), hC h (q_i c 14 (dNext (c.1 14)))) := by
  rw [gr10]
  have d : 1 ≤ k := hk
  have ek := fun (G : xG) (rg : Nat) (l : List Instr) (L S : List xV) (H : xH) (x : Int) => e_irem (G := G) (rg := rg) (l := l) (L := L) (S := S) (H := H) (x := x) (y := k) (by omega)
  unfold dDraw dNext
  simp -implicitDefEqProofs (disch := first | with_reducible assumption | with_reducible exact isc_zs (by assumption) | with_reducible exact isc_zs (by decide) | with_reducible exact isc_zb (by assumption) (by assumption) | with_reducible exact isc_zb (by decide) (by assumption) | with_reducible exact isc_zg (by assumption) (by assumption) | with_reducible exact isc_zl (by assumption) (by assumption) | with_reducible exact isc_0 | with_reducible exact isc_1 | with_reducible exact isc_3 | with_reducible exact isc_7 | with_reducible exact isc_11 | with_reducible exact isc_15 | with_reducible exact isc_19 | with_reducible exact isc_24 | with_reducible exact isc_25 | (simp only [List.map_cons, List.map_nil, List.sum_cons, List.sum_nil, xcat, Nat.reduceAdd, Nat.reduceLeDiff, Nat.zero_le]; done) | omega) only [fX2_next, k_p_sq, k_p_blk, k_sq0, k_sq11, k_sq12, k_sq13, k_sq14, k_sq15, k_sqr, k_sqi, k_blk0, k_blk1, k_blk2, k_blk3, k_blk4, k_blk5, k_blkr, k_blki, k_finr, k_fini, k_mapi, k_bindi, k_if1, k_if2, k_ops, k_br, k_rv, k_ri, k_rl, k_rz, k_rzi, k_01d, k_sw, k_01a, k_01b, k_01c, k_ifn, x_cmp, decide_eq_true_eq, Option.map_some, Option.bind_some, Option.toList_some, Option.toList_none, List.cons_append, List.nil_append, Nat.reduceAdd, true_or, or_true, Int.reduceNeg, Int.reduceEq, reduceIte, Nat.zero_le, Nat.reduceLeDiff, Nat.le_refl, Nat.reduceEqDiff, List.getElem?_cons_zero, List.getElem?_cons_succ, xst, List.set_cons_zero, List.set_cons_succ, List.map_cons, List.map_nil, List.sum_cons, List.sum_nil, xcat, Nat.reduceMul, Nat.reduceDiv, Nat.reduceMod, Nat.add_zero, e_nil, e_iconst, e_il, e_al, e_ll, e_istore, e_astore, e_lstore, e_ic, e_iadd, e_isub, e_imul, e_iand, e_ior, e_ixor, e_ishl, e_ishr, e_ineg, e_dupi, e_dupr, e_dupx, e_dup2, e_popi, eo_g0, eo_g1, eo_g2, eo_g3, eo_g4, eo_g5, eo_g6, eo_g7, eo_g8, eo_g9, eo_g10, eo_g11, eo_g12, eo_g13, eo_g14, eo_s14, eo_g15, eo_g16, eo_s16, et_g0, et_g1, et_s1, et_g2, et_s2, et_g3, et_s3, et_g4, et_s4, eu_g0, eu_g1, eu_s1, eu_g2, eu_g3, eu_s3, eu_g4, eh_g0, eh_g1, eh_s1, eh_g2, eh_s2, ed_g0, ed_g1, ed_g2, ed_g3, ed_s3, ew_g0, ew_g1, ew_g2, ew_g3, ew_s3, en_g0, en_g1, en_s1, en_g2, en_g3, en_g4, en_g5, en_s5, ex_g0, ex_s0, eq_g0, eq_s0, eq_g1, eq_s1, eq_g2, eq_s2, eq_g3, eq_s3, eq_g4, eq_s4, eq_g5, eq_s5, eq_g6, eq_s6, eq_g7, eq_s7, ez_g0, ez_g1, ez_g2, ez_g3, ez_s3, ez_g4, ez_s4, ez_g5, ez_s5, ez_g6, ez_s6, ez_g7, ez_s7, ez_g8, ez_s8, ez_g9, ez_s9, ez_g10, ez_s10, ez_g11, ez_s11, ez_g12, ez_s12, ez_g13, ez_s13, ez_g14, ez_g15, ez_b0g, ez_b0s, ez_b1g, ez_b1s, ez_b2g, ez_b2s, ez_b3g, ez_b3s, ez_b4g, ez_b4s, ez_b5g, ez_b5s, ez_ba, ez_g0g, ez_g0s, ez_g1g, ez_g1s, ez_g2g, ez_g2s, ez_g3g, ez_g3s, ez_g4g, ez_g4s, ez_g5g, ez_g5s, ez_g6g, ez_g6s, ez_g7g, ez_g7s, ez_ga, ez_l0g, ez_l0s, ez_l1g, ez_l1s, ez_l2g, ez_l2s, ez_la, q_zs, q_zz, q_z1, q_z2, q_i2, q_ig, q_iz, q_jz, true_and, false_and, or_self, or_true, true_or, or_false, false_or, and_true, and_false, and_self, not_true_eq_false, not_false_eq_true, d, e_iushr, ek]
theorem c_seaStep (hK : kxOk (rK r)) {z : Nat → Int} (hz : zKx (rK r) z) {M : Nat} (hM : M ≤ 10) (hru : ruleOk c (kSize (rK r)) (kText (rK r))) {p : Int} (hp : 1 ≤ p) {d w s : Int} {A : (Nat → Int) × xT5} (hA : cOk (rK r) M A) {sd m : Int} {i : Nat} (hi : (i : Int) < m) (hi2 : i < 100) (t J : Nat → Int) : ∃ (t' J' : Nat → Int) (w' s' : Int), lX11_season_39 (gg (n + 7)) ([.inr (.inr (.inl (0, 0))), .inl sd, .inl m, .inl p, .inl (i : Int)], [], hC h (q_i (q_z (q_j c 6 J) 1 (zw (xfu (xfu z 134 w) 135 s) A.1 A.2 t)) 14 d)) = some (.inl 1, ([.inr (.inr (.inl (0, 0))), .inl sd, .inl m, .inl p, .inl ((i + 1 : Nat) : Int)], [], hC h (q_i (q_z (q_j c 6 J') 1 (zw (xfu (xfu z 134 w') 135 s') (cSea1 (rK r) p (d, A)).2.1 (cSea1 (rK r) p (d, A)).2.2 t')) 14 (cSea1 (rK r) p (d, A)).1))) := by
  have hN := hK.2.1
  have d1 : ¬ m ≤ (i : Int) := by omega
  have x1 : xw ((i : Int) + 1) = ((i + 1 : Nat) : Int) := by rw [xw_id (by omega) (by omega)]; omega
  unfold cSea1
  dsimp only
  generalize hd1 : dNext d = d1v
  generalize hd2 : dNext d1v = d2v
  generalize hd3 : dNext d2v = d3v
  generalize hw1 : dDraw d1v 10 = w1
  generalize hg : dDraw d3v 8 = g
  have hgr : -8 < g ∧ g < 8 := by
    rw [← hg]
    unfold dDraw
    exact ⟨by have := Int.lt_tmod_of_pos (xushr d3v 16) (b := 8) (by decide); omega, Int.tmod_lt_of_pos _ (by decide)⟩
  have n1 := fun (q : xQ) => c_next (n := n + 6) (h := h) (c := q_i q 14 d) (k := 10) (by decide)
  have n2 := fun (q : xQ) => c_next (n := n + 6) (h := h) (c := q_i q 14 d1v) (k := p) hp
  have n3 := fun (q : xQ) => c_next (n := n + 6) (h := h) (c := q_i q 14 d2v) (k := 8) (by decide)
  have e14 : ∀ (q : xQ) (v : Int), (q_i q 14 v).1 14 = v := fun q v => by rw [q_ig, if_pos rfl]
  simp only [e14, hd1, hd2, hd3, hw1, hg, q_ii] at n1 n2 n3
  generalize hs1 : (if dDraw d2v p = 0 then (1 : Int) else 0) = s1
  -- the sea after wind, storm
  have hzz : zKx (kWS (rK r) w1 s1) (xfu (xfu z 134 w1) 135 s1) := by
    refine ⟨?_, ?_, fun g hg => ?_, ?_, ?_⟩
    · rw [xfu_ne _ _ (by decide), xfu_ne _ _ (by decide)]; exact hz.1
    · rw [xfu_ne _ _ (by decide), xfu_ne _ _ (by decide)]; exact hz.2.1
    · rw [xfu_ne _ _ (show 116 + g ≠ 135 by have : g < 8 := Nat.lt_of_lt_of_le hg hN; omega), xfu_ne _ _ (show 116 + g ≠ 134 by have : g < 8 := Nat.lt_of_lt_of_le hg hN; omega), xfu_ne _ _ (show 124 + g ≠ 135 by have : g < 8 := Nat.lt_of_lt_of_le hg hN; omega), xfu_ne _ _ (show 124 + g ≠ 134 by have : g < 8 := Nat.lt_of_lt_of_le hg hN; omega)]
      exact hz.2.2.1 g hg
    · rw [xfu_ne _ _ (by decide), xfu_self]; rfl
    · rw [xfu_self]; rfl
  have hgA := cOk_G hK hA g
  obtain ⟨t', J', f5⟩ := c_pass (n := n + 1) (h := h) (c := q_i (q_j c 6 J) 14 d3v) (k := 1) (z := xfu (xfu z 134 w1) 135 s1) (t := t) (by decide) (kxOk_ws hK w1 s1) hzz hM (cOk_ws hgA w1 s1) (ruleOk_q (c := c) rfl rfl hru) (m := 1) (by omega)
  have e1 : cPass (kWS (rK r) w1 s1) 1 (cSeaG (kN (rK r)) g A) = cHalf (kWS (rK r) w1 s1) (cSeaG (kN (rK r)) g A) := rfl
  rw [e1] at f5
  have f4 : ∃ v, (gg (n + 7) 51).2 [.inr (.inr (.inl (4, 0))), .inl g, .inl (-1)] (hC h (q_i (q_z (q_j c 6 J) 1 (zw (xfu (xfu z 134 w1) 135 s1) A.1 A.2 t)) 14 d3v)) = some (some (.inl v), hC h (q_i (q_z (q_j c 6 J) 1 (zw (xfu (xfu z 134 w1) 135 s1) (cSeaG (kN (rK r)) g A).1 (cSeaG (kN (rK r)) g A).2 t)) 14 d3v)) := by
    have hh : 0 ≤ g → g < (q_i (q_z (q_j c 6 J) 1 (zw (xfu (xfu z 134 w1) 135 s1) A.1 A.2 t)) 14 d3v).2.2 1 133 → g < 8 → 0 ≤ (q_i (q_z (q_j c 6 J) 1 (zw (xfu (xfu z 134 w1) 135 s1) A.1 A.2 t)) 14 d3v).2.2 1 (116 + g.toNat) ∧ (q_i (q_z (q_j c 6 J) 1 (zw (xfu (xfu z 134 w1) 135 s1) A.1 A.2 t)) 14 d3v).2.2 1 (116 + g.toNat) < 6 := by
      intro y1 y2 y3
      rw [q_i2, q_zs] at y2 ⊢
      rw [zw_133, hzz.2.1] at y2
      rw [zw_z (by omega) (by omega), ← (hzz.2.2.1 g.toNat (by show g.toNat < kN (rK r); have : g < (kN (rK r) : Int) := y2; omega)).1]
      have := hK.2.2 g.toNat (by have : g < (kN (rK r) : Int) := y2; omega)
      have hB := hK.1
      show 0 ≤ kHome (rK r) g.toNat ∧ kHome (rK r) g.toNat < 6
      omega
    have f := c_send (n := n + 4) (h := h) (c := q_i (q_z (q_j c 6 J) 1 (zw (xfu (xfu z 134 w1) 135 s1) A.1 A.2 t)) 14 d3v) (k := 1) (by decide) g (-1) hh
    have e2 : (cSend ((q_i (q_z (q_j c 6 J) 1 (zw (xfu (xfu z 134 w1) 135 s1) A.1 A.2 t)) 14 d3v).2.2 1) g (-1)).2 = zw (xfu (xfu z 134 w1) 135 s1) (cSeaG (kN (rK r)) g A).1 (cSeaG (kN (rK r)) g A).2 t := by
      rw [q_i2, q_zs]
      unfold cSend cSeaG
      rw [zw_133, hzz.2.1]
      by_cases c1 : 0 ≤ g ∧ g < (kN (rK r) : Int)
      · rw [if_pos ⟨c1.1, c1.2, hgr.2⟩, zw_a (by omega)]
        by_cases c2 : A.1 (68 + g.toNat) = 0
        · rw [if_pos c2, if_pos (Or.inl rfl), if_pos ⟨c1, c2⟩]
          exact zw_send (by omega)
        · rw [if_neg c2, if_neg (fun z => c2 z.2)]
      · rw [if_neg (fun z => c1 ⟨z.1, z.2.1⟩), if_neg (fun z => c1 z.1)]
    rw [e2, q_iz, q_zz] at f
    rw [q_iz]
    exact ⟨_, f⟩
  obtain ⟨v4, f4⟩ := f4
  refine ⟨t', J', w1, s1, ?_⟩
  generalize cSeaG (kN (rK r)) g A = A1 at *
  generalize cHalf (kWS (rK r) w1 s1) A1 = A2 at *
  have f5 : (gg (n + 7) 58).2 [.inr (.inr (.inl (4, 0))), .inl 1] (hC h (q_z (q_i (q_j c 6 J) 14 d3v) 1 (zw (xfu (xfu z 134 w1) 135 s1) A1.1 A1.2 t))) = some (none, hC h (q_z (q_j (q_i (q_j c 6 J) 14 d3v) 6 J') 1 (zw (xfu (xfu z 134 w1) 135 s1) A2.1 A2.2 t'))) := f5
  rw [q_ij, q_jj] at f5
  rw [q_iz] at f4
  have p4 : ∀ zz v, xfu (zw zz A.1 A.2 t) 134 v = zw (xfu zz 134 v) A.1 A.2 t := fun zz v => zw_pz (by decide) (by decide)
  have p5 : ∀ zz v, xfu (zw zz A.1 A.2 t) 135 v = zw (xfu zz 135 v) A.1 A.2 t := fun zz v => zw_pz (by decide) (by decide)
  have c3 : ∀ v : Int, xfu (xfu (xfu z 134 w) 135 s) 134 v = xfu (xfu z 134 v) 135 s := fun v => by rw [xfu_comm _ _ _ (by decide), xfu_twice]
  have c4 : ∀ v : Int, xfu (xfu (xfu z 134 w1) 135 s) 135 v = xfu (xfu z 134 w1) 135 v := fun v => by rw [xfu_twice]
  rw [q_iz, q_iz]
  have n1 : ∀ (zz : Nat → Int), (gg (n + 7) 10).2 [.inr (.inr (.inl (0, 24))), .inl 10] (hC h (q_z (q_i (q_j c 6 J) 14 d) 1 zz)) = some (some (.inl w1), hC h (q_z (q_i (q_j c 6 J) 14 d1v) 1 zz)) := fun zz => n1 (q_z (q_j c 6 J) 1 zz)
  have n2 : ∀ (zz : Nat → Int), (gg (n + 7) 10).2 [.inr (.inr (.inl (0, 24))), .inl p] (hC h (q_z (q_i (q_j c 6 J) 14 d1v) 1 zz)) = some (some (.inl (dDraw d2v p)), hC h (q_z (q_i (q_j c 6 J) 14 d2v) 1 zz)) := fun zz => n2 (q_z (q_j c 6 J) 1 zz)
  have n3 : ∀ (zz : Nat → Int), (gg (n + 7) 10).2 [.inr (.inr (.inl (0, 24))), .inl 8] (hC h (q_z (q_i (q_j c 6 J) 14 d2v) 1 zz)) = some (some (.inl g), hC h (q_z (q_i (q_j c 6 J) 14 d3v) 1 zz)) := fun zz => n3 (q_z (q_j c 6 J) 1 zz)
  clear hz hzz hru hA hgA e1 hgr e14 hK hd1 hd2 hd3 hw1 hg
  by_cases cs : dDraw d2v p = 0
  · rw [if_pos cs] at hs1
    subst hs1
    simp -implicitDefEqProofs (disch := first | with_reducible assumption | with_reducible exact isc_zs (by assumption) | with_reducible exact isc_zs (by decide) | with_reducible exact isc_zb (by assumption) (by assumption) | with_reducible exact isc_zb (by decide) (by assumption) | with_reducible exact isc_zg (by assumption) (by assumption) | with_reducible exact isc_zl (by assumption) (by assumption) | with_reducible exact isc_0 | with_reducible exact isc_1 | with_reducible exact isc_3 | with_reducible exact isc_7 | with_reducible exact isc_11 | with_reducible exact isc_15 | with_reducible exact isc_19 | with_reducible exact isc_24 | with_reducible exact isc_25 | (simp only [List.map_cons, List.map_nil, List.sum_cons, List.sum_nil, xcat, Nat.reduceAdd, Nat.reduceLeDiff, Nat.zero_le]; done) | omega) only [lX11_season_39, k_p_sq, k_p_blk, k_sq0, k_sq11, k_sq12, k_sq13, k_sq14, k_sq15, k_sqr, k_sqi, k_blk0, k_blk1, k_blk2, k_blk3, k_blk4, k_blk5, k_blkr, k_blki, k_finr, k_fini, k_mapi, k_bindi, k_if1, k_if2, k_ops, k_br, k_rv, k_ri, k_rl, k_rz, k_rzi, k_01d, k_sw, k_01a, k_01b, k_01c, k_ifn, x_cmp, decide_eq_true_eq, Option.map_some, Option.bind_some, Option.toList_some, Option.toList_none, List.cons_append, List.nil_append, Nat.reduceAdd, true_or, or_true, Int.reduceNeg, Int.reduceEq, reduceIte, Nat.zero_le, Nat.reduceLeDiff, Nat.le_refl, Nat.reduceEqDiff, List.getElem?_cons_zero, List.getElem?_cons_succ, xst, List.set_cons_zero, List.set_cons_succ, List.map_cons, List.map_nil, List.sum_cons, List.sum_nil, xcat, Nat.reduceMul, Nat.reduceDiv, Nat.reduceMod, Nat.add_zero, e_nil, e_iconst, e_il, e_al, e_ll, e_istore, e_astore, e_lstore, e_ic, e_iadd, e_isub, e_imul, e_iand, e_ior, e_ixor, e_ishl, e_ishr, e_ineg, e_dupi, e_dupr, e_dupx, e_dup2, e_popi, eo_g0, eo_g1, eo_g2, eo_g3, eo_g4, eo_g5, eo_g6, eo_g7, eo_g8, eo_g9, eo_g10, eo_g11, eo_g12, eo_g13, eo_g14, eo_s14, eo_g15, eo_g16, eo_s16, et_g0, et_g1, et_s1, et_g2, et_s2, et_g3, et_s3, et_g4, et_s4, eu_g0, eu_g1, eu_s1, eu_g2, eu_g3, eu_s3, eu_g4, eh_g0, eh_g1, eh_s1, eh_g2, eh_s2, ed_g0, ed_g1, ed_g2, ed_g3, ed_s3, ew_g0, ew_g1, ew_g2, ew_g3, ew_s3, en_g0, en_g1, en_s1, en_g2, en_g3, en_g4, en_g5, en_s5, ex_g0, ex_s0, eq_g0, eq_s0, eq_g1, eq_s1, eq_g2, eq_s2, eq_g3, eq_s3, eq_g4, eq_s4, eq_g5, eq_s5, eq_g6, eq_s6, eq_g7, eq_s7, ez_g0, ez_g1, ez_g2, ez_g3, ez_s3, ez_g4, ez_s4, ez_g5, ez_s5, ez_g6, ez_s6, ez_g7, ez_s7, ez_g8, ez_s8, ez_g9, ez_s9, ez_g10, ez_s10, ez_g11, ez_s11, ez_g12, ez_s12, ez_g13, ez_s13, ez_g14, ez_g15, ez_b0g, ez_b0s, ez_b1g, ez_b1s, ez_b2g, ez_b2s, ez_b3g, ez_b3s, ez_b4g, ez_b4s, ez_b5g, ez_b5s, ez_ba, ez_g0g, ez_g0s, ez_g1g, ez_g1s, ez_g2g, ez_g2s, ez_g3g, ez_g3s, ez_g4g, ez_g4s, ez_g5g, ez_g5s, ez_g6g, ez_g6s, ez_g7g, ez_g7s, ez_ga, ez_l0g, ez_l0s, ez_l1g, ez_l1s, ez_l2g, ez_l2s, ez_la, q_zs, q_zz, q_z1, q_z2, q_i2, q_ig, q_iz, q_jz, true_and, false_and, or_self, or_true, true_or, or_false, false_or, and_true, and_false, and_self, not_true_eq_false, not_false_eq_true, d1, ec10, n1, n2, n3, cs, p4, p5, c3, c4, ec51, f4, ec58, f5, x1]
  · rw [if_neg cs] at hs1
    subst hs1
    simp -implicitDefEqProofs (disch := first | with_reducible assumption | with_reducible exact isc_zs (by assumption) | with_reducible exact isc_zs (by decide) | with_reducible exact isc_zb (by assumption) (by assumption) | with_reducible exact isc_zb (by decide) (by assumption) | with_reducible exact isc_zg (by assumption) (by assumption) | with_reducible exact isc_zl (by assumption) (by assumption) | with_reducible exact isc_0 | with_reducible exact isc_1 | with_reducible exact isc_3 | with_reducible exact isc_7 | with_reducible exact isc_11 | with_reducible exact isc_15 | with_reducible exact isc_19 | with_reducible exact isc_24 | with_reducible exact isc_25 | (simp only [List.map_cons, List.map_nil, List.sum_cons, List.sum_nil, xcat, Nat.reduceAdd, Nat.reduceLeDiff, Nat.zero_le]; done) | omega) only [lX11_season_39, k_p_sq, k_p_blk, k_sq0, k_sq11, k_sq12, k_sq13, k_sq14, k_sq15, k_sqr, k_sqi, k_blk0, k_blk1, k_blk2, k_blk3, k_blk4, k_blk5, k_blkr, k_blki, k_finr, k_fini, k_mapi, k_bindi, k_if1, k_if2, k_ops, k_br, k_rv, k_ri, k_rl, k_rz, k_rzi, k_01d, k_sw, k_01a, k_01b, k_01c, k_ifn, x_cmp, decide_eq_true_eq, Option.map_some, Option.bind_some, Option.toList_some, Option.toList_none, List.cons_append, List.nil_append, Nat.reduceAdd, true_or, or_true, Int.reduceNeg, Int.reduceEq, reduceIte, Nat.zero_le, Nat.reduceLeDiff, Nat.le_refl, Nat.reduceEqDiff, List.getElem?_cons_zero, List.getElem?_cons_succ, xst, List.set_cons_zero, List.set_cons_succ, List.map_cons, List.map_nil, List.sum_cons, List.sum_nil, xcat, Nat.reduceMul, Nat.reduceDiv, Nat.reduceMod, Nat.add_zero, e_nil, e_iconst, e_il, e_al, e_ll, e_istore, e_astore, e_lstore, e_ic, e_iadd, e_isub, e_imul, e_iand, e_ior, e_ixor, e_ishl, e_ishr, e_ineg, e_dupi, e_dupr, e_dupx, e_dup2, e_popi, eo_g0, eo_g1, eo_g2, eo_g3, eo_g4, eo_g5, eo_g6, eo_g7, eo_g8, eo_g9, eo_g10, eo_g11, eo_g12, eo_g13, eo_g14, eo_s14, eo_g15, eo_g16, eo_s16, et_g0, et_g1, et_s1, et_g2, et_s2, et_g3, et_s3, et_g4, et_s4, eu_g0, eu_g1, eu_s1, eu_g2, eu_g3, eu_s3, eu_g4, eh_g0, eh_g1, eh_s1, eh_g2, eh_s2, ed_g0, ed_g1, ed_g2, ed_g3, ed_s3, ew_g0, ew_g1, ew_g2, ew_g3, ew_s3, en_g0, en_g1, en_s1, en_g2, en_g3, en_g4, en_g5, en_s5, ex_g0, ex_s0, eq_g0, eq_s0, eq_g1, eq_s1, eq_g2, eq_s2, eq_g3, eq_s3, eq_g4, eq_s4, eq_g5, eq_s5, eq_g6, eq_s6, eq_g7, eq_s7, ez_g0, ez_g1, ez_g2, ez_g3, ez_s3, ez_g4, ez_s4, ez_g5, ez_s5, ez_g6, ez_s6, ez_g7, ez_s7, ez_g8, ez_s8, ez_g9, ez_s9, ez_g10, ez_s10, ez_g11, ez_s11, ez_g12, ez_s12, ez_g13, ez_s13, ez_g14, ez_g15, ez_b0g, ez_b0s, ez_b1g, ez_b1s, ez_b2g, ez_b2s, ez_b3g, ez_b3s, ez_b4g, ez_b4s, ez_b5g, ez_b5s, ez_ba, ez_g0g, ez_g0s, ez_g1g, ez_g1s, ez_g2g, ez_g2s, ez_g3g, ez_g3s, ez_g4g, ez_g4s, ez_g5g, ez_g5s, ez_g6g, ez_g6s, ez_g7g, ez_g7s, ez_ga, ez_l0g, ez_l0s, ez_l1g, ez_l1s, ez_l2g, ez_l2s, ez_la, q_zs, q_zz, q_z1, q_z2, q_i2, q_ig, q_iz, q_jz, true_and, false_and, or_self, or_true, true_or, or_false, false_or, and_true, and_false, and_self, not_true_eq_false, not_false_eq_true, d1, ec10, n1, n2, n3, cs, p4, p5, c3, c4, ec51, f4, ec58, f5, x1]
end SN
