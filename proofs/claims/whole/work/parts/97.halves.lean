/-! ===== half, halves: the reference and the class alike ===== -/
theorem kNn_gull {kx : xKx} {B N g : Nat} (hB : B ≤ 6) (hN : N ≤ 8) (hg : g < N) {F : xFl} (hl : F.1 (76 + g) = -1 ∨ (0 ≤ F.1 (76 + g) ∧ F.1 (76 + g) < 10)) (h : kNn B N F.1) : kNn B N (kGull kx g F).1 := by
  obtain ⟨a, s⟩ := F
  unfold kGull
  dsimp only at hl h ⊢
  generalize rAim (kStorm kx) (kB kx) (kHome kx) a g = q
  generalize kRg kx a g (rFar a g q) = rg
  generalize (rToward (a (52 + g)) (if q = -1 then 0 else a q.toNat) rg) = v1
  generalize (mMax 0 (xw (rg - mAbs (xw (a (52 + g) - if q = -1 then 0 else a q.toNat))))) = v2
  generalize (rToward (xfu a (52 + g) v1 (60 + g)) (if q = -1 then 0 else a (6 + q.toNat)) v2) = v3
  have h2 : kNn B N (xfu (xfu a (52 + g) v1) (60 + g) v3) := kNn_w (kNn_w h (by omega)) (by omega)
  have e76 : (xfu (xfu a (52 + g) v1) (60 + g) v3) (76 + g) = a (76 + g) := by rw [xfu_ne _ _ (by omega), xfu_ne _ _ (by omega)]
  rw [← e76] at hl
  clear h e76
  generalize (xfu (xfu a (52 + g) v1) (60 + g) v3) = a2 at *
  have h44 := h2.2 g hg
  have hx : a2 (44 + g) < 9 → 0 ≤ xw (a2 (44 + g) + 1) := by
    intro z
    rw [xw_id (by omega) (by omega)]
    omega
  generalize a2 (76 + g) = l at *
  by_cases c1 : rFar a2 g q = 0
  · rw [if_pos c1]
    by_cases c2 : q = -1
    · rw [if_pos c2, if_pos c2, if_pos c2]
      by_cases c3 : l = -1
      · rw [if_pos c3]
        exact kNn_w (kNn_w (kNn_w (kNn_w h2 (by omega)) (by omega)) (by omega)) (by omega)
      · rw [if_neg c3]
        exact kNn_w (kNn_w (kNn_w (kNn_w (kNn_w (kNn_w h2 (by omega)) (by omega)) (by omega)) (by omega)) (by omega)) (by omega)
    · rw [if_neg c2, if_neg c2, if_neg c2]
      by_cases c3 : l = -1
      · rw [if_pos c3]
        exact kNn_w (kNn_w (kNn_w (kNn_w (kNn_w h2 (by omega)) (by omega)) (by omega)) (by omega)) (by omega)
      · rw [if_neg c3]
        exact kNn_w (kNn_w (kNn_w (kNn_w (kNn_w (kNn_w (kNn_w h2 (by omega)) (by omega)) (by omega)) (by omega)) (by omega)) (by omega)) (by omega)
  · rw [if_neg c1]
    by_cases c2 : a2 (44 + g) < 9
    · rw [if_pos c2]
      exact kNn_w h2 (Or.inl (hx c2))
    · rw [if_neg c2]
      by_cases c3 : l = -1
      · rw [if_pos c3]
        exact kNn_w (kNn_w h2 (by omega)) (by omega)
      · rw [if_neg c3]
        exact kNn_w (kNn_w (kNn_w (kNn_w h2 (by omega)) (by omega)) (by omega)) (by omega)
/-- what holds of a row -/
def kFine (kx : xKx) (M : Nat) (a : Nat → Int) : Prop := kSane (kB kx) (kN kx) a ∧ kNn (kB kx) (kN kx) a ∧ kBe M (kN kx) a ∧ a 114 = (M : Int)
theorem kFine_gull {kx : xKx} {M : Nat} (hK : kxOk kx) (hM : M ≤ 10) {F : xFl} (h : kFine kx M F.1) {g : Nat} (hg : g < kN kx) : kFine kx M (kGull kx g F).1 := by
  obtain ⟨h1, h2, h3, h4⟩ := h
  have hN : kN kx ≤ 8 := hK.2.1
  have hl : F.1 (76 + g) = -1 ∨ (0 ≤ F.1 (76 + g) ∧ F.1 (76 + g) < 10) := by have := h3 g hg; omega
  exact ⟨kSane_gull hK h1 hg hl F.2, kNn_gull hK.1 hN hg hl h2, kBe_gull hN hM hg h3, by rw [kGull_far (by omega) (by omega) hl]; exact h4⟩
theorem kFine_gulls {kx : xKx} {M : Nat} (hK : kxOk kx) (hM : M ≤ 10) {F : xFl} (h : kFine kx M F.1) : ∀ i, i ≤ kN kx → kFine kx M (kGulls kx i F).1
  | 0, _ => h
  | i + 1, hi => by
    have ih := kFine_gulls hK hM h i (by omega)
    unfold kGulls
    split
    · exact kFine_gull hK hM ih (by omega)
    · exact ih
theorem kFine_boats {kx : xKx} {M : Nat} (hK : kxOk kx) {a : Nat → Int} (h : kFine kx M a) : kFine kx M (xit boat1 (kB kx) a) := by
  obtain ⟨h1, h2, h3, h4⟩ := h
  have e : ∀ i, 24 ≤ i → xit boat1 (kB kx) a i = a i := fun i hi => boats_far hi _ _ hK.1
  refine ⟨kSane_boats h1 hK.1 hK.2.1 _ (Nat.le_refl _), ⟨fun b hb => ?_, fun g hg => ?_⟩, fun g hg => ?_, ?_⟩
  · rw [e _ (by omega)]; exact h2.1 b hb
  · rw [e _ (by omega)]; exact h2.2 g hg
  · rw [e _ (by omega)]; exact h3 g hg
  · rw [e _ (by omega)]; exact h4
theorem kFine_115 {kx : xKx} {M : Nat} (hK : kxOk kx) {a : Nat → Int} (h : kFine kx M a) (v : Int) : kFine kx M (xfu a 115 v) := by
  obtain ⟨h1, h2, h3, h4⟩ := h
  have hB : kB kx ≤ 6 := hK.1
  have hN : kN kx ≤ 8 := hK.2.1
  refine ⟨kSane_w h1 hB hN (by omega) v, kNn_w h2 (by omega), fun g hg => ?_, ?_⟩
  · rw [xfu_ne _ _ (by omega)]; exact h3 g hg
  · rw [xfu_ne _ _ (by omega)]; exact h4
theorem kFine_half {kx : xKx} {M : Nat} (hK : kxOk kx) (hM : M ≤ 10) {F : xFl} (h : kFine kx M F.1) : kFine kx M (kHalf kx F).1 := by
  unfold kHalf
  exact kFine_115 hK (kFine_gulls hK hM (F := (xit boat1 (kB kx) F.1, 0, 0, 0, F.2.2.2.2)) (kFine_boats hK h) _ (Nat.le_refl _)) _
theorem kFine_hs {kx : xKx} {M : Nat} (hK : kxOk kx) (hM : M ≤ 10) {P : xHs} (h : kFine kx M P.1.1) : ∀ m, kFine kx M (kHs kx m P).1.1
  | 0 => h
  | m + 1 => kFine_half hK hM (kFine_hs hK hM h m)
theorem kHs_eq {kx : xKx} {M : Nat} (hK : kxOk kx) (hM : M ≤ 10) {P P' : xHs} (hl : kBe M (kN kx) P.1.1) (e : kEq (kB kx) (kN kx) M P.1.1 P'.1.1) (e1 : P.1.2.2.2.2 = P'.1.2.2.2.2) (e2 : P.2 = P'.2) : ∀ m, kBe M (kN kx) (kHs kx m P).1.1 ∧ kEq (kB kx) (kN kx) M (kHs kx m P).1.1 (kHs kx m P').1.1 ∧ (kHs kx m P).1.2.2.2.2 = (kHs kx m P').1.2.2.2.2 ∧ (kHs kx m P).2 = (kHs kx m P').2
  | 0 => ⟨hl, e, e1, e2⟩
  | m + 1 => by
    obtain ⟨i1, i2, i3, i4⟩ := kHs_eq hK hM hl e e1 e2 m
    show kBe M (kN kx) (kHs1 kx (kHs kx m P)).1.1 ∧ kEq (kB kx) (kN kx) M (kHs1 kx (kHs kx m P)).1.1 (kHs1 kx (kHs kx m P')).1.1 ∧ (kHs1 kx (kHs kx m P)).1.2.2.2.2 = (kHs1 kx (kHs kx m P')).1.2.2.2.2 ∧ (kHs1 kx (kHs kx m P)).2 = (kHs1 kx (kHs kx m P')).2
    obtain ⟨j1, j2, j3⟩ := kHalf_eq (k := kx) (F := (kHs kx m P).1) (F' := (kHs kx m P').1) hK.1 hK.2.1 hM (Nat.le_refl _) (Nat.le_refl _) hK.2.2 i1 i2 i3
    unfold kHs1
    dsimp only
    refine ⟨j1, j2, by rw [j3], ?_⟩
    rw [i4, j3]
theorem Rel_kx {r : xR} {c : xQ} (hr : Rel r c) : kxOk (rK r) ∧ zKx (rK r) (c.2.2 0) ∧ ruleOk c (kSize (rK r)) (kText (rK r)) := by
  obtain ⟨h1, h2, h3, h4, h5, h6, h7, h8⟩ := hr
  exact ⟨⟨rB6 h1, rN8 h1, h1.2.2.1⟩, ⟨h2.1.1, h2.1.2.1, fun g hg => ⟨(h2.1.2.2.1 g hg).1.symm, (h2.1.2.2.1 g hg).2.symm⟩, h2.2.1, h2.2.2⟩, h6.2⟩
theorem sSea_fine {r : xR} {z a : Nat → Int} {M : Nat} (hm : a 114 = (M : Int)) (h : sSea r (kB (rK r)) (kN (rK r)) z a) : kFine (rK r) M a := by
  obtain ⟨h1, h2, h3, ⟨M', h4, h5, h6, h7⟩, h8, h9⟩ := h
  have e : M' = M := by omega
  subst e
  exact ⟨h8, h9, h7, h5⟩
theorem sSea_keq {r : xR} {B N : Nat} {z a : Nat → Int} {M : Nat} (hm : a 114 = (M : Int)) (h : sSea r B N z a) : kEq B N M z a := by
  obtain ⟨h1, h2, h3, ⟨M', h4, h5, h6, h7⟩, h8, h9⟩ := h
  have e : M' = M := by omega
  subst e
  exact h6
theorem cOk_sea {r : xR} {z a : Nat → Int} {M : Nat} (hB : kB (rK r) ≤ 6) (hN : kN (rK r) ≤ 8) (hm : a 114 = (M : Int)) (h : sSea r (kB (rK r)) (kN (rK r)) z a) {T : xT5} (hT : xin T.2.2.1) : cOk (rK r) M (z, T) := by
  have h6 := kEq_symm (sSea_keq hm h)
  obtain ⟨f1, f2, f3, f4⟩ := sSea_fine hm h
  exact ⟨kSane_eq hB hN h6 f1, by show z 114 = _; rw [← kEq_114 h6]; exact f4, kBe_eq hN h6 f3, hT⟩
theorem zw_clear (z : Nat → Int) : xfu (xfu (xfu (xfu z 136 0) 137 0) 138 0) 139 0 = zw z z (0, 0, 0, 0, z 140) z := by
  have e : xfu (xfu (xfu (xfu (zw z z (z 136, z 137, z 138, z 139, z 140) z) 136 0) 137 0) 138 0) 139 0 = zw z z (0, 0, 0, 0, z 140) z := by rw [zw_p136, zw_p137, zw_p138, zw_p139]
  rwa [zw_0] at e
/-- half hours over a sea that stands for a row: the sea then stands for the row then -/
theorem sea_pass {r : xR} {z a : Nat → Int} {M : Nat} (hK : kxOk (rK r)) (hM : M ≤ 10) (hm : a 114 = (M : Int)) (h : sSea r (kB (rK r)) (kN (rK r)) z a) (m : Nat) (w : Int) (t : Nat → Int) : sSea r (kB (rK r)) (kN (rK r)) (zw z (cPass (rK r) m (z, (0, 0, 0, 0, w))).1 (cPass (rK r) m (z, (0, 0, 0, 0, w))).2 t) (kPass (rK r) m a).1 ∧ ((cPass (rK r) m (z, (0, 0, 0, 0, w))).2.1, (cPass (rK r) m (z, (0, 0, 0, 0, w))).2.2.1, (cPass (rK r) m (z, (0, 0, 0, 0, w))).2.2.2.1, (cPass (rK r) m (z, (0, 0, 0, 0, w))).2.2.2.2.1) = (kPass (rK r) m a).2 := by
  have x0 : xin 0 := by unfold xin; omega
  obtain ⟨p1, p2, _⟩ := cPass_eq (kx := rK r) hK.2.1 z (0, 0, 0, 0, w) (0, 0, 0, fun _ => 0) x0 x0 x0 x0 m
  obtain ⟨f1, f2, f3, f4⟩ := sSea_fine hm h
  have h6 := kEq_symm (sSea_keq hm h)
  obtain ⟨q1, q2, _, q4⟩ := kHs_eq hK hM (P := ((a, 0, 0, 0, fun _ => 0), (0, 0, 0, 0))) (P' := ((z, 0, 0, 0, fun _ => 0), (0, 0, 0, 0))) f3 h6 rfl rfl m
  obtain ⟨g1, g2, g3, g4⟩ := kFine_hs hK hM (P := ((a, 0, 0, 0, fun _ => 0), (0, 0, 0, 0))) ⟨f1, f2, f3, f4⟩ m
  unfold kPass
  dsimp only
  have hN := hK.2.1
  refine ⟨⟨h.1, h.2.1, fun g hg => ?_, ⟨M, hM, g4, fun i hi => ?_, g3⟩, g1, g2⟩, ?_⟩
  · rw [zw_z (by omega) (by omega), zw_z (by omega) (by omega)]
    exact h.2.2.1 g hg
  · rw [zw_a (by unfold kLv at hi; omega), p1]
    exact (q2 i hi).symm
  · rw [q4]
    exact p2
section PH
variable {n : Nat} {h : xH} {c : xQ} {r : xR} {H : xH}
theorem qHold_j (c : xQ) (j : Nat) (f : Nat → Int) : qHold (q_j c j f) = q_j (qHold c) j f := by
  unfold qHold
  show (if c.1 9 < 12 then _ else _) = q_j (if c.1 9 < 12 then _ else _) j f
  split <;> rfl
theorem c_passTell (hr : Rel r c) {m : Nat} (hm : m ≤ 48) : ∃ (t J : Nat → Int), (gg (n + 8) 126).2 [.inr (.inr (.inl (0, 0))), .inl (m : Int)] (hC h c) = some (some (.inl (kPass (rK r) m (r.2 1)).2.1), hC h (qTell (if 0 < m then qHold (q_z (q_j (qMark r c) 6 J) 0 (zw (c.2.2 0) (cPass (rK r) m (c.2.2 0, (0, 0, 0, 0, c.2.2 0 140))).1 (cPass (rK r) m (c.2.2 0, (0, 0, 0, 0, c.2.2 0 140))).2 t)) else q_z (q_j (qMark r c) 6 J) 0 (zw (c.2.2 0) (cPass (rK r) m (c.2.2 0, (0, 0, 0, 0, c.2.2 0 140))).1 (cPass (rK r) m (c.2.2 0, (0, 0, 0, 0, c.2.2 0 140))).2 t)) [(kPass (rK r) m (r.2 1)).2.2.1, (kPass (rK r) m (r.2 1)).2.2.2.1, (kPass (rK r) m (r.2 1)).2.2.2.2])) := by
  obtain ⟨U, u1, u2, u3, u4⟩ := Rel_U hr
  obtain ⟨M, m1, m2, m3, m4⟩ := sSea_M hr.2.1.1
  obtain ⟨hK, hz, hru⟩ := Rel_kx hr
  have x0 : xin 0 := by unfold xin; omega
  have hA := cOk_sea (T := (0, 0, 0, 0, c.2.2 0 140)) hK.1 hK.2.1 m2 hr.2.1.1 x0
  have f1 := c_mark (n := n + 4) (h := h) hr
  have f2 := c_clear (n := n + 6) (h := h) (c := qMark r c) (k := 0) (by decide)
  rw [qMark_0, zw_clear] at f2
  obtain ⟨t, J, f3⟩ := c_pass (n := n + 1) (h := h) (c := qMark r c) (k := 0) (z := c.2.2 0) (t := c.2.2 0) (by decide) hK hz m1 hA hru (m := m) (by omega)
  obtain ⟨_, e2⟩ := sea_pass hK m1 m2 hr.2.1.1 m (c.2.2 0 140) t
  refine ⟨t, J, ?_⟩
  simp only [Prod.ext_iff] at e2
  obtain ⟨e1, e2, e3, e4⟩ := e2
  rw [← e1, ← e2, ← e3, ← e4]
  generalize cPass (rK r) m (c.2.2 0, (0, 0, 0, 0, c.2.2 0 140)) = A at *
  dsimp only at f3
  have f4 := c_holdM (n := n + 6) (h := h) (c := q_z (q_j (qMark r c) 6 J) 0 (zw (c.2.2 0) A.1 A.2 t)) u3 u4
  rw [qHold_z] at f4
  rw [qHold_z]
  have f1 : (gg (n + 7) 19).2 [.inr (.inr (.inl (0, 7))), .inr (.inr (.inl (3, 0)))] (hC h c) = some (none, hC h (qMark r c)) := f1
  have f2 : (gg (n + 7) 39).2 [.inr (.inr (.inl (3, 0)))] (hC h (qMark r c)) = some (none, hC h (q_z (qMark r c) 0 (zw (c.2.2 0) (c.2.2 0) (0, 0, 0, 0, c.2.2 0 140) (c.2.2 0)))) := f2
  have f3 : (gg (n + 7) 58).2 [.inr (.inr (.inl (3, 0))), .inl (m : Int)] (hC h (q_z (qMark r c) 0 (zw (c.2.2 0) (c.2.2 0) (0, 0, 0, 0, c.2.2 0 140) (c.2.2 0)))) = some (none, hC h (q_z (q_j (qMark r c) 6 J) 0 (zw (c.2.2 0) A.1 A.2 t))) := f3
  have i0 : ∀ c, x_isc (hC h c) 3 0 7 = true := fun c => isc_zs (k := 0) (by decide)
  rw [gr126]
  by_cases c1 : 0 < m
  · have c2 : ¬ (m : Int) ≤ 0 := by omega
    rw [if_pos c1]
    clear hr hK hz hru hA e1 e2 e3 e4 m1 m2 m3 m4
    generalize q_j (qMark r c) 6 J = c5 at *
    generalize qHold c5 = c6 at *
    generalize qMark r c = c4 at *
    simp -implicitDefEqProofs (disch := first | with_reducible assumption | with_reducible exact isc_zs (by assumption) | with_reducible exact isc_zs (by decide) | with_reducible exact isc_zb (by assumption) (by assumption) | with_reducible exact isc_zb (by decide) (by assumption) | with_reducible exact isc_zg (by assumption) (by assumption) | with_reducible exact isc_zl (by assumption) (by assumption) | with_reducible exact isc_0 | with_reducible exact isc_1 | with_reducible exact isc_3 | with_reducible exact isc_7 | with_reducible exact isc_11 | with_reducible exact isc_15 | with_reducible exact isc_19 | with_reducible exact isc_24 | with_reducible exact isc_25 | (simp only [List.map_cons, List.map_nil, List.sum_cons, List.sum_nil, xcat, Nat.reduceAdd, Nat.reduceLeDiff, Nat.zero_le]; done) | omega) only [fX11_passAndTell, k_p_sq, k_p_blk, k_sq0, k_sq11, k_sq12, k_sq13, k_sq14, k_sq15, k_sqr, k_sqi, k_blk0, k_blk1, k_blk2, k_blk3, k_blk4, k_blk5, k_blkr, k_blki, k_finr, k_fini, k_mapi, k_bindi, k_if1, k_if2, k_ops, k_br, k_rv, k_ri, k_rl, k_rz, k_rzi, k_01d, k_sw, k_01a, k_01b, k_01c, k_ifn, x_cmp, decide_eq_true_eq, Option.map_some, Option.bind_some, Option.toList_some, Option.toList_none, List.cons_append, List.nil_append, Nat.reduceAdd, true_or, or_true, Int.reduceNeg, Int.reduceEq, reduceIte, Nat.zero_le, Nat.reduceLeDiff, Nat.le_refl, Nat.reduceEqDiff, List.getElem?_cons_zero, List.getElem?_cons_succ, xst, List.set_cons_zero, List.set_cons_succ, List.map_cons, List.map_nil, List.sum_cons, List.sum_nil, xcat, Nat.reduceMul, Nat.reduceDiv, Nat.reduceMod, Nat.add_zero, e_nil, e_iconst, e_il, e_al, e_ll, e_istore, e_astore, e_lstore, e_ic, e_iadd, e_isub, e_imul, e_iand, e_ior, e_ixor, e_ishl, e_ishr, e_ineg, e_dupi, e_dupr, e_dupx, e_dup2, e_popi, eo_g0, eo_g1, eo_g2, eo_g3, eo_g4, eo_g5, eo_g6, eo_g7, eo_g8, eo_g9, eo_g10, eo_g11, eo_g12, eo_g13, eo_g14, eo_s14, eo_g15, eo_g16, eo_s16, et_g0, et_g1, et_s1, et_g2, et_s2, et_g3, et_s3, et_g4, et_s4, eu_g0, eu_g1, eu_s1, eu_g2, eu_g3, eu_s3, eu_g4, eh_g0, eh_g1, eh_s1, eh_g2, eh_s2, ed_g0, ed_g1, ed_g2, ed_g3, ed_s3, ew_g0, ew_g1, ew_g2, ew_g3, ew_s3, en_g0, en_g1, en_s1, en_g2, en_g3, en_g4, en_g5, en_s5, ex_g0, ex_s0, eq_g0, eq_s0, eq_g1, eq_s1, eq_g2, eq_s2, eq_g3, eq_s3, eq_g4, eq_s4, eq_g5, eq_s5, eq_g6, eq_s6, eq_g7, eq_s7, ez_g0, ez_g1, ez_g2, ez_g3, ez_s3, ez_g4, ez_s4, ez_g5, ez_s5, ez_g6, ez_s6, ez_g7, ez_s7, ez_g8, ez_s8, ez_g9, ez_s9, ez_g10, ez_s10, ez_g11, ez_s11, ez_g12, ez_s12, ez_g13, ez_s13, ez_g14, ez_g15, ez_b0g, ez_b0s, ez_b1g, ez_b1s, ez_b2g, ez_b2s, ez_b3g, ez_b3s, ez_b4g, ez_b4s, ez_b5g, ez_b5s, ez_ba, ez_g0g, ez_g0s, ez_g1g, ez_g1s, ez_g2g, ez_g2s, ez_g3g, ez_g3s, ez_g4g, ez_g4s, ez_g5g, ez_g5s, ez_g6g, ez_g6s, ez_g7g, ez_g7s, ez_ga, ez_l0g, ez_l0s, ez_l1g, ez_l1s, ez_l2g, ez_l2s, ez_la, q_zs, q_zz, q_z1, q_z2, q_i2, q_ig, q_iz, q_jz, true_and, false_and, or_self, or_true, true_or, or_false, false_or, and_true, and_false, and_self, not_true_eq_false, not_false_eq_true, i0, ec19, ec39, ec58, ec20, ec165, f1, f2, f3, f4, c_tellThree, c2, zw_136, zw_137, zw_138, zw_139, qTell_3]
  · have c2 : (m : Int) ≤ 0 := by omega
    rw [if_neg c1]
    clear hr hK hz hru hA e1 e2 e3 e4 m1 m2 m3 m4 f4
    generalize q_j (qMark r c) 6 J = c5 at *
    generalize qMark r c = c4 at *
    simp -implicitDefEqProofs (disch := first | with_reducible assumption | with_reducible exact isc_zs (by assumption) | with_reducible exact isc_zs (by decide) | with_reducible exact isc_zb (by assumption) (by assumption) | with_reducible exact isc_zb (by decide) (by assumption) | with_reducible exact isc_zg (by assumption) (by assumption) | with_reducible exact isc_zl (by assumption) (by assumption) | with_reducible exact isc_0 | with_reducible exact isc_1 | with_reducible exact isc_3 | with_reducible exact isc_7 | with_reducible exact isc_11 | with_reducible exact isc_15 | with_reducible exact isc_19 | with_reducible exact isc_24 | with_reducible exact isc_25 | (simp only [List.map_cons, List.map_nil, List.sum_cons, List.sum_nil, xcat, Nat.reduceAdd, Nat.reduceLeDiff, Nat.zero_le]; done) | omega) only [fX11_passAndTell, k_p_sq, k_p_blk, k_sq0, k_sq11, k_sq12, k_sq13, k_sq14, k_sq15, k_sqr, k_sqi, k_blk0, k_blk1, k_blk2, k_blk3, k_blk4, k_blk5, k_blkr, k_blki, k_finr, k_fini, k_mapi, k_bindi, k_if1, k_if2, k_ops, k_br, k_rv, k_ri, k_rl, k_rz, k_rzi, k_01d, k_sw, k_01a, k_01b, k_01c, k_ifn, x_cmp, decide_eq_true_eq, Option.map_some, Option.bind_some, Option.toList_some, Option.toList_none, List.cons_append, List.nil_append, Nat.reduceAdd, true_or, or_true, Int.reduceNeg, Int.reduceEq, reduceIte, Nat.zero_le, Nat.reduceLeDiff, Nat.le_refl, Nat.reduceEqDiff, List.getElem?_cons_zero, List.getElem?_cons_succ, xst, List.set_cons_zero, List.set_cons_succ, List.map_cons, List.map_nil, List.sum_cons, List.sum_nil, xcat, Nat.reduceMul, Nat.reduceDiv, Nat.reduceMod, Nat.add_zero, e_nil, e_iconst, e_il, e_al, e_ll, e_istore, e_astore, e_lstore, e_ic, e_iadd, e_isub, e_imul, e_iand, e_ior, e_ixor, e_ishl, e_ishr, e_ineg, e_dupi, e_dupr, e_dupx, e_dup2, e_popi, eo_g0, eo_g1, eo_g2, eo_g3, eo_g4, eo_g5, eo_g6, eo_g7, eo_g8, eo_g9, eo_g10, eo_g11, eo_g12, eo_g13, eo_g14, eo_s14, eo_g15, eo_g16, eo_s16, et_g0, et_g1, et_s1, et_g2, et_s2, et_g3, et_s3, et_g4, et_s4, eu_g0, eu_g1, eu_s1, eu_g2, eu_g3, eu_s3, eu_g4, eh_g0, eh_g1, eh_s1, eh_g2, eh_s2, ed_g0, ed_g1, ed_g2, ed_g3, ed_s3, ew_g0, ew_g1, ew_g2, ew_g3, ew_s3, en_g0, en_g1, en_s1, en_g2, en_g3, en_g4, en_g5, en_s5, ex_g0, ex_s0, eq_g0, eq_s0, eq_g1, eq_s1, eq_g2, eq_s2, eq_g3, eq_s3, eq_g4, eq_s4, eq_g5, eq_s5, eq_g6, eq_s6, eq_g7, eq_s7, ez_g0, ez_g1, ez_g2, ez_g3, ez_s3, ez_g4, ez_s4, ez_g5, ez_s5, ez_g6, ez_s6, ez_g7, ez_s7, ez_g8, ez_s8, ez_g9, ez_s9, ez_g10, ez_s10, ez_g11, ez_s11, ez_g12, ez_s12, ez_g13, ez_s13, ez_g14, ez_g15, ez_b0g, ez_b0s, ez_b1g, ez_b1s, ez_b2g, ez_b2s, ez_b3g, ez_b3s, ez_b4g, ez_b4s, ez_b5g, ez_b5s, ez_ba, ez_g0g, ez_g0s, ez_g1g, ez_g1s, ez_g2g, ez_g2s, ez_g3g, ez_g3s, ez_g4g, ez_g4s, ez_g5g, ez_g5s, ez_g6g, ez_g6s, ez_g7g, ez_g7s, ez_ga, ez_l0g, ez_l0s, ez_l1g, ez_l1s, ez_l2g, ez_l2s, ez_la, q_zs, q_zz, q_z1, q_z2, q_i2, q_ig, q_iz, q_jz, true_and, false_and, or_self, or_true, true_or, or_false, false_or, and_true, and_false, and_self, not_true_eq_false, not_false_eq_true, i0, ec19, ec39, ec58, ec165, f1, f2, f3, c_tellThree, c2, zw_136, zw_137, zw_138, zw_139, qTell_3]
end PH
