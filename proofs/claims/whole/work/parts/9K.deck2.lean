/-! ===== one gull alone flies as among the others ===== -/
/-- where the gull g came in its half hour (-1: not) -/
def oAim (kx : xKx) (g : Nat) (b : Nat → Int) : Int := (kGull kx g (b, 0, 0, 0, fun _ => -1)).2.2.2.2 g
theorem oAim_s (kx : xKx) (g : Nat) (b : Nat → Int) (s : Int × Int × Int × (Nat → Int)) : ((kGull kx g (b, s)).2.1 = s.1 ∧ oAim kx g b = -1 ∧ (kGull kx g (b, s)).2.2.2.2 = s.2.2.2) ∨ ((kGull kx g (b, s)).2.1 = xor_ s.1 (xshl 1 g) ∧ oAim kx g b ≠ -1 ∧ (kGull kx g (b, s)).2.2.2.2 = xfu s.2.2.2 g (oAim kx g b)) := by
  obtain ⟨c, d, x, t⟩ := s
  unfold oAim
  rcases kGull_s kx g b with ⟨a', e⟩ | ⟨a', q, v, hq, e⟩ | ⟨a', e⟩
  · rw [e, e]
    exact Or.inl ⟨rfl, rfl, rfl⟩
  · rw [e, e]
    dsimp only
    rw [xfu_self]
    exact Or.inr ⟨rfl, hq, rfl⟩
  · rw [e, e]
    exact Or.inl ⟨rfl, rfl, rfl⟩
theorem cFly_land (kx : xKx) (g : Nat) (b : Nat → Int) (T : xT5) : (cFly kx g b T).2.2.2.2.2 = if oAim kx g b = -1 then T.2.2.2.2 else oAim kx g b := by
  unfold cFly oAim
  dsimp only
  rcases kGull_s kx g b with ⟨a', e⟩ | ⟨a', q, v, hq, e⟩ | ⟨a', e⟩
  · rw [e, e]
  · rw [e, e]
  · rw [e, e]
section K2
variable {kx : xKx} {g M : Nat} {b b0 ct : Nat → Int}
theorem gulls_lt (hK : kxOk kx) (hM : M ≤ 10) (hg : g < kN kx) (h : k1Eq g b0 b) (hl : kBe M (kN kx) b0) : ∀ m, m ≤ g → k1Eq g (kGulls kx m (b0, 0, 0, 0, ct)).1 b ∧ ∃ c : Nat, c < 256 ∧ (kGulls kx m (b0, 0, 0, 0, ct)).2.1 = (c : Int) ∧ c.testBit g = false
  | 0, _ => ⟨h, 0, by decide, rfl, Nat.zero_testBit g⟩
  | m + 1, hm => by
    obtain ⟨i1, c, hc, i2, i3⟩ := gulls_lt hK hM hg h hl m (by omega)
    have hN := hK.2.1
    obtain ⟨l1, _⟩ := kGulls_far (k := kx) (i := 114) (by decide) hN hM (F := (b0, 0, 0, 0, ct)) hl m (by omega)
    unfold kGulls
    generalize kGulls kx m (b0, 0, 0, 0, ct) = F at *
    obtain ⟨a, s⟩ := F
    dsimp only at i1 i2 l1 ⊢
    have hl2 := l1 m (by omega)
    by_cases d : a (68 + m) = 1
    · rw [if_pos d]
      refine ⟨k1_t (k1_other (by omega) (by omega) (by omega) (by omega) s) i1, ?_⟩
      rcases oAim_s kx m a s with ⟨o1, _, _⟩ | ⟨o1, _, _⟩
      · exact ⟨c, hc, by rw [o1]; exact i2, i3⟩
      · refine ⟨c ||| 2 ^ m, Nat.or_lt_two_pow (n := 8) hc (Nat.pow_lt_pow_right (by decide) (by omega)), ?_, ?_⟩
        · rw [o1, i2]
          exact xor_set (by omega) (by omega)
        · rw [bit_or, i3]
          simp
          omega
    · rw [if_neg d]
      exact ⟨i1, c, hc, i2, i3⟩
theorem gulls_ge (hK : kxOk kx) (hM : M ≤ 10) (hg : g < kN kx) (h : k1Eq g b0 b) (hl : kBe M (kN kx) b0) (hf : b (68 + g) = 1) (T : xT5) : ∀ m, g < m → m ≤ kN kx → k1Eq g (kGulls kx m (b0, 0, 0, 0, ct)).1 (cFly kx g b T).1 ∧ ∃ c : Nat, c < 256 ∧ (kGulls kx m (b0, 0, 0, 0, ct)).2.1 = (c : Int) ∧ (c.testBit g = true ↔ oAim kx g b ≠ -1) ∧ (oAim kx g b ≠ -1 → (kGulls kx m (b0, 0, 0, 0, ct)).2.2.2.2 g = oAim kx g b)
  | 0, hm, _ => by omega
  | m + 1, hm, hm2 => by
    have hN := hK.2.1
    have hB := hK.1
    obtain ⟨l1, _⟩ := kGulls_far (k := kx) (i := 114) (by decide) hN hM (F := (b0, 0, 0, 0, ct)) hl m (by omega)
    have hl2 := l1 m (by omega)
    by_cases e : m = g
    · subst e
      obtain ⟨i1, c, hc, i2, i3⟩ := gulls_lt (ct := ct) hK hM hg h hl m (Nat.le_refl _)
      have hh := hK.2.2 m hg
      unfold kGulls
      generalize kGulls kx m (b0, 0, 0, 0, ct) = F at *
      obtain ⟨a, s⟩ := F
      dsimp only at i1 i2 l1 hl2 ⊢
      rw [if_pos (by rw [k1_68 i1]; exact hf)]
      obtain ⟨j1, j2⟩ := k1_gull i1 (by omega) hB hh.1 (by omega) s (k := kx)
      refine ⟨by rw [cFly_1 kx m b T s]; exact j1, ?_⟩
      rw [j2]
      rcases oAim_s kx m b s with ⟨o1, o2, o3⟩ | ⟨o1, o2, o3⟩
      · refine ⟨c, hc, by rw [o1]; exact i2, ?_, fun z => absurd o2 z⟩
        rw [i3]
        simp [o2]
      · refine ⟨c ||| 2 ^ m, Nat.or_lt_two_pow (n := 8) hc (Nat.pow_lt_pow_right (by decide) (by omega)), ?_, ?_, fun _ => ?_⟩
        · rw [o1, i2]
          exact xor_set (by omega) (by omega)
        · rw [bit_or]
          simp [o2]
        · rw [o3, xfu_self]
    · obtain ⟨i1, c, hc, i2, i3, i4⟩ := gulls_ge hK hM hg h hl hf T m (by omega) (by omega)
      unfold kGulls
      generalize kGulls kx m (b0, 0, 0, 0, ct) = F at *
      obtain ⟨a, s⟩ := F
      dsimp only at i1 i2 i4 l1 hl2 ⊢
      by_cases d : a (68 + m) = 1
      · rw [if_pos d]
        refine ⟨k1_t (k1_other e (by omega) (by omega) (by omega) s) i1, ?_⟩
        rcases oAim_s kx m a s with ⟨o1, _, o3⟩ | ⟨o1, _, o3⟩
        · exact ⟨c, hc, by rw [o1]; exact i2, i3, fun z => by rw [o3]; exact i4 z⟩
        · refine ⟨c ||| 2 ^ m, Nat.or_lt_two_pow (n := 8) hc (Nat.pow_lt_pow_right (by decide) (by omega)), ?_, ?_, fun z => ?_⟩
          · rw [o1, i2]
            exact xor_set (by omega) (by omega)
          · rw [bit_or, ← i3]
            simp [e]
          · rw [o3, xfu_ne _ _ (Ne.symm e)]
            exact i4 z
      · rw [if_neg d]
        exact ⟨i1, c, hc, i2, i3, i4⟩
theorem half_one (hK : kxOk kx) (hM : M ≤ 10) (hg : g < kN kx) {F : xFl} {A : (Nat → Int) × xT5} (h : k1Eq g F.1 A.1) (hl : kBe M (kN kx) F.1) (hf : A.1 (68 + g) = 1) (hL : A.2.2.2.2.2 = -1) : k1Eq g (kHalf kx F).1 (cOne kx g A).1 ∧ (xand (xshr (kHalf kx F).2.1 (g : Int)) 1 = 1 ↔ (cOne kx g A).2.2.2.2.2 ≠ -1) ∧ ((cOne kx g A).2.2.2.2.2 ≠ -1 → (kHalf kx F).2.2.2.2 g = (cOne kx g A).2.2.2.2.2) := by
  obtain ⟨a, s1, s2, s3, ct⟩ := F
  obtain ⟨a', T⟩ := A
  dsimp only at h hl hf hL
  have hN := hK.2.1
  have h2 := k1_boats h (kB kx) hK.1
  have l2 : kBe M (kN kx) (xit boat1 (kB kx) a) := fun g hg => by rw [boats_far (by omega) _ _ hK.1]; exact hl g hg
  have f2 : xit boat1 (kB kx) a' (68 + g) = 1 := by rw [boats_far (by omega) _ _ hK.1]; exact hf
  obtain ⟨i1, c, hc, i2, i3, i4⟩ := gulls_ge (ct := ct) hK hM hg h2 l2 f2 T (kN kx) hg (Nat.le_refl _)
  unfold kHalf cOne
  dsimp only
  rw [cFly_land, hL]
  generalize kGulls kx (kN kx) (xit boat1 (kB kx) a, 0, 0, 0, ct) = F at *
  have e1 : (if oAim kx g (xit boat1 (kB kx) a') = -1 then -1 else oAim kx g (xit boat1 (kB kx) a')) = oAim kx g (xit boat1 (kB kx) a') := by
    split
    · rename_i z; exact z.symm
    · rfl
  rw [e1]
  refine ⟨k1_w i1 _ (by rw [i1.2.2]), ?_, i4⟩
  rw [i2, xbit_n (by omega) (by omega)]
  exact i3
/-- when the gull comes: as the class reckons it, as the reference does -/
theorem come_eq (hK : kxOk kx) (hM : M ≤ 10) (hg : g < kN kx) : ∀ (m t : Nat) (F : xFl) (A : (Nat → Int) × xT5), k1Eq g F.1 A.1 → kBe M (kN kx) F.1 → A.2.2.2.2.2 = -1 → ((cCome kx g m t A).1 = -1 ∧ (kCome kx g m t F).1 = -2) ∨ (∃ t' : Nat, t ≤ t' ∧ t' < t + m ∧ (cCome kx g m t A).1 = (t' : Int) ∧ (kCome kx g m t F).1 = (t' : Int) ∧ (kCome kx g m t F).2 = (cCome kx g m t A).2.2.2.2.2.2)
  | 0, t, F, A, _, _, _ => Or.inl ⟨rfl, rfl⟩
  | m + 1, t, F, A, h, hl, hL => by
    unfold cCome kCome
    rw [k1_68 h]
    by_cases d : A.1 (68 + g) = 1
    · rw [if_pos d, if_pos d]
      obtain ⟨j1, j2, j3⟩ := half_one hK hM hg h hl d hL
      by_cases d2 : (cOne kx g A).2.2.2.2.2 = -1
      · rw [if_pos d2, if_neg (fun z => (j2.1 z) d2)]
        have l2 := (kBe_half (k := kx) hK.1 hK.2.1 hM (Nat.le_refl _) hl).1
        rcases come_eq hK hM hg m (t + 1) (kHalf kx F) (cOne kx g A) j1 l2 d2 with i | ⟨t', i1, i2, i3, i4, i5⟩
        · exact Or.inl i
        · exact Or.inr ⟨t', by omega, by omega, i3, i4, i5⟩
      · rw [if_neg d2, if_pos (j2.2 d2)]
        exact Or.inr ⟨t, by omega, by omega, rfl, rfl, j3 d2⟩
    · rw [if_neg d, if_neg d]
      exact Or.inl ⟨rfl, rfl⟩
end K2
section PY
variable {n : Nat} {h : xH} {c : xQ} {r : xR} {H : xH} {k g : Nat} {z t : Nat → Int}
theorem cOk_one {kx : xKx} {M : Nat} (hK : kxOk kx) (hM : M ≤ 10) (hg : g < kN kx) {A : (Nat → Int) × xT5} (hA : cOk kx M A) : cOk kx M (cOne kx g A) := cOk_115 hK (cOk_fly hK hM (cOk_boats hK hA) hg) _
theorem c_deckL (hk : k < 17) {kx : xKx} (hK : kxOk kx) (hz : zKx kx z) {M : Nat} (hM : M ≤ 10) (hr : ruleOk c (kSize kx) (kText kx)) (hg : g < kN kx) : ∀ (m s : Nat) (A : (Nat → Int) × xT5) (J t : Nat → Int), s + m = 61 → cOk kx M A → A.2.2.2.2.2 = -1 → ∃ (J' t' : Nat → Int) (x : Int), p_lop (lX7_flyToDeck_7 (gg (n + 5))) ([.inr (.inr (.inl (k + 3, 0))), .inl (g : Int), .inl (s : Int)], [], hC h (q_z (q_j c 6 J) k (zw z A.1 A.2 t))) = if (cCome kx g m s A).1 = -1 then some (.inl 1, ([.inr (.inr (.inl (k + 3, 0))), .inl (g : Int), .inl x], [], hC h (q_z (q_j c 6 J') k (zw z (cCome kx g m s A).2.1 (cCome kx g m s A).2.2 t')))) else some (.inr (some (.inl (cCome kx g m s A).1)), ([.inr (.inr (.inl (k + 3, 0))), .inl (g : Int), .inl x], [], hC h (q_z (q_j c 6 J') k (zw z (cCome kx g m s A).2.1 (cCome kx g m s A).2.2 t'))))
  | 0, s, A, J, t, hs, hA, hL => by
    refine ⟨J, t, (s : Int), ?_⟩
    unfold cCome
    rw [if_pos rfl]
    refine k_l2 (k := 0) ?_
    have d : (60 : Int) < (s : Int) := by omega
    clear hz hK hr hA
    simp -implicitDefEqProofs (disch := first | with_reducible assumption | with_reducible exact isc_zs (by assumption) | with_reducible exact isc_zs (by decide) | with_reducible exact isc_zb (by assumption) (by assumption) | with_reducible exact isc_zb (by decide) (by assumption) | with_reducible exact isc_zg (by assumption) (by assumption) | with_reducible exact isc_zl (by assumption) (by assumption) | with_reducible exact isc_0 | with_reducible exact isc_1 | with_reducible exact isc_3 | with_reducible exact isc_7 | with_reducible exact isc_11 | with_reducible exact isc_15 | with_reducible exact isc_19 | with_reducible exact isc_24 | with_reducible exact isc_25 | (simp only [List.map_cons, List.map_nil, List.sum_cons, List.sum_nil, xcat, Nat.reduceAdd, Nat.reduceLeDiff, Nat.zero_le]; done) | omega) only [lX7_flyToDeck_7, k_p_sq, k_p_blk, k_sq0, k_sq11, k_sq12, k_sq13, k_sq14, k_sq15, k_sqr, k_sqi, k_blk0, k_blk1, k_blk2, k_blk3, k_blk4, k_blk5, k_blkr, k_blki, k_finr, k_fini, k_mapi, k_bindi, k_if1, k_if2, k_ops, k_br, k_rv, k_ri, k_rl, k_rz, k_rzi, k_01d, k_sw, k_01a, k_01b, k_01c, k_ifn, x_cmp, decide_eq_true_eq, Option.map_some, Option.bind_some, Option.toList_some, Option.toList_none, List.cons_append, List.nil_append, Nat.reduceAdd, true_or, or_true, Int.reduceNeg, Int.reduceEq, reduceIte, Nat.zero_le, Nat.reduceLeDiff, Nat.le_refl, Nat.reduceEqDiff, List.getElem?_cons_zero, List.getElem?_cons_succ, xst, List.set_cons_zero, List.set_cons_succ, List.map_cons, List.map_nil, List.sum_cons, List.sum_nil, xcat, Nat.reduceMul, Nat.reduceDiv, Nat.reduceMod, Nat.add_zero, e_nil, e_iconst, e_il, e_al, e_ll, e_istore, e_astore, e_lstore, e_ic, e_iadd, e_isub, e_imul, e_iand, e_ior, e_ixor, e_ishl, e_ishr, e_ineg, e_dupi, e_dupr, e_dupx, e_dup2, e_popi, eo_g0, eo_g1, eo_g2, eo_g3, eo_g4, eo_g5, eo_g6, eo_g7, eo_g8, eo_g9, eo_g10, eo_g11, eo_g12, eo_g13, eo_g14, eo_s14, eo_g15, eo_g16, eo_s16, et_g0, et_g1, et_s1, et_g2, et_s2, et_g3, et_s3, et_g4, et_s4, eu_g0, eu_g1, eu_s1, eu_g2, eu_g3, eu_s3, eu_g4, eh_g0, eh_g1, eh_s1, eh_g2, eh_s2, ed_g0, ed_g1, ed_g2, ed_g3, ed_s3, ew_g0, ew_g1, ew_g2, ew_g3, ew_s3, en_g0, en_g1, en_s1, en_g2, en_g3, en_g4, en_g5, en_s5, ex_g0, ex_s0, eq_g0, eq_s0, eq_g1, eq_s1, eq_g2, eq_s2, eq_g3, eq_s3, eq_g4, eq_s4, eq_g5, eq_s5, eq_g6, eq_s6, eq_g7, eq_s7, ez_g0, ez_g1, ez_g2, ez_g3, ez_s3, ez_g4, ez_s4, ez_g5, ez_s5, ez_g6, ez_s6, ez_g7, ez_s7, ez_g8, ez_s8, ez_g9, ez_s9, ez_g10, ez_s10, ez_g11, ez_s11, ez_g12, ez_s12, ez_g13, ez_s13, ez_g14, ez_g15, ez_b0g, ez_b0s, ez_b1g, ez_b1s, ez_b2g, ez_b2s, ez_b3g, ez_b3s, ez_b4g, ez_b4s, ez_b5g, ez_b5s, ez_ba, ez_g0g, ez_g0s, ez_g1g, ez_g1s, ez_g2g, ez_g2s, ez_g3g, ez_g3s, ez_g4g, ez_g4s, ez_g5g, ez_g5s, ez_g6g, ez_g6s, ez_g7g, ez_g7s, ez_ga, ez_l0g, ez_l0s, ez_l1g, ez_l1s, ez_l2g, ez_l2s, ez_la, q_zs, q_zz, q_z1, q_z2, q_i2, q_ig, q_iz, q_jz, true_and, false_and, or_self, or_true, true_or, or_false, false_or, and_true, and_false, and_self, not_true_eq_false, not_false_eq_true, d]
  | m + 1, s, A, J, t, hs, hA, hL => by
    have hN := hK.2.1
    have hB := hK.1
    have z1 : z 132 = (kB kx : Int) := hz.1
    have z2 : z 133 = (kN kx : Int) := hz.2.1
    have d : ¬ (60 : Int) < (s : Int) := by omega
    have hs1 : ¬ (s : Int) = -1 := by omega
    have hg8 : g < 8 := by omega
    have f0 := c_isG (n := n + 3) (h := h) (c := q_z (q_j c 6 J) k (zw z A.1 A.2 t)) hk (g : Int) 1
    rw [q_zs, Int.toNat_natCast, zw_a (i := 68 + g) (by omega), zw_133, z2] at f0
    have hcd : (0 : Int) ≤ (g : Int) ∧ (g : Int) < (kN kx : Int) ∧ (g : Int) < 8 := by omega
    unfold cCome
    by_cases c1 : A.1 (68 + g) = 1
    · rw [if_pos ⟨hcd, c1⟩] at f0
      rw [if_pos c1]
      have f1 := c_sailAll (n := n + 2) (h := h) (c := q_z (q_j c 6 J) k (zw z A.1 A.2 t)) hk hB (by rw [q_zs]; exact z1)
      rw [q_zs, q_zz, zw_boats _ hB] at f1
      have hA2 := cOk_boats hK hA
      obtain ⟨t', J', f2⟩ := c_fly (n := n) (h := h) (c := q_j c 6 J) (k := k) (g := g) (z := z) (a := xit boat1 (kB kx) A.1) (t := t) (T := A.2) hk hK hz (ruleOk_6 _ hr) hg hA2.1 hM hA2.2.1 (hA2.2.2.1 g hg) hA2.2.2.2
      rw [q_jj] at f2
      have hA3 := cOk_one hK hM hg hA
      have hone : cOne kx g A = (xfu (cFly kx g (xit boat1 (kB kx) A.1) A.2).1 115 (xw ((cFly kx g (xit boat1 (kB kx) A.1) A.2).1 115 + 1)), (cFly kx g (xit boat1 (kB kx) A.1) A.2).2) := rfl
      have p1 : ∀ v, xfu (zw z (cFly kx g (xit boat1 (kB kx) A.1) A.2).1 (cFly kx g (xit boat1 (kB kx) A.1) A.2).2 t') 115 v = zw z (xfu (cFly kx g (xit boat1 (kB kx) A.1) A.2).1 115 v) (cFly kx g (xit boat1 (kB kx) A.1) A.2).2 t' := fun v => zw_pa (by omega)
      have x1 : xw ((s : Int) + 1) = ((s + 1 : Nat) : Int) := by rw [xw_id (by omega) (by omega)]; omega
      by_cases c2 : (cOne kx g A).2.2.2.2.2 = -1
      · rw [if_pos c2]
        obtain ⟨J2, t2, x, e2⟩ := c_deckL hk hK hz hM hr hg m (s + 1) (cOne kx g A) J' t' (by omega) hA3 c2
        refine ⟨J2, t2, x, ?_⟩
        rw [← e2]
        refine k_l1 ?_
        rw [hone] at c2 ⊢
        generalize cFly kx g (xit boat1 (kB kx) A.1) A.2 = A4 at *
        dsimp only at c2 ⊢
        clear hz hK hr hA hA2 hA3 e2 hone hcd z1 z2
        simp -implicitDefEqProofs (disch := first | with_reducible assumption | with_reducible exact isc_zs (by assumption) | with_reducible exact isc_zs (by decide) | with_reducible exact isc_zb (by assumption) (by assumption) | with_reducible exact isc_zb (by decide) (by assumption) | with_reducible exact isc_zg (by assumption) (by assumption) | with_reducible exact isc_zl (by assumption) (by assumption) | with_reducible exact isc_0 | with_reducible exact isc_1 | with_reducible exact isc_3 | with_reducible exact isc_7 | with_reducible exact isc_11 | with_reducible exact isc_15 | with_reducible exact isc_19 | with_reducible exact isc_24 | with_reducible exact isc_25 | (simp only [List.map_cons, List.map_nil, List.sum_cons, List.sum_nil, xcat, Nat.reduceAdd, Nat.reduceLeDiff, Nat.zero_le]; done) | omega) only [lX7_flyToDeck_7, k_p_sq, k_p_blk, k_sq0, k_sq11, k_sq12, k_sq13, k_sq14, k_sq15, k_sqr, k_sqi, k_blk0, k_blk1, k_blk2, k_blk3, k_blk4, k_blk5, k_blkr, k_blki, k_finr, k_fini, k_mapi, k_bindi, k_if1, k_if2, k_ops, k_br, k_rv, k_ri, k_rl, k_rz, k_rzi, k_01d, k_sw, k_01a, k_01b, k_01c, k_ifn, x_cmp, decide_eq_true_eq, Option.map_some, Option.bind_some, Option.toList_some, Option.toList_none, List.cons_append, List.nil_append, Nat.reduceAdd, true_or, or_true, Int.reduceNeg, Int.reduceEq, reduceIte, Nat.zero_le, Nat.reduceLeDiff, Nat.le_refl, Nat.reduceEqDiff, List.getElem?_cons_zero, List.getElem?_cons_succ, xst, List.set_cons_zero, List.set_cons_succ, List.map_cons, List.map_nil, List.sum_cons, List.sum_nil, xcat, Nat.reduceMul, Nat.reduceDiv, Nat.reduceMod, Nat.add_zero, e_nil, e_iconst, e_il, e_al, e_ll, e_istore, e_astore, e_lstore, e_ic, e_iadd, e_isub, e_imul, e_iand, e_ior, e_ixor, e_ishl, e_ishr, e_ineg, e_dupi, e_dupr, e_dupx, e_dup2, e_popi, eo_g0, eo_g1, eo_g2, eo_g3, eo_g4, eo_g5, eo_g6, eo_g7, eo_g8, eo_g9, eo_g10, eo_g11, eo_g12, eo_g13, eo_g14, eo_s14, eo_g15, eo_g16, eo_s16, et_g0, et_g1, et_s1, et_g2, et_s2, et_g3, et_s3, et_g4, et_s4, eu_g0, eu_g1, eu_s1, eu_g2, eu_g3, eu_s3, eu_g4, eh_g0, eh_g1, eh_s1, eh_g2, eh_s2, ed_g0, ed_g1, ed_g2, ed_g3, ed_s3, ew_g0, ew_g1, ew_g2, ew_g3, ew_s3, en_g0, en_g1, en_s1, en_g2, en_g3, en_g4, en_g5, en_s5, ex_g0, ex_s0, eq_g0, eq_s0, eq_g1, eq_s1, eq_g2, eq_s2, eq_g3, eq_s3, eq_g4, eq_s4, eq_g5, eq_s5, eq_g6, eq_s6, eq_g7, eq_s7, ez_g0, ez_g1, ez_g2, ez_g3, ez_s3, ez_g4, ez_s4, ez_g5, ez_s5, ez_g6, ez_s6, ez_g7, ez_s7, ez_g8, ez_s8, ez_g9, ez_s9, ez_g10, ez_s10, ez_g11, ez_s11, ez_g12, ez_s12, ez_g13, ez_s13, ez_g14, ez_g15, ez_b0g, ez_b0s, ez_b1g, ez_b1s, ez_b2g, ez_b2s, ez_b3g, ez_b3s, ez_b4g, ez_b4s, ez_b5g, ez_b5s, ez_ba, ez_g0g, ez_g0s, ez_g1g, ez_g1s, ez_g2g, ez_g2s, ez_g3g, ez_g3s, ez_g4g, ez_g4s, ez_g5g, ez_g5s, ez_g6g, ez_g6s, ez_g7g, ez_g7s, ez_ga, ez_l0g, ez_l0s, ez_l1g, ez_l1s, ez_l2g, ez_l2s, ez_la, q_zs, q_zz, q_z1, q_z2, q_i2, q_ig, q_iz, q_jz, true_and, false_and, or_self, or_true, true_or, or_false, false_or, and_true, and_false, and_self, not_true_eq_false, not_false_eq_true, d, ec43, f0, ec60, f1, ec65, f2, zw_115, p1, zw_140, c2, x1, Int.reduceEq]
      · rw [if_neg c2]
        refine ⟨J', t', (s : Int), ?_⟩
        dsimp only
        rw [if_neg hs1]
        refine k_lr ?_
        rw [hone] at c2 ⊢
        generalize cFly kx g (xit boat1 (kB kx) A.1) A.2 = A4 at *
        dsimp only at c2 ⊢
        clear hz hK hr hA hA2 hA3 hone hcd z1 z2
        simp -implicitDefEqProofs (disch := first | with_reducible assumption | with_reducible exact isc_zs (by assumption) | with_reducible exact isc_zs (by decide) | with_reducible exact isc_zb (by assumption) (by assumption) | with_reducible exact isc_zb (by decide) (by assumption) | with_reducible exact isc_zg (by assumption) (by assumption) | with_reducible exact isc_zl (by assumption) (by assumption) | with_reducible exact isc_0 | with_reducible exact isc_1 | with_reducible exact isc_3 | with_reducible exact isc_7 | with_reducible exact isc_11 | with_reducible exact isc_15 | with_reducible exact isc_19 | with_reducible exact isc_24 | with_reducible exact isc_25 | (simp only [List.map_cons, List.map_nil, List.sum_cons, List.sum_nil, xcat, Nat.reduceAdd, Nat.reduceLeDiff, Nat.zero_le]; done) | omega) only [lX7_flyToDeck_7, k_p_sq, k_p_blk, k_sq0, k_sq11, k_sq12, k_sq13, k_sq14, k_sq15, k_sqr, k_sqi, k_blk0, k_blk1, k_blk2, k_blk3, k_blk4, k_blk5, k_blkr, k_blki, k_finr, k_fini, k_mapi, k_bindi, k_if1, k_if2, k_ops, k_br, k_rv, k_ri, k_rl, k_rz, k_rzi, k_01d, k_sw, k_01a, k_01b, k_01c, k_ifn, x_cmp, decide_eq_true_eq, Option.map_some, Option.bind_some, Option.toList_some, Option.toList_none, List.cons_append, List.nil_append, Nat.reduceAdd, true_or, or_true, Int.reduceNeg, Int.reduceEq, reduceIte, Nat.zero_le, Nat.reduceLeDiff, Nat.le_refl, Nat.reduceEqDiff, List.getElem?_cons_zero, List.getElem?_cons_succ, xst, List.set_cons_zero, List.set_cons_succ, List.map_cons, List.map_nil, List.sum_cons, List.sum_nil, xcat, Nat.reduceMul, Nat.reduceDiv, Nat.reduceMod, Nat.add_zero, e_nil, e_iconst, e_il, e_al, e_ll, e_istore, e_astore, e_lstore, e_ic, e_iadd, e_isub, e_imul, e_iand, e_ior, e_ixor, e_ishl, e_ishr, e_ineg, e_dupi, e_dupr, e_dupx, e_dup2, e_popi, eo_g0, eo_g1, eo_g2, eo_g3, eo_g4, eo_g5, eo_g6, eo_g7, eo_g8, eo_g9, eo_g10, eo_g11, eo_g12, eo_g13, eo_g14, eo_s14, eo_g15, eo_g16, eo_s16, et_g0, et_g1, et_s1, et_g2, et_s2, et_g3, et_s3, et_g4, et_s4, eu_g0, eu_g1, eu_s1, eu_g2, eu_g3, eu_s3, eu_g4, eh_g0, eh_g1, eh_s1, eh_g2, eh_s2, ed_g0, ed_g1, ed_g2, ed_g3, ed_s3, ew_g0, ew_g1, ew_g2, ew_g3, ew_s3, en_g0, en_g1, en_s1, en_g2, en_g3, en_g4, en_g5, en_s5, ex_g0, ex_s0, eq_g0, eq_s0, eq_g1, eq_s1, eq_g2, eq_s2, eq_g3, eq_s3, eq_g4, eq_s4, eq_g5, eq_s5, eq_g6, eq_s6, eq_g7, eq_s7, ez_g0, ez_g1, ez_g2, ez_g3, ez_s3, ez_g4, ez_s4, ez_g5, ez_s5, ez_g6, ez_s6, ez_g7, ez_s7, ez_g8, ez_s8, ez_g9, ez_s9, ez_g10, ez_s10, ez_g11, ez_s11, ez_g12, ez_s12, ez_g13, ez_s13, ez_g14, ez_g15, ez_b0g, ez_b0s, ez_b1g, ez_b1s, ez_b2g, ez_b2s, ez_b3g, ez_b3s, ez_b4g, ez_b4s, ez_b5g, ez_b5s, ez_ba, ez_g0g, ez_g0s, ez_g1g, ez_g1s, ez_g2g, ez_g2s, ez_g3g, ez_g3s, ez_g4g, ez_g4s, ez_g5g, ez_g5s, ez_g6g, ez_g6s, ez_g7g, ez_g7s, ez_ga, ez_l0g, ez_l0s, ez_l1g, ez_l1s, ez_l2g, ez_l2s, ez_la, q_zs, q_zz, q_z1, q_z2, q_i2, q_ig, q_iz, q_jz, true_and, false_and, or_self, or_true, true_or, or_false, false_or, and_true, and_false, and_self, not_true_eq_false, not_false_eq_true, d, ec43, f0, ec60, f1, ec65, f2, zw_115, p1, zw_140, c2, Int.reduceEq]
    · rw [if_neg (fun z => c1 z.2)] at f0
      rw [if_neg c1]
      refine ⟨J, t, (s : Int), ?_⟩
      dsimp only
      rw [if_pos rfl]
      refine k_l2 (k := 0) ?_
      clear hz hK hr hA hcd z1 z2
      simp -implicitDefEqProofs (disch := first | with_reducible assumption | with_reducible exact isc_zs (by assumption) | with_reducible exact isc_zs (by decide) | with_reducible exact isc_zb (by assumption) (by assumption) | with_reducible exact isc_zb (by decide) (by assumption) | with_reducible exact isc_zg (by assumption) (by assumption) | with_reducible exact isc_zl (by assumption) (by assumption) | with_reducible exact isc_0 | with_reducible exact isc_1 | with_reducible exact isc_3 | with_reducible exact isc_7 | with_reducible exact isc_11 | with_reducible exact isc_15 | with_reducible exact isc_19 | with_reducible exact isc_24 | with_reducible exact isc_25 | (simp only [List.map_cons, List.map_nil, List.sum_cons, List.sum_nil, xcat, Nat.reduceAdd, Nat.reduceLeDiff, Nat.zero_le]; done) | omega) only [lX7_flyToDeck_7, k_p_sq, k_p_blk, k_sq0, k_sq11, k_sq12, k_sq13, k_sq14, k_sq15, k_sqr, k_sqi, k_blk0, k_blk1, k_blk2, k_blk3, k_blk4, k_blk5, k_blkr, k_blki, k_finr, k_fini, k_mapi, k_bindi, k_if1, k_if2, k_ops, k_br, k_rv, k_ri, k_rl, k_rz, k_rzi, k_01d, k_sw, k_01a, k_01b, k_01c, k_ifn, x_cmp, decide_eq_true_eq, Option.map_some, Option.bind_some, Option.toList_some, Option.toList_none, List.cons_append, List.nil_append, Nat.reduceAdd, true_or, or_true, Int.reduceNeg, Int.reduceEq, reduceIte, Nat.zero_le, Nat.reduceLeDiff, Nat.le_refl, Nat.reduceEqDiff, List.getElem?_cons_zero, List.getElem?_cons_succ, xst, List.set_cons_zero, List.set_cons_succ, List.map_cons, List.map_nil, List.sum_cons, List.sum_nil, xcat, Nat.reduceMul, Nat.reduceDiv, Nat.reduceMod, Nat.add_zero, e_nil, e_iconst, e_il, e_al, e_ll, e_istore, e_astore, e_lstore, e_ic, e_iadd, e_isub, e_imul, e_iand, e_ior, e_ixor, e_ishl, e_ishr, e_ineg, e_dupi, e_dupr, e_dupx, e_dup2, e_popi, eo_g0, eo_g1, eo_g2, eo_g3, eo_g4, eo_g5, eo_g6, eo_g7, eo_g8, eo_g9, eo_g10, eo_g11, eo_g12, eo_g13, eo_g14, eo_s14, eo_g15, eo_g16, eo_s16, et_g0, et_g1, et_s1, et_g2, et_s2, et_g3, et_s3, et_g4, et_s4, eu_g0, eu_g1, eu_s1, eu_g2, eu_g3, eu_s3, eu_g4, eh_g0, eh_g1, eh_s1, eh_g2, eh_s2, ed_g0, ed_g1, ed_g2, ed_g3, ed_s3, ew_g0, ew_g1, ew_g2, ew_g3, ew_s3, en_g0, en_g1, en_s1, en_g2, en_g3, en_g4, en_g5, en_s5, ex_g0, ex_s0, eq_g0, eq_s0, eq_g1, eq_s1, eq_g2, eq_s2, eq_g3, eq_s3, eq_g4, eq_s4, eq_g5, eq_s5, eq_g6, eq_s6, eq_g7, eq_s7, ez_g0, ez_g1, ez_g2, ez_g3, ez_s3, ez_g4, ez_s4, ez_g5, ez_s5, ez_g6, ez_s6, ez_g7, ez_s7, ez_g8, ez_s8, ez_g9, ez_s9, ez_g10, ez_s10, ez_g11, ez_s11, ez_g12, ez_s12, ez_g13, ez_s13, ez_g14, ez_g15, ez_b0g, ez_b0s, ez_b1g, ez_b1s, ez_b2g, ez_b2s, ez_b3g, ez_b3s, ez_b4g, ez_b4s, ez_b5g, ez_b5s, ez_ba, ez_g0g, ez_g0s, ez_g1g, ez_g1s, ez_g2g, ez_g2s, ez_g3g, ez_g3s, ez_g4g, ez_g4s, ez_g5g, ez_g5s, ez_g6g, ez_g6s, ez_g7g, ez_g7s, ez_ga, ez_l0g, ez_l0s, ez_l1g, ez_l1s, ez_l2g, ez_l2s, ez_la, q_zs, q_zz, q_z1, q_z2, q_i2, q_ig, q_iz, q_jz, true_and, false_and, or_self, or_true, true_or, or_false, false_or, and_true, and_false, and_self, not_true_eq_false, not_false_eq_true, d, ec43, f0]
/-- the gull comes to a deck, or doesn't -/
theorem c_deck (hk : k < 17) {kx : xKx} (hK : kxOk kx) (hz : zKx kx z) {M : Nat} (hM : M ≤ 10) (hr : ruleOk c (kSize kx) (kText kx)) (hg : g < kN kx) {T : xT5} (hA : cOk kx M (z, (T.1, T.2.1, T.2.2.1, T.2.2.2.1, -1))) (hzT : zw z z T z = z) : ∃ (J' z' : Nat → Int), (gg (n + 6) 59).2 [.inr (.inr (.inl (k + 3, 0))), .inl (g : Int)] (hC h (q_z c k z)) = some (some (.inl (cCome kx g 60 1 (z, (T.1, T.2.1, T.2.2.1, T.2.2.2.1, -1))).1), hC h (q_z (q_j c 6 J') k z')) ∧ z' 140 = (cCome kx g 60 1 (z, (T.1, T.2.1, T.2.2.1, T.2.2.2.1, -1))).2.2.2.2.2.2 := by
  obtain ⟨J', t', x, e⟩ := c_deckL (n := n) (h := h) (c := c) hk hK hz hM hr hg 60 1 (z, (T.1, T.2.1, T.2.2.1, T.2.2.2.1, -1)) (c.2.1 6) z (by omega) hA rfl
  refine ⟨J', zw z (cCome kx g 60 1 (z, (T.1, T.2.1, T.2.2.1, T.2.2.2.1, -1))).2.1 (cCome kx g 60 1 (z, (T.1, T.2.1, T.2.2.1, T.2.2.2.1, -1))).2.2 t', ?_, zw_140⟩
  rw [q_j0] at e
  dsimp only at e
  have e0 : xfu z 140 (-1) = zw z z (T.1, T.2.1, T.2.2.1, T.2.2.2.1, -1) z := by rw [← zw_p140, hzT]
  generalize hA5 : cCome kx g 60 1 (z, (T.1, T.2.1, T.2.2.1, T.2.2.2.1, -1)) = A5 at *
  rw [← e0] at e
  have e : p_lop (lX7_flyToDeck_7 (gg (n + 5))) ([.inr (.inr (.inl (k + 3, 0))), .inl (g : Int), .inl 1], [], hC h (q_z c k (xfu z 140 (-1)))) = _ := e
  rw [gr59]
  clear hz hK hr hA hA5 e0 hzT
  by_cases d : A5.1 = -1
  · rw [if_pos d] at e
    rw [d]
    simp -implicitDefEqProofs (disch := first | with_reducible assumption | with_reducible exact isc_zs (by assumption) | with_reducible exact isc_zs (by decide) | with_reducible exact isc_zb (by assumption) (by assumption) | with_reducible exact isc_zb (by decide) (by assumption) | with_reducible exact isc_zg (by assumption) (by assumption) | with_reducible exact isc_zl (by assumption) (by assumption) | with_reducible exact isc_0 | with_reducible exact isc_1 | with_reducible exact isc_3 | with_reducible exact isc_7 | with_reducible exact isc_11 | with_reducible exact isc_15 | with_reducible exact isc_19 | with_reducible exact isc_24 | with_reducible exact isc_25 | (simp only [List.map_cons, List.map_nil, List.sum_cons, List.sum_nil, xcat, Nat.reduceAdd, Nat.reduceLeDiff, Nat.zero_le]; done) | omega) only [fX7_flyToDeck, k_p_sq, k_p_blk, k_sq0, k_sq11, k_sq12, k_sq13, k_sq14, k_sq15, k_sqr, k_sqi, k_blk0, k_blk1, k_blk2, k_blk3, k_blk4, k_blk5, k_blkr, k_blki, k_finr, k_fini, k_mapi, k_bindi, k_if1, k_if2, k_ops, k_br, k_rv, k_ri, k_rl, k_rz, k_rzi, k_01d, k_sw, k_01a, k_01b, k_01c, k_ifn, x_cmp, decide_eq_true_eq, Option.map_some, Option.bind_some, Option.toList_some, Option.toList_none, List.cons_append, List.nil_append, Nat.reduceAdd, true_or, or_true, Int.reduceNeg, Int.reduceEq, reduceIte, Nat.zero_le, Nat.reduceLeDiff, Nat.le_refl, Nat.reduceEqDiff, List.getElem?_cons_zero, List.getElem?_cons_succ, xst, List.set_cons_zero, List.set_cons_succ, List.map_cons, List.map_nil, List.sum_cons, List.sum_nil, xcat, Nat.reduceMul, Nat.reduceDiv, Nat.reduceMod, Nat.add_zero, e_nil, e_iconst, e_il, e_al, e_ll, e_istore, e_astore, e_lstore, e_ic, e_iadd, e_isub, e_imul, e_iand, e_ior, e_ixor, e_ishl, e_ishr, e_ineg, e_dupi, e_dupr, e_dupx, e_dup2, e_popi, eo_g0, eo_g1, eo_g2, eo_g3, eo_g4, eo_g5, eo_g6, eo_g7, eo_g8, eo_g9, eo_g10, eo_g11, eo_g12, eo_g13, eo_g14, eo_s14, eo_g15, eo_g16, eo_s16, et_g0, et_g1, et_s1, et_g2, et_s2, et_g3, et_s3, et_g4, et_s4, eu_g0, eu_g1, eu_s1, eu_g2, eu_g3, eu_s3, eu_g4, eh_g0, eh_g1, eh_s1, eh_g2, eh_s2, ed_g0, ed_g1, ed_g2, ed_g3, ed_s3, ew_g0, ew_g1, ew_g2, ew_g3, ew_s3, en_g0, en_g1, en_s1, en_g2, en_g3, en_g4, en_g5, en_s5, ex_g0, ex_s0, eq_g0, eq_s0, eq_g1, eq_s1, eq_g2, eq_s2, eq_g3, eq_s3, eq_g4, eq_s4, eq_g5, eq_s5, eq_g6, eq_s6, eq_g7, eq_s7, ez_g0, ez_g1, ez_g2, ez_g3, ez_s3, ez_g4, ez_s4, ez_g5, ez_s5, ez_g6, ez_s6, ez_g7, ez_s7, ez_g8, ez_s8, ez_g9, ez_s9, ez_g10, ez_s10, ez_g11, ez_s11, ez_g12, ez_s12, ez_g13, ez_s13, ez_g14, ez_g15, ez_b0g, ez_b0s, ez_b1g, ez_b1s, ez_b2g, ez_b2s, ez_b3g, ez_b3s, ez_b4g, ez_b4s, ez_b5g, ez_b5s, ez_ba, ez_g0g, ez_g0s, ez_g1g, ez_g1s, ez_g2g, ez_g2s, ez_g3g, ez_g3s, ez_g4g, ez_g4s, ez_g5g, ez_g5s, ez_g6g, ez_g6s, ez_g7g, ez_g7s, ez_ga, ez_l0g, ez_l0s, ez_l1g, ez_l1s, ez_l2g, ez_l2s, ez_la, q_zs, q_zz, q_z1, q_z2, q_i2, q_ig, q_iz, q_jz, true_and, false_and, or_self, or_true, true_or, or_false, false_or, and_true, and_false, and_self, not_true_eq_false, not_false_eq_true, e]
  · rw [if_neg d] at e
    simp -implicitDefEqProofs (disch := first | with_reducible assumption | with_reducible exact isc_zs (by assumption) | with_reducible exact isc_zs (by decide) | with_reducible exact isc_zb (by assumption) (by assumption) | with_reducible exact isc_zb (by decide) (by assumption) | with_reducible exact isc_zg (by assumption) (by assumption) | with_reducible exact isc_zl (by assumption) (by assumption) | with_reducible exact isc_0 | with_reducible exact isc_1 | with_reducible exact isc_3 | with_reducible exact isc_7 | with_reducible exact isc_11 | with_reducible exact isc_15 | with_reducible exact isc_19 | with_reducible exact isc_24 | with_reducible exact isc_25 | (simp only [List.map_cons, List.map_nil, List.sum_cons, List.sum_nil, xcat, Nat.reduceAdd, Nat.reduceLeDiff, Nat.zero_le]; done) | omega) only [fX7_flyToDeck, k_p_sq, k_p_blk, k_sq0, k_sq11, k_sq12, k_sq13, k_sq14, k_sq15, k_sqr, k_sqi, k_blk0, k_blk1, k_blk2, k_blk3, k_blk4, k_blk5, k_blkr, k_blki, k_finr, k_fini, k_mapi, k_bindi, k_if1, k_if2, k_ops, k_br, k_rv, k_ri, k_rl, k_rz, k_rzi, k_01d, k_sw, k_01a, k_01b, k_01c, k_ifn, x_cmp, decide_eq_true_eq, Option.map_some, Option.bind_some, Option.toList_some, Option.toList_none, List.cons_append, List.nil_append, Nat.reduceAdd, true_or, or_true, Int.reduceNeg, Int.reduceEq, reduceIte, Nat.zero_le, Nat.reduceLeDiff, Nat.le_refl, Nat.reduceEqDiff, List.getElem?_cons_zero, List.getElem?_cons_succ, xst, List.set_cons_zero, List.set_cons_succ, List.map_cons, List.map_nil, List.sum_cons, List.sum_nil, xcat, Nat.reduceMul, Nat.reduceDiv, Nat.reduceMod, Nat.add_zero, e_nil, e_iconst, e_il, e_al, e_ll, e_istore, e_astore, e_lstore, e_ic, e_iadd, e_isub, e_imul, e_iand, e_ior, e_ixor, e_ishl, e_ishr, e_ineg, e_dupi, e_dupr, e_dupx, e_dup2, e_popi, eo_g0, eo_g1, eo_g2, eo_g3, eo_g4, eo_g5, eo_g6, eo_g7, eo_g8, eo_g9, eo_g10, eo_g11, eo_g12, eo_g13, eo_g14, eo_s14, eo_g15, eo_g16, eo_s16, et_g0, et_g1, et_s1, et_g2, et_s2, et_g3, et_s3, et_g4, et_s4, eu_g0, eu_g1, eu_s1, eu_g2, eu_g3, eu_s3, eu_g4, eh_g0, eh_g1, eh_s1, eh_g2, eh_s2, ed_g0, ed_g1, ed_g2, ed_g3, ed_s3, ew_g0, ew_g1, ew_g2, ew_g3, ew_s3, en_g0, en_g1, en_s1, en_g2, en_g3, en_g4, en_g5, en_s5, ex_g0, ex_s0, eq_g0, eq_s0, eq_g1, eq_s1, eq_g2, eq_s2, eq_g3, eq_s3, eq_g4, eq_s4, eq_g5, eq_s5, eq_g6, eq_s6, eq_g7, eq_s7, ez_g0, ez_g1, ez_g2, ez_g3, ez_s3, ez_g4, ez_s4, ez_g5, ez_s5, ez_g6, ez_s6, ez_g7, ez_s7, ez_g8, ez_s8, ez_g9, ez_s9, ez_g10, ez_s10, ez_g11, ez_s11, ez_g12, ez_s12, ez_g13, ez_s13, ez_g14, ez_g15, ez_b0g, ez_b0s, ez_b1g, ez_b1s, ez_b2g, ez_b2s, ez_b3g, ez_b3s, ez_b4g, ez_b4s, ez_b5g, ez_b5s, ez_ba, ez_g0g, ez_g0s, ez_g1g, ez_g1s, ez_g2g, ez_g2s, ez_g3g, ez_g3s, ez_g4g, ez_g4s, ez_g5g, ez_g5s, ez_g6g, ez_g6s, ez_g7g, ez_g7s, ez_ga, ez_l0g, ez_l0s, ez_l1g, ez_l1s, ez_l2g, ez_l2s, ez_la, q_zs, q_zz, q_z1, q_z2, q_i2, q_ig, q_iz, q_jz, true_and, false_and, or_self, or_true, true_or, or_false, false_or, and_true, and_false, and_self, not_true_eq_false, not_false_eq_true, e]
end PY
