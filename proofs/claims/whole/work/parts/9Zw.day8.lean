/-! ===== day: alike ===== -/
theorem q_ic (c : xQ) {i j : Nat} (hij : i ≠ j) (v w : Int) : q_i (q_i c i v) j w = q_i (q_i c j w) i v := by
  unfold q_i
  dsimp only
  rw [xfu_comm _ _ _ hij]
theorem tAct_ok {r : xR} {c : xQ} {T m : Nat} {a : Int} (hx : TX r c T m) (ha : 0 ≤ a) (e : (tAct r a).2.2 = -1) : daOk (tAct r a).1 := by
  have i1 := tDigit_in (w := -1) (a := a + 1) (lo := 1) (hi := 9) hx (by omega) (by decide) (by decide)
  have at1 := tLetter_at (r := r) (a := a + 1) (w := -1) (m := 6)
  have i2 := tDigit_in (w := (tLetter r (a + 1) (-1) 6).2.2) (a := (tLetter r (a + 1) (-1) 6).2.1) (lo := 0) (hi := 5) hx (by omega) (by decide) (by decide)
  unfold tAct at e ⊢
  unfold daOk
  by_cases c1 : rHere r a = 104
  · rw [if_pos c1] at e ⊢
    by_cases c2 : 49 ≤ rHere r (a + 1) ∧ rHere r (a + 1) ≤ 57
    · rw [if_pos c2] at e ⊢
      dsimp only at e ⊢
      have := i1 e
      exact Or.inl ⟨rfl, by omega⟩
    · rw [if_neg c2]
      exact Or.inl ⟨rfl, by dsimp only; omega⟩
  · rw [if_neg c1] at e ⊢
    by_cases c2 : rHere r a = 119 ∨ rHere r a = 99
    · rw [if_pos c2]
      dsimp only
      omega
    · rw [if_neg c2] at e ⊢
      by_cases c3 : rHere r a = 112
      · rw [if_pos c3] at e ⊢
        dsimp only at e ⊢
        have := i2 e
        exact Or.inr (Or.inl ⟨rfl, by omega⟩)
      · rw [if_neg c3] at e ⊢
        by_cases c4 : rHere r a = 102 ∨ rHere r a = 111
        · rw [if_pos c4]
          dsimp only
          omega
        · rw [if_neg c4] at e ⊢
          by_cases c5 : rHere r a = 115
          · rw [if_pos c5]
            split <;> (dsimp only; omega)
          · rw [if_neg c5] at e
            dsimp only at e
            omega
theorem tDa_ok {r : xR} {c : xQ} {T m : Nat} {L : Int} (hx : TX r c T m) (hl : ∀ a, L ≤ a → rHere r a = -1) : ∀ (f : Nat) (a : Int), 0 ≤ a → (tDa r f a).2.2 = -1 → ∀ q, q ∈ (tDa r f a).1 → daOk q
  | 0, a, ha, e, q, hq => by cases hq
  | f + 1, a, ha, e, q, hq => by
    have hw : (tPs r 59 (tAct r a).2.1 (tAct r a).2.2).2.2 = (tAct r a).2.2 := tPs_w
    unfold tDa at e hq
    by_cases d : (tPs r 59 (tAct r a).2.1 (tAct r a).2.2).1 = 1
    · rw [if_pos d] at e hq
      dsimp only at e hq
      obtain ⟨g1, g2, g3, g4⟩ := tDa_go hl d
      rcases List.mem_cons.mp hq with rfl | hq
      · exact tAct_ok hx ha g4
      · exact tDa_ok hx hl f _ (by omega) e q hq
    · rw [if_neg d] at e hq
      dsimp only at e hq
      rw [List.mem_singleton] at hq
      subst hq
      exact tAct_ok hx ha (by rw [← hw]; exact e)
theorem tAct_b {r : xR} {a : Int} (ha : 0 ≤ a) : wB (tAct r a).2.1 (tAct r a).2.2 := by
  have h1 : wB (a + 1) (-1) := ⟨by omega, by omega, by omega⟩
  unfold tAct
  split
  · split
    · exact tDigit_b h1
    · exact h1
  · split
    · exact tLetter_b h1
    · split
      · exact tDigit_b (tLetter_b h1)
      · split
        · exact tDigit_b h1
        · split
          · split
            · exact tPs_b (tDigit_b h1)
            · exact tDigit_b (tPs_b (tDigit_b h1))
          · exact ⟨by dsimp only; omega, by dsimp only; omega, by dsimp only; omega⟩
theorem tDa_b {r : xR} {L : Int} (hl : ∀ a, L ≤ a → rHere r a = -1) : ∀ (f : Nat) (a : Int), 0 ≤ a → wB (tDa r f a).2.1 (tDa r f a).2.2 ∧ (tDa r f a).1.length ≤ f
  | 0, a, ha => ⟨⟨ha, by show (-1 : Int) ≤ -1; omega, by show (-1 : Int) ≤ a; omega⟩, Nat.le_refl _⟩
  | f + 1, a, ha => by
    have h1 := tPs_b (r := r) (k := 59) (tAct_b (r := r) ha)
    unfold tDa
    by_cases d : (tPs r 59 (tAct r a).2.1 (tAct r a).2.2).1 = 1
    · rw [if_pos d]
      have := tDa_b hl f (tPs r 59 (tAct r a).2.1 (tAct r a).2.2).2.1 h1.1
      exact ⟨this.1, by rw [List.length_cons]; omega⟩
    · rw [if_neg d]
      exact ⟨h1, by show 1 ≤ f + 1; omega⟩
theorem tDa_at {r : xR} {L : Int} (hl : ∀ a, L ≤ a → rHere r a = -1) : ∀ (f : Nat) (a : Int), 0 ≤ a → a ≤ L → (tDa r f a).2.1 ≤ L + 5
  | 0, a, ha, h1 => by show a ≤ L + 5; omega
  | f + 1, a, ha, h1 => by
    have hat := tAct_at (r := r) (a := a)
    have hp := tPs_at (r := r) (k := 59) (a := (tAct r a).2.1) (w := (tAct r a).2.2)
    unfold tDa
    by_cases d : (tPs r 59 (tAct r a).2.1 (tAct r a).2.2).1 = 1
    · rw [if_pos d]
      obtain ⟨g1, g2, g3, g4⟩ := tDa_go hl d
      exact tDa_at hl f _ (by omega) g2
    · rw [if_neg d]
      dsimp only
      omega
theorem tTx_lim {r : xR} {T m : Nat} : ∀ a, (m : Int) ≤ a → rHere (tTx r T (m : Int)) a = -1 := by
  intro a ha
  unfold rHere
  rw [if_neg]
  intro z
  have z2 : a < (m : Int) := z.2
  omega
section DI
variable {n : Nat} {h : xH} {c : xQ} {r : xR} {H : xH} {T : Nat}
/-- the class's diary, read -/
theorem c_readD {q : xQ} (hq : q = q_i c 3 ((min T 60 : Nat) : Int)) (hx : TX r q T 60) (hl : ∀ a, (60 : Int) ≤ a → rHere r a = -1) (hT : c.1 2 = (T : Int)) : ∃ (a1 w1 : Int) (A B D : Nat → Int) (l : List (Int × Int × Int)) (P W : Int), l = (if T = 0 then [] else (tDa r 31 0).1) ∧ P = (if T = 0 then 0 else (tDa r 31 0).2.1) ∧ W = (if T = 0 then -1 else (tDa r 31 0).2.2) ∧
    (gg (n + 7) 6).2 [.inr (.inr (.inl (0, 11))), .inr (.inr (.inl (0, 1)))] (hC h c) = some (some (.inl (if W = -1 then (if P < T then -1 - P else 0) else -1 - W)), hC h (q_i (cRd (qD (q_i q 10 ((l.length : Nat) : Int)) A B D) a1 w1) 2 0)) ∧ (W = -1 → ∀ i, i < l.length → (A i, B i, D i) = l.getD i q30) := by
  rw [gr6]
  have f1 := c_open (n := n + 4) (h := h) (c := q_i c 10 0) (T := T) 60 hT
  have e1 : q_i (q_i c 10 0) 3 ((min T 60 : Nat) : Int) = qD (q_i q 10 0) (c.2.1 12) (c.2.1 13) (c.2.1 14) := by
    rw [q_ic _ (by decide : (10 : Nat) ≠ 3), ← hq]
    have := qD_0 (q_i q 10 0)
    subst hq
    exact this.symm
  rw [e1, show ((60 : Nat) : Int) = 60 from rfl] at f1
  have h2 : ∀ (k : Int) A B D a b, (cRd (qD (q_i q 10 k) A B D) a b).1 2 = (T : Int) := fun k A B D a b => hx.2.2.2.2.2.1
  have f2 := c_empty (n := n + 5) (h := h) (c := cRd (qD (q_i q 10 0) (c.2.1 12) (c.2.1 13) (c.2.1 14)) 0 (-1))
  rw [h2] at f2
  have hx2 : ∀ k, TX r (q_i q 10 k) T 60 := fun _ => hx
  have hq2 : ∀ k A B D, (qD (q_i q 10 k) A B D).1 2 = (T : Int) := fun k A B D => hx.2.2.2.2.2.1
  have hT80 := hx.1
  by_cases d0 : T = 0
  · subst d0
    rw [show ((0 : Nat) : Int) = 0 from rfl, if_pos rfl] at f2
    have f4 := c_close (n := n + 3) (h := h) (c := qD (q_i q 10 0) (c.2.1 12) (c.2.1 13) (c.2.1 14)) (a := 0) (w := -1) (L := ((0 : Nat) : Int)) (hq2 _ _ _ _) (by decide) (by decide) (by decide) (by decide)
    rw [if_pos rfl, if_neg (by decide), if_neg (by decide)] at f4
    refine ⟨0, -1, c.2.1 12, c.2.1 13, c.2.1 14, [], 0, -1, rfl, rfl, rfl, ?_, fun _ i hi => absurd hi (by show ¬ i < 0; omega)⟩
    rw [if_pos rfl, if_neg (by decide)]
    show _ = (some (some (Sum.inl 0 : xV), hC h (q_i (cRd (qD (q_i q 10 0) (c.2.1 12) (c.2.1 13) (c.2.1 14)) 0 (-1)) 2 0)) : Option (Option xV × xH))
    have f5 : ∀ X, p_lop (lX1_read_24 (gg (n + 6))) ([.inr (.inr (.inl (0, 11))), .inr (.inr (.inl (0, 1))), .inl 0], [], hC h X) = some (.inl 1, ([.inr (.inr (.inl (0, 11))), .inr (.inr (.inl (0, 1))), .inl 0], [], hC h X)) := by
      intro X
      refine k_l2 (k := 0) ?_
      simp -implicitDefEqProofs (disch := first | with_reducible assumption | with_reducible exact isc_zs (by assumption) | with_reducible exact isc_zs (by decide) | with_reducible exact isc_zb (by assumption) (by assumption) | with_reducible exact isc_zb (by decide) (by assumption) | with_reducible exact isc_zg (by assumption) (by assumption) | with_reducible exact isc_zl (by assumption) (by assumption) | with_reducible exact isc_0 | with_reducible exact isc_1 | with_reducible exact isc_3 | with_reducible exact isc_7 | with_reducible exact isc_11 | with_reducible exact isc_15 | with_reducible exact isc_19 | with_reducible exact isc_24 | with_reducible exact isc_25 | (simp only [List.map_cons, List.map_nil, List.sum_cons, List.sum_nil, xcat, Nat.reduceAdd, Nat.reduceLeDiff, Nat.zero_le]; done) | omega) only [lX1_read_24, k_p_sq, k_p_blk, k_sq0, k_sq11, k_sq12, k_sq13, k_sq14, k_sq15, k_sqr, k_sqi, k_blk0, k_blk1, k_blk2, k_blk3, k_blk4, k_blk5, k_blkr, k_blki, k_finr, k_fini, k_mapi, k_bindi, k_if1, k_if2, k_ops, k_br, k_rv, k_ri, k_rl, k_rz, k_rzi, k_01d, k_sw, k_01a, k_01b, k_01c, k_ifn, x_cmp, decide_eq_true_eq, Option.map_some, Option.bind_some, Option.toList_some, Option.toList_none, List.cons_append, List.nil_append, Nat.reduceAdd, true_or, or_true, Int.reduceNeg, Int.reduceEq, reduceIte, Nat.zero_le, Nat.reduceLeDiff, Nat.le_refl, Nat.reduceEqDiff, List.getElem?_cons_zero, List.getElem?_cons_succ, xst, List.set_cons_zero, List.set_cons_succ, List.map_cons, List.map_nil, List.sum_cons, List.sum_nil, xcat, Nat.reduceMul, Nat.reduceDiv, Nat.reduceMod, Nat.add_zero, e_nil, e_iconst, e_il, e_al, e_ll, e_istore, e_astore, e_lstore, e_ic, e_iadd, e_isub, e_imul, e_iand, e_ior, e_ixor, e_ishl, e_ishr, e_ineg, e_dupi, e_dupr, e_dupx, e_dup2, e_popi, eo_g0, eo_g1, eo_g2, eo_g3, eo_g4, eo_g5, eo_g6, eo_g7, eo_g8, eo_g9, eo_g10, eo_g11, eo_g12, eo_g13, eo_g14, eo_s14, eo_g15, eo_g16, eo_s16, et_g0, et_g1, et_s1, et_g2, et_s2, et_g3, et_s3, et_g4, et_s4, eu_g0, eu_g1, eu_s1, eu_g2, eu_g3, eu_s3, eu_g4, eh_g0, eh_g1, eh_s1, eh_g2, eh_s2, ed_g0, ed_g1, ed_g2, ed_g3, ed_s3, ew_g0, ew_g1, ew_g2, ew_g3, ew_s3, en_g0, en_g1, en_s1, en_g2, en_g3, en_g4, en_g5, en_s5, ex_g0, ex_s0, eq_g0, eq_s0, eq_g1, eq_s1, eq_g2, eq_s2, eq_g3, eq_s3, eq_g4, eq_s4, eq_g5, eq_s5, eq_g6, eq_s6, eq_g7, eq_s7, ez_g0, ez_g1, ez_g2, ez_g3, ez_s3, ez_g4, ez_s4, ez_g5, ez_s5, ez_g6, ez_s6, ez_g7, ez_s7, ez_g8, ez_s8, ez_g9, ez_s9, ez_g10, ez_s10, ez_g11, ez_s11, ez_g12, ez_s12, ez_g13, ez_s13, ez_g14, ez_g15, ez_b0g, ez_b0s, ez_b1g, ez_b1s, ez_b2g, ez_b2s, ez_b3g, ez_b3s, ez_b4g, ez_b4s, ez_b5g, ez_b5s, ez_ba, ez_g0g, ez_g0s, ez_g1g, ez_g1s, ez_g2g, ez_g2s, ez_g3g, ez_g3s, ez_g4g, ez_g4s, ez_g5g, ez_g5s, ez_g6g, ez_g6s, ez_g7g, ez_g7s, ez_ga, ez_l0g, ez_l0s, ez_l1g, ez_l1s, ez_l2g, ez_l2s, ez_la, q_zs, q_zz, q_z1, q_z2, q_i2, q_ig, q_iz, q_jz, true_and, false_and, or_self, or_true, true_or, or_false, false_or, and_true, and_false, and_self, not_true_eq_false, not_false_eq_true, Int.reduceEq]
    clear hx hx2 hq2 h2 hl hT e1
    generalize qD (q_i q 10 0) (c.2.1 12) (c.2.1 13) (c.2.1 14) = Y at *
    simp -implicitDefEqProofs (disch := first | with_reducible assumption | with_reducible exact isc_zs (by assumption) | with_reducible exact isc_zs (by decide) | with_reducible exact isc_zb (by assumption) (by assumption) | with_reducible exact isc_zb (by decide) (by assumption) | with_reducible exact isc_zg (by assumption) (by assumption) | with_reducible exact isc_zl (by assumption) (by assumption) | with_reducible exact isc_0 | with_reducible exact isc_1 | with_reducible exact isc_3 | with_reducible exact isc_7 | with_reducible exact isc_11 | with_reducible exact isc_15 | with_reducible exact isc_19 | with_reducible exact isc_24 | with_reducible exact isc_25 | (simp only [List.map_cons, List.map_nil, List.sum_cons, List.sum_nil, xcat, Nat.reduceAdd, Nat.reduceLeDiff, Nat.zero_le]; done) | omega) only [fX1_read, k_p_sq, k_p_blk, k_sq0, k_sq11, k_sq12, k_sq13, k_sq14, k_sq15, k_sqr, k_sqi, k_blk0, k_blk1, k_blk2, k_blk3, k_blk4, k_blk5, k_blkr, k_blki, k_finr, k_fini, k_mapi, k_bindi, k_if1, k_if2, k_ops, k_br, k_rv, k_ri, k_rl, k_rz, k_rzi, k_01d, k_sw, k_01a, k_01b, k_01c, k_ifn, x_cmp, decide_eq_true_eq, Option.map_some, Option.bind_some, Option.toList_some, Option.toList_none, List.cons_append, List.nil_append, Nat.reduceAdd, true_or, or_true, Int.reduceNeg, Int.reduceEq, reduceIte, Nat.zero_le, Nat.reduceLeDiff, Nat.le_refl, Nat.reduceEqDiff, List.getElem?_cons_zero, List.getElem?_cons_succ, xst, List.set_cons_zero, List.set_cons_succ, List.map_cons, List.map_nil, List.sum_cons, List.sum_nil, xcat, Nat.reduceMul, Nat.reduceDiv, Nat.reduceMod, Nat.add_zero, e_nil, e_iconst, e_il, e_al, e_ll, e_istore, e_astore, e_lstore, e_ic, e_iadd, e_isub, e_imul, e_iand, e_ior, e_ixor, e_ishl, e_ishr, e_ineg, e_dupi, e_dupr, e_dupx, e_dup2, e_popi, eo_g0, eo_g1, eo_g2, eo_g3, eo_g4, eo_g5, eo_g6, eo_g7, eo_g8, eo_g9, eo_g10, eo_g11, eo_g12, eo_g13, eo_g14, eo_s14, eo_g15, eo_g16, eo_s16, et_g0, et_g1, et_s1, et_g2, et_s2, et_g3, et_s3, et_g4, et_s4, eu_g0, eu_g1, eu_s1, eu_g2, eu_g3, eu_s3, eu_g4, eh_g0, eh_g1, eh_s1, eh_g2, eh_s2, ed_g0, ed_g1, ed_g2, ed_g3, ed_s3, ew_g0, ew_g1, ew_g2, ew_g3, ew_s3, en_g0, en_g1, en_s1, en_g2, en_g3, en_g4, en_g5, en_s5, ex_g0, ex_s0, eq_g0, eq_s0, eq_g1, eq_s1, eq_g2, eq_s2, eq_g3, eq_s3, eq_g4, eq_s4, eq_g5, eq_s5, eq_g6, eq_s6, eq_g7, eq_s7, ez_g0, ez_g1, ez_g2, ez_g3, ez_s3, ez_g4, ez_s4, ez_g5, ez_s5, ez_g6, ez_s6, ez_g7, ez_s7, ez_g8, ez_s8, ez_g9, ez_s9, ez_g10, ez_s10, ez_g11, ez_s11, ez_g12, ez_s12, ez_g13, ez_s13, ez_g14, ez_g15, ez_b0g, ez_b0s, ez_b1g, ez_b1s, ez_b2g, ez_b2s, ez_b3g, ez_b3s, ez_b4g, ez_b4s, ez_b5g, ez_b5s, ez_ba, ez_g0g, ez_g0s, ez_g1g, ez_g1s, ez_g2g, ez_g2s, ez_g3g, ez_g3s, ez_g4g, ez_g4s, ez_g5g, ez_g5s, ez_g6g, ez_g6s, ez_g7g, ez_g7s, ez_ga, ez_l0g, ez_l0s, ez_l1g, ez_l1s, ez_l2g, ez_l2s, ez_la, q_zs, q_zz, q_z1, q_z2, q_i2, q_ig, q_iz, q_jz, true_and, false_and, or_self, or_true, true_or, or_false, false_or, and_true, and_false, and_self, not_true_eq_false, not_false_eq_true, ec82, f1, ec79, f2, f5, ec95, f4, Int.reduceEq]
  · rw [if_neg (by omega)] at f2
    obtain ⟨a1, A, B, D, g1, g2, g3, g4, g5⟩ := c_daL (n := n + 2) (h := h) (c := q) hx hl 31 0 0 (c.2.1 12) (c.2.1 13) (c.2.1 14) (by decide) (by decide) (by decide)
    rw [Nat.zero_add, show ((0 : Nat) : Int) = 0 from rfl] at g1
    have hb := (tDa_b hl 31 0 (by decide)).1
    have hat := tDa_at hl 31 0 (by decide) (by decide)
    refine ⟨a1, (if (tDa r 31 0).2.2 = -1 ∧ a1 < (T : Int) then a1 else (tDa r 31 0).2.2), A, B, D, _, _, _, (if_neg d0).symm, (if_neg d0).symm, (if_neg d0).symm, ?_, fun e i hi => by have := g5 e i hi; rwa [Nat.zero_add] at this⟩
    generalize tDa r 31 0 = Q at *
    obtain ⟨l, P, W⟩ := Q
    dsimp only at *
    obtain ⟨y1, y2, y3⟩ := hb
    obtain ⟨x1, x2, x3, x4⟩ := g2
    have f4 := c_close (n := n + 3) (h := h) (c := qD (q_i q 10 ((l.length : Nat) : Int)) A B D) (a := a1) (w := W) (L := (T : Int)) (hq2 _ _ _ _) x3 (by omega) y2 (by omega)
    have e5 : (if W = -1 then (if a1 < (T : Int) then -1 - a1 else 0) else -1 - W) = (if W = -1 then (if P < (T : Int) then -1 - P else 0) else -1 - W) := by
      by_cases d : W = -1
      · rw [if_pos d, if_pos d, x2 d]
      · rw [if_neg d, if_neg d]
    rw [e5] at f4
    generalize (if W = -1 then (if P < (T : Int) then -1 - P else 0) else -1 - W) = v at *
    generalize ((l.length : Nat) : Int) = K at *
    clear hx hx2 hq2 h2 hl hT e1 e5 g4 g5 hat y1 y2 y3 x1 x2 x3 x4 d0 hT80
    simp -implicitDefEqProofs (disch := first | with_reducible assumption | with_reducible exact isc_zs (by assumption) | with_reducible exact isc_zs (by decide) | with_reducible exact isc_zb (by assumption) (by assumption) | with_reducible exact isc_zb (by decide) (by assumption) | with_reducible exact isc_zg (by assumption) (by assumption) | with_reducible exact isc_zl (by assumption) (by assumption) | with_reducible exact isc_0 | with_reducible exact isc_1 | with_reducible exact isc_3 | with_reducible exact isc_7 | with_reducible exact isc_11 | with_reducible exact isc_15 | with_reducible exact isc_19 | with_reducible exact isc_24 | with_reducible exact isc_25 | (simp only [List.map_cons, List.map_nil, List.sum_cons, List.sum_nil, xcat, Nat.reduceAdd, Nat.reduceLeDiff, Nat.zero_le]; done) | omega) only [fX1_read, k_p_sq, k_p_blk, k_sq0, k_sq11, k_sq12, k_sq13, k_sq14, k_sq15, k_sqr, k_sqi, k_blk0, k_blk1, k_blk2, k_blk3, k_blk4, k_blk5, k_blkr, k_blki, k_finr, k_fini, k_mapi, k_bindi, k_if1, k_if2, k_ops, k_br, k_rv, k_ri, k_rl, k_rz, k_rzi, k_01d, k_sw, k_01a, k_01b, k_01c, k_ifn, x_cmp, decide_eq_true_eq, Option.map_some, Option.bind_some, Option.toList_some, Option.toList_none, List.cons_append, List.nil_append, Nat.reduceAdd, true_or, or_true, Int.reduceNeg, Int.reduceEq, reduceIte, Nat.zero_le, Nat.reduceLeDiff, Nat.le_refl, Nat.reduceEqDiff, List.getElem?_cons_zero, List.getElem?_cons_succ, xst, List.set_cons_zero, List.set_cons_succ, List.map_cons, List.map_nil, List.sum_cons, List.sum_nil, xcat, Nat.reduceMul, Nat.reduceDiv, Nat.reduceMod, Nat.add_zero, e_nil, e_iconst, e_il, e_al, e_ll, e_istore, e_astore, e_lstore, e_ic, e_iadd, e_isub, e_imul, e_iand, e_ior, e_ixor, e_ishl, e_ishr, e_ineg, e_dupi, e_dupr, e_dupx, e_dup2, e_popi, eo_g0, eo_g1, eo_g2, eo_g3, eo_g4, eo_g5, eo_g6, eo_g7, eo_g8, eo_g9, eo_g10, eo_g11, eo_g12, eo_g13, eo_g14, eo_s14, eo_g15, eo_g16, eo_s16, et_g0, et_g1, et_s1, et_g2, et_s2, et_g3, et_s3, et_g4, et_s4, eu_g0, eu_g1, eu_s1, eu_g2, eu_g3, eu_s3, eu_g4, eh_g0, eh_g1, eh_s1, eh_g2, eh_s2, ed_g0, ed_g1, ed_g2, ed_g3, ed_s3, ew_g0, ew_g1, ew_g2, ew_g3, ew_s3, en_g0, en_g1, en_s1, en_g2, en_g3, en_g4, en_g5, en_s5, ex_g0, ex_s0, eq_g0, eq_s0, eq_g1, eq_s1, eq_g2, eq_s2, eq_g3, eq_s3, eq_g4, eq_s4, eq_g5, eq_s5, eq_g6, eq_s6, eq_g7, eq_s7, ez_g0, ez_g1, ez_g2, ez_g3, ez_s3, ez_g4, ez_s4, ez_g5, ez_s5, ez_g6, ez_s6, ez_g7, ez_s7, ez_g8, ez_s8, ez_g9, ez_s9, ez_g10, ez_s10, ez_g11, ez_s11, ez_g12, ez_s12, ez_g13, ez_s13, ez_g14, ez_g15, ez_b0g, ez_b0s, ez_b1g, ez_b1s, ez_b2g, ez_b2s, ez_b3g, ez_b3s, ez_b4g, ez_b4s, ez_b5g, ez_b5s, ez_ba, ez_g0g, ez_g0s, ez_g1g, ez_g1s, ez_g2g, ez_g2s, ez_g3g, ez_g3s, ez_g4g, ez_g4s, ez_g5g, ez_g5s, ez_g6g, ez_g6s, ez_g7g, ez_g7s, ez_ga, ez_l0g, ez_l0s, ez_l1g, ez_l1s, ez_l2g, ez_l2s, ez_la, q_zs, q_zz, q_z1, q_z2, q_i2, q_ig, q_iz, q_jz, true_and, false_and, or_self, or_true, true_or, or_false, false_or, and_true, and_false, and_self, not_true_eq_false, not_false_eq_true, ec82, f1, ec79, f2, g1, ec95, f4, Int.reduceEq]
end DI
