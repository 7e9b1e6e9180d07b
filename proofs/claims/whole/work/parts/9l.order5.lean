/-! ===== order: alike ===== -/
def oUs (k : xKx) (a : Nat → Int) (T : Nat) (i : Nat) : Nat := xit (fun g m => if a (68 + g) = 0 ∧ (1 ≤ (oV k a g).1 ∧ (oV k a g).1 ≤ (T : Int)) then m ||| 2 ^ g else m) i 0
theorem oUs_s (k : xKx) (a : Nat → Int) (T i : Nat) : oUs k a T (i + 1) = if a (68 + i) = 0 ∧ (1 ≤ (oV k a i).1 ∧ (oV k a i).1 ≤ (T : Int)) then oUs k a T i ||| 2 ^ i else oUs k a T i := rfl
theorem oUs_bit (k : xKx) (a : Nat → Int) (T j : Nat) : ∀ i, ((oUs k a T i).testBit j = true ↔ (j < i ∧ a (68 + j) = 0 ∧ (1 ≤ (oV k a j).1 ∧ (oV k a j).1 ≤ (T : Int))))
  | 0 => by
    show (0 : Nat).testBit j = true ↔ _
    rw [Nat.zero_testBit]
    constructor
    · intro z; exact absurd z (by decide)
    · intro z; omega
  | i + 1 => by
    have ih := oUs_bit k a T j i
    rw [oUs_s]
    by_cases d : a (68 + i) = 0 ∧ (1 ≤ (oV k a i).1 ∧ (oV k a i).1 ≤ (T : Int))
    · rw [if_pos d, bit_or, Bool.or_eq_true, ih, decide_eq_true_eq]
      constructor
      · rintro (z | z)
        · exact ⟨by omega, z.2⟩
        · subst z; exact ⟨by omega, d⟩
      · intro z
        by_cases e : i = j
        · exact Or.inr e
        · exact Or.inl ⟨by omega, z.2⟩
    · rw [if_neg d, ih]
      constructor
      · intro z; exact ⟨by omega, z.2⟩
      · intro z
        by_cases e : i = j
        · subst e; exact absurd z.2 d
        · exact ⟨by omega, z.2⟩
theorem oUs_lt (k : xKx) (a : Nat → Int) (T : Nat) : ∀ i, i ≤ 8 → oUs k a T i < 256
  | 0, _ => by show 0 < 256; decide
  | i + 1, hi => by
    have ih := oUs_lt k a T i (by omega)
    rw [oUs_s]
    split
    · exact Nat.or_lt_two_pow (n := 8) ih (Nat.pow_lt_pow_right (by decide) (by omega))
    · exact ih
theorem kCome_to {k : xKx} (hK : kxOk k) {g : Nat} (hg : g < kN k) : ∀ (m t : Nat) (F : xFl), (kCome k g m t F).1 ≠ -2 → 0 ≤ (kCome k g m t F).2 ∧ (kCome k g m t F).2 < (kB k : Int)
  | 0, t, F, z => absurd rfl z
  | m + 1, t, F, z => by
    have hN := hK.2.1
    obtain ⟨c, hc, hF, hto⟩ := cIn_half (B := kB k) (k := k) hN (Nat.le_refl _) hK.2.2 F
    unfold kCome at z ⊢
    by_cases d : F.1 (68 + g) = 1
    · rw [if_pos d] at z ⊢
      by_cases d2 : xand (xshr (kHalf k F).2.1 (g : Int)) 1 = 1
      · rw [if_pos d2]
        rw [hF] at d2
        exact hto g ((xbit_n (by omega) (by omega)).1 d2)
      · rw [if_neg d2] at z ⊢
        exact kCome_to hK hg m (t + 1) _ z
    · rw [if_neg d] at z
      exact absurd rfl z
section OF
variable {n : Nat} {h : xH} {c : xQ} {r : xR} {H : xH}
def oRow (k : xKx) (a : Nat → Int) (sh : Int) (u i : Nat) (e : Nat → Int) : Prop := ∀ g, g < i → u.testBit g = true → ∀ b, b < kB k → e (g * 6 + b) = oB k a sh g b
set_option maxHeartbeats 1000000 in
theorem c_tbL (hr : Rel r c) {s : Int} {T : Nat} (hT : T ≤ 60) : ∀ (m i : Nat) (q : xQ) (x4 : xV), i + m = kN (rK r) → QEq c q → EOk q (kB (rK r)) (oH (rK r) (r.2 1) s) → oRow (rK r) (r.2 1) s (oUs (rK r) (r.2 1) T i) i (q.2.1 18) → ∃ (q' : xQ) (x4' : xV), QEq c q' ∧ EOk q' (kB (rK r)) (oH (rK r) (r.2 1) s) ∧ oRow (rK r) (r.2 1) s (oUs (rK r) (r.2 1) T (kN (rK r))) (kN (rK r)) (q'.2.1 18) ∧ p_lop (lX11_tellByGulls_4 (gg (n + 7))) ([.inr (.inr (.inl (0, 0))), .inl (T : Int), .inl ((oUs (rK r) (r.2 1) T i : Nat) : Int), .inl (i : Int), x4], [], hC h q) = some (.inl 1, ([.inr (.inr (.inl (0, 0))), .inl (T : Int), .inl ((oUs (rK r) (r.2 1) T (kN (rK r)) : Nat) : Int), .inl (kN (rK r) : Int), x4'], [], hC h q'))
  | 0, i, q, x4, hi, hq, he, ho => by
    have hi : i = kN (rK r) := by omega
    subst hi
    refine ⟨q, x4, hq, he, ho, k_l2 (k := 0) ?_⟩
    have e0 : q.2.2 0 133 = (kN (rK r) : Int) := by rw [← hq.2.2 0 (by decide) _ (by decide)]; exact hr.2.1.1.2.1
    clear hr he hq ho
    simp -implicitDefEqProofs (disch := first | with_reducible assumption | with_reducible exact isc_zs (by assumption) | with_reducible exact isc_zs (by decide) | with_reducible exact isc_zb (by assumption) (by assumption) | with_reducible exact isc_zb (by decide) (by assumption) | with_reducible exact isc_zg (by assumption) (by assumption) | with_reducible exact isc_zl (by assumption) (by assumption) | with_reducible exact isc_0 | with_reducible exact isc_1 | with_reducible exact isc_3 | with_reducible exact isc_7 | with_reducible exact isc_11 | with_reducible exact isc_15 | with_reducible exact isc_19 | with_reducible exact isc_24 | with_reducible exact isc_25 | (simp only [List.map_cons, List.map_nil, List.sum_cons, List.sum_nil, xcat, Nat.reduceAdd, Nat.reduceLeDiff, Nat.zero_le]; done) | omega) only [lX11_tellByGulls_4, k_p_sq, k_p_blk, k_sq0, k_sq11, k_sq12, k_sq13, k_sq14, k_sq15, k_sqr, k_sqi, k_blk0, k_blk1, k_blk2, k_blk3, k_blk4, k_blk5, k_blkr, k_blki, k_finr, k_fini, k_mapi, k_bindi, k_if1, k_if2, k_ops, k_br, k_rv, k_ri, k_rl, k_rz, k_rzi, k_01d, k_sw, k_01a, k_01b, k_01c, k_ifn, x_cmp, decide_eq_true_eq, Option.map_some, Option.bind_some, Option.toList_some, Option.toList_none, List.cons_append, List.nil_append, Nat.reduceAdd, true_or, or_true, Int.reduceNeg, Int.reduceEq, reduceIte, Nat.zero_le, Nat.reduceLeDiff, Nat.le_refl, Nat.reduceEqDiff, List.getElem?_cons_zero, List.getElem?_cons_succ, xst, List.set_cons_zero, List.set_cons_succ, List.map_cons, List.map_nil, List.sum_cons, List.sum_nil, xcat, Nat.reduceMul, Nat.reduceDiv, Nat.reduceMod, Nat.add_zero, e_nil, e_iconst, e_il, e_al, e_ll, e_istore, e_astore, e_lstore, e_ic, e_iadd, e_isub, e_imul, e_iand, e_ior, e_ixor, e_ishl, e_ishr, e_ineg, e_dupi, e_dupr, e_dupx, e_dup2, e_popi, eo_g0, eo_g1, eo_g2, eo_g3, eo_g4, eo_g5, eo_g6, eo_g7, eo_g8, eo_g9, eo_g10, eo_g11, eo_g12, eo_g13, eo_g14, eo_s14, eo_g15, eo_g16, eo_s16, et_g0, et_g1, et_s1, et_g2, et_s2, et_g3, et_s3, et_g4, et_s4, eu_g0, eu_g1, eu_s1, eu_g2, eu_g3, eu_s3, eu_g4, eh_g0, eh_g1, eh_s1, eh_g2, eh_s2, ed_g0, ed_g1, ed_g2, ed_g3, ed_s3, ew_g0, ew_g1, ew_g2, ew_g3, ew_s3, en_g0, en_g1, en_s1, en_g2, en_g3, en_g4, en_g5, en_s5, ex_g0, ex_s0, eq_g0, eq_s0, eq_g1, eq_s1, eq_g2, eq_s2, eq_g3, eq_s3, eq_g4, eq_s4, eq_g5, eq_s5, eq_g6, eq_s6, eq_g7, eq_s7, ez_g0, ez_g1, ez_g2, ez_g3, ez_s3, ez_g4, ez_s4, ez_g5, ez_s5, ez_g6, ez_s6, ez_g7, ez_s7, ez_g8, ez_s8, ez_g9, ez_s9, ez_g10, ez_s10, ez_g11, ez_s11, ez_g12, ez_s12, ez_g13, ez_s13, ez_g14, ez_g15, ez_b0g, ez_b0s, ez_b1g, ez_b1s, ez_b2g, ez_b2s, ez_b3g, ez_b3s, ez_b4g, ez_b4s, ez_b5g, ez_b5s, ez_ba, ez_g0g, ez_g0s, ez_g1g, ez_g1s, ez_g2g, ez_g2s, ez_g3g, ez_g3s, ez_g4g, ez_g4s, ez_g5g, ez_g5s, ez_g6g, ez_g6s, ez_g7g, ez_g7s, ez_ga, ez_l0g, ez_l0s, ez_l1g, ez_l1s, ez_l2g, ez_l2s, ez_la, q_zs, q_zz, q_z1, q_z2, q_i2, q_ig, q_iz, q_jz, true_and, false_and, or_self, or_true, true_or, or_false, false_or, and_true, and_false, and_self, not_true_eq_false, not_false_eq_true, e0, Int.le_refl]
  | m + 1, i, q, x4, hi, hq, he, ho => by
    have hB := rB6 hr.1
    have hN := rN8 hr.1
    have hrq : Rel r q := Rel_q hq hr
    have hK := (Rel_kx hrq).1
    have hg : i < kN (rK r) := by omega
    have e0 : q.2.2 0 133 = (kN (rK r) : Int) := hrq.2.1.1.2.1
    have x1 : xw ((i : Int) + 1) = ((i + 1 : Nat) : Int) := by rw [xw_id (by omega) (by omega)]; omega
    have d1 : ¬ (kN (rK r) : Int) ≤ (i : Int) := by omega
    have f0 := c_isG (n := n + 5) (h := h) (c := q) (k := 0) (by decide) (i : Int) 0
    have f0 : (gg (n + 7) 43).2 [.inr (.inr (.inl (3, 0))), .inl (i : Int), .inl 0] (hC h q) = some (some (.inl (if (0 ≤ (i : Int) ∧ (i : Int) < q.2.2 0 133 ∧ (i : Int) < 8) ∧ q.2.2 0 (68 + i) = 0 then 1 else 0)), hC h q) := f0
    rw [show q.2.2 0 (68 + i) = r.2 1 (68 + i) from eqG hrq (j := 4) hg (by decide)] at f0
    by_cases c1 : r.2 1 (68 + i) = 0
    · rw [if_pos ⟨⟨by omega, by omega, by omega⟩, c1⟩] at f0
      obtain ⟨z0, f1, hs0, hz0, ht0⟩ := c_look (n := n + 4) (h := h) hrq
      obtain ⟨⟨w9, f9⟩, hs, hz, ht⟩ := c_aheadSend (n := n + 4) (h := h) hrq hs0 hz0 ht0 hg c1
      obtain ⟨J, z', w, f2, hw⟩ := c_arrives (n := n + 1) (h := h) hrq hs hz ht hg
      have f1 : (gg (n + 7) 135).2 [.inr (.inr (.inl (0, 0)))] (hC h q) = some (none, hC h (q_z q 1 z0)) := f1
      have f9 : (gg (n + 7) 51).2 [.inr (.inr (.inl (4, 0))), .inl (i : Int), .inl (-1)] (hC h (q_z q 1 z0)) = some (some (.inl w9), hC h (q_z q 1 (rSend z0 i (-1)))) := f9
      have f2 : (gg (n + 7) 59).2 [.inr (.inr (.inl (4, 0))), .inl (i : Int)] (hC h (q_z q 1 (rSend z0 i (-1)))) = some (some (.inl w), hC h (q_z (q_j q 6 J) 1 z')) := f2
      have hw : (w = -1 ∧ (oV (rK r) (r.2 1) i).1 = -2) ∨ (∃ t' : Nat, 1 ≤ t' ∧ t' < 61 ∧ w = (t' : Int) ∧ (oV (rK r) (r.2 1) i).1 = (t' : Int) ∧ (oV (rK r) (r.2 1) i).2 = z' 140) := hw
      have hto : (oV (rK r) (r.2 1) i).1 ≠ -2 → 0 ≤ (oV (rK r) (r.2 1) i).2 ∧ (oV (rK r) (r.2 1) i).2 < (kB (rK r) : Int) := kCome_to hK hg 60 1 _
      generalize rSend z0 i (-1) = z1 at *
      have hq1 : QEq c (q_z (q_j q 6 J) 1 z') := QEq_trans hq (QEq_trans (QEq_j (by decide) J) (QEq_z1 _))
      have he1 : EOk (q_z (q_j q 6 J) 1 z') (kB (rK r)) (oH (rK r) (r.2 1) s) := he
      have hl140 : (q_z (q_j q 6 J) 1 z').2.2 1 140 = z' 140 := by rw [q_zs]
      have h18 : (q_z (q_j q 6 J) 1 z').2.1 18 = q.2.1 18 := rfl
      generalize hQ1 : q_z (q_j q 6 J) 1 z' = q1 at *
      have eU := oUs_s (rK r) (r.2 1) T i
      by_cases c2 : 1 ≤ (oV (rK r) (r.2 1) i).1 ∧ (oV (rK r) (r.2 1) i).1 ≤ (T : Int)
      · rw [if_pos ⟨c1, c2⟩] at eU
        rcases hw with ⟨w1, w2⟩ | ⟨t', w0, w1, w2, w3, w4⟩
        · omega
        · obtain ⟨l1, l2⟩ := hto (by omega)
          obtain ⟨l, hl⟩ : ∃ l : Nat, (oV (rK r) (r.2 1) i).2 = (l : Int) := ⟨(oV (rK r) (r.2 1) i).2.toNat, by omega⟩
          have hlB : l < kB (rK r) := by omega
          have s1 : xshl 1 (l : Int) = ((2 ^ l : Nat) : Int) := xshl_n (by omega)
          have f3 := c_spread (n := n + 5) (h := h) (c := q1) hB he1 (m := 2 ^ l) (t0 := t') (two_lt hlB) (by omega)
          have hWv : ∀ b, b < kB (rK r) → (cSpr (oH (rK r) (r.2 1) s) (kB (rK r)) t' (61 - t') (2 ^ l, wI (kB (rK r)) (q1.2.1 16))).2 b = oB (rK r) (r.2 1) s i b := by
            intro b hb
            unfold oB
            rw [hl, w3, Int.toNat_natCast, Int.toNat_natCast]
            exact (cSpr_eq (fun _ _ _ _ _ => rfl) (wI_B (kB (rK r)) (q1.2.1 16)) (61 - t')).2 b hb
          generalize (cSpr (oH (rK r) (r.2 1) s) (kB (rK r)) t' (61 - t') (2 ^ l, wI (kB (rK r)) (q1.2.1 16))).2 = W at *
          have f4 := c_keepFor (n := n + 6) (h := h) (c := q_j q1 16 W) (g := i) (by omega)
          rw [show (q_j q1 16 W).2.1 16 = W from q_js, show (q_j q1 16 W).2.1 18 = q.2.1 18 from (q_jn (by decide)).trans h18] at f4
          have s2 := xor_set (m := oUs (rK r) (r.2 1) T i) (g := i) (by have := oUs_lt (rK r) (r.2 1) T i (by omega); omega) (by omega)
          rw [← eU] at s2
          have c3 : ¬ w = -1 := by omega
          have c4 : ¬ (T : Int) < w := by omega
          have ho2 : oRow (rK r) (r.2 1) s (oUs (rK r) (r.2 1) T (i + 1)) (i + 1) ((q_j (q_j q1 16 W) 18 (x_cpf W (q.2.1 18) 0 (i * 6) 6)).2.1 18) := by
            intro g hg' hu b hb
            rw [q_js]
            unfold x_cpf
            by_cases eg : g = i
            · subst eg
              rw [if_pos (by omega), show 0 + (g * 6 + b - g * 6) = b by omega]
              exact hWv b hb
            · rw [if_neg (by omega)]
              refine ho g (by omega) ?_ b hb
              have := (oUs_bit (rK r) (r.2 1) T g (i + 1)).1 hu
              exact (oUs_bit (rK r) (r.2 1) T g i).2 ⟨by omega, this.2⟩
          obtain ⟨q', x4', g1, g2, g3, g4⟩ := c_tbL hr hT m (i + 1) (q_j (q_j q1 16 W) 18 (x_cpf W (q.2.1 18) 0 (i * 6) 6)) (.inl w) (by omega) (QEq_trans hq1 (QEq_trans (QEq_j (by decide) W) (QEq_j (by decide) _))) he1 ho2
          refine ⟨q', x4', g1, g2, g3, ?_⟩
          rw [← g4]
          refine k_l1 ?_
          rw [← w4, hl] at hl140
          rw [← w2] at f3
          generalize x_cpf W (q.2.1 18) 0 (i * 6) 6 = Z at *
          generalize ((oUs (rK r) (r.2 1) T (i + 1) : Nat) : Int) = U2 at *
          generalize ((oUs (rK r) (r.2 1) T i : Nat) : Int) = U1 at *
          generalize ((2 ^ l : Nat) : Int) = L2 at *
          clear hr he hq ho hrq hs hz ht hs0 hz0 ht0 hto hq1 he1 hQ1 eU g1 g2 g3 g4 ho2 hWv w0 w1 w2 w3 w4 c2 hl l1 l2 hK hB hi
          simp -implicitDefEqProofs (disch := first | with_reducible assumption | with_reducible exact isc_zs (by assumption) | with_reducible exact isc_zs (by decide) | with_reducible exact isc_zb (by assumption) (by assumption) | with_reducible exact isc_zb (by decide) (by assumption) | with_reducible exact isc_zg (by assumption) (by assumption) | with_reducible exact isc_zl (by assumption) (by assumption) | with_reducible exact isc_0 | with_reducible exact isc_1 | with_reducible exact isc_3 | with_reducible exact isc_7 | with_reducible exact isc_11 | with_reducible exact isc_15 | with_reducible exact isc_19 | with_reducible exact isc_24 | with_reducible exact isc_25 | (simp only [List.map_cons, List.map_nil, List.sum_cons, List.sum_nil, xcat, Nat.reduceAdd, Nat.reduceLeDiff, Nat.zero_le]; done) | omega) only [lX11_tellByGulls_4, k_p_sq, k_p_blk, k_sq0, k_sq11, k_sq12, k_sq13, k_sq14, k_sq15, k_sqr, k_sqi, k_blk0, k_blk1, k_blk2, k_blk3, k_blk4, k_blk5, k_blkr, k_blki, k_finr, k_fini, k_mapi, k_bindi, k_if1, k_if2, k_ops, k_br, k_rv, k_ri, k_rl, k_rz, k_rzi, k_01d, k_sw, k_01a, k_01b, k_01c, k_ifn, x_cmp, decide_eq_true_eq, Option.map_some, Option.bind_some, Option.toList_some, Option.toList_none, List.cons_append, List.nil_append, Nat.reduceAdd, true_or, or_true, Int.reduceNeg, Int.reduceEq, reduceIte, Nat.zero_le, Nat.reduceLeDiff, Nat.le_refl, Nat.reduceEqDiff, List.getElem?_cons_zero, List.getElem?_cons_succ, xst, List.set_cons_zero, List.set_cons_succ, List.map_cons, List.map_nil, List.sum_cons, List.sum_nil, xcat, Nat.reduceMul, Nat.reduceDiv, Nat.reduceMod, Nat.add_zero, e_nil, e_iconst, e_il, e_al, e_ll, e_istore, e_astore, e_lstore, e_ic, e_iadd, e_isub, e_imul, e_iand, e_ior, e_ixor, e_ishl, e_ishr, e_ineg, e_dupi, e_dupr, e_dupx, e_dup2, e_popi, eo_g0, eo_g1, eo_g2, eo_g3, eo_g4, eo_g5, eo_g6, eo_g7, eo_g8, eo_g9, eo_g10, eo_g11, eo_g12, eo_g13, eo_g14, eo_s14, eo_g15, eo_g16, eo_s16, et_g0, et_g1, et_s1, et_g2, et_s2, et_g3, et_s3, et_g4, et_s4, eu_g0, eu_g1, eu_s1, eu_g2, eu_g3, eu_s3, eu_g4, eh_g0, eh_g1, eh_s1, eh_g2, eh_s2, ed_g0, ed_g1, ed_g2, ed_g3, ed_s3, ew_g0, ew_g1, ew_g2, ew_g3, ew_s3, en_g0, en_g1, en_s1, en_g2, en_g3, en_g4, en_g5, en_s5, ex_g0, ex_s0, eq_g0, eq_s0, eq_g1, eq_s1, eq_g2, eq_s2, eq_g3, eq_s3, eq_g4, eq_s4, eq_g5, eq_s5, eq_g6, eq_s6, eq_g7, eq_s7, ez_g0, ez_g1, ez_g2, ez_g3, ez_s3, ez_g4, ez_s4, ez_g5, ez_s5, ez_g6, ez_s6, ez_g7, ez_s7, ez_g8, ez_s8, ez_g9, ez_s9, ez_g10, ez_s10, ez_g11, ez_s11, ez_g12, ez_s12, ez_g13, ez_s13, ez_g14, ez_g15, ez_b0g, ez_b0s, ez_b1g, ez_b1s, ez_b2g, ez_b2s, ez_b3g, ez_b3s, ez_b4g, ez_b4s, ez_b5g, ez_b5s, ez_ba, ez_g0g, ez_g0s, ez_g1g, ez_g1s, ez_g2g, ez_g2s, ez_g3g, ez_g3s, ez_g4g, ez_g4s, ez_g5g, ez_g5s, ez_g6g, ez_g6s, ez_g7g, ez_g7s, ez_ga, ez_l0g, ez_l0s, ez_l1g, ez_l1s, ez_l2g, ez_l2s, ez_la, q_zs, q_zz, q_z1, q_z2, q_i2, q_ig, q_iz, q_jz, true_and, false_and, or_self, or_true, true_or, or_false, false_or, and_true, and_false, and_self, not_true_eq_false, not_false_eq_true, e0, d1, ec43, f0, ec135, f1, ec51, f9, ec59, f2, c3, c4, hl140, s1, ec72, f3, ec75, f4, s2, x1, e_iinc, Int.reduceEq]
      · rw [if_neg (fun z => c2 z.2)] at eU
        have c3 : w = -1 ∨ (¬ w = -1 ∧ (T : Int) < w) := by
          rcases hw with ⟨w1, w2⟩ | ⟨t', w0, w1, w2, w3, w4⟩
          · exact Or.inl w1
          · exact Or.inr ⟨by omega, by omega⟩
        have ho2 : oRow (rK r) (r.2 1) s (oUs (rK r) (r.2 1) T (i + 1)) (i + 1) (q1.2.1 18) := by
          intro g hg' hu b hb
          rw [h18]
          have := (oUs_bit (rK r) (r.2 1) T g (i + 1)).1 hu
          by_cases eg : g = i
          · subst eg
            exact absurd this.2.2 c2
          · exact ho g (by omega) ((oUs_bit (rK r) (r.2 1) T g i).2 ⟨by omega, this.2⟩) b hb
        obtain ⟨q', x4', g1, g2, g3, g4⟩ := c_tbL hr hT m (i + 1) q1 (.inl w) (by omega) hq1 he1 ho2
        refine ⟨q', x4', g1, g2, g3, ?_⟩
        rw [← g4, eU]
        refine k_l1 ?_
        generalize ((oUs (rK r) (r.2 1) T i : Nat) : Int) = U1 at *
        clear hr he hq ho hrq hs hz ht hs0 hz0 ht0 hto hq1 he1 hQ1 eU g1 g2 g3 g4 ho2 hw c2 hK hB hi
        rcases c3 with c3 | ⟨c3, c4⟩
        · subst c3
          simp -implicitDefEqProofs (disch := first | with_reducible assumption | with_reducible exact isc_zs (by assumption) | with_reducible exact isc_zs (by decide) | with_reducible exact isc_zb (by assumption) (by assumption) | with_reducible exact isc_zb (by decide) (by assumption) | with_reducible exact isc_zg (by assumption) (by assumption) | with_reducible exact isc_zl (by assumption) (by assumption) | with_reducible exact isc_0 | with_reducible exact isc_1 | with_reducible exact isc_3 | with_reducible exact isc_7 | with_reducible exact isc_11 | with_reducible exact isc_15 | with_reducible exact isc_19 | with_reducible exact isc_24 | with_reducible exact isc_25 | (simp only [List.map_cons, List.map_nil, List.sum_cons, List.sum_nil, xcat, Nat.reduceAdd, Nat.reduceLeDiff, Nat.zero_le]; done) | omega) only [lX11_tellByGulls_4, k_p_sq, k_p_blk, k_sq0, k_sq11, k_sq12, k_sq13, k_sq14, k_sq15, k_sqr, k_sqi, k_blk0, k_blk1, k_blk2, k_blk3, k_blk4, k_blk5, k_blkr, k_blki, k_finr, k_fini, k_mapi, k_bindi, k_if1, k_if2, k_ops, k_br, k_rv, k_ri, k_rl, k_rz, k_rzi, k_01d, k_sw, k_01a, k_01b, k_01c, k_ifn, x_cmp, decide_eq_true_eq, Option.map_some, Option.bind_some, Option.toList_some, Option.toList_none, List.cons_append, List.nil_append, Nat.reduceAdd, true_or, or_true, Int.reduceNeg, Int.reduceEq, reduceIte, Nat.zero_le, Nat.reduceLeDiff, Nat.le_refl, Nat.reduceEqDiff, List.getElem?_cons_zero, List.getElem?_cons_succ, xst, List.set_cons_zero, List.set_cons_succ, List.map_cons, List.map_nil, List.sum_cons, List.sum_nil, xcat, Nat.reduceMul, Nat.reduceDiv, Nat.reduceMod, Nat.add_zero, e_nil, e_iconst, e_il, e_al, e_ll, e_istore, e_astore, e_lstore, e_ic, e_iadd, e_isub, e_imul, e_iand, e_ior, e_ixor, e_ishl, e_ishr, e_ineg, e_dupi, e_dupr, e_dupx, e_dup2, e_popi, eo_g0, eo_g1, eo_g2, eo_g3, eo_g4, eo_g5, eo_g6, eo_g7, eo_g8, eo_g9, eo_g10, eo_g11, eo_g12, eo_g13, eo_g14, eo_s14, eo_g15, eo_g16, eo_s16, et_g0, et_g1, et_s1, et_g2, et_s2, et_g3, et_s3, et_g4, et_s4, eu_g0, eu_g1, eu_s1, eu_g2, eu_g3, eu_s3, eu_g4, eh_g0, eh_g1, eh_s1, eh_g2, eh_s2, ed_g0, ed_g1, ed_g2, ed_g3, ed_s3, ew_g0, ew_g1, ew_g2, ew_g3, ew_s3, en_g0, en_g1, en_s1, en_g2, en_g3, en_g4, en_g5, en_s5, ex_g0, ex_s0, eq_g0, eq_s0, eq_g1, eq_s1, eq_g2, eq_s2, eq_g3, eq_s3, eq_g4, eq_s4, eq_g5, eq_s5, eq_g6, eq_s6, eq_g7, eq_s7, ez_g0, ez_g1, ez_g2, ez_g3, ez_s3, ez_g4, ez_s4, ez_g5, ez_s5, ez_g6, ez_s6, ez_g7, ez_s7, ez_g8, ez_s8, ez_g9, ez_s9, ez_g10, ez_s10, ez_g11, ez_s11, ez_g12, ez_s12, ez_g13, ez_s13, ez_g14, ez_g15, ez_b0g, ez_b0s, ez_b1g, ez_b1s, ez_b2g, ez_b2s, ez_b3g, ez_b3s, ez_b4g, ez_b4s, ez_b5g, ez_b5s, ez_ba, ez_g0g, ez_g0s, ez_g1g, ez_g1s, ez_g2g, ez_g2s, ez_g3g, ez_g3s, ez_g4g, ez_g4s, ez_g5g, ez_g5s, ez_g6g, ez_g6s, ez_g7g, ez_g7s, ez_ga, ez_l0g, ez_l0s, ez_l1g, ez_l1s, ez_l2g, ez_l2s, ez_la, q_zs, q_zz, q_z1, q_z2, q_i2, q_ig, q_iz, q_jz, true_and, false_and, or_self, or_true, true_or, or_false, false_or, and_true, and_false, and_self, not_true_eq_false, not_false_eq_true, e0, d1, ec43, f0, ec135, f1, ec51, f9, ec59, f2, x1, e_iinc, Int.reduceEq]
        · simp -implicitDefEqProofs (disch := first | with_reducible assumption | with_reducible exact isc_zs (by assumption) | with_reducible exact isc_zs (by decide) | with_reducible exact isc_zb (by assumption) (by assumption) | with_reducible exact isc_zb (by decide) (by assumption) | with_reducible exact isc_zg (by assumption) (by assumption) | with_reducible exact isc_zl (by assumption) (by assumption) | with_reducible exact isc_0 | with_reducible exact isc_1 | with_reducible exact isc_3 | with_reducible exact isc_7 | with_reducible exact isc_11 | with_reducible exact isc_15 | with_reducible exact isc_19 | with_reducible exact isc_24 | with_reducible exact isc_25 | (simp only [List.map_cons, List.map_nil, List.sum_cons, List.sum_nil, xcat, Nat.reduceAdd, Nat.reduceLeDiff, Nat.zero_le]; done) | omega) only [lX11_tellByGulls_4, k_p_sq, k_p_blk, k_sq0, k_sq11, k_sq12, k_sq13, k_sq14, k_sq15, k_sqr, k_sqi, k_blk0, k_blk1, k_blk2, k_blk3, k_blk4, k_blk5, k_blkr, k_blki, k_finr, k_fini, k_mapi, k_bindi, k_if1, k_if2, k_ops, k_br, k_rv, k_ri, k_rl, k_rz, k_rzi, k_01d, k_sw, k_01a, k_01b, k_01c, k_ifn, x_cmp, decide_eq_true_eq, Option.map_some, Option.bind_some, Option.toList_some, Option.toList_none, List.cons_append, List.nil_append, Nat.reduceAdd, true_or, or_true, Int.reduceNeg, Int.reduceEq, reduceIte, Nat.zero_le, Nat.reduceLeDiff, Nat.le_refl, Nat.reduceEqDiff, List.getElem?_cons_zero, List.getElem?_cons_succ, xst, List.set_cons_zero, List.set_cons_succ, List.map_cons, List.map_nil, List.sum_cons, List.sum_nil, xcat, Nat.reduceMul, Nat.reduceDiv, Nat.reduceMod, Nat.add_zero, e_nil, e_iconst, e_il, e_al, e_ll, e_istore, e_astore, e_lstore, e_ic, e_iadd, e_isub, e_imul, e_iand, e_ior, e_ixor, e_ishl, e_ishr, e_ineg, e_dupi, e_dupr, e_dupx, e_dup2, e_popi, eo_g0, eo_g1, eo_g2, eo_g3, eo_g4, eo_g5, eo_g6, eo_g7, eo_g8, eo_g9, eo_g10, eo_g11, eo_g12, eo_g13, eo_g14, eo_s14, eo_g15, eo_g16, eo_s16, et_g0, et_g1, et_s1, et_g2, et_s2, et_g3, et_s3, et_g4, et_s4, eu_g0, eu_g1, eu_s1, eu_g2, eu_g3, eu_s3, eu_g4, eh_g0, eh_g1, eh_s1, eh_g2, eh_s2, ed_g0, ed_g1, ed_g2, ed_g3, ed_s3, ew_g0, ew_g1, ew_g2, ew_g3, ew_s3, en_g0, en_g1, en_s1, en_g2, en_g3, en_g4, en_g5, en_s5, ex_g0, ex_s0, eq_g0, eq_s0, eq_g1, eq_s1, eq_g2, eq_s2, eq_g3, eq_s3, eq_g4, eq_s4, eq_g5, eq_s5, eq_g6, eq_s6, eq_g7, eq_s7, ez_g0, ez_g1, ez_g2, ez_g3, ez_s3, ez_g4, ez_s4, ez_g5, ez_s5, ez_g6, ez_s6, ez_g7, ez_s7, ez_g8, ez_s8, ez_g9, ez_s9, ez_g10, ez_s10, ez_g11, ez_s11, ez_g12, ez_s12, ez_g13, ez_s13, ez_g14, ez_g15, ez_b0g, ez_b0s, ez_b1g, ez_b1s, ez_b2g, ez_b2s, ez_b3g, ez_b3s, ez_b4g, ez_b4s, ez_b5g, ez_b5s, ez_ba, ez_g0g, ez_g0s, ez_g1g, ez_g1s, ez_g2g, ez_g2s, ez_g3g, ez_g3s, ez_g4g, ez_g4s, ez_g5g, ez_g5s, ez_g6g, ez_g6s, ez_g7g, ez_g7s, ez_ga, ez_l0g, ez_l0s, ez_l1g, ez_l1s, ez_l2g, ez_l2s, ez_la, q_zs, q_zz, q_z1, q_z2, q_i2, q_ig, q_iz, q_jz, true_and, false_and, or_self, or_true, true_or, or_false, false_or, and_true, and_false, and_self, not_true_eq_false, not_false_eq_true, e0, d1, ec43, f0, ec135, f1, ec51, f9, ec59, f2, c3, c4, x1, e_iinc, Int.reduceEq]
    · rw [if_neg (fun z => c1 z.2)] at f0
      have eU := oUs_s (rK r) (r.2 1) T i
      rw [if_neg (fun z => c1 z.1)] at eU
      have ho2 : oRow (rK r) (r.2 1) s (oUs (rK r) (r.2 1) T (i + 1)) (i + 1) (q.2.1 18) := by
        intro g hg' hu b hb
        have := (oUs_bit (rK r) (r.2 1) T g (i + 1)).1 hu
        by_cases eg : g = i
        · subst eg
          exact absurd this.2.1 c1
        · exact ho g (by omega) ((oUs_bit (rK r) (r.2 1) T g i).2 ⟨by omega, this.2⟩) b hb
      obtain ⟨q', x4', g1, g2, g3, g4⟩ := c_tbL hr hT m (i + 1) q x4 (by omega) hq he ho2
      refine ⟨q', x4', g1, g2, g3, ?_⟩
      rw [← g4, eU]
      refine k_l1 ?_
      generalize ((oUs (rK r) (r.2 1) T i : Nat) : Int) = U1 at *
      clear hr he hq ho hrq eU g1 g2 g3 g4 ho2 hK hB hi
      simp -implicitDefEqProofs (disch := first | with_reducible assumption | with_reducible exact isc_zs (by assumption) | with_reducible exact isc_zs (by decide) | with_reducible exact isc_zb (by assumption) (by assumption) | with_reducible exact isc_zb (by decide) (by assumption) | with_reducible exact isc_zg (by assumption) (by assumption) | with_reducible exact isc_zl (by assumption) (by assumption) | with_reducible exact isc_0 | with_reducible exact isc_1 | with_reducible exact isc_3 | with_reducible exact isc_7 | with_reducible exact isc_11 | with_reducible exact isc_15 | with_reducible exact isc_19 | with_reducible exact isc_24 | with_reducible exact isc_25 | (simp only [List.map_cons, List.map_nil, List.sum_cons, List.sum_nil, xcat, Nat.reduceAdd, Nat.reduceLeDiff, Nat.zero_le]; done) | omega) only [lX11_tellByGulls_4, k_p_sq, k_p_blk, k_sq0, k_sq11, k_sq12, k_sq13, k_sq14, k_sq15, k_sqr, k_sqi, k_blk0, k_blk1, k_blk2, k_blk3, k_blk4, k_blk5, k_blkr, k_blki, k_finr, k_fini, k_mapi, k_bindi, k_if1, k_if2, k_ops, k_br, k_rv, k_ri, k_rl, k_rz, k_rzi, k_01d, k_sw, k_01a, k_01b, k_01c, k_ifn, x_cmp, decide_eq_true_eq, Option.map_some, Option.bind_some, Option.toList_some, Option.toList_none, List.cons_append, List.nil_append, Nat.reduceAdd, true_or, or_true, Int.reduceNeg, Int.reduceEq, reduceIte, Nat.zero_le, Nat.reduceLeDiff, Nat.le_refl, Nat.reduceEqDiff, List.getElem?_cons_zero, List.getElem?_cons_succ, xst, List.set_cons_zero, List.set_cons_succ, List.map_cons, List.map_nil, List.sum_cons, List.sum_nil, xcat, Nat.reduceMul, Nat.reduceDiv, Nat.reduceMod, Nat.add_zero, e_nil, e_iconst, e_il, e_al, e_ll, e_istore, e_astore, e_lstore, e_ic, e_iadd, e_isub, e_imul, e_iand, e_ior, e_ixor, e_ishl, e_ishr, e_ineg, e_dupi, e_dupr, e_dupx, e_dup2, e_popi, eo_g0, eo_g1, eo_g2, eo_g3, eo_g4, eo_g5, eo_g6, eo_g7, eo_g8, eo_g9, eo_g10, eo_g11, eo_g12, eo_g13, eo_g14, eo_s14, eo_g15, eo_g16, eo_s16, et_g0, et_g1, et_s1, et_g2, et_s2, et_g3, et_s3, et_g4, et_s4, eu_g0, eu_g1, eu_s1, eu_g2, eu_g3, eu_s3, eu_g4, eh_g0, eh_g1, eh_s1, eh_g2, eh_s2, ed_g0, ed_g1, ed_g2, ed_g3, ed_s3, ew_g0, ew_g1, ew_g2, ew_g3, ew_s3, en_g0, en_g1, en_s1, en_g2, en_g3, en_g4, en_g5, en_s5, ex_g0, ex_s0, eq_g0, eq_s0, eq_g1, eq_s1, eq_g2, eq_s2, eq_g3, eq_s3, eq_g4, eq_s4, eq_g5, eq_s5, eq_g6, eq_s6, eq_g7, eq_s7, ez_g0, ez_g1, ez_g2, ez_g3, ez_s3, ez_g4, ez_s4, ez_g5, ez_s5, ez_g6, ez_s6, ez_g7, ez_s7, ez_g8, ez_s8, ez_g9, ez_s9, ez_g10, ez_s10, ez_g11, ez_s11, ez_g12, ez_s12, ez_g13, ez_s13, ez_g14, ez_g15, ez_b0g, ez_b0s, ez_b1g, ez_b1s, ez_b2g, ez_b2s, ez_b3g, ez_b3s, ez_b4g, ez_b4s, ez_b5g, ez_b5s, ez_ba, ez_g0g, ez_g0s, ez_g1g, ez_g1s, ez_g2g, ez_g2s, ez_g3g, ez_g3s, ez_g4g, ez_g4s, ez_g5g, ez_g5s, ez_g6g, ez_g6s, ez_g7g, ez_g7s, ez_ga, ez_l0g, ez_l0s, ez_l1g, ez_l1s, ez_l2g, ez_l2s, ez_la, q_zs, q_zz, q_z1, q_z2, q_i2, q_ig, q_iz, q_jz, true_and, false_and, or_self, or_true, true_or, or_false, false_or, and_true, and_false, and_self, not_true_eq_false, not_false_eq_true, e0, d1, ec43, f0, x1, e_iinc, Int.reduceEq]
theorem c_tellBy (hr : Rel r c) {q : xQ} {s : Int} {T : Nat} (hT : T ≤ 60) (hq : QEq c q) (he : EOk q (kB (rK r)) (oH (rK r) (r.2 1) s)) : ∃ q' : xQ, QEq c q' ∧ EOk q' (kB (rK r)) (oH (rK r) (r.2 1) s) ∧ oRow (rK r) (r.2 1) s (oUs (rK r) (r.2 1) T (kN (rK r))) (kN (rK r)) (q'.2.1 18) ∧ (gg (n + 8) 144).2 [.inr (.inr (.inl (0, 0))), .inl (T : Int)] (hC h q) = some (some (.inl ((oUs (rK r) (r.2 1) T (kN (rK r)) : Nat) : Int)), hC h q') := by
  obtain ⟨q', x4', g1, g2, g3, g4⟩ := c_tbL (n := n) (h := h) hr hT (kN (rK r)) 0 q (.inr (.inr (.inr 2))) (by omega) hq he (fun g hg => by omega)
  refine ⟨q', g1, g2, g3, ?_⟩
  have g4 : p_lop (lX11_tellByGulls_4 (gg (n + 7))) ([.inr (.inr (.inl (0, 0))), .inl (T : Int), .inl 0, .inl 0, .inr (.inr (.inr 2))], [], hC h q) = _ := g4
  rw [gr144]
  generalize ((oUs (rK r) (r.2 1) T (kN (rK r)) : Nat) : Int) = U at *
  clear hr hq he g1 g2 g3
  simp -implicitDefEqProofs (disch := first | with_reducible assumption | with_reducible exact isc_zs (by assumption) | with_reducible exact isc_zs (by decide) | with_reducible exact isc_zb (by assumption) (by assumption) | with_reducible exact isc_zb (by decide) (by assumption) | with_reducible exact isc_zg (by assumption) (by assumption) | with_reducible exact isc_zl (by assumption) (by assumption) | with_reducible exact isc_0 | with_reducible exact isc_1 | with_reducible exact isc_3 | with_reducible exact isc_7 | with_reducible exact isc_11 | with_reducible exact isc_15 | with_reducible exact isc_19 | with_reducible exact isc_24 | with_reducible exact isc_25 | (simp only [List.map_cons, List.map_nil, List.sum_cons, List.sum_nil, xcat, Nat.reduceAdd, Nat.reduceLeDiff, Nat.zero_le]; done) | omega) only [fX11_tellByGulls, k_p_sq, k_p_blk, k_sq0, k_sq11, k_sq12, k_sq13, k_sq14, k_sq15, k_sqr, k_sqi, k_blk0, k_blk1, k_blk2, k_blk3, k_blk4, k_blk5, k_blkr, k_blki, k_finr, k_fini, k_mapi, k_bindi, k_if1, k_if2, k_ops, k_br, k_rv, k_ri, k_rl, k_rz, k_rzi, k_01d, k_sw, k_01a, k_01b, k_01c, k_ifn, x_cmp, decide_eq_true_eq, Option.map_some, Option.bind_some, Option.toList_some, Option.toList_none, List.cons_append, List.nil_append, Nat.reduceAdd, true_or, or_true, Int.reduceNeg, Int.reduceEq, reduceIte, Nat.zero_le, Nat.reduceLeDiff, Nat.le_refl, Nat.reduceEqDiff, List.getElem?_cons_zero, List.getElem?_cons_succ, xst, List.set_cons_zero, List.set_cons_succ, List.map_cons, List.map_nil, List.sum_cons, List.sum_nil, xcat, Nat.reduceMul, Nat.reduceDiv, Nat.reduceMod, Nat.add_zero, e_nil, e_iconst, e_il, e_al, e_ll, e_istore, e_astore, e_lstore, e_ic, e_iadd, e_isub, e_imul, e_iand, e_ior, e_ixor, e_ishl, e_ishr, e_ineg, e_dupi, e_dupr, e_dupx, e_dup2, e_popi, eo_g0, eo_g1, eo_g2, eo_g3, eo_g4, eo_g5, eo_g6, eo_g7, eo_g8, eo_g9, eo_g10, eo_g11, eo_g12, eo_g13, eo_g14, eo_s14, eo_g15, eo_g16, eo_s16, et_g0, et_g1, et_s1, et_g2, et_s2, et_g3, et_s3, et_g4, et_s4, eu_g0, eu_g1, eu_s1, eu_g2, eu_g3, eu_s3, eu_g4, eh_g0, eh_g1, eh_s1, eh_g2, eh_s2, ed_g0, ed_g1, ed_g2, ed_g3, ed_s3, ew_g0, ew_g1, ew_g2, ew_g3, ew_s3, en_g0, en_g1, en_s1, en_g2, en_g3, en_g4, en_g5, en_s5, ex_g0, ex_s0, eq_g0, eq_s0, eq_g1, eq_s1, eq_g2, eq_s2, eq_g3, eq_s3, eq_g4, eq_s4, eq_g5, eq_s5, eq_g6, eq_s6, eq_g7, eq_s7, ez_g0, ez_g1, ez_g2, ez_g3, ez_s3, ez_g4, ez_s4, ez_g5, ez_s5, ez_g6, ez_s6, ez_g7, ez_s7, ez_g8, ez_s8, ez_g9, ez_s9, ez_g10, ez_s10, ez_g11, ez_s11, ez_g12, ez_s12, ez_g13, ez_s13, ez_g14, ez_g15, ez_b0g, ez_b0s, ez_b1g, ez_b1s, ez_b2g, ez_b2s, ez_b3g, ez_b3s, ez_b4g, ez_b4s, ez_b5g, ez_b5s, ez_ba, ez_g0g, ez_g0s, ez_g1g, ez_g1s, ez_g2g, ez_g2s, ez_g3g, ez_g3s, ez_g4g, ez_g4s, ez_g5g, ez_g5s, ez_g6g, ez_g6s, ez_g7g, ez_g7s, ez_ga, ez_l0g, ez_l0s, ez_l1g, ez_l1s, ez_l2g, ez_l2s, ez_la, q_zs, q_zz, q_z1, q_z2, q_i2, q_ig, q_iz, q_jz, true_and, false_and, or_self, or_true, true_or, or_false, false_or, and_true, and_false, and_self, not_true_eq_false, not_false_eq_true, g4]
end OF
