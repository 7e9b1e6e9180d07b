/-! ===== train: the class goes through the rows as the reference does ===== -/
def vis (B : Nat) (v : Int) (t : Nat → Int) (S : Int × (Nat → Int)) : Int × (Nat → Int) := if S.1 < v then (v, x_cpf t S.2 0 0 B) else S
def nB : Nat → Nat → Nat
  | 0, _ => 1
  | d + 1, left => xit (fun k a => a + nB d (left - k)) (left + 1) 0
def sN (d left j : Nat) : Nat := xit (fun k a => a + nB d (left - k)) j 0
theorem nB_s (d left : Nat) : nB (d + 1) left = sN d left (left + 1) := rfl
theorem sN_s (d left j : Nat) : sN d left (j + 1) = sN d left j + nB d (left - j) := rfl
theorem sN_le (d left : Nat) (j : Nat) : ∀ m, sN d left j ≤ sN d left (j + m)
  | 0 => Nat.le_refl _
  | m + 1 => by
    have := sN_le d left j m
    rw [show j + (m + 1) = j + m + 1 by omega, sN_s]
    omega
theorem nB_pos : ∀ d left, 1 ≤ nB d left
  | 0, _ => Nat.le_refl _
  | d + 1, left => by
    have := nB_pos d (left - left)
    rw [nB_s, sN_s]
    omega
theorem nB_2000 {B m : Nat} (hB : B < 6) (hm : m ≤ 8) : nB B m ≤ 2000 := by
  have key : ∀ B : Fin 6, ∀ m : Fin 9, nB B.1 m.1 ≤ 2000 := by decide +kernel
  exact key ⟨B, hB⟩ ⟨m, by omega⟩
section TB
variable {n : Nat} {h : xH} {c : xQ} {r : xR} {H : xH} {ch : Int} {t b : Nat → Int}
theorem k_cpyT {L S : List xV} {X : xQ} {K : Nat} (hK : K ≤ 6) (hc : (S.map xcat).sum ≤ 8) : p_cpy (L, .inl (K : Int) :: .inl 0 :: .inr (.inr (.inl (0, 20))) :: .inl 0 :: .inr (.inr (.inl (0, 21))) :: S, hC h X) = some (.inl 0, (L, S, hC h (q_j X 20 (x_cpf (X.2.1 21) (X.2.1 20) 0 0 K)))) := by
  unfold p_cpy
  dsimp only
  have e5 : xcell (hC h X) 0 21 = some (.inr (.inl (0, 6, X.2.1 21))) := rfl
  have e4 : xcell (hC h X) 0 20 = some (.inr (.inl (0, 6, X.2.1 20))) := rfl
  rw [e5, e4]
  dsimp only
  rw [if_pos ⟨⟨rfl, rfl⟩, ⟨by decide, by decide, by omega⟩, ⟨by omega, by omega⟩, hc⟩, Int.toNat_natCast]
  rfl
theorem tr_body {B : Nat} (hB : B ≤ 6) (hb : c.1 13 = (B : Int)) {p : Int} (hw : pwOk c p) (h0 : 0 ≤ p) (h1 : p ≤ 10) (ht : ∀ j, j < B → 0 ≤ t j ∧ t j ≤ 8) {i : Nat} (hi : i < 2000) {m0 m1 m2 : Int} (x6 : xV) {w : Int} {t' : Nat → Int} (hn : ∀ ch b, (gg (n + 1) 100).2 [.inr (.inr (.inl (0, 19)))] (hC h (cT c ch t b)) = some (some (.inl w), hC h (cT c ch t' b))) : lX10_find_65 (gg (n + 1)) ([.inr (.inr (.inl (0, 19))), .inl m0, .inl m1, .inl m2, .inl 1, .inl (i : Int), x6], [], hC h (cT c ch t b)) = some (.inl 1, ([.inr (.inr (.inl (0, 19))), .inl m0, .inl m1, .inl m2, .inl w, .inl ((i + 1 : Nat) : Int), .inl (chT p t B)], [], hC h (cT c (vis B (chT p t B) t (ch, b)).1 t' (vis B (chT p t B) t (ch, b)).2))) := by
  have f1 := c_chance (n := n) (h := h) (c := c) (ch := ch) (b := b) hB hb hw h0 h1 ht
  have kc := k_cpyT (h := h) (L := [.inr (.inr (.inl (0, 19))), .inl m0, .inl m1, .inl m2, .inl 1, .inl (i : Int), .inl (chT p t B)]) (S := []) (X := cT c (chT p t B) t b) hB (Nat.zero_le _)
  rw [cT_21, cT_20, cT_p20] at kc
  have d1 : ¬ (2000 : Int) ≤ (i : Int) := by omega
  have x1 : xw ((i : Int) + 1) = ((i + 1 : Nat) : Int) := by rw [xw_id (by omega) (by omega)]; omega
  unfold vis
  dsimp only
  generalize chT p t B = v at *
  generalize x_cpf t b 0 0 B = Z at *
  clear hw ht hi hB
  by_cases c1 : ch < v
  · have c2 : ¬ v ≤ ch := by omega
    simp only [if_pos c1]
    simp -implicitDefEqProofs (disch := first | with_reducible assumption | with_reducible exact isc_zs (by assumption) | with_reducible exact isc_zs (by decide) | with_reducible exact isc_zb (by assumption) (by assumption) | with_reducible exact isc_zb (by decide) (by assumption) | with_reducible exact isc_zg (by assumption) (by assumption) | with_reducible exact isc_zl (by assumption) (by assumption) | with_reducible exact isc_0 | with_reducible exact isc_1 | with_reducible exact isc_3 | with_reducible exact isc_7 | with_reducible exact isc_11 | with_reducible exact isc_15 | with_reducible exact isc_19 | with_reducible exact isc_24 | with_reducible exact isc_25 | (simp only [List.map_cons, List.map_nil, List.sum_cons, List.sum_nil, xcat, Nat.reduceAdd, Nat.reduceLeDiff, Nat.zero_le]; done) | omega) only [lX10_find_65, k_p_sq, k_p_blk, k_sq0, k_sq11, k_sq12, k_sq13, k_sq14, k_sq15, k_sqr, k_sqi, k_blk0, k_blk1, k_blk2, k_blk3, k_blk4, k_blk5, k_blkr, k_blki, k_finr, k_fini, k_mapi, k_bindi, k_if1, k_if2, k_ops, k_br, k_rv, k_ri, k_rl, k_rz, k_rzi, k_01d, k_sw, k_01a, k_01b, k_01c, k_ifn, x_cmp, decide_eq_true_eq, Option.map_some, Option.bind_some, Option.toList_some, Option.toList_none, List.cons_append, List.nil_append, Nat.reduceAdd, true_or, or_true, Int.reduceNeg, Int.reduceEq, reduceIte, Nat.zero_le, Nat.reduceLeDiff, Nat.le_refl, Nat.reduceEqDiff, List.getElem?_cons_zero, List.getElem?_cons_succ, xst, List.set_cons_zero, List.set_cons_succ, List.map_cons, List.map_nil, List.sum_cons, List.sum_nil, xcat, Nat.reduceMul, Nat.reduceDiv, Nat.reduceMod, Nat.add_zero, e_nil, e_iconst, e_il, e_al, e_ll, e_istore, e_astore, e_lstore, e_ic, e_iadd, e_isub, e_imul, e_iand, e_ior, e_ixor, e_ishl, e_ishr, e_ineg, e_dupi, e_dupr, e_dupx, e_dup2, e_popi, eo_g0, eo_g1, eo_g2, eo_g3, eo_g4, eo_g5, eo_g6, eo_g7, eo_g8, eo_g9, eo_g10, eo_g11, eo_g12, eo_g13, eo_g14, eo_s14, eo_g15, eo_g16, eo_s16, et_g0, et_g1, et_s1, et_g2, et_s2, et_g3, et_s3, et_g4, et_s4, eu_g0, eu_g1, eu_s1, eu_g2, eu_g3, eu_s3, eu_g4, eh_g0, eh_g1, eh_s1, eh_g2, eh_s2, ed_g0, ed_g1, ed_g2, ed_g3, ed_s3, ew_g0, ew_g1, ew_g2, ew_g3, ew_s3, en_g0, en_g1, en_s1, en_g2, en_g3, en_g4, en_g5, en_s5, ex_g0, ex_s0, eq_g0, eq_s0, eq_g1, eq_s1, eq_g2, eq_s2, eq_g3, eq_s3, eq_g4, eq_s4, eq_g5, eq_s5, eq_g6, eq_s6, eq_g7, eq_s7, ez_g0, ez_g1, ez_g2, ez_g3, ez_s3, ez_g4, ez_s4, ez_g5, ez_s5, ez_g6, ez_s6, ez_g7, ez_s7, ez_g8, ez_s8, ez_g9, ez_s9, ez_g10, ez_s10, ez_g11, ez_s11, ez_g12, ez_s12, ez_g13, ez_s13, ez_g14, ez_g15, ez_b0g, ez_b0s, ez_b1g, ez_b1s, ez_b2g, ez_b2s, ez_b3g, ez_b3s, ez_b4g, ez_b4s, ez_b5g, ez_b5s, ez_ba, ez_g0g, ez_g0s, ez_g1g, ez_g1s, ez_g2g, ez_g2s, ez_g3g, ez_g3s, ez_g4g, ez_g4s, ez_g5g, ez_g5s, ez_g6g, ez_g6s, ez_g7g, ez_g7s, ez_ga, ez_l0g, ez_l0s, ez_l1g, ez_l1s, ez_l2g, ez_l2s, ez_la, q_zs, q_zz, q_z1, q_z2, q_i2, q_ig, q_iz, q_jz, true_and, false_and, or_self, or_true, true_or, or_false, false_or, and_true, and_false, and_self, not_true_eq_false, not_false_eq_true, d1, ec99, f1, cT_12, c2, cT_p12, cT_13, hb, kc, ec100, hn, x1, e_iinc, Int.reduceEq]
  · have c2 : v ≤ ch := by omega
    simp only [if_neg c1]
    simp -implicitDefEqProofs (disch := first | with_reducible assumption | with_reducible exact isc_zs (by assumption) | with_reducible exact isc_zs (by decide) | with_reducible exact isc_zb (by assumption) (by assumption) | with_reducible exact isc_zb (by decide) (by assumption) | with_reducible exact isc_zg (by assumption) (by assumption) | with_reducible exact isc_zl (by assumption) (by assumption) | with_reducible exact isc_0 | with_reducible exact isc_1 | with_reducible exact isc_3 | with_reducible exact isc_7 | with_reducible exact isc_11 | with_reducible exact isc_15 | with_reducible exact isc_19 | with_reducible exact isc_24 | with_reducible exact isc_25 | (simp only [List.map_cons, List.map_nil, List.sum_cons, List.sum_nil, xcat, Nat.reduceAdd, Nat.reduceLeDiff, Nat.zero_le]; done) | omega) only [lX10_find_65, k_p_sq, k_p_blk, k_sq0, k_sq11, k_sq12, k_sq13, k_sq14, k_sq15, k_sqr, k_sqi, k_blk0, k_blk1, k_blk2, k_blk3, k_blk4, k_blk5, k_blkr, k_blki, k_finr, k_fini, k_mapi, k_bindi, k_if1, k_if2, k_ops, k_br, k_rv, k_ri, k_rl, k_rz, k_rzi, k_01d, k_sw, k_01a, k_01b, k_01c, k_ifn, x_cmp, decide_eq_true_eq, Option.map_some, Option.bind_some, Option.toList_some, Option.toList_none, List.cons_append, List.nil_append, Nat.reduceAdd, true_or, or_true, Int.reduceNeg, Int.reduceEq, reduceIte, Nat.zero_le, Nat.reduceLeDiff, Nat.le_refl, Nat.reduceEqDiff, List.getElem?_cons_zero, List.getElem?_cons_succ, xst, List.set_cons_zero, List.set_cons_succ, List.map_cons, List.map_nil, List.sum_cons, List.sum_nil, xcat, Nat.reduceMul, Nat.reduceDiv, Nat.reduceMod, Nat.add_zero, e_nil, e_iconst, e_il, e_al, e_ll, e_istore, e_astore, e_lstore, e_ic, e_iadd, e_isub, e_imul, e_iand, e_ior, e_ixor, e_ishl, e_ishr, e_ineg, e_dupi, e_dupr, e_dupx, e_dup2, e_popi, eo_g0, eo_g1, eo_g2, eo_g3, eo_g4, eo_g5, eo_g6, eo_g7, eo_g8, eo_g9, eo_g10, eo_g11, eo_g12, eo_g13, eo_g14, eo_s14, eo_g15, eo_g16, eo_s16, et_g0, et_g1, et_s1, et_g2, et_s2, et_g3, et_s3, et_g4, et_s4, eu_g0, eu_g1, eu_s1, eu_g2, eu_g3, eu_s3, eu_g4, eh_g0, eh_g1, eh_s1, eh_g2, eh_s2, ed_g0, ed_g1, ed_g2, ed_g3, ed_s3, ew_g0, ew_g1, ew_g2, ew_g3, ew_s3, en_g0, en_g1, en_s1, en_g2, en_g3, en_g4, en_g5, en_s5, ex_g0, ex_s0, eq_g0, eq_s0, eq_g1, eq_s1, eq_g2, eq_s2, eq_g3, eq_s3, eq_g4, eq_s4, eq_g5, eq_s5, eq_g6, eq_s6, eq_g7, eq_s7, ez_g0, ez_g1, ez_g2, ez_g3, ez_s3, ez_g4, ez_s4, ez_g5, ez_s5, ez_g6, ez_s6, ez_g7, ez_s7, ez_g8, ez_s8, ez_g9, ez_s9, ez_g10, ez_s10, ez_g11, ez_s11, ez_g12, ez_s12, ez_g13, ez_s13, ez_g14, ez_g15, ez_b0g, ez_b0s, ez_b1g, ez_b1s, ez_b2g, ez_b2s, ez_b3g, ez_b3s, ez_b4g, ez_b4s, ez_b5g, ez_b5s, ez_ba, ez_g0g, ez_g0s, ez_g1g, ez_g1s, ez_g2g, ez_g2s, ez_g3g, ez_g3s, ez_g4g, ez_g4s, ez_g5g, ez_g5s, ez_g6g, ez_g6s, ez_g7g, ez_g7s, ez_ga, ez_l0g, ez_l0s, ez_l1g, ez_l1s, ez_l2g, ez_l2s, ez_la, q_zs, q_zz, q_z1, q_z2, q_i2, q_ig, q_iz, q_jz, true_and, false_and, or_self, or_true, true_or, or_false, false_or, and_true, and_false, and_self, not_true_eq_false, not_false_eq_true, d1, ec99, f1, cT_12, c2, ec100, hn, x1, e_iinc, Int.reduceEq]
/-- the reference's best, the class's best -/
def trR (B : Nat) (s : xTr) (S : Int × (Nat → Int)) : Prop := s.1 = S.1 ∧ (S.1 = -1 ∨ ∀ i, i < B → s.2.2 i = S.2 i)
def isF (B b left : Nat) (t : Nat → Int) : Prop := (∀ i, b ≤ i → i + 1 < B → t i = 0) ∧ t (B - 1) = (left : Int)
def isL (B b left : Nat) (t : Nat → Int) : Prop := t b = (left : Int) ∧ ∀ i, b < i → i < B → t i = 0
theorem go_leaf {B : Nat} {p : Int} {b left : Nat} {ch : Int} {s : xTr} : ∀ m, m ≤ left → (xit (fun k s => kGo B p 0 (b + 1) (left - k) (kCh p ch k) (s.1, xfu s.2.1 b (k : Int), s.2.2)) m s).1 = s.1 ∧ (xit (fun k s => kGo B p 0 (b + 1) (left - k) (kCh p ch k) (s.1, xfu s.2.1 b (k : Int), s.2.2)) m s).2.2 = s.2.2 ∧ ∀ j, j < b → (xit (fun k s => kGo B p 0 (b + 1) (left - k) (kCh p ch k) (s.1, xfu s.2.1 b (k : Int), s.2.2)) m s).2.1 j = s.2.1 j
  | 0, _ => ⟨rfl, rfl, fun _ _ => rfl⟩
  | m + 1, hm => by
    obtain ⟨i1, i2, i3⟩ := go_leaf (B := B) (p := p) (b := b) (left := left) (ch := ch) (s := s) m (by omega)
    have hs : xit (fun k s => kGo B p 0 (b + 1) (left - k) (kCh p ch k) (s.1, xfu s.2.1 b (k : Int), s.2.2)) (m + 1) s = kGo B p 0 (b + 1) (left - m) (kCh p ch m) ((xit (fun k s => kGo B p 0 (b + 1) (left - k) (kCh p ch k) (s.1, xfu s.2.1 b (k : Int), s.2.2)) m s).1, xfu (xit (fun k s => kGo B p 0 (b + 1) (left - k) (kCh p ch k) (s.1, xfu s.2.1 b (k : Int), s.2.2)) m s).2.1 b (m : Int), (xit (fun k s => kGo B p 0 (b + 1) (left - k) (kCh p ch k) (s.1, xfu s.2.1 b (k : Int), s.2.2)) m s).2.2) := rfl
    rw [hs]
    generalize xit (fun k s => kGo B p 0 (b + 1) (left - k) (kCh p ch k) (s.1, xfu s.2.1 b (k : Int), s.2.2)) m s = S at *
    unfold kGo
    rw [if_pos (Or.inl (by omega))]
    exact ⟨i1, i2, fun j hj => by rw [← i3 j hj]; exact xfu_ne _ _ (by omega)⟩
theorem go_one {B : Nat} {p : Int} {b left : Nat} {ch : Int} {s : xTr} (hb : b + 1 = B) {S : Int × (Nat → Int)} {t : Nat → Int} (hR : trR B s S) (hs : ∀ j, j < b → s.2.1 j = t j) (htb : t b = (left : Int)) : trR B (kGo B p 1 b left ch s) (vis B (kCh p ch left) t S) := by
  obtain ⟨i1, i2, i3⟩ := go_leaf (B := B) (p := p) (b := b) (left := left) (ch := ch) (s := s) left (Nat.le_refl _)
  have e : kGo B p 1 b left ch s = kGo B p 0 (b + 1) (left - left) (kCh p ch left) ((xit (fun k s => kGo B p 0 (b + 1) (left - k) (kCh p ch k) (s.1, xfu s.2.1 b (k : Int), s.2.2)) left s).1, xfu (xit (fun k s => kGo B p 0 (b + 1) (left - k) (kCh p ch k) (s.1, xfu s.2.1 b (k : Int), s.2.2)) left s).2.1 b (left : Int), (xit (fun k s => kGo B p 0 (b + 1) (left - k) (kCh p ch k) (s.1, xfu s.2.1 b (k : Int), s.2.2)) left s).2.2) := rfl
  rw [e]
  generalize xit (fun k s => kGo B p 0 (b + 1) (left - k) (kCh p ch k) (s.1, xfu s.2.1 b (k : Int), s.2.2)) left s = Y at *
  unfold kGo vis
  dsimp only
  obtain ⟨r1, r2⟩ := hR
  generalize kCh p ch left = v
  rw [i1, i2]
  by_cases d : S.1 < v
  · rw [if_pos d, if_neg (by omega)]
    refine ⟨rfl, Or.inr fun i hi => ?_⟩
    dsimp only
    rw [kCpy_in B _ _ B i hi]
    unfold x_cpf
    rw [if_pos (by omega), show 0 + (i - 0) = i by omega]
    unfold xfu
    by_cases e : i = b
    · rw [if_pos e, e, htb]
    · rw [if_neg e, i3 i (by omega)]
      exact hs i (by omega)
  · rw [if_neg d, if_pos (Or.inr (by omega))]
    exact ⟨r1, r2⟩
/-- a block of rows: from its first to its last -/
theorem tr_block {B : Nat} (hB : B ≤ 6) (hb : c.1 13 = (B : Int)) {p : Int} (hw : pwOk c p) (h0 : 0 ≤ p) (h1 : p ≤ 10) {m0 m1 m2 : Int} : ∀ (d bb left : Nat) (chp : Int) (s : xTr) (i : Nat) (t : Nat → Int) (S : Int × (Nat → Int)) (x6 : xV), bb + (d + 1) = B → i + nB d left ≤ 2000 → left ≤ 8 → isF B bb left t → chT p t bb = chp → trR B s S → (∀ j, j < bb → s.2.1 j = t j) → (∀ j, j < bb → 0 ≤ t j ∧ t j ≤ 8) → ∃ (t' : Nat → Int) (S' : Int × (Nat → Int)) (x6' : xV), isL B bb left t' ∧ (∀ j, j < bb → t' j = t j) ∧ p_lop (lX10_find_65 (gg (n + 1))) ([.inr (.inr (.inl (0, 19))), .inl m0, .inl m1, .inl m2, .inl 1, .inl (i : Int), x6], [], hC h (cT c S.1 t S.2)) = p_lop (lX10_find_65 (gg (n + 1))) ([.inr (.inr (.inl (0, 19))), .inl m0, .inl m1, .inl m2, .inl 1, .inl ((i + (nB d left - 1) : Nat) : Int), x6'], [], hC h (cT c S'.1 t' S'.2)) ∧ trR B (kGo B p (d + 1) bb left chp s) (vis B (chT p t' B) t' S')
  | 0, bb, left, chp, s, i, t, S, x6, hd, hi, hl, hF, hc, hR, hs, ht => by
    have hBb : B - 1 = bb := by omega
    obtain ⟨f1, f2⟩ := hF
    rw [hBb] at f2
    refine ⟨t, S, x6, ⟨f2, fun i h1 h2 => by omega⟩, fun _ _ => rfl, rfl, ?_⟩
    have e : chT p t B = kCh p chp left := by
      rw [← hd, Nat.zero_add, chT_s, hc, f2, Int.toNat_natCast]
    rw [e]
    exact go_one (by omega) hR hs f2
  | d + 1, bb, left, chp, s, i, t, S, x6, hd, hi, hl, hF, hc, hR, hs, ht => by
    rw [nB_s] at hi
    have hgo : ∀ m, (∀ j, j < bb → (xit (fun k s => kGo B p (d + 1) (bb + 1) (left - k) (kCh p chp k) (s.1, xfu s.2.1 bb (k : Int), s.2.2)) m s).2.1 j = s.2.1 j) := by
      intro m
      induction m with
      | zero => intro j _; rfl
      | succ m ih =>
        intro j hj
        have hsx : xit (fun k s => kGo B p (d + 1) (bb + 1) (left - k) (kCh p chp k) (s.1, xfu s.2.1 bb (k : Int), s.2.2)) (m + 1) s = kGo B p (d + 1) (bb + 1) (left - m) (kCh p chp m) ((xit (fun k s => kGo B p (d + 1) (bb + 1) (left - k) (kCh p chp k) (s.1, xfu s.2.1 bb (k : Int), s.2.2)) m s).1, xfu (xit (fun k s => kGo B p (d + 1) (bb + 1) (left - k) (kCh p chp k) (s.1, xfu s.2.1 bb (k : Int), s.2.2)) m s).2.1 bb (m : Int), (xit (fun k s => kGo B p (d + 1) (bb + 1) (left - k) (kCh p chp k) (s.1, xfu s.2.1 bb (k : Int), s.2.2)) m s).2.2) := rfl
        rw [hsx]
        generalize xit (fun k s => kGo B p (d + 1) (bb + 1) (left - k) (kCh p chp k) (s.1, xfu s.2.1 bb (k : Int), s.2.2)) m s = Y at *
        rw [((kGo_eq (B := B) (p := p) (d + 1) (bb + 1) (left - m) (kCh p chp m) (Y.1, xfu Y.2.1 bb (m : Int), Y.2.2) (Y.1, xfu Y.2.1 bb (m : Int), Y.2.2) (by omega) (fun _ _ => rfl) rfl (Or.inr fun _ _ => rfl)).1 j (by omega)).1]
        show xfu Y.2.1 bb (m : Int) j = _
        rw [xfu_ne _ _ (by omega), ih j hj]
    -- to the first row of a part
    have key : ∀ j, j ≤ left → ∃ (tj : Nat → Int) (Sj : Int × (Nat → Int)) (xj : xV), isF B (bb + 1) (left - j) tj ∧ tj bb = (j : Int) ∧ (∀ k, k < bb → tj k = t k) ∧ p_lop (lX10_find_65 (gg (n + 1))) ([.inr (.inr (.inl (0, 19))), .inl m0, .inl m1, .inl m2, .inl 1, .inl (i : Int), x6], [], hC h (cT c S.1 t S.2)) = p_lop (lX10_find_65 (gg (n + 1))) ([.inr (.inr (.inl (0, 19))), .inl m0, .inl m1, .inl m2, .inl 1, .inl ((i + sN d left j : Nat) : Int), xj], [], hC h (cT c Sj.1 tj Sj.2)) ∧ trR B (xit (fun k s => kGo B p (d + 1) (bb + 1) (left - k) (kCh p chp k) (s.1, xfu s.2.1 bb (k : Int), s.2.2)) j s) Sj := by
      intro j
      induction j with
      | zero =>
        intro _
        exact ⟨t, S, x6, ⟨fun i h1 h2 => hF.1 i (by omega) h2, hF.2⟩, hF.1 bb (Nat.le_refl _) (by omega), fun _ _ => rfl, rfl, hR⟩
      | succ j ih =>
        intro hj
        obtain ⟨tj, Sj, xj, g1, g2, g3, g4, g5⟩ := ih (by omega)
        have hle := sN_le d left (j + 1) (left - j)
        rw [show j + 1 + (left - j) = left + 1 by omega, sN_s] at hle
        have hpos := nB_pos d (left - j)
        have hgj := hgo j
        have hsx : xit (fun k s => kGo B p (d + 1) (bb + 1) (left - k) (kCh p chp k) (s.1, xfu s.2.1 bb (k : Int), s.2.2)) (j + 1) s = kGo B p (d + 1) (bb + 1) (left - j) (kCh p chp j) ((xit (fun k s => kGo B p (d + 1) (bb + 1) (left - k) (kCh p chp k) (s.1, xfu s.2.1 bb (k : Int), s.2.2)) j s).1, xfu (xit (fun k s => kGo B p (d + 1) (bb + 1) (left - k) (kCh p chp k) (s.1, xfu s.2.1 bb (k : Int), s.2.2)) j s).2.1 bb (j : Int), (xit (fun k s => kGo B p (d + 1) (bb + 1) (left - k) (kCh p chp k) (s.1, xfu s.2.1 bb (k : Int), s.2.2)) j s).2.2) := rfl
        rw [hsx]
        generalize xit (fun k s => kGo B p (d + 1) (bb + 1) (left - k) (kCh p chp k) (s.1, xfu s.2.1 bb (k : Int), s.2.2)) j s = Y at *
        have ec : chT p tj (bb + 1) = kCh p chp j := by
          rw [chT_s, g2, Int.toNat_natCast, chT_eq bb g3, hc]
        have htj : ∀ k, k < bb + 1 → 0 ≤ tj k ∧ tj k ≤ 8 := by
          intro k hk
          by_cases e : k = bb
          · rw [e, g2]; omega
          · rw [g3 k (by omega)]; exact ht k (by omega)
        obtain ⟨t', S', x6', k1, k2, k3, k4⟩ := tr_block hB hb hw h0 h1 (m0 := m0) (m1 := m1) (m2 := m2) d (bb + 1) (left - j) (kCh p chp j) (Y.1, xfu Y.2.1 bb (j : Int), Y.2.2) (i + sN d left j) tj Sj xj (by omega) (by omega) (by omega) g1 ec g5 (fun k hk => by
          show xfu Y.2.1 bb (j : Int) k = tj k
          by_cases e : k = bb
          · rw [e, xfu_self, g2]
          · rw [xfu_ne _ _ e, hgj k (by omega), hs k (by omega), g3 k (by omega)]) htj
        -- one row on
        have hz : ∀ k, bb + 1 < k → k < B → t' k = 0 := k1.2
        have ht' : ∀ k, k < B → 0 ≤ t' k ∧ t' k ≤ 8 := by
          intro k hk
          by_cases e : k < bb + 1
          · rw [k2 k e]; exact htj k e
          · by_cases e2 : k = bb + 1
            · rw [e2, k1.1]; omega
            · rw [hz k (by omega) hk]; omega
        have hn := fun ch b => c_next1 (n := n) (h := h) (c := c) (ch := ch) (b := b) (t := t') (f := bb) hB hb (by omega) (by rw [k1.1]; omega) (by rw [k1.1]; omega) (ht' bb (by omega)) hz
        have st := tr_body (n := n) (h := h) (c := c) (ch := S'.1) (b := S'.2) (t := t') hB hb hw h0 h1 ht' (i := i + sN d left j + (nB d (left - j) - 1)) (by omega) (m0 := m0) (m1 := m1) (m2 := m2) x6' hn
        rw [show i + sN d left j + (nB d (left - j) - 1) + 1 = i + sN d left (j + 1) by rw [sN_s]; omega] at st
        refine ⟨_, _, _, ?_, ?_, ?_, g4.trans (k3.trans (k_l1 st)), k4⟩
        · refine ⟨fun k hk1 hk2 => ?_, ?_⟩
          · rw [xfu_ne _ _ (by omega), xfu_ne _ _ (by omega)]
            by_cases e : k = bb + 1
            · rw [e, xfu_self]
            · rw [xfu_ne _ _ e]
              exact hz k (by omega) (by omega)
          · rw [xfu_self, k1.1]
            omega
        · rw [xfu_ne _ _ (by omega), xfu_self, k2 bb (by omega), g2]
          omega
        · intro k hk
          rw [xfu_ne _ _ (by omega), xfu_ne _ _ (by omega), xfu_ne _ _ (by omega), k2 k (by omega), g3 k hk]
    obtain ⟨tj, Sj, xj, g1, g2, g3, g4, g5⟩ := key left (Nat.le_refl _)
    have hgj := hgo left
    have hsx : kGo B p (d + 1 + 1) bb left chp s = kGo B p (d + 1) (bb + 1) (left - left) (kCh p chp left) ((xit (fun k s => kGo B p (d + 1) (bb + 1) (left - k) (kCh p chp k) (s.1, xfu s.2.1 bb (k : Int), s.2.2)) left s).1, xfu (xit (fun k s => kGo B p (d + 1) (bb + 1) (left - k) (kCh p chp k) (s.1, xfu s.2.1 bb (k : Int), s.2.2)) left s).2.1 bb (left : Int), (xit (fun k s => kGo B p (d + 1) (bb + 1) (left - k) (kCh p chp k) (s.1, xfu s.2.1 bb (k : Int), s.2.2)) left s).2.2) := rfl
    rw [hsx]
    clear key hgo hsx
    generalize xit (fun k s => kGo B p (d + 1) (bb + 1) (left - k) (kCh p chp k) (s.1, xfu s.2.1 bb (k : Int), s.2.2)) left s = Y at *
    have ec : chT p tj (bb + 1) = kCh p chp left := by
      rw [chT_s, g2, Int.toNat_natCast, chT_eq bb g3, hc]
    rw [sN_s] at hi
    have hpos := nB_pos d (left - left)
    obtain ⟨t', S', x6', k1, k2, k3, k4⟩ := tr_block hB hb hw h0 h1 (m0 := m0) (m1 := m1) (m2 := m2) d (bb + 1) (left - left) (kCh p chp left) (Y.1, xfu Y.2.1 bb (left : Int), Y.2.2) (i + sN d left left) tj Sj xj (by omega) (by omega) (by omega) g1 ec g5 (fun k hk => by
      show xfu Y.2.1 bb (left : Int) k = tj k
      by_cases e : k = bb
      · rw [e, xfu_self, g2]
      · rw [xfu_ne _ _ e, hgj k (by omega), hs k (by omega), g3 k (by omega)]) (fun k hk => by
      by_cases e : k = bb
      · rw [e, g2]; omega
      · rw [g3 k (by omega)]; exact ht k (by omega))
    refine ⟨t', S', x6', ⟨by rw [k2 bb (by omega), g2], fun k hk1 hk2 => ?_⟩, fun k hk => by rw [k2 k (by omega), g3 k hk], ?_, k4⟩
    · by_cases e : k = bb + 1
      · rw [e, k1.1]; omega
      · exact k1.2 k (by omega) hk2
    · rw [nB_s, sN_s, show i + (sN d left left + nB d (left - left) - 1) = i + sN d left left + (nB d (left - left) - 1) by omega]
      exact g4.trans k3
end TB
