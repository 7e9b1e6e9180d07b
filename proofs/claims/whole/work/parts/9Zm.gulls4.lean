/-! ===== gulls more: the class and the reference stay alike ===== -/
section GM
variable {r : xR} {c : xQ} {T m B N M : Nat} {a w : Int}
theorem tGl1_b {k : Nat} {b : Int} (h : wB a w) : wB (tGl1 r b N k a w).2.1 (tGl1 r b N k a w).2.2 := by
  unfold tGl1
  split
  · obtain ⟨h1, h2, h3⟩ := h
    unfold wB
    dsimp only
    split <;> omega
  · exact tDigit_b (tLetter_b h)
theorem tGl_b {b : Int} : ∀ (f k : Nat) (a w : Int), wB a w → wB (tGl r b N f k a w).2.1 (tGl r b N f k a w).2.2
  | 0, k, a, w, h => h
  | f + 1, k, a, w, h => by
    have h1 := tPs_b (r := r) (k := 59) (tGl1_b (r := r) (N := N) (k := k) (b := b) h)
    unfold tGl
    split
    · exact tGl_b f (k + 1) _ _ h1
    · exact h1
theorem tGl_ne {b : Int} {f k : Nat} : 1 ≤ (tGl r b N (f + 1) k a w).1.length := by
  unfold tGl
  split
  · rw [List.length_cons]
    omega
  · exact Nat.le_refl _
theorem tGl_ok (hx : TX r c T m) (hB : B ≤ 6) : ∀ (f k : Nat) (a w : Int), 0 ≤ a → (tGl r B N f k a w).2.2 = -1 → ∀ q, q ∈ (tGl r B N f k a w).1 → 0 ≤ q.1 ∧ q.1 < (B : Int)
  | 0, k, a, w, ha, e, q, hq => by cases hq
  | f + 1, k, a, w, ha, e, q, hq => by
    have hat := tGl1_at (r := r) (B := B) (N := N) (n := k) (a := a) (w := w)
    have hp := tPs_at (r := r) (k := 59) (a := (tGl1 r B N k a w).2.1) (w := (tGl1 r B N k a w).2.2)
    have hw : (tPs r 59 (tGl1 r B N k a w).2.1 (tGl1 r B N k a w).2.2).2.2 = (tGl1 r B N k a w).2.2 := tPs_w
    have h1 : (tGl1 r B N k a w).2.2 = -1 → 0 ≤ (tGl1 r B N k a w).1.1 ∧ (tGl1 r B N k a w).1.1 < (B : Int) := by
      intro e1
      by_cases d : N + k = 8
      · unfold tGl1 at e1
        rw [if_pos d] at e1
        dsimp only at e1
        split at e1
        · omega
        · contradiction
      · unfold tGl1 at e1 ⊢
        rw [if_neg d] at e1 ⊢
        exact tLetter_in hx ha (by omega) (by omega) (tDigit_w e1)
    unfold tGl at e hq
    by_cases d : (tPs r 59 (tGl1 r B N k a w).2.1 (tGl1 r B N k a w).2.2).1 = 1
    · rw [if_pos d] at e hq
      dsimp only at e hq
      rcases List.mem_cons.mp hq with rfl | hq
      · exact h1 (by rw [← hw]; exact tPs_1 d)
      · exact tGl_ok hx hB f (k + 1) _ _ (by omega) e q hq
    · rw [if_neg d] at e hq
      dsimp only at e hq
      rw [List.mem_singleton] at hq
      subst hq
      exact h1 (by rw [← hw]; exact e)
theorem tDigit_19 (hx : TX r c T m) (ha : 0 ≤ a) (e : (tDigit r a w 1 9).2.2 = -1) : 1 ≤ (tDigit r a w 1 9).1 ∧ (tDigit r a w 1 9).1 ≤ 9 := by
  have hw := tDigit_w e
  subst hw
  by_cases d : 48 + 1 ≤ rHere r a ∧ rHere r a ≤ 48 + 9
  · rw [tDigit_ok d]
    dsimp only
    rw [TX_src hx ha (by omega) (by omega), xw_id (by omega) (by omega)]
    omega
  · rw [tDigit_no d] at e
    dsimp only at e
    omega
theorem tGl_pk (hx : TX r c T m) : ∀ (f k : Nat) (a w : Int), 0 ≤ a → (tGl r B N f k a w).2.2 = -1 → ∀ q, q ∈ (tGl r B N f k a w).1 → 1 ≤ q.2 ∧ q.2 ≤ 9
  | 0, k, a, w, ha, e, q, hq => by cases hq
  | f + 1, k, a, w, ha, e, q, hq => by
    have hat := tGl1_at (r := r) (B := B) (N := N) (n := k) (a := a) (w := w)
    have hp := tPs_at (r := r) (k := 59) (a := (tGl1 r B N k a w).2.1) (w := (tGl1 r B N k a w).2.2)
    have hw : (tPs r 59 (tGl1 r B N k a w).2.1 (tGl1 r B N k a w).2.2).2.2 = (tGl1 r B N k a w).2.2 := tPs_w
    have h1 : (tGl1 r B N k a w).2.2 = -1 → 1 ≤ (tGl1 r B N k a w).1.2 ∧ (tGl1 r B N k a w).1.2 ≤ 9 := by
      intro e1
      by_cases d : N + k = 8
      · unfold tGl1 at e1
        rw [if_pos d] at e1
        dsimp only at e1
        split at e1
        · omega
        · contradiction
      · unfold tGl1 at e1 ⊢
        rw [if_neg d] at e1 ⊢
        have hl := tLetter_at (r := r) (a := a) (w := w) (m := (B : Int))
        exact tDigit_19 hx (by omega) e1
    unfold tGl at e hq
    by_cases d : (tPs r 59 (tGl1 r B N k a w).2.1 (tGl1 r B N k a w).2.2).1 = 1
    · rw [if_pos d] at e hq
      dsimp only at e hq
      rcases List.mem_cons.mp hq with rfl | hq
      · exact h1 (by rw [← hw]; exact tPs_1 d)
      · exact tGl_pk hx f (k + 1) _ _ (by omega) e q hq
    · rw [if_neg d] at e hq
      dsimp only at e hq
      rw [List.mem_singleton] at hq
      subst hq
      exact h1 (by rw [← hw]; exact e)
theorem tG1_n {g i : Nat} {q : Int × Int} {z : Nat → Int} (hi : ¬ zSl g i) : tG1 g q z i = z i := by
  unfold zSl at hi
  unfold tG1 xfu
  rw [if_neg (by omega), if_neg (by omega), if_neg (by omega), if_neg (by omega), if_neg (by omega), if_neg (by omega)]
theorem tG1_v {g : Nat} {q : Int × Int} {z : Nat → Int} (Z : Nat → Int) (hz : Z = tG1 g q z) (hg : g < 8) : Z (36 + g) = z (24 + q.1.toNat) ∧ Z (44 + g) = 0 ∧ Z (52 + g) = 0 ∧ Z (60 + g) = 0 ∧ Z (68 + g) = 0 ∧ Z (76 + g) = -1 := by
  subst hz
  unfold tG1 xfu
  refine ⟨?_, ?_, ?_, ?_, ?_, ?_⟩
  · rw [if_neg (by omega), if_neg (by omega), if_neg (by omega), if_neg (by omega), if_neg (by omega), if_pos rfl]
  · rw [if_neg (by omega), if_neg (by omega), if_neg (by omega), if_neg (by omega), if_pos rfl]
  · rw [if_neg (by omega), if_neg (by omega), if_neg (by omega), if_pos rfl]
  · rw [if_neg (by omega), if_neg (by omega), if_pos rfl]
  · rw [if_neg (by omega), if_pos rfl]
  · rw [if_pos rfl]
def gAl (B N M : Nat) (z a Ho Pa : Nat → Int) : Prop := kEq B N M z a ∧ kSane B N a ∧ kNn B N a ∧ kBe M N a ∧ ∀ g, g < N → z (116 + g) = Ho g ∧ z (124 + g) = Pa g
theorem gAl_1 {z a Ho Pa : Nat → Int} {q : Int × Int} (hB : B ≤ 6) (hN : N < 8) (h : gAl B N M z a Ho Pa) (hq : 0 ≤ q.1 ∧ q.1 < (B : Int)) : gAl B (N + 1) M (zG1 N q.1 (z (24 + q.1.toNat)) q.2 z) (tG1 N q a) (xfu Ho N q.1) (xfu Pa N q.2) := by
  obtain ⟨h1, ⟨h2, h3⟩, ⟨h4, h5⟩, h6, h7⟩ := h
  have vz := zG1_v (z := z) (p := q.1) (q := z (24 + q.1.toNat)) (w := q.2) _ rfl hN
  have va := tG1_v (z := a) (q := q) _ rfl hN
  have nz := fun i => zG1_n (g := N) (i := i) (p := q.1) (q := z (24 + q.1.toNat)) (w := q.2) (z := z)
  have na := fun i => tG1_n (g := N) (i := i) (q := q) (z := a)
  have hh : z (24 + q.1.toNat) = a (24 + q.1.toNat) := h1 _ (by unfold kLv; omega)
  generalize zG1 N q.1 (z (24 + q.1.toNat)) q.2 z = z' at *
  generalize tG1 N q a = a' at *
  refine ⟨fun i hi => ?_, ⟨fun b hb => ?_, fun g hg => ?_⟩, ⟨fun b hb => ?_, fun g hg => ?_⟩, fun g hg => ?_, fun g hg => ?_⟩
  · by_cases c0 : zSl N i
    · unfold zSl at c0
      rcases c0 with c0 | c0 | c0 | c0 | c0 | c0 | c0 | c0
      · subst c0; rw [vz.2.1, va.1, hh]
      · subst c0; rw [vz.2.2.2.1, va.2.1]
      · subst c0; rw [vz.2.2.2.2.1, va.2.2.1]
      · subst c0; rw [vz.2.2.2.2.2.1, va.2.2.2.1]
      · subst c0; rw [vz.2.2.2.2.2.2.1, va.2.2.2.2.1]
      · subst c0; rw [vz.2.2.2.2.2.2.2, va.2.2.2.2.2]
      · unfold kLv at hi; omega
      · unfold kLv at hi; omega
    · rw [nz i c0, na i c0]
      refine h1 i ?_
      unfold zSl at c0
      unfold kLv at hi ⊢
      omega
  · rw [na b (by unfold zSl; omega), na (6 + b) (by unfold zSl; omega), na (12 + b) (by unfold zSl; omega), na (18 + b) (by unfold zSl; omega), na (30 + b) (by unfold zSl; omega)]
    exact h2 b hb
  · by_cases d : g = N
    · subst d
      rw [va.2.2.1, va.2.2.2.1]
      omega
    · rw [na (52 + g) (by unfold zSl; omega), na (60 + g) (by unfold zSl; omega)]
      exact h3 g (by omega)
  · rw [na (24 + b) (by unfold zSl; omega)]
    exact h4 b hb
  · by_cases d : g = N
    · subst d
      rw [va.2.1]
      omega
    · rw [na (44 + g) (by unfold zSl; omega)]
      exact h5 g (by omega)
  · by_cases d : g = N
    · subst d
      exact Or.inl va.2.2.2.2.2
    · rw [na (76 + g) (by unfold zSl; omega)]
      exact h6 g (by omega)
  · by_cases d : g = N
    · subst d
      rw [xfu_self, xfu_self]
      exact ⟨vz.1, vz.2.2.1⟩
    · rw [xfu_ne _ _ d, xfu_ne _ _ d, nz (116 + g) (by unfold zSl; omega), nz (124 + g) (by unfold zSl; omega)]
      exact h7 g (by omega)
theorem tPa_in : ∀ (l : List (Int × Int)) (N : Nat) (P : Nat → Int), (∀ q, q ∈ l → 1 ≤ q.2 ∧ q.2 ≤ 9) → (∀ g, g < N → 1 ≤ P g ∧ P g ≤ 9) → ∀ g, g < N + l.length → 1 ≤ tPa N l P g ∧ tPa N l P g ≤ 9
  | [], N, P, _, h, g, hg => h g hg
  | q :: l, N, P, hq, h, g, hg => by
    rw [tPa_cons]
    rw [List.length_cons] at hg
    refine tPa_in l (N + 1) _ (fun q' hq' => hq q' (List.mem_cons_of_mem _ hq')) (fun g hg => ?_) g (by omega)
    unfold xfu
    split
    · exact hq q List.mem_cons_self
    · exact h g (by omega)
theorem gAl_s (hB : B ≤ 6) : ∀ (l : List (Int × Int)) (N : Nat) (z a Ho Pa : Nat → Int), N + l.length ≤ 8 → (∀ q, q ∈ l → 0 ≤ q.1 ∧ q.1 < (B : Int)) → gAl B N M z a Ho Pa → gAl B (N + l.length) M (tZs N l z) (tGs N l a) (tHo N l Ho) (tPa N l Pa) ∧ (∀ i, i = 114 ∨ (132 ≤ i ∧ i < 136) → tZs N l z i = z i ∧ tGs N l a i = a i) ∧ (∀ g, (tHo N l Ho g = Ho g ∧ tPa N l Pa g = Pa g ∧ (g < N ∨ N + l.length ≤ g)) ∨ (N ≤ g ∧ 0 ≤ tHo N l Ho g ∧ tHo N l Ho g < (B : Int)))
  | [], N, z, a, Ho, Pa, _, _, h => ⟨h, fun i _ => ⟨rfl, rfl⟩, fun g => Or.inl ⟨rfl, rfl, by show g < N ∨ N + 0 ≤ g; omega⟩⟩
  | q :: l, N, z, a, Ho, Pa, hl, hq, h => by
    rw [List.length_cons] at hl
    obtain ⟨t1, t2, t3⟩ := gAl_s hB l (N + 1) _ _ _ _ (by omega) (fun q' hq' => hq q' (List.mem_cons_of_mem _ hq')) (gAl_1 hB (by omega) h (hq q List.mem_cons_self))
    rw [tZs_cons, tGs_cons, tHo_cons, tPa_cons, List.length_cons, show N + (l.length + 1) = N + 1 + l.length by omega]
    refine ⟨t1, fun i hi => ?_, fun g => ?_⟩
    · rw [(t2 i hi).1, (t2 i hi).2, zG1_n (by unfold zSl; omega), tG1_n (by unfold zSl; omega)]
      exact ⟨rfl, rfl⟩
    · rcases t3 g with ⟨y1, y2, y3⟩ | ⟨y1, y2⟩
      · by_cases d : g = N
        · subst d
          right
          rw [y1, xfu_self]
          exact ⟨Nat.le_refl _, hq q List.mem_cons_self⟩
        · left
          rw [y1, y2, xfu_ne _ _ d, xfu_ne _ _ d]
          exact ⟨rfl, rfl, by omega⟩
      · exact Or.inr ⟨by omega, y2⟩
end GM
section PG
variable {n : Nat} {h : xH} {c : xQ} {r : xR}
theorem c_gulls0 (hT : c.1 2 = 0) : (gg (n + 10) 105).2 [.inr (.inr (.inl (0, 0)))] (hC h c) = some (some (.inl 0), hC h (q_i (cRd (q_i c 3 ((min 0 76 : Nat) : Int)) 0 (-1)) 2 0)) := by
  rw [gr105]
  have f1 := c_open (n := n + 7) (h := h) (c := c) (T := 0) 76 hT
  have f2 := c_empty (n := n + 8) (h := h) (c := cRd (q_i c 3 ((min 0 76 : Nat) : Int)) 0 (-1))
  have f3 := c_close (n := n + 6) (h := h) (c := q_i c 3 ((min 0 76 : Nat) : Int)) (a := 0) (w := -1) (L := 0) hT (by decide) (by decide) (by decide) (by decide)
  rw [if_pos (show (cRd (q_i c 3 ((min 0 76 : Nat) : Int)) 0 (-1)).1 2 = 0 from hT)] at f2
  rw [if_pos rfl, if_neg (by decide), if_neg (by decide)] at f3
  generalize ((min 0 76 : Nat) : Int) = L at *
  rw [show ((76 : Nat) : Int) = 76 from rfl] at f1
  clear hT
  simp -implicitDefEqProofs (disch := first | with_reducible assumption | with_reducible exact isc_zs (by assumption) | with_reducible exact isc_zs (by decide) | with_reducible exact isc_zb (by assumption) (by assumption) | with_reducible exact isc_zb (by decide) (by assumption) | with_reducible exact isc_zg (by assumption) (by assumption) | with_reducible exact isc_zl (by assumption) (by assumption) | with_reducible exact isc_0 | with_reducible exact isc_1 | with_reducible exact isc_3 | with_reducible exact isc_7 | with_reducible exact isc_11 | with_reducible exact isc_15 | with_reducible exact isc_19 | with_reducible exact isc_24 | with_reducible exact isc_25 | (simp only [List.map_cons, List.map_nil, List.sum_cons, List.sum_nil, xcat, Nat.reduceAdd, Nat.reduceLeDiff, Nat.zero_le]; done) | omega) only [fX11_gulls, k_p_sq, k_p_blk, k_sq0, k_sq11, k_sq12, k_sq13, k_sq14, k_sq15, k_sqr, k_sqi, k_blk0, k_blk1, k_blk2, k_blk3, k_blk4, k_blk5, k_blkr, k_blki, k_finr, k_fini, k_mapi, k_bindi, k_if1, k_if2, k_ops, k_br, k_rv, k_ri, k_rl, k_rz, k_rzi, k_01d, k_sw, k_01a, k_01b, k_01c, k_ifn, x_cmp, decide_eq_true_eq, Option.map_some, Option.bind_some, Option.toList_some, Option.toList_none, List.cons_append, List.nil_append, Nat.reduceAdd, true_or, or_true, Int.reduceNeg, Int.reduceEq, reduceIte, Nat.zero_le, Nat.reduceLeDiff, Nat.le_refl, Nat.reduceEqDiff, List.getElem?_cons_zero, List.getElem?_cons_succ, xst, List.set_cons_zero, List.set_cons_succ, List.map_cons, List.map_nil, List.sum_cons, List.sum_nil, xcat, Nat.reduceMul, Nat.reduceDiv, Nat.reduceMod, Nat.add_zero, e_nil, e_iconst, e_il, e_al, e_ll, e_istore, e_astore, e_lstore, e_ic, e_iadd, e_isub, e_imul, e_iand, e_ior, e_ixor, e_ishl, e_ishr, e_ineg, e_dupi, e_dupr, e_dupx, e_dup2, e_popi, eo_g0, eo_g1, eo_g2, eo_g3, eo_g4, eo_g5, eo_g6, eo_g7, eo_g8, eo_g9, eo_g10, eo_g11, eo_g12, eo_g13, eo_g14, eo_s14, eo_g15, eo_g16, eo_s16, et_g0, et_g1, et_s1, et_g2, et_s2, et_g3, et_s3, et_g4, et_s4, eu_g0, eu_g1, eu_s1, eu_g2, eu_g3, eu_s3, eu_g4, eh_g0, eh_g1, eh_s1, eh_g2, eh_s2, ed_g0, ed_g1, ed_g2, ed_g3, ed_s3, ew_g0, ew_g1, ew_g2, ew_g3, ew_s3, en_g0, en_g1, en_s1, en_g2, en_g3, en_g4, en_g5, en_s5, ex_g0, ex_s0, eq_g0, eq_s0, eq_g1, eq_s1, eq_g2, eq_s2, eq_g3, eq_s3, eq_g4, eq_s4, eq_g5, eq_s5, eq_g6, eq_s6, eq_g7, eq_s7, ez_g0, ez_g1, ez_g2, ez_g3, ez_s3, ez_g4, ez_s4, ez_g5, ez_s5, ez_g6, ez_s6, ez_g7, ez_s7, ez_g8, ez_s8, ez_g9, ez_s9, ez_g10, ez_s10, ez_g11, ez_s11, ez_g12, ez_s12, ez_g13, ez_s13, ez_g14, ez_g15, ez_b0g, ez_b0s, ez_b1g, ez_b1s, ez_b2g, ez_b2s, ez_b3g, ez_b3s, ez_b4g, ez_b4s, ez_b5g, ez_b5s, ez_ba, ez_g0g, ez_g0s, ez_g1g, ez_g1s, ez_g2g, ez_g2s, ez_g3g, ez_g3s, ez_g4g, ez_g4s, ez_g5g, ez_g5s, ez_g6g, ez_g6s, ez_g7g, ez_g7s, ez_ga, ez_l0g, ez_l0s, ez_l1g, ez_l1s, ez_l2g, ez_l2s, ez_la, q_zs, q_zz, q_z1, q_z2, q_i2, q_ig, q_iz, q_jz, true_and, false_and, or_self, or_true, true_or, or_false, false_or, and_true, and_false, and_self, not_true_eq_false, not_false_eq_true, ec82, f1, ec79, f2, ec95, f3, Int.reduceEq, Int.reduceLE, Int.reduceLT]
theorem c_gulls1 {T B N : Nat} (hT : c.1 2 = (T : Int)) (hT0 : T ≠ 0) {q : xQ} (hq : q = q_i c 3 ((min T 76 : Nat) : Int)) (hx : TX r q T 76) (hB : B ≤ 6) (hN : N ≤ 8) (hz : c.2.2 0 132 = (B : Int)) (hz2 : c.2.2 0 133 = (N : Int)) : ∃ (a1 : Int) (z' : Nat → Int),
    (gg (n + 10) 105).2 [.inr (.inr (.inl (0, 0)))] (hC h c) = (if (tGl r B N 9 0 0 (-1)).2.2 = -1 then (if (tGl r B N 9 0 0 (-1)).2.1 < T then some (some (.inl (-1 - (tGl r B N 9 0 0 (-1)).2.1)), hC h (q_i (q_z (cRd q a1 (tGl r B N 9 0 0 (-1)).2.1) 0 z') 2 0)) else some (some (.inl (((tGl r B N 9 0 0 (-1)).1.length : Nat) : Int)), hC h (q_i (q_i (q_z (cRd q a1 (-1)) 0 (xfu z' 133 ((N + (tGl r B N 9 0 0 (-1)).1.length : Nat) : Int))) 2 0) 9 0))) else some (some (.inl (-1 - (tGl r B N 9 0 0 (-1)).2.2)), hC h (q_i (q_z (cRd q a1 (tGl r B N 9 0 0 (-1)).2.2) 0 z') 2 0))) ∧ (∀ i, (∀ g, N ≤ g → g < 8 → ¬ zSl g i) → z' i = c.2.2 0 i) ∧ ((tGl r B N 9 0 0 (-1)).2.2 = -1 → z' = tZs N (tGl r B N 9 0 0 (-1)).1 (c.2.2 0)) := by
  rw [gr105]
  have f1 := c_open (n := n + 7) (h := h) (c := c) (T := T) 76 hT
  rw [← hq, show ((76 : Nat) : Int) = 76 from rfl] at f1
  have h2 : q.1 2 = (T : Int) := hx.2.2.2.2.2.1
  have f2 := c_empty (n := n + 8) (h := h) (c := cRd q 0 (-1))
  rw [if_neg (show ¬ (cRd q 0 (-1)).1 2 = 0 by show ¬ q.1 2 = 0; rw [h2]; omega)] at f2
  have e0 : q_z (cRd q 0 (-1)) 0 (c.2.2 0) = cRd q 0 (-1) := by
    subst hq
    exact q_z0 (c := cRd (q_i c 3 ((min T 76 : Nat) : Int)) 0 (-1)) (k := 0)
  obtain ⟨a1, z1, f3, r1, l1, n1, v1⟩ := c_readGulls (n := n + 3) (h := h) hx hB hN hz hz2
  rw [e0] at f3
  have hb := tGl_b (r := r) (b := (B : Int)) (N := N) 9 0 0 (-1) ⟨by decide, by decide, by decide⟩
  have hl : (tGl r B N 9 0 0 (-1)).2.2 = -1 → N + 0 + (tGl r B N 9 0 0 (-1)).1.length ≤ 8 := tGl_len (r := r) (B := B) (N := N) 9 0 0 (by decide) (by omega)
  have hne := tGl_ne (r := r) (b := (B : Int)) (N := N) (f := 8) (k := 0) (a := 0) (w := -1)
  have hat := tGl_at (r := r) (B := B) (N := N) 9 0 0 (-1) (by decide)
  generalize tGl r B N 9 0 0 (-1) = Q at *
  obtain ⟨Ql, A, W⟩ := Q
  dsimp only at *
  obtain ⟨y1, y2, y3⟩ := hb
  obtain ⟨x1, x2, x3, x4⟩ := r1
  have f4 := c_close (n := n + 6) (h := h) (c := q_z q 0 z1) (a := a1) (w := W) (L := (T : Int)) h2 x3 (by omega) y2 (by omega)
  rw [cRd_z, cRd_z] at f4
  refine ⟨a1, z1, ?_, n1, v1⟩
  by_cases d : W = -1
  · have e1 := x2 d
    subst e1
    subst d
    by_cases d2 : a1 < (T : Int)
    · simp only [if_true, true_and, if_pos d2] at f4 ⊢
      have d3 : -1 - a1 < 0 := by omega
      have d4 : ¬ 0 ≤ -1 - a1 := by omega
      clear hx hT hT0 hq h2 e0 n1 v1 hl hne hat y1 y2 y3 x2 x3 x4 x1 hz hz2
      simp -implicitDefEqProofs (disch := first | with_reducible assumption | with_reducible exact isc_zs (by assumption) | with_reducible exact isc_zs (by decide) | with_reducible exact isc_zb (by assumption) (by assumption) | with_reducible exact isc_zb (by decide) (by assumption) | with_reducible exact isc_zg (by assumption) (by assumption) | with_reducible exact isc_zl (by assumption) (by assumption) | with_reducible exact isc_0 | with_reducible exact isc_1 | with_reducible exact isc_3 | with_reducible exact isc_7 | with_reducible exact isc_11 | with_reducible exact isc_15 | with_reducible exact isc_19 | with_reducible exact isc_24 | with_reducible exact isc_25 | (simp only [List.map_cons, List.map_nil, List.sum_cons, List.sum_nil, xcat, Nat.reduceAdd, Nat.reduceLeDiff, Nat.zero_le]; done) | omega) only [fX11_gulls, k_p_sq, k_p_blk, k_sq0, k_sq11, k_sq12, k_sq13, k_sq14, k_sq15, k_sqr, k_sqi, k_blk0, k_blk1, k_blk2, k_blk3, k_blk4, k_blk5, k_blkr, k_blki, k_finr, k_fini, k_mapi, k_bindi, k_if1, k_if2, k_ops, k_br, k_rv, k_ri, k_rl, k_rz, k_rzi, k_01d, k_sw, k_01a, k_01b, k_01c, k_ifn, x_cmp, decide_eq_true_eq, Option.map_some, Option.bind_some, Option.toList_some, Option.toList_none, List.cons_append, List.nil_append, Nat.reduceAdd, true_or, or_true, Int.reduceNeg, Int.reduceEq, reduceIte, Nat.zero_le, Nat.reduceLeDiff, Nat.le_refl, Nat.reduceEqDiff, List.getElem?_cons_zero, List.getElem?_cons_succ, xst, List.set_cons_zero, List.set_cons_succ, List.map_cons, List.map_nil, List.sum_cons, List.sum_nil, xcat, Nat.reduceMul, Nat.reduceDiv, Nat.reduceMod, Nat.add_zero, e_nil, e_iconst, e_il, e_al, e_ll, e_istore, e_astore, e_lstore, e_ic, e_iadd, e_isub, e_imul, e_iand, e_ior, e_ixor, e_ishl, e_ishr, e_ineg, e_dupi, e_dupr, e_dupx, e_dup2, e_popi, eo_g0, eo_g1, eo_g2, eo_g3, eo_g4, eo_g5, eo_g6, eo_g7, eo_g8, eo_g9, eo_g10, eo_g11, eo_g12, eo_g13, eo_g14, eo_s14, eo_g15, eo_g16, eo_s16, et_g0, et_g1, et_s1, et_g2, et_s2, et_g3, et_s3, et_g4, et_s4, eu_g0, eu_g1, eu_s1, eu_g2, eu_g3, eu_s3, eu_g4, eh_g0, eh_g1, eh_s1, eh_g2, eh_s2, ed_g0, ed_g1, ed_g2, ed_g3, ed_s3, ew_g0, ew_g1, ew_g2, ew_g3, ew_s3, en_g0, en_g1, en_s1, en_g2, en_g3, en_g4, en_g5, en_s5, ex_g0, ex_s0, eq_g0, eq_s0, eq_g1, eq_s1, eq_g2, eq_s2, eq_g3, eq_s3, eq_g4, eq_s4, eq_g5, eq_s5, eq_g6, eq_s6, eq_g7, eq_s7, ez_g0, ez_g1, ez_g2, ez_g3, ez_s3, ez_g4, ez_s4, ez_g5, ez_s5, ez_g6, ez_s6, ez_g7, ez_s7, ez_g8, ez_s8, ez_g9, ez_s9, ez_g10, ez_s10, ez_g11, ez_s11, ez_g12, ez_s12, ez_g13, ez_s13, ez_g14, ez_g15, ez_b0g, ez_b0s, ez_b1g, ez_b1s, ez_b2g, ez_b2s, ez_b3g, ez_b3s, ez_b4g, ez_b4s, ez_b5g, ez_b5s, ez_ba, ez_g0g, ez_g0s, ez_g1g, ez_g1s, ez_g2g, ez_g2s, ez_g3g, ez_g3s, ez_g4g, ez_g4s, ez_g5g, ez_g5s, ez_g6g, ez_g6s, ez_g7g, ez_g7s, ez_ga, ez_l0g, ez_l0s, ez_l1g, ez_l1s, ez_l2g, ez_l2s, ez_la, q_zs, q_zz, q_z1, q_z2, q_i2, q_ig, q_iz, q_jz, true_and, false_and, or_self, or_true, true_or, or_false, false_or, and_true, and_false, and_self, not_true_eq_false, not_false_eq_true, ec82, f1, ec79, f2, ec113, f3, ec95, f4, Int.reduceEq, d3, d4]
    · simp only [if_true, true_and, if_neg d2] at f4 ⊢
      have d3 : ¬ ((Ql.length : Nat) : Int) ≤ 0 := by omega
      have d4 : (0 : Int) < ((Ql.length : Nat) : Int) := by omega
      have hl2 := hl rfl
      have x5 : xw ((N : Int) + ((Ql.length : Nat) : Int)) = ((N + Ql.length : Nat) : Int) := by rw [xw_id (by omega) (by omega)]; omega
      have hz1 : z1 133 = (N : Int) := by rw [n1 133 (fun g _ _ => by unfold zSl; omega)]; exact hz2
      generalize ((N + Ql.length : Nat) : Int) = Y at *
      generalize ((Ql.length : Nat) : Int) = X at *
      clear hx hT hT0 hq h2 e0 n1 v1 hl hne hat y1 y2 y3 x2 x3 x4 x1 hz hz2 hl2
      simp -implicitDefEqProofs (disch := first | with_reducible assumption | with_reducible exact isc_zs (by assumption) | with_reducible exact isc_zs (by decide) | with_reducible exact isc_zb (by assumption) (by assumption) | with_reducible exact isc_zb (by decide) (by assumption) | with_reducible exact isc_zg (by assumption) (by assumption) | with_reducible exact isc_zl (by assumption) (by assumption) | with_reducible exact isc_0 | with_reducible exact isc_1 | with_reducible exact isc_3 | with_reducible exact isc_7 | with_reducible exact isc_11 | with_reducible exact isc_15 | with_reducible exact isc_19 | with_reducible exact isc_24 | with_reducible exact isc_25 | (simp only [List.map_cons, List.map_nil, List.sum_cons, List.sum_nil, xcat, Nat.reduceAdd, Nat.reduceLeDiff, Nat.zero_le]; done) | omega) only [fX11_gulls, k_p_sq, k_p_blk, k_sq0, k_sq11, k_sq12, k_sq13, k_sq14, k_sq15, k_sqr, k_sqi, k_blk0, k_blk1, k_blk2, k_blk3, k_blk4, k_blk5, k_blkr, k_blki, k_finr, k_fini, k_mapi, k_bindi, k_if1, k_if2, k_ops, k_br, k_rv, k_ri, k_rl, k_rz, k_rzi, k_01d, k_sw, k_01a, k_01b, k_01c, k_ifn, x_cmp, decide_eq_true_eq, Option.map_some, Option.bind_some, Option.toList_some, Option.toList_none, List.cons_append, List.nil_append, Nat.reduceAdd, true_or, or_true, Int.reduceNeg, Int.reduceEq, reduceIte, Nat.zero_le, Nat.reduceLeDiff, Nat.le_refl, Nat.reduceEqDiff, List.getElem?_cons_zero, List.getElem?_cons_succ, xst, List.set_cons_zero, List.set_cons_succ, List.map_cons, List.map_nil, List.sum_cons, List.sum_nil, xcat, Nat.reduceMul, Nat.reduceDiv, Nat.reduceMod, Nat.add_zero, e_nil, e_iconst, e_il, e_al, e_ll, e_istore, e_astore, e_lstore, e_ic, e_iadd, e_isub, e_imul, e_iand, e_ior, e_ixor, e_ishl, e_ishr, e_ineg, e_dupi, e_dupr, e_dupx, e_dup2, e_popi, eo_g0, eo_g1, eo_g2, eo_g3, eo_g4, eo_g5, eo_g6, eo_g7, eo_g8, eo_g9, eo_g10, eo_g11, eo_g12, eo_g13, eo_g14, eo_s14, eo_g15, eo_g16, eo_s16, et_g0, et_g1, et_s1, et_g2, et_s2, et_g3, et_s3, et_g4, et_s4, eu_g0, eu_g1, eu_s1, eu_g2, eu_g3, eu_s3, eu_g4, eh_g0, eh_g1, eh_s1, eh_g2, eh_s2, ed_g0, ed_g1, ed_g2, ed_g3, ed_s3, ew_g0, ew_g1, ew_g2, ew_g3, ew_s3, en_g0, en_g1, en_s1, en_g2, en_g3, en_g4, en_g5, en_s5, ex_g0, ex_s0, eq_g0, eq_s0, eq_g1, eq_s1, eq_g2, eq_s2, eq_g3, eq_s3, eq_g4, eq_s4, eq_g5, eq_s5, eq_g6, eq_s6, eq_g7, eq_s7, ez_g0, ez_g1, ez_g2, ez_g3, ez_s3, ez_g4, ez_s4, ez_g5, ez_s5, ez_g6, ez_s6, ez_g7, ez_s7, ez_g8, ez_s8, ez_g9, ez_s9, ez_g10, ez_s10, ez_g11, ez_s11, ez_g12, ez_s12, ez_g13, ez_s13, ez_g14, ez_g15, ez_b0g, ez_b0s, ez_b1g, ez_b1s, ez_b2g, ez_b2s, ez_b3g, ez_b3s, ez_b4g, ez_b4s, ez_b5g, ez_b5s, ez_ba, ez_g0g, ez_g0s, ez_g1g, ez_g1s, ez_g2g, ez_g2s, ez_g3g, ez_g3s, ez_g4g, ez_g4s, ez_g5g, ez_g5s, ez_g6g, ez_g6s, ez_g7g, ez_g7s, ez_ga, ez_l0g, ez_l0s, ez_l1g, ez_l1s, ez_l2g, ez_l2s, ez_la, q_zs, q_zz, q_z1, q_z2, q_i2, q_ig, q_iz, q_jz, true_and, false_and, or_self, or_true, true_or, or_false, false_or, and_true, and_false, and_self, not_true_eq_false, not_false_eq_true, ec82, f1, ec79, f2, ec113, f3, ec95, f4, Int.reduceEq, Int.reduceLE, Int.reduceLT, d3, d4, hz1, x5, ec18, c_forget]
  · rw [if_neg d] at f4 ⊢
    rw [if_neg (fun y => d y.1)] at f4
    have d3 : -1 - W < 0 := by omega
    have d4 : ¬ 0 ≤ -1 - W := by omega
    clear hx hT hT0 hq h2 e0 n1 v1 hl hne hat y1 y2 y3 x2 x3 x4 x1 hz hz2
    simp -implicitDefEqProofs (disch := first | with_reducible assumption | with_reducible exact isc_zs (by assumption) | with_reducible exact isc_zs (by decide) | with_reducible exact isc_zb (by assumption) (by assumption) | with_reducible exact isc_zb (by decide) (by assumption) | with_reducible exact isc_zg (by assumption) (by assumption) | with_reducible exact isc_zl (by assumption) (by assumption) | with_reducible exact isc_0 | with_reducible exact isc_1 | with_reducible exact isc_3 | with_reducible exact isc_7 | with_reducible exact isc_11 | with_reducible exact isc_15 | with_reducible exact isc_19 | with_reducible exact isc_24 | with_reducible exact isc_25 | (simp only [List.map_cons, List.map_nil, List.sum_cons, List.sum_nil, xcat, Nat.reduceAdd, Nat.reduceLeDiff, Nat.zero_le]; done) | omega) only [fX11_gulls, k_p_sq, k_p_blk, k_sq0, k_sq11, k_sq12, k_sq13, k_sq14, k_sq15, k_sqr, k_sqi, k_blk0, k_blk1, k_blk2, k_blk3, k_blk4, k_blk5, k_blkr, k_blki, k_finr, k_fini, k_mapi, k_bindi, k_if1, k_if2, k_ops, k_br, k_rv, k_ri, k_rl, k_rz, k_rzi, k_01d, k_sw, k_01a, k_01b, k_01c, k_ifn, x_cmp, decide_eq_true_eq, Option.map_some, Option.bind_some, Option.toList_some, Option.toList_none, List.cons_append, List.nil_append, Nat.reduceAdd, true_or, or_true, Int.reduceNeg, Int.reduceEq, reduceIte, Nat.zero_le, Nat.reduceLeDiff, Nat.le_refl, Nat.reduceEqDiff, List.getElem?_cons_zero, List.getElem?_cons_succ, xst, List.set_cons_zero, List.set_cons_succ, List.map_cons, List.map_nil, List.sum_cons, List.sum_nil, xcat, Nat.reduceMul, Nat.reduceDiv, Nat.reduceMod, Nat.add_zero, e_nil, e_iconst, e_il, e_al, e_ll, e_istore, e_astore, e_lstore, e_ic, e_iadd, e_isub, e_imul, e_iand, e_ior, e_ixor, e_ishl, e_ishr, e_ineg, e_dupi, e_dupr, e_dupx, e_dup2, e_popi, eo_g0, eo_g1, eo_g2, eo_g3, eo_g4, eo_g5, eo_g6, eo_g7, eo_g8, eo_g9, eo_g10, eo_g11, eo_g12, eo_g13, eo_g14, eo_s14, eo_g15, eo_g16, eo_s16, et_g0, et_g1, et_s1, et_g2, et_s2, et_g3, et_s3, et_g4, et_s4, eu_g0, eu_g1, eu_s1, eu_g2, eu_g3, eu_s3, eu_g4, eh_g0, eh_g1, eh_s1, eh_g2, eh_s2, ed_g0, ed_g1, ed_g2, ed_g3, ed_s3, ew_g0, ew_g1, ew_g2, ew_g3, ew_s3, en_g0, en_g1, en_s1, en_g2, en_g3, en_g4, en_g5, en_s5, ex_g0, ex_s0, eq_g0, eq_s0, eq_g1, eq_s1, eq_g2, eq_s2, eq_g3, eq_s3, eq_g4, eq_s4, eq_g5, eq_s5, eq_g6, eq_s6, eq_g7, eq_s7, ez_g0, ez_g1, ez_g2, ez_g3, ez_s3, ez_g4, ez_s4, ez_g5, ez_s5, ez_g6, ez_s6, ez_g7, ez_s7, ez_g8, ez_s8, ez_g9, ez_s9, ez_g10, ez_s10, ez_g11, ez_s11, ez_g12, ez_s12, ez_g13, ez_s13, ez_g14, ez_g15, ez_b0g, ez_b0s, ez_b1g, ez_b1s, ez_b2g, ez_b2s, ez_b3g, ez_b3s, ez_b4g, ez_b4s, ez_b5g, ez_b5s, ez_ba, ez_g0g, ez_g0s, ez_g1g, ez_g1s, ez_g2g, ez_g2s, ez_g3g, ez_g3s, ez_g4g, ez_g4s, ez_g5g, ez_g5s, ez_g6g, ez_g6s, ez_g7g, ez_g7s, ez_ga, ez_l0g, ez_l0s, ez_l1g, ez_l1s, ez_l2g, ez_l2s, ez_la, q_zs, q_zz, q_z1, q_z2, q_i2, q_ig, q_iz, q_jz, true_and, false_and, or_self, or_true, true_or, or_false, false_or, and_true, and_false, and_self, not_true_eq_false, not_false_eq_true, ec82, f1, ec79, f2, ec113, f3, ec95, f4, Int.reduceEq, d3, d4]
theorem P_gulls : Par 192 105 [] := by
  intro n h h' r c hr
  obtain ⟨T, t1, t2, t3, t4⟩ := hr.2.2.2.2.1
  have hB := rB6 hr.1
  have hN := rN8 hr.1
  have eB := rB hr.1
  have eN := rN hr.1
  have hx := TX_open (r := r) (c := c) (T := T) (m := 76) (by decide) t1 t3 t4
  have hok0 := tGl_ok (N := kN (rK r)) hx hB 9 0 0 (-1) (by decide)
  rw [show ((76 : Nat) : Int) = 76 from rfl, ← eB] at hok0
  obtain ⟨r', fR, eR⟩ := r_gulls (n := n + 893) (h := h) (r := r) t2 t1 eN hN (fun e i hi => by
    have := hok0 e _ (List.getElem_mem hi)
    rw [List.getD_eq_getElem?_getD, List.getElem?_eq_getElem hi]
    show 0 ≤ ((tGl (tTx r T 76) (r.1 1) (kN (rK r)) 9 0 0 (-1)).1[i]).1 ∧ ((tGl (tTx r T 76) (r.1 1) (kN (rK r)) 9 0 0 (-1)).1[i]).1 < 6
    omega)
  have hz : c.2.2 0 132 = (kB (rK r) : Int) := hr.2.1.1.1
  have hz2 : c.2.2 0 133 = (kN (rK r) : Int) := hr.2.1.1.2.1
  by_cases d0 : T = 0
  · subst d0
    have fC := c_gulls0 (n := n + 890) (h := h') (c := c) t3
    have e1 : sGulls r 0 (kN (rK r)) = (0, tTx r 0 76) := by
      unfold sGulls
      rw [if_pos rfl]
    rw [e1] at fR eR
    refine ⟨0, r', _, fR, fC, Rel_r (REq_C eR.symm) ?_⟩
    have h9 := Rel_shutT (T := 0) (m := 76) (w := -1) (a := 0) (L := ((min 0 76 : Nat) : Int)) (z := c.2.2 0) hr (fun i _ => rfl)
    rw [show q_z (cRd (q_i c 3 ((min 0 76 : Nat) : Int)) 0 (-1)) 0 (c.2.2 0) = cRd (q_i c 3 ((min 0 76 : Nat) : Int)) 0 (-1) from q_z0 (c := cRd (q_i c 3 ((min 0 76 : Nat) : Int)) 0 (-1)) (k := 0)] at h9
    exact h9
  · obtain ⟨a1, z1, fC, n1, v1⟩ := c_gulls1 (n := n + 890) (h := h') (c := c) (r := tTx r T ((76 : Nat) : Int)) (T := T) (B := kB (rK r)) (N := kN (rK r)) t3 d0 rfl hx hB hN hz hz2
    rw [show ((76 : Nat) : Int) = 76 from rfl] at fC v1 hx
    unfold sGulls at fR eR
    rw [if_neg d0, eB] at fR eR
    rw [eB] at hok0
    have hpk := tGl_pk (B := kB (rK r)) (N := kN (rK r)) hx 9 0 0 (-1) (by decide)
    dsimp only at fR eR
    have hl := tGl_len (r := tTx r T 76) (B := ((kB (rK r) : Nat) : Int)) (N := kN (rK r)) 9 0 0 (by decide) (by omega)
    have hne := tGl_ne (r := tTx r T 76) (b := ((kB (rK r) : Nat) : Int)) (N := kN (rK r)) (f := 8) (k := 0) (a := 0) (w := -1)
    have hb := tGl_b (r := tTx r T 76) (b := ((kB (rK r) : Nat) : Int)) (N := kN (rK r)) 9 0 0 (-1) ⟨by decide, by decide, by decide⟩
    have hat := tGl_at (r := tTx r T 76) (B := ((kB (rK r) : Nat) : Int)) (N := kN (rK r)) 9 0 0 (-1) (by decide)
    have n2 : ∀ i, ¬ zDead (kB (rK r)) (kN (rK r)) i → z1 i = c.2.2 0 i := fun i hi => n1 i (fun g h1 h2 y => hi (by
      unfold zSl at y
      unfold zDead
      omega))
    generalize tGl (tTx r T 76) ((kB (rK r) : Nat) : Int) (kN (rK r)) 9 0 0 (-1) = Q at *
    obtain ⟨l, A, W⟩ := Q
    dsimp only at *
    obtain ⟨y1, y2, y3⟩ := hb
    by_cases d : W = -1
    · subst d
      by_cases d2 : A < (T : Int)
      · simp only [if_true, if_pos d2] at fR eR fC
        have d3 : ¬ A = -1 := by omega
        rw [if_neg d3] at fR eR
        rw [show xw (-1 - A) = -1 - A from xw_id (by omega) (by omega)] at fR
        exact ⟨_, r', _, fR, fC, Rel_r (REq_C eR.symm) (Rel_shutT (m := 76) hr n2)⟩
      · simp only [if_true, if_neg d2] at fR eR fC
        refine ⟨_, r', _, fR, fC, Rel_r (REq_C eR.symm) ?_⟩
        have hl2 := hl rfl
        have v2 := v1 rfl
        have ho := hok0 rfl
        have hpa := tPa_in l (kN (rK r)) (r.2 3) (hpk rfl) hr.1.2.2.2.2.2.2
        rw [Nat.add_zero] at hl2
        obtain ⟨s1, s2, s3, ⟨M, m1, m2, m3, m4⟩, s5, s6⟩ := hr.2.1.1
        obtain ⟨⟨k1, k2, k3, k3b, k3c⟩, k4, k5⟩ := gAl_s (M := M) hB l (kN (rK r)) (c.2.2 0) (r.2 1) (r.2 2) (r.2 3) hl2 ho ⟨m3, s5, s6, m4, s3⟩
        have c44 := hr.1.2.2.2.1
        have x44 : xw (r.1 44 + 1) = r.1 44 + 1 := xw_id (by omega) (by omega)
        rw [x44, v2]
        generalize tZs (kN (rK r)) l (c.2.2 0) = Z at *
        generalize tGs (kN (rK r)) l (r.2 1) = A1 at *
        generalize tHo (kN (rK r)) l (r.2 2) = A2 at *
        generalize tPa (kN (rK r)) l (r.2 3) = A3 at *
        have g1 : (xr_i (xr_i (sG (tTx r T 76) A1 A2 A3 ((kN (rK r) + l.length : Nat) : Int)) 28 0) 44 (r.1 44 + 1)).2 1 = A1 := rfl
        have g12 : (xr_i (xr_i (sG (tTx r T 76) A1 A2 A3 ((kN (rK r) + l.length : Nat) : Int)) 28 0) 44 (r.1 44 + 1)).2 2 = A2 := rfl
        have g13 : (xr_i (xr_i (sG (tTx r T 76) A1 A2 A3 ((kN (rK r) + l.length : Nat) : Int)) 28 0) 44 (r.1 44 + 1)).2 3 = A3 := rfl
        have g2 : ∀ j, j ≠ 1 → j ≠ 2 → j ≠ 3 → (xr_i (xr_i (sG (tTx r T 76) A1 A2 A3 ((kN (rK r) + l.length : Nat) : Int)) 28 0) 44 (r.1 44 + 1)).2 j = r.2 j := by
          intro j h1 h2 h3
          show (sG (tTx r T 76) A1 A2 A3 ((kN (rK r) + l.length : Nat) : Int)).2 j = _
          rw [sG_r, if_neg h3, if_neg h2, if_neg h1]
          rfl
        have g3 : ∀ i, i ≠ 2 ∧ i ≠ 28 ∧ i ≠ 44 ∧ i ≠ 8 ∧ i ≠ 11 ∧ i ≠ 12 ∧ i ≠ 13 ∧ i ≠ 14 → (xr_i (xr_i (sG (tTx r T 76) A1 A2 A3 ((kN (rK r) + l.length : Nat) : Int)) 28 0) 44 (r.1 44 + 1)).1 i = r.1 i := by
          intro i hi
          show xfu (xfu (xfu (tTx r T 76).1 2 _) 28 0) 44 _ i = r.1 i
          rw [xfu_ne _ _ hi.2.2.1, xfu_ne _ _ hi.2.1, xfu_ne _ _ hi.1]
          exact tTx_1 T _ (by omega)
        have g4 : ∀ i, (xfu Z 133 ((kN (rK r) + l.length : Nat) : Int)) i = if i = 133 then ((kN (rK r) + l.length : Nat) : Int) else Z i := fun i => rfl
        refine Rel_grow (B := kB (rK r)) (N := kN (rK r) + l.length) hr (Nat.le_refl _) hB (by omega) hl2 (by omega) ?_ rfl rfl rfl rfl (fun i hi => g3 i (by omega)) (fun j hj => g2 j (by omega) (by omega) (by omega)) (fun g hg => ?_) (fun g hg => ?_) (fun g hg => ?_) (fun g hg => by rw [g13]; exact hpa g hg) rfl rfl (fun i hi => ?_) (fun j hj => rfl) (fun k hk => ?_) ?_ ?_ ?_
        · rw [g3 1 (by omega)]
          exact eB
        · rw [g12, g13]
          rcases k5 g with y | y
          · exact ⟨y.1, y.2.1⟩
          · omega
        · rw [g12]
          rcases k5 g with y | y
          · rw [y.1]
            exact hr.1.2.2.1 g (by omega)
          · exact y.2
        · rw [g12]
          rcases k5 g with y | y
          · rw [y.1]
            exact hr.1.2.2.2.2.2.1 g hg
          · omega
        · show xfu (xfu (xfu (xfu (xfu c.1 3 _) 4 a1) 5 (-1)) 2 0) 9 0 i = c.1 i
          rw [xfu_ne _ _ (by omega), xfu_ne _ _ (by omega), xfu_ne _ _ (by omega), xfu_ne _ _ (by omega), xfu_ne _ _ (by omega)]
        · exact xfu_ne _ _ hk
        · rw [g1]
          show sSea _ _ _ (xfu Z 133 ((kN (rK r) + l.length : Nat) : Int)) A1
          refine ⟨?_, by rw [g4]; rfl, fun g hg => ?_, ⟨M, m1, ?_, fun i hi => ?_, k3b⟩, k2, k3⟩
          · rw [g4, if_neg (by decide), (k4 132 (by decide)).1]
            exact s1
          · rw [g12, g13, g4, g4, if_neg (by omega), if_neg (by omega)]
            exact k3c g hg
          · rw [(k4 114 (by decide)).2]
            exact m2
          · rw [g4, if_neg (by unfold kLv at hi; omega)]
            exact k1 i hi
        · show xfu Z 133 ((kN (rK r) + l.length : Nat) : Int) 134 = _
          rw [g4, if_neg (by decide), (k4 134 (by decide)).1]
        · show xfu Z 133 ((kN (rK r) + l.length : Nat) : Int) 135 = _
          rw [g4, if_neg (by decide), (k4 135 (by decide)).1]
    · rw [if_neg d] at fR eR fC
      rw [if_neg d] at fR eR
      rw [show xw (-1 - W) = -1 - W from xw_id (by omega) (by omega)] at fR
      exact ⟨_, r', _, fR, fC, Rel_r (REq_C eR.symm) (Rel_shutT (m := 76) hr n2)⟩
end PG
