/-! ===== fleets grow: the class and the reference stay alike ===== -/
/-- places of a sea where nothing lives -/
def zDead (B N i : Nat) : Prop := (i < 36 ∧ B ≤ i % 6) ∨ (36 ≤ i ∧ i < 84 ∧ N ≤ (i - 36) % 8) ∨ (116 ≤ i ∧ i < 132 ∧ N ≤ (i - 116) % 8)
theorem sSea_live {r : xR} {B N : Nat} {z z' a : Nat → Int} (hB : B ≤ 6) (hN : N ≤ 8) (e : ∀ i, ¬ zDead B N i → z' i = z i) (h : sSea r B N z a) : sSea r B N z' a := by
  obtain ⟨h1, h2, h3, ⟨M, h4, h5, h6, h7⟩, h8⟩ := h
  refine ⟨by rw [e _ (by unfold zDead; omega)]; exact h1, by rw [e _ (by unfold zDead; omega)]; exact h2, fun g hg => ?_, ⟨M, h4, h5, fun i hi => ?_, h7⟩, h8⟩
  · rw [e _ (by unfold zDead; omega), e _ (by unfold zDead; omega)]
    exact h3 g hg
  · rw [e i (by unfold zDead; unfold kLv at hi; omega)]
    exact h6 i hi
/-- boats or gulls more; the text is over -/
theorem Rel_grow {r r' : xR} {c c' : xQ} {B N : Nat} (hr : Rel r c) (hB : kB (rK r) ≤ B) (hB6 : B ≤ 6) (hN : kN (rK r) ≤ N) (hN8 : N ≤ 8) (hm : kB (rK r) + kN (rK r) < B + N)
    (b1 : r'.1 1 = (B : Int)) (b2 : r'.1 2 = (N : Int)) (b8 : r'.1 8 = 0) (b28 : r'.1 28 = 0) (b44 : r'.1 44 = r.1 44 + 1)
    (r1 : ∀ i, i = 5 ∨ i = 6 ∨ i = 10 ∨ i = 20 ∨ i = 42 → r'.1 i = r.1 i) (r2 : ∀ j, j = 5 ∨ j = 8 ∨ j = 11 ∨ j = 18 ∨ j = 19 ∨ j = 20 ∨ j = 21 ∨ j = 22 → r'.2 j = r.2 j)
    (ho : ∀ g, g < kN (rK r) → r'.2 2 g = r.2 2 g ∧ r'.2 3 g = r.2 3 g) (ho2 : ∀ g, g < N → 0 ≤ r'.2 2 g ∧ r'.2 2 g < (B : Int)) (ho3 : ∀ g, g < 8 → 0 ≤ r'.2 2 g ∧ r'.2 2 g < 6) (ho4 : ∀ g, g < N → 1 ≤ r'.2 3 g ∧ r'.2 3 g ≤ 9)
    (q0 : c'.1 2 = 0) (q9 : c'.1 9 = 0) (q1 : ∀ i, i = 0 ∨ i = 1 ∨ i = 6 ∨ i = 8 → c'.1 i = c.1 i) (q2 : ∀ j, j = 4 ∨ j = 10 ∨ j = 26 ∨ j = 27 ∨ j = 28 → c'.2.1 j = c.2.1 j) (q3 : ∀ k, k ≠ 0 → c'.2.2 k = c.2.2 k)
    (hs : sSea r' B N (c'.2.2 0) (r'.2 1)) (q134 : c'.2.2 0 134 = c.2.2 0 134) (q135 : c'.2.2 0 135 = c.2.2 0 135) : Rel r' c' := by
  obtain ⟨h1, ⟨s1, s2, s3⟩, ⟨U, f, u1, u2, u3, u4, u5, u6⟩, h4, ⟨T, t1, t2, t3, t4⟩, ⟨g1, g2⟩, ⟨W, w1, w2, w3, w4⟩, ⟨D, d1, d2, d3, d4⟩⟩ := hr
  have eB : kB (rK r') = B := by show (r'.1 1).toNat = B; omega
  have eN : kN (rK r') = N := by show (r'.1 2).toNat = N; omega
  have rB0 := rB h1
  have rN0 := rN h1
  have es : ∀ B' N' z a, N' ≤ kN (rK r) → sSea r B' N' z a → sSea r' B' N' z a := fun B' N' z a hn => sSea_r (fun g hg => (ho g (by omega)).1.symm) (fun g hg => (ho g (by omega)).2.symm)
  refine ⟨⟨by omega, by omega, ?_, ?_, ?_, ho3, fun g hg => ho4 g (by rw [← eN]; exact hg)⟩, ⟨?_, ?_, ?_⟩, ⟨0, f, by omega, u2, b28, q9, ?_, fun i hi => absurd hi (by omega)⟩, fun i hi => ?_, ⟨0, by omega, b8, q0, fun i hi => absurd hi (by omega)⟩, ⟨?_, ?_⟩, ⟨W, w1, ?_, ?_, ?_⟩, ⟨D, d1, ?_, ?_, ?_⟩⟩
  · rw [eB, eN]
    exact ho2
  · obtain ⟨y1, y2, y3, ⟨y4, y5⟩, y6⟩ := h1
    rw [b44, b1, b2]
    omega
  · rw [r1 6 (by decide)]
    exact h1.2.2.2.2.1
  · rw [eB, eN]
    exact hs
  · rw [q134, s2, r1 5 (by decide)]
  · rw [q135, s3, r1 6 (by decide)]
  · rw [q1 8 (by decide)]
    exact u5
  · obtain ⟨k1, k2⟩ := h4 i hi
    rw [q2 10 (by decide), r2 21 (by decide), r2 20 (by decide), r2 22 (by decide), b44, eB, eN, q3 (i + 15) (by omega)]
    refine ⟨k1, ?_⟩
    rcases k2 with k2 | ⟨k2, B', N', k3, k4, k5, k6, k7⟩
    · exact Or.inl k2
    · exact Or.inr ⟨k2, B', N', by omega, by omega, es _ _ _ _ k4 k5, by omega, ⟨fun e => by omega, fun e => by omega⟩⟩
  · rw [r1 20 (by decide)]
    exact g1
  · rw [r1 20 (by decide), r2 8 (by decide)]
    exact ruleOk_q (q1 6 (by decide)).symm (q2 4 (by decide)).symm g2
  · rw [r1 42 (by decide)]
    exact w2
  · rw [q1 0 (by decide)]
    exact w3
  · rw [q2 26 (by decide), q2 27 (by decide), r2 18 (by decide), r2 19 (by decide)]
    exact w4
  · rw [r1 10 (by decide)]
    exact d2
  · rw [q1 1 (by decide)]
    exact d3
  · rw [q2 28 (by decide), r2 5 (by decide)]
    exact d4
/-- the text is over, and nothing else -/
theorem Rel_shut {r r' : xR} {c c' : xQ} (hr : Rel r c) (b8 : r'.1 8 = 0)
    (r1 : ∀ i, i = 1 ∨ i = 2 ∨ i = 5 ∨ i = 6 ∨ i = 10 ∨ i = 20 ∨ i = 28 ∨ i = 42 ∨ i = 44 → r'.1 i = r.1 i) (r2 : ∀ j, j = 1 ∨ j = 2 ∨ j = 3 ∨ j = 5 ∨ j = 8 ∨ j = 11 ∨ j = 18 ∨ j = 19 ∨ j = 20 ∨ j = 21 ∨ j = 22 → r'.2 j = r.2 j)
    (q0 : c'.1 2 = 0) (q1 : ∀ i, i = 0 ∨ i = 1 ∨ i = 6 ∨ i = 8 ∨ i = 9 → c'.1 i = c.1 i) (q2 : ∀ j, j = 4 ∨ j = 10 ∨ j = 26 ∨ j = 27 ∨ j = 28 → c'.2.1 j = c.2.1 j) (q3 : ∀ k, k ≠ 0 → c'.2.2 k = c.2.2 k)
    (hz : ∀ i, ¬ zDead (kB (rK r)) (kN (rK r)) i → c'.2.2 0 i = c.2.2 0 i) : Rel r' c' := by
  obtain ⟨h1, ⟨s1, s2, s3⟩, ⟨U, f, u1, u2, u3, u4, u5, u6⟩, h4, ⟨T, t1, t2, t3, t4⟩, ⟨g1, g2⟩, ⟨W, w1, w2, w3, w4⟩, ⟨D, d1, d2, d3, d4⟩⟩ := hr
  have hK : rK r' = rK r := by
    unfold rK
    rw [r1 1 (by decide), r1 2 (by decide), r1 5 (by decide), r1 6 (by decide), r1 20 (by decide), r2 2 (by decide), r2 3 (by decide), r2 8 (by decide)]
  have hB := rB6 h1
  have hN := rN8 h1
  have es : ∀ B N z a, sSea r B N z a → sSea r' B N z a := fun B N z a => sSea_r (fun g _ => by rw [r2 2 (by decide)]) (fun g _ => by rw [r2 3 (by decide)])
  refine ⟨?_, ⟨?_, ?_, ?_⟩, ⟨U, f, u1, u2, ?_, ?_, ?_, fun i hi => ?_⟩, fun i hi => ?_, ⟨0, by omega, b8, q0, fun i hi => absurd hi (by omega)⟩, ⟨?_, ?_⟩, ⟨W, w1, ?_, ?_, ?_⟩, ⟨D, d1, ?_, ?_, ?_⟩⟩
  · unfold RNum at h1 ⊢
    rw [hK, r1 1 (by decide), r1 2 (by decide), r1 44 (by decide), r1 6 (by decide), r2 2 (by decide)]
    exact h1
  · rw [hK, r2 1 (by decide)]
    exact es _ _ _ _ (sSea_live hB hN hz s1)
  · rw [hz 134 (by unfold zDead; omega), s2, r1 5 (by decide)]
  · rw [hz 135 (by unfold zDead; omega), s3, r1 6 (by decide)]
  · rw [r1 28 (by decide)]
    exact u3
  · rw [q1 9 (by decide)]
    exact u4
  · rw [q1 8 (by decide)]
    exact u5
  · rw [hK, r2 11 (by decide), q3 _ (by omega)]
    exact es _ _ _ _ (u6 i hi)
  · obtain ⟨k1, k2⟩ := h4 i hi
    rw [q2 10 (by decide), r2 21 (by decide), r2 20 (by decide), r2 22 (by decide), r1 44 (by decide), hK, q3 (i + 15) (by omega)]
    refine ⟨k1, ?_⟩
    rcases k2 with k2 | ⟨k2, B', N', k3, k4, k5, k6⟩
    · exact Or.inl k2
    · exact Or.inr ⟨k2, B', N', k3, k4, es _ _ _ _ k5, k6⟩
  · rw [r1 20 (by decide)]
    exact g1
  · rw [r1 20 (by decide), r2 8 (by decide)]
    exact ruleOk_q (q1 6 (by decide)).symm (q2 4 (by decide)).symm g2
  · rw [r1 42 (by decide)]
    exact w2
  · rw [q1 0 (by decide)]
    exact w3
  · rw [q2 26 (by decide), q2 27 (by decide), r2 18 (by decide), r2 19 (by decide)]
    exact w4
  · rw [r1 10 (by decide)]
    exact d2
  · rw [q1 1 (by decide)]
    exact d3
  · rw [q2 28 (by decide), r2 5 (by decide)]
    exact d4
/-- what a boat's line may say -/
def qOk (q : Int × Int × Int × Int × Int) : Prop := (0 ≤ q.1 ∧ q.1 ≤ 15) ∧ (0 ≤ q.2.1 ∧ q.2.1 ≤ 15) ∧ (-1 ≤ q.2.2.1 ∧ q.2.2.1 ≤ 1) ∧ (-1 ≤ q.2.2.2.1 ∧ q.2.2.2.1 ≤ 1) ∧ 0 ≤ q.2.2.2.2
section FG
variable {r : xR} {c : xQ} {T m : Nat} {a w : Int}
theorem tCell_ok (hx : TX r c T m) (ha : 0 ≤ a) (e : (tCell r a w).2.2 = -1) : 0 ≤ (tCell r a w).1 ∧ (tCell r a w).1 ≤ 15 := by
  have hw := tCell_w e
  subst hw
  rw [tCell_1 hx ha] at e ⊢
  generalize rHere r a = u at *
  generalize rHere r (a + 1) = v at *
  clear hx
  by_cases d : 48 ≤ u ∧ u ≤ 57
  · rw [if_pos d] at e ⊢
    by_cases d2 : 48 ≤ v ∧ v ≤ 57
    · rw [if_pos d2] at e ⊢
      dsimp only at e ⊢
      by_cases d3 : 15 < 10 * (u - 48) + (v - 48)
      · rw [if_pos d3] at e
        omega
      · omega
    · rw [if_neg d2]
      dsimp only
      omega
  · rw [if_neg d] at e
    dsimp only at e
    omega
theorem tDigit_in (hx : TX r c T m) (ha : 0 ≤ a) {lo hi : Int} (h0 : 0 ≤ lo) (h9 : hi ≤ 9) (e : (tDigit r a w lo hi).2.2 = -1) : lo ≤ (tDigit r a w lo hi).1 ∧ (tDigit r a w lo hi).1 ≤ hi := by
  have hw := tDigit_w e
  subst hw
  have s1 := TX_src hx ha
  by_cases d : 48 + lo ≤ rHere r a ∧ rHere r a ≤ 48 + hi
  · rw [tDigit_ok d, s1 (by omega) (by omega), xw_id (by omega) (by omega)]
    dsimp only
    omega
  · rw [tDigit_no d] at e
    dsimp only at e
    omega
theorem tCrs_in : (-1 ≤ (tCrs r a w).1 ∧ (tCrs r a w).1 ≤ 1) ∧ (-1 ≤ (tCrs r a w).2.1 ∧ (tCrs r a w).2.1 ≤ 1) := by
  unfold tCrs
  split
  · dsimp only
    omega
  · dsimp only
    constructor
    · split
      · omega
      · split <;> omega
    · split
      · omega
      · split <;> omega
theorem tBoat_ok (hx : TX r c T m) (ha : 0 ≤ a) (e : (tBoat r a w).2.2 = -1) : qOk (tBoat r a w).1 := by
  unfold tBoat at e ⊢
  dsimp only at e ⊢
  have t1 := tCell_at (r := r) (a := a) (w := w)
  have v1 := tCell_ok (w := w) hx ha
  generalize tCell r a w = x at *
  have t2 := tNeed_at (r := r) (k := 44) (a := x.2.1) (w := x.2.2)
  have w2 := tNeed_w (r := r) (k := 44) (a := x.2.1) (w := x.2.2)
  generalize tNeed r 44 x.2.1 x.2.2 = q at *
  have t3 := tCell_at (r := r) (a := q.1) (w := q.2)
  have v3 := tCell_ok (a := q.1) (w := q.2) hx (by omega)
  have w3 := tCell_w (r := r) (a := q.1) (w := q.2)
  generalize tCell r q.1 q.2 = y at *
  have t4 := tCrs_at (r := r) (a := y.2.1) (w := y.2.2)
  have v4 := tCrs_in (r := r) (a := y.2.1) (w := y.2.2)
  have w4 := tCrs_w (r := r) (a := y.2.1) (w := y.2.2)
  generalize tCrs r y.2.1 y.2.2 = u at *
  have v5 := tDigit_in (a := u.2.2.1) (w := u.2.2.2) (lo := 0) (hi := 5) hx (by omega) (by decide) (by decide) e
  have w5 := tDigit_w e
  have w6 := w4 w5
  exact ⟨v1 (w2 (w3 w6)), v3 w6, v4.1, v4.2, v5.1⟩
theorem tFl_ok (hx : TX r c T m) {B : Nat} : ∀ (f k : Nat) (a w : Int), 0 ≤ a → (tFl r B f k a w).2.2 = -1 → ∀ q, q ∈ (tFl r B f k a w).1 → qOk q
  | 0, k, a, w, ha, e, q, hq => by cases hq
  | f + 1, k, a, w, ha, e, q, hq => by
    have hat := tFl1_at (r := r) (B := B) (n := k) (a := a) (w := w)
    have hp := tPs_at (r := r) (k := 59) (a := (tFl1 r B k a w).2.1) (w := (tFl1 r B k a w).2.2)
    have hw : (tPs r 59 (tFl1 r B k a w).2.1 (tFl1 r B k a w).2.2).2.2 = (tFl1 r B k a w).2.2 := tPs_w
    have h1 : (tFl1 r B k a w).2.2 = -1 → qOk (tFl1 r B k a w).1 := by
      intro e1
      by_cases d : B + k = 6
      · unfold tFl1
        rw [if_pos d]
        show qOk q50
        unfold qOk q50
        dsimp only
        omega
      · unfold tFl1 at e1 ⊢
        rw [if_neg d] at e1 ⊢
        exact tBoat_ok hx ha e1
    unfold tFl at e hq
    by_cases d : (tPs r 59 (tFl1 r B k a w).2.1 (tFl1 r B k a w).2.2).1 = 1
    · rw [if_pos d] at e hq
      dsimp only at e hq
      rcases List.mem_cons.mp hq with rfl | hq
      · refine h1 ?_
        rw [← hw]
        unfold tPs at d ⊢
        split at d
        · rename_i y
          rw [if_pos y]
          exact y.1
        · cases d
      · exact tFl_ok hx f (k + 1) _ _ (by omega) e q hq
    · rw [if_neg d] at e hq
      dsimp only at e hq
      rw [List.mem_singleton] at hq
      subst hq
      exact h1 (by rw [← hw]; exact e)
theorem tB1_v (b : Nat) (q : Int × Int × Int × Int × Int) (z : Nat → Int) : tB1 b q z b = q.1 ∧ tB1 b q z (6 + b) = q.2.1 ∧ tB1 b q z (12 + b) = q.2.2.1 ∧ tB1 b q z (18 + b) = q.2.2.2.1 ∧ tB1 b q z (24 + b) = q.2.2.2.2 ∧ tB1 b q z (30 + b) = 0 := zLine_v (z := z) (b := b) (x := q.1) (y := q.2.1) (dx := q.2.2.1) (dy := q.2.2.2.1) (u := q.2.2.2.2) _ rfl
theorem tB1_n {b : Nat} {q : Int × Int × Int × Int × Int} {z : Nat → Int} {i : Nat} (hi : i ≠ b ∧ i ≠ 6 + b ∧ i ≠ 12 + b ∧ i ≠ 18 + b ∧ i ≠ 24 + b ∧ i ≠ 30 + b) : tB1 b q z i = z i := zLine_n (z := z) (b := b) (x := q.1) (y := q.2.1) (dx := q.2.2.1) (dy := q.2.2.2.1) (u := q.2.2.2.2) hi
/-- one boat more in both -/
def zAl (B N M : Nat) (z a : Nat → Int) : Prop := kEq B N M z a ∧ kSane B N a ∧ kNn B N a
theorem zAl_1 {B N M : Nat} {z a : Nat → Int} {q : Int × Int × Int × Int × Int} (hB : B < 6) (hN : N ≤ 8) (h : zAl B N M z a) (hq : qOk q) : zAl (B + 1) N M (tB1 B q z) (tB1 B q a) := by
  obtain ⟨h1, ⟨h2, h3⟩, h4, h5⟩ := h
  have vz := tB1_v B q z
  have va := tB1_v B q a
  have nz := fun i => tB1_n (b := B) (q := q) (z := z) (i := i)
  have na := fun i => tB1_n (b := B) (q := q) (z := a) (i := i)
  generalize tB1 B q z = z' at *
  generalize tB1 B q a = a' at *
  obtain ⟨o1, o2, o3, o4, o5⟩ := hq
  refine ⟨fun i hi => ?_, ⟨fun b hb => ?_, fun g hg => ?_⟩, fun b hb => ?_, fun g hg => ?_⟩
  · by_cases c0 : i = B
    · subst c0; rw [vz.1, va.1]
    · by_cases c1 : i = 6 + B
      · subst c1; rw [vz.2.1, va.2.1]
      · by_cases c2 : i = 12 + B
        · subst c2; rw [vz.2.2.1, va.2.2.1]
        · by_cases c3 : i = 18 + B
          · subst c3; rw [vz.2.2.2.1, va.2.2.2.1]
          · by_cases c4 : i = 24 + B
            · subst c4; rw [vz.2.2.2.2.1, va.2.2.2.2.1]
            · by_cases c5 : i = 30 + B
              · subst c5; rw [vz.2.2.2.2.2, va.2.2.2.2.2]
              · rw [nz i ⟨c0, c1, c2, c3, c4, c5⟩, na i ⟨c0, c1, c2, c3, c4, c5⟩]
                refine h1 i ?_
                unfold kLv at hi ⊢
                omega
  · by_cases d : b = B
    · subst d
      rw [va.1, va.2.1, va.2.2.1, va.2.2.2.1, va.2.2.2.2.2]
      exact ⟨⟨o1, o2⟩, ⟨o3, o4⟩, Or.inl rfl⟩
    · rw [na b (by omega), na (6 + b) (by omega), na (12 + b) (by omega), na (18 + b) (by omega), na (30 + b) (by omega)]
      exact h2 b (by omega)
  · rw [na (52 + g) (by omega), na (60 + g) (by omega)]
    exact h3 g hg
  · by_cases d : b = B
    · subst d
      rw [va.2.2.2.2.1]
      exact o5
    · rw [na (24 + b) (by omega)]
      exact h4 b (by omega)
  · rw [na (44 + g) (by omega)]
    exact h5 g hg
theorem zAl_s {N M : Nat} (hN : N ≤ 8) : ∀ (l : List (Int × Int × Int × Int × Int)) (B : Nat) (z a : Nat → Int), B + l.length ≤ 6 → (∀ q, q ∈ l → qOk q) → zAl B N M z a → zAl (B + l.length) N M (tBs B l z) (tBs B l a) ∧ ∀ i, 36 ≤ i → tBs B l z i = z i ∧ tBs B l a i = a i
  | [], B, z, a, _, _, h => ⟨h, fun i _ => ⟨rfl, rfl⟩⟩
  | q :: l, B, z, a, hl, hq, h => by
    rw [List.length_cons] at hl
    have := zAl_s hN l (B + 1) (tB1 B q z) (tB1 B q a) (by omega) (fun q' hq' => hq q' (List.mem_cons_of_mem _ hq')) (zAl_1 (by omega) hN h (hq q List.mem_cons_self))
    rw [tBs_cons, tBs_cons, List.length_cons, show B + (l.length + 1) = B + 1 + l.length by omega]
    refine ⟨this.1, fun i hi => ?_⟩
    rw [(this.2 i hi).1, (this.2 i hi).2, tB1_n (by omega), tB1_n (by omega)]
    exact ⟨rfl, rfl⟩
end FG
