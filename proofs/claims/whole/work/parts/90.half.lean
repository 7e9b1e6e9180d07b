/-! ===== a gull's half hour has three ends ===== -/
theorem xor_assoc (a b c : Int) : xor_ (xor_ a b) c = xor_ a (xor_ b c) := by
  unfold xor_
  rw [Int32.ofInt_toInt, Int32.ofInt_toInt, Int32.or_assoc]
theorem kGull_s (k : xKx) (g : Nat) (a : Nat → Int) : (∃ a', ∀ s, kGull k g (a, s) = (a', s)) ∨ (∃ a' q v, q ≠ -1 ∧ ∀ c d x t, kGull k g (a, c, d, x, t) = (a', xor_ c (xshl 1 g), xor_ d v, x, xfu t g q)) ∨ (∃ a', ∀ c d x t, kGull k g (a, c, d, x, t) = (a', c, d, xor_ x (xshl 1 g), t)) := by
  unfold kGull
  dsimp only
  generalize rAim (kStorm k) (kB k) (kHome k) a g = q
  generalize kRg k a g (rFar a g q) = rg
  generalize xfu (xfu a (52 + g) (rToward (a (52 + g)) (if q = -1 then 0 else a q.toNat) rg)) (60 + g) (rToward (xfu a (52 + g) (rToward (a (52 + g)) (if q = -1 then 0 else a q.toNat) rg) (60 + g)) (if q = -1 then 0 else a (6 + q.toNat)) (mMax 0 (xw (rg - mAbs (xw (a (52 + g) - if q = -1 then 0 else a q.toNat)))))) = a2
  by_cases c1 : rFar a2 g q = 0
  · simp only [if_pos c1]
    by_cases c2 : q = -1
    · simp only [if_pos c2]
      exact Or.inl ⟨_, fun _ => rfl⟩
    · simp only [if_neg c2]
      exact Or.inr (Or.inl ⟨_, q, _, c2, fun _ _ _ _ => rfl⟩)
  · simp only [if_neg c1]
    by_cases c2 : a2 (44 + g) < 9
    · simp only [if_pos c2]
      exact Or.inl ⟨_, fun _ => rfl⟩
    · simp only [if_neg c2]
      exact Or.inr (Or.inr ⟨_, fun _ _ _ _ => rfl⟩)
def cGulls (kx : xKx) : Nat → (Nat → Int) × xT5 → (Nat → Int) × xT5
  | 0, A => A
  | m + 1, A => if (cGulls kx m A).1 (68 + m) = 1 then cFly kx m (cGulls kx m A).1 (cGulls kx m A).2 else cGulls kx m A
def cHalf (kx : xKx) (A : (Nat → Int) × xT5) : (Nat → Int) × xT5 :=
  (xfu (cGulls kx (kN kx) (xit boat1 (kB kx) A.1, A.2)).1 115 (xw ((cGulls kx (kN kx) (xit boat1 (kB kx) A.1, A.2)).1 115 + 1)), (cGulls kx (kN kx) (xit boat1 (kB kx) A.1, A.2)).2)
def cPass (kx : xKx) (m : Nat) (A : (Nat → Int) × xT5) : (Nat → Int) × xT5 := xit (fun _ => cHalf kx) m A
theorem cFly_1 (kx : xKx) (g : Nat) (a : Nat → Int) (T : xT5) (s : Int × Int × Int × (Nat → Int)) : (cFly kx g a T).1 = (kGull kx g (a, s)).1 := by
  unfold cFly
  dsimp only
  obtain ⟨c, d, x, t⟩ := s
  rcases kGull_s kx g a with ⟨a', e⟩ | ⟨a', q, v, _, e⟩ | ⟨a', e⟩
  · rw [e, e]
  · rw [e, e]
  · rw [e, e]
theorem xin_w (n : Int) : xin (xw n) := xw_in n
theorem cFly_in {kx : xKx} {g : Nat} {a : Nat → Int} {T : xT5} (h : xin T.2.2.1) : xin (cFly kx g a T).2.2.2.1 := by
  show xin (kGull kx g (a, T.2.1, T.2.2.1, T.2.2.2.1, fun _ => -1)).2.2.1
  rcases kGull_s kx g a with ⟨a', e⟩ | ⟨a', q, v, _, e⟩ | ⟨a', e⟩
  · rw [e]; exact h
  · rw [e]; exact xin_or _ _
  · rw [e]; exact h
section SANE
variable {B N : Nat} {a : Nat → Int}
theorem kSane_w (hs : kSane B N a) (hB : B ≤ 6) (hN : N ≤ 8) {i : Nat} (hi : (36 ≤ i ∧ i < 52) ∨ 68 ≤ i) (v : Int) : kSane B N (xfu a i v) := by
  obtain ⟨h1, h2⟩ := hs
  refine ⟨fun b hb => ?_, fun g hg => ?_⟩
  · rw [xfu_ne _ _ (show b ≠ i by omega), xfu_ne _ _ (show 6 + b ≠ i by omega), xfu_ne _ _ (show 12 + b ≠ i by omega), xfu_ne _ _ (show 18 + b ≠ i by omega), xfu_ne _ _ (show 30 + b ≠ i by omega)]
    exact h1 b hb
  · rw [xfu_ne _ _ (show 52 + g ≠ i by omega), xfu_ne _ _ (show 60 + g ≠ i by omega)]
    exact h2 g hg
theorem kSane_pos (hs : kSane B N a) (hB : B ≤ 6) (hN : N ≤ 8) {g : Nat} (hg : g < N) {i : Nat} (hi : i = 52 + g ∨ i = 60 + g) {v : Int} (h0 : 0 ≤ v) (h1 : v ≤ 15) : kSane B N (xfu a i v) := by
  obtain ⟨p1, p2⟩ := hs
  refine ⟨fun b hb => ?_, fun g' hg' => ?_⟩
  · rw [xfu_ne _ _ (show b ≠ i by omega), xfu_ne _ _ (show 6 + b ≠ i by omega), xfu_ne _ _ (show 12 + b ≠ i by omega), xfu_ne _ _ (show 18 + b ≠ i by omega), xfu_ne _ _ (show 30 + b ≠ i by omega)]
    exact p1 b hb
  · have p3 := p2 g' hg'
    unfold xfu
    constructor
    · split
      · exact ⟨h0, h1⟩
      · exact p3.1
    · split
      · exact ⟨h0, h1⟩
      · exact p3.2
theorem kSane_boat (hs : kSane B N a) (hB : B ≤ 6) (hN : N ≤ 8) {b : Nat} (hb : b < B) : kSane B N (boat1 b a) := by
  obtain ⟨p1, p2⟩ := hs
  refine ⟨fun b' hb' => ?_, fun g hg => ?_⟩
  · have q1 := p1 b' hb'
    by_cases e : b' = b
    · subst e
      unfold boat1
      try dsimp only
      have x1 : xw (-(a (12 + b'))) = -(a (12 + b')) := xw_id (by omega) (by omega)
      have x2 : xw (-(a (18 + b'))) = -(a (18 + b')) := xw_id (by omega) (by omega)
      by_cases c1 : 0 ≤ xw (a b' + a (12 + b')) ∧ xw (a b' + a (12 + b')) ≤ 15
      · simp only [if_pos c1]
        rw [xfu_ne _ _ (show 6 + b' ≠ b' by omega), xfu_ne _ _ (show 18 + b' ≠ b' by omega)]
        split
        · simp (disch := omega) only [xfu_ne, xfu_self]
          omega
        · simp (disch := omega) only [xfu_ne, xfu_self, x2]
          omega
      · simp only [if_neg c1]
        rw [xfu_ne _ _ (show 6 + b' ≠ 12 + b' by omega), xfu_ne _ _ (show 18 + b' ≠ 12 + b' by omega)]
        split
        · simp (disch := omega) only [xfu_ne, xfu_self, x1]
          omega
        · simp (disch := omega) only [xfu_ne, xfu_self, x1, x2]
          omega
    · have w : ∀ i, (i = b' ∨ i = 6 + b' ∨ i = 12 + b' ∨ i = 18 + b' ∨ i = 30 + b') → boat1 b a i = a i := by
        intro i hi
        unfold boat1
        try dsimp only
        repeat' split
        all_goals simp (disch := omega) only [xfu_ne]
      rw [w _ (by omega), w (6 + b') (by omega), w (12 + b') (by omega), w (18 + b') (by omega), w (30 + b') (by omega)]
      exact q1
  · have w1 := boat1_far a (b := b) (i := 52 + g) (by omega) (by omega)
    have w2 := boat1_far a (b := b) (i := 60 + g) (by omega) (by omega)
    rw [w1, w2]
    exact p2 g hg
theorem kSane_boats (hs : kSane B N a) (hB : B ≤ 6) (hN : N ≤ 8) : ∀ i, i ≤ B → kSane B N (xit boat1 i a)
  | 0, _ => hs
  | i + 1, hi => kSane_boat (kSane_boats hs hB hN i (by omega)) hB hN (by omega)
theorem kSane_gull {kx : xKx} (hK : kxOk kx) (hs : kSane (kB kx) (kN kx) a) {g : Nat} (hg : g < kN kx) (hl : a (76 + g) = -1 ∨ (0 ≤ a (76 + g) ∧ a (76 + g) < 10)) (s : Int × Int × Int × (Nat → Int)) : kSane (kB kx) (kN kx) (kGull kx g (a, s)).1 := by
  obtain ⟨hB, hN, hh⟩ := hK
  have hh := hh g hg
  have hq := rAim_rngB (kStorm kx) (kB kx) (kHome kx) a g (B' := kB kx) (Nat.le_refl _) hh.1 hh.2
  unfold kGull
  dsimp only
  generalize rAim (kStorm kx) (kB kx) (kHome kx) a g = q at hq
  have hrg := kRg_in kx a g (rFar a g q)
  generalize kRg kx a g (rFar a g q) = rg at hrg
  have hx : 0 ≤ (if q = -1 then 0 else a q.toNat) ∧ (if q = -1 then 0 else a q.toNat) ≤ 15 := by
    by_cases e : q = -1
    · simp only [if_pos e]
      omega
    · simp only [if_neg e]
      exact (hs.1 q.toNat (by omega)).1.1
  have hy : 0 ≤ (if q = -1 then 0 else a (6 + q.toNat)) ∧ (if q = -1 then 0 else a (6 + q.toNat)) ≤ 15 := by
    by_cases e : q = -1
    · simp only [if_pos e]
      omega
    · simp only [if_neg e]
      exact (hs.1 q.toNat (by omega)).1.2
  have hsg := hs.2 g hg
  have w1 := tow_eq hsg.1.1 hsg.1.2 hx.1 hx.2 hrg.1 hrg.2
  have w2 := tow_eq hsg.2.1 hsg.2.2 hy.1 hy.2 w1.2.2.2.1 w1.2.2.2.2
  have s2 := kSane_fly (x := rToward (a (52 + g)) (if q = -1 then 0 else a q.toNat) rg) (y := rToward (a (60 + g)) (if q = -1 then 0 else a (6 + q.toNat)) (mMax 0 (xw (rg - mAbs (xw (a (52 + g) - if q = -1 then 0 else a q.toNat)))))) hN hB hs hg w1.2.1 (by rw [← w1.2.2.1]; exact w2.2.1)
  rw [xfu_ne _ _ (show 60 + g ≠ 52 + g by omega)]
  have e76 : (xfu (xfu a (52 + g) (rToward (a (52 + g)) (if q = -1 then 0 else a q.toNat) rg)) (60 + g) (rToward (a (60 + g)) (if q = -1 then 0 else a (6 + q.toNat)) (mMax 0 (xw (rg - mAbs (xw (a (52 + g) - if q = -1 then 0 else a q.toNat)))))) (76 + g)) = a (76 + g) := by rw [xfu_ne _ _ (by omega), xfu_ne _ _ (by omega)]
  rw [← e76] at hl
  clear w1 w2 hsg hx hy e76
  generalize xfu (xfu a (52 + g) (rToward (a (52 + g)) (if q = -1 then 0 else a q.toNat) rg)) (60 + g) (rToward (a (60 + g)) (if q = -1 then 0 else a (6 + q.toNat)) (mMax 0 (xw (rg - mAbs (xw (a (52 + g) - if q = -1 then 0 else a q.toNat)))))) = a2 at *
  generalize a2 (76 + g) = l at *
  repeat' split
  all_goals dsimp only
  all_goals repeat' first | exact s2 | exact kSane_pos (by assumption) hB hN hg (Or.inl rfl) (by decide) (by decide) | refine kSane_w ?_ hB hN (by omega) _ | refine kSane_pos ?_ hB hN hg (Or.inl rfl) (by decide) (by decide) | refine kSane_pos ?_ hB hN hg (Or.inr rfl) (by decide) (by decide)
end SANE
