/-! ===== orders: shouts add up; gulls that are sent do not meet ===== -/
section OA
variable {f : Nat → Nat → Bool} {B b : Nat}
theorem nRow_or (m k : Nat) : nRow f B b (m ||| k) = nRow f B b m ||| nRow f B b k := by
  refine Nat.eq_of_testBit_eq fun i => ?_
  unfold nRow
  rw [Nat.testBit_or, nRow_c, nRow_c, nRow_c, Nat.testBit_or, Nat.testBit_or]
  cases m.testBit i <;> cases k.testBit i <;> cases m.testBit b <;> cases k.testBit b <;> cases decide (i < B) <;> cases f b i <;> rfl
theorem nRd_or2 (m k : Nat) : nRd f B (m ||| k) = nRd f B m ||| nRd f B k := by
  have key : ∀ i, xit (fun b m => nRow f B b m) i (m ||| k) = xit (fun b m => nRow f B b m) i m ||| xit (fun b m => nRow f B b m) i k := by
    intro i
    induction i with
    | zero => rfl
    | succ i ih =>
      show nRow f B i (xit (fun b m => nRow f B b m) i (m ||| k)) = nRow f B i (xit (fun b m => nRow f B b m) i m) ||| nRow f B i (xit (fun b m => nRow f B b m) i k)
      rw [ih, nRow_or]
  exact key B
theorem nFix_fx {m : Nat} (h : nRd f B m = m) : ∀ k, nFix f B k m = m
  | 0 => rfl
  | k + 1 => by
    unfold nFix
    rw [if_pos h]
theorem nFix_s (k m : Nat) : nFix f B (k + 1) m = nFix f B k (nRd f B m) := by
  by_cases d : nRd f B m = m
  · rw [d, nFix_fx d, nFix_fx d]
  · conv => lhs; unfold nFix
    rw [if_neg d]
theorem nFix_or : ∀ (k m p : Nat), nFix f B k (m ||| p) = nFix f B k m ||| nFix f B k p
  | 0, m, p => rfl
  | k + 1, m, p => by rw [nFix_s, nFix_s, nFix_s, nRd_or2, nFix_or k]
theorem nRd_0 : nRd f B 0 = 0 := by
  have key : ∀ i, xit (fun b m => nRow f B b m) i 0 = 0 := by
    intro i
    induction i with
    | zero => rfl
    | succ i ih =>
      show nRow f B i (xit (fun b m => nRow f B b m) i 0) = 0
      rw [ih]
      refine Nat.eq_of_testBit_eq fun j => ?_
      unfold nRow
      rw [nRow_c, Nat.zero_testBit, Nat.zero_testBit]
      rfl
  exact key B
theorem nFix_0 (k : Nat) : nFix f B k 0 = 0 := nFix_fx nRd_0 k
/-- what several make known -/
def oU (s : Nat) (P : Nat → Nat) (N : Nat) (m : Nat) : Nat := xit (fun g m => if s.testBit g = true then m ||| P g else m) N m
theorem oU_s (s : Nat) (P : Nat → Nat) (N m : Nat) : oU s P (N + 1) m = if s.testBit N = true then oU s P N m ||| P N else oU s P N m := rfl
theorem oU_bit (s : Nat) (P : Nat → Nat) (m i : Nat) : ∀ N, ((oU s P N m).testBit i = true ↔ (m.testBit i = true ∨ ∃ g, g < N ∧ s.testBit g = true ∧ (P g).testBit i = true))
  | 0 => by
    show m.testBit i = true ↔ _
    constructor
    · intro h; exact Or.inl h
    · rintro (h | ⟨g, h, _⟩)
      · exact h
      · omega
  | N + 1 => by
    have ih := oU_bit s P m i N
    rw [oU_s]
    by_cases d : s.testBit N = true
    · rw [if_pos d, Nat.testBit_or, Bool.or_eq_true, ih]
      constructor
      · rintro ((h | ⟨g, h1, h2, h3⟩) | h)
        · exact Or.inl h
        · exact Or.inr ⟨g, by omega, h2, h3⟩
        · exact Or.inr ⟨N, by omega, d, h⟩
      · rintro (h | ⟨g, h1, h2, h3⟩)
        · exact Or.inl (Or.inl h)
        · by_cases e : g = N
          · subst e; exact Or.inr h3
          · exact Or.inl (Or.inr ⟨g, by omega, h2, h3⟩)
    · rw [if_neg d, ih]
      constructor
      · rintro (h | ⟨g, h1, h2, h3⟩)
        · exact Or.inl h
        · exact Or.inr ⟨g, by omega, h2, h3⟩
      · rintro (h | ⟨g, h1, h2, h3⟩)
        · exact Or.inl h
        · by_cases e : g = N
          · subst e; exact absurd h2 d
          · exact Or.inr ⟨g, by omega, h2, h3⟩
theorem oU_fix (s : Nat) (P : Nat → Nat) (k : Nat) : ∀ N, nFix f B k (oU s P N 0) = oU s (fun g => nFix f B k (P g)) N 0
  | 0 => nFix_0 k
  | N + 1 => by
    have ih := oU_fix s P k N
    rw [oU_s, oU_s]
    by_cases d : s.testBit N = true
    · rw [if_pos d, if_pos d, nFix_or, ih]
    · rw [if_neg d, if_neg d, ih]
theorem oU_eq {s : Nat} {P Q : Nat → Nat} {m : Nat} : ∀ N, (∀ g, g < N → s.testBit g = true → P g = Q g) → oU s P N m = oU s Q N m
  | 0, _ => rfl
  | N + 1, h => by
    rw [oU_s, oU_s, oU_eq N (fun g hg => h g (by omega))]
    by_cases d : s.testBit N = true
    · rw [if_pos d, if_pos d, h N (by omega) d]
    · rw [if_neg d, if_neg d]
theorem kTold_o {s : Nat} {to : Nat → Int} {m : Nat} : ∀ N, xit (kTold1 s to) N m = oU s (fun g => 2 ^ (to g).toNat) N m
  | 0 => rfl
  | N + 1 => by
    have ih := kTold_o (s := s) (to := to) (m := m) N
    show kTold1 s to N (xit (kTold1 s to) N m) = _
    rw [oU_s, ih]
    rfl
end OA
section OB
variable {kx : xKx} {g M : Nat} {b b0 ct : Nat → Int}
/-- a gull that is not out does not come -/
theorem gulls_no (hK : kxOk kx) (hM : M ≤ 10) (hg : g < kN kx) (h : k1Eq g b0 b) (hl : kBe M (kN kx) b0) (hf : b (68 + g) ≠ 1) : ∀ m, m ≤ kN kx → k1Eq g (kGulls kx m (b0, 0, 0, 0, ct)).1 b ∧ ∃ c : Nat, c < 256 ∧ (kGulls kx m (b0, 0, 0, 0, ct)).2.1 = (c : Int) ∧ c.testBit g = false
  | 0, _ => ⟨h, 0, by decide, rfl, Nat.zero_testBit g⟩
  | m + 1, hm => by
    obtain ⟨i1, c, hc, i2, i3⟩ := gulls_no hK hM hg h hl hf m (by omega)
    have hN := hK.2.1
    obtain ⟨l1, _⟩ := kGulls_far (k := kx) (i := 114) (by decide) hN hM (F := (b0, 0, 0, 0, ct)) hl m (by omega)
    unfold kGulls
    generalize kGulls kx m (b0, 0, 0, 0, ct) = F at *
    obtain ⟨a, s⟩ := F
    dsimp only at i1 i2 l1 ⊢
    have hl2 := l1 m (by omega)
    by_cases d : a (68 + m) = 1
    · have e : m ≠ g := by
        rintro rfl
        exact hf (by rw [← k1_68 i1]; exact d)
      rw [if_pos d]
      refine ⟨k1_t (k1_other e (by omega) (by omega) (by omega) s) i1, ?_⟩
      rcases oAim_s kx m a s with ⟨o1, _, _⟩ | ⟨o1, _, _⟩
      · exact ⟨c, hc, by rw [o1]; exact i2, i3⟩
      · refine ⟨c ||| 2 ^ m, Nat.or_lt_two_pow (n := 8) hc (Nat.pow_lt_pow_right (by decide) (by omega)), ?_, ?_⟩
        · rw [o1, i2]
          exact xor_set (by omega) (by omega)
        · rw [bit_or, i3]
          simp
          omega
    · rw [if_neg d]
      exact ⟨i1, c, hc, i2, i3⟩
theorem half_no (hK : kxOk kx) (hM : M ≤ 10) (hg : g < kN kx) {F : xFl} (hl : kBe M (kN kx) F.1) (hf : F.1 (68 + g) ≠ 1) : (kHalf kx F).1 (68 + g) ≠ 1 ∧ ∃ c : Nat, c < 256 ∧ (kHalf kx F).2.1 = (c : Int) ∧ c.testBit g = false := by
  obtain ⟨a, s1, s2, s3, ct⟩ := F
  dsimp only at hl hf
  have l2 : kBe M (kN kx) (xit boat1 (kB kx) a) := fun g hg => by rw [boats_far (by omega) _ _ hK.1]; exact hl g hg
  have f2 : xit boat1 (kB kx) a (68 + g) ≠ 1 := by rw [boats_far (by omega) _ _ hK.1]; exact hf
  obtain ⟨i1, c, hc, i2, i3⟩ := gulls_no (ct := ct) hK hM hg (b := xit boat1 (kB kx) a) ⟨fun _ _ => rfl, fun _ _ => rfl, rfl⟩ l2 f2 (kN kx) (Nat.le_refl _)
  have hN := hK.2.1
  refine ⟨?_, c, hc, i2, i3⟩
  show xfu (kGulls kx (kN kx) (xit boat1 (kB kx) a, 0, 0, 0, ct)).1 115 _ (68 + g) ≠ 1
  rw [xfu_ne _ _ (by omega), k1_68 i1]
  exact f2
theorem gulls_36 (hK : kxOk kx) (hM : M ≤ 10) (hl : kBe M (kN kx) b0) {i : Nat} (hi : i < 36) : ∀ m, m ≤ kN kx → (kGulls kx m (b0, 0, 0, 0, ct)).1 i = b0 i
  | 0, _ => rfl
  | m + 1, hm => by
    have i1 := gulls_36 hK hM hl hi m (by omega)
    have hN := hK.2.1
    obtain ⟨l1, _⟩ := kGulls_far (k := kx) (i := 114) (by decide) hN hM (F := (b0, 0, 0, 0, ct)) hl m (by omega)
    unfold kGulls
    generalize kGulls kx m (b0, 0, 0, 0, ct) = F at *
    obtain ⟨a, s⟩ := F
    dsimp only at i1 l1 ⊢
    have hl2 := l1 m (by omega)
    split
    · have := (k1_other (k := kx) (g := if m = 0 then 1 else 0) (g' := m) (a := a) (by split <;> omega) (by split <;> omega) (by omega) (by omega) s).1 i hi
      rw [this]
      exact i1
    · exact i1
theorem half_own (hK : kxOk kx) (hM : M ≤ 10) {F : xFl} (hl : kBe M (kN kx) F.1) {a : Nat → Int} {bt : Nat} (hb : bt < kB kx) (h : own bt F.1 a) : own bt (kHalf kx F).1 (xit boat1 (kB kx) a) := by
  obtain ⟨a0, s1, s2, s3, ct⟩ := F
  dsimp only at hl h
  have hB := hK.1
  have l2 : kBe M (kN kx) (xit boat1 (kB kx) a0) := fun g hg => by rw [boats_far (by omega) _ _ hK.1]; exact hl g hg
  have e : ∀ i, i < 36 → (kHalf kx (a0, s1, s2, s3, ct)).1 i = xit boat1 (kB kx) a0 i := by
    intro i hi
    show xfu (kGulls kx (kN kx) (xit boat1 (kB kx) a0, 0, 0, 0, ct)).1 115 _ i = _
    rw [xfu_ne _ _ (by omega)]
    exact gulls_36 hK hM l2 hi (kN kx) (Nat.le_refl _)
  have h1 : own bt (xit boat1 (kB kx) a0) (xit boat1 (kB kx) a) := own_t (own_B (by omega) a0 _ hb hB) (own_t (own_1 h) (own_s (own_B (by omega) a _ hb hB)))
  unfold own at h1 ⊢
  rw [e bt (by omega), e (6 + bt) (by omega), e (12 + bt) (by omega), e (18 + bt) (by omega)]
  exact h1
theorem own_hear {a a' : Nat → Int} {B : Nat} (h : ∀ bt, bt < B → own bt a a') (s : Int) : ∀ x y, x < B → y < B → kHear a s x y = kHear a' s x y := by
  intro x y hx hy
  unfold kHear rApart
  rw [(h x hx).1, (h x hx).2.1, (h y hy).1, (h y hy).2.1]
end OB
