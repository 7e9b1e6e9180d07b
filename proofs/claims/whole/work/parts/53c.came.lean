/-! ===== who came, and where ===== -/
theorem kGull_o (k : xKx) (g : Nat) (a : Nat → Int) (s : Int × Int × Int) : ∃ o : Option Int, ∀ t : Nat → Int,
    (kGull k g (a, s.1, s.2.1, s.2.2, t)).2.1 = (match o with | none => s.1 | some _ => xor_ s.1 (xshl 1 g)) ∧ (kGull k g (a, s.1, s.2.1, s.2.2, t)).2.2.2.2 = (match o with | none => t | some q => xfu t g q) := by
  unfold kGull
  dsimp only
  generalize rAim (kStorm k) (kB k) (kHome k) a g = q
  generalize kRg k a g (rFar a g q) = rg
  generalize xfu (xfu a (52 + g) (rToward (a (52 + g)) (if q = -1 then 0 else a q.toNat) rg)) (60 + g) (rToward (xfu a (52 + g) (rToward (a (52 + g)) (if q = -1 then 0 else a q.toNat) rg) (60 + g)) (if q = -1 then 0 else a (6 + q.toNat)) (mMax 0 (xw (rg - mAbs (xw (a (52 + g) - if q = -1 then 0 else a q.toNat)))))) = a2
  by_cases c1 : rFar a2 g q = 0
  · simp only [if_pos c1]
    by_cases c2 : q = -1
    · refine ⟨none, fun t => ?_⟩
      simp only [if_pos c2]
      exact ⟨trivial, trivial⟩
    · refine ⟨some q, fun t => ?_⟩
      simp only [if_neg c2]
      exact ⟨trivial, trivial⟩
  · refine ⟨none, fun t => ?_⟩
    simp only [if_neg c1]
    split
    · exact ⟨rfl, rfl⟩
    · exact ⟨rfl, rfl⟩
def cSame (F F' : xFl) : Prop := F.2.1 = F'.2.1 ∧ F.2.2.1 = F'.2.2.1 ∧ F.2.2.2.1 = F'.2.2.2.1 ∧ ∃ m : Nat, m < 256 ∧ F.2.1 = (m : Int) ∧ ∀ g, m.testBit g = true → F.2.2.2.2 g = F'.2.2.2.2 g
section CM
variable {B N M : Nat} {a b : Nat → Int} {k : xKx} {g : Nat}
theorem kGull_c (hB : B ≤ 6) (hN : N ≤ 8) (hM : M ≤ 10) (hg : g < N) (hk : kB k ≤ B) (h0 : 0 ≤ kHome k g) (h1 : kHome k g < B) {F F' : xFl} (hl : F.1 (76 + g) = -1 ∨ (0 ≤ F.1 (76 + g) ∧ F.1 (76 + g) < M)) (e : kEq B N M F.1 F'.1) (e2 : cSame F F') : kEq B N M (kGull k g F).1 (kGull k g F').1 ∧ cSame (kGull k g F) (kGull k g F') := by
  obtain ⟨a, c, d, x, t⟩ := F
  obtain ⟨b, c', d', x', t'⟩ := F'
  obtain ⟨q1, q2, q3, m, hm, q4, q5⟩ := e2
  dsimp only at q1 q2 q3 q4 q5 e hl
  subst q1 q2 q3 q4
  obtain ⟨i1, i2⟩ := kGull_eq (F := (a, (m : Int), d, x, t)) (F' := (b, (m : Int), d, x, t)) hB hN hM hg hk h0 h1 hl e rfl
  have i3 := p4_gull (k := k) (g := g) (F := (b, (m : Int), d, x, t)) (F' := (b, (m : Int), d, x, t')) rfl
  obtain ⟨o, ho⟩ := kGull_o k g b ((m : Int), d, x)
  obtain ⟨u1, u2⟩ := ho t
  obtain ⟨u3, u4⟩ := ho t'
  dsimp only at u1 u2 u3 u4
  unfold p4 at i3
  refine ⟨?_, ?_⟩
  · rw [← show (kGull k g (b, (m : Int), d, x, t)).1 = (kGull k g (b, (m : Int), d, x, t')).1 from congrArg (fun z => z.1) i3]
    exact i1
  · refine ⟨?_, ?_, ?_, ?_⟩
    · rw [i2]; exact congrArg (fun z => z.2.1) i3
    · rw [i2]; exact congrArg (fun z => z.2.2.1) i3
    · rw [i2]; exact congrArg (fun z => z.2.2.2) i3
    · rw [i2, u1, u2, u4]
      cases o with
      | none => exact ⟨m, hm, rfl, q5⟩
      | some q =>
        dsimp only
        refine ⟨m ||| 2 ^ g, Nat.or_lt_two_pow (n := 8) hm (Nat.pow_lt_pow_right (by decide) (by omega)), ?_, fun g' hg' => ?_⟩
        · exact xor_set (by omega) (by omega)
        · rw [bit_or] at hg'
          unfold xfu
          split
          · rfl
          · rename_i c
            refine q5 g' ?_
            simpa [Ne.symm c] using hg'
theorem kGulls_c (hB : B ≤ 6) (hN : N ≤ 8) (hM : M ≤ 10) (hk : kB k ≤ B) (hh : ∀ g, g < N → (0 ≤ kHome k g ∧ kHome k g < B)) {F F' : xFl} (hl : kBe M N F.1) (e : kEq B N M F.1 F'.1) (e2 : cSame F F') : ∀ m, m ≤ N → kBe M N (kGulls k m F).1 ∧ kEq B N M (kGulls k m F).1 (kGulls k m F').1 ∧ cSame (kGulls k m F) (kGulls k m F')
  | 0, _ => ⟨hl, e, e2⟩
  | m + 1, hm => by
    obtain ⟨i0, i1, i2⟩ := kGulls_c hB hN hM hk hh hl e e2 m (by omega)
    unfold kGulls
    have x68 : (kGulls k m F).1 (68 + m) = (kGulls k m F').1 (68 + m) := kEq_g hN i1 (c := 4) (by omega) (by decide)
    rw [x68]
    split
    · exact ⟨kBe_gull hN hM (by omega) i0, kGull_c hB hN hM (by omega) hk (hh m (by omega)).1 (hh m (by omega)).2 (i0 m (by omega)) i1 i2⟩
    · exact ⟨i0, i1, i2⟩
theorem kHalf_c (hB : B ≤ 6) (hN : N ≤ 8) (hM : M ≤ 10) (hk : kB k ≤ B) (hk2 : kN k ≤ N) (hh : ∀ g, g < N → (0 ≤ kHome k g ∧ kHome k g < B)) {F F' : xFl} (hl : kBe M N F.1) (e : kEq B N M F.1 F'.1) : kBe M N (kHalf k F).1 ∧ kEq B N M (kHalf k F).1 (kHalf k F').1 ∧ cSame (kHalf k F) (kHalf k F') := by
  have l1 : kBe M N (xit boat1 (kB k) F.1) := fun g hg => by rw [boats_far (by omega) _ _ (by omega)]; exact hl g hg
  obtain ⟨i0, i1, i2⟩ := kGulls_c (k := k) (F := (xit boat1 (kB k) F.1, 0, 0, 0, F.2.2.2.2)) (F' := (xit boat1 (kB k) F'.1, 0, 0, 0, F'.2.2.2.2)) hB hN hM hk hh l1 (boats_eq hB e (kB k) hk) ⟨rfl, rfl, rfl, 0, by decide, rfl, fun g hg => by simp at hg⟩ (kN k) hk2
  unfold kHalf
  dsimp only
  refine ⟨fun g hg => ?_, kEq_xfu i1 _ (by rw [kEq_115 i1]), i2⟩
  rw [xfu_ne _ _ (by omega)]
  exact i0 g hg
end CM
