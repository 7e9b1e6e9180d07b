/-! ===== orders ===== -/
theorem xandn_n {m k : Nat} (hm : m < 2147483648) (hk : k < 2147483648) : xand (m : Int) (xxor (k : Int) (-1)) = ((m ^^^ (m &&& k) : Nat) : Int) := by
  have e0 : (Int32.ofInt (k : Int) ^^^ Int32.ofInt (-1)).toBitVec = ~~~ (BitVec.ofNat 32 k) := by
    rw [Int32.toBitVec_xor, b_of]
    exact BitVec.xor_allOnes
  have e1 : Int32.ofInt (xxor (k : Int) (-1)) = Int32.ofInt (k : Int) ^^^ Int32.ofInt (-1) := by
    unfold xxor
    exact Int32.ofInt_toInt _
  have e2 : ∀ x y : BitVec 32, x &&& ~~~ y = x ^^^ (x &&& y) := by
    intro x y
    ext i hi
    simp only [BitVec.getElem_and, BitVec.getElem_not, BitVec.getElem_xor]
    cases x[i] <;> cases y[i] <;> rfl
  have e : (Int32.ofInt (m : Int) &&& Int32.ofInt (xxor (k : Int) (-1))).toBitVec.toNat = m ^^^ (m &&& k) := by
    rw [e1, Int32.toBitVec_and, e0, b_of, e2, BitVec.toNat_xor, BitVec.toNat_and, BitVec.toNat_ofNat, BitVec.toNat_ofNat, Nat.mod_eq_of_lt (by omega), Nat.mod_eq_of_lt (by omega)]
  have h1 : m &&& k < 2 ^ 31 := Nat.lt_of_le_of_lt Nat.and_le_left hm
  have h2 : m ^^^ (m &&& k) < 2 ^ 31 := Nat.xor_lt_two_pow hm h1
  unfold xand
  rw [b_to _ (by rw [e]; omega), e]
theorem bit_diff (m k i : Nat) : (m ^^^ (m &&& k)).testBit i = (m.testBit i && !k.testBit i) := by
  rw [Nat.testBit_xor, Nat.testBit_and]
  cases m.testBit i <;> cases k.testBit i <;> rfl
/-- who came is told, and came to a boat -/
def cIn (B : Nat) (F : xFl) : Prop := ∃ m : Nat, m < 256 ∧ F.2.1 = (m : Int) ∧ ∀ g, m.testBit g = true → (0 ≤ F.2.2.2.2 g ∧ F.2.2.2.2 g < B)
section CI
variable {B N M : Nat} {k : xKx} {g : Nat}
theorem cIn_gull (hg : g < 8) (hk : kB k ≤ B) (h0 : 0 ≤ kHome k g) (h1 : kHome k g < B) {F : xFl} (e : cIn B F) : cIn B (kGull k g F) := by
  obtain ⟨a, c, d, x, t⟩ := F
  obtain ⟨m, hm, q4, q5⟩ := e
  dsimp only at q4 q5
  subst q4
  unfold kGull
  dsimp only
  have hq := rAim_rngB (kStorm k) (kB k) (kHome k) a g hk h0 h1
  generalize rAim (kStorm k) (kB k) (kHome k) a g = q at hq
  generalize kRg k a g (rFar a g q) = rg
  generalize xfu (xfu a (52 + g) (rToward (a (52 + g)) (if q = -1 then 0 else a q.toNat) rg)) (60 + g) (rToward (xfu a (52 + g) (rToward (a (52 + g)) (if q = -1 then 0 else a q.toNat) rg) (60 + g)) (if q = -1 then 0 else a (6 + q.toNat)) (mMax 0 (xw (rg - mAbs (xw (a (52 + g) - if q = -1 then 0 else a q.toNat)))))) = a2
  by_cases c1 : rFar a2 g q = 0
  · rw [if_pos c1]
    by_cases c2 : q = -1
    · rw [if_pos c2]
      exact ⟨m, hm, rfl, q5⟩
    · rw [if_neg c2]
      refine ⟨m ||| 2 ^ g, Nat.or_lt_two_pow (n := 8) hm (Nat.pow_lt_pow_right (by decide) hg), ?_, fun g' hg' => ?_⟩
      · exact xor_set (by omega) (by omega)
      · rw [bit_or] at hg'
        dsimp only
        unfold xfu
        split
        · omega
        · rename_i c
          refine q5 g' ?_
          simpa [Ne.symm c] using hg'
  · rw [if_neg c1]
    split
    · exact ⟨m, hm, rfl, q5⟩
    · exact ⟨m, hm, rfl, q5⟩
theorem cIn_gulls (hN : N ≤ 8) (hk : kB k ≤ B) (hh : ∀ g, g < N → (0 ≤ kHome k g ∧ kHome k g < B)) {F : xFl} (e : cIn B F) : ∀ m, m ≤ N → cIn B (kGulls k m F)
  | 0, _ => e
  | m + 1, hm => by
    have ih := cIn_gulls hN hk hh e m (by omega)
    unfold kGulls
    split
    · exact cIn_gull (by omega) hk (hh m (by omega)).1 (hh m (by omega)).2 ih
    · exact ih
theorem cIn_half (hN : kN k ≤ 8) (hk : kB k ≤ B) (hh : ∀ g, g < kN k → (0 ≤ kHome k g ∧ kHome k g < B)) (F : xFl) : cIn B (kHalf k F) := by
  have e := cIn_gulls (k := k) (B := B) hN hk hh (F := (xit boat1 (kB k) F.1, 0, 0, 0, F.2.2.2.2)) ⟨0, by decide, rfl, fun g hg => by simp at hg⟩ (kN k) (Nat.le_refl _)
  exact e
end CI
def kSd1 (set : Nat) (g : Nat) (a : Nat → Int) : Nat → Int := if set.testBit g = true then rSend a g (-1) else a
def kTold1 (s : Nat) (to : Nat → Int) (g : Nat) (m : Nat) : Nat := if s.testBit g = true then m ||| 2 ^ (to g).toNat else m
abbrev xOd : Type := xFl × Nat × Nat
def kOrd1 (k : xKx) (sh : Int) (S : xOd) : xOd :=
  let F := kHalf k S.1
  let c := F.2.1.toNat
  (F, S.2.1 ^^^ (S.2.1 &&& c), nFix (kHear F.1 sh) (kB k) 64 (xit (kTold1 (S.2.1 &&& c) F.2.2.2.2) (kN k) S.2.2))
def kOrd (k : xKx) (sh : Int) : Nat → Nat → xOd → Int
  | 0, t, S => if S.2.2 = 2 ^ kB k - 1 then (t : Int) else 1000000
  | m + 1, t, S => if S.2.2 = 2 ^ kB k - 1 then (t : Int) else kOrd k sh m (t + 1) (kOrd1 k sh S)
/-- what the set of gulls makes known, and when (1000000: not within m) -/
def kOrdered (k : xKx) (sh : Int) (m : Nat) (a : Nat → Int) (set : Nat) : Int := kOrd k sh m 0 ((xit (kSd1 set) (kN k) a, 0, 0, 0, fun _ => 0), set, 0)
section OD
variable {B N M : Nat} {k : xKx} {g : Nat}
theorem kTold_lt {s : Nat} {to : Nat → Int} (ht : ∀ g, s.testBit g = true → (0 ≤ to g ∧ to g < 6)) {m : Nat} (hm : m < 64) : ∀ i, xit (kTold1 s to) i m < 64
  | 0 => hm
  | i + 1 => by
    have ih := kTold_lt ht hm i
    show kTold1 s to i (xit (kTold1 s to) i m) < 64
    generalize xit (kTold1 s to) i m = z at ih
    unfold kTold1
    split
    · rename_i c
      have := ht i c
      exact Nat.or_lt_two_pow (n := 6) ih (Nat.pow_lt_pow_right (by decide) (by omega))
    · exact ih
theorem kTold_eq {s : Nat} {to to' : Nat → Int} (ht : ∀ g, s.testBit g = true → to g = to' g) (m : Nat) : ∀ i, xit (kTold1 s to) i m = xit (kTold1 s to') i m
  | 0 => by show m = m; rfl
  | i + 1 => by
    have ih := kTold_eq ht m i
    show kTold1 s to i (xit (kTold1 s to) i m) = kTold1 s to' i (xit (kTold1 s to') i m)
    rw [ih]
    generalize xit (kTold1 s to') i m = z
    unfold kTold1
    split
    · rename_i c
      rw [ht i c]
    · rfl
theorem kOrd1_eq (hB : B ≤ 6) (hN : kN k ≤ 8) (hM : M ≤ 10) (hk : kB k ≤ B) (hh : ∀ g, g < kN k → (0 ≤ kHome k g ∧ kHome k g < B)) (sh : Int) {S S' : xOd} (hl : kBe M (kN k) S.1.1) (e : kEq B (kN k) M S.1.1 S'.1.1) (e2 : S.2 = S'.2) : kBe M (kN k) (kOrd1 k sh S).1.1 ∧ kEq B (kN k) M (kOrd1 k sh S).1.1 (kOrd1 k sh S').1.1 ∧ (kOrd1 k sh S).2 = (kOrd1 k sh S').2 := by
  obtain ⟨i0, i1, q1, q2, q3, m, hm, q4, q5⟩ := kHalf_c hB hN hM hk (Nat.le_refl _) hh hl e
  unfold kOrd1
  dsimp only
  rw [← e2]
  generalize kHalf k S.1 = F at i0 i1 q1 q2 q3 q4 q5
  generalize kHalf k S'.1 = F' at i1 q1 q2 q3 q4 q5
  refine ⟨i0, i1, ?_⟩
  rw [← q1, q4, Int.toNat_natCast, nFix_eq (kHear_eq (B' := B) (B := kB k) (N := kN k) (M := M) (Nat.le_trans hk hB) (kEq_less hk (Nat.le_refl _) (Nat.le_refl _) i1) sh), kTold_eq (fun g hg => q5 g (by rw [Nat.testBit_and] at hg; simp at hg; exact hg.2))]
theorem kOrd_eq (hB : B ≤ 6) (hN : kN k ≤ 8) (hM : M ≤ 10) (hk : kB k ≤ B) (hh : ∀ g, g < kN k → (0 ≤ kHome k g ∧ kHome k g < B)) (sh : Int) : ∀ (m t : Nat) {S S' : xOd}, kBe M (kN k) S.1.1 → kEq B (kN k) M S.1.1 S'.1.1 → S.2 = S'.2 → kOrd k sh m t S = kOrd k sh m t S'
  | 0, t, S, S', _, _, e2 => by unfold kOrd; rw [e2]
  | m + 1, t, S, S', hl, e, e2 => by
    obtain ⟨i0, i1, i2⟩ := kOrd1_eq hB hN hM hk hh sh hl e e2
    unfold kOrd
    rw [kOrd_eq hB hN hM hk hh sh m (t + 1) i0 i1 i2, e2]
theorem kSd_ok {a : Nat → Int} (hN : N ≤ 8) (hl : kBe M N a) (set : Nat) : ∀ i, i ≤ N → kBe M N (xit (kSd1 set) i a)
  | 0, _ => hl
  | i + 1, hi => by
    have ih := kSd_ok hN hl set i (by omega)
    show kBe M N (kSd1 set i (xit (kSd1 set) i a))
    generalize xit (kSd1 set) i a = z at ih
    unfold kSd1
    split
    · exact kBe_send0 hN ih (by omega)
    · exact ih
theorem kSd_eq {a b : Nat → Int} (e : kEq B N M a b) (set : Nat) : ∀ i, kEq B N M (xit (kSd1 set) i a) (xit (kSd1 set) i b)
  | 0 => e
  | i + 1 => by
    have ih := kSd_eq e set i
    show kEq B N M (kSd1 set i (xit (kSd1 set) i a)) (kSd1 set i (xit (kSd1 set) i b))
    generalize xit (kSd1 set) i a = z at ih
    generalize xit (kSd1 set) i b = z' at ih
    unfold kSd1
    split
    · rw [rSend_0, rSend_0]
      exact kEq_xfu (kEq_xfu ih _ rfl) _ rfl
    · exact ih
end OD
