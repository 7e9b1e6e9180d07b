/-! ===== orders: when all know, gull by gull ===== -/
/-- when a gull that is sent comes, and to whom -/
def oV (k : xKx) (a : Nat → Int) (g : Nat) : Int × Int := kCome k g 60 1 (rSend a g (-1), 0, 0, 0, fun _ => 0)
def oH (k : xKx) (a : Nat → Int) (sh : Int) (t : Nat) : Nat → Nat → Bool := kHear (kSail (kB k) t a) sh
/-- who knows by this gull alone -/
def oK (k : xKx) (a : Nat → Int) (sh : Int) (g t : Nat) : Nat := if 1 ≤ (oV k a g).1 ∧ (oV k a g).1 ≤ (t : Int) then (cSpr (oH k a sh) (kB k) (oV k a g).1.toNat (t + 1 - (oV k a g).1.toNat) (2 ^ (oV k a g).2.toNat, fun _ => -1)).1 else 0
/-- when a boat knows by this gull alone -/
def oB (k : xKx) (a : Nat → Int) (sh : Int) (g b : Nat) : Int := (cSpr (oH k a sh) (kB k) (oV k a g).1.toNat (61 - (oV k a g).1.toNat) (2 ^ (oV k a g).2.toNat, fun _ => -1)).2 b
section OC
variable {k : xKx} {a : Nat → Int} {sh : Int} {set : Nat}
theorem kCome_rng (k : xKx) (g : Nat) : ∀ (m t : Nat) (F : xFl), (kCome k g m t F).1 = -2 ∨ (t : Int) ≤ (kCome k g m t F).1
  | 0, t, F => Or.inl rfl
  | m + 1, t, F => by
    unfold kCome
    split
    · split
      · exact Or.inr (Int.le_refl _)
      · rcases kCome_rng k g m (t + 1) (kHalf k F) with z | z
        · exact Or.inl z
        · right; omega
    · exact Or.inl rfl
theorem kCome_no (k : xKx) (g : Nat) (m t : Nat) (F : xFl) (h : F.1 (68 + g) ≠ 1) : kCome k g m t F = (-2, 0) := by
  cases m with
  | zero => rfl
  | succ m =>
    unfold kCome
    rw [if_neg h]
theorem oK_s (g t : Nat) : nFix (oH k a sh (t + 1)) (kB k) 64 (if (oV k a g).1 = ((t + 1 : Nat) : Int) then 2 ^ (oV k a g).2.toNat else oK k a sh g t) = oK k a sh g (t + 1) := by
  unfold oK
  generalize oV k a g = V
  by_cases d : V.1 = ((t + 1 : Nat) : Int)
  · rw [if_pos d, if_pos (by omega)]
    have e1 : V.1.toNat = t + 1 := by omega
    rw [e1, show t + 1 + 1 - (t + 1) = 0 + 1 by omega, (cSpr_s _ _).1]
    rfl
  · rw [if_neg d]
    by_cases d2 : 1 ≤ V.1 ∧ V.1 ≤ (t : Int)
    · rw [if_pos d2, if_pos (by omega), show t + 1 + 1 - V.1.toNat = (t + 1 - V.1.toNat) + 1 by omega, (cSpr_s _ _).1, show V.1.toNat + (t + 1 - V.1.toNat) = t + 1 by omega]
    · rw [if_neg d2, if_neg (by omega)]
      exact nFix_0 64
theorem oU_lt {s B : Nat} {P : Nat → Nat} {m : Nat} (hm : m < 2 ^ B) : ∀ N, (∀ g, g < N → s.testBit g = true → P g < 2 ^ B) → oU s P N m < 2 ^ B
  | 0, _ => hm
  | N + 1, h => by
    have ih := oU_lt (P := P) hm N (fun g hg => h g (by omega))
    rw [oU_s]
    split
    · rename_i d
      exact Nat.or_lt_two_pow ih (h N (by omega) d)
    · exact ih
def oI (k : xKx) (a : Nat → Int) (sh : Int) (set t : Nat) (S : xOd) : Prop := kBe 10 (kN k) S.1.1 ∧ (∀ bt, bt < kB k → own bt S.1.1 (kSail (kB k) t a)) ∧ (∀ g, g < kN k → (S.2.1.testBit g = true ↔ (set.testBit g = true ∧ ¬ (1 ≤ (oV k a g).1 ∧ (oV k a g).1 ≤ (t : Int))))) ∧ (∀ g, g < kN k → S.2.1.testBit g = true → kCome k g (60 - t) (t + 1) S.1 = oV k a g) ∧ S.2.1 < 256 ∧ S.2.2 < 2 ^ kB k ∧ S.2.2 = oU set (fun g => oK k a sh g t) (kN k) 0
theorem oI_s (hK : kxOk k) {t : Nat} (ht : t < 60) {S : xOd} (h : oI k a sh set t S) : oI k a sh set (t + 1) (kOrd1 k sh S) := by
  obtain ⟨i1, i2, i3, i4, i5, i6, i7⟩ := h
  obtain ⟨F, left, knows⟩ := S
  dsimp only at i1 i2 i3 i4 i5 i6 i7
  have hN := hK.2.1
  have hb1 := (kBe_half (k := k) hK.1 hN (Nat.le_refl 10) (Nat.le_refl _) i1).1
  obtain ⟨c, hc, hF, hto⟩ := cIn_half (B := kB k) (k := k) hN (Nat.le_refl _) hK.2.2 F
  have hno := fun g (hg : g < kN k) => half_no (F := F) hK (Nat.le_refl 10) hg i1
  have hown := fun bt (hb : bt < kB k) => half_own (F := F) hK (Nat.le_refl 10) i1 hb (i2 bt hb)
  have key : ∀ g, g < kN k → left.testBit g = true → (c.testBit g = true ∧ oV k a g = (((t + 1 : Nat) : Int), (kHalf k F).2.2.2.2 g)) ∨ (c.testBit g = false ∧ (oV k a g).1 ≠ ((t + 1 : Nat) : Int) ∧ kCome k g (60 - (t + 1)) (t + 1 + 1) (kHalf k F) = oV k a g) := by
    intro g hg hl
    have hV := i4 g hg hl
    by_cases d : F.1 (68 + g) = 1
    · rw [show 60 - t = (60 - (t + 1)) + 1 by omega] at hV
      unfold kCome at hV
      rw [if_pos d, hF] at hV
      by_cases d2 : c.testBit g = true
      · rw [if_pos ((xbit_n (by omega) (by omega)).2 d2)] at hV
        exact Or.inl ⟨d2, hV.symm⟩
      · rw [if_neg (fun z => d2 ((xbit_n (by omega) (by omega)).1 z))] at hV
        right
        refine ⟨by simpa using d2, ?_, hV⟩
        rw [← hV]
        have := kCome_rng k g (60 - (t + 1)) (t + 1 + 1) (kHalf k F)
        omega
    · obtain ⟨n1, c', hc', n2, n3⟩ := hno g hg d
      have ecc : c' = c := by omega
      subst ecc
      rw [kCome_no k g _ _ F d] at hV
      right
      refine ⟨n3, by rw [← hV]; show (-2 : Int) ≠ _; omega, ?_⟩
      rw [kCome_no k g _ _ _ n1]
      exact hV
  have key2 : ∀ g, g < kN k → set.testBit g = true → (oV k a g).1 = ((t + 1 : Nat) : Int) → left.testBit g = true ∧ c.testBit g = true ∧ (oV k a g).2 = (kHalf k F).2.2.2.2 g := by
    intro g hg hs hv
    have hl := (i3 g hg).2 ⟨hs, by omega⟩
    rcases key g hg hl with ⟨z1, z2⟩ | ⟨z1, z2, _⟩
    · exact ⟨hl, z1, by rw [z2]⟩
    · exact absurd hv z2
  unfold kOrd1
  dsimp only
  rw [hF, Int.toNat_natCast]
  generalize kHalf k F = F' at *
  refine ⟨hb1, hown, fun g hg => ?_, fun g hg hl => ?_, ?_, ?_, ?_⟩
  · show (left ^^^ (left &&& c)).testBit g = true ↔ _
    rw [bit_diff]
    by_cases hl : left.testBit g = true
    · have h3 := (i3 g hg).1 hl
      rcases key g hg hl with ⟨z1, z2⟩ | ⟨z1, z2, _⟩
      · rw [hl, z1]
        constructor
        · intro z; simp at z
        · rintro ⟨_, z⟩
          exact absurd ⟨by rw [z2]; show (1 : Int) ≤ ((t + 1 : Nat) : Int); omega, by rw [z2]; exact Int.le_refl _⟩ z
      · rw [hl, z1]
        constructor
        · intro _
          exact ⟨h3.1, fun z => h3.2 ⟨z.1, by omega⟩⟩
        · intro _; rfl
    · have hl0 : left.testBit g = false := by simpa using hl
      rw [hl0]
      constructor
      · intro z; simp at z
      · rintro ⟨z1, z2⟩
        exact absurd ((i3 g hg).2 ⟨z1, fun z => z2 ⟨z.1, by omega⟩⟩) hl
  · have hl : (left ^^^ (left &&& c)).testBit g = true := hl
    rw [bit_diff] at hl
    simp only [Bool.and_eq_true, Bool.not_eq_true'] at hl
    rcases key g hg hl.1 with ⟨z1, _⟩ | ⟨_, _, z⟩
    · rw [z1] at hl
      exact absurd hl.2 (by decide)
    · exact z
  · exact Nat.xor_lt_two_pow (n := 8) i5 (Nat.lt_of_le_of_lt Nat.and_le_left i5)
  · refine nFix_lt 64 _ ?_
    rw [kTold_o]
    refine oU_lt i6 _ (fun g hg hs => ?_)
    rw [Nat.testBit_and] at hs
    simp only [Bool.and_eq_true] at hs
    have := hto g hs.2
    exact Nat.pow_lt_pow_right (by decide) (by omega)
  · have e1 : xit (kTold1 (left &&& c) F'.2.2.2.2) (kN k) knows = oU set (fun g => if (oV k a g).1 = ((t + 1 : Nat) : Int) then 2 ^ (oV k a g).2.toNat else oK k a sh g t) (kN k) 0 := by
      refine Nat.eq_of_testBit_eq fun i => ?_
      rw [kTold_o, i7]
      refine Bool.eq_iff_iff.mpr ?_
      rw [oU_bit, oU_bit, oU_bit, Nat.zero_testBit]
      constructor
      · rintro ((z | ⟨g, h1, h2, h3⟩) | ⟨g, h1, h2, h3⟩)
        · exact Or.inl z
        · refine Or.inr ⟨g, h1, h2, ?_⟩
          rw [if_neg]
          · exact h3
          · intro z
            unfold oK at h3
            rw [if_neg (by omega), Nat.zero_testBit] at h3
            exact absurd h3 (by decide)
        · rw [Nat.testBit_and] at h2
          simp only [Bool.and_eq_true] at h2
          rcases key g h1 h2.1 with ⟨z1, z2⟩ | ⟨z1, _⟩
          · refine Or.inr ⟨g, h1, ((i3 g h1).1 h2.1).1, ?_⟩
            rw [if_pos (by rw [z2]), z2]
            exact h3
          · rw [z1] at h2
            exact absurd h2.2 (by decide)
      · rintro (z | ⟨g, h1, h2, h3⟩)
        · exact absurd z (by decide)
        · by_cases d : (oV k a g).1 = ((t + 1 : Nat) : Int)
          · rw [if_pos d] at h3
            obtain ⟨y1, y2, y3⟩ := key2 g h1 h2 d
            refine Or.inr ⟨g, h1, by rw [Nat.testBit_and, y1, y2]; rfl, ?_⟩
            rw [← y3]
            exact h3
          · rw [if_neg d] at h3
            exact Or.inl (Or.inr ⟨g, h1, h2, h3⟩)
    show nFix (kHear F'.1 sh) (kB k) 64 (xit (kTold1 (left &&& c) F'.2.2.2.2) (kN k) knows) = _
    rw [e1, nFix_eq (f' := oH k a sh (t + 1)) (own_hear hown sh), oU_fix]
    exact oU_eq _ (fun g _ _ => oK_s g t)
theorem sd_k1 (hg : True) {g : Nat} (g8 : g < 8) (hs : set.testBit g = true) : ∀ m, m ≤ 8 → (m ≤ g → k1Eq g (xit (kSd1 set) m a) a) ∧ (g < m → k1Eq g (xit (kSd1 set) m a) (rSend a g (-1)))
  | 0, _ => ⟨fun _ => ⟨fun _ _ => rfl, fun _ _ => rfl, rfl⟩, fun z => absurd z (by omega)⟩
  | m + 1, hm => by
    obtain ⟨i1, i2⟩ := sd_k1 hg g8 hs m (by omega)
    have e : xit (kSd1 set) (m + 1) a = kSd1 set m (xit (kSd1 set) m a) := rfl
    rw [e]
    generalize xit (kSd1 set) m a = x at *
    unfold kSd1
    by_cases d : m = g
    · subst d
      rw [if_pos hs]
      refine ⟨fun z => absurd z (by omega), fun _ => ?_⟩
      have := i1 (Nat.le_refl _)
      rw [rSend_0, rSend_0]
      exact k1_w (k1_w this _ rfl) _ rfl
    · have h1 : k1Eq g (if set.testBit m = true then rSend x m (-1) else x) x := by
        split
        · rw [rSend_0]
          refine ⟨fun i hi => ?_, fun j hj => ?_, ?_⟩
          · rw [xfu_ne _ _ (by omega), xfu_ne _ _ (by omega)]
          · rw [xfu_ne _ _ (by omega), xfu_ne _ _ (by omega)]
          · rw [xfu_ne _ _ (by omega), xfu_ne _ _ (by omega)]
        · exact ⟨fun _ _ => rfl, fun _ _ => rfl, rfl⟩
      exact ⟨fun z => k1_t h1 (i1 (by omega)), fun z => k1_t h1 (i2 (by omega))⟩
theorem sd_68 {i : Nat} (hi : i < 68) : ∀ m, xit (kSd1 set) m a i = a i
  | 0 => rfl
  | m + 1 => by
    have ih := sd_68 hi m
    show kSd1 set m (xit (kSd1 set) m a) i = a i
    unfold kSd1
    split
    · rw [rSend_0, xfu_ne _ _ (by omega), xfu_ne _ _ (by omega)]
      exact ih
    · exact ih
theorem oI_0 (hK : kxOk k) (hl : kBe 10 (kN k) a) (hs : set < 256) : oI k a sh set 0 ((xit (kSd1 set) (kN k) a, 0, 0, 0, fun _ => 0), set, 0) := by
  have hN := hK.2.1
  have hB := hK.1
  have hsd := kSd_ok (M := 10) hN hl set (kN k) (Nat.le_refl _)
  refine ⟨hsd, fun bt hb => ?_, fun g hg => ?_, fun g hg h => ?_, hs, Nat.two_pow_pos _, ?_⟩
  · have e : ∀ i, i < 68 → xit (kSd1 set) (kN k) a i = a i := fun i hi => sd_68 hi _
    exact ⟨e _ (by omega), e _ (by omega), e _ (by omega), e _ (by omega)⟩
  · constructor
    · intro z
      exact ⟨z, by omega⟩
    · intro z; exact z.1
  · have h1 := (sd_k1 (a := a) trivial (g := g) (by omega) h (kN k) hN).2 hg
    have hl2 : kBe 10 (kN k) (rSend a g (-1)) := kBe_send0 hN hl (by omega)
    have c1 := come_eq hK (Nat.le_refl 10) hg 60 1 (xit (kSd1 set) (kN k) a, 0, 0, 0, fun _ => 0) (rSend a g (-1), (0, 0, 0, 0, -1)) h1 hsd rfl
    have c2 := come_eq hK (Nat.le_refl 10) hg 60 1 (rSend a g (-1), 0, 0, 0, fun _ => 0) (rSend a g (-1), (0, 0, 0, 0, -1)) ⟨fun _ _ => rfl, fun _ _ => rfl, rfl⟩ hl2 rfl
    show kCome k g 60 1 (xit (kSd1 set) (kN k) a, 0, 0, 0, fun _ => 0) = oV k a g
    unfold oV
    have c0 : ∀ (m t : Nat) (F : xFl), (kCome k g m t F).1 = -2 → kCome k g m t F = (-2, 0) := by
      intro m
      induction m with
      | zero => intro t F _; rfl
      | succ m ih =>
        intro t F z
        unfold kCome at z ⊢
        by_cases d : F.1 (68 + g) = 1
        · rw [if_pos d] at z ⊢
          by_cases d2 : xand (xshr (kHalf k F).2.1 (g : Int)) 1 = 1
          · rw [if_pos d2] at z
            dsimp only at z
            omega
          · rw [if_neg d2] at z ⊢
            exact ih _ _ z
        · rw [if_neg d]
    rcases c1 with ⟨y1, y2⟩ | ⟨t1, _, _, y3, y4, y5⟩
    · rcases c2 with ⟨x1, x2⟩ | ⟨t2, _, _, x3, x4, x5⟩
      · rw [c0 _ _ _ y2, c0 _ _ _ x2]
      · omega
    · rcases c2 with ⟨x1, x2⟩ | ⟨t2, _, _, x3, x4, x5⟩
      · omega
      · exact Prod.ext (by omega) (by rw [y5, x5])
  · refine Nat.eq_of_testBit_eq fun i => ?_
    refine Bool.eq_iff_iff.mpr ?_
    rw [oU_bit, Nat.zero_testBit]
    constructor
    · intro z; exact Or.inl z
    · rintro (z | ⟨g, _, _, h3⟩)
      · exact z
      · unfold oK at h3
        rw [if_neg (by omega), Nat.zero_testBit] at h3
        exact h3
theorem oB_rng {g b : Nat} (hb : b < kB k) (h1 : 1 ≤ (oV k a g).1) (h2 : (oV k a g).1 ≤ 60) : oB k a sh g b = -1 ∨ ((oV k a g).1 ≤ oB k a sh g b ∧ oB k a sh g b ≤ 60) := by
  unfold oB
  rcases (cSpr_inv (F := oH k a sh) (B := kB k) (t0 := (oV k a g).1.toNat) (m := 2 ^ (oV k a g).2.toNat) (w := fun _ => -1) (fun _ _ => rfl) (61 - (oV k a g).1.toNat) b hb).1 with z | ⟨j, j1, j2, j3⟩
  · exact Or.inl z
  · right
    rw [j3]
    omega
theorem oK_bit {g b t : Nat} (hb : b < kB k) (h1 : 1 ≤ (oV k a g).1) (h2 : (oV k a g).1 ≤ 60) (ht : t ≤ 60) : (oK k a sh g t).testBit b = true ↔ (oB k a sh g b ≠ -1 ∧ oB k a sh g b ≤ (t : Int)) := by
  have hr := oB_rng (sh := sh) hb h1 h2
  by_cases d : (oV k a g).1 ≤ (t : Int)
  · have i1 := (cSpr_inv (F := oH k a sh) (B := kB k) (t0 := (oV k a g).1.toNat) (m := 2 ^ (oV k a g).2.toNat) (w := fun _ => -1) (fun _ _ => rfl) (t + 1 - (oV k a g).1.toNat) b hb).2 (by omega)
    have i2 := cSpr_cut (F := oH k a sh) (B := kB k) (t0 := (oV k a g).1.toNat) (m := 2 ^ (oV k a g).2.toNat) (w := fun _ => -1) (fun _ _ => rfl) hb (t + 1 - (oV k a g).1.toNat) (60 - t)
    rw [show t + 1 - (oV k a g).1.toNat + (60 - t) = 61 - (oV k a g).1.toNat by omega] at i2
    unfold oK
    rw [if_pos ⟨h1, d⟩, i1, i2]
    have ef : (cSpr (oH k a sh) (kB k) (oV k a g).1.toNat (61 - (oV k a g).1.toNat) (2 ^ (oV k a g).2.toNat, fun _ => -1)).2 b = oB k a sh g b := rfl
    rw [ef]
    generalize oB k a sh g b = v at *
    by_cases d2 : ¬ v = -1 ∧ v < (((oV k a g).1.toNat + (t + 1 - (oV k a g).1.toNat) : Nat) : Int)
    · rw [if_pos d2]
      constructor
      · intro z
        exact ⟨z, by omega⟩
      · intro z; exact z.1
    · rw [if_neg d2]
      constructor
      · intro z; exact absurd rfl z
      · rintro ⟨z1, z2⟩
        exact absurd ⟨z1, by omega⟩ d2
  · unfold oK
    rw [if_neg (by omega), Nat.zero_testBit]
    constructor
    · intro z; exact absurd z (by decide)
    · rintro ⟨z1, z2⟩
      omega
/-- by hour t all know, by the gulls of this set that come in time -/
def oAll (k : xKx) (a : Nat → Int) (sh : Int) (T set : Nat) (t : Nat) : Prop := ∀ b, b < kB k → ∃ g, g < kN k ∧ set.testBit g = true ∧ (1 ≤ (oV k a g).1 ∧ (oV k a g).1 ≤ (T : Int)) ∧ oB k a sh g b ≠ -1 ∧ oB k a sh g b ≤ (t : Int)
theorem oI_full {T t : Nat} (hT : T ≤ 60) (ht : t ≤ T) {S : xOd} (h : oI k a sh set t S) : S.2.2 = 2 ^ kB k - 1 ↔ oAll k a sh T set t := by
  obtain ⟨_, _, _, _, _, i6, i7⟩ := h
  rw [full_iff i6]
  unfold oAll
  constructor
  · intro z b hb
    have := z b hb
    rw [i7, oU_bit, Nat.zero_testBit] at this
    rcases this with y | ⟨g, g1, g2, g3⟩
    · exact absurd y (by decide)
    · have hw : 1 ≤ (oV k a g).1 ∧ (oV k a g).1 ≤ (t : Int) := by
        by_cases d : 1 ≤ (oV k a g).1 ∧ (oV k a g).1 ≤ (t : Int)
        · exact d
        · unfold oK at g3
          rw [if_neg d, Nat.zero_testBit] at g3
          exact absurd g3 (by decide)
      exact ⟨g, g1, g2, ⟨hw.1, by omega⟩, (oK_bit hb hw.1 (by omega) (by omega)).1 g3⟩
  · intro z b hb
    obtain ⟨g, g1, g2, g3, g4⟩ := z b hb
    rw [i7, oU_bit]
    exact Or.inr ⟨g, g1, g2, (oK_bit hb g3.1 (by omega) (by omega)).2 g4⟩
theorem kOrd_v (hK : kxOk k) {T : Nat} (hT : T ≤ 60) {R : Int} (hR : ∀ t : Nat, t ≤ T → ((R ≠ -1 ∧ R ≤ (t : Int)) ↔ oAll k a sh T set t)) : ∀ (m t : Nat) (S : xOd), t + m = T → oI k a sh set t S → (R = -1 ∨ (t : Int) ≤ R) → kOrd k sh m t S = if R ≠ -1 ∧ R ≤ (T : Int) then R else 1000000
  | 0, t, S, hm, hi, hr => by
    have e := oI_full hT (by omega) hi
    have e2 := hR t (by omega)
    unfold kOrd
    by_cases d : S.2.2 = 2 ^ kB k - 1
    · have := e2.2 (e.1 d)
      rw [if_pos d, if_pos ⟨this.1, by omega⟩]
      omega
    · rw [if_neg d, if_neg]
      intro z
      exact d (e.2 (e2.1 ⟨z.1, by omega⟩))
  | m + 1, t, S, hm, hi, hr => by
    have e := oI_full hT (by omega) hi
    have e2 := hR t (by omega)
    unfold kOrd
    by_cases d : S.2.2 = 2 ^ kB k - 1
    · have := e2.2 (e.1 d)
      rw [if_pos d, if_pos ⟨this.1, by omega⟩]
      omega
    · rw [if_neg d]
      refine kOrd_v hK hT hR m (t + 1) _ (by omega) (oI_s hK (by omega) hi) ?_
      by_cases z : R = -1
      · exact Or.inl z
      · right
        have : ¬ R ≤ (t : Int) := fun y => d (e.2 (e2.1 ⟨z, y⟩))
        omega
theorem kOrdered_v (hK : kxOk k) (hl : kBe 10 (kN k) a) (hs : set < 256) {T : Nat} (hT : T ≤ 60) {R : Int} (h0 : R = -1 ∨ 0 ≤ R) (hR : ∀ t : Nat, t ≤ T → ((R ≠ -1 ∧ R ≤ (t : Int)) ↔ oAll k a sh T set t)) : kOrdered k sh T a set = if R ≠ -1 ∧ R ≤ (T : Int) then R else 1000000 := by
  unfold kOrdered
  refine kOrd_v hK hT hR T 0 _ (by omega) (oI_0 hK hl hs) ?_
  rcases h0 with z | z
  · exact Or.inl z
  · right; omega
end OC
