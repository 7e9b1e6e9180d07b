/-! ===== orders: the choice ===== -/
def pc8 (m : Nat) : Nat := (if m.testBit 0 = true then 1 else 0) + (if m.testBit 1 = true then 1 else 0) + (if m.testBit 2 = true then 1 else 0) + (if m.testBit 3 = true then 1 else 0) + (if m.testBit 4 = true then 1 else 0) + (if m.testBit 5 = true then 1 else 0) + (if m.testBit 6 = true then 1 else 0) + (if m.testBit 7 = true then 1 else 0)
theorem bitC_8 {m : Nat} (hm : m < 256) : bitC (m : Int) = (pc8 m : Int) := by
  have key : ∀ m : Fin 256, bitC ((m.1 : Nat) : Int) = (pc8 m.1 : Int) := by decide +kernel
  exact key ⟨m, hm⟩
theorem pc8_lt {a b : Nat} (h : ∀ i, i < 8 → a.testBit i = true → b.testBit i = true) {j : Nat} (hj : j < 8) (h1 : b.testBit j = true) (h2 : a.testBit j = false) : pc8 a < pc8 b := by
  have t : ∀ i, i < 8 → (if a.testBit i = true then 1 else 0) ≤ (if b.testBit i = true then 1 else 0) := by
    intro i hi
    by_cases d : a.testBit i = true
    · rw [if_pos d, if_pos (h i hi d)]
      exact Nat.le_refl _
    · rw [if_neg d]
      exact Nat.zero_le _
  have s : (if a.testBit j = true then 1 else 0) < (if b.testBit j = true then 1 else 0) := by
    rw [h2, h1]
    decide
  have t0 := t 0 (by decide)
  have t1 := t 1 (by decide)
  have t2 := t 2 (by decide)
  have t3 := t 3 (by decide)
  have t4 := t 4 (by decide)
  have t5 := t 5 (by decide)
  have t6 := t 6 (by decide)
  have t7 := t 7 (by decide)
  clear t h h1 h2
  have key : ∀ a0 a1 a2 a3 a4 a5 a6 a7 b0 b1 b2 b3 b4 b5 b6 b7 : Nat, a0 ≤ b0 → a1 ≤ b1 → a2 ≤ b2 → a3 ≤ b3 → a4 ≤ b4 → a5 ≤ b5 → a6 ≤ b6 → a7 ≤ b7 → (a0 < b0 ∨ a1 < b1 ∨ a2 < b2 ∨ a3 < b3 ∨ a4 < b4 ∨ a5 < b5 ∨ a6 < b6 ∨ a7 < b7) → a0 + a1 + a2 + a3 + a4 + a5 + a6 + a7 < b0 + b1 + b2 + b3 + b4 + b5 + b6 + b7 := by
    intros
    omega
  unfold pc8
  refine key _ _ _ _ _ _ _ _ _ _ _ _ _ _ _ _ t0 t1 t2 t3 t4 t5 t6 t7 ?_
  have hj2 : j = 0 ∨ j = 1 ∨ j = 2 ∨ j = 3 ∨ j = 4 ∨ j = 5 ∨ j = 6 ∨ j = 7 := by omega
  rcases hj2 with rfl | rfl | rfl | rfl | rfl | rfl | rfl | rfl
  · exact Or.inl s
  · exact Or.inr (Or.inl s)
  · exact Or.inr (Or.inr (Or.inl s))
  · exact Or.inr (Or.inr (Or.inr (Or.inl s)))
  · exact Or.inr (Or.inr (Or.inr (Or.inr (Or.inl s))))
  · exact Or.inr (Or.inr (Or.inr (Or.inr (Or.inr (Or.inl s)))))
  · exact Or.inr (Or.inr (Or.inr (Or.inr (Or.inr (Or.inr (Or.inl s))))))
  · exact Or.inr (Or.inr (Or.inr (Or.inr (Or.inr (Or.inr (Or.inr s))))))
theorem xor0 {i u : Nat} : i ^^^ (i &&& u) = 0 ↔ i &&& u = i := by
  constructor
  · intro z
    refine Nat.eq_of_testBit_eq fun j => ?_
    have h1 := bit_diff i u j
    rw [z, Nat.zero_testBit] at h1
    rw [Nat.testBit_and]
    generalize i.testBit j = x at *
    generalize u.testBit j = y at *
    cases x <;> cases y <;> simp_all
  · intro z
    rw [z, Nat.xor_self]
/-- fewer gulls where some are of no use -/
theorem bit_less {i u : Nat} (hi : i < 256) (h : ¬ i &&& u = i) : bitC ((i &&& u : Nat) : Int) < bitC (i : Int) ∧ i &&& u < i := by
  have hle : i &&& u ≤ i := Nat.and_le_left
  refine ⟨?_, by omega⟩
  rw [bitC_8 (by omega), bitC_8 hi]
  have hex : ∃ j, i.testBit j = true ∧ (i &&& u).testBit j = false := by
    refine Classical.byContradiction fun z => h ?_
    refine Nat.eq_of_testBit_eq fun j => ?_
    by_cases d : i.testBit j = true
    · rw [d]
      by_cases d2 : (i &&& u).testBit j = true
      · exact d2
      · exact absurd ⟨j, d, by simpa using d2⟩ z
    · have d : i.testBit j = false := by simpa using d
      rw [Nat.testBit_and, d]
      rfl
  obtain ⟨j, j1, j2⟩ := hex
  have hj : j < 8 := by
    refine Classical.byContradiction fun z => ?_
    rw [Nat.testBit_lt_two_pow (Nat.lt_of_lt_of_le hi (Nat.pow_le_pow_right (n := 2) (by decide) (show 8 ≤ j by omega)))] at j1
    exact absurd j1 (by decide)
  have := pc8_lt (a := i &&& u) (b := i) (fun x _ hx => by rw [Nat.testBit_and] at hx; simp at hx; exact hx.1) hj j1 j2
  omega
def pO (rest : Nat) (ord : Nat → Int) (i : Nat) (s : Int × Int) : Int × Int := if ¬ i ^^^ (i &&& rest) = 0 ∨ (¬ s.1 = -1 ∧ bitC s.1 ≤ bitC (i : Int)) then s else if ord i = 1000000 then s else ((i : Int), ord i)
def pC (u : Nat) (T : Int) (R : Nat → Int) (i : Nat) (s : Int × Int) : Int × Int := if ¬ i ^^^ (i &&& u) = 0 ∨ (¬ s.1 = -1 ∧ bitC s.1 ≤ bitC (i : Int)) then s else if R i ≠ -1 ∧ R i ≤ T then ((i : Int), R i) else s
theorem pick_eq {rest u : Nat} {ord R : Nat → Int} {T : Int} (hu : u &&& rest = u) (hr8 : rest < 256) (hT : T < 1000000)
    (h1 : ∀ i, i < 256 → i &&& rest = i → ord i = if R (i &&& u) ≠ -1 ∧ R (i &&& u) ≤ T then R (i &&& u) else 1000000) : ∀ i, i ≤ 256 →
    (((xit (pO rest ord) (min i (rest + 1)) (-1, 1000000)) = (-1, 1000000) ∧ xit (pC u T R) i (-1, -1) = (-1, -1)) ∨ (xit (pO rest ord) (min i (rest + 1)) (-1, 1000000) = xit (pC u T R) i (-1, -1) ∧ 0 ≤ (xit (pC u T R) i (-1, -1)).1)) ∧
    (∀ j, j < i → j &&& rest = j → ord j ≠ 1000000 → ¬ (xit (pC u T R) i (-1, -1)).1 = -1 ∧ bitC (xit (pC u T R) i (-1, -1)).1 ≤ bitC (j : Int))
  | 0, _ => ⟨Or.inl ⟨by rw [Nat.zero_min]; rfl, rfl⟩, fun j hj => by omega⟩
  | i + 1, hi => by
    obtain ⟨i1, i2⟩ := pick_eq hu hr8 hT h1 i (by omega)
    have eC : xit (pC u T R) (i + 1) (-1, -1) = pC u T R i (xit (pC u T R) i (-1, -1)) := rfl
    rw [eC]
    have hsub : i &&& u = i → i &&& rest = i := by
      intro z
      rw [← z, Nat.and_assoc, hu]
    by_cases d : i ≤ rest
    · have eO : xit (pO rest ord) (min (i + 1) (rest + 1)) (-1, 1000000) = pO rest ord i (xit (pO rest ord) (min i (rest + 1)) (-1, 1000000)) := by
        rw [show min (i + 1) (rest + 1) = i + 1 by omega, show min i (rest + 1) = i by omega]
        rfl
      rw [eO]
      generalize xit (pO rest ord) (min i (rest + 1)) (-1, 1000000) = So at *
      generalize xit (pC u T R) i (-1, -1) = Sc at *
      have hs1 : So.1 = Sc.1 := by
        rcases i1 with ⟨z1, z2⟩ | ⟨z1, z2⟩
        · rw [z1, z2]
        · rw [z1]
      unfold pO pC
      rw [hs1]
      simp only [xor0]
      by_cases dr : i &&& rest = i
      · have ho := h1 i (by omega) dr
        by_cases du : i &&& u = i
        · rw [du] at ho
          by_cases db : ¬ Sc.1 = -1 ∧ bitC Sc.1 ≤ bitC (i : Int)
          · rw [if_pos (Or.inr db), if_pos (Or.inr db)]
            refine ⟨i1, fun j hj jr jo => ?_⟩
            by_cases ej : j = i
            · subst ej; exact db
            · exact i2 j (by omega) jr jo
          · have e1 : ¬ (¬ i &&& rest = i ∨ ¬ Sc.1 = -1 ∧ bitC Sc.1 ≤ bitC (i : Int)) := by rintro (z | z); exact z dr; exact db z
            have e2 : ¬ (¬ i &&& u = i ∨ ¬ Sc.1 = -1 ∧ bitC Sc.1 ≤ bitC (i : Int)) := by rintro (z | z); exact z du; exact db z
            rw [if_neg e1, if_neg e2]
            by_cases dR : R i ≠ -1 ∧ R i ≤ T
            · rw [if_pos dR] at ho
              rw [if_pos dR, ho, if_neg (by omega)]
              refine ⟨Or.inr ⟨rfl, by show (0 : Int) ≤ (i : Int); omega⟩, fun j hj jr jo => ⟨by show ¬ (i : Int) = -1; omega, ?_⟩⟩
              by_cases ej : j = i
              · subst ej; exact Int.le_refl _
              · have := i2 j (by omega) jr jo
                have h3 : ¬ bitC Sc.1 ≤ bitC (i : Int) := fun z => db ⟨this.1, z⟩
                show bitC (i : Int) ≤ bitC (j : Int)
                omega
            · rw [if_neg dR] at ho
              rw [if_neg dR, if_pos ho]
              refine ⟨i1, fun j hj jr jo => ?_⟩
              by_cases ej : j = i
              · subst ej; exact absurd ho jo
              · exact i2 j (by omega) jr jo
        · rw [if_pos (Or.inl du)]
          have hl := bit_less (u := u) (show i < 256 by omega) du
          have hju : i &&& u &&& rest = i &&& u := by rw [Nat.and_assoc, hu]
          have ho2 := h1 (i &&& u) (by omega) hju
          rw [show i &&& u &&& u = i &&& u by rw [Nat.and_assoc, Nat.and_self], ← ho] at ho2
          by_cases db : ¬ Sc.1 = -1 ∧ bitC Sc.1 ≤ bitC (i : Int)
          · rw [if_pos (Or.inr db)]
            refine ⟨i1, fun j hj jr jo => ?_⟩
            by_cases ej : j = i
            · subst ej; exact db
            · exact i2 j (by omega) jr jo
          · have e1 : ¬ (¬ i &&& rest = i ∨ ¬ Sc.1 = -1 ∧ bitC Sc.1 ≤ bitC (i : Int)) := by rintro (z | z); exact z dr; exact db z
            rw [if_neg e1]
            have hoi : ord i = 1000000 := by
              refine Classical.byContradiction fun z => db ?_
              have := i2 (i &&& u) hl.2 hju (by rw [ho2]; exact z)
              exact ⟨this.1, by omega⟩
            rw [if_pos hoi]
            refine ⟨i1, fun j hj jr jo => ?_⟩
            by_cases ej : j = i
            · subst ej; exact absurd hoi jo
            · exact i2 j (by omega) jr jo
      · have du : ¬ i &&& u = i := fun z => dr (hsub z)
        rw [if_pos (Or.inl dr), if_pos (Or.inl du)]
        refine ⟨i1, fun j hj jr jo => ?_⟩
        by_cases ej : j = i
        · subst ej; exact absurd jr dr
        · exact i2 j (by omega) jr jo
    · have hri : ¬ i &&& rest = i := by
        intro z
        have := Nat.and_le_right (n := i) (m := rest)
        omega
      have du : ¬ i &&& u = i := fun z => hri (hsub z)
      rw [show min (i + 1) (rest + 1) = min i (rest + 1) by omega]
      generalize xit (pO rest ord) (min i (rest + 1)) (-1, 1000000) = So at *
      generalize xit (pC u T R) i (-1, -1) = Sc at *
      unfold pC
      simp only [xor0]
      rw [if_pos (Or.inl du)]
      refine ⟨i1, fun j hj jr jo => ?_⟩
      by_cases ej : j = i
      · subst ej; exact absurd jr hri
      · exact i2 j (by omega) jr jo
