/-! ===== rows that are alike where boats, gulls and letters are ===== -/
def kLv (B N M i : Nat) : Prop := (i < 36 ∧ i % 6 < B) ∨ (36 ≤ i ∧ i < 84 ∧ (i - 36) % 8 < N) ∨ (84 ≤ i ∧ i < 114 ∧ (i - 84) % 10 < M) ∨ i = 114 ∨ i = 115
def kEq (B N M : Nat) (a b : Nat → Int) : Prop := ∀ i, kLv B N M i → a i = b i
section LV
variable {B N M : Nat} {a b : Nat → Int} {k : xKx} {g : Nat}
theorem kEq_refl (a : Nat → Int) : kEq B N M a a := fun _ _ => rfl
theorem kEq_symm (e : kEq B N M a b) : kEq B N M b a := fun i hi => (e i hi).symm
theorem kEq_trans {c : Nat → Int} (e : kEq B N M a b) (e2 : kEq B N M b c) : kEq B N M a c := fun i hi => (e i hi).trans (e2 i hi)
theorem kEq_xfu (e : kEq B N M a b) (i : Nat) {v w : Int} (hv : v = w) : kEq B N M (xfu a i v) (xfu b i w) := fun x hx => by
  unfold xfu
  split
  · exact hv
  · exact e x hx
theorem kEq_less {B' N' M' : Nat} (h1 : B' ≤ B) (h2 : N' ≤ N) (h3 : M' ≤ M) (e : kEq B N M a b) : kEq B' N' M' a b := fun i hi => e i (by
  unfold kLv at hi ⊢
  omega)
theorem kEq_116 (e : ∀ i, i < 116 → a i = b i) : kEq B N M a b := fun i hi => e i (by
  unfold kLv at hi
  omega)
theorem kEq_b (hB : B ≤ 6) (e : kEq B N M a b) {i c : Nat} (hi : i < B) (hc : c < 6) : a (6 * c + i) = b (6 * c + i) := e _ (Or.inl ⟨by omega, by omega⟩)
theorem kEq_g (hN : N ≤ 8) (e : kEq B N M a b) {i c : Nat} (hi : i < N) (hc : c < 6) : a (36 + 8 * c + i) = b (36 + 8 * c + i) := e _ (Or.inr (Or.inl ⟨by omega, by omega, by omega⟩))
theorem kEq_l (hM : M ≤ 10) (e : kEq B N M a b) {i c : Nat} (hi : i < M) (hc : c < 3) : a (84 + 10 * c + i) = b (84 + 10 * c + i) := e _ (Or.inr (Or.inr (Or.inl ⟨by omega, by omega, by omega⟩)))
theorem kEq_114 (e : kEq B N M a b) : a 114 = b 114 := e _ (Or.inr (Or.inr (Or.inr (Or.inl rfl))))
theorem kEq_115 (e : kEq B N M a b) : a 115 = b 115 := e _ (Or.inr (Or.inr (Or.inr (Or.inr rfl))))
theorem boat1_eq (hB : B ≤ 6) {i : Nat} (hi : i < B) (e : kEq B N M a b) : kEq B N M (boat1 i a) (boat1 i b) := by
  have x0 : a i = b i := by have := kEq_b hB e (c := 0) hi (by decide); rwa [Nat.mul_zero, Nat.zero_add] at this
  have x6 : a (6 + i) = b (6 + i) := kEq_b hB e (c := 1) hi (by decide)
  have x12 : a (12 + i) = b (12 + i) := kEq_b hB e (c := 2) hi (by decide)
  have x18 : a (18 + i) = b (18 + i) := kEq_b hB e (c := 3) hi (by decide)
  unfold boat1
  dsimp only
  rw [x0, x12]
  by_cases c1 : 0 ≤ xw (b i + b (12 + i)) ∧ xw (b i + b (12 + i)) ≤ 15
  · simp only [if_pos c1]
    rw [xfu_ne _ _ (by omega), xfu_ne _ _ (by omega), xfu_ne _ _ (by omega), xfu_ne _ _ (by omega), x6, x18]
    split
    · exact kEq_xfu (kEq_xfu e _ rfl) _ rfl
    · exact kEq_xfu (kEq_xfu e _ rfl) _ rfl
  · simp only [if_neg c1]
    rw [xfu_ne _ _ (by omega), xfu_ne _ _ (by omega), xfu_ne _ _ (by omega), xfu_ne _ _ (by omega), x6, x18]
    split
    · exact kEq_xfu (kEq_xfu e _ rfl) _ rfl
    · exact kEq_xfu (kEq_xfu e _ rfl) _ rfl
theorem boats_eq (hB : B ≤ 6) (e : kEq B N M a b) : ∀ i, i ≤ B → kEq B N M (xit boat1 i a) (xit boat1 i b)
  | 0, _ => e
  | i + 1, hi => boat1_eq hB (by omega) (boats_eq hB e i (by omega))
theorem rFar_eq (hB : B ≤ 6) (hN : N ≤ 8) (hg : g < N) {q : Int} (hq : q = -1 ∨ (0 ≤ q ∧ q < B)) (e : kEq B N M a b) : rFar a g q = rFar b g q := by
  have x52 : a (52 + g) = b (52 + g) := kEq_g hN e (c := 2) hg (by decide)
  have x60 : a (60 + g) = b (60 + g) := kEq_g hN e (c := 3) hg (by decide)
  unfold rFar
  rw [x52, x60]
  by_cases c : q = -1
  · simp only [if_pos c]
  · simp only [if_neg c]
    have x0 : a q.toNat = b q.toNat := by have := kEq_b hB e (c := 0) (i := q.toNat) (by omega) (by decide); rwa [Nat.mul_zero, Nat.zero_add] at this
    have x6 : a (6 + q.toNat) = b (6 + q.toNat) := kEq_b hB e (c := 1) (by omega) (by decide)
    rw [x0, x6]
theorem rNear_eq (hB : B ≤ 6) (hN : N ≤ 8) (hg : g < N) (ch : Int) (e : kEq B N M a b) : ∀ i : Nat, i ≤ B → rNear i a g ch = rNear i b g ch
  | 0, _ => rfl
  | i + 1, hi => by
    have ih := rNear_eq hB hN hg ch e i (by omega)
    show rNear1 a g ch i (rNear i a g ch) = rNear1 b g ch i (rNear i b g ch)
    rw [ih]
    have h3 := rNear_rng b g ch i
    generalize rNear i b g ch = q at h3
    unfold rNear1
    have x30 : a (30 + i) = b (30 + i) := kEq_b hB e (c := 5) (by omega) (by decide)
    rw [x30, rFar_eq hB hN hg (q := (i : Int)) (by omega) e, rFar_eq hB hN hg (q := q) (by omega) e]
theorem rAim_eq (hB : B ≤ 6) (hN : N ≤ 8) (hg : g < N) (s : Int) {B' : Nat} (hB' : B' ≤ B) {home : Nat → Int} (h0 : 0 ≤ home g) (h1 : home g < B) (e : kEq B N M a b) : rAim s B' home a g = rAim s B' home b g := by
  unfold rAim
  have x44 : a (44 + g) = b (44 + g) := kEq_g hN e (c := 1) hg (by decide)
  have x36 : a (36 + g) = b (36 + g) := kEq_g hN e (c := 0) hg (by decide)
  have x24 : a (24 + (home g).toNat) = b (24 + (home g).toNat) := kEq_b hB e (c := 4) (by omega) (by decide)
  rw [x44, x36, x24, rNear_eq hB hN hg 0 e B' hB', rNear_eq hB hN hg 1 e B' hB']
theorem rAim_rngB (s : Int) (B : Nat) (home a : Nat → Int) (g : Nat) {B' : Nat} (hB : B ≤ B') (h0 : 0 ≤ home g) (h1 : home g < B') : rAim s B home a g = -1 ∨ (0 ≤ rAim s B home a g ∧ rAim s B home a g < B') := by
  have h2 := rNear_rng a g 0 B
  have h3 := rNear_rng a g 1 B
  unfold rAim
  repeat' split
  all_goals omega
theorem kRg_eq (hN : N ≤ 8) (hg : g < N) (far : Int) (e : kEq B N M a b) : kRg k a g far = kRg k b g far := by
  have x44 : a (44 + g) = b (44 + g) := kEq_g hN e (c := 1) hg (by decide)
  have x76 : a (76 + g) = b (76 + g) := kEq_g hN e (c := 5) hg (by decide)
  have ea : kAsk k a g far = kAsk k b g far := by
    unfold kAsk
    rw [x44, x76, kEq_115 e]
  unfold kRg
  rw [x44, ea]
theorem kGull_eq (hB : B ≤ 6) (hN : N ≤ 8) (hM : M ≤ 10) (hg : g < N) (hk : kB k ≤ B) (h0 : 0 ≤ kHome k g) (h1 : kHome k g < B) {F F' : xFl} (hl : F.1 (76 + g) = -1 ∨ (0 ≤ F.1 (76 + g) ∧ F.1 (76 + g) < M)) (e : kEq B N M F.1 F'.1) (e2 : F.2 = F'.2) : kEq B N M (kGull k g F).1 (kGull k g F').1 ∧ (kGull k g F).2 = (kGull k g F').2 := by
  obtain ⟨a, s⟩ := F
  obtain ⟨b, s'⟩ := F'
  dsimp only at e e2 hl
  subst e2
  unfold kGull
  dsimp only
  rw [rAim_eq hB hN hg (kStorm k) hk h0 h1 e]
  have hq := rAim_rngB (kStorm k) (kB k) (kHome k) b g hk h0 h1
  generalize rAim (kStorm k) (kB k) (kHome k) b g = q at hq
  rw [rFar_eq hB hN hg hq e, kRg_eq hN hg _ e]
  generalize kRg k b g (rFar b g q) = rg
  have x52 : a (52 + g) = b (52 + g) := kEq_g hN e (c := 2) hg (by decide)
  have x60 : a (60 + g) = b (60 + g) := kEq_g hN e (c := 3) hg (by decide)
  have hx : (if q = -1 then 0 else a q.toNat) = if q = -1 then 0 else b q.toNat := by
    by_cases c : q = -1
    · rw [if_pos c, if_pos c]
    · rw [if_neg c, if_neg c]
      have := kEq_b hB e (c := 0) (i := q.toNat) (by omega) (by decide)
      rwa [Nat.mul_zero, Nat.zero_add] at this
  have hy : (if q = -1 then 0 else a (6 + q.toNat)) = if q = -1 then 0 else b (6 + q.toNat) := by
    by_cases c : q = -1
    · rw [if_pos c, if_pos c]
    · rw [if_neg c, if_neg c]
      exact kEq_b hB e (c := 1) (by omega) (by decide)
  rw [hx, hy, x52, xfu_ne _ _ (show 60 + g ≠ 52 + g by omega), xfu_ne _ _ (show 60 + g ≠ 52 + g by omega), x60]
  generalize rToward (b (52 + g)) (if q = -1 then 0 else b q.toNat) rg = v1
  generalize rToward (b (60 + g)) (if q = -1 then 0 else b (6 + q.toNat)) (mMax 0 (xw (rg - mAbs (xw (b (52 + g) - if q = -1 then 0 else b q.toNat))))) = v2
  have hl2 : (xfu (xfu a (52 + g) v1) (60 + g) v2) (76 + g) = a (76 + g) := by rw [xfu_ne _ _ (by omega), xfu_ne _ _ (by omega)]
  have e2 : kEq B N M (xfu (xfu a (52 + g) v1) (60 + g) v2) (xfu (xfu b (52 + g) v1) (60 + g) v2) := kEq_xfu (kEq_xfu e _ rfl) _ rfl
  generalize xfu (xfu a (52 + g) v1) (60 + g) v2 = a2 at e2 hl2
  generalize xfu (xfu b (52 + g) v1) (60 + g) v2 = b2 at e2
  rw [← hl2] at hl
  clear hl2 hx hy x52 x60 e
  have x76 : a2 (76 + g) = b2 (76 + g) := kEq_g hN e2 (c := 5) hg (by decide)
  have x44 : a2 (44 + g) = b2 (44 + g) := kEq_g hN e2 (c := 1) hg (by decide)
  rw [rFar_eq hB hN hg hq e2, x76, x44]
  generalize b2 (76 + g) = l
  repeat' split
  all_goals refine ⟨?_, rfl⟩
  all_goals repeat' first | exact e2 | refine kEq_xfu ?_ _ rfl
/-- what gulls bear -/
def kBe (M N : Nat) (a : Nat → Int) : Prop := ∀ g, g < N → (a (76 + g) = -1 ∨ (0 ≤ a (76 + g) ∧ a (76 + g) < M))
theorem kBe_gull {F : xFl} (hN : N ≤ 8) (hM : M ≤ 10) (hg : g < N) (hl : kBe M N F.1) : kBe M N (kGull k g F).1 := fun g' hg' => by
  rcases kGull_76 k F (show g < 8 by omega) (show g' < 8 by omega) (by have := hl g hg; omega) with e | e
  · rw [e]; exact hl g' hg'
  · exact Or.inl e
theorem kGulls_eq (hB : B ≤ 6) (hN : N ≤ 8) (hM : M ≤ 10) (hk : kB k ≤ B) (hh : ∀ g, g < N → (0 ≤ kHome k g ∧ kHome k g < B)) {F F' : xFl} (hl : kBe M N F.1) (e : kEq B N M F.1 F'.1) (e2 : F.2 = F'.2) : ∀ m, m ≤ N → kBe M N (kGulls k m F).1 ∧ kEq B N M (kGulls k m F).1 (kGulls k m F').1 ∧ (kGulls k m F).2 = (kGulls k m F').2
  | 0, _ => ⟨hl, e, e2⟩
  | m + 1, hm => by
    obtain ⟨i0, i1, i2⟩ := kGulls_eq hB hN hM hk hh hl e e2 m (by omega)
    unfold kGulls
    have x68 : (kGulls k m F).1 (68 + m) = (kGulls k m F').1 (68 + m) := kEq_g hN i1 (c := 4) (by omega) (by decide)
    rw [x68]
    split
    · exact ⟨kBe_gull hN hM (by omega) i0, kGull_eq hB hN hM (by omega) hk (hh m (by omega)).1 (hh m (by omega)).2 (i0 m (by omega)) i1 i2⟩
    · exact ⟨i0, i1, i2⟩
theorem kHalf_eq (hB : B ≤ 6) (hN : N ≤ 8) (hM : M ≤ 10) (hk : kB k ≤ B) (hk2 : kN k ≤ N) (hh : ∀ g, g < N → (0 ≤ kHome k g ∧ kHome k g < B)) {F F' : xFl} (hl : kBe M N F.1) (e : kEq B N M F.1 F'.1) (e2 : F.2.2.2.2 = F'.2.2.2.2) : kBe M N (kHalf k F).1 ∧ kEq B N M (kHalf k F).1 (kHalf k F').1 ∧ (kHalf k F).2 = (kHalf k F').2 := by
  have l1 : kBe M N (xit boat1 (kB k) F.1) := fun g hg => by rw [boats_far (by omega) _ _ (by omega)]; exact hl g hg
  obtain ⟨i0, i1, i2⟩ := kGulls_eq (k := k) (F := (xit boat1 (kB k) F.1, 0, 0, 0, F.2.2.2.2)) (F' := (xit boat1 (kB k) F'.1, 0, 0, 0, F'.2.2.2.2)) hB hN hM hk hh l1 (boats_eq hB e (kB k) hk) (by rw [e2]) (kN k) hk2
  unfold kHalf
  dsimp only
  refine ⟨fun g hg => ?_, kEq_xfu i1 _ (by rw [kEq_115 i1]), i2⟩
  rw [xfu_ne _ _ (by omega)]
  exact i0 g hg
end LV
