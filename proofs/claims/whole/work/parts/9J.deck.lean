/-! ===== one gull alone: comes, would ===== -/
/-- boats, one gull and the hour are alike -/
def k1Eq (g : Nat) (a b : Nat → Int) : Prop := (∀ i, i < 36 → a i = b i) ∧ (∀ j, j < 6 → a (36 + 8 * j + g) = b (36 + 8 * j + g)) ∧ a 115 = b 115
section K1
variable {g : Nat} {a b : Nat → Int} {k : xKx}
theorem k1_36 (h : k1Eq g a b) : a (36 + g) = b (36 + g) := h.2.1 0 (by decide)
theorem k1_44 (h : k1Eq g a b) : a (44 + g) = b (44 + g) := h.2.1 1 (by decide)
theorem k1_52 (h : k1Eq g a b) : a (52 + g) = b (52 + g) := h.2.1 2 (by decide)
theorem k1_60 (h : k1Eq g a b) : a (60 + g) = b (60 + g) := h.2.1 3 (by decide)
theorem k1_68 (h : k1Eq g a b) : a (68 + g) = b (68 + g) := h.2.1 4 (by decide)
theorem k1_76 (h : k1Eq g a b) : a (76 + g) = b (76 + g) := h.2.1 5 (by decide)
theorem k1_far (h : k1Eq g a b) {q : Int} (hq : q = -1 ∨ (0 ≤ q ∧ q < 6)) : rFar a g q = rFar b g q := by
  unfold rFar
  rw [k1_52 h, k1_60 h]
  by_cases e : q = -1
  · simp only [if_pos e]
  · simp only [if_neg e]
    rw [h.1 q.toNat (by omega), h.1 (6 + q.toNat) (by omega)]
theorem k1_near (h : k1Eq g a b) (ch : Int) : ∀ B, B ≤ 6 → rNear B a g ch = rNear B b g ch
  | 0, _ => by simp only [rNear, xit]
  | B + 1, hB => by
    have ih := k1_near h ch B (by omega)
    have hr := rNear_rng b g ch B
    show rNear1 a g ch B (rNear B a g ch) = rNear1 b g ch B (rNear B b g ch)
    rw [ih]
    generalize rNear B b g ch = q at *
    unfold rNear1
    rw [h.1 (30 + B) (by omega), k1_far h (q := (B : Int)) (by omega), k1_far h (q := q) (by omega)]
theorem k1_aim (h : k1Eq g a b) (s : Int) {B : Nat} (hB : B ≤ 6) {home : Nat → Int} (h0 : 0 ≤ home g) (h1 : home g < 6) : rAim s B home a g = rAim s B home b g := by
  unfold rAim
  rw [k1_44 h, k1_36 h, h.1 (24 + (home g).toNat) (by omega), k1_near h 0 B hB, k1_near h 1 B hB]
theorem k1_rg (h : k1Eq g a b) (far : Int) : kRg k a g far = kRg k b g far := by
  have ea : kAsk k a g far = kAsk k b g far := by
    unfold kAsk
    rw [k1_44 h, k1_76 h, h.2.2]
  unfold kRg
  rw [k1_44 h, ea]
theorem k1_w (h : k1Eq g a b) (i : Nat) {v w : Int} (hv : v = w) : k1Eq g (xfu a i v) (xfu b i w) := by
  have key : ∀ x, a x = b x → xfu a i v x = xfu b i w x := by
    intro x hx
    unfold xfu
    split
    · exact hv
    · exact hx
  exact ⟨fun x hx => key x (h.1 x hx), fun j hj => key _ (h.2.1 j hj), key _ h.2.2⟩
/-- one gull's half hour, over rows alike for it -/
theorem k1_gull (h : k1Eq g a b) (hg : g < 8) (hB : kB k ≤ 6) (h0 : 0 ≤ kHome k g) (h1 : kHome k g < 6) (s : Int × Int × Int × (Nat → Int)) : k1Eq g (kGull k g (a, s)).1 (kGull k g (b, s)).1 ∧ (kGull k g (a, s)).2 = (kGull k g (b, s)).2 := by
  unfold kGull
  dsimp only
  rw [k1_aim h (kStorm k) hB h0 h1]
  have hq := rAim_rng (kStorm k) (kB k) (kHome k) b g hB h0 h1
  generalize rAim (kStorm k) (kB k) (kHome k) b g = q at hq
  rw [k1_far h hq, k1_rg h]
  generalize kRg k b g (rFar b g q) = rg
  have hx : (if q = -1 then 0 else a q.toNat) = if q = -1 then 0 else b q.toNat := by
    by_cases e : q = -1
    · rw [if_pos e, if_pos e]
    · rw [if_neg e, if_neg e, h.1 _ (by omega)]
  have hy : (if q = -1 then 0 else a (6 + q.toNat)) = if q = -1 then 0 else b (6 + q.toNat) := by
    by_cases e : q = -1
    · rw [if_pos e, if_pos e]
    · rw [if_neg e, if_neg e, h.1 _ (by omega)]
  rw [hx, hy, k1_52 h, xfu_ne _ _ (show 60 + g ≠ 52 + g by omega), xfu_ne _ _ (show 60 + g ≠ 52 + g by omega), k1_60 h]
  generalize rToward (b (52 + g)) (if q = -1 then 0 else b q.toNat) rg = v1
  generalize rToward (b (60 + g)) (if q = -1 then 0 else b (6 + q.toNat)) (mMax 0 (xw (rg - mAbs (xw (b (52 + g) - if q = -1 then 0 else b q.toNat))))) = v2
  have e2 : k1Eq g (xfu (xfu a (52 + g) v1) (60 + g) v2) (xfu (xfu b (52 + g) v1) (60 + g) v2) := k1_w (k1_w h _ rfl) _ rfl
  generalize xfu (xfu a (52 + g) v1) (60 + g) v2 = a2 at e2
  generalize xfu (xfu b (52 + g) v1) (60 + g) v2 = b2 at e2
  clear hx hy
  rw [k1_far e2 hq, k1_76 e2, k1_44 e2]
  generalize b2 (76 + g) = l
  repeat' split
  all_goals refine ⟨?_, rfl⟩
  all_goals repeat' first | exact e2 | refine k1_w ?_ _ rfl
/-- another gull's half hour changes nothing for this one -/
theorem k1_other {g' : Nat} (hn : g' ≠ g) (hg : g < 8) (hg' : g' < 8) (hl : a (76 + g') = -1 ∨ (0 ≤ a (76 + g') ∧ a (76 + g') < 10)) (s : Int × Int × Int × (Nat → Int)) : k1Eq g (kGull k g' (a, s)).1 a := by
  unfold kGull
  dsimp only
  generalize rAim (kStorm k) (kB k) (kHome k) a g' = q
  generalize kRg k a g' (rFar a g' q) = rg
  generalize (rToward (a (52 + g')) (if q = -1 then 0 else a q.toNat) rg) = v1
  generalize (mMax 0 (xw (rg - mAbs (xw (a (52 + g') - if q = -1 then 0 else a q.toNat))))) = v2
  generalize (rToward (xfu a (52 + g') v1 (60 + g')) (if q = -1 then 0 else a (6 + q.toNat)) v2) = v3
  have e : ∀ i, i ≠ 52 + g' → i ≠ 60 + g' → (xfu (xfu a (52 + g') v1) (60 + g') v3) i = a i := fun i h1 h2 => by rw [xfu_ne _ _ h2, xfu_ne _ _ h1]
  have e76 := e (76 + g') (by omega) (by omega)
  generalize (xfu (xfu a (52 + g') v1) (60 + g') v3) = a2 at *
  rw [← e76] at hl
  have w : ∀ (f : Nat → Int) (i : Nat) (v : Int), (i = 44 + g' ∨ i = 52 + g' ∨ i = 60 + g' ∨ i = 68 + g' ∨ i = 76 + g' ∨ (94 ≤ i ∧ i < 114)) → k1Eq g f a → k1Eq g (xfu f i v) a := by
    intro f i v hi hf
    refine ⟨fun x hx => by rw [xfu_ne _ _ (by omega)]; exact hf.1 x hx, fun j hj => by rw [xfu_ne _ _ (by omega)]; exact hf.2.1 j hj, by rw [xfu_ne _ _ (by omega)]; exact hf.2.2⟩
  have b2 : k1Eq g a2 a := ⟨fun i hi => e i (by omega) (by omega), fun j hj => e _ (by omega) (by omega), e _ (by omega) (by omega)⟩
  generalize a2 (76 + g') = l at *
  clear e e76
  repeat' split
  all_goals dsimp only
  all_goals repeat' first | exact b2 | refine w _ _ _ (by omega) ?_
theorem k1_t {c : Nat → Int} (h : k1Eq g a b) (h' : k1Eq g b c) : k1Eq g a c := ⟨fun i hi => (h.1 i hi).trans (h'.1 i hi), fun j hj => (h.2.1 j hj).trans (h'.2.1 j hj), h.2.2.trans h'.2.2⟩
theorem k1_r (a : Nat → Int) : k1Eq g a a := ⟨fun _ _ => rfl, fun _ _ => rfl, rfl⟩
theorem k1_boats (h : k1Eq g a b) : ∀ B, B ≤ 6 → k1Eq g (xit boat1 B a) (xit boat1 B b)
  | 0, _ => h
  | B + 1, hB => by
    have ih := k1_boats h B (by omega)
    show k1Eq g (boat1 B (xit boat1 B a)) (boat1 B (xit boat1 B b))
    generalize xit boat1 B a = a1 at *
    generalize xit boat1 B b = b1 at *
    have x0 := ih.1 B (by omega)
    have x6 := ih.1 (6 + B) (by omega)
    have x12 := ih.1 (12 + B) (by omega)
    have x18 := ih.1 (18 + B) (by omega)
    unfold boat1
    try dsimp only
    rw [x0, x12]
    by_cases c1 : 0 ≤ xw (b1 B + b1 (12 + B)) ∧ xw (b1 B + b1 (12 + B)) ≤ 15
    · simp only [if_pos c1]
      rw [xfu_ne _ _ (show 6 + B ≠ B by omega), xfu_ne _ _ (show 18 + B ≠ B by omega), xfu_ne _ _ (show 6 + B ≠ B by omega), xfu_ne _ _ (show 18 + B ≠ B by omega), x6, x18]
      split
      · exact k1_w (k1_w ih _ rfl) _ rfl
      · exact k1_w (k1_w ih _ rfl) _ rfl
    · simp only [if_neg c1]
      rw [xfu_ne _ _ (show 6 + B ≠ 12 + B by omega), xfu_ne _ _ (show 18 + B ≠ 12 + B by omega), xfu_ne _ _ (show 6 + B ≠ 12 + B by omega), xfu_ne _ _ (show 18 + B ≠ 12 + B by omega), x6, x18]
      split
      · exact k1_w (k1_w ih _ rfl) _ rfl
      · exact k1_w (k1_w ih _ rfl) _ rfl
end K1
/-- the gull g alone flies: its half hour -/
def cOne (kx : xKx) (g : Nat) (A : (Nat → Int) × xT5) : (Nat → Int) × xT5 :=
  (xfu (cFly kx g (xit boat1 (kB kx) A.1) A.2).1 115 (xw ((cFly kx g (xit boat1 (kB kx) A.1) A.2).1 115 + 1)), (cFly kx g (xit boat1 (kB kx) A.1) A.2).2)
/-- when the class's gull comes: how many half hours, where -/
def cCome (kx : xKx) (g : Nat) : Nat → Nat → (Nat → Int) × xT5 → Int × ((Nat → Int) × xT5)
  | 0, _, A => (-1, A)
  | m + 1, t, A => if A.1 (68 + g) = 1 then (if (cOne kx g A).2.2.2.2.2 = -1 then cCome kx g m (t + 1) (cOne kx g A) else ((t : Int), cOne kx g A)) else (-1, A)
