/-! ===== the class: a gull flies ===== -/
abbrev xT5 : Type := Int × Int × Int × Int × Int
def zw (z a : Nat → Int) (T : xT5) (t : Nat → Int) : Nat → Int := fun i => if i < 116 then a i else if i = 136 then T.1 else if i = 137 then T.2.1 else if i = 138 then T.2.2.1 else if i = 139 then T.2.2.2.1 else if i = 140 then T.2.2.2.2 else if 141 ≤ i then t i else z i
section ZW
variable {z a t : Nat → Int} {T : xT5} {i : Nat} {v : Int}
theorem zw_a (hi : i < 116) : zw z a T t i = a i := if_pos hi
theorem zw_z (h1 : 116 ≤ i) (h2 : i < 136) : zw z a T t i = z i := by
  unfold zw
  rw [if_neg (by omega), if_neg (by omega), if_neg (by omega), if_neg (by omega), if_neg (by omega), if_neg (by omega), if_neg (by omega)]
theorem zw_t (h1 : 141 ≤ i) : zw z a T t i = t i := by
  unfold zw
  rw [if_neg (by omega), if_neg (by omega), if_neg (by omega), if_neg (by omega), if_neg (by omega), if_neg (by omega), if_pos h1]
theorem zw_136 : zw z a T t 136 = T.1 := rfl
theorem zw_137 : zw z a T t 137 = T.2.1 := rfl
theorem zw_138 : zw z a T t 138 = T.2.2.1 := rfl
theorem zw_139 : zw z a T t 139 = T.2.2.2.1 := rfl
theorem zw_140 : zw z a T t 140 = T.2.2.2.2 := rfl
theorem zw_132 : zw z a T t 132 = z 132 := rfl
theorem zw_133 : zw z a T t 133 = z 133 := rfl
theorem zw_134 : zw z a T t 134 = z 134 := rfl
theorem zw_135 : zw z a T t 135 = z 135 := rfl
theorem zw_114 : zw z a T t 114 = a 114 := rfl
theorem zw_115 : zw z a T t 115 = a 115 := rfl
theorem zw_0 : zw z z (z 136, z 137, z 138, z 139, z 140) z = z := by
  funext i
  unfold zw
  repeat' split
  all_goals first | rfl | (subst_vars; rfl)
theorem zw_pa (hi : i < 116) : xfu (zw z a T t) i v = zw z (xfu a i v) T t := by
  funext x
  by_cases c : x = i
  · subst c
    rw [xfu_self, zw_a hi, xfu_self]
  · rw [xfu_ne _ _ c]
    by_cases c2 : x < 116
    · rw [zw_a c2, zw_a c2, xfu_ne _ _ c]
    · unfold zw
      rw [if_neg c2, if_neg c2]
theorem zw_pt (hi : 141 ≤ i) : xfu (zw z a T t) i v = zw z a T (xfu t i v) := by
  funext x
  by_cases c : x = i
  · subst c
    rw [xfu_self, zw_t hi, xfu_self]
  · rw [xfu_ne _ _ c]
    by_cases c2 : 141 ≤ x
    · rw [zw_t c2, zw_t c2, xfu_ne _ _ c]
    · unfold zw
      rw [if_neg c2, if_neg c2]
theorem zw_p136 : xfu (zw z a T t) 136 v = zw z a (v, T.2) t := by
  funext x
  unfold xfu zw
  by_cases c : x = 136
  · subst c; rfl
  · rw [if_neg c, if_neg c, if_neg c]
theorem zw_p137 : xfu (zw z a T t) 137 v = zw z a (T.1, v, T.2.2) t := by
  funext x
  unfold xfu zw
  by_cases c : x = 137
  · subst c; rfl
  · rw [if_neg c, if_neg c, if_neg c]
theorem zw_p138 : xfu (zw z a T t) 138 v = zw z a (T.1, T.2.1, v, T.2.2.2) t := by
  funext x
  unfold xfu zw
  by_cases c : x = 138
  · subst c; rfl
  · rw [if_neg c, if_neg c, if_neg c]
theorem zw_p139 : xfu (zw z a T t) 139 v = zw z a (T.1, T.2.1, T.2.2.1, v, T.2.2.2.2) t := by
  funext x
  unfold xfu zw
  by_cases c : x = 139
  · subst c; rfl
  · rw [if_neg c, if_neg c, if_neg c]
theorem zw_p140 : xfu (zw z a T t) 140 v = zw z a (T.1, T.2.1, T.2.2.1, T.2.2.2.1, v) t := by
  funext x
  unfold xfu zw
  by_cases c : x = 140
  · subst c; rfl
  · rw [if_neg c, if_neg c, if_neg c]
theorem zw_far {g : Nat} (hg : g < 8) {q : Int} (hq : q = -1 ∨ (0 ≤ q ∧ q < 6)) : rFar (zw z a T t) g q = rFar a g q := by
  unfold rFar
  rw [zw_a (i := 52 + g) (by omega), zw_a (i := 60 + g) (by omega)]
  by_cases c : q = -1
  · simp only [if_pos c]
  · simp only [if_neg c]
    rw [zw_a (i := q.toNat) (by omega), zw_a (i := 6 + q.toNat) (by omega)]
theorem zw_near {g : Nat} (hg : g < 8) (w ch : Int) : ∀ B, B ≤ 6 → cNear B (zw z a T t) g w ch = cNear B a g w ch
  | 0, _ => by simp only [cNear, xit]
  | B + 1, hB => by
    show cNear1 (zw z a T t) g ch B (cNear B (zw z a T t) g w ch) = cNear1 a g ch B (cNear B a g w ch)
    rw [zw_near hg w ch B (by omega)]
    unfold cNear1
    rw [zw_far hg (by omega), zw_a (by omega)]
end ZW
/-- boats, chum and gulls are where they can be -/
def kSane (B N : Nat) (a : Nat → Int) : Prop := (∀ b, b < B → ((0 ≤ a b ∧ a b ≤ 15) ∧ (0 ≤ a (6 + b) ∧ a (6 + b) ≤ 15)) ∧ ((-1 ≤ a (12 + b) ∧ a (12 + b) ≤ 1) ∧ (-1 ≤ a (18 + b) ∧ a (18 + b) ≤ 1)) ∧ (a (30 + b) = 0 ∨ a (30 + b) = 1)) ∧ (∀ g, g < N → (0 ≤ a (52 + g) ∧ a (52 + g) ≤ 15) ∧ (0 ≤ a (60 + g) ∧ a (60 + g) ≤ 15))
theorem rFar_in {B N : Nat} {a : Nat → Int} (hs : kSane B N a) {g : Nat} (hg : g < N) {q : Int} (hq : q = -1 ∨ (0 ≤ q ∧ q < B)) : 0 ≤ rFar a g q ∧ rFar a g q ≤ 30 := by
  obtain ⟨h1, h2⟩ := hs
  have h3 := h2 g hg
  have h4 : (0 ≤ (if q = -1 then 0 else a q.toNat) ∧ (if q = -1 then 0 else a q.toNat) ≤ 15) ∧ (0 ≤ (if q = -1 then 0 else a (6 + q.toNat)) ∧ (if q = -1 then 0 else a (6 + q.toNat)) ≤ 15) := by
    by_cases c : q = -1
    · simp only [if_pos c]
      omega
    · simp only [if_neg c]
      exact (h1 q.toNat (by omega)).1
  unfold rFar
  generalize (if q = -1 then 0 else a q.toNat) = x at *
  generalize (if q = -1 then 0 else a (6 + q.toNat)) = y at *
  unfold mAbs
  rw [xw_id (n := a (52 + g) - x) (by omega) (by omega), xw_id (n := a (60 + g) - y) (by omega) (by omega), xw_id (n := -(a (52 + g) - x)) (by omega) (by omega), xw_id (n := -(a (60 + g) - y)) (by omega) (by omega)]
  rw [xw_id]
  · split <;> split <;> omega
  · split <;> split <;> omega
  · split <;> split <;> omega
theorem rFar_0 {B N : Nat} {a : Nat → Int} (hs : kSane B N a) {g : Nat} (hg : g < N) {q : Int} (hq : q = -1 ∨ (0 ≤ q ∧ q < B)) : rFar a g q = 0 ↔ (a (52 + g) = (if q = -1 then 0 else a q.toNat) ∧ a (60 + g) = (if q = -1 then 0 else a (6 + q.toNat))) := by
  obtain ⟨h1, h2⟩ := hs
  have h3 := h2 g hg
  have h4 : (0 ≤ (if q = -1 then 0 else a q.toNat) ∧ (if q = -1 then 0 else a q.toNat) ≤ 15) ∧ (0 ≤ (if q = -1 then 0 else a (6 + q.toNat)) ∧ (if q = -1 then 0 else a (6 + q.toNat)) ≤ 15) := by
    by_cases c : q = -1
    · simp only [if_pos c]
      omega
    · simp only [if_neg c]
      exact (h1 q.toNat (by omega)).1
  unfold rFar
  generalize (if q = -1 then 0 else a q.toNat) = x at *
  generalize (if q = -1 then 0 else a (6 + q.toNat)) = y at *
  unfold mAbs
  rw [xw_id (n := a (52 + g) - x) (by omega) (by omega), xw_id (n := a (60 + g) - y) (by omega) (by omega), xw_id (n := -(a (52 + g) - x)) (by omega) (by omega), xw_id (n := -(a (60 + g) - y)) (by omega) (by omega)]
  rw [xw_id]
  · split <;> split <;> omega
  · split <;> split <;> omega
  · split <;> split <;> omega
theorem cNear_0 {B N : Nat} {a : Nat → Int} (hs : kSane B N a) {g : Nat} (hg : g < N) : ∀ i, i ≤ B → (cNear i a g 32 0).1 = rNear i a g 0 ∧ ((rNear i a g 0 = -1 ∧ (cNear i a g 32 0).2 = 33) ∨ (¬ rNear i a g 0 = -1 ∧ (cNear i a g 32 0).2 = rFar a g (rNear i a g 0)))
  | 0, _ => ⟨by simp only [cNear, rNear, xit], Or.inl ⟨by simp only [rNear, xit], by simp only [cNear, xit]; decide⟩⟩
  | i + 1, hi => by
    obtain ⟨e1, e2⟩ := cNear_0 hs hg i (by omega)
    have hf := rFar_in hs hg (q := (i : Int)) (by omega)
    show (cNear1 a g 0 i (cNear i a g 32 0)).1 = rNear1 a g 0 i (rNear i a g 0) ∧ ((rNear1 a g 0 i (rNear i a g 0) = -1 ∧ (cNear1 a g 0 i (cNear i a g 32 0)).2 = 33) ∨ (¬ rNear1 a g 0 i (rNear i a g 0) = -1 ∧ (cNear1 a g 0 i (cNear i a g 32 0)).2 = rFar a g (rNear1 a g 0 i (rNear i a g 0))))
    generalize cNear i a g 32 0 = s at *
    generalize rNear i a g 0 = q at *
    obtain ⟨s1, s2⟩ := s
    dsimp only at e1 e2
    subst e1
    unfold cNear1 rNear1
    dsimp only
    have hd : ¬ (¬ (0 : Int) = 0 ∧ (a (30 + i) = 0 ∨ 4 < rFar a g i)) := by omega
    rw [if_neg hd]
    rcases e2 with ⟨e2, e3⟩ | ⟨e2, e3⟩
    · rw [if_pos ⟨by omega, Or.inl rfl⟩, if_pos (Or.inl e2)]
      exact ⟨rfl, Or.inr ⟨by omega, rfl⟩⟩
    · by_cases c : rFar a g i < s2
      · rw [if_pos ⟨c, Or.inl rfl⟩, if_pos (Or.inr (by rw [← e3]; exact c))]
        exact ⟨rfl, Or.inr ⟨by omega, rfl⟩⟩
      · rw [if_neg (by omega), if_neg (by rw [← e3]; omega)]
        exact ⟨rfl, Or.inr ⟨e2, e3⟩⟩
theorem cNear_1 {B N : Nat} {a : Nat → Int} (hs : kSane B N a) {g : Nat} (hg : g < N) : ∀ i, i ≤ B → (cNear i a g 4 1).1 = rNear i a g 1 ∧ ((rNear i a g 1 = -1 ∧ (cNear i a g 4 1).2 = 5) ∨ (¬ rNear i a g 1 = -1 ∧ (cNear i a g 4 1).2 = rFar a g (rNear i a g 1) ∧ (cNear i a g 4 1).2 ≤ 4))
  | 0, _ => ⟨by simp only [cNear, rNear, xit], Or.inl ⟨by simp only [rNear, xit], by simp only [cNear, xit]; decide⟩⟩
  | i + 1, hi => by
    obtain ⟨e1, e2⟩ := cNear_1 hs hg i (by omega)
    have hf := rFar_in hs hg (q := (i : Int)) (by omega)
    have hc := (hs.1 i (by omega)).2.2
    show (cNear1 a g 1 i (cNear i a g 4 1)).1 = rNear1 a g 1 i (rNear i a g 1) ∧ ((rNear1 a g 1 i (rNear i a g 1) = -1 ∧ (cNear1 a g 1 i (cNear i a g 4 1)).2 = 5) ∨ (¬ rNear1 a g 1 i (rNear i a g 1) = -1 ∧ (cNear1 a g 1 i (cNear i a g 4 1)).2 = rFar a g (rNear1 a g 1 i (rNear i a g 1)) ∧ (cNear1 a g 1 i (cNear i a g 4 1)).2 ≤ 4))
    generalize cNear i a g 4 1 = s at *
    generalize rNear i a g 1 = q at *
    obtain ⟨s1, s2⟩ := s
    dsimp only at e1 e2
    subst e1
    unfold cNear1 rNear1
    dsimp only
    by_cases d : a (30 + i) = 0 ∨ 4 < rFar a g i
    · rw [if_pos (show ¬ (1 : Int) = 0 ∧ (a (30 + i) = 0 ∨ 4 < rFar a g i) from ⟨by decide, d⟩), if_neg (show ¬ (rFar a g i < s2 ∧ ((1 : Int) = 0 ∨ a (30 + i) = 1)) by omega)]
      exact ⟨rfl, e2⟩
    · rw [if_neg (show ¬ (¬ (1 : Int) = 0 ∧ (a (30 + i) = 0 ∨ 4 < rFar a g i)) from fun z => d z.2)]
      have d1 : a (30 + i) = 1 := by omega
      rcases e2 with ⟨e2, e3⟩ | ⟨e2, e3, e4⟩
      · rw [if_pos ⟨by omega, Or.inr d1⟩, if_pos (Or.inl e2)]
        exact ⟨rfl, Or.inr ⟨by omega, rfl, by dsimp only; omega⟩⟩
      · by_cases c : rFar a g i < s2
        · rw [if_pos ⟨c, Or.inr d1⟩, if_pos (Or.inr (by rw [← e3]; exact c))]
          exact ⟨rfl, Or.inr ⟨by omega, rfl, by dsimp only; omega⟩⟩
        · rw [if_neg (by omega), if_neg (by rw [← e3]; omega)]
          exact ⟨rfl, Or.inr ⟨e2, e3, e4⟩⟩
/-- the class's goal is the reference's aim -/
theorem cGoal_eq {B N : Nat} {z a t : Nat → Int} {T : xT5} (hs : kSane B N a) (hB : B ≤ 6) (hb : z 132 = B) {g : Nat} (hg : g < N) (hg8 : g < 8) (h0 : 0 ≤ z (116 + g)) (h1 : z (116 + g) < 6) {home : Nat → Int} (hh : home g = z (116 + g)) : cGoal (zw z a T t) g = rAim (z 135) B home a g := by
  unfold cGoal rAim
  rw [zw_132, zw_135, hb, show ((B : Nat) : Int).toNat = B from rfl, zw_near hg8 32 0 B hB, zw_near hg8 4 1 B hB, zw_a (by omega), zw_z (i := 116 + g) (by omega) (by omega), zw_a (by omega), zw_a (i := 36 + g) (by omega), hh, (cNear_0 hs hg B (Nat.le_refl _)).1, (cNear_1 hs hg B (Nat.le_refl _)).1]
  split
  · rfl
  · by_cases c : 6 ≤ a (44 + g)
    · simp only [c, true_and, if_true]
    · simp only [c, false_and, not_true_eq_false, if_false]
theorem tow_eq {f t m : Int} (h0 : 0 ≤ f) (h1 : f ≤ 15) (h2 : 0 ≤ t) (h3 : t ≤ 15) (h4 : 0 ≤ m) (h5 : m ≤ 30) : cTow f t m = rToward f t m ∧ (0 ≤ rToward f t m ∧ rToward f t m ≤ 15) ∧ cRestOf f t m = mMax 0 (xw (m - mAbs (xw (f - t)))) ∧ 0 ≤ cRestOf f t m ∧ cRestOf f t m ≤ 30 := by
  unfold cTow rToward cRestOf
  rw [mAbs_swap f t]
  have e : mAbs (xw (t - f)) = if f < t then t - f else f - t := by
    unfold mAbs
    rw [xw_id (n := t - f) (by omega) (by omega), xw_id (n := -(t - f)) (by omega) (by omega)]
    split <;> split <;> omega
  rw [e, xw_id (n := f + m) (by omega) (by omega), xw_id (n := f - m) (by omega) (by omega)]
  by_cases c : f < t
  · simp only [if_pos c, if_neg (show ¬ t < f by omega)]
    unfold mMin mMax
    rw [xw_id (n := m - (t - f)) (by omega) (by omega)]
    by_cases c2 : t - f < m
    · simp only [if_pos c2]
      rw [xw_id (by omega) (by omega), xw_id (by omega) (by omega)]
      repeat' split
      all_goals omega
    · simp only [if_neg c2]
      rw [xw_id (by omega) (by omega), xw_id (by omega) (by omega)]
      repeat' split
      all_goals omega
  · simp only [if_neg c]
    unfold mMin mMax
    rw [xw_id (n := m - (f - t)) (by omega) (by omega)]
    by_cases c2 : f - t < m
    · simp only [if_pos c2]
      rw [xw_id (n := -(f - t)) (by omega) (by omega), xw_id (n := m - (f - t)) (by omega) (by omega)]
      by_cases c3 : t < f
      · simp only [if_pos c3]
        rw [xw_id (by omega) (by omega)]
        repeat' split
        all_goals omega
      · simp only [if_neg c3]
        rw [xw_id (by omega) (by omega)]
        repeat' split
        all_goals omega
    · simp only [if_neg c2]
      rw [xw_id (n := -m) (by omega) (by omega), xw_id (n := m - m) (by omega) (by omega)]
      by_cases c3 : t < f
      · simp only [if_pos c3]
        rw [xw_id (by omega) (by omega)]
        repeat' split
        all_goals omega
      · simp only [if_neg c3]
        rw [xw_id (by omega) (by omega)]
        repeat' split
        all_goals omega
