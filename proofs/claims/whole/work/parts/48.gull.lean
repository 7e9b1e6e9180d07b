/-! ===== the reference: one gull's half hour ===== -/
/-- what a rule's answer hangs on -/
theorem tDigit_congr {r r' : xR} (h1 : ∀ a, rHere r a = rHere r' a) (h2 : ∀ i, rSrc r i = rSrc r' i) (a w lo hi : Int) : tDigit r a w lo hi = tDigit r' a w lo hi := by
  unfold tDigit
  rw [h1, h2]
theorem tNumL_congr {r r' : xR} (h1 : ∀ a, rHere r a = rHere r' a) (h2 : ∀ i, rSrc r i = rSrc r' i) : ∀ (m : Nat) (v a w : Int), tNumL r m v a w = tNumL r' m v a w
  | 0, v, a, w => rfl
  | m + 1, v, a, w => by
    unfold tNumL
    rw [h1, tDigit_congr h1 h2, tNumL_congr h1 h2 m]
theorem vR_congr {r r' : xR} (h1 : ∀ a, rHere r a = rHere r' a) (h2 : ∀ i, rSrc r i = rSrc r' i) (h3 : r.1 21 = r'.1 21) (h4 : ∀ i, i < 7 → r.2 9 i = r'.2 9 i) : ∀ (f tag : Nat) (dp v a w : Int), vR r f tag dp v a w = vR r' f tag dp v a w
  | 0, tag, dp, v, a, w => by unfold vR; rfl
  | f + 1, 0, dp, v, a, w => by
    have e : (if lOf (rHere r' a) = -1 then ((0, a, a) : Int × Int × Int) else (if r.1 21 = 0 then 0 else r.2 9 (lOf (rHere r' a)).toNat, a + 1, w)) = (if lOf (rHere r' a) = -1 then ((0, a, a) : Int × Int × Int) else (if r'.1 21 = 0 then 0 else r'.2 9 (lOf (rHere r' a)).toNat, a + 1, w)) := by
      split
      · rfl
      · rename_i c
        have := lOf_in c
        rw [h3, h4 _ (by omega)]
    unfold vR
    rw [h1, vR_congr h1 h2 h3 h4 f 0, vR_congr h1 h2 h3 h4 f 5, e]
    unfold tNum tNeed
    rw [tDigit_congr h1 h2, tNumL_congr h1 h2, h1]
  | f + 1, 1, dp, v, a, w => by unfold vR; rw [vR_congr h1 h2 h3 h4 f 0, vR_congr h1 h2 h3 h4 f 2]
  | f + 1, 2, dp, v, a, w => by unfold vR; rw [h1, vR_congr h1 h2 h3 h4 f 0, vR_congr h1 h2 h3 h4 f 2]
  | f + 1, 3, dp, v, a, w => by unfold vR; rw [vR_congr h1 h2 h3 h4 f 1, vR_congr h1 h2 h3 h4 f 4]
  | f + 1, 4, dp, v, a, w => by unfold vR; rw [h1, vR_congr h1 h2 h3 h4 f 1, vR_congr h1 h2 h3 h4 f 4]
  | f + 1, tag + 5, dp, v, a, w => by
    unfold vR
    rw [vR_congr h1 h2 h3 h4 f 3 dp 0 a w]
    dsimp only
    rw [vR_congr h1 h2 h3 h4 f 3, h1]
/-- what a half hour hangs on: boats, gulls, home, pace, wind, storm, the rule's length, the rule -/
abbrev xKx : Type := Nat × Nat × (Nat → Int) × (Nat → Int) × Int × Int × Int × (Nat → Int)
def kB (k : xKx) : Nat := k.1
def kN (k : xKx) : Nat := k.2.1
def kHome (k : xKx) : Nat → Int := k.2.2.1
def kPace (k : xKx) : Nat → Int := k.2.2.2.1
def kWind (k : xKx) : Int := k.2.2.2.2.1
def kStorm (k : xKx) : Int := k.2.2.2.2.2.1
def kSize (k : xKx) : Int := k.2.2.2.2.2.2.1
def kText (k : xKx) : Nat → Int := k.2.2.2.2.2.2.2
def rK (r : xR) : xKx := ((r.1 1).toNat, (r.1 2).toNat, r.2 2, r.2 3, r.1 5, r.1 6, r.1 20, r.2 8)
def kAsk (k : xKx) (a : Nat → Int) (g : Nat) (far : Int) : Nat → Int := fun i => if i = 0 then kPace k g else if i = 1 then a (44 + g) else if i = 2 then far else if i = 3 then kWind k else if i = 4 then a 115 else if i = 5 then g else if a (76 + g) = -1 then 0 else 1
def kRd (sz : Int) (t q : Nat → Int) : xR := (fun k => if k = 12 then 2 else if k = 13 then sz else if k = 14 then 40 else if k = 21 then 1 else 0, fun c => if c = 8 then t else if c = 9 then q else fun _ => 0)
def kRg (k : xKx) (a : Nat → Int) (g : Nat) (far : Int) : Int := mMax 0 (mMin 30 (if kSize k ≤ 0 then xw (kPace k g - (if a (44 + g) < 1 then 1 else 0)) else (rHeld (kRd (kSize k) (kText k) (kAsk k a g far))).1))
theorem rRgV_k (r : xR) (j g : Nat) (far : Int) : rRgV r j g far = kRg (rK r) (r.2 j) g far := by
  unfold rRgV kRg
  have e : rHeld (rRgX r (rAsk r j g far)) = rHeld (kRd (kSize (rK r)) (kText (rK r)) (kAsk (rK r) (r.2 j) g far)) := by
    have hq : ∀ i, i < 7 → (rRgX r (rAsk r j g far)).2 9 i = (kRd (kSize (rK r)) (kText (rK r)) (kAsk (rK r) (r.2 j) g far)).2 9 i := ?_
    · have e1 := vR_congr (r := rRgX r (rAsk r j g far)) (r' := kRd (kSize (rK r)) (kText (rK r)) (kAsk (rK r) (r.2 j) g far)) (fun a => rfl) (fun i => rfl) rfl hq
      exact e1 814 5 0 0 0 (-1)
    intro i hi
    show rAsk r j g far i = kAsk (rK r) (r.2 j) g far i
    unfold rAsk kAsk
    obtain rfl | rfl | rfl | rfl | rfl | rfl | rfl : i = 0 ∨ i = 1 ∨ i = 2 ∨ i = 3 ∨ i = 4 ∨ i = 5 ∨ i = 6 := by omega
    all_goals rfl
  rw [e]
  rfl
/-- what flies: the row, who came, what was decked, who died, where they came -/
abbrev xFl : Type := (Nat → Int) × Int × Int × Int × (Nat → Int)
def kGull (k : xKx) (g : Nat) (F : xFl) : xFl :=
  let a := F.1
  let aim := rAim (kStorm k) (kB k) (kHome k) a g
  let x := if aim = -1 then 0 else a aim.toNat
  let y := if aim = -1 then 0 else a (6 + aim.toNat)
  let rg := kRg k a g (rFar a g aim)
  let ov := mAbs (xw (a (52 + g) - x))
  let a1 := xfu a (52 + g) (rToward (a (52 + g)) x rg)
  let a2 := xfu a1 (60 + g) (rToward (a1 (60 + g)) y (mMax 0 (xw (rg - ov))))
  let l := a2 (76 + g)
  if rFar a2 g aim = 0 then
    let a3 := if l = -1 then a2 else xfu (xfu a2 (94 + l.toNat) (if aim = -1 then 0 else 2)) (104 + l.toNat) aim
    let a4 := if aim = -1 then a3 else xfu a3 (44 + g) 0
    let a5 := xfu (xfu (xfu (xfu a4 (76 + g) (-1)) (68 + g) 0) (52 + g) 0) (60 + g) 0
    if aim = -1 then (a5, F.2) else (a5, xor_ F.2.1 (xshl 1 g), xor_ F.2.2.1 (if l = -1 then 0 else xshl 1 l), F.2.2.2.1, xfu F.2.2.2.2 g aim)
  else if a2 (44 + g) < 9 then (xfu a2 (44 + g) (xw (a2 (44 + g) + 1)), F.2)
  else
    let a3 := xfu (xfu a2 (68 + g) 2) (76 + g) (-1)
    (if l = -1 then a3 else xfu (xfu a3 (94 + l.toNat) 3) (104 + l.toNat) (-1), F.2.1, F.2.2.1, xor_ F.2.2.2.1 (xshl 1 g), F.2.2.2.2)
/-- the reference's numbers: with a flight in the row j, and the reader's own (junk) -/
def rW (r : xR) (j : Nat) (F : xFl) (J : xR) : xR := (fun k => if k = 23 then F.2.1 else if k = 24 then F.2.2.1 else if k = 25 then F.2.2.2.1 else if (12 ≤ k ∧ k ≤ 16) ∨ k = 21 then J.1 k else r.1 k, fun c => if c = j then F.1 else if c = 10 then F.2.2.2.2 else if c = 9 then J.2 9 else r.2 c)
section GU
variable {n : Nat} {h : xH} {r : xR} {H : xH} {j : Nat} {F : xFl} {J : xR}
theorem rW_self (hj : j ≠ 9) : rW r j (r.2 j, r.1 23, r.1 24, r.1 25, r.2 10) r = r := by
  refine Prod.ext (funext fun k => ?_) (funext fun c => ?_)
  · unfold rW
    dsimp only
    repeat' split
    all_goals (try subst_vars); rfl
  · unfold rW
    dsimp only
    repeat' split
    all_goals (try subst_vars); rfl
theorem rW_j : (rW r j F J).2 j = F.1 := if_pos rfl
theorem rW_10 (hj : j ≠ 10) : (rW r j F J).2 10 = F.2.2.2.2 := (if_neg (Ne.symm hj)).trans (if_pos rfl)
theorem rW_c {c : Nat} (h1 : c ≠ j) (h2 : c ≠ 10) (h3 : c ≠ 9) : (rW r j F J).2 c = r.2 c := (if_neg h1).trans ((if_neg h2).trans (if_neg h3))
theorem rW_23 : (rW r j F J).1 23 = F.2.1 := rfl
theorem rW_24 : (rW r j F J).1 24 = F.2.2.1 := rfl
theorem rW_25 : (rW r j F J).1 25 = F.2.2.2.1 := rfl
theorem rW_1 : (rW r j F J).1 1 = r.1 1 := rfl
theorem rW_2 : (rW r j F J).1 2 = r.1 2 := rfl
theorem rW_5 : (rW r j F J).1 5 = r.1 5 := rfl
theorem rW_6 : (rW r j F J).1 6 = r.1 6 := rfl
theorem rW_20 : (rW r j F J).1 20 = r.1 20 := rfl
theorem rW_k (hj : j = 1 ∨ j = 12 ∨ j = 14) : rK (rW r j F J) = rK r := by rcases hj with rfl | rfl | rfl <;> rfl
theorem rW_pj (a : Nat → Int) : xr_j (rW r j F J) j a = rW r j (a, F.2) J := by
  refine Prod.ext rfl (funext fun c => ?_)
  unfold rW xr_j xfu
  dsimp only
  split <;> rfl
theorem rW_p10 (hj : j ≠ 10) (i : Nat) (v : Int) : xr_a (rW r j F J) 10 i v = rW r j (F.1, F.2.1, F.2.2.1, F.2.2.2.1, xfu F.2.2.2.2 i v) J := by
  refine Prod.ext rfl (funext fun c => ?_)
  unfold xr_a
  rw [rW_10 hj]
  unfold rW xfu
  dsimp only
  by_cases c1 : c = 10
  · subst c1
    rw [if_pos rfl, if_neg (Ne.symm hj), if_pos rfl]
  · rw [if_neg c1]
    try dsimp only
    rw [if_neg c1, if_neg c1]
theorem rW_p23 (v : Int) : xr_i (rW r j F J) 23 v = rW r j (F.1, v, F.2.2) J := by
  refine Prod.ext (funext fun k => ?_) rfl
  unfold rW xr_i xfu
  dsimp only
  by_cases c1 : k = 23 <;> simp [c1]
theorem rW_p24 (v : Int) : xr_i (rW r j F J) 24 v = rW r j (F.1, F.2.1, v, F.2.2.2) J := by
  refine Prod.ext (funext fun k => ?_) rfl
  unfold rW xr_i xfu
  dsimp only
  by_cases c1 : k = 24 <;> simp [c1]
theorem rW_p25 (v : Int) : xr_i (rW r j F J) 25 v = rW r j (F.1, F.2.1, F.2.2.1, v, F.2.2.2.2) J := by
  refine Prod.ext (funext fun k => ?_) rfl
  unfold rW xr_i xfu
  dsimp only
  by_cases c1 : k = 25 <;> simp [c1]
theorem rW_pi {k : Nat} (h1 : ¬ (23 ≤ k ∧ k ≤ 25)) (h2 : ¬ ((12 ≤ k ∧ k ≤ 16) ∨ k = 21)) (v : Int) : xr_i (rW r j F J) k v = rW (xr_i r k v) j F J := by
  refine Prod.ext (funext fun i => ?_) rfl
  unfold rW xr_i xfu
  dsimp only
  by_cases c1 : i = k
  · subst c1
    rw [if_pos rfl, if_neg (by omega), if_neg (by omega), if_neg (by omega), if_neg h2]
    try dsimp only
    rw [if_pos rfl]
  · rw [if_neg c1]
    try dsimp only
    rw [if_neg c1]
theorem rW_rg (hj : j = 1 ∨ j = 12 ∨ j = 14) (g : Nat) (far : Int) : ∃ J', rRg (rW r j F J) j g far = rW r j F J' := by
  unfold rRg
  by_cases c : (rW r j F J).1 20 ≤ 0
  · rw [if_pos c]
    exact ⟨J, rfl⟩
  · rw [if_neg c]
    generalize rAsk (rW r j F J) j g far = q
    refine ⟨rRgS (rW r j F J) q, Prod.ext (funext fun k => ?_) (funext fun c => ?_)⟩
    · unfold rRgS
      generalize rHeld (rRgX (rW r j F J) q) = z
      unfold rRgX rW rRd xr_i xr_j xfu
      dsimp only
      by_cases c1 : k = 16
      · subst c1; rfl
      by_cases c2 : k = 15
      · subst c2; rfl
      by_cases c3 : k = 21
      · subst c3; rfl
      by_cases c4 : k = 14
      · subst c4; rfl
      by_cases c5 : k = 13
      · subst c5; rfl
      by_cases c6 : k = 12
      · subst c6; rfl
      rw [if_neg c1]; try dsimp only
      rw [if_neg c2]; try dsimp only
      rw [if_neg c3]; try dsimp only
      rw [if_neg c3]; try dsimp only
      rw [if_neg c4]; try dsimp only
      rw [if_neg c5]; try dsimp only
      rw [if_neg c6]
      rw [if_neg (show ¬ ((12 ≤ k ∧ k ≤ 16) ∨ k = 21) by omega), if_neg (show ¬ ((12 ≤ k ∧ k ≤ 16) ∨ k = 21) by omega)]
    · unfold rRgS
      generalize rHeld (rRgX (rW r j F J) q) = z
      unfold rRgX rW rRd xr_i xr_j xfu
      dsimp only
      by_cases c1 : c = 9
      · subst c1
        rw [if_pos rfl, if_neg (by omega), if_neg (by omega), if_pos rfl]
      · rw [if_neg c1]
        try dsimp only
        rw [if_neg c1, if_neg c1]
end GU
