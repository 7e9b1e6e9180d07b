/-! ===== the reference's reader with a row of its own: what it reads goes into a row that no text is in ===== -/
/-- the reader at a place, row c is F -/
def rRj (r : xR) (c : Nat) (F : Nat → Int) (a w : Int) : xR := rRd (xr_j r c F) a w
def tPs (r : xR) (c a w : Int) : Int × Int × Int := if w = -1 ∧ rHere r a = c then (1, a + 1, w) else (0, a, w)
theorem rRj_a (r : xR) (c : Nat) (F : Nat → Int) (a w : Int) (i : Nat) (v : Int) : xr_a (rRj r c F a w) c i v = rRj r c (xfu F i v) a w := by
  unfold rRj
  show rRd (xr_j (xr_j r c F) c (xfu ((xr_j r c F).2 c) i v)) a w = _
  rw [xr_j_j, xr_j_2]
theorem rRj_g (r : xR) (c : Nat) (F : Nat → Int) (a w : Int) (k : Nat) : (rRj r c F a w).1 k = if k = 16 then w else if k = 15 then a else r.1 k := rfl
theorem rRj_2 (r : xR) (c : Nat) (F : Nat → Int) (a w : Int) : (rRj r c F a w).2 c = F := xfu_self _ _ _
section RJ
variable {n : Nat} {h : xH} {r : xR} {H : xH} {a w : Int} {c : Nat} {F : Nat → Int}
theorem rHere_j (h4 : c ≠ 4) (h8 : c ≠ 8) : rHere (xr_j r c F) = rHere r := by
  funext x
  unfold rHere rSrc
  rw [xr_j_1, xr_j_n h4.symm, xr_j_n h8.symm]
theorem rSrc_j (h4 : c ≠ 4) (h8 : c ≠ 8) : rSrc (xr_j r c F) = rSrc r := by
  funext x
  unfold rSrc
  rw [xr_j_1, xr_j_n h4.symm, xr_j_n h8.symm]
theorem tDigit_j (h4 : c ≠ 4) (h8 : c ≠ 8) : tDigit (xr_j r c F) = tDigit r := by
  funext a w lo hi
  unfold tDigit
  rw [rHere_j h4 h8, rSrc_j h4 h8]
theorem tLetter_j (h4 : c ≠ 4) (h8 : c ≠ 8) : tLetter (xr_j r c F) = tLetter r := by
  funext a w lo
  unfold tLetter
  rw [rHere_j h4 h8, rSrc_j h4 h8]
theorem tNumL_j (h4 : c ≠ 4) (h8 : c ≠ 8) : ∀ (m : Nat) (v a w : Int), tNumL (xr_j r c F) m v a w = tNumL r m v a w
  | 0, v, a, w => rfl
  | m + 1, v, a, w => by
    unfold tNumL
    rw [rHere_j h4 h8, tDigit_j h4 h8, tNumL_j h4 h8 m]
theorem tCell_j (h4 : c ≠ 4) (h8 : c ≠ 8) : tCell (xr_j r c F) = tCell r := by
  funext a w
  unfold tCell tNum
  simp only [tNumL_j h4 h8, tDigit_j h4 h8]
theorem rSane_j (hs : rSane r) : rSane (xr_j r c F) := hs
theorem isc_Rj : x_isc (hR h (rRj r c F a w)) 1 0 12 = true := rfl
theorem u_fine : (gg (n + 1) 182).2 [.inr (.inr (.inl (1, 0)))] (hR h (rRj r c F a w)) = some (some (.inl (if w = -1 then 1 else 0)), hR h (rRj r c F a w)) := t_fine
theorem u_here (h4 : c ≠ 4) (h8 : c ≠ 8) (hs : rSane r) (ha : 0 ≤ a) : (gg (n + 1) 181).2 [.inr (.inr (.inl (1, 0)))] (hR h (rRj r c F a w)) = some (some (.inl (rHere r a)), hR h (rRj r c F a w)) := by
  have f := t_here (n := n) (h := h) (w := w) (rSane_j (c := c) (F := F) hs) ha
  rw [rHere_j h4 h8] at f
  exact f
theorem u_fault (v : Int) : (gg (n + 2) 183).2 [.inr (.inr (.inl (1, 0))), .inl v] (hR h (rRj r c F a w)) = some (none, hR h (rRj r c F a (if w = -1 then v else w))) := t_fault v
theorem u_ps (h4 : c ≠ 4) (h8 : c ≠ 8) (hs : rSane r) (ha : 0 ≤ a) (ha2 : a < 1000) (k : Int) : (gg (n + 2) 184).2 [.inr (.inr (.inl (1, 0))), .inl k] (hR h (rRj r c F a w)) = some (some (.inl (tPs r k a w).1), hR h (rRj r c F (tPs r k a w).2.1 (tPs r k a w).2.2)) := by
  have f := t_passes (n := n) (h := h) (w := w) (rSane_j (c := c) (F := F) hs) ha ha2 k
  rw [rHere_j h4 h8] at f
  unfold tPs
  unfold rRj
  rw [f]
  split <;> rfl
theorem u_need (h4 : c ≠ 4) (h8 : c ≠ 8) (hs : rSane r) (ha : 0 ≤ a) (ha2 : a < 1000) (k : Int) : (gg (n + 3) 185).2 [.inr (.inr (.inl (1, 0))), .inl k] (hR h (rRj r c F a w)) = some (none, hR h (rRj r c F (tNeed r k a w).1 (tNeed r k a w).2)) := by
  have f := t_need (n := n) (h := h) (w := w) (rSane_j (c := c) (F := F) hs) ha ha2 k
  rw [rHere_j h4 h8] at f
  unfold tNeed
  unfold rRj
  rw [f]
  split
  · split <;> rfl
  · rfl
theorem u_digit (h4 : c ≠ 4) (h8 : c ≠ 8) (hs : rSane r) (ha : 0 ≤ a) (ha2 : a < 1000) {lo hi : Int} (hlo : 0 ≤ lo) (hlo2 : lo ≤ 9) (hhi : 0 ≤ hi) (hhi2 : hi ≤ 9) : (gg (n + 3) 186).2 [.inr (.inr (.inl (1, 0))), .inl lo, .inl hi] (hR h (rRj r c F a w)) = some (some (.inl (tDigit r a w lo hi).1), hR h (rRj r c F (tDigit r a w lo hi).2.1 (tDigit r a w lo hi).2.2)) := by
  have f := t_digit (n := n) (h := h) (w := w) (rSane_j (c := c) (F := F) hs) ha ha2 hlo hlo2 hhi hhi2
  rw [tDigit_j h4 h8] at f
  exact f
theorem u_letter (h4 : c ≠ 4) (h8 : c ≠ 8) (hs : rSane r) (ha : 0 ≤ a) (ha2 : a < 1000) (m : Int) : (gg (n + 3) 188).2 [.inr (.inr (.inl (1, 0))), .inl m] (hR h (rRj r c F a w)) = some (some (.inl (tLetter r a w m).1), hR h (rRj r c F (tLetter r a w m).2.1 (tLetter r a w m).2.2)) := by
  have f := t_letter (n := n) (h := h) (w := w) (rSane_j (c := c) (F := F) hs) ha ha2 m
  rw [tLetter_j h4 h8] at f
  exact f
theorem u_cell (h4 : c ≠ 4) (h8 : c ≠ 8) (hs : rSane r) (ha : 0 ≤ a) (ha2 : a < 800) : (gg (n + 5) 189).2 [.inr (.inr (.inl (1, 0)))] (hR h (rRj r c F a w)) = some (some (.inl (tCell r a w).1), hR h (rRj r c F (tCell r a w).2.1 (tCell r a w).2.2)) := by
  have f := t_cell (n := n) (h := h) (w := w) (rSane_j (c := c) (F := F) hs) ha ha2
  rw [tCell_j h4 h8] at f
  exact f
end RJ
/-- places: what a reading leaves them at -/
theorem tPs_at {r : xR} {k a w : Int} : a ≤ (tPs r k a w).2.1 ∧ (tPs r k a w).2.1 ≤ a + 1 := by
  unfold tPs
  split <;> constructor <;> dsimp only <;> omega
theorem tNeed_at {r : xR} {k a w : Int} : a ≤ (tNeed r k a w).1 ∧ (tNeed r k a w).1 ≤ a + 1 := by
  unfold tNeed
  split
  · split <;> constructor <;> dsimp only <;> omega
  · constructor <;> dsimp only <;> omega
theorem tLetter_at {r : xR} {a w m : Int} : a ≤ (tLetter r a w m).2.1 ∧ (tLetter r a w m).2.1 ≤ a + 1 := by
  unfold tLetter
  split
  · split <;> constructor <;> dsimp only <;> omega
  · constructor <;> dsimp only <;> omega
theorem tCell_at {r : xR} {a w : Int} : a ≤ (tCell r a w).2.1 ∧ (tCell r a w).2.1 ≤ a + 2 := by
  have hd := tDigit_at (r := r) (a := a) (w := w) (lo := 0) (hi := 9)
  have h1 := tNumL_at (r := r) 1 (tDigit r a w 0 9).1 (tDigit r a w 0 9).2.1 (tDigit r a w 0 9).2.2
  show a ≤ (tNumL r 1 (tDigit r a w 0 9).1 (tDigit r a w 0 9).2.1 (tDigit r a w 0 9).2.2).2.1 ∧ (tNumL r 1 (tDigit r a w 0 9).1 (tDigit r a w 0 9).2.1 (tDigit r a w 0 9).2.2).2.1 ≤ a + 2
  omega
theorem tPs_01 {r : xR} {k a w : Int} : (tPs r k a w).1 = 0 ∨ (tPs r k a w).1 = 1 := by
  unfold tPs
  split
  · exact Or.inr rfl
  · exact Or.inl rfl
theorem tPs_1 {r : xR} {k a w : Int} (e : (tPs r k a w).1 = 1) : (tPs r k a w).2.2 = -1 := by
  unfold tPs at e ⊢
  split at e
  · rename_i c
    rw [if_pos c]
    exact c.1
  · cases e
/-- a course: dx dy, place, fault -/
def tCr1 (r : xR) (k m a w : Int) : Int × Int × Int × Int := if (tPs r k a w).1 = 1 then (1, 0, (tPs r k a w).2) else (0, tPs r m (tPs r k a w).2.1 (tPs r k a w).2.2)
def tCrs (r : xR) (a w : Int) : Int × Int × Int × Int :=
  if (tPs r 45 a w).1 = 1 then (0, 0, (tPs r 45 a w).2)
  else
    let u := tCr1 r 110 115 (tPs r 45 a w).2.1 (tPs r 45 a w).2.2
    let v := tCr1 r 101 119 u.2.2.1 u.2.2.2
    (if v.1 = 1 then 1 else if v.2.1 = 1 then -1 else 0, if u.1 = 1 then -1 else if u.2.1 = 1 then 1 else 0, v.2.2.1, if (u.1 = 0 ∧ u.2.1 = 0 ∧ v.1 = 0 ∧ v.2.1 = 0) ∧ v.2.2.2 = -1 then v.2.2.1 else v.2.2.2)
/-- a boat's line: x y dx dy hull, place, fault -/
def tBoat (r : xR) (a w : Int) : (Int × Int × Int × Int × Int) × Int × Int :=
  let x := tCell r a w
  let m := tNeed r 44 x.2.1 x.2.2
  let y := tCell r m.1 m.2
  let c := tCrs r y.2.1 y.2.2
  let d := tDigit r c.2.2.1 c.2.2.2 0 5
  ((x.1, y.1, c.1, c.2.1, d.1), d.2)
theorem tCr1_at {r : xR} {k m a w : Int} : a ≤ (tCr1 r k m a w).2.2.1 ∧ (tCr1 r k m a w).2.2.1 ≤ a + 2 := by
  have h1 := tPs_at (r := r) (k := k) (a := a) (w := w)
  have h2 := tPs_at (r := r) (k := m) (a := (tPs r k a w).2.1) (w := (tPs r k a w).2.2)
  unfold tCr1
  split
  · dsimp only
    omega
  · dsimp only
    omega
theorem tCr1_01 {r : xR} {k m a w : Int} : ((tCr1 r k m a w).1 = 0 ∨ (tCr1 r k m a w).1 = 1) ∧ ((tCr1 r k m a w).2.1 = 0 ∨ (tCr1 r k m a w).2.1 = 1) := by
  unfold tCr1
  split
  · exact ⟨Or.inr rfl, Or.inl rfl⟩
  · exact ⟨Or.inl rfl, tPs_01⟩
theorem tCrs_at {r : xR} {a w : Int} : a ≤ (tCrs r a w).2.2.1 ∧ (tCrs r a w).2.2.1 ≤ a + 5 := by
  have h1 := tPs_at (r := r) (k := 45) (a := a) (w := w)
  have h2 := tCr1_at (r := r) (k := 110) (m := 115) (a := (tPs r 45 a w).2.1) (w := (tPs r 45 a w).2.2)
  have h3 := tCr1_at (r := r) (k := 101) (m := 119) (a := (tCr1 r 110 115 (tPs r 45 a w).2.1 (tPs r 45 a w).2.2).2.2.1) (w := (tCr1 r 110 115 (tPs r 45 a w).2.1 (tPs r 45 a w).2.2).2.2.2)
  unfold tCrs
  split
  · dsimp only
    omega
  · dsimp only
    omega
theorem tBoat_at {r : xR} {a w : Int} : a ≤ (tBoat r a w).2.1 ∧ (tBoat r a w).2.1 ≤ a + 11 := by
  unfold tBoat
  dsimp only
  have h1 := tCell_at (r := r) (a := a) (w := w)
  generalize tCell r a w = x at *
  have h2 := tNeed_at (r := r) (k := 44) (a := x.2.1) (w := x.2.2)
  generalize tNeed r 44 x.2.1 x.2.2 = m at *
  have h3 := tCell_at (r := r) (a := m.1) (w := m.2)
  generalize tCell r m.1 m.2 = y at *
  have h4 := tCrs_at (r := r) (a := y.2.1) (w := y.2.2)
  generalize tCrs r y.2.1 y.2.2 = c at *
  have h5 := tDigit_at (r := r) (a := c.2.2.1) (w := c.2.2.2) (lo := 0) (hi := 5)
  omega
