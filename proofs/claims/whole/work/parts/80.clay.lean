/-! ===== the class's cells: region 0 by numbers (c.1) and rows (c.2.1), its seas by one row each (c.2.2) ===== -/
abbrev xQ : Type := (Nat → Int) × (Nat → Nat → Int) × (Nat → Nat → Int)
def c_lay (c : xQ) : List xC := [.inl (11, [.inr (.inr (.inl (0, 1))), .inr (.inr (.inl (0, 3))), .inr (.inr (.inl (3, 0))), .inr (.inr (.inl (4, 0))), .inr (.inr (.inl (0, 7))), .inr (.inr (.inl (0, 9))), .inr (.inr (.inl (0, 10))), .inr (.inr (.inl (0, 11))), .inr (.inr (.inl (0, 15))), .inr (.inr (.inl (0, 19))), .inr (.inr (.inl (0, 24))), .inr (.inr (.inl (0, 25))), .inr (.inr (.inl (0, 26))), .inr (.inr (.inl (0, 27))), .inl (c.1 0), .inr (.inr (.inl (0, 28))), .inl (c.1 1)]), .inl (9, [.inr (.inr (.inl (0, 2))), .inl (c.1 2), .inl (c.1 3), .inl (c.1 4), .inl (c.1 5)]), .inr (.inl (2, 80, c.2.1 2)), .inl (6, [.inr (.inr (.inl (0, 4))), .inl (c.1 6), .inr (.inr (.inl (0, 5))), .inl (c.1 7), .inr (.inr (.inl (0, 6)))]), .inr (.inl (0, 40, c.2.1 4)), .inr (.inl (0, 40, c.2.1 5)), .inr (.inl (0, 40, c.2.1 6)), .inl (4, [.inr (.inr (.inl (0, 8))), .inl (c.1 8), .inl (c.1 9)]), .inr (.inr (7, 13, fun i => if i < 13 then some (i + 2 + 3, 0) else none)), .inr (.inr (7, 2, fun i => if i < 2 then some (i + 15 + 3, 0) else none)), .inr (.inl (4, 2, c.2.1 10)), .inl (1, [.inr (.inr (.inl (0, 12))), .inr (.inr (.inl (0, 13))), .inr (.inr (.inl (0, 14))), .inl (c.1 10)]), .inr (.inl (0, 31, c.2.1 12)), .inr (.inl (0, 31, c.2.1 13)), .inr (.inl (0, 31, c.2.1 14)), .inl (8, [.inr (.inr (.inl (0, 16))), .inr (.inr (.inl (0, 17))), .inr (.inr (.inl (0, 18))), .inl (c.1 11)]), .inr (.inl (0, 6, c.2.1 16)), .inr (.inl (0, 366, c.2.1 17)), .inr (.inl (0, 48, c.2.1 18)), .inl (10, [.inr (.inr (.inl (0, 20))), .inl (c.1 12), .inr (.inr (.inl (0, 21))), .inr (.inr (.inl (0, 22))), .inr (.inr (.inl (0, 23))), .inl (c.1 13)]), .inr (.inl (0, 6, c.2.1 20)), .inr (.inl (0, 6, c.2.1 21)), .inr (.inl (3, 9, c.2.1 22)), .inr (.inl (3, 9, c.2.1 23)), .inl (2, [.inl (c.1 14)]), .inl (3, [.inl (c.1 15), .inl (c.1 16), .inl (c.1 17), .inl (c.1 18), .inl (c.1 19), .inl (c.1 20), .inl (c.1 21), .inl (c.1 22)]), .inr (.inl (0, 12, c.2.1 26)), .inr (.inl (0, 12, c.2.1 27)), .inr (.inl (0, 8, c.2.1 28))]
def z_bo (z : Nat → Int) (b : Nat) : xC := .inl (0, [.inl (z (b)), .inl (z (6 + b)), .inl (z (12 + b)), .inl (z (18 + b)), .inl (z (24 + b)), .inl (z (30 + b))])
def z_gu (z : Nat → Int) (g : Nat) : xC := .inl (3, [.inl (z (116 + g)), .inl (z (36 + g)), .inl (z (124 + g)), .inl (z (44 + g)), .inl (z (52 + g)), .inl (z (60 + g)), .inl (z (68 + g)), .inl (z (76 + g))])
def z_le (z : Nat → Int) (l : Nat) : xC := .inl (5, [.inl (z (84 + l)), .inl (z (94 + l)), .inl (z (104 + l))])
def z_fs (k : Nat) (z : Nat → Int) : List xV := [.inr (.inr (.inl (k + 3, 1))), .inr (.inr (.inl (k + 3, 2))), .inr (.inr (.inl (k + 3, 3))), .inl (z 132), .inl (z 133), .inl (z 114), .inl (z 115), .inl (z 134), .inl (z 135), .inl (z 136), .inl (z 137), .inl (z 138), .inl (z 139), .inl (z 140), .inr (.inr (.inl (0, 3))), .inr (.inr (.inl (k + 3, 4)))]
def z_layt (k : Nat) (z t : Nat → Int) : List xC := [.inl (7, z_fs k z), .inr (.inr (0, 6, fun i => if i < 6 then some (k + 3, 5 + i) else none)), .inr (.inr (3, 8, fun i => if i < 8 then some (k + 3, 11 + i) else none)), .inr (.inr (5, 10, fun i => if i < 10 then some (k + 3, 19 + i) else none)), .inr (.inl (0, 7, t)), z_bo z 0, z_bo z 1, z_bo z 2, z_bo z 3, z_bo z 4, z_bo z 5, z_gu z 0, z_gu z 1, z_gu z 2, z_gu z 3, z_gu z 4, z_gu z 5, z_gu z 6, z_gu z 7, z_le z 0, z_le z 1, z_le z 2, z_le z 3, z_le z 4, z_le z 5, z_le z 6, z_le z 7, z_le z 8, z_le z 9]
def z_lay (k : Nat) (z : Nat → Int) : List xC := z_layt k z (fun i => z (141 + i))
/-- the heap with the class in its regions -/
def hC (h : xH) (c : xQ) : xH := (c_lay c, h.2.1, h.2.2.1, fun k => if k < 17 then z_lay k (c.2.2 k) else h.2.2.2.1 k, h.2.2.2.2)
def q_i (c : xQ) (k : Nat) (v : Int) : xQ := (xfu c.1 k v, c.2)
def q_a (c : xQ) (j i : Nat) (v : Int) : xQ := (c.1, xfu c.2.1 j (xfu (c.2.1 j) i v), c.2.2)
def q_j (c : xQ) (j : Nat) (f : Nat → Int) : xQ := (c.1, xfu c.2.1 j f, c.2.2)
def q_z (c : xQ) (k : Nat) (z : Nat → Int) : xQ := (c.1, c.2.1, xfu c.2.2 k z)
section QZ
variable {h : xH} {c : xQ} {k : Nat} {z z' : Nat → Int}
theorem q_zs : (q_z c k z).2.2 k = z := xfu_self _ _ _
theorem q_zn {k' : Nat} (hn : k' ≠ k) : (q_z c k z).2.2 k' = c.2.2 k' := xfu_ne _ _ hn
theorem q_zz : q_z (q_z c k z) k z' = q_z c k z' := by unfold q_z; dsimp only; rw [xfu_twice]
theorem q_z0 : q_z c k (c.2.2 k) = c := by unfold q_z; rw [xfu_get]
theorem q_z1 : (q_z c k z).1 = c.1 := rfl
theorem q_z2 : (q_z c k z).2.1 = c.2.1 := rfl
theorem q_iz {i : Nat} {v : Int} : q_i (q_z c k z) i v = q_z (q_i c i v) k z := rfl
theorem q_az {j i : Nat} {v : Int} : q_a (q_z c k z) j i v = q_z (q_a c j i v) k z := rfl
theorem q_jz {j : Nat} {f : Nat → Int} : q_j (q_z c k z) j f = q_z (q_j c j f) k z := rfl
theorem q_i2 {i : Nat} {v : Int} : (q_i c i v).2 = c.2 := rfl
theorem q_a1 {j i : Nat} {v : Int} : (q_a c j i v).1 = c.1 := rfl
theorem q_j1 {j : Nat} {f : Nat → Int} : (q_j c j f).1 = c.1 := rfl
theorem q_ig {i j : Nat} {v : Int} : (q_i c i v).1 j = if j = i then v else c.1 j := rfl
theorem q_ii {i : Nat} {v w : Int} : q_i (q_i c i v) i w = q_i c i w := by unfold q_i; dsimp only; rw [xfu_twice]
theorem q_i0 {i : Nat} : q_i c i (c.1 i) = c := by unfold q_i; rw [xfu_get]
theorem q_aj {j i : Nat} {v : Int} : q_a c j i v = q_j c j (xfu (c.2.1 j) i v) := rfl
theorem q_jj {j : Nat} {f g : Nat → Int} : q_j (q_j c j f) j g = q_j c j g := by unfold q_j; dsimp only; rw [xfu_twice]
theorem q_j0 {j : Nat} : q_j c j (c.2.1 j) = c := by unfold q_j; rw [xfu_get]
theorem q_js {j : Nat} {f : Nat → Int} : (q_j c j f).2.1 j = f := xfu_self _ _ _
theorem q_jn {j j' : Nat} {f : Nat → Int} (hn : j' ≠ j) : (q_j c j f).2.1 j' = c.2.1 j' := xfu_ne _ _ hn
theorem q_j22 {j : Nat} {f : Nat → Int} : (q_j c j f).2.2 = c.2.2 := rfl
theorem q_ij {i j : Nat} {v : Int} {f : Nat → Int} : q_j (q_i c i v) j f = q_i (q_j c j f) i v := rfl
theorem hC_rg (hk : k < 17) : xrg (hC h c) (k + 3) = z_lay k (c.2.2 k) := if_pos hk
theorem hC_cell (hk : k < 17) (i : Nat) : xcell (hC h c) (k + 3) i = (z_lay k (c.2.2 k))[i]? := by
  unfold xcell
  rw [hC_rg hk]
theorem hC_put (hk : k < 17) {i : Nat} {e : xC} (he : (z_lay k (c.2.2 k)).set i e = z_lay k z) : xput (hC h c) (k + 3) i e = hC h (q_z c k z) := by
  unfold xput
  rw [hC_rg hk, he]
  refine Prod.ext rfl (Prod.ext rfl (Prod.ext rfl (Prod.ext (funext fun j => ?_) rfl)))
  show xfu (fun k => if k < 17 then z_lay k (c.2.2 k) else h.2.2.2.1 k) k (z_lay k z) j = if j < 17 then z_lay j (xfu c.2.2 k z j) else h.2.2.2.1 j
  unfold xfu
  by_cases c1 : j = k
  · subst c1
    rw [if_pos rfl, if_pos hk, if_pos rfl]
  · rw [if_neg c1, if_neg c1]
theorem z_cb {b : Nat} (hb : b < 6) : (z_lay k z)[5 + b]? = some (z_bo z b) := by
  match b, hb with
  | 0, _ => rfl
  | 1, _ => rfl
  | 2, _ => rfl
  | 3, _ => rfl
  | 4, _ => rfl
  | 5, _ => rfl
theorem z_cg {g : Nat} (hg : g < 8) : (z_lay k z)[11 + g]? = some (z_gu z g) := by
  match g, hg with
  | 0, _ => rfl
  | 1, _ => rfl
  | 2, _ => rfl
  | 3, _ => rfl
  | 4, _ => rfl
  | 5, _ => rfl
  | 6, _ => rfl
  | 7, _ => rfl
theorem z_cl {l : Nat} (hl : l < 10) : (z_lay k z)[19 + l]? = some (z_le z l) := by
  match l, hl with
  | 0, _ => rfl
  | 1, _ => rfl
  | 2, _ => rfl
  | 3, _ => rfl
  | 4, _ => rfl
  | 5, _ => rfl
  | 6, _ => rfl
  | 7, _ => rfl
  | 8, _ => rfl
  | 9, _ => rfl
end QZ
