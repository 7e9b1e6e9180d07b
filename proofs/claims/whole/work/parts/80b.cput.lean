/-! ===== the class's cells are written ===== -/
section ZP
variable {k : Nat} {z : Nat → Int} {v : Int}
theorem z_t {p : Nat} (hp : p < 141) : (fun i => xfu z p v (141 + i)) = fun i => z (141 + i) := funext fun i => xfu_ne _ _ (by omega)
theorem zp_b0 {b : Nat} (hb : b < 6) : (z_lay k z).set (5 + b) (.inl (0, [.inl v, .inl (z (6 + b)), .inl (z (12 + b)), .inl (z (18 + b)), .inl (z (24 + b)), .inl (z (30 + b))])) = z_lay k (xfu z (b) v) := by
  unfold z_lay
  rw [z_t (by omega)]
  generalize (fun i => z (141 + i)) = t
  match b, hb with
  | 0, _ => rfl
  | 1, _ => rfl
  | 2, _ => rfl
  | 3, _ => rfl
  | 4, _ => rfl
  | 5, _ => rfl
theorem zp_b1 {b : Nat} (hb : b < 6) : (z_lay k z).set (5 + b) (.inl (0, [.inl (z (b)), .inl v, .inl (z (12 + b)), .inl (z (18 + b)), .inl (z (24 + b)), .inl (z (30 + b))])) = z_lay k (xfu z (6 + b) v) := by
  unfold z_lay
  rw [z_t (by omega)]
  generalize (fun i => z (141 + i)) = t
  match b, hb with
  | 0, _ => rfl
  | 1, _ => rfl
  | 2, _ => rfl
  | 3, _ => rfl
  | 4, _ => rfl
  | 5, _ => rfl
theorem zp_b2 {b : Nat} (hb : b < 6) : (z_lay k z).set (5 + b) (.inl (0, [.inl (z (b)), .inl (z (6 + b)), .inl v, .inl (z (18 + b)), .inl (z (24 + b)), .inl (z (30 + b))])) = z_lay k (xfu z (12 + b) v) := by
  unfold z_lay
  rw [z_t (by omega)]
  generalize (fun i => z (141 + i)) = t
  match b, hb with
  | 0, _ => rfl
  | 1, _ => rfl
  | 2, _ => rfl
  | 3, _ => rfl
  | 4, _ => rfl
  | 5, _ => rfl
theorem zp_b3 {b : Nat} (hb : b < 6) : (z_lay k z).set (5 + b) (.inl (0, [.inl (z (b)), .inl (z (6 + b)), .inl (z (12 + b)), .inl v, .inl (z (24 + b)), .inl (z (30 + b))])) = z_lay k (xfu z (18 + b) v) := by
  unfold z_lay
  rw [z_t (by omega)]
  generalize (fun i => z (141 + i)) = t
  match b, hb with
  | 0, _ => rfl
  | 1, _ => rfl
  | 2, _ => rfl
  | 3, _ => rfl
  | 4, _ => rfl
  | 5, _ => rfl
theorem zp_b4 {b : Nat} (hb : b < 6) : (z_lay k z).set (5 + b) (.inl (0, [.inl (z (b)), .inl (z (6 + b)), .inl (z (12 + b)), .inl (z (18 + b)), .inl v, .inl (z (30 + b))])) = z_lay k (xfu z (24 + b) v) := by
  unfold z_lay
  rw [z_t (by omega)]
  generalize (fun i => z (141 + i)) = t
  match b, hb with
  | 0, _ => rfl
  | 1, _ => rfl
  | 2, _ => rfl
  | 3, _ => rfl
  | 4, _ => rfl
  | 5, _ => rfl
theorem zp_b5 {b : Nat} (hb : b < 6) : (z_lay k z).set (5 + b) (.inl (0, [.inl (z (b)), .inl (z (6 + b)), .inl (z (12 + b)), .inl (z (18 + b)), .inl (z (24 + b)), .inl v])) = z_lay k (xfu z (30 + b) v) := by
  unfold z_lay
  rw [z_t (by omega)]
  generalize (fun i => z (141 + i)) = t
  match b, hb with
  | 0, _ => rfl
  | 1, _ => rfl
  | 2, _ => rfl
  | 3, _ => rfl
  | 4, _ => rfl
  | 5, _ => rfl
theorem zp_g0 {g : Nat} (hb : g < 8) : (z_lay k z).set (11 + g) (.inl (3, [.inl v, .inl (z (36 + g)), .inl (z (124 + g)), .inl (z (44 + g)), .inl (z (52 + g)), .inl (z (60 + g)), .inl (z (68 + g)), .inl (z (76 + g))])) = z_lay k (xfu z (116 + g) v) := by
  unfold z_lay
  rw [z_t (by omega)]
  generalize (fun i => z (141 + i)) = t
  match g, hb with
  | 0, _ => rfl
  | 1, _ => rfl
  | 2, _ => rfl
  | 3, _ => rfl
  | 4, _ => rfl
  | 5, _ => rfl
  | 6, _ => rfl
  | 7, _ => rfl
theorem zp_g1 {g : Nat} (hb : g < 8) : (z_lay k z).set (11 + g) (.inl (3, [.inl (z (116 + g)), .inl v, .inl (z (124 + g)), .inl (z (44 + g)), .inl (z (52 + g)), .inl (z (60 + g)), .inl (z (68 + g)), .inl (z (76 + g))])) = z_lay k (xfu z (36 + g) v) := by
  unfold z_lay
  rw [z_t (by omega)]
  generalize (fun i => z (141 + i)) = t
  match g, hb with
  | 0, _ => rfl
  | 1, _ => rfl
  | 2, _ => rfl
  | 3, _ => rfl
  | 4, _ => rfl
  | 5, _ => rfl
  | 6, _ => rfl
  | 7, _ => rfl
theorem zp_g2 {g : Nat} (hb : g < 8) : (z_lay k z).set (11 + g) (.inl (3, [.inl (z (116 + g)), .inl (z (36 + g)), .inl v, .inl (z (44 + g)), .inl (z (52 + g)), .inl (z (60 + g)), .inl (z (68 + g)), .inl (z (76 + g))])) = z_lay k (xfu z (124 + g) v) := by
  unfold z_lay
  rw [z_t (by omega)]
  generalize (fun i => z (141 + i)) = t
  match g, hb with
  | 0, _ => rfl
  | 1, _ => rfl
  | 2, _ => rfl
  | 3, _ => rfl
  | 4, _ => rfl
  | 5, _ => rfl
  | 6, _ => rfl
  | 7, _ => rfl
theorem zp_g3 {g : Nat} (hb : g < 8) : (z_lay k z).set (11 + g) (.inl (3, [.inl (z (116 + g)), .inl (z (36 + g)), .inl (z (124 + g)), .inl v, .inl (z (52 + g)), .inl (z (60 + g)), .inl (z (68 + g)), .inl (z (76 + g))])) = z_lay k (xfu z (44 + g) v) := by
  unfold z_lay
  rw [z_t (by omega)]
  generalize (fun i => z (141 + i)) = t
  match g, hb with
  | 0, _ => rfl
  | 1, _ => rfl
  | 2, _ => rfl
  | 3, _ => rfl
  | 4, _ => rfl
  | 5, _ => rfl
  | 6, _ => rfl
  | 7, _ => rfl
theorem zp_g4 {g : Nat} (hb : g < 8) : (z_lay k z).set (11 + g) (.inl (3, [.inl (z (116 + g)), .inl (z (36 + g)), .inl (z (124 + g)), .inl (z (44 + g)), .inl v, .inl (z (60 + g)), .inl (z (68 + g)), .inl (z (76 + g))])) = z_lay k (xfu z (52 + g) v) := by
  unfold z_lay
  rw [z_t (by omega)]
  generalize (fun i => z (141 + i)) = t
  match g, hb with
  | 0, _ => rfl
  | 1, _ => rfl
  | 2, _ => rfl
  | 3, _ => rfl
  | 4, _ => rfl
  | 5, _ => rfl
  | 6, _ => rfl
  | 7, _ => rfl
theorem zp_g5 {g : Nat} (hb : g < 8) : (z_lay k z).set (11 + g) (.inl (3, [.inl (z (116 + g)), .inl (z (36 + g)), .inl (z (124 + g)), .inl (z (44 + g)), .inl (z (52 + g)), .inl v, .inl (z (68 + g)), .inl (z (76 + g))])) = z_lay k (xfu z (60 + g) v) := by
  unfold z_lay
  rw [z_t (by omega)]
  generalize (fun i => z (141 + i)) = t
  match g, hb with
  | 0, _ => rfl
  | 1, _ => rfl
  | 2, _ => rfl
  | 3, _ => rfl
  | 4, _ => rfl
  | 5, _ => rfl
  | 6, _ => rfl
  | 7, _ => rfl
theorem zp_g6 {g : Nat} (hb : g < 8) : (z_lay k z).set (11 + g) (.inl (3, [.inl (z (116 + g)), .inl (z (36 + g)), .inl (z (124 + g)), .inl (z (44 + g)), .inl (z (52 + g)), .inl (z (60 + g)), .inl v, .inl (z (76 + g))])) = z_lay k (xfu z (68 + g) v) := by
  unfold z_lay
  rw [z_t (by omega)]
  generalize (fun i => z (141 + i)) = t
  match g, hb with
  | 0, _ => rfl
  | 1, _ => rfl
  | 2, _ => rfl
  | 3, _ => rfl
  | 4, _ => rfl
  | 5, _ => rfl
  | 6, _ => rfl
  | 7, _ => rfl
theorem zp_g7 {g : Nat} (hb : g < 8) : (z_lay k z).set (11 + g) (.inl (3, [.inl (z (116 + g)), .inl (z (36 + g)), .inl (z (124 + g)), .inl (z (44 + g)), .inl (z (52 + g)), .inl (z (60 + g)), .inl (z (68 + g)), .inl v])) = z_lay k (xfu z (76 + g) v) := by
  unfold z_lay
  rw [z_t (by omega)]
  generalize (fun i => z (141 + i)) = t
  match g, hb with
  | 0, _ => rfl
  | 1, _ => rfl
  | 2, _ => rfl
  | 3, _ => rfl
  | 4, _ => rfl
  | 5, _ => rfl
  | 6, _ => rfl
  | 7, _ => rfl
theorem zp_l0 {l : Nat} (hb : l < 10) : (z_lay k z).set (19 + l) (.inl (5, [.inl v, .inl (z (94 + l)), .inl (z (104 + l))])) = z_lay k (xfu z (84 + l) v) := by
  unfold z_lay
  rw [z_t (by omega)]
  generalize (fun i => z (141 + i)) = t
  match l, hb with
  | 0, _ => rfl
  | 1, _ => rfl
  | 2, _ => rfl
  | 3, _ => rfl
  | 4, _ => rfl
  | 5, _ => rfl
  | 6, _ => rfl
  | 7, _ => rfl
  | 8, _ => rfl
  | 9, _ => rfl
theorem zp_l1 {l : Nat} (hb : l < 10) : (z_lay k z).set (19 + l) (.inl (5, [.inl (z (84 + l)), .inl v, .inl (z (104 + l))])) = z_lay k (xfu z (94 + l) v) := by
  unfold z_lay
  rw [z_t (by omega)]
  generalize (fun i => z (141 + i)) = t
  match l, hb with
  | 0, _ => rfl
  | 1, _ => rfl
  | 2, _ => rfl
  | 3, _ => rfl
  | 4, _ => rfl
  | 5, _ => rfl
  | 6, _ => rfl
  | 7, _ => rfl
  | 8, _ => rfl
  | 9, _ => rfl
theorem zp_l2 {l : Nat} (hb : l < 10) : (z_lay k z).set (19 + l) (.inl (5, [.inl (z (84 + l)), .inl (z (94 + l)), .inl v])) = z_lay k (xfu z (104 + l) v) := by
  unfold z_lay
  rw [z_t (by omega)]
  generalize (fun i => z (141 + i)) = t
  match l, hb with
  | 0, _ => rfl
  | 1, _ => rfl
  | 2, _ => rfl
  | 3, _ => rfl
  | 4, _ => rfl
  | 5, _ => rfl
  | 6, _ => rfl
  | 7, _ => rfl
  | 8, _ => rfl
  | 9, _ => rfl
theorem zp_s3 : (z_lay k z).set 0 (.inl (7, (z_fs k z).set 3 (.inl v))) = z_lay k (xfu z 132 v) := by
  unfold z_lay
  rw [z_t (by omega)]
  generalize (fun i => z (141 + i)) = t
  rfl
theorem zp_s4 : (z_lay k z).set 0 (.inl (7, (z_fs k z).set 4 (.inl v))) = z_lay k (xfu z 133 v) := by
  unfold z_lay
  rw [z_t (by omega)]
  generalize (fun i => z (141 + i)) = t
  rfl
theorem zp_s5 : (z_lay k z).set 0 (.inl (7, (z_fs k z).set 5 (.inl v))) = z_lay k (xfu z 114 v) := by
  unfold z_lay
  rw [z_t (by omega)]
  generalize (fun i => z (141 + i)) = t
  rfl
theorem zp_s6 : (z_lay k z).set 0 (.inl (7, (z_fs k z).set 6 (.inl v))) = z_lay k (xfu z 115 v) := by
  unfold z_lay
  rw [z_t (by omega)]
  generalize (fun i => z (141 + i)) = t
  rfl
theorem zp_s7 : (z_lay k z).set 0 (.inl (7, (z_fs k z).set 7 (.inl v))) = z_lay k (xfu z 134 v) := by
  unfold z_lay
  rw [z_t (by omega)]
  generalize (fun i => z (141 + i)) = t
  rfl
theorem zp_s8 : (z_lay k z).set 0 (.inl (7, (z_fs k z).set 8 (.inl v))) = z_lay k (xfu z 135 v) := by
  unfold z_lay
  rw [z_t (by omega)]
  generalize (fun i => z (141 + i)) = t
  rfl
theorem zp_s9 : (z_lay k z).set 0 (.inl (7, (z_fs k z).set 9 (.inl v))) = z_lay k (xfu z 136 v) := by
  unfold z_lay
  rw [z_t (by omega)]
  generalize (fun i => z (141 + i)) = t
  rfl
theorem zp_s10 : (z_lay k z).set 0 (.inl (7, (z_fs k z).set 10 (.inl v))) = z_lay k (xfu z 137 v) := by
  unfold z_lay
  rw [z_t (by omega)]
  generalize (fun i => z (141 + i)) = t
  rfl
theorem zp_s11 : (z_lay k z).set 0 (.inl (7, (z_fs k z).set 11 (.inl v))) = z_lay k (xfu z 138 v) := by
  unfold z_lay
  rw [z_t (by omega)]
  generalize (fun i => z (141 + i)) = t
  rfl
theorem zp_s12 : (z_lay k z).set 0 (.inl (7, (z_fs k z).set 12 (.inl v))) = z_lay k (xfu z 139 v) := by
  unfold z_lay
  rw [z_t (by omega)]
  generalize (fun i => z (141 + i)) = t
  rfl
theorem zp_s13 : (z_lay k z).set 0 (.inl (7, (z_fs k z).set 13 (.inl v))) = z_lay k (xfu z 140 v) := by
  unfold z_lay
  rw [z_t (by omega)]
  generalize (fun i => z (141 + i)) = t
  rfl
theorem zp_t {i : Nat} (hi : i < 7) : (z_lay k z).set 4 (.inr (.inl (0, 7, xfu (fun i => z (141 + i)) i v))) = z_lay k (xfu z (141 + i) v) := by
  have e : xfu (fun i => z (141 + i)) i v = fun j => xfu z (141 + i) v (141 + j) := by
    funext j
    unfold xfu
    by_cases c : j = i
    · subst c
      rw [if_pos rfl, if_pos rfl]
    · rw [if_neg c, if_neg (by omega)]
  rw [e]
  match i, hi with
  | 0, _ => rfl
  | 1, _ => rfl
  | 2, _ => rfl
  | 3, _ => rfl
  | 4, _ => rfl
  | 5, _ => rfl
  | 6, _ => rfl
end ZP
