/-! ===== the seas, and the class with them ===== -/
/-- the cells of a new sea -/
def zn (k : Nat) (w : Nat × Nat) : List xC := [.inl (7, [.inr (.inr (.inl (k, 1))), .inr (.inr (.inl (k, 2))), .inr (.inr (.inl (k, 3))), .inl 0, .inl 0, .inl 0, .inl 0, .inl 0, .inl 0, .inl 0, .inl 0, .inl 0, .inl 0, .inl (-1), .inr (.inr (.inl w)), .inr (.inr (.inl (k, 4)))]), .inr (.inr (0, 6, (xfu (xfu (xfu (xfu (xfu (xfu (fun _ => none) 0 (some (k, 5))) 1 (some (k, 6))) 2 (some (k, 7))) 3 (some (k, 8))) 4 (some (k, 9))) 5 (some (k, 10))))), .inr (.inr (3, 8, (xfu (xfu (xfu (xfu (xfu (xfu (xfu (xfu (fun _ => none) 0 (some (k, 11))) 1 (some (k, 12))) 2 (some (k, 13))) 3 (some (k, 14))) 4 (some (k, 15))) 5 (some (k, 16))) 6 (some (k, 17))) 7 (some (k, 18))))), .inr (.inr (5, 10, (xfu (xfu (xfu (xfu (xfu (xfu (xfu (xfu (xfu (xfu (fun _ => none) 0 (some (k, 19))) 1 (some (k, 20))) 2 (some (k, 21))) 3 (some (k, 22))) 4 (some (k, 23))) 5 (some (k, 24))) 6 (some (k, 25))) 7 (some (k, 26))) 8 (some (k, 27))) 9 (some (k, 28))))), .inr (.inl (0, 7, fun _ => 0)), .inl (0, x_dd 0), .inl (0, x_dd 0), .inl (0, x_dd 0), .inl (0, x_dd 0), .inl (0, x_dd 0), .inl (0, x_dd 0), .inl (3, [.inl 0, .inl 0, .inl 0, .inl 0, .inl 0, .inl 0, .inl 0, .inl (-1)]), .inl (3, [.inl 0, .inl 0, .inl 0, .inl 0, .inl 0, .inl 0, .inl 0, .inl (-1)]), .inl (3, [.inl 0, .inl 0, .inl 0, .inl 0, .inl 0, .inl 0, .inl 0, .inl (-1)]), .inl (3, [.inl 0, .inl 0, .inl 0, .inl 0, .inl 0, .inl 0, .inl 0, .inl (-1)]), .inl (3, [.inl 0, .inl 0, .inl 0, .inl 0, .inl 0, .inl 0, .inl 0, .inl (-1)]), .inl (3, [.inl 0, .inl 0, .inl 0, .inl 0, .inl 0, .inl 0, .inl 0, .inl (-1)]), .inl (3, [.inl 0, .inl 0, .inl 0, .inl 0, .inl 0, .inl 0, .inl 0, .inl (-1)]), .inl (3, [.inl 0, .inl 0, .inl 0, .inl 0, .inl 0, .inl 0, .inl 0, .inl (-1)]), .inl (5, [.inl 0, .inl 0, .inl (-1)]), .inl (5, [.inl 0, .inl 0, .inl (-1)]), .inl (5, [.inl 0, .inl 0, .inl (-1)]), .inl (5, [.inl 0, .inl 0, .inl (-1)]), .inl (5, [.inl 0, .inl 0, .inl (-1)]), .inl (5, [.inl 0, .inl 0, .inl (-1)]), .inl (5, [.inl 0, .inl 0, .inl (-1)]), .inl (5, [.inl 0, .inl 0, .inl (-1)]), .inl (5, [.inl 0, .inl 0, .inl (-1)]), .inl (5, [.inl 0, .inl 0, .inl (-1)])]
section MZ
variable {n : Nat} {H : xH} {k m : Nat} {a b : Nat} {w : Nat × Nat}
theorem i_sea0 : xIs x_dd (gg (n + 1)) 3 [.aload 0, .pop2, .aload 0, .iconst 6, .anewarray 0, .putfield 8640, .aload 0, .iconst 8, .anewarray 3, .putfield 8641, .aload 0, .iconst 10, .anewarray 5, .putfield 8642, .aload 0, .iconst (-1), .putfield 461, .aload 0, .iconst 7, .newarray .int, .putfield 8655, .aload 0, .aload 1, .putfield 8654, .iconst 0, .istore 2] ([.inr (.inr (.inl (k, 0))), .inr (.inr (.inl w)), .inr (.inr (.inr 2))], [], hN H k [.inl (7, x_dd 7)] a b) = some ([.inr (.inr (.inl (k, 0))), .inr (.inr (.inl w)), .inl 0], [], hN H k ([.inl (7, [.inr (.inr (.inl (k, 1))), .inr (.inr (.inl (k, 2))), .inr (.inr (.inl (k, 3))), .inl 0, .inl 0, .inl 0, .inl 0, .inl 0, .inl 0, .inl 0, .inl 0, .inl 0, .inl 0, .inl (-1), .inr (.inr (.inl w)), .inr (.inr (.inl (k, 4)))]), .inr (.inr (0, 6, (fun _ => none))), .inr (.inr (3, 8, (fun _ => none))), .inr (.inr (5, 10, (fun _ => none))), .inr (.inl (0, 7, fun _ => 0))]) (a + 4) (b + 31)) := by
  have hr : x_reg 3 [.inr (.inr (.inl (k, 0))), .inr (.inr (.inl w)), .inr (.inr (.inr 2))] = k := rfl
  simp -implicitDefEqProofs (disch := first | assumption | decide | rfl) only [x_dd, Nat.zero_le, Nat.reduceLeDiff, Nat.le_refl, Nat.reduceEqDiff, List.getElem?_cons_zero, List.getElem?_cons_succ, xst, List.set_cons_zero, List.set_cons_succ, List.map_cons, List.map_nil, List.sum_cons, List.sum_nil, xcat, Nat.reduceMul, Nat.reduceDiv, Nat.reduceMod, Nat.add_zero, e_al, e_obj, e_iconst, e_istore, n_int, n_arr, n_put, hr, x_fit, List.length_cons, List.length_nil, List.cons_append, List.nil_append, Nat.reduceAdd, Nat.reduceLT, Int.reduceToNat, Nat.reduceMod, Nat.reduceDiv, and_self, if_true, true_and, e_nil]
  try rfl
theorem i_sea : (gg (n + 2) 37).2 [.inr (.inr (.inl (k, 0))), .inr (.inr (.inl w))] (hN H k [.inl (7, x_dd 7)] a b) = some (none, hN H k (zn k w) (a + 28) (b + 161)) := by
  rw [gr37]
  unfold fX7_init
  rw [k_sqo i_sea0, k_sqe s_boats, k_sqo (t := ([.inr (.inr (.inl (k, 0))), .inr (.inr (.inl w)), .inl 0], [], _)) rfl, k_sqe s_gulls, k_sqo (t := ([.inr (.inr (.inl (k, 0))), .inr (.inr (.inl w)), .inl 0], [], _)) rfl, k_sqe s_letters]
  rfl
theorem z_r1 : (fun i => if i < 6 then some (m + 3, 5 + i) else none : Nat → Option (Nat × Nat)) = (xfu (xfu (xfu (xfu (xfu (xfu (fun _ => none) 0 (some (m + 3, 5))) 1 (some (m + 3, 6))) 2 (some (m + 3, 7))) 3 (some (m + 3, 8))) 4 (some (m + 3, 9))) 5 (some (m + 3, 10))) := by
  funext i
  have hc : i = 0 ∨ i = 1 ∨ i = 2 ∨ i = 3 ∨ i = 4 ∨ i = 5 ∨ 6 ≤ i := by omega
  rcases hc with rfl | rfl | rfl | rfl | rfl | rfl | h
  · rfl
  · rfl
  · rfl
  · rfl
  · rfl
  · rfl
  · rw [if_neg (by omega), xfu_ne _ _ (by omega), xfu_ne _ _ (by omega), xfu_ne _ _ (by omega), xfu_ne _ _ (by omega), xfu_ne _ _ (by omega), xfu_ne _ _ (by omega)]
theorem z_r2 : (fun i => if i < 8 then some (m + 3, 11 + i) else none : Nat → Option (Nat × Nat)) = (xfu (xfu (xfu (xfu (xfu (xfu (xfu (xfu (fun _ => none) 0 (some (m + 3, 11))) 1 (some (m + 3, 12))) 2 (some (m + 3, 13))) 3 (some (m + 3, 14))) 4 (some (m + 3, 15))) 5 (some (m + 3, 16))) 6 (some (m + 3, 17))) 7 (some (m + 3, 18))) := by
  funext i
  have hc : i = 0 ∨ i = 1 ∨ i = 2 ∨ i = 3 ∨ i = 4 ∨ i = 5 ∨ i = 6 ∨ i = 7 ∨ 8 ≤ i := by omega
  rcases hc with rfl | rfl | rfl | rfl | rfl | rfl | rfl | rfl | h
  · rfl
  · rfl
  · rfl
  · rfl
  · rfl
  · rfl
  · rfl
  · rfl
  · rw [if_neg (by omega), xfu_ne _ _ (by omega), xfu_ne _ _ (by omega), xfu_ne _ _ (by omega), xfu_ne _ _ (by omega), xfu_ne _ _ (by omega), xfu_ne _ _ (by omega), xfu_ne _ _ (by omega), xfu_ne _ _ (by omega)]
theorem z_r3 : (fun i => if i < 10 then some (m + 3, 19 + i) else none : Nat → Option (Nat × Nat)) = (xfu (xfu (xfu (xfu (xfu (xfu (xfu (xfu (xfu (xfu (fun _ => none) 0 (some (m + 3, 19))) 1 (some (m + 3, 20))) 2 (some (m + 3, 21))) 3 (some (m + 3, 22))) 4 (some (m + 3, 23))) 5 (some (m + 3, 24))) 6 (some (m + 3, 25))) 7 (some (m + 3, 26))) 8 (some (m + 3, 27))) 9 (some (m + 3, 28))) := by
  funext i
  have hc : i = 0 ∨ i = 1 ∨ i = 2 ∨ i = 3 ∨ i = 4 ∨ i = 5 ∨ i = 6 ∨ i = 7 ∨ i = 8 ∨ i = 9 ∨ 10 ≤ i := by omega
  rcases hc with rfl | rfl | rfl | rfl | rfl | rfl | rfl | rfl | rfl | rfl | h
  · rfl
  · rfl
  · rfl
  · rfl
  · rfl
  · rfl
  · rfl
  · rfl
  · rfl
  · rfl
  · rw [if_neg (by omega), xfu_ne _ _ (by omega), xfu_ne _ _ (by omega), xfu_ne _ _ (by omega), xfu_ne _ _ (by omega), xfu_ne _ _ (by omega), xfu_ne _ _ (by omega), xfu_ne _ _ (by omega), xfu_ne _ _ (by omega), xfu_ne _ _ (by omega), xfu_ne _ _ (by omega)]
theorem z_r4 : (fun i => z00 (141 + i)) = fun _ => 0 := by
  funext i
  unfold z00
  rw [if_neg (by omega)]
theorem zn_lay : zn (m + 3) (0, 3) = z_lay m z00 := by
  unfold z_lay z_layt
  rw [z_r1, z_r2, z_r3, z_r4]
  rfl
/-- the heap ahead of the m-th sea -/
def hM (h1 h2 : List xC) (m : Nat) : xH := ([], h1, h2, fun k => if k < m then z_lay k z00 else [], m, 0, 0)
def hMj (h1 h2 : List xC) (m : Nat) : xH := ([], h1, h2, xfu (fun k => if k < m then z_lay k z00 else []) m [.inl (7, x_dd 7)], m + 1, 0, 0)
variable {h1 h2 l : List xC} {G : xG} {rg : Nat} {I : List Instr} {L S : List xV}
theorem n_sea : xIs x_dd G rg (.new 60 :: I) (L, S, hN (hM h1 h2 m) 0 l a b) = xIs x_dd G rg I (L, .inr (.inr (.inl (m + 3, 0))) :: S, hN (hMj h1 h2 m) 0 l (a + 1) (b + 16)) := by
  have e : xrg (hN (hM h1 h2 m) 0 l a b) (m + 3) = [] := by
    show (if m < m then z_lay m z00 else []) = []
    rw [if_neg (Nat.lt_irrefl m)]
  have e2 : xI x_dd G rg (.new 60) (L, S, hN (hM h1 h2 m) 0 l a b) = some (L, .inr (.inr (.inl (m + 3, (xrg (hN (hM h1 h2 m) 0 l a b) (m + 3)).length))) :: S, xpush (xbegin (hN (hM h1 h2 m) 0 l a b)) (m + 3) (.inl (7, x_dd 7)) 16) := rfl
  have e3 : xpush (xbegin (hN (hM h1 h2 m) 0 l a b)) (m + 3) (.inl (7, x_dd 7)) 16 = hN (hMj h1 h2 m) 0 l (a + 1) (b + 16) := by
    unfold xpush
    rw [xrg_xbegin, e]
    rfl
  show Option.bind (xI x_dd G rg (.new 60) (L, S, hN (hM h1 h2 m) 0 l a b)) _ = _
  rw [e2, e, e3]
  rfl
theorem hM_next : xfu (fun k => if k < m then z_lay k z00 else []) m (z_lay m z00) = fun k => if k < m + 1 then z_lay k z00 else [] := by
  funext k
  by_cases h : k = m
  · subst h
    rw [xfu_self, if_pos (Nat.lt_succ_self k)]
  · rw [xfu_ne _ _ h]
    by_cases h2 : k < m
    · rw [if_pos h2, if_pos (by omega)]
    · rw [if_neg h2, if_neg (by omega)]
theorem c_sea : (gg (n + 2) 37).2 [.inr (.inr (.inl (m + 3, 0))), .inr (.inr (.inl (0, 3)))] (hN (hMj h1 h2 m) 0 l a b) = some (none, hN (hM h1 h2 (m + 1)) 0 l (a + 28) (b + 161)) := by
  have e := i_sea (n := n) (H := (l, h1, h2, fun k => if k < m then z_lay k z00 else [], m + 1, 0, 0)) (k := m + 3) (a := a) (b := b) (w := (0, 3))
  rw [zn_lay] at e
  refine Eq.trans e ?_
  show some (none, (l, h1, h2, xfu (fun k => if k < m then z_lay k z00 else []) m (z_lay m z00), m + 1, a + 28, b + 161)) = _
  rw [hM_next]
  rfl
end MZ
