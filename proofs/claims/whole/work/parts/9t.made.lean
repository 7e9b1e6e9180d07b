/-! ===== the reference and the class are made: the machine's steps ===== -/
/-- a region and the counts set -/
def hN (H : xH) (k : Nat) (l : List xC) (a b : Nat) : xH := ((xrs H k l).1, (xrs H k l).2.1, (xrs H k l).2.2.1, (xrs H k l).2.2.2.1, (xrs H k l).2.2.2.2.1, a, b)
section HN
variable {H : xH} {k : Nat} {l : List xC} {a b : Nat}
theorem hN_rg : xrg (hN H k l a b) k = l := by
  have := xrg_xrs H k k l
  rw [if_pos rfl] at this
  match k, this with
  | 0, h => exact h
  | 1, h => exact h
  | 2, h => exact h
  | k + 3, h => exact h
theorem hN_ne {k' : Nat} (hk : k' ≠ k) : xrg (hN H k l a b) k' = xrg H k' := by
  have := xrg_xrs H k k' l
  rw [if_neg hk] at this
  match k', this with
  | 0, h => exact h
  | 1, h => exact h
  | 2, h => exact h
  | k' + 3, h => exact h
theorem hN_cell (i : Nat) : xcell (hN H k l a b) k i = l[i]? := by
  unfold xcell
  rw [hN_rg]
theorem hN_hN {l' : List xC} {a' b' : Nat} : hN (hN H k l a b) k l' a' b' = hN H k l' a' b' := by
  match k with
  | 0 => rfl
  | 1 => rfl
  | 2 => rfl
  | k + 3 =>
    unfold hN xrs
    dsimp only
    rw [xfu_twice]
theorem hN_put {i : Nat} {e : xC} : xput (hN H k l a b) k i e = hN H k (l.set i e) a b := by
  unfold xput
  rw [hN_rg]
  match k with
  | 0 => rfl
  | 1 => rfl
  | 2 => rfl
  | k + 3 =>
    unfold hN xrs
    dsimp only
    rw [xfu_twice]
theorem hN_push {e : xC} {n : Nat} : xpush (hN H k l a b) k e n = hN H k (l ++ [e]) (a + 1) (b + n) := by
  unfold xpush
  rw [hN_rg]
  match k with
  | 0 => rfl
  | 1 => rfl
  | 2 => rfl
  | k + 3 =>
    unfold hN xrs xcount
    dsimp only
    rw [xfu_twice]
variable {G : xG} {rg : Nat} {I : List Instr} {L S : List xV}
theorem n_get {i q : Nat} : xIs x_dd G rg (.getfield q :: I) (L, .inr (.inr (.inl (k, i))) :: S, hN H k l a b) = match l[i]? with
    | some (.inl (ci, fs)) => if ci = q / 64 then match fs[q % 64]? with
      | some v => xIs x_dd G rg I (L, v :: S, hN H k l a b)
      | none => none
      else none
    | _ => none := by
  cases h : l[i]? with
  | none => simp only [xIs, xI, hN_cell, h, Option.bind_none]
  | some e =>
    match e, h with
    | .inl (ci, fs), h =>
      by_cases hc : ci = q / 64
      · cases hv : fs[q % 64]? with
        | none => simp only [xIs, xI, hN_cell, h, if_pos hc, hv, Option.bind_none]
        | some v => simp only [xIs, xI, hN_cell, h, if_pos hc, hv, Option.bind_some]
      · simp only [xIs, xI, hN_cell, h, if_neg hc, Option.bind_none]
    | .inr (.inl e), h => simp only [xIs, xI, hN_cell, h, Option.bind_none]
    | .inr (.inr e), h => simp only [xIs, xI, hN_cell, h, Option.bind_none]
theorem n_put {i q : Nat} {v : xV} : xIs x_dd G rg (.putfield q :: I) (L, v :: .inr (.inr (.inl (k, i))) :: S, hN H k l a b) = match l[i]? with
    | some (.inl (ci, fs)) => if ci = q / 64 % 64 ∧ q % 64 < fs.length ∧ x_fit (q / 4096) v = true then xIs x_dd G rg I (L, S, hN H k (l.set i (.inl (ci, fs.set (q % 64) v))) a b) else none
    | _ => none := by
  cases h : l[i]? with
  | none => simp only [xIs, xI, hN_cell, h, Option.bind_none]
  | some e =>
    match e, h with
    | .inl (ci, fs), h =>
      by_cases hc : ci = q / 64 % 64 ∧ q % 64 < fs.length ∧ x_fit (q / 4096) v = true
      · simp only [xIs, xI, hN_cell, h, if_pos hc, hN_put, Option.bind_some]
      · simp only [xIs, xI, hN_cell, h, if_neg hc, Option.bind_none]
    | .inr (.inl e), h => simp only [xIs, xI, hN_cell, h, Option.bind_none]
    | .inr (.inr e), h => simp only [xIs, xI, hN_cell, h, Option.bind_none]
theorem n_int {n : Int} (hr : x_reg rg L = k) (h0 : 0 ≤ n) (h1 : n < 65536) : xIs x_dd G rg (.newarray .int :: I) (L, .inl n :: S, hN H k l a b) = xIs x_dd G rg I (L, .inr (.inr (.inl (k, l.length))) :: S, hN H k (l ++ [.inr (.inl (0, n.toNat, fun _ => 0))]) (a + 1) (b + n.toNat)) := by
  simp only [xIs, xI, h0, h1, and_self, if_true, Option.map_some, Option.bind_some, hr, hN_rg, hN_push]
theorem n_byte {n : Int} (hr : x_reg rg L = k) (h0 : 0 ≤ n) (h1 : n < 65536) : xIs x_dd G rg (.newarray .byte :: I) (L, .inl n :: S, hN H k l a b) = xIs x_dd G rg I (L, .inr (.inr (.inl (k, l.length))) :: S, hN H k (l ++ [.inr (.inl (1, n.toNat, fun _ => 0))]) (a + 1) (b + n.toNat)) := by
  simp only [xIs, xI, h0, h1, and_self, if_true, Option.map_some, Option.bind_some, hr, hN_rg, hN_push]
theorem n_char {n : Int} (hr : x_reg rg L = k) (h0 : 0 ≤ n) (h1 : n < 65536) : xIs x_dd G rg (.newarray .char :: I) (L, .inl n :: S, hN H k l a b) = xIs x_dd G rg I (L, .inr (.inr (.inl (k, l.length))) :: S, hN H k (l ++ [.inr (.inl (2, n.toNat, fun _ => 0))]) (a + 1) (b + n.toNat)) := by
  simp only [xIs, xI, h0, h1, and_self, if_true, Option.map_some, Option.bind_some, hr, hN_rg, hN_push]
theorem n_long {n : Int} (hr : x_reg rg L = k) (h0 : 0 ≤ n) (h1 : n < 65536) : xIs x_dd G rg (.newarray .long :: I) (L, .inl n :: S, hN H k l a b) = xIs x_dd G rg I (L, .inr (.inr (.inl (k, l.length))) :: S, hN H k (l ++ [.inr (.inl (3, n.toNat, fun _ => 0))]) (a + 1) (b + n.toNat)) := by
  simp only [xIs, xI, h0, h1, and_self, if_true, Option.map_some, Option.bind_some, hr, hN_rg, hN_push]
theorem n_bool {n : Int} (hr : x_reg rg L = k) (h0 : 0 ≤ n) (h1 : n < 65536) : xIs x_dd G rg (.newarray .boolean :: I) (L, .inl n :: S, hN H k l a b) = xIs x_dd G rg I (L, .inr (.inr (.inl (k, l.length))) :: S, hN H k (l ++ [.inr (.inl (4, n.toNat, fun _ => 0))]) (a + 1) (b + n.toNat)) := by
  simp only [xIs, xI, h0, h1, and_self, if_true, Option.map_some, Option.bind_some, hr, hN_rg, hN_push]
theorem n_arr {n : Int} {ci : Nat} (hr : x_reg rg L = k) (h0 : 0 ≤ n) (h1 : n < 65536) : xIs x_dd G rg (.anewarray ci :: I) (L, .inl n :: S, hN H k l a b) = xIs x_dd G rg I (L, .inr (.inr (.inl (k, l.length))) :: S, hN H k (l ++ [.inr (.inr (ci, n.toNat, fun _ => none))]) (a + 1) (b + n.toNat)) := by
  simp only [xIs, xI, h0, h1, and_self, if_true, Option.bind_some, hr, hN_rg, hN_push]
theorem n_new {q : Nat} (h4 : ¬ q % 8 = 4) (hr : x_reg (q % 8) L = k) : xIs x_dd G rg (.new q :: I) (L, S, hN H k l a b) = xIs x_dd G rg I (L, .inr (.inr (.inl (k, l.length))) :: S, hN H k (l ++ [.inl (q / 8, x_dd (q / 8))]) (a + 1) (b + (x_dd (q / 8)).length)) := by
  simp only [xIs, xI, if_neg h4, Option.bind_some, hr, hN_rg, hN_push]
theorem n_aast {i : Int} {j j' ci n : Nat} {f : Nat → Option (Nat × Nat)} {fs : List xV} (h : l[j]? = some (.inr (.inr (ci, n, f)))) (h' : l[j']? = some (.inl (ci, fs))) (h0 : 0 ≤ i) (h1 : i < n) : xIs x_dd G rg (.aastore :: I) (L, .inr (.inr (.inl (k, j'))) :: .inl i :: .inr (.inr (.inl (k, j))) :: S, hN H k l a b) = xIs x_dd G rg I (L, S, hN H k (l.set j (.inr (.inr (ci, n, xfu f i.toNat (some (k, j')))))) a b) := by
  have e1 : xcell (hN H k l a b) k j = some (.inr (.inr (ci, n, f))) := (hN_cell j).trans h
  have e2 : xcell (hN H k l a b) k j' = some (.inl (ci, fs)) := (hN_cell j').trans h'
  simp only [xIs, xI, e1, e2, h0, h1, and_self, if_true, Option.bind_some, hN_put]
theorem e_sp1 {q k j : Nat} {H : xH} (hn : (G (q / 16)).1 = 1) (hc : (S.map xcat).sum ≤ 8) : xIs x_dd G rg (.invokespecial q :: I) (L, .inr (.inr (.inl (k, j))) :: S, H) = ((G (q / 16)).2 [.inr (.inr (.inl (k, j)))] H).bind (fun z => xIs x_dd G rg I (L, z.1.toList ++ S, z.2)) := by
  have h1 : x_isr (L, .inr (.inr (.inl (k, j))) :: S, H) (G (q / 16)).1 = true := by rw [hn]; rfl
  have h2 : x_call (G (q / 16)).1 (G (q / 16)).2 (L, .inr (.inr (.inl (k, j))) :: S, H) = match (G (q / 16)).2 [.inr (.inr (.inl (k, j)))] H with
    | some (r, H) => some (L, r.toList ++ S, H)
    | none => none := by
    unfold x_call
    rw [hn]
    dsimp only [List.length_cons, List.drop_succ_cons, List.drop_zero, List.take_succ_cons, List.take_zero]
    rw [if_pos ⟨by omega, hc⟩]
    rfl
  simp only [xIs, xI, h1, if_true, h2]
  cases (G (q / 16)).2 [.inr (.inr (.inl (k, j)))] H with
  | none => rfl
  | some z => rfl
theorem e_sp2 {q k j : Nat} {a1 : xV} {H : xH} (hn : (G (q / 16)).1 = 2) (hc : (S.map xcat).sum ≤ 8) : xIs x_dd G rg (.invokespecial q :: I) (L, a1 :: .inr (.inr (.inl (k, j))) :: S, H) = ((G (q / 16)).2 [.inr (.inr (.inl (k, j))), a1] H).bind (fun z => xIs x_dd G rg I (L, z.1.toList ++ S, z.2)) := by
  have h1 : x_isr (L, a1 :: .inr (.inr (.inl (k, j))) :: S, H) (G (q / 16)).1 = true := by rw [hn]; rfl
  have h2 : x_call (G (q / 16)).1 (G (q / 16)).2 (L, a1 :: .inr (.inr (.inl (k, j))) :: S, H) = match (G (q / 16)).2 [.inr (.inr (.inl (k, j))), a1] H with
    | some (r, H) => some (L, r.toList ++ S, H)
    | none => none := by
    unfold x_call
    rw [hn]
    dsimp only [List.length_cons, List.drop_succ_cons, List.drop_zero, List.take_succ_cons, List.take_zero]
    rw [if_pos ⟨by omega, hc⟩]
    rfl
  simp only [xIs, xI, h1, if_true, h2]
  cases (G (q / 16)).2 [.inr (.inr (.inl (k, j))), a1] H with
  | none => rfl
  | some z => rfl
end HN
/-- all numbers are 0 -/
def r00 : xR := (fun _ => 0, fun _ _ => 0)
theorem r_init {n : Nat} {H : xH} {a b : Nat} : (gg (n + 1) 169).2 [.inr (.inr (.inl (1, 0)))] (hN H 1 [.inl (12, x_dd 12)] a b) = some (none, hN H 1 (xr_lay r00) (a + 22) (b + 2471)) := by
  rw [gr169]
  have hr : x_reg 1 [.inr (.inr (.inl (1, 0)))] = 1 := rfl
  unfold fX12_init
  rw [k_p_sq, k_ops]
  simp -implicitDefEqProofs (disch := first | decide | rfl) only [x_dd, Nat.zero_le, Nat.reduceLeDiff, Nat.le_refl, Nat.reduceEqDiff, List.getElem?_cons_zero, List.getElem?_cons_succ, xst, List.set_cons_zero, List.set_cons_succ, List.map_cons, List.map_nil, List.sum_cons, List.sum_nil, xcat, Nat.reduceMul, Nat.reduceDiv, Nat.reduceMod, Nat.add_zero, e_al, e_obj, e_iconst, n_int, n_byte, n_bool, n_put, hr, x_fit, List.length_cons, List.length_nil, List.cons_append, List.nil_append, Nat.reduceAdd, Nat.reduceLT, Int.reduceToNat, Nat.reduceMod, Nat.reduceDiv, and_self, if_true, true_and, e_nil]
  simp only [k_p_sq, k_p_blk, k_sq0, k_sq11, k_sq12, k_sq13, k_sq14, k_sq15, k_sqr, k_sqi, k_blk0, k_blk1, k_blk2, k_blk3, k_blk4, k_blk5, k_blkr, k_blki, k_finr, k_fini, k_mapi, k_bindi, k_if1, k_if2, k_ops, k_br, k_rv, k_ri, k_rl, k_rz, k_rzi, k_01d, k_sw, k_01a, k_01b, k_01c, k_ifn, x_cmp, decide_eq_true_eq, Option.map_some, Option.bind_some, Option.toList_some, Option.toList_none, List.cons_append, List.nil_append, Nat.reduceAdd, true_or, or_true, Int.reduceNeg, Int.reduceEq, reduceIte, Nat.add_assoc, Nat.reduceAdd]
  rfl
