/-! ===== a sea is made ===== -/
def z00 : Nat → Int := fun i => if (76 ≤ i ∧ i < 84) ∨ (104 ≤ i ∧ i < 114) ∨ i = 140 then -1 else 0
section MS
variable {n : Nat} {H : xH} {k : Nat} {l : List xC} {a b : Nat} {I : List Instr} {L S : List xV}
theorem l_last {α : Type} (l : List α) (e : α) : (l ++ [e])[l.length]? = some e := by simp
theorem l_setl {α : Type} (l : List α) (e e' : α) : (l ++ [e]).set l.length e' = l ++ [e'] := by
  rw [List.set_append_right _ _ (Nat.le_refl _), Nat.sub_self]
  rfl
theorem i_boat {j : Nat} : (gg (n + 1) 0).2 [.inr (.inr (.inl (k, j)))] H = some (none, H) := by
  rw [gr0]
  simp -implicitDefEqProofs (disch := first | decide | rfl) only [fX0_init, k_p_sq, k_p_blk, k_sq0, k_sq11, k_sq12, k_sq13, k_sq14, k_sq15, k_sqr, k_sqi, k_blk0, k_blk1, k_blk2, k_blk3, k_blk4, k_blk5, k_blkr, k_blki, k_finr, k_fini, k_mapi, k_bindi, k_if1, k_if2, k_ops, k_br, k_rv, k_ri, k_rl, k_rz, k_rzi, k_01d, k_sw, k_01a, k_01b, k_01c, k_ifn, x_cmp, decide_eq_true_eq, Option.map_some, Option.bind_some, Option.toList_some, Option.toList_none, List.cons_append, List.nil_append, Nat.reduceAdd, true_or, or_true, Int.reduceNeg, Int.reduceEq, reduceIte, Nat.zero_le, Nat.reduceLeDiff, Nat.le_refl, Nat.reduceEqDiff, List.getElem?_cons_zero, List.getElem?_cons_succ, xst, List.set_cons_zero, List.set_cons_succ, List.map_cons, List.map_nil, List.sum_cons, List.sum_nil, xcat, Nat.reduceMul, Nat.reduceDiv, Nat.reduceMod, Nat.add_zero, e_al, e_obj, e_nil]
theorem i_draw {j : Nat} : (gg (n + 1) 8).2 [.inr (.inr (.inl (k, j)))] H = some (none, H) := by
  rw [gr8]
  simp -implicitDefEqProofs (disch := first | decide | rfl) only [fX2_init, k_p_sq, k_p_blk, k_sq0, k_sq11, k_sq12, k_sq13, k_sq14, k_sq15, k_sqr, k_sqi, k_blk0, k_blk1, k_blk2, k_blk3, k_blk4, k_blk5, k_blkr, k_blki, k_finr, k_fini, k_mapi, k_bindi, k_if1, k_if2, k_ops, k_br, k_rv, k_ri, k_rl, k_rz, k_rzi, k_01d, k_sw, k_01a, k_01b, k_01c, k_ifn, x_cmp, decide_eq_true_eq, Option.map_some, Option.bind_some, Option.toList_some, Option.toList_none, List.cons_append, List.nil_append, Nat.reduceAdd, true_or, or_true, Int.reduceNeg, Int.reduceEq, reduceIte, Nat.zero_le, Nat.reduceLeDiff, Nat.le_refl, Nat.reduceEqDiff, List.getElem?_cons_zero, List.getElem?_cons_succ, xst, List.set_cons_zero, List.set_cons_succ, List.map_cons, List.map_nil, List.sum_cons, List.sum_nil, xcat, Nat.reduceMul, Nat.reduceDiv, Nat.reduceMod, Nat.add_zero, e_al, e_obj, e_nil]
theorem i_gull : (gg (n + 1) 11).2 [.inr (.inr (.inl (k, l.length)))] (hN H k (l ++ [.inl (3, x_dd 3)]) a b) = some (none, hN H k (l ++ [.inl (3, [.inl 0, .inl 0, .inl 0, .inl 0, .inl 0, .inl 0, .inl 0, .inl (-1)])]) a b) := by
  rw [gr11]
  simp -implicitDefEqProofs (disch := first | decide | rfl) only [fX3_init, k_p_sq, k_p_blk, k_sq0, k_sq11, k_sq12, k_sq13, k_sq14, k_sq15, k_sqr, k_sqi, k_blk0, k_blk1, k_blk2, k_blk3, k_blk4, k_blk5, k_blkr, k_blki, k_finr, k_fini, k_mapi, k_bindi, k_if1, k_if2, k_ops, k_br, k_rv, k_ri, k_rl, k_rz, k_rzi, k_01d, k_sw, k_01a, k_01b, k_01c, k_ifn, x_cmp, decide_eq_true_eq, Option.map_some, Option.bind_some, Option.toList_some, Option.toList_none, List.cons_append, List.nil_append, Nat.reduceAdd, true_or, or_true, Int.reduceNeg, Int.reduceEq, reduceIte, Nat.zero_le, Nat.reduceLeDiff, Nat.le_refl, Nat.reduceEqDiff, List.getElem?_cons_zero, List.getElem?_cons_succ, xst, List.set_cons_zero, List.set_cons_succ, List.map_cons, List.map_nil, List.sum_cons, List.sum_nil, xcat, Nat.reduceMul, Nat.reduceDiv, Nat.reduceMod, Nat.add_zero, e_al, e_obj, e_iconst, n_put, l_last, l_setl, x_dd, x_fit, List.length_cons, List.length_nil, Nat.reduceAdd, Nat.reduceLT, and_self, if_true, e_nil]
theorem i_letter : (gg (n + 1) 22).2 [.inr (.inr (.inl (k, l.length)))] (hN H k (l ++ [.inl (5, x_dd 5)]) a b) = some (none, hN H k (l ++ [.inl (5, [.inl 0, .inl 0, .inl (-1)])]) a b) := by
  rw [gr22]
  simp -implicitDefEqProofs (disch := first | decide | rfl) only [fX5_init, k_p_sq, k_p_blk, k_sq0, k_sq11, k_sq12, k_sq13, k_sq14, k_sq15, k_sqr, k_sqi, k_blk0, k_blk1, k_blk2, k_blk3, k_blk4, k_blk5, k_blkr, k_blki, k_finr, k_fini, k_mapi, k_bindi, k_if1, k_if2, k_ops, k_br, k_rv, k_ri, k_rl, k_rz, k_rzi, k_01d, k_sw, k_01a, k_01b, k_01c, k_ifn, x_cmp, decide_eq_true_eq, Option.map_some, Option.bind_some, Option.toList_some, Option.toList_none, List.cons_append, List.nil_append, Nat.reduceAdd, true_or, or_true, Int.reduceNeg, Int.reduceEq, reduceIte, Nat.zero_le, Nat.reduceLeDiff, Nat.le_refl, Nat.reduceEqDiff, List.getElem?_cons_zero, List.getElem?_cons_succ, xst, List.set_cons_zero, List.set_cons_succ, List.map_cons, List.map_nil, List.sum_cons, List.sum_nil, xcat, Nat.reduceMul, Nat.reduceDiv, Nat.reduceMod, Nat.add_zero, e_al, e_obj, e_iconst, n_put, l_last, l_setl, x_dd, x_fit, List.length_cons, List.length_nil, Nat.reduceAdd, Nat.reduceLT, and_self, if_true, e_nil]
theorem m_boat (hr : x_this L = k) (hs : (S.map xcat).sum ≤ 7) {rg : Nat} : xIs x_dd (gg (n + 1)) rg (.new 3 :: .dup :: .invokespecial 0 :: I) (L, S, hN H k l a b) = xIs x_dd (gg (n + 1)) rg I (L, .inr (.inr (.inl (k, l.length))) :: S, hN H k (l ++ [.inl (0, x_dd 0)]) (a + 1) (b + 6)) := by
  rw [n_new (by decide) (by show x_this L = k; exact hr), e_dupr, e_sp1 (ga0 _) (by simp only [List.map_cons, List.sum_cons, xcat]; omega), i_boat]
  rfl
theorem m_gull (hr : x_this L = k) (hs : (S.map xcat).sum ≤ 7) {rg : Nat} : xIs x_dd (gg (n + 1)) rg (.new 27 :: .dup :: .invokespecial 179 :: I) (L, S, hN H k l a b) = xIs x_dd (gg (n + 1)) rg I (L, .inr (.inr (.inl (k, l.length))) :: S, hN H k (l ++ [.inl (3, [.inl 0, .inl 0, .inl 0, .inl 0, .inl 0, .inl 0, .inl 0, .inl (-1)])]) (a + 1) (b + 8)) := by
  rw [n_new (by decide) (by show x_this L = k; exact hr), show (27 : Nat) / 8 = 3 from rfl, show (x_dd 3).length = 8 from rfl, e_dupr, e_sp1 (ga11 _) (by simp only [List.map_cons, List.sum_cons, xcat]; omega), show (179 : Nat) / 16 = 11 from rfl, i_gull]
  rfl
theorem m_letter (hr : x_this L = k) (hs : (S.map xcat).sum ≤ 7) {rg : Nat} : xIs x_dd (gg (n + 1)) rg (.new 43 :: .dup :: .invokespecial 357 :: I) (L, S, hN H k l a b) = xIs x_dd (gg (n + 1)) rg I (L, .inr (.inr (.inl (k, l.length))) :: S, hN H k (l ++ [.inl (5, [.inl 0, .inl 0, .inl (-1)])]) (a + 1) (b + 3)) := by
  rw [n_new (by decide) (by show x_this L = k; exact hr), show (43 : Nat) / 8 = 5 from rfl, show (x_dd 5).length = 3 from rfl, e_dupr, e_sp1 (ga22 _) (by simp only [List.map_cons, List.sum_cons, xcat]; omega), show (357 : Nat) / 16 = 22 from rfl, i_letter]
  rfl
end MS
section ML
variable {n : Nat} {H : xH} {k : Nat} {l : List xC} {a b : Nat} {I : List Instr} {L S : List xV} {w : Nat × Nat} {fs : List xV} {f : Nat → Option (Nat × Nat)} {i : Nat}
theorem k_sqe {a f : xP} {s t : xS} (h : a s = some (.inl 0, t)) : p_sq a f s = f t := by
  unfold p_sq
  rw [h]
theorem k_sqo {G : xG} {rg : Nat} {f : xP} {l : List Instr} {s t : xS} (h : xIs x_dd G rg l s = some t) : p_sq (p_ops x_dd G rg l) f s = f t := k_sqe (by unfold p_ops; rw [h]; rfl)
/-- a row of objects is filled: one turn -/
theorem f_boat (hi : i < 6) (h0 : l[0]? = some (.inl (7, fs))) (hf : fs[0]? = some (.inr (.inr (.inl (k, 1))))) (h1 : l[1]? = some (.inr (.inr (0, 6, f)))) : lX7_init_51 (gg (n + 1)) ([.inr (.inr (.inl (k, 0))), .inr (.inr (.inl w)), .inl (i : Int)], [], hN H k l a b) =
    some (.inl 1, ([.inr (.inr (.inl (k, 0))), .inr (.inr (.inl w)), .inl ((i + 1 : Nat) : Int)], [], hN H k ((l ++ [(.inl (0, x_dd 0) : xC)]).set 1 (.inr (.inr (0, 6, xfu f i (some (k, l.length)))))) (a + 1) (b + 6))) := by
  unfold lX7_init_51
  rw [k_sqo (t := ([.inr (.inr (.inl (k, 0))), .inr (.inr (.inl w)), .inl (i : Int)], [.inl 6, .inl (i : Int)], hN H k l a b)) rfl]
  show (if decide ((6 : Int) ≤ (i : Int)) = true then _ else p_sq _ _ ([.inr (.inr (.inl (k, 0))), .inr (.inr (.inl w)), .inl (i : Int)], [], hN H k l a b)) = _
  rw [if_neg (by rw [decide_eq_true_eq]; omega)]
  have hlt : 1 < l.length := (List.getElem?_eq_some_iff.mp h1).1
  have e1 : xIs x_dd (gg (n + 1)) 3 [.aload 0, .getfield 448, .iload 2, .new 3, .dup, .invokespecial 0, .aastore, .iinc 2 1] ([.inr (.inr (.inl (k, 0))), .inr (.inr (.inl w)), .inl (i : Int)], [], hN H k l a b) = some ([.inr (.inr (.inl (k, 0))), .inr (.inr (.inl w)), .inl ((i + 1 : Nat) : Int)], [], hN H k ((l ++ [(.inl (0, x_dd 0) : xC)]).set 1 (.inr (.inr (0, 6, xfu f i (some (k, l.length)))))) (a + 1) (b + 6)) := by
    have s1 : ∀ I : List Instr, xIs x_dd (gg (n + 1)) 3 (.aload 0 :: I) ([.inr (.inr (.inl (k, 0))), .inr (.inr (.inl w)), .inl (i : Int)], [], hN H k l a b) = xIs x_dd (gg (n + 1)) 3 I ([.inr (.inr (.inl (k, 0))), .inr (.inr (.inl w)), .inl (i : Int)], [.inr (.inr (.inl (k, 0)))], hN H k l a b) := fun _ => rfl
    have s2 : ∀ I : List Instr, xIs x_dd (gg (n + 1)) 3 (.getfield 448 :: I) ([.inr (.inr (.inl (k, 0))), .inr (.inr (.inl w)), .inl (i : Int)], [.inr (.inr (.inl (k, 0)))], hN H k l a b) = xIs x_dd (gg (n + 1)) 3 I ([.inr (.inr (.inl (k, 0))), .inr (.inr (.inl w)), .inl (i : Int)], [.inr (.inr (.inl (k, 1)))], hN H k l a b) := fun I => by
      rw [n_get, h0]
      show (if (7 : Nat) = 448 / 64 then _ else _) = _
      rw [if_pos (by decide), show 448 % 64 = 0 from rfl, hf]
    have s3 : ∀ I : List Instr, xIs x_dd (gg (n + 1)) 3 (.iload 2 :: I) ([.inr (.inr (.inl (k, 0))), .inr (.inr (.inl w)), .inl (i : Int)], [.inr (.inr (.inl (k, 1)))], hN H k l a b) = xIs x_dd (gg (n + 1)) 3 I ([.inr (.inr (.inl (k, 0))), .inr (.inr (.inl w)), .inl (i : Int)], [.inl (i : Int), .inr (.inr (.inl (k, 1)))], hN H k l a b) := fun _ => rfl
    rw [s1, s2, s3, m_boat (show x_this [.inr (.inr (.inl (k, 0))), .inr (.inr (.inl w)), .inl (i : Int)] = k from rfl) (show (([.inl (i : Int), .inr (.inr (.inl (k, 1)))] : List xV).map xcat).sum ≤ 7 from Nat.le_of_ble_eq_true rfl), n_aast (by rw [List.getElem?_append_left hlt]; exact h1) (l_last (α := xC) _ _) (by omega) (by omega)]
    show some (xst _ 2 (.inl (xw ((i : Int) + 1))), _, _) = _
    rw [xw_id (by omega) (by omega)]
    rfl
  rw [k_sqo e1]
  rfl
theorem f_gull (hi : i < 8) (h0 : l[0]? = some (.inl (7, fs))) (hf : fs[1]? = some (.inr (.inr (.inl (k, 2))))) (h1 : l[2]? = some (.inr (.inr (3, 8, f)))) : lX7_init_78 (gg (n + 1)) ([.inr (.inr (.inl (k, 0))), .inr (.inr (.inl w)), .inl (i : Int)], [], hN H k l a b) =
    some (.inl 1, ([.inr (.inr (.inl (k, 0))), .inr (.inr (.inl w)), .inl ((i + 1 : Nat) : Int)], [], hN H k ((l ++ [(.inl (3, [.inl 0, .inl 0, .inl 0, .inl 0, .inl 0, .inl 0, .inl 0, .inl (-1)]) : xC)]).set 2 (.inr (.inr (3, 8, xfu f i (some (k, l.length)))))) (a + 1) (b + 8))) := by
  unfold lX7_init_78
  rw [k_sqo (t := ([.inr (.inr (.inl (k, 0))), .inr (.inr (.inl w)), .inl (i : Int)], [.inl 8, .inl (i : Int)], hN H k l a b)) rfl]
  show (if decide ((8 : Int) ≤ (i : Int)) = true then _ else p_sq _ _ ([.inr (.inr (.inl (k, 0))), .inr (.inr (.inl w)), .inl (i : Int)], [], hN H k l a b)) = _
  rw [if_neg (by rw [decide_eq_true_eq]; omega)]
  have hlt : 2 < l.length := (List.getElem?_eq_some_iff.mp h1).1
  have e1 : xIs x_dd (gg (n + 1)) 3 [.aload 0, .getfield 449, .iload 2, .new 27, .dup, .invokespecial 179, .aastore, .iinc 2 1] ([.inr (.inr (.inl (k, 0))), .inr (.inr (.inl w)), .inl (i : Int)], [], hN H k l a b) = some ([.inr (.inr (.inl (k, 0))), .inr (.inr (.inl w)), .inl ((i + 1 : Nat) : Int)], [], hN H k ((l ++ [(.inl (3, [.inl 0, .inl 0, .inl 0, .inl 0, .inl 0, .inl 0, .inl 0, .inl (-1)]) : xC)]).set 2 (.inr (.inr (3, 8, xfu f i (some (k, l.length)))))) (a + 1) (b + 8)) := by
    have s1 : ∀ I : List Instr, xIs x_dd (gg (n + 1)) 3 (.aload 0 :: I) ([.inr (.inr (.inl (k, 0))), .inr (.inr (.inl w)), .inl (i : Int)], [], hN H k l a b) = xIs x_dd (gg (n + 1)) 3 I ([.inr (.inr (.inl (k, 0))), .inr (.inr (.inl w)), .inl (i : Int)], [.inr (.inr (.inl (k, 0)))], hN H k l a b) := fun _ => rfl
    have s2 : ∀ I : List Instr, xIs x_dd (gg (n + 1)) 3 (.getfield 449 :: I) ([.inr (.inr (.inl (k, 0))), .inr (.inr (.inl w)), .inl (i : Int)], [.inr (.inr (.inl (k, 0)))], hN H k l a b) = xIs x_dd (gg (n + 1)) 3 I ([.inr (.inr (.inl (k, 0))), .inr (.inr (.inl w)), .inl (i : Int)], [.inr (.inr (.inl (k, 2)))], hN H k l a b) := fun I => by
      rw [n_get, h0]
      show (if (7 : Nat) = 449 / 64 then _ else _) = _
      rw [if_pos (by decide), show 449 % 64 = 1 from rfl, hf]
    have s3 : ∀ I : List Instr, xIs x_dd (gg (n + 1)) 3 (.iload 2 :: I) ([.inr (.inr (.inl (k, 0))), .inr (.inr (.inl w)), .inl (i : Int)], [.inr (.inr (.inl (k, 2)))], hN H k l a b) = xIs x_dd (gg (n + 1)) 3 I ([.inr (.inr (.inl (k, 0))), .inr (.inr (.inl w)), .inl (i : Int)], [.inl (i : Int), .inr (.inr (.inl (k, 2)))], hN H k l a b) := fun _ => rfl
    rw [s1, s2, s3, m_gull (show x_this [.inr (.inr (.inl (k, 0))), .inr (.inr (.inl w)), .inl (i : Int)] = k from rfl) (show (([.inl (i : Int), .inr (.inr (.inl (k, 2)))] : List xV).map xcat).sum ≤ 7 from Nat.le_of_ble_eq_true rfl), n_aast (by rw [List.getElem?_append_left hlt]; exact h1) (l_last (α := xC) _ _) (by omega) (by omega)]
    show some (xst _ 2 (.inl (xw ((i : Int) + 1))), _, _) = _
    rw [xw_id (by omega) (by omega)]
    rfl
  rw [k_sqo e1]
  rfl
theorem f_letter (hi : i < 10) (h0 : l[0]? = some (.inl (7, fs))) (hf : fs[2]? = some (.inr (.inr (.inl (k, 3))))) (h1 : l[3]? = some (.inr (.inr (5, 10, f)))) : lX7_init_105 (gg (n + 1)) ([.inr (.inr (.inl (k, 0))), .inr (.inr (.inl w)), .inl (i : Int)], [], hN H k l a b) =
    some (.inl 1, ([.inr (.inr (.inl (k, 0))), .inr (.inr (.inl w)), .inl ((i + 1 : Nat) : Int)], [], hN H k ((l ++ [(.inl (5, [.inl 0, .inl 0, .inl (-1)]) : xC)]).set 3 (.inr (.inr (5, 10, xfu f i (some (k, l.length)))))) (a + 1) (b + 3))) := by
  unfold lX7_init_105
  rw [k_sqo (t := ([.inr (.inr (.inl (k, 0))), .inr (.inr (.inl w)), .inl (i : Int)], [.inl 10, .inl (i : Int)], hN H k l a b)) rfl]
  show (if decide ((10 : Int) ≤ (i : Int)) = true then _ else p_sq _ _ ([.inr (.inr (.inl (k, 0))), .inr (.inr (.inl w)), .inl (i : Int)], [], hN H k l a b)) = _
  rw [if_neg (by rw [decide_eq_true_eq]; omega)]
  have hlt : 3 < l.length := (List.getElem?_eq_some_iff.mp h1).1
  have e1 : xIs x_dd (gg (n + 1)) 3 [.aload 0, .getfield 450, .iload 2, .new 43, .dup, .invokespecial 357, .aastore, .iinc 2 1] ([.inr (.inr (.inl (k, 0))), .inr (.inr (.inl w)), .inl (i : Int)], [], hN H k l a b) = some ([.inr (.inr (.inl (k, 0))), .inr (.inr (.inl w)), .inl ((i + 1 : Nat) : Int)], [], hN H k ((l ++ [(.inl (5, [.inl 0, .inl 0, .inl (-1)]) : xC)]).set 3 (.inr (.inr (5, 10, xfu f i (some (k, l.length)))))) (a + 1) (b + 3)) := by
    have s1 : ∀ I : List Instr, xIs x_dd (gg (n + 1)) 3 (.aload 0 :: I) ([.inr (.inr (.inl (k, 0))), .inr (.inr (.inl w)), .inl (i : Int)], [], hN H k l a b) = xIs x_dd (gg (n + 1)) 3 I ([.inr (.inr (.inl (k, 0))), .inr (.inr (.inl w)), .inl (i : Int)], [.inr (.inr (.inl (k, 0)))], hN H k l a b) := fun _ => rfl
    have s2 : ∀ I : List Instr, xIs x_dd (gg (n + 1)) 3 (.getfield 450 :: I) ([.inr (.inr (.inl (k, 0))), .inr (.inr (.inl w)), .inl (i : Int)], [.inr (.inr (.inl (k, 0)))], hN H k l a b) = xIs x_dd (gg (n + 1)) 3 I ([.inr (.inr (.inl (k, 0))), .inr (.inr (.inl w)), .inl (i : Int)], [.inr (.inr (.inl (k, 3)))], hN H k l a b) := fun I => by
      rw [n_get, h0]
      show (if (7 : Nat) = 450 / 64 then _ else _) = _
      rw [if_pos (by decide), show 450 % 64 = 2 from rfl, hf]
    have s3 : ∀ I : List Instr, xIs x_dd (gg (n + 1)) 3 (.iload 2 :: I) ([.inr (.inr (.inl (k, 0))), .inr (.inr (.inl w)), .inl (i : Int)], [.inr (.inr (.inl (k, 3)))], hN H k l a b) = xIs x_dd (gg (n + 1)) 3 I ([.inr (.inr (.inl (k, 0))), .inr (.inr (.inl w)), .inl (i : Int)], [.inl (i : Int), .inr (.inr (.inl (k, 3)))], hN H k l a b) := fun _ => rfl
    rw [s1, s2, s3, m_letter (show x_this [.inr (.inr (.inl (k, 0))), .inr (.inr (.inl w)), .inl (i : Int)] = k from rfl) (show (([.inl (i : Int), .inr (.inr (.inl (k, 3)))] : List xV).map xcat).sum ≤ 7 from Nat.le_of_ble_eq_true rfl), n_aast (by rw [List.getElem?_append_left hlt]; exact h1) (l_last (α := xC) _ _) (by omega) (by omega)]
    show some (xst _ 2 (.inl (xw ((i : Int) + 1))), _, _) = _
    rw [xw_id (by omega) (by omega)]
    rfl
  rw [k_sqo e1]
  rfl
theorem f_end {c9 : Int} {F : xP} {G : xG} {x : List xV} {T : xH} : p_sq (p_ops x_dd G 3 [.iload 2, .iconst c9]) (p_if2 .ge F (p_br 2)) ([.inr (.inr (.inl (k, 0))), .inr (.inr (.inl w)), .inl c9], [], T) = some (.inl 2, ([.inr (.inr (.inl (k, 0))), .inr (.inr (.inl w)), .inl c9], [], T)) := by
  rw [k_sqo (t := ([.inr (.inr (.inl (k, 0))), .inr (.inr (.inl w)), .inl c9], [.inl c9, .inl c9], T)) rfl]
  show (if decide (c9 ≤ c9) = true then _ else _) = _
  rw [if_pos (decide_eq_true (Int.le_refl _))]
  rfl
end ML
