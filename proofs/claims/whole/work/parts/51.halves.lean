/-! ===== what counts of the reference's numbers ===== -/
def sF (k : Nat) : Bool := k == 12 || k == 13 || k == 14 || k == 15 || k == 16 || k == 21 || k == 23 || k == 24 || k == 25 || k == 30 || k == 31 || k == 32 || k == 33 || k == 39 || k == 43
def sR (c : Nat) : Bool := c == 6 || c == 7 || c == 9 || c == 10 || c == 12 || c == 13 || c == 14 || c == 15 || c == 16 || c == 17
def rC (r : xR) : xR := (fun k => if sF k = true then 0 else r.1 k, fun c => if sR c = true then fun _ => 0 else r.2 c)
theorem rC_i {k : Nat} (hk : sF k = true) (r : xR) (v : Int) : rC (xr_i r k v) = rC r := by
  refine Prod.ext (funext fun i => ?_) rfl
  show (if sF i = true then 0 else xfu r.1 k v i) = if sF i = true then 0 else r.1 i
  split
  · rfl
  · rw [xfu_ne]
    intro e
    subst e
    contradiction
theorem rC_in {k : Nat} (hk : sF k = false) (r : xR) (v : Int) : rC (xr_i r k v) = xr_i (rC r) k v := by
  refine Prod.ext (funext fun i => ?_) rfl
  show (if sF i = true then 0 else xfu r.1 k v i) = xfu (fun k => if sF k = true then 0 else r.1 k) k v i
  unfold xfu
  by_cases e : i = k
  · subst e
    rw [if_neg (by rw [hk]; decide), if_pos rfl, if_pos rfl]
  · rw [if_neg e, if_neg e]
theorem rC_j {c : Nat} (hk : sR c = true) (r : xR) (a : Nat → Int) : rC (xr_j r c a) = rC r := by
  refine Prod.ext rfl (funext fun i => ?_)
  show (if sR i = true then fun _ => 0 else xfu r.2 c a i) = if sR i = true then fun _ => 0 else r.2 i
  split
  · rfl
  · rw [xfu_ne]
    intro e
    subst e
    contradiction
theorem rC_jn {c : Nat} (hk : sR c = false) (r : xR) (a : Nat → Int) : rC (xr_j r c a) = xr_j (rC r) c a := by
  refine Prod.ext rfl (funext fun i => ?_)
  show (if sR i = true then fun _ => 0 else xfu r.2 c a i) = xfu (fun c => if sR c = true then fun _ => 0 else r.2 c) c a i
  unfold xfu
  by_cases e : i = c
  · subst e
    rw [if_neg (by rw [hk]; decide), if_pos rfl, if_pos rfl]
  · rw [if_neg e, if_neg e]
theorem rC_2 {c : Nat} (hc : sR c = false) (r : xR) : (rC r).2 c = r.2 c := if_neg (by rw [hc]; decide)
theorem rC_1 {k : Nat} (hk : sF k = false) (r : xR) : (rC r).1 k = r.1 k := if_neg (by rw [hk]; decide)
theorem rC_e1 {r r' : xR} (h : rC r = rC r') {k : Nat} (hk : sF k = false) : r.1 k = r'.1 k := by rw [← rC_1 hk r, h, rC_1 hk]
theorem rC_e2 {r r' : xR} (h : rC r = rC r') {c : Nat} (hc : sR c = false) : r.2 c = r'.2 c := by rw [← rC_2 hc r, h, rC_2 hc]
theorem rC_K {r r' : xR} (h : rC r = rC r') : rK r = rK r' := by
  unfold rK
  rw [rC_e1 h (k := 1) rfl, rC_e1 h (k := 2) rfl, rC_e1 h (k := 5) rfl, rC_e1 h (k := 6) rfl, rC_e1 h (k := 20) rfl, rC_e2 h (c := 2) rfl, rC_e2 h (c := 3) rfl, rC_e2 h (c := 8) rfl]
theorem rC_a {c : Nat} (hk : sR c = false) (r : xR) (i : Nat) (v : Int) : rC (xr_a r c i v) = xr_a (rC r) c i v := by
  rw [xr_a_j, xr_a_j, rC_jn hk, rC_2 hk]
theorem rC_fold (vs : List Int) : ∀ (q : xR), rC (vs.foldl (fun q v => xr_i (xr_a q 5 (q.1 10).toNat v) 10 (xw (q.1 10 + 1))) q) = vs.foldl (fun q v => xr_i (xr_a q 5 (q.1 10).toNat v) 10 (xw (q.1 10 + 1))) (rC q) := by
  induction vs with
  | nil => intro q; rfl
  | cons v vs ih =>
    intro q
    show rC (vs.foldl _ (xr_i (xr_a q 5 (q.1 10).toNat v) 10 (xw (q.1 10 + 1)))) = vs.foldl _ (xr_i (xr_a (rC q) 5 ((rC q).1 10).toNat v) 10 (xw ((rC q).1 10 + 1)))
    rw [ih, rC_in (k := 10) rfl, rC_a (c := 5) rfl, rC_1 (k := 10) rfl]
theorem rC_tell (r : xR) (vs : List Int) : rC (rTell r vs) = rTell (rC r) vs := by
  unfold rTell
  rw [rC_fold, rC_in (k := 10) rfl]
theorem rC_W1 (r : xR) (F : xFl) (J : xR) : rC (rW r 1 F J) = xr_j (rC r) 1 F.1 := by
  refine Prod.ext (funext fun k => ?_) (funext fun c => ?_)
  · show (if sF k = true then 0 else (rW r 1 F J).1 k) = if sF k = true then 0 else r.1 k
    split
    · rfl
    · rename_i hk
      unfold rW
      dsimp only
      rw [if_neg (by rintro rfl; exact hk rfl), if_neg (by rintro rfl; exact hk rfl), if_neg (by rintro rfl; exact hk rfl), if_neg]
      intro c
      have : k = 12 ∨ k = 13 ∨ k = 14 ∨ k = 15 ∨ k = 16 ∨ k = 21 := by omega
      rcases this with rfl | rfl | rfl | rfl | rfl | rfl <;> exact hk rfl
  · show (if sR c = true then fun _ => 0 else (rW r 1 F J).2 c) = xfu (fun c => if sR c = true then fun _ => 0 else r.2 c) 1 F.1 c
    unfold xfu
    by_cases e : c = 1
    · subst e
      rfl
    · rw [if_neg e]
      dsimp only
      by_cases hk : sR c = true
      · rw [if_pos hk, if_pos hk]
      · rw [if_neg hk, if_neg hk]
        unfold rW
        dsimp only
        rw [if_neg e, if_neg (by rintro rfl; exact hk rfl), if_neg (by rintro rfl; exact hk rfl)]
theorem rC_Ws {j : Nat} (hj : j = 12 ∨ j = 14) (r : xR) (F : xFl) (J : xR) : rC (rW r j F J) = rC r := by
  refine Prod.ext (funext fun k => ?_) (funext fun c => ?_)
  · show (if sF k = true then 0 else (rW r j F J).1 k) = if sF k = true then 0 else r.1 k
    split
    · rfl
    · rename_i hk
      unfold rW
      dsimp only
      rw [if_neg (by rintro rfl; exact hk rfl), if_neg (by rintro rfl; exact hk rfl), if_neg (by rintro rfl; exact hk rfl), if_neg]
      intro c
      have : k = 12 ∨ k = 13 ∨ k = 14 ∨ k = 15 ∨ k = 16 ∨ k = 21 := by omega
      rcases this with rfl | rfl | rfl | rfl | rfl | rfl <;> exact hk rfl
  · show (if sR c = true then fun _ => 0 else (rW r j F J).2 c) = if sR c = true then fun _ => 0 else r.2 c
    split
    · rfl
    · rename_i hk
      unfold rW
      dsimp only
      rw [if_neg (by rintro rfl; rcases hj with rfl | rfl <;> exact hk rfl), if_neg (by rintro rfl; exact hk rfl), if_neg (by rintro rfl; exact hk rfl)]
/-- the four sums of half hours -/
def rT (r : xR) (T : Int × Int × Int × Int) : xR := (fun k => if k = 30 then T.1 else if k = 31 then T.2.1 else if k = 32 then T.2.2.1 else if k = 33 then T.2.2.2 else r.1 k, r.2)
theorem rC_T (r : xR) (T : Int × Int × Int × Int) : rC (rT r T) = rC r := by
  refine Prod.ext (funext fun k => ?_) rfl
  show (if sF k = true then 0 else (rT r T).1 k) = if sF k = true then 0 else r.1 k
  split
  · rfl
  · rename_i hk
    unfold rT
    dsimp only
    rw [if_neg (by rintro rfl; exact hk rfl), if_neg (by rintro rfl; exact hk rfl), if_neg (by rintro rfl; exact hk rfl), if_neg (by rintro rfl; exact hk rfl)]
theorem rT_0 (r : xR) : xr_i (xr_i (xr_i (xr_i r 30 0) 31 0) 32 0) 33 0 = rT r (0, 0, 0, 0) := by
  refine Prod.ext (funext fun k => ?_) rfl
  unfold rT xr_i xfu
  dsimp only
  repeat' split
  all_goals first | rfl | omega
theorem rT_30 (r : xR) (T : Int × Int × Int × Int) (v : Int) : xr_i (rT r T) 30 v = rT r (v, T.2) := by
  refine Prod.ext (funext fun k => ?_) rfl
  unfold rT xr_i xfu
  dsimp only
  repeat' split
  all_goals first | rfl | omega
theorem rT_31 (r : xR) (T : Int × Int × Int × Int) (v : Int) : xr_i (rT r T) 31 v = rT r (T.1, v, T.2.2) := by
  refine Prod.ext (funext fun k => ?_) rfl
  unfold rT xr_i xfu
  dsimp only
  repeat' split
  all_goals first | rfl | omega
theorem rT_32 (r : xR) (T : Int × Int × Int × Int) (v : Int) : xr_i (rT r T) 32 v = rT r (T.1, T.2.1, v, T.2.2.2) := by
  refine Prod.ext (funext fun k => ?_) rfl
  unfold rT xr_i xfu
  dsimp only
  repeat' split
  all_goals first | rfl | omega
theorem rT_33 (r : xR) (T : Int × Int × Int × Int) (v : Int) : xr_i (rT r T) 33 v = rT r (T.1, T.2.1, T.2.2.1, v) := by
  refine Prod.ext (funext fun k => ?_) rfl
  unfold rT xr_i xfu
  dsimp only
  repeat' split
  all_goals first | rfl | omega
/-- some half hours, and their sums -/
abbrev xHs : Type := xFl × (Int × Int × Int × Int)
def kHs1 (k : xKx) (P : xHs) : xHs :=
  let F := kHalf k P.1
  (F, xw (P.2.1 + bitC F.2.1), xor_ P.2.2.1 F.2.1, xor_ P.2.2.2.1 F.2.2.1, xor_ P.2.2.2.2 F.2.2.2.1)
def kHs (k : xKx) (m : Nat) (P : xHs) : xHs := xit (fun _ => kHs1 k) m P
theorem kBear_hs {k : xKx} {P : xHs} (hB : kB k ≤ 6) (hN : kN k ≤ 8) (hl : kBear (kN k) P.1.1) : ∀ m, kBear (kN k) (kHs k m P).1.1
  | 0 => hl
  | m + 1 => kBear_half hB hN (kBear_hs hB hN hl m)
section GX
variable {n : Nat} {h : xH} {r : xR} {H : xH} {j : Nat} {F : xFl} {J : xR} {T : Int × Int × Int × Int}
theorem rW_30 : (rW (rT r T) j F J).1 30 = T.1 := rfl
theorem rW_31 : (rW (rT r T) j F J).1 31 = T.2.1 := rfl
theorem rW_32 : (rW (rT r T) j F J).1 32 = T.2.2.1 := rfl
theorem rW_33 : (rW (rT r T) j F J).1 33 = T.2.2.2 := rfl
theorem rW_p30 (v : Int) : xr_i (rW (rT r T) j F J) 30 v = rW (rT r (v, T.2)) j F J := by rw [rW_pi (by omega) (by omega), rT_30]
theorem rW_p31 (v : Int) : xr_i (rW (rT r T) j F J) 31 v = rW (rT r (T.1, v, T.2.2)) j F J := by rw [rW_pi (by omega) (by omega), rT_31]
theorem rW_p32 (v : Int) : xr_i (rW (rT r T) j F J) 32 v = rW (rT r (T.1, T.2.1, v, T.2.2.2)) j F J := by rw [rW_pi (by omega) (by omega), rT_32]
theorem rW_p33 (v : Int) : xr_i (rW (rT r T) j F J) 33 v = rW (rT r (T.1, T.2.1, T.2.2.1, v)) j F J := by rw [rW_pi (by omega) (by omega), rT_33]
theorem rOk_B (hr : rOk r) : kB (rK r) ≤ 6 := by
  obtain ⟨⟨b0, b1⟩, _⟩ := hr
  show (r.1 1).toNat ≤ 6
  omega
theorem rOk_N (hr : rOk r) : kN (rK r) ≤ 8 := by
  obtain ⟨_, ⟨b0, b1⟩, _⟩ := hr
  show (r.1 2).toNat ≤ 8
  omega
set_option maxHeartbeats 400000 in
theorem r_goHalves (hj : j = 1 ∨ j = 12 ∨ j = 14) (hr : rOk r) (hl : kBear (kN (rK r)) F.1) {m : Nat} (hm : m ≤ 1000) : ∃ J', (gg (n + 824) 228).2 [.inr (.inr (.inl (1, 0))), .inr (.inr (.inl (1, j))), .inl (m : Int)] (hR h (rW (rT r T) j F J)) = some (none, hR h (rW (rT r (kHs (rK r) m (F, T)).2) j (kHs (rK r) m (F, T)).1 J')) := by
  have key : ∃ J1, p_lop (lX12_goHalves_2 (gg (n + 823))) ([.inr (.inr (.inl (1, 0))), .inr (.inr (.inl (1, j))), .inl (m : Int), .inl 0], [], hR h (rW (rT r T) j F J)) = some (.inl (0 + 1), ([.inr (.inr (.inl (1, 0))), .inr (.inr (.inl (1, j))), .inl (m : Int), .inl (m : Int)], [], hR h (rW (rT r (kHs (rK r) m (F, T)).2) j (kHs (rK r) m (F, T)).1 J1))) := by
    refine k_forE (fun i J => ([.inr (.inr (.inl (1, 0))), .inr (.inr (.inl (1, j))), .inl (m : Int), .inl (i : Int)], [], hR h (rW (rT r (kHs (rK r) i (F, T)).2) j (kHs (rK r) i (F, T)).1 J))) m (e := fun J1 => ([.inr (.inr (.inl (1, 0))), .inr (.inr (.inl (1, j))), .inl (m : Int), .inl (m : Int)], [], hR h (rW (rT r (kHs (rK r) m (F, T)).2) j (kHs (rK r) m (F, T)).1 J1))) J rfl ?_ ?_
    · intro J'
      simp -implicitDefEqProofs (disch := first | exact isc_R | (simp only [List.map_cons, List.map_nil, List.sum_cons, List.sum_nil, xcat, Nat.reduceAdd, Nat.reduceLeDiff, Nat.zero_le]; done) | omega) only [lX12_goHalves_2, k_p_sq, k_p_blk, k_sq0, k_sq11, k_sq12, k_sq13, k_sq14, k_sq15, k_sqr, k_sqi, k_blk0, k_blk1, k_blk2, k_blk3, k_blk4, k_blk5, k_blkr, k_blki, k_finr, k_fini, k_mapi, k_bindi, k_if1, k_if2, k_ops, k_br, k_rv, k_ri, k_rl, k_rz, k_rzi, k_01d, k_sw, k_01a, k_01b, k_01c, k_ifn, x_cmp, decide_eq_true_eq, Option.map_some, Option.bind_some, Option.toList_some, Option.toList_none, List.cons_append, List.nil_append, Nat.reduceAdd, true_or, or_true, Int.reduceNeg, Int.reduceEq, reduceIte, Nat.zero_le, Nat.reduceLeDiff, Nat.le_refl, Nat.reduceEqDiff, List.getElem?_cons_zero, List.getElem?_cons_succ, xst, List.set_cons_zero, List.set_cons_succ, List.map_cons, List.map_nil, List.sum_cons, List.sum_nil, xcat, Nat.reduceMul, Nat.reduceDiv, Nat.reduceMod, Nat.add_zero, e_nil, e_iconst, e_il, e_al, e_ll, e_istore, e_astore, e_lstore, e_ic, e_iadd, e_isub, e_imul, e_iand, e_ior, e_ixor, e_ishl, e_ishr, e_ineg, e_dupi, e_dupr, e_dupx, e_dup2, e_popi, er_g0, er_g1, er_g2, er_g3, er_g4, er_g5, er_g6, er_g7, er_g8, er_g9, er_g10, er_g11, er_g12, er_g13, er_g14, er_g15, er_g16, er_g17, er_g18, er_g19, er_g20, er_g21, er_g22, er_g23, er_g24, er_g25, er_g26, er_g27, er_g28, er_g29, er_g30, er_g31, er_g32, er_g33, er_g34, er_g35, er_g36, er_g37, er_g38, er_g39, er_g40, er_g41, er_g42, er_g43, er_g44, er_g45, er_g46, er_g47, er_s1, er_s2, er_s5, er_s6, er_s8, er_s10, er_s11, er_s13, er_s14, er_s15, er_s16, er_s20, er_s23, er_s24, er_s25, er_s28, er_s30, er_s31, er_s32, er_s33, er_s42, er_s43, er_s44, er_s21a, er_s21b, er_s12a, er_s12b, isc_R, Int.le_refl]
    · intro i hi J'
      have hb := kBear_hs (P := (F, T)) (rOk_B hr) (rOk_N hr) hl i
      have hs : kHs (rK r) (i + 1) (F, T) = kHs1 (rK r) (kHs (rK r) i (F, T)) := rfl
      rw [hs]
      generalize kHs (rK r) i (F, T) = P at hb
      obtain ⟨F1, T1⟩ := P
      obtain ⟨J2, f2⟩ := r_goHalf (n := n) (h := h) (r := rT r T1) (F := F1) (J := J') hj hr hb
      refine ⟨J2, ?_⟩
      have f2 : (gg (n + 823) 211).2 [.inr (.inr (.inl (1, 0))), .inr (.inr (.inl (1, j)))] (hR h (rW (rT r T1) j F1 J')) = some (none, hR h (rW (rT r T1) j (kHalf (rK r) F1) J2)) := f2
      unfold kHs1
      dsimp only
      generalize kHalf (rK r) F1 = F2 at f2
      have hk2 : ¬ (m : Int) ≤ (i : Int) := by omega
      have x1 : xw ((i : Int) + 1) = (i : Int) + 1 := xw_id (by omega) (by omega)
      clear hr hl hb hs
      simp -implicitDefEqProofs (disch := first | exact isc_R | (simp only [List.map_cons, List.map_nil, List.sum_cons, List.sum_nil, xcat, Nat.reduceAdd, Nat.reduceLeDiff, Nat.zero_le]; done) | omega) only [lX12_goHalves_2, k_p_sq, k_p_blk, k_sq0, k_sq11, k_sq12, k_sq13, k_sq14, k_sq15, k_sqr, k_sqi, k_blk0, k_blk1, k_blk2, k_blk3, k_blk4, k_blk5, k_blkr, k_blki, k_finr, k_fini, k_mapi, k_bindi, k_if1, k_if2, k_ops, k_br, k_rv, k_ri, k_rl, k_rz, k_rzi, k_01d, k_sw, k_01a, k_01b, k_01c, k_ifn, x_cmp, decide_eq_true_eq, Option.map_some, Option.bind_some, Option.toList_some, Option.toList_none, List.cons_append, List.nil_append, Nat.reduceAdd, true_or, or_true, Int.reduceNeg, Int.reduceEq, reduceIte, Nat.zero_le, Nat.reduceLeDiff, Nat.le_refl, Nat.reduceEqDiff, List.getElem?_cons_zero, List.getElem?_cons_succ, xst, List.set_cons_zero, List.set_cons_succ, List.map_cons, List.map_nil, List.sum_cons, List.sum_nil, xcat, Nat.reduceMul, Nat.reduceDiv, Nat.reduceMod, Nat.add_zero, e_nil, e_iconst, e_il, e_al, e_ll, e_istore, e_astore, e_lstore, e_ic, e_iadd, e_isub, e_imul, e_iand, e_ior, e_ixor, e_ishl, e_ishr, e_ineg, e_dupi, e_dupr, e_dupx, e_dup2, e_popi, er_g0, er_g1, er_g2, er_g3, er_g4, er_g5, er_g6, er_g7, er_g8, er_g9, er_g10, er_g11, er_g12, er_g13, er_g14, er_g15, er_g16, er_g17, er_g18, er_g19, er_g20, er_g21, er_g22, er_g23, er_g24, er_g25, er_g26, er_g27, er_g28, er_g29, er_g30, er_g31, er_g32, er_g33, er_g34, er_g35, er_g36, er_g37, er_g38, er_g39, er_g40, er_g41, er_g42, er_g43, er_g44, er_g45, er_g46, er_g47, er_s1, er_s2, er_s5, er_s6, er_s8, er_s10, er_s11, er_s13, er_s14, er_s15, er_s16, er_s20, er_s23, er_s24, er_s25, er_s28, er_s30, er_s31, er_s32, er_s33, er_s42, er_s43, er_s44, er_s21a, er_s21b, er_s12a, er_s12b, isc_R, hk2, ec211, f2, rW_23, rW_24, rW_25, rW_30, rW_31, rW_32, rW_33, rW_p30, rW_p31, rW_p32, rW_p33, ec282, r_bitC, x1, Int.natCast_add, Int.cast_ofNat_Int, e_iinc]
  obtain ⟨J1, key⟩ := key
  refine ⟨J1, ?_⟩
  have key : p_lop (lX12_goHalves_2 (gg (n + 823))) ([.inr (.inr (.inl (1, 0))), .inr (.inr (.inl (1, j))), .inl (m : Int), .inl 0], [], hR h (rW (rT r T) j F J)) = some (.inl 1, ([.inr (.inr (.inl (1, 0))), .inr (.inr (.inl (1, j))), .inl (m : Int), .inl (m : Int)], [], hR h (rW (rT r (kHs (rK r) m (F, T)).2) j (kHs (rK r) m (F, T)).1 J1))) := key
  rw [gr228]
  unfold fX12_goHalves
  generalize kHs (rK r) m (F, T) = P at key
  simp -implicitDefEqProofs (disch := first | exact isc_R | (simp only [List.map_cons, List.map_nil, List.sum_cons, List.sum_nil, xcat, Nat.reduceAdd, Nat.reduceLeDiff, Nat.zero_le]; done) | omega) only [k_p_sq, k_p_blk, k_sq0, k_sq11, k_sq12, k_sq13, k_sq14, k_sq15, k_sqr, k_sqi, k_blk0, k_blk1, k_blk2, k_blk3, k_blk4, k_blk5, k_blkr, k_blki, k_finr, k_fini, k_mapi, k_bindi, k_if1, k_if2, k_ops, k_br, k_rv, k_ri, k_rl, k_rz, k_rzi, k_01d, k_sw, k_01a, k_01b, k_01c, k_ifn, x_cmp, decide_eq_true_eq, Option.map_some, Option.bind_some, Option.toList_some, Option.toList_none, List.cons_append, List.nil_append, Nat.reduceAdd, true_or, or_true, Int.reduceNeg, Int.reduceEq, reduceIte, Nat.zero_le, Nat.reduceLeDiff, Nat.le_refl, Nat.reduceEqDiff, List.getElem?_cons_zero, List.getElem?_cons_succ, xst, List.set_cons_zero, List.set_cons_succ, List.map_cons, List.map_nil, List.sum_cons, List.sum_nil, xcat, Nat.reduceMul, Nat.reduceDiv, Nat.reduceMod, Nat.add_zero, e_nil, e_iconst, e_il, e_al, e_ll, e_istore, e_astore, e_lstore, e_ic, e_iadd, e_isub, e_imul, e_iand, e_ior, e_ixor, e_ishl, e_ishr, e_ineg, e_dupi, e_dupr, e_dupx, e_dup2, e_popi, er_g0, er_g1, er_g2, er_g3, er_g4, er_g5, er_g6, er_g7, er_g8, er_g9, er_g10, er_g11, er_g12, er_g13, er_g14, er_g15, er_g16, er_g17, er_g18, er_g19, er_g20, er_g21, er_g22, er_g23, er_g24, er_g25, er_g26, er_g27, er_g28, er_g29, er_g30, er_g31, er_g32, er_g33, er_g34, er_g35, er_g36, er_g37, er_g38, er_g39, er_g40, er_g41, er_g42, er_g43, er_g44, er_g45, er_g46, er_g47, er_s1, er_s2, er_s5, er_s6, er_s8, er_s10, er_s11, er_s13, er_s14, er_s15, er_s16, er_s20, er_s23, er_s24, er_s25, er_s28, er_s30, er_s31, er_s32, er_s33, er_s42, er_s43, er_s44, er_s21a, er_s21b, er_s12a, er_s12b, isc_R, key]
end GX
