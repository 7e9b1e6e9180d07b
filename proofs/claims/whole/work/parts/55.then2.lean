/-! ===== half hours to come, further ===== -/
theorem tell_10 : ∀ (vs : List Int) (q : xR) (m : Nat), q.1 10 = (m : Int) → m + vs.length ≤ 100 → (vs.foldl (fun q v => xr_i (xr_a q 5 (q.1 10).toNat v) 10 (xw (q.1 10 + 1))) q).1 10 = ((m + vs.length : Nat) : Int)
  | [], q, m, h1, _ => h1
  | v :: vs, q, m, h1, h2 => by
    have hq : (xr_i (xr_a q 5 (q.1 10).toNat v) 10 (xw (q.1 10 + 1))).1 10 = ((m + 1 : Nat) : Int) := by
      show xw (q.1 10 + 1) = _
      rw [h1, xw_id (by omega) (by simp only [List.length_cons] at h2; omega)]
      omega
    have := tell_10 vs _ (m + 1) hq (by simp only [List.length_cons] at h2; omega)
    rw [List.foldl_cons, this, List.length_cons]
    omega
theorem rTell_10 (r : xR) (vs : List Int) (h : vs.length ≤ 100) : (rTell r vs).1 10 = (vs.length : Int) := by
  have := tell_10 vs (xr_i r 10 0) 0 rfl (by omega)
  unfold rTell
  rw [this, Nat.zero_add]
theorem tell_1 {k : Nat} (hk : k ≠ 10) : ∀ (vs : List Int) (q : xR), (vs.foldl (fun q v => xr_i (xr_a q 5 (q.1 10).toNat v) 10 (xw (q.1 10 + 1))) q).1 k = q.1 k
  | [], q => rfl
  | v :: vs, q => by
    rw [List.foldl_cons, tell_1 hk vs]
    exact xfu_ne _ _ hk
theorem tell_2 {c : Nat} (hc : c ≠ 5) : ∀ (vs : List Int) (q : xR), (vs.foldl (fun q v => xr_i (xr_a q 5 (q.1 10).toNat v) 10 (xw (q.1 10 + 1))) q).2 c = q.2 c
  | [], q => rfl
  | v :: vs, q => by
    rw [List.foldl_cons, tell_2 hc vs]
    exact xfu_ne _ _ hc
theorem rTell_1 (r : xR) (vs : List Int) {k : Nat} (hk : k ≠ 10) : (rTell r vs).1 k = r.1 k := by
  unfold rTell
  rw [tell_1 hk]
  exact xfu_ne _ _ hk
theorem rTell_2 (r : xR) (vs : List Int) {c : Nat} (hc : c ≠ 5) : (rTell r vs).2 c = r.2 c := by
  unfold rTell
  rw [tell_2 hc]
  rfl
theorem rTell_app (r : xR) (vs : List Int) (v : Int) : rTell r (vs ++ [v]) = xr_i (xr_a (rTell r vs) 5 ((rTell r vs).1 10).toNat v) 10 (xw ((rTell r vs).1 10 + 1)) := by
  unfold rTell
  rw [List.foldl_append]
  rfl
def kHN (k : xKx) (m : Nat) (F : xFl) : xFl := xit (fun _ => kHalf k) m F
section TI
variable {B N M : Nat} {k : xKx} {g : Nat}
theorem kGull_far {i : Nat} (hi : 114 ≤ i) {F : xFl} (hg : g < 8) (hl : F.1 (76 + g) = -1 ∨ (0 ≤ F.1 (76 + g) ∧ F.1 (76 + g) < 10)) : (kGull k g F).1 i = F.1 i := by
  unfold kGull
  dsimp only
  generalize rAim (kStorm k) (kB k) (kHome k) F.1 g = q
  generalize kRg k F.1 g (rFar F.1 g q) = rg
  generalize (rToward (F.1 (52 + g)) (if q = -1 then 0 else F.1 q.toNat) rg) = v1
  generalize (mMax 0 (xw (rg - mAbs (xw (F.1 (52 + g) - if q = -1 then 0 else F.1 q.toNat))))) = v2
  generalize (rToward (xfu F.1 (52 + g) v1 (60 + g)) (if q = -1 then 0 else F.1 (6 + q.toNat)) v2) = v3
  have e : ∀ i, 76 ≤ i → (xfu (xfu F.1 (52 + g) v1) (60 + g) v3) i = F.1 i := fun i hi => by rw [xfu_ne _ _ (by omega), xfu_ne _ _ (by omega)]
  generalize (xfu (xfu F.1 (52 + g) v1) (60 + g) v3) = a2 at e
  rw [← e _ (by omega)] at hl
  rw [← e i (by omega)]
  generalize a2 (76 + g) = l at hl
  repeat' split
  all_goals simp (disch := omega) only [xfu_ne]
theorem kGulls_far {i : Nat} (hi : 114 ≤ i) (hN : N ≤ 8) (hM : M ≤ 10) {F : xFl} (hl : kBe M N F.1) : ∀ m, m ≤ N → kBe M N (kGulls k m F).1 ∧ (kGulls k m F).1 i = F.1 i
  | 0, _ => ⟨hl, rfl⟩
  | m + 1, hm => by
    obtain ⟨i0, i1⟩ := kGulls_far hi hN hM hl m (by omega)
    unfold kGulls
    split
    · refine ⟨kBe_gull hN hM (by omega) i0, ?_⟩
      rw [kGull_far hi (by omega) (by have := i0 m (by omega); omega), i1]
    · exact ⟨i0, i1⟩
theorem kBe_half (hB : kB k ≤ 6) (hN : N ≤ 8) (hM : M ≤ 10) (hk2 : kN k ≤ N) {F : xFl} (hl : kBe M N F.1) : kBe M N (kHalf k F).1 ∧ (kHalf k F).1 114 = F.1 114 ∧ (kHalf k F).1 115 = xw (F.1 115 + 1) := by
  have l1 : kBe M N (xit boat1 (kB k) F.1) := fun g hg => by rw [boats_far (by omega) _ _ (by omega)]; exact hl g hg
  obtain ⟨i0, i1⟩ := kGulls_far (k := k) (i := 114) (by decide) hN hM (F := (xit boat1 (kB k) F.1, 0, 0, 0, F.2.2.2.2)) l1 (kN k) hk2
  obtain ⟨_, i2⟩ := kGulls_far (k := k) (i := 115) (by decide) hN hM (F := (xit boat1 (kB k) F.1, 0, 0, 0, F.2.2.2.2)) l1 (kN k) hk2
  dsimp only at i1 i2
  rw [boats_far (by omega) _ _ hB] at i1 i2
  unfold kHalf
  dsimp only
  refine ⟨fun g hg => ?_, ?_, ?_⟩
  · rw [xfu_ne _ _ (by omega)]
    exact i0 g hg
  · rw [xfu_ne _ _ (by omega), i1]
  · rw [xfu_self, i2]
theorem kHN_ok (hB : kB k ≤ 6) (hN : N ≤ 8) (hM : M ≤ 10) (hk2 : kN k ≤ N) {F : xFl} (hl : kBe M N F.1) : ∀ m, kBe M N (kHN k m F).1 ∧ (kHN k m F).1 114 = F.1 114
  | 0 => ⟨hl, rfl⟩
  | m + 1 => by
    obtain ⟨i0, i1⟩ := kHN_ok hB hN hM hk2 hl m
    obtain ⟨j0, j1, _⟩ := kBe_half hB hN hM hk2 i0
    exact ⟨j0, j1.trans i1⟩
theorem kHN_eq (hB : B ≤ 6) (hN : N ≤ 8) (hM : M ≤ 10) (hk : kB k ≤ B) (hk2 : kN k ≤ N) (hh : ∀ g, g < N → (0 ≤ kHome k g ∧ kHome k g < B)) {F F' : xFl} (hl : kBe M N F.1) (e : kEq B N M F.1 F'.1) : ∀ m, kBe M N (kHN k m F).1 ∧ kEq B N M (kHN k m F).1 (kHN k m F').1
  | 0 => ⟨hl, e⟩
  | m + 1 => by
    obtain ⟨i0, i1⟩ := kHN_eq hB hN hM hk hk2 hh hl e m
    obtain ⟨j0, j1, _⟩ := kHalf_c hB hN hM hk hk2 hh i0 i1
    exact ⟨j0, j1⟩
theorem kHs_N (k : xKx) (P : xHs) : ∀ m, (kHs k m P).1 = kHN k m P.1
  | 0 => rfl
  | m + 1 => by
    show kHalf k (kHs k m P).1 = kHalf k (kHN k m P.1)
    rw [kHs_N k P m]
theorem rOn_eq {a b : Nat → Int} (hM : M ≤ 10) (ha : (a 114).toNat ≤ M) (e : kEq B N M a b) (rt : Int) : rOn a rt = rOn b rt := by
  have key : ∀ i, i ≤ M → xit (rOn1 a rt) i 0 = xit (rOn1 b rt) i 0 := fun i => by
    induction i with
    | zero => intro _; show (0 : Int) = 0; rfl
    | succ i ih =>
      intro hi
      show rOn1 a rt i (xit (rOn1 a rt) i 0) = rOn1 b rt i (xit (rOn1 b rt) i 0)
      rw [ih (by omega)]
      have x84 : a (84 + i) = b (84 + i) := e _ (by unfold kLv; omega)
      have x94 : a (94 + i) = b (94 + i) := e _ (by unfold kLv; omega)
      have x104 : a (104 + i) = b (104 + i) := e _ (by unfold kLv; omega)
      unfold rOn1
      rw [x84, x94, x104]
  unfold rOn
  rw [← kEq_114 e, key _ ha]
theorem rAt_eq {a b : Nat → Int} (hM : M ≤ 10) (ha : (a 114).toNat ≤ M) (e : kEq B N M a b) (wh ws : Int) : rAt a wh ws = rAt b wh ws := by
  have key : ∀ i, i ≤ M → xit (rAt1 a wh ws) i 0 = xit (rAt1 b wh ws) i 0 := fun i => by
    induction i with
    | zero => intro _; show (0 : Int) = 0; rfl
    | succ i ih =>
      intro hi
      show rAt1 a wh ws i (xit (rAt1 a wh ws) i 0) = rAt1 b wh ws i (xit (rAt1 b wh ws) i 0)
      rw [ih (by omega)]
      have x94 : a (94 + i) = b (94 + i) := e _ (by unfold kLv; omega)
      have x104 : a (104 + i) = b (104 + i) := e _ (by unfold kLv; omega)
      unfold rAt1
      rw [x94, x104]
  unfold rAt
  rw [← kEq_114 e, key _ ha]
end TI
section TJ
variable {n : Nat} {h : xH} {r : xR} {H : xH} {j : Nat} {F : xFl} {J : xR}
theorem r_tellN (v : Int) {vs : List Int} (hv : vs.length < 16) : (gg (n + 1) 174).2 [.inr (.inr (.inl (1, 0))), .inl v] (hR h (rTell r vs)) = some (none, hR h (rTell r (vs ++ [v]))) := by
  have := r_tell (n := n) (h := h) (r := rTell r vs) v (by rw [rTell_10 _ _ (by omega)]; omega) (by rw [rTell_10 _ _ (by omega)]; omega)
  rw [this, rTell_app]
theorem rTell_0 (r : xR) : xr_i r 10 0 = rTell r [] := rfl
/-- what holds of the reference's row -/
def rA (r : xR) : Prop := kBe 10 (kN (rK r)) (r.2 1) ∧ 0 ≤ r.2 1 114 ∧ r.2 1 114 ≤ 10
def sDelivers (r : xR) (m : Int) : Int × xR :=
  if 0 ≤ m ∧ m ≤ 60 then
    (let a := (kHN (rK r) m.toNat (r.2 1, 0, 0, 0, fun _ => 0)).1
     (rOn a 1, rTell (xr_i r 11 0) [rOn a 0, rAt a 3 (-1)]))
  else (-1, xr_i r 11 0)
set_option maxHeartbeats 400000 in
theorem R_delivers (hr : rOk r) (ha : rA r) (m : Int) : ∃ r', (gg (n + 824) 243).2 [.inr (.inr (.inl (1, 0))), .inl m] (hR h r) = some (some (.inl (sDelivers r m).1), hR h r') ∧ rC r' = rC (sDelivers r m).2 := by
  have f1 := r_isLook (n := n + 821) (H := hR h (xr_i r 11 0)) m
  unfold sDelivers
  by_cases c1 : 0 ≤ m ∧ m ≤ 60
  · rw [if_pos c1]
    dsimp only
    have f2 := r_then (n := n + 822) (h := h) (r := xr_i r 11 0)
    obtain ⟨hl, a0, a1⟩ := ha
    have e0 : kEq 6 (kN (rK r)) 10 ((rThen (xr_i r 11 0)).2 14) (r.2 1) := rThen_eq (xr_i r 11 0)
    have e14 : (rThen (xr_i r 11 0)).2 14 114 = r.2 1 114 := kEq_114 e0
    have hl2 : kBe 10 (kN (rK r)) ((rThen (xr_i r 11 0)).2 14) := fun g hg => by rw [rThen_14 _ (by have := rOk_N hr; omega)]; exact hl g hg
    have hr1 : rOk (rThen (xr_i r 11 0)) := hr
    have hK : rK (rThen (xr_i r 11 0)) = rK r := rfl
    have hC : rC (rThen (xr_i r 11 0)) = rC (xr_i r 11 0) := rThen_c _
    generalize rThen (xr_i r 11 0) = q at f2 e0 e14 hl2 hr1 hK hC
    have key : ∃ J1, p_lop (lX12_delivers_28 (gg (n + 823))) ([.inr (.inr (.inl (1, 0))), .inl m, .inl 0], [], hR h q) = some (.inl (0 + 1), ([.inr (.inr (.inl (1, 0))), .inl m, .inl m], [], hR h (rW q 14 (kHN (rK r) m.toNat (q.2 14, q.1 23, q.1 24, q.1 25, q.2 10)) J1))) := by
      refine k_forE (fun i J => ([.inr (.inr (.inl (1, 0))), .inl m, .inl (i : Int)], [], hR h (rW q 14 (kHN (rK r) i (q.2 14, q.1 23, q.1 24, q.1 25, q.2 10)) J))) m.toNat (e := fun J1 => ([.inr (.inr (.inl (1, 0))), .inl m, .inl m], [], hR h (rW q 14 (kHN (rK r) m.toNat (q.2 14, q.1 23, q.1 24, q.1 25, q.2 10)) J1))) q (by show (([.inr (.inr (.inl (1, 0))), .inl m, .inl 0], [], hR h (rW q 14 (q.2 14, q.1 23, q.1 24, q.1 25, q.2 10) q)) : xS) = _; rw [rW_self14]) ?_ ?_
      · intro J'
        have hm : ((m.toNat : Nat) : Int) = m := by omega
        simp -implicitDefEqProofs (disch := first | exact isc_R | (simp only [List.map_cons, List.map_nil, List.sum_cons, List.sum_nil, xcat, Nat.reduceAdd, Nat.reduceLeDiff, Nat.zero_le]; done) | omega) only [lX12_delivers_28, k_p_sq, k_p_blk, k_sq0, k_sq11, k_sq12, k_sq13, k_sq14, k_sq15, k_sqr, k_sqi, k_blk0, k_blk1, k_blk2, k_blk3, k_blk4, k_blk5, k_blkr, k_blki, k_finr, k_fini, k_mapi, k_bindi, k_if1, k_if2, k_ops, k_br, k_rv, k_ri, k_rl, k_rz, k_rzi, k_01d, k_sw, k_01a, k_01b, k_01c, k_ifn, x_cmp, decide_eq_true_eq, Option.map_some, Option.bind_some, Option.toList_some, Option.toList_none, List.cons_append, List.nil_append, Nat.reduceAdd, true_or, or_true, Int.reduceNeg, Int.reduceEq, reduceIte, Nat.zero_le, Nat.reduceLeDiff, Nat.le_refl, Nat.reduceEqDiff, List.getElem?_cons_zero, List.getElem?_cons_succ, xst, List.set_cons_zero, List.set_cons_succ, List.map_cons, List.map_nil, List.sum_cons, List.sum_nil, xcat, Nat.reduceMul, Nat.reduceDiv, Nat.reduceMod, Nat.add_zero, e_nil, e_iconst, e_il, e_al, e_ll, e_istore, e_astore, e_lstore, e_ic, e_iadd, e_isub, e_imul, e_iand, e_ior, e_ixor, e_ishl, e_ishr, e_ineg, e_dupi, e_dupr, e_dupx, e_dup2, e_popi, er_g0, er_g1, er_g2, er_g3, er_g4, er_g5, er_g6, er_g7, er_g8, er_g9, er_g10, er_g11, er_g12, er_g13, er_g14, er_g15, er_g16, er_g17, er_g18, er_g19, er_g20, er_g21, er_g22, er_g23, er_g24, er_g25, er_g26, er_g27, er_g28, er_g29, er_g30, er_g31, er_g32, er_g33, er_g34, er_g35, er_g36, er_g37, er_g38, er_g39, er_g40, er_g41, er_g42, er_g43, er_g44, er_g45, er_g46, er_g47, er_s1, er_s2, er_s5, er_s6, er_s8, er_s10, er_s11, er_s13, er_s14, er_s15, er_s16, er_s20, er_s23, er_s24, er_s25, er_s28, er_s30, er_s31, er_s32, er_s33, er_s42, er_s43, er_s44, er_s21a, er_s21b, er_s12a, er_s12b, isc_R, hm, Int.le_refl]
      · intro i hi J'
        obtain ⟨i0, _⟩ := kHN_ok (k := rK r) (F := (q.2 14, q.1 23, q.1 24, q.1 25, q.2 10)) (rOk_B hr) (rOk_N hr) (Nat.le_refl 10) (Nat.le_refl _) hl2 i
        have hs : kHN (rK r) (i + 1) (q.2 14, q.1 23, q.1 24, q.1 25, q.2 10) = kHalf (rK r) (kHN (rK r) i (q.2 14, q.1 23, q.1 24, q.1 25, q.2 10)) := rfl
        rw [hs]
        generalize kHN (rK r) i (q.2 14, q.1 23, q.1 24, q.1 25, q.2 10) = F1 at i0
        obtain ⟨J2, f3⟩ := r_goHalf (n := n) (h := h) (r := q) (j := 14) (F := F1) (J := J') (by decide) hr1 (by rw [hK]; exact i0)
        rw [hK] at f3
        refine ⟨J2, ?_⟩
        have hk2 : ¬ m ≤ (i : Int) := by omega
        have x1 : xw ((i : Int) + 1) = (i : Int) + 1 := xw_id (by omega) (by omega)
        clear hr hl hs hl2 hr1 e0 hK i0
        simp -implicitDefEqProofs (disch := first | exact isc_R | (simp only [List.map_cons, List.map_nil, List.sum_cons, List.sum_nil, xcat, Nat.reduceAdd, Nat.reduceLeDiff, Nat.zero_le]; done) | omega) only [lX12_delivers_28, k_p_sq, k_p_blk, k_sq0, k_sq11, k_sq12, k_sq13, k_sq14, k_sq15, k_sqr, k_sqi, k_blk0, k_blk1, k_blk2, k_blk3, k_blk4, k_blk5, k_blkr, k_blki, k_finr, k_fini, k_mapi, k_bindi, k_if1, k_if2, k_ops, k_br, k_rv, k_ri, k_rl, k_rz, k_rzi, k_01d, k_sw, k_01a, k_01b, k_01c, k_ifn, x_cmp, decide_eq_true_eq, Option.map_some, Option.bind_some, Option.toList_some, Option.toList_none, List.cons_append, List.nil_append, Nat.reduceAdd, true_or, or_true, Int.reduceNeg, Int.reduceEq, reduceIte, Nat.zero_le, Nat.reduceLeDiff, Nat.le_refl, Nat.reduceEqDiff, List.getElem?_cons_zero, List.getElem?_cons_succ, xst, List.set_cons_zero, List.set_cons_succ, List.map_cons, List.map_nil, List.sum_cons, List.sum_nil, xcat, Nat.reduceMul, Nat.reduceDiv, Nat.reduceMod, Nat.add_zero, e_nil, e_iconst, e_il, e_al, e_ll, e_istore, e_astore, e_lstore, e_ic, e_iadd, e_isub, e_imul, e_iand, e_ior, e_ixor, e_ishl, e_ishr, e_ineg, e_dupi, e_dupr, e_dupx, e_dup2, e_popi, er_g0, er_g1, er_g2, er_g3, er_g4, er_g5, er_g6, er_g7, er_g8, er_g9, er_g10, er_g11, er_g12, er_g13, er_g14, er_g15, er_g16, er_g17, er_g18, er_g19, er_g20, er_g21, er_g22, er_g23, er_g24, er_g25, er_g26, er_g27, er_g28, er_g29, er_g30, er_g31, er_g32, er_g33, er_g34, er_g35, er_g36, er_g37, er_g38, er_g39, er_g40, er_g41, er_g42, er_g43, er_g44, er_g45, er_g46, er_g47, er_s1, er_s2, er_s5, er_s6, er_s8, er_s10, er_s11, er_s13, er_s14, er_s15, er_s16, er_s20, er_s23, er_s24, er_s25, er_s28, er_s30, er_s31, er_s32, er_s33, er_s42, er_s43, er_s44, er_s21a, er_s21b, er_s12a, er_s12b, isc_R, hk2, ec211, f3, x1, Int.natCast_add, Int.cast_ofNat_Int, e_iinc]
    obtain ⟨J1, key⟩ := key
    obtain ⟨i0, i1⟩ := kHN_eq (k := rK r) (B := 6) (N := kN (rK r)) (M := 10) (by decide) (rOk_N hr) (Nat.le_refl 10) (rOk_B hr) (Nat.le_refl _) hr.2.2.1 (F := (q.2 14, q.1 23, q.1 24, q.1 25, q.2 10)) (F' := (r.2 1, 0, 0, 0, fun _ => 0)) hl2 e0 m.toNat
    obtain ⟨_, i2⟩ := kHN_ok (k := rK r) (F := (q.2 14, q.1 23, q.1 24, q.1 25, q.2 10)) (rOk_B hr) (rOk_N hr) (Nat.le_refl 10) (Nat.le_refl _) hl2 m.toNat
    dsimp only at i2
    generalize kHN (rK r) m.toNat (q.2 14, q.1 23, q.1 24, q.1 25, q.2 10) = F1 at key i0 i1 i2
    generalize kHN (rK r) m.toNat (r.2 1, 0, 0, 0, fun _ => 0) = F2 at i1
    have b0 : 0 ≤ F1.1 114 := by rw [i2, e14]; exact a0
    have b1 : F1.1 114 ≤ 10 := by rw [i2, e14]; exact a1
    rw [← rOn_eq (Nat.le_refl 10) (by omega) i1, ← rOn_eq (Nat.le_refl 10) (by omega) i1, ← rAt_eq (Nat.le_refl 10) (by omega) i1]
    have g1 : ∀ vs rt, (gg (n + 823) 242).2 [.inr (.inr (.inl (1, 14))), .inl rt] (hR h (rTell (rW q 14 F1 J1) vs)) = some (some (.inl (rOn F1.1 rt)), hR h (rTell (rW q 14 F1 J1) vs)) := fun vs rt => by
      have e := r_on (n := n + 822) (h := h) (r := rTell (rW q 14 F1 J1) vs) (j := 14) (by decide) rt (by rw [rTell_2 _ _ (by decide), rW_j]; exact b0) (by rw [rTell_2 _ _ (by decide), rW_j]; exact b1)
      rw [rTell_2 _ _ (by decide), rW_j] at e
      exact e
    have g2 : ∀ vs wh ws, (gg (n + 823) 203).2 [.inr (.inr (.inl (1, 14))), .inl wh, .inl ws] (hR h (rTell (rW q 14 F1 J1) vs)) = some (some (.inl (rAt F1.1 wh ws)), hR h (rTell (rW q 14 F1 J1) vs)) := fun vs wh ws => by
      have e := r_at (n := n + 822) (h := h) (r := rTell (rW q 14 F1 J1) vs) (j := 14) (by decide) wh ws (by rw [rTell_2 _ _ (by decide), rW_j]; exact b0) (by rw [rTell_2 _ _ (by decide), rW_j]; exact b1)
      rw [rTell_2 _ _ (by decide), rW_j] at e
      exact e
    have g3 := r_tellN (n := n + 822) (h := h) (r := rW q 14 F1 J1) (rOn F1.1 0) (vs := []) (by decide)
    have g4 := r_tellN (n := n + 822) (h := h) (r := rW q 14 F1 J1) (rAt F1.1 3 (-1)) (vs := [rOn F1.1 0]) (by show 1 < 16; decide)
    refine ⟨rTell (rW q 14 F1 J1) [rOn F1.1 0, rAt F1.1 3 (-1)], ?_, ?_⟩
    · rw [gr243]
      clear hl hr hl2 hr1 e0 e14 hK hC i0 i1 i2
      simp -implicitDefEqProofs (disch := first | exact isc_R | (simp only [List.map_cons, List.map_nil, List.sum_cons, List.sum_nil, xcat, Nat.reduceAdd, Nat.reduceLeDiff, Nat.zero_le]; done) | omega) only [fX12_delivers, k_p_sq, k_p_blk, k_sq0, k_sq11, k_sq12, k_sq13, k_sq14, k_sq15, k_sqr, k_sqi, k_blk0, k_blk1, k_blk2, k_blk3, k_blk4, k_blk5, k_blkr, k_blki, k_finr, k_fini, k_mapi, k_bindi, k_if1, k_if2, k_ops, k_br, k_rv, k_ri, k_rl, k_rz, k_rzi, k_01d, k_sw, k_01a, k_01b, k_01c, k_ifn, x_cmp, decide_eq_true_eq, Option.map_some, Option.bind_some, Option.toList_some, Option.toList_none, List.cons_append, List.nil_append, Nat.reduceAdd, true_or, or_true, Int.reduceNeg, Int.reduceEq, reduceIte, Nat.zero_le, Nat.reduceLeDiff, Nat.le_refl, Nat.reduceEqDiff, List.getElem?_cons_zero, List.getElem?_cons_succ, xst, List.set_cons_zero, List.set_cons_succ, List.map_cons, List.map_nil, List.sum_cons, List.sum_nil, xcat, Nat.reduceMul, Nat.reduceDiv, Nat.reduceMod, Nat.add_zero, e_nil, e_iconst, e_il, e_al, e_ll, e_istore, e_astore, e_lstore, e_ic, e_iadd, e_isub, e_imul, e_iand, e_ior, e_ixor, e_ishl, e_ishr, e_ineg, e_dupi, e_dupr, e_dupx, e_dup2, e_popi, er_g0, er_g1, er_g2, er_g3, er_g4, er_g5, er_g6, er_g7, er_g8, er_g9, er_g10, er_g11, er_g12, er_g13, er_g14, er_g15, er_g16, er_g17, er_g18, er_g19, er_g20, er_g21, er_g22, er_g23, er_g24, er_g25, er_g26, er_g27, er_g28, er_g29, er_g30, er_g31, er_g32, er_g33, er_g34, er_g35, er_g36, er_g37, er_g38, er_g39, er_g40, er_g41, er_g42, er_g43, er_g44, er_g45, er_g46, er_g47, er_s1, er_s2, er_s5, er_s6, er_s8, er_s10, er_s11, er_s13, er_s14, er_s15, er_s16, er_s20, er_s23, er_s24, er_s25, er_s28, er_s30, er_s31, er_s32, er_s33, er_s42, er_s43, er_s44, er_s21a, er_s21b, er_s12a, er_s12b, isc_R, ec237, f1, c1, true_and, false_and, or_self, or_true, true_or, or_false, false_or, and_true, and_false, and_self, not_true_eq_false, not_false_eq_true, Int.reduceEq, ec213, f2, key, rTell_0, ec242, g1, ec174, g3, ec203, g2, g4]
    · rw [rC_tell, rC_tell, rW_14c, hC]
  · rw [if_neg c1]
    refine ⟨_, ?_, rfl⟩
    rw [gr243]
    clear hr ha
    simp -implicitDefEqProofs (disch := first | exact isc_R | (simp only [List.map_cons, List.map_nil, List.sum_cons, List.sum_nil, xcat, Nat.reduceAdd, Nat.reduceLeDiff, Nat.zero_le]; done) | omega) only [fX12_delivers, k_p_sq, k_p_blk, k_sq0, k_sq11, k_sq12, k_sq13, k_sq14, k_sq15, k_sqr, k_sqi, k_blk0, k_blk1, k_blk2, k_blk3, k_blk4, k_blk5, k_blkr, k_blki, k_finr, k_fini, k_mapi, k_bindi, k_if1, k_if2, k_ops, k_br, k_rv, k_ri, k_rl, k_rz, k_rzi, k_01d, k_sw, k_01a, k_01b, k_01c, k_ifn, x_cmp, decide_eq_true_eq, Option.map_some, Option.bind_some, Option.toList_some, Option.toList_none, List.cons_append, List.nil_append, Nat.reduceAdd, true_or, or_true, Int.reduceNeg, Int.reduceEq, reduceIte, Nat.zero_le, Nat.reduceLeDiff, Nat.le_refl, Nat.reduceEqDiff, List.getElem?_cons_zero, List.getElem?_cons_succ, xst, List.set_cons_zero, List.set_cons_succ, List.map_cons, List.map_nil, List.sum_cons, List.sum_nil, xcat, Nat.reduceMul, Nat.reduceDiv, Nat.reduceMod, Nat.add_zero, e_nil, e_iconst, e_il, e_al, e_ll, e_istore, e_astore, e_lstore, e_ic, e_iadd, e_isub, e_imul, e_iand, e_ior, e_ixor, e_ishl, e_ishr, e_ineg, e_dupi, e_dupr, e_dupx, e_dup2, e_popi, er_g0, er_g1, er_g2, er_g3, er_g4, er_g5, er_g6, er_g7, er_g8, er_g9, er_g10, er_g11, er_g12, er_g13, er_g14, er_g15, er_g16, er_g17, er_g18, er_g19, er_g20, er_g21, er_g22, er_g23, er_g24, er_g25, er_g26, er_g27, er_g28, er_g29, er_g30, er_g31, er_g32, er_g33, er_g34, er_g35, er_g36, er_g37, er_g38, er_g39, er_g40, er_g41, er_g42, er_g43, er_g44, er_g45, er_g46, er_g47, er_s1, er_s2, er_s5, er_s6, er_s8, er_s10, er_s11, er_s13, er_s14, er_s15, er_s16, er_s20, er_s23, er_s24, er_s25, er_s28, er_s30, er_s31, er_s32, er_s33, er_s42, er_s43, er_s44, er_s21a, er_s21b, er_s12a, er_s12b, isc_R, ec237, f1, c1, true_and, false_and, or_self, or_true, true_or, or_false, false_or, and_true, and_false, and_self, not_true_eq_false, not_false_eq_true, Int.reduceEq]
end TJ
