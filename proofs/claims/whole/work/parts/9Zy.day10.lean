/-! ===== day: alike, whole ===== -/
section DK
variable {n : Nat} {h : xH} {r : xR} {H : xH}
theorem rRj_T (r : xR) (c : Nat) (F : Nat → Int) (a w : Int) : rC (rRj r c F a w) = rC (xr_j r c F) := by
  unfold rRj
  first | exact rC_Rd a w | (rw [rC_Rd])
theorem P_day : Par 233 123 [] := by
  intro n h h' r c hr
  obtain ⟨T, t1, t2, t3, t4⟩ := hr.2.2.2.2.1
  obtain ⟨U, u1, u2, u3, u4⟩ := Rel_U hr
  have hx := TX_open (r := r) (c := c) (T := T) (m := 60) (by decide) t1 t3 t4
  rw [show ((60 : Nat) : Int) = 60 from rfl] at hx
  have hl : ∀ a, (60 : Int) ≤ a → rHere (tTx r T 60) a = -1 := tTx_lim (r := r) (T := T) (m := 60)
  obtain ⟨a1, w1, A, B, D, l, P, W, el, eP, eW, fC, vC⟩ := c_readD (n := n + 892) (h := h') (c := c) (r := tTx r T 60) rfl hx hl t3
  have hs : rSane (tTx r T 60) := tTx_sane t1 (by decide)
  -- the reference reads
  have hR1 : ∃ F : Nat → Int, k_fin (fX12_day (gg (n + 899)) ([.inr (.inr (.inl (1, 0))), .inr (.inr (.inr 2)), .inr (.inr (.inr 2)), .inr (.inr (.inr 2))], [], hR h r)) = k_fin (fX12_day (gg (n + 899)) ([.inr (.inr (.inl (1, 0))), .inr (.inr (.inr 2)), .inr (.inr (.inr 2)), .inr (.inr (.inr 2))], [], hR h r)) ∧
      p_lop (lX12_day_39 (gg (n + 899))) ([.inr (.inr (.inl (1, 0))), .inl 0, .inl (if T = 0 then 0 else 1), .inr (.inr (.inr 2))], [], hR h (rRd (tTx r T 60) 0 (-1))) = some (.inl 1, ([.inr (.inr (.inl (1, 0))), .inl ((l.length : Nat) : Int), .inl 0, .inr (.inr (.inr 2))], [], hR h (rRj (tTx r T 60) 13 F P W))) ∧ (W = -1 → ∀ i, i < l.length → tAc F (3 * i) (l.getD i q30)) := by
    by_cases d0 : T = 0
    · rw [if_pos d0] at el eP eW ⊢
      subst el; subst eP; subst eW
      refine ⟨r.2 13, rfl, ?_, fun _ i hi => absurd hi (by show ¬ i < 0; omega)⟩
      have e0 : rRd (tTx r T 60) 0 (-1) = rRj (tTx r T 60) 13 (r.2 13) 0 (-1) := rRj_0 13 0 (-1)
      rw [e0]
      refine k_l2 (k := 0) ?_
      generalize rRj (tTx r T 60) 13 (r.2 13) 0 (-1) = q
      clear hr hx hl fC vC hs t4
      simp -implicitDefEqProofs (disch := first | exact isc_R | (simp only [List.map_cons, List.map_nil, List.sum_cons, List.sum_nil, xcat, Nat.reduceAdd, Nat.reduceLeDiff, Nat.zero_le]; done) | omega) only [lX12_day_39, k_p_sq, k_p_blk, k_sq0, k_sq11, k_sq12, k_sq13, k_sq14, k_sq15, k_sqr, k_sqi, k_blk0, k_blk1, k_blk2, k_blk3, k_blk4, k_blk5, k_blkr, k_blki, k_finr, k_fini, k_mapi, k_bindi, k_if1, k_if2, k_ops, k_br, k_rv, k_ri, k_rl, k_rz, k_rzi, k_01d, k_sw, k_01a, k_01b, k_01c, k_ifn, x_cmp, decide_eq_true_eq, Option.map_some, Option.bind_some, Option.toList_some, Option.toList_none, List.cons_append, List.nil_append, Nat.reduceAdd, true_or, or_true, Int.reduceNeg, Int.reduceEq, reduceIte, Nat.zero_le, Nat.reduceLeDiff, Nat.le_refl, Nat.reduceEqDiff, List.getElem?_cons_zero, List.getElem?_cons_succ, xst, List.set_cons_zero, List.set_cons_succ, List.map_cons, List.map_nil, List.sum_cons, List.sum_nil, xcat, Nat.reduceMul, Nat.reduceDiv, Nat.reduceMod, Nat.add_zero, e_nil, e_iconst, e_il, e_al, e_ll, e_istore, e_astore, e_lstore, e_ic, e_iadd, e_isub, e_imul, e_iand, e_ior, e_ixor, e_ishl, e_ishr, e_ineg, e_dupi, e_dupr, e_dupx, e_dup2, e_popi, er_g0, er_g1, er_g2, er_g3, er_g4, er_g5, er_g6, er_g7, er_g8, er_g9, er_g10, er_g11, er_g12, er_g13, er_g14, er_g15, er_g16, er_g17, er_g18, er_g19, er_g20, er_g21, er_g22, er_g23, er_g24, er_g25, er_g26, er_g27, er_g28, er_g29, er_g30, er_g31, er_g32, er_g33, er_g34, er_g35, er_g36, er_g37, er_g38, er_g39, er_g40, er_g41, er_g42, er_g43, er_g44, er_g45, er_g46, er_g47, er_s1, er_s2, er_s5, er_s6, er_s8, er_s10, er_s11, er_s13, er_s14, er_s15, er_s16, er_s20, er_s23, er_s24, er_s25, er_s28, er_s30, er_s31, er_s32, er_s33, er_s42, er_s43, er_s44, er_s21a, er_s21b, er_s12a, er_s12b, isc_R, Int.reduceEq]
      rfl
    · rw [if_neg d0] at el eP eW ⊢
      have e0 : rRd (tTx r T 60) 0 (-1) = rRj (tTx r T 60) 13 (r.2 13) 0 (-1) := rRj_0 13 0 (-1)
      obtain ⟨F, g1, g2, g3⟩ := r_daL (n := n + 894) (h := h) hs hl (.inr (.inr (.inr 2))) 31 0 0 (r.2 13) (by decide) (by decide) (by decide)
      rw [Nat.zero_add, show ((0 : Nat) : Int) = 0 from rfl] at g1
      rw [← el, ← eP, ← eW] at g1
      rw [← el, ← eW] at g3
      rw [e0]
      exact ⟨F, rfl, g1, fun e i hi => by have := g3 e i hi; rwa [Nat.zero_add] at this⟩
  obtain ⟨F, -, gR, vR9⟩ := hR1
  have hb : wB P W ∧ l.length ≤ 31 ∧ P ≤ 65 := by
    by_cases d0 : T = 0
    · rw [if_pos d0] at el eP eW
      rw [el, eP, eW]
      exact ⟨⟨by decide, by decide, by decide⟩, by decide, by decide⟩
    · rw [if_neg d0] at el eP eW
      rw [el, eP, eW]
      exact ⟨(tDa_b hl 31 0 (by decide)).1, (tDa_b hl 31 0 (by decide)).2, tDa_at hl 31 0 (by decide) (by decide)⟩
  have hq : W = -1 → ∀ q, q ∈ l → daOk q := by
    intro e
    by_cases d0 : T = 0
    · rw [if_pos d0] at el
      rw [el]
      intro q hq
      cases hq
    · rw [if_neg d0] at el eW
      rw [el]
      exact tDa_ok hx hl 31 0 (by decide) (by rw [← eW]; exact e)
  clear el eP eW
  obtain ⟨⟨y1, y2, y3⟩, hN31, hP⟩ := hb
  -- the class's state behind the text
  obtain ⟨c1, hc1⟩ : ∃ c1, c1 = q_i (cRd (qD (q_i (q_i c 3 ((min T 60 : Nat) : Int)) 10 ((l.length : Nat) : Int)) A B D) a1 w1) 2 0 := ⟨_, rfl⟩
  have hrel : Rel (tTx r T 60) c1 := by
    subst hc1
    refine Rel_shut hr rfl (fun i hi => tTx_1 T _ (by omega)) (fun j _ => rfl) rfl (fun i hi => ?_) (fun j hj => ?_) (fun k hk => rfl) (fun i hi => rfl)
    · show xfu (xfu (xfu (xfu (xfu c.1 3 _) 10 _) 4 a1) 5 w1) 2 0 i = c.1 i
      rw [xfu_ne _ _ (by omega), xfu_ne _ _ (by omega), xfu_ne _ _ (by omega), xfu_ne _ _ (by omega), xfu_ne _ _ (by omega)]
    · show xfu (xfu (xfu c.2.1 12 A) 13 B) 14 D j = c.2.1 j
      rw [xfu_ne _ _ (by omega), xfu_ne _ _ (by omega), xfu_ne _ _ (by omega)]
  have k10 : c1.1 10 = ((l.length : Nat) : Int) := by subst hc1; rfl
  have k12 : c1.2.1 12 = A := by subst hc1; rfl
  have k13 : c1.2.1 13 = B := by subst hc1; rfl
  have k14 : c1.2.1 14 = D := by subst hc1; rfl
  rw [← hc1] at fC
  clear hc1
  -- the fault that is left
  have fv := fun (w : Int) => u_fault (n := n + 897) (h := h) (r := tTx r T 60) (c := 13) (F := F) (a := P) (w := w) P
  have ff := fun (w : Int) => u_fine (n := n + 898) (h := h) (r := tTx r T 60) (c := 13) (F := F) (a := P) (w := w)
  have f0 := r_day0 (k := n + 896) (h := h) (r := r) t2 (U := .inr (.inr (.inr 2))) (V := .inr (.inr (.inr 2))) (W := .inr (.inr (.inr 2)))
  have t13 : ∀ w, (rRj (tTx r T 60) 13 F P w).1 13 = T := fun _ => rfl
  have t15 : ∀ w, (rRj (tTx r T 60) 13 F P w).1 15 = P := fun _ => rfl
  have t16 : ∀ w, (rRj (tTx r T 60) 13 F P w).1 16 = w := fun _ => rfl
  have hcF : ∀ v : Int, v < 0 → (gg (n + 899) 6).2 [.inr (.inr (.inl (0, 11))), .inr (.inr (.inl (0, 1)))] (hC h' c) = some (some (.inl v), hC h' c1) → (gg (n + 900) 123).2 [.inr (.inr (.inl (0, 0)))] (hC h' c) = some (some (.inl v), hC h' c1) := by
    intro v hv f
    have hv2 : ¬ 0 ≤ v := by omega
    rw [gr123]
    clear fC vC hr hrel hx hl gR vR9 hq k12 k13 k14 fv ff f0 t13 t15 t16
    simp -implicitDefEqProofs (disch := first | with_reducible assumption | with_reducible exact isc_zs (by assumption) | with_reducible exact isc_zs (by decide) | with_reducible exact isc_zb (by assumption) (by assumption) | with_reducible exact isc_zb (by decide) (by assumption) | with_reducible exact isc_zg (by assumption) (by assumption) | with_reducible exact isc_zl (by assumption) (by assumption) | with_reducible exact isc_0 | with_reducible exact isc_1 | with_reducible exact isc_3 | with_reducible exact isc_7 | with_reducible exact isc_11 | with_reducible exact isc_15 | with_reducible exact isc_19 | with_reducible exact isc_24 | with_reducible exact isc_25 | (simp only [List.map_cons, List.map_nil, List.sum_cons, List.sum_nil, xcat, Nat.reduceAdd, Nat.reduceLeDiff, Nat.zero_le]; done) | omega) only [fX11_day, k_p_sq, k_p_blk, k_sq0, k_sq11, k_sq12, k_sq13, k_sq14, k_sq15, k_sqr, k_sqi, k_blk0, k_blk1, k_blk2, k_blk3, k_blk4, k_blk5, k_blkr, k_blki, k_finr, k_fini, k_mapi, k_bindi, k_if1, k_if2, k_ops, k_br, k_rv, k_ri, k_rl, k_rz, k_rzi, k_01d, k_sw, k_01a, k_01b, k_01c, k_ifn, x_cmp, decide_eq_true_eq, Option.map_some, Option.bind_some, Option.toList_some, Option.toList_none, List.cons_append, List.nil_append, Nat.reduceAdd, true_or, or_true, Int.reduceNeg, Int.reduceEq, reduceIte, Nat.zero_le, Nat.reduceLeDiff, Nat.le_refl, Nat.reduceEqDiff, List.getElem?_cons_zero, List.getElem?_cons_succ, xst, List.set_cons_zero, List.set_cons_succ, List.map_cons, List.map_nil, List.sum_cons, List.sum_nil, xcat, Nat.reduceMul, Nat.reduceDiv, Nat.reduceMod, Nat.add_zero, e_nil, e_iconst, e_il, e_al, e_ll, e_istore, e_astore, e_lstore, e_ic, e_iadd, e_isub, e_imul, e_iand, e_ior, e_ixor, e_ishl, e_ishr, e_ineg, e_dupi, e_dupr, e_dupx, e_dup2, e_popi, eo_g0, eo_g1, eo_g2, eo_g3, eo_g4, eo_g5, eo_g6, eo_g7, eo_g8, eo_g9, eo_g10, eo_g11, eo_g12, eo_g13, eo_g14, eo_s14, eo_g15, eo_g16, eo_s16, et_g0, et_g1, et_s1, et_g2, et_s2, et_g3, et_s3, et_g4, et_s4, eu_g0, eu_g1, eu_s1, eu_g2, eu_g3, eu_s3, eu_g4, eh_g0, eh_g1, eh_s1, eh_g2, eh_s2, ed_g0, ed_g1, ed_g2, ed_g3, ed_s3, ew_g0, ew_g1, ew_g2, ew_g3, ew_s3, en_g0, en_g1, en_s1, en_g2, en_g3, en_g4, en_g5, en_s5, ex_g0, ex_s0, eq_g0, eq_s0, eq_g1, eq_s1, eq_g2, eq_s2, eq_g3, eq_s3, eq_g4, eq_s4, eq_g5, eq_s5, eq_g6, eq_s6, eq_g7, eq_s7, ez_g0, ez_g1, ez_g2, ez_g3, ez_s3, ez_g4, ez_s4, ez_g5, ez_s5, ez_g6, ez_s6, ez_g7, ez_s7, ez_g8, ez_s8, ez_g9, ez_s9, ez_g10, ez_s10, ez_g11, ez_s11, ez_g12, ez_s12, ez_g13, ez_s13, ez_g14, ez_g15, ez_b0g, ez_b0s, ez_b1g, ez_b1s, ez_b2g, ez_b2s, ez_b3g, ez_b3s, ez_b4g, ez_b4s, ez_b5g, ez_b5s, ez_ba, ez_g0g, ez_g0s, ez_g1g, ez_g1s, ez_g2g, ez_g2s, ez_g3g, ez_g3s, ez_g4g, ez_g4s, ez_g5g, ez_g5s, ez_g6g, ez_g6s, ez_g7g, ez_g7s, ez_ga, ez_l0g, ez_l0s, ez_l1g, ez_l1s, ez_l2g, ez_l2s, ez_la, q_zs, q_zz, q_z1, q_z2, q_i2, q_ig, q_iz, q_jz, true_and, false_and, or_self, or_true, true_or, or_false, false_or, and_true, and_false, and_self, not_true_eq_false, not_false_eq_true, ec6, f, hv, hv2]
  generalize (if T = 0 then (0 : Int) else 1) = mo at *
  by_cases d : W = -1
  · subst d
    rw [if_pos rfl] at fC
    by_cases d2 : P < (T : Int)
    · rw [if_pos d2] at fC
      have fv2 := fv (-1)
      rw [if_pos rfl] at fv2
      have ff2 := ff P
      rw [if_neg (by omega)] at ff2
      have d3 : ¬ (T : Int) ≤ P := by omega
      have x9 : xw (-1 - P) = -1 - P := xw_id (by omega) (by omega)
      refine ⟨-1 - P, rRj (tTx r T 60) 13 F P P, c1, ?_, hcF _ (by omega) fC, Rel_r (REq_C (rC_Rj rfl P P).symm) hrel⟩
      rw [gr233]
      unfold fX12_day
      refine k_seq _ f0 ?_
      clear fC vC hr hrel hx hl vR9 hq k12 k13 k14 fv ff f0 hcF hs t4
      generalize tTx r T 60 = q at *
      simp -implicitDefEqProofs (disch := first | exact isc_R | (simp only [List.map_cons, List.map_nil, List.sum_cons, List.sum_nil, xcat, Nat.reduceAdd, Nat.reduceLeDiff, Nat.zero_le]; done) | omega) only [k_p_sq, k_p_blk, k_sq0, k_sq11, k_sq12, k_sq13, k_sq14, k_sq15, k_sqr, k_sqi, k_blk0, k_blk1, k_blk2, k_blk3, k_blk4, k_blk5, k_blkr, k_blki, k_finr, k_fini, k_mapi, k_bindi, k_if1, k_if2, k_ops, k_br, k_rv, k_ri, k_rl, k_rz, k_rzi, k_01d, k_sw, k_01a, k_01b, k_01c, k_ifn, x_cmp, decide_eq_true_eq, Option.map_some, Option.bind_some, Option.toList_some, Option.toList_none, List.cons_append, List.nil_append, Nat.reduceAdd, true_or, or_true, Int.reduceNeg, Int.reduceEq, reduceIte, Nat.zero_le, Nat.reduceLeDiff, Nat.le_refl, Nat.reduceEqDiff, List.getElem?_cons_zero, List.getElem?_cons_succ, xst, List.set_cons_zero, List.set_cons_succ, List.map_cons, List.map_nil, List.sum_cons, List.sum_nil, xcat, Nat.reduceMul, Nat.reduceDiv, Nat.reduceMod, Nat.add_zero, e_nil, e_iconst, e_il, e_al, e_ll, e_istore, e_astore, e_lstore, e_ic, e_iadd, e_isub, e_imul, e_iand, e_ior, e_ixor, e_ishl, e_ishr, e_ineg, e_dupi, e_dupr, e_dupx, e_dup2, e_popi, er_g0, er_g1, er_g2, er_g3, er_g4, er_g5, er_g6, er_g7, er_g8, er_g9, er_g10, er_g11, er_g12, er_g13, er_g14, er_g15, er_g16, er_g17, er_g18, er_g19, er_g20, er_g21, er_g22, er_g23, er_g24, er_g25, er_g26, er_g27, er_g28, er_g29, er_g30, er_g31, er_g32, er_g33, er_g34, er_g35, er_g36, er_g37, er_g38, er_g39, er_g40, er_g41, er_g42, er_g43, er_g44, er_g45, er_g46, er_g47, er_s1, er_s2, er_s5, er_s6, er_s8, er_s10, er_s11, er_s13, er_s14, er_s15, er_s16, er_s20, er_s23, er_s24, er_s25, er_s28, er_s30, er_s31, er_s32, er_s33, er_s42, er_s43, er_s44, er_s21a, er_s21b, er_s12a, er_s12b, isc_R, k_blk1, gR, t13, t15, t16, d3, ec183, fv2, ec182, ff2, isc_Rj, x9, Int.reduceEq]
    · rw [if_neg d2] at fC
      have ff2 := ff (-1)
      rw [if_pos rfl] at ff2
      have d3 : (T : Int) ≤ P := by omega
      obtain ⟨hK, hz, hru⟩ := Rel_kx hrel
      -- the reference, ready to act
      obtain ⟨b, hbd⟩ : ∃ b, b = rT (xr_j (rRj (tTx r T 60) 13 F P (-1)) 12 (rCopy ((rRj (tTx r T 60) 13 F P (-1)).2 1) ((rRj (tTx r T 60) 13 F P (-1)).2 12) 0 116)) (0, 0, 0, 0) := ⟨_, rfl⟩
      have f1 := r_lay (n := n + 898) (h := h) (r := rRj (tTx r T 60) 13 F P (-1)) (j := 1) (c := 12) (N := 116) (k := 0) (Or.inl rfl) (by decide) (by decide) (by decide)
      rw [show ((0 : Nat) : Int) = 0 from rfl] at f1
      have f2 := r_begH (n := n + 898) (h := h) (r := xr_j (rRj (tTx r T 60) 13 F P (-1)) 12 (rCopy ((rRj (tTx r T 60) 13 F P (-1)).2 1) ((rRj (tTx r T 60) 13 F P (-1)).2 12) 0 116))
      rw [rT_0, ← hbd] at f2
      have hbC : rC b = rC (tTx r T 60) := by rw [hbd, rC_T, rC_j rfl, rC_Rj rfl]
      have hb1 : b.2 1 = (tTx r T 60).2 1 := by rw [hbd]; rfl
      have hb12 : ∀ i, i < 116 → b.2 12 i = (tTx r T 60).2 1 i := by
        intro i hi
        rw [hbd]
        show rCopy ((rRj (tTx r T 60) 13 F P (-1)).2 1) ((rRj (tTx r T 60) 13 F P (-1)).2 12) 0 116 i = _
        unfold rCopy
        rw [if_pos (by omega), Nat.sub_zero]
        rfl
      have hb13 : b.2 13 = F := by rw [hbd]; rfl
      have hbT : (b.1 30, b.1 31, b.1 32, b.1 33) = ((0 : Int), (0 : Int), (0 : Int), (0 : Int)) := by rw [hbd]; rfl
      have hbo : rOk b := by rw [hbd]; exact Rel_ok hrel
      have hbK : rK b = rK (tTx r T 60) := rC_K hbC
      have hbD : rDy b ((tTx r T 60).2 1) (0, 0, 0, 0) b := by
        refine ⟨hb1, hbT, ?_, rfl, rfl⟩
        have := xr_j_0 (rC b) 1
        rw [rC_2 rfl, hb1] at this
        exact this.symm
      clear hbd
      -- the class, ready to act
      have g1 := c_mark (n := n + 896) (h := h') hrel
      have g2 := c_clear (n := n + 898) (h := h') (c := qMark (tTx r T 60) c1) (k := 0) (by decide)
      rw [qMark_0] at g2
      obtain ⟨z0, hz0⟩ : ∃ z0, z0 = xfu (xfu (xfu (xfu (c1.2.2 0) 136 0) 137 0) 138 0) 139 0 := ⟨_, rfl⟩
      rw [← hz0, Nat.zero_add] at g2
      have hzl : ∀ i, i < 136 → c1.2.2 0 i = z0 i := by
        intro i hi
        rw [hz0, xfu_ne _ _ (by omega), xfu_ne _ _ (by omega), xfu_ne _ _ (by omega), xfu_ne _ _ (by omega)]
      have x0 : xin 0 := by unfold xin; omega
      have hd0 : dR (tTx r T 60) z0 ((tTx r T 60).2 1) (0, 0, 0, 0) := by
        refine ⟨sSea_z hK.1 hK.2.1 hzl hrel.2.1.1, ⟨by rw [← hzl 134 (by decide)]; exact hrel.2.1.2.1, by rw [← hzl 135 (by decide)]; exact hrel.2.1.2.2⟩, ?_, x0, x0, x0, x0⟩
        rw [hz0]
        rfl
      clear hz0 hzl
      have U28 : (tTx r T 60).1 28 = (U : Int) := u2
      have hu9 : (qMark (tTx r T 60) c1).1 = c1.1 := rfl
      obtain ⟨U', v1', v2', v3', v4'⟩ := Rel_U hrel
      obtain ⟨dd, z', J, A', T', r3, l1, l2, l3, l4, l5, l6⟩ := day_both (n := n + 891) (n2 := n + 74) (h := h) (h' := h') (r := tTx r T 60) (b := b) hK hbo hbK l.length 0 0 l 0 (qMark (tTx r T 60) c1) z0 ((tTx r T 60).2 1) (0, 0, 0, 0) b (by omega) hN31 (hq rfl) k10 (fun j hj => by
        show (c1.2.1 12 (0 + j), c1.2.1 13 (0 + j), c1.2.1 14 (0 + j)) = _
        rw [Nat.zero_add, k12, k13, k14]
        exact vC rfl j hj) (fun j hj => by rw [Nat.zero_add, hb13]; exact vR9 rfl j hj) hru hd0 hbD
      rw [Nat.zero_add, show ((0 : Nat) : Int) = 0 from rfl] at l2 l3
      rw [Nat.zero_add] at l1
      have hrel9 := day_rel (x := if dd < l.length then 1 else 0) (J := J) hrel U28 hbC hb12 l4 l5 l6
      have z136 : z' 136 = T'.1 := congrArg (fun p => p.1) l4.2.2.1
      have s30 : r3.1 30 = T'.1 := congrArg (fun p => p.1) l5.2.1
      have s28 : r3.1 28 = (U : Int) := by
        have hc3 : rC r3 = rC (xr_j b 1 A') := by rw [l5.2.2.1, rC_jn rfl]
        rw [rC_e1 hc3 rfl]
        show b.1 28 = _
        rw [rC_e1 hbC rfl]
        exact U28
      have f5 := r_rem (n := n + 897) (h := h) (r := r3) (j := 12) (Or.inr (Or.inl rfl)) s28 u1
      have tl1 := fun (q : xR) (v : Int) => r_tell (n := n + 898) (h := h) (r := xr_i q 10 0) v (by show (0 : Int) ≤ 0; decide) (by show (0 : Int) < 16; decide)
      have tl1 : ∀ (q : xR) (v : Int), (gg (n + 899) 174).2 [.inr (.inr (.inl (1, 0))), .inl v] (hR h (xr_i q 10 0)) = some (none, hR h (rTell q [v])) := tl1
      have tl2 : ∀ (q : xR) (v w : Int), (gg (n + 899) 174).2 [.inr (.inr (.inl (1, 0))), .inl w] (hR h (rTell q [v])) = some (none, hR h (rTell q [v, w])) := by
        intro q v w
        have := r_tell (n := n + 898) (h := h) (r := rTell q [v]) w (by show (0 : Int) ≤ xw (0 + 1); decide) (by show xw (0 + 1) < 16; decide)
        exact this
      have q30' : ∀ (q : xR) (v : Int), (rTell q [v]).1 30 = q.1 30 := fun q v => rTell_1 q [v] (by decide)
      have r30 : (rRem r3 12 U).1 30 = T'.1 := by rw [rRem_1 _ _ _ _ (by decide)]; exact s30
      refine ⟨(dd : Int), _, _, ?_, ?_, hrel9⟩
      · rw [gr233]
        unfold fX12_day
        refine k_seq _ f0 ?_
        clear fC vC hr hrel hx hl vR9 hq k12 k13 k14 fv ff f0 hcF hs t4 g1 g2 hd0 l2 l4 l5 l6 hrel9 hbC hb12 hbo hbK hbD hb1 hb13 hbT hK hz hru z136 v1' v2' v3' v4' hu9
        generalize tTx r T 60 = q at *
        by_cases e1 : 0 < dd
        · have e2 : ¬ (dd : Int) ≤ 0 := by omega
          simp only [if_pos e1]
          by_cases e3 : dd < l.length
          · simp only [if_pos e3]
            have e4 : ¬ ((l.length : Nat) : Int) ≤ (dd : Int) := by omega
            generalize ((l.length : Nat) : Int) = K at *
            simp -implicitDefEqProofs (disch := first | exact isc_R | (simp only [List.map_cons, List.map_nil, List.sum_cons, List.sum_nil, xcat, Nat.reduceAdd, Nat.reduceLeDiff, Nat.zero_le]; done) | omega) only [k_p_sq, k_p_blk, k_sq0, k_sq11, k_sq12, k_sq13, k_sq14, k_sq15, k_sqr, k_sqi, k_blk0, k_blk1, k_blk2, k_blk3, k_blk4, k_blk5, k_blkr, k_blki, k_finr, k_fini, k_mapi, k_bindi, k_if1, k_if2, k_ops, k_br, k_rv, k_ri, k_rl, k_rz, k_rzi, k_01d, k_sw, k_01a, k_01b, k_01c, k_ifn, x_cmp, decide_eq_true_eq, Option.map_some, Option.bind_some, Option.toList_some, Option.toList_none, List.cons_append, List.nil_append, Nat.reduceAdd, true_or, or_true, Int.reduceNeg, Int.reduceEq, reduceIte, Nat.zero_le, Nat.reduceLeDiff, Nat.le_refl, Nat.reduceEqDiff, List.getElem?_cons_zero, List.getElem?_cons_succ, xst, List.set_cons_zero, List.set_cons_succ, List.map_cons, List.map_nil, List.sum_cons, List.sum_nil, xcat, Nat.reduceMul, Nat.reduceDiv, Nat.reduceMod, Nat.add_zero, e_nil, e_iconst, e_il, e_al, e_ll, e_istore, e_astore, e_lstore, e_ic, e_iadd, e_isub, e_imul, e_iand, e_ior, e_ixor, e_ishl, e_ishr, e_ineg, e_dupi, e_dupr, e_dupx, e_dup2, e_popi, er_g0, er_g1, er_g2, er_g3, er_g4, er_g5, er_g6, er_g7, er_g8, er_g9, er_g10, er_g11, er_g12, er_g13, er_g14, er_g15, er_g16, er_g17, er_g18, er_g19, er_g20, er_g21, er_g22, er_g23, er_g24, er_g25, er_g26, er_g27, er_g28, er_g29, er_g30, er_g31, er_g32, er_g33, er_g34, er_g35, er_g36, er_g37, er_g38, er_g39, er_g40, er_g41, er_g42, er_g43, er_g44, er_g45, er_g46, er_g47, er_s1, er_s2, er_s5, er_s6, er_s8, er_s10, er_s11, er_s13, er_s14, er_s15, er_s16, er_s20, er_s23, er_s24, er_s25, er_s28, er_s30, er_s31, er_s32, er_s33, er_s42, er_s43, er_s44, er_s21a, er_s21b, er_s12a, er_s12b, isc_R, k_blk1, gR, t13, t15, t16, d3, ec182, ff2, isc_Rj, ec213, f1, ec229, f2, l3, e2, ec214, f5, e4, ec174, tl1, tl2, q30', r30, Int.reduceEq]
          · simp only [if_neg e3]
            have e4 : ((l.length : Nat) : Int) ≤ (dd : Int) := by omega
            generalize ((l.length : Nat) : Int) = K at *
            simp -implicitDefEqProofs (disch := first | exact isc_R | (simp only [List.map_cons, List.map_nil, List.sum_cons, List.sum_nil, xcat, Nat.reduceAdd, Nat.reduceLeDiff, Nat.zero_le]; done) | omega) only [k_p_sq, k_p_blk, k_sq0, k_sq11, k_sq12, k_sq13, k_sq14, k_sq15, k_sqr, k_sqi, k_blk0, k_blk1, k_blk2, k_blk3, k_blk4, k_blk5, k_blkr, k_blki, k_finr, k_fini, k_mapi, k_bindi, k_if1, k_if2, k_ops, k_br, k_rv, k_ri, k_rl, k_rz, k_rzi, k_01d, k_sw, k_01a, k_01b, k_01c, k_ifn, x_cmp, decide_eq_true_eq, Option.map_some, Option.bind_some, Option.toList_some, Option.toList_none, List.cons_append, List.nil_append, Nat.reduceAdd, true_or, or_true, Int.reduceNeg, Int.reduceEq, reduceIte, Nat.zero_le, Nat.reduceLeDiff, Nat.le_refl, Nat.reduceEqDiff, List.getElem?_cons_zero, List.getElem?_cons_succ, xst, List.set_cons_zero, List.set_cons_succ, List.map_cons, List.map_nil, List.sum_cons, List.sum_nil, xcat, Nat.reduceMul, Nat.reduceDiv, Nat.reduceMod, Nat.add_zero, e_nil, e_iconst, e_il, e_al, e_ll, e_istore, e_astore, e_lstore, e_ic, e_iadd, e_isub, e_imul, e_iand, e_ior, e_ixor, e_ishl, e_ishr, e_ineg, e_dupi, e_dupr, e_dupx, e_dup2, e_popi, er_g0, er_g1, er_g2, er_g3, er_g4, er_g5, er_g6, er_g7, er_g8, er_g9, er_g10, er_g11, er_g12, er_g13, er_g14, er_g15, er_g16, er_g17, er_g18, er_g19, er_g20, er_g21, er_g22, er_g23, er_g24, er_g25, er_g26, er_g27, er_g28, er_g29, er_g30, er_g31, er_g32, er_g33, er_g34, er_g35, er_g36, er_g37, er_g38, er_g39, er_g40, er_g41, er_g42, er_g43, er_g44, er_g45, er_g46, er_g47, er_s1, er_s2, er_s5, er_s6, er_s8, er_s10, er_s11, er_s13, er_s14, er_s15, er_s16, er_s20, er_s23, er_s24, er_s25, er_s28, er_s30, er_s31, er_s32, er_s33, er_s42, er_s43, er_s44, er_s21a, er_s21b, er_s12a, er_s12b, isc_R, k_blk1, gR, t13, t15, t16, d3, ec182, ff2, isc_Rj, ec213, f1, ec229, f2, l3, e2, ec214, f5, e4, ec174, tl1, tl2, q30', r30, Int.reduceEq]
        · have e2 : (dd : Int) ≤ 0 := by omega
          simp only [if_neg e1]
          by_cases e3 : dd < l.length
          · simp only [if_pos e3]
            have e4 : ¬ ((l.length : Nat) : Int) ≤ (dd : Int) := by omega
            generalize ((l.length : Nat) : Int) = K at *
            simp -implicitDefEqProofs (disch := first | exact isc_R | (simp only [List.map_cons, List.map_nil, List.sum_cons, List.sum_nil, xcat, Nat.reduceAdd, Nat.reduceLeDiff, Nat.zero_le]; done) | omega) only [k_p_sq, k_p_blk, k_sq0, k_sq11, k_sq12, k_sq13, k_sq14, k_sq15, k_sqr, k_sqi, k_blk0, k_blk1, k_blk2, k_blk3, k_blk4, k_blk5, k_blkr, k_blki, k_finr, k_fini, k_mapi, k_bindi, k_if1, k_if2, k_ops, k_br, k_rv, k_ri, k_rl, k_rz, k_rzi, k_01d, k_sw, k_01a, k_01b, k_01c, k_ifn, x_cmp, decide_eq_true_eq, Option.map_some, Option.bind_some, Option.toList_some, Option.toList_none, List.cons_append, List.nil_append, Nat.reduceAdd, true_or, or_true, Int.reduceNeg, Int.reduceEq, reduceIte, Nat.zero_le, Nat.reduceLeDiff, Nat.le_refl, Nat.reduceEqDiff, List.getElem?_cons_zero, List.getElem?_cons_succ, xst, List.set_cons_zero, List.set_cons_succ, List.map_cons, List.map_nil, List.sum_cons, List.sum_nil, xcat, Nat.reduceMul, Nat.reduceDiv, Nat.reduceMod, Nat.add_zero, e_nil, e_iconst, e_il, e_al, e_ll, e_istore, e_astore, e_lstore, e_ic, e_iadd, e_isub, e_imul, e_iand, e_ior, e_ixor, e_ishl, e_ishr, e_ineg, e_dupi, e_dupr, e_dupx, e_dup2, e_popi, er_g0, er_g1, er_g2, er_g3, er_g4, er_g5, er_g6, er_g7, er_g8, er_g9, er_g10, er_g11, er_g12, er_g13, er_g14, er_g15, er_g16, er_g17, er_g18, er_g19, er_g20, er_g21, er_g22, er_g23, er_g24, er_g25, er_g26, er_g27, er_g28, er_g29, er_g30, er_g31, er_g32, er_g33, er_g34, er_g35, er_g36, er_g37, er_g38, er_g39, er_g40, er_g41, er_g42, er_g43, er_g44, er_g45, er_g46, er_g47, er_s1, er_s2, er_s5, er_s6, er_s8, er_s10, er_s11, er_s13, er_s14, er_s15, er_s16, er_s20, er_s23, er_s24, er_s25, er_s28, er_s30, er_s31, er_s32, er_s33, er_s42, er_s43, er_s44, er_s21a, er_s21b, er_s12a, er_s12b, isc_R, k_blk1, gR, t13, t15, t16, d3, ec182, ff2, isc_Rj, ec213, f1, ec229, f2, l3, e2, e4, ec174, tl1, tl2, q30', s30, Int.reduceEq]
          · simp only [if_neg e3]
            have e4 : ((l.length : Nat) : Int) ≤ (dd : Int) := by omega
            generalize ((l.length : Nat) : Int) = K at *
            simp -implicitDefEqProofs (disch := first | exact isc_R | (simp only [List.map_cons, List.map_nil, List.sum_cons, List.sum_nil, xcat, Nat.reduceAdd, Nat.reduceLeDiff, Nat.zero_le]; done) | omega) only [k_p_sq, k_p_blk, k_sq0, k_sq11, k_sq12, k_sq13, k_sq14, k_sq15, k_sqr, k_sqi, k_blk0, k_blk1, k_blk2, k_blk3, k_blk4, k_blk5, k_blkr, k_blki, k_finr, k_fini, k_mapi, k_bindi, k_if1, k_if2, k_ops, k_br, k_rv, k_ri, k_rl, k_rz, k_rzi, k_01d, k_sw, k_01a, k_01b, k_01c, k_ifn, x_cmp, decide_eq_true_eq, Option.map_some, Option.bind_some, Option.toList_some, Option.toList_none, List.cons_append, List.nil_append, Nat.reduceAdd, true_or, or_true, Int.reduceNeg, Int.reduceEq, reduceIte, Nat.zero_le, Nat.reduceLeDiff, Nat.le_refl, Nat.reduceEqDiff, List.getElem?_cons_zero, List.getElem?_cons_succ, xst, List.set_cons_zero, List.set_cons_succ, List.map_cons, List.map_nil, List.sum_cons, List.sum_nil, xcat, Nat.reduceMul, Nat.reduceDiv, Nat.reduceMod, Nat.add_zero, e_nil, e_iconst, e_il, e_al, e_ll, e_istore, e_astore, e_lstore, e_ic, e_iadd, e_isub, e_imul, e_iand, e_ior, e_ixor, e_ishl, e_ishr, e_ineg, e_dupi, e_dupr, e_dupx, e_dup2, e_popi, er_g0, er_g1, er_g2, er_g3, er_g4, er_g5, er_g6, er_g7, er_g8, er_g9, er_g10, er_g11, er_g12, er_g13, er_g14, er_g15, er_g16, er_g17, er_g18, er_g19, er_g20, er_g21, er_g22, er_g23, er_g24, er_g25, er_g26, er_g27, er_g28, er_g29, er_g30, er_g31, er_g32, er_g33, er_g34, er_g35, er_g36, er_g37, er_g38, er_g39, er_g40, er_g41, er_g42, er_g43, er_g44, er_g45, er_g46, er_g47, er_s1, er_s2, er_s5, er_s6, er_s8, er_s10, er_s11, er_s13, er_s14, er_s15, er_s16, er_s20, er_s23, er_s24, er_s25, er_s28, er_s30, er_s31, er_s32, er_s33, er_s42, er_s43, er_s44, er_s21a, er_s21b, er_s12a, er_s12b, isc_R, k_blk1, gR, t13, t15, t16, d3, ec182, ff2, isc_Rj, ec213, f1, ec229, f2, l3, e2, e4, ec174, tl1, tl2, q30', s30, Int.reduceEq]
      · have g4 := c_holdM (n := n + 898) (h := h') (c := q_z (q_j (qMark (tTx r T 60) c1) 6 J) 0 z') v3' v4'
        rw [gr123]
        have m10 : ∀ X z, (q_z (q_j (qMark (tTx r T 60) c1) X J) 0 z).1 10 = ((l.length : Nat) : Int) := fun _ _ => k10
        have h10q : (qHold (q_z (q_j (qMark (tTx r T 60) c1) 6 J) 0 z')).1 10 = ((l.length : Nat) : Int) := by
          rw [qHold_z, qHold_j]
          unfold qHold
          split
          · exact k10
          · exact k10
        have h136q : (qHold (q_z (q_j (qMark (tTx r T 60) c1) 6 J) 0 z')).2.2 0 136 = T'.1 := by
          rw [qHold_z, q_zs]
          exact z136
        have h136r : (q_z (q_j (qMark (tTx r T 60) c1) 6 J) 0 z').2.2 0 136 = T'.1 := by
          rw [q_zs]
          exact z136
        have i0 : ∀ c, x_isc (hC h' c) 3 0 7 = true := fun c => isc_zs (k := 0) (by decide)
        have m10a := m10 6 z'
        clear vC hr hrel hx hl vR9 hq k12 k13 k14 fv ff f0 hcF hs t4 hd0 l3 l4 l5 l6 hrel9 hbC hb12 hbo hbK hbD hb1 hb13 hbT hK hz hru v1' v2' v3' v4' hu9 f1 f2 f5 tl1 tl2 q30' r30 s30 s28 gR ff2 m10
        generalize qHold (q_z (q_j (qMark (tTx r T 60) c1) 6 J) 0 z') = cH at *
        generalize hcR : q_z (q_j (qMark (tTx r T 60) c1) 6 J) 0 z' = cR9 at *
        generalize q_z (qMark (tTx r T 60) c1) 0 z0 = cZ at *
        generalize qMark (tTx r T 60) c1 = cM at *
        by_cases e1 : 0 < dd
        · have e2 : ¬ (dd : Int) ≤ 0 := by omega
          simp only [if_pos e1]
          by_cases e3 : dd < l.length
          · simp only [if_pos e3]
            have e4 : ¬ ((l.length : Nat) : Int) ≤ (dd : Int) := by omega
            generalize ((l.length : Nat) : Int) = K at *
            simp -implicitDefEqProofs (disch := first | with_reducible assumption | with_reducible exact isc_zs (by assumption) | with_reducible exact isc_zs (by decide) | with_reducible exact isc_zb (by assumption) (by assumption) | with_reducible exact isc_zb (by decide) (by assumption) | with_reducible exact isc_zg (by assumption) (by assumption) | with_reducible exact isc_zl (by assumption) (by assumption) | with_reducible exact isc_0 | with_reducible exact isc_1 | with_reducible exact isc_3 | with_reducible exact isc_7 | with_reducible exact isc_11 | with_reducible exact isc_15 | with_reducible exact isc_19 | with_reducible exact isc_24 | with_reducible exact isc_25 | (simp only [List.map_cons, List.map_nil, List.sum_cons, List.sum_nil, xcat, Nat.reduceAdd, Nat.reduceLeDiff, Nat.zero_le]; done) | omega) only [fX11_day, k_p_sq, k_p_blk, k_sq0, k_sq11, k_sq12, k_sq13, k_sq14, k_sq15, k_sqr, k_sqi, k_blk0, k_blk1, k_blk2, k_blk3, k_blk4, k_blk5, k_blkr, k_blki, k_finr, k_fini, k_mapi, k_bindi, k_if1, k_if2, k_ops, k_br, k_rv, k_ri, k_rl, k_rz, k_rzi, k_01d, k_sw, k_01a, k_01b, k_01c, k_ifn, x_cmp, decide_eq_true_eq, Option.map_some, Option.bind_some, Option.toList_some, Option.toList_none, List.cons_append, List.nil_append, Nat.reduceAdd, true_or, or_true, Int.reduceNeg, Int.reduceEq, reduceIte, Nat.zero_le, Nat.reduceLeDiff, Nat.le_refl, Nat.reduceEqDiff, List.getElem?_cons_zero, List.getElem?_cons_succ, xst, List.set_cons_zero, List.set_cons_succ, List.map_cons, List.map_nil, List.sum_cons, List.sum_nil, xcat, Nat.reduceMul, Nat.reduceDiv, Nat.reduceMod, Nat.add_zero, e_nil, e_iconst, e_il, e_al, e_ll, e_istore, e_astore, e_lstore, e_ic, e_iadd, e_isub, e_imul, e_iand, e_ior, e_ixor, e_ishl, e_ishr, e_ineg, e_dupi, e_dupr, e_dupx, e_dup2, e_popi, eo_g0, eo_g1, eo_g2, eo_g3, eo_g4, eo_g5, eo_g6, eo_g7, eo_g8, eo_g9, eo_g10, eo_g11, eo_g12, eo_g13, eo_g14, eo_s14, eo_g15, eo_g16, eo_s16, et_g0, et_g1, et_s1, et_g2, et_s2, et_g3, et_s3, et_g4, et_s4, eu_g0, eu_g1, eu_s1, eu_g2, eu_g3, eu_s3, eu_g4, eh_g0, eh_g1, eh_s1, eh_g2, eh_s2, ed_g0, ed_g1, ed_g2, ed_g3, ed_s3, ew_g0, ew_g1, ew_g2, ew_g3, ew_s3, en_g0, en_g1, en_s1, en_g2, en_g3, en_g4, en_g5, en_s5, ex_g0, ex_s0, eq_g0, eq_s0, eq_g1, eq_s1, eq_g2, eq_s2, eq_g3, eq_s3, eq_g4, eq_s4, eq_g5, eq_s5, eq_g6, eq_s6, eq_g7, eq_s7, ez_g0, ez_g1, ez_g2, ez_g3, ez_s3, ez_g4, ez_s4, ez_g5, ez_s5, ez_g6, ez_s6, ez_g7, ez_s7, ez_g8, ez_s8, ez_g9, ez_s9, ez_g10, ez_s10, ez_g11, ez_s11, ez_g12, ez_s12, ez_g13, ez_s13, ez_g14, ez_g15, ez_b0g, ez_b0s, ez_b1g, ez_b1s, ez_b2g, ez_b2s, ez_b3g, ez_b3s, ez_b4g, ez_b4s, ez_b5g, ez_b5s, ez_ba, ez_g0g, ez_g0s, ez_g1g, ez_g1s, ez_g2g, ez_g2s, ez_g3g, ez_g3s, ez_g4g, ez_g4s, ez_g5g, ez_g5s, ez_g6g, ez_g6s, ez_g7g, ez_g7s, ez_ga, ez_l0g, ez_l0s, ez_l1g, ez_l1s, ez_l2g, ez_l2s, ez_la, q_zs, q_zz, q_z1, q_z2, q_i2, q_ig, q_iz, q_jz, true_and, false_and, or_self, or_true, true_or, or_false, false_or, and_true, and_false, and_self, not_true_eq_false, not_false_eq_true, ec6, fC, ec19, g1, ec39, g2, i0, l2, e2, ec20, g4, h10q, e4, h136q, ec164, c_tellTwo, Int.reduceEq, Int.reduceLT, Int.reduceLE]
          · simp only [if_neg e3]
            have e4 : ((l.length : Nat) : Int) ≤ (dd : Int) := by omega
            generalize ((l.length : Nat) : Int) = K at *
            simp -implicitDefEqProofs (disch := first | with_reducible assumption | with_reducible exact isc_zs (by assumption) | with_reducible exact isc_zs (by decide) | with_reducible exact isc_zb (by assumption) (by assumption) | with_reducible exact isc_zb (by decide) (by assumption) | with_reducible exact isc_zg (by assumption) (by assumption) | with_reducible exact isc_zl (by assumption) (by assumption) | with_reducible exact isc_0 | with_reducible exact isc_1 | with_reducible exact isc_3 | with_reducible exact isc_7 | with_reducible exact isc_11 | with_reducible exact isc_15 | with_reducible exact isc_19 | with_reducible exact isc_24 | with_reducible exact isc_25 | (simp only [List.map_cons, List.map_nil, List.sum_cons, List.sum_nil, xcat, Nat.reduceAdd, Nat.reduceLeDiff, Nat.zero_le]; done) | omega) only [fX11_day, k_p_sq, k_p_blk, k_sq0, k_sq11, k_sq12, k_sq13, k_sq14, k_sq15, k_sqr, k_sqi, k_blk0, k_blk1, k_blk2, k_blk3, k_blk4, k_blk5, k_blkr, k_blki, k_finr, k_fini, k_mapi, k_bindi, k_if1, k_if2, k_ops, k_br, k_rv, k_ri, k_rl, k_rz, k_rzi, k_01d, k_sw, k_01a, k_01b, k_01c, k_ifn, x_cmp, decide_eq_true_eq, Option.map_some, Option.bind_some, Option.toList_some, Option.toList_none, List.cons_append, List.nil_append, Nat.reduceAdd, true_or, or_true, Int.reduceNeg, Int.reduceEq, reduceIte, Nat.zero_le, Nat.reduceLeDiff, Nat.le_refl, Nat.reduceEqDiff, List.getElem?_cons_zero, List.getElem?_cons_succ, xst, List.set_cons_zero, List.set_cons_succ, List.map_cons, List.map_nil, List.sum_cons, List.sum_nil, xcat, Nat.reduceMul, Nat.reduceDiv, Nat.reduceMod, Nat.add_zero, e_nil, e_iconst, e_il, e_al, e_ll, e_istore, e_astore, e_lstore, e_ic, e_iadd, e_isub, e_imul, e_iand, e_ior, e_ixor, e_ishl, e_ishr, e_ineg, e_dupi, e_dupr, e_dupx, e_dup2, e_popi, eo_g0, eo_g1, eo_g2, eo_g3, eo_g4, eo_g5, eo_g6, eo_g7, eo_g8, eo_g9, eo_g10, eo_g11, eo_g12, eo_g13, eo_g14, eo_s14, eo_g15, eo_g16, eo_s16, et_g0, et_g1, et_s1, et_g2, et_s2, et_g3, et_s3, et_g4, et_s4, eu_g0, eu_g1, eu_s1, eu_g2, eu_g3, eu_s3, eu_g4, eh_g0, eh_g1, eh_s1, eh_g2, eh_s2, ed_g0, ed_g1, ed_g2, ed_g3, ed_s3, ew_g0, ew_g1, ew_g2, ew_g3, ew_s3, en_g0, en_g1, en_s1, en_g2, en_g3, en_g4, en_g5, en_s5, ex_g0, ex_s0, eq_g0, eq_s0, eq_g1, eq_s1, eq_g2, eq_s2, eq_g3, eq_s3, eq_g4, eq_s4, eq_g5, eq_s5, eq_g6, eq_s6, eq_g7, eq_s7, ez_g0, ez_g1, ez_g2, ez_g3, ez_s3, ez_g4, ez_s4, ez_g5, ez_s5, ez_g6, ez_s6, ez_g7, ez_s7, ez_g8, ez_s8, ez_g9, ez_s9, ez_g10, ez_s10, ez_g11, ez_s11, ez_g12, ez_s12, ez_g13, ez_s13, ez_g14, ez_g15, ez_b0g, ez_b0s, ez_b1g, ez_b1s, ez_b2g, ez_b2s, ez_b3g, ez_b3s, ez_b4g, ez_b4s, ez_b5g, ez_b5s, ez_ba, ez_g0g, ez_g0s, ez_g1g, ez_g1s, ez_g2g, ez_g2s, ez_g3g, ez_g3s, ez_g4g, ez_g4s, ez_g5g, ez_g5s, ez_g6g, ez_g6s, ez_g7g, ez_g7s, ez_ga, ez_l0g, ez_l0s, ez_l1g, ez_l1s, ez_l2g, ez_l2s, ez_la, q_zs, q_zz, q_z1, q_z2, q_i2, q_ig, q_iz, q_jz, true_and, false_and, or_self, or_true, true_or, or_false, false_or, and_true, and_false, and_self, not_true_eq_false, not_false_eq_true, ec6, fC, ec19, g1, ec39, g2, i0, l2, e2, ec20, g4, h10q, e4, h136q, ec164, c_tellTwo, Int.reduceEq, Int.reduceLT, Int.reduceLE]
        · have e2 : (dd : Int) ≤ 0 := by omega
          simp only [if_neg e1]
          by_cases e3 : dd < l.length
          · simp only [if_pos e3]
            have e4 : ¬ ((l.length : Nat) : Int) ≤ (dd : Int) := by omega
            generalize ((l.length : Nat) : Int) = K at *
            simp -implicitDefEqProofs (disch := first | with_reducible assumption | with_reducible exact isc_zs (by assumption) | with_reducible exact isc_zs (by decide) | with_reducible exact isc_zb (by assumption) (by assumption) | with_reducible exact isc_zb (by decide) (by assumption) | with_reducible exact isc_zg (by assumption) (by assumption) | with_reducible exact isc_zl (by assumption) (by assumption) | with_reducible exact isc_0 | with_reducible exact isc_1 | with_reducible exact isc_3 | with_reducible exact isc_7 | with_reducible exact isc_11 | with_reducible exact isc_15 | with_reducible exact isc_19 | with_reducible exact isc_24 | with_reducible exact isc_25 | (simp only [List.map_cons, List.map_nil, List.sum_cons, List.sum_nil, xcat, Nat.reduceAdd, Nat.reduceLeDiff, Nat.zero_le]; done) | omega) only [fX11_day, k_p_sq, k_p_blk, k_sq0, k_sq11, k_sq12, k_sq13, k_sq14, k_sq15, k_sqr, k_sqi, k_blk0, k_blk1, k_blk2, k_blk3, k_blk4, k_blk5, k_blkr, k_blki, k_finr, k_fini, k_mapi, k_bindi, k_if1, k_if2, k_ops, k_br, k_rv, k_ri, k_rl, k_rz, k_rzi, k_01d, k_sw, k_01a, k_01b, k_01c, k_ifn, x_cmp, decide_eq_true_eq, Option.map_some, Option.bind_some, Option.toList_some, Option.toList_none, List.cons_append, List.nil_append, Nat.reduceAdd, true_or, or_true, Int.reduceNeg, Int.reduceEq, reduceIte, Nat.zero_le, Nat.reduceLeDiff, Nat.le_refl, Nat.reduceEqDiff, List.getElem?_cons_zero, List.getElem?_cons_succ, xst, List.set_cons_zero, List.set_cons_succ, List.map_cons, List.map_nil, List.sum_cons, List.sum_nil, xcat, Nat.reduceMul, Nat.reduceDiv, Nat.reduceMod, Nat.add_zero, e_nil, e_iconst, e_il, e_al, e_ll, e_istore, e_astore, e_lstore, e_ic, e_iadd, e_isub, e_imul, e_iand, e_ior, e_ixor, e_ishl, e_ishr, e_ineg, e_dupi, e_dupr, e_dupx, e_dup2, e_popi, eo_g0, eo_g1, eo_g2, eo_g3, eo_g4, eo_g5, eo_g6, eo_g7, eo_g8, eo_g9, eo_g10, eo_g11, eo_g12, eo_g13, eo_g14, eo_s14, eo_g15, eo_g16, eo_s16, et_g0, et_g1, et_s1, et_g2, et_s2, et_g3, et_s3, et_g4, et_s4, eu_g0, eu_g1, eu_s1, eu_g2, eu_g3, eu_s3, eu_g4, eh_g0, eh_g1, eh_s1, eh_g2, eh_s2, ed_g0, ed_g1, ed_g2, ed_g3, ed_s3, ew_g0, ew_g1, ew_g2, ew_g3, ew_s3, en_g0, en_g1, en_s1, en_g2, en_g3, en_g4, en_g5, en_s5, ex_g0, ex_s0, eq_g0, eq_s0, eq_g1, eq_s1, eq_g2, eq_s2, eq_g3, eq_s3, eq_g4, eq_s4, eq_g5, eq_s5, eq_g6, eq_s6, eq_g7, eq_s7, ez_g0, ez_g1, ez_g2, ez_g3, ez_s3, ez_g4, ez_s4, ez_g5, ez_s5, ez_g6, ez_s6, ez_g7, ez_s7, ez_g8, ez_s8, ez_g9, ez_s9, ez_g10, ez_s10, ez_g11, ez_s11, ez_g12, ez_s12, ez_g13, ez_s13, ez_g14, ez_g15, ez_b0g, ez_b0s, ez_b1g, ez_b1s, ez_b2g, ez_b2s, ez_b3g, ez_b3s, ez_b4g, ez_b4s, ez_b5g, ez_b5s, ez_ba, ez_g0g, ez_g0s, ez_g1g, ez_g1s, ez_g2g, ez_g2s, ez_g3g, ez_g3s, ez_g4g, ez_g4s, ez_g5g, ez_g5s, ez_g6g, ez_g6s, ez_g7g, ez_g7s, ez_ga, ez_l0g, ez_l0s, ez_l1g, ez_l1s, ez_l2g, ez_l2s, ez_la, q_zs, q_zz, q_z1, q_z2, q_i2, q_ig, q_iz, q_jz, true_and, false_and, or_self, or_true, true_or, or_false, false_or, and_true, and_false, and_self, not_true_eq_false, not_false_eq_true, ec6, fC, ec19, g1, ec39, g2, i0, l2, e2, m10a, e4, h136r, ec164, c_tellTwo, Int.reduceEq, Int.reduceLT, Int.reduceLE]
          · simp only [if_neg e3]
            have e4 : ((l.length : Nat) : Int) ≤ (dd : Int) := by omega
            generalize ((l.length : Nat) : Int) = K at *
            simp -implicitDefEqProofs (disch := first | with_reducible assumption | with_reducible exact isc_zs (by assumption) | with_reducible exact isc_zs (by decide) | with_reducible exact isc_zb (by assumption) (by assumption) | with_reducible exact isc_zb (by decide) (by assumption) | with_reducible exact isc_zg (by assumption) (by assumption) | with_reducible exact isc_zl (by assumption) (by assumption) | with_reducible exact isc_0 | with_reducible exact isc_1 | with_reducible exact isc_3 | with_reducible exact isc_7 | with_reducible exact isc_11 | with_reducible exact isc_15 | with_reducible exact isc_19 | with_reducible exact isc_24 | with_reducible exact isc_25 | (simp only [List.map_cons, List.map_nil, List.sum_cons, List.sum_nil, xcat, Nat.reduceAdd, Nat.reduceLeDiff, Nat.zero_le]; done) | omega) only [fX11_day, k_p_sq, k_p_blk, k_sq0, k_sq11, k_sq12, k_sq13, k_sq14, k_sq15, k_sqr, k_sqi, k_blk0, k_blk1, k_blk2, k_blk3, k_blk4, k_blk5, k_blkr, k_blki, k_finr, k_fini, k_mapi, k_bindi, k_if1, k_if2, k_ops, k_br, k_rv, k_ri, k_rl, k_rz, k_rzi, k_01d, k_sw, k_01a, k_01b, k_01c, k_ifn, x_cmp, decide_eq_true_eq, Option.map_some, Option.bind_some, Option.toList_some, Option.toList_none, List.cons_append, List.nil_append, Nat.reduceAdd, true_or, or_true, Int.reduceNeg, Int.reduceEq, reduceIte, Nat.zero_le, Nat.reduceLeDiff, Nat.le_refl, Nat.reduceEqDiff, List.getElem?_cons_zero, List.getElem?_cons_succ, xst, List.set_cons_zero, List.set_cons_succ, List.map_cons, List.map_nil, List.sum_cons, List.sum_nil, xcat, Nat.reduceMul, Nat.reduceDiv, Nat.reduceMod, Nat.add_zero, e_nil, e_iconst, e_il, e_al, e_ll, e_istore, e_astore, e_lstore, e_ic, e_iadd, e_isub, e_imul, e_iand, e_ior, e_ixor, e_ishl, e_ishr, e_ineg, e_dupi, e_dupr, e_dupx, e_dup2, e_popi, eo_g0, eo_g1, eo_g2, eo_g3, eo_g4, eo_g5, eo_g6, eo_g7, eo_g8, eo_g9, eo_g10, eo_g11, eo_g12, eo_g13, eo_g14, eo_s14, eo_g15, eo_g16, eo_s16, et_g0, et_g1, et_s1, et_g2, et_s2, et_g3, et_s3, et_g4, et_s4, eu_g0, eu_g1, eu_s1, eu_g2, eu_g3, eu_s3, eu_g4, eh_g0, eh_g1, eh_s1, eh_g2, eh_s2, ed_g0, ed_g1, ed_g2, ed_g3, ed_s3, ew_g0, ew_g1, ew_g2, ew_g3, ew_s3, en_g0, en_g1, en_s1, en_g2, en_g3, en_g4, en_g5, en_s5, ex_g0, ex_s0, eq_g0, eq_s0, eq_g1, eq_s1, eq_g2, eq_s2, eq_g3, eq_s3, eq_g4, eq_s4, eq_g5, eq_s5, eq_g6, eq_s6, eq_g7, eq_s7, ez_g0, ez_g1, ez_g2, ez_g3, ez_s3, ez_g4, ez_s4, ez_g5, ez_s5, ez_g6, ez_s6, ez_g7, ez_s7, ez_g8, ez_s8, ez_g9, ez_s9, ez_g10, ez_s10, ez_g11, ez_s11, ez_g12, ez_s12, ez_g13, ez_s13, ez_g14, ez_g15, ez_b0g, ez_b0s, ez_b1g, ez_b1s, ez_b2g, ez_b2s, ez_b3g, ez_b3s, ez_b4g, ez_b4s, ez_b5g, ez_b5s, ez_ba, ez_g0g, ez_g0s, ez_g1g, ez_g1s, ez_g2g, ez_g2s, ez_g3g, ez_g3s, ez_g4g, ez_g4s, ez_g5g, ez_g5s, ez_g6g, ez_g6s, ez_g7g, ez_g7s, ez_ga, ez_l0g, ez_l0s, ez_l1g, ez_l1s, ez_l2g, ez_l2s, ez_la, q_zs, q_zz, q_z1, q_z2, q_i2, q_ig, q_iz, q_jz, true_and, false_and, or_self, or_true, true_or, or_false, false_or, and_true, and_false, and_self, not_true_eq_false, not_false_eq_true, ec6, fC, ec19, g1, ec39, g2, i0, l2, e2, m10a, e4, h136r, ec164, c_tellTwo, Int.reduceEq, Int.reduceLT, Int.reduceLE]
  · rw [if_neg d] at fC
    have fv2 := fv W
    have ff2 := ff W
    rw [if_neg d] at fv2 ff2
    have x9 : xw (-1 - W) = -1 - W := xw_id (by omega) (by omega)
    refine ⟨-1 - W, rRj (tTx r T 60) 13 F P W, c1, ?_, hcF _ (by omega) fC, Rel_r (REq_C (rC_Rj rfl P W).symm) hrel⟩
    rw [gr233]
    unfold fX12_day
    refine k_seq _ f0 ?_
    clear fC vC hr hrel hx hl vR9 hq k12 k13 k14 fv ff f0 hcF hs t4
    generalize tTx r T 60 = q at *
    by_cases d2 : P < (T : Int)
    · have d3 : ¬ (T : Int) ≤ P := by omega
      simp -implicitDefEqProofs (disch := first | exact isc_R | (simp only [List.map_cons, List.map_nil, List.sum_cons, List.sum_nil, xcat, Nat.reduceAdd, Nat.reduceLeDiff, Nat.zero_le]; done) | omega) only [k_p_sq, k_p_blk, k_sq0, k_sq11, k_sq12, k_sq13, k_sq14, k_sq15, k_sqr, k_sqi, k_blk0, k_blk1, k_blk2, k_blk3, k_blk4, k_blk5, k_blkr, k_blki, k_finr, k_fini, k_mapi, k_bindi, k_if1, k_if2, k_ops, k_br, k_rv, k_ri, k_rl, k_rz, k_rzi, k_01d, k_sw, k_01a, k_01b, k_01c, k_ifn, x_cmp, decide_eq_true_eq, Option.map_some, Option.bind_some, Option.toList_some, Option.toList_none, List.cons_append, List.nil_append, Nat.reduceAdd, true_or, or_true, Int.reduceNeg, Int.reduceEq, reduceIte, Nat.zero_le, Nat.reduceLeDiff, Nat.le_refl, Nat.reduceEqDiff, List.getElem?_cons_zero, List.getElem?_cons_succ, xst, List.set_cons_zero, List.set_cons_succ, List.map_cons, List.map_nil, List.sum_cons, List.sum_nil, xcat, Nat.reduceMul, Nat.reduceDiv, Nat.reduceMod, Nat.add_zero, e_nil, e_iconst, e_il, e_al, e_ll, e_istore, e_astore, e_lstore, e_ic, e_iadd, e_isub, e_imul, e_iand, e_ior, e_ixor, e_ishl, e_ishr, e_ineg, e_dupi, e_dupr, e_dupx, e_dup2, e_popi, er_g0, er_g1, er_g2, er_g3, er_g4, er_g5, er_g6, er_g7, er_g8, er_g9, er_g10, er_g11, er_g12, er_g13, er_g14, er_g15, er_g16, er_g17, er_g18, er_g19, er_g20, er_g21, er_g22, er_g23, er_g24, er_g25, er_g26, er_g27, er_g28, er_g29, er_g30, er_g31, er_g32, er_g33, er_g34, er_g35, er_g36, er_g37, er_g38, er_g39, er_g40, er_g41, er_g42, er_g43, er_g44, er_g45, er_g46, er_g47, er_s1, er_s2, er_s5, er_s6, er_s8, er_s10, er_s11, er_s13, er_s14, er_s15, er_s16, er_s20, er_s23, er_s24, er_s25, er_s28, er_s30, er_s31, er_s32, er_s33, er_s42, er_s43, er_s44, er_s21a, er_s21b, er_s12a, er_s12b, isc_R, k_blk1, gR, t13, t15, t16, d3, ec183, fv2, ec182, ff2, isc_Rj, x9, Int.reduceEq]
    · have d3 : (T : Int) ≤ P := by omega
      simp -implicitDefEqProofs (disch := first | exact isc_R | (simp only [List.map_cons, List.map_nil, List.sum_cons, List.sum_nil, xcat, Nat.reduceAdd, Nat.reduceLeDiff, Nat.zero_le]; done) | omega) only [k_p_sq, k_p_blk, k_sq0, k_sq11, k_sq12, k_sq13, k_sq14, k_sq15, k_sqr, k_sqi, k_blk0, k_blk1, k_blk2, k_blk3, k_blk4, k_blk5, k_blkr, k_blki, k_finr, k_fini, k_mapi, k_bindi, k_if1, k_if2, k_ops, k_br, k_rv, k_ri, k_rl, k_rz, k_rzi, k_01d, k_sw, k_01a, k_01b, k_01c, k_ifn, x_cmp, decide_eq_true_eq, Option.map_some, Option.bind_some, Option.toList_some, Option.toList_none, List.cons_append, List.nil_append, Nat.reduceAdd, true_or, or_true, Int.reduceNeg, Int.reduceEq, reduceIte, Nat.zero_le, Nat.reduceLeDiff, Nat.le_refl, Nat.reduceEqDiff, List.getElem?_cons_zero, List.getElem?_cons_succ, xst, List.set_cons_zero, List.set_cons_succ, List.map_cons, List.map_nil, List.sum_cons, List.sum_nil, xcat, Nat.reduceMul, Nat.reduceDiv, Nat.reduceMod, Nat.add_zero, e_nil, e_iconst, e_il, e_al, e_ll, e_istore, e_astore, e_lstore, e_ic, e_iadd, e_isub, e_imul, e_iand, e_ior, e_ixor, e_ishl, e_ishr, e_ineg, e_dupi, e_dupr, e_dupx, e_dup2, e_popi, er_g0, er_g1, er_g2, er_g3, er_g4, er_g5, er_g6, er_g7, er_g8, er_g9, er_g10, er_g11, er_g12, er_g13, er_g14, er_g15, er_g16, er_g17, er_g18, er_g19, er_g20, er_g21, er_g22, er_g23, er_g24, er_g25, er_g26, er_g27, er_g28, er_g29, er_g30, er_g31, er_g32, er_g33, er_g34, er_g35, er_g36, er_g37, er_g38, er_g39, er_g40, er_g41, er_g42, er_g43, er_g44, er_g45, er_g46, er_g47, er_s1, er_s2, er_s5, er_s6, er_s8, er_s10, er_s11, er_s13, er_s14, er_s15, er_s16, er_s20, er_s23, er_s24, er_s25, er_s28, er_s30, er_s31, er_s32, er_s33, er_s42, er_s43, er_s44, er_s21a, er_s21b, er_s12a, er_s12b, isc_R, k_blk1, gR, t13, t15, t16, d3, ec182, ff2, isc_Rj, x9, Int.reduceEq]
end DK
