/-! ===== fleet: alike, whole ===== -/
section PFl
variable {n : Nat} {h : xH} {c : xQ} {r : xR}
theorem tTx_1 (T : Nat) (m : Int) {i : Nat} (hi : i ≠ 8 ∧ i ≠ 11 ∧ i ≠ 12 ∧ i ≠ 13 ∧ i ≠ 14) : (tTx r T m).1 i = r.1 i := by
  show xfu (xfu (xfu (xfu (xfu r.1 11 0) 12 1) 13 T) 14 m) 8 0 i = r.1 i
  rw [xfu_ne _ _ hi.1, xfu_ne _ _ hi.2.2.2.2, xfu_ne _ _ hi.2.2.2.1, xfu_ne _ _ hi.2.2.1, xfu_ne _ _ hi.2.1]
theorem TX_open {T m : Nat} (hm : m ≤ 80) (t1 : T ≤ 80) (t3 : c.1 2 = (T : Int)) (t4 : ∀ i, i < T → (-128 ≤ r.2 4 i ∧ r.2 4 i < 128) ∧ c.2.1 2 i = xand (r.2 4 i) 255) : TX (tTx r T (m : Int)) (q_i c 3 ((min T m : Nat) : Int)) T m := ⟨t1, hm, rfl, rfl, rfl, t3, rfl, t4⟩
theorem Rel_shutT {T m : Nat} {w a : Int} {L : Int} {z : Nat → Int} (hr : Rel r c) (hz : ∀ i, ¬ zDead (kB (rK r)) (kN (rK r)) i → z i = c.2.2 0 i) : Rel (tTx r T (m : Int)) (q_i (q_z (cRd (q_i c 3 L) a w) 0 z) 2 0) := by
  refine Rel_shut hr rfl (fun i hi => tTx_1 T _ (by omega)) (fun j _ => rfl) rfl (fun i hi => ?_) (fun j _ => rfl) (fun k hk => ?_) (fun i hi => ?_)
  · show xfu (xfu (xfu (xfu c.1 3 L) 4 a) 5 w) 2 0 i = c.1 i
    rw [xfu_ne _ _ (by omega), xfu_ne _ _ (by omega), xfu_ne _ _ (by omega), xfu_ne _ _ (by omega)]
  · show xfu c.2.2 0 z k = c.2.2 k
    exact xfu_ne _ _ hk
  · show xfu c.2.2 0 z 0 i = _
    rw [xfu_self]
    exact hz i hi
theorem P_fleet : Par 191 104 [] := by
  intro n h h' r c hr
  obtain ⟨T, t1, t2, t3, t4⟩ := hr.2.2.2.2.1
  have hB := rB6 hr.1
  have hN := rN8 hr.1
  have eB := rB hr.1
  have eN := rN hr.1
  obtain ⟨r', fR, eR⟩ := r_fleet (n := n + 893) (h := h) (r := r) t2 t1 eB hB
  have hz : c.2.2 0 132 = (kB (rK r) : Int) := hr.2.1.1.1
  by_cases d0 : T = 0
  · subst d0
    have fC := c_fleet0 (n := n + 890) (h := h') (c := c) t3
    have e1 : sFleet r 0 (kB (rK r)) = (0, tTx r 0 76) := by
      unfold sFleet
      rw [if_pos rfl]
    rw [e1] at fR eR
    refine ⟨0, r', _, fR, fC, Rel_r (REq_C eR.symm) ?_⟩
    have h9 := Rel_shutT (T := 0) (m := 76) (w := -1) (a := 0) (L := ((min 0 76 : Nat) : Int)) (z := c.2.2 0) hr (fun i _ => rfl)
    rw [show q_z (cRd (q_i c 3 ((min 0 76 : Nat) : Int)) 0 (-1)) 0 (c.2.2 0) = cRd (q_i c 3 ((min 0 76 : Nat) : Int)) 0 (-1) from q_z0 (c := cRd (q_i c 3 ((min 0 76 : Nat) : Int)) 0 (-1)) (k := 0)] at h9
    exact h9
  · have hx := TX_open (r := r) (c := c) (T := T) (m := 76) (by decide) t1 t3 t4
    obtain ⟨a1, z1, fC, n1, v1⟩ := c_fleet1 (n := n + 890) (h := h') (c := c) (r := tTx r T ((76 : Nat) : Int)) (T := T) (B := kB (rK r)) t3 d0 rfl hx hB hz
    rw [show ((76 : Nat) : Int) = 76 from rfl] at fC v1 hx
    have hl := tFl_len (r := tTx r T 76) (B := kB (rK r)) 7 0 0 (by decide) (by omega)
    have hne := tFl_ne (r := tTx r T 76) (B := kB (rK r)) (f := 6) (k := 0) (a := 0) (w := -1)
    have hok := tFl_ok hx (B := kB (rK r)) 7 0 0 (-1) (by decide)
    have hb := tFl_b hx (B := kB (rK r)) 7 0 0 (-1) ⟨by decide, by decide, by decide⟩
    have hat := tFl_at (r := tTx r T 76) (B := kB (rK r)) 7 0 0 (-1) (by decide)
    have n2 : ∀ i, ¬ zDead (kB (rK r)) (kN (rK r)) i → z1 i = c.2.2 0 i := fun i hi => n1 i (fun y => hi (Or.inl y))
    unfold sFleet at fR eR
    rw [if_neg d0] at fR eR
    dsimp only at fR eR
    generalize tFl (tTx r T 76) (kB (rK r)) 7 0 0 (-1) = Q at *
    obtain ⟨l, A, W⟩ := Q
    dsimp only at *
    obtain ⟨y1, y2, y3⟩ := hb
    by_cases d : W = -1
    · subst d
      by_cases d2 : A < (T : Int)
      · simp only [if_true, if_pos d2] at fR eR fC
        have d3 : ¬ A = -1 := by omega
        rw [if_neg d3] at fR eR
        rw [show xw (-1 - A) = -1 - A from xw_id (by omega) (by omega)] at fR
        exact ⟨_, r', _, fR, fC, Rel_r (REq_C eR.symm) (Rel_shutT (m := 76) hr n2)⟩
      · simp only [if_true, if_neg d2] at fR eR fC
        refine ⟨_, r', _, fR, fC, Rel_r (REq_C eR.symm) ?_⟩
        have hl2 := hl rfl
        have v2 := v1 rfl
        have ho := hok rfl
        rw [Nat.add_zero] at hl2
        obtain ⟨s1, s2, s3, ⟨M, m1, m2, m3, m4⟩, s5, s6⟩ := hr.2.1.1
        obtain ⟨⟨k1, k2, k3⟩, k4⟩ := zAl_s (M := M) hN l (kB (rK r)) (c.2.2 0) (r.2 1) hl2 ho ⟨m3, s5, s6⟩
        have c44 := hr.1.2.2.2.1
        have x44 : xw (r.1 44 + 1) = r.1 44 + 1 := xw_id (by omega) (by omega)
        rw [x44, v2]
        generalize tBs (kB (rK r)) l (c.2.2 0) = Z at *
        generalize tBs (kB (rK r)) l (r.2 1) = A1 at *
        have g1 : (xr_i (xr_i (sB (tTx r T 76) 1 A1 ((kB (rK r) + l.length : Nat) : Int)) 28 0) 44 (r.1 44 + 1)).2 1 = A1 := sB_1 (tTx r T 76) 1 A1 ((kB (rK r) + l.length : Nat) : Int)
        have g2 : ∀ j, j ≠ 1 → (xr_i (xr_i (sB (tTx r T 76) 1 A1 ((kB (rK r) + l.length : Nat) : Int)) 28 0) 44 (r.1 44 + 1)).2 j = r.2 j := fun j hj => sB_n (tTx r T 76) 1 A1 ((kB (rK r) + l.length : Nat) : Int) hj
        have g3 : ∀ i, i ≠ 1 ∧ i ≠ 28 ∧ i ≠ 44 ∧ i ≠ 8 ∧ i ≠ 11 ∧ i ≠ 12 ∧ i ≠ 13 ∧ i ≠ 14 → (xr_i (xr_i (sB (tTx r T 76) 1 A1 ((kB (rK r) + l.length : Nat) : Int)) 28 0) 44 (r.1 44 + 1)).1 i = r.1 i := by
          intro i hi
          show xfu (xfu (xfu (tTx r T 76).1 1 _) 28 0) 44 _ i = r.1 i
          rw [xfu_ne _ _ hi.2.2.1, xfu_ne _ _ hi.2.1, xfu_ne _ _ hi.1]
          exact tTx_1 T _ (by omega)
        have g4 : ∀ i, (xfu Z 132 ((kB (rK r) + l.length : Nat) : Int)) i = if i = 132 then ((kB (rK r) + l.length : Nat) : Int) else Z i := fun i => rfl
        refine Rel_grow (B := kB (rK r) + l.length) (N := kN (rK r)) hr (by omega) hl2 (Nat.le_refl _) hN (by omega) rfl ?_ rfl rfl rfl (fun i hi => g3 i (by omega)) (fun j hj => g2 j (by omega)) (fun g hg => ?_) (fun g hg => ?_) ?_ (fun g hg => by rw [g2 3 (by omega)]; exact hr.1.2.2.2.2.2.2 g hg) rfl rfl (fun i hi => ?_) (fun j hj => rfl) (fun k hk => ?_) ?_ ?_ ?_
        · rw [g3 2 (by omega)]
          exact eN
        · rw [g2 2 (by omega), g2 3 (by omega)]
          exact ⟨rfl, rfl⟩
        · rw [g2 2 (by omega)]
          have := hr.1.2.2.1 g hg
          omega
        · rw [g2 2 (by omega)]
          exact hr.1.2.2.2.2.2.1
        · show xfu (xfu (xfu (xfu (xfu c.1 3 _) 4 a1) 5 (-1)) 2 0) 9 0 i = c.1 i
          rw [xfu_ne _ _ (by omega), xfu_ne _ _ (by omega), xfu_ne _ _ (by omega), xfu_ne _ _ (by omega), xfu_ne _ _ (by omega)]
        · exact xfu_ne _ _ hk
        · rw [g1]
          show sSea _ _ _ (xfu Z 132 ((kB (rK r) + l.length : Nat) : Int)) A1
          refine ⟨by rw [g4]; rfl, ?_, fun g hg => ?_, ⟨M, m1, ?_, fun i hi => ?_, fun g hg => ?_⟩, k2, k3⟩
          · rw [g4, if_neg (by decide), (k4 133 (by decide)).1]
            exact s2
          · rw [g2 2 (by omega), g2 3 (by omega), g4, g4, if_neg (by omega), if_neg (by omega), (k4 _ (by omega)).1, (k4 _ (by omega)).1]
            exact s3 g hg
          · rw [(k4 114 (by decide)).2]
            exact m2
          · rw [g4, if_neg (by unfold kLv at hi; omega)]
            exact k1 i hi
          · rw [(k4 _ (by omega)).2]
            exact m4 g hg
        · show xfu Z 132 ((kB (rK r) + l.length : Nat) : Int) 134 = _
          rw [g4, if_neg (by decide), (k4 134 (by decide)).1]
        · show xfu Z 132 ((kB (rK r) + l.length : Nat) : Int) 135 = _
          rw [g4, if_neg (by decide), (k4 135 (by decide)).1]
    · rw [if_neg d] at fR eR fC
      rw [if_neg d] at fR eR
      rw [show xw (-1 - W) = -1 - W from xw_id (by omega) (by omega)] at fR
      exact ⟨_, r', _, fR, fC, Rel_r (REq_C eR.symm) (Rel_shutT (m := 76) hr n2)⟩
end PFl
