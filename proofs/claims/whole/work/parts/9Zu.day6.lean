/-! ===== a day's acts, done by the class ===== -/
/-- in the midst of a day: the sea stands for the row, the tally for the sums -/
def dR (r : xR) (z A : Nat → Int) (T : Int × Int × Int × Int) : Prop := sSea r (kB (rK r)) (kN (rK r)) z A ∧ (z 134 = r.1 5 ∧ z 135 = r.1 6) ∧ (z 136, z 137, z 138, z 139) = T ∧ xin T.1 ∧ xin T.2.1 ∧ xin T.2.2.1 ∧ xin T.2.2.2
theorem sea_passT {r : xR} {z a : Nat → Int} {M : Nat} {T : Int × Int × Int × Int} (hK : kxOk (rK r)) (hM : M ≤ 10) (hm : a 114 = (M : Int)) (h : sSea r (kB (rK r)) (kN (rK r)) z a) (x1 : xin T.1) (x2 : xin T.2.1) (x3 : xin T.2.2.1) (x4 : xin T.2.2.2) (m : Nat) (w : Int) (t : Nat → Int) : sSea r (kB (rK r)) (kN (rK r)) (zw z (cPass (rK r) m (z, (T.1, T.2.1, T.2.2.1, T.2.2.2, w))).1 (cPass (rK r) m (z, (T.1, T.2.1, T.2.2.1, T.2.2.2, w))).2 t) (kPs (rK r) m a T).1 ∧ ((cPass (rK r) m (z, (T.1, T.2.1, T.2.2.1, T.2.2.2, w))).2.1, (cPass (rK r) m (z, (T.1, T.2.1, T.2.2.1, T.2.2.2, w))).2.2.1, (cPass (rK r) m (z, (T.1, T.2.1, T.2.2.1, T.2.2.2, w))).2.2.2.1, (cPass (rK r) m (z, (T.1, T.2.1, T.2.2.1, T.2.2.2, w))).2.2.2.2.1) = (kPs (rK r) m a T).2 ∧ xin (kPs (rK r) m a T).2.1 ∧ xin (kPs (rK r) m a T).2.2.1 ∧ xin (kPs (rK r) m a T).2.2.2.1 ∧ xin (kPs (rK r) m a T).2.2.2.2 := by
  obtain ⟨p1, p2, p3⟩ := cPass_eq (kx := rK r) hK.2.1 z (T.1, T.2.1, T.2.2.1, T.2.2.2, w) (0, 0, 0, fun _ => 0) x1 x2 x3 x4 m
  obtain ⟨f1, f2, f3, f4⟩ := sSea_fine hm h
  have h6 := kEq_symm (sSea_keq hm h)
  obtain ⟨q1, q2, _, q4⟩ := kHs_eq hK hM (P := ((a, 0, 0, 0, fun _ => 0), T)) (P' := ((z, 0, 0, 0, fun _ => 0), T)) f3 h6 rfl rfl m
  obtain ⟨g1, g2, g3, g4⟩ := kFine_hs hK hM (P := ((a, 0, 0, 0, fun _ => 0), T)) ⟨f1, f2, f3, f4⟩ m
  unfold kPs
  dsimp only
  have hN := hK.2.1
  have e9 : ((cPass (rK r) m (z, (T.1, T.2.1, T.2.2.1, T.2.2.2, w))).2.1, (cPass (rK r) m (z, (T.1, T.2.1, T.2.2.1, T.2.2.2, w))).2.2.1, (cPass (rK r) m (z, (T.1, T.2.1, T.2.2.1, T.2.2.2, w))).2.2.2.1, (cPass (rK r) m (z, (T.1, T.2.1, T.2.2.1, T.2.2.2, w))).2.2.2.2.1) = (kHs (rK r) m ((a, 0, 0, 0, fun _ => 0), T)).2 := by
    rw [q4]
    exact p2
  refine ⟨⟨h.1, h.2.1, fun g hg => ?_, ⟨M, hM, g4, fun i hi => ?_, g3⟩, g1, g2⟩, e9, ?_⟩
  · rw [zw_z (by omega) (by omega), zw_z (by omega) (by omega)]
    exact h.2.2.1 g hg
  · rw [zw_a (by unfold kLv at hi; omega), p1]
    exact (q2 i hi).symm
  · rw [← e9]
    exact p3
theorem dR_kx {r : xR} {z A : Nat → Int} {T : Int × Int × Int × Int} (h : dR r z A T) : zKx (rK r) z := by
  obtain ⟨⟨h1, h2, h3, h4⟩, ⟨h5, h6⟩, h7⟩ := h
  exact ⟨h1, h2, fun g hg => ⟨(h3 g hg).1.symm, (h3 g hg).2.symm⟩, h5, h6⟩
/-- a place below 116 is written in both -/
theorem dR_of {r : xR} {z A z' A' : Nat → Int} {T : Int × Int × Int × Int} (h : dR r z A T) (hs : sSea r (kB (rK r)) (kN (rK r)) z' A') (he : ∀ i, 116 ≤ i → z' i = z i) : dR r z' A' T := by
  obtain ⟨h1, ⟨h2, h3⟩, h4, h5⟩ := h
  refine ⟨hs, ⟨by rw [he _ (by omega)]; exact h2, by rw [he _ (by omega)]; exact h3⟩, ?_, h5⟩
  rw [he 136 (by omega), he 137 (by omega), he 138 (by omega), he 139 (by omega)]
  exact h4
section DF
variable {n : Nat} {h : xH} {c : xQ} {r : xR} {H : xH} {z A : Nat → Int} {T : Int × Int × Int × Int}
/-- what comes of an act -/
def dAf (r : xR) (A : Nat → Int) (T : Int × Int × Int × Int) (o : Option ((Nat → Int) × (Int × Int × Int × Int))) (v : Int) (z' : Nat → Int) : Prop := match o with
  | none => v < 0 ∧ dR r z' A T
  | some P => 0 ≤ v ∧ dR r z' P.1 P.2
theorem dAf_0 {r : xR} {A : Nat → Int} {T : Int × Int × Int × Int} {o : Option ((Nat → Int) × (Int × Int × Int × Int))} {v : Int} {z' : Nat → Int} (ho : o = none) (hv : v < 0) (hd : dR r z' A T) : dAf r A T o v z' := by
  subst ho
  exact ⟨hv, hd⟩
theorem dAf_1 {r : xR} {A : Nat → Int} {T : Int × Int × Int × Int} {o : Option ((Nat → Int) × (Int × Int × Int × Int))} {v : Int} {z' : Nat → Int} {P : (Nat → Int) × (Int × Int × Int × Int)} (ho : o = some P) (hv : 0 ≤ v) (hd : dR r z' P.1 P.2) : dAf r A T o v z' := by
  subst ho
  exact ⟨hv, hd⟩
theorem c_perf (hK : kxOk (rK r)) (hru : ruleOk c (kSize (rK r)) (kText (rK r))) (hd : dR r z A T) {q : Int × Int × Int} (hq : daOk q) : ∃ (v : Int) (z' J : Nat → Int), (gg (n + 8) 127).2 [.inr (.inr (.inl (0, 0))), .inl q.1, .inl q.2.1, .inl q.2.2] (hC h (q_z c 0 z)) = some (some (.inl v), hC h (q_z (q_j c 6 J) 0 z')) ∧ dAf r A T (kAc (rK r) (A, T) q) v z' := by
  obtain ⟨v, x, y⟩ := q
  dsimp only at *
  have hB := hK.1
  have hN := hK.2.1
  have hs := hd.1
  obtain ⟨s1, s2, s3, ⟨M, m1, m2, m3, m4⟩, s5, s6⟩ := hd.1
  have mz : z 114 = (M : Int) := by rw [kEq_114 m3]; exact m2
  have hz0 : (q_z c 0 z).2.2 0 = z := q_zs
  have hj6 : ∀ z, q_z (q_j c 6 (c.2.1 6)) 0 z = q_z c 0 z := fun z => by rw [q_j0]
  rcases hq with ⟨h1, h2⟩ | ⟨h1, h2⟩ | h1 | h1 | h1 | h1 | h1
  · dsimp only at h1 h2
    subst h1
    have e0 : zw z z (z 136, z 137, z 138, z 139, z 140) z = z := zw_0
    obtain ⟨t1, t2, t3, t4, t5, t6, t7⟩ := hd
    have ex : x = ((x.toNat : Nat) : Int) := by omega
    obtain ⟨t', J, f⟩ := c_pass (n := n + 1) (h := h) (c := c) (k := 0) (z := z) (t := z) (A := (z, (z 136, z 137, z 138, z 139, z 140))) (by decide) hK (dR_kx ⟨t1, t2, t3, t4, t5, t6, t7⟩) m1 (cOk_sea hB hN m2 hs (by have := congrArg (fun p => p.2.2.1) t3; dsimp only at this; show xin (z 138); rw [this]; exact t6)) hru (m := x.toNat) (by omega)
    rw [← ex, e0] at f
    have hp := sea_passT (T := T) hK m1 m2 hs t4 t5 t6 t7 x.toNat (z 140) t'
    have eT : (T.1, T.2.1, T.2.2.1, T.2.2.2, z 140) = (z 136, z 137, z 138, z 139, z 140) := by rw [← t3]
    rw [eT] at hp
    refine ⟨x, _, J, pf104 (n := n + 7) (y := y) f, dAf_1 (P := kPs (rK r) x.toNat A T) (by unfold kAc; rw [if_pos rfl]) h2.1 ?_⟩
    generalize cPass (rK r) x.toNat (z, (z 136, z 137, z 138, z 139, z 140)) = C at *
    exact ⟨hp.1, ⟨by rw [zw_z (by omega) (by omega)]; exact t2.1, by rw [zw_z (by omega) (by omega)]; exact t2.2⟩, hp.2.1, hp.2.2⟩
  · dsimp only at h1 h2
    subst h1
    have f := c_paint (n := n + 5) (h := h) (c := q_z c 0 z) (k := 0) (by decide) x y
    rw [hz0, s1, q_zz, Nat.zero_add] at f
    by_cases d : 0 ≤ x ∧ x < (kB (rK r) : Int)
    · rw [if_pos (by omega), if_pos (by omega), ← hj6] at f
      have hx24 : 0 ≤ z (24 + x.toNat) := by
        rw [kEq_b hB m3 (c := 4) (i := x.toNat) (by omega) (by decide)]
        exact s6.1 x.toNat (by omega)
      exact ⟨_, _, _, pf112 (n := n + 7) f, dAf_1 (P := (xfu A (24 + x.toNat) y, T)) (by unfold kAc kDo; simp only [Int.reduceEq, if_false, if_true, if_pos d, Option.map_some]) hx24 (dR_of hd (sSea_w hB hN hs (Or.inl (by omega)) y (Or.inl h2.1)) (fun i hi => xfu_ne _ _ (by omega)))⟩
    · rw [if_neg (by omega), if_neg (by omega), ← hj6] at f
      exact ⟨_, _, _, pf112 (n := n + 7) f, dAf_0 (by unfold kAc kDo; simp only [Int.reduceEq, if_false, if_true, if_neg d, Option.map_none]) (by decide) hd⟩
  · dsimp only at h1
    subst h1
    have f := c_add (n := n + 5) (h := h) (c := q_z c 0 z) (k := 0) (by decide) m1 (by rw [hz0]; exact mz) x
    rw [hz0, s1, q_zz, Nat.zero_add] at f
    by_cases d : 0 ≤ x ∧ x < (kB (rK r) : Int)
    · by_cases d2 : M = 10
      · rw [if_pos (by omega), if_pos d2, if_neg (by omega), ← hj6] at f
        exact ⟨_, _, _, pf119 (n := n + 7) (y := y) f, dAf_0 (by unfold kAc kDo; simp only [Int.reduceEq, if_false, if_true]; rw [if_neg (by rw [m2]; omega)]; rfl) (by decide) hd⟩
      · rw [if_pos (by omega), if_neg d2, if_pos ⟨by omega, d2⟩, ← hj6] at f
        refine ⟨_, _, _, pf119 (n := n + 7) (y := y) f, dAf_1 (P := (rWr A (A 114).toNat x, T)) (by unfold kAc kDo; simp only [Int.reduceEq, if_false, if_true]; rw [if_pos ⟨d, by rw [m2]; omega⟩]; rfl) (by omega) (dR_of hd ?_ (fun i hi => ?_))⟩
        · rw [m2, Int.toNat_natCast]
          exact sSea_write hB hN hs m2 (by omega) x
        · unfold rWr
          rw [xfu_ne _ _ (by omega), xfu_ne _ _ (by omega), xfu_ne _ _ (by omega), xfu_ne _ _ (by omega)]
    · rw [if_neg (by omega), if_neg (by omega), ← hj6] at f
      exact ⟨_, _, _, pf119 (n := n + 7) (y := y) f, dAf_0 (by unfold kAc kDo; simp only [Int.reduceEq, if_false, if_true]; rw [if_neg (fun w => d w.1)]; rfl) (by decide) hd⟩
  · dsimp only at h1
    subst h1
    have hho : ∀ g : Nat, g < kN (rK r) → 0 ≤ z (116 + g) ∧ z (116 + g) < 6 := fun g hg => by
      have a1 := hK.2.2 g hg
      rw [(s3 g hg).1]
      exact ⟨a1.1, by have := a1.2; show r.2 2 g < 6; have : r.2 2 g < (kB (rK r) : Int) := this; omega⟩
    have f := c_send (n := n + 4) (h := h) (c := q_z c 0 z) (k := 0) (by decide) x y (fun g1 g2 g3 => by rw [hz0] at g2 ⊢; exact hho x.toNat (by omega))
    rw [hz0, q_zz, Nat.zero_add] at f
    unfold cSend at f
    rw [s2] at f
    by_cases d : 0 ≤ x ∧ x < (kN (rK r) : Int)
    · have e68 : z (68 + x.toNat) = A (68 + x.toNat) := kEq_g hN m3 (c := 4) (i := x.toNat) (by omega) (by decide)
      rw [if_pos (by omega), e68] at f
      by_cases d2 : A (68 + x.toNat) = 0
      · rw [if_pos d2] at f
        have hl : (y = -1 ∨ ((0 ≤ y ∧ y < z 114 ∧ y < 10) ∧ z (94 + y.toNat) = 0)) ↔ (y = -1 ∨ ((0 ≤ y ∧ y < A 114) ∧ A (94 + y.toNat) = 0)) := by
          rw [m2, mz]
          by_cases d : 0 ≤ y ∧ y < (M : Int)
          · have e5 : z (94 + y.toNat) = A (94 + y.toNat) := kEq_l m1 m3 (c := 1) (i := y.toNat) (by omega) (by decide)
            rw [e5]
            omega
          · omega
        by_cases d3 : y = -1 ∨ ((0 ≤ y ∧ y < A 114) ∧ A (94 + y.toNat) = 0)
        · rw [if_pos (hl.2 d3), ← hj6] at f
          have hl2 : y = -1 ∨ (0 ≤ y ∧ y < (M : Int)) := by rw [m2] at d3; omega
          have hS := sSea_send hB hN hs m2 m1 (g := x.toNat) (by omega) hl2
          have hfar : 0 ≤ rFar (rSend z x.toNat y) x.toNat (z (116 + x.toNat)) := by
            obtain ⟨S1, S2, S3, ⟨M', k1, k2, k3, k4⟩, S5, S6⟩ := hS
            have e9 := kSane_eq hB hN (kEq_symm k3) S5
            have := rFar_in e9 (g := x.toNat) (by omega) (q := z (116 + x.toNat)) (Or.inr (by
              have a1 := hK.2.2 x.toNat (by omega)
              rw [(s3 x.toNat (by omega)).1]
              exact a1))
            exact this.1
          exact ⟨_, _, _, pf115 (n := n + 7) f, dAf_1 (P := (rSend A x.toNat y, T)) (by unfold kAc kDo; simp only [Int.reduceEq, if_false, if_true]; rw [if_pos ⟨d, d2, d3⟩]; rfl) hfar (dR_of hd hS (fun i hi => rSend_hi z (by omega) (by omega) hi))⟩
        · rw [if_neg (fun w => d3 (hl.1 w)), ← hj6] at f
          exact ⟨_, _, _, pf115 (n := n + 7) f, dAf_0 (by unfold kAc kDo; simp only [Int.reduceEq, if_false, if_true]; rw [if_neg (fun w => d3 w.2.2)]; rfl) (show (-3 : Int) < 0 by decide) hd⟩
      · rw [if_neg d2, ← hj6] at f
        exact ⟨_, _, _, pf115 (n := n + 7) f, dAf_0 (by unfold kAc kDo; simp only [Int.reduceEq, if_false, if_true]; rw [if_neg (fun w => d2 w.2.1)]; rfl) (show (-2 : Int) < 0 by decide) hd⟩
    · rw [if_neg (by omega), ← hj6] at f
      exact ⟨_, _, _, pf115 (n := n + 7) f, dAf_0 (by unfold kAc kDo; simp only [Int.reduceEq, if_false, if_true]; rw [if_neg (fun w => d w.1)]; rfl) (show (-1 : Int) < 0 by decide) hd⟩
  · dsimp only at h1
    subst h1
    have e30 : 0 ≤ x → x < (kB (rK r) : Int) → z (30 + x.toNat) = A (30 + x.toNat) ∧ (A (30 + x.toNat) = 0 ∨ A (30 + x.toNat) = 1) := fun g1 g2 => ⟨kEq_b hB m3 (c := 5) (i := x.toNat) (by omega) (by decide), (s5.1 x.toNat (by omega)).2.2⟩
    have f := c_turnChum (n := n + 4) (h := h) (c := q_z c 0 z) (k := 0) (by decide) x (fun g1 g2 g3 => by
      rw [hz0] at g2 ⊢
      rw [s1] at g2
      have := e30 g1 g2
      rw [this.1]
      exact this.2)
    rw [hz0, s1, q_zz, Nat.zero_add] at f
    by_cases d : 0 ≤ x ∧ x < (kB (rK r) : Int)
    · have e9 := e30 d.1 d.2
      rw [if_pos (by omega), if_pos (by omega), ← hj6] at f
      have hv : xw (1 - A (30 + x.toNat)) = 0 ∨ xw (1 - A (30 + x.toNat)) = 1 := by
        rcases e9.2 with w | w
        · rw [w]; exact Or.inr (by decide)
        · rw [w]; exact Or.inl (by decide)
      refine ⟨_, _, _, pf99 (n := n + 7) (y := y) f, dAf_1 (P := (xfu A (30 + x.toNat) (xw (1 - A (30 + x.toNat))), T)) (by unfold kAc kDo; simp only [Int.reduceEq, if_false, if_true, if_pos d, Option.map_some]) (by rw [e9.1]; omega) (dR_of hd ?_ (fun i hi => xfu_ne _ _ (by omega)))⟩
      rw [e9.1]
      exact sSea_chum hB hN hs (by omega) hv
    · rw [if_neg (by omega), if_neg (by omega), ← hj6] at f
      exact ⟨_, _, _, pf99 (n := n + 7) (y := y) f, dAf_0 (by unfold kAc kDo; simp only [Int.reduceEq, if_false, if_true, if_neg d, Option.map_none]) (by decide) hd⟩
  · dsimp only at h1
    subst h1
    have f := c_fill (n := n + 5) (h := h) (c := q_z c 0 z) (k := 0) (by decide) x
    rw [hz0, s2, q_zz, Nat.zero_add] at f
    by_cases d : 0 ≤ x ∧ x < (kN (rK r) : Int)
    · have e68 : z (68 + x.toNat) = A (68 + x.toNat) := kEq_g hN m3 (c := 4) (i := x.toNat) (by omega) (by decide)
      have e44 : z (44 + x.toNat) = A (44 + x.toNat) := kEq_g hN m3 (c := 1) (i := x.toNat) (by omega) (by decide)
      rw [e68] at f
      by_cases d2 : A (68 + x.toNat) = 0
      · rw [if_pos (by omega), if_pos d2, if_pos (by omega), ← hj6] at f
        exact ⟨_, _, _, pf102 (n := n + 7) (y := y) f, dAf_1 (P := (xfu A (44 + x.toNat) 0, T)) (by unfold kAc kDo; simp only [Int.reduceEq, if_false, if_true]; rw [if_pos ⟨d, d2⟩]; rfl) (by rw [e44]; exact s6.2 x.toNat (by omega)) (dR_of hd (sSea_w hB hN hs (Or.inr (Or.inl (by omega))) 0 (Or.inl (by decide))) (fun i hi => xfu_ne _ _ (by omega)))⟩
      · rw [if_pos (by omega), if_neg d2, if_neg (fun w => d2 w.2), ← hj6] at f
        exact ⟨_, _, _, pf102 (n := n + 7) (y := y) f, dAf_0 (by unfold kAc kDo; simp only [Int.reduceEq, if_false, if_true]; rw [if_neg (fun w => d2 w.2)]; rfl) (by decide) hd⟩
    · rw [if_neg (by omega), if_neg (by omega), ← hj6] at f
      exact ⟨_, _, _, pf102 (n := n + 7) (y := y) f, dAf_0 (by unfold kAc kDo; simp only [Int.reduceEq, if_false, if_true]; rw [if_neg (fun w => d w.1)]; rfl) (by decide) hd⟩
  · dsimp only at h1
    subst h1
    have hho : ∀ g : Nat, g < kN (rK r) → z (116 + g) = kHome (rK r) g ∧ (0 ≤ kHome (rK r) g ∧ kHome (rK r) g < (kB (rK r) : Int)) := fun g hg => ⟨(s3 g hg).1, hK.2.2 g hg⟩
    have f := c_learn (n := n + 5) (h := h) (c := q_z c 0 z) (k := 0) (by decide) x (fun g1 g2 g3 => by
      rw [hz0] at g2 ⊢
      have := hho x.toNat (by omega)
      rw [this.1]
      omega)
    rw [hz0, s2, q_zz, Nat.zero_add] at f
    by_cases d : 0 ≤ x ∧ x < (kN (rK r) : Int)
    · have e68 : z (68 + x.toNat) = A (68 + x.toNat) := kEq_g hN m3 (c := 4) (i := x.toNat) (by omega) (by decide)
      have hh := hho x.toNat (by omega)
      have e24 : z (24 + (kHome (rK r) x.toNat).toNat) = A (24 + (kHome (rK r) x.toNat).toNat) := kEq_b hB m3 (c := 4) (i := (kHome (rK r) x.toNat).toNat) (by omega) (by decide)
      have n24 : 0 ≤ A (24 + (kHome (rK r) x.toNat).toNat) := s6.1 _ (by omega)
      rw [e68, hh.1, e24] at f
      by_cases d2 : A (68 + x.toNat) = 0
      · rw [if_pos (by omega), if_pos d2, if_pos (by omega), ← hj6] at f
        exact ⟨_, _, _, pf111 (n := n + 7) (y := y) f, dAf_1 (P := (xfu A (36 + x.toNat) (A (24 + (kHome (rK r) x.toNat).toNat)), T)) (by unfold kAc kDo; simp only [Int.reduceEq, if_false, if_true]; rw [if_pos ⟨d, d2⟩]; rfl) n24 (dR_of hd (sSea_w hB hN hs (Or.inr (Or.inl (by omega))) _ (Or.inl n24)) (fun i hi => xfu_ne _ _ (by omega)))⟩
      · rw [if_pos (by omega), if_neg d2, if_neg (fun w => d2 w.2), ← hj6] at f
        exact ⟨_, _, _, pf111 (n := n + 7) (y := y) f, dAf_0 (by unfold kAc kDo; simp only [Int.reduceEq, if_false, if_true]; rw [if_neg (fun w => d2 w.2)]; rfl) (by decide) hd⟩
    · rw [if_neg (by omega), if_neg (by omega), ← hj6] at f
      exact ⟨_, _, _, pf111 (n := n + 7) (y := y) f, dAf_0 (by unfold kAc kDo; simp only [Int.reduceEq, if_false, if_true]; rw [if_neg (fun w => d w.1)]; rfl) (by decide) hd⟩
end DF
