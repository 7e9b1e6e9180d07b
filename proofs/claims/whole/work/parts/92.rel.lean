/-! ===== the class and the reference stand for the same ===== -/
/-- no hull's and no gull's number is below 0 -/
def kNn (B N : Nat) (a : Nat → Int) : Prop := (∀ b, b < B → 0 ≤ a (24 + b)) ∧ (∀ g, g < N → 0 ≤ a (44 + g))
theorem kNn_w {B N : Nat} {a : Nat → Int} (h : kNn B N a) {i : Nat} {v : Int} (hv : 0 ≤ v ∨ ¬ ((24 ≤ i ∧ i < 24 + B) ∨ (44 ≤ i ∧ i < 44 + N))) : kNn B N (xfu a i v) := by
  refine ⟨fun b hb => ?_, fun g hg => ?_⟩
  · unfold xfu
    split
    · omega
    · exact h.1 b hb
  · unfold xfu
    split
    · omega
    · exact h.2 g hg
/-- a sea stands for a row: B boats, N gulls, their homes and paces as the reference has them -/
def sSea (r : xR) (B N : Nat) (z a : Nat → Int) : Prop := z 132 = (B : Int) ∧ z 133 = (N : Int) ∧ (∀ g, g < N → z (116 + g) = r.2 2 g ∧ z (124 + g) = r.2 3 g) ∧ (∃ M : Nat, M ≤ 10 ∧ a 114 = (M : Int) ∧ kEq B N M z a ∧ kBe M N a) ∧ kSane B N a ∧ kNn B N a
def RNum (r : xR) : Prop := (0 ≤ r.1 1 ∧ r.1 1 ≤ 6) ∧ (0 ≤ r.1 2 ∧ r.1 2 ≤ 8) ∧ (∀ g, g < kN (rK r) → 0 ≤ r.2 2 g ∧ r.2 2 g < (kB (rK r) : Int)) ∧ (0 ≤ r.1 44 ∧ r.1 44 ≤ r.1 1 + r.1 2) ∧ (r.1 6 = 0 ∨ r.1 6 = 1) ∧ (∀ g, g < 8 → 0 ≤ r.2 2 g ∧ r.2 2 g < 6) ∧ (∀ g, g < kN (rK r) → 1 ≤ kPace (rK r) g ∧ kPace (rK r) g ≤ 9)
def RSea (r : xR) (c : xQ) : Prop := sSea r (kB (rK r)) (kN (rK r)) (c.2.2 0) (r.2 1) ∧ c.2.2 0 134 = r.1 5 ∧ c.2.2 0 135 = r.1 6
def RHist (r : xR) (c : xQ) : Prop := ∃ U f : Nat, U ≤ 12 ∧ f ≤ 12 ∧ r.1 28 = (U : Int) ∧ c.1 9 = (U : Int) ∧ c.1 8 = (f : Int) ∧ ∀ i, i < U → sSea r (kB (rK r)) (kN (rK r)) (c.2.2 ((f + i) % 13 + 2)) (fun x => r.2 11 (116 * i + x))
def RKept (r : xR) (c : xQ) : Prop := ∀ i, i < 2 → c.2.1 10 i = r.2 21 i ∧ (r.2 21 i = 0 ∨ (r.2 21 i = 1 ∧ ∃ B N : Nat, B ≤ kB (rK r) ∧ N ≤ kN (rK r) ∧ sSea r B N (c.2.2 (i + 15)) (fun x => r.2 20 (116 * i + x)) ∧ r.2 22 i ≤ r.1 44 ∧ (r.2 22 i = r.1 44 ↔ (B = kB (rK r) ∧ N = kN (rK r)))))
def RText (r : xR) (c : xQ) : Prop := ∃ T : Nat, T ≤ 80 ∧ r.1 8 = (T : Int) ∧ c.1 2 = (T : Int) ∧ ∀ i, i < T → (-128 ≤ r.2 4 i ∧ r.2 4 i < 128) ∧ c.2.1 2 i = xand (r.2 4 i) 255
def RRule (r : xR) (c : xQ) : Prop := r.1 20 ≤ 40 ∧ ruleOk c (r.1 20) (r.2 8)
def RWord (r : xR) (c : xQ) : Prop := ∃ W : Nat, W ≤ 12 ∧ r.1 42 = (W : Int) ∧ c.1 0 = (W : Int) ∧ ∀ i, i < W → c.2.1 26 i = r.2 18 i ∧ c.2.1 27 i = r.2 19 i
def RTold (r : xR) (c : xQ) : Prop := ∃ D : Nat, D ≤ 8 ∧ r.1 10 = (D : Int) ∧ c.1 1 = (D : Int) ∧ ∀ i, i < D → c.2.1 28 i = r.2 5 i
def Rel (r : xR) (c : xQ) : Prop := RNum r ∧ RSea r c ∧ RHist r c ∧ RKept r c ∧ RText r c ∧ RRule r c ∧ RWord r c ∧ RTold r c
/-- seas alike below 136 -/
theorem sSea_z {r : xR} {B N : Nat} {z z' a : Nat → Int} (hB : B ≤ 6) (hN : N ≤ 8) (e : ∀ i, i < 136 → z i = z' i) (h : sSea r B N z a) : sSea r B N z' a := by
  obtain ⟨h1, h2, h3, ⟨M, h4, h5, h6, h7⟩, h8⟩ := h
  refine ⟨by rw [← e _ (by omega)]; exact h1, by rw [← e _ (by omega)]; exact h2, fun g hg => ?_, ⟨M, h4, h5, fun i hi => ?_, h7⟩, h8⟩
  · rw [← e _ (by omega), ← e _ (by omega)]
    exact h3 g hg
  · rw [← e i (by unfold kLv at hi; omega)]
    exact h6 i hi
/-- homes and paces alike -/
theorem sSea_r {r r' : xR} {B N : Nat} {z a : Nat → Int} (e1 : ∀ g, g < N → r.2 2 g = r'.2 2 g) (e2 : ∀ g, g < N → r.2 3 g = r'.2 3 g) (h : sSea r B N z a) : sSea r' B N z a := by
  obtain ⟨h1, h2, h3, h4⟩ := h
  refine ⟨h1, h2, fun g hg => ?_, h4⟩
  rw [← e1 g hg, ← e2 g hg]
  exact h3 g hg
/-- rows alike below 116 -/
theorem sSea_a {r : xR} {B N : Nat} {z a a' : Nat → Int} (hB : B ≤ 6) (hN : N ≤ 8) (e : ∀ i, i < 116 → a i = a' i) (h : sSea r B N z a) : sSea r B N z a' := by
  obtain ⟨h1, h2, h3, ⟨M, h4, h5, h6, h7⟩, ⟨h8, h9⟩, h10, h11⟩ := h
  refine ⟨h1, h2, h3, ⟨M, h4, by rw [← e _ (by omega)]; exact h5, fun i hi => ?_, fun g hg => ?_⟩, ⟨fun b hb => ?_, fun g hg => ?_⟩, fun b hb => ?_, fun g hg => ?_⟩
  · rw [← e i (by unfold kLv at hi; omega)]
    exact h6 i hi
  · rw [← e (76 + g) (by omega)]
    exact h7 g hg
  · rw [← e b (by omega), ← e (6 + b) (by omega), ← e (12 + b) (by omega), ← e (18 + b) (by omega), ← e (30 + b) (by omega)]
    exact h8 b hb
  · rw [← e (52 + g) (by omega), ← e (60 + g) (by omega)]
    exact h9 g hg
  · rw [← e (24 + b) (by omega)]
    exact h10 b hb
  · rw [← e (44 + g) (by omega)]
    exact h11 g hg
theorem kSane_eq {B N M : Nat} {a b : Nat → Int} (hB : B ≤ 6) (hN : N ≤ 8) (e : kEq B N M a b) (h : kSane B N a) : kSane B N b := by
  refine ⟨fun i hi => ?_, fun g hg => ?_⟩
  · have x0 : a i = b i := by have := kEq_b hB e (c := 0) hi (by decide); rwa [Nat.mul_zero, Nat.zero_add] at this
    have x1 : a (6 + i) = b (6 + i) := kEq_b hB e (c := 1) hi (by decide)
    have x2 : a (12 + i) = b (12 + i) := kEq_b hB e (c := 2) hi (by decide)
    have x3 : a (18 + i) = b (18 + i) := kEq_b hB e (c := 3) hi (by decide)
    have x5 : a (30 + i) = b (30 + i) := kEq_b hB e (c := 5) hi (by decide)
    rw [← x0, ← x1, ← x2, ← x3, ← x5]
    exact h.1 i hi
  · have x2 : a (52 + g) = b (52 + g) := kEq_g hN e (c := 2) hg (by decide)
    have x3 : a (60 + g) = b (60 + g) := kEq_g hN e (c := 3) hg (by decide)
    rw [← x2, ← x3]
    exact h.2 g hg
theorem kBe_eq {B N M M' : Nat} {a b : Nat → Int} (hN : N ≤ 8) (e : kEq B N M a b) (h : kBe M' N a) : kBe M' N b := fun g hg => by
  have x5 : a (76 + g) = b (76 + g) := kEq_g hN e (c := 5) hg (by decide)
  rw [← x5]
  exact h g hg
/-- what the class keeps: its numbers, rows and seas but for what is scratch -/
def QEq (c c' : xQ) : Prop := (∀ i, i = 0 ∨ i = 1 ∨ i = 2 ∨ i = 6 ∨ i = 8 ∨ i = 9 → c.1 i = c'.1 i) ∧ (∀ j, j = 2 ∨ j = 4 ∨ j = 10 ∨ j = 26 ∨ j = 27 ∨ j = 28 → c.2.1 j = c'.2.1 j) ∧ (∀ k, k ≠ 1 → ∀ i, i < 136 → c.2.2 k i = c'.2.2 k i)
theorem QEq_refl (c : xQ) : QEq c c := ⟨fun _ _ => rfl, fun _ _ => rfl, fun _ _ _ _ => rfl⟩
theorem QEq_trans {c c' c'' : xQ} (h : QEq c c') (h' : QEq c' c'') : QEq c c'' := ⟨fun i hi => (h.1 i hi).trans (h'.1 i hi), fun i hi => (h.2.1 i hi).trans (h'.2.1 i hi), fun k hk i hi => (h.2.2 k hk i hi).trans (h'.2.2 k hk i hi)⟩
theorem QEq_symm {c c' : xQ} (h : QEq c c') : QEq c' c := ⟨fun i hi => (h.1 i hi).symm, fun i hi => (h.2.1 i hi).symm, fun k hk i hi => (h.2.2 k hk i hi).symm⟩
theorem QEq_z1 {c : xQ} (z : Nat → Int) : QEq c (q_z c 1 z) := ⟨fun _ _ => rfl, fun _ _ => rfl, fun k hk i _ => by rw [q_zn hk]⟩
theorem QEq_z {c : xQ} {k : Nat} {z : Nat → Int} (h : ∀ i, i < 136 → c.2.2 k i = z i) : QEq c (q_z c k z) := ⟨fun _ _ => rfl, fun _ _ => rfl, fun k' hk i hi => by
  by_cases e : k' = k
  · subst e
    rw [q_zs]
    exact h i hi
  · rw [q_zn e]⟩
theorem QEq_j {c : xQ} {j : Nat} (hj : ¬ (j = 2 ∨ j = 4 ∨ j = 10 ∨ j = 26 ∨ j = 27 ∨ j = 28)) (f : Nat → Int) : QEq c (q_j c j f) := ⟨fun _ _ => rfl, fun i hi => (q_jn (by rintro rfl; exact hj hi)).symm, fun _ _ _ _ => rfl⟩
theorem QEq_i {c : xQ} {j : Nat} (hj : ¬ (j = 0 ∨ j = 1 ∨ j = 2 ∨ j = 6 ∨ j = 8 ∨ j = 9)) (v : Int) : QEq c (q_i c j v) := ⟨fun i hi => (xfu_ne _ _ (by rintro rfl; exact hj hi)).symm, fun _ _ => rfl, fun _ _ _ _ => rfl⟩
theorem ruleOk_q {c c' : xQ} {sz : Int} {tx : Nat → Int} (e6 : c.1 6 = c'.1 6) (e4 : c.2.1 4 = c'.2.1 4) (h : ruleOk c sz tx) : ruleOk c' sz tx := by
  unfold ruleOk at h ⊢
  rw [← e6, ← e4]
  exact h
theorem rB6 {r : xR} (h : RNum r) : kB (rK r) ≤ 6 := by
  obtain ⟨⟨h0, h1⟩, _⟩ := h
  show (r.1 1).toNat ≤ 6
  omega
theorem rN8 {r : xR} (h : RNum r) : kN (rK r) ≤ 8 := by
  obtain ⟨_, ⟨h0, h1⟩, _⟩ := h
  show (r.1 2).toNat ≤ 8
  omega
theorem rB {r : xR} (h : RNum r) : r.1 1 = (kB (rK r) : Int) := by
  obtain ⟨⟨h0, h1⟩, _⟩ := h
  show r.1 1 = ((r.1 1).toNat : Int)
  omega
theorem rN {r : xR} (h : RNum r) : r.1 2 = (kN (rK r) : Int) := by
  obtain ⟨_, ⟨h0, h1⟩, _⟩ := h
  show r.1 2 = ((r.1 2).toNat : Int)
  omega
theorem Rel_q {r : xR} {c c' : xQ} (q : QEq c c') (h : Rel r c) : Rel r c' := by
  obtain ⟨q1, q2, q3⟩ := q
  obtain ⟨h1, ⟨s1, s2, s3⟩, ⟨U, f, u1, u2, u3, u4, u5, u6⟩, h4, ⟨T, t1, t2, t3, t4⟩, ⟨g1, g2⟩, ⟨W, w1, w2, w3, w4⟩, ⟨D, d1, d2, d3, d4⟩⟩ := h
  have hB := rB6 h1
  have hN := rN8 h1
  refine ⟨h1, ⟨sSea_z hB hN (q3 0 (by decide)) s1, by rw [← q3 0 (by decide) _ (by decide)]; exact s2, by rw [← q3 0 (by decide) _ (by decide)]; exact s3⟩, ⟨U, f, u1, u2, u3, by rw [← q1 9 (by decide)]; exact u4, by rw [← q1 8 (by decide)]; exact u5, fun i hi => sSea_z hB hN (q3 _ (by omega)) (u6 i hi)⟩, fun i hi => ?_, ⟨T, t1, t2, by rw [← q1 2 (by decide)]; exact t3, by rw [← q2 2 (by decide)]; exact t4⟩, ⟨g1, ruleOk_q (q1 6 (by decide)) (q2 4 (by decide)) g2⟩, ⟨W, w1, w2, by rw [← q1 0 (by decide)]; exact w3, by rw [← q2 26 (by decide), ← q2 27 (by decide)]; exact w4⟩, ⟨D, d1, d2, by rw [← q1 1 (by decide)]; exact d3, by rw [← q2 28 (by decide)]; exact d4⟩⟩
  obtain ⟨k1, k2⟩ := h4 i hi
  refine ⟨by rw [← q2 10 (by decide)]; exact k1, ?_⟩
  rcases k2 with k2 | ⟨k2, B, N, k3, k4, k5, k6⟩
  · exact Or.inl k2
  · exact Or.inr ⟨k2, B, N, k3, k4, sSea_z (by omega) (by omega) (q3 _ (by omega)) k5, k6⟩
/-- the reference's numbers that count -/
def REq (r r' : xR) : Prop := (∀ i, i = 1 ∨ i = 2 ∨ i = 5 ∨ i = 6 ∨ i = 8 ∨ i = 10 ∨ i = 20 ∨ i = 28 ∨ i = 42 ∨ i = 44 → r.1 i = r'.1 i) ∧ (∀ j, j = 1 ∨ j = 2 ∨ j = 3 ∨ j = 4 ∨ j = 5 ∨ j = 8 ∨ j = 11 ∨ j = 18 ∨ j = 19 ∨ j = 20 ∨ j = 21 ∨ j = 22 → r.2 j = r'.2 j)
theorem REq_C {r r' : xR} (h : rC r = rC r') : REq r r' := by
  refine ⟨fun i hi => ?_, fun j hj => ?_⟩
  · rcases hi with rfl | rfl | rfl | rfl | rfl | rfl | rfl | rfl | rfl | rfl
    all_goals exact rC_e1 h rfl
  · rcases hj with rfl | rfl | rfl | rfl | rfl | rfl | rfl | rfl | rfl | rfl | rfl | rfl
    all_goals exact rC_e2 h rfl
theorem REq_K {r r' : xR} (h : REq r r') : rK r = rK r' := by
  obtain ⟨h1, h2⟩ := h
  unfold rK
  rw [h1 1 (by decide), h1 2 (by decide), h1 5 (by decide), h1 6 (by decide), h1 20 (by decide), h2 2 (by decide), h2 3 (by decide), h2 8 (by decide)]
theorem Rel_r {r r' : xR} {c : xQ} (q : REq r r') (h : Rel r c) : Rel r' c := by
  have hK := REq_K q
  obtain ⟨q1, q2⟩ := q
  obtain ⟨h1, h2, h3, h4, h5, h6, h7, h8⟩ := h
  have es : ∀ B N z a, sSea r B N z a → sSea r' B N z a := fun B N z a => sSea_r (fun g _ => by rw [q2 2 (by decide)]) (fun g _ => by rw [q2 3 (by decide)])
  refine ⟨?_, ?_, ?_, ?_, ?_, ?_, ?_, ?_⟩
  · unfold RNum at h1 ⊢
    rw [← hK, ← q1 1 (by decide), ← q1 2 (by decide), ← q1 44 (by decide), ← q1 6 (by decide), ← q2 2 (by decide)]
    exact h1
  · unfold RSea at h2 ⊢
    rw [← hK, ← q2 1 (by decide), ← q1 5 (by decide), ← q1 6 (by decide)]
    exact ⟨es _ _ _ _ h2.1, h2.2⟩
  · unfold RHist at h3 ⊢
    rw [← hK, ← q2 11 (by decide), ← q1 28 (by decide)]
    obtain ⟨U, f, u1, u2, u3, u4, u5, u6⟩ := h3
    exact ⟨U, f, u1, u2, u3, u4, u5, fun i hi => es _ _ _ _ (u6 i hi)⟩
  · unfold RKept at h4 ⊢
    rw [← hK, ← q2 20 (by decide), ← q2 21 (by decide), ← q2 22 (by decide), ← q1 44 (by decide)]
    intro i hi
    obtain ⟨k1, k2⟩ := h4 i hi
    refine ⟨k1, ?_⟩
    rcases k2 with k2 | ⟨k2, B, N, k3, k4, k5, k6⟩
    · exact Or.inl k2
    · exact Or.inr ⟨k2, B, N, k3, k4, es _ _ _ _ k5, k6⟩
  · unfold RText at h5 ⊢
    rw [← q2 4 (by decide), ← q1 8 (by decide)]
    exact h5
  · unfold RRule at h6 ⊢
    rw [← q2 8 (by decide), ← q1 20 (by decide)]
    exact h6
  · unfold RWord at h7 ⊢
    rw [← q2 18 (by decide), ← q2 19 (by decide), ← q1 42 (by decide)]
    exact h7
  · unfold RTold at h8 ⊢
    rw [← q2 5 (by decide), ← q1 10 (by decide)]
    exact h8
theorem Rel_11 {r : xR} {c : xQ} (h : Rel r c) (v : Int) : Rel (xr_i r 11 v) c := Rel_r (r := r) (by
  refine ⟨fun i hi => ?_, fun j _ => rfl⟩
  show r.1 i = xfu r.1 11 v i
  rw [xfu_ne _ _ (by omega)]) h
