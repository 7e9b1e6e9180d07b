/-! ===== seasons ===== -/
def kWS (k : xKx) (w s : Int) : xKx := (k.1, k.2.1, k.2.2.1, k.2.2.2.1, w, s, k.2.2.2.2.2.2)
abbrev xSn : Type := Int × xHs
def dDraw (d k : Int) : Int := (xushr d 16).tmod k
def kSeaG (N : Nat) (g : Int) (F : xFl) : xFl := if (0 ≤ g ∧ g < (N : Int)) ∧ F.1 (68 + g.toNat) = 0 then (rSend F.1 g.toNat (-1), F.2) else F
def kSea1 (k : xKx) (p : Int) (Z : xSn) : xSn :=
  let d1 := dNext Z.1
  let d2 := dNext d1
  let d3 := dNext d2
  (d3, kHs1 (kWS k (dDraw d1 10) (if dDraw d2 p = 0 then 1 else 0)) (kSeaG (kN k) (dDraw d3 8) Z.2.1, Z.2.2))
def kSea (k : xKx) (p : Int) (m : Nat) (Z : xSn) : xSn := xit (fun _ => kSea1 k p) m Z
section SE
variable {B N M : Nat} {k : xKx} {g : Nat}
theorem kSeaG_ok (hN : N ≤ 8) (hM : M ≤ 10) (g : Int) {F : xFl} (hl : kBe M N F.1) : kBe M N (kSeaG N g F).1 ∧ (kSeaG N g F).1 114 = F.1 114 := by
  unfold kSeaG
  split
  · rename_i c
    refine ⟨kBe_send0 hN hl (by omega), ?_⟩
    dsimp only
    rw [rSend_0, xfu_ne _ _ (by omega), xfu_ne _ _ (by omega)]
  · exact ⟨hl, rfl⟩
theorem kSeaG_eq (hN : N ≤ 8) (g : Int) {F F' : xFl} (e : kEq B N M F.1 F'.1) : kEq B N M (kSeaG N g F).1 (kSeaG N g F').1 := by
  unfold kSeaG
  by_cases c : 0 ≤ g ∧ g < (N : Int)
  · have x68 : F.1 (68 + g.toNat) = F'.1 (68 + g.toNat) := kEq_g hN e (c := 4) (by omega) (by decide)
    rw [x68]
    split
    · dsimp only
      rw [rSend_0, rSend_0]
      exact kEq_xfu (kEq_xfu e _ rfl) _ rfl
    · exact e
  · rw [if_neg (fun h => c h.1), if_neg (fun h => c h.1)]
    exact e
theorem kSea_ok (hB : kB k ≤ 6) (hN : kN k ≤ 8) (hM : M ≤ 10) (p : Int) {Z : xSn} (hl : kBe M (kN k) Z.2.1.1) : ∀ m, kBe M (kN k) (kSea k p m Z).2.1.1 ∧ (kSea k p m Z).2.1.1 114 = Z.2.1.1 114
  | 0 => ⟨hl, rfl⟩
  | m + 1 => by
    obtain ⟨i0, i1⟩ := kSea_ok hB hN hM p hl m
    show kBe M (kN k) (kSea1 k p (kSea k p m Z)).2.1.1 ∧ (kSea1 k p (kSea k p m Z)).2.1.1 114 = Z.2.1.1 114
    generalize kSea k p m Z = Y at i0 i1
    unfold kSea1 kHs1
    dsimp only
    obtain ⟨j0, j1⟩ := kSeaG_ok hN hM (dDraw (dNext (dNext (dNext Y.1))) 8) i0
    generalize kSeaG (kN k) (dDraw (dNext (dNext (dNext Y.1))) 8) Y.2.1 = G at j0 j1
    obtain ⟨q0, q1, _⟩ := kBe_half (k := kWS k (dDraw (dNext Y.1) 10) (if dDraw (dNext (dNext Y.1)) p = 0 then 1 else 0)) (F := G) hB hN hM (Nat.le_refl _) j0
    exact ⟨q0, q1.trans (j1.trans i1)⟩
theorem kSea_eq (hB : B ≤ 6) (hN : kN k ≤ 8) (hM : M ≤ 10) (hk : kB k ≤ B) (hh : ∀ g, g < kN k → (0 ≤ kHome k g ∧ kHome k g < B)) (p : Int) {Z Z' : xSn} (hl : kBe M (kN k) Z.2.1.1) (e1 : Z.1 = Z'.1) (e : kEq B (kN k) M Z.2.1.1 Z'.2.1.1) (e2 : Z.2.2 = Z'.2.2) : ∀ m, kBe M (kN k) (kSea k p m Z).2.1.1 ∧ (kSea k p m Z).1 = (kSea k p m Z').1 ∧ kEq B (kN k) M (kSea k p m Z).2.1.1 (kSea k p m Z').2.1.1 ∧ (kSea k p m Z).2.2 = (kSea k p m Z').2.2
  | 0 => ⟨hl, e1, e, e2⟩
  | m + 1 => by
    obtain ⟨i0, i1, i2, i3⟩ := kSea_eq hB hN hM hk hh p hl e1 e e2 m
    show kBe M (kN k) (kSea1 k p (kSea k p m Z)).2.1.1 ∧ (kSea1 k p (kSea k p m Z)).1 = (kSea1 k p (kSea k p m Z')).1 ∧ kEq B (kN k) M (kSea1 k p (kSea k p m Z)).2.1.1 (kSea1 k p (kSea k p m Z')).2.1.1 ∧ (kSea1 k p (kSea k p m Z)).2.2 = (kSea1 k p (kSea k p m Z')).2.2
    generalize kSea k p m Z = Y at i0 i1 i2 i3
    generalize kSea k p m Z' = Y' at i1 i2 i3
    unfold kSea1 kHs1
    dsimp only
    rw [← i1, ← i3]
    obtain ⟨j0, _⟩ := kSeaG_ok hN hM (dDraw (dNext (dNext (dNext Y.1))) 8) i0
    have j1 := kSeaG_eq (B := B) (M := M) hN (dDraw (dNext (dNext (dNext Y.1))) 8) i2
    generalize kSeaG (kN k) (dDraw (dNext (dNext (dNext Y.1))) 8) Y.2.1 = G at j0 j1
    generalize kSeaG (kN k) (dDraw (dNext (dNext (dNext Y.1))) 8) Y'.2.1 = G' at j1
    obtain ⟨q0, q1, s1, s2, s3, _⟩ := kHalf_c (k := kWS k (dDraw (dNext Y.1) 10) (if dDraw (dNext (dNext Y.1)) p = 0 then 1 else 0)) (F := G) (F' := G') hB hN hM hk (Nat.le_refl _) hh j0 j1
    refine ⟨q0, rfl, q1, ?_⟩
    rw [s1, s2, s3]
end SE
section SG
variable {n : Nat} {h : xH} {r : xR} {H : xH} {j : Nat} {F : xFl} {J : xR} {T : Int × Int × Int × Int} {w s d : Int}
def rS (r : xR) (w s d : Int) : xR := (fun k => if k = 5 then w else if k = 6 then s else if k = 43 then d else r.1 k, r.2)
theorem rS_5 (v : Int) : xr_i (rS r w s d) 5 v = rS r v s d := by
  refine Prod.ext (funext fun k => ?_) rfl
  unfold rS xr_i xfu
  dsimp only
  repeat' split
  all_goals first | rfl | omega
theorem rS_6 (v : Int) : xr_i (rS r w s d) 6 v = rS r w v d := by
  refine Prod.ext (funext fun k => ?_) rfl
  unfold rS xr_i xfu
  dsimp only
  repeat' split
  all_goals first | rfl | omega
theorem rS_43 (v : Int) : xr_i (rS r w s d) 43 v = rS r w s v := by
  refine Prod.ext (funext fun k => ?_) rfl
  unfold rS xr_i xfu
  dsimp only
  repeat' split
  all_goals first | rfl | omega
theorem rT_pi {k : Nat} (hk : ¬ (30 ≤ k ∧ k ≤ 33)) (v : Int) : xr_i (rT r T) k v = rT (xr_i r k v) T := by
  refine Prod.ext (funext fun i => ?_) rfl
  unfold rT xr_i xfu
  dsimp only
  repeat' split
  all_goals first | rfl | omega
def rZ (r : xR) (w s d : Int) (T : Int × Int × Int × Int) (F : xFl) (J : xR) : xR := rW (rT (rS r w s d) T) 14 F J
theorem rZ_p5 (v : Int) : xr_i (rZ r w s d T F J) 5 v = rZ r v s d T F J := by
  unfold rZ
  rw [rW_pi (by omega) (by omega), rT_pi (by omega), rS_5]
theorem rZ_p6 (v : Int) : xr_i (rZ r w s d T F J) 6 v = rZ r w v d T F J := by
  unfold rZ
  rw [rW_pi (by omega) (by omega), rT_pi (by omega), rS_6]
theorem rZ_p43 (v : Int) : xr_i (rZ r w s d T F J) 43 v = rZ r w s v T F J := by
  unfold rZ
  rw [rW_pi (by omega) (by omega), rT_pi (by omega), rS_43]
theorem rZ_43 : (rZ r w s d T F J).1 43 = d := rfl
theorem rZ_2 : (rZ r w s d T F J).1 2 = r.1 2 := rfl
theorem rZ_30 : (rZ r w s d T F J).1 30 = T.1 := rfl
theorem rZ_33 : (rZ r w s d T F J).1 33 = T.2.2.2 := rfl
theorem rZ_14 : (rZ r w s d T F J).2 14 = F.1 := rfl
theorem rZ_p14 (a : Nat → Int) : xr_j (rZ r w s d T F J) 14 a = rZ r w s d T (a, F.2) J := by
  unfold rZ
  rw [rW_pj]
theorem rZ_c (h5 : w = r.1 5) (h6 : s = r.1 6) : rC (rZ r w s d T F J) = rC r := by
  unfold rZ
  rw [rW_14c, rC_T]
  subst h5 h6
  refine Prod.ext (funext fun k => ?_) rfl
  show (if sF k = true then 0 else (rS r (r.1 5) (r.1 6) d).1 k) = if sF k = true then 0 else r.1 k
  split
  · rfl
  · rename_i hk
    unfold rS
    dsimp only
    split
    · rename_i c; subst c; rfl
    · split
      · rename_i c; subst c; rfl
      · rw [if_neg]
        rintro rfl
        exact hk rfl
theorem rZ_draw {k : Int} (hk : ¬ k = 0) : (gg (n + 1) 268).2 [.inr (.inr (.inl (1, 0))), .inl k] (hR h (rZ r w s d T F J)) = some (some (.inl (dDraw (dNext d) k)), hR h (rZ r w s (dNext d) T F J)) := by
  have := r_draw (n := n) (h := h) (r := rZ r w s d T F J) hk
  rw [rZ_43, rZ_p43] at this
  exact this
theorem rZ_self (r : xR) (d : Int) : rZ r (r.1 5) (r.1 6) d (0, 0, 0, 0) (r.2 14, r.1 23, r.1 24, r.1 25, r.2 10) r = rT (xr_i r 43 d) (0, 0, 0, 0) := by
  refine Prod.ext (funext fun k => ?_) (funext fun c => ?_)
  · unfold rZ rW rT rS xr_i xfu
    dsimp only
    repeat' split
    all_goals first | rfl | omega | (rename_i c; subst c; rfl) | (subst_vars; rfl)
  · show (if c = 14 then r.2 14 else if c = 10 then r.2 10 else if c = 9 then r.2 9 else r.2 c) = r.2 c
    repeat' split
    all_goals (try subst_vars); rfl
end SG
