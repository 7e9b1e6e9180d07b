/-! ===== one turn of the law's loop ===== -/
def hL (g : Nat → Int) (a b : Nat) : xH := ([], [], [.inr (.inl (3, 1, g))], fun _ => [], 17, a, b)
abbrev lwL (z i : Nat) (j5 j6 : xV) : List xV := [.inr (.inr (.inr (z + 3))), .inr (.inr (.inl (0, 0))), .inr (.inr (.inl (1, 0))), .inr (.inr (.inl (2, 0))), .inl (i : Int), j5, j6]
def lwH (g : Nat → Int) (a b : Nat) (r : xR) (c : xQ) : xH := hR (hC (hL g a b) c) r
theorem lw_hRC (h : xH) (c : xQ) (r : xR) : hC (hR h r) c = hR (hC h c) r := rfl
theorem lw_hCe {h : xH} {c c' : xQ} {r : xR} (e : hR (hC h c) r = hR (hC h c') r) : hC h c = hC h c' := by
  have e0 : (hR (hC h c) r).1 = (hR (hC h c') r).1 := by rw [e]
  have e1 : c_lay c = c_lay c' := e0
  have e3 : (hR (hC h c) r).2.2 = (hR (hC h c') r).2.2 := by rw [e]
  have e2 : (hC h c).2.2 = (hC h c').2.2 := e3
  show (c_lay c, h.2.1, (hC h c).2.2) = (c_lay c', h.2.1, (hC h c').2.2)
  rw [e1, e2]
/-- the two of a pair, one behind the other -/
theorem Par.two {mr mc : Nat} {args : List xV} (hP : Par mr mc args) {r : xR} {c : xQ} (hr : Rel r c) (n : Nat) (h : xH) : ∃ (v : Int) (r' : xR) (c' : xQ), (gg (n + 900) mc).2 (.inr (.inr (.inl (0, 0))) :: args) (hR (hC h c) r) = some (some (.inl v), hR (hC h c') r) ∧
    (gg (n + 900) mr).2 (.inr (.inr (.inl (1, 0))) :: args) (hR (hC h c') r) = some (some (.inl v), hR (hC h c') r') ∧ Rel r' c' := by
  obtain ⟨v0, r0, c0, -, e0, -⟩ := hP n h (hR h r) r c hr
  obtain ⟨v1, r1, c1, d1, e1, hr1⟩ := hP n (hC h c0) (hR h r) r c hr
  rw [e0] at e1
  have z := Option.some.inj e1
  have zv : v0 = v1 := Sum.inl.inj (Option.some.inj (congrArg Prod.fst z))
  have zh : hC (hR h r) c0 = hC (hR h r) c1 := congrArg Prod.snd z
  rw [lw_hRC, lw_hRC] at zh
  have zc := lw_hCe zh
  refine ⟨v1, r1, c1, ?_, ?_, hr1⟩
  · rw [← lw_hRC, e0, zv, lw_hRC, zc]
  · rw [← zc]
    exact d1
section LW
variable {n z i len a b : Nat} {xf g : Nat → Int} {j5 j6 : xV} {r : xR} {c : xQ} {G : xG} {I : List Instr} {S : List xV} {H : xH} {f : xP}
theorem lw_out : xcell (lwH g a b r c) 2 0 = some (.inr (.inl (3, 1, g))) := rfl
theorem lw_isx : x_isc (lwH g a b r c) 0 0 11 = true := rfl
theorem lw_ism : x_isc (lwH g a b r c) 1 0 12 = true := rfl
theorem lw_sqe {a f : xP} {s t : xS} (h : a s = some (.inl 0, t)) : p_sq a f s = f t := by
  unfold p_sq
  rw [h]
theorem lw_sqo {l : List Instr} {s t : xS} (h : xIs x_dd G 2 l s = some t) : p_sq (p_ops x_dd G 2 l) f s = f t := lw_sqe (by unfold p_ops; rw [h]; rfl)
theorem lw_ial {k : Int} (h0 : 0 ≤ k) (h1 : k < len) : p_ial z len xf (lwL z i j5 j6, .inl k :: .inr (.inr (.inr (z + 3))) :: S, H) = some (.inl 0, (lwL z i j5 j6, .inl (xf k.toNat) :: S, H)) := by
  show (if z = z ∧ 0 ≤ k ∧ k < len then some (Sum.inl 0, (lwL z i j5 j6, Sum.inl (xf k.toNat) :: S, H)) else none) = _
  rw [if_pos ⟨rfl, h0, h1⟩]
theorem lw_sc {k : Int} (h0 : 0 ≤ k) (h4 : k ≤ 4) (hi : i + 5 ≤ len) (hl : len ≤ 2560) : p_sq (p_sc G z len xf k) f (lwL z i j5 j6, S, H) = f (lwL z i j5 j6, .inl (xf ((i : Int) + k).toNat) :: S, H) := by
  refine lw_sqe ?_
  unfold p_sc
  rw [lw_sqe (a := p_al0) (t := (lwL z i j5 j6, .inr (.inr (.inr (z + 3))) :: S, H)) rfl, lw_sqo (t := (lwL z i j5 j6, .inl (xw ((i : Int) + k)) :: .inr (.inr (.inr (z + 3))) :: S, H)) rfl, xw_id (by omega) (by omega)]
  exact lw_ial (by omega) (by omega)
theorem lw_sc0 (hi : i + 5 ≤ len) : p_sq (p_sc0 G z len xf) f (lwL z i j5 j6, S, H) = f (lwL z i j5 j6, .inl (xf (i : Int).toNat) :: S, H) := by
  refine lw_sqe ?_
  unfold p_sc0
  rw [lw_sqe (a := p_al0) (t := (lwL z i j5 j6, .inr (.inr (.inr (z + 3))) :: S, H)) rfl, lw_sqo (t := (lwL z i j5 j6, .inl (i : Int) :: .inr (.inr (.inr (z + 3))) :: S, H)) rfl]
  exact lw_ial (by omega) (by omega)
/-- what a case of the law does -/
def lwS (f : xP) (z i : Nat) : Prop := ∀ (j5 j6 : xV) (g : Nat → Int) (a b : Nat) (r : xR) (c : xQ), Rel r c → ∃ (j5' j6' : xV) (g' : Nat → Int) (a' b' : Nat) (r' : xR) (c' : xQ), Rel r' c' ∧ a' ≤ a + 1 ∧ b' ≤ b + 6 ∧
  f (lwL z i j5 j6, [], lwH g a b r c) = some (.inl 0, (lwL z i j5' j6', [], lwH g' a' b' r' c'))
theorem lw_if2 {v : Int} {L : List xV} : (p_if2 .eq p_no (p_br 0)) (L, [.inl v, .inl v], H) = some (.inl 0, (L, [], H)) := by
  show (if decide (v = v) = true then _ else _) = _
  rw [if_pos (decide_eq_true rfl)]
  rfl

theorem lw_a0 {q1 q2 : Nat} (h1 : q1 % 16 = 11) (h2 : q2 % 16 = 12) (a1 : (gg (n + 900) (q1 / 16)).1 = 1) (a2 : (gg (n + 900) (q2 / 16)).1 = 1) (hi : i + 5 ≤ len) (hl : len ≤ 2560) (hP : Par (q2 / 16) (q1 / 16) []) : lwS (p_sq (p_ops x_dd (gg (n + 900)) 2 [.aload 1, .invokevirtual q1, .aload 2, .invokevirtual q2]) (p_if2 .eq p_no (p_br 0))) z i := by
  intro j5 j6 g a b r c hr
  obtain ⟨v, r', c', e1, e2, hr'⟩ := hP.two hr n (hL g a b)
  refine ⟨j5, j6, g, a, b, r', c', hr', Nat.le_succ _, Nat.le_add_right _ _, ?_⟩
  have e1 : (gg (n + 900) (q1 / 16)).2 [.inr (.inr (.inl (0, 0)))] (lwH g a b r c) = some (some (.inl v), lwH g a b r c') := e1
  have e2 : (gg (n + 900) (q2 / 16)).2 [.inr (.inr (.inl (1, 0)))] (lwH g a b r c') = some (some (.inl v), lwH g a b r' c') := e2
  have i1 : ∀ I : List Instr, xIs x_dd (gg (n + 900)) 2 (.invokevirtual q1 :: I) (lwL z i j5 j6, [.inr (.inr (.inl (0, 0)))], lwH g a b r c) = xIs x_dd (gg (n + 900)) 2 I (lwL z i j5 j6, [.inl v], lwH g a b r c') := fun I => by
    rw [e_v1 a1 (by simp [xcat]) (by rw [h1]; exact lw_isx), e1]
    rfl
  have i2 : ∀ I : List Instr, xIs x_dd (gg (n + 900)) 2 (.invokevirtual q2 :: I) (lwL z i j5 j6, [.inr (.inr (.inl (1, 0))), .inl v], lwH g a b r c') = xIs x_dd (gg (n + 900)) 2 I (lwL z i j5 j6, [.inl v, .inl v], lwH g a b r' c') := fun I => by
    rw [e_v1 a2 (by simp [xcat]) (by rw [h2]; exact lw_ism), e2]
    rfl
  rw [lw_sqo (t := (lwL z i j5 j6, [.inl v, .inl v], lwH g a b r' c')), lw_if2]
  have s1 : ∀ I : List Instr, xIs x_dd (gg (n + 900)) 2 (.aload 1 :: I) (lwL z i j5 j6, [], lwH g a b r c) = xIs x_dd (gg (n + 900)) 2 I (lwL z i j5 j6, [.inr (.inr (.inl (0, 0)))], lwH g a b r c) := fun _ => rfl
  have s2 : ∀ I : List Instr, xIs x_dd (gg (n + 900)) 2 (.aload 2 :: I) (lwL z i j5 j6, [.inl v], lwH g a b r c') = xIs x_dd (gg (n + 900)) 2 I (lwL z i j5 j6, [.inr (.inr (.inl (1, 0))), .inl v], lwH g a b r c') := fun _ => rfl
  rw [s1, i1, s2, i2]
  rfl
theorem lw_a1 {q1 q2 : Nat} (h1 : q1 % 16 = 11) (h2 : q2 % 16 = 12) (a1 : (gg (n + 900) (q1 / 16)).1 = 2) (a2 : (gg (n + 900) (q2 / 16)).1 = 2) (hi : i + 5 ≤ len) (hl : len ≤ 2560) (hP : Par (q2 / 16) (q1 / 16) [.inl (xf ((i : Int) + 1).toNat)]) : lwS (p_sq (p_ops x_dd (gg (n + 900)) 2 [.aload 1]) (p_sq (p_sc (gg (n + 900)) z len xf 1) (p_sq (p_ops x_dd (gg (n + 900)) 2 [.invokevirtual q1, .aload 2]) (p_sq (p_sc (gg (n + 900)) z len xf 1) (p_sq (p_ops x_dd (gg (n + 900)) 2 [.invokevirtual q2]) (p_if2 .eq p_no (p_br 0))))))) z i := by
  intro j5 j6 g a b r c hr
  obtain ⟨v, r', c', e1, e2, hr'⟩ := hP.two hr n (hL g a b)
  refine ⟨j5, j6, g, a, b, r', c', hr', Nat.le_succ _, Nat.le_add_right _ _, ?_⟩
  have e1 : (gg (n + 900) (q1 / 16)).2 [.inr (.inr (.inl (0, 0))), .inl (xf ((i : Int) + 1).toNat)] (lwH g a b r c) = some (some (.inl v), lwH g a b r c') := e1
  have e2 : (gg (n + 900) (q2 / 16)).2 [.inr (.inr (.inl (1, 0))), .inl (xf ((i : Int) + 1).toNat)] (lwH g a b r c') = some (some (.inl v), lwH g a b r' c') := e2
  have i1 : ∀ I : List Instr, xIs x_dd (gg (n + 900)) 2 (.invokevirtual q1 :: I) (lwL z i j5 j6, [.inl (xf ((i : Int) + 1).toNat), .inr (.inr (.inl (0, 0)))], lwH g a b r c) = xIs x_dd (gg (n + 900)) 2 I (lwL z i j5 j6, [.inl v], lwH g a b r c') := fun I => by
    rw [e_v2 a1 (by simp [xcat]) (by rw [h1]; exact lw_isx), e1]
    rfl
  have i2 : ∀ I : List Instr, xIs x_dd (gg (n + 900)) 2 (.invokevirtual q2 :: I) (lwL z i j5 j6, [.inl (xf ((i : Int) + 1).toNat), .inr (.inr (.inl (1, 0))), .inl v], lwH g a b r c') = xIs x_dd (gg (n + 900)) 2 I (lwL z i j5 j6, [.inl v, .inl v], lwH g a b r' c') := fun I => by
    rw [e_v2 a2 (by simp [xcat]) (by rw [h2]; exact lw_ism), e2]
    rfl
  rw [lw_sqo (l := [.aload 1]) (t := (lwL z i j5 j6, [.inr (.inr (.inl (0, 0)))], lwH g a b r c)) rfl, lw_sc (by decide) (by decide) hi hl, lw_sqo (l := [.invokevirtual q1, .aload 2]) (t := (lwL z i j5 j6, [.inr (.inr (.inl (1, 0))), .inl v], lwH g a b r c')) (by rw [i1]; rfl), lw_sc (by decide) (by decide) hi hl, lw_sqo (l := [.invokevirtual q2]) (t := (lwL z i j5 j6, [.inl v, .inl v], lwH g a b r' c')) (by rw [i2]; rfl), lw_if2]
theorem lw_a2 {q1 q2 : Nat} (h1 : q1 % 16 = 11) (h2 : q2 % 16 = 12) (a1 : (gg (n + 900) (q1 / 16)).1 = 3) (a2 : (gg (n + 900) (q2 / 16)).1 = 3) (hi : i + 5 ≤ len) (hl : len ≤ 2560) (hP : Par (q2 / 16) (q1 / 16) [.inl (xf ((i : Int) + 1).toNat), .inl (xf ((i : Int) + 2).toNat)]) : lwS (p_sq (p_ops x_dd (gg (n + 900)) 2 [.aload 1]) (p_sq (p_sc (gg (n + 900)) z len xf 1) (p_sq (p_sc (gg (n + 900)) z len xf 2) (p_sq (p_ops x_dd (gg (n + 900)) 2 [.invokevirtual q1, .aload 2]) (p_sq (p_sc (gg (n + 900)) z len xf 1) (p_sq (p_sc (gg (n + 900)) z len xf 2) (p_sq (p_ops x_dd (gg (n + 900)) 2 [.invokevirtual q2]) (p_if2 .eq p_no (p_br 0))))))))) z i := by
  intro j5 j6 g a b r c hr
  obtain ⟨v, r', c', e1, e2, hr'⟩ := hP.two hr n (hL g a b)
  refine ⟨j5, j6, g, a, b, r', c', hr', Nat.le_succ _, Nat.le_add_right _ _, ?_⟩
  have e1 : (gg (n + 900) (q1 / 16)).2 [.inr (.inr (.inl (0, 0))), .inl (xf ((i : Int) + 1).toNat), .inl (xf ((i : Int) + 2).toNat)] (lwH g a b r c) = some (some (.inl v), lwH g a b r c') := e1
  have e2 : (gg (n + 900) (q2 / 16)).2 [.inr (.inr (.inl (1, 0))), .inl (xf ((i : Int) + 1).toNat), .inl (xf ((i : Int) + 2).toNat)] (lwH g a b r c') = some (some (.inl v), lwH g a b r' c') := e2
  have i1 : ∀ I : List Instr, xIs x_dd (gg (n + 900)) 2 (.invokevirtual q1 :: I) (lwL z i j5 j6, [.inl (xf ((i : Int) + 2).toNat), .inl (xf ((i : Int) + 1).toNat), .inr (.inr (.inl (0, 0)))], lwH g a b r c) = xIs x_dd (gg (n + 900)) 2 I (lwL z i j5 j6, [.inl v], lwH g a b r c') := fun I => by
    rw [e_v3 a1 (by simp [xcat]) (by rw [h1]; exact lw_isx), e1]
    rfl
  have i2 : ∀ I : List Instr, xIs x_dd (gg (n + 900)) 2 (.invokevirtual q2 :: I) (lwL z i j5 j6, [.inl (xf ((i : Int) + 2).toNat), .inl (xf ((i : Int) + 1).toNat), .inr (.inr (.inl (1, 0))), .inl v], lwH g a b r c') = xIs x_dd (gg (n + 900)) 2 I (lwL z i j5 j6, [.inl v, .inl v], lwH g a b r' c') := fun I => by
    rw [e_v3 a2 (by simp [xcat]) (by rw [h2]; exact lw_ism), e2]
    rfl
  rw [lw_sqo (l := [.aload 1]) (t := (lwL z i j5 j6, [.inr (.inr (.inl (0, 0)))], lwH g a b r c)) rfl, lw_sc (by decide) (by decide) hi hl, lw_sc (by decide) (by decide) hi hl, lw_sqo (l := [.invokevirtual q1, .aload 2]) (t := (lwL z i j5 j6, [.inr (.inr (.inl (1, 0))), .inl v], lwH g a b r c')) (by rw [i1]; rfl), lw_sc (by decide) (by decide) hi hl, lw_sc (by decide) (by decide) hi hl, lw_sqo (l := [.invokevirtual q2]) (t := (lwL z i j5 j6, [.inl v, .inl v], lwH g a b r' c')) (by rw [i2]; rfl), lw_if2]
theorem lw_a3 {q1 q2 : Nat} (h1 : q1 % 16 = 11) (h2 : q2 % 16 = 12) (a1 : (gg (n + 900) (q1 / 16)).1 = 4) (a2 : (gg (n + 900) (q2 / 16)).1 = 4) (hi : i + 5 ≤ len) (hl : len ≤ 2560) (hP : Par (q2 / 16) (q1 / 16) [.inl (xf ((i : Int) + 1).toNat), .inl (xf ((i : Int) + 2).toNat), .inl (xf ((i : Int) + 3).toNat)]) : lwS (p_sq (p_ops x_dd (gg (n + 900)) 2 [.aload 1]) (p_sq (p_sc (gg (n + 900)) z len xf 1) (p_sq (p_sc (gg (n + 900)) z len xf 2) (p_sq (p_sc (gg (n + 900)) z len xf 3) (p_sq (p_ops x_dd (gg (n + 900)) 2 [.invokevirtual q1, .aload 2]) (p_sq (p_sc (gg (n + 900)) z len xf 1) (p_sq (p_sc (gg (n + 900)) z len xf 2) (p_sq (p_sc (gg (n + 900)) z len xf 3) (p_sq (p_ops x_dd (gg (n + 900)) 2 [.invokevirtual q2]) (p_if2 .eq p_no (p_br 0))))))))))) z i := by
  intro j5 j6 g a b r c hr
  obtain ⟨v, r', c', e1, e2, hr'⟩ := hP.two hr n (hL g a b)
  refine ⟨j5, j6, g, a, b, r', c', hr', Nat.le_succ _, Nat.le_add_right _ _, ?_⟩
  have e1 : (gg (n + 900) (q1 / 16)).2 [.inr (.inr (.inl (0, 0))), .inl (xf ((i : Int) + 1).toNat), .inl (xf ((i : Int) + 2).toNat), .inl (xf ((i : Int) + 3).toNat)] (lwH g a b r c) = some (some (.inl v), lwH g a b r c') := e1
  have e2 : (gg (n + 900) (q2 / 16)).2 [.inr (.inr (.inl (1, 0))), .inl (xf ((i : Int) + 1).toNat), .inl (xf ((i : Int) + 2).toNat), .inl (xf ((i : Int) + 3).toNat)] (lwH g a b r c') = some (some (.inl v), lwH g a b r' c') := e2
  have i1 : ∀ I : List Instr, xIs x_dd (gg (n + 900)) 2 (.invokevirtual q1 :: I) (lwL z i j5 j6, [.inl (xf ((i : Int) + 3).toNat), .inl (xf ((i : Int) + 2).toNat), .inl (xf ((i : Int) + 1).toNat), .inr (.inr (.inl (0, 0)))], lwH g a b r c) = xIs x_dd (gg (n + 900)) 2 I (lwL z i j5 j6, [.inl v], lwH g a b r c') := fun I => by
    rw [e_v4 a1 (by simp [xcat]) (by rw [h1]; exact lw_isx), e1]
    rfl
  have i2 : ∀ I : List Instr, xIs x_dd (gg (n + 900)) 2 (.invokevirtual q2 :: I) (lwL z i j5 j6, [.inl (xf ((i : Int) + 3).toNat), .inl (xf ((i : Int) + 2).toNat), .inl (xf ((i : Int) + 1).toNat), .inr (.inr (.inl (1, 0))), .inl v], lwH g a b r c') = xIs x_dd (gg (n + 900)) 2 I (lwL z i j5 j6, [.inl v, .inl v], lwH g a b r' c') := fun I => by
    rw [e_v4 a2 (by simp [xcat]) (by rw [h2]; exact lw_ism), e2]
    rfl
  rw [lw_sqo (l := [.aload 1]) (t := (lwL z i j5 j6, [.inr (.inr (.inl (0, 0)))], lwH g a b r c)) rfl, lw_sc (by decide) (by decide) hi hl, lw_sc (by decide) (by decide) hi hl, lw_sc (by decide) (by decide) hi hl, lw_sqo (l := [.invokevirtual q1, .aload 2]) (t := (lwL z i j5 j6, [.inr (.inr (.inl (1, 0))), .inl v], lwH g a b r c')) (by rw [i1]; rfl), lw_sc (by decide) (by decide) hi hl, lw_sc (by decide) (by decide) hi hl, lw_sc (by decide) (by decide) hi hl, lw_sqo (l := [.invokevirtual q2]) (t := (lwL z i j5 j6, [.inl v, .inl v], lwH g a b r' c')) (by rw [i2]; rfl), lw_if2]
theorem lw_a4 {q1 q2 : Nat} (h1 : q1 % 16 = 11) (h2 : q2 % 16 = 12) (a1 : (gg (n + 900) (q1 / 16)).1 = 5) (a2 : (gg (n + 900) (q2 / 16)).1 = 5) (hi : i + 5 ≤ len) (hl : len ≤ 2560) (hP : Par (q2 / 16) (q1 / 16) [.inl (xf ((i : Int) + 1).toNat), .inl (xf ((i : Int) + 2).toNat), .inl (xf ((i : Int) + 3).toNat), .inl (xf ((i : Int) + 4).toNat)]) : lwS (p_sq (p_ops x_dd (gg (n + 900)) 2 [.aload 1]) (p_sq (p_sc (gg (n + 900)) z len xf 1) (p_sq (p_sc (gg (n + 900)) z len xf 2) (p_sq (p_sc (gg (n + 900)) z len xf 3) (p_sq (p_sc (gg (n + 900)) z len xf 4) (p_sq (p_ops x_dd (gg (n + 900)) 2 [.invokevirtual q1, .aload 2]) (p_sq (p_sc (gg (n + 900)) z len xf 1) (p_sq (p_sc (gg (n + 900)) z len xf 2) (p_sq (p_sc (gg (n + 900)) z len xf 3) (p_sq (p_sc (gg (n + 900)) z len xf 4) (p_sq (p_ops x_dd (gg (n + 900)) 2 [.invokevirtual q2]) (p_if2 .eq p_no (p_br 0))))))))))))) z i := by
  intro j5 j6 g a b r c hr
  obtain ⟨v, r', c', e1, e2, hr'⟩ := hP.two hr n (hL g a b)
  refine ⟨j5, j6, g, a, b, r', c', hr', Nat.le_succ _, Nat.le_add_right _ _, ?_⟩
  have e1 : (gg (n + 900) (q1 / 16)).2 [.inr (.inr (.inl (0, 0))), .inl (xf ((i : Int) + 1).toNat), .inl (xf ((i : Int) + 2).toNat), .inl (xf ((i : Int) + 3).toNat), .inl (xf ((i : Int) + 4).toNat)] (lwH g a b r c) = some (some (.inl v), lwH g a b r c') := e1
  have e2 : (gg (n + 900) (q2 / 16)).2 [.inr (.inr (.inl (1, 0))), .inl (xf ((i : Int) + 1).toNat), .inl (xf ((i : Int) + 2).toNat), .inl (xf ((i : Int) + 3).toNat), .inl (xf ((i : Int) + 4).toNat)] (lwH g a b r c') = some (some (.inl v), lwH g a b r' c') := e2
  have i1 : ∀ I : List Instr, xIs x_dd (gg (n + 900)) 2 (.invokevirtual q1 :: I) (lwL z i j5 j6, [.inl (xf ((i : Int) + 4).toNat), .inl (xf ((i : Int) + 3).toNat), .inl (xf ((i : Int) + 2).toNat), .inl (xf ((i : Int) + 1).toNat), .inr (.inr (.inl (0, 0)))], lwH g a b r c) = xIs x_dd (gg (n + 900)) 2 I (lwL z i j5 j6, [.inl v], lwH g a b r c') := fun I => by
    rw [e_v5 a1 (by simp [xcat]) (by rw [h1]; exact lw_isx), e1]
    rfl
  have i2 : ∀ I : List Instr, xIs x_dd (gg (n + 900)) 2 (.invokevirtual q2 :: I) (lwL z i j5 j6, [.inl (xf ((i : Int) + 4).toNat), .inl (xf ((i : Int) + 3).toNat), .inl (xf ((i : Int) + 2).toNat), .inl (xf ((i : Int) + 1).toNat), .inr (.inr (.inl (1, 0))), .inl v], lwH g a b r c') = xIs x_dd (gg (n + 900)) 2 I (lwL z i j5 j6, [.inl v, .inl v], lwH g a b r' c') := fun I => by
    rw [e_v5 a2 (by simp [xcat]) (by rw [h2]; exact lw_ism), e2]
    rfl
  rw [lw_sqo (l := [.aload 1]) (t := (lwL z i j5 j6, [.inr (.inr (.inl (0, 0)))], lwH g a b r c)) rfl, lw_sc (by decide) (by decide) hi hl, lw_sc (by decide) (by decide) hi hl, lw_sc (by decide) (by decide) hi hl, lw_sc (by decide) (by decide) hi hl, lw_sqo (l := [.invokevirtual q1, .aload 2]) (t := (lwL z i j5 j6, [.inr (.inr (.inl (1, 0))), .inl v], lwH g a b r c')) (by rw [i1]; rfl), lw_sc (by decide) (by decide) hi hl, lw_sc (by decide) (by decide) hi hl, lw_sc (by decide) (by decide) hi hl, lw_sc (by decide) (by decide) hi hl, lw_sqo (l := [.invokevirtual q2]) (t := (lwL z i j5 j6, [.inl v, .inl v], lwH g a b r' c')) (by rw [i2]; rfl), lw_if2]
theorem lw_thr : (gg (n + 900) 170).2 [.inr (.inr (.inl (1, 0)))] (lwH g a b r c) = some (some (.inl (r.1 11)), lwH g a b r c) := r_thrown
/-- behind the helper: thrown, and what the law makes of it -/
theorem lw_h0 {k v : Int} (h : k = 1 ∨ (k = 0 ∧ g 0 = v)) : (p_if2 .eq p_no (p_sq (p_ops x_dd G 2 [.iload 5]) (p_if1 .ne (p_sq (p_ops x_dd G 2 [.aload 3, .iconst 0, .laload, .iload 6, .i2l, .lcmp]) (p_if1 .eq p_no (p_br 0))) (p_br 0)))) (lwL z i (.inl k) (.inl v), [.inl k, .inl k], lwH g a b r c) = some (.inl 0, (lwL z i (.inl k) (.inl v), [], lwH g a b r c)) := by
  have e0 : (p_if2 .eq p_no (p_sq (p_ops x_dd G 2 [.iload 5]) (p_if1 .ne (p_sq (p_ops x_dd G 2 [.aload 3, .iconst 0, .laload, .iload 6, .i2l, .lcmp]) (p_if1 .eq p_no (p_br 0))) (p_br 0)))) (lwL z i (.inl k) (.inl v), [.inl k, .inl k], lwH g a b r c) = (p_if1 .ne (p_sq (p_ops x_dd G 2 [.aload 3, .iconst 0, .laload, .iload 6, .i2l, .lcmp]) (p_if1 .eq p_no (p_br 0))) (p_br 0)) (lwL z i (.inl k) (.inl v), [.inl k], lwH g a b r c) := by
    show (if decide (k = k) = true then (p_sq (p_ops x_dd G 2 [.iload 5]) _) (lwL z i (.inl k) (.inl v), [], lwH g a b r c) else _) = _
    rw [if_pos (decide_eq_true rfl)]
    exact lw_sqo rfl
  rw [e0]
  rcases h with rfl | ⟨rfl, h⟩
  · rfl
  · show (p_sq (p_ops x_dd G 2 [.aload 3, .iconst 0, .laload, .iload 6, .i2l, .lcmp]) (p_if1 .eq p_no (p_br 0))) (lwL z i (.inl 0) (.inl v), [], lwH g a b r c) = _
    rw [lw_sqo (t := (lwL z i (.inl 0) (.inl v), [.inl 0], lwH g a b r c))]
    · rfl
    · have s3 : ∀ I : List Instr, xIs x_dd G 2 (.aload 3 :: I) (lwL z i (.inl 0) (.inl v), [], lwH g a b r c) = xIs x_dd G 2 I (lwL z i (.inl 0) (.inl v), [.inr (.inr (.inl (2, 0)))], lwH g a b r c) := fun _ => rfl
      rw [s3, e_iconst, e_laload lw_out (Int.le_refl 0) (by decide)]
      show (some (lwL z i (.inl 0) (.inl v), ([.inl (if v < g 0 then 1 else if g 0 = v then 0 else -1)] : List xV), lwH g a b r c) : Option xS) = _
      rw [h, if_neg (Int.lt_irrefl _), if_pos rfl]
theorem lw_sqh {P : List xV → xH → Option (Option xV × xH)} {m : Nat} {s t : xS} (h : x_call m P s = some t) : p_sq (p_hc m P) f s = f t := lw_sqe (by unfold p_hc; rw [h]; rfl)
theorem lw_t5 {k v : Int} {r' : xR} (hi : i + 5 ≤ len) (hl : len ≤ 2560) (e2 : (gg (n + 900) 200).2 [.inr (.inr (.inl (1, 0))), .inl (xf ((i : Int) + 1).toNat), .inl (xf ((i : Int) + 2).toNat)] (lwH g a b r c) = some (some (.inl v), lwH g a b r' c)) (hk : r'.1 11 = k) (h : k = 1 ∨ (k = 0 ∧ g 0 = v)) :
    (p_sq (p_ops x_dd (gg (n + 900)) 2 [.istore 5, .aload 2]) (p_sq (p_sc (gg (n + 900)) z len xf 1) (p_sq (p_sc (gg (n + 900)) z len xf 2) (p_sq (p_ops x_dd (gg (n + 900)) 2 [.invokevirtual 3212, .istore 6, .aload 2, .invokevirtual 2732, .iload 5]) (p_if2 .eq p_no (p_sq (p_ops x_dd (gg (n + 900)) 2 [.iload 5]) (p_if1 .ne (p_sq (p_ops x_dd (gg (n + 900)) 2 [.aload 3, .iconst 0, .laload, .iload 6, .i2l, .lcmp]) (p_if1 .eq p_no (p_br 0))) (p_br 0)))))))) (lwL z i j5 j6, [.inl k], lwH g a b r c) = some (.inl 0, (lwL z i (.inl k) (.inl v), [], lwH g a b r' c)) := by
  have i2 : ∀ I : List Instr, xIs x_dd (gg (n + 900)) 2 (.invokevirtual 3212 :: I) (lwL z i (.inl k) j6, [.inl (xf ((i : Int) + 2).toNat), .inl (xf ((i : Int) + 1).toNat), .inr (.inr (.inl (1, 0)))], lwH g a b r c) = xIs x_dd (gg (n + 900)) 2 I (lwL z i (.inl k) j6, [.inl v], lwH g a b r' c) := fun I => by
    rw [ec200 (by simp [xcat]) lw_ism, e2]
    rfl
  have s6 : ∀ I : List Instr, xIs x_dd (gg (n + 900)) 2 (.istore 6 :: .aload 2 :: I) (lwL z i (.inl k) j6, [.inl v], lwH g a b r' c) = xIs x_dd (gg (n + 900)) 2 I (lwL z i (.inl k) (.inl v), [.inr (.inr (.inl (1, 0)))], lwH g a b r' c) := fun _ => rfl
  have i3 : ∀ I : List Instr, xIs x_dd (gg (n + 900)) 2 (.invokevirtual 2732 :: I) (lwL z i (.inl k) (.inl v), [.inr (.inr (.inl (1, 0)))], lwH g a b r' c) = xIs x_dd (gg (n + 900)) 2 I (lwL z i (.inl k) (.inl v), [.inl k], lwH g a b r' c) := fun I => by
    rw [ec170 (by simp [xcat]) lw_ism, lw_thr, hk]
    rfl
  rw [lw_sqo (l := [.istore 5, .aload 2]) (t := (lwL z i (.inl k) j6, [.inr (.inr (.inl (1, 0)))], lwH g a b r c)) rfl, lw_sc (by decide) (by decide) hi hl, lw_sc (by decide) (by decide) hi hl, lw_sqo (l := [.invokevirtual 3212, .istore 6, .aload 2, .invokevirtual 2732, .iload 5]) (t := (lwL z i (.inl k) (.inl v), [.inl k, .inl k], lwH g a b r' c)) (by rw [i2, s6, i3]; rfl), lw_h0 h]
theorem lw_s5 (hi : i + 5 ≤ len) (hl : len ≤ 2560) : lwS (lw_c5 (n + 899) (gg (n + 900)) z len xf) z i := by
  intro j5 j6 g a b r c hr
  have hP := P_boat (xf ((i : Int) + 1).toNat) (xf ((i : Int) + 2).toNat)
  unfold lw_c5
  rw [lw_sqo (l := [.aload 1]) (t := (lwL z i j5 j6, [.inr (.inr (.inl (0, 0)))], lwH g a b r c)) rfl, lw_sc (by decide) (by decide) hi hl, lw_sc (by decide) (by decide) hi hl, lw_sqo (l := [.aload 3]) (t := (lwL z i j5 j6, [.inr (.inr (.inl (2, 0))), .inl (xf ((i : Int) + 2).toNat), .inl (xf ((i : Int) + 1).toNat), .inr (.inr (.inl (0, 0)))], lwH g a b r c)) rfl]
  obtain ⟨v0, r0, L0, -, -, h0⟩ := hP n (hC (hL g a b) c) (hR (hL g a b) r) r c hr
  rcases h0 with ⟨-, f0⟩ | ⟨-, k0, hk0, f0⟩
  · obtain ⟨v1, r1, L1, e1, hr1, h1⟩ := hP n (hC (hL (xfu g 0 v0) a b) c) (hR (hL g a b) r) r c hr
    rcases h1 with ⟨h11, f1⟩ | ⟨-, k1, -, f1⟩
    · rw [f0] at f1
      have zv : v0 = v1 := Sum.inl.inj (Option.some.inj (Sum.inr.inj (congrArg Prod.fst (Option.some.inj f1))))
      subst zv
      refine ⟨.inl 0, .inl v0, xfu g 0 v0, a, b, r1, c, hr1, Nat.le_succ _, Nat.le_add_right _ _, ?_⟩
      have hh : h_boat (n + 899) [.inr (.inr (.inl (0, 0))), .inl (xf ((i : Int) + 1).toNat), .inl (xf ((i : Int) + 2).toNat), .inr (.inr (.inl (2, 0)))] (lwH g a b r c) = some (some (.inl 0), lwH (xfu g 0 v0) a b r c) := by
        unfold h_boat h_P3
        have f0 : fX11_boat (gg (n + 899)) ([.inr (.inr (.inl (0, 0))), .inl (xf ((i : Int) + 1).toNat), .inl (xf ((i : Int) + 2).toNat), .inr (.inr (.inr 2))], [], lwH g a b r c) = some (.inr (some (.inl v0)), (L0, [], lwH g a b r c)) := f0
        simp only [lw_isx, if_true, f0, lw_out]
        rfl
      have hc : x_call 4 (h_boat (n + 899)) (lwL z i j5 j6, [.inr (.inr (.inl (2, 0))), .inl (xf ((i : Int) + 2).toNat), .inl (xf ((i : Int) + 1).toNat), .inr (.inr (.inl (0, 0)))], lwH g a b r c) = some (lwL z i j5 j6, [.inl 0], lwH (xfu g 0 v0) a b r c) := by
        unfold x_call
        rw [if_pos ⟨by simp, by simp⟩]
        show (match h_boat (n + 899) [.inr (.inr (.inl (0, 0))), .inl (xf ((i : Int) + 1).toNat), .inl (xf ((i : Int) + 2).toNat), .inr (.inr (.inl (2, 0)))] (lwH g a b r c) with
          | some (r, H) => some (lwL z i j5 j6, r.toList ++ [], H)
          | none => none) = _
        rw [hh]
        rfl
      rw [lw_sqh hc]
      exact lw_t5 hi hl e1 h11 (Or.inr ⟨rfl, by simp [xfu]⟩)
    · rw [f0] at f1
      cases f1
  · obtain ⟨v1, r1, L1, e1, hr1, h1⟩ := hP n (hC (hL g (a + 1) (b + 6)) c) (hR (hL g a b) r) r c hr
    rcases h1 with ⟨-, f1⟩ | ⟨h11, k1, hk1, f1⟩
    · rw [f0] at f1
      cases f1
    · refine ⟨.inl 1, .inl v1, g, a + 1, b + 6, r1, c, hr1, Nat.le_refl _, Nat.le_refl _, ?_⟩
      have hh : h_boat (n + 899) [.inr (.inr (.inl (0, 0))), .inl (xf ((i : Int) + 1).toNat), .inl (xf ((i : Int) + 2).toNat), .inr (.inr (.inl (2, 0)))] (lwH g a b r c) = some (some (.inl 1), lwH g (a + 1) (b + 6) r c) := by
        unfold h_boat h_P3
        have f0 : fX11_boat (gg (n + 899)) ([.inr (.inr (.inl (0, 0))), .inl (xf ((i : Int) + 1).toNat), .inl (xf ((i : Int) + 2).toNat), .inr (.inr (.inr 2))], [], lwH g a b r c) = some (.inl (k0 + 1), (L0, [], lwH g a b r c)) := f0
        simp only [lw_isx, if_true, f0, if_pos hk0]
        rfl
      have hc : x_call 4 (h_boat (n + 899)) (lwL z i j5 j6, [.inr (.inr (.inl (2, 0))), .inl (xf ((i : Int) + 2).toNat), .inl (xf ((i : Int) + 1).toNat), .inr (.inr (.inl (0, 0)))], lwH g a b r c) = some (lwL z i j5 j6, [.inl 1], lwH g (a + 1) (b + 6) r c) := by
        unfold x_call
        rw [if_pos ⟨by simp, by simp⟩]
        show (match h_boat (n + 899) [.inr (.inr (.inl (0, 0))), .inl (xf ((i : Int) + 1).toNat), .inl (xf ((i : Int) + 2).toNat), .inr (.inr (.inl (2, 0)))] (lwH g a b r c) with
          | some (r, H) => some (lwL z i j5 j6, r.toList ++ [], H)
          | none => none) = _
        rw [hh]
        rfl
      rw [lw_sqh hc]
      exact lw_t5 hi hl e1 h11 (Or.inl rfl)
theorem lw_t6 {k v : Int} {r' : xR} (hi : i + 5 ≤ len) (hl : len ≤ 2560) (e2 : (gg (n + 900) 201).2 [.inr (.inr (.inl (1, 0))), .inl (xf ((i : Int) + 1).toNat), .inl (xf ((i : Int) + 2).toNat)] (lwH g a b r c) = some (some (.inl v), lwH g a b r' c)) (hk : r'.1 11 = k) (h : k = 1 ∨ (k = 0 ∧ g 0 = v)) :
    (p_sq (p_ops x_dd (gg (n + 900)) 2 [.istore 5, .aload 2]) (p_sq (p_sc (gg (n + 900)) z len xf 1) (p_sq (p_sc (gg (n + 900)) z len xf 2) (p_sq (p_ops x_dd (gg (n + 900)) 2 [.invokevirtual 3228, .istore 6, .aload 2, .invokevirtual 2732, .iload 5]) (p_if2 .eq p_no (p_sq (p_ops x_dd (gg (n + 900)) 2 [.iload 5]) (p_if1 .ne (p_sq (p_ops x_dd (gg (n + 900)) 2 [.aload 3, .iconst 0, .laload, .iload 6, .i2l, .lcmp]) (p_if1 .eq p_no (p_br 0))) (p_br 0)))))))) (lwL z i j5 j6, [.inl k], lwH g a b r c) = some (.inl 0, (lwL z i (.inl k) (.inl v), [], lwH g a b r' c)) := by
  have i2 : ∀ I : List Instr, xIs x_dd (gg (n + 900)) 2 (.invokevirtual 3228 :: I) (lwL z i (.inl k) j6, [.inl (xf ((i : Int) + 2).toNat), .inl (xf ((i : Int) + 1).toNat), .inr (.inr (.inl (1, 0)))], lwH g a b r c) = xIs x_dd (gg (n + 900)) 2 I (lwL z i (.inl k) j6, [.inl v], lwH g a b r' c) := fun I => by
    rw [ec201 (by simp [xcat]) lw_ism, e2]
    rfl
  have s6 : ∀ I : List Instr, xIs x_dd (gg (n + 900)) 2 (.istore 6 :: .aload 2 :: I) (lwL z i (.inl k) j6, [.inl v], lwH g a b r' c) = xIs x_dd (gg (n + 900)) 2 I (lwL z i (.inl k) (.inl v), [.inr (.inr (.inl (1, 0)))], lwH g a b r' c) := fun _ => rfl
  have i3 : ∀ I : List Instr, xIs x_dd (gg (n + 900)) 2 (.invokevirtual 2732 :: I) (lwL z i (.inl k) (.inl v), [.inr (.inr (.inl (1, 0)))], lwH g a b r' c) = xIs x_dd (gg (n + 900)) 2 I (lwL z i (.inl k) (.inl v), [.inl k], lwH g a b r' c) := fun I => by
    rw [ec170 (by simp [xcat]) lw_ism, lw_thr, hk]
    rfl
  rw [lw_sqo (l := [.istore 5, .aload 2]) (t := (lwL z i (.inl k) j6, [.inr (.inr (.inl (1, 0)))], lwH g a b r c)) rfl, lw_sc (by decide) (by decide) hi hl, lw_sc (by decide) (by decide) hi hl, lw_sqo (l := [.invokevirtual 3228, .istore 6, .aload 2, .invokevirtual 2732, .iload 5]) (t := (lwL z i (.inl k) (.inl v), [.inl k, .inl k], lwH g a b r' c)) (by rw [i2, s6, i3]; rfl), lw_h0 h]
theorem lw_s6 (hi : i + 5 ≤ len) (hl : len ≤ 2560) : lwS (lw_c6 (n + 899) (gg (n + 900)) z len xf) z i := by
  intro j5 j6 g a b r c hr
  have hP := P_gull (xf ((i : Int) + 1).toNat) (xf ((i : Int) + 2).toNat)
  unfold lw_c6
  rw [lw_sqo (l := [.aload 1]) (t := (lwL z i j5 j6, [.inr (.inr (.inl (0, 0)))], lwH g a b r c)) rfl, lw_sc (by decide) (by decide) hi hl, lw_sc (by decide) (by decide) hi hl, lw_sqo (l := [.aload 3]) (t := (lwL z i j5 j6, [.inr (.inr (.inl (2, 0))), .inl (xf ((i : Int) + 2).toNat), .inl (xf ((i : Int) + 1).toNat), .inr (.inr (.inl (0, 0)))], lwH g a b r c)) rfl]
  obtain ⟨v0, r0, L0, -, -, h0⟩ := hP n (hC (hL g a b) c) (hR (hL g a b) r) r c hr
  rcases h0 with ⟨-, f0⟩ | ⟨-, k0, hk0, f0⟩
  · obtain ⟨v1, r1, L1, e1, hr1, h1⟩ := hP n (hC (hL (xfu g 0 v0) a b) c) (hR (hL g a b) r) r c hr
    rcases h1 with ⟨h11, f1⟩ | ⟨-, k1, -, f1⟩
    · rw [f0] at f1
      have zv : v0 = v1 := Sum.inl.inj (Option.some.inj (Sum.inr.inj (congrArg Prod.fst (Option.some.inj f1))))
      subst zv
      refine ⟨.inl 0, .inl v0, xfu g 0 v0, a, b, r1, c, hr1, Nat.le_succ _, Nat.le_add_right _ _, ?_⟩
      have hh : h_gull (n + 899) [.inr (.inr (.inl (0, 0))), .inl (xf ((i : Int) + 1).toNat), .inl (xf ((i : Int) + 2).toNat), .inr (.inr (.inl (2, 0)))] (lwH g a b r c) = some (some (.inl 0), lwH (xfu g 0 v0) a b r c) := by
        unfold h_gull h_P3
        have f0 : fX11_gull (gg (n + 899)) ([.inr (.inr (.inl (0, 0))), .inl (xf ((i : Int) + 1).toNat), .inl (xf ((i : Int) + 2).toNat), .inr (.inr (.inr 2))], [], lwH g a b r c) = some (.inr (some (.inl v0)), (L0, [], lwH g a b r c)) := f0
        simp only [lw_isx, if_true, f0, lw_out]
        rfl
      have hc : x_call 4 (h_gull (n + 899)) (lwL z i j5 j6, [.inr (.inr (.inl (2, 0))), .inl (xf ((i : Int) + 2).toNat), .inl (xf ((i : Int) + 1).toNat), .inr (.inr (.inl (0, 0)))], lwH g a b r c) = some (lwL z i j5 j6, [.inl 0], lwH (xfu g 0 v0) a b r c) := by
        unfold x_call
        rw [if_pos ⟨by simp, by simp⟩]
        show (match h_gull (n + 899) [.inr (.inr (.inl (0, 0))), .inl (xf ((i : Int) + 1).toNat), .inl (xf ((i : Int) + 2).toNat), .inr (.inr (.inl (2, 0)))] (lwH g a b r c) with
          | some (r, H) => some (lwL z i j5 j6, r.toList ++ [], H)
          | none => none) = _
        rw [hh]
        rfl
      rw [lw_sqh hc]
      exact lw_t6 hi hl e1 h11 (Or.inr ⟨rfl, by simp [xfu]⟩)
    · rw [f0] at f1
      cases f1
  · obtain ⟨v1, r1, L1, e1, hr1, h1⟩ := hP n (hC (hL g (a + 1) (b + 6)) c) (hR (hL g a b) r) r c hr
    rcases h1 with ⟨-, f1⟩ | ⟨h11, k1, hk1, f1⟩
    · rw [f0] at f1
      cases f1
    · refine ⟨.inl 1, .inl v1, g, a + 1, b + 6, r1, c, hr1, Nat.le_refl _, Nat.le_refl _, ?_⟩
      have hh : h_gull (n + 899) [.inr (.inr (.inl (0, 0))), .inl (xf ((i : Int) + 1).toNat), .inl (xf ((i : Int) + 2).toNat), .inr (.inr (.inl (2, 0)))] (lwH g a b r c) = some (some (.inl 1), lwH g (a + 1) (b + 6) r c) := by
        unfold h_gull h_P3
        have f0 : fX11_gull (gg (n + 899)) ([.inr (.inr (.inl (0, 0))), .inl (xf ((i : Int) + 1).toNat), .inl (xf ((i : Int) + 2).toNat), .inr (.inr (.inr 2))], [], lwH g a b r c) = some (.inl (k0 + 1), (L0, [], lwH g a b r c)) := f0
        simp only [lw_isx, if_true, f0, if_pos hk0]
        rfl
      have hc : x_call 4 (h_gull (n + 899)) (lwL z i j5 j6, [.inr (.inr (.inl (2, 0))), .inl (xf ((i : Int) + 2).toNat), .inl (xf ((i : Int) + 1).toNat), .inr (.inr (.inl (0, 0)))], lwH g a b r c) = some (lwL z i j5 j6, [.inl 1], lwH g (a + 1) (b + 6) r c) := by
        unfold x_call
        rw [if_pos ⟨by simp, by simp⟩]
        show (match h_gull (n + 899) [.inr (.inr (.inl (0, 0))), .inl (xf ((i : Int) + 1).toNat), .inl (xf ((i : Int) + 2).toNat), .inr (.inr (.inl (2, 0)))] (lwH g a b r c) with
          | some (r, H) => some (lwL z i j5 j6, r.toList ++ [], H)
          | none => none) = _
        rw [hh]
        rfl
      rw [lw_sqh hc]
      exact lw_t6 hi hl e1 h11 (Or.inl rfl)
theorem lw_t7 {k v : Int} {r' : xR} (hi : i + 5 ≤ len) (hl : len ≤ 2560) (e2 : (gg (n + 900) 202).2 [.inr (.inr (.inl (1, 0))), .inl (xf ((i : Int) + 1).toNat), .inl (xf ((i : Int) + 2).toNat)] (lwH g a b r c) = some (some (.inl v), lwH g a b r' c)) (hk : r'.1 11 = k) (h : k = 1 ∨ (k = 0 ∧ g 0 = v)) :
    (p_sq (p_ops x_dd (gg (n + 900)) 2 [.istore 5, .aload 2]) (p_sq (p_sc (gg (n + 900)) z len xf 1) (p_sq (p_sc (gg (n + 900)) z len xf 2) (p_sq (p_ops x_dd (gg (n + 900)) 2 [.invokevirtual 3244, .istore 6, .aload 2, .invokevirtual 2732, .iload 5]) (p_if2 .eq p_no (p_sq (p_ops x_dd (gg (n + 900)) 2 [.iload 5]) (p_if1 .ne (p_sq (p_ops x_dd (gg (n + 900)) 2 [.aload 3, .iconst 0, .laload, .iload 6, .i2l, .lcmp]) (p_if1 .eq p_no (p_br 0))) (p_br 0)))))))) (lwL z i j5 j6, [.inl k], lwH g a b r c) = some (.inl 0, (lwL z i (.inl k) (.inl v), [], lwH g a b r' c)) := by
  have i2 : ∀ I : List Instr, xIs x_dd (gg (n + 900)) 2 (.invokevirtual 3244 :: I) (lwL z i (.inl k) j6, [.inl (xf ((i : Int) + 2).toNat), .inl (xf ((i : Int) + 1).toNat), .inr (.inr (.inl (1, 0)))], lwH g a b r c) = xIs x_dd (gg (n + 900)) 2 I (lwL z i (.inl k) j6, [.inl v], lwH g a b r' c) := fun I => by
    rw [ec202 (by simp [xcat]) lw_ism, e2]
    rfl
  have s6 : ∀ I : List Instr, xIs x_dd (gg (n + 900)) 2 (.istore 6 :: .aload 2 :: I) (lwL z i (.inl k) j6, [.inl v], lwH g a b r' c) = xIs x_dd (gg (n + 900)) 2 I (lwL z i (.inl k) (.inl v), [.inr (.inr (.inl (1, 0)))], lwH g a b r' c) := fun _ => rfl
  have i3 : ∀ I : List Instr, xIs x_dd (gg (n + 900)) 2 (.invokevirtual 2732 :: I) (lwL z i (.inl k) (.inl v), [.inr (.inr (.inl (1, 0)))], lwH g a b r' c) = xIs x_dd (gg (n + 900)) 2 I (lwL z i (.inl k) (.inl v), [.inl k], lwH g a b r' c) := fun I => by
    rw [ec170 (by simp [xcat]) lw_ism, lw_thr, hk]
    rfl
  rw [lw_sqo (l := [.istore 5, .aload 2]) (t := (lwL z i (.inl k) j6, [.inr (.inr (.inl (1, 0)))], lwH g a b r c)) rfl, lw_sc (by decide) (by decide) hi hl, lw_sc (by decide) (by decide) hi hl, lw_sqo (l := [.invokevirtual 3244, .istore 6, .aload 2, .invokevirtual 2732, .iload 5]) (t := (lwL z i (.inl k) (.inl v), [.inl k, .inl k], lwH g a b r' c)) (by rw [i2, s6, i3]; rfl), lw_h0 h]
theorem lw_s7 (hi : i + 5 ≤ len) (hl : len ≤ 2560) : lwS (lw_c7 (n + 899) (gg (n + 900)) z len xf) z i := by
  intro j5 j6 g a b r c hr
  have hP := P_letter (xf ((i : Int) + 1).toNat) (xf ((i : Int) + 2).toNat)
  unfold lw_c7
  rw [lw_sqo (l := [.aload 1]) (t := (lwL z i j5 j6, [.inr (.inr (.inl (0, 0)))], lwH g a b r c)) rfl, lw_sc (by decide) (by decide) hi hl, lw_sc (by decide) (by decide) hi hl, lw_sqo (l := [.aload 3]) (t := (lwL z i j5 j6, [.inr (.inr (.inl (2, 0))), .inl (xf ((i : Int) + 2).toNat), .inl (xf ((i : Int) + 1).toNat), .inr (.inr (.inl (0, 0)))], lwH g a b r c)) rfl]
  obtain ⟨v0, r0, L0, -, -, h0⟩ := hP n (hC (hL g a b) c) (hR (hL g a b) r) r c hr
  rcases h0 with ⟨-, f0⟩ | ⟨-, k0, hk0, f0⟩
  · obtain ⟨v1, r1, L1, e1, hr1, h1⟩ := hP n (hC (hL (xfu g 0 v0) a b) c) (hR (hL g a b) r) r c hr
    rcases h1 with ⟨h11, f1⟩ | ⟨-, k1, -, f1⟩
    · rw [f0] at f1
      have zv : v0 = v1 := Sum.inl.inj (Option.some.inj (Sum.inr.inj (congrArg Prod.fst (Option.some.inj f1))))
      subst zv
      refine ⟨.inl 0, .inl v0, xfu g 0 v0, a, b, r1, c, hr1, Nat.le_succ _, Nat.le_add_right _ _, ?_⟩
      have hh : h_letter (n + 899) [.inr (.inr (.inl (0, 0))), .inl (xf ((i : Int) + 1).toNat), .inl (xf ((i : Int) + 2).toNat), .inr (.inr (.inl (2, 0)))] (lwH g a b r c) = some (some (.inl 0), lwH (xfu g 0 v0) a b r c) := by
        unfold h_letter h_P3
        have f0 : fX11_letter (gg (n + 899)) ([.inr (.inr (.inl (0, 0))), .inl (xf ((i : Int) + 1).toNat), .inl (xf ((i : Int) + 2).toNat), .inr (.inr (.inr 2))], [], lwH g a b r c) = some (.inr (some (.inl v0)), (L0, [], lwH g a b r c)) := f0
        simp only [lw_isx, if_true, f0, lw_out]
        rfl
      have hc : x_call 4 (h_letter (n + 899)) (lwL z i j5 j6, [.inr (.inr (.inl (2, 0))), .inl (xf ((i : Int) + 2).toNat), .inl (xf ((i : Int) + 1).toNat), .inr (.inr (.inl (0, 0)))], lwH g a b r c) = some (lwL z i j5 j6, [.inl 0], lwH (xfu g 0 v0) a b r c) := by
        unfold x_call
        rw [if_pos ⟨by simp, by simp⟩]
        show (match h_letter (n + 899) [.inr (.inr (.inl (0, 0))), .inl (xf ((i : Int) + 1).toNat), .inl (xf ((i : Int) + 2).toNat), .inr (.inr (.inl (2, 0)))] (lwH g a b r c) with
          | some (r, H) => some (lwL z i j5 j6, r.toList ++ [], H)
          | none => none) = _
        rw [hh]
        rfl
      rw [lw_sqh hc]
      exact lw_t7 hi hl e1 h11 (Or.inr ⟨rfl, by simp [xfu]⟩)
    · rw [f0] at f1
      cases f1
  · obtain ⟨v1, r1, L1, e1, hr1, h1⟩ := hP n (hC (hL g (a + 1) (b + 6)) c) (hR (hL g a b) r) r c hr
    rcases h1 with ⟨-, f1⟩ | ⟨h11, k1, hk1, f1⟩
    · rw [f0] at f1
      cases f1
    · refine ⟨.inl 1, .inl v1, g, a + 1, b + 6, r1, c, hr1, Nat.le_refl _, Nat.le_refl _, ?_⟩
      have hh : h_letter (n + 899) [.inr (.inr (.inl (0, 0))), .inl (xf ((i : Int) + 1).toNat), .inl (xf ((i : Int) + 2).toNat), .inr (.inr (.inl (2, 0)))] (lwH g a b r c) = some (some (.inl 1), lwH g (a + 1) (b + 6) r c) := by
        unfold h_letter h_P3
        have f0 : fX11_letter (gg (n + 899)) ([.inr (.inr (.inl (0, 0))), .inl (xf ((i : Int) + 1).toNat), .inl (xf ((i : Int) + 2).toNat), .inr (.inr (.inr 2))], [], lwH g a b r c) = some (.inl (k0 + 1), (L0, [], lwH g a b r c)) := f0
        simp only [lw_isx, if_true, f0, if_pos hk0]
        rfl
      have hc : x_call 4 (h_letter (n + 899)) (lwL z i j5 j6, [.inr (.inr (.inl (2, 0))), .inl (xf ((i : Int) + 2).toNat), .inl (xf ((i : Int) + 1).toNat), .inr (.inr (.inl (0, 0)))], lwH g a b r c) = some (lwL z i j5 j6, [.inl 1], lwH g (a + 1) (b + 6) r c) := by
        unfold x_call
        rw [if_pos ⟨by simp, by simp⟩]
        show (match h_letter (n + 899) [.inr (.inr (.inl (0, 0))), .inl (xf ((i : Int) + 1).toNat), .inl (xf ((i : Int) + 2).toNat), .inr (.inr (.inl (2, 0)))] (lwH g a b r c) with
          | some (r, H) => some (lwL z i j5 j6, r.toList ++ [], H)
          | none => none) = _
        rw [hh]
        rfl
      rw [lw_sqh hc]
      exact lw_t7 hi hl e1 h11 (Or.inl rfl)
theorem lw_t44 {k v : Int} {r' : xR} (hi : i + 5 ≤ len) (hl : len ≤ 2560) (e2 : (gg (n + 900) 277).2 [.inr (.inr (.inl (1, 0))), .inl (xf ((i : Int) + 1).toNat)] (lwH g a b r c) = some (some (.inl v), lwH g a b r' c)) (hk : r'.1 11 = k) (h : k = 1 ∨ (k = 0 ∧ g 0 = v)) :
    (p_sq (p_ops x_dd (gg (n + 900)) 2 [.istore 5, .aload 2]) (p_sq (p_sc (gg (n + 900)) z len xf 1) (p_sq (p_ops x_dd (gg (n + 900)) 2 [.invokevirtual 4444, .istore 6, .aload 2, .invokevirtual 2732, .iload 5]) (p_if2 .eq p_no (p_sq (p_ops x_dd (gg (n + 900)) 2 [.iload 5]) (p_if1 .ne (p_sq (p_ops x_dd (gg (n + 900)) 2 [.aload 3, .iconst 0, .laload, .iload 6, .i2l, .lcmp]) (p_if1 .eq p_no (p_br 0))) (p_br 0))))))) (lwL z i j5 j6, [.inl k], lwH g a b r c) = some (.inl 0, (lwL z i (.inl k) (.inl v), [], lwH g a b r' c)) := by
  have i2 : ∀ I : List Instr, xIs x_dd (gg (n + 900)) 2 (.invokevirtual 4444 :: I) (lwL z i (.inl k) j6, [.inl (xf ((i : Int) + 1).toNat), .inr (.inr (.inl (1, 0)))], lwH g a b r c) = xIs x_dd (gg (n + 900)) 2 I (lwL z i (.inl k) j6, [.inl v], lwH g a b r' c) := fun I => by
    rw [ec277 (by simp [xcat]) lw_ism, e2]
    rfl
  have s6 : ∀ I : List Instr, xIs x_dd (gg (n + 900)) 2 (.istore 6 :: .aload 2 :: I) (lwL z i (.inl k) j6, [.inl v], lwH g a b r' c) = xIs x_dd (gg (n + 900)) 2 I (lwL z i (.inl k) (.inl v), [.inr (.inr (.inl (1, 0)))], lwH g a b r' c) := fun _ => rfl
  have i3 : ∀ I : List Instr, xIs x_dd (gg (n + 900)) 2 (.invokevirtual 2732 :: I) (lwL z i (.inl k) (.inl v), [.inr (.inr (.inl (1, 0)))], lwH g a b r' c) = xIs x_dd (gg (n + 900)) 2 I (lwL z i (.inl k) (.inl v), [.inl k], lwH g a b r' c) := fun I => by
    rw [ec170 (by simp [xcat]) lw_ism, lw_thr, hk]
    rfl
  rw [lw_sqo (l := [.istore 5, .aload 2]) (t := (lwL z i (.inl k) j6, [.inr (.inr (.inl (1, 0)))], lwH g a b r c)) rfl, lw_sc (by decide) (by decide) hi hl, lw_sqo (l := [.invokevirtual 4444, .istore 6, .aload 2, .invokevirtual 2732, .iload 5]) (t := (lwL z i (.inl k) (.inl v), [.inl k, .inl k], lwH g a b r' c)) (by rw [i2, s6, i3]; rfl), lw_h0 h]
theorem lw_s44 (hi : i + 5 ≤ len) (hl : len ≤ 2560) : lwS (lw_c44 (n + 899) (gg (n + 900)) z len xf) z i := by
  intro j5 j6 g a b r c hr
  have hP := P_row (xf ((i : Int) + 1).toNat)
  unfold lw_c44
  rw [lw_sqo (l := [.aload 1]) (t := (lwL z i j5 j6, [.inr (.inr (.inl (0, 0)))], lwH g a b r c)) rfl, lw_sc (by decide) (by decide) hi hl, lw_sqo (l := [.aload 3]) (t := (lwL z i j5 j6, [.inr (.inr (.inl (2, 0))), .inl (xf ((i : Int) + 1).toNat), .inr (.inr (.inl (0, 0)))], lwH g a b r c)) rfl]
  obtain ⟨v0, r0, L0, -, -, h0⟩ := hP n (hC (hL g a b) c) (hR (hL g a b) r) r c hr
  rcases h0 with ⟨-, f0⟩ | ⟨-, k0, hk0, f0⟩
  · obtain ⟨v1, r1, L1, e1, hr1, h1⟩ := hP n (hC (hL (xfu g 0 v0) a b) c) (hR (hL g a b) r) r c hr
    rcases h1 with ⟨h11, f1⟩ | ⟨-, k1, -, f1⟩
    · rw [f0] at f1
      have zv : v0 = v1 := Sum.inl.inj (Option.some.inj (Sum.inr.inj (congrArg Prod.fst (Option.some.inj f1))))
      subst zv
      refine ⟨.inl 0, .inl v0, xfu g 0 v0, a, b, r1, c, hr1, Nat.le_succ _, Nat.le_add_right _ _, ?_⟩
      have hh : h_row (n + 899) [.inr (.inr (.inl (0, 0))), .inl (xf ((i : Int) + 1).toNat), .inr (.inr (.inl (2, 0)))] (lwH g a b r c) = some (some (.inl 0), lwH (xfu g 0 v0) a b r c) := by
        unfold h_row h_P2
        have f0 : fX11_row (gg (n + 899)) ([.inr (.inr (.inl (0, 0))), .inl (xf ((i : Int) + 1).toNat)], [], lwH g a b r c) = some (.inr (some (.inl v0)), (L0, [], lwH g a b r c)) := f0
        simp only [lw_isx, if_true, f0, lw_out]
        rfl
      have hc : x_call 3 (h_row (n + 899)) (lwL z i j5 j6, [.inr (.inr (.inl (2, 0))), .inl (xf ((i : Int) + 1).toNat), .inr (.inr (.inl (0, 0)))], lwH g a b r c) = some (lwL z i j5 j6, [.inl 0], lwH (xfu g 0 v0) a b r c) := by
        unfold x_call
        rw [if_pos ⟨by simp, by simp⟩]
        show (match h_row (n + 899) [.inr (.inr (.inl (0, 0))), .inl (xf ((i : Int) + 1).toNat), .inr (.inr (.inl (2, 0)))] (lwH g a b r c) with
          | some (r, H) => some (lwL z i j5 j6, r.toList ++ [], H)
          | none => none) = _
        rw [hh]
        rfl
      rw [lw_sqh hc]
      exact lw_t44 hi hl e1 h11 (Or.inr ⟨rfl, by simp [xfu]⟩)
    · rw [f0] at f1
      cases f1
  · obtain ⟨v1, r1, L1, e1, hr1, h1⟩ := hP n (hC (hL g (a + 1) (b + 6)) c) (hR (hL g a b) r) r c hr
    rcases h1 with ⟨-, f1⟩ | ⟨h11, k1, hk1, f1⟩
    · rw [f0] at f1
      cases f1
    · refine ⟨.inl 1, .inl v1, g, a + 1, b + 6, r1, c, hr1, Nat.le_refl _, Nat.le_refl _, ?_⟩
      have hh : h_row (n + 899) [.inr (.inr (.inl (0, 0))), .inl (xf ((i : Int) + 1).toNat), .inr (.inr (.inl (2, 0)))] (lwH g a b r c) = some (some (.inl 1), lwH g (a + 1) (b + 6) r c) := by
        unfold h_row h_P2
        have f0 : fX11_row (gg (n + 899)) ([.inr (.inr (.inl (0, 0))), .inl (xf ((i : Int) + 1).toNat)], [], lwH g a b r c) = some (.inl (k0 + 1), (L0, [], lwH g a b r c)) := f0
        simp only [lw_isx, if_true, f0, if_pos hk0]
        rfl
      have hc : x_call 3 (h_row (n + 899)) (lwL z i j5 j6, [.inr (.inr (.inl (2, 0))), .inl (xf ((i : Int) + 1).toNat), .inr (.inr (.inl (0, 0)))], lwH g a b r c) = some (lwL z i j5 j6, [.inl 1], lwH g (a + 1) (b + 6) r c) := by
        unfold x_call
        rw [if_pos ⟨by simp, by simp⟩]
        show (match h_row (n + 899) [.inr (.inr (.inl (0, 0))), .inl (xf ((i : Int) + 1).toNat), .inr (.inr (.inl (2, 0)))] (lwH g a b r c) with
          | some (r, H) => some (lwL z i j5 j6, r.toList ++ [], H)
          | none => none) = _
        rw [hh]
        rfl
      rw [lw_sqh hc]
      exact lw_t44 hi hl e1 h11 (Or.inl rfl)
theorem lw_s0 (hx : ∀ j, xin (xf j)) (hi : i + 5 ≤ len) (hl : len ≤ 2560) : lwS (lw_c0 (n + 899) (gg (n + 900)) z len xf) z i := lw_a1 (q1 := 1643) (q2 := 2860) rfl rfl (ga102 _) (ga178 _) hi hl (P_sign _ (hx _))
theorem lw_s1 (hx : ∀ j, xin (xf j)) (hi : i + 5 ≤ len) (hl : len ≤ 2560) : lwS (lw_c1 (n + 899) (gg (n + 900)) z len xf) z i := lw_a1 (q1 := 1659) (q2 := 2876) rfl rfl (ga103 _) (ga179 _) hi hl (P_end _)
theorem lw_s2 (hx : ∀ j, xin (xf j)) (hi : i + 5 ≤ len) (hl : len ≤ 2560) : lwS (lw_c2 (n + 899) (gg (n + 900)) z len xf) z i := lw_a0 (q1 := 1675) (q2 := 3068) rfl rfl (ga104 _) (ga191 _) hi hl (P_fleet)
theorem lw_s3 (hx : ∀ j, xin (xf j)) (hi : i + 5 ≤ len) (hl : len ≤ 2560) : lwS (lw_c3 (n + 899) (gg (n + 900)) z len xf) z i := lw_a0 (q1 := 1691) (q2 := 3084) rfl rfl (ga105 _) (ga192 _) hi hl (P_gulls)
theorem lw_s4 (hx : ∀ j, xin (xf j)) (hi : i + 5 ≤ len) (hl : len ≤ 2560) : lwS (lw_c4 (n + 899) (gg (n + 900)) z len xf) z i := lw_a0 (q1 := 1707) (q2 := 3180) rfl rfl (ga106 _) (ga198 _) hi hl (P_rule)
theorem lw_s8 (hx : ∀ j, xin (xf j)) (hi : i + 5 ≤ len) (hl : len ≤ 2560) : lwS (lw_c8 (n + 899) (gg (n + 900)) z len xf) z i := lw_a2 (q1 := 1771) (q2 := 3276) rfl rfl (ga110 _) (ga204 _) hi hl (P_weather _ _)
theorem lw_s9 (hx : ∀ j, xin (xf j)) (hi : i + 5 ≤ len) (hl : len ≤ 2560) : lwS (lw_c9 (n + 899) (gg (n + 900)) z len xf) z i := lw_a4 (q1 := 1787) (q2 := 3292) rfl rfl (ga111 _) (ga205 _) hi hl (P_sheet _ _ _ _ (hx _))
theorem lw_s10 (hx : ∀ j, xin (xf j)) (hi : i + 5 ≤ len) (hl : len ≤ 2560) : lwS (lw_c10 (n + 899) (gg (n + 900)) z len xf) z i := lw_a1 (q1 := 1851) (q2 := 3484) rfl rfl (ga115 _) (ga217 _) hi hl (P_write _)
theorem lw_s11 (hx : ∀ j, xin (xf j)) (hi : i + 5 ≤ len) (hl : len ≤ 2560) : lwS (lw_c11 (n + 899) (gg (n + 900)) z len xf) z i := lw_a2 (q1 := 1867) (q2 := 3532) rfl rfl (ga116 _) (ga220 _) hi hl (P_send _ _)
theorem lw_s12 (hx : ∀ j, xin (xf j)) (hi : i + 5 ≤ len) (hl : len ≤ 2560) : lwS (lw_c12 (n + 899) (gg (n + 900)) z len xf) z i := lw_a2 (q1 := 1883) (q2 := 3548) rfl rfl (ga117 _) (ga221 _) hi hl (P_paint _ _)
theorem lw_s13 (hx : ∀ j, xin (xf j)) (hi : i + 5 ≤ len) (hl : len ≤ 2560) : lwS (lw_c13 (n + 899) (gg (n + 900)) z len xf) z i := lw_a1 (q1 := 1899) (q2 := 3596) rfl rfl (ga118 _) (ga224 _) hi hl (P_show _)
theorem lw_s14 (hx : ∀ j, xin (xf j)) (hi : i + 5 ≤ len) (hl : len ≤ 2560) : lwS (lw_c14 (n + 899) (gg (n + 900)) z len xf) z i := lw_a2 (q1 := 1915) (q2 := 3612) rfl rfl (ga119 _) (ga225 _) hi hl (P_chum _ _)
theorem lw_s15 (hx : ∀ j, xin (xf j)) (hi : i + 5 ≤ len) (hl : len ≤ 2560) : lwS (lw_c15 (n + 899) (gg (n + 900)) z len xf) z i := lw_a1 (q1 := 1931) (q2 := 3644) rfl rfl (ga120 _) (ga227 _) hi hl (P_feed _)
theorem lw_s16 (hx : ∀ j, xin (xf j)) (hi : i + 5 ≤ len) (hl : len ≤ 2560) : lwS (lw_c16 (n + 899) (gg (n + 900)) z len xf) z i := lw_a0 (q1 := 1947) (q2 := 3708) rfl rfl (ga121 _) (ga231 _) hi hl (P_half)
theorem lw_s17 (hx : ∀ j, xin (xf j)) (hi : i + 5 ≤ len) (hl : len ≤ 2560) : lwS (lw_c17 (n + 899) (gg (n + 900)) z len xf) z i := lw_a1 (q1 := 1963) (q2 := 3724) rfl rfl (ga122 _) (ga232 _) hi hl (P_halves _)
theorem lw_s18 (hx : ∀ j, xin (xf j)) (hi : i + 5 ≤ len) (hl : len ≤ 2560) : lwS (lw_c18 (n + 899) (gg (n + 900)) z len xf) z i := lw_a0 (q1 := 1979) (q2 := 3740) rfl rfl (ga123 _) (ga233 _) hi hl (P_day)
theorem lw_s19 (hx : ∀ j, xin (xf j)) (hi : i + 5 ≤ len) (hl : len ≤ 2560) : lwS (lw_c19 (n + 899) (gg (n + 900)) z len xf) z i := lw_a0 (q1 := 1995) (q2 := 3788) rfl rfl (ga124 _) (ga236 _) hi hl (P_undo)
theorem lw_s20 (hx : ∀ j, xin (xf j)) (hi : i + 5 ≤ len) (hl : len ≤ 2560) : lwS (lw_c20 (n + 899) (gg (n + 900)) z len xf) z i := lw_a2 (q1 := 2059) (q2 := 3820) rfl rfl (ga128 _) (ga238 _) hi hl (P_where _ _)
theorem lw_s21 (hx : ∀ j, xin (xf j)) (hi : i + 5 ≤ len) (hl : len ≤ 2560) : lwS (lw_c21 (n + 899) (gg (n + 900)) z len xf) z i := lw_a1 (q1 := 2075) (q2 := 3852) rfl rfl (ga129 _) (ga240 _) hi hl (P_comes _)
theorem lw_s22 (hx : ∀ j, xin (xf j)) (hi : i + 5 ≤ len) (hl : len ≤ 2560) : lwS (lw_c22 (n + 899) (gg (n + 900)) z len xf) z i := lw_a1 (q1 := 2091) (q2 := 3868) rfl rfl (ga130 _) (ga241 _) hi hl (P_would _)
theorem lw_s23 (hx : ∀ j, xin (xf j)) (hi : i + 5 ≤ len) (hl : len ≤ 2560) : lwS (lw_c23 (n + 899) (gg (n + 900)) z len xf) z i := lw_a1 (q1 := 2107) (q2 := 3900) rfl rfl (ga131 _) (ga243 _) hi hl (P_delivers _)
theorem lw_s24 (hx : ∀ j, xin (xf j)) (hi : i + 5 ≤ len) (hl : len ≤ 2560) : lwS (lw_c24 (n + 899) (gg (n + 900)) z len xf) z i := lw_a1 (q1 := 2123) (q2 := 3916) rfl rfl (ga132 _) (ga244 _) hi hl (P_due _)
theorem lw_s25 (hx : ∀ j, xin (xf j)) (hi : i + 5 ≤ len) (hl : len ≤ 2560) : lwS (lw_c25 (n + 899) (gg (n + 900)) z len xf) z i := lw_a1 (q1 := 2139) (q2 := 3932) rfl rfl (ga133 _) (ga245 _) hi hl (P_heads _)
theorem lw_s26 (hx : ∀ j, xin (xf j)) (hi : i + 5 ≤ len) (hl : len ≤ 2560) : lwS (lw_c26 (n + 899) (gg (n + 900)) z len xf) z i := lw_a2 (q1 := 2155) (q2 := 3964) rfl rfl (ga134 _) (ga247 _) hi hl (P_nearest _ _)
theorem lw_s27 (hx : ∀ j, xin (xf j)) (hi : i + 5 ≤ len) (hl : len ≤ 2560) : lwS (lw_c27 (n + 899) (gg (n + 900)) z len xf) z i := lw_a3 (q1 := 2203) (q2 := 4044) rfl rfl (ga137 _) (ga252 _) hi hl (P_shouted _ _ _)
theorem lw_s28 (hx : ∀ j, xin (xf j)) (hi : i + 5 ≤ len) (hl : len ≤ 2560) : lwS (lw_c28 (n + 899) (gg (n + 900)) z len xf) z i := lw_a2 (q1 := 2219) (q2 := 4076) rfl rfl (ga138 _) (ga254 _) hi hl (P_spreads _ _)
theorem lw_s29 (hx : ∀ j, xin (xf j)) (hi : i + 5 ≤ len) (hl : len ≤ 2560) : lwS (lw_c29 (n + 899) (gg (n + 900)) z len xf) z i := lw_a1 (q1 := 2235) (q2 := 4092) rfl rfl (ga139 _) (ga255 _) hi hl (P_teller _)
theorem lw_s30 (hx : ∀ j, xin (xf j)) (hi : i + 5 ≤ len) (hl : len ≤ 2560) : lwS (lw_c30 (n + 899) (gg (n + 900)) z len xf) z i := lw_a2 (q1 := 2251) (q2 := 4124) rfl rfl (ga140 _) (ga257 _) hi hl (P_order _ _)
theorem lw_s31 (hx : ∀ j, xin (xf j)) (hi : i + 5 ≤ len) (hl : len ≤ 2560) : lwS (lw_c31 (n + 899) (gg (n + 900)) z len xf) z i := lw_a1 (q1 := 2331) (q2 := 4156) rfl rfl (ga145 _) (ga259 _) hi hl (P_thief _)
theorem lw_s32 (hx : ∀ j, xin (xf j)) (hi : i + 5 ≤ len) (hl : len ≤ 2560) : lwS (lw_c32 (n + 899) (gg (n + 900)) z len xf) z i := lw_a0 (q1 := 2347) (q2 := 4172) rfl rfl (ga146 _) (ga260 _) hi hl (P_astray)
theorem lw_s33 (hx : ∀ j, xin (xf j)) (hi : i + 5 ≤ len) (hl : len ≤ 2560) : lwS (lw_c33 (n + 899) (gg (n + 900)) z len xf) z i := lw_a2 (q1 := 2379) (q2 := 4204) rfl rfl (ga148 _) (ga262 _) hi hl (P_fits _ _)
theorem lw_s34 (hx : ∀ j, xin (xf j)) (hi : i + 5 ≤ len) (hl : len ≤ 2560) : lwS (lw_c34 (n + 899) (gg (n + 900)) z len xf) z i := lw_a1 (q1 := 2395) (q2 := 4220) rfl rfl (ga149 _) (ga263 _) hi hl (P_ring _)
theorem lw_s35 (hx : ∀ j, xin (xf j)) (hi : i + 5 ≤ len) (hl : len ≤ 2560) : lwS (lw_c35 (n + 899) (gg (n + 900)) z len xf) z i := lw_a0 (q1 := 2427) (q2 := 4236) rfl rfl (ga151 _) (ga264 _) hi hl (P_lonely)
theorem lw_s36 (hx : ∀ j, xin (xf j)) (hi : i + 5 ≤ len) (hl : len ≤ 2560) : lwS (lw_c36 (n + 899) (gg (n + 900)) z len xf) z i := lw_a2 (q1 := 2443) (q2 := 4284) rfl rfl (ga152 _) (ga267 _) hi hl (P_train _ _)
theorem lw_s37 (hx : ∀ j, xin (xf j)) (hi : i + 5 ≤ len) (hl : len ≤ 2560) : lwS (lw_c37 (n + 899) (gg (n + 900)) z len xf) z i := lw_a1 (q1 := 2459) (q2 := 4316) rfl rfl (ga153 _) (ga269 _) hi hl (P_codes _)
theorem lw_s38 (hx : ∀ j, xin (xf j)) (hi : i + 5 ≤ len) (hl : len ≤ 2560) : lwS (lw_c38 (n + 899) (gg (n + 900)) z len xf) z i := lw_a2 (q1 := 2475) (q2 := 4332) rfl rfl (ga154 _) (ga270 _) hi hl (P_slip _ _)
theorem lw_s39 (hx : ∀ j, xin (xf j)) (hi : i + 5 ≤ len) (hl : len ≤ 2560) : lwS (lw_c39 (n + 899) (gg (n + 900)) z len xf) z i := lw_a4 (q1 := 2491) (q2 := 4348) rfl rfl (ga155 _) (ga271 _) hi hl (P_opens _ _ _ _)
theorem lw_s40 (hx : ∀ j, xin (xf j)) (hi : i + 5 ≤ len) (hl : len ≤ 2560) : lwS (lw_c40 (n + 899) (gg (n + 900)) z len xf) z i := lw_a3 (q1 := 2523) (q2 := 4364) rfl rfl (ga157 _) (ga272 _) hi hl (P_season _ _ _)
theorem lw_s41 (hx : ∀ j, xin (xf j)) (hi : i + 5 ≤ len) (hl : len ≤ 2560) : lwS (lw_c41 (n + 899) (gg (n + 900)) z len xf) z i := lw_a1 (q1 := 2539) (q2 := 4380) rfl rfl (ga158 _) (ga273 _) hi hl (P_keep _)
theorem lw_s42 (hx : ∀ j, xin (xf j)) (hi : i + 5 ≤ len) (hl : len ≤ 2560) : lwS (lw_c42 (n + 899) (gg (n + 900)) z len xf) z i := lw_a1 (q1 := 2555) (q2 := 4396) rfl rfl (ga159 _) (ga274 _) hi hl (P_again _)
theorem lw_s43 (hx : ∀ j, xin (xf j)) (hi : i + 5 ≤ len) (hl : len ≤ 2560) : lwS (lw_c43 (n + 899) (gg (n + 900)) z len xf) z i := lw_a1 (q1 := 2571) (q2 := 4428) rfl rfl (ga160 _) (ga276 _) hi hl (P_count _)
set_option maxRecDepth 100000 in
theorem lw_all (hx : ∀ j, xin (xf j)) (hi : i + 5 ≤ len) (hl : len ≤ 2560) : ∀ q ∈ lw_cs (n + 899) (gg (n + 900)) z len xf, lwS q.2 z i := List.forall_mem_cons.mpr ⟨lw_s0 hx hi hl, List.forall_mem_cons.mpr ⟨lw_s1 hx hi hl, List.forall_mem_cons.mpr ⟨lw_s2 hx hi hl, List.forall_mem_cons.mpr ⟨lw_s3 hx hi hl, List.forall_mem_cons.mpr ⟨lw_s4 hx hi hl, List.forall_mem_cons.mpr ⟨lw_s5 hi hl, List.forall_mem_cons.mpr ⟨lw_s6 hi hl, List.forall_mem_cons.mpr ⟨lw_s7 hi hl, List.forall_mem_cons.mpr ⟨lw_s8 hx hi hl, List.forall_mem_cons.mpr ⟨lw_s9 hx hi hl, List.forall_mem_cons.mpr ⟨lw_s10 hx hi hl, List.forall_mem_cons.mpr ⟨lw_s11 hx hi hl, List.forall_mem_cons.mpr ⟨lw_s12 hx hi hl, List.forall_mem_cons.mpr ⟨lw_s13 hx hi hl, List.forall_mem_cons.mpr ⟨lw_s14 hx hi hl, List.forall_mem_cons.mpr ⟨lw_s15 hx hi hl, List.forall_mem_cons.mpr ⟨lw_s16 hx hi hl, List.forall_mem_cons.mpr ⟨lw_s17 hx hi hl, List.forall_mem_cons.mpr ⟨lw_s18 hx hi hl, List.forall_mem_cons.mpr ⟨lw_s19 hx hi hl, List.forall_mem_cons.mpr ⟨lw_s20 hx hi hl, List.forall_mem_cons.mpr ⟨lw_s21 hx hi hl, List.forall_mem_cons.mpr ⟨lw_s22 hx hi hl, List.forall_mem_cons.mpr ⟨lw_s23 hx hi hl, List.forall_mem_cons.mpr ⟨lw_s24 hx hi hl, List.forall_mem_cons.mpr ⟨lw_s25 hx hi hl, List.forall_mem_cons.mpr ⟨lw_s26 hx hi hl, List.forall_mem_cons.mpr ⟨lw_s27 hx hi hl, List.forall_mem_cons.mpr ⟨lw_s28 hx hi hl, List.forall_mem_cons.mpr ⟨lw_s29 hx hi hl, List.forall_mem_cons.mpr ⟨lw_s30 hx hi hl, List.forall_mem_cons.mpr ⟨lw_s31 hx hi hl, List.forall_mem_cons.mpr ⟨lw_s32 hx hi hl, List.forall_mem_cons.mpr ⟨lw_s33 hx hi hl, List.forall_mem_cons.mpr ⟨lw_s34 hx hi hl, List.forall_mem_cons.mpr ⟨lw_s35 hx hi hl, List.forall_mem_cons.mpr ⟨lw_s36 hx hi hl, List.forall_mem_cons.mpr ⟨lw_s37 hx hi hl, List.forall_mem_cons.mpr ⟨lw_s38 hx hi hl, List.forall_mem_cons.mpr ⟨lw_s39 hx hi hl, List.forall_mem_cons.mpr ⟨lw_s40 hx hi hl, List.forall_mem_cons.mpr ⟨lw_s41 hx hi hl, List.forall_mem_cons.mpr ⟨lw_s42 hx hi hl, List.forall_mem_cons.mpr ⟨lw_s43 hx hi hl, List.forall_mem_cons.mpr ⟨lw_s44 hi hl, fun _ h => absurd h List.not_mem_nil⟩⟩⟩⟩⟩⟩⟩⟩⟩⟩⟩⟩⟩⟩⟩⟩⟩⟩⟩⟩⟩⟩⟩⟩⟩⟩⟩⟩⟩⟩⟩⟩⟩⟩⟩⟩⟩⟩⟩⟩⟩⟩⟩⟩⟩
theorem x_key_le {ks : List (Int × Nat)} {d M : Nat} {m : Int} (hd : d ≤ M) (h : ∀ q ∈ ks, q.2 ≤ M) : x_key ks d m ≤ M := by
  induction ks with
  | nil => exact hd
  | cons q ks ih =>
    obtain ⟨k, t⟩ := q
    unfold x_key
    split
    · exact h (k, t) List.mem_cons_self
    · exact ih fun q hq => h q (List.mem_cons_of_mem _ hq)
theorem lw_cslen (N : Nat) (G : xG) (z len : Nat) (xf : Nat → Int) : (lw_cs N G z len xf).length = 45 := rfl
theorem lw_then (hx : ∀ j, xin (xf j)) (hi : i + 5 ≤ len) (hl : len ≤ 2560) (m : Int) (hr : Rel r c) : ∃ (j5' j6' : xV) (g' : Nat → Int) (a' b' : Nat) (r' : xR) (c' : xQ), Rel r' c' ∧ a' ≤ a + 1 ∧ b' ≤ b + 6 ∧
    p_then (p_sw lw_ks 0) (lw_cs (n + 899) (gg (n + 900)) z len xf) (lwL z i j5 j6, [.inl m], lwH g a b r c) = some (.inl 0, (lwL z i j5' j6', [], lwH g' a' b' r' c')) := by
  have hk : x_key lw_ks 0 m ≤ 45 := x_key_le (by decide) (by decide)
  have e0 : p_sw lw_ks 0 (lwL z i j5 j6, [.inl m], lwH g a b r c) = some (.inl (x_key lw_ks 0 m), (lwL z i j5 j6, [], lwH g a b r c)) := rfl
  unfold p_then
  rw [e0]
  generalize x_key lw_ks 0 m = k at hk
  match k, hk with
  | 0, _ => exact ⟨j5, j6, g, a, b, r, c, hr, Nat.le_succ _, Nat.le_add_right _ _, rfl⟩
  | k + 1, hk =>
    have hlt : k < (lw_cs (n + 899) (gg (n + 900)) z len xf).length := by rw [lw_cslen]; omega
    have hz := lw_all (n := n) (z := z) (i := i) (len := len) (xf := xf) hx hi hl _ (List.getElem_mem hlt)
    obtain ⟨j5', j6', g', a', b', r', c', h1, h2, h3, h4⟩ := hz j5 j6 g a b r c hr
    refine ⟨j5', j6', g', a', b', r', c', h1, h2, h3, ?_⟩
    simp only [List.getElem?_eq_getElem hlt]
    exact h4
theorem lw_hd (hl : len ≤ 2560) : p_sq (p_ops x_dd G 2 [.iload 4]) (p_sq p_al0 (p_sq (p_aln z len) (p_sq (p_ops x_dd G 2 [.iconst 5, .isub]) f))) (lwL z i j5 j6, [], H) = f (lwL z i j5 j6, [.inl ((len : Int) - 5), .inl (i : Int)], H) := by
  have e1 : p_aln z len (lwL z i j5 j6, [.inr (.inr (.inr (z + 3))), .inl (i : Int)], H) = some (.inl 0, (lwL z i j5 j6, [.inl (len : Int), .inl (i : Int)], H)) := by
    show (if z = z then some (Sum.inl 0, (lwL z i j5 j6, [Sum.inl (len : Int), Sum.inl (i : Int)], H)) else none) = _
    rw [if_pos rfl]
  rw [lw_sqo (t := (lwL z i j5 j6, [.inl (i : Int)], H)) rfl, lw_sqe (a := p_al0) (t := (lwL z i j5 j6, [.inr (.inr (.inr (z + 3))), .inl (i : Int)], H)) rfl, lw_sqe e1, lw_sqo (t := (lwL z i j5 j6, [.inl (xw ((len : Int) - 5)), .inl (i : Int)], H)) rfl, xw_id (by omega) (by omega)]
theorem lw_out0 (hi : ¬ i + 5 ≤ len) (hl : len ≤ 2560) {N : Nat} : lw_b N G z len xf (lwL z i j5 j6, [], H) = some (.inl 2, (lwL z i j5 j6, [], H)) := by
  unfold lw_b
  rw [lw_hd hl]
  have e : (p_if2 .gt (p_br 0) (p_br 2)) (lwL z i j5 j6, [.inl ((len : Int) - 5), .inl (i : Int)], H) = some (.inl 2, (lwL z i j5 j6, [], H)) := by
    show (if decide ((len : Int) - 5 < (i : Int)) = true then _ else _) = _
    rw [if_pos (decide_eq_true (by omega))]
    rfl
  unfold p_sq
  rw [e]
theorem lw_turn (hx : ∀ j, xin (xf j)) (hi : i + 5 ≤ len) (hl : len ≤ 2560) (hr : Rel r c) : ∃ (j5' j6' : xV) (g' : Nat → Int) (a' b' : Nat) (r' : xR) (c' : xQ), Rel r' c' ∧ a' ≤ a + 1 ∧ b' ≤ b + 6 ∧
    lw_b (n + 899) (gg (n + 900)) z len xf (lwL z i j5 j6, [], lwH g a b r c) = some (.inl 1, (lwL z (i + 5) j5' j6', [], lwH g' a' b' r' c')) := by
  obtain ⟨j5', j6', g', a', b', r', c', h1, h2, h3, h4⟩ := lw_then (n := n) (z := z) (j5 := j5) (j6 := j6) (g := g) (a := a) (b := b) hx hi hl (xand (xf (i : Int).toNat) 63) hr
  refine ⟨j5', j6', g', a', b', r', c', h1, h2, h3, ?_⟩
  unfold lw_b
  have e : (p_if2 .gt (p_br 0) (p_br 2)) (lwL z i j5 j6, [.inl ((len : Int) - 5), .inl (i : Int)], lwH g a b r c) = some (.inl 0, (lwL z i j5 j6, [], lwH g a b r c)) := by
    show (if decide ((len : Int) - 5 < (i : Int)) = true then _ else _) = _
    rw [if_neg (by rw [decide_eq_true_eq]; omega)]
    rfl
  have e5 : xIs x_dd (gg (n + 900)) 2 [.iinc 4 5] (lwL z i j5' j6', [], lwH g' a' b' r' c') = some (lwL z (i + 5) j5' j6', [], lwH g' a' b' r' c') := by
    show some ((lwL z i j5' j6').set 4 (.inl (xw ((i : Int) + 5))), [], lwH g' a' b' r' c') = _
    rw [xw_id (by omega) (by omega)]
    rfl
  rw [lw_hd hl, lw_sqe e, lw_sc0 hi, lw_sqo (t := (lwL z i j5 j6, [.inl (xand (xf (i : Int).toNat) 63)], lwH g a b r c)) rfl, lw_sqe h4, lw_sqo e5]
  rfl
theorem lw_loop (hx : ∀ j, xin (xf j)) (hl : len ≤ 2560) : ∀ (m i : Nat) (j5 j6 : xV) (g : Nat → Int) (a b : Nat) (r : xR) (c : xQ), len ≤ i + m → Rel r c → ∃ (i' : Nat) (j5' j6' : xV) (g' : Nat → Int) (a' b' : Nat) (r' : xR) (c' : xQ), a' ≤ a + m ∧ b' ≤ b + 6 * m ∧
    p_lop (lw_b (n + 899) (gg (n + 900)) z len xf) (lwL z i j5 j6, [], lwH g a b r c) = some (.inl 1, (lwL z i' j5' j6', [], lwH g' a' b' r' c'))
  | 0, i, j5, j6, g, a, b, r, c, h, hr => by
    refine ⟨i, j5, j6, g, a, b, r, c, Nat.le_refl _, Nat.le_refl _, ?_⟩
    rw [p_lop_eq, lw_out0 (by omega) hl]
  | m + 1, i, j5, j6, g, a, b, r, c, h, hr => by
    by_cases hi : i + 5 ≤ len
    · obtain ⟨j5', j6', g', a', b', r', c', h1, h2, h3, h4⟩ := lw_turn (n := n) (z := z) (j5 := j5) (j6 := j6) (g := g) (a := a) (b := b) hx hi hl hr
      obtain ⟨i2, k5, k6, g2, a2, b2, r2, c2, q1, q2, q3⟩ := lw_loop hx hl m (i + 5) j5' j6' g' a' b' r' c' (by omega) h1
      refine ⟨i2, k5, k6, g2, a2, b2, r2, c2, by omega, by omega, ?_⟩
      rw [p_lop_eq, h4]
      exact q3
    · refine ⟨i, j5, j6, g, a, b, r, c, by omega, by omega, ?_⟩
      rw [p_lop_eq, lw_out0 hi hl]
end LW
