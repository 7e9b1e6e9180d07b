/-! ===== the small machine, step by step: what an instruction makes of a state that is spelt out ===== -/
/-- an object of a class -/
def x_isc (H : xH) (k j ci : Nat) : Bool := match xcell H k j with
  | some (.inl (c, _)) => decide (c = ci)
  | _ => false
section EV
variable {G : xG} {rg : Nat} {l : List Instr} {L S : List xV} {H : xH}
theorem e_nil {s : xS} : xIs x_dd G rg [] s = some s := rfl
theorem e_iconst {n : Int} : xIs x_dd G rg (.iconst n :: l) (L, S, H) = xIs x_dd G rg l (L, .inl n :: S, H) := rfl
theorem e_lconst {n : Int} : xIs x_dd G rg (.jsr n :: l) (L, S, H) = xIs x_dd G rg l (L, .inr (.inl n) :: S, H) := rfl
theorem e_iload {i : Nat} {n : Int} (h : L[i]? = some (.inl n)) : xIs x_dd G rg (.iload i :: l) (L, S, H) = xIs x_dd G rg l (L, .inl n :: S, H) := by simp only [xIs, xI, h, Option.bind_some]
theorem e_aload {i : Nat} {n : Nat × Nat} (h : L[i]? = some (.inr (.inr (.inl n)))) : xIs x_dd G rg (.aload i :: l) (L, S, H) = xIs x_dd G rg l (L, .inr (.inr (.inl n)) :: S, H) := by simp only [xIs, xI, h, Option.bind_some]
theorem e_lload {i : Nat} {n : Int} (h : L[i]? = some (.inr (.inl n))) : xIs x_dd G rg (.lload i :: l) (L, S, H) = xIs x_dd G rg l (L, .inr (.inl n) :: S, H) := by simp only [xIs, xI, h, Option.bind_some]
theorem e_il {i : Nat} : xIs x_dd G rg (.iload i :: l) (L, S, H) = match L[i]? with
    | some (.inl n) => xIs x_dd G rg l (L, .inl n :: S, H)
    | _ => none := by
  simp only [xIs, xI]
  split <;> simp_all
theorem e_al {i : Nat} : xIs x_dd G rg (.aload i :: l) (L, S, H) = match L[i]? with
    | some (.inr (.inr (.inl n))) => xIs x_dd G rg l (L, .inr (.inr (.inl n)) :: S, H)
    | _ => none := by
  simp only [xIs, xI]
  split <;> simp_all
theorem e_ll {i : Nat} : xIs x_dd G rg (.lload i :: l) (L, S, H) = match L[i]? with
    | some (.inr (.inl n)) => xIs x_dd G rg l (L, .inr (.inl n) :: S, H)
    | _ => none := by
  simp only [xIs, xI]
  split <;> simp_all
theorem e_ic {i : Nat} {d : Int} : xIs x_dd G rg (.iinc i d :: l) (L, S, H) = match L[i]? with
    | some (.inl n) => xIs x_dd G rg l (xst L i (.inl (xw (n + d))), S, H)
    | _ => none := by
  simp only [xIs, xI]
  split <;> simp_all
theorem e_istore {i : Nat} {n : Int} : xIs x_dd G rg (.istore i :: l) (L, .inl n :: S, H) = xIs x_dd G rg l (xst L i (.inl n), S, H) := rfl
theorem e_astore {i : Nat} {n : Nat × Nat} : xIs x_dd G rg (.astore i :: l) (L, .inr (.inr (.inl n)) :: S, H) = xIs x_dd G rg l (xst L i (.inr (.inr (.inl n))), S, H) := rfl
theorem e_lstore {i : Nat} {n : Int} : xIs x_dd G rg (.lstore i :: l) (L, .inr (.inl n) :: S, H) = xIs x_dd G rg l (xst2 L i (.inr (.inl n)), S, H) := rfl
theorem e_iinc {i : Nat} {n d : Int} (h : L[i]? = some (.inl n)) : xIs x_dd G rg (.iinc i d :: l) (L, S, H) = xIs x_dd G rg l (xst L i (.inl (xw (n + d))), S, H) := by simp only [xIs, xI, h, Option.bind_some]
theorem e_iadd {x y : Int} : xIs x_dd G rg (.iadd :: l) (L, .inl y :: .inl x :: S, H) = xIs x_dd G rg l (L, .inl (xw (x + y)) :: S, H) := rfl
theorem e_isub {x y : Int} : xIs x_dd G rg (.isub :: l) (L, .inl y :: .inl x :: S, H) = xIs x_dd G rg l (L, .inl (xw (x - y)) :: S, H) := rfl
theorem e_imul {x y : Int} : xIs x_dd G rg (.imul :: l) (L, .inl y :: .inl x :: S, H) = xIs x_dd G rg l (L, .inl (xw (x * y)) :: S, H) := rfl
theorem e_iand {x y : Int} : xIs x_dd G rg (.iand :: l) (L, .inl y :: .inl x :: S, H) = xIs x_dd G rg l (L, .inl (xand x y) :: S, H) := rfl
theorem e_ior {x y : Int} : xIs x_dd G rg (.ior :: l) (L, .inl y :: .inl x :: S, H) = xIs x_dd G rg l (L, .inl (xor_ x y) :: S, H) := rfl
theorem e_ixor {x y : Int} : xIs x_dd G rg (.ixor :: l) (L, .inl y :: .inl x :: S, H) = xIs x_dd G rg l (L, .inl (xxor x y) :: S, H) := rfl
theorem e_ishl {x y : Int} : xIs x_dd G rg (.ishl :: l) (L, .inl y :: .inl x :: S, H) = xIs x_dd G rg l (L, .inl (xshl x y) :: S, H) := rfl
theorem e_ishr {x y : Int} : xIs x_dd G rg (.ishr :: l) (L, .inl y :: .inl x :: S, H) = xIs x_dd G rg l (L, .inl (xshr x y) :: S, H) := rfl
theorem e_iushr {x y : Int} : xIs x_dd G rg (.iushr :: l) (L, .inl y :: .inl x :: S, H) = xIs x_dd G rg l (L, .inl (xushr x y) :: S, H) := rfl
theorem e_ineg {x : Int} : xIs x_dd G rg (.ineg :: l) (L, .inl x :: S, H) = xIs x_dd G rg l (L, .inl (xw (-x)) :: S, H) := rfl
theorem e_i2b {x : Int} : xIs x_dd G rg (.i2b :: l) (L, .inl x :: S, H) = xIs x_dd G rg l (L, .inl (xb8 x) :: S, H) := rfl
theorem e_i2s {x : Int} : xIs x_dd G rg (.i2s :: l) (L, .inl x :: S, H) = xIs x_dd G rg l (L, .inl (xs16 x) :: S, H) := rfl
theorem e_i2c {x : Int} : xIs x_dd G rg (.i2c :: l) (L, .inl x :: S, H) = xIs x_dd G rg l (L, .inl (xc16 x) :: S, H) := rfl
theorem e_idiv {x y : Int} (h : y ≠ 0) : xIs x_dd G rg (.idiv :: l) (L, .inl y :: .inl x :: S, H) = xIs x_dd G rg l (L, .inl (xw (x.tdiv y)) :: S, H) := by simp only [xIs, xI, if_neg h, Option.bind_some]
theorem e_irem {x y : Int} (h : y ≠ 0) : xIs x_dd G rg (.irem :: l) (L, .inl y :: .inl x :: S, H) = xIs x_dd G rg l (L, .inl (x.tmod y) :: S, H) := by simp only [xIs, xI, if_neg h, Option.bind_some]
theorem e_i2l {x : Int} : xIs x_dd G rg (.i2l :: l) (L, .inl x :: S, H) = xIs x_dd G rg l (L, .inr (.inl x) :: S, H) := rfl
theorem e_l2i {x : Int} : xIs x_dd G rg (.l2i :: l) (L, .inr (.inl x) :: S, H) = xIs x_dd G rg l (L, .inl (xw x) :: S, H) := rfl
theorem e_lmul {x y : Int} : xIs x_dd G rg (.lmul :: l) (L, .inr (.inl y) :: .inr (.inl x) :: S, H) = xIs x_dd G rg l (L, .inr (.inl (xlw (x * y))) :: S, H) := rfl
theorem e_lsub {x y : Int} : xIs x_dd G rg (.lsub :: l) (L, .inr (.inl y) :: .inr (.inl x) :: S, H) = xIs x_dd G rg l (L, .inr (.inl (xlw (x - y))) :: S, H) := rfl
theorem e_ldiv {x y : Int} (h : y ≠ 0) : xIs x_dd G rg (.ldiv :: l) (L, .inr (.inl y) :: .inr (.inl x) :: S, H) = xIs x_dd G rg l (L, .inr (.inl (xlw (x.tdiv y))) :: S, H) := by simp only [xIs, xI, if_neg h, Option.bind_some]
theorem e_lcmp {x y : Int} : xIs x_dd G rg (.lcmp :: l) (L, .inr (.inl y) :: .inr (.inl x) :: S, H) = xIs x_dd G rg l (L, .inl (if y < x then 1 else if x = y then 0 else -1) :: S, H) := rfl
theorem e_dupi {n : Int} : xIs x_dd G rg (.dup :: l) (L, .inl n :: S, H) = xIs x_dd G rg l (L, .inl n :: .inl n :: S, H) := rfl
theorem e_dupr {n : Nat × Nat} : xIs x_dd G rg (.dup :: l) (L, .inr (.inr (.inl n)) :: S, H) = xIs x_dd G rg l (L, .inr (.inr (.inl n)) :: .inr (.inr (.inl n)) :: S, H) := rfl
theorem e_dupx {n : Int} {q : Nat × Nat} : xIs x_dd G rg (.dup_x1 :: l) (L, .inl n :: .inr (.inr (.inl q)) :: S, H) = xIs x_dd G rg l (L, .inl n :: .inr (.inr (.inl q)) :: .inl n :: S, H) := rfl
theorem e_dup2 {n : Int} {q : Nat × Nat} : xIs x_dd G rg (.dup2 :: l) (L, .inl n :: .inr (.inr (.inl q)) :: S, H) = xIs x_dd G rg l (L, .inl n :: .inr (.inr (.inl q)) :: .inl n :: .inr (.inr (.inl q)) :: S, H) := rfl
theorem e_popi {n : Int} : xIs x_dd G rg (.pop :: l) (L, .inl n :: S, H) = xIs x_dd G rg l (L, S, H) := rfl
theorem e_obj {n : Nat × Nat} (h : (S.map xcat).sum ≤ 8) : xIs x_dd G rg (.pop2 :: l) (L, .inr (.inr (.inl n)) :: S, H) = xIs x_dd G rg l (L, S, H) := by simp only [xIs, xI, if_pos h, Option.bind_some]
theorem e_get {q k j ci : Nat} {fs : List xV} {v : xV} (h : xcell H k j = some (.inl (ci, fs))) (hc : ci = q / 64) (hv : fs[q % 64]? = some v) : xIs x_dd G rg (.getfield q :: l) (L, .inr (.inr (.inl (k, j))) :: S, H) = xIs x_dd G rg l (L, v :: S, H) := by simp only [xIs, xI, h, if_pos hc, hv, Option.bind_some]
theorem e_put {q k j ci : Nat} {fs : List xV} {v : xV} (h : xcell H k j = some (.inl (ci, fs))) (hc : ci = q / 64 % 64 ∧ q % 64 < fs.length ∧ x_fit (q / 4096) v = true) : xIs x_dd G rg (.putfield q :: l) (L, v :: .inr (.inr (.inl (k, j))) :: S, H) = xIs x_dd G rg l (L, S, xput H k j (.inl (ci, fs.set (q % 64) v))) := by simp only [xIs, xI, h, if_pos hc, Option.bind_some]
theorem e_iaload {k j n : Nat} {i : Int} {f : Nat → Int} (h : xcell H k j = some (.inr (.inl (0, n, f)))) (h0 : 0 ≤ i) (h1 : i < n) : xIs x_dd G rg (.iaload :: l) (L, .inl i :: .inr (.inr (.inl (k, j))) :: S, H) = xIs x_dd G rg l (L, .inl (f i.toNat) :: S, H) := by simp [xIs, xI, x_or, x_ald, x_rd, x_ast, x_last, h, h0, h1]
theorem e_caload {k j n : Nat} {i : Int} {f : Nat → Int} (h : xcell H k j = some (.inr (.inl (2, n, f)))) (h0 : 0 ≤ i) (h1 : i < n) : xIs x_dd G rg (.caload :: l) (L, .inl i :: .inr (.inr (.inl (k, j))) :: S, H) = xIs x_dd G rg l (L, .inl (f i.toNat) :: S, H) := by simp [xIs, xI, x_or, x_ald, x_rd, x_ast, x_last, h, h0, h1]
theorem e_baload {k j n : Nat} {i : Int} {f : Nat → Int} (h : xcell H k j = some (.inr (.inl (1, n, f)))) (h0 : 0 ≤ i) (h1 : i < n) : xIs x_dd G rg (.baload :: l) (L, .inl i :: .inr (.inr (.inl (k, j))) :: S, H) = xIs x_dd G rg l (L, .inl (f i.toNat) :: S, H) := by simp [xIs, xI, x_or, x_ald, x_rd, x_ast, x_last, h, h0, h1]
theorem e_zaload {k j n : Nat} {i : Int} {f : Nat → Int} (h : xcell H k j = some (.inr (.inl (4, n, f)))) (h0 : 0 ≤ i) (h1 : i < n) : xIs x_dd G rg (.baload :: l) (L, .inl i :: .inr (.inr (.inl (k, j))) :: S, H) = xIs x_dd G rg l (L, .inl (f i.toNat) :: S, H) := by simp [xIs, xI, x_or, x_ald, x_rd, x_ast, x_last, h, h0, h1]
theorem e_laload {k j n : Nat} {i : Int} {f : Nat → Int} (h : xcell H k j = some (.inr (.inl (3, n, f)))) (h0 : 0 ≤ i) (h1 : i < n) : xIs x_dd G rg (.laload :: l) (L, .inl i :: .inr (.inr (.inl (k, j))) :: S, H) = xIs x_dd G rg l (L, .inr (.inl (f i.toNat)) :: S, H) := by simp [xIs, xI, x_or, x_ald, x_rd, x_ast, x_last, h, h0, h1]
theorem e_aaload {k j n ci : Nat} {i : Int} {f : Nat → Option (Nat × Nat)} {r : Nat × Nat} (h : xcell H k j = some (.inr (.inr (ci, n, f)))) (h0 : 0 ≤ i) (h1 : i < n) (hr : f i.toNat = some r) : xIs x_dd G rg (.aaload :: l) (L, .inl i :: .inr (.inr (.inl (k, j))) :: S, H) = xIs x_dd G rg l (L, .inr (.inr (.inl r)) :: S, H) := by simp [xIs, xI, x_or, x_ald, x_rd, x_ast, x_last, h, h0, h1, hr]
theorem e_iastore {k j n : Nat} {i x : Int} {f : Nat → Int} (h : xcell H k j = some (.inr (.inl (0, n, f)))) (h0 : 0 ≤ i) (h1 : i < n) : xIs x_dd G rg (.iastore :: l) (L, .inl x :: .inl i :: .inr (.inr (.inl (k, j))) :: S, H) = xIs x_dd G rg l (L, S, xput H k j (.inr (.inl (0, n, xfu f i.toNat (x))))) := by simp [xIs, xI, x_or, x_ald, x_rd, x_ast, x_last, h, h0, h1]
theorem e_castore {k j n : Nat} {i x : Int} {f : Nat → Int} (h : xcell H k j = some (.inr (.inl (2, n, f)))) (h0 : 0 ≤ i) (h1 : i < n) : xIs x_dd G rg (.castore :: l) (L, .inl x :: .inl i :: .inr (.inr (.inl (k, j))) :: S, H) = xIs x_dd G rg l (L, S, xput H k j (.inr (.inl (2, n, xfu f i.toNat (xc16 x))))) := by simp [xIs, xI, x_or, x_ald, x_rd, x_ast, x_last, h, h0, h1]
theorem e_bastore {k j n : Nat} {i x : Int} {f : Nat → Int} (h : xcell H k j = some (.inr (.inl (1, n, f)))) (h0 : 0 ≤ i) (h1 : i < n) : xIs x_dd G rg (.bastore :: l) (L, .inl x :: .inl i :: .inr (.inr (.inl (k, j))) :: S, H) = xIs x_dd G rg l (L, S, xput H k j (.inr (.inl (1, n, xfu f i.toNat (xb8 x))))) := by simp [xIs, xI, x_or, x_ald, x_rd, x_ast, x_last, h, h0, h1]
theorem e_zastore {k j n : Nat} {i x : Int} {f : Nat → Int} (h : xcell H k j = some (.inr (.inl (4, n, f)))) (h0 : 0 ≤ i) (h1 : i < n) : xIs x_dd G rg (.bastore :: l) (L, .inl x :: .inl i :: .inr (.inr (.inl (k, j))) :: S, H) = xIs x_dd G rg l (L, S, xput H k j (.inr (.inl (4, n, xfu f i.toNat (xz1 x))))) := by simp [xIs, xI, x_or, x_ald, x_rd, x_ast, x_last, h, h0, h1]
theorem e_lastore {k j n : Nat} {i x : Int} {f : Nat → Int} (h : xcell H k j = some (.inr (.inl (3, n, f)))) (h0 : 0 ≤ i) (h1 : i < n) : xIs x_dd G rg (.lastore :: l) (L, .inr (.inl x) :: .inl i :: .inr (.inr (.inl (k, j))) :: S, H) = xIs x_dd G rg l (L, S, xput H k j (.inr (.inl (3, n, xfu f i.toNat x)))) := by simp [xIs, xI, x_or, x_ald, x_rd, x_ast, x_last, h, h0, h1]
theorem e_cs1 {q : Nat} {a0 : xV} {r : Option xV} {H' : xH} (hn : (G (q / 16)).1 = 1) (hc : (S.map xcat).sum ≤ 8) (h : (G (q / 16)).2 [a0] H = some (r, H')) : xIs x_dd G rg (.invokestatic q :: l) (L, a0 :: S, H) = xIs x_dd G rg l (L, r.toList ++ S, H') := by
  have e : x_call (G (q / 16)).1 (G (q / 16)).2 (L, a0 :: S, H) = some (L, r.toList ++ S, H') := by
    unfold x_call
    rw [hn, if_pos ⟨by simp, by simpa using hc⟩]
    simp only [List.take_succ_cons, List.take_zero, List.drop_succ_cons, List.drop_zero, List.reverse_cons, List.reverse_nil, List.nil_append, List.cons_append, h]
  simp only [xIs, xI, e, Option.bind_some]
theorem e_cv1 {q k j ci : Nat} {fs : List xV} {r : Option xV} {H' : xH} (hn : (G (q / 16)).1 = 1) (hc : (S.map xcat).sum ≤ 8) (hr : xcell H k j = some (.inl (ci, fs))) (hci : ci = q % 16) (h : (G (q / 16)).2 [.inr (.inr (.inl (k, j)))] H = some (r, H')) : xIs x_dd G rg (.invokevirtual q :: l) (L, .inr (.inr (.inl (k, j))) :: S, H) = xIs x_dd G rg l (L, r.toList ++ S, H') := by
  have e : x_call (G (q / 16)).1 (G (q / 16)).2 (L, .inr (.inr (.inl (k, j))) :: S, H) = some (L, r.toList ++ S, H') := by
    unfold x_call
    rw [hn, if_pos ⟨by simp, by simpa using hc⟩]
    simp only [List.take_succ_cons, List.take_zero, List.drop_succ_cons, List.drop_zero, List.reverse_cons, List.reverse_nil, List.nil_append, List.cons_append, h]
  have e2 : x_recv (q % 16) (L, .inr (.inr (.inl (k, j))) :: S, H) (G (q / 16)).1 = true := by
    unfold x_recv
    rw [hn]
    simp [hr, hci]
  simp only [xIs, xI, e, if_pos e2, Option.bind_some]
theorem e_cs2 {q : Nat} {a0 a1 : xV} {r : Option xV} {H' : xH} (hn : (G (q / 16)).1 = 2) (hc : (S.map xcat).sum ≤ 8) (h : (G (q / 16)).2 [a0, a1] H = some (r, H')) : xIs x_dd G rg (.invokestatic q :: l) (L, a1 :: a0 :: S, H) = xIs x_dd G rg l (L, r.toList ++ S, H') := by
  have e : x_call (G (q / 16)).1 (G (q / 16)).2 (L, a1 :: a0 :: S, H) = some (L, r.toList ++ S, H') := by
    unfold x_call
    rw [hn, if_pos ⟨by simp, by simpa using hc⟩]
    simp only [List.take_succ_cons, List.take_zero, List.drop_succ_cons, List.drop_zero, List.reverse_cons, List.reverse_nil, List.nil_append, List.cons_append, h]
  simp only [xIs, xI, e, Option.bind_some]
theorem e_cv2 {q k j ci : Nat} {fs : List xV} {a1 : xV} {r : Option xV} {H' : xH} (hn : (G (q / 16)).1 = 2) (hc : (S.map xcat).sum ≤ 8) (hr : xcell H k j = some (.inl (ci, fs))) (hci : ci = q % 16) (h : (G (q / 16)).2 [.inr (.inr (.inl (k, j))), a1] H = some (r, H')) : xIs x_dd G rg (.invokevirtual q :: l) (L, a1 :: .inr (.inr (.inl (k, j))) :: S, H) = xIs x_dd G rg l (L, r.toList ++ S, H') := by
  have e : x_call (G (q / 16)).1 (G (q / 16)).2 (L, a1 :: .inr (.inr (.inl (k, j))) :: S, H) = some (L, r.toList ++ S, H') := by
    unfold x_call
    rw [hn, if_pos ⟨by simp, by simpa using hc⟩]
    simp only [List.take_succ_cons, List.take_zero, List.drop_succ_cons, List.drop_zero, List.reverse_cons, List.reverse_nil, List.nil_append, List.cons_append, h]
  have e2 : x_recv (q % 16) (L, a1 :: .inr (.inr (.inl (k, j))) :: S, H) (G (q / 16)).1 = true := by
    unfold x_recv
    rw [hn]
    simp [hr, hci]
  simp only [xIs, xI, e, if_pos e2, Option.bind_some]
theorem e_cs3 {q : Nat} {a0 a1 a2 : xV} {r : Option xV} {H' : xH} (hn : (G (q / 16)).1 = 3) (hc : (S.map xcat).sum ≤ 8) (h : (G (q / 16)).2 [a0, a1, a2] H = some (r, H')) : xIs x_dd G rg (.invokestatic q :: l) (L, a2 :: a1 :: a0 :: S, H) = xIs x_dd G rg l (L, r.toList ++ S, H') := by
  have e : x_call (G (q / 16)).1 (G (q / 16)).2 (L, a2 :: a1 :: a0 :: S, H) = some (L, r.toList ++ S, H') := by
    unfold x_call
    rw [hn, if_pos ⟨by simp, by simpa using hc⟩]
    simp only [List.take_succ_cons, List.take_zero, List.drop_succ_cons, List.drop_zero, List.reverse_cons, List.reverse_nil, List.nil_append, List.cons_append, h]
  simp only [xIs, xI, e, Option.bind_some]
theorem e_cv3 {q k j ci : Nat} {fs : List xV} {a1 a2 : xV} {r : Option xV} {H' : xH} (hn : (G (q / 16)).1 = 3) (hc : (S.map xcat).sum ≤ 8) (hr : xcell H k j = some (.inl (ci, fs))) (hci : ci = q % 16) (h : (G (q / 16)).2 [.inr (.inr (.inl (k, j))), a1, a2] H = some (r, H')) : xIs x_dd G rg (.invokevirtual q :: l) (L, a2 :: a1 :: .inr (.inr (.inl (k, j))) :: S, H) = xIs x_dd G rg l (L, r.toList ++ S, H') := by
  have e : x_call (G (q / 16)).1 (G (q / 16)).2 (L, a2 :: a1 :: .inr (.inr (.inl (k, j))) :: S, H) = some (L, r.toList ++ S, H') := by
    unfold x_call
    rw [hn, if_pos ⟨by simp, by simpa using hc⟩]
    simp only [List.take_succ_cons, List.take_zero, List.drop_succ_cons, List.drop_zero, List.reverse_cons, List.reverse_nil, List.nil_append, List.cons_append, h]
  have e2 : x_recv (q % 16) (L, a2 :: a1 :: .inr (.inr (.inl (k, j))) :: S, H) (G (q / 16)).1 = true := by
    unfold x_recv
    rw [hn]
    simp [hr, hci]
  simp only [xIs, xI, e, if_pos e2, Option.bind_some]
theorem e_cs4 {q : Nat} {a0 a1 a2 a3 : xV} {r : Option xV} {H' : xH} (hn : (G (q / 16)).1 = 4) (hc : (S.map xcat).sum ≤ 8) (h : (G (q / 16)).2 [a0, a1, a2, a3] H = some (r, H')) : xIs x_dd G rg (.invokestatic q :: l) (L, a3 :: a2 :: a1 :: a0 :: S, H) = xIs x_dd G rg l (L, r.toList ++ S, H') := by
  have e : x_call (G (q / 16)).1 (G (q / 16)).2 (L, a3 :: a2 :: a1 :: a0 :: S, H) = some (L, r.toList ++ S, H') := by
    unfold x_call
    rw [hn, if_pos ⟨by simp, by simpa using hc⟩]
    simp only [List.take_succ_cons, List.take_zero, List.drop_succ_cons, List.drop_zero, List.reverse_cons, List.reverse_nil, List.nil_append, List.cons_append, h]
  simp only [xIs, xI, e, Option.bind_some]
theorem e_cv4 {q k j ci : Nat} {fs : List xV} {a1 a2 a3 : xV} {r : Option xV} {H' : xH} (hn : (G (q / 16)).1 = 4) (hc : (S.map xcat).sum ≤ 8) (hr : xcell H k j = some (.inl (ci, fs))) (hci : ci = q % 16) (h : (G (q / 16)).2 [.inr (.inr (.inl (k, j))), a1, a2, a3] H = some (r, H')) : xIs x_dd G rg (.invokevirtual q :: l) (L, a3 :: a2 :: a1 :: .inr (.inr (.inl (k, j))) :: S, H) = xIs x_dd G rg l (L, r.toList ++ S, H') := by
  have e : x_call (G (q / 16)).1 (G (q / 16)).2 (L, a3 :: a2 :: a1 :: .inr (.inr (.inl (k, j))) :: S, H) = some (L, r.toList ++ S, H') := by
    unfold x_call
    rw [hn, if_pos ⟨by simp, by simpa using hc⟩]
    simp only [List.take_succ_cons, List.take_zero, List.drop_succ_cons, List.drop_zero, List.reverse_cons, List.reverse_nil, List.nil_append, List.cons_append, h]
  have e2 : x_recv (q % 16) (L, a3 :: a2 :: a1 :: .inr (.inr (.inl (k, j))) :: S, H) (G (q / 16)).1 = true := by
    unfold x_recv
    rw [hn]
    simp [hr, hci]
  simp only [xIs, xI, e, if_pos e2, Option.bind_some]
theorem e_cs5 {q : Nat} {a0 a1 a2 a3 a4 : xV} {r : Option xV} {H' : xH} (hn : (G (q / 16)).1 = 5) (hc : (S.map xcat).sum ≤ 8) (h : (G (q / 16)).2 [a0, a1, a2, a3, a4] H = some (r, H')) : xIs x_dd G rg (.invokestatic q :: l) (L, a4 :: a3 :: a2 :: a1 :: a0 :: S, H) = xIs x_dd G rg l (L, r.toList ++ S, H') := by
  have e : x_call (G (q / 16)).1 (G (q / 16)).2 (L, a4 :: a3 :: a2 :: a1 :: a0 :: S, H) = some (L, r.toList ++ S, H') := by
    unfold x_call
    rw [hn, if_pos ⟨by simp, by simpa using hc⟩]
    simp only [List.take_succ_cons, List.take_zero, List.drop_succ_cons, List.drop_zero, List.reverse_cons, List.reverse_nil, List.nil_append, List.cons_append, h]
  simp only [xIs, xI, e, Option.bind_some]
theorem e_cv5 {q k j ci : Nat} {fs : List xV} {a1 a2 a3 a4 : xV} {r : Option xV} {H' : xH} (hn : (G (q / 16)).1 = 5) (hc : (S.map xcat).sum ≤ 8) (hr : xcell H k j = some (.inl (ci, fs))) (hci : ci = q % 16) (h : (G (q / 16)).2 [.inr (.inr (.inl (k, j))), a1, a2, a3, a4] H = some (r, H')) : xIs x_dd G rg (.invokevirtual q :: l) (L, a4 :: a3 :: a2 :: a1 :: .inr (.inr (.inl (k, j))) :: S, H) = xIs x_dd G rg l (L, r.toList ++ S, H') := by
  have e : x_call (G (q / 16)).1 (G (q / 16)).2 (L, a4 :: a3 :: a2 :: a1 :: .inr (.inr (.inl (k, j))) :: S, H) = some (L, r.toList ++ S, H') := by
    unfold x_call
    rw [hn, if_pos ⟨by simp, by simpa using hc⟩]
    simp only [List.take_succ_cons, List.take_zero, List.drop_succ_cons, List.drop_zero, List.reverse_cons, List.reverse_nil, List.nil_append, List.cons_append, h]
  have e2 : x_recv (q % 16) (L, a4 :: a3 :: a2 :: a1 :: .inr (.inr (.inl (k, j))) :: S, H) (G (q / 16)).1 = true := by
    unfold x_recv
    rw [hn]
    simp [hr, hci]
  simp only [xIs, xI, e, if_pos e2, Option.bind_some]
theorem e_cs6 {q : Nat} {a0 a1 a2 a3 a4 a5 : xV} {r : Option xV} {H' : xH} (hn : (G (q / 16)).1 = 6) (hc : (S.map xcat).sum ≤ 8) (h : (G (q / 16)).2 [a0, a1, a2, a3, a4, a5] H = some (r, H')) : xIs x_dd G rg (.invokestatic q :: l) (L, a5 :: a4 :: a3 :: a2 :: a1 :: a0 :: S, H) = xIs x_dd G rg l (L, r.toList ++ S, H') := by
  have e : x_call (G (q / 16)).1 (G (q / 16)).2 (L, a5 :: a4 :: a3 :: a2 :: a1 :: a0 :: S, H) = some (L, r.toList ++ S, H') := by
    unfold x_call
    rw [hn, if_pos ⟨by simp, by simpa using hc⟩]
    simp only [List.take_succ_cons, List.take_zero, List.drop_succ_cons, List.drop_zero, List.reverse_cons, List.reverse_nil, List.nil_append, List.cons_append, h]
  simp only [xIs, xI, e, Option.bind_some]
theorem e_cv6 {q k j ci : Nat} {fs : List xV} {a1 a2 a3 a4 a5 : xV} {r : Option xV} {H' : xH} (hn : (G (q / 16)).1 = 6) (hc : (S.map xcat).sum ≤ 8) (hr : xcell H k j = some (.inl (ci, fs))) (hci : ci = q % 16) (h : (G (q / 16)).2 [.inr (.inr (.inl (k, j))), a1, a2, a3, a4, a5] H = some (r, H')) : xIs x_dd G rg (.invokevirtual q :: l) (L, a5 :: a4 :: a3 :: a2 :: a1 :: .inr (.inr (.inl (k, j))) :: S, H) = xIs x_dd G rg l (L, r.toList ++ S, H') := by
  have e : x_call (G (q / 16)).1 (G (q / 16)).2 (L, a5 :: a4 :: a3 :: a2 :: a1 :: .inr (.inr (.inl (k, j))) :: S, H) = some (L, r.toList ++ S, H') := by
    unfold x_call
    rw [hn, if_pos ⟨by simp, by simpa using hc⟩]
    simp only [List.take_succ_cons, List.take_zero, List.drop_succ_cons, List.drop_zero, List.reverse_cons, List.reverse_nil, List.nil_append, List.cons_append, h]
  have e2 : x_recv (q % 16) (L, a5 :: a4 :: a3 :: a2 :: a1 :: .inr (.inr (.inl (k, j))) :: S, H) (G (q / 16)).1 = true := by
    unfold x_recv
    rw [hn]
    simp [hr, hci]
  simp only [xIs, xI, e, if_pos e2, Option.bind_some]
theorem e_s1 {q : Nat} {a0 : xV} (hn : (G (q / 16)).1 = 1) (hc : (S.map xcat).sum ≤ 8) : xIs x_dd G rg (.invokestatic q :: l) (L, a0 :: S, H) = ((G (q / 16)).2 [a0] H).bind (fun z => xIs x_dd G rg l (L, z.1.toList ++ S, z.2)) := by
  have e : x_call (G (q / 16)).1 (G (q / 16)).2 (L, a0 :: S, H) = ((G (q / 16)).2 [a0] H).map (fun z => (L, z.1.toList ++ S, z.2)) := by
    unfold x_call
    rw [hn, if_pos ⟨by simp, by simpa using hc⟩]
    simp only [List.take_succ_cons, List.take_zero, List.drop_succ_cons, List.drop_zero, List.reverse_cons, List.reverse_nil, List.nil_append, List.cons_append]
    cases (G (q / 16)).2 [a0] H with
    | none => rfl
    | some z => rfl
  simp only [xIs, xI, e, Option.bind_map]
  rfl
theorem e_v1 {q k j : Nat} (hn : (G (q / 16)).1 = 1) (hc : (S.map xcat).sum ≤ 8) (hr : x_isc H k j (q % 16) = true) : xIs x_dd G rg (.invokevirtual q :: l) (L, .inr (.inr (.inl (k, j))) :: S, H) = ((G (q / 16)).2 [.inr (.inr (.inl (k, j)))] H).bind (fun z => xIs x_dd G rg l (L, z.1.toList ++ S, z.2)) := by
  have e : x_call (G (q / 16)).1 (G (q / 16)).2 (L, .inr (.inr (.inl (k, j))) :: S, H) = ((G (q / 16)).2 [.inr (.inr (.inl (k, j)))] H).map (fun z => (L, z.1.toList ++ S, z.2)) := by
    unfold x_call
    rw [hn, if_pos ⟨by simp, by simpa using hc⟩]
    simp only [List.take_succ_cons, List.take_zero, List.drop_succ_cons, List.drop_zero, List.reverse_cons, List.reverse_nil, List.nil_append, List.cons_append]
    cases (G (q / 16)).2 [.inr (.inr (.inl (k, j)))] H with
    | none => rfl
    | some z => rfl
  have e2 : x_recv (q % 16) (L, .inr (.inr (.inl (k, j))) :: S, H) (G (q / 16)).1 = true := by
    unfold x_isc at hr
    unfold x_recv
    rw [hn]
    split at hr
    · rename_i ci fs hx
      simp only [decide_eq_true_eq] at hr
      simp [hx, hr]
    · cases hr
  simp only [xIs, xI, e, if_pos e2, Option.bind_map]
  rfl
theorem e_s2 {q : Nat} {a0 a1 : xV} (hn : (G (q / 16)).1 = 2) (hc : (S.map xcat).sum ≤ 8) : xIs x_dd G rg (.invokestatic q :: l) (L, a1 :: a0 :: S, H) = ((G (q / 16)).2 [a0, a1] H).bind (fun z => xIs x_dd G rg l (L, z.1.toList ++ S, z.2)) := by
  have e : x_call (G (q / 16)).1 (G (q / 16)).2 (L, a1 :: a0 :: S, H) = ((G (q / 16)).2 [a0, a1] H).map (fun z => (L, z.1.toList ++ S, z.2)) := by
    unfold x_call
    rw [hn, if_pos ⟨by simp, by simpa using hc⟩]
    simp only [List.take_succ_cons, List.take_zero, List.drop_succ_cons, List.drop_zero, List.reverse_cons, List.reverse_nil, List.nil_append, List.cons_append]
    cases (G (q / 16)).2 [a0, a1] H with
    | none => rfl
    | some z => rfl
  simp only [xIs, xI, e, Option.bind_map]
  rfl
theorem e_v2 {q k j : Nat} {a1 : xV} (hn : (G (q / 16)).1 = 2) (hc : (S.map xcat).sum ≤ 8) (hr : x_isc H k j (q % 16) = true) : xIs x_dd G rg (.invokevirtual q :: l) (L, a1 :: .inr (.inr (.inl (k, j))) :: S, H) = ((G (q / 16)).2 [.inr (.inr (.inl (k, j))), a1] H).bind (fun z => xIs x_dd G rg l (L, z.1.toList ++ S, z.2)) := by
  have e : x_call (G (q / 16)).1 (G (q / 16)).2 (L, a1 :: .inr (.inr (.inl (k, j))) :: S, H) = ((G (q / 16)).2 [.inr (.inr (.inl (k, j))), a1] H).map (fun z => (L, z.1.toList ++ S, z.2)) := by
    unfold x_call
    rw [hn, if_pos ⟨by simp, by simpa using hc⟩]
    simp only [List.take_succ_cons, List.take_zero, List.drop_succ_cons, List.drop_zero, List.reverse_cons, List.reverse_nil, List.nil_append, List.cons_append]
    cases (G (q / 16)).2 [.inr (.inr (.inl (k, j))), a1] H with
    | none => rfl
    | some z => rfl
  have e2 : x_recv (q % 16) (L, a1 :: .inr (.inr (.inl (k, j))) :: S, H) (G (q / 16)).1 = true := by
    unfold x_isc at hr
    unfold x_recv
    rw [hn]
    split at hr
    · rename_i ci fs hx
      simp only [decide_eq_true_eq] at hr
      simp [hx, hr]
    · cases hr
  simp only [xIs, xI, e, if_pos e2, Option.bind_map]
  rfl
theorem e_s3 {q : Nat} {a0 a1 a2 : xV} (hn : (G (q / 16)).1 = 3) (hc : (S.map xcat).sum ≤ 8) : xIs x_dd G rg (.invokestatic q :: l) (L, a2 :: a1 :: a0 :: S, H) = ((G (q / 16)).2 [a0, a1, a2] H).bind (fun z => xIs x_dd G rg l (L, z.1.toList ++ S, z.2)) := by
  have e : x_call (G (q / 16)).1 (G (q / 16)).2 (L, a2 :: a1 :: a0 :: S, H) = ((G (q / 16)).2 [a0, a1, a2] H).map (fun z => (L, z.1.toList ++ S, z.2)) := by
    unfold x_call
    rw [hn, if_pos ⟨by simp, by simpa using hc⟩]
    simp only [List.take_succ_cons, List.take_zero, List.drop_succ_cons, List.drop_zero, List.reverse_cons, List.reverse_nil, List.nil_append, List.cons_append]
    cases (G (q / 16)).2 [a0, a1, a2] H with
    | none => rfl
    | some z => rfl
  simp only [xIs, xI, e, Option.bind_map]
  rfl
theorem e_v3 {q k j : Nat} {a1 a2 : xV} (hn : (G (q / 16)).1 = 3) (hc : (S.map xcat).sum ≤ 8) (hr : x_isc H k j (q % 16) = true) : xIs x_dd G rg (.invokevirtual q :: l) (L, a2 :: a1 :: .inr (.inr (.inl (k, j))) :: S, H) = ((G (q / 16)).2 [.inr (.inr (.inl (k, j))), a1, a2] H).bind (fun z => xIs x_dd G rg l (L, z.1.toList ++ S, z.2)) := by
  have e : x_call (G (q / 16)).1 (G (q / 16)).2 (L, a2 :: a1 :: .inr (.inr (.inl (k, j))) :: S, H) = ((G (q / 16)).2 [.inr (.inr (.inl (k, j))), a1, a2] H).map (fun z => (L, z.1.toList ++ S, z.2)) := by
    unfold x_call
    rw [hn, if_pos ⟨by simp, by simpa using hc⟩]
    simp only [List.take_succ_cons, List.take_zero, List.drop_succ_cons, List.drop_zero, List.reverse_cons, List.reverse_nil, List.nil_append, List.cons_append]
    cases (G (q / 16)).2 [.inr (.inr (.inl (k, j))), a1, a2] H with
    | none => rfl
    | some z => rfl
  have e2 : x_recv (q % 16) (L, a2 :: a1 :: .inr (.inr (.inl (k, j))) :: S, H) (G (q / 16)).1 = true := by
    unfold x_isc at hr
    unfold x_recv
    rw [hn]
    split at hr
    · rename_i ci fs hx
      simp only [decide_eq_true_eq] at hr
      simp [hx, hr]
    · cases hr
  simp only [xIs, xI, e, if_pos e2, Option.bind_map]
  rfl
theorem e_s4 {q : Nat} {a0 a1 a2 a3 : xV} (hn : (G (q / 16)).1 = 4) (hc : (S.map xcat).sum ≤ 8) : xIs x_dd G rg (.invokestatic q :: l) (L, a3 :: a2 :: a1 :: a0 :: S, H) = ((G (q / 16)).2 [a0, a1, a2, a3] H).bind (fun z => xIs x_dd G rg l (L, z.1.toList ++ S, z.2)) := by
  have e : x_call (G (q / 16)).1 (G (q / 16)).2 (L, a3 :: a2 :: a1 :: a0 :: S, H) = ((G (q / 16)).2 [a0, a1, a2, a3] H).map (fun z => (L, z.1.toList ++ S, z.2)) := by
    unfold x_call
    rw [hn, if_pos ⟨by simp, by simpa using hc⟩]
    simp only [List.take_succ_cons, List.take_zero, List.drop_succ_cons, List.drop_zero, List.reverse_cons, List.reverse_nil, List.nil_append, List.cons_append]
    cases (G (q / 16)).2 [a0, a1, a2, a3] H with
    | none => rfl
    | some z => rfl
  simp only [xIs, xI, e, Option.bind_map]
  rfl
theorem e_v4 {q k j : Nat} {a1 a2 a3 : xV} (hn : (G (q / 16)).1 = 4) (hc : (S.map xcat).sum ≤ 8) (hr : x_isc H k j (q % 16) = true) : xIs x_dd G rg (.invokevirtual q :: l) (L, a3 :: a2 :: a1 :: .inr (.inr (.inl (k, j))) :: S, H) = ((G (q / 16)).2 [.inr (.inr (.inl (k, j))), a1, a2, a3] H).bind (fun z => xIs x_dd G rg l (L, z.1.toList ++ S, z.2)) := by
  have e : x_call (G (q / 16)).1 (G (q / 16)).2 (L, a3 :: a2 :: a1 :: .inr (.inr (.inl (k, j))) :: S, H) = ((G (q / 16)).2 [.inr (.inr (.inl (k, j))), a1, a2, a3] H).map (fun z => (L, z.1.toList ++ S, z.2)) := by
    unfold x_call
    rw [hn, if_pos ⟨by simp, by simpa using hc⟩]
    simp only [List.take_succ_cons, List.take_zero, List.drop_succ_cons, List.drop_zero, List.reverse_cons, List.reverse_nil, List.nil_append, List.cons_append]
    cases (G (q / 16)).2 [.inr (.inr (.inl (k, j))), a1, a2, a3] H with
    | none => rfl
    | some z => rfl
  have e2 : x_recv (q % 16) (L, a3 :: a2 :: a1 :: .inr (.inr (.inl (k, j))) :: S, H) (G (q / 16)).1 = true := by
    unfold x_isc at hr
    unfold x_recv
    rw [hn]
    split at hr
    · rename_i ci fs hx
      simp only [decide_eq_true_eq] at hr
      simp [hx, hr]
    · cases hr
  simp only [xIs, xI, e, if_pos e2, Option.bind_map]
  rfl
theorem e_s5 {q : Nat} {a0 a1 a2 a3 a4 : xV} (hn : (G (q / 16)).1 = 5) (hc : (S.map xcat).sum ≤ 8) : xIs x_dd G rg (.invokestatic q :: l) (L, a4 :: a3 :: a2 :: a1 :: a0 :: S, H) = ((G (q / 16)).2 [a0, a1, a2, a3, a4] H).bind (fun z => xIs x_dd G rg l (L, z.1.toList ++ S, z.2)) := by
  have e : x_call (G (q / 16)).1 (G (q / 16)).2 (L, a4 :: a3 :: a2 :: a1 :: a0 :: S, H) = ((G (q / 16)).2 [a0, a1, a2, a3, a4] H).map (fun z => (L, z.1.toList ++ S, z.2)) := by
    unfold x_call
    rw [hn, if_pos ⟨by simp, by simpa using hc⟩]
    simp only [List.take_succ_cons, List.take_zero, List.drop_succ_cons, List.drop_zero, List.reverse_cons, List.reverse_nil, List.nil_append, List.cons_append]
    cases (G (q / 16)).2 [a0, a1, a2, a3, a4] H with
    | none => rfl
    | some z => rfl
  simp only [xIs, xI, e, Option.bind_map]
  rfl
theorem e_v5 {q k j : Nat} {a1 a2 a3 a4 : xV} (hn : (G (q / 16)).1 = 5) (hc : (S.map xcat).sum ≤ 8) (hr : x_isc H k j (q % 16) = true) : xIs x_dd G rg (.invokevirtual q :: l) (L, a4 :: a3 :: a2 :: a1 :: .inr (.inr (.inl (k, j))) :: S, H) = ((G (q / 16)).2 [.inr (.inr (.inl (k, j))), a1, a2, a3, a4] H).bind (fun z => xIs x_dd G rg l (L, z.1.toList ++ S, z.2)) := by
  have e : x_call (G (q / 16)).1 (G (q / 16)).2 (L, a4 :: a3 :: a2 :: a1 :: .inr (.inr (.inl (k, j))) :: S, H) = ((G (q / 16)).2 [.inr (.inr (.inl (k, j))), a1, a2, a3, a4] H).map (fun z => (L, z.1.toList ++ S, z.2)) := by
    unfold x_call
    rw [hn, if_pos ⟨by simp, by simpa using hc⟩]
    simp only [List.take_succ_cons, List.take_zero, List.drop_succ_cons, List.drop_zero, List.reverse_cons, List.reverse_nil, List.nil_append, List.cons_append]
    cases (G (q / 16)).2 [.inr (.inr (.inl (k, j))), a1, a2, a3, a4] H with
    | none => rfl
    | some z => rfl
  have e2 : x_recv (q % 16) (L, a4 :: a3 :: a2 :: a1 :: .inr (.inr (.inl (k, j))) :: S, H) (G (q / 16)).1 = true := by
    unfold x_isc at hr
    unfold x_recv
    rw [hn]
    split at hr
    · rename_i ci fs hx
      simp only [decide_eq_true_eq] at hr
      simp [hx, hr]
    · cases hr
  simp only [xIs, xI, e, if_pos e2, Option.bind_map]
  rfl
theorem e_s6 {q : Nat} {a0 a1 a2 a3 a4 a5 : xV} (hn : (G (q / 16)).1 = 6) (hc : (S.map xcat).sum ≤ 8) : xIs x_dd G rg (.invokestatic q :: l) (L, a5 :: a4 :: a3 :: a2 :: a1 :: a0 :: S, H) = ((G (q / 16)).2 [a0, a1, a2, a3, a4, a5] H).bind (fun z => xIs x_dd G rg l (L, z.1.toList ++ S, z.2)) := by
  have e : x_call (G (q / 16)).1 (G (q / 16)).2 (L, a5 :: a4 :: a3 :: a2 :: a1 :: a0 :: S, H) = ((G (q / 16)).2 [a0, a1, a2, a3, a4, a5] H).map (fun z => (L, z.1.toList ++ S, z.2)) := by
    unfold x_call
    rw [hn, if_pos ⟨by simp, by simpa using hc⟩]
    simp only [List.take_succ_cons, List.take_zero, List.drop_succ_cons, List.drop_zero, List.reverse_cons, List.reverse_nil, List.nil_append, List.cons_append]
    cases (G (q / 16)).2 [a0, a1, a2, a3, a4, a5] H with
    | none => rfl
    | some z => rfl
  simp only [xIs, xI, e, Option.bind_map]
  rfl
theorem e_v6 {q k j : Nat} {a1 a2 a3 a4 a5 : xV} (hn : (G (q / 16)).1 = 6) (hc : (S.map xcat).sum ≤ 8) (hr : x_isc H k j (q % 16) = true) : xIs x_dd G rg (.invokevirtual q :: l) (L, a5 :: a4 :: a3 :: a2 :: a1 :: .inr (.inr (.inl (k, j))) :: S, H) = ((G (q / 16)).2 [.inr (.inr (.inl (k, j))), a1, a2, a3, a4, a5] H).bind (fun z => xIs x_dd G rg l (L, z.1.toList ++ S, z.2)) := by
  have e : x_call (G (q / 16)).1 (G (q / 16)).2 (L, a5 :: a4 :: a3 :: a2 :: a1 :: .inr (.inr (.inl (k, j))) :: S, H) = ((G (q / 16)).2 [.inr (.inr (.inl (k, j))), a1, a2, a3, a4, a5] H).map (fun z => (L, z.1.toList ++ S, z.2)) := by
    unfold x_call
    rw [hn, if_pos ⟨by simp, by simpa using hc⟩]
    simp only [List.take_succ_cons, List.take_zero, List.drop_succ_cons, List.drop_zero, List.reverse_cons, List.reverse_nil, List.nil_append, List.cons_append]
    cases (G (q / 16)).2 [.inr (.inr (.inl (k, j))), a1, a2, a3, a4, a5] H with
    | none => rfl
    | some z => rfl
  have e2 : x_recv (q % 16) (L, a5 :: a4 :: a3 :: a2 :: a1 :: .inr (.inr (.inl (k, j))) :: S, H) (G (q / 16)).1 = true := by
    unfold x_isc at hr
    unfold x_recv
    rw [hn]
    split at hr
    · rename_i ci fs hx
      simp only [decide_eq_true_eq] at hr
      simp [hx, hr]
    · cases hr
  simp only [xIs, xI, e, if_pos e2, Option.bind_map]
  rfl
theorem e_ops {s s' : xS} {b : xP} (h : xIs x_dd G rg l s = some s') : p_sq (p_ops x_dd G rg l) b s = b s' := by simp only [p_sq, p_ops, h, Option.map_some]
/-- a loop that counts -/
theorem e_for {a : xP} {s : Nat → xS} {N k : Nat} {e : xS} (hs : ∀ i, i < N → a (s i) = some (.inl 1, s (i + 1))) (he : a (s N) = some (.inl (k + 2), e)) : p_lop a (s 0) = some (.inl (k + 1), e) := by
  have key : ∀ j, j ≤ N → p_lop a (s (N - j)) = some (.inl (k + 1), e) := by
    intro j
    induction j with
    | zero =>
      intro _
      rw [p_lop_eq, Nat.sub_zero, he]
    | succ j ih =>
      intro hj
      rw [p_lop_eq, hs _ (by omega)]
      have := ih (by omega)
      rw [show N - j = N - (j + 1) + 1 by omega] at this
      exact this
  have := key N (Nat.le_refl _)
  rwa [Nat.sub_self] at this
end EV
/-- f at 0, 1 .. n - 1, one after the other -/
def xit {α : Type} (f : Nat → α → α) : Nat → α → α
  | 0, a => a
  | n + 1, a => f n (xit f n a)
