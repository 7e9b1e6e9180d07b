/-! ===== The machine in small: values, cells, a heap in regions, one step, and programs put together of steps ===== -/
/-- a value: an int, a long, a cell (region, place), or none of them (0 null, 1 the script, 2 nothing) -/
abbrev xV : Type := Int ⊕ Int ⊕ (Nat × Nat) ⊕ Nat
/-- a cell: an object (class, fields), a row of numbers (kind, length, contents), a row of objects (class, length, contents) -/
abbrev xC : Type := (Nat × List xV) ⊕ (Nat × Nat × (Nat → Int)) ⊕ (Nat × Nat × (Nat → Option (Nat × Nat)))
/-- the heap: regions 0, 1, 2, the regions from 3 on; how many of these were begun; cells, slots made -/
abbrev xH : Type := List xC × List xC × List xC × (Nat → List xC) × Nat × Nat × Nat
/-- locals, stack, heap -/
abbrev xS : Type := List xV × List xV × xH
def xfu {α : Type} (f : Nat → α) (k : Nat) (v : α) : Nat → α := fun j => if j = k then v else f j
theorem xfu_self {α : Type} (f : Nat → α) (k : Nat) (v : α) : xfu f k v k = v := by simp [xfu]
theorem xfu_ne {α : Type} (f : Nat → α) {k j : Nat} (v : α) (h : j ≠ k) : xfu f k v j = f j := by simp [xfu, h]
theorem xfu_twice {α : Type} (f : Nat → α) (k : Nat) (v w : α) : xfu (xfu f k v) k w = xfu f k w := by
  funext j; by_cases h : j = k <;> simp [xfu, h]
theorem xfu_get {α : Type} (f : Nat → α) (k : Nat) : xfu f k (f k) = f := by
  funext j; by_cases h : j = k <;> simp [xfu, h]
def xrg (H : xH) (k : Nat) : List xC := match k with
  | 0 => H.1
  | 1 => H.2.1
  | 2 => H.2.2.1
  | k + 3 => H.2.2.2.1 k
def xrs (H : xH) (k : Nat) (l : List xC) : xH := match k with
  | 0 => (l, H.2)
  | 1 => (H.1, l, H.2.2)
  | 2 => (H.1, H.2.1, l, H.2.2.2)
  | k + 3 => (H.1, H.2.1, H.2.2.1, xfu H.2.2.2.1 k l, H.2.2.2.2)
theorem xrg_xrs (H : xH) (k j : Nat) (l : List xC) : xrg (xrs H k l) j = if j = k then l else xrg H j := by
  match k, j with
  | 0, 0 => rfl
  | 0, 1 => rfl
  | 0, 2 => rfl
  | 0, j + 3 => simp [xrg, xrs]
  | 1, 0 => rfl
  | 1, 1 => rfl
  | 1, 2 => rfl
  | 1, j + 3 => simp [xrg, xrs]
  | 2, 0 => rfl
  | 2, 1 => rfl
  | 2, 2 => rfl
  | 2, j + 3 => simp [xrg, xrs]
  | k + 3, 0 => simp [xrg, xrs]
  | k + 3, 1 => simp [xrg, xrs]
  | k + 3, 2 => simp [xrg, xrs]
  | k + 3, j + 3 => simp [xrg, xrs, xfu]
/-- cells made, slots made -/
def xnc (H : xH) : Nat := H.2.2.2.2.2.1
def xns (H : xH) : Nat := H.2.2.2.2.2.2
theorem xnc_xrs (H : xH) (k : Nat) (l : List xC) : xnc (xrs H k l) = xnc H := by
  match k with
  | 0 => rfl
  | 1 => rfl
  | 2 => rfl
  | k + 3 => rfl
theorem xns_xrs (H : xH) (k : Nat) (l : List xC) : xns (xrs H k l) = xns H := by
  match k with
  | 0 => rfl
  | 1 => rfl
  | 2 => rfl
  | k + 3 => rfl
def xcell (H : xH) (k i : Nat) : Option xC := (xrg H k)[i]?
def xput (H : xH) (k i : Nat) (c : xC) : xH := xrs H k ((xrg H k).set i c)
/-- one cell and n slots more -/
def xcount (H : xH) (n : Nat) : xH := (H.1, H.2.1, H.2.2.1, H.2.2.2.1, H.2.2.2.2.1, H.2.2.2.2.2.1 + 1, H.2.2.2.2.2.2 + n)
def xpush (H : xH) (k : Nat) (c : xC) (n : Nat) : xH := xcount (xrs H k (xrg H k ++ [c])) n
def xbegin (H : xH) : xH := (H.1, H.2.1, H.2.2.1, H.2.2.2.1, H.2.2.2.2.1 + 1, H.2.2.2.2.2)
theorem xrg_xcount (H : xH) (n k : Nat) : xrg (xcount H n) k = xrg H k := by
  match k with
  | 0 => rfl
  | 1 => rfl
  | 2 => rfl
  | k + 3 => rfl
theorem xrg_xbegin (H : xH) (k : Nat) : xrg (xbegin H) k = xrg H k := by
  match k with
  | 0 => rfl
  | 1 => rfl
  | 2 => rfl
  | k + 3 => rfl
theorem xcell_xput (H : xH) (k i k' i' : Nat) (c : xC) (h : i < (xrg H k).length) : xcell (xput H k i c) k' i' = if k' = k ∧ i' = i then some c else xcell H k' i' := by
  unfold xcell xput
  rw [xrg_xrs]
  by_cases hk : k' = k
  · subst hk
    rw [if_pos rfl]
    by_cases hi : i' = i
    · subst hi
      rw [if_pos ⟨rfl, rfl⟩, List.getElem?_set_self h]
    · rw [if_neg (fun q => hi q.2), List.getElem?_set_ne (Ne.symm hi)]
  · rw [if_neg hk, if_neg (fun q => hk q.1)]
theorem xcell_xpush (H : xH) (k k' i' : Nat) (c : xC) (n : Nat) : xcell (xpush H k c n) k' i' = if k' = k ∧ i' = (xrg H k).length then some c else xcell H k' i' := by
  unfold xcell xpush
  rw [xrg_xcount, xrg_xrs]
  by_cases hk : k' = k
  · subst hk
    rw [if_pos rfl]
    by_cases hi : i' = (xrg H k').length
    · subst hi
      rw [if_pos ⟨rfl, rfl⟩]
      simp
    · rw [if_neg (fun q => hi q.2)]
      by_cases hl : i' < (xrg H k').length
      · rw [List.getElem?_append_left hl]
      · rw [List.getElem?_eq_none (by simp; omega), List.getElem?_eq_none (by omega)]
  · rw [if_neg hk, if_neg (fun q => hk q.1)]
/-- numbers -/
def xw (n : Int) : Int := (n + 2147483648) % 4294967296 - 2147483648
def xlw (n : Int) : Int := (n + 9223372036854775808) % 18446744073709551616 - 9223372036854775808
def xin (n : Int) : Prop := -2147483648 ≤ n ∧ n < 2147483648
def xlin (n : Int) : Prop := -9223372036854775808 ≤ n ∧ n < 9223372036854775808
theorem xw_in (n : Int) : xin (xw n) := by unfold xin xw; omega
theorem xlw_in (n : Int) : xlin (xlw n) := by unfold xlin xlw; omega
theorem xw_id {n : Int} (h1 : -2147483648 ≤ n) (h2 : n < 2147483648) : xw n = n := by unfold xw; omega
theorem xlw_id {n : Int} (h1 : -9223372036854775808 ≤ n) (h2 : n < 9223372036854775808) : xlw n = n := by unfold xlw; omega
def xand (a b : Int) : Int := (Int32.ofInt a &&& Int32.ofInt b).toInt
def xor_ (a b : Int) : Int := (Int32.ofInt a ||| Int32.ofInt b).toInt
def xxor (a b : Int) : Int := (Int32.ofInt a ^^^ Int32.ofInt b).toInt
def xshl (a b : Int) : Int := (Int32.ofInt a <<< (Int32.ofInt b &&& 31)).toInt
def xshr (a b : Int) : Int := (Int32.ofInt a >>> (Int32.ofInt b &&& 31)).toInt
def xushr (a b : Int) : Int := ((Int32.ofInt a).toUInt32 >>> ((Int32.ofInt b).toUInt32 &&& Int32.toUInt32 31)).toInt32.toInt
def xb8 (a : Int) : Int := (Int32.ofInt a).toInt8.toInt32.toInt
def xs16 (a : Int) : Int := (Int32.ofInt a).toInt16.toInt32.toInt
def xc16 (a : Int) : Int := ((Int32.ofInt a).toUInt32 % 65536).toInt32.toInt
def xz1 (a : Int) : Int := (vp_nar .boolean (Int32.ofInt a)).toInt
def xcat (v : xV) : Nat := match v with
  | .inr (.inl _) => 2
  | _ => 1
/-- a local is written: a value of one place, of two -/
def xst (L : List xV) (i : Nat) (v : xV) : List xV := match i with
  | 0 => L.set 0 v
  | j + 1 => match L[j]? with
    | some (.inr (.inl _)) => (L.set j (.inr (.inr (.inr 2)))).set (j + 1) v
    | _ => L.set (j + 1) v
def xst2 (L : List xV) (i : Nat) (v : xV) : List xV := (xst L i v).set (i + 1) (.inr (.inr (.inr 2)))
/-- what calls do: how many arguments, what comes of them -/
abbrev xG : Type := Nat → Nat × (List xV → xH → Option (Option xV × xH))
def x_un (f : Int → Int) (s : xS) : Option xS := match s with
  | (L, .inl x :: S, H) => some (L, .inl (f x) :: S, H)
  | _ => none
def x_bin (f : Int → Int → Int) (s : xS) : Option xS := match s with
  | (L, .inl y :: .inl x :: S, H) => some (L, .inl (f x y) :: S, H)
  | _ => none
def x_lbin (f : Int → Int → Int) (s : xS) : Option xS := match s with
  | (L, .inr (.inl y) :: .inr (.inl x) :: S, H) => some (L, .inr (.inl (f x y)) :: S, H)
  | _ => none
/-- a number out of a row of kind t -/
def x_rd (t : Nat) (s : xS) : Option (Int × xS) := match s with
  | (L, .inl i :: .inr (.inr (.inl (k, j))) :: S, H) => match xcell H k j with
    | some (.inr (.inl (t', n, f))) => if t' = t ∧ 0 ≤ i ∧ i < n then some (f i.toNat, L, S, H) else none
    | _ => none
  | _ => none
def x_ald (t : Nat) (s : xS) : Option xS := (x_rd t s).map fun q => (q.2.1, .inl q.1 :: q.2.2.1, q.2.2.2)
def x_ast (t : Nat) (g : Int → Int) (s : xS) : Option xS := match s with
  | (L, .inl x :: .inl i :: .inr (.inr (.inl (k, j))) :: S, H) => match xcell H k j with
    | some (.inr (.inl (t', n, f))) => if t' = t ∧ 0 ≤ i ∧ i < n then some (L, S, xput H k j (.inr (.inl (t', n, xfu f i.toNat (g x))))) else none
    | _ => none
  | _ => none
def x_last (s : xS) : Option xS := match s with
  | (L, .inr (.inl x) :: .inl i :: .inr (.inr (.inl (k, j))) :: S, H) => match xcell H k j with
    | some (.inr (.inl (t', n, f))) => if t' = 3 ∧ 0 ≤ i ∧ i < n then some (L, S, xput H k j (.inr (.inl (t', n, xfu f i.toNat x)))) else none
    | _ => none
  | _ => none
/-- the region of the first local -/
def x_this (L : List xV) : Nat := match L with
  | .inr (.inr (.inl (k, _))) :: _ => k
  | _ => 0
def x_reg (rg : Nat) (L : List xV) : Nat := if rg = 3 then x_this L else rg
def x_or (a b : Option xS) : Option xS := match a with
  | some r => some r
  | none => b
def x_call (n : Nat) (f : List xV → xH → Option (Option xV × xH)) (s : xS) : Option xS :=
  if n ≤ s.2.1.length ∧ ((s.2.1.drop n).map xcat).sum ≤ 8 then
    match f (s.2.1.take n).reverse s.2.2 with
    | some (r, H) => some (s.1, r.toList ++ s.2.1.drop n, H)
    | none => none
  else none
/-- the receiver is a cell; an object of a class -/
def x_isr (s : xS) (n : Nat) : Bool := match s.2.1[n - 1]? with
  | some (.inr (.inr (.inl _))) => decide (1 ≤ n)
  | _ => false
def x_recv (ci : Nat) (s : xS) (n : Nat) : Bool := match s.2.1[n - 1]? with
  | some (.inr (.inr (.inl (k, j)))) => match xcell s.2.2 k j with
    | some (.inl (ci', _)) => decide (ci' = ci ∧ 1 ≤ n)
    | _ => false
  | _ => false
/-- may a field of a kind (0 int, 1 boolean, 2 a cell, 3 long) hold it -/
def x_fit (t : Nat) (v : xV) : Bool := match t, v with
  | 0, .inl _ => true
  | 1, .inl n => decide (n = 0 ∨ n = 1)
  | 2, .inr (.inr (.inl _)) => true
  | 3, .inr (.inl _) => true
  | _, _ => false
/-- the fields of a new object of a class -/
abbrev xD : Type := Nat → List xV
/-- one instruction; its operand is already looked up (fields: 64 class + place; methods: 16 number + class; constants: the constant, jsr for a long; new: 8 class + region, 4 a region of its own; pop2 is Object's constructor) -/
def xI (dd : xD) (G : xG) (rg : Nat) (i : Instr) (s : xS) : Option xS := match i with
  | .iconst n => some (s.1, .inl n :: s.2.1, s.2.2)
  | .jsr n => some (s.1, .inr (.inl n) :: s.2.1, s.2.2)
  | .iload i => match s.1[i]? with
    | some (.inl n) => some (s.1, .inl n :: s.2.1, s.2.2)
    | _ => none
  | .aload i => match s.1[i]? with
    | some (.inr (.inr (.inl r))) => some (s.1, .inr (.inr (.inl r)) :: s.2.1, s.2.2)
    | _ => none
  | .lload i => match s.1[i]? with
    | some (.inr (.inl n)) => some (s.1, .inr (.inl n) :: s.2.1, s.2.2)
    | _ => none
  | .istore i => match s with
    | (L, .inl n :: S, H) => some (xst L i (.inl n), S, H)
    | _ => none
  | .astore i => match s with
    | (L, .inr (.inr (.inl r)) :: S, H) => some (xst L i (.inr (.inr (.inl r))), S, H)
    | _ => none
  | .lstore i => match s with
    | (L, .inr (.inl n) :: S, H) => some (xst2 L i (.inr (.inl n)), S, H)
    | _ => none
  | .iinc i d => match s.1[i]? with
    | some (.inl n) => some (xst s.1 i (.inl (xw (n + d))), s.2)
    | _ => none
  | .iadd => x_bin (fun x y => xw (x + y)) s
  | .isub => x_bin (fun x y => xw (x - y)) s
  | .imul => x_bin (fun x y => xw (x * y)) s
  | .iand => x_bin xand s
  | .ior => x_bin xor_ s
  | .ixor => x_bin xxor s
  | .ishl => x_bin xshl s
  | .ishr => x_bin xshr s
  | .iushr => x_bin xushr s
  | .ineg => x_un (fun x => xw (-x)) s
  | .i2b => x_un xb8 s
  | .i2s => x_un xs16 s
  | .i2c => x_un xc16 s
  | .idiv => match s with
    | (L, .inl y :: .inl x :: S, H) => if y = 0 then none else some (L, .inl (xw (x.tdiv y)) :: S, H)
    | _ => none
  | .irem => match s with
    | (L, .inl y :: .inl x :: S, H) => if y = 0 then none else some (L, .inl (x.tmod y) :: S, H)
    | _ => none
  | .i2l => match s with
    | (L, .inl x :: S, H) => some (L, .inr (.inl x) :: S, H)
    | _ => none
  | .l2i => match s with
    | (L, .inr (.inl x) :: S, H) => some (L, .inl (xw x) :: S, H)
    | _ => none
  | .lmul => x_lbin (fun x y => xlw (x * y)) s
  | .lsub => x_lbin (fun x y => xlw (x - y)) s
  | .ldiv => match s with
    | (L, .inr (.inl y) :: .inr (.inl x) :: S, H) => if y = 0 then none else some (L, .inr (.inl (xlw (x.tdiv y))) :: S, H)
    | _ => none
  | .lcmp => match s with
    | (L, .inr (.inl y) :: .inr (.inl x) :: S, H) => some (L, .inl (if y < x then 1 else if x = y then 0 else -1) :: S, H)
    | _ => none
  | .dup => match s with
    | (L, v :: S, H) => if xcat v = 1 then some (L, v :: v :: S, H) else none
    | _ => none
  | .dup_x1 => match s with
    | (L, v :: w :: S, H) => if xcat v = 1 ∧ xcat w = 1 then some (L, v :: w :: v :: S, H) else none
    | _ => none
  | .dup2 => match s with
    | (L, v :: w :: S, H) => if xcat v = 1 ∧ xcat w = 1 then some (L, v :: w :: v :: w :: S, H) else none
    | _ => none
  | .pop => match s with
    | (L, v :: S, H) => if xcat v = 1 then some (L, S, H) else none
    | _ => none
  | .pop2 => match s with
    | (L, .inr (.inr (.inl _)) :: S, H) => if (S.map xcat).sum ≤ 8 then some (L, S, H) else none
    | _ => none
  | .getfield q => match s with
    | (L, .inr (.inr (.inl (k, j))) :: S, H) => match xcell H k j with
      | some (.inl (ci, fs)) => if ci = q / 64 then match fs[q % 64]? with
          | some v => some (L, v :: S, H)
          | none => none
        else none
      | _ => none
    | _ => none
  | .putfield q => match s with
    | (L, v :: .inr (.inr (.inl (k, j))) :: S, H) => match xcell H k j with
      | some (.inl (ci, fs)) => if ci = q / 64 % 64 ∧ q % 64 < fs.length ∧ x_fit (q / 4096) v = true then some (L, S, xput H k j (.inl (ci, fs.set (q % 64) v))) else none
      | _ => none
    | _ => none
  | .iaload => x_ald 0 s
  | .baload => x_or (x_ald 1 s) (x_ald 4 s)
  | .caload => x_ald 2 s
  | .laload => (x_rd 3 s).map fun q => (q.2.1, .inr (.inl q.1) :: q.2.2.1, q.2.2.2)
  | .aaload => match s with
    | (L, .inl i :: .inr (.inr (.inl (k, j))) :: S, H) => match xcell H k j with
      | some (.inr (.inr (_, n, f))) => if 0 ≤ i ∧ i < n then match f i.toNat with
          | some r => some (L, .inr (.inr (.inl r)) :: S, H)
          | none => none
        else none
      | _ => none
    | _ => none
  | .iastore => x_ast 0 (fun x => x) s
  | .bastore => x_or (x_ast 1 xb8 s) (x_ast 4 xz1 s)
  | .castore => x_ast 2 xc16 s
  | .lastore => x_last s
  | .aastore => match s with
    | (L, .inr (.inr (.inl (k', j'))) :: .inl i :: .inr (.inr (.inl (k, j))) :: S, H) => match xcell H k j, xcell H k' j' with
      | some (.inr (.inr (ci, n, f))), some (.inl (ci', _)) => if ci' = ci ∧ 0 ≤ i ∧ i < n then some (L, S, xput H k j (.inr (.inr (ci, n, xfu f i.toNat (some (k', j')))))) else none
      | _, _ => none
    | _ => none
  | .arraylength => match s with
    | (L, .inr (.inr (.inl (k, j))) :: S, H) => match xcell H k j with
      | some (.inr (.inl (_, n, _))) => if n < 65536 then some (L, .inl n :: S, H) else none
      | some (.inr (.inr (_, n, _))) => if n < 65536 then some (L, .inl n :: S, H) else none
      | _ => none
    | _ => none
  | .new q =>
    if q % 8 = 4 then
      some (s.1, .inr (.inr (.inl (s.2.2.2.2.2.2.1 + 3, (xrg s.2.2 (s.2.2.2.2.2.2.1 + 3)).length))) :: s.2.1, xpush (xbegin s.2.2) (s.2.2.2.2.2.2.1 + 3) (.inl (q / 8, dd (q / 8))) (dd (q / 8)).length)
    else
      some (s.1, .inr (.inr (.inl (x_reg (q % 8) s.1, (xrg s.2.2 (x_reg (q % 8) s.1)).length))) :: s.2.1, xpush s.2.2 (x_reg (q % 8) s.1) (.inl (q / 8, dd (q / 8))) (dd (q / 8)).length)
  | .newarray t => match s with
    | (L, .inl n :: S, H) => if 0 ≤ n ∧ n < 65536 then
        (match t with
         | .int => some 0
         | .byte => some 1
         | .char => some 2
         | .long => some 3
         | .boolean => some 4
         | _ => none).map fun t => (L, .inr (.inr (.inl (x_reg rg L, (xrg H (x_reg rg L)).length))) :: S, xpush H (x_reg rg L) (.inr (.inl (t, n.toNat, fun _ => 0))) n.toNat)
      else none
    | _ => none
  | .anewarray ci => match s with
    | (L, .inl n :: S, H) => if 0 ≤ n ∧ n < 65536 then some (L, .inr (.inr (.inl (x_reg rg L, (xrg H (x_reg rg L)).length))) :: S, xpush H (x_reg rg L) (.inr (.inr (ci, n.toNat, fun _ => none))) n.toNat) else none
    | _ => none
  | .invokestatic q => x_call (G (q / 16)).1 (G (q / 16)).2 s
  | .invokespecial q => if x_isr s (G (q / 16)).1 = true then x_call (G (q / 16)).1 (G (q / 16)).2 s else none
  | .invokevirtual q => if x_recv (q % 16) s (G (q / 16)).1 = true then x_call (G (q / 16)).1 (G (q / 16)).2 s else none
  | _ => none
/-- instructions one behind the other -/
def xIs (dd : xD) (G : xG) (rg : Nat) : List Instr → xS → Option xS
  | [], s => some s
  | i :: l, s => (xI dd G rg i s).bind (xIs dd G rg l)
/-- how a piece ends: 0 at its end, k + 1 at the end of the k-th block around it; or it returns -/
abbrev xF : Type := Nat ⊕ Option xV
abbrev xP : Type := xS → Option (xF × xS)
def p_ops (dd : xD) (G : xG) (rg : Nat) (l : List Instr) : xP := fun s => (xIs dd G rg l s).map fun t => (.inl 0, t)
def p_sq (a b : xP) : xP := fun s => match a s with
  | some (.inl 0, t) => b t
  | some (.inl (k + 1), t) => some (.inl (k + 1), t)
  | some (.inr v, t) => some (.inr v, t)
  | none => none
def p_br (k : Nat) : xP := fun s => some (.inl k, s)
def p_blk (a : xP) : xP := fun s => match a s with
  | some (.inl 0, t) => some (.inl 0, t)
  | some (.inl (k + 1), t) => some (.inl k, t)
  | some (.inr v, t) => some (.inr v, t)
  | none => none
def x_cmp (c : Jvm.ClassFile.Cond) (a b : Int) : Bool := match c with
  | .eq => decide (a = b)
  | .ne => decide (¬ a = b)
  | .lt => decide (a < b)
  | .ge => decide (b ≤ a)
  | .gt => decide (b < a)
  | .le => decide (a ≤ b)
def p_if1 (c : Jvm.ClassFile.Cond) (a b : xP) : xP := fun s => match s with
  | (L, .inl y :: S, H) => if x_cmp c y 0 then b (L, S, H) else a (L, S, H)
  | _ => none
def p_if2 (c : Jvm.ClassFile.Cond) (a b : xP) : xP := fun s => match s with
  | (L, .inl z :: .inl y :: S, H) => if x_cmp c y z then b (L, S, H) else a (L, S, H)
  | _ => none
def x_key (ks : List (Int × Nat)) (d : Nat) (n : Int) : Nat := match ks with
  | [] => d
  | (k, t) :: r => if n = k then t else x_key r d n
def p_sw (ks : List (Int × Nat)) (d : Nat) : xP := fun s => match s with
  | (L, .inl n :: S, H) => some (.inl (x_key ks d n), (L, S, H))
  | _ => none
def p_rv : xP := fun s => match s with
  | (L, [], H) => some (.inr none, (L, [], H))
  | _ => none
def p_rz : xP := fun s => match s with
  | (L, [.inl n], H) => if n = 0 ∨ n = 1 then some (.inr (some (.inl n)), (L, [], H)) else none
  | _ => none
def p_ri : xP := fun s => match s with
  | (L, [.inl n], H) => some (.inr (some (.inl n)), (L, [], H))
  | _ => none
def p_rl : xP := fun s => match s with
  | (L, [.inr (.inl n)], H) => some (.inr (some (.inr (.inl n))), (L, [], H))
  | _ => none
def p_it (a : xP) : Nat → xS → Option (xF × xS)
  | 0, _ => none
  | n + 1, s => match a s with
    | some (.inl 0, t) => some (.inl 0, t)
    | some (.inl 1, t) => p_it a n t
    | some (.inl (k + 2), t) => some (.inl (k + 1), t)
    | some (.inr v, t) => some (.inr v, t)
    | none => none
theorem p_it_more (a : xP) : ∀ (n k : Nat) (s : xS) (r : xF × xS), p_it a n s = some r → p_it a (n + k) s = some r
  | 0, k, s, r, h => by cases h
  | n + 1, k, s, r, h => by
    rw [show n + 1 + k = n + k + 1 by omega]
    unfold p_it at h ⊢
    match ha : a s with
    | none => rw [ha] at h; cases h
    | some (.inl 0, t) => rw [ha] at h; exact h
    | some (.inl 1, t) => rw [ha] at h; exact p_it_more a n k t r h
    | some (.inl (j + 2), t) => rw [ha] at h; exact h
    | some (.inr v, t) => rw [ha] at h; exact h
noncomputable def p_lop (a : xP) : xP := fun s => @dite (Option (xF × xS)) (∃ n, (p_it a n s).isSome = true) (Classical.propDecidable _) (fun h => p_it a (Classical.choose h) s) (fun _ => none)
theorem p_lop_of {a : xP} {n : Nat} {s : xS} {r : xF × xS} (h : p_it a n s = some r) : p_lop a s = some r := by
  have hx : ∃ n, (p_it a n s).isSome = true := ⟨n, by rw [h]; rfl⟩
  unfold p_lop
  rw [dif_pos hx]
  have h1 := Classical.choose_spec hx
  cases h2 : p_it a (Classical.choose hx) s with
  | none => rw [h2] at h1; cases h1
  | some r2 =>
    have e1 := p_it_more a _ n s r2 h2
    have e2 := p_it_more a _ (Classical.choose hx) s r h
    rw [Nat.add_comm] at e2
    exact e1.symm.trans e2
theorem p_lop_ex {a : xP} {s : xS} {r : xF × xS} (h : p_lop a s = some r) : ∃ n, p_it a n s = some r := by
  unfold p_lop at h
  by_cases hx : ∃ n, (p_it a n s).isSome = true
  · rw [dif_pos hx] at h
    exact ⟨_, h⟩
  · rw [dif_neg hx] at h
    cases h
/-- a loop, one turn of it -/
theorem p_lop_eq (a : xP) (s : xS) : p_lop a s = match a s with
    | some (.inl 0, t) => some (.inl 0, t)
    | some (.inl 1, t) => p_lop a t
    | some (.inl (k + 2), t) => some (.inl (k + 1), t)
    | some (.inr v, t) => some (.inr v, t)
    | none => none := by
  match ha : a s with
  | none =>
    cases h : p_lop a s with
    | none => rfl
    | some r =>
      obtain ⟨n, hn⟩ := p_lop_ex h
      cases n with
      | zero => cases hn
      | succ n => unfold p_it at hn; rw [ha] at hn; cases hn
  | some (.inl 0, t) => exact p_lop_of (n := 1) (by unfold p_it; rw [ha])
  | some (.inl 1, t) =>
    show p_lop a s = p_lop a t
    cases h : p_lop a t with
    | some r =>
      obtain ⟨n, hn⟩ := p_lop_ex h
      exact p_lop_of (a := a) (s := s) (r := r) (n := n + 1) (by unfold p_it; rw [ha]; exact hn)
    | none =>
      cases h2 : p_lop a s with
      | none => rfl
      | some r =>
        obtain ⟨n, hn⟩ := p_lop_ex h2
        cases n with
        | zero => cases hn
        | succ n =>
          unfold p_it at hn
          rw [ha] at hn
          rw [p_lop_of hn] at h
          cases h
  | some (.inl (k + 2), t) => exact p_lop_of (n := 1) (by unfold p_it; rw [ha])
  | some (.inr v, t) => exact p_lop_of (n := 1) (by unfold p_it; rw [ha])
/-- a method's body, from its arguments on -/
def x_args : List xV → List xV
  | [] => []
  | v :: l => match v with
    | .inr (.inl n) => .inr (.inl n) :: .inr (.inr (.inr 2)) :: x_args l
    | v => v :: x_args l
def x_run (nL : Nat) (f : xP) (a : List xV) (H : xH) : Option (Option xV × xH) :=
  if (x_args a).length ≤ nL then match f (x_args a ++ List.replicate (nL - (x_args a).length) (.inr (.inr (.inr 2))), [], H) with
    | some (.inr v, t) => some (v, t.2.2)
    | _ => none
  else none
