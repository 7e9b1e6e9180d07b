/-! ===== sets, as numbers ===== -/
theorem b_of (m : Nat) : (Int32.ofInt (m : Int)).toBitVec = BitVec.ofNat 32 m := BitVec.ofInt_natCast 32 m
theorem b_to (x : Int32) (h : x.toBitVec.toNat < 2147483648) : x.toInt = (x.toBitVec.toNat : Int) := by
  show x.toBitVec.toInt = _
  rw [BitVec.toInt_eq_toNat_cond, if_pos (by omega)]
theorem xand_n {m k : Nat} (hm : m < 2147483648) (hk : k < 2147483648) : xand (m : Int) (k : Int) = ((m &&& k : Nat) : Int) := by
  have e : (Int32.ofInt (m : Int) &&& Int32.ofInt (k : Int)).toBitVec.toNat = m &&& k := by
    rw [Int32.toBitVec_and, b_of, b_of, BitVec.toNat_and, BitVec.toNat_ofNat, BitVec.toNat_ofNat, Nat.mod_eq_of_lt (by omega), Nat.mod_eq_of_lt (by omega)]
  have h1 : m &&& k ≤ m := Nat.and_le_left
  unfold xand
  rw [b_to _ (by rw [e]; omega), e]
theorem xor_n {m k : Nat} (hm : m < 2147483648) (hk : k < 2147483648) : xor_ (m : Int) (k : Int) = ((m ||| k : Nat) : Int) := by
  have e : (Int32.ofInt (m : Int) ||| Int32.ofInt (k : Int)).toBitVec.toNat = m ||| k := by
    rw [Int32.toBitVec_or, b_of, b_of, BitVec.toNat_or, BitVec.toNat_ofNat, BitVec.toNat_ofNat, Nat.mod_eq_of_lt (by omega), Nat.mod_eq_of_lt (by omega)]
  have h1 : m ||| k < 2 ^ 31 := Nat.or_lt_two_pow (by omega) (by omega)
  unfold xor_
  rw [b_to _ (by rw [e]; omega), e]
theorem xshl_n {g : Nat} (hg : g < 16) : xshl 1 (g : Int) = ((2 ^ g : Nat) : Int) := by
  have h : ∀ g : Fin 16, xshl 1 ((g.1 : Nat) : Int) = ((2 ^ g.1 : Nat) : Int) := by decide +kernel
  exact h ⟨g, hg⟩
theorem xshr_n {m g : Nat} (hm : m < 1024) (hg : g < 10) : xand (xshr (m : Int) (g : Int)) 1 = if m.testBit g = true then 1 else 0 := by
  have h : ∀ m : Fin 1024, ∀ g : Fin 10, xand (xshr ((m.1 : Nat) : Int) ((g.1 : Nat) : Int)) 1 = if m.1.testBit g.1 = true then 1 else 0 := by decide +kernel
  exact h ⟨m, hm⟩ ⟨g, hg⟩
theorem xbit_n {m g : Nat} (hm : m < 1024) (hg : g < 10) : xand (xshr (m : Int) (g : Int)) 1 = 1 ↔ m.testBit g = true := by
  rw [xshr_n hm hg]
  split <;> simp_all
theorem bit_or {m g i : Nat} : (m ||| 2 ^ g).testBit i = (m.testBit i || decide (g = i)) := by
  rw [Nat.testBit_or, Nat.testBit_two_pow]
theorem or_small {m g : Nat} (hm : m < 1024) (hg : g < 10) : m ||| 2 ^ g < 1024 := Nat.or_lt_two_pow (n := 10) hm (Nat.pow_lt_pow_right (by decide) hg)
theorem xor_set {m g : Nat} (hm : m < 1024) (hg : g < 10) : xor_ (m : Int) (xshl 1 (g : Int)) = ((m ||| 2 ^ g : Nat) : Int) := by
  have h1 : 2 ^ g < 2 ^ 10 := Nat.pow_lt_pow_right (by decide) hg
  rw [xshl_n (by omega), xor_n (by omega) (by omega)]
