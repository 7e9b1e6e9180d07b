/-! ===== bytes and signs ===== -/
theorem xand_255 (w : Int) : xand w 255 = w % 256 := by
  have e : (Int32.ofInt w &&& Int32.ofInt 255).toBitVec.toNat = (w % 4294967296).toNat % 256 := by
    rw [Int32.toBitVec_and, BitVec.toNat_and]
    have e1 : (Int32.ofInt w).toBitVec.toNat = (w % 4294967296).toNat := by
      show (BitVec.ofInt 32 w).toNat = _
      rw [BitVec.toNat_ofInt]
      rfl
    have e2 : (Int32.ofInt 255).toBitVec.toNat = 2 ^ 8 - 1 := by decide
    rw [e1, e2, Nat.and_two_pow_sub_one_eq_mod]
  unfold xand
  rw [b_to _ (by rw [e]; omega), e]
  omega
theorem xb8_b (a : Int) : xb8 a = if a % 256 < 128 then a % 256 else a % 256 - 256 := by
  unfold xb8
  rw [Int8.toInt_toInt32, Int32.toInt8_ofInt, Int8.toInt_ofInt]
  show Int.bmod a 256 = _
  unfold Int.bmod
  dsimp only
  split <;> split <;> omega
theorem xc16_s {w : Int} (h0 : 0 ≤ w) (h1 : w < 65536) : xc16 w = w := by
  obtain ⟨k, rfl⟩ : ∃ k : Nat, w = (k : Int) := ⟨w.toNat, by omega⟩
  have hk : k < 65536 := by omega
  unfold xc16
  have e : ((Int32.ofInt (k : Int)).toUInt32 % 65536).toInt32.toBitVec.toNat = k := by
    show ((Int32.ofInt (k : Int)).toUInt32 % 65536).toNat = k
    rw [UInt32.toNat_mod]
    have e1 : (Int32.ofInt (k : Int)).toUInt32.toNat = k := by
      show (Int32.ofInt (k : Int)).toBitVec.toNat = k
      rw [b_of, BitVec.toNat_ofNat, Nat.mod_eq_of_lt (by omega)]
    rw [e1]
    show k % 65536 = k
    omega
  rw [b_to _ (by rw [e]; omega), e]
theorem xushr_m (v : Int) {s : Nat} (hs : s < 32) : (xushr v (s : Int)) % 256 = (v % 4294967296 / 2 ^ s) % 256 := by
  unfold xushr
  have e1 : ((Int32.ofInt v).toUInt32 >>> ((Int32.ofInt (s : Int)).toUInt32 &&& Int32.toUInt32 31)).toNat = (v % 4294967296).toNat >>> s := by
    rw [UInt32.toNat_shiftRight]
    have e2 : (Int32.ofInt v).toUInt32.toNat = (v % 4294967296).toNat := by
      show (BitVec.ofInt 32 v).toNat = _
      rw [BitVec.toNat_ofInt]
      rfl
    have e3 : ((Int32.ofInt (s : Int)).toUInt32 &&& Int32.toUInt32 31).toNat % 32 = s := by
      have key : ∀ s : Fin 32, ((Int32.ofInt ((s.1 : Nat) : Int)).toUInt32 &&& Int32.toUInt32 31).toNat % 32 = s.1 := by decide +kernel
      exact key ⟨s, hs⟩
    rw [e2, e3]
  generalize ((Int32.ofInt v).toUInt32 >>> ((Int32.ofInt (s : Int)).toUInt32 &&& Int32.toUInt32 31)) = u at *
  have e4 : u.toInt32.toInt % 256 = ((u.toNat : Nat) : Int) % 256 := by
    show u.toBitVec.toInt % 256 = ((u.toBitVec.toNat : Nat) : Int) % 256
    rw [BitVec.toInt_eq_toNat_cond]
    split <;> omega
  rw [e4, e1, Nat.shiftRight_eq_div_pow, Int.natCast_ediv]
  congr 1
  rw [show (((v % 4294967296).toNat : Nat) : Int) = v % 4294967296 by omega]
  congr 1
theorem xshr_d {v : Int} (hv : xin v) {s : Nat} (hs : s < 32) : xshr v (s : Int) = v / 2 ^ s := by
  unfold xshr
  have e3 : (Int32.ofInt (s : Int) &&& 31).toBitVec.smod 32 = BitVec.ofNat 32 s := by
    have key : ∀ s : Fin 32, (Int32.ofInt ((s.1 : Nat) : Int) &&& 31).toBitVec.smod 32 = BitVec.ofNat 32 s.1 := by decide +kernel
    exact key ⟨s, hs⟩
  have e4 : (Int32.ofInt v >>> (Int32.ofInt (s : Int) &&& 31)).toBitVec = (Int32.ofInt v).toBitVec.sshiftRight s := by
    rw [Int32.toBitVec_shiftRight, e3]
    show (Int32.ofInt v).toBitVec.sshiftRight (BitVec.ofNat 32 s).toNat = _
    rw [BitVec.toNat_ofNat, Nat.mod_eq_of_lt (by omega)]
  show (Int32.ofInt v >>> (Int32.ofInt (s : Int) &&& 31)).toBitVec.toInt = _
  rw [e4, BitVec.toInt_sshiftRight, Int.shiftRight_eq_div_pow]
  have e5 : (Int32.ofInt v).toBitVec.toInt = v := by
    show (Int32.ofInt v).toInt = v
    exact Int32.toInt_ofInt_of_le hv.1 hv.2
  rw [e5]
  congr 1
