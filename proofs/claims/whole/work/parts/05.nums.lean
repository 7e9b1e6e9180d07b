/-! ===== numbers of the machine as whole numbers ===== -/
theorem x_bm {n : Int} : (xw n).bmod (2 ^ 32) = n.bmod (2 ^ 32) := by
  unfold xw Int.bmod
  simp only [Int.reducePow, Nat.reducePow, Int.cast_ofNat_Int]
  split <;> split <;> omega
theorem x_bm1 {n : Int} (h : xin n) : n.bmod (2 ^ 32) = n := by
  unfold xin at h
  unfold Int.bmod
  simp only [Int.reducePow, Nat.reducePow, Int.cast_ofNat_Int]
  split <;> omega
theorem x_bmw (n : Int) : n.bmod (2 ^ 32) = xw n := by rw [← x_bm, x_bm1 (xw_in n)]
theorem x_lbm {n : Int} : (xlw n).bmod (2 ^ 64) = n.bmod (2 ^ 64) := by
  unfold xlw Int.bmod
  simp only [Int.reducePow, Nat.reducePow, Int.cast_ofNat_Int]
  split <;> split <;> omega
theorem x_lbm1 {n : Int} (h : xlin n) : n.bmod (2 ^ 64) = n := by
  unfold xlin at h
  unfold Int.bmod
  simp only [Int.reducePow, Nat.reducePow, Int.cast_ofNat_Int]
  split <;> omega
theorem x_lbmw (n : Int) : n.bmod (2 ^ 64) = xlw n := by rw [← x_lbm, x_lbm1 (xlw_in n)]
theorem x_tI {n : Int} (h : xin n) : (Int32.ofInt n).toInt = n := by rw [Int32.toInt_ofInt]; exact x_bm1 h
theorem x_tL64 {n : Int} (h : xlin n) : (Int64.ofInt n).toInt = n := by rw [Int64.toInt_ofInt]; exact x_lbm1 h
theorem x_tIw (n : Int) : (Int32.ofInt n).toInt = xw n := by rw [Int32.toInt_ofInt]; exact x_bmw n
theorem x_tLw (n : Int) : (Int64.ofInt n).toInt = xlw n := by rw [Int64.toInt_ofInt]; exact x_lbmw n
theorem x_Iw (n : Int) : Int32.ofInt (xw n) = Int32.ofInt n := by
  rw [← Int32.toInt_inj, x_tIw, x_tIw]
  exact xw_id (xw_in n).1 (xw_in n).2
theorem x_Lw (n : Int) : Int64.ofInt (xlw n) = Int64.ofInt n := by
  rw [← Int64.toInt_inj, x_tLw, x_tLw]
  exact xlw_id (xlw_in n).1 (xlw_in n).2
theorem x_rI (z : Int32) : xin z.toInt := by
  have h1 := z.le_toInt
  have h2 := z.toInt_lt
  unfold xin
  omega
theorem x_rL (z : Int64) : xlin z.toInt := by
  have h1 := z.le_toInt
  have h2 := z.toInt_lt
  unfold xlin
  omega
theorem x_oI (z : Int32) : Int32.ofInt z.toInt = z := Int32.ofInt_toInt z
theorem x_add (a b : Int) : Int32.ofInt a + Int32.ofInt b = Int32.ofInt (xw (a + b)) := by rw [x_Iw, Int32.ofInt_add]
theorem x_sub (a b : Int) : Int32.ofInt a - Int32.ofInt b = Int32.ofInt (xw (a - b)) := by rw [x_Iw, Int32.ofInt_sub]
theorem x_mul (a b : Int) : Int32.ofInt a * Int32.ofInt b = Int32.ofInt (xw (a * b)) := by rw [x_Iw, Int32.ofInt_mul]
theorem x_neg (a : Int) : -Int32.ofInt a = Int32.ofInt (xw (-a)) := by rw [x_Iw, Int32.ofInt_neg]
theorem x_lmul (a b : Int) : Int64.ofInt a * Int64.ofInt b = Int64.ofInt (xlw (a * b)) := by rw [x_Lw, Int64.ofInt_mul]
theorem x_lsub (a b : Int) : Int64.ofInt a - Int64.ofInt b = Int64.ofInt (xlw (a - b)) := by rw [x_Lw, Int64.ofInt_sub]
theorem x_div {a b : Int} (ha : xin a) (hb : xin b) : Int32.ofInt a / Int32.ofInt b = Int32.ofInt (xw (a.tdiv b)) := by
  rw [← Int32.toInt_inj, Int32.toInt_div, x_tI ha, x_tI hb, x_bmw, x_tI (xw_in _)]
theorem x_ldiv {a b : Int} (ha : xlin a) (hb : xlin b) : Int64.ofInt a / Int64.ofInt b = Int64.ofInt (xlw (a.tdiv b)) := by
  rw [← Int64.toInt_inj, Int64.toInt_div, x_tL64 ha, x_tL64 hb, x_lbmw, x_tL64 (xlw_in _)]
theorem x_rem {a b : Int} (ha : xin a) (hb : xin b) : Int32.ofInt a - Int32.ofInt a / Int32.ofInt b * Int32.ofInt b = Int32.ofInt (a.tmod b) := by
  rw [x_div ha hb, x_Iw, ← Int32.ofInt_mul, ← Int32.ofInt_sub, Int.tmod_def, Int.mul_comm]
theorem x_tm {a b : Int} (ha : xin a) (hb : b ≠ 0) : xin (a.tmod b) := by
  unfold xin at *
  have h1 : (a.tmod b).natAbs ≤ a.natAbs := by rw [Int.natAbs_tmod]; exact Nat.mod_le _ _
  by_cases h0 : 0 ≤ a
  · have := Int.tmod_nonneg b h0
    omega
  · have h2 := Int.tmod_nonneg b (show 0 ≤ -a by omega)
    rw [Int.neg_tmod] at h2
    omega
theorem x_eq0 {a : Int} (ha : xin a) : Int32.ofInt a = 0 ↔ a = 0 := by
  rw [← Int32.toInt_inj, x_tI ha, Int32.toInt_zero]
theorem x_leq0 {a : Int} (ha : xlin a) : Int64.ofInt a = 0 ↔ a = 0 := by
  rw [← Int64.toInt_inj, x_tL64 ha, Int64.toInt_zero]
theorem x_eq {a b : Int} (ha : xin a) (hb : xin b) : Int32.ofInt a = Int32.ofInt b ↔ a = b := by
  rw [← Int32.toInt_inj, x_tI ha, x_tI hb]
theorem x_lt32 {a b : Int} (ha : xin a) (hb : xin b) : Int32.ofInt a < Int32.ofInt b ↔ a < b := by
  rw [Int32.lt_iff_toInt_lt, x_tI ha, x_tI hb]
theorem x_le32 {a b : Int} (ha : xin a) (hb : xin b) : Int32.ofInt a ≤ Int32.ofInt b ↔ a ≤ b := by
  rw [Int32.le_iff_toInt_le, x_tI ha, x_tI hb]
theorem x_i8 {n : Int} (h1 : -128 ≤ n) (h2 : n < 128) : (Int8.ofInt n).toInt32 = Int32.ofInt n := by
  rw [← Int32.toInt_inj, Int8.toInt_toInt32, Int8.toInt_ofInt, x_tI (by unfold xin; omega)]
  unfold Int.bmod
  simp only [Int.reducePow, Nat.reducePow, Int.cast_ofNat_Int]
  split <;> omega
theorem x_i16 {n : Int} (h1 : -32768 ≤ n) (h2 : n < 32768) : (Int16.ofInt n).toInt32 = Int32.ofInt n := by
  rw [← Int32.toInt_inj, Int16.toInt_toInt32, Int16.toInt_ofInt, x_tI (by unfold xin; omega)]
  unfold Int.bmod
  simp only [Int.reducePow, Nat.reducePow, Int.cast_ofNat_Int]
  split <;> omega
theorem x_i2l {n : Int} (h : xin n) : (Int32.ofInt n).toInt64 = Int64.ofInt n := by
  rw [← Int64.toInt_inj, Int32.toInt_toInt64, x_tI h, x_tL64]
  unfold xin at h; unfold xlin; omega
theorem x_l2i (n : Int) : (Int64.ofInt n).toInt32 = Int32.ofInt (xw n) := by
  rw [x_Iw]
  first
    | exact Int64.toInt32_ofInt n
    | (rw [← Int32.toInt_inj, Int64.toInt_toInt32, x_tLw, x_tIw, x_bmw]; unfold xw xlw; omega)
theorem x_vin {z : Int} {n : Nat} (h : xin z) (h0 : 0 ≤ z) (h1 : z < n) : vp_in (Int32.ofInt z) n := by
  rw [vp_in_iff, x_tI h]
  exact ⟨h0, h1⟩
theorem x_cl {z : Int} (h : xin z) : (Int32.ofInt z).toNatClampNeg = z.toNat := by
  show ((Int32.ofInt z).toInt).toNat = _
  rw [x_tI h]
theorem x_updI (f : Nat → Int) (k : Nat) (x : Int) : upd (fun j => Int32.ofInt (f j)) k (Int32.ofInt x) = fun j => Int32.ofInt (xfu f k x j) := by
  funext j
  unfold upd xfu
  split <;> rfl
theorem x_updL (f : Nat → Int) (k : Nat) (x : Int) : vp_updL (fun j => Int64.ofInt (f j)) k (Int64.ofInt x) = fun j => Int64.ofInt (xfu f k x j) := by
  funext j
  unfold vp_updL xfu
  split <;> rfl
theorem x_one32 : Int32.ofInt 1 = 1 := rfl
theorem x_cmpl {x y : Int} (hx : xlin x) (hy : xlin y) : lg_cmp (Int64.ofInt x) (Int64.ofInt y) = Int32.ofInt (if y < x then 1 else if x = y then 0 else -1) := by
  have e1 : Int64.ofInt x = Int64.ofInt y ↔ x = y := by rw [← Int64.toInt_inj, x_tL64 hx, x_tL64 hy]
  have e2 : Int64.ofInt x < Int64.ofInt y ↔ x < y := by rw [Int64.lt_iff_toInt_lt, x_tL64 hx, x_tL64 hy]
  have e3 : Int64.ofInt y < Int64.ofInt x ↔ y < x := by rw [Int64.lt_iff_toInt_lt, x_tL64 hx, x_tL64 hy]
  have e4 : Int64.ofInt x ≤ Int64.ofInt y ↔ x ≤ y := by rw [Int64.le_iff_toInt_le, x_tL64 hx, x_tL64 hy]
  unfold lg_cmp
  simp only [gt_iff_lt, e1, e2, e3]
  by_cases h1 : y < x
  · simp [h1]
  · by_cases h2 : x = y
    · simp [h1, h2]
    · have : x < y := by omega
      simp [h1, h2, this]
