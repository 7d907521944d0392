/-! numbers that are small: nI and lN by their naturals -/
theorem zbm {a : Nat} (h : a < 2147483648) : ((a : Int)).bmod (2 ^ 32) = a := by
  apply Int.bmod_eq_of_le <;> omega
theorem znI_ti {a : Nat} (h : a < 2147483648) : (nI a).toInt = (a : Int) := zint_nI h
theorem znI_of {v : Int32} {a : Nat} (h : v.toInt = (a : Int)) : v = nI a := by
  apply Int32.toInt_inj.mp
  have h1 := v.toInt_lt
  rw [h] at h1
  rw [h, znI_ti (by omega)]
theorem znI_mul {a b : Nat} (h : a * b < 2147483648) : nI a * nI b = nI (a * b) := by
  show Int32.ofNat a * Int32.ofNat b = Int32.ofNat (a * b)
  rw [Int32.ofNat_mul]
theorem znI_sub {a b : Nat} (h : b ≤ a) : nI a - nI b = nI (a - b) := by
  show Int32.ofNat a - Int32.ofNat b = Int32.ofNat (a - b)
  rw [Int32.ofNat_sub _ _ h]
theorem znI_div {a b : Nat} (ha : a < 2147483648) (hb : b < 2147483648) : nI a / nI b = nI (a / b) := by
  apply znI_of
  have h1 : a / b ≤ a := Nat.div_le_self a b
  rw [Int32.toInt_div, znI_ti ha, znI_ti hb]
  have h2 : (a : Int).tdiv (b : Int) = ((a / b : Nat) : Int) := rfl
  rw [h2, zbm (by omega)]
theorem znI_rem {a b : Nat} (ha : a < 2147483648) (hb : b < 2147483648) : nI a - nI a / nI b * nI b = nI (a % b) := by
  have h1 : a / b * b ≤ a := Nat.div_mul_le_self a b
  rw [znI_div ha hb, znI_mul (by omega), znI_sub h1]
  congr 1
  have := Nat.div_add_mod a b
  rw [Nat.mul_comm] at this
  omega
theorem zl_ti {a : Nat} (h : a < 2 ^ 63) : (lN a).toInt = (a : Int) := Int64.toInt_ofNat_of_lt h
theorem zl_of {v : Int64} {a : Nat} (h : v.toInt = (a : Int)) : v = lN a := by
  apply Int64.toInt_inj.mp
  have h1 := v.toInt_lt
  rw [h] at h1
  rw [h, zl_ti (by omega)]
theorem zl_bm {a : Nat} (h : a < 2 ^ 63) : ((a : Int)).bmod (2 ^ 64) = a := by
  apply Int.bmod_eq_of_le <;> omega
theorem zl_i2l {a : Nat} (h : a < 2147483648) : (nI a).toInt64 = lN a := by
  apply zl_of
  rw [Int32.toInt_toInt64, znI_ti h]
theorem zl_l2i {a : Nat} (h : a < 2147483648) : (lN a).toInt32 = nI a := by
  apply znI_of
  rw [Int64.toInt_toInt32, zl_ti (by omega), zbm h]
theorem zl_add {a b : Nat} : lN a + lN b = lN (a + b) := by
  show Int64.ofNat a + Int64.ofNat b = Int64.ofNat (a + b)
  rw [Int64.ofNat_add]
theorem zl_mul {a b : Nat} : lN a * lN b = lN (a * b) := by
  show Int64.ofNat a * Int64.ofNat b = Int64.ofNat (a * b)
  rw [Int64.ofNat_mul]
theorem zl_sub {a b : Nat} (h : b ≤ a) : lN a - lN b = lN (a - b) := by
  show Int64.ofNat a - Int64.ofNat b = Int64.ofNat (a - b)
  rw [Int64.ofNat_sub _ _ h]
theorem zl_div {a b : Nat} (ha : a < 2 ^ 63) (hb : b < 2 ^ 63) : lN a / lN b = lN (a / b) := by
  apply zl_of
  have h1 : a / b ≤ a := Nat.div_le_self a b
  rw [Int64.toInt_div, zl_ti ha, zl_ti hb]
  have h2 : (a : Int).tdiv (b : Int) = ((a / b : Nat) : Int) := rfl
  rw [h2, zl_bm (by omega)]
theorem zl_rem {a b : Nat} (ha : a < 2 ^ 63) (hb : b < 2 ^ 63) : lN a - lN a / lN b * lN b = lN (a % b) := by
  have h1 : a / b * b ≤ a := Nat.div_mul_le_self a b
  rw [zl_div ha hb, zl_mul, zl_sub h1]
  congr 1
  have := Nat.div_add_mod a b
  rw [Nat.mul_comm] at this
  omega
