/-! shifts of longs -/
theorem uL_n {n k : Nat} {c : UInt64} (h : n < 2 ^ 64) (hc : c.toNat % 64 = k) : ((lN n).toUInt64 >>> c).toInt64 = lN (n / 2 ^ k) := by
  have e : (UInt64.ofNat n >>> c) = UInt64.ofNat (n / 2 ^ k) := by
    apply UInt64.toNat_inj.mp
    rw [UInt64.toNat_shiftRight, UInt64.toNat_ofNat', UInt64.toNat_ofNat', hc, Nat.mod_eq_of_lt h, Nat.shiftRight_eq_div_pow, Nat.mod_eq_of_lt (Nat.lt_of_le_of_lt (Nat.div_le_self _ _) h)]
  show (UInt64.ofNat n >>> c).toInt64 = lN (n / 2 ^ k)
  rw [e]
  rfl
theorem uL_1 {n : Nat} (h : n < 2 ^ 64) : uL (lN n) 1 = lN (n / 2 ^ 1) := uL_n h (by decide +kernel)
theorem uL_2 {n : Nat} (h : n < 2 ^ 64) : uL (lN n) 2 = lN (n / 2 ^ 2) := uL_n h (by decide +kernel)
theorem uL_4 {n : Nat} (h : n < 2 ^ 64) : uL (lN n) 4 = lN (n / 2 ^ 4) := uL_n h (by decide +kernel)
theorem uL_8 {n : Nat} (h : n < 2 ^ 64) : uL (lN n) 8 = lN (n / 2 ^ 8) := uL_n h (by decide +kernel)
theorem uL_16 {n : Nat} (h : n < 2 ^ 64) : uL (lN n) 16 = lN (n / 2 ^ 16) := uL_n h (by decide +kernel)
theorem uL_32 {n : Nat} (h : n < 2 ^ 64) : uL (lN n) 32 = lN (n / 2 ^ 32) := uL_n h (by decide +kernel)
