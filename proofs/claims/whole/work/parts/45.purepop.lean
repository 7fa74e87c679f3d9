/-! the count of bits, as its bytes compute it -/
theorem ush {v k : Nat} (hv : v < 2 ^ 31) (hk : k = 1 ∨ k = 2 ∨ k = 4 ∨ k = 8 ∨ k = 16) : ((nI v).toUInt32 >>> ((nI k).toUInt32 &&& Int32.toUInt32 31)).toInt32 = nI (v / 2 ^ k) := by
  have e : (nI k).toUInt32 &&& Int32.toUInt32 31 = UInt32.ofNat k := by
    rcases hk with rfl | rfl | rfl | rfl | rfl <;> decide +kernel
  have hk32 : k < 32 := by omega
  rw [e]
  apply Int32.toBitVec_inj.mp
  show (UInt32.ofBitVec (BitVec.ofNat 32 v) >>> UInt32.ofNat k).toBitVec = BitVec.ofNat 32 (v / 2 ^ k)
  apply BitVec.eq_of_toNat_eq
  have h3 : v / 2 ^ k ≤ v := Nat.div_le_self _ _
  have h4 : v / 2 ^ k % 4294967296 = v / 2 ^ k := Nat.mod_eq_of_lt (Nat.lt_of_le_of_lt h3 (by omega))
  have h5 : k % 4294967296 % 32 = k := by omega
  have h6 : v % 4294967296 = v := by omega
  rw [UInt32.toNat_toBitVec, UInt32.toNat_shiftRight]
  simp [Nat.shiftRight_eq_div_pow, h4, h6]
  rw [show k % 32 = k by omega]
