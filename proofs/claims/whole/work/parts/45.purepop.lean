/-! the count of bits, as its bytes compute it -/
theorem ush {v k : Nat} (hv : v < 2 ^ 31) (hk : k = 1 ∨ k = 2 ∨ k = 4 ∨ k = 8 ∨ k = 16) : ((nI v).toUInt32 >>> ((nI k).toUInt32 &&& Int32.toUInt32 31)).toInt32 = nI (v / 2 ^ k) := by
  have e : (nI k).toUInt32 &&& Int32.toUInt32 31 = UInt32.ofNat k := by
    rcases hk with rfl | rfl | rfl | rfl | rfl <;> decide +kernel
  have hk32 : k < 32 := by omega
  rw [e]
  apply Int32.toBitVec_inj.mp
  show (UInt32.ofBitVec (BitVec.ofNat 32 v) >>> UInt32.ofNat k).toBitVec = BitVec.ofNat 32 (v / 2 ^ k)
  apply BitVec.eq_of_toNat_eq
  have h3 : v / 2 ^ k ≤ v := Nat.div_le_self _ _
  have h4 : v / 2 ^ k % 4294967296 = v / 2 ^ k := Nat.mod_eq_of_lt (Nat.lt_of_le_of_lt h3 (by omega))
  have h5 : k % 4294967296 % 32 = k := by omega
  have h6 : v % 4294967296 = v := by omega
  have e7 : (UInt32.ofBitVec (BitVec.ofNat 32 v)).toNat = v := by
    show (BitVec.ofNat 32 v).toNat = v
    rw [BitVec.toNat_ofNat]; exact h6
  have e8 : (UInt32.ofNat k).toNat = k := by
    show (BitVec.ofNat 32 k).toNat = k
    rw [BitVec.toNat_ofNat]; omega
  rw [UInt32.toNat_toBitVec, UInt32.toNat_shiftRight, e7, e8, Nat.mod_eq_of_lt hk32, Nat.shiftRight_eq_div_pow, BitVec.toNat_ofNat]
  exact h4.symm
theorem nI_sub' {a b : Nat} (h : b ≤ a) : nI a - nI b = nI (a - b) := pk_sub h
/-- the same on plain numbers -/
def n1 (v : Nat) : Nat := v - ((v / 2) &&& 1431655765)
def n2 (v : Nat) : Nat := (v &&& 858993459) + ((v / 4) &&& 858993459)
def n3 (v : Nat) : Nat := (v + v / 16) &&& 252645135
def n4 (v : Nat) : Nat := v + v / 256
def n5 (v : Nat) : Nat := v + v / 65536
def n6 (v : Nat) : Nat := n5 (n4 (n3 (n2 (n1 v)))) &&& 63
theorem and_le_l (a b : Nat) : a &&& b ≤ a := Nat.and_le_left
theorem n1_le (v : Nat) : n1 v ≤ v := Nat.sub_le _ _
theorem bcI_N {v : Nat} (hv : v < 2 ^ 20) : bcI (nI v) = nI (n6 v) := by
  have a1 : bc1 (nI v) = nI (n1 v) := by
    rw [bc1, ush (by omega) (Or.inl rfl), show (1431655765 : Int32) = nI 1431655765 by decide, nI_and, pk_sub (Nat.le_trans (and_le_l _ _) (Nat.div_le_self _ _))]; rfl
  have l1 : n1 v < 2 ^ 20 := Nat.lt_of_le_of_lt (n1_le v) hv
  have a2 : bc2 (nI (n1 v)) = nI (n2 (n1 v)) := by
    rw [bc2, ush (by omega) (Or.inr (Or.inl rfl)), show (858993459 : Int32) = nI 858993459 by decide, nI_and, nI_and, nI_add]; rfl
  have l2 : n2 (n1 v) < 2 ^ 21 := by
    have h1 : n1 v &&& 858993459 ≤ n1 v := and_le_l _ _
    have h2 : n1 v / 4 &&& 858993459 ≤ n1 v / 4 := and_le_l _ _
    unfold n2; omega
  have a3 : bc3 (nI (n2 (n1 v))) = nI (n3 (n2 (n1 v))) := by
    rw [bc3, ush (by omega) (Or.inr (Or.inr (Or.inl rfl))), show (252645135 : Int32) = nI 252645135 by decide, nI_add, nI_and]; rfl
  have l3 : n3 (n2 (n1 v)) < 2 ^ 22 := by
    have h1 : (n2 (n1 v) + n2 (n1 v) / 16) &&& 252645135 ≤ n2 (n1 v) + n2 (n1 v) / 16 := and_le_l _ _
    unfold n3; omega
  have a4 : bc4 (nI (n3 (n2 (n1 v)))) = nI (n4 (n3 (n2 (n1 v)))) := by
    rw [bc4, ush (by omega) (Or.inr (Or.inr (Or.inr (Or.inl rfl)))), nI_add]; rfl
  have l4 : n4 (n3 (n2 (n1 v))) < 2 ^ 23 := by unfold n4; omega
  have a5 : bc5 (nI (n4 (n3 (n2 (n1 v))))) = nI (n5 (n4 (n3 (n2 (n1 v))))) := by
    rw [bc5, ush (by omega) (Or.inr (Or.inr (Or.inr (Or.inr rfl)))), nI_add]; rfl
  rw [bcI, a1, a2, a3, a4, a5, nI_and]; rfl
theorem and_split {x0 m0 x1 m1 : Nat} (hx : x0 < 256) (hm : m0 < 256) : (x0 + 256 * x1) &&& (m0 + 256 * m1) = (x0 &&& m0) + 256 * (x1 &&& m1) := by
  have h1 : ((x0 + 256 * x1) &&& (m0 + 256 * m1)) / 2 ^ 8 = x1 &&& m1 := by
    rw [Nat.and_div_two_pow]
    congr 1 <;> omega
  have h2 : ((x0 + 256 * x1) &&& (m0 + 256 * m1)) % 2 ^ 8 = x0 &&& m0 := by
    rw [Nat.and_mod_two_pow]
    congr 1 <;> omega
  have h3 := Nat.div_add_mod ((x0 + 256 * x1) &&& (m0 + 256 * m1)) (2 ^ 8)
  rw [h1, h2] at h3
  omega
