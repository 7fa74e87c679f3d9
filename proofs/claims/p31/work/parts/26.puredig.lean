theorem plc_le (T : Nat → Int32) (n mo : Nat) (ln : Int32) : ∀ x, plc T n mo ln x ≤ x
  | 0 => Nat.le_refl _
  | x + 1 => by have := plc_le T n mo ln x; unfold plc; split <;> omega
def meanV (T : Nat → Int32) (n mo : Nat) : UInt64 := if 64 - plc T n mo (-1) 64 = 0 then FP.dconst0 else FP.ddiv (FP.i2d (sm T n mo 0 64)) (FP.i2d (nI (64 - plc T n mo (-1) 64)))
/-! doubles -/
theorem n64_of {r : UInt64} (h : FP.Core.val64 r ≠ .nan) : vf_n64 r := by
  have h1 : ¬ FP.Core.dIsNaN r = true := fun q => h ((FP.Core.dIsNaN_iff r).mp q)
  rw [FP.Core.isNaN_bits] at h1
  show r &&& 0x7fffffffffffffff ≤ 0x7ff0000000000000
  rw [UInt64.le_iff_toNat_le, UInt64.toNat_and]
  have e : r.toNat &&& (0x7fffffffffffffff : UInt64).toNat = r.toNat % 2 ^ 63 := by
    rw [show (0x7fffffffffffffff : UInt64).toNat = 2 ^ 63 - 1 by decide, Nat.and_two_pow_sub_one_eq_mod]
  have e2 : (0x7ff0000000000000 : UInt64).toNat = 9218868437227405312 := by decide
  rw [e, e2]; omega
theorem i2d_fin (x : Int32) : ∃ c q, FP.Core.val64 (FP.i2d x) = .fin (decide (x.toInt < 0)) c q ∧ (x.toInt ≠ 0 → c ≠ 0) := by
  by_cases h0 : x.toInt = 0
  · refine ⟨0, FP.Core.b64.qmin, ?_, fun q => absurd h0 q⟩
    show FP.Core.val64 (FP.Core.i2d x) = _
    rw [FP.Core.val64_i2d, h0]; rfl
  · have hl := x.toInt_lt
    have hg := x.le_toInt
    have hn : x.toInt.natAbs ≠ 0 := by omega
    have hlog : Nat.log2 x.toInt.natAbs ≤ 31 := by
      have : x.toInt.natAbs < 2 ^ 32 := by omega
      have := (Nat.log2_lt hn).mpr this
      omega
    have h1 : 2 ^ Nat.log2 x.toInt.natAbs ≤ x.toInt.natAbs := Nat.log2_self_le hn
    have h2 : x.toInt.natAbs < 2 ^ (Nat.log2 x.toInt.natAbs + 1) := Nat.lt_log2_self
    refine ⟨x.toInt.natAbs * 2 ^ (52 - Nat.log2 x.toInt.natAbs), (Nat.log2 x.toInt.natAbs : Int) - 52, ?_, fun _ => by
      have := Nat.two_pow_pos (52 - Nat.log2 x.toInt.natAbs)
      exact Nat.mul_ne_zero hn (by omega)⟩
    show FP.Core.val64 (FP.Core.i2d x) = _
    rw [FP.Core.val64_i2d]
    generalize hk : Nat.log2 x.toInt.natAbs = k at *
    have e1 : 2 ^ k * 2 ^ (52 - k) = 2 ^ 52 := by rw [← Nat.pow_add]; congr 1; omega
    have e2 : 2 ^ (k + 1) * 2 ^ (52 - k) = 2 ^ 53 := by rw [← Nat.pow_add]; congr 1; omega
    refine FP.Core.roundRatio_exact FP.Core.good_b64 (by decide) ⟨?_, ?_, ?_, Or.inr ?_⟩ ?_
    · show _ < 2 ^ 53
      rw [← e2]; exact Nat.mul_lt_mul_of_pos_right h2 (Nat.two_pow_pos _)
    · have : FP.Core.b64.qmin = -1074 := by decide
      omega
    · have : FP.Core.b64.qmax = 971 := by decide
      omega
    · show 2 ^ 52 ≤ _
      rw [← e1]; exact Nat.mul_le_mul_right _ h1
    · have a1 : ((0 : Int) - ((k : Int) - 52)).toNat = 52 - k := by omega
      have a2 : ((k : Int) - 52 - 0).toNat = 0 := by omega
      rw [a1, a2, Nat.pow_zero, Nat.mul_one, Nat.mul_one]
theorem rr_nn (f : FP.Core.Fmt) (s : Bool) (A B : Nat) (e : Int) : FP.Core.roundRatio f s A B e ≠ .nan := by
  unfold FP.Core.roundRatio FP.Core.roundAt FP.Core.settle FP.Core.bound
  repeat' split
  all_goals (intro h; cases h)
theorem div_nn (x : Int32) {k : Nat} (hk : 0 < k) (hk2 : k ≤ 64) : vf_n64 (FP.ddiv (FP.i2d x) (FP.i2d (nI k))) := by
  obtain ⟨c, q, h1, -⟩ := i2d_fin x
  obtain ⟨d, r, h2, hd⟩ := i2d_fin (nI k)
  have hd0 : d ≠ 0 := hd (by rw [nI_toInt (by omega)]; omega)
  refine n64_of ?_
  show FP.Core.val64 (FP.Core.ddiv (FP.i2d x) (FP.i2d (nI k))) ≠ .nan
  rw [FP.Core.val64_ddiv, h1, h2]
  show (if d = 0 then _ else FP.Core.roundRatio FP.Core.b64 _ c d (q - r)) ≠ .nan
  rw [if_neg hd0]
  exact rr_nn _ _ _ _ _
section FPB
variable {v w t : UInt64} {s : Bool} {c : Nat} {q r k : Int}
end FPB
theorem mean_nn (T : Nat → Int32) (n mo : Nat) (h : ¬ 64 - plc T n mo (-1) 64 = 0) : vf_n64 (FP.ddiv (FP.i2d (sm T n mo 0 64)) (FP.i2d (nI (64 - plc T n mo (-1) 64)))) := div_nn _ (by omega) (by omega)
