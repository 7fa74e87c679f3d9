/-! how many lines are never lowest, bit by bit; prune -/
theorem pop_eq (T : Nat → Int32) {n : Nat} (hn : n ≤ 20) : bcI (nvr T n n) = nI (los T n n) := by sorry
theorem nI_or (a b : Nat) : nI a ||| nI b = nI (a ||| b) := by
  apply Int32.toBitVec_inj.mp
  rw [Int32.toBitVec_or]
  show BitVec.ofNat 32 a ||| BitVec.ofNat 32 b = BitVec.ofNat 32 (a ||| b)
  apply BitVec.eq_of_toNat_eq
  simp [Nat.or_mod_two_pow]
theorem nI_and (a b : Nat) : nI a &&& nI b = nI (a &&& b) := by
  apply Int32.toBitVec_inj.mp
  rw [Int32.toBitVec_and]
  show BitVec.ofNat 32 a &&& BitVec.ofNat 32 b = BitVec.ofNat 32 (a &&& b)
  apply BitVec.eq_of_toNat_eq
  simp [Nat.and_mod_two_pow]
theorem nI_shl : ∀ i, i < 20 → nI 1 <<< (nI i &&& 31) = nI (2 ^ i) := by decide +kernel
theorem nI_shm : ∀ i, i < 20 → (nI i &&& 31).toBitVec.smod 32 = BitVec.ofNat 32 i := by decide +kernel
theorem nI_shr {v i : Nat} (hv : v < 2 ^ 31) (hi : i < 20) : nI v >>> (nI i &&& 31) = nI (v / 2 ^ i) := by
  apply Int32.toBitVec_inj.mp
  rw [Int32.toBitVec_shiftRight, nI_shm i hi]
  show (BitVec.ofNat 32 v).sshiftRight' (BitVec.ofNat 32 i) = BitVec.ofNat 32 (v / 2 ^ i)
  have hm : (BitVec.ofNat 32 v).msb = false := by
    rw [BitVec.msb_eq_decide]; simp; omega
  rw [BitVec.sshiftRight', BitVec.sshiftRight_eq_of_msb_false hm]
  apply BitVec.eq_of_toNat_eq
  have h1 : i % 4294967296 = i := by omega
  have h2 : v % 4294967296 = v := by omega
  have h3 : v / 2 ^ i ≤ v := Nat.div_le_self _ _
  have h4 : v / 2 ^ i % 4294967296 = v / 2 ^ i := Nat.mod_eq_of_lt (Nat.lt_of_le_of_lt h3 (by omega))
  simp [Nat.shiftRight_eq_div_pow, h1, h2, h4]
def nvN (T : Nat → Int32) (n : Nat) : Nat → Nat
  | 0 => 0
  | i + 1 => if fmo T n i = -1 then nvN T n i + 2 ^ i else nvN T n i
theorem nvN_lt (T : Nat → Int32) (n : Nat) : ∀ i, nvN T n i < 2 ^ i
  | 0 => by simp [nvN]
  | i + 1 => by
    have := nvN_lt T n i
    rw [nvN, Nat.pow_succ]
    split <;> omega
theorem nvr_N (T : Nat → Int32) (n : Nat) : ∀ i, i ≤ 20 → nvr T n i = nI (nvN T n i)
  | 0, _ => rfl
  | i + 1, hi => by
    have ih := nvr_N T n i (by omega)
    have hl := nvN_lt T n i
    rw [nvr, nvN]
    split
    · rw [ih, nI_shl i (by omega), nI_or]
      have := Nat.two_pow_add_eq_or_of_lt hl 1
      rw [Nat.mul_one] at this
      rw [Nat.or_comm, ← this, Nat.add_comm]
    · exact ih
theorem nvN_bit (T : Nat → Int32) (n : Nat) : ∀ i j, j < i → nvN T n i / 2 ^ j % 2 = if fmo T n j = -1 then 1 else 0
  | 0, j, h => absurd h (Nat.not_lt_zero j)
  | i + 1, j, h => by
    have hl := nvN_lt T n i
    rcases Nat.lt_or_ge j i with q | q
    · have ih := nvN_bit T n i j q
      rw [nvN]
      split
      · obtain ⟨k, rfl⟩ : ∃ k, i = j + 1 + k := ⟨i - j - 1, by omega⟩
        have e : 2 ^ (j + 1 + k) = 2 ^ j * (2 * 2 ^ k) := by rw [Nat.pow_add, Nat.pow_succ, Nat.mul_assoc]
        rw [e, Nat.add_mul_div_left _ _ (Nat.two_pow_pos j), ← ih]
        omega
      · exact ih
    · have e : j = i := by omega
      subst e
      rw [nvN]
      split
      · rename_i h1
        rw [Nat.add_div_right _ (Nat.two_pow_pos j), Nat.div_eq_of_lt hl]
      · rw [Nat.div_eq_of_lt hl]
theorem bit_eq (T : Nat → Int32) {n j : Nat} (hn : n ≤ 20) (hj : j < n) : bitB (nvr T n n) j = decide (fmo T n j = -1) := by
  have hl := nvN_lt T n n
  have h20 : 2 ^ n ≤ 2 ^ 20 := Nat.pow_le_pow_right (by decide) hn
  rw [bitB, nvr_N T n n hn, nI_shr (by omega) (by omega), nI_and, Nat.and_one_is_mod, nvN_bit T n n j hj]
  by_cases h : fmo T n j = -1
  · simp [h]; decide
  · simp [h]
section PM
variable {T : Nat → Int32} {n mo l k w c : Nat}
theorem kp0 (hn : n ≤ 20) (hT : TOK T n) : kp T n mo 0 = -1 := by
  have h := (grow_val (ke := fun _ => 0) (sp := fun _ => 0) (mo := mo) hn hT rfl 0 (by decide)).1
  rw [← h]
  have key : ∀ i, (mA T mo (fillF (fun _ => 0) (-1) 128, fillF (fun _ => 0) (nI 0) 128) i).1 0 = -1 := fun i => by
    induction i with
    | zero => simp [mA, fillF]
    | succ i ih =>
      rw [mA]
      split
      · have := (mN_at (T := T) i (mA T mo (fillF (fun _ => 0) (-1) 128, fillF (fun _ => 0) (nI 0) 128) i) 0 128 (Nat.le_refl _)).2 (fun c _ h1 h2 => by
          have := sbn_le h2
          have := h1.1
          omega)
        exact (congrArg Prod.fst this).trans ih
      · exact ih
  exact key n
theorem nds_y (h0 : kp T n mo 0 = -1) (hl : l < 2 ^ 31) (h : kp T n mo k = nI l) : nds T n mo (nI l) (k + 1) = nds T n mo (nI l) k + 1 := by
  rcases Nat.eq_zero_or_pos k with q | q
  · rw [q, h0] at h; exact absurd h.symm (nI_ne1 hl)
  · rw [nds, if_pos ⟨q, h⟩]
theorem nds_x (h : ¬ kp T n mo k = nI l) : nds T n mo (nI l) (k + 1) = nds T n mo (nI l) k := by rw [nds, if_neg (fun q => h q.2)]; rfl
theorem plc_y {ln : Int32} (h : plo T n mo k = ln) : plc T n mo ln (k + 1) = plc T n mo ln k + 1 := by rw [plc, if_pos h]
theorem plc_x {ln : Int32} (h : ¬ plo T n mo k = ln) : plc T n mo ln (k + 1) = plc T n mo ln k := by rw [plc, if_neg h]; rfl
theorem ofl_6 (hw : w = 6) (hc : w = 6 → c = plc T n mo (nI l) k) (hk : k = 64) : nI c = linV T n mo l w := by rw [hc hw, hk, linV, if_pos hw]
theorem ofl_7 (hw : w = 7) (hc : ¬ w = 6 → c = nds T n mo (nI l) k) (hk : k = 128) : nI c = linV T n mo l w := by rw [hc (by omega), hk, linV, if_neg (by omega), if_pos hw]
theorem prM_y (hn : n ≤ 20) (hj : k < n) (h : fmo T n k = -1) : snp (pDrop (prS (nvr T n n) T n (n - (k + 1))).1 (prS (nvr T n n) T n (n - (k + 1))).2.1 k) ((prS (nvr T n n) T n (n - (k + 1))).2.1 - 1) mo = snp (prS (nvr T n n) T n (n - k)).1 (prS (nvr T n n) T n (n - k)).2.1 mo := by
  have e : n - 1 - (n - (k + 1)) = k := by omega
  rw [show n - k = n - (k + 1) + 1 by omega, prS, e, if_pos (by rw [bit_eq T hn hj, h]; rfl)]
theorem prM_x (hn : n ≤ 20) (hj : k < n) (h : ¬ fmo T n k = -1) : snp (prS (nvr T n n) T n (n - (k + 1))).1 (prS (nvr T n n) T n (n - (k + 1))).2.1 mo = snp (prS (nvr T n n) T n (n - k)).1 (prS (nvr T n n) T n (n - k)).2.1 mo := by
  have e : n - 1 - (n - (k + 1)) = k := by omega
  rw [show n - k = n - (k + 1) + 1 by omega, prS, e, if_neg (by rw [bit_eq T hn hj]; simpa using h)]
theorem cn_01 {h : Nat} (hw : w < 2) : snp T n mo w = cntV T n mo h w := by
  rcases (show w = 0 ∨ w = 1 by omega) with q | q <;> subst q <;> rfl
theorem cn_2 {h : Nat} (hw : w = 2) : nI (lvc T mo n) = cntV T n mo h w := by subst hw; rfl
theorem cn_3 {h : Nat} (hw : w = 3) : ofR T n mo 0 3 = cntV T n mo h w := by subst hw; rfl
theorem cn_4 {h : Nat} (hw : ¬ w = 2 ∧ ¬ w = 3) (hw2 : 2 ≤ w ∧ w < 5) : nI (plc T n mo (-1) 64) = cntV T n mo h w := by
  have e : w = 4 := by omega
  subst e; simp [cntV]
theorem cn_5 {h : Nat} (hw : w = 5) : inV T n mo true = cntV T n mo h w := by subst hw; simp [cntV, inV]
theorem cn_6 {h : Nat} (hw : w = 6) : inV T n mo false = cntV T n mo h w := by subst hw; simp [cntV, inV]
theorem cn_7 {h : Nat} (hw : w = 7) (hp : bcI (nvr T n n) = nI (los T n n)) : nI (los T n n) = cntV T n mo h w := by subst hw; simp [cntV, hp]
theorem cn_8 {h : Nat} (hw : w = 8) : nI h = cntV T n mo h w := by subst hw; simp [cntV]
end PM
