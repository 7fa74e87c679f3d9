/-! how many lines are never lowest, bit by bit; prune -/
theorem nI_or (a b : Nat) : nI a ||| nI b = nI (a ||| b) := by
  apply Int32.toBitVec_inj.mp
  rw [Int32.toBitVec_or]
  show BitVec.ofNat 32 a ||| BitVec.ofNat 32 b = BitVec.ofNat 32 (a ||| b)
  apply BitVec.eq_of_toNat_eq
  simp [Nat.or_mod_two_pow]
theorem nI_and (a b : Nat) : nI a &&& nI b = nI (a &&& b) := by
  apply Int32.toBitVec_inj.mp
  rw [Int32.toBitVec_and]
  show BitVec.ofNat 32 a &&& BitVec.ofNat 32 b = BitVec.ofNat 32 (a &&& b)
  apply BitVec.eq_of_toNat_eq
  simp [Nat.and_mod_two_pow]
theorem nI_shl : ∀ i, i < 20 → nI 1 <<< (nI i &&& 31) = nI (2 ^ i) := by decide +kernel
theorem nI_shm : ∀ i, i < 20 → (nI i &&& 31).toBitVec.smod 32 = BitVec.ofNat 32 i := by decide +kernel
theorem nI_shr {v i : Nat} (hv : v < 2 ^ 31) (hi : i < 20) : nI v >>> (nI i &&& 31) = nI (v / 2 ^ i) := by
  apply Int32.toBitVec_inj.mp
  rw [Int32.toBitVec_shiftRight, nI_shm i hi]
  show (BitVec.ofNat 32 v).sshiftRight' (BitVec.ofNat 32 i) = BitVec.ofNat 32 (v / 2 ^ i)
  have hm : (BitVec.ofNat 32 v).msb = false := by
    rw [BitVec.msb_eq_decide]; simp; omega
  rw [BitVec.sshiftRight', BitVec.sshiftRight_eq_of_msb_false hm]
  apply BitVec.eq_of_toNat_eq
  have h1 : i % 4294967296 = i := by omega
  have h2 : v % 4294967296 = v := by omega
  have h3 : v / 2 ^ i ≤ v := Nat.div_le_self _ _
  have h4 : v / 2 ^ i % 4294967296 = v / 2 ^ i := Nat.mod_eq_of_lt (Nat.lt_of_le_of_lt h3 (by omega))
  simp [Nat.shiftRight_eq_div_pow, h1, h2, h4]
def nvN (T : Nat → Int32) (n : Nat) : Nat → Nat
  | 0 => 0
  | i + 1 => if fmo T n i = -1 then nvN T n i + 2 ^ i else nvN T n i
theorem nvN_lt (T : Nat → Int32) (n : Nat) : ∀ i, nvN T n i < 2 ^ i
  | 0 => by simp [nvN]
  | i + 1 => by
    have := nvN_lt T n i
    rw [nvN, Nat.pow_succ]
    split <;> omega
theorem nvr_N (T : Nat → Int32) (n : Nat) : ∀ i, i ≤ 20 → nvr T n i = nI (nvN T n i)
  | 0, _ => rfl
  | i + 1, hi => by
    have ih := nvr_N T n i (by omega)
    have hl := nvN_lt T n i
    rw [nvr, nvN]
    split
    · rw [ih, nI_shl i (by omega), nI_or]
      have := Nat.two_pow_add_eq_or_of_lt hl 1
      rw [Nat.mul_one] at this
      rw [Nat.or_comm, ← this, Nat.add_comm]
    · exact ih
theorem nvN_bit (T : Nat → Int32) (n : Nat) : ∀ i j, j < i → nvN T n i / 2 ^ j % 2 = if fmo T n j = -1 then 1 else 0
  | 0, j, h => absurd h (Nat.not_lt_zero j)
  | i + 1, j, h => by
    have hl := nvN_lt T n i
    rcases Nat.lt_or_ge j i with q | q
    · have ih := nvN_bit T n i j q
      rw [nvN]
      split
      · obtain ⟨k, rfl⟩ : ∃ k, i = j + 1 + k := ⟨i - j - 1, by omega⟩
        have e : 2 ^ (j + 1 + k) = 2 ^ j * (2 * 2 ^ k) := by rw [Nat.pow_add, Nat.pow_succ, Nat.mul_assoc]
        rw [e, Nat.add_mul_div_left _ _ (Nat.two_pow_pos j), ← ih]
        omega
      · exact ih
    · have e : j = i := by omega
      subst e
      rw [nvN]
      split
      · rename_i h1
        rw [Nat.add_div_right _ (Nat.two_pow_pos j), Nat.div_eq_of_lt hl]
      · rw [Nat.div_eq_of_lt hl]
theorem bit_eq (T : Nat → Int32) {n j : Nat} (hn : n ≤ 20) (hj : j < n) : bitB (nvr T n n) j = decide (fmo T n j = -1) := by
  have hl := nvN_lt T n n
  have h20 : 2 ^ n ≤ 2 ^ 20 := Nat.pow_le_pow_right (by decide) hn
  rw [bitB, nvr_N T n n hn, nI_shr (by omega) (by omega), nI_and, Nat.and_one_is_mod, nvN_bit T n n j hj]
  by_cases h : fmo T n j = -1
  · simp [h]; decide
  · simp [h]
theorem ush {v k : Nat} (hv : v < 2 ^ 31) (hk : k = 1 ∨ k = 2 ∨ k = 4 ∨ k = 8 ∨ k = 16) : ((nI v).toUInt32 >>> ((nI k).toUInt32 &&& Int32.toUInt32 31)).toInt32 = nI (v / 2 ^ k) := by
  have e : (nI k).toUInt32 &&& Int32.toUInt32 31 = UInt32.ofNat k := by
    rcases hk with rfl | rfl | rfl | rfl | rfl <;> decide +kernel
  have hk32 : k < 32 := by omega
  rw [e]
  apply Int32.toBitVec_inj.mp
  show (UInt32.ofBitVec (BitVec.ofNat 32 v) >>> UInt32.ofNat k).toBitVec = BitVec.ofNat 32 (v / 2 ^ k)
  apply BitVec.eq_of_toNat_eq
  have h3 : v / 2 ^ k ≤ v := Nat.div_le_self _ _
  have h4 : v / 2 ^ k % 4294967296 = v / 2 ^ k := Nat.mod_eq_of_lt (Nat.lt_of_le_of_lt h3 (by omega))
  have h5 : k % 4294967296 % 32 = k := by omega
  have h6 : v % 4294967296 = v := by omega
  have e7 : (UInt32.ofBitVec (BitVec.ofNat 32 v)).toNat = v := by
    show (BitVec.ofNat 32 v).toNat = v
    rw [BitVec.toNat_ofNat]; exact h6
  have e8 : (UInt32.ofNat k).toNat = k := by
    show (BitVec.ofNat 32 k).toNat = k
    rw [BitVec.toNat_ofNat]; omega
  rw [UInt32.toNat_toBitVec, UInt32.toNat_shiftRight, e7, e8, Nat.mod_eq_of_lt hk32, Nat.shiftRight_eq_div_pow, BitVec.toNat_ofNat]
  exact h4.symm
theorem nI_sub' {a b : Nat} (h : b ≤ a) : nI a - nI b = nI (a - b) := pk_sub h
/-- the same on plain numbers -/
def n1 (v : Nat) : Nat := v - ((v / 2) &&& 1431655765)
def n2 (v : Nat) : Nat := (v &&& 858993459) + ((v / 4) &&& 858993459)
def n3 (v : Nat) : Nat := (v + v / 16) &&& 252645135
def n4 (v : Nat) : Nat := v + v / 256
def n5 (v : Nat) : Nat := v + v / 65536
def n6 (v : Nat) : Nat := n5 (n4 (n3 (n2 (n1 v)))) &&& 63
theorem and_le_l (a b : Nat) : a &&& b ≤ a := Nat.and_le_left
theorem n1_le (v : Nat) : n1 v ≤ v := Nat.sub_le _ _
theorem bcI_N {v : Nat} (hv : v < 2 ^ 20) : bcI (nI v) = nI (n6 v) := by
  have a1 : bc1 (nI v) = nI (n1 v) := by
    rw [bc1, ush (by omega) (Or.inl rfl), show (1431655765 : Int32) = nI 1431655765 by decide, nI_and, pk_sub (Nat.le_trans (and_le_l _ _) (Nat.div_le_self _ _))]; rfl
  have l1 : n1 v < 2 ^ 20 := Nat.lt_of_le_of_lt (n1_le v) hv
  have a2 : bc2 (nI (n1 v)) = nI (n2 (n1 v)) := by
    rw [bc2, ush (by omega) (Or.inr (Or.inl rfl)), show (858993459 : Int32) = nI 858993459 by decide, nI_and, nI_and, nI_add]; rfl
  have l2 : n2 (n1 v) < 2 ^ 21 := by
    have h1 : n1 v &&& 858993459 ≤ n1 v := and_le_l _ _
    have h2 : n1 v / 4 &&& 858993459 ≤ n1 v / 4 := and_le_l _ _
    unfold n2; omega
  have a3 : bc3 (nI (n2 (n1 v))) = nI (n3 (n2 (n1 v))) := by
    rw [bc3, ush (by omega) (Or.inr (Or.inr (Or.inl rfl))), show (252645135 : Int32) = nI 252645135 by decide, nI_add, nI_and]; rfl
  have l3 : n3 (n2 (n1 v)) < 2 ^ 22 := by
    have h1 : (n2 (n1 v) + n2 (n1 v) / 16) &&& 252645135 ≤ n2 (n1 v) + n2 (n1 v) / 16 := and_le_l _ _
    unfold n3; omega
  have a4 : bc4 (nI (n3 (n2 (n1 v)))) = nI (n4 (n3 (n2 (n1 v)))) := by
    rw [bc4, ush (by omega) (Or.inr (Or.inr (Or.inr (Or.inl rfl)))), nI_add]; rfl
  have l4 : n4 (n3 (n2 (n1 v))) < 2 ^ 23 := by unfold n4; omega
  have a5 : bc5 (nI (n4 (n3 (n2 (n1 v))))) = nI (n5 (n4 (n3 (n2 (n1 v))))) := by
    rw [bc5, ush (by omega) (Or.inr (Or.inr (Or.inr (Or.inr rfl)))), nI_add]; rfl
  rw [bcI, a1, a2, a3, a4, a5, nI_and]; rfl
theorem and_split {x0 m0 x1 m1 : Nat} (hx : x0 < 256) (hm : m0 < 256) : (x0 + 256 * x1) &&& (m0 + 256 * m1) = (x0 &&& m0) + 256 * (x1 &&& m1) := by
  have h1 : ((x0 + 256 * x1) &&& (m0 + 256 * m1)) / 2 ^ 8 = x1 &&& m1 := by
    rw [Nat.and_div_two_pow]
    congr 1 <;> omega
  have h2 : ((x0 + 256 * x1) &&& (m0 + 256 * m1)) % 2 ^ 8 = x0 &&& m0 := by
    rw [Nat.and_mod_two_pow]
    congr 1 <;> omega
  have h3 := Nat.div_add_mod ((x0 + 256 * x1) &&& (m0 + 256 * m1)) (2 ^ 8)
  rw [h1, h2] at h3
  omega
theorem d1 : ∀ a, a < 256 → ∀ c, c < 2 → (a / 2 + 128 * c) &&& 85 = (a / 2) &&& 85 := by decide +kernel
theorem d2 : ∀ a, a < 256 → ∀ c, c < 4 → (a / 4 + 64 * c) &&& 51 = (a / 4) &&& 51 := by decide +kernel
def o1 (m v : Nat) : Nat := v - ((v / 2) &&& m)
def o2 (m v : Nat) : Nat := (v &&& m) + ((v / 4) &&& m)
def o3 (m v : Nat) : Nat := (v + v / 16) &&& m
theorem o1_s {a b m : Nat} (ha : a < 256) : o1 (85 + 256 * m) (a + 256 * b) = o1 85 a + 256 * o1 m b := by
  have e : (a + 256 * b) / 2 = (a / 2 + 128 * (b % 2)) + 256 * (b / 2) := by omega
  have h1 : (a / 2) &&& 85 ≤ a / 2 := and_le_l _ _
  have h2 : (b / 2) &&& m ≤ b / 2 := and_le_l _ _
  rw [o1, e, and_split (by omega) (by decide), d1 a ha (b % 2) (by omega), o1, o1]
  omega
theorem o2_s {a b m : Nat} (ha : a < 256) : o2 (51 + 256 * m) (a + 256 * b) = o2 51 a + 256 * o2 m b := by
  have e : (a + 256 * b) / 4 = (a / 4 + 64 * (b % 4)) + 256 * (b / 4) := by omega
  rw [o2, e, and_split ha (by decide), and_split (x0 := a / 4 + 64 * (b % 4)) (by omega) (by decide), d2 a ha (b % 4) (by omega), o2, o2]
  omega
theorem o3_s {a b m : Nat} (ha : a + a / 16 + 16 * (b % 16) < 256) : o3 (15 + 256 * m) (a + 256 * b) = o3 15 a + 256 * o3 m b := by
  have e : a + 256 * b + (a + 256 * b) / 16 = (a + a / 16 + 16 * (b % 16)) + 256 * (b + b / 16) := by omega
  have e2 : (a + a / 16 + 16 * (b % 16)) &&& 15 = (a + a / 16) &&& 15 := by
    rw [show (15 : Nat) = 2 ^ 4 - 1 by decide, Nat.and_two_pow_sub_one_eq_mod, Nat.and_two_pow_sub_one_eq_mod]; omega
  rw [o3, e, and_split ha (by decide), e2, o3, o3]
def pcN : Nat → Nat → Nat
  | 0, _ => 0
  | f + 1, v => v % 2 + pcN f (v / 2)
theorem dB : ∀ a, a < 256 → o1 85 a < 256 ∧ o2 51 (o1 85 a) ≤ 68 ∧ o2 51 (o1 85 a) % 16 ≤ 4 ∧ o3 15 (o2 51 (o1 85 a)) = pcN 8 a ∧ pcN 8 a ≤ 8 := by decide +kernel
theorem dC : ∀ c, c < 16 → o2 13107 (o1 21845 c) % 16 ≤ 4 ∧ o3 3855 (o2 13107 (o1 21845 c)) = pcN 4 c ∧ pcN 4 c ≤ 4 := by decide +kernel
theorem n6_b {a b c : Nat} (ha : a < 256) (hb : b < 256) (hc : c < 16) : n6 (a + 256 * (b + 256 * c)) = pcN 8 a + pcN 8 b + pcN 4 c := by
  obtain ⟨a1, a2, a3, a4, a5⟩ := dB a ha
  obtain ⟨b1, b2, b3, b4, b5⟩ := dB b hb
  obtain ⟨c1, c2, c3⟩ := dC c hc
  have e1 : n1 (a + 256 * (b + 256 * c)) = o1 85 a + 256 * (o1 85 b + 256 * o1 21845 c) := by
    show o1 (85 + 256 * (85 + 256 * 21845)) _ = _
    rw [o1_s ha, o1_s hb]
  have e2 : n2 (o1 85 a + 256 * (o1 85 b + 256 * o1 21845 c)) = o2 51 (o1 85 a) + 256 * (o2 51 (o1 85 b) + 256 * o2 13107 (o1 21845 c)) := by
    show o2 (51 + 256 * (51 + 256 * 13107)) _ = _
    rw [o2_s a1, o2_s b1]
  have e3 : n3 (o2 51 (o1 85 a) + 256 * (o2 51 (o1 85 b) + 256 * o2 13107 (o1 21845 c))) = pcN 8 a + 256 * (pcN 8 b + 256 * pcN 4 c) := by
    show o3 (15 + 256 * (15 + 256 * 3855)) _ = _
    rw [o3_s (by omega), o3_s (by omega), a4, b4, c2]
  rw [n6, e1, e2, e3, show (63 : Nat) = 2 ^ 6 - 1 by decide, Nat.and_two_pow_sub_one_eq_mod, n5, n4]
  generalize pcN 8 a = A at a5
  generalize pcN 8 b = B at b5
  generalize pcN 4 c = C at c3
  have x1 : (A + 256 * (B + 256 * C)) / 256 = B + 256 * C := by omega
  rw [x1]
  have x2 : (A + 256 * (B + 256 * C) + (B + 256 * C)) / 65536 = C := by omega
  rw [x2]
  have x3 : A + 256 * (B + 256 * C) + (B + 256 * C) + C = (A + B + C) + 2 ^ 6 * (4 * B + 1024 * C + 4 * B * 0 + 4 * C) := by omega
  rw [x3, Nat.add_mul_mod_self_left, Nat.mod_eq_of_lt (by omega)]
theorem pcN_0 : ∀ f, pcN f 0 = 0
  | 0 => rfl
  | f + 1 => by rw [pcN, pcN_0 f]
theorem pcN_s : ∀ (k f a b : Nat), a < 2 ^ k → pcN (f + k) (a + 2 ^ k * b) = pcN k a + pcN f b
  | 0, f, a, b, h => by
    have : a = 0 := by simpa using h
    subst this; simp [pcN]
  | k + 1, f, a, b, h => by
    rw [Nat.pow_succ] at h
    have e1 : (a + 2 ^ (k + 1) * b) % 2 = a % 2 := by rw [Nat.pow_succ, Nat.mul_assoc, Nat.mul_left_comm]; omega
    have e2 : (a + 2 ^ (k + 1) * b) / 2 = a / 2 + 2 ^ k * b := by rw [Nat.pow_succ, Nat.mul_assoc, Nat.mul_left_comm]; omega
    rw [← Nat.add_assoc, pcN, e1, e2, pcN_s k f (a / 2) b (by omega), pcN]; omega
theorem pcN_los (T : Nat → Int32) (n : Nat) : ∀ i, i ≤ 20 → pcN 20 (nvN T n i) = los T n i
  | 0, _ => pcN_0 20
  | i + 1, hi => by
    have ih := pcN_los T n i (by omega)
    have hl := nvN_lt T n i
    have h0 := pcN_s i (20 - i) (nvN T n i) 0 hl
    have h1 := pcN_s i (20 - i) (nvN T n i) 1 hl
    rw [show 20 - i + i = 20 by omega] at h0 h1
    rw [Nat.mul_zero, Nat.add_zero, pcN_0] at h0
    have e1 : pcN (20 - i) 1 = 1 := by
      obtain ⟨k, hk⟩ : ∃ k, 20 - i = k + 1 := ⟨19 - i, by omega⟩
      rw [hk, pcN, show 1 / 2 = 0 by decide, pcN_0]
    rw [Nat.mul_one, e1] at h1
    rw [nvN, los]
    split
    · rw [h1, ← ih, h0]
    · exact ih
theorem n6_pc {v : Nat} (hv : v < 2 ^ 20) : n6 v = pcN 20 v := by
  obtain ⟨a, ha⟩ : ∃ a, a = v % 256 := ⟨_, rfl⟩
  obtain ⟨b, hb⟩ : ∃ b, b = v / 256 % 256 := ⟨_, rfl⟩
  obtain ⟨c, hc⟩ : ∃ c, c = v / 65536 := ⟨_, rfl⟩
  have e : v = a + 256 * (b + 256 * c) := by omega
  have a1 : a < 256 := by omega
  have b1 : b < 256 := by omega
  have c1 : c < 16 := by omega
  have s1 : pcN 20 (a + 256 * (b + 256 * c)) = pcN 8 a + pcN 12 (b + 256 * c) := pcN_s 8 12 a (b + 256 * c) a1
  have s2 : pcN 12 (b + 256 * c) = pcN 8 b + pcN 4 c := pcN_s 8 4 b c b1
  rw [e, n6_b a1 b1 c1, s1, s2, Nat.add_assoc]
theorem pop_eq (T : Nat → Int32) {n : Nat} (hn : n ≤ 20) : bcI (nvr T n n) = nI (los T n n) := by
  have hl := nvN_lt T n n
  have h20 : 2 ^ n ≤ 2 ^ 20 := Nat.pow_le_pow_right (by decide) hn
  have hlt : nvN T n n < 2 ^ 20 := Nat.lt_of_lt_of_le hl h20
  rw [nvr_N T n n hn, bcI_N hlt, n6_pc hlt, pcN_los T n n hn]
section PM
variable {T : Nat → Int32} {n mo l k w c : Nat}
theorem kp0 (hn : n ≤ 20) (hT : TOK T n) : kp T n mo 0 = -1 := by
  have h := (grow_val (ke := fun _ => 0) (sp := fun _ => 0) (mo := mo) hn hT rfl 0 (by decide)).1
  rw [← h]
  have key : ∀ i, (mA T mo (fillF (fun _ => 0) (-1) 128, fillF (fun _ => 0) (nI 0) 128) i).1 0 = -1 := fun i => by
    induction i with
    | zero => simp [mA, fillF]
    | succ i ih =>
      rw [mA]
      split
      · have := (mN_at (T := T) i (mA T mo (fillF (fun _ => 0) (-1) 128, fillF (fun _ => 0) (nI 0) 128) i) 0 128 (Nat.le_refl _)).2 (fun c _ h1 h2 => by
          have := sbn_le h2
          have := h1.1
          omega)
        exact (congrArg Prod.fst this).trans ih
      · exact ih
  exact key n
theorem nds_y (h0 : kp T n mo 0 = -1) (hl : l < 2 ^ 31) (h : kp T n mo k = nI l) : nds T n mo (nI l) (k + 1) = nds T n mo (nI l) k + 1 := by
  rcases Nat.eq_zero_or_pos k with q | q
  · rw [q, h0] at h; exact absurd h.symm (nI_ne1 hl)
  · rw [nds, if_pos ⟨q, h⟩]
theorem nds_x (h : ¬ kp T n mo k = nI l) : nds T n mo (nI l) (k + 1) = nds T n mo (nI l) k := by rw [nds, if_neg (fun q => h q.2)]; rfl
theorem plc_y {ln : Int32} (h : plo T n mo k = ln) : plc T n mo ln (k + 1) = plc T n mo ln k + 1 := by rw [plc, if_pos h]
theorem plc_x {ln : Int32} (h : ¬ plo T n mo k = ln) : plc T n mo ln (k + 1) = plc T n mo ln k := by rw [plc, if_neg h]; rfl
theorem ofl_6 (hw : w = 6) (hc : w = 6 → c = plc T n mo (nI l) k) (hk : k = 64) : nI c = linV T n mo l w := by rw [hc hw, hk, linV, if_pos hw]
theorem ofl_7 (hw : w = 7) (hc : ¬ w = 6 → c = nds T n mo (nI l) k) (hk : k = 128) : nI c = linV T n mo l w := by rw [hc (by omega), hk, linV, if_neg (by omega), if_pos hw]
theorem prM_y (hn : n ≤ 20) (hj : k < n) (h : fmo T n k = -1) : snp (pDrop (prS (nvr T n n) T n (n - (k + 1))).1 (prS (nvr T n n) T n (n - (k + 1))).2.1 k) ((prS (nvr T n n) T n (n - (k + 1))).2.1 - 1) mo = snp (prS (nvr T n n) T n (n - k)).1 (prS (nvr T n n) T n (n - k)).2.1 mo := by
  have e : n - 1 - (n - (k + 1)) = k := by omega
  rw [show n - k = n - (k + 1) + 1 by omega, prS, e, if_pos (by rw [bit_eq T hn hj, h]; rfl)]
theorem prM_x (hn : n ≤ 20) (hj : k < n) (h : ¬ fmo T n k = -1) : snp (prS (nvr T n n) T n (n - (k + 1))).1 (prS (nvr T n n) T n (n - (k + 1))).2.1 mo = snp (prS (nvr T n n) T n (n - k)).1 (prS (nvr T n n) T n (n - k)).2.1 mo := by
  have e : n - 1 - (n - (k + 1)) = k := by omega
  rw [show n - k = n - (k + 1) + 1 by omega, prS, e, if_neg (by rw [bit_eq T hn hj]; simpa using h)]
theorem cn_01 {h : Nat} (hw : w < 2) : snp T n mo w = cntV T n mo h w := by
  rcases (show w = 0 ∨ w = 1 by omega) with q | q <;> subst q <;> rfl
theorem cn_2 {h : Nat} (hw : w = 2) : nI (lvc T mo n) = cntV T n mo h w := by subst hw; rfl
theorem cn_3 {h : Nat} (hw : w = 3) : ofR T n mo 0 3 = cntV T n mo h w := by subst hw; rfl
theorem cn_4 {h : Nat} (hw : ¬ w = 2 ∧ ¬ w = 3) (hw2 : 2 ≤ w ∧ w < 5) : nI (plc T n mo (-1) 64) = cntV T n mo h w := by
  have e : w = 4 := by omega
  subst e; simp [cntV]
theorem cn_5 {h : Nat} (hw : w = 5) : inV T n mo true = cntV T n mo h w := by subst hw; simp [cntV, inV]
theorem cn_6 {h : Nat} (hw : w = 6) : inV T n mo false = cntV T n mo h w := by subst hw; simp [cntV, inV]
theorem cn_7 {h : Nat} (hw : w = 7) (hp : bcI (nvr T n n) = nI (los T n n)) : nI (los T n n) = cntV T n mo h w := by subst hw; simp [cntV, hp]
theorem cn_8 {h : Nat} (hw : w = 8) : nI h = cntV T n mo h w := by subst hw; simp [cntV]
end PM
