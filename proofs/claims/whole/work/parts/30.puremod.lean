/-! the model's cells as one world: its state as an array (moment, how many, the lines), the saved states, the text, what was thrown, what it works with -/
abbrev QT : Type := Nat × Bool × Nat × (Nat → Int32) × Nat
def wM (ad : Nat → Nat) (G : GT) (N : Nat → Int32) (Hs : HT) (Xt : XT) (Tw : Nat) (Qs : QT) (Ks : KS) (Lo Wi : Nat → Int32) : va_W := [
  (ad 0, .inr (8, [.ref (ad 1), .ref (ad 2), .int (nI Hs.2), .ref (ad 3), .int (nI Xt.2), .int (nI Tw), .int (nI Qs.1), .int (bI Qs.2.1), .int (nI Qs.2.2.1), .ref (ad 4), .int (nI Qs.2.2.2.2), .ref (ad 5), .ref (ad 6), .ref (ad 7), .ref (ad 8)])),
  (ad 1, .inl (G.2.1, 122, .inl N)), (ad 2, .inl (G.2.1, 732, .inl Hs.1)), (ad 3, .inl (G.2.1, 60, .inl Xt.1)), (ad 4, .inl (G.2.1, 64, .inl Qs.2.2.2.1)),
  (ad 5, .inl (G.2.1, 128, .inl Ks.1)), (ad 6, .inl (G.2.1, 128, .inl Ks.2)), (ad 7, .inl (G.2.1, 64, .inl Lo)), (ad 8, .inl (G.2.2.1, 20, .inl Wi))]
def snp (T : Nat → Int32) (n mo : Nat) : Nat → Int32
  | 0 => nI mo
  | 1 => nI n
  | k + 2 => T k
theorem snp_at (T : Nat → Int32) (n mo l k : Nat) : snp T n mo (2 + (6 * l) + k) = T ((l * 6) + k) := by
  rw [show 2 + (6 * l) + k = ((l * 6) + k) + 2 by omega]; rfl
theorem snp_ge {T : Nat → Int32} {n mo j : Nat} (h : 2 ≤ j) : snp T n mo j = T (j - 2) := by
  obtain ⟨i, rfl⟩ : ∃ i, j = i + 2 := ⟨j - 2, by omega⟩
  rfl
theorem upd_snp (T : Nat → Int32) (n mo l k : Nat) (v : Int32) : upd (snp T n mo) (2 + (6 * l) + k) v = snp (upd T ((l * 6) + k) v) n mo := by
  funext j
  rcases j with _ | _ | j
  · rw [upd_n (by omega)]; rfl
  · rw [upd_n (by omega)]; rfl
  · show upd (snp T n mo) (2 + (6 * l) + k) v (j + 2) = upd T ((l * 6) + k) v j
    by_cases q : j = (l * 6) + k
    · rw [show j + 2 = 2 + (6 * l) + k by omega, upd_s, q, upd_s]
    · rw [upd_n (by omega), upd_n q]; rfl
theorem upd_snp1 {T : Nat → Int32} {n n' mo : Nat} : upd (snp T n mo) 1 (nI n') = snp T n' mo := by
  funext j
  rcases j with _ | _ | j
  · rw [upd_n (by omega)]; rfl
  · rw [upd_s]; rfl
  · rw [upd_n (by omega)]; rfl
theorem upd_snp0 {T : Nat → Int32} {n mo mo' : Nat} : upd (snp T n mo) 0 (nI mo') = snp T n mo' := by
  funext j
  rcases j with _ | _ | j
  · rw [upd_s]; rfl
  · rw [upd_n (by omega)]; rfl
  · rw [upd_n (by omega)]; rfl
theorem cpy_0 {f g : Nat → Int32} {sp dp : Nat} : g = va_cpy f g sp dp 0 := by funext k; simp [va_cpy]; intro h1 h2; omega
theorem cpy_s {f g : Nat → Int32} {sp dp k : Nat} : upd (va_cpy f g sp dp k) (dp + k) (f (sp + k)) = va_cpy f g sp dp (k + 1) := by
  funext j
  by_cases q : j = dp + k
  · subst q; rw [upd_s]; simp [va_cpy]
  · rw [upd_n q]
    have : (dp ≤ j ∧ j < dp + (k + 1)) = (dp ≤ j ∧ j < dp + k) := by apply propext; omega
    simp [va_cpy, this]
theorem cpy_rd {f : Nat → Int32} {sp dp k j : Nat} (h : dp ≤ sp) (hj : sp + k ≤ j) : va_cpy f f sp dp k j = f j := by
  have : ¬ (dp ≤ j ∧ j < dp + k) := by omega
  simp [va_cpy, this]
theorem shf_s {S : Nat → Int32} {i : Nat} : upd (va_cpy S S 122 0 i) i (va_cpy S S 122 0 i (i + 122)) = va_cpy S S 122 0 (i + 1) := by
  rw [cpy_rd (by omega) (by omega)]
  have := cpy_s (f := S) (g := S) (sp := 122) (dp := 0) (k := i)
  rw [Nat.zero_add, Nat.add_comm 122 i] at this
  exact this
theorem snp_put (S : Nat → Int32) (a : Nat) (T : Nat → Int32) (n mo : Nat) : va_cpy (snp T n mo) S 0 a 122 = pPut S a T n mo := by
  funext j
  unfold pPut va_cpy
  by_cases h0 : j = a
  · subst h0
    have h1 : ¬ (j + 2 ≤ j ∧ j < j + 2 + 120) := by omega
    simp only [if_neg h1]
    rw [if_pos (by omega), upd_n (by omega), upd_s, show 0 + (j - j) = 0 by omega]; rfl
  · by_cases h1 : j = a + 1
    · subst h1
      have h1 : ¬ (a + 2 ≤ a + 1 ∧ a + 1 < a + 2 + 120) := by omega
      simp only [if_neg h1]
      rw [if_pos (by omega), upd_s, show 0 + (a + 1 - a) = 1 by omega]; rfl
    · by_cases h2 : a + 2 ≤ j ∧ j < a + 2 + 120
      · rw [if_pos (by omega), if_pos h2, snp_ge (by omega), show 0 + (j - a) - 2 = 0 + (j - (a + 2)) by omega]
      · rw [if_neg (by omega), if_neg h2, upd_n h1, upd_n h0]
theorem sv_s {f g : Nat → Int32} {dp k m : Nat} : (upd (va_cpy f g 0 dp k) (dp + k) (f k), m) = (va_cpy f g 0 dp (k + 1), m) := by
  rw [← cpy_s, Nat.zero_add]
theorem sv_a {S : Nat → Int32} {h : Nat} {T : Nat → Int32} {n mo : Nat} (hh : ¬ h = 6) (h6 : h ≤ 6) : (va_cpy (snp T n mo) S 0 (122 * h) 122, h + 1) = (pSave S h T n mo, pSaveH h) := by
  rw [pSave, pSaveH, if_pos (by omega), if_pos (by omega), snp_put, Nat.mul_comm]
theorem sv_b {S : Nat → Int32} {T : Nat → Int32} {n mo : Nat} : (va_cpy (snp T n mo) (va_cpy S S 122 0 610) 0 610 122, 6) = (pSave S 6 T n mo, pSaveH 6) := by
  rw [pSave, pSaveH, if_neg (by omega), if_neg (by omega), snp_put]
theorem un_a {S T : Nat → Int32} {h n mo n' mo' : Nat} (h1 : S ((h - 1) * 122 + 1) = nI n') (h2 : S ((h - 1) * 122) = nI mo') : va_cpy S (snp T n mo) (122 * (h - 1)) 0 122 = snp (va_cpy S T ((h - 1) * 122 + 2) 0 120) n' mo' := by
  funext j
  rcases j with _ | _ | j
  · show (if 0 ≤ 0 ∧ 0 < 0 + 122 then S (122 * (h - 1) + (0 - 0)) else _) = nI mo'
    rw [if_pos (by omega), ← h2, Nat.mul_comm]; rfl
  · show (if 0 ≤ 1 ∧ 1 < 0 + 122 then S (122 * (h - 1) + (1 - 0)) else _) = nI n'
    rw [if_pos (by omega), ← h1, Nat.mul_comm]
  · show (if 0 ≤ j + 2 ∧ j + 2 < 0 + 122 then S (122 * (h - 1) + (j + 2 - 0)) else snp T n mo (j + 2)) = (if 0 ≤ j ∧ j < 0 + 120 then S ((h - 1) * 122 + 2 + (j - 0)) else T j)
    by_cases q : j < 120
    · rw [if_pos (by omega), if_pos (by omega)]; congr 1; omega
    · rw [if_neg (by omega), if_neg (by omega)]; rfl
theorem inB_has {x : Int32} {n : Nat} (hn : n ≤ 20) : inB x (nI 0) (nI n - nI 1) = hasB n x := by
  rcases Nat.eq_zero_or_pos n with h | h
  · subst h
    have e : nI 0 - nI 1 = (-1 : Int32) := by decide
    rw [e]
    by_cases q : x < nI 0
    · have h2 : ¬ (0 : Int32) ≤ x := Int32.not_le.mpr q
      simp [inB, hasB, q, h2]
    · have h2 : ¬ x < nI 0 := q
      have h3 : (-1 : Int32) < x := by
        rw [Int32.lt_iff_toInt_lt] at h2 ⊢
        have e1 : (-1 : Int32).toInt = -1 := by decide
        have e2 : (nI 0).toInt = 0 := by decide
        omega
      simp [inB, hasB, h2, h3]
  · obtain ⟨k, rfl⟩ : ∃ k, n = k + 1 := ⟨n - 1, by omega⟩
    rw [pk_sub (by omega), Nat.add_sub_cancel]
    have hs := i32_le_succ x (k := k) (by omega)
    by_cases q : x < nI 0
    · have h2 : ¬ (0 : Int32) ≤ x := Int32.not_le.mpr q
      simp [inB, hasB, q, h2]
    · have h2 : (0 : Int32) ≤ x := Int32.not_lt.mp q
      by_cases q2 : nI k < x
      · have h3 : ¬ x < nI (k + 1) := Int32.not_lt.mpr (hs.mpr q2)
        simp [inB, hasB, q, h2, q2, h3]
      · have h3 : x < nI (k + 1) := Int32.not_le.mp (fun w => q2 (hs.mp w))
        simp [inB, hasB, q, h2, q2, h3]
theorem go_at {T : Nat → Int32} {l k : Nat} : va_cpy T T ((l + 1) * 6) (l * 6) k ((l * 6) + (k + 6)) = T ((l + 1) * 6 + k) := by
  rw [cpy_rd (by omega) (by omega)]; congr 1; omega
theorem go_s {T : Nat → Int32} {n mo l k : Nat} : snp (upd (va_cpy T T ((l + 1) * 6) (l * 6) k) ((l * 6) + k) (T ((l + 1) * 6 + k))) n mo = snp (va_cpy T T ((l + 1) * 6) (l * 6) (k + 1)) n mo := by rw [cpy_s]
theorem stM {f l : Int32} {e : Nat} (he : e < 2147483647) : stB f l (nI (e + 1)) = (inB f (nI 0) (nI e) && (inB l (nI 0) (nI e) && !decide (l < f))) := by
  have z : nI 0 = (0 : Int32) := rfl
  have hs := i32_le_succ l (k := e) he
  have hs2 := i32_le_succ f (k := e) he
  by_cases a : f < 0
  · simp [stB, inB, z, a]
  · by_cases b : l < f
    · simp [stB, inB, z, b]
    · have c : ¬ l < 0 := fun q => b (by
        rw [Int32.lt_iff_toInt_lt] at a q ⊢; omega)
      by_cases d : nI e < l
      · simp [stB, inB, z, a, b, c, d, hs]
      · have g : ¬ nI e < f := fun q => d (by
          rw [Int32.lt_iff_toInt_lt] at b q ⊢; omega)
        simp [stB, inB, z, a, b, c, d, g, hs]
theorem stM64 {f l : Int32} : stB f l (nI 64) = (plB f && (plB l && !decide (l < f))) := stM (e := 63) (by decide)
theorem stM100 {f l : Int32} : stB f l (nI 100) = (moB f && (moB l && !decide (l < f))) := stM (e := 99) (by decide)
theorem xApp_t {code : Int32} {len : Nat} (h : inB code (nI 33) (nI 126) = true) : xApp len code = if 60 ≤ len then 2 else 0 := by
  simp only [inB, Bool.and_eq_true, Bool.not_eq_true', decide_eq_false_iff_not] at h
  rw [xApp, if_neg h.1, if_neg (by simpa using h.2)]
theorem xApp_f {code : Int32} {len : Nat} (h : inB code (nI 33) (nI 126) = false) : xApp len code = 1 := by
  by_cases a : code < nI 33
  · rw [xApp, if_pos a]
  · by_cases b : nI 126 < code
    · rw [xApp, if_neg a, if_pos (by simpa using b)]
    · simp [inB, a, b] at h
abbrev MS : Type := (Nat → Int32) × HT × XT × QT × KS × (Nat → Int32) × (Nat → Int32)
