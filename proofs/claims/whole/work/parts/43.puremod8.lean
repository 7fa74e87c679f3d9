/-! a text as the model reads it -/
def inN (v a b : Nat) : Bool := decide (a ≤ v) && decide (v ≤ b)
def atB (co : Nat → Int32) (len i a b : Nat) : Bool := decide (i < len) && inN (cN co i) a b
def bgB (v a b : Nat) : Bool := inN v a b || (decide (0 < v) && (decide (a ≤ 10 * v + 9) && decide (10 * v ≤ b)))
def stQ (len : Nat) (q : QT) : QT := (q.1, decide (q.1 < len), q.2.2)
def sgQ (co : Nat → Int32) (len c : Nat) (q : QT) : QT := if atB co len q.1 c c = true then (q.1 + 1, q.2) else stQ len q
def mnQ (co : Nat → Int32) (len : Nat) (q : QT) : QT := if atB co len q.1 45 45 = true then (q.1 + 1, q.2) else q
def smF (co : Nat → Int32) (len a b i : Nat) : Bool := atB co len i 48 57 && bgB (cN co i - 48) a b
def smG (co : Nat → Int32) (len a b i : Nat) : Bool := decide (0 < cN co i - 48) && (atB co len (i + 1) 48 57 && inN (10 * (cN co i - 48) + cN co (i + 1) - 48) a b)
def smB (co : Nat → Int32) (len a b i : Nat) : Bool := smF co len a b i && (smG co len a b i || inN (cN co i - 48) a b)
def smQ (co : Nat → Int32) (len a b : Nat) (q : QT) : QT :=
  if smF co len a b q.1 = false then stQ len q
  else if smG co len a b q.1 = true then (q.1 + 1 + 1, q.2.1, 10 * (cN co q.1 - 48) + cN co (q.1 + 1) - 48, q.2.2.2)
  else if inN (cN co q.1 - 48) a b = true then (q.1 + 1, q.2.1, cN co q.1 - 48, q.2.2.2)
  else (q.1 + 1, decide (q.1 + 1 < len), cN co q.1 - 48, q.2.2.2)
def grL (co : Nat → Int32) (len : Nat) : Nat → Nat → Nat → Nat × Nat
  | 0, v, i => (i, v)
  | f + 1, v, i => if 0 < v ∧ v < 1000 ∧ atB co len i 48 57 = true then grL co len f (10 * v + cN co i - 48) (i + 1) else (i, v)
def grQ (co : Nat → Int32) (len : Nat) (q : QT) : QT := if atB co len q.1 48 57 = true then ((grL co len 4 (cN co q.1 - 48) (q.1 + 1)).1, q.2.1, (grL co len 4 (cN co q.1 - 48) (q.1 + 1)).2, q.2.2.2) else stQ len q
section TXM
variable {co : Nat → Int32} {len i v a b f : Nat}
theorem inB_N (h : v < 2 ^ 31) (ha : a < 2 ^ 31) (hb : b < 2 ^ 31) : inB (nI v) (nI a) (nI b) = inN v a b := by
  have e1 : decide (nI v < nI a) = decide (v < a) := decide_eq_decide.mpr (nI_ltI h ha)
  have e2 : decide (nI b < nI v) = decide (b < v) := decide_eq_decide.mpr (nI_ltI hb h)
  rw [inB, inN, e1, e2]
  by_cases q1 : v < a
  · have q3 : ¬ a ≤ v := by omega
    simp [q1, q3]
  · have q3 : a ≤ v := by omega
    by_cases q2 : b < v
    · have q4 : ¬ v ≤ b := by omega
      simp [q1, q3, q2, q4]
    · have q4 : v ≤ b := by omega
      simp [q1, q3, q2, q4]
theorem atB_c (h : atB co len i a b = true) : i < len ∧ a ≤ cN co i ∧ cN co i ≤ b := by simpa [atB, inN] using h
theorem smF_1 (h : atB co len i 48 57 = false) : smF co len a b i = false := by rw [smF, h]; rfl
theorem smF_2 (h : bgB (cN co i - 48) a b = false) : smF co len a b i = false := by rw [smF, h, Bool.and_false]
theorem smF_t (h : atB co len i 48 57 = true) (h2 : bgB (cN co i - 48) a b = true) : smF co len a b i = true := by rw [smF, h, h2]; rfl
theorem smG_1 (h : cN co i - 48 ≤ 0) : smG co len a b i = false := by simp [smG]; intro q; omega
theorem smG_2 (h : atB co len (i + 1) 48 57 = false) : smG co len a b i = false := by rw [smG, h]; simp
theorem smG_3 (h : inN (10 * (cN co i - 48) + cN co (i + 1) - 48) a b = false) : smG co len a b i = false := by rw [smG, h]; simp
theorem smG_t (h0 : 0 < cN co i - 48) (h : atB co len (i + 1) 48 57 = true) (h2 : inN (10 * (cN co i - 48) + cN co (i + 1) - 48) a b = true) : smG co len a b i = true := by rw [smG, h, h2]; simpa using h0
section SMQ
variable {ft : Bool} {vl tn : Nat} {td : Nat → Int32}
theorem smQ_1 (hF : smF co len a b i = false) : stQ len (i, ft, vl, td, tn) = smQ co len a b (i, ft, vl, td, tn) := (if_pos hF).symm
theorem smQ_2 (hF : smF co len a b i = true) (hG : smG co len a b i = true) : (i + 1 + 1, ft, 10 * (cN co i - 48) + cN co (i + 1) - 48, td, tn) = smQ co len a b (i, ft, vl, td, tn) := ((if_neg (by rw [hF]; decide)).trans (if_pos hG)).symm
theorem smQ_3 (hF : smF co len a b i = true) (hG : smG co len a b i = false) (h : inN (cN co i - 48) a b = true) : (i + 1, ft, cN co i - 48, td, tn) = smQ co len a b (i, ft, vl, td, tn) := ((if_neg (by rw [hF]; decide)).trans ((if_neg (by rw [hG]; decide)).trans (if_pos h))).symm
theorem smQ_4 (hF : smF co len a b i = true) (hG : smG co len a b i = false) (h : inN (cN co i - 48) a b = false) : stQ len (i + 1, ft, cN co i - 48, td, tn) = smQ co len a b (i, ft, vl, td, tn) := ((if_neg (by rw [hF]; decide)).trans ((if_neg (by rw [hG]; decide)).trans (if_neg (by rw [h]; decide)))).symm
end SMQ
theorem smB_1 (hF : smF co len a b i = false) : nI 0 = bI (smB co len a b i) := by rw [smB, hF]; rfl
theorem smB_2 (hF : smF co len a b i = true) (hG : smG co len a b i = true) : nI 1 = bI (smB co len a b i) := by rw [smB, hF, hG]; rfl
theorem smB_3 (hF : smF co len a b i = true) (hG : smG co len a b i = false) (h : inN (cN co i - 48) a b = true) : nI 1 = bI (smB co len a b i) := by rw [smB, hF, hG, h]; rfl
theorem smB_4 (hF : smF co len a b i = true) (hG : smG co len a b i = false) (h : inN (cN co i - 48) a b = false) : nI 0 = bI (smB co len a b i) := by rw [smB, hF, hG, h]; rfl
theorem gtx_s (h0 : 0 < v) (h1 : v < 1000) (h : atB co len i 48 57 = true) : grL co len (f + 1) v i = grL co len f (10 * v + cN co i - 48) (i + 1) := by rw [grL, if_pos ⟨h0, h1, h⟩]
theorem gtx_4 (v : Nat) : v = 0 ∨ 1000 ≤ v * 10 ^ 4 := by
  rcases Nat.eq_zero_or_pos v with q | q
  · exact Or.inl q
  · right
    have : 1 * 10 ^ 4 ≤ v * 10 ^ 4 := Nat.mul_le_mul_right _ q
    omega
section GRQ
variable {ft : Bool} {vl tn j : Nat} {td : Nat → Int32}
theorem grQ_0 (h : atB co len i 48 57 = false) : stQ len (i, ft, vl, td, tn) = grQ co len (i, ft, vl, td, tn) := (if_neg (by rw [h]; decide)).symm
theorem grQ_1 (h : atB co len i 48 57 = true) (e : grL co len 4 (cN co i - 48) (i + 1) = (j, v)) : (j, ft, v, td, tn) = grQ co len (i, ft, vl, td, tn) := by
  refine Eq.trans ?_ (if_pos h).symm
  show (j, ft, v, td, tn) = ((grL co len 4 (cN co i - 48) (i + 1)).1, ft, (grL co len 4 (cN co i - 48) (i + 1)).2, td, tn)
  rw [e]
end GRQ
theorem gtx_0 (h : ¬ 0 < v) : ∀ f, grL co len f v i = (i, v)
  | 0 => rfl
  | f + 1 => by rw [grL, if_neg (fun q => h q.1)]
theorem gtx_1 (h : 1000 ≤ v) : ∀ f, grL co len f v i = (i, v)
  | 0 => rfl
  | f + 1 => by rw [grL, if_neg (fun q => by have := q.2.1; omega)]
theorem gtx_2 (h : atB co len i 48 57 = false) : ∀ f, grL co len f v i = (i, v)
  | 0 => rfl
  | f + 1 => by rw [grL, if_neg (fun q => ntb h q.2.2)]
theorem gtx_f (h : v = 0 ∨ 1000 ≤ v * 10 ^ f) (h0 : 0 < v) (h1 : v < 1000) : ∃ f', f = f' + 1 := by
  rcases f with _ | f
  · omega
  · exact ⟨f, rfl⟩
theorem gtx_n {c : Nat} (h : v = 0 ∨ 1000 ≤ v * 10 ^ (f + 1)) (h0 : 0 < v) (hc : 48 ≤ c) : 10 * v + c - 48 = 0 ∨ 1000 ≤ (10 * v + c - 48) * 10 ^ f := by
  have h := h.resolve_left (by omega)
  rw [Nat.pow_succ, Nat.mul_comm (10 ^ f) 10, ← Nat.mul_assoc, Nat.mul_comm v 10] at h
  exact Or.inr (Nat.le_trans h (Nat.mul_le_mul_right _ (by omega)))
end TXM
