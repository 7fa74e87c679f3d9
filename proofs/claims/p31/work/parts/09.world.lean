/-! the class's cells as one world, and the words in which its lines are spoken of -/
abbrev LT : Type := (Nat → Int32) × Nat × Nat × Nat
abbrev HT : Type := (Nat → Int32) × Nat
abbrev PT : Type := (Nat → Int32) × (Nat → Int32) × Nat × Int32
abbrev TT : Type := (Nat → Int32) × (Nat → Int32) × (Nat → Int32) × (Nat → Int32) × Int32
abbrev RT : Type := (Nat → Int32) × Int32
abbrev XT : Type := (Nat → Int32) × Nat
abbrev DT : Type := Nat × Nat × Bool × Int32 × Int32 × Nat
/-- lines (table, size, moment, version), history, present, tree, reigns, text, reader -/
def wC (ad : Nat → Nat) (G : GT) (L : LT) (Hs : HT) (P : PT) (Tr : TT) (Rg : RT) (Tx : XT) (Rd : DT) : va_W := [
  (ad 0, .inr (7, [.ref (ad 1), .ref (ad 2), .ref (ad 3), .ref (ad 4), .ref (ad 5), .ref (ad 6)])),
  (ad 1, .inr (1, [.ref (ad 8), .int (nI L.2.1), .int (nI L.2.2.1), .int (nI L.2.2.2)])),
  (ad 2, .inr (0, [.ref (ad 9), .int (nI Hs.2)])),
  (ad 3, .inr (5, [.ref (ad 17), .ref (ad 7), .int (nI Tx.2)])),
  (ad 4, .inr (2, [.ref (ad 1), .ref (ad 10), .ref (ad 11), .int (nI P.2.2.1), .int P.2.2.2])),
  (ad 5, .inr (6, [.ref (ad 1), .ref (ad 12), .ref (ad 13), .ref (ad 14), .ref (ad 15), .int Tr.2.2.2.2])),
  (ad 6, .inr (4, [.ref (ad 1), .ref (ad 16), .int Rg.2])),
  (ad 7, .inr (3, [.int (nI Rd.1), .int (nI Rd.2.1), .int (bI Rd.2.2.1), .int Rd.2.2.2.1, .int Rd.2.2.2.2.1, .int (nI Rd.2.2.2.2.2)])),
  (ad 8, .inl (G.2.1, 120, .inl L.1)), (ad 9, .inl (G.2.1, 732, .inl Hs.1)), (ad 10, .inl (G.2.1, 64, .inl P.1)), (ad 11, .inl (G.2.1, 65, .inl P.2.1)),
  (ad 12, .inl (G.2.1, 128, .inl Tr.1)), (ad 13, .inl (G.2.1, 128, .inl Tr.2.1)), (ad 14, .inl (G.2.1, 128, .inl Tr.2.2.1)), (ad 15, .inl (G.2.1, 128, .inl Tr.2.2.2.1)),
  (ad 16, .inl (G.2.1, 20, .inl Rg.1)), (ad 17, .inl (G.2.1, 60, .inl Tx.1))]
def hasB (n : Nat) (line : Int32) : Bool := decide (0 ≤ line) && decide (line < nI n)
theorem hasB_t {n l : Nat} (h : l < n) (hn : n < 2 ^ 31) : bI (hasB n (nI l)) = bI true := by
  have h1 : (0 : Int32) ≤ nI l := nI_pos' (by omega)
  have h2 : nI l < nI n := nI_lt h hn
  simp [hasB, h1, h2]
theorem hasB_of {n : Nat} {x : Int32} (hn : n < 2 ^ 31) (h : hasB n x = true) : ∃ l : Nat, l < n ∧ x = nI l := by
  simp only [hasB, Bool.and_eq_true, decide_eq_true_eq] at h
  obtain ⟨j, hj, rfl⟩ := nI_of (Int32.not_lt.mpr h.1)
  exact ⟨j, (nI_ltI hj hn).mp h.2, rfl⟩
theorem hasB_a {n : Nat} {x : Int32} (h : x < 0) : nI 0 = bI (hasB n x) := by simp [hasB, bI, Int32.not_le.mpr h]; rfl
theorem hasB_b {n : Nat} {x : Int32} (h : nI n ≤ x) : nI 0 = bI (hasB n x) := by simp [hasB, bI, Int32.not_lt.mpr h]; rfl
theorem hasB_c {n : Nat} {x : Int32} (h : ¬ x < 0) (h2 : ¬ nI n ≤ x) : nI 1 = bI (hasB n x) := by simp [hasB, bI, Int32.not_lt.mp h, Int32.not_le.mp h2]; rfl
/-- the table behind addLine, behind drop -/
def pAdd (T : Nat → Int32) (n : Nat) (sl of fm lm : Int32) : Nat → Int32 := upd (upd (upd (upd (upd (upd T (n * 6 + 0) sl) (n * 6 + 1) of) (n * 6 + 2) (nI 0)) (n * 6 + 3) (nI 63)) (n * 6 + 4) fm) (n * 6 + 5) lm
def pDrop (T : Nat → Int32) (n l : Nat) : Nat → Int32 := va_cpy T T ((l + 1) * 6) (l * 6) (n * 6 - (l + 1) * 6)
/-- a line's value at a place -/
def pVal (T : Nat → Int32) (l x : Nat) : Int32 := T (l * 6 + 0) * nI x + T (l * 6 + 1)
