/-! the saved states; the reader of a text, character by character -/
def pPut (S : Nat → Int32) (a : Nat) (T : Nat → Int32) (n mo : Nat) : Nat → Int32 := va_cpy T (upd (upd S a (nI mo)) (a + 1) (nI n)) 0 (a + 2) 120
def pSave (S : Nat → Int32) (h : Nat) (T : Nat → Int32) (n mo : Nat) : Nat → Int32 := if h < 6 then pPut S (h * 122) T n mo else pPut (va_cpy S S 122 0 610) 610 T n mo
def pSaveH (h : Nat) : Nat := if h < 6 then h + 1 else 6
def dg (x : Nat) : Bool := decide (48 ≤ x) && decide (x ≤ 57)
theorem dg_le {x : Nat} (h : dg x = true) : 48 ≤ x := by simp [dg] at h; exact h.1
theorem dg_le2 {x : Nat} (h : dg x = true) : x ≤ 57 := by simp [dg] at h; exact h.2
def rStart (d : DT) : DT := (0, d.2.1, false, d.2.2.2)
def rNeg (d : DT) (k : Nat) : DT := (k, d.2.1, true, d.2.2.2)
def rWhole (d : DT) : Bool := decide (d.1 = 5) || (decide (d.1 = 9) && decide (d.2.2.2.2.2 ≤ d.2.1))
def rSigned (d : DT) : Int32 := if d.2.2.1 = true then -nI d.2.1 else nI d.2.1
def rEndsSlope (d : DT) : DT := (3, d.2.1, false, rSigned d, d.2.2.2.2)
def rEndsFirst (d : DT) : DT := (8, d.2.1, d.2.2.1, d.2.2.2.1, d.2.2.2.2.1, d.2.1)
def rMay (d : DT) : Bool := decide (d.2.2.2.2.2 ≤ d.2.1) || (decide (0 < d.2.1) && (decide (d.2.1 < 10) && decide (d.2.2.2.2.2 ≤ d.2.1 * 10 + 9)))
def rStartsNumber (d : DT) (x k : Nat) : Bool × DT := if dg x = true then (true, (k, x - 48, d.2.2)) else (false, d)
def rExtends (d : DT) (x k : Nat) : Bool × DT := if dg x = true ∧ d.2.1 ≠ 0 ∧ d.2.1 * 10 + x - 48 ≤ k then (true, (d.1, d.2.1 * 10 + x - 48, d.2.2)) else (false, d)
theorem rExtends_t {d : DT} {x k : Nat} (h : dg x = true) (h1 : ¬ d.2.1 = 0) (h2 : d.2.1 * 10 + x - 48 ≤ k) : (rExtends d x k).1 = true ∧ (rExtends d x k).2 = (d.1, d.2.1 * 10 + x - 48, d.2.2) := by
  rw [rExtends, if_pos ⟨h, h1, h2⟩]; exact ⟨rfl, rfl⟩
theorem rExtends_f {d : DT} {x k : Nat} (h : k < d.2.1 * 10 + x - 48) : rExtends d x k = (false, d) := by
  rw [rExtends, if_neg (fun q => by omega)]
def rSign (d : DT) (x : Nat) : Bool × DT := if x = 45 then (true, rNeg d 4) else if x = 43 then (true, (4, d.2)) else (false, d)
def rOff (d : DT) (x : Nat) : Bool × DT := if x = 59 then (true, rStart d) else if x = 64 then (true, (6, d.2.1, d.2.2.1, d.2.2.2.1, rSigned d, d.2.2.2.2.2)) else rExtends d x 9999
def rLast (d : DT) (x : Nat) : Bool × DT := if x = 59 then (if rWhole d = true then (true, rStart d) else (false, d)) else ((rExtends d x 99).1 && rMay (rExtends d x 99).2, (rExtends d x 99).2)
def rTakes (d : DT) (x : Nat) : Bool × DT :=
  if d.1 = 0 then (if x = 45 then (true, rNeg d 1) else rStartsNumber d x 2)
  else if d.1 = 1 then rStartsNumber d x 2
  else if d.1 = 2 then (if x = 120 then (true, rEndsSlope d) else rExtends d x 99)
  else if d.1 = 3 then rSign d x
  else if d.1 = 4 then rStartsNumber d x 5
  else if d.1 = 5 then rOff d x
  else if d.1 = 6 then rStartsNumber d x 7
  else if d.1 = 7 then (if x = 45 then (true, rEndsFirst d) else rExtends d x 99)
  else if d.1 = 8 then ((rStartsNumber d x 9).1 && rMay (rStartsNumber d x 9).2, (rStartsNumber d x 9).2)
  else rLast d x
theorem rExtends_rng (d : DT) (x k : Nat) (h2 : d.2.1 ≤ 9999) (h3 : d.2.2.2.2.2 ≤ 9999) (hk : k ≤ 9999) : (rExtends d x k).2.2.1 ≤ 9999 ∧ (rExtends d x k).2.2.2.2.2.2 ≤ 9999 := by
  unfold rExtends
  split
  · rename_i h; exact ⟨by show d.2.1 * 10 + x - 48 ≤ 9999; omega, h3⟩
  · exact ⟨h2, h3⟩
theorem rStarts_rng (d : DT) (x k : Nat) (h2 : d.2.1 ≤ 9999) (h3 : d.2.2.2.2.2 ≤ 9999) (hc : x ≤ 127) : (rStartsNumber d x k).2.2.1 ≤ 9999 ∧ (rStartsNumber d x k).2.2.2.2.2.2 ≤ 9999 := by
  unfold rStartsNumber
  split
  · exact ⟨by show x - 48 ≤ 9999; omega, h3⟩
  · exact ⟨h2, h3⟩
