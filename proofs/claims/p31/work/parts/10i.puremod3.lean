/-! the model's tree against the class's: a line goes down from each of its nodes -/
def hA (T : Nat → Int32) (l k : Nat) : Bool := decide (T (l * 6 + 2) ≤ nI (gF k)) && decide (nI (gL k) ≤ T (l * 6 + 3))
section GD
variable {T : Nat → Int32} {n : Nat}
end GD
