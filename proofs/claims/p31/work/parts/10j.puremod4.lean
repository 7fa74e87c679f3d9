section GDS
variable {T : Nat → Int32} {f l k g : Nat} {ke sp : Nat → Int32}
theorem ntb {b : Bool} (h : b = false) : ¬ b = true := by rw [h]; decide
end GDS
