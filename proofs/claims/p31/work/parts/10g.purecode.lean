/-! which exception a call of the face ends with (0: none), by its place in the order in which they are named -/
theorem plB_1 {x : Int32} (h : ¬ x < 0) (h2 : ¬ nI 64 ≤ x) : nI 1 = bI (plB x) := by
  have h3 : ¬ nI 63 < x := fun q => h2 ((i32_le_succ x (k := 63) (by decide)).mpr q)
  simp [plB, inB, bI, nI_0, h, h3]; rfl
theorem plB_2 {x : Int32} (h : x < 0) : nI 0 = bI (plB x) := by simp [plB, inB, bI, nI_0, h]
theorem plB_3 {x : Int32} (h2 : nI 64 ≤ x) : nI 0 = bI (plB x) := by
  have h3 : nI 63 < x := (i32_le_succ x (k := 63) (by decide)).mp h2
  simp [plB, inB, bI, nI_0, h3]
theorem moB_1 {x : Int32} (h : ¬ x < 0) (h2 : ¬ nI 100 ≤ x) : nI 1 = bI (moB x) := by
  have h3 : ¬ nI 99 < x := fun q => h2 ((i32_le_succ x (k := 99) (by decide)).mpr q)
  simp [moB, inB, bI, nI_0, h, h3]; rfl
theorem moB_2 {x : Int32} (h : x < 0) : nI 0 = bI (moB x) := by simp [moB, inB, bI, nI_0, h]
theorem moB_3 {x : Int32} (h2 : nI 100 ≤ x) : nI 0 = bI (moB x) := by
  have h3 : nI 99 < x := (i32_le_succ x (k := 99) (by decide)).mp h2
  simp [moB, inB, bI, nI_0, h3]
def xAdd (n : Nat) (sl off : Int32) : Nat := if slB sl = false then 1 else if ofB off = false then 1 else if 20 ≤ n then 2 else 0
def xStr (n : Nat) (line a b e : Int32) : Nat := if hasB n line = false then 1 else if stB a b e = false then 2 else 0
def xLift (T : Nat → Int32) (n : Nat) (line by_ : Int32) : Nat := if hasB n line = false then 1 else if ofB by_ = false then 2 else if ofB (T (line.toNatClampNeg * 6 + 1) + by_) = false then 3 else 0
def tuV (T : Nat → Int32) (line pl sl : Int32) : Int32 := pVal T line.toNatClampNeg pl.toNatClampNeg - sl * pl
def xTurn (T : Nat → Int32) (n : Nat) (line pl sl : Int32) : Nat := if hasB n line = false then 1 else if plB pl = false then 2 else if slB sl = false then 2 else if ofB (tuV T line pl sl) = false then 3 else 0
def xRem (n : Nat) (line : Int32) : Nat := if hasB n line = false then 1 else 0
def xGo (mm : Int32) : Nat := if moB mm = false then 1 else 0
def xUndo (h : Nat) : Nat := if h = 0 then 1 else 0
section NRM
variable {co : Nat → Int32} {len : Nat} {d d' : DT}
end NRM
