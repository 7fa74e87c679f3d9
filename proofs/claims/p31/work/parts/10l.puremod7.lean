def n2 (v : Nat) : Nat := (v &&& 858993459) + ((v / 4) &&& 858993459)
def o1 (m v : Nat) : Nat := v - ((v / 2) &&& m)
def o2 (m v : Nat) : Nat := (v &&& m) + ((v / 4) &&& m)
def o3 (m v : Nat) : Nat := (v + v / 16) &&& m
section PM
variable {T : Nat → Int32} {n mo l k w c : Nat}
end PM
