def TXOK (co : Nat → Int32) (len : Nat) : Prop := len ≤ 60 ∧ ∀ i, i < len → ∃ c : Nat, 33 ≤ c ∧ c ≤ 126 ∧ co i = nI c
def DOK (d : DT) : Prop := d.1 ≤ 9 ∧ d.2.1 ≤ 9999 ∧ d.2.2.2.2.2 ≤ 9999
section TX2
variable {co : Nat → Int32} {len i : Nat} {d : DT} {T : Nat → Int32} {n mo ver : Nat}
end TX2
