/-! ===== the reference: its small methods ===== -/
section R1
variable {h : gH} {A : dA} {N zz : Nat → Nat} {S C : dC} {P : dP}
end R1
def lt408 (n : Nat) : Prop := n < 408