/-! ===== the reference: states, transitions, images, what is asked ===== -/
/-- where a value is put in, from behind -/
def insK (g : Nat → Int) (v : Int) : Nat → Nat
  | 0 => 0
  | m + 1 => if v < g m then insK g v m else m + 1
theorem insK_le (g : Nat → Int) (v : Int) : ∀ m, insK g v m ≤ m
  | 0 => Nat.le_refl 0
  | m + 1 => by
    unfold insK
    split
    · exact Nat.le_succ_of_le (insK_le g v m)
    · exact Nat.le_refl _
/-- a value put in at a place -/
def insF (g : Nat → Int) (k : Nat) (x : Int) : Nat → Int := fun i => if i < k then g i else if i = k then x else g (i - 1)
section R5
variable {h : gH} {A : dA} {N zz : Nat → Nat} {S C C0 : dC} {P : dP}
end R5
