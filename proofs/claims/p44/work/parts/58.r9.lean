/-! ===== the reference: a child added ===== -/
def deep (C : dC) (ln nd : Nat) : Prop := ∃ d : Nat → Int, dInv C ln nd (C 38 0 14).toNat d ∧ ∃ n : Nat, n < (C 38 0 14).toNat ∧ 4 < d n
def flat (C : dC) (ln nd : Nat) : Prop := ∃ d : Nat → Int, dInv C ln nd (C 38 0 14).toNat d ∧ ∀ n : Nat, n < (C 38 0 14).toNat → d n ≤ 4
/-- only columns that ticks leave as they are -/
def stM (S : dC) : dC := fun j i f => if sta j f = true then S j i f else 0
set_option maxRecDepth 100000 in
set_option maxHeartbeats 4000000 in
theorem SI_M (S : dC) : SI (stM S) ↔ SI S := by
  unfold SI stM
  have e3 : sta 38 3 = true := rfl
  have e8 : sta 38 8 = true := rfl
  have e14 : sta 38 14 = true := rfl
  have e19 : sta 38 19 = true := rfl
  have e21 : sta 38 21 = true := rfl
  have e22 : sta 38 22 = true := rfl
  have e24 : sta 38 24 = true := rfl
  have a42 : ∀ p, sta 42 p = true := fun _ => rfl
  have a44 : ∀ p, sta 44 p = true := fun _ => rfl
  have a45 : ∀ p, sta 45 p = true := fun _ => rfl
  have a46 : ∀ p, sta 46 p = true := fun _ => rfl
  have a49 : ∀ p, sta 49 p = true := fun _ => rfl
  have a50 : ∀ p, sta 50 p = true := fun _ => rfl
  have a51 : ∀ p, sta 51 p = true := fun _ => rfl
  have a52 : ∀ p, sta 52 p = true := fun _ => rfl
  have a53 : ∀ p, sta 53 p = true := fun _ => rfl
  have a55 : ∀ p, sta 55 p = true := fun _ => rfl
  have a56 : ∀ p, sta 56 p = true := fun _ => rfl
  have a57 : ∀ p, sta 57 p = true := fun _ => rfl
  have a58 : ∀ p, sta 58 p = true := fun _ => rfl
  have a60 : ∀ p, sta 60 p = true := fun _ => rfl
  have a63 : ∀ p, sta 63 p = true := fun _ => rfl
  simp only [e3, e8, e14, e19, e21, e22, e24, a42, a44, a45, a46, a49, a50, a51, a52, a53, a55, a56, a57, a58, a60, a63, if_true]
theorem SI.congr {S C : dC} (I : SI S) (E : St S C) : SI C := by
  have e : stM C = stM S := funext fun j => funext fun i => funext fun f => by
    unfold stM
    split
    · rename_i z
      exact E j i f z
    · rfl
  rw [← SI_M, e, SI_M]
  exact I
theorem SI.code {S : dC} (I : SI S) (v : Int) : SI (up3 S 38 0 25 v) := I.congr (St.up rfl (St.rf S))
section R9
variable {h : gH} {A : dA} {N zz : Nat → Nat} {S C C0 : dC} {P : dP}
end R9
