/-! ===== the reference: candidates ===== -/
section CA
variable {h : gH} {A : dA} {N zz : Nat → Nat} {S C C0 : dC} {P : dP} {M : dM}
theorem modS_in {S : dC} (I : SI S) {M : dM} (h9 : 0 ≤ M 9 ∧ M 9 < S 38 0 21) : 0 ≤ modS S M ∧ modS S M ≤ 4 := by
  have := I.tm (M 9).toNat (by omega)
  unfold modS
  split <;> omega
theorem lst_in (S : dC) (M : dM) (t : Nat) : lst S M t = 0 ∨ lst S M t = 1 ∨ lst S M t = 2 := by
  unfold lst
  (repeat' split) <;> simp
theorem agl_in (S : dC) (M : dM) (t : Nat) : ∀ m k, agl S M t m k = 0 ∨ (3 + (k : Int) ≤ agl S M t m k ∧ agl S M t m k < 3 + (k : Int) + m)
  | 0, k => Or.inl rfl
  | m + 1, k => by
    unfold agl
    split
    · have := agl_in S M t m (k + 1); omega
    · omega
theorem posB_of (S : dC) (M : dM) (l : Int) (a : Bool) (t : Nat) : posB S M l a t = true ↔ ((S 60 0 (17 * t) = -1 ↔ a = true) ∧ lst S M t = l ∧ agn S M t l = 0) := by
  unfold posB
  cases a <;> by_cases z : S 60 0 (17 * t) = -1 <;> simp [z]
theorem fO_in {p : Nat → Bool} : ∀ {m k t : Nat}, fO p m k = some t → k ≤ t ∧ t < k + m ∧ p t = true
  | 0, k, t, h => by cases h
  | m + 1, k, t, h => by
    unfold fO at h
    by_cases z : p k = true
    · rw [if_pos z] at h; cases h; exact ⟨Nat.le_refl _, by omega, z⟩
    · rw [if_neg z] at h
      have := fO_in h
      exact ⟨by omega, by omega, this.2.2⟩
theorem frs_in {S : dC} {M : dM} {l : Int} {t : Nat} (h : frs S M l = some t) : t < nT S ∧ lst S M t = l := by
  unfold frs at h
  cases z : fO (posB S M l true) (nT S) 0 with
  | some u =>
    rw [z] at h
    cases h
    have := fO_in z
    exact ⟨by omega, ((posB_of S M l true t).mp this.2.2).2.1⟩
  | none =>
    rw [z] at h
    replace h : fO (posB S M l false) (nT S) 0 = some t := h
    have := fO_in h
    exact ⟨by omega, ((posB_of S M l false t).mp this.2.2).2.1⟩
/-- what blocked answers -/
def blkS (S : dC) (M : dM) (t : Nat) : Int := if lst S M t = 0 then 1 else agn S M t (lst S M t)
end CA
