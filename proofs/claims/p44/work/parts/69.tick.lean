/-! ===== the reference: events, ticks ===== -/
section TK
variable {h : gH} {A : dA} {N zz : Nat → Nat} {S C C0 : dC} {P : dP} {M : dM}
def ntK (M : dM) (k : Nat) : dM := fun f => if 167 ≤ f ∧ f < 167 + k then M (f + 4) else M f
theorem ntK_step (M : dM) (k : Nat) : um (ntK M k) (167 + k) (ntK M k (167 + k + 4)) = ntK M (k + 1) := funext fun f => by
  have e : ntK M k (167 + k + 4) = M (167 + k + 4) := if_neg (by omega)
  rw [e]
  by_cases z : f = 167 + k
  · rw [z, um_s]
    unfold ntK
    rw [if_pos (by omega)]
  · rw [um_n _ _ z]
    unfold ntK
    by_cases y : 167 ≤ f ∧ f < 167 + k
    · rw [if_pos y, if_pos (by omega)]
    · rw [if_neg y, if_neg (by omega)]
theorem cr_q {s0 v0 : Int64} {z L : Int} (hs : s0.toInt = L) (h0 : v0.toInt = z) (hz : 0 ≤ z ∧ z ≤ 1000000) (hl : 0 ≤ L ∧ L ≤ 10000000000001) (hc : z < L) : ((((s0 - v0) + 1000000) - 1) / 1000000).toInt = (L - z + 1000000 - 1) / 1000000 := by
  have b1 : -9223372036854775808 ≤ L - z ∧ L - z < 9223372036854775808 := by clear hs h0; omega
  have b2 : -9223372036854775808 ≤ L - z + 1000000 ∧ L - z + 1000000 < 9223372036854775808 := by clear hs h0; omega
  have b3 : -9223372036854775808 ≤ L - z + 1000000 - 1 ∧ L - z + 1000000 - 1 < 9223372036854775808 := by clear hs h0; omega
  have b4 : 0 ≤ L - z + 1000000 - 1 := by clear hs h0; omega
  exact divL_ti (subL_ti (addL_ti (subL_ti hs h0 b1) (vlL (by decide)) b2) (vlL (by decide)) b3) (vlL (by decide)) b4 (by decide)
end TK
