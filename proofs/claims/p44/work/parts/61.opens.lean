/-! ===== the reference: blends ===== -/
def lowI (S : dC) (n : Nat) (v : Int) (k : Nat) (x : Int) : Prop := (x = -1 ∧ ∀ l : Nat, l < k → v < S 53 0 (5 * n + l)) ∨ exN (fun b => b < k ∧ x = ((5 * n + b : Nat) : Int) ∧ S 53 0 (5 * n + b) ≤ v ∧ ∀ l : Nat, l < k → S 53 0 (5 * n + l) ≤ v → S 53 0 (5 * n + l) ≤ S 53 0 (5 * n + b))
def uppI (S : dC) (n : Nat) (v : Int) (k : Nat) (x : Int) : Prop := (x = -1 ∧ ∀ l : Nat, l < k → S 53 0 (5 * n + l) < v) ∨ exN (fun b => b < k ∧ x = ((5 * n + b : Nat) : Int) ∧ v ≤ S 53 0 (5 * n + b) ∧ ∀ l : Nat, l < k → v ≤ S 53 0 (5 * n + l) → S 53 0 (5 * n + b) ≤ S 53 0 (5 * n + l))
theorem lowI_keep {S : dC} {n : Nat} {v : Int} {k : Nat} {x : Int} (h : lowI S n v k x) (hk : (x = -1 ∧ v < S 53 0 (5 * n + k)) ∨ (∃ b : Nat, x = ((5 * n + b : Nat) : Int) ∧ (S 53 0 (5 * n + k) ≤ v → S 53 0 (5 * n + k) ≤ S 53 0 (5 * n + b)))) : lowI S n v (k + 1) x := by
  rcases h with ⟨h1, h2⟩ | ⟨b, h1, h2, h3, h4⟩
  · rcases hk with ⟨k1, k2⟩ | ⟨c, k1, k2⟩
    · refine Or.inl ⟨h1, fun l hl => ?_⟩
      rcases Nat.lt_or_ge l k with z | z
      · exact h2 l z
      · rw [show l = k by omega]; exact k2
    · omega
  · rcases hk with ⟨k1, k2⟩ | ⟨c, k1, k2⟩
    · omega
    · have e : c = b := by omega
      subst e
      refine Or.inr ⟨c, by omega, h2, h3, fun l hl q => ?_⟩
      rcases Nat.lt_or_ge l k with z | z
      · exact h4 l z q
      · rw [show l = k by omega] at q ⊢; exact k2 q
theorem lowI_set {S : dC} {n : Nat} {v : Int} {k : Nat} {x : Int} (h : lowI S n v k x) (h1 : S 53 0 (5 * n + k) ≤ v) (hk : x = -1 ∨ (∃ b : Nat, x = ((5 * n + b : Nat) : Int) ∧ S 53 0 (5 * n + b) ≤ S 53 0 (5 * n + k))) : lowI S n v (k + 1) ((5 * n + k : Nat) : Int) := by
  refine Or.inr ⟨k, Nat.lt_succ_self k, rfl, h1, fun l hl q => ?_⟩
  rcases Nat.lt_or_ge l k with z | z
  · rcases h with ⟨g1, g2⟩ | ⟨b, g1, g2, g3, g4⟩
    · have := g2 l z
      omega
    · rcases hk with hk | ⟨c, k1, k2⟩
      · omega
      · have e : c = b := by omega
        subst e
        exact Int.le_trans (g4 l z q) k2
  · rw [show l = k by omega]; exact Int.le_refl _
theorem uppI_keep {S : dC} {n : Nat} {v : Int} {k : Nat} {x : Int} (h : uppI S n v k x) (hk : (x = -1 ∧ S 53 0 (5 * n + k) < v) ∨ (∃ b : Nat, x = ((5 * n + b : Nat) : Int) ∧ (v ≤ S 53 0 (5 * n + k) → S 53 0 (5 * n + b) ≤ S 53 0 (5 * n + k)))) : uppI S n v (k + 1) x := by
  rcases h with ⟨h1, h2⟩ | ⟨b, h1, h2, h3, h4⟩
  · rcases hk with ⟨k1, k2⟩ | ⟨c, k1, k2⟩
    · refine Or.inl ⟨h1, fun l hl => ?_⟩
      rcases Nat.lt_or_ge l k with z | z
      · exact h2 l z
      · rw [show l = k by omega]; exact k2
    · omega
  · rcases hk with ⟨k1, k2⟩ | ⟨c, k1, k2⟩
    · omega
    · have e : c = b := by omega
      subst e
      refine Or.inr ⟨c, by omega, h2, h3, fun l hl q => ?_⟩
      rcases Nat.lt_or_ge l k with z | z
      · exact h4 l z q
      · rw [show l = k by omega] at q ⊢; exact k2 q
theorem uppI_set {S : dC} {n : Nat} {v : Int} {k : Nat} {x : Int} (h : uppI S n v k x) (h1 : v ≤ S 53 0 (5 * n + k)) (hk : x = -1 ∨ (∃ b : Nat, x = ((5 * n + b : Nat) : Int) ∧ S 53 0 (5 * n + k) ≤ S 53 0 (5 * n + b))) : uppI S n v (k + 1) ((5 * n + k : Nat) : Int) := by
  refine Or.inr ⟨k, Nat.lt_succ_self k, rfl, h1, fun l hl q => ?_⟩
  rcases Nat.lt_or_ge l k with z | z
  · rcases h with ⟨g1, g2⟩ | ⟨b, g1, g2, g3, g4⟩
    · have := g2 l z
      omega
    · rcases hk with hk | ⟨c, k1, k2⟩
      · omega
      · have e : c = b := by omega
        subst e
        exact Int.le_trans k2 (g4 l z q)
  · rw [show l = k by omega]; exact Int.le_refl _
/-- what the scan has found at its end, as blends say it -/
theorem bl_line {S : dC} (V : Nat → Int) {n : Nat} {w : Int} (h0 : 0 < w) (h1 : S 49 0 n = -1) (d c : Nat) : bl S V (d + 1) n w c = match belK S n (V (S 50 0 n).toNat), aboK S n (V (S 50 0 n).toNat) with
    | none, none => 0
    | none, some a => bl S V d (chN S n a) w c
    | some b, none => bl S V d (chN S n b) w c
    | some b, some a => if b = a then bl S V d (chN S n b) w c else bl S V d (chN S n a) (upW S n b a (V (S 50 0 n).toNat) w) c + bl S V d (chN S n b) (w - upW S n b a (V (S 50 0 n).toNat) w) c := by
  conv => lhs; unfold bl
  rw [if_neg (by omega), if_neg (by omega)]
  cases belK S n (V (S 50 0 n).toNat) <;> cases aboK S n (V (S 50 0 n).toNat) <;> rfl
section OP
variable {h : gH} {A : dA} {N zz : Nat → Nat} {S C C0 : dC} {P : dP}
end OP
