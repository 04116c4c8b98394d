/-! ===== the class: a clip's events, after the insertion ===== -/
section CK2
variable {h : gH} {A : dA} {N zz : Nat → Nat} {S S' C C' C0 : dC} {P P0 : dP} {t0 : Nat}
def mxK (C C' : dC) (c : Nat) : dC := fun j i f => if (9 ≤ j ∧ j ≤ 11) ∧ i = c + 1 then C' j i f else C j i f
def mxT (S S' : dC) : dC := fun j i f => if 45 ≤ j ∧ j ≤ 47 then S' j i f else S j i f
theorem KS.clp {c : Nat} (K : KS S N zz C P) (hc : c < N 0) (fS : ∀ j f : Nat, sta j f = true → ¬ (j = 45 ∧ f = c) → ¬ ((j = 46 ∨ j = 47) ∧ 5 * c ≤ f ∧ f < 5 * c + 5) → S' j 0 f = S j 0 f) (fC : ∀ j i f : Nat, ¬ ((9 ≤ j ∧ j ≤ 11) ∧ i = c + 1) → C' j i f = C j i f) (h1 : C' 9 (c + 1) 0 = (c : Int) ∧ C' 9 (c + 1) 1 = S 44 0 c ∧ C' 9 (c + 1) 4 = S' 45 0 c) (h2 : ∀ k : Nat, (k : Int) < S' 45 0 c → C' 10 (c + 1) k = S' 46 0 (5 * c + k) ∧ C' 11 (c + 1) k = S' 47 0 (5 * c + k)) (h3 : ∀ c' : Nat, c' < N 0 → S 45 0 c' ≤ 5) : KS S' N zz C' P := by
  have e45 : ∀ c', c' ≠ c → S' 45 0 c' = S 45 0 c' := fun c' h => fS 45 c' rfl (by omega) (by omega)
  have cl : ∀ c' : Nat, c' < N 0 → C' 9 (c' + 1) 0 = (c' : Int) ∧ C' 9 (c' + 1) 1 = S 44 0 c' ∧ C' 9 (c' + 1) 4 = S' 45 0 c' := fun c' h => by
    by_cases z : c' = c
    · rw [z]; exact h1
    · have q := K.cl c' h
      have g := fun f => fC 9 (c' + 1) f (fun y => z (by omega))
      rw [g, g, g, e45 c' z]
      exact q
  have ce : ∀ c' k : Nat, c' < N 0 → (k : Int) < S' 45 0 c' → C' 10 (c' + 1) k = S' 46 0 (5 * c' + k) ∧ C' 11 (c' + 1) k = S' 47 0 (5 * c' + k) := fun c' k h hk => by
    by_cases z : c' = c
    · rw [z] at hk ⊢; exact h2 k hk
    · have h3 := h3 c' h
      rw [e45 c' z] at hk
      have q := K.ce c' k h hk
      rw [fC 10 (c' + 1) k (fun y => z (by omega)), fC 11 (c' + 1) k (fun y => z (by omega)), fS 46 (5 * c' + k) rfl (by omega) (by omega), fS 47 (5 * c' + k) rfl (by omega) (by omega)]
      exact q
  have c2 : mxK C C' c = C' := funext fun j => funext fun i => funext fun f => by
    unfold mxK
    by_cases z : (9 ≤ j ∧ j ≤ 11) ∧ i = c + 1
    · rw [if_pos z]
    · rw [if_neg z, fC j i f z]
  have K1 : KS (mxT S S') N zz (mxK C C' c) P := by
    have cl1 : ∀ c' : Nat, c' < N 0 → mxK C C' c 9 (c' + 1) 0 = (c' : Int) ∧ mxK C C' c 9 (c' + 1) 1 = S 44 0 c' ∧ mxK C C' c 9 (c' + 1) 4 = S' 45 0 c' := fun c' h => by rw [c2]; exact cl c' h
    have ce1 : ∀ c' k : Nat, c' < N 0 → (k : Int) < S' 45 0 c' → mxK C C' c 10 (c' + 1) k = S' 46 0 (5 * c' + k) ∧ mxK C C' c 11 (c' + 1) k = S' 47 0 (5 * c' + k) := fun c' k h hk => by rw [c2]; exact ce c' k h hk
    unfold KS KS0 at *
    exact ⟨K.1, K.2.1, K.2.2.1, K.2.2.2.1, K.2.2.2.2.1, K.2.2.2.2.2.1, K.2.2.2.2.2.2.1, K.2.2.2.2.2.2.2.1, K.2.2.2.2.2.2.2.2.1, K.2.2.2.2.2.2.2.2.2.1, K.2.2.2.2.2.2.2.2.2.2.1, K.2.2.2.2.2.2.2.2.2.2.2.1, K.2.2.2.2.2.2.2.2.2.2.2.2.1, K.2.2.2.2.2.2.2.2.2.2.2.2.2.1, K.2.2.2.2.2.2.2.2.2.2.2.2.2.2.1, cl1, ce1, K.2.2.2.2.2.2.2.2.2.2.2.2.2.2.2.2.2.1, K.2.2.2.2.2.2.2.2.2.2.2.2.2.2.2.2.2.2.1, K.2.2.2.2.2.2.2.2.2.2.2.2.2.2.2.2.2.2.2.1, K.2.2.2.2.2.2.2.2.2.2.2.2.2.2.2.2.2.2.2.2.1, K.2.2.2.2.2.2.2.2.2.2.2.2.2.2.2.2.2.2.2.2.2⟩
  rw [c2] at K1
  exact K1.s0 (fun j f hj => by
    unfold mxT
    by_cases z : 45 ≤ j ∧ j ≤ 47
    · rw [if_pos z]
    · rw [if_neg z]
      exact fS j f hj (by omega) (by omega))
/-- what an inserted event makes of the columns -/
theorem KS.eve {c m : Nat} {t d : Int} (K : KS S N zz C P) (hc : c < N 0) (hm : S 45 0 c = (m : Int)) (h5 : m < 5) (h3 : ∀ c' : Nat, c' < N 0 → S 45 0 c' ≤ 5)
  (fC : ∀ j i' f : Nat, ¬ ((j = 10 ∨ j = 11) ∧ i' = c + 1) → ¬ (j = 9 ∧ i' = c + 1 ∧ f = 4) → C' j i' f = C j i' f) (e4 : C' 9 (c + 1) 4 = (m : Int) + 1) (w : ∀ w : Nat, w < m + 1 → C' 10 (c + 1) w = insF (C 10 (c + 1)) (insK (C 10 (c + 1)) t m) t w ∧ C' 11 (c + 1) w = insF (C 11 (c + 1)) (insK (C 10 (c + 1)) t m) d w)
  (fS : ∀ j f : Nat, sta j f = true → ¬ (j = 45 ∧ f = c) → ¬ ((j = 46 ∨ j = 47) ∧ 5 * c ≤ f ∧ f < 5 * c + m + 1) → S' j 0 f = S j 0 f) (s45 : S' 45 0 c = (m : Int) + 1) (s46 : ∀ w : Nat, w < m + 1 → S' 46 0 (5 * c + w) = insF (fun w => S 46 0 (5 * c + w)) (insK (fun w => S 46 0 (5 * c + w)) t m) t w) (s47 : ∀ w : Nat, w < m + 1 → S' 47 0 (5 * c + w) = insF (fun w => S 47 0 (5 * c + w)) (insK (fun w => S 46 0 (5 * c + w)) t m) d w) : KS S' N zz C' P := by
  have ce := fun k (hk : k < m) => K.ce c k hc (by omega)
  have ek : ∀ n, n ≤ m → insK (C 10 (c + 1)) t n = insK (fun w => S 46 0 (5 * c + w)) t n := fun n => by
    induction n with
    | zero => exact fun _ => rfl
    | succ n ih =>
      intro hn
      show (if t < C 10 (c + 1) n then insK (C 10 (c + 1)) t n else n + 1) = (if t < S 46 0 (5 * c + n) then insK (fun w => S 46 0 (5 * c + w)) t n else n + 1)
      rw [(ce n (by omega)).1, ih (by omega)]
  have le := insK_le (fun w => S 46 0 (5 * c + w)) t m
  have kc := K.cl c hc
  have ek := ek m (Nat.le_refl m)
  generalize insK (fun w => S 46 0 (5 * c + w)) t m = q at *
  have eF : ∀ (g g' : Nat → Int) (x : Int) (k : Nat), k < m + 1 → (∀ i, i < m → g i = g' i) → insF g q x k = insF g' q x k := fun g g' x k hk hg => by
    unfold insF
    by_cases a : k < q
    · rw [if_pos a, if_pos a]; exact hg k (by omega)
    · rw [if_neg a, if_neg a]
      by_cases b : k = q
      · rw [if_pos b, if_pos b]
      · rw [if_neg b, if_neg b]; exact hg (k - 1) (by omega)
  refine K.clp hc (fun j f hj a b => fS j f hj a (by omega)) (fun j i f a => fC j i f (by omega) (by omega)) ⟨?_, ?_, by rw [e4, s45]⟩ (fun k hk => ?_) h3
  · rw [fC _ _ _ (by omega) (by omega)]; exact kc.1
  · rw [fC _ _ _ (by omega) (by omega)]; exact kc.2.1
  · have hk' : k < m + 1 := by omega
    obtain ⟨w1, w2⟩ := w k hk'
    rw [w1, w2, ek, s46 k hk', s47 k hk']
    exact ⟨eF _ _ _ k hk' (fun i hi => (ce i hi).1), eF _ _ _ k hk' (fun i hi => (ce i hi).2)⟩
end CK2
