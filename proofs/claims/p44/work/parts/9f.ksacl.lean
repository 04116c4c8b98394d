/-! ===== the class: a clip was added ===== -/
section AK2
variable {N N1 zz zz1 : Nat → Nat} {S S' C C1 : dC} {P P1 : dP} {n a1 : Nat} {len : Int}
theorem KS.acl (K : KS S N zz C P) (hn : S 38 0 8 = (n : Int)) (z45 : S 45 0 n = 0) (fN : ∀ x, x ≠ 4 → N1 x = upN N 0 x) (f4 : N 4 ≤ N1 4) (fz : ∀ b, b < N 4 → zz1 b = zz b) (fC : ∀ j i f : Nat, ¬ (9 ≤ j ∧ j ≤ 11 ∧ i = n + 1) → ¬ (j = 6 ∧ i = 0 ∧ (f = 0 ∨ f = 2)) → C1 j i f = C j i f) (c6 : C1 6 0 2 = (n : Int) + 1) (c9 : C1 9 (n + 1) 0 = (n : Int) ∧ C1 9 (n + 1) 1 = len ∧ C1 9 (n + 1) 4 = 0) (p6 : P1 6 0 1 = some (7, a1)) (ha : a1 < N1 4 ∧ n < zz1 a1 ∧ zz1 a1 ≤ 40) (or : P 6 0 1 = some (7, a1) ∨ a1 = N 4) (p7 : P1 7 a1 n = some (9, n + 1)) (el : ∀ a f, P 6 0 1 = some (7, a) → f < n → P1 7 a1 f = P 7 a f) (fP : ∀ j i f : Nat, ¬ (9 ≤ j ∧ j ≤ 11 ∧ i = n + 1) → ¬ (j = 6 ∧ i = 0 ∧ f = 1) → ¬ (j = 7 ∧ i = a1) → P1 j i f = P j i f)
  (s8 : S' 38 0 8 = (n : Int) + 1) (s44 : S' 44 0 n = len) (fS : ∀ j f : Nat, sta j f = true → ¬ (j = 38 ∧ f = 8) → ¬ (j = 44 ∧ f = n) → S' j 0 f = S j 0 f) : KS S' N1 zz1 C1 P1 := by
  have n0 := K.nn
  have e0 : N1 0 = n + 1 := by rw [fN 0 (by decide)]; show N 0 + 1 = n + 1; omega
  have e1 : N1 1 = N 1 := fN 1 (by decide)
  have e2 : N1 2 = N 2 := fN 2 (by decide)
  have e3 : N1 3 = N 3 := fN 3 (by decide)
  have hN : N 0 = n := by omega
  have t3 : S' 38 0 3 = S 38 0 3 := fS 38 3 rfl (by omega) (by omega)
  have t14 : S' 38 0 14 = S 38 0 14 := fS 38 14 rfl (by omega) (by omega)
  have t19 : S' 38 0 19 = S 38 0 19 := fS 38 19 rfl (by omega) (by omega)
  have t21 : S' 38 0 21 = S 38 0 21 := fS 38 21 rfl (by omega) (by omega)
  have t22 : S' 38 0 22 = S 38 0 22 := fS 38 22 rfl (by omega) (by omega)
  have t24 : S' 38 0 24 = S 38 0 24 := fS 38 24 rfl (by omega) (by omega)
  have s : ∀ j f : Nat, (j = 42 ∨ 45 ≤ j) → sta j f = true → S' j 0 f = S j 0 f := fun j f h hs => fS j f hs (by omega) (by omega)
  have olda : ∀ i a : Nat, i < N 1 + 5 → P 6 i 1 = some (7, a) → a < N 4 := fun i a hi hp => by
    rcases K.ar i hi with q | q
    · rw [q.2] at hp; cases hp
    · obtain ⟨b, q1, q2, _⟩ := q
      rw [q1] at hp; cases hp; exact q2
  have ne1 : ∀ i a : Nat, i ≠ 0 → i < N 1 + 5 → P 6 i 1 = some (7, a) → a ≠ a1 := fun i a hi hl hp z => by
    rcases or with o | o
    · exact hi (K.aa i 0 a hl (by omega) hp (by rw [z]; exact o))
    · have := olda i a hl hp; omega
  have p6n : ∀ i : Nat, i ≠ 0 → P1 6 i 1 = P 6 i 1 := fun i hi => fP 6 i 1 (by omega) (by omega) (by omega)
  have p7n : ∀ i a m : Nat, i ≠ 0 → i < N 1 + 5 → P 6 i 1 = some (7, a) → P1 7 a m = P 7 a m := fun i a m hi hl hp => fP 7 a m (by omega) (by omega) (fun z => ne1 i a hi hl hp z.2)
  have sz := K.sz
  have f1 : C1 4 0 1 = S' 38 0 3 := by rw [t3, fC _ _ _ (by omega) (by omega)]; exact K.np
  have f2 : ∀ p : Nat, (p : Int) < S' 38 0 3 → C1 5 0 p = S' 42 0 p := fun p hp => by rw [t3] at hp; rw [s 42 p (by omega) rfl, fC _ _ _ (by omega) (by omega)]; exact K.kd p hp
  have f3 : C1 4 0 6 = S' 38 0 22 := by rw [t22, fC _ _ _ (by omega) (by omega)]; exact K.th
  have g4 : C1 6 0 2 = S' 38 0 8 ∧ C1 6 1 2 = S' 38 0 14 ∧ C1 6 2 2 = S' 38 0 19 ∧ C1 6 3 2 = S' 38 0 21 := ⟨by rw [c6, s8], by rw [t14, fC _ _ _ (by omega) (by omega)]; exact sz.2.1, by rw [t19, fC _ _ _ (by omega) (by omega)]; exact sz.2.2.1, by rw [t21, fC _ _ _ (by omega) (by omega)]; exact sz.2.2.2⟩
  have f5 : ∀ m : Nat, m < N1 1 → C1 6 (m + 5) 2 = S' 51 0 m := fun m hm => by rw [s 51 m (by omega) rfl, fC _ _ _ (by omega) (by omega)]; exact K.szc m (by omega)
  have f6 : (N1 0 : Int) = S' 38 0 8 ∧ (N1 1 : Int) = S' 38 0 14 ∧ (N1 2 : Int) = S' 38 0 19 ∧ (N1 3 : Int) = S' 38 0 21 := by rw [e0, e1, e2, e3, s8, t14, t19, t21]; exact ⟨by omega, n0.2.1, n0.2.2.1, n0.2.2.2⟩
  have f7 : ∀ i : Nat, i < N1 1 + 5 → (C1 6 i 2 = 0 ∧ P1 6 i 1 = some (8, 0)) ∨ exN (fun a => P1 6 i 1 = some (7, a) ∧ a < N1 4 ∧ 0 ≤ C1 6 i 2 ∧ C1 6 i 2 ≤ zz1 a ∧ 0 < zz1 a ∧ zz1 a ≤ 40) := fun i hi => by
    by_cases z : i = 0
    · subst z
      exact Or.inr ⟨a1, p6, ha.1, by omega, by omega, by omega, ha.2.2⟩
    · rw [p6n i z, fC 6 i 2 (by omega) (by omega)]
      rcases K.ar i (by omega) with q | q
      · exact Or.inl q
      · obtain ⟨b, q1, q2, q3, q4, q5, q6⟩ := q
        exact Or.inr ⟨b, q1, by omega, q3, by rw [fz b q2]; exact q4, by rw [fz b q2]; exact q5, by rw [fz b q2]; exact q6⟩
  have f8 : ∀ i i' a : Nat, i < N1 1 + 5 → i' < N1 1 + 5 → P1 6 i 1 = some (7, a) → P1 6 i' 1 = some (7, a) → i = i' := fun i i' a hi hi' h1 h2 => by
    by_cases z : i = 0
    · by_cases y : i' = 0
      · omega
      · rw [z, p6] at h1
        cases h1
        rw [p6n i' y] at h2
        exact absurd rfl (ne1 i' _ y (by omega) h2)
    · rw [p6n i z] at h1
      by_cases y : i' = 0
      · rw [y, p6] at h2
        cases h2
        exact absurd rfl (ne1 i _ z (by omega) h1)
      · rw [p6n i' y] at h2
        exact K.aa i i' a (by omega) (by omega) h1 h2
  have f9 : ∀ a c : Nat, P1 6 0 1 = some (7, a) → c < N1 0 → P1 7 a c = some (9, c + 1) := fun a c h1 hc => by
    rw [p6] at h1
    cases h1
    by_cases z : c = n
    · rw [z]; exact p7
    · rcases K.ar 0 (by omega) with q | q
      · omega
      · obtain ⟨b, q1, _⟩ := q
        rw [el b c q1 (by omega)]
        exact K.e0 b c q1 (by omega)
  have f10 : ∀ a m : Nat, P1 6 1 1 = some (7, a) → m < N1 1 → P1 7 a m = some (12, m + 1) := fun a m h1 hm => by
    rw [p6n 1 (by decide)] at h1
    rw [p7n 1 a m (by decide) (by omega) h1]
    exact K.e1 a m h1 (by omega)
  have f11 : ∀ a m : Nat, P1 6 2 1 = some (7, a) → m < N1 2 → P1 7 a m = some (14, m + 1) := fun a m h1 hm => by
    rw [p6n 2 (by decide)] at h1
    rw [p7n 2 a m (by decide) (by omega) h1]
    exact K.e2 a m h1 (by omega)
  have f12 : ∀ a m : Nat, P1 6 3 1 = some (7, a) → m < N1 3 → P1 7 a m = some (15, m + 1) := fun a m h1 hm => by
    rw [p6n 3 (by decide)] at h1
    rw [p7n 3 a m (by decide) (by omega) h1]
    exact K.e3 a m h1 (by omega)
  have f13 : ∃ sg : Nat → Nat → Nat, ∀ m : Nat, m < N1 1 → (∀ i : Nat, (i : Int) < S' 51 0 m → ((sg m i : Nat) : Int) < S' 51 0 m ∧ (∀ a : Nat, P1 6 (m + 5) 1 = some (7, a) → P1 7 a i = some (12, (S' 52 0 (5 * m + sg m i)).toNat + 1)) ∧ C1 13 (m + 1) i = S' 53 0 (5 * m + sg m i)) ∧ (∀ k : Nat, (k : Int) < S' 51 0 m → ∃ i : Nat, (i : Int) < S' 51 0 m ∧ sg m i = k) := by
    obtain ⟨sg, h⟩ := K.ch
    refine ⟨sg, fun m hm => ?_⟩
    obtain ⟨h1, h2⟩ := h m (by omega)
    rw [s 51 m (by omega) rfl]
    refine ⟨fun i hi => ?_, h2⟩
    obtain ⟨q1, q2, q3⟩ := h1 i hi
    rw [s 53 _ (by omega) rfl, s 52 _ (by omega) rfl, fC _ _ _ (by omega) (by omega)]
    refine ⟨q1, fun a h1 => ?_, q3⟩
    rw [p6n (m + 5) (by omega)] at h1
    rw [p7n (m + 5) a i (by omega) (by omega) h1]
    exact q2 a h1
  have f14 : ∀ m i : Nat, m < N1 1 → (i : Int) + 1 < S' 51 0 m → C1 13 (m + 1) i < C1 13 (m + 1) (i + 1) := fun m i hm hi => by
    rw [s 51 m (by omega) rfl] at hi
    rw [fC _ _ _ (by omega) (by omega), fC _ _ _ (by omega) (by omega)]
    exact K.so m i (by omega) hi
  have f15 : ∀ m : Nat, m < N1 1 → (S' 49 0 m = -1 → P1 12 (m + 1) 0 = none ∧ C1 12 (m + 1) 1 = S' 50 0 m) ∧ (S' 49 0 m ≠ -1 → P1 12 (m + 1) 0 = some (9, (S' 49 0 m).toNat + 1)) := fun m hm => by
    rw [s 49 m (by omega) rfl, s 50 m (by omega) rfl, fC _ _ _ (by omega) (by omega), fP _ _ _ (by omega) (by omega) (by omega)]
    exact K.nd m (by omega)
  have f16 : ∀ c : Nat, c < N1 0 → C1 9 (c + 1) 0 = (c : Int) ∧ C1 9 (c + 1) 1 = S' 44 0 c ∧ C1 9 (c + 1) 4 = S' 45 0 c := fun c hc => by
    rw [s 45 c (by omega) rfl]
    by_cases z : c = n
    · rw [z, s44, z45]; exact c9
    · rw [fS 44 c rfl (by omega) (by omega), fC _ _ _ (by omega) (by omega), fC _ _ _ (by omega) (by omega), fC _ _ _ (by omega) (by omega)]
      exact K.cl c (by omega)
  have f17 : ∀ c k : Nat, c < N1 0 → (k : Int) < S' 45 0 c → C1 10 (c + 1) k = S' 46 0 (5 * c + k) ∧ C1 11 (c + 1) k = S' 47 0 (5 * c + k) := fun c k hc hk => by
    rw [s 45 c (by omega) rfl] at hk
    rw [s 46 _ (by omega) rfl, s 47 _ (by omega) rfl]
    by_cases z : c = n
    · rw [z, z45] at hk; omega
    · rw [fC _ _ _ (by omega) (by omega), fC _ _ _ (by omega) (by omega)]
      exact K.ce c k (by omega) hk
  have f18 : ∀ m : Nat, m < N1 2 → C1 14 (m + 1) 0 = (m : Int) ∧ P1 14 (m + 1) 1 = some (12, (S' 55 0 m).toNat + 1) ∧ C1 14 (m + 1) 2 = S' 56 0 m ∧ C1 14 (m + 1) 3 = S' 57 0 m ∧ C1 14 (m + 1) 4 = S' 58 0 m := fun m hm => by
    rw [s 55 m (by omega) rfl, s 56 m (by omega) rfl, s 57 m (by omega) rfl, s 58 m (by omega) rfl, fP _ _ _ (by omega) (by omega) (by omega), fC 14 (m + 1) 0 (by omega) (by omega), fC 14 (m + 1) 2 (by omega) (by omega), fC 14 (m + 1) 3 (by omega) (by omega), fC 14 (m + 1) 4 (by omega) (by omega)]
    exact K.st m (by omega)
  have f19 : ∀ t : Nat, t < N1 3 → P1 15 (t + 1) 1 = (if S' 60 0 (17 * t) = -1 then none else some (14, (S' 60 0 (17 * t)).toNat + 1)) ∧ P1 15 (t + 1) 2 = some (14, (S' 60 0 (17 * t + 1)).toNat + 1) := fun t ht => by
    rw [s 60 (17 * t) (by omega) rfl, s 60 (17 * t + 1) (by omega) rfl, fP 15 (t + 1) 1 (by omega) (by omega) (by omega), fP 15 (t + 1) 2 (by omega) (by omega) (by omega)]
    exact K.tf t (by omega)
  have f20 : ∀ t : Nat, t < N1 3 → C1 15 (t + 1) 0 = (t : Int) ∧ C1 15 (t + 1) 3 = S' 60 0 (17 * t + 2) ∧ C1 15 (t + 1) 4 = S' 60 0 (17 * t + 3) ∧ C1 15 (t + 1) 5 = S' 60 0 (17 * t + 4) ∧ C1 15 (t + 1) 6 = S' 60 0 (17 * t + 5) ∧ C1 15 (t + 1) 7 = S' 60 0 (17 * t + 6) ∧ C1 15 (t + 1) 11 = S' 60 0 (17 * t + 7) := fun t ht => by
    have g := fun f => fC 15 (t + 1) f (by omega) (by omega)
    rw [s 60 (17 * t + 2) (by omega) rfl, s 60 (17 * t + 3) (by omega) rfl, s 60 (17 * t + 4) (by omega) rfl, s 60 (17 * t + 5) (by omega) rfl, s 60 (17 * t + 6) (by omega) rfl, s 60 (17 * t + 7) (by omega) rfl, g, g, g, g, g, g, g]
    exact K.tr t (by omega)
  have f21 : ∀ t k : Nat, t < N1 3 → (k : Int) < S' 60 0 (17 * t + 7) → C1 16 (t + 1) k = S' 60 0 (17 * t + 8 + 3 * k) ∧ C1 17 (t + 1) k = S' 60 0 (17 * t + 8 + 3 * k + 1) ∧ C1 18 (t + 1) k = S' 60 0 (17 * t + 8 + 3 * k + 2) := fun t k ht hk => by
    rw [s 60 (17 * t + 7) (by omega) rfl] at hk
    rw [s 60 (17 * t + 8 + 3 * k) (by omega) rfl, s 60 (17 * t + 8 + 3 * k + 1) (by omega) rfl, s 60 (17 * t + 8 + 3 * k + 2) (by omega) rfl, fC 16 (t + 1) k (by omega) (by omega), fC 17 (t + 1) k (by omega) (by omega), fC 18 (t + 1) k (by omega) (by omega)]
    exact K.tc t k (by omega) hk
  have f22 : C1 19 0 2 = S' 38 0 24 ∧ ∀ i : Nat, (i : Int) < S' 38 0 24 → C1 20 0 i = S' 63 0 i := by
    rw [t24, fC _ _ _ (by omega) (by omega)]
    refine ⟨K.tx.1, fun i hi => ?_⟩
    rw [s 63 i (by omega) rfl, fC _ _ _ (by omega) (by omega)]
    exact K.tx.2 i hi
  unfold KS KS0
  exact ⟨f1, f2, f3, g4, f5, f6, f7, f8, f9, f10, f11, f12, f13, f14, f15, f16, f17, f18, f19, f20, f21, f22⟩
end AK2
