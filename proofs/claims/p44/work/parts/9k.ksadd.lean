/-! ===== the coupling after something was added ===== -/
section KA
variable {N N1 zz zz1 : Nat → Nat} {S S' C C1 : dC} {P P1 : dP} {n a1 i0 : Nat} {q : Nat × Nat}
/-- a list has one element more, in its own array -/
def LA0 (i n : Nat) (N zz : Nat → Nat) (P : dP) (N1 zz1 : Nat → Nat) (C1 : dC) (P1 : dP) (a1 : Nat) : Prop := C1 6 i 2 = (n : Int) + 1 ∧ P1 6 i 1 = some (7, a1) ∧ (a1 < N1 4 ∧ n < zz1 a1 ∧ zz1 a1 ≤ 40) ∧ (P 6 i 1 = some (7, a1) ∨ a1 = N 4) ∧ N 4 ≤ N1 4 ∧ (∀ b, b < N 4 → zz1 b = zz b)
/-- the last one is new, the others are as they were -/
def LA (i n : Nat) (q : Nat × Nat) (N zz : Nat → Nat) (P : dP) (N1 zz1 : Nat → Nat) (C1 : dC) (P1 : dP) (a1 : Nat) : Prop := LA0 i n N zz P N1 zz1 C1 P1 a1 ∧ P1 7 a1 n = some q ∧ (∀ a f, P 6 i 1 = some (7, a) → f < n → P1 7 a1 f = P 7 a f)
theorem KS.lst (K : KS S N zz C P) (hi0 : i0 < N 1 + 5) (L : LA0 i0 n N zz P N1 zz1 C1 P1 a1) (f6 : ∀ i, i < N 1 + 5 → i ≠ i0 → P1 6 i 1 = P 6 i 1 ∧ C1 6 i 2 = C 6 i 2) (f7 : ∀ a f, a ≠ a1 → P1 7 a f = P 7 a f) :
    (∀ i : Nat, i < N 1 + 5 → (C1 6 i 2 = 0 ∧ P1 6 i 1 = some (8, 0)) ∨ exN (fun a => P1 6 i 1 = some (7, a) ∧ a < N1 4 ∧ 0 ≤ C1 6 i 2 ∧ C1 6 i 2 ≤ zz1 a ∧ 0 < zz1 a ∧ zz1 a ≤ 40)) ∧
    (∀ i i' a : Nat, i < N 1 + 5 → i' < N 1 + 5 → P1 6 i 1 = some (7, a) → P1 6 i' 1 = some (7, a) → i = i') ∧
    (∀ i a m : Nat, i ≠ i0 → i < N 1 + 5 → P1 6 i 1 = some (7, a) → P 6 i 1 = some (7, a) ∧ P1 7 a m = P 7 a m) := by
  obtain ⟨c6, p6, ha, or, f4, fz⟩ := L
  have olda : ∀ i a : Nat, i < N 1 + 5 → P 6 i 1 = some (7, a) → a < N 4 := fun i a hi hp => by
    rcases K.ar i hi with q | q
    · rw [q.2] at hp; cases hp
    · obtain ⟨b, q1, q2, _⟩ := q
      rw [q1] at hp; cases hp; exact q2
  have ne1 : ∀ i a : Nat, i ≠ i0 → i < N 1 + 5 → P 6 i 1 = some (7, a) → a ≠ a1 := fun i a hi hl hp z => by
    rcases or with o | o
    · exact hi (K.aa i i0 a hl (by omega) hp (by rw [z]; exact o))
    · have := olda i a hl hp; omega
  refine ⟨fun i hi => ?_, fun i i' a hi hi' h1 h2 => ?_, fun i a m hi hl hp => ?_⟩
  · by_cases z : i = i0
    · subst z
      exact Or.inr ⟨a1, p6, ha.1, by omega, by omega, by omega, ha.2.2⟩
    · obtain ⟨q6, q7⟩ := f6 i hi z
      rw [q6, q7]
      rcases K.ar i (by omega) with q | q
      · exact Or.inl q
      · obtain ⟨b, q1, q2, q3, q4, q5, q6⟩ := q
        exact Or.inr ⟨b, q1, by omega, q3, by rw [fz b q2]; exact q4, by rw [fz b q2]; exact q5, by rw [fz b q2]; exact q6⟩
  · by_cases z : i = i0
    · by_cases y : i' = i0
      · omega
      · rw [z, p6] at h1
        cases h1
        rw [(f6 i' hi' y).1] at h2
        exact absurd rfl (ne1 i' _ y (by omega) h2)
    · rw [(f6 i hi z).1] at h1
      by_cases y : i' = i0
      · rw [y, p6] at h2
        cases h2
        exact absurd rfl (ne1 i _ z (by omega) h1)
      · rw [(f6 i' hi' y).1] at h2
        exact K.aa i i' a (by omega) (by omega) h1 h2
  · rw [(f6 i hl hi).1] at hp
    exact ⟨hp, f7 a m (ne1 i a hi hl hp)⟩
theorem KS.app (K : KS S N zz C P) (hi0 : i0 < N 1 + 5) (hC : C 6 i0 2 = (n : Int)) (L : LA i0 n q N zz P N1 zz1 C1 P1 a1) {a m : Nat} (hp : P1 6 i0 1 = some (7, a)) (hm : m < n) : ∃ b : Nat, P 6 i0 1 = some (7, b) ∧ P1 7 a m = P 7 b m := by
  obtain ⟨⟨c6, p6, ha, or, f4, fz⟩, p7, el⟩ := L
  rw [p6] at hp
  cases hp
  rcases K.ar i0 hi0 with q | q
  · omega
  · obtain ⟨b, q1, _⟩ := q
    exact ⟨b, q1, el b m q1 hm⟩
theorem LA.last (L : LA i0 n q N zz P N1 zz1 C1 P1 a1) {a : Nat} (hp : P1 6 i0 1 = some (7, a)) : P1 7 a n = some q := by
  obtain ⟨⟨c6, p6, ha, or, f4, fz⟩, p7, el⟩ := L
  rw [p6] at hp
  cases hp
  exact p7
theorem KS.ano  (K : KS S N zz C P) (I : SI S) (hn : S 38 0 14 = (n : Int)) (z51 : S 51 0 n = 0) (fN : ∀ x, x ≠ 4 → N1 x = upN N 1 x) (c : ∀ j i f : Nat, ¬ ((j = 12 ∨ j = 13) ∧ i = n + 1 ∨ j = 6 ∧ i = n + 5 ∨ j = 6 ∧ i = 1 ∧ (f = 0 ∨ f = 2)) → C1 j i f = C j i f) (c6 : C1 6 (n + 5) 2 = 0) (p6 : P1 6 (n + 5) 1 = some (8, 0)) (L : LA 1 n (12, n + 1) N zz P N1 zz1 C1 P1 a1) (p : ∀ j i f : Nat, ¬ ((j = 12 ∨ j = 13) ∧ i = n + 1 ∨ j = 6 ∧ i = n + 5 ∨ j = 6 ∧ i = 1 ∧ f = 1 ∨ j = 7 ∧ i = a1) → P1 j i f = P j i f) (s14 : S' 38 0 14 = (n : Int) + 1) (hnd : (S' 49 0 n = -1 → P1 12 (n + 1) 0 = none ∧ C1 12 (n + 1) 1 = S' 50 0 n) ∧ (S' 49 0 n ≠ -1 → P1 12 (n + 1) 0 = some (9, (S' 49 0 n).toNat + 1))) (s : ∀ j f : Nat, sta j f = true → ¬ (j = 38 ∧ f = 14 ∨ j = 49 ∧ f = n ∨ j = 50 ∧ f = n) → S' j 0 f = S j 0 f) : KS S' N1 zz1 C1 P1 := by
  have n0 := K.nn
  have sz := K.sz
  have e0 : N1 0 = N 0 := fN 0 (by decide)
  have e1 : N1 1 = n + 1 := by rw [fN 1 (by decide)]; show N 1 + 1 = n + 1; omega
  have e2 : N1 2 = N 2 := fN 2 (by decide)
  have e3 : N1 3 = N 3 := fN 3 (by decide)
  obtain ⟨lar, laa, lo⟩ := K.lst (i0 := 1) (by omega) L.1 (fun i hi hz => ⟨p 6 i 1 (by omega), c 6 i 2 (by omega)⟩) (fun a f hz => p 7 a f (by omega))
  have L6 := L.1.1
  have L7 := L.1.2.2.1
  have f1 : C1 4 0 1 = S' 38 0 3 := by rw [s 38 3 rfl (by omega), c 4 0 1 (by omega)]; exact K.np
  have f2 : ∀ x : Nat, (x : Int) < S' 38 0 3 → C1 5 0 x = S' 42 0 x := fun x hx => by
    rw [s 38 3 rfl (by omega)] at hx
    rw [s 42 x rfl (by omega), c 5 0 x (by omega)]
    exact K.kd x hx
  have f3 : C1 4 0 6 = S' 38 0 22 := by rw [s 38 22 rfl (by omega), c 4 0 6 (by omega)]; exact K.th
  have f4 : C1 6 0 2 = S' 38 0 8 ∧ C1 6 1 2 = S' 38 0 14 ∧ C1 6 2 2 = S' 38 0 19 ∧ C1 6 3 2 = S' 38 0 21 := ⟨by rw [s 38 8 rfl (by omega), c 6 0 2 (by omega)]; exact sz.1, by rw [s14]; exact L6, by rw [s 38 19 rfl (by omega), c 6 2 2 (by omega)]; exact sz.2.2.1, by rw [s 38 21 rfl (by omega), c 6 3 2 (by omega)]; exact sz.2.2.2⟩
  have f5 : ∀ m : Nat, m < N1 1 → C1 6 (m + 5) 2 = S' 51 0 m := fun m hm => by
    by_cases z : m = n
    · rw [z, s 51 n rfl (by omega), z51]; exact c6
    rw [s 51 m rfl (by omega), c 6 (m + 5) 2 (by omega)]
    exact K.szc m (by omega)
  have f6 : (N1 0 : Int) = S' 38 0 8 ∧ (N1 1 : Int) = S' 38 0 14 ∧ (N1 2 : Int) = S' 38 0 19 ∧ (N1 3 : Int) = S' 38 0 21 := ⟨by rw [s 38 8 rfl (by omega)]; omega, by rw [s14]; omega, by rw [s 38 19 rfl (by omega)]; omega, by rw [s 38 21 rfl (by omega)]; omega⟩
  have f7 : ∀ i : Nat, i < N1 1 + 5 → (C1 6 i 2 = 0 ∧ P1 6 i 1 = some (8, 0)) ∨ exN (fun a => P1 6 i 1 = some (7, a) ∧ a < N1 4 ∧ 0 ≤ C1 6 i 2 ∧ C1 6 i 2 ≤ zz1 a ∧ 0 < zz1 a ∧ zz1 a ≤ 40) := fun i hi => by
    by_cases z : i = n + 5
    · rw [z]; exact Or.inl ⟨c6, p6⟩
    · exact lar i (by omega)
  have f8 : ∀ i i' a : Nat, i < N1 1 + 5 → i' < N1 1 + 5 → P1 6 i 1 = some (7, a) → P1 6 i' 1 = some (7, a) → i = i' := fun i i' a hi hi' h1 h2 => by
    by_cases z : i = n + 5
    · rw [z, p6] at h1; cases h1
    · by_cases y : i' = n + 5
      · rw [y, p6] at h2; cases h2
      · exact laa i i' a (by omega) (by omega) h1 h2
  have f9 : ∀ a m : Nat, P1 6 0 1 = some (7, a) → m < N1 0 → P1 7 a m = some (9, m + 1) := fun a m hp hm => by
    obtain ⟨q1, q2⟩ := lo 0 a m (by omega) (by omega) hp
    rw [q2]
    exact K.e0 a m q1 (by omega)
  have f10 : ∀ a m : Nat, P1 6 1 1 = some (7, a) → m < N1 1 → P1 7 a m = some (12, m + 1) := fun a m hp hm => by
    by_cases z : m = n
    · rw [z]
      exact L.last hp
    · obtain ⟨b, q1, q2⟩ := K.app (by omega) (by omega) L hp (show m < n by omega)
      rw [q2]
      exact K.e1 b m q1 (by omega)
  have f11 : ∀ a m : Nat, P1 6 2 1 = some (7, a) → m < N1 2 → P1 7 a m = some (14, m + 1) := fun a m hp hm => by
    obtain ⟨q1, q2⟩ := lo 2 a m (by omega) (by omega) hp
    rw [q2]
    exact K.e2 a m q1 (by omega)
  have f12 : ∀ a m : Nat, P1 6 3 1 = some (7, a) → m < N1 3 → P1 7 a m = some (15, m + 1) := fun a m hp hm => by
    obtain ⟨q1, q2⟩ := lo 3 a m (by omega) (by omega) hp
    rw [q2]
    exact K.e3 a m q1 (by omega)
  have f13 : ∃ sg : Nat → Nat → Nat, ∀ m : Nat, m < N1 1 → (∀ i : Nat, (i : Int) < S' 51 0 m → ((sg m i : Nat) : Int) < S' 51 0 m ∧ (∀ a : Nat, P1 6 (m + 5) 1 = some (7, a) → P1 7 a i = some (12, (S' 52 0 (5 * m + sg m i)).toNat + 1)) ∧ C1 13 (m + 1) i = S' 53 0 (5 * m + sg m i)) ∧ (∀ k : Nat, (k : Int) < S' 51 0 m → ∃ i : Nat, (i : Int) < S' 51 0 m ∧ sg m i = k) := by
    obtain ⟨sg, h⟩ := K.ch
    refine ⟨sg, fun m hm => ?_⟩
    by_cases z : m = n
    · subst z
      rw [s 51 m rfl (by omega), z51]
      exact ⟨fun i hi => by omega, fun k hk => by omega⟩
    obtain ⟨h1, h2⟩ := h m (by omega)
    rw [s 51 m rfl (by omega)]
    refine ⟨fun i hi => ?_, h2⟩
    obtain ⟨q1, q2, q3⟩ := h1 i hi
    rw [s 53 _ rfl (by omega), s 52 _ rfl (by omega), c 13 (m + 1) i (by omega)]
    refine ⟨q1, fun a hp => ?_, q3⟩
    obtain ⟨p1, p2⟩ := lo (m + 5) a i (by omega) (by omega) hp
    rw [p2]
    exact q2 a p1
  have f14 : ∀ m i : Nat, m < N1 1 → (i : Int) + 1 < S' 51 0 m → C1 13 (m + 1) i < C1 13 (m + 1) (i + 1) := fun m i hm hi => by
    by_cases z : m = n
    · subst z
      rw [s 51 m rfl (by omega), z51] at hi
      omega
    rw [s 51 m rfl (by omega)] at hi
    rw [c 13 (m + 1) i (by omega), c 13 (m + 1) (i + 1) (by omega)]
    exact K.so m i (by omega) hi
  have f15 : ∀ m : Nat, m < N1 1 → (S' 49 0 m = -1 → P1 12 (m + 1) 0 = none ∧ C1 12 (m + 1) 1 = S' 50 0 m) ∧ (S' 49 0 m ≠ -1 → P1 12 (m + 1) 0 = some (9, (S' 49 0 m).toNat + 1)) := fun m hm => by
    by_cases z : m = n
    · rw [z]; exact hnd
    rw [s 49 m rfl (by omega), s 50 m rfl (by omega), c 12 (m + 1) 1 (by omega), p 12 (m + 1) 0 (by omega)]
    exact K.nd m (by omega)
  have f16 : ∀ x : Nat, x < N1 0 → C1 9 (x + 1) 0 = (x : Int) ∧ C1 9 (x + 1) 1 = S' 44 0 x ∧ C1 9 (x + 1) 4 = S' 45 0 x := fun x hx => by
    rw [s 44 x rfl (by omega), s 45 x rfl (by omega), c 9 (x + 1) 0 (by omega), c 9 (x + 1) 1 (by omega), c 9 (x + 1) 4 (by omega)]
    exact K.cl x (by omega)
  have f17 : ∀ x k : Nat, x < N1 0 → (k : Int) < S' 45 0 x → C1 10 (x + 1) k = S' 46 0 (5 * x + k) ∧ C1 11 (x + 1) k = S' 47 0 (5 * x + k) := fun x k hx hk => by
    rw [s 45 x rfl (by omega)] at hk
    rw [s 46 _ rfl (by omega), s 47 _ rfl (by omega), c 10 (x + 1) k (by omega), c 11 (x + 1) k (by omega)]
    exact K.ce x k (by omega) hk
  have f18 : ∀ m : Nat, m < N1 2 → C1 14 (m + 1) 0 = (m : Int) ∧ P1 14 (m + 1) 1 = some (12, (S' 55 0 m).toNat + 1) ∧ C1 14 (m + 1) 2 = S' 56 0 m ∧ C1 14 (m + 1) 3 = S' 57 0 m ∧ C1 14 (m + 1) 4 = S' 58 0 m := fun m hm => by
    skip
    rw [s 55 m rfl (by omega), s 56 m rfl (by omega), s 57 m rfl (by omega), s 58 m rfl (by omega), p 14 (m + 1) 1 (by omega), c 14 (m + 1) 0 (by omega), c 14 (m + 1) 2 (by omega), c 14 (m + 1) 3 (by omega), c 14 (m + 1) 4 (by omega)]
    exact K.st m (by omega)
  have f19 : ∀ t : Nat, t < N1 3 → P1 15 (t + 1) 1 = (if S' 60 0 (17 * t) = -1 then none else some (14, (S' 60 0 (17 * t)).toNat + 1)) ∧ P1 15 (t + 1) 2 = some (14, (S' 60 0 (17 * t + 1)).toNat + 1) := fun t ht => by
    skip
    rw [s 60 (17 * t) rfl (by omega), s 60 (17 * t + 1) rfl (by omega), p 15 (t + 1) 1 (by omega), p 15 (t + 1) 2 (by omega)]
    exact K.tf t (by omega)
  have f20 : ∀ t : Nat, t < N1 3 → C1 15 (t + 1) 0 = (t : Int) ∧ C1 15 (t + 1) 3 = S' 60 0 (17 * t + 2) ∧ C1 15 (t + 1) 4 = S' 60 0 (17 * t + 3) ∧ C1 15 (t + 1) 5 = S' 60 0 (17 * t + 4) ∧ C1 15 (t + 1) 6 = S' 60 0 (17 * t + 5) ∧ C1 15 (t + 1) 7 = S' 60 0 (17 * t + 6) ∧ C1 15 (t + 1) 11 = S' 60 0 (17 * t + 7) := fun t ht => by
    skip
    have g := fun f => c 15 (t + 1) f (by omega)
    have r := fun f (hf : f < 17) => s 60 (17 * t + f) rfl (by omega)
    rw [r 2 (by decide), r 3 (by decide), r 4 (by decide), r 5 (by decide), r 6 (by decide), r 7 (by decide), g, g, g, g, g, g, g]
    exact K.tr t (by omega)
  have f21 : ∀ t k : Nat, t < N1 3 → (k : Int) < S' 60 0 (17 * t + 7) → C1 16 (t + 1) k = S' 60 0 (17 * t + 8 + 3 * k) ∧ C1 17 (t + 1) k = S' 60 0 (17 * t + 8 + 3 * k + 1) ∧ C1 18 (t + 1) k = S' 60 0 (17 * t + 8 + 3 * k + 2) := fun t k ht hk => by
    skip
    rw [s 60 (17 * t + 7) rfl (by omega)] at hk
    have tc := I.tc t (by omega)
    rw [s 60 (17 * t + 8 + 3 * k) rfl (by omega), s 60 (17 * t + 8 + 3 * k + 1) rfl (by omega), s 60 (17 * t + 8 + 3 * k + 2) rfl (by omega), c 16 (t + 1) k (by omega), c 17 (t + 1) k (by omega), c 18 (t + 1) k (by omega)]
    exact K.tc t k (by omega) hk
  have f22 : C1 19 0 2 = S' 38 0 24 ∧ ∀ i : Nat, (i : Int) < S' 38 0 24 → C1 20 0 i = S' 63 0 i := by
    rw [s 38 24 rfl (by omega), c 19 0 2 (by omega)]
    refine ⟨K.tx.1, fun i hi => ?_⟩
    rw [s 63 i rfl (by omega), c 20 0 i (by omega)]
    exact K.tx.2 i hi
  unfold KS KS0
  exact ⟨f1, f2, f3, f4, f5, f6, f7, f8, f9, f10, f11, f12, f13, f14, f15, f16, f17, f18, f19, f20, f21, f22⟩
theorem KS.ast  (K : KS S N zz C P) (I : SI S) (hn : S 38 0 19 = (n : Int)) (fN : ∀ x, x ≠ 4 → N1 x = upN N 2 x) (c : ∀ j i f : Nat, j < 21 → ¬ (j = 14 ∧ i = n + 1 ∨ j = 6 ∧ i = 2 ∧ (f = 0 ∨ f = 2)) → C1 j i f = C j i f) (L : LA 2 n (14, n + 1) N zz P N1 zz1 C1 P1 a1) (p : ∀ j i f : Nat, j < 21 → ¬ (j = 14 ∧ i = n + 1 ∨ j = 6 ∧ i = 2 ∧ f = 1 ∨ j = 7 ∧ i = a1) → P1 j i f = P j i f) (s19 : S' 38 0 19 = (n : Int) + 1) (hst : C1 14 (n + 1) 0 = (n : Int) ∧ P1 14 (n + 1) 1 = some (12, (S' 55 0 n).toNat + 1) ∧ C1 14 (n + 1) 2 = S' 56 0 n ∧ C1 14 (n + 1) 3 = S' 57 0 n ∧ C1 14 (n + 1) 4 = S' 58 0 n) (s : ∀ j f : Nat, sta j f = true → ¬ (j = 38 ∧ f = 19 ∨ 55 ≤ j ∧ j ≤ 58 ∧ f = n) → S' j 0 f = S j 0 f) : KS S' N1 zz1 C1 P1 := by
  have n0 := K.nn
  have sz := K.sz
  have e0 : N1 0 = N 0 := fN 0 (by decide)
  have e1 : N1 1 = N 1 := fN 1 (by decide)
  have e2 : N1 2 = n + 1 := by rw [fN 2 (by decide)]; show N 2 + 1 = n + 1; omega
  have e3 : N1 3 = N 3 := fN 3 (by decide)
  replace c := fun (j i f : Nat) (h : j < 21 ∧ ¬ (j = 14 ∧ i = n + 1 ∨ j = 6 ∧ i = 2 ∧ (f = 0 ∨ f = 2))) => c j i f h.1 h.2
  replace p := fun (j i f : Nat) (h : j < 21 ∧ ¬ (j = 14 ∧ i = n + 1 ∨ j = 6 ∧ i = 2 ∧ f = 1 ∨ j = 7 ∧ i = a1)) => p j i f h.1 h.2
  obtain ⟨lar, laa, lo⟩ := K.lst (i0 := 2) (by omega) L.1 (fun i hi hz => ⟨p 6 i 1 (by omega), c 6 i 2 (by omega)⟩) (fun a f hz => p 7 a f (by omega))
  have L6 := L.1.1
  have L7 := L.1.2.2.1
  have f1 : C1 4 0 1 = S' 38 0 3 := by rw [s 38 3 rfl (by omega), c 4 0 1 (by omega)]; exact K.np
  have f2 : ∀ x : Nat, (x : Int) < S' 38 0 3 → C1 5 0 x = S' 42 0 x := fun x hx => by
    rw [s 38 3 rfl (by omega)] at hx
    rw [s 42 x rfl (by omega), c 5 0 x (by omega)]
    exact K.kd x hx
  have f3 : C1 4 0 6 = S' 38 0 22 := by rw [s 38 22 rfl (by omega), c 4 0 6 (by omega)]; exact K.th
  have f4 : C1 6 0 2 = S' 38 0 8 ∧ C1 6 1 2 = S' 38 0 14 ∧ C1 6 2 2 = S' 38 0 19 ∧ C1 6 3 2 = S' 38 0 21 := ⟨by rw [s 38 8 rfl (by omega), c 6 0 2 (by omega)]; exact sz.1, by rw [s 38 14 rfl (by omega), c 6 1 2 (by omega)]; exact sz.2.1, by rw [s19]; exact L6, by rw [s 38 21 rfl (by omega), c 6 3 2 (by omega)]; exact sz.2.2.2⟩
  have f5 : ∀ m : Nat, m < N1 1 → C1 6 (m + 5) 2 = S' 51 0 m := fun m hm => by
    rw [s 51 m rfl (by omega), c 6 (m + 5) 2 (by omega)]
    exact K.szc m (by omega)
  have f6 : (N1 0 : Int) = S' 38 0 8 ∧ (N1 1 : Int) = S' 38 0 14 ∧ (N1 2 : Int) = S' 38 0 19 ∧ (N1 3 : Int) = S' 38 0 21 := ⟨by rw [s 38 8 rfl (by omega)]; omega, by rw [s 38 14 rfl (by omega)]; omega, by rw [s19]; omega, by rw [s 38 21 rfl (by omega)]; omega⟩
  have f7 : ∀ i : Nat, i < N1 1 + 5 → (C1 6 i 2 = 0 ∧ P1 6 i 1 = some (8, 0)) ∨ exN (fun a => P1 6 i 1 = some (7, a) ∧ a < N1 4 ∧ 0 ≤ C1 6 i 2 ∧ C1 6 i 2 ≤ zz1 a ∧ 0 < zz1 a ∧ zz1 a ≤ 40) := fun i hi => lar i (by omega)
  have f8 : ∀ i i' a : Nat, i < N1 1 + 5 → i' < N1 1 + 5 → P1 6 i 1 = some (7, a) → P1 6 i' 1 = some (7, a) → i = i' := fun i i' a hi hi' => laa i i' a (by omega) (by omega)
  have f9 : ∀ a m : Nat, P1 6 0 1 = some (7, a) → m < N1 0 → P1 7 a m = some (9, m + 1) := fun a m hp hm => by
    obtain ⟨q1, q2⟩ := lo 0 a m (by omega) (by omega) hp
    rw [q2]
    exact K.e0 a m q1 (by omega)
  have f10 : ∀ a m : Nat, P1 6 1 1 = some (7, a) → m < N1 1 → P1 7 a m = some (12, m + 1) := fun a m hp hm => by
    obtain ⟨q1, q2⟩ := lo 1 a m (by omega) (by omega) hp
    rw [q2]
    exact K.e1 a m q1 (by omega)
  have f11 : ∀ a m : Nat, P1 6 2 1 = some (7, a) → m < N1 2 → P1 7 a m = some (14, m + 1) := fun a m hp hm => by
    by_cases z : m = n
    · rw [z]
      exact L.last hp
    · obtain ⟨b, q1, q2⟩ := K.app (by omega) (by omega) L hp (show m < n by omega)
      rw [q2]
      exact K.e2 b m q1 (by omega)
  have f12 : ∀ a m : Nat, P1 6 3 1 = some (7, a) → m < N1 3 → P1 7 a m = some (15, m + 1) := fun a m hp hm => by
    obtain ⟨q1, q2⟩ := lo 3 a m (by omega) (by omega) hp
    rw [q2]
    exact K.e3 a m q1 (by omega)
  have f13 : ∃ sg : Nat → Nat → Nat, ∀ m : Nat, m < N1 1 → (∀ i : Nat, (i : Int) < S' 51 0 m → ((sg m i : Nat) : Int) < S' 51 0 m ∧ (∀ a : Nat, P1 6 (m + 5) 1 = some (7, a) → P1 7 a i = some (12, (S' 52 0 (5 * m + sg m i)).toNat + 1)) ∧ C1 13 (m + 1) i = S' 53 0 (5 * m + sg m i)) ∧ (∀ k : Nat, (k : Int) < S' 51 0 m → ∃ i : Nat, (i : Int) < S' 51 0 m ∧ sg m i = k) := by
    obtain ⟨sg, h⟩ := K.ch
    refine ⟨sg, fun m hm => ?_⟩
    skip
    obtain ⟨h1, h2⟩ := h m (by omega)
    rw [s 51 m rfl (by omega)]
    refine ⟨fun i hi => ?_, h2⟩
    obtain ⟨q1, q2, q3⟩ := h1 i hi
    rw [s 53 _ rfl (by omega), s 52 _ rfl (by omega), c 13 (m + 1) i (by omega)]
    refine ⟨q1, fun a hp => ?_, q3⟩
    obtain ⟨p1, p2⟩ := lo (m + 5) a i (by omega) (by omega) hp
    rw [p2]
    exact q2 a p1
  have f14 : ∀ m i : Nat, m < N1 1 → (i : Int) + 1 < S' 51 0 m → C1 13 (m + 1) i < C1 13 (m + 1) (i + 1) := fun m i hm hi => by
    skip
    rw [s 51 m rfl (by omega)] at hi
    rw [c 13 (m + 1) i (by omega), c 13 (m + 1) (i + 1) (by omega)]
    exact K.so m i (by omega) hi
  have f15 : ∀ m : Nat, m < N1 1 → (S' 49 0 m = -1 → P1 12 (m + 1) 0 = none ∧ C1 12 (m + 1) 1 = S' 50 0 m) ∧ (S' 49 0 m ≠ -1 → P1 12 (m + 1) 0 = some (9, (S' 49 0 m).toNat + 1)) := fun m hm => by
    skip
    rw [s 49 m rfl (by omega), s 50 m rfl (by omega), c 12 (m + 1) 1 (by omega), p 12 (m + 1) 0 (by omega)]
    exact K.nd m (by omega)
  have f16 : ∀ x : Nat, x < N1 0 → C1 9 (x + 1) 0 = (x : Int) ∧ C1 9 (x + 1) 1 = S' 44 0 x ∧ C1 9 (x + 1) 4 = S' 45 0 x := fun x hx => by
    rw [s 44 x rfl (by omega), s 45 x rfl (by omega), c 9 (x + 1) 0 (by omega), c 9 (x + 1) 1 (by omega), c 9 (x + 1) 4 (by omega)]
    exact K.cl x (by omega)
  have f17 : ∀ x k : Nat, x < N1 0 → (k : Int) < S' 45 0 x → C1 10 (x + 1) k = S' 46 0 (5 * x + k) ∧ C1 11 (x + 1) k = S' 47 0 (5 * x + k) := fun x k hx hk => by
    rw [s 45 x rfl (by omega)] at hk
    rw [s 46 _ rfl (by omega), s 47 _ rfl (by omega), c 10 (x + 1) k (by omega), c 11 (x + 1) k (by omega)]
    exact K.ce x k (by omega) hk
  have f18 : ∀ m : Nat, m < N1 2 → C1 14 (m + 1) 0 = (m : Int) ∧ P1 14 (m + 1) 1 = some (12, (S' 55 0 m).toNat + 1) ∧ C1 14 (m + 1) 2 = S' 56 0 m ∧ C1 14 (m + 1) 3 = S' 57 0 m ∧ C1 14 (m + 1) 4 = S' 58 0 m := fun m hm => by
    by_cases z : m = n
    · rw [z]; exact hst
    rw [s 55 m rfl (by omega), s 56 m rfl (by omega), s 57 m rfl (by omega), s 58 m rfl (by omega), p 14 (m + 1) 1 (by omega), c 14 (m + 1) 0 (by omega), c 14 (m + 1) 2 (by omega), c 14 (m + 1) 3 (by omega), c 14 (m + 1) 4 (by omega)]
    exact K.st m (by omega)
  have f19 : ∀ t : Nat, t < N1 3 → P1 15 (t + 1) 1 = (if S' 60 0 (17 * t) = -1 then none else some (14, (S' 60 0 (17 * t)).toNat + 1)) ∧ P1 15 (t + 1) 2 = some (14, (S' 60 0 (17 * t + 1)).toNat + 1) := fun t ht => by
    skip
    rw [s 60 (17 * t) rfl (by omega), s 60 (17 * t + 1) rfl (by omega), p 15 (t + 1) 1 (by omega), p 15 (t + 1) 2 (by omega)]
    exact K.tf t (by omega)
  have f20 : ∀ t : Nat, t < N1 3 → C1 15 (t + 1) 0 = (t : Int) ∧ C1 15 (t + 1) 3 = S' 60 0 (17 * t + 2) ∧ C1 15 (t + 1) 4 = S' 60 0 (17 * t + 3) ∧ C1 15 (t + 1) 5 = S' 60 0 (17 * t + 4) ∧ C1 15 (t + 1) 6 = S' 60 0 (17 * t + 5) ∧ C1 15 (t + 1) 7 = S' 60 0 (17 * t + 6) ∧ C1 15 (t + 1) 11 = S' 60 0 (17 * t + 7) := fun t ht => by
    skip
    have g := fun f => c 15 (t + 1) f (by omega)
    have r := fun f (hf : f < 17) => s 60 (17 * t + f) rfl (by omega)
    rw [r 2 (by decide), r 3 (by decide), r 4 (by decide), r 5 (by decide), r 6 (by decide), r 7 (by decide), g, g, g, g, g, g, g]
    exact K.tr t (by omega)
  have f21 : ∀ t k : Nat, t < N1 3 → (k : Int) < S' 60 0 (17 * t + 7) → C1 16 (t + 1) k = S' 60 0 (17 * t + 8 + 3 * k) ∧ C1 17 (t + 1) k = S' 60 0 (17 * t + 8 + 3 * k + 1) ∧ C1 18 (t + 1) k = S' 60 0 (17 * t + 8 + 3 * k + 2) := fun t k ht hk => by
    skip
    rw [s 60 (17 * t + 7) rfl (by omega)] at hk
    have tc := I.tc t (by omega)
    rw [s 60 (17 * t + 8 + 3 * k) rfl (by omega), s 60 (17 * t + 8 + 3 * k + 1) rfl (by omega), s 60 (17 * t + 8 + 3 * k + 2) rfl (by omega), c 16 (t + 1) k (by omega), c 17 (t + 1) k (by omega), c 18 (t + 1) k (by omega)]
    exact K.tc t k (by omega) hk
  have f22 : C1 19 0 2 = S' 38 0 24 ∧ ∀ i : Nat, (i : Int) < S' 38 0 24 → C1 20 0 i = S' 63 0 i := by
    rw [s 38 24 rfl (by omega), c 19 0 2 (by omega)]
    refine ⟨K.tx.1, fun i hi => ?_⟩
    rw [s 63 i rfl (by omega), c 20 0 i (by omega)]
    exact K.tx.2 i hi
  unfold KS KS0
  exact ⟨f1, f2, f3, f4, f5, f6, f7, f8, f9, f10, f11, f12, f13, f14, f15, f16, f17, f18, f19, f20, f21, f22⟩
theorem KS.atr  (K : KS S N zz C P) (I : SI S) (hn : S 38 0 21 = (n : Int)) (fN : ∀ x, x ≠ 4 → N1 x = upN N 3 x) (c : ∀ j i f : Nat, ¬ (15 ≤ j ∧ j ≤ 18 ∧ i = n + 1 ∨ j = 6 ∧ i = 3 ∧ (f = 0 ∨ f = 2)) → C1 j i f = C j i f) (L : LA 3 n (15, n + 1) N zz P N1 zz1 C1 P1 a1) (p : ∀ j i f : Nat, ¬ (15 ≤ j ∧ j ≤ 18 ∧ i = n + 1 ∨ j = 6 ∧ i = 3 ∧ f = 1 ∨ j = 7 ∧ i = a1) → P1 j i f = P j i f) (s21 : S' 38 0 21 = (n : Int) + 1) (htf : P1 15 (n + 1) 1 = (if S' 60 0 (17 * n) = -1 then none else some (14, (S' 60 0 (17 * n)).toNat + 1)) ∧ P1 15 (n + 1) 2 = some (14, (S' 60 0 (17 * n + 1)).toNat + 1)) (htr : C1 15 (n + 1) 0 = (n : Int) ∧ C1 15 (n + 1) 3 = S' 60 0 (17 * n + 2) ∧ C1 15 (n + 1) 4 = S' 60 0 (17 * n + 3) ∧ C1 15 (n + 1) 5 = S' 60 0 (17 * n + 4) ∧ C1 15 (n + 1) 6 = S' 60 0 (17 * n + 5) ∧ C1 15 (n + 1) 7 = S' 60 0 (17 * n + 6) ∧ C1 15 (n + 1) 11 = S' 60 0 (17 * n + 7)) (htc : ∀ k : Nat, (k : Int) < S' 60 0 (17 * n + 7) → C1 16 (n + 1) k = S' 60 0 (17 * n + 8 + 3 * k) ∧ C1 17 (n + 1) k = S' 60 0 (17 * n + 8 + 3 * k + 1) ∧ C1 18 (n + 1) k = S' 60 0 (17 * n + 8 + 3 * k + 2)) (s : ∀ j f : Nat, sta j f = true → ¬ (j = 38 ∧ f = 21 ∨ j = 60 ∧ 17 * n ≤ f ∧ f < 17 * n + 17) → S' j 0 f = S j 0 f) : KS S' N1 zz1 C1 P1 := by
  have n0 := K.nn
  have sz := K.sz
  have e0 : N1 0 = N 0 := fN 0 (by decide)
  have e1 : N1 1 = N 1 := fN 1 (by decide)
  have e2 : N1 2 = N 2 := fN 2 (by decide)
  have e3 : N1 3 = n + 1 := by rw [fN 3 (by decide)]; show N 3 + 1 = n + 1; omega
  obtain ⟨lar, laa, lo⟩ := K.lst (i0 := 3) (by omega) L.1 (fun i hi hz => ⟨p 6 i 1 (by omega), c 6 i 2 (by omega)⟩) (fun a f hz => p 7 a f (by omega))
  have L6 := L.1.1
  have L7 := L.1.2.2.1
  have f1 : C1 4 0 1 = S' 38 0 3 := by rw [s 38 3 rfl (by omega), c 4 0 1 (by omega)]; exact K.np
  have f2 : ∀ x : Nat, (x : Int) < S' 38 0 3 → C1 5 0 x = S' 42 0 x := fun x hx => by
    rw [s 38 3 rfl (by omega)] at hx
    rw [s 42 x rfl (by omega), c 5 0 x (by omega)]
    exact K.kd x hx
  have f3 : C1 4 0 6 = S' 38 0 22 := by rw [s 38 22 rfl (by omega), c 4 0 6 (by omega)]; exact K.th
  have f4 : C1 6 0 2 = S' 38 0 8 ∧ C1 6 1 2 = S' 38 0 14 ∧ C1 6 2 2 = S' 38 0 19 ∧ C1 6 3 2 = S' 38 0 21 := ⟨by rw [s 38 8 rfl (by omega), c 6 0 2 (by omega)]; exact sz.1, by rw [s 38 14 rfl (by omega), c 6 1 2 (by omega)]; exact sz.2.1, by rw [s 38 19 rfl (by omega), c 6 2 2 (by omega)]; exact sz.2.2.1, by rw [s21]; exact L6⟩
  have f5 : ∀ m : Nat, m < N1 1 → C1 6 (m + 5) 2 = S' 51 0 m := fun m hm => by
    rw [s 51 m rfl (by omega), c 6 (m + 5) 2 (by omega)]
    exact K.szc m (by omega)
  have f6 : (N1 0 : Int) = S' 38 0 8 ∧ (N1 1 : Int) = S' 38 0 14 ∧ (N1 2 : Int) = S' 38 0 19 ∧ (N1 3 : Int) = S' 38 0 21 := ⟨by rw [s 38 8 rfl (by omega)]; omega, by rw [s 38 14 rfl (by omega)]; omega, by rw [s 38 19 rfl (by omega)]; omega, by rw [s21]; omega⟩
  have f7 : ∀ i : Nat, i < N1 1 + 5 → (C1 6 i 2 = 0 ∧ P1 6 i 1 = some (8, 0)) ∨ exN (fun a => P1 6 i 1 = some (7, a) ∧ a < N1 4 ∧ 0 ≤ C1 6 i 2 ∧ C1 6 i 2 ≤ zz1 a ∧ 0 < zz1 a ∧ zz1 a ≤ 40) := fun i hi => lar i (by omega)
  have f8 : ∀ i i' a : Nat, i < N1 1 + 5 → i' < N1 1 + 5 → P1 6 i 1 = some (7, a) → P1 6 i' 1 = some (7, a) → i = i' := fun i i' a hi hi' => laa i i' a (by omega) (by omega)
  have f9 : ∀ a m : Nat, P1 6 0 1 = some (7, a) → m < N1 0 → P1 7 a m = some (9, m + 1) := fun a m hp hm => by
    obtain ⟨q1, q2⟩ := lo 0 a m (by omega) (by omega) hp
    rw [q2]
    exact K.e0 a m q1 (by omega)
  have f10 : ∀ a m : Nat, P1 6 1 1 = some (7, a) → m < N1 1 → P1 7 a m = some (12, m + 1) := fun a m hp hm => by
    obtain ⟨q1, q2⟩ := lo 1 a m (by omega) (by omega) hp
    rw [q2]
    exact K.e1 a m q1 (by omega)
  have f11 : ∀ a m : Nat, P1 6 2 1 = some (7, a) → m < N1 2 → P1 7 a m = some (14, m + 1) := fun a m hp hm => by
    obtain ⟨q1, q2⟩ := lo 2 a m (by omega) (by omega) hp
    rw [q2]
    exact K.e2 a m q1 (by omega)
  have f12 : ∀ a m : Nat, P1 6 3 1 = some (7, a) → m < N1 3 → P1 7 a m = some (15, m + 1) := fun a m hp hm => by
    by_cases z : m = n
    · rw [z]
      exact L.last hp
    · obtain ⟨b, q1, q2⟩ := K.app (by omega) (by omega) L hp (show m < n by omega)
      rw [q2]
      exact K.e3 b m q1 (by omega)
  have f13 : ∃ sg : Nat → Nat → Nat, ∀ m : Nat, m < N1 1 → (∀ i : Nat, (i : Int) < S' 51 0 m → ((sg m i : Nat) : Int) < S' 51 0 m ∧ (∀ a : Nat, P1 6 (m + 5) 1 = some (7, a) → P1 7 a i = some (12, (S' 52 0 (5 * m + sg m i)).toNat + 1)) ∧ C1 13 (m + 1) i = S' 53 0 (5 * m + sg m i)) ∧ (∀ k : Nat, (k : Int) < S' 51 0 m → ∃ i : Nat, (i : Int) < S' 51 0 m ∧ sg m i = k) := by
    obtain ⟨sg, h⟩ := K.ch
    refine ⟨sg, fun m hm => ?_⟩
    skip
    obtain ⟨h1, h2⟩ := h m (by omega)
    rw [s 51 m rfl (by omega)]
    refine ⟨fun i hi => ?_, h2⟩
    obtain ⟨q1, q2, q3⟩ := h1 i hi
    rw [s 53 _ rfl (by omega), s 52 _ rfl (by omega), c 13 (m + 1) i (by omega)]
    refine ⟨q1, fun a hp => ?_, q3⟩
    obtain ⟨p1, p2⟩ := lo (m + 5) a i (by omega) (by omega) hp
    rw [p2]
    exact q2 a p1
  have f14 : ∀ m i : Nat, m < N1 1 → (i : Int) + 1 < S' 51 0 m → C1 13 (m + 1) i < C1 13 (m + 1) (i + 1) := fun m i hm hi => by
    skip
    rw [s 51 m rfl (by omega)] at hi
    rw [c 13 (m + 1) i (by omega), c 13 (m + 1) (i + 1) (by omega)]
    exact K.so m i (by omega) hi
  have f15 : ∀ m : Nat, m < N1 1 → (S' 49 0 m = -1 → P1 12 (m + 1) 0 = none ∧ C1 12 (m + 1) 1 = S' 50 0 m) ∧ (S' 49 0 m ≠ -1 → P1 12 (m + 1) 0 = some (9, (S' 49 0 m).toNat + 1)) := fun m hm => by
    skip
    rw [s 49 m rfl (by omega), s 50 m rfl (by omega), c 12 (m + 1) 1 (by omega), p 12 (m + 1) 0 (by omega)]
    exact K.nd m (by omega)
  have f16 : ∀ x : Nat, x < N1 0 → C1 9 (x + 1) 0 = (x : Int) ∧ C1 9 (x + 1) 1 = S' 44 0 x ∧ C1 9 (x + 1) 4 = S' 45 0 x := fun x hx => by
    rw [s 44 x rfl (by omega), s 45 x rfl (by omega), c 9 (x + 1) 0 (by omega), c 9 (x + 1) 1 (by omega), c 9 (x + 1) 4 (by omega)]
    exact K.cl x (by omega)
  have f17 : ∀ x k : Nat, x < N1 0 → (k : Int) < S' 45 0 x → C1 10 (x + 1) k = S' 46 0 (5 * x + k) ∧ C1 11 (x + 1) k = S' 47 0 (5 * x + k) := fun x k hx hk => by
    rw [s 45 x rfl (by omega)] at hk
    rw [s 46 _ rfl (by omega), s 47 _ rfl (by omega), c 10 (x + 1) k (by omega), c 11 (x + 1) k (by omega)]
    exact K.ce x k (by omega) hk
  have f18 : ∀ m : Nat, m < N1 2 → C1 14 (m + 1) 0 = (m : Int) ∧ P1 14 (m + 1) 1 = some (12, (S' 55 0 m).toNat + 1) ∧ C1 14 (m + 1) 2 = S' 56 0 m ∧ C1 14 (m + 1) 3 = S' 57 0 m ∧ C1 14 (m + 1) 4 = S' 58 0 m := fun m hm => by
    skip
    rw [s 55 m rfl (by omega), s 56 m rfl (by omega), s 57 m rfl (by omega), s 58 m rfl (by omega), p 14 (m + 1) 1 (by omega), c 14 (m + 1) 0 (by omega), c 14 (m + 1) 2 (by omega), c 14 (m + 1) 3 (by omega), c 14 (m + 1) 4 (by omega)]
    exact K.st m (by omega)
  have f19 : ∀ t : Nat, t < N1 3 → P1 15 (t + 1) 1 = (if S' 60 0 (17 * t) = -1 then none else some (14, (S' 60 0 (17 * t)).toNat + 1)) ∧ P1 15 (t + 1) 2 = some (14, (S' 60 0 (17 * t + 1)).toNat + 1) := fun t ht => by
    by_cases z : t = n
    · rw [z]; exact htf
    rw [s 60 (17 * t) rfl (by omega), s 60 (17 * t + 1) rfl (by omega), p 15 (t + 1) 1 (by omega), p 15 (t + 1) 2 (by omega)]
    exact K.tf t (by omega)
  have f20 : ∀ t : Nat, t < N1 3 → C1 15 (t + 1) 0 = (t : Int) ∧ C1 15 (t + 1) 3 = S' 60 0 (17 * t + 2) ∧ C1 15 (t + 1) 4 = S' 60 0 (17 * t + 3) ∧ C1 15 (t + 1) 5 = S' 60 0 (17 * t + 4) ∧ C1 15 (t + 1) 6 = S' 60 0 (17 * t + 5) ∧ C1 15 (t + 1) 7 = S' 60 0 (17 * t + 6) ∧ C1 15 (t + 1) 11 = S' 60 0 (17 * t + 7) := fun t ht => by
    by_cases z : t = n
    · rw [z]; exact htr
    have g := fun f => c 15 (t + 1) f (by omega)
    have r := fun f (hf : f < 17) => s 60 (17 * t + f) rfl (by omega)
    rw [r 2 (by decide), r 3 (by decide), r 4 (by decide), r 5 (by decide), r 6 (by decide), r 7 (by decide), g, g, g, g, g, g, g]
    exact K.tr t (by omega)
  have f21 : ∀ t k : Nat, t < N1 3 → (k : Int) < S' 60 0 (17 * t + 7) → C1 16 (t + 1) k = S' 60 0 (17 * t + 8 + 3 * k) ∧ C1 17 (t + 1) k = S' 60 0 (17 * t + 8 + 3 * k + 1) ∧ C1 18 (t + 1) k = S' 60 0 (17 * t + 8 + 3 * k + 2) := fun t k ht hk => by
    by_cases z : t = n
    · rw [z] at hk ⊢; exact htc k hk
    rw [s 60 (17 * t + 7) rfl (by omega)] at hk
    have tc := I.tc t (by omega)
    rw [s 60 (17 * t + 8 + 3 * k) rfl (by omega), s 60 (17 * t + 8 + 3 * k + 1) rfl (by omega), s 60 (17 * t + 8 + 3 * k + 2) rfl (by omega), c 16 (t + 1) k (by omega), c 17 (t + 1) k (by omega), c 18 (t + 1) k (by omega)]
    exact K.tc t k (by omega) hk
  have f22 : C1 19 0 2 = S' 38 0 24 ∧ ∀ i : Nat, (i : Int) < S' 38 0 24 → C1 20 0 i = S' 63 0 i := by
    rw [s 38 24 rfl (by omega), c 19 0 2 (by omega)]
    refine ⟨K.tx.1, fun i hi => ?_⟩
    rw [s 63 i rfl (by omega), c 20 0 i (by omega)]
    exact K.tx.2 i hi
  unfold KS KS0
  exact ⟨f1, f2, f3, f4, f5, f6, f7, f8, f9, f10, f11, f12, f13, f14, f15, f16, f17, f18, f19, f20, f21, f22⟩
end KA
