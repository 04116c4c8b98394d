/-! ===== the coupling after a child was added ===== -/
section KCH
variable {N N1 zz zz1 : Nat → Nat} {S S' C C1 : dC} {P P1 : dP} {n a1 i0 : Nat} {q : Nat × Nat}
theorem KS.ach {ln nd k pl : Nat} {pp : Int} {A A1 : dA} (K : KS S N zz C P) (I : SI S) (hln : (ln : Int) < S 38 0 14) (hk : S 51 0 ln = (k : Int)) (h5 : k < 5) (np : ∀ q : Nat, q < k → S 53 0 (5 * ln + q) ≠ pp) (G : CAd ln nd k pl pp A N zz C P A1 N1 zz1 C1 P1 a1) (s51 : S' 51 0 ln = (k : Int) + 1) (s52 : S' 52 0 (5 * ln + k) = (nd : Int)) (s53 : S' 53 0 (5 * ln + k) = pp) (s : ∀ j f : Nat, sta j f = true → ¬ (j = 51 ∧ f = ln ∨ (j = 52 ∨ j = 53) ∧ f = 5 * ln + k) → S' j 0 f = S j 0 f) : KS S' N1 zz1 C1 P1 := by
  have n0 := K.nn
  have sz := K.sz
  obtain ⟨g1, fN, c, p, L, g6, g7, g8, g9, g10, g11, g12⟩ := G
  have e0 : N1 0 = N 0 := fN 0 (by decide)
  have e1 : N1 1 = N 1 := fN 1 (by decide)
  have e2 : N1 2 = N 2 := fN 2 (by decide)
  have e3 : N1 3 = N 3 := fN 3 (by decide)
  have i1 := I.nn
  obtain ⟨lar, laa, lo⟩ := K.lst (i0 := ln + 5) (by omega) L (fun i hi hz => ⟨p 6 i 1 (by omega), c 6 i 2 (by omega)⟩) (fun a f hz => p 7 a f (by omega))
  have L6 := L.1
  have L7 := L.2.2.1
  have f1 : C1 4 0 1 = S' 38 0 3 := by rw [s 38 3 rfl (by omega), c 4 0 1 (by omega)]; exact K.np
  have f2 : ∀ x : Nat, (x : Int) < S' 38 0 3 → C1 5 0 x = S' 42 0 x := fun x hx => by
    rw [s 38 3 rfl (by omega)] at hx
    rw [s 42 x rfl (by omega), c 5 0 x (by omega)]
    exact K.kd x hx
  have f3 : C1 4 0 6 = S' 38 0 22 := by rw [s 38 22 rfl (by omega), c 4 0 6 (by omega)]; exact K.th
  have f4 : C1 6 0 2 = S' 38 0 8 ∧ C1 6 1 2 = S' 38 0 14 ∧ C1 6 2 2 = S' 38 0 19 ∧ C1 6 3 2 = S' 38 0 21 := ⟨by rw [s 38 8 rfl (by omega), c 6 0 2 (by omega)]; exact sz.1, by rw [s 38 14 rfl (by omega), c 6 1 2 (by omega)]; exact sz.2.1, by rw [s 38 19 rfl (by omega), c 6 2 2 (by omega)]; exact sz.2.2.1, by rw [s 38 21 rfl (by omega), c 6 3 2 (by omega)]; exact sz.2.2.2⟩
  have f5 : ∀ m : Nat, m < N1 1 → C1 6 (m + 5) 2 = S' 51 0 m := fun m hm => by
    by_cases z : m = ln
    · rw [z, s51]; exact L6
    rw [s 51 m rfl (by omega), c 6 (m + 5) 2 (by omega)]
    exact K.szc m (by omega)
  have f6 : (N1 0 : Int) = S' 38 0 8 ∧ (N1 1 : Int) = S' 38 0 14 ∧ (N1 2 : Int) = S' 38 0 19 ∧ (N1 3 : Int) = S' 38 0 21 := ⟨by rw [s 38 8 rfl (by omega)]; omega, by rw [s 38 14 rfl (by omega)]; omega, by rw [s 38 19 rfl (by omega)]; omega, by rw [s 38 21 rfl (by omega)]; omega⟩
  have f7 : ∀ i : Nat, i < N1 1 + 5 → (C1 6 i 2 = 0 ∧ P1 6 i 1 = some (8, 0)) ∨ exN (fun a => P1 6 i 1 = some (7, a) ∧ a < N1 4 ∧ 0 ≤ C1 6 i 2 ∧ C1 6 i 2 ≤ zz1 a ∧ 0 < zz1 a ∧ zz1 a ≤ 40) := fun i hi => lar i (by omega)
  have f8 : ∀ i i' a : Nat, i < N1 1 + 5 → i' < N1 1 + 5 → P1 6 i 1 = some (7, a) → P1 6 i' 1 = some (7, a) → i = i' := fun i i' a hi hi' => laa i i' a (by omega) (by omega)
  have f9 : ∀ a m : Nat, P1 6 0 1 = some (7, a) → m < N1 0 → P1 7 a m = some (9, m + 1) := fun a m hp hm => by
    obtain ⟨q1, q2⟩ := lo 0 a m (by omega) (by omega) hp
    rw [q2]
    exact K.e0 a m q1 (by omega)
  have f10 : ∀ a m : Nat, P1 6 1 1 = some (7, a) → m < N1 1 → P1 7 a m = some (12, m + 1) := fun a m hp hm => by
    obtain ⟨q1, q2⟩ := lo 1 a m (by omega) (by omega) hp
    rw [q2]
    exact K.e1 a m q1 (by omega)
  have f11 : ∀ a m : Nat, P1 6 2 1 = some (7, a) → m < N1 2 → P1 7 a m = some (14, m + 1) := fun a m hp hm => by
    obtain ⟨q1, q2⟩ := lo 2 a m (by omega) (by omega) hp
    rw [q2]
    exact K.e2 a m q1 (by omega)
  have f12 : ∀ a m : Nat, P1 6 3 1 = some (7, a) → m < N1 3 → P1 7 a m = some (15, m + 1) := fun a m hp hm => by
    obtain ⟨q1, q2⟩ := lo 3 a m (by omega) (by omega) hp
    rw [q2]
    exact K.e3 a m q1 (by omega)
  have f13 : ∃ sg : Nat → Nat → Nat, ∀ m : Nat, m < N1 1 → (∀ i : Nat, (i : Int) < S' 51 0 m → ((sg m i : Nat) : Int) < S' 51 0 m ∧ (∀ a : Nat, P1 6 (m + 5) 1 = some (7, a) → P1 7 a i = some (12, (S' 52 0 (5 * m + sg m i)).toNat + 1)) ∧ C1 13 (m + 1) i = S' 53 0 (5 * m + sg m i)) ∧ (∀ k : Nat, (k : Int) < S' 51 0 m → ∃ i : Nat, (i : Int) < S' 51 0 m ∧ sg m i = k) := by
    obtain ⟨sg, h⟩ := K.ch
    obtain ⟨o1, o2⟩ := h ln (by omega)
    obtain ⟨sg', hA, hB⟩ : ∃ sg' : Nat → Nat → Nat, (∀ i, sg' ln i = if i < pl then sg ln i else if i = pl then k else sg ln (i - 1)) ∧ (∀ m i, m ≠ ln → sg' m i = sg m i) := ⟨fun m i => if m = ln then (if i < pl then sg ln i else if i = pl then k else sg ln (i - 1)) else sg m i, fun i => if_pos rfl, fun m i z => if_neg z⟩
    refine ⟨sg', fun m hm => ?_⟩
    by_cases z : m = ln
    · rw [z, s51]
      have sl : ∀ q : Nat, q < k → S' 52 0 (5 * ln + q) = S 52 0 (5 * ln + q) ∧ S' 53 0 (5 * ln + q) = S 53 0 (5 * ln + q) := fun q hq => ⟨s 52 _ rfl (by omega), s 53 _ rfl (by omega)⟩
      have pa : ∀ a : Nat, P1 6 (ln + 5) 1 = some (7, a) → a = a1 := fun a hp => by rw [L.2.1] at hp; cases hp; rfl
      have pb : 0 < k → ∃ b, P 6 (ln + 5) 1 = some (7, b) := fun hk0 => by
        have sc := K.szc ln (by omega)
        rcases K.ar (ln + 5) (by omega) with q | q
        · omega
        · obtain ⟨b, q1, _⟩ := q
          exact ⟨b, q1⟩
      refine ⟨fun i hi => ?_, fun kk hkk => ?_⟩
      · have w9 := g9 i (by omega)
        rw [hA, w9]
        unfold insF
        by_cases y : i < pl
        · rw [if_pos y, if_pos y]
          obtain ⟨q1, q2, q3⟩ := o1 i (by omega)
          have q4 := sl (sg ln i) (by omega)
          rw [q4.1, q4.2]
          refine ⟨by omega, fun a hp => ?_, q3⟩
          obtain ⟨b, hb⟩ := pb (by omega)
          rw [pa a hp, g11 b i hb y]
          exact q2 b hb
        · rw [if_neg y, if_neg y]
          by_cases x : i = pl
          · rw [if_pos x, if_pos x, s52, s53, x]
            refine ⟨by omega, fun a hp => ?_, rfl⟩
            rw [pa a hp]
            exact g10
          · rw [if_neg x, if_neg x]
            obtain ⟨q1, q2, q3⟩ := o1 (i - 1) (by omega)
            have q4 := sl (sg ln (i - 1)) (by omega)
            rw [q4.1, q4.2]
            refine ⟨by omega, fun a hp => ?_, q3⟩
            obtain ⟨b, hb⟩ := pb (by omega)
            have q5 := g12 b (i - 1) hb (by omega) (by omega)
            rw [show i - 1 + 1 = i by omega] at q5
            rw [pa a hp, q5]
            exact q2 b hb
      · by_cases y : kk = k
        · exact ⟨pl, by omega, by rw [hA, if_neg (by omega), if_pos rfl]; exact y.symm⟩
        · obtain ⟨i', q1, q2⟩ := o2 kk (by omega)
          by_cases x : i' < pl
          · exact ⟨i', by omega, by rw [hA, if_pos x]; exact q2⟩
          · exact ⟨i' + 1, by omega, by rw [hA, if_neg (by omega), if_neg (by omega)]; exact q2⟩
    · obtain ⟨h1, h2⟩ := h m (by omega)
      have cm := I.cm m (by omega)
      rw [s 51 m rfl (by omega)]
      have hB' := fun i => hB m i z
      simp only [hB']
      refine ⟨fun i hi => ?_, h2⟩
      obtain ⟨q1, q2, q3⟩ := h1 i hi
      rw [s 53 _ rfl (by omega), s 52 _ rfl (by omega), c 13 (m + 1) i (by omega)]
      refine ⟨q1, fun a hp => ?_, q3⟩
      obtain ⟨p1, p2⟩ := lo (m + 5) a i (by omega) (by omega) hp
      rw [p2]
      exact q2 a p1
  have f14 : ∀ m i : Nat, m < N1 1 → (i : Int) + 1 < S' 51 0 m → C1 13 (m + 1) i < C1 13 (m + 1) (i + 1) := fun m i hm hi => by
    by_cases z : m = ln
    · rw [z, s51] at hi
      rw [z, g9 i (by omega), g9 (i + 1) (by omega)]
      unfold insF
      obtain ⟨sg, h⟩ := K.ch
      obtain ⟨o1, o2⟩ := h ln (by omega)
      by_cases y : i + 1 < pl
      · rw [if_pos (by omega), if_pos y]
        exact K.so ln i (by omega) (by omega)
      · by_cases x : i + 1 = pl
        · rw [if_pos (by omega), if_neg y, if_pos x]
          have q7 := g7 (by omega)
          rw [show pl - 1 = i by omega] at q7
          have q3 := o1 i (by omega)
          have q9 := np (sg ln i) (by omega)
          have q5 := q3.2.2
          omega
        · by_cases w : i = pl
          · rw [if_neg (by omega), if_pos w, if_neg (by omega), if_neg (by omega), show i + 1 - 1 = pl by omega]
            exact g8 (by omega)
          · rw [if_neg (by omega), if_neg w, if_neg (by omega), if_neg (by omega)]
            have q := K.so ln (i - 1) (by omega) (by omega)
            rw [show i - 1 + 1 = i by omega] at q
            rw [show i + 1 - 1 = i by omega]
            exact q
    · rw [s 51 m rfl (by omega)] at hi
      rw [c 13 (m + 1) i (by omega), c 13 (m + 1) (i + 1) (by omega)]
      exact K.so m i (by omega) hi
  have f15 : ∀ m : Nat, m < N1 1 → (S' 49 0 m = -1 → P1 12 (m + 1) 0 = none ∧ C1 12 (m + 1) 1 = S' 50 0 m) ∧ (S' 49 0 m ≠ -1 → P1 12 (m + 1) 0 = some (9, (S' 49 0 m).toNat + 1)) := fun m hm => by
    skip
    rw [s 49 m rfl (by omega), s 50 m rfl (by omega), c 12 (m + 1) 1 (by omega), p 12 (m + 1) 0 (by omega)]
    exact K.nd m (by omega)
  have f16 : ∀ x : Nat, x < N1 0 → C1 9 (x + 1) 0 = (x : Int) ∧ C1 9 (x + 1) 1 = S' 44 0 x ∧ C1 9 (x + 1) 4 = S' 45 0 x := fun x hx => by
    rw [s 44 x rfl (by omega), s 45 x rfl (by omega), c 9 (x + 1) 0 (by omega), c 9 (x + 1) 1 (by omega), c 9 (x + 1) 4 (by omega)]
    exact K.cl x (by omega)
  have f17 : ∀ x k : Nat, x < N1 0 → (k : Int) < S' 45 0 x → C1 10 (x + 1) k = S' 46 0 (5 * x + k) ∧ C1 11 (x + 1) k = S' 47 0 (5 * x + k) := fun x k hx hk => by
    rw [s 45 x rfl (by omega)] at hk
    rw [s 46 _ rfl (by omega), s 47 _ rfl (by omega), c 10 (x + 1) k (by omega), c 11 (x + 1) k (by omega)]
    exact K.ce x k (by omega) hk
  have f18 : ∀ m : Nat, m < N1 2 → C1 14 (m + 1) 0 = (m : Int) ∧ P1 14 (m + 1) 1 = some (12, (S' 55 0 m).toNat + 1) ∧ C1 14 (m + 1) 2 = S' 56 0 m ∧ C1 14 (m + 1) 3 = S' 57 0 m ∧ C1 14 (m + 1) 4 = S' 58 0 m := fun m hm => by
    skip
    rw [s 55 m rfl (by omega), s 56 m rfl (by omega), s 57 m rfl (by omega), s 58 m rfl (by omega), p 14 (m + 1) 1 (by omega), c 14 (m + 1) 0 (by omega), c 14 (m + 1) 2 (by omega), c 14 (m + 1) 3 (by omega), c 14 (m + 1) 4 (by omega)]
    exact K.st m (by omega)
  have f19 : ∀ t : Nat, t < N1 3 → P1 15 (t + 1) 1 = (if S' 60 0 (17 * t) = -1 then none else some (14, (S' 60 0 (17 * t)).toNat + 1)) ∧ P1 15 (t + 1) 2 = some (14, (S' 60 0 (17 * t + 1)).toNat + 1) := fun t ht => by
    skip
    rw [s 60 (17 * t) rfl (by omega), s 60 (17 * t + 1) rfl (by omega), p 15 (t + 1) 1 (by omega), p 15 (t + 1) 2 (by omega)]
    exact K.tf t (by omega)
  have f20 : ∀ t : Nat, t < N1 3 → C1 15 (t + 1) 0 = (t : Int) ∧ C1 15 (t + 1) 3 = S' 60 0 (17 * t + 2) ∧ C1 15 (t + 1) 4 = S' 60 0 (17 * t + 3) ∧ C1 15 (t + 1) 5 = S' 60 0 (17 * t + 4) ∧ C1 15 (t + 1) 6 = S' 60 0 (17 * t + 5) ∧ C1 15 (t + 1) 7 = S' 60 0 (17 * t + 6) ∧ C1 15 (t + 1) 11 = S' 60 0 (17 * t + 7) := fun t ht => by
    skip
    have g := fun f => c 15 (t + 1) f (by omega)
    have r := fun f (hf : f < 17) => s 60 (17 * t + f) rfl (by omega)
    rw [r 2 (by decide), r 3 (by decide), r 4 (by decide), r 5 (by decide), r 6 (by decide), r 7 (by decide), g, g, g, g, g, g, g]
    exact K.tr t (by omega)
  have f21 : ∀ t k : Nat, t < N1 3 → (k : Int) < S' 60 0 (17 * t + 7) → C1 16 (t + 1) k = S' 60 0 (17 * t + 8 + 3 * k) ∧ C1 17 (t + 1) k = S' 60 0 (17 * t + 8 + 3 * k + 1) ∧ C1 18 (t + 1) k = S' 60 0 (17 * t + 8 + 3 * k + 2) := fun t k ht hk => by
    skip
    rw [s 60 (17 * t + 7) rfl (by omega)] at hk
    have tc := I.tc t (by omega)
    rw [s 60 (17 * t + 8 + 3 * k) rfl (by omega), s 60 (17 * t + 8 + 3 * k + 1) rfl (by omega), s 60 (17 * t + 8 + 3 * k + 2) rfl (by omega), c 16 (t + 1) k (by omega), c 17 (t + 1) k (by omega), c 18 (t + 1) k (by omega)]
    exact K.tc t k (by omega) hk
  have f22 : C1 19 0 2 = S' 38 0 24 ∧ ∀ i : Nat, (i : Int) < S' 38 0 24 → C1 20 0 i = S' 63 0 i := by
    rw [s 38 24 rfl (by omega), c 19 0 2 (by omega)]
    refine ⟨K.tx.1, fun i hi => ?_⟩
    rw [s 63 i rfl (by omega), c 20 0 i (by omega)]
    exact K.tx.2 i hi
  unfold KS KS0
  exact ⟨f1, f2, f3, f4, f5, f6, f7, f8, f9, f10, f11, f12, f13, f14, f15, f16, f17, f18, f19, f20, f21, f22⟩
end KCH
