/-! ===== a new transition ===== -/
section TR2
variable {h : gH} {A : dA} {N zz : Nat → Nat} {S C : dC} {P : dP} {t0 : Nat}
theorem c_initTrans {Qn : gH → Prop} {v1 : Int32} {a : Int} {m : Nat} (hA : Sp (ac N) P) (hf : ∀ j i, ac N j i → ¬ (15 ≤ j ∧ j ≤ 18 ∧ i = N 3 + 1)) (R : HR h A (fun j i => ac N j i ∨ (j = 15 ∧ i = N 3 + 1)) zz C P) (hm : ac N 14 m) (h1 : v1.toInt = a) (k0 : ∀ (A1 : dA) (h' : gH) (C1 : dC) (P1 : dP), (∀ j i, ¬ ((16 ≤ j ∧ j ≤ 18) ∧ i = N 3 + 1) → A1 j i = A j i) → D h' A1 (upN N 3) zz C1 P1 → (∀ j i f : Nat, ¬ (15 ≤ j ∧ j ≤ 18 ∧ i = N 3 + 1) → C1 j i f = C j i f) → (∀ j i f : Nat, ¬ (15 ≤ j ∧ j ≤ 18 ∧ i = N 3 + 1) → P1 j i f = P j i f) → C1 15 (N 3 + 1) 0 = a → Qn h') : vX9_init t0 Qn h (A 15 (N 3 + 1)) v1 (some (A 14 m)) := by
  unfold vX9_init
  have ai := ac_trans N
  generalize hI : N 3 + 1 = I at *
  refine R.pvI (j := 15) (i := I) (f := 4) (Or.inr ⟨rfl, rfl⟩) rfl rfl (show (-1 : Int32).toInt = -1 by decide) (fun h1' R1 => ?_)
  refine hnw0 16 I R1 (fun z => z.elim (fun y => hf _ _ y (by omega)) (fun y => by omega)) (fun A1 => cell_i3 A1 _ rfl (Or.inl rfl)) (fun A1 h2 e1 R2 => ?_)
  have m1 : A1 14 m = A 14 m := e1 14 m (by omega)
  rw [← e1 15 I (by omega), ← m1]
  have q1 : va_rf ((some (16, I)).map (dad A1)) = .ref (A1 16 I) := rfl
  rw [← q1]
  refine R2.pvQ (j := 15) (i := I) (f := 8) (o := some (16, I)) (Or.inl (Or.inr ⟨rfl, rfl⟩)) rfl rfl (fun q hq => by cases hq; exact Or.inr ⟨rfl, rfl⟩) (fun h3 R3 => ?_)
  refine hnw0 17 I R3 (fun z => z.elim (fun y => y.elim (fun y => hf _ _ y (by omega)) (fun y => by omega)) (fun y => by omega)) (fun A1 => cell_i3 A1 _ rfl (Or.inr (Or.inl rfl))) (fun A2 h4 e2 R4 => ?_)
  have m2 : A2 14 m = A1 14 m := e2 14 m (by omega)
  rw [← e2 15 I (by omega), ← m2]
  have q2 : va_rf ((some (17, I)).map (dad A2)) = .ref (A2 17 I) := rfl
  rw [← q2]
  refine R4.pvQ (j := 15) (i := I) (f := 9) (o := some (17, I)) (Or.inl (Or.inl (Or.inr ⟨rfl, rfl⟩))) rfl rfl (fun q hq => by cases hq; exact Or.inr ⟨rfl, rfl⟩) (fun h5 R5 => ?_)
  refine hnw0 18 I R5 (fun z => z.elim (fun y => y.elim (fun y => y.elim (fun y => hf _ _ y (by omega)) (fun y => by omega)) (fun y => by omega)) (fun y => by omega)) (fun A1 => cell_i3 A1 _ rfl (Or.inr (Or.inr rfl))) (fun A3 h6 e3 R6 => ?_)
  have m3 : A3 14 m = A2 14 m := e3 14 m (by omega)
  rw [← e3 15 I (by omega), ← m3]
  have q3 : va_rf ((some (18, I)).map (dad A3)) = .ref (A3 18 I) := rfl
  rw [← q3]
  have a15 : (((ac N 15 I ∨ (15 = 15 ∧ I = I)) ∨ (15 = 16 ∧ I = I)) ∨ (15 = 17 ∧ I = I)) ∨ (15 = 18 ∧ I = I) := Or.inl (Or.inl (Or.inl (Or.inr ⟨rfl, rfl⟩)))
  refine R6.pvQ (j := 15) (i := I) (f := 10) (o := some (18, I)) a15 rfl rfl (fun q hq => by cases hq; exact Or.inr ⟨rfl, rfl⟩) (fun h7 R7 => ?_)
  refine R7.pvI (j := 15) (i := I) (f := 0) a15 rfl rfl h1 (fun h8 R8 => ?_)
  refine R8.pvQ (j := 15) (i := I) (f := 2) (o := some (14, m)) a15 rfl rfl (fun q hq => by cases hq; exact Or.inl (Or.inl (Or.inl (Or.inl hm)))) (fun h9 R9 => ?_)
  refine k0 A3 h9 _ _ (fun j i hj => (e3 j i (by omega)).trans ((e2 j i (by omega)).trans (e1 j i (by omega)))) ⟨R9.sub (fun j i => (ai j i).mp) (fun j i f q a hr hp => (ai _ _).mpr (R9.2.2 j i f q ((ai j i).mp a) hr hp)), fun j i f q a hs => ?_⟩ (fun j i f hj => ?_) (fun j i f hj => ?_) (up3_same _ _ _ _ _)
  · by_cases hj : j = 15 ∧ i = I
    · obtain ⟨rfl, rfl⟩ := hj
      by_cases f8 : f = 8
      · subst f8
        have : q = (16, i) := (Option.some.inj hs).symm
        rw [this, up3_ne _ _ (by omega), up3_ne _ _ (by omega), nP_off _ (by omega), up3_ne _ _ (by omega), nP_off _ (by omega), up3_same]
      · by_cases f9 : f = 9
        · subst f9
          have : q = (17, i) := (Option.some.inj hs).symm
          rw [this, up3_ne _ _ (by omega), up3_ne _ _ (by omega), nP_off _ (by omega), up3_same]
        · by_cases f10 : f = 10
          · subst f10
            have : q = (18, i) := (Option.some.inj hs).symm
            rw [this, up3_ne _ _ (by omega), up3_same]
          · exfalso
            rcases f with _ | _ | _ | _ | _ | _ | _ | _ | _ | _ | _ | f <;> first | (cases hs; done) | omega
    · have : ac N j i ∨ (16 ≤ j ∧ j ≤ 18) := by
        rcases (ai j i).mp a with (((y | y) | y) | y) | y
        · exact Or.inl y
        · exact absurd y hj
        · exact Or.inr (by omega)
        · exact Or.inr (by omega)
        · exact Or.inr (by omega)
      rcases this with y | y
      · have nf := hf j i y
        have q9 := hA j i f q y hs
        rw [up3_ne _ _ (by omega), up3_ne _ _ (by omega), nP_off _ (by omega), up3_ne _ _ (by omega), nP_off _ (by omega), up3_ne _ _ (by omega), nP_off _ (by omega)]
        exact q9
      · have : j = 16 ∨ j = 17 ∨ j = 18 := by omega
        rcases this with rfl | rfl | rfl <;> cases hs
  · rw [up3_ne _ _ (by omega), zC_off _ (by omega), zC_off _ (by omega), zC_off _ (by omega), up3_ne _ _ (by omega)]
  · rw [up3_ne _ _ (by omega), up3_ne _ _ (by omega), nP_off _ (by omega), up3_ne _ _ (by omega), nP_off _ (by omega), up3_ne _ _ (by omega), nP_off _ (by omega)]
end TR2
