/-! ===== a new state ===== -/
section ST2
variable {h : gH} {A : dA} {N zz : Nat → Nat} {S C : dC} {P : dP} {t0 : Nat}
theorem cell_state (A1 : dA) (n : Nat) : dCell A1 n 14 (fun _ => 0) (fun _ => none) (.inr (10, [.int 0, .null, .int 0, .int 0, .int 0])) := by
  refine ⟨_, rfl, rfl, fun f k hk => ?_⟩
  rcases f with _ | _ | _ | _ | _ | f
  · cases hk; exact ⟨_, rfl, 0, rfl, by decide⟩
  · cases hk; exact ⟨_, rfl, rfl⟩
  · cases hk; exact ⟨_, rfl, 0, rfl, by decide⟩
  · cases hk; exact ⟨_, rfl, 0, rfl, by decide⟩
  · cases hk; exact ⟨_, rfl, 0, rfl, by decide⟩
  · cases hk
theorem cell_trans (A1 : dA) (n : Nat) : dCell A1 n 15 (fun _ => 0) (fun _ => none) (.inr (12, [.int 0, .null, .null, .int 0, .int 0, .int 0, .int 0, .int 0, .null, .null, .null, .int 0])) := by
  refine ⟨_, rfl, rfl, fun f k hk => ?_⟩
  rcases f with _ | _ | _ | _ | _ | _ | _ | _ | _ | _ | _ | _ | f <;> first | (cases hk; exact ⟨_, rfl, rfl⟩) | (cases hk; exact ⟨_, rfl, 0, rfl, by decide⟩) | cases hk
theorem cell_i3 (A1 : dA) (n : Nat) (hn : n = 3) {J : Nat} (hJ : J = 16 ∨ J = 17 ∨ J = 18) : dCell A1 n J (fun _ => 0) (fun _ => none) (.inl (0, 3, .inl (fun _ => 0))) := by
  subst hn
  rcases hJ with rfl | rfl | rfl <;> exact ⟨_, rfl, fun _ => (by decide : (0 : Int32).toInt = 0)⟩
theorem ac_state (N : Nat → Nat) (j i : Nat) : ac (upN N 2) j i ↔ (ac N j i ∨ (j = 14 ∧ i = N 2 + 1)) := by
  have e0 : upN N 2 2 = N 2 + 1 := rfl
  by_cases z : j = 14
  · subst z
    show i < upN N 2 2 + 1 ↔ (i < N 2 + 1 ∨ _)
    rw [e0]; omega
  · have e : ac (upN N 2) j i ↔ ac N j i := by
      unfold ac
      split <;> first | exact Iff.rfl | (exfalso; omega)
    rw [e]
    exact ⟨Or.inl, fun a => a.elim id (fun y => absurd y.1 z)⟩
theorem ac_trans (N : Nat → Nat) (j i : Nat) : ac (upN N 3) j i ↔ ((((ac N j i ∨ (j = 15 ∧ i = N 3 + 1)) ∨ (j = 16 ∧ i = N 3 + 1)) ∨ (j = 17 ∧ i = N 3 + 1)) ∨ (j = 18 ∧ i = N 3 + 1)) := by
  have e0 : upN N 3 3 = N 3 + 1 := rfl
  by_cases z : j = 15 ∨ j = 16 ∨ j = 17 ∨ j = 18
  · rcases z with rfl | rfl | rfl | rfl
    all_goals
      show i < upN N 3 3 + 1 ↔ ((((i < N 3 + 1 ∨ _) ∨ _) ∨ _) ∨ _)
      rw [e0]; omega
  · have e : ac (upN N 3) j i ↔ ac N j i := by
      unfold ac
      split <;> first | exact Iff.rfl | (exfalso; omega)
    rw [e]
    refine ⟨fun a => Or.inl (Or.inl (Or.inl (Or.inl a))), fun a => ?_⟩
    rcases a with (((y | y) | y) | y) | y
    · exact y
    · exact absurd (Or.inl y.1) z
    · exact absurd (Or.inr (Or.inl y.1)) z
    · exact absurd (Or.inr (Or.inr (Or.inl y.1))) z
    · exact absurd (Or.inr (Or.inr (Or.inr y.1))) z
theorem c_initState {Qn : gH → Prop} {v1 v3 v4 v5 : Int32} {a b c d : Int} {m : Nat} (hA : Sp (ac N) P) (hf : ∀ j i, ac N j i → ¬ (j = 14 ∧ i = N 2 + 1)) (R : HR h A (fun j i => ac N j i ∨ (j = 14 ∧ i = N 2 + 1)) zz C P) (hm : ac N 12 m) (h1 : v1.toInt = a) (h3 : v3.toInt = b) (h4 : v4.toInt = c) (hc : c = 0 ∨ c = 1) (h5 : v5.toInt = d) (k0 : ∀ (h' : gH) (C1 : dC) (P1 : dP), D h' A (upN N 2) zz C1 P1 → (∀ j i f : Nat, ¬ (j = 14 ∧ i = N 2 + 1) → C1 j i f = C j i f) → (∀ j i f : Nat, ¬ (j = 14 ∧ i = N 2 + 1) → P1 j i f = P j i f) → (C1 14 (N 2 + 1) 0 = a ∧ P1 14 (N 2 + 1) 1 = some (12, m) ∧ C1 14 (N 2 + 1) 2 = b ∧ C1 14 (N 2 + 1) 3 = c ∧ C1 14 (N 2 + 1) 4 = d) → Qn h') : vX7_init t0 Qn h (A 14 (N 2 + 1)) v1 (some (A 12 m)) v3 v4 v5 := by
  unfold vX7_init
  have ai := ac_state N
  generalize hI : N 2 + 1 = I at *
  have a14 : ac N 14 I ∨ (14 = 14 ∧ I = I) := Or.inr ⟨rfl, rfl⟩
  refine R.pvI (j := 14) (i := I) (f := 0) a14 rfl rfl h1 (fun h1' R1 => ?_)
  refine R1.pvQ (j := 14) (i := I) (f := 1) (o := some (12, m)) a14 rfl rfl (fun q hq => by cases hq; exact Or.inl hm) (fun h2 R2 => ?_)
  refine R2.pvI (j := 14) (i := I) (f := 2) a14 rfl rfl h3 (fun h3' R3 => ⟨gZ_of (by omega), ?_⟩)
  refine R3.pvI (j := 14) (i := I) (f := 3) a14 rfl rfl h4 (fun h4' R4 => R4.pvI (j := 14) (i := I) (f := 4) a14 rfl rfl h5 (fun h5' R5 => ?_))
  refine k0 h5' _ _ ⟨R5.sub (fun j i => (ai j i).mp) (fun j i f q a hr hp => (ai _ _).mpr (R5.2.2 j i f q ((ai j i).mp a) hr hp)), fun j i f q a hs => ?_⟩ (fun j i f hj => ?_) (fun j i f hj => up3_ne _ _ (by omega)) ⟨?_, up3_same _ _ _ _ _, ?_, ?_, up3_same _ _ _ _ _⟩
  · by_cases hj : j = 14 ∧ i = I
    · rw [hj.1] at hs; cases hs
    · have : ac N j i := ((ai j i).mp a).resolve_right hj
      rw [up3_ne _ _ (by omega)]
      exact hA j i f q this hs
  · rw [up3_ne _ _ (by omega), up3_ne _ _ (by omega), up3_ne _ _ (by omega), up3_ne _ _ (by omega)]
  · rw [up3_ne _ _ (by omega), up3_ne _ _ (by omega), up3_ne _ _ (by omega), up3_same]
  · rw [up3_ne _ _ (by omega), up3_ne _ _ (by omega), up3_same]
  · rw [up3_ne _ _ (by omega), up3_same]
end ST2
