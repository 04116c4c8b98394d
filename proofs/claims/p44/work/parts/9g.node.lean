/-! ===== a new node ===== -/
section ND
variable {h : gH} {A : dA} {act : Nat → Nat → Prop} {N zz : Nat → Nat} {S C : dC} {P : dP} {t0 : Nat}
theorem cell_node (A1 : dA) (n : Nat) : dCell A1 n 12 (fun _ => 0) (fun _ => none) (.inr (8, [.null, .int 0, .null, .null, .int 0])) := by
  refine ⟨_, rfl, rfl, fun f k hk => ?_⟩
  rcases f with _ | _ | _ | _ | _ | f
  · cases hk; exact ⟨_, rfl, rfl⟩
  · cases hk; exact ⟨_, rfl, 0, rfl, by decide⟩
  · cases hk; exact ⟨_, rfl, rfl⟩
  · cases hk; exact ⟨_, rfl, rfl⟩
  · cases hk; exact ⟨_, rfl, 0, rfl, by decide⟩
  · cases hk
theorem cell_list (A1 : dA) (n : Nat) : dCell A1 n 6 (fun _ => 0) (fun _ => none) (.inr (2, [.int 0, .null, .int 0])) := by
  refine ⟨_, rfl, rfl, fun f k hk => ?_⟩
  rcases f with _ | _ | _ | f
  · cases hk; exact ⟨_, rfl, 0, rfl, by decide⟩
  · cases hk; exact ⟨_, rfl, rfl⟩
  · cases hk; exact ⟨_, rfl, 0, rfl, by decide⟩
  · cases hk
theorem ac_node (N : Nat → Nat) (j i : Nat) : ac (upN N 1) j i ↔ (((ac N j i ∨ (j = 12 ∧ i = N 1 + 1)) ∨ (j = 6 ∧ i = N 1 + 5)) ∨ (j = 13 ∧ i = N 1 + 1)) := by
  have e0 : upN N 1 1 = N 1 + 1 := rfl
  by_cases z : j = 12 ∨ j = 6 ∨ j = 13
  · rcases z with rfl | rfl | rfl
    · show i < upN N 1 1 + 1 ↔ (((i < N 1 + 1 ∨ _) ∨ _) ∨ _)
      rw [e0]; omega
    · show i < upN N 1 1 + 5 ↔ (((i < N 1 + 5 ∨ _) ∨ _) ∨ _)
      rw [e0]; omega
    · show i < upN N 1 1 + 1 ↔ (((i < N 1 + 1 ∨ _) ∨ _) ∨ _)
      rw [e0]; omega
  · have e : ac (upN N 1) j i ↔ ac N j i := by
      unfold ac
      split <;> first | exact Iff.rfl | (exfalso; omega)
    rw [e]
    refine ⟨fun a => Or.inl (Or.inl (Or.inl a)), fun a => ?_⟩
    rcases a with ((y | y) | y) | y
    · exact y
    · exact absurd (Or.inl y.1) z
    · exact absurd (Or.inr (Or.inl y.1)) z
    · exact absurd (Or.inr (Or.inr y.1)) z
/-- a new object, its fields not yet set -/
theorem c_newO {K : Nat → gH → Prop} {c0 : va_E} (J I : Nat) (R : D h A N zz C P) (hn : ¬ ac N J I) (he : ∀ A1 : dA, dCell A1 (dN zz J I) J (fun _ => 0) (fun _ => none) c0) (k0 : ∀ (A1 : dA) (h1 : gH), (∀ j i, ac N j i → A1 j i = A j i) → D h1 A1 N zz (zC C J I) (nP P J I) → HR h1 A1 (fun j i => ac N j i ∨ (j = J ∧ i = I)) zz (zC C J I) (nP P J I) → K (A1 J I) h1) : nw h c0 K := by
  have off : ∀ j i, ac N j i → ¬ (j = J ∧ i = I) := fun j i a z => hn (by rw [← z.1, ← z.2]; exact a)
  refine hnw0 J I R.1 hn he (fun A1 h1 e R1 => k0 A1 h1 (fun j i a => e j i (off j i a)) ⟨?_, ?_⟩ R1)
  · refine R1.sub (fun j i a => Or.inl a) (fun j i f q a hr hp => ?_)
    rw [nP_off P (off j i a)] at hp
    exact R.1.2.2 j i f q a hr hp
  · intro j i f q a hs
    rw [nP_off P (off j i a)]
    exact R.2 j i f q a hs
theorem c_initNode {Qn : gH → Prop} {v2 : Int32} {b : Int} {o : Option (Nat × Nat)} (hA : Sp (ac N) P) (ht : A 8 0 = t0) (hf : ∀ j i, ac N j i → ¬ (((j = 12 ∨ j = 13) ∧ i = N 1 + 1) ∨ (j = 6 ∧ i = N 1 + 5))) (R : HR h A (fun j i => ac N j i ∨ (j = 12 ∧ i = N 1 + 1)) zz C P) (ho : ∀ q, o = some q → ac N q.1 q.2) (h2 : v2.toInt = b) (k0 : ∀ (A1 : dA) (h' : gH) (C1 : dC) (P1 : dP), (∀ j i, ¬ ((j = 6 ∧ i = N 1 + 5) ∨ (j = 13 ∧ i = N 1 + 1)) → A1 j i = A j i) → D h' A1 (upN N 1) zz C1 P1 → (∀ j i f : Nat, ¬ ((j = 12 ∨ j = 13) ∧ i = N 1 + 1) → ¬ (j = 6 ∧ i = N 1 + 5) → C1 j i f = C j i f) → (∀ j i f : Nat, ¬ ((j = 12 ∨ j = 13) ∧ i = N 1 + 1) → ¬ (j = 6 ∧ i = N 1 + 5) → P1 j i f = P j i f) → P1 12 (N 1 + 1) 0 = o → C1 12 (N 1 + 1) 1 = b → C1 12 (N 1 + 1) 4 = 1 → C1 6 (N 1 + 5) 2 = 0 → P1 6 (N 1 + 5) 1 = some (8, 0) → Qn h') : vX5_init t0 Qn h (A 12 (N 1 + 1)) (o.map (dad A)) v2 := by
  have a8 : ac N 8 0 := ⟨Nat.one_pos, by decide⟩
  unfold vX5_init
  have hIL : N 1 + 5 = (N 1 + 1) + 4 := rfl
  generalize hL : N 1 + 5 = L at *
  generalize hI : N 1 + 1 = I at *
  refine hnw0 6 L R (fun z => z.elim (fun y => hf _ _ y (Or.inr ⟨rfl, rfl⟩)) (fun y => by omega)) (fun A1 => cell_list A1 _) (fun A1 h2' e1 R1 => ?_)
  unfold vJx4a65c_init_da8c8 vJxc12de_init_da8c8 vJxa1e45_init_da8c8
  have om : ∀ (A2 : dA), (∀ j i, ac N j i → A2 j i = A j i) → o.map (dad A2) = o.map (dad A) := fun A2 eA => by
    cases o with
    | none => rfl
    | some q => show some (A2 q.1 q.2) = some (A q.1 q.2); rw [eA q.1 q.2 (ho q rfl)]
  have e1' : ∀ j i, ac N j i → A1 j i = A j i := fun j i a => e1 j i (fun z => hf j i a (Or.inr z))
  rw [← e1 12 I (by omega), ← om A1 e1']
  have a6 : (ac N 6 L ∨ (6 = 12 ∧ L = I)) ∨ (6 = 6 ∧ L = L) := Or.inr ⟨rfl, rfl⟩
  refine R1.pvI (j := 6) (i := L) (f := 0) a6 rfl rfl (vl (by decide) : (0 : Int32).toInt = 0) (fun h3 R3 => ?_)
  have q8 : va_rf ((some (8, 0)).map (dad A1)) = .ref t0 := by
    show Value.ref (A1 8 0) = .ref t0
    rw [e1' 8 0 a8, ht]
  rw [← q8]
  refine R3.pvQ (j := 6) (i := L) (f := 1) (o := some (8, 0)) a6 rfl rfl (fun q hq => by cases hq; exact Or.inl (Or.inl a8)) (fun h4 R4 => ?_)
  have q1 : va_rf ((some (6, L)).map (dad A1)) = .ref (A1 6 L) := rfl
  rw [← q1]
  refine R4.pvQ (j := 12) (i := I) (f := 2) (o := some (6, L)) (Or.inl (Or.inr ⟨rfl, rfl⟩)) rfl rfl (fun q hq => by cases hq; exact a6) (fun h5 R5 => ?_)
  refine hnw0 13 I R5 (fun z => z.elim (fun y => y.elim (fun y => hf _ _ y (Or.inl ⟨Or.inr rfl, rfl⟩)) (fun y => by omega)) (fun y => by omega)) (fun A1 => cell_i5 A1 _ rfl (Or.inr (Or.inr rfl))) (fun A2 h6 e2 R6 => ?_)
  have e2' : ∀ j i, ac N j i → A2 j i = A j i := fun j i a => (e2 j i (fun z => hf j i a (Or.inl ⟨Or.inr z.1, z.2⟩))).trans (e1' j i a)
  rw [← e2 12 I (by omega), om A1 e1', ← om A2 e2']
  have q2 : va_rf ((some (13, I)).map (dad A2)) = .ref (A2 13 I) := rfl
  rw [← q2]
  have a12 : ((ac N 12 I ∨ (12 = 12 ∧ I = I)) ∨ (12 = 6 ∧ I = L)) ∨ (12 = 13 ∧ I = I) := Or.inl (Or.inl (Or.inr ⟨rfl, rfl⟩))
  refine R6.pvQ (j := 12) (i := I) (f := 3) (o := some (13, I)) a12 rfl rfl (fun q hq => by cases hq; exact Or.inr ⟨rfl, rfl⟩) (fun h7 R7 => ?_)
  refine R7.pvI (j := 12) (i := I) (f := 4) a12 rfl rfl (vl (by decide) : (1 : Int32).toInt = 1) (fun h8 R8 => ?_)
  refine R8.pvQ (j := 12) (i := I) (f := 0) (o := o) a12 rfl rfl (fun q hq => Or.inl (Or.inl (Or.inl (ho q hq)))) (fun h9 R9 => ?_)
  refine R9.pvI (j := 12) (i := I) (f := 1) a12 rfl rfl h2 (fun h10 R10 => ?_)
  have ai := ac_node N
  rw [hI, hL] at ai
  refine k0 A2 h10 _ _ (fun j i hj => (e2 j i (by omega)).trans (e1 j i (by omega))) ⟨R10.sub (fun j i => (ai j i).mp) (fun j i f q a hr hp => (ai _ _).mpr (R10.2.2 j i f q ((ai j i).mp a) hr hp)), fun j i f q a hs => ?_⟩ (fun j i f hj hk => ?_) (fun j i f hj hk => ?_) (up3_same _ _ _ _ _) (up3_same _ _ _ _ _) ?_ ?_ ?_
  · by_cases hj : j = 12 ∧ i = I
    · obtain ⟨rfl, rfl⟩ := hj
      by_cases f2 : f = 2
      · subst f2
        have : q = (6, i + 4) := (Option.some.inj hs).symm
        rw [this, up3_ne _ _ (by omega), up3_ne _ _ (by omega), nP_off _ (by omega), up3_same]
        exact congrArg (fun x => some (6, x)) (by omega)
      · by_cases f3 : f = 3
        · subst f3
          have : q = (13, i) := (Option.some.inj hs).symm
          rw [this, up3_ne _ _ (by omega), up3_same]
        · exfalso
          rcases f with _ | _ | _ | _ | f
          · cases hs
          · cases hs
          · exact f2 rfl
          · exact f3 rfl
          · cases hs
    · by_cases h6 : j = 6 ∧ i = L
      · rw [h6.1] at hs; cases hs
      · by_cases h13 : j = 13 ∧ i = I
        · rw [h13.1] at hs; cases hs
        · have : ac N j i := by
            rcases (ai j i).mp a with ((y | y) | y) | y
            · exact y
            · exact absurd y hj
            · exact absurd y h6
            · exact absurd y h13
          have q9 := hA j i f q this hs
          rw [up3_ne _ _ (by omega), up3_ne _ _ (by omega), nP_off _ (by omega), up3_ne _ _ (by omega), up3_ne _ _ (by omega), nP_off _ (by omega)]
          exact q9
  · rw [up3_ne _ _ (by omega), up3_ne _ _ (by omega), zC_off _ (by omega), up3_ne _ _ (by omega), zC_off _ (by omega)]
  · rw [up3_ne _ _ (by omega), up3_ne _ _ (by omega), nP_off _ (by omega), up3_ne _ _ (by omega), up3_ne _ _ (by omega), nP_off _ (by omega)]
  · rw [up3_ne _ _ (by omega), up3_same]
  · rw [up3_ne _ _ (by omega), up3_ne _ _ (by omega), zC_off _ (by omega), up3_ne _ _ (by omega), zC_on]
  · rw [up3_ne _ _ (by omega), up3_ne _ _ (by omega), nP_off _ (by omega), up3_ne _ _ (by omega), up3_same]
end ND
