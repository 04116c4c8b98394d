/-! ===== new objects ===== -/
section NW
variable {h : gH} {A : dA} {act : Nat → Nat → Prop} {N zz : Nat → Nat} {S C : dC} {P : dP} {t0 : Nat}
def zC (C : dC) (J I : Nat) : dC := fun j i f => if j = J ∧ i = I then 0 else C j i f
def nP (P : dP) (J I : Nat) : dP := fun j i f => if j = J ∧ i = I then none else P j i f
theorem zC_on (C : dC) (J I : Nat) : zC C J I J I = fun _ => 0 := funext fun _ => if_pos ⟨rfl, rfl⟩
theorem zC_off (C : dC) {J I j i : Nat} (h : ¬ (j = J ∧ i = I)) : zC C J I j i = C j i := funext fun _ => if_neg h
theorem nP_on (P : dP) (J I : Nat) : nP P J I J I = fun _ => none := funext fun _ => if_pos ⟨rfl, rfl⟩
theorem nP_off (P : dP) {J I j i : Nat} (h : ¬ (j = J ∧ i = I)) : nP P J I j i = P j i := funext fun _ => if_neg h
theorem hnw0 {K : Nat → gH → Prop} {c0 : va_E} (J I : Nat) (R : HR h A act zz C P) (hn : ¬ act J I) (he : ∀ A1 : dA, dCell A1 (dN zz J I) J (fun _ => 0) (fun _ => none) c0) (k : ∀ (A1 : dA) (h' : gH), (∀ j i, ¬ (j = J ∧ i = I) → A1 j i = A j i) → HR h' A1 (fun j i => act j i ∨ (j = J ∧ i = I)) zz (zC C J I) (nP P J I) → K (A1 J I) h') : nw h c0 K :=
  HR.nw (C1 := zC C J I) (P1 := nP P J I) (zz1 := zz) J I R hn (fun A1 => by rw [zC_on, nP_on]; exact he A1) (fun _ _ _ => rfl) (fun j i hj => zC_off C hj) (fun j i hj => nP_off P hj) (fun f q hq => by rw [nP_on] at hq; cases hq) k
theorem cell_clip (A1 : dA) (n : Nat) : dCell A1 n 9 (fun _ => 0) (fun _ => none) (.inr (4, [.int 0, .int 0, .null, .null, .int 0])) := by
  refine ⟨_, rfl, rfl, fun f k hk => ?_⟩
  rcases f with _ | _ | _ | _ | _ | f
  · cases hk; exact ⟨_, rfl, 0, rfl, by decide⟩
  · cases hk; exact ⟨_, rfl, 0, rfl, by decide⟩
  · cases hk; exact ⟨_, rfl, rfl⟩
  · cases hk; exact ⟨_, rfl, rfl⟩
  · cases hk; exact ⟨_, rfl, 0, rfl, by decide⟩
  · cases hk
theorem cell_i5 (A1 : dA) (n : Nat) (hn : n = 5) {J : Nat} (hJ : J = 10 ∨ J = 11 ∨ J = 13) : dCell A1 n J (fun _ => 0) (fun _ => none) (.inl (0, 5, .inl (fun _ => 0))) := by
  subst hn
  rcases hJ with rfl | rfl | rfl <;> exact ⟨_, rfl, fun _ => (by decide : (0 : Int32).toInt = 0)⟩
def upN (N : Nat → Nat) (a : Nat) : Nat → Nat := fun x => if x = a then N a + 1 else N x
theorem ac_clip (N : Nat → Nat) (j i : Nat) : ac (upN N 0) j i ↔ (((ac N j i ∨ (j = 9 ∧ i = N 0 + 1)) ∨ (j = 10 ∧ i = N 0 + 1)) ∨ (j = 11 ∧ i = N 0 + 1)) := by
  have e0 : upN N 0 0 = N 0 + 1 := rfl
  by_cases z : j = 9 ∨ j = 10 ∨ j = 11
  · rcases z with rfl | rfl | rfl
    · show i < upN N 0 0 + 1 ↔ (((i < N 0 + 1 ∨ _) ∨ _) ∨ _)
      rw [e0]; omega
    · show i < upN N 0 0 + 1 ↔ (((i < N 0 + 1 ∨ _) ∨ _) ∨ _)
      rw [e0]; omega
    · show i < upN N 0 0 + 1 ↔ (((i < N 0 + 1 ∨ _) ∨ _) ∨ _)
      rw [e0]; omega
  · have e : ac (upN N 0) j i ↔ ac N j i := by
      unfold ac
      split <;> first | exact Iff.rfl | (exfalso; omega)
    rw [e]
    refine ⟨fun a => Or.inl (Or.inl (Or.inl a)), fun a => ?_⟩
    rcases a with ((y | y) | y) | y
    · exact y
    · exact absurd (Or.inl y.1) z
    · exact absurd (Or.inr (Or.inl y.1)) z
    · exact absurd (Or.inr (Or.inr y.1)) z
theorem c_newClip {K : Nat → gH → Prop} (R : D h A N zz C P) (k0 : ∀ (A1 : dA) (h1 : gH), (∀ j i, ac N j i → A1 j i = A j i) → D h1 A1 N zz (zC C 9 (N 0 + 1)) (nP P 9 (N 0 + 1)) → HR h1 A1 (fun j i => ac N j i ∨ (j = 9 ∧ i = N 0 + 1)) zz (zC C 9 (N 0 + 1)) (nP P 9 (N 0 + 1)) → K (A1 9 (N 0 + 1)) h1) : nw h (.inr (4, [.int 0, .int 0, .null, .null, .int 0])) K := by
  have n9 : ¬ ac N 9 (N 0 + 1) := fun z => by
    have z : N 0 + 1 < N 0 + 1 := z
    omega
  refine hnw0 9 (N 0 + 1) R.1 n9 (fun A1 => cell_clip A1 _) (fun A1 h1 e R1 => k0 A1 h1 (fun j i a => e j i (fun z => n9 (by rw [← z.1, ← z.2]; exact a))) ⟨?_, ?_⟩ R1)
  · refine R1.sub (fun j i a => Or.inl a) (fun j i f q a hr hp => ?_)
    have hj : ¬ (j = 9 ∧ i = N 0 + 1) := fun z => n9 (by rw [← z.1, ← z.2]; exact a)
    rw [nP_off P hj] at hp
    exact R.1.2.2 j i f q a hr hp
  · intro j i f q a hs
    have hj : ¬ (j = 9 ∧ i = N 0 + 1) := fun z => n9 (by rw [← z.1, ← z.2]; exact a)
    rw [nP_off P hj]
    exact R.2 j i f q a hs
theorem c_initClip {Qn : gH → Prop} {v1 v2 : Int32} {a b : Int} (hA : Sp (ac N) P) (hf : ∀ j i, ac N j i → ¬ (9 ≤ j ∧ j ≤ 11 ∧ i = N 0 + 1)) (R : HR h A (fun j i => ac N j i ∨ (j = 9 ∧ i = N 0 + 1)) zz C P) (h1 : v1.toInt = a) (h2 : v2.toInt = b) (h4 : C 9 (N 0 + 1) 4 = 0) (k0 : ∀ (A1 : dA) (h' : gH) (C1 : dC) (P1 : dP), (∀ j i, ¬ ((j = 10 ∨ j = 11) ∧ i = N 0 + 1) → A1 j i = A j i) → D h' A1 (upN N 0) zz C1 P1 → (∀ j i f : Nat, ¬ (9 ≤ j ∧ j ≤ 11 ∧ i = N 0 + 1) → C1 j i f = C j i f) → (∀ j i f : Nat, ¬ (9 ≤ j ∧ j ≤ 11 ∧ i = N 0 + 1) → P1 j i f = P j i f) → C1 9 (N 0 + 1) 0 = a → C1 9 (N 0 + 1) 1 = b → C1 9 (N 0 + 1) 4 = 0 → Qn h') : vX1_init t0 Qn h (A 9 (N 0 + 1)) v1 v2 := by
  unfold vX1_init
  generalize hI : N 0 + 1 = I at *
  refine hnw0 10 I R (fun z => z.elim (fun y => hf _ _ y (by omega)) (fun y => by omega)) (fun A1 => cell_i5 A1 _ rfl (Or.inl rfl)) (fun A1 h2' e1 R1 => ?_)
  rw [← e1 9 I (by omega)]
  have q1 : va_rf ((some (10, I)).map (dad A1)) = .ref (A1 10 I) := rfl
  rw [← q1]
  refine R1.pvQ (j := 9) (i := I) (f := 2) (o := some (10, I)) (Or.inl (Or.inr ⟨rfl, rfl⟩)) rfl rfl (fun q hq => by cases hq; exact Or.inr ⟨rfl, rfl⟩) (fun h3 R3 => ?_)
  refine hnw0 11 I R3 (fun z => z.elim (fun y => y.elim (fun y => hf _ _ y (by omega)) (fun y => by omega)) (fun y => by omega)) (fun A1 => cell_i5 A1 _ rfl (Or.inr (Or.inl rfl))) (fun A2 h5 e2 R5 => ?_)
  rw [← e2 9 I (by omega)]
  have q2 : va_rf ((some (11, I)).map (dad A2)) = .ref (A2 11 I) := rfl
  rw [← q2]
  have a9 : ((ac N 9 I ∨ (9 = 9 ∧ I = I)) ∨ (9 = 10 ∧ I = I)) ∨ (9 = 11 ∧ I = I) := Or.inl (Or.inl (Or.inr ⟨rfl, rfl⟩))
  refine R5.pvQ (j := 9) (i := I) (f := 3) (o := some (11, I)) a9 rfl rfl (fun q hq => by cases hq; exact Or.inr ⟨rfl, rfl⟩) (fun h6 R6 => ?_)
  refine R6.pvI (j := 9) (i := I) (f := 0) a9 rfl rfl h1 (fun h7 R7 => R7.pvI (j := 9) (i := I) (f := 1) a9 rfl rfl h2 (fun h8 R8 => ?_))
  have ai := ac_clip N
  rw [hI] at ai
  refine k0 A2 h8 _ _ (fun j i hj => (e2 j i (by omega)).trans (e1 j i (by omega))) ⟨R8.sub (fun j i => (ai j i).mp) (fun j i f q a hr hp => (ai _ _).mpr (R8.2.2 j i f q ((ai j i).mp a) hr hp)), fun j i f q a hs => ?_⟩ (fun j i f hj => ?_) (fun j i f hj => ?_) ?_ ?_ ?_
  · by_cases hj : 9 ≤ j ∧ j ≤ 11 ∧ i = I
    · obtain ⟨b1, b2, rfl⟩ := hj
      have : j = 9 ∨ j = 10 ∨ j = 11 := by omega
      rcases this with rfl | rfl | rfl
      · by_cases f2 : f = 2
        · subst f2
          have : q = (10, i) := (Option.some.inj hs).symm
          rw [this, up3_ne _ _ (by omega), nP_off _ (by omega), up3_same]
        · by_cases f3 : f = 3
          · subst f3
            have : q = (11, i) := (Option.some.inj hs).symm
            rw [this, up3_same]
          · exfalso
            rcases f with _ | _ | _ | _ | f
            · cases hs
            · cases hs
            · exact f2 rfl
            · exact f3 rfl
            · cases hs
      · cases hs
      · cases hs
    · have : ac N j i := by
        rcases (ai j i).mp a with ((y | y) | y) | y
        · exact y
        · omega
        · omega
        · omega
      have q9 := hA j i f q this hs
      rw [up3_ne _ _ (by omega), nP_off _ (by omega), up3_ne _ _ (by omega), nP_off _ (by omega)]
      exact q9
  · rw [up3_ne _ _ (by omega), up3_ne _ _ (by omega), zC_off _ (by omega), zC_off _ (by omega)]
  · rw [up3_ne _ _ (by omega), nP_off _ (by omega), up3_ne _ _ (by omega), nP_off _ (by omega)]
  · rw [up3_ne _ _ (by omega), up3_same]
  · exact up3_same _ _ _ _ _
  · rw [up3_ne _ _ (by omega), up3_ne _ _ (by omega), zC_off _ (by omega), zC_off _ (by omega)]; exact h4
end NW
