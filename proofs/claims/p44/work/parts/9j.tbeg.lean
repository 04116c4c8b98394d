/-! ===== a transition begins ===== -/
section TB
variable {h : gH} {A : dA} {N zz : Nat → Nat} {S C : dC} {P : dP} {t0 : Nat}
theorem c_tbegin {Qn : gH → Prop} {v3 : Int32} {d : Int} {i m : Nat} {o : Option (Nat × Nat)} (R : D h A N zz C P) (hi : ac N 15 i) (ho : ∀ q, o = some q → ac N q.1 q.2) (hm : ac N 14 m) (h3 : v3.toInt = d) (k0 : ∀ (h' : gH) (C1 : dC) (P1 : dP), D h' A N zz C1 P1 → (∀ j x f : Nat, ¬ (j = 15 ∧ x = i) → C1 j x f = C j x f) → (∀ j x f : Nat, ¬ (j = 15 ∧ x = i) → P1 j x f = P j x f) → (P1 15 i 1 = o ∧ P1 15 i 2 = some (14, m)) → (C1 15 i 0 = C 15 i 0 ∧ C1 15 i 3 = d ∧ C1 15 i 4 = -1 ∧ C1 15 i 5 = 0 ∧ C1 15 i 6 = 0 ∧ C1 15 i 7 = 0 ∧ C1 15 i 11 = 0) → Qn h') : vX9_begin t0 Qn h (A 15 i) (o.map (dad A)) (some (A 14 m)) v3 := by
  unfold vX9_begin
  refine ypvQ (o := o) R hi rfl rfl ho (fun h1 R1 => ypvQ (o := some (14, m)) R1 hi rfl rfl (fun q hq => by cases hq; exact hm) (fun h2 R2 => ?_))
  refine wpvI R2 hi rfl h3 (fun h3' R3 => wpvI R3 hi rfl (v := -1) (show (-1 : Int32).toInt = -1 by decide) (fun h4 R4 => wpvI R4 hi rfl (v := 0) (vl (by decide)) (fun h5 R5 => wpvI R5 hi rfl (v := 0) (vl (by decide)) (fun h6 R6 => wpvI R6 hi rfl (v := 0) (vl (by decide)) (fun h7 R7 => wpvI R7 hi rfl (v := 0) (vl (by decide)) (fun h8 R8 => ?_))))))
  have e := fun (C0 : dC) (f f' : Nat) (v : Int) (hf : f' ≠ f) => (show up3 C0 15 i f v 15 i f' = C0 15 i f' from up3_ne _ _ (by omega))
  refine k0 h8 _ _ R8 (fun j x f hj => ?_) (fun j x f hj => ?_) ⟨(up3_ne _ _ (by omega)).trans (up3_same _ _ _ _ _), up3_same _ _ _ _ _⟩ ⟨?_, ?_, ?_, ?_, ?_, ?_, up3_same _ _ _ _ _⟩
  · rw [up3_ne _ _ (by omega), up3_ne _ _ (by omega), up3_ne _ _ (by omega), up3_ne _ _ (by omega), up3_ne _ _ (by omega), up3_ne _ _ (by omega)]
  · rw [up3_ne _ _ (by omega), up3_ne _ _ (by omega)]
  · rw [e _ _ _ _ (by decide), e _ _ _ _ (by decide), e _ _ _ _ (by decide), e _ _ _ _ (by decide), e _ _ _ _ (by decide), e _ _ _ _ (by decide)]
  · rw [e _ _ _ _ (by decide), e _ _ _ _ (by decide), e _ _ _ _ (by decide), e _ _ _ _ (by decide), e _ _ _ _ (by decide), up3_same]
  · rw [e _ _ _ _ (by decide), e _ _ _ _ (by decide), e _ _ _ _ (by decide), e _ _ _ _ (by decide), up3_same]
  · rw [e _ _ _ _ (by decide), e _ _ _ _ (by decide), e _ _ _ _ (by decide), up3_same]
  · rw [e _ _ _ _ (by decide), e _ _ _ _ (by decide), up3_same]
  · rw [e _ _ _ _ (by decide), up3_same]
end TB
