/-! ===== new arrays of lists ===== -/
section LS
variable {h : gH} {A : dA} {act : Nat → Nat → Prop} {N zz : Nat → Nat} {S C : dC} {P : dP} {t0 : Nat}
theorem ac_arr (N : Nat → Nat) (j i : Nat) : ac (upN N 4) j i ↔ (ac N j i ∨ (j = 7 ∧ i = N 4)) := by
  have e0 : upN N 4 4 = N 4 + 1 := rfl
  by_cases z : j = 7
  · subst z
    show i < upN N 4 4 ↔ (i < N 4 ∨ _)
    rw [e0]; omega
  · have e : ac (upN N 4) j i ↔ ac N j i := by
      unfold ac
      split <;> first | exact Iff.rfl | (exfalso; omega)
    rw [e]
    exact ⟨Or.inl, fun a => a.elim id (fun y => absurd y.1 z)⟩
def zzA (N zz : Nat → Nat) (L : Nat) : Nat → Nat := fun a => if a = N 4 then L else zz a
theorem d_nwA {K : Nat → gH → Prop} {L : Nat} (R : D h A N zz C P) (k0 : ∀ (A1 : dA) (h' : gH), (∀ j i, ac N j i → A1 j i = A j i) → D h' A1 (upN N 4) (zzA N zz L) C (nP P 7 (N 4)) → K (A1 7 (N 4)) h') : nw h (.inl (3, L, .inr (.inr (.inr (.inr (fun _ => none)))))) K := by
  have n7 : ¬ ac N 7 (N 4) := fun z => by
    have z : N 4 < N 4 := z
    omega
  have off : ∀ j i, ac N j i → ¬ (j = 7 ∧ i = N 4) := fun j i a z => n7 (by rw [← z.1, ← z.2]; exact a)
  refine HR.nw (C1 := C) (P1 := nP P 7 (N 4)) (zz1 := zzA N zz L) 7 (N 4) R.1 n7 (fun A1 => ?_) (fun j i hj => ?_) (fun _ _ _ => rfl) (fun j i hj => nP_off P hj) (fun f q hq => by rw [nP_on] at hq; cases hq) (fun A1 h' e R1 => k0 A1 h' (fun j i a => e j i (off j i a)) ⟨?_, ?_⟩)
  · rw [nP_on]
    have e : dN (zzA N zz L) 7 (N 4) = L := (show zzA N zz L (N 4) = L from if_pos rfl)
    rw [e]
    rfl
  · unfold dN
    by_cases z : j = 7
    · rw [if_pos z, if_pos z]
      exact if_neg (fun y => hj ⟨z, y⟩)
    · rw [if_neg z, if_neg z]
  · exact R1.sub (fun j i => (ac_arr N j i).mp) (fun j i f q a hr hp => (ac_arr N _ _).mpr (R1.2.2 j i f q ((ac_arr N j i).mp a) hr hp))
  · intro j i f q a hs
    rcases (ac_arr N j i).mp a with y | y
    · rw [nP_off P (off j i y)]
      exact R.2 j i f q y hs
    · rw [y.1] at hs
      cases hs
theorem c_newLen {Qn : Int32 → gH → Prop} {v0 v1 : Int32} {L : Nat} (h0 : v0.toInt = (L : Int)) (h1 : v1.toInt = 1) (hL : 0 < L ∧ L ≤ 40) (k0 : ∀ (x : Int32) (M : Nat), x.toInt = (M : Int) → L < M → M ≤ 2 * L → (2 ≤ L → M = L + L / 2) → Qn x h) : vJ8_newLength_cabcc t0 Qn h v0 v1 (v0 >>> (1 &&& 31)) := by
  have es : (v0 >>> (1 &&& 31)).toInt = ((L / 2 : Nat) : Int) := by
    have hv : v0 = Int32.ofInt (L : Int) := by rw [← h0]; exact (Int32.ofInt_toInt v0).symm
    have : ∀ l : Nat, l ≤ 40 → (Int32.ofInt (l : Int) >>> (1 &&& 31)).toInt = ((l / 2 : Nat) : Int) := by decide
    rw [hv]
    exact this L hL.2
  unfold vJ8_newLength_cabcc vJ9_max_7cf53 vJ9_max_7cf53_b10
  have fin : ∀ (x : Int32) (m : Nat), x.toInt = (m : Int) → 0 < m → m ≤ L → (2 ≤ L → m = L / 2) → (((v0 + x) ≤ (0 : Int32)) → vJ8_newLength_cabcc_b21 t0 Qn h v0 v1) ∧ ((¬ (v0 + x) ≤ (0 : Int32)) → (((2147483639 < (v0 + x : Int32)) → vJ8_newLength_cabcc_b21 t0 Qn h v0 v1) ∧ ((¬ 2147483639 < (v0 + x : Int32)) → Qn (v0 + x) h))) := fun x m hx h1 h2 h3 => by
    have b : -2147483648 ≤ (L : Int) + (m : Int) ∧ (L : Int) + (m : Int) < 2147483648 := by clear es hx h0; omega
    have e : (v0 + x).toInt = ((L + m : Nat) : Int) := (add_ti h0 hx b).trans (by omega)
    generalize v0 + x = y at *
    clear h0 hx es
    exact cle32 e (vl (by decide)) (fun z => by omega) (fun _ => clt32 (vl (by decide)) e (fun z => by omega) (fun _ => k0 y (L + m) e (by omega) (by omega) (fun z => by have := h3 z; omega)))
  have g1 : 1 ≤ L / 2 ∨ L / 2 = 0 := by omega
  exact clt32 h1 es (fun z => fin _ (L / 2) es (by omega) (by omega) (fun _ => rfl)) (fun z => fin v1 1 h1 (by decide) (by omega) (fun y => by omega))
end LS
