/-! ===== the class: taking a transition ===== -/
section PK
variable {S : dC} {k : Nat} {tq : Int} {M M' : dM} {C C' : dC} {P P' : dP}
/-- the rows of a machine that no track speaks of -/
theorem CP.rest (J : CP S k tq M C P) (e : ∀ f, (f < 8 ∨ 166 ≤ f) → M' f = M f) (c : ∀ j i f : Nat, (j = 22 ∨ j = 33 ∨ j = 35) → C' j i f = C j i f) : (∀ p : Nat, p < 8 → C' 22 k p = M' p) ∧ C' 33 k 1 = M' 288 ∧ (∀ a w : Nat, (a : Int) < M' 166 → w < 4 → C' 35 (4 * k + w) (((M' 288 - M' 166).toNat + a) % 30) = M' (167 + 4 * a + w)) := by
  refine ⟨fun p hp => by rw [c 22 k p (by omega), e p (by omega)]; exact J.va p hp, by rw [c 33 k 1 (by omega), e 288 (by omega)]; exact J.fi, fun a w h1 h2 => ?_⟩
  rw [e 166 (by omega)] at h1 ⊢
  rw [e 288 (by omega), e (167 + 4 * a + w) (by omega), c 35 _ _ (by omega)]
  exact J.ev a w h1 h2
/-- the frozen entries, where nothing of them has changed -/
theorem CP.frs (J : CP S k tq M C P) (e : ∀ f, (f = 20 ∨ 21 ≤ f ∧ f < 166) → M' f = M f) (c : ∀ j i f : Nat, (25 ≤ j ∧ j ≤ 28) → C' j i f = C j i f) (hm : M 21 ≤ 24) : M' 20 = 1 → C' 25 k 3 = M' 21 ∧ ∀ i : Nat, (i : Int) < M' 21 → C' 26 k i = M' (22 + 3 * i) ∧ C' 27 k i = M' (23 + 3 * i) ∧ C' 28 k i = M' (24 + 3 * i) := fun z => by
  rw [e 20 (by omega)] at z
  rw [e 21 (by omega), c 25 k 3 (by omega)]
  exact ⟨(J.fr z).1, fun i hi => by rw [e (22 + 3 * i) (by omega), e (23 + 3 * i) (by omega), e (24 + 3 * i) (by omega), c 26 k i (by omega), c 27 k i (by omega), c 28 k i (by omega)]; exact (J.fr z).2 i hi⟩
theorem CP.beg (J : CP S k tq M C P) (hm : M 21 ≤ 24) (eC : Ft 24 k C C') (eP : ∀ j i f : Nat, ¬ (j = 24 ∧ i = k ∧ f = 0) → P' j i f = P j i f) (eM : ∀ f, (f < 16 ∨ 20 ≤ f) → M' f = M f) (t : P' 24 k 0 = some (14, (M' 16).toNat + 1) ∧ C' 24 k 1 = M' 17 ∧ C' 24 k 2 = M' 18 ∧ C' 24 k 3 = M' 19) (b : (C' 24 k 3 = 0 ∨ C' 24 k 3 = 1) ∧ (C' 24 k 5 = 0 ∨ C' 24 k 5 = 1)) : CP S k tq M' C' P' := by
  have c := fun (j i f : Nat) (h : j ≠ 24) => eC j i f (by omega)
  obtain ⟨r1, r2, r3⟩ := J.rest (M' := M') (C' := C') (fun f h => eM f (by omega)) (fun j i f h => c j i f (by omega))
  exact ⟨r1, by rw [c 21 k 8 (by omega), eM 11 (by omega)]; exact J.cu, by rw [c 21 k 9 (by omega)]; exact J.tk, r2, by rw [c 21 k 6 (by omega), eM 20 (by omega)]; exact J.fz, by rw [eM 8 (by omega), eP 21 k 4 (by omega)]; exact J.mi, by rw [eM 8 (by omega), eM 9 (by omega), eM 10 (by omega), eP 21 k 4 (by omega), c 21 k 5 (by omega)]; exact J.mx, by rw [eM 12 (by omega), eP 23 k 0 (by omega)]; exact J.sa, by rw [eM 13 (by omega), eM 14 (by omega), eM 15 (by omega), c 23 k 1 (by omega), c 23 k 2 (by omega), c 23 k 3 (by omega)]; exact J.ta, fun _ => t, J.frs (fun f h => eM f (by omega)) (fun j i f h => c j i f (by omega)) hm, r3, by rw [c 23 k 3 (by omega)]; exact J.bo.1, by rw [c 23 k 5 (by omega)]; exact J.bo.2.1, b.1, b.2⟩
theorem CP.cur {t : Nat} (J : CP S k tq M C P) (hm : M 21 ≤ 24) (eC : ∀ j i f : Nat, ¬ (j = 21 ∧ i = k ∧ f = 5) → C' j i f = C j i f) (e5 : C' 21 k 5 = 0) (eP : ∀ j i f : Nat, ¬ (j = 21 ∧ i = k ∧ f = 4) → P' j i f = P j i f) (e4 : P' 21 k 4 = some (15, t + 1)) (tg : P 24 k 0 = some (14, (M 16).toNat + 1) ∧ C 24 k 1 = M 17 ∧ C 24 k 2 = M 18 ∧ C 24 k 3 = M 19) : CP S k tq (um (um (um M 8 1) 9 (t : Int)) 10 0) C' P' := by
  have eM : ∀ f, f < 8 ∨ 11 ≤ f → um (um (um M 8 1) 9 (t : Int)) 10 0 f = M f := fun f h => by rw [um_n _ _ (by omega), um_n _ _ (by omega), um_n _ _ (by omega)]
  have m8 : um (um (um M 8 1) 9 (t : Int)) 10 0 8 = 1 := rfl
  have m9 : um (um (um M 8 1) 9 (t : Int)) 10 0 9 = (t : Int) := rfl
  have m10 : um (um (um M 8 1) 9 (t : Int)) 10 0 10 = 0 := rfl
  generalize um (um (um M 8 1) 9 (t : Int)) 10 0 = M' at *
  obtain ⟨r1, r2, r3⟩ := J.rest (M' := M') (C' := C') (fun f h => eM f (by omega)) (fun j i f h => eC j i f (by omega))
  exact ⟨r1, by rw [eC 21 k 8 (by omega), eM 11 (by omega)]; exact J.cu, by rw [eC 21 k 9 (by omega)]; exact J.tk, r2, by rw [eC 21 k 6 (by omega), eM 20 (by omega)]; exact J.fz, fun z => by omega, fun _ => ⟨by rw [m9, Int.toNat_natCast]; exact e4, by rw [m10]; exact e5⟩, by rw [eM 12 (by omega), eP 23 k 0 (by omega)]; exact J.sa, by rw [eM 13 (by omega), eM 14 (by omega), eM 15 (by omega), eC 23 k 1 (by omega), eC 23 k 2 (by omega), eC 23 k 3 (by omega)]; exact J.ta, fun _ => by rw [eM 16 (by omega), eM 17 (by omega), eM 18 (by omega), eM 19 (by omega), eP 24 k 0 (by omega), eC 24 k 1 (by omega), eC 24 k 2 (by omega), eC 24 k 3 (by omega)]; exact tg, J.frs (fun f h => eM f (by omega)) (fun j i f h => eC j i f (by omega)) hm, r3, by rw [eC 23 k 3 (by omega), eC 23 k 5 (by omega), eC 24 k 3 (by omega), eC 24 k 5 (by omega)]; exact J.bo⟩
/-- idle, out of the target track -/
theorem CP.idle (J : CP S k tq M C P) (f1 : ∀ j i f : Nat, ¬ (j = 23 ∧ i = k ∧ 1 ≤ f ∧ f ≤ 5) → ¬ (j = 21 ∧ i = k ∧ (f = 5 ∨ f = 6 ∨ f = 8)) → C' j i f = C j i f) (f2 : ∀ f, 1 ≤ f → f ≤ 5 → C' 23 k f = C 24 k f) (f3 : C' 21 k 6 = 0 ∧ C' 21 k 8 = 0) (g1 : P' 23 k 0 = P 24 k 0) (g2 : P' 21 k 4 = none) (eM : ∀ f, (f < 8 ∨ 166 ≤ f) → M' f = M f) (m8 : M' 8 = 0) (m11 : M' 11 = 0) (m20 : M' 20 = 0) (tg : (0 < S 38 0 19 → P 24 k 0 = some (14, (M' 12).toNat + 1)) ∧ C 24 k 1 = M' 13 ∧ C 24 k 2 = M' 14 ∧ C 24 k 3 = M' 15) : CP S k tq M' C' P' := by
  obtain ⟨r1, r2, r3⟩ := J.rest (M' := M') (C' := C') eM (fun j i f h => f1 j i f (by omega) (by omega))
  exact ⟨r1, by rw [m11]; exact f3.2, by rw [f1 21 k 9 (by omega) (by omega)]; exact J.tk, r2, by rw [m20]; exact f3.1, fun _ => g2, fun z => by omega, fun z => by rw [g1]; exact tg.1 z, ⟨by rw [f2 1 (by omega) (by omega)]; exact tg.2.1, by rw [f2 2 (by omega) (by omega)]; exact tg.2.2.1, fun _ => by rw [f2 3 (by omega) (by omega)]; exact tg.2.2.2⟩, fun z => by omega, fun z => by omega, r3, by rw [f2 3 (by omega) (by omega)]; exact J.bo.2.2.1, by rw [f2 5 (by omega) (by omega)]; exact J.bo.2.2.2, by rw [f1 24 k 3 (by omega) (by omega)]; exact J.bo.2.2.1, by rw [f1 24 k 5 (by omega) (by omega)]; exact J.bo.2.2.2⟩
/-- the source becomes as the target is -/
theorem CP.cpt (J : CP S k tq M C P) (hm : M 21 ≤ 24) (h8 : M 8 = 1) (f1 : Ft 23 k C C') (f2 : ∀ f, 1 ≤ f → f ≤ 5 → C' 23 k f = C 24 k f) (g0 : ∀ j i f : Nat, ¬ (j = 23 ∧ i = k ∧ f = 0) → P' j i f = P j i f) (g1 : P' 23 k 0 = P 24 k 0) : CP S k tq (cpT M) C' P' := by
  have eM : ∀ f, f < 12 ∨ 16 ≤ f → cpT M f = M f := fun f h => by rw [cpT_of, if_neg (by omega)]
  have m12 : cpT M 12 = M 16 := rfl
  have m13 : cpT M 13 = M 17 := rfl
  have m14 : cpT M 14 = M 18 := rfl
  have m15 : cpT M 15 = M 19 := rfl
  generalize cpT M = M' at *
  have c := fun (j i f : Nat) (h : j ≠ 23) => f1 j i f (by omega)
  obtain ⟨r1, r2, r3⟩ := J.rest (M' := M') (C' := C') (fun f h => eM f (by omega)) (fun j i f h => c j i f (by omega))
  have sb := J.sb h8
  exact ⟨r1, by rw [c 21 k 8 (by omega), eM 11 (by omega)]; exact J.cu, by rw [c 21 k 9 (by omega)]; exact J.tk, r2, by rw [c 21 k 6 (by omega), eM 20 (by omega)]; exact J.fz, by rw [eM 8 (by omega), g0 21 k 4 (by omega)]; exact J.mi, by rw [eM 8 (by omega), eM 9 (by omega), eM 10 (by omega), g0 21 k 4 (by omega), c 21 k 5 (by omega)]; exact J.mx, fun _ => by rw [g1, m12]; exact sb.1, ⟨by rw [f2 1 (by omega) (by omega), m13]; exact sb.2.1, by rw [f2 2 (by omega) (by omega), m14]; exact sb.2.2.1, fun _ => by rw [f2 3 (by omega) (by omega), m15]; exact sb.2.2.2⟩, by rw [eM 8 (by omega), eM 16 (by omega), eM 17 (by omega), eM 18 (by omega), eM 19 (by omega), g0 24 k 0 (by omega), c 24 k 1 (by omega), c 24 k 2 (by omega), c 24 k 3 (by omega)]; exact J.sb, J.frs (fun f h => eM f (by omega)) (fun j i f h => c j i f (by omega)) hm, r3, by rw [f2 3 (by omega) (by omega)]; exact J.bo.2.2.1, by rw [f2 5 (by omega) (by omega)]; exact J.bo.2.2.2, by rw [c 24 k 3 (by omega)]; exact J.bo.2.2.1, by rw [c 24 k 5 (by omega)]; exact J.bo.2.2.2⟩
/-- the present pose is frozen -/
theorem CP.frz (J : CP S k tq M C P) (hq : (qpose S M).1 ≤ 32) (f1 : ∀ j i f : Nat, ¬ (25 ≤ j ∧ j ≤ 28 ∧ i = k) → ¬ (j = 21 ∧ i = k ∧ (f = 6 ∨ f = 8)) → C' j i f = C j i f) (e6 : C' 21 k 6 = 1) (e8 : C' 21 k 8 = M 11 + 1) (p0 : C' 25 k 3 = ((qpose S M).1 : Int)) (p1 : ∀ i : Nat, i < (qpose S M).1 → C' 26 k i = (qpose S M).2.1 i ∧ C' 27 k i = (qpose S M).2.2.1 i ∧ C' 28 k i = (qpose S M).2.2.2 i) : CP S k tq (frz0 S M) C' P := by
  have eM : ∀ f, (f < 20 ∧ f ≠ 11) ∨ 166 ≤ f → frz0 S M f = M f := fun f h => by
    rw [frz0_of, if_neg (by omega), if_neg (by omega), if_neg (by omega)]
    rcases h with h | h
    · exact putQ_lo _ _ (by omega)
    · exact putQ_hi _ _ (by omega) h
  have m11 : frz0 S M 11 = M 11 + 1 := rfl
  have m20 : frz0 S M 20 = 1 := rfl
  have m21 : frz0 S M 21 = ((qpose S M).1 : Int) := rfl
  have ef : ∀ f, 22 ≤ f → frz0 S M f = putQ (qpose S M) M f := fun f hf => by rw [frz0_of, if_neg (by omega), if_neg (by omega), if_neg (by omega)]
  obtain ⟨r1, r2, r3⟩ := J.rest (M' := frz0 S M) (C' := C') (fun f h => eM f (by omega)) (fun j i f h => f1 j i f (by omega) (by omega))
  refine ⟨r1, by rw [m11]; exact e8, by rw [f1 21 k 9 (by omega) (by omega)]; exact J.tk, r2, by rw [m20]; exact e6, by rw [eM 8 (by omega)]; exact J.mi, by rw [eM 8 (by omega), eM 9 (by omega), eM 10 (by omega), f1 21 k 5 (by omega) (by omega)]; exact J.mx, by rw [eM 12 (by omega)]; exact J.sa, by rw [eM 13 (by omega), eM 14 (by omega), eM 15 (by omega), f1 23 k 1 (by omega) (by omega), f1 23 k 2 (by omega) (by omega), f1 23 k 3 (by omega) (by omega)]; exact J.ta, by rw [eM 8 (by omega), eM 16 (by omega), eM 17 (by omega), eM 18 (by omega), eM 19 (by omega), f1 24 k 1 (by omega) (by omega), f1 24 k 2 (by omega) (by omega), f1 24 k 3 (by omega) (by omega)]; exact J.sb, fun _ => ⟨by rw [m21]; exact p0, fun i hi => ?_⟩, r3, by rw [f1 23 k 3 (by omega) (by omega), f1 23 k 5 (by omega) (by omega), f1 24 k 3 (by omega) (by omega), f1 24 k 5 (by omega) (by omega)]; exact J.bo⟩
  rw [m21] at hi
  have hi' : i < (qpose S M).1 := by omega
  rw [ef _ (by omega), ef (23 + 3 * i) (by omega), ef (24 + 3 * i) (by omega), putQ_c _ _ hi', putQ_t _ _ hi', putQ_w _ _ hi']
  exact p1 i hi'
theorem CP.val {p : Nat} {v : Int} (J : CP S k tq M C P) (hm : M 21 ≤ 24) (hp : p < 8) : CP S k tq (um M p v) (up3 C 22 k p v) P := by
  have eM : ∀ f, f ≠ p → um M p v f = M f := fun f h => um_n _ _ h
  have c := fun (j i f : Nat) (h : j ≠ 22) => up3_off_ (f' := f) (f := p) C (j := 22) (i := k) (j' := j) (i' := i) v (fun z => h z.1)
  refine ⟨fun q hq => ?_, by rw [c 21 k 8 (by omega), eM 11 (by omega)]; exact J.cu, by rw [c 21 k 9 (by omega)]; exact J.tk, by rw [c 33 k 1 (by omega), eM 288 (by omega)]; exact J.fi, by rw [c 21 k 6 (by omega), eM 20 (by omega)]; exact J.fz, by rw [eM 8 (by omega)]; exact J.mi, by rw [eM 8 (by omega), eM 9 (by omega), eM 10 (by omega), c 21 k 5 (by omega)]; exact J.mx, by rw [eM 12 (by omega)]; exact J.sa, by rw [eM 13 (by omega), eM 14 (by omega), eM 15 (by omega), c 23 k 1 (by omega), c 23 k 2 (by omega), c 23 k 3 (by omega)]; exact J.ta, by rw [eM 8 (by omega), eM 16 (by omega), eM 17 (by omega), eM 18 (by omega), eM 19 (by omega), c 24 k 1 (by omega), c 24 k 2 (by omega), c 24 k 3 (by omega)]; exact J.sb, J.frs (fun f h => eM f (by omega)) (fun j i f h => c j i f (by omega)) hm, fun a w h1 h2 => ?_, by rw [c 23 k 3 (by omega), c 23 k 5 (by omega), c 24 k 3 (by omega), c 24 k 5 (by omega)]; exact J.bo⟩
  · by_cases z : q = p
    · subst z; rw [up3_same, um_s]
    · rw [up3_ne C v fun y => z y.2.2, eM q z]; exact J.va q hq
  · rw [eM 166 (by omega)] at h1 ⊢
    rw [eM 288 (by omega), eM (167 + 4 * a + w) (by omega), c 35 _ _ (by omega)]
    exact J.ev a w h1 h2
end PK
section CK
variable {h : gH} {A : dA} {N zz : Nat → Nat} {S C C0 : dC} {P P0 : dP} {t0 k : Nat} {tq tb : Int} {M : dM}
theorem ypvQ {K : gH → Prop} {j i f ci : Nat} {o : Option (Nat × Nat)} (R : D h A N zz C P) (ha : ac N j i) (ho : dK j f = some (ci, 2)) (hs : dS j i f = none) (hq : ∀ q, o = some q → ac N q.1 q.2) (k : ∀ h' : gH, D h' A N zz C (up3 P j i f o) → K h') : pv h (A j i) ci f (va_rf (o.map (dad A))) K := by
  obtain ⟨ks, h1, h2⟩ := dK_of ho
  exact R.pvQ ha h1 h2 hs hq k
theorem ygm {K : Option Nat → Prop} {j i f ci : Nat} (R : D h A N zz C P) (ha : ac N j i) (ho : dK j f = some (ci, 2)) (k : K ((P j i f).map (dad A))) : gr h (A j i) ci f K := by
  obtain ⟨ks, h1, h2⟩ := dK_of ho
  exact R.grm ha h1 h2 k
theorem dRc_K {j f ci : Nat} (ho : dK j f = some (ci, 2)) : dRc j f := by
  obtain ⟨ks, h1, h2⟩ := dK_of ho
  unfold dRc
  rw [h1]
  exact h2
/-- a track copied: from role (j', k') to role (j, k) -/
theorem c_tcopy {Qn : gH → Prop} {j j' k' : Nat} (hj : j = 23 ∨ j = 24) (hj' : j' = 23 ∨ j' = 24) (hne : ¬ (j = j' ∧ k = k')) (hk : k < 4) (hk' : k' < 4) (R : D h A N zz C P) (b3 : C j' k' 3 = 0 ∨ C j' k' 3 = 1) (b5 : C j' k' 5 = 0 ∨ C j' k' 5 = 1) (k0 : ∀ (h' : gH) (C' : dC), D h' A N zz C' (up3 P j k 0 (P j' k' 0)) → Ft j k C C' → (∀ f, 1 ≤ f → f ≤ 5 → C' j k f = C j' k' f) → Qn h') : vX8_copyFrom t0 Qn h (A j k) (some (A j' k')) := by
  have aj : ac N j k := k21 hk j (by omega)
  have aj' : ac N j' k' := k21 hk' j' (by omega)
  have e0 : dK j 0 = some (11, 2) := by rcases hj with rfl | rfl <;> rfl
  have e1 : dK j 1 = some (11, 1) := by rcases hj with rfl | rfl <;> rfl
  have e2 : dK j 2 = some (11, 0) := by rcases hj with rfl | rfl <;> rfl
  have e3 : dK j 3 = some (11, 0) := by rcases hj with rfl | rfl <;> rfl
  have e4 : dK j 4 = some (11, 1) := by rcases hj with rfl | rfl <;> rfl
  have e5 : dK j 5 = some (11, 0) := by rcases hj with rfl | rfl <;> rfl
  have d0 : dK j' 0 = some (11, 2) := by rcases hj' with rfl | rfl <;> rfl
  have d1 : dK j' 1 = some (11, 1) := by rcases hj' with rfl | rfl <;> rfl
  have d2 : dK j' 2 = some (11, 0) := by rcases hj' with rfl | rfl <;> rfl
  have d3 : dK j' 3 = some (11, 0) := by rcases hj' with rfl | rfl <;> rfl
  have d4 : dK j' 4 = some (11, 1) := by rcases hj' with rfl | rfl <;> rfl
  have d5 : dK j' 5 = some (11, 0) := by rcases hj' with rfl | rfl <;> rfl
  have s0 : dS j k 0 = none := by rcases hj with rfl | rfl <;> rfl
  have off : ∀ (C1 : dC) (f f' : Nat) (v : Int), up3 C1 j k f v j' k' f' = C1 j' k' f' := fun C1 f f' v => up3_off_ C1 v (fun z => hne ⟨z.1.symm, z.2.symm⟩)
  unfold vX8_copyFrom
  refine nn_i (ygm R aj' d0 (ypvQ R aj e0 s0 (fun q hq => R.cl aj' (dRc_K d0) hq) (fun h3 R3 => ?_)))
  refine ygl R3 aj' d1 rfl (fun x4 h4 => wpvL R3 aj e1 h4 (fun h5 R5 => ?_))
  refine ygi R5 aj' d2 (v := C j' k' 2) (by simp only [off]) (fun x6 h6 => wpvI R5 aj e2 h6 (fun h7 R7 => ?_))
  refine ygi R7 aj' d3 (v := C j' k' 3) (by simp only [off]) (fun x8 h8 => ⟨gZ_of (by rw [h8]; exact b3), wpvI R7 aj e3 h8 (fun h9 R9 => ?_)⟩)
  refine ygl R9 aj' d4 (v := C j' k' 4) (by simp only [off]) (fun x10 h10 => wpvL R9 aj e4 h10 (fun h11 R11 => ?_))
  refine ygi R11 aj' d5 (v := C j' k' 5) (by simp only [off]) (fun x12 h12 => ⟨gZ_of (by rw [h12]; exact b5), wpvI R11 aj e5 h12 (fun h13 R13 => ?_)⟩)
  refine k0 h13 _ R13 (Ft.up (Ft.up (Ft.up (Ft.up (Ft.up (Ft.rf j k C) (by decide)) (by decide)) (by decide)) (by decide)) (by decide)) (fun f f1 f5 => ?_)
  have : f = 1 ∨ f = 2 ∨ f = 3 ∨ f = 4 ∨ f = 5 := by omega
  rcases this with rfl | rfl | rfl | rfl | rfl <;> simp only [up3, eq_self, asb, Nat.add_zero, Nat.zero_add, Nat.reduceEqDiff, false_and, and_false, and_true, true_and, if_true, if_false, ↓reduceIte]
theorem c_begin {Qn : gH → Prop} {v2 : Int32} {s : Nat} {ph : Int} (hk : k < 4) (R : D h A N zz C P) (hs : ac N 14 s) (h2 : v2.toInt = ph) (k0 : ∀ (h' : gH) (C' : dC), D h' A N zz C' (up3 P 24 k 0 (some (14, s))) → Ft 24 k C C' → C' 24 k 1 = 0 → C' 24 k 2 = ph → C' 24 k 3 = 1 → C' 24 k 4 = ph → C' 24 k 5 = 1 → Qn h') : vX8_begin t0 Qn h (A 24 k) (some (A 14 s)) v2 := by
  have aj : ac N 24 k := hk
  unfold vX8_begin
  refine ypvQ (o := some (14, s)) R aj rfl rfl (fun q hq => by cases hq; exact hs) (fun h1 R1 => ?_)
  refine wpvL R1 aj rfl (v := 0) (vlL (by decide)) (fun h2' R2 => wpvI R2 aj rfl h2 (fun h3 R3 => wpvI R3 aj rfl (v := 1) (vl (by decide)) (fun h4 R4 => wpvL R4 aj rfl (wid_ti h2) (fun h5 R5 => wpvI R5 aj rfl (v := 1) (vl (by decide)) (fun h6 R6 => ?_)))))
  refine k0 h6 _ R6 (Ft.up (Ft.up (Ft.up (Ft.up (Ft.up (Ft.rf 24 k C) (by decide)) (by decide)) (by decide)) (by decide)) (by decide)) ?_ ?_ ?_ ?_ ?_ <;> simp only [up3, eq_self, asb, Nat.add_zero, Nat.zero_add, Nat.reduceEqDiff, false_and, and_false, and_true, true_and, if_true, if_false, ↓reduceIte]
theorem c_idle {Qn : gH → Prop} (hk : k < 4) (R : D h A N zz C P) (b3 : C 24 k 3 = 0 ∨ C 24 k 3 = 1) (b5 : C 24 k 5 = 0 ∨ C 24 k 5 = 1) (k0 : ∀ (h' : gH) (C' : dC) (P' : dP), D h' A N zz C' P' → (∀ j i f : Nat, ¬ (j = 23 ∧ i = k ∧ 1 ≤ f ∧ f ≤ 5) → ¬ (j = 21 ∧ i = k ∧ (f = 5 ∨ f = 6 ∨ f = 8)) → C' j i f = C j i f) → (∀ f, 1 ≤ f → f ≤ 5 → C' 23 k f = C 24 k f) → C' 21 k 5 = 0 → (C' 21 k 6 = 0 ∧ C' 21 k 8 = 0) → P' 23 k 0 = P 24 k 0 → P' 21 k 4 = none → (∀ j i f : Nat, ¬ (j = 23 ∧ i = k ∧ f = 0) → ¬ (j = 21 ∧ i = k ∧ f = 4) → P' j i f = P j i f) → Qn h') : vX3_becomeIdle t0 Qn h (A 21 k) := by
  have am : ac N 21 k := hk
  unfold vX3_becomeIdle
  refine m_src hk R (m_tgt hk R (nn_i (ioj (j := 23) (by decide) hk R rfl (by decide) ?_)))
  refine c_tcopy (j := 23) (j' := 24) (Or.inl rfl) (Or.inr rfl) (by omega) hk hk R b3 b5 (fun h4 C4 R4 F4 E4 => ?_)
  refine ypvQ (o := none) R4 am rfl rfl (fun q hq => by cases hq) (fun h5 R5 => ?_)
  refine wpvI R5 am rfl (v := 0) (vl (by decide)) (fun h6 R6 => wpvI R6 am rfl (v := 0) (vl (by decide)) (fun h7 R7 => wpvI R7 am rfl (v := 0) (vl (by decide)) (fun h8 R8 => ?_)))
  refine k0 h8 _ _ R8 (fun j i f a1 a2 => ?_) (fun f f1 f5 => ?_) ?_ ⟨?_, ?_⟩ ?_ ?_ (fun j i f a1 a2 => ?_)
  · rw [up3_ne _ _ (by omega), up3_ne _ _ (by omega), up3_ne _ _ (by omega)]; exact F4 j i f a1
  · rw [up3_ne _ _ (by omega), up3_ne _ _ (by omega), up3_ne _ _ (by omega)]; exact E4 f f1 f5
  · simp only [up3, eq_self, asb, Nat.add_zero, Nat.zero_add, Nat.reduceEqDiff, false_and, and_false, and_true, true_and, if_true, if_false, ↓reduceIte]
  · simp only [up3, eq_self, asb, Nat.add_zero, Nat.zero_add, Nat.reduceEqDiff, false_and, and_false, and_true, true_and, if_true, if_false, ↓reduceIte]
  · simp only [up3, eq_self, asb, Nat.add_zero, Nat.zero_add, Nat.reduceEqDiff, false_and, and_false, and_true, true_and, if_true, if_false, ↓reduceIte]
  · rw [up3_ne _ _ (by omega), up3_same]
  · rw [up3_same]
  · rw [up3_ne _ _ (by omega), up3_ne _ _ (by omega)]
end CK
