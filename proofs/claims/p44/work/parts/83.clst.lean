/-! ===== the class: tracks ===== -/
/-- a track's columns have changed, nothing else -/
def Ft (j k : Nat) (C C' : dC) : Prop := ∀ j' i' f : Nat, ¬ (j' = j ∧ i' = k ∧ 1 ≤ f ∧ f ≤ 5) → C' j' i' f = C j' i' f
theorem Ft.rf (j k : Nat) (C : dC) : Ft j k C C := fun _ _ _ _ => rfl
theorem Ft.up {j k f : Nat} {C C' : dC} {v : Int} (a : Ft j k C C') (hf : 1 ≤ f ∧ f ≤ 5) : Ft j k C (up3 C' j k f v) := fun j' i' f' h => by
  rw [up3_ne C' v fun z => h (by rw [z.1, z.2.1, z.2.2]; exact ⟨rfl, rfl, hf⟩)]
  exact a j' i' f' h
theorem CP.src {S : dC} {k : Nat} {tq : Int} {M M' : dM} {C C' : dC} {P : dP} (J : CP S k tq M C P) (eC : Ft 23 k C C') (eM : ∀ f, f ≠ 13 → f ≠ 14 → f ≠ 15 → M' f = M f) (t : C' 23 k 1 = M' 13 ∧ C' 23 k 2 = M' 14 ∧ C' 23 k 3 = M' 15) (b : (C' 23 k 3 = 0 ∨ C' 23 k 3 = 1) ∧ (C' 23 k 5 = 0 ∨ C' 23 k 5 = 1)) : CP S k tq M' C' P := by
  have m := fun (f : Nat) (h : f < 13 ∨ 16 ≤ f) => eM f (by omega) (by omega) (by omega)
  have c := fun (j i f : Nat) (h : j ≠ 23) => eC j i f (by omega)
  refine ⟨fun p hp => by rw [c 22 k p (by omega), m p (by omega)]; exact J.va p hp, by rw [c 21 k 8 (by omega), m 11 (by omega)]; exact J.cu, by rw [c 21 k 9 (by omega)]; exact J.tk, by rw [c 33 k 1 (by omega), m 288 (by omega)]; exact J.fi, by rw [c 21 k 6 (by omega), m 20 (by omega)]; exact J.fz, by rw [m 8 (by omega)]; exact J.mi, by rw [m 8 (by omega), m 9 (by omega), m 10 (by omega), c 21 k 5 (by omega)]; exact J.mx, by rw [m 12 (by omega)]; exact J.sa, ⟨t.1, t.2.1, fun _ => t.2.2⟩, by rw [m 8 (by omega), m 16 (by omega), m 17 (by omega), m 18 (by omega), m 19 (by omega), c 24 k 1 (by omega), c 24 k 2 (by omega), c 24 k 3 (by omega)]; exact J.sb, fun z => ?_, fun e w h1 h2 => ?_, b.1, b.2, by rw [c 24 k 3 (by omega), c 24 k 5 (by omega)]; exact J.bo.2.2⟩
  · rw [m 20 (by omega)] at z
    rw [m 21 (by omega), c 25 k 3 (by omega)]
    exact ⟨(J.fr z).1, fun i hi => by rw [m (22 + 3 * i) (by omega), m (23 + 3 * i) (by omega), m (24 + 3 * i) (by omega), c 26 k i (by omega), c 27 k i (by omega), c 28 k i (by omega)]; exact (J.fr z).2 i hi⟩
  · rw [m 166 (by omega)] at h1 ⊢
    rw [m 288 (by omega), m (167 + 4 * e + w) (by omega), c 35 _ _ (by omega)]
    exact J.ev e w h1 h2
theorem CP.tgt {S : dC} {k : Nat} {tq : Int} {M M' : dM} {C C' : dC} {P : dP} (J : CP S k tq M C P) (eC : Ft 24 k C C') (eM : ∀ f, f ≠ 17 → f ≠ 18 → f ≠ 19 → M' f = M f) (t : C' 24 k 1 = M' 17 ∧ C' 24 k 2 = M' 18 ∧ C' 24 k 3 = M' 19) (b : (C' 24 k 3 = 0 ∨ C' 24 k 3 = 1) ∧ (C' 24 k 5 = 0 ∨ C' 24 k 5 = 1)) : CP S k tq M' C' P := by
  have m := fun (f : Nat) (h : f < 17 ∨ 20 ≤ f) => eM f (by omega) (by omega) (by omega)
  have c := fun (j i f : Nat) (h : j ≠ 24) => eC j i f (by omega)
  refine ⟨fun p hp => by rw [c 22 k p (by omega), m p (by omega)]; exact J.va p hp, by rw [c 21 k 8 (by omega), m 11 (by omega)]; exact J.cu, by rw [c 21 k 9 (by omega)]; exact J.tk, by rw [c 33 k 1 (by omega), m 288 (by omega)]; exact J.fi, by rw [c 21 k 6 (by omega), m 20 (by omega)]; exact J.fz, by rw [m 8 (by omega)]; exact J.mi, by rw [m 8 (by omega), m 9 (by omega), m 10 (by omega), c 21 k 5 (by omega)]; exact J.mx, by rw [m 12 (by omega)]; exact J.sa, by rw [m 13 (by omega), m 14 (by omega), m 15 (by omega), c 23 k 1 (by omega), c 23 k 2 (by omega), c 23 k 3 (by omega)]; exact J.ta, fun z => by rw [m 8 (by omega)] at z; rw [m 16 (by omega)]; exact ⟨(J.sb z).1, t⟩, fun z => ?_, fun e w h1 h2 => ?_, by rw [c 23 k 3 (by omega)]; exact J.bo.1, by rw [c 23 k 5 (by omega)]; exact J.bo.2.1, b.1, b.2⟩
  · rw [m 20 (by omega)] at z
    rw [m 21 (by omega), c 25 k 3 (by omega)]
    exact ⟨(J.fr z).1, fun i hi => by rw [m (22 + 3 * i) (by omega), m (23 + 3 * i) (by omega), m (24 + 3 * i) (by omega), c 26 k i (by omega), c 27 k i (by omega), c 28 k i (by omega)]; exact (J.fr z).2 i hi⟩
  · rw [m 166 (by omega)] at h1 ⊢
    rw [m 288 (by omega), m (167 + 4 * e + w) (by omega), c 35 _ _ (by omega)]
    exact J.ev e w h1 h2
section CT
variable {h : gH} {A : dA} {N zz : Nat → Nat} {S C C0 : dC} {P P0 : dP} {t0 k : Nat} {tq tb : Int} {M : dM}
theorem c_prog {Qn : Int64 → gH → Prop} {j : Nat} {a b : Int} (hj : j = 23 ∨ j = 24) (hk : k < 4) (R : D h A N zz C P) (e1 : C j k 1 = a) (e2 : C j k 2 = b) (ha : 0 ≤ a ∧ a ≤ 1000000000) (hb : 0 ≤ b ∧ b ≤ 1000000) (k0 : ∀ x : Int64, x.toInt = a * 1000000 + b → Qn x h) : vX8_progressNow t0 Qn h (A j k) := by
  unfold vX8_progressNow
  rcases hj with rfl | rfl
  · exact ygl R (k21 hk 23 (by decide)) rfl e1 (fun x1 h1 => ygi R (k21 hk 23 (by decide)) rfl e2 (fun x2 h2 => k0 _ (addL_ti (mulL_ti h1 (vlL (by decide)) (by omega)) (wid_ti h2) (by omega))))
  · exact ygl R (k21 hk 24 (by decide)) rfl e1 (fun x1 h1 => ygi R (k21 hk 24 (by decide)) rfl e2 (fun x2 h2 => k0 _ (addL_ti (mulL_ti h1 (vlL (by decide)) (by omega)) (wid_ti h2) (by omega))))
theorem trI_cyc {a : Nat} {b : Int} (tr : trI S M a b) (hb : b ≤ 2000000000000) : M (a + 1) ≤ 1000000000 := by
  obtain ⟨h1, h2, h3, h4, h5, h6, h7, h8⟩ := tr
  unfold prg at h6
  omega
theorem c_advance {Qn : gH → Prop} {v1 : Int64} {j a : Nat} {x b : Int} (hj : j = 23 ∨ j = 24) (hk : k < 4) (R : D h A N zz C P) (K : KS S N zz C P) (I : SI S) (e0 : P j k 0 = some (14, (M a).toNat + 1)) (e1 : C j k 1 = M (a + 1)) (e2 : C j k 2 = M (a + 2)) (e3 : C j k 3 = M (a + 3)) (tr : trI S M a b) (hb : b ≤ 2000000000000) (h1 : v1.toInt = x) (hx : 0 ≤ x ∧ x ≤ 4000000) (k0 : ∀ (h' : gH) (C' : dC), D h' A N zz C' P → Ft j k C C' → C' j k 1 = adv S M a x (a + 1) → C' j k 2 = adv S M a x (a + 2) → C' j k 3 = 0 → C' j k 4 = prg M a → C' j k 5 = M (a + 3) → Qn h') : vX8_advance t0 Qn h (A j k) v1 := by
  have cyc := trI_cyc tr hb
  obtain ⟨t1, t2, t3, t4, t5, t6, t7, t8⟩ := tr
  have st := K.st (M a).toNat (by have := K.nn; omega)
  have aS : ac N 14 ((M a).toNat + 1) := st_in K (by omega)
  have hp : prg M a = M (a + 1) * 1000000 + M (a + 2) := rfl
  have p0 : 0 ≤ prg M a := by omega
  have lo := I.lo (M a).toNat (by have := I.ns; omega)
  have aj : ac N j k := k21 hk j (by omega)
  unfold vX8_advance vX8_advance_b72
  have q1 : S 57 0 (M a).toNat = 0 → adv S M a x (a + 1) = M (a + 1) ∧ adv S M a x (a + 2) = (if M (a + 2) + x ≤ 1000000 then M (a + 2) + x else 1000000) := fun z => by
    unfold adv advN
    rw [if_pos z]
    exact ⟨by rw [um_n _ _ (by omega), um_n _ _ (by omega)], by rw [um_n _ _ (by omega), um_s]⟩
  have q2 : S 57 0 (M a).toNat ≠ 0 → adv S M a x (a + 1) = (prg M a + x) / 1000000 ∧ adv S M a x (a + 2) = (prg M a + x) % 1000000 := fun z => by
    unfold adv advL
    rw [if_neg z]
    exact ⟨by rw [um_n _ _ (by omega), um_n _ _ (by omega), um_s], by rw [um_n _ _ (by omega), um_s]⟩
  have hz : S 57 0 (M a).toNat = 0 → prg M a = M (a + 2) := fun z => by have := t7 z; omega
  have gf : ∀ x4 : Int32, x4.toInt = M (a + 3) → gZ x4 := fun x4 h4 => gZ_of (by rw [h4]; exact t8)
  have hm : (prg M a + x) % 1000000 = prg M a + x - (prg M a + x) / 1000000 * 1000000 := by omega
  generalize prg M a = p at *
  have sm : ∀ x7 : Int64, x7.toInt = p → (x7 + v1).toInt = p + x := fun x7 h7 => addL_ti h7 h1 (by omega)
  have dv : ∀ x7 : Int64, x7.toInt = p → ((x7 + v1) / 1000000).toInt = (p + x) / 1000000 := fun x7 h7 => divL_ti (sm x7 h7) (vlL (by decide)) (by omega) (by decide)
  have rm : ∀ x7 : Int64, x7.toInt = p → (Int64.toInt32 ((x7 + v1) - (x7 + v1) / 1000000 * 1000000)).toInt = (p + x) % 1000000 := fun x7 h7 => nar_ti (x := (p + x) % 1000000) ((subL_ti (sm x7 h7) (mulL_ti (dv x7 h7) (vlL (by decide)) (by omega)) (by omega)).trans (by omega)) (by omega)
  rcases hj with rfl | rfl
  · refine wio R aj rfl (by decide) (c_prog (Or.inl rfl) hk R e1 e2 ⟨t3, cyc⟩ ⟨t4, t5⟩ (fun x2 h2 => ?_))
    refine wpvL R aj rfl (v := p) (h2.trans hp.symm) (fun h3 R3 => ?_)
    refine ygi R3 aj rfl (v := M (a + 3)) (by simp only [up3, eq_self, asb, Nat.add_zero, Nat.zero_add, Nat.reduceEqDiff, false_and, and_false, and_true, true_and, if_true, if_false, ↓reduceIte]; exact e3) (fun x4 h4 => ⟨gf x4 h4, ?_⟩)
    refine wpvI R3 aj rfl h4 (fun h5 R5 => wpvI R5 aj rfl (vl (by decide)) (fun h6 R6 => ?_))
    refine ygl R6 aj rfl (v := p) (by simp only [up3, eq_self, asb, Nat.add_zero, Nat.zero_add, Nat.reduceEqDiff, false_and, and_false, and_true, true_and, if_true, if_false, ↓reduceIte]) (fun x7 h7 => ?_)
    refine ygr R6 aj rfl e0 (nn_i (ygi R6 aS rfl (v := S 57 0 (M a).toNat) (by simp only [up3, eq_self, asb, Nat.add_zero, Nat.zero_add, Nat.reduceEqDiff, false_and, and_false, and_true, true_and, if_true, if_false, ↓reduceIte]; exact st.2.2.2.1) (fun x10 h10 => ?_)))
    have F6 := Ft.up (v := 0) (f := 3) (Ft.up (v := M (a + 3)) (f := 5) (Ft.up (v := p) (f := 4) (Ft.rf 23 k C) (by decide)) (by decide)) (by decide)
    refine ceq32 h10 (vl (by decide)) (fun z => ?_) (fun z => ⟨ne_ti ⟨vlL (by decide), by decide⟩, ?_⟩)
    · unfold vJ9_min_f86c9 vJ9_min_f86c9_b11
      obtain ⟨q3, q4⟩ := q1 z
      refine clt64 (vlL (by decide)) (sm x7 h7) (fun y => ?_) (fun y => ?_)
      · refine wpvI R6 aj rfl (v := 1000000) (nar_ti (vlL (by decide)) (by decide)) (fun h13 R13 => k0 h13 _ R13 (Ft.up F6 (by decide)) ?_ ?_ ?_ ?_ ?_)
        · simp only [up3, eq_self, asb, Nat.add_zero, Nat.zero_add, Nat.reduceEqDiff, false_and, and_false, and_true, true_and, if_true, if_false, ↓reduceIte]; rw [q3, e1]
        · simp only [up3, eq_self, asb, Nat.add_zero, Nat.zero_add, Nat.reduceEqDiff, false_and, and_false, and_true, true_and, if_true, if_false, ↓reduceIte]; rw [q4, if_neg (by have := hz z; omega)]
        · simp only [up3, eq_self, asb, Nat.add_zero, Nat.zero_add, Nat.reduceEqDiff, false_and, and_false, and_true, true_and, if_true, if_false, ↓reduceIte]
        · simp only [up3, eq_self, asb, Nat.add_zero, Nat.zero_add, Nat.reduceEqDiff, false_and, and_false, and_true, true_and, if_true, if_false, ↓reduceIte]
        · simp only [up3, eq_self, asb, Nat.add_zero, Nat.zero_add, Nat.reduceEqDiff, false_and, and_false, and_true, true_and, if_true, if_false, ↓reduceIte]
      · refine wpvI R6 aj rfl (v := p + x) (nar_ti (sm x7 h7) (by omega)) (fun h13 R13 => k0 h13 _ R13 (Ft.up F6 (by decide)) ?_ ?_ ?_ ?_ ?_)
        · simp only [up3, eq_self, asb, Nat.add_zero, Nat.zero_add, Nat.reduceEqDiff, false_and, and_false, and_true, true_and, if_true, if_false, ↓reduceIte]; rw [q3, e1]
        · simp only [up3, eq_self, asb, Nat.add_zero, Nat.zero_add, Nat.reduceEqDiff, false_and, and_false, and_true, true_and, if_true, if_false, ↓reduceIte]; rw [q4, if_pos (by have := hz z; omega), hz z]
        · simp only [up3, eq_self, asb, Nat.add_zero, Nat.zero_add, Nat.reduceEqDiff, false_and, and_false, and_true, true_and, if_true, if_false, ↓reduceIte]
        · simp only [up3, eq_self, asb, Nat.add_zero, Nat.zero_add, Nat.reduceEqDiff, false_and, and_false, and_true, true_and, if_true, if_false, ↓reduceIte]
        · simp only [up3, eq_self, asb, Nat.add_zero, Nat.zero_add, Nat.reduceEqDiff, false_and, and_false, and_true, true_and, if_true, if_false, ↓reduceIte]
    · obtain ⟨q3, q4⟩ := q2 z
      refine wpvL R6 aj rfl (dv x7 h7) (fun h14 R14 => ⟨ne_ti ⟨vlL (by decide), by decide⟩, ?_⟩)
      refine wpvI R14 aj rfl (rm x7 h7) (fun h15 R15 => k0 h15 _ R15 (Ft.up (Ft.up F6 (by decide)) (by decide)) ?_ ?_ ?_ ?_ ?_)
      · simp only [up3, eq_self, asb, Nat.add_zero, Nat.zero_add, Nat.reduceEqDiff, false_and, and_false, and_true, true_and, if_true, if_false, ↓reduceIte]; rw [q3]
      · simp only [up3, eq_self, asb, Nat.add_zero, Nat.zero_add, Nat.reduceEqDiff, false_and, and_false, and_true, true_and, if_true, if_false, ↓reduceIte]; rw [q4]
      · simp only [up3, eq_self, asb, Nat.add_zero, Nat.zero_add, Nat.reduceEqDiff, false_and, and_false, and_true, true_and, if_true, if_false, ↓reduceIte]
      · simp only [up3, eq_self, asb, Nat.add_zero, Nat.zero_add, Nat.reduceEqDiff, false_and, and_false, and_true, true_and, if_true, if_false, ↓reduceIte]
      · simp only [up3, eq_self, asb, Nat.add_zero, Nat.zero_add, Nat.reduceEqDiff, false_and, and_false, and_true, true_and, if_true, if_false, ↓reduceIte]
  · refine wio R aj rfl (by decide) (c_prog (Or.inr rfl) hk R e1 e2 ⟨t3, cyc⟩ ⟨t4, t5⟩ (fun x2 h2 => ?_))
    refine wpvL R aj rfl (v := p) (h2.trans hp.symm) (fun h3 R3 => ?_)
    refine ygi R3 aj rfl (v := M (a + 3)) (by simp only [up3, eq_self, asb, Nat.add_zero, Nat.zero_add, Nat.reduceEqDiff, false_and, and_false, and_true, true_and, if_true, if_false, ↓reduceIte]; exact e3) (fun x4 h4 => ⟨gf x4 h4, ?_⟩)
    refine wpvI R3 aj rfl h4 (fun h5 R5 => wpvI R5 aj rfl (vl (by decide)) (fun h6 R6 => ?_))
    refine ygl R6 aj rfl (v := p) (by simp only [up3, eq_self, asb, Nat.add_zero, Nat.zero_add, Nat.reduceEqDiff, false_and, and_false, and_true, true_and, if_true, if_false, ↓reduceIte]) (fun x7 h7 => ?_)
    refine ygr R6 aj rfl e0 (nn_i (ygi R6 aS rfl (v := S 57 0 (M a).toNat) (by simp only [up3, eq_self, asb, Nat.add_zero, Nat.zero_add, Nat.reduceEqDiff, false_and, and_false, and_true, true_and, if_true, if_false, ↓reduceIte]; exact st.2.2.2.1) (fun x10 h10 => ?_)))
    have F6 := Ft.up (v := 0) (f := 3) (Ft.up (v := M (a + 3)) (f := 5) (Ft.up (v := p) (f := 4) (Ft.rf 24 k C) (by decide)) (by decide)) (by decide)
    refine ceq32 h10 (vl (by decide)) (fun z => ?_) (fun z => ⟨ne_ti ⟨vlL (by decide), by decide⟩, ?_⟩)
    · unfold vJ9_min_f86c9 vJ9_min_f86c9_b11
      obtain ⟨q3, q4⟩ := q1 z
      refine clt64 (vlL (by decide)) (sm x7 h7) (fun y => ?_) (fun y => ?_)
      · refine wpvI R6 aj rfl (v := 1000000) (nar_ti (vlL (by decide)) (by decide)) (fun h13 R13 => k0 h13 _ R13 (Ft.up F6 (by decide)) ?_ ?_ ?_ ?_ ?_)
        · simp only [up3, eq_self, asb, Nat.add_zero, Nat.zero_add, Nat.reduceEqDiff, false_and, and_false, and_true, true_and, if_true, if_false, ↓reduceIte]; rw [q3, e1]
        · simp only [up3, eq_self, asb, Nat.add_zero, Nat.zero_add, Nat.reduceEqDiff, false_and, and_false, and_true, true_and, if_true, if_false, ↓reduceIte]; rw [q4, if_neg (by have := hz z; omega)]
        · simp only [up3, eq_self, asb, Nat.add_zero, Nat.zero_add, Nat.reduceEqDiff, false_and, and_false, and_true, true_and, if_true, if_false, ↓reduceIte]
        · simp only [up3, eq_self, asb, Nat.add_zero, Nat.zero_add, Nat.reduceEqDiff, false_and, and_false, and_true, true_and, if_true, if_false, ↓reduceIte]
        · simp only [up3, eq_self, asb, Nat.add_zero, Nat.zero_add, Nat.reduceEqDiff, false_and, and_false, and_true, true_and, if_true, if_false, ↓reduceIte]
      · refine wpvI R6 aj rfl (v := p + x) (nar_ti (sm x7 h7) (by omega)) (fun h13 R13 => k0 h13 _ R13 (Ft.up F6 (by decide)) ?_ ?_ ?_ ?_ ?_)
        · simp only [up3, eq_self, asb, Nat.add_zero, Nat.zero_add, Nat.reduceEqDiff, false_and, and_false, and_true, true_and, if_true, if_false, ↓reduceIte]; rw [q3, e1]
        · simp only [up3, eq_self, asb, Nat.add_zero, Nat.zero_add, Nat.reduceEqDiff, false_and, and_false, and_true, true_and, if_true, if_false, ↓reduceIte]; rw [q4, if_pos (by have := hz z; omega), hz z]
        · simp only [up3, eq_self, asb, Nat.add_zero, Nat.zero_add, Nat.reduceEqDiff, false_and, and_false, and_true, true_and, if_true, if_false, ↓reduceIte]
        · simp only [up3, eq_self, asb, Nat.add_zero, Nat.zero_add, Nat.reduceEqDiff, false_and, and_false, and_true, true_and, if_true, if_false, ↓reduceIte]
        · simp only [up3, eq_self, asb, Nat.add_zero, Nat.zero_add, Nat.reduceEqDiff, false_and, and_false, and_true, true_and, if_true, if_false, ↓reduceIte]
    · obtain ⟨q3, q4⟩ := q2 z
      refine wpvL R6 aj rfl (dv x7 h7) (fun h14 R14 => ⟨ne_ti ⟨vlL (by decide), by decide⟩, ?_⟩)
      refine wpvI R14 aj rfl (rm x7 h7) (fun h15 R15 => k0 h15 _ R15 (Ft.up (Ft.up F6 (by decide)) (by decide)) ?_ ?_ ?_ ?_ ?_)
      · simp only [up3, eq_self, asb, Nat.add_zero, Nat.zero_add, Nat.reduceEqDiff, false_and, and_false, and_true, true_and, if_true, if_false, ↓reduceIte]; rw [q3]
      · simp only [up3, eq_self, asb, Nat.add_zero, Nat.zero_add, Nat.reduceEqDiff, false_and, and_false, and_true, true_and, if_true, if_false, ↓reduceIte]; rw [q4]
      · simp only [up3, eq_self, asb, Nat.add_zero, Nat.zero_add, Nat.reduceEqDiff, false_and, and_false, and_true, true_and, if_true, if_false, ↓reduceIte]
      · simp only [up3, eq_self, asb, Nat.add_zero, Nat.zero_add, Nat.reduceEqDiff, false_and, and_false, and_true, true_and, if_true, if_false, ↓reduceIte]
      · simp only [up3, eq_self, asb, Nat.add_zero, Nat.zero_add, Nat.reduceEqDiff, false_and, and_false, and_true, true_and, if_true, if_false, ↓reduceIte]
/-! at the machine: its tracks advanced -/
theorem c_advA {Qn : gH → Prop} {v1 : Int64} {x b : Int} (hk : k < 4) (Z : CQ h A N zz S k tq C0 P0 C P M) (I : SI S) (hns : 0 < S 38 0 19) (tr : trI S M 12 b) (hb : b ≤ 2000000000000) (h1 : v1.toInt = x) (hx : 0 ≤ x ∧ x ≤ 4000000) (k0 : ∀ (h' : gH) (C' : dC), CQ h' A N zz S k tq C0 P0 C' P (adv S M 12 x) → Ft 23 k C C' → C' 23 k 4 = prg M 12 → C' 23 k 5 = M 15 → Qn h') : vX8_advance t0 Qn h (A 23 k) v1 := by
  obtain ⟨R, K, J, F, G⟩ := Z
  refine c_advance (Or.inl rfl) hk R K I (a := 12) (J.sa hns) J.ta.1 J.ta.2.1 (J.ta.2.2 hns) tr hb h1 hx (fun h' C' R' f' d1 d2 d3 d4 d5 => k0 h' C' ⟨R', K.fr (fun j i f hj => f' j i f (by omega)) (fun _ _ _ _ => rfl), J.src f' (fun f a1 a2 a3 => adv_off (by omega)) ⟨d1, d2, d3.trans ?_⟩ ⟨Or.inl d3, by rw [d5]; exact tr.2.2.2.2.2.2.2⟩, fun j i f hj => (f' j i f fun z => hj (by rw [z.1, z.2.1]; exact mP_k (by decide))).trans (F j i f hj), G⟩ f' d4 d5)
  unfold adv
  exact (um_s _ _ _).symm
theorem c_advB {Qn : gH → Prop} {v1 : Int64} {x b : Int} (hk : k < 4) (Z : CQ h A N zz S k tq C0 P0 C P M) (I : SI S) (h8 : M 8 = 1) (tr : trI S M 16 b) (hb : b ≤ 2000000000000) (h1 : v1.toInt = x) (hx : 0 ≤ x ∧ x ≤ 4000000) (k0 : ∀ (h' : gH) (C' : dC), CQ h' A N zz S k tq C0 P0 C' P (adv S M 16 x) → Ft 24 k C C' → C' 24 k 4 = prg M 16 → C' 24 k 5 = M 19 → Qn h') : vX8_advance t0 Qn h (A 24 k) v1 := by
  obtain ⟨R, K, J, F, G⟩ := Z
  have sb := J.sb h8
  refine c_advance (Or.inr rfl) hk R K I (a := 16) sb.1 sb.2.1 sb.2.2.1 sb.2.2.2 tr hb h1 hx (fun h' C' R' f' d1 d2 d3 d4 d5 => k0 h' C' ⟨R', K.fr (fun j i f hj => f' j i f (by omega)) (fun _ _ _ _ => rfl), J.tgt f' (fun f a1 a2 a3 => adv_off (by omega)) ⟨d1, d2, d3.trans ?_⟩ ⟨Or.inl d3, by rw [d5]; exact tr.2.2.2.2.2.2.2⟩, fun j i f hj => (f' j i f fun z => hj (by rw [z.1, z.2.1]; exact mP_k (by decide))).trans (F j i f hj), G⟩ f' d4 d5)
  unfold adv
  exact (um_s _ _ _).symm
/-! steps and shares -/
theorem c_stepOf {Qn : Int64 → gH → Prop} {a : Nat} (hk : k < 4) (Z : CQ h A N zz S k tq C0 P0 C P M) (I : SI S) (hVb : ∀ p : Nat, p < 8 → -100 ≤ M p ∧ M p ≤ 100) (hs : 0 ≤ M a ∧ M a < S 38 0 19) (k0 : ∀ (x : Int64) (h' : gH) (C' : dC), CQ h' A N zz S k tq C0 P0 C' P M → Kb C C' k → x.toInt = stp S M a → Qn x h') : vX3_stepOf t0 Qn h (A 21 k) (some (A 14 ((M a).toNat + 1))) := by
  have K := Z.2.1
  have st := K.st (M a).toNat (by have := K.nn; omega)
  have sp := I.sp (M a).toNat (by omega)
  have ln := lenS_in I M (s := (M a).toNat) (by omega)
  unfold vX3_stepOf vX3_stepBy vX3_stepBy_b21
  refine nn_i (ygi Z.1 (st_in K (by omega)) rfl st.2.2.1 (fun x2 h2 => iom hk Z.1 ?_))
  refine c_length hk Z I hVb (s := (M a).toNat) (by omega) (fun x4 h' C' Z' B' h4 => ?_)
  refine clt64 (vlL (by decide)) (wid_ti h4) (fun _ => ⟨ne_ti ⟨mulL_ti (vlL (by decide)) (wid_ti h4) (by omega), by omega⟩, k0 _ h' C' Z' B' ?_⟩) (fun z => by omega)
  exact stepL (wid_ti h2) (wid_ti h4) (by omega) (by omega)
theorem c_share {Qn : Int32 → gH → Prop} (hk : k < 4) (Z : CQ h A N zz S k tq C0 P0 C P M) (I : SI S) (h8 : M 8 = 1) (h9 : 0 ≤ M 9 ∧ M 9 < S 38 0 21) (h10 : 0 ≤ M 10 ∧ M 10 ≤ durS S (M 9).toNat) (hd : 0 < durS S (M 9).toNat) (k0 : ∀ x : Int32, x.toInt = shr S M → Qn x h) : vX3_targetShare t0 Qn h (A 21 k) := by
  obtain ⟨R, K, J, F, G⟩ := Z
  have mx := J.mx h8
  have nn := K.nn
  have tr := K.tr (M 9).toNat (by omega)
  have aT : ac N 15 ((M 9).toNat + 1) := show (M 9).toNat + 1 < N 3 + 1 by omega
  have i2 := I.td (M 9).toNat (by omega)
  have am : ac N 21 k := hk
  have hd' : durS S (M 9).toNat = S 60 0 (17 * (M 9).toNat + 2) := rfl
  have sh := shr_in h10 hd
  unfold vX3_targetShare vX3_targetShare_b17
  refine ygr R am rfl mx.1 ⟨(fun z => by cases z), fun a2 _ => ?_⟩
  refine ygr R am rfl mx.1 (nn_i (ygi R aT rfl tr.2.1 (fun x5 h5 => ?_)))
  refine clt32 (vl (by decide)) h5 (fun _ => ?_) (fun z => by omega)
  refine ygi R am rfl mx.2 (fun x6 h6 => ygr R am rfl mx.1 (nn_i (ygi R aT rfl tr.2.1 (fun x9 h9' => ⟨ne_ti ⟨wid_ti h9', by omega⟩, k0 _ ?_⟩))))
  have : ((1000000 * (Int32.toInt64 x6)) / (Int32.toInt64 x9)).toInt = shr S M := divL_ti (mulL_ti (vlL (by decide)) (wid_ti h6) (by omega)) (wid_ti h9') (by omega) (by omega)
  exact nar_ti this (by omega)
end CT
