/-! ===== the class: a transition is changed ===== -/
section CT2
variable {h : gH} {A : dA} {N zz : Nat → Nat} {S S' C C' C0 : dC} {P P0 : dP} {t0 k : Nat} {tq tb : Int} {M : dM}
def mxC (C C' : dC) (t : Nat) : dC := fun j i f => if (15 ≤ j ∧ j ≤ 18) ∧ i = t + 1 then C' j i f else C j i f
def mxS (S S' : dC) : dC := fun j i f => if j = 60 then S' j i f else S j i f
def t60 (t f : Nat) : Prop := 17 * t + 3 ≤ f ∧ f < 17 * t + 17
theorem KS.trn {t : Nat} (K : KS S N zz C P) (ht : t < N 3) (fS : ∀ j f : Nat, sta j f = true → ¬ (j = 60 ∧ t60 t f) → S' j 0 f = S j 0 f) (fC : ∀ j i f : Nat, ¬ ((15 ≤ j ∧ j ≤ 18) ∧ i = t + 1) → C' j i f = C j i f) (h1 : C' 15 (t + 1) 0 = (t : Int) ∧ C' 15 (t + 1) 3 = S' 60 0 (17 * t + 2) ∧ C' 15 (t + 1) 4 = S' 60 0 (17 * t + 3) ∧ C' 15 (t + 1) 5 = S' 60 0 (17 * t + 4) ∧ C' 15 (t + 1) 6 = S' 60 0 (17 * t + 5) ∧ C' 15 (t + 1) 7 = S' 60 0 (17 * t + 6) ∧ C' 15 (t + 1) 11 = S' 60 0 (17 * t + 7)) (h2 : ∀ k : Nat, (k : Int) < S' 60 0 (17 * t + 7) → C' 16 (t + 1) k = S' 60 0 (17 * t + 8 + 3 * k) ∧ C' 17 (t + 1) k = S' 60 0 (17 * t + 8 + 3 * k + 1) ∧ C' 18 (t + 1) k = S' 60 0 (17 * t + 8 + 3 * k + 2)) (h3 : ∀ t' : Nat, t' < N 3 → S 60 0 (17 * t' + 7) ≤ 3) : KS S' N zz C' P := by
  have s60 : ∀ f, sta 60 f = true := fun _ => rfl
  have e60 : ∀ t' d : Nat, t' ≠ t → d < 17 → S' 60 0 (17 * t' + d) = S 60 0 (17 * t' + d) := fun t' d h1 h2 => fS 60 _ (s60 _) (fun z => by have := z.2; unfold t60 at this; omega)
  have e6l : ∀ d : Nat, d < 3 → S' 60 0 (17 * t + d) = S 60 0 (17 * t + d) := fun d h2 => fS 60 _ (s60 _) (fun z => by have := z.2; unfold t60 at this; omega)
  have tf : ∀ t' : Nat, t' < N 3 → P 15 (t' + 1) 1 = (if S' 60 0 (17 * t') = -1 then none else some (14, (S' 60 0 (17 * t')).toNat + 1)) ∧ P 15 (t' + 1) 2 = some (14, (S' 60 0 (17 * t' + 1)).toNat + 1) := fun t' h => by
    have q := K.tf t' h
    by_cases z : t' = t
    · rw [z] at q ⊢
      rw [show S' 60 0 (17 * t) = S 60 0 (17 * t) from e6l 0 (by decide), e6l 1 (by decide)]
      exact q
    · rw [show S' 60 0 (17 * t') = S 60 0 (17 * t') from e60 t' 0 z (by decide), e60 t' 1 z (by decide)]
      exact q
  have tr : ∀ t' : Nat, t' < N 3 → C' 15 (t' + 1) 0 = (t' : Int) ∧ C' 15 (t' + 1) 3 = S' 60 0 (17 * t' + 2) ∧ C' 15 (t' + 1) 4 = S' 60 0 (17 * t' + 3) ∧ C' 15 (t' + 1) 5 = S' 60 0 (17 * t' + 4) ∧ C' 15 (t' + 1) 6 = S' 60 0 (17 * t' + 5) ∧ C' 15 (t' + 1) 7 = S' 60 0 (17 * t' + 6) ∧ C' 15 (t' + 1) 11 = S' 60 0 (17 * t' + 7) := fun t' h => by
    by_cases z : t' = t
    · rw [z]; exact h1
    · have q := K.tr t' h
      have g := fun f => fC 15 (t' + 1) f (fun y => z (by omega))
      rw [g, g, g, g, g, g, g, e60 t' 2 z (by decide), e60 t' 3 z (by decide), e60 t' 4 z (by decide), e60 t' 5 z (by decide), e60 t' 6 z (by decide), e60 t' 7 z (by decide)]
      exact q
  have tc : ∀ t' k : Nat, t' < N 3 → (k : Int) < S' 60 0 (17 * t' + 7) → C' 16 (t' + 1) k = S' 60 0 (17 * t' + 8 + 3 * k) ∧ C' 17 (t' + 1) k = S' 60 0 (17 * t' + 8 + 3 * k + 1) ∧ C' 18 (t' + 1) k = S' 60 0 (17 * t' + 8 + 3 * k + 2) := fun t' k h hk => by
    by_cases z : t' = t
    · rw [z] at hk ⊢; exact h2 k hk
    · have h3 := h3 t' h
      rw [e60 t' 7 z (by decide)] at hk
      have q := K.tc t' k h hk
      have g := fun (j f : Nat) => fC j (t' + 1) f (fun y => z (by omega))
      have w := fun d (hd : d < 3) => (show S' 60 0 (17 * t' + 8 + 3 * k + d) = S 60 0 (17 * t' + 8 + 3 * k + d) by rw [show 17 * t' + 8 + 3 * k + d = 17 * t' + (8 + 3 * k + d) by omega]; exact e60 t' _ z (by omega))
      rw [g, g, g, show S' 60 0 (17 * t' + 8 + 3 * k) = S 60 0 (17 * t' + 8 + 3 * k) from w 0 (by decide), w 1 (by decide), w 2 (by decide)]
      exact q
  have c1 : ∀ j i f, mxC C C' t j i f = C' j i f := fun j i f => by
    unfold mxC
    by_cases z : (15 ≤ j ∧ j ≤ 18) ∧ i = t + 1
    · rw [if_pos z]
    · rw [if_neg z, fC j i f z]
  have c2 : mxC C C' t = C' := funext fun j => funext fun i => funext fun f => c1 j i f
  have K1 : KS (mxS S S') N zz (mxC C C' t) P := by
    have tr1 : ∀ t' : Nat, t' < N 3 → mxC C C' t 15 (t' + 1) 0 = (t' : Int) ∧ mxC C C' t 15 (t' + 1) 3 = S' 60 0 (17 * t' + 2) ∧ mxC C C' t 15 (t' + 1) 4 = S' 60 0 (17 * t' + 3) ∧ mxC C C' t 15 (t' + 1) 5 = S' 60 0 (17 * t' + 4) ∧ mxC C C' t 15 (t' + 1) 6 = S' 60 0 (17 * t' + 5) ∧ mxC C C' t 15 (t' + 1) 7 = S' 60 0 (17 * t' + 6) ∧ mxC C C' t 15 (t' + 1) 11 = S' 60 0 (17 * t' + 7) := fun t' h => by rw [c2]; exact tr t' h
    have tc1 : ∀ t' k : Nat, t' < N 3 → (k : Int) < S' 60 0 (17 * t' + 7) → mxC C C' t 16 (t' + 1) k = S' 60 0 (17 * t' + 8 + 3 * k) ∧ mxC C C' t 17 (t' + 1) k = S' 60 0 (17 * t' + 8 + 3 * k + 1) ∧ mxC C C' t 18 (t' + 1) k = S' 60 0 (17 * t' + 8 + 3 * k + 2) := fun t' k h hk => by rw [c2]; exact tc t' k h hk
    unfold KS KS0 at *
    exact ⟨K.1, K.2.1, K.2.2.1, K.2.2.2.1, K.2.2.2.2.1, K.2.2.2.2.2.1, K.2.2.2.2.2.2.1, K.2.2.2.2.2.2.2.1, K.2.2.2.2.2.2.2.2.1, K.2.2.2.2.2.2.2.2.2.1, K.2.2.2.2.2.2.2.2.2.2.1, K.2.2.2.2.2.2.2.2.2.2.2.1, K.2.2.2.2.2.2.2.2.2.2.2.2.1, K.2.2.2.2.2.2.2.2.2.2.2.2.2.1, K.2.2.2.2.2.2.2.2.2.2.2.2.2.2.1, K.2.2.2.2.2.2.2.2.2.2.2.2.2.2.2.1, K.2.2.2.2.2.2.2.2.2.2.2.2.2.2.2.2.1, K.2.2.2.2.2.2.2.2.2.2.2.2.2.2.2.2.2.1, tf, tr1, tc1, K.2.2.2.2.2.2.2.2.2.2.2.2.2.2.2.2.2.2.2.2.2⟩
  rw [c2] at K1
  exact K1.s0 (fun j f hj => by
    unfold mxS
    by_cases z : j = 60
    · rw [if_pos z]
    · rw [if_neg z]
      exact fS j f hj (fun y => z y.1))
theorem q_setTiming {Qn : Int32 → gH → Prop} {Qx : String → gH → Prop} {v e s : Int32} (R : D h A N zz C P) (K : KS S N zz C P) (kx : v.toInt < 0 ∨ S 38 0 21 ≤ v.toInt → Qx "java/lang/IndexOutOfBoundsException" h) (ky : 0 ≤ v.toInt → v.toInt < S 38 0 21 → (e.toInt < -1 ∨ 300 < e.toInt) ∨ (s.toInt < 0 ∨ 99 < s.toInt) → Qx "java/lang/IllegalArgumentException" h) (kz : 0 ≤ v.toInt → v.toInt < S 38 0 21 → -1 ≤ e.toInt → e.toInt ≤ 300 → 0 ≤ s.toInt → s.toInt ≤ 99 → e.toInt ≠ -1 → S 60 0 (17 * v.toInt.toNat) = -1 → Qx "java/lang/IllegalStateException" h) (k0 : 0 ≤ v.toInt → v.toInt < S 38 0 21 → -1 ≤ e.toInt → e.toInt ≤ 300 → 0 ≤ s.toInt → s.toInt ≤ 99 → (e.toInt = -1 ∨ S 60 0 (17 * v.toInt.toNat) ≠ -1) → ∀ (x : Int32) (h' : gH), D h' A N zz (up3 (up3 C 15 (v.toInt.toNat + 1) 4 e.toInt) 15 (v.toInt.toNat + 1) 5 s.toInt) P → x.toInt = S 60 0 (17 * v.toInt.toNat + 3) → Qn x h') : vX11_setTiming t0 Qn Qx h (A 0 0) v e s := by
  have m1 : (-1 : Int32).toInt = -1 := by decide
  have n0 := K.nn
  unfold vX11_setTiming vX11_setTiming_b29
  refine i00 R (q_transition_ R K kx (fun t hv ht => ?_))
  have ev : v.toInt.toNat = t := by omega
  rw [ev] at kz k0
  have ky := ky (by omega) (by omega)
  have kz := kz (by omega) (by omega)
  have k0 := k0 (by omega) (by omega)
  have aT := tr_in K ht
  have tr := K.tr t (by omega)
  have tf := K.tf t (by omega)
  have fin : -1 ≤ e.toInt → e.toInt ≤ 300 → 0 ≤ s.toInt → s.toInt ≤ 99 → (e.toInt = -1 ∨ S 60 0 (17 * t) ≠ -1) → vX11_setTiming_b62 t0 Qn Qx h e s (some (A 15 (t + 1))) := fun a b c d q => by
    unfold vX11_setTiming_b62
    exact nn_i (ygi R aT rfl tr.2.2.1 (fun x2 h2 => wpvI R aT rfl (v := e.toInt) rfl (fun h3 R3 => wpvI R3 aT rfl (v := s.toInt) rfl (fun h4 R4 => k0 a b c d q x2 h4 R4 h2))))
  refine clt32 rfl m1 (fun z => ky (Or.inl (Or.inl z))) (fun a => clt32 (vl (by decide)) rfl (fun z => ky (Or.inl (Or.inr z))) (fun b => clt32 rfl (vl (by decide)) (fun z => ky (Or.inr (Or.inl z))) (fun c => cle32 rfl (vl (by decide)) (fun d => ?_) (fun z => ky (Or.inr (Or.inr (by omega)))))))
  refine ceq32 rfl m1 (fun q => fin (by omega) (by omega) (by omega) d (Or.inl q)) (fun q => nn_i ?_)
  by_cases y : S 60 0 (17 * t) = -1
  · rw [if_pos y] at tf
    exact ygn R aT rfl tf.1 ⟨fun _ => kz (by omega) (by omega) (by omega) d q y, fun a z => by cases z⟩
  · rw [if_neg y] at tf
    exact ygr R aT rfl tf.1 ⟨(fun z => by cases z), fun a z => fin (by omega) (by omega) (by omega) d (Or.inr y)⟩
theorem q_setInterruption {Qn : Int32 → gH → Prop} {Qx : String → gH → Prop} {v e s : Int32} (R : D h A N zz C P) (K : KS S N zz C P) (hz : s.toInt = 0 ∨ s.toInt = 1) (kx : v.toInt < 0 ∨ S 38 0 21 ≤ v.toInt → Qx "java/lang/IndexOutOfBoundsException" h) (ky : 0 ≤ v.toInt → v.toInt < S 38 0 21 → (e.toInt < 0 ∨ 4 < e.toInt) → Qx "java/lang/IllegalArgumentException" h) (k0 : 0 ≤ v.toInt → v.toInt < S 38 0 21 → 0 ≤ e.toInt → e.toInt ≤ 4 → ∀ (x : Int32) (h' : gH), D h' A N zz (up3 (up3 C 15 (v.toInt.toNat + 1) 6 e.toInt) 15 (v.toInt.toNat + 1) 7 s.toInt) P → x.toInt = S 60 0 (17 * v.toInt.toNat + 5) → Qn x h') : vX11_setInterruption t0 Qn Qx h (A 0 0) v e s := by
  have n0 := K.nn
  unfold vX11_setInterruption vX11_setInterruption_b16
  refine i00 R (q_transition_ R K kx (fun t hv ht => ?_))
  have ev : v.toInt.toNat = t := by omega
  rw [ev] at k0
  have ky := ky (by omega) (by omega)
  have k0 := k0 (by omega) (by omega)
  have aT := tr_in K ht
  have tr := K.tr t (by omega)
  refine clt32 rfl (vl (by decide)) (fun z => ky (Or.inl z)) (fun a => cle32 rfl (vl (by decide)) (fun b => nn_i ?_) (fun b => ky (Or.inr (by omega))))
  exact ygi R aT rfl tr.2.2.2.2.1 (fun x4 h4 => wpvI R aT rfl (v := e.toInt) rfl (fun h5 R5 => ⟨gZ_of hz, wpvI R5 aT rfl (v := s.toInt) rfl (fun h6 R6 => k0 (by omega) b x4 h6 R6 h4)⟩))
abbrev cnd (kd o v : Int) : Prop := (kd = 0 ∧ 0 ≤ o ∧ o ≤ 3 ∧ -100 ≤ v ∧ v ≤ 100) ∨ (kd = 1 ∧ o = 2 ∧ 0 ≤ v ∧ v ≤ 1) ∨ (kd ≠ 0 ∧ kd ≠ 1 ∧ o = 2 ∧ v = 1)
theorem q_isCond {Qn : Int32 → gH → Prop} {p o v : Int32} {n : Nat} (R : D h A N zz C P) (K : KS S N zz C P) (I : SI S) (hp : p.toInt = (n : Int)) (hn : (n : Int) < S 38 0 3) (k1 : cnd (S 42 0 n) o.toInt v.toInt → Qn 1 h) (k0 : ¬ cnd (S 42 0 n) o.toInt v.toInt → Qn 0 h) : vX4_isCondition t0 Qn h (A 4 0) p o v := by
  have g0 : gZ 0 := gZ_of (by decide)
  have g1 : gZ 1 := gZ_of (by decide)
  unfold vX4_isCondition vX4_isCondition_b54 vX4_isCondition_b55 vX4_isCondition_b74 vX4_isCondition_b75 vX4_isCondition_b90 vX4_isCondition_b91
  refine wio R a40 rfl (by decide) (c_kind R K I hp hn (fun x2 h2 => ⟨fun z => ?_, fun z => ?_, fun z => ?_⟩))
  · rw [h2] at z
    refine clt32 rfl (vl (by decide)) (fun y => ⟨g0, k0 (by unfold cnd; omega)⟩) (fun a => clt32 (vl (by decide)) rfl (fun y => ⟨g0, k0 (by unfold cnd; omega)⟩) (fun b => wio R a40 rfl (by decide) ?_))
    exact q_isValue R K I hp hn (fun c _ => yes1 ⟨g1, k1 (by have := c z; unfold cnd; omega)⟩) (fun c => no1 ⟨g0, k0 (fun q => c ⟨fun _ => by unfold cnd at q; omega, fun y => absurd z y⟩)⟩)
  · rw [h2] at z
    refine cne32 rfl (vl (by decide)) (fun y => ⟨g0, k0 (by unfold cnd; omega)⟩) (fun a => wio R a40 rfl (by decide) ?_)
    exact q_isValue R K I hp hn (fun _ c => yes1 ⟨g1, k1 (by have := c (by omega); unfold cnd; omega)⟩) (fun c => no1 ⟨g0, k0 (fun q => c ⟨fun y => by omega, fun _ => by unfold cnd at q; omega⟩)⟩)
  · rw [h2] at z
    refine cne32 rfl (vl (by decide)) (fun y => ⟨g0, k0 (by unfold cnd; omega)⟩) (fun a => cne32 rfl (vl (by decide)) (fun y => ⟨g0, k0 (by unfold cnd; omega)⟩) (fun b => ⟨g1, k1 (by unfold cnd; omega)⟩))
theorem q_appendCondition {Qn : gH → Prop} {p o v : Int32} {i n : Nat} (R : D h A N zz C P) (hi : ac N 15 i) (hn : C 15 i 11 = (n : Int)) (h3 : n < 3) (k0 : ∀ h' : gH, D h' A N zz (up3 (up3 (up3 (up3 C 16 i n p.toInt) 17 i n o.toInt) 18 i n v.toInt) 15 i 11 ((n : Int) + 1)) P → Qn h') : vX9_appendCondition t0 Qn h (A 15 i) p o v := by
  have a16 : ac N 16 i := hi
  have a17 : ac N 17 i := hi
  have a18 : ac N 18 i := hi
  unfold vX9_appendCondition vX9_appendCondition_b55
  refine ygi R hi rfl hn (fun x1 h1 => clt32 h1 (vl (by decide)) (fun z => by omega) (fun _ => ygi R hi rfl hn (fun x2 h2 => cle32 (vl (by decide)) h2 (fun z => by omega) (fun _ => ?_))))
  refine wgrs R hi rfl (show dS 15 i 8 = some (16, i) from rfl) (ygi R hi rfl hn (fun x4 h4 => nn_i (wsi R a16 rfl h4 (show n < 3 from h3) (rfl : p.toInt = p.toInt) (fun h6 R6 => ?_))))
  refine wgrs R6 hi rfl (show dS 15 i 9 = some (17, i) from rfl) (ygi R6 hi rfl (v := (n : Int)) ((up3_ne _ _ (by omega)).trans hn) (fun x8 h8 => nn_i (wsi R6 a17 rfl h8 (show n < 3 from h3) (rfl : o.toInt = o.toInt) (fun h10 R10 => ?_))))
  refine wgrs R10 hi rfl (show dS 15 i 10 = some (18, i) from rfl) (ygi R10 hi rfl (v := (n : Int)) ((up3_ne _ _ (by omega)).trans ((up3_ne _ _ (by omega)).trans hn)) (fun x12 h12 => nn_i (wsi R10 a18 rfl h12 (show n < 3 from h3) (rfl : v.toInt = v.toInt) (fun h14 R14 => ?_))))
  exact ygi R14 hi rfl (v := (n : Int)) ((up3_ne _ _ (by omega)).trans ((up3_ne _ _ (by omega)).trans ((up3_ne _ _ (by omega)).trans hn))) (fun x15 h15 => wpvI R14 hi rfl (v := (n : Int) + 1) (add_ti h15 (vl (by decide)) (by omega)) (fun h16 R16 => k0 h16 R16))
theorem q_addCondition {Qn : Int32 → gH → Prop} {Qx : String → gH → Prop} {v p o w : Int32} (R : D h A N zz C P) (K : KS S N zz C P) (I : SI S) (kx : (v.toInt < 0 ∨ S 38 0 21 ≤ v.toInt) ∨ (p.toInt < 0 ∨ S 38 0 3 ≤ p.toInt) → Qx "java/lang/IndexOutOfBoundsException" h) (ky : 0 ≤ v.toInt → v.toInt < S 38 0 21 → 0 ≤ p.toInt → p.toInt < S 38 0 3 → ¬ cnd (S 42 0 p.toInt.toNat) o.toInt w.toInt → Qx "java/lang/IllegalArgumentException" h) (kz : 0 ≤ v.toInt → v.toInt < S 38 0 21 → 0 ≤ p.toInt → p.toInt < S 38 0 3 → cnd (S 42 0 p.toInt.toNat) o.toInt w.toInt → 3 ≤ S 60 0 (17 * v.toInt.toNat + 7) → Qx "java/lang/IllegalStateException" h) (k0 : 0 ≤ v.toInt → v.toInt < S 38 0 21 → 0 ≤ p.toInt → p.toInt < S 38 0 3 → cnd (S 42 0 p.toInt.toNat) o.toInt w.toInt → S 60 0 (17 * v.toInt.toNat + 7) < 3 → ∀ (x : Int32) (h' : gH), D h' A N zz (up3 (up3 (up3 (up3 C 16 (v.toInt.toNat + 1) (S 60 0 (17 * v.toInt.toNat + 7)).toNat p.toInt) 17 (v.toInt.toNat + 1) (S 60 0 (17 * v.toInt.toNat + 7)).toNat o.toInt) 18 (v.toInt.toNat + 1) (S 60 0 (17 * v.toInt.toNat + 7)).toNat w.toInt) 15 (v.toInt.toNat + 1) 11 (S 60 0 (17 * v.toInt.toNat + 7) + 1)) P → x.toInt = S 60 0 (17 * v.toInt.toNat + 7) + 1 → Qn x h') : vX11_addCondition t0 Qn Qx h (A 0 0) v p o w := by
  have n0 := K.nn
  unfold vX11_addCondition
  refine i00 R (q_transition_ R K (fun z => kx (Or.inl z)) (fun t hv ht => i00 R (q_param R K I (fun z => kx (Or.inr z)) (fun n hp hn n8 => ?_))))
  have ev : v.toInt.toNat = t := by omega
  have ep : p.toInt.toNat = n := by omega
  rw [ev, ep] at k0 kz
  rw [ep] at ky
  have ky := ky (by omega) (by omega) (by omega) (by omega)
  have kz := kz (by omega) (by omega) (by omega) (by omega)
  have k0 := k0 (by omega) (by omega) (by omega) (by omega)
  have aT := tr_in K ht
  have tr := K.tr t (by omega)
  have ic := I.tc t ht
  refine g_mdl R (nn_i (wio R a40 rfl (by decide) (q_isCond R K I hp hn (fun c => yes0 (nn_i ?_)) (fun c => no0 (ky c)))))
  have hnn : S 60 0 (17 * t + 7) = (((S 60 0 (17 * t + 7)).toNat : Nat) : Int) := by omega
  refine ygi R aT rfl tr.2.2.2.2.2.2 (fun x9 h9 => clt32 h9 (vl (by decide)) (fun y => wio R aT rfl (by decide) ?_) (fun y => kz c (by omega)))
  refine q_appendCondition R aT (n := (S 60 0 (17 * t + 7)).toNat) (tr.2.2.2.2.2.2.trans hnn) (by omega) (fun h10 R10 => ?_)
  rw [← hnn] at R10
  exact ygi R10 aT rfl (up3_same _ _ _ _ _) (fun x hx => k0 c y x h10 R10 hx)
end CT2
