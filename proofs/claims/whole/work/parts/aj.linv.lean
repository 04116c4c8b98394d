/-! ===== what holds at the head of the law's loop ===== -/
def sl_ (C : dC) (s : Nat) : dM := fun f => C 40 0 (290 + 290 * s + f)
/-- an image that was kept, behind j calls -/
def IM (j s : Nat) (C : dC) (P : dP) : Prop := 0 < C 38 0 19 ∧ MI C (100 * (j : Int)) (sl_ C s) ∧ CP C (s + 1) (sl_ C s 287) (sl_ C s) C P ∧ (0 ≤ sl_ C s 287 ∧ sl_ C s 287 ≤ 100 * (j : Int)) ∧ (0 ≤ sl_ C s 289 ∧ sl_ C s 289 ≤ C 38 0 3) ∧ ∀ p : Nat, p < 8 → sl_ C s 289 ≤ p → sl_ C s p = 0
def LJ (j : Nat) (N : Nat → Nat) (zz : Nat → Nat) (C : dC) (P : dP) : Prop := (SI C) ∧ (KS C N zz C P) ∧ (MI C (100 * (j : Int)) (C 40 0)) ∧ (CP C 0 (C 40 0 287) (C 40 0) C P) ∧ (0 ≤ C 40 0 287 ∧ C 40 0 287 ≤ 100 * (j : Int)) ∧ (∀ p : Nat, C 38 0 3 ≤ p → p < 8 → C 40 0 p = 0) ∧ (∀ c : Nat, C 38 0 8 ≤ c → c < 12 → C 45 0 c = 0) ∧ (∀ s : Nat, s < 2 → C 2 0 s = C 41 0 s ∧ (C 41 0 s = 0 ∨ C 41 0 s = 1)) ∧ (∀ s : Nat, s < 2 → C 41 0 s = 1 → IM j s C P)
theorem LJ.si {j : Nat} {N : Nat → Nat} {zz : Nat → Nat} {C : dC} {P : dP} (I : LJ j N zz C P) : SI C := I.1
theorem LJ.ks {j : Nat} {N : Nat → Nat} {zz : Nat → Nat} {C : dC} {P : dP} (I : LJ j N zz C P) : KS C N zz C P := I.2.1
theorem LJ.mi {j : Nat} {N : Nat → Nat} {zz : Nat → Nat} {C : dC} {P : dP} (I : LJ j N zz C P) : MI C (100 * (j : Int)) (C 40 0) := I.2.2.1
theorem LJ.cp {j : Nat} {N : Nat → Nat} {zz : Nat → Nat} {C : dC} {P : dP} (I : LJ j N zz C P) : CP C 0 (C 40 0 287) (C 40 0) C P := I.2.2.2.1
theorem LJ.tq {j : Nat} {N : Nat → Nat} {zz : Nat → Nat} {C : dC} {P : dP} (I : LJ j N zz C P) : 0 ≤ C 40 0 287 ∧ C 40 0 287 ≤ 100 * (j : Int) := I.2.2.2.2.1
theorem LJ.vz {j : Nat} {N : Nat → Nat} {zz : Nat → Nat} {C : dC} {P : dP} (I : LJ j N zz C P) : ∀ p : Nat, C 38 0 3 ≤ p → p < 8 → C 40 0 p = 0 := I.2.2.2.2.2.1
theorem LJ.cz {j : Nat} {N : Nat → Nat} {zz : Nat → Nat} {C : dC} {P : dP} (I : LJ j N zz C P) : ∀ c : Nat, C 38 0 8 ≤ c → c < 12 → C 45 0 c = 0 := I.2.2.2.2.2.2.1
theorem LJ.im {j : Nat} {N : Nat → Nat} {zz : Nat → Nat} {C : dC} {P : dP} (I : LJ j N zz C P) : ∀ s : Nat, s < 2 → C 2 0 s = C 41 0 s ∧ (C 41 0 s = 0 ∨ C 41 0 s = 1) := I.2.2.2.2.2.2.2.1
theorem LJ.ik {j : Nat} {N : Nat → Nat} {zz : Nat → Nat} {C : dC} {P : dP} (I : LJ j N zz C P) : ∀ s : Nat, s < 2 → C 41 0 s = 1 → IM j s C P := I.2.2.2.2.2.2.2.2
def LI (t0 x mm o : Nat) (j : Nat) (h : gH) : Prop := ∃ (A : dA) (N zz : Nat → Nat) (C : dC) (P : dP), A 8 0 = t0 ∧ A 0 0 = x ∧ A 38 0 = mm ∧ A 90 0 = o ∧ D h A N zz C P ∧ LJ j N zz C P
/-- states and transitions are added, not changed -/
def MV (C C2 : dC) : Prop := C 38 0 19 ≤ C2 38 0 19 ∧ C 38 0 21 ≤ C2 38 0 21 ∧ (∀ s : Nat, ((s : Int) < C 38 0 19 ∨ C2 38 0 19 = C 38 0 19) → C2 57 0 s = C 57 0 s) ∧ ∀ t : Nat, (t : Int) < C 38 0 21 → C2 60 0 (17 * t + 2) = C 60 0 (17 * t + 2)
/-- columns that a call of the reference leaves as they are, but the machines' numbers -/
def RF (C C2 : dC) : Prop := ∀ j i f : Nat, j < 66 → ¬ (j = 38 ∧ (f = 25 ∨ 30 ≤ f)) → j ≠ 40 → C2 j i f = C j i f
section LIV
variable {h h2 h3 : gH} {A A3 : dA} {N zz N3 zz3 : Nat → Nat} {C C1 C2 C3 : dC} {P P1 P2 P3 : dP} {M : dM} {tb tc tq : Int} {t0 x mm o : Nat} {j s k : Nat}
theorem Hi.rf : Hi C C := fun _ _ _ _ => rfl
theorem Hi.tr (a : Hi C C1) (b : Hi C1 C2) : Hi C C2 := fun j f h s => (b j f h s).trans (a j f h s)
theorem RF.tr (a : RF C C1) (b : RF C1 C2) : RF C C2 := fun j i f h1 h2 h3 => (b j i f h1 h2 h3).trans (a j i f h1 h2 h3)
theorem RF.rf : RF C C := fun _ _ _ _ _ _ => rfl
theorem sta_lt {j f : Nat} (h : sta j f = true) : j < 66 ∧ j ≠ 40 ∧ ¬ (j = 38 ∧ (f = 25 ∨ 30 ≤ f)) := by
  unfold sta at h
  split at h <;> first | (cases h; done) | skip
  all_goals (refine ⟨by omega, by omega, fun z => ?_⟩)
  all_goals first | omega | skip
  simp only [Bool.or_eq_true, beq_iff_eq] at h
  omega
theorem RF.hi (a : RF C C2) : Hi C C2 := fun j f _ s => a j 0 f (sta_lt s).1 (sta_lt s).2.2 (sta_lt s).2.1
theorem RF.of90 {v : Int} : RF C (up3 C 90 0 0 v) := fun j i f h1 _ _ => up3_ne _ _ (by omega)
theorem MV.hi (a : Hi C C2) : MV C C2 := ⟨Int.le_of_eq (a 38 19 (by decide) rfl).symm, Int.le_of_eq (a 38 21 (by decide) rfl).symm, fun s _ => a 57 s (by decide) rfl, fun t _ => a 60 _ (by decide) rfl⟩
theorem MI.mv (J : MI C tb M) (I : SI C) (v : MV C C2) (hn : 0 < C 38 0 19 ∨ C2 38 0 19 = C 38 0 19) (ht : tb ≤ tc) : MI C2 tc M := by
  have K : MI C tc M := @MI_up 0 C tb tc M J ht
  have j1 := J.sa
  have i1 := I.ns
  obtain ⟨v1, v2, v3, v4⟩ := v
  have e57 : ∀ a : Int, 0 ≤ a → (0 < C 38 0 19 → a < C 38 0 19) → C2 57 0 a.toNat = C 57 0 a.toNat := fun a a0 a1 => v3 _ (by
    rcases hn with z | z
    · exact Or.inl (by have := a1 z; omega)
    · exact Or.inr z)
  refine ⟨K.va, K.mi, K.cu, ⟨j1.1, fun z => ?_, fun z => j1.2.2 (by omega)⟩, K.ca, fun z => K.la (by rw [← e57 (M 12) j1.1 j1.2.1]; exact z), K.fa, K.fz, K.id, fun z => by have := K.xx z; omega, fun z => ?_, fun z => by have := K.sb z; omega, K.cb, fun z y => K.lb z (by rw [← e57 (M 16) (K.sb z).1 (fun _ => (K.sb z).2)]; exact y), K.fb, K.fm, K.fe, K.fs, K.ev, K.fi, K.tk⟩
  · rcases hn with y | y
    · have := j1.2.1 y; omega
    · have := j1.2.1 (by omega); omega
  · have a := K.el z
    have b := K.xx z
    have e : durS C2 (M 9).toNat = durS C (M 9).toNat := v4 _ (by omega)
    rw [e]
    exact a
theorem CP.ns (J : CP C k tq M C1 P1) (h : 0 < C2 38 0 19 → 0 < C 38 0 19) : CP C2 k tq M C1 P1 := ⟨J.va, J.cu, J.tk, J.fi, J.fz, J.mi, J.mx, fun z => J.sa (h z), ⟨J.ta.1, J.ta.2.1, fun z => J.ta.2.2 (h z)⟩, J.sb, J.fr, J.ev, J.bo⟩
/-- a machine where its cells and its numbers are as they were -/
theorem CP.go {M2 : dM} (J : CP C k tq M C1 P1) (hm : M 21 ≤ 24) (hv : M 166 ≤ 30) (e : ∀ j i f : Nat, mP k j i → C2 j i f = C1 j i f ∧ P2 j i f = P1 j i f) (em : ∀ f, f < 289 → M2 f = M f) (h : 0 < C3 38 0 19 → 0 < C 38 0 19) : CP C3 k tq M2 C2 P2 := by
  have a : CP C k tq M C2 P2 := J.keep (fun j i f z => (e j i f (by unfold mP; omega)).1) (fun j f z => (e j k f (mP_k (by omega))).2)
  exact (a.cong hm hv em).ns h
theorem IM.mv (I : IM j s C P) (I0 : SI C) (v : MV C C2) (h3 : C 38 0 3 ≤ C2 38 0 3) (es : ∀ f, f < 290 → sl_ C2 s f = sl_ C s f) (hm : ∀ j i f : Nat, mP (s + 1) j i → C2 j i f = C j i f ∧ P2 j i f = P j i f) : IM (j + 1) s C2 P2 := by
  obtain ⟨a1, a2, a3, a4, a5, a6⟩ := I
  have v1 := v.1
  have fm := a2.fm
  have cu := a2.cu
  have ev := a2.ev
  have m2 : MI C2 (100 * ((j + 1 : Nat) : Int)) (sl_ C s) := a2.mv I0 v (Or.inl a1) (by omega)
  refine ⟨by omega, m2.cong (fun f _ hf => es f hf) (fun p hp => by rw [es p (by omega)]; exact a2.va p hp), ?_, by rw [es 287 (by decide)]; omega, by rw [es 289 (by decide)]; omega, fun p hp hq => ?_⟩
  · rw [es 287 (by decide)]
    exact a3.go (by omega) (by omega) hm (fun f hf => es f (by omega)) (fun _ => a1)
  · rw [es 289 (by decide)] at hq
    rw [es p (by omega)]
    exact a6 p hp hq
/-- the head of the loop again -/
theorem LJ.mk_ (J : LJ j N zz C P) (v : MV C C3) (h3 : C 38 0 3 ≤ C3 38 0 3) (S3 : SI C3) (K3 : KS C3 N3 zz3 C3 P3) (M3 : MI C3 (100 * ((j + 1 : Nat) : Int)) (C3 40 0)) (c3 : CP C3 0 (C3 40 0 287) (C3 40 0) C3 P3) (q3 : 0 ≤ C3 40 0 287 ∧ C3 40 0 287 ≤ 100 * ((j + 1 : Nat) : Int)) (vz : ∀ p : Nat, C3 38 0 3 ≤ p → p < 8 → C3 40 0 p = 0) (cz : ∀ c : Nat, C3 38 0 8 ≤ c → c < 12 → C3 45 0 c = 0) (e2 : ∀ s : Nat, s < 2 → C3 2 0 s = C 2 0 s ∧ C3 41 0 s = C 41 0 s) (e40 : ∀ f, 290 ≤ f → f < 870 → C3 40 0 f = C 40 0 f) (hm : ∀ s : Nat, s < 2 → ∀ j i f : Nat, mP (s + 1) j i → C3 j i f = C j i f ∧ P3 j i f = P j i f) : LJ (j + 1) N3 zz3 C3 P3 :=
  ⟨S3, K3, M3, c3, q3, vz, cz, fun s hs => by rw [(e2 s hs).1, (e2 s hs).2]; exact J.im s hs, fun s hs h1 => (J.ik s hs (by rw [← (e2 s hs).2]; exact h1)).mv J.si v h3 (fun f hf => e40 _ (by omega) (by omega)) (hm s hs)⟩
/-- where the machine has kept its numbers -/
theorem LJ.same (J : LJ j N zz C P) (v : MV C C3) (hn : 0 < C 38 0 19 ∨ C3 38 0 19 = C 38 0 19) (h3 : C 38 0 3 ≤ C3 38 0 3) (S3 : SI C3) (K3 : KS C3 N3 zz3 C3 P3) (c3 : CP C 0 (C 40 0 287) (C 40 0) C3 P3) (cz : ∀ c : Nat, C3 38 0 8 ≤ c → c < 12 → C3 45 0 c = 0) (e2 : ∀ s : Nat, s < 2 → C3 2 0 s = C 2 0 s ∧ C3 41 0 s = C 41 0 s) (e40 : ∀ f, f < 870 → C3 40 0 f = C 40 0 f) (hm : ∀ s : Nat, s < 2 → ∀ j i f : Nat, mP (s + 1) j i → C3 j i f = C j i f ∧ P3 j i f = P j i f) : LJ (j + 1) N3 zz3 C3 P3 := by
  have t := J.tq
  have fm := J.mi.fm
  have cu := J.mi.cu
  have ev := J.mi.ev
  have v1 := v.1
  have i1 := J.si.ns
  refine J.mk_ v h3 S3 K3 ((J.mi.mv J.si v hn (by omega)).cong (fun f _ hf => e40 f (by omega)) (fun p hp => by rw [e40 p (by omega)]; exact J.mi.va p hp)) ?_ (by rw [e40 287 (by decide)]; omega) (fun p h1 h2 => by rw [e40 p (by omega)]; exact J.vz p (by omega) h2) cz e2 (fun f _ hf => e40 f hf) hm
  rw [e40 287 (by decide)]
  exact (c3.cong (by omega) (by omega) (fun f hf => e40 f (by omega))).ns (fun z => by omega)
/-- a call that asks: the class' tables go to C1, the reference's to C3 -/
theorem LI_q (J : LJ j N zz C P) (K1 : KS C N zz C1 P1) (c1 : CP C 0 (C 40 0 287) (C 40 0) C1 P1) (f1 : ∀ j i f : Nat, 38 ≤ j → C1 j i f = C j i f) (fm : ∀ s : Nat, s < 2 → ∀ j i f : Nat, mP (s + 1) j i → C1 j i f = C j i f ∧ P1 j i f = P j i f) (f2 : ∀ s, C1 2 0 s = C 2 0 s) (rf : RF C1 C3) (e40 : ∀ f, f < 870 → C3 40 0 f = C 40 0 f) (R3 : D h3 A N zz C3 P1) : LI (A 8 0) (A 0 0) (A 38 0) (A 90 0) (j + 1) h3 := by
  have hh : Hi C C3 := fun j f hj hs => (rf.hi j f hj hs).trans (f1 j 0 f hj)
  have e1 : ∀ j i f : Nat, j < 38 → C3 j i f = C1 j i f := fun j i f hj => rf j i f (by omega) (by omega) (by omega)
  have n1 := hh 38 8 (by decide) rfl
  have n3 := hh 38 3 (by decide) rfl
  have fm1 := J.mi.fm
  have cu := J.mi.cu
  have ev := J.mi.ev
  refine ⟨A, N, zz, C3, P1, rfl, rfl, rfl, rfl, R3, J.same (MV.hi hh) (Or.inr (hh 38 19 (by decide) rfl)) (by omega) (J.si.Hi_ hh) ((K1.fr (fun j i f hj => e1 j i f (by omega)) (fun _ _ _ _ => rfl)).Hi_ hh) ?_ (fun c h1 h2 => ?_) (fun s hs => ⟨(e1 2 0 s (by decide)).trans (f2 s), (rf 41 0 s (by decide) (by omega) (by decide)).trans (f1 41 0 s (by decide))⟩) e40 (fun s hs j i f hm => ⟨(e1 j i f (by have := hm.2.1; omega)).trans (fm s hs j i f hm).1, (fm s hs j i f hm).2⟩)⟩
  · exact c1.go (by omega) (by omega) (fun j i f hm => ⟨e1 j i f (by have := hm.2.1; omega), rfl⟩) (fun _ _ => rfl) (fun z => z)
  · rw [hh 45 c (by decide) rfl]
    exact J.cz c (by omega) h2
theorem LI_s (J : LJ j N zz C P) (rf : RF C C3) (e40 : ∀ f, f < 870 → C3 40 0 f = C 40 0 f) (R3 : D h3 A N zz C3 P) : LI (A 8 0) (A 0 0) (A 38 0) (A 90 0) (j + 1) h3 := LI_q J J.ks J.cp (fun _ _ _ _ => rfl) (fun _ _ _ _ _ _ => ⟨rfl, rfl⟩) (fun _ => rfl) rf e40 R3
theorem LI.next (I : LI t0 x mm o j h) : LI t0 x mm o (j + 1) h := by
  obtain ⟨A, N, zz, C, P, rfl, rfl, rfl, rfl, R, J⟩ := I
  exact LI_s J RF.rf (fun _ _ => rfl) R
/-! the ends of a call -/
theorem a90 : ac N 90 0 := ⟨Nat.one_pos, by decide⟩
theorem toL_inj {a b : Int64} (h : a.toInt = b.toInt) : a = b := Int64.toInt.inj h
theorem L_code {Kc : gH → Prop} {Zy : Int64 → Prop} {rk : Int32} (R : D h2 A N zz C2 P) (e : C2 38 0 25 = rk.toInt) (hn : rk ≠ 0) (kK : Kc h2) : io h2 (A 38 0) 15 (vX12_thrown (fun rc h3 => rc = rk ∧ ((rk = 0 → ll h3 (A 90 0) 0 Zy) ∧ Kc h3)) h2 (A 38 0)) := by
  refine wio R a38 rfl (by decide) ?_
  unfold vX12_thrown
  exact wgi R a38 rfl (fun y hy => ⟨Int32.toInt.inj (hy.trans e), fun z => absurd z hn, kK⟩)
theorem L_ok {Kc : gH → Prop} {rb : Int32} (R : D h2 A N zz C2 P) (e : C2 38 0 25 = 0) (eo : C2 90 0 0 = rb.toInt) (kK : Kc h2) : io h2 (A 38 0) 15 (vX12_thrown (fun rc h3 => rc = 0 ∧ (((0 : Int32) = 0 → ll h3 (A 90 0) 0 (fun y9 => y9 = Int32.toInt64 rb)) ∧ Kc h3)) h2 (A 38 0)) := by
  refine wio R a38 rfl (by decide) ?_
  unfold vX12_thrown
  refine wgi R a38 rfl (fun y hy => ⟨Int32.toInt.inj (hy.trans (e.trans (by decide))), fun _ => ?_, kK⟩)
  exact R.ll a90 rfl rfl (x := 0) (m := 0) (by decide) (show 0 < 1 by decide) (fun y hy => toL_inj (by rw [hy, eo, Int32.toInt_toInt64]))
theorem L_okl {Kc : gH → Prop} {rb : Int64} (R : D h2 A N zz C2 P) (e : C2 38 0 25 = 0) (eo : C2 90 0 0 = rb.toInt) (kK : Kc h2) : io h2 (A 38 0) 15 (vX12_thrown (fun rc h3 => rc = 0 ∧ (((0 : Int32) = 0 → ll h3 (A 90 0) 0 (fun y9 => y9 = rb)) ∧ Kc h3)) h2 (A 38 0)) := by
  refine wio R a38 rfl (by decide) ?_
  unfold vX12_thrown
  refine wgi R a38 rfl (fun y hy => ⟨Int32.toInt.inj (hy.trans (e.trans (by decide))), fun _ => ?_, kK⟩)
  exact R.ll a90 rfl rfl (x := 0) (m := 0) (by decide) (show 0 < 1 by decide) (fun y hy => toL_inj (by rw [hy, eo]))
theorem L_out {K : gH → Prop} {y : Int32} (R : D h2 A N zz C1 P) (k : ∀ (h3 : gH) (C2 : dC), D h3 A N zz C2 P → C2 90 0 0 = y.toInt → (∀ j i f : Nat, j ≠ 90 → C2 j i f = C1 j i f) → K h3) : sl h2 (A 90 0) 0 (Int32.toInt64 y) K :=
  R.sl a90 rfl rfl (x := 0) (m := 0) (by decide) (show 0 < 1 by decide) (Int32.toInt_toInt64 y) (fun h3 R3 => k h3 _ R3 (up3_same _ _ _ _ _) (fun j i f hj => up3_ne _ _ (fun z => hj z.1)))
theorem L_outl {K : gH → Prop} {y : Int64} (R : D h2 A N zz C1 P) (k : ∀ (h3 : gH) (C2 : dC), D h3 A N zz C2 P → C2 90 0 0 = y.toInt → (∀ j i f : Nat, j ≠ 90 → C2 j i f = C1 j i f) → K h3) : sl h2 (A 90 0) 0 y K :=
  R.sl a90 rfl rfl (x := 0) (m := 0) (by decide) (show 0 < 1 by decide) rfl (fun h3 R3 => k h3 _ R3 (up3_same _ _ _ _ _) (fun j i f hj => up3_ne _ _ (fun z => hj z.1)))
/-- the pack of the class' machine -/
theorem LJ.Z (J : LJ j N zz C P) (R : D h A N zz C P) : CQ h A N zz C 0 (C 40 0 287) C P C P (C 40 0) := ⟨R, J.ks, J.cp, Fm.rf _ _, FmP.rf _ _⟩
/-- the frames: nothing but 90; the reference's frame from its post -/
theorem RF.o90 (f : ∀ j i f : Nat, j ≠ 90 → C2 j i f = C1 j i f) : RF C1 C2 := fun j i f' h1 _ _ => f j i f' (by omega)
theorem RF.c25 (f : ∀ j i f : Nat, ¬ (j = 38 ∧ f = 25) → C3 j i f = C2 j i f) : RF C2 C3 := fun j i f' _ h2 _ => f j i f' (by omega)
theorem RF.fw (f : Fw C2 C3) : RF C2 C3 := fun j i f' h1 h2 h3 => f j i f' (by unfold gP; omega) (by omega)
end LIV
