/-! ===== the law's calls that ask ===== -/
section LQ
variable {h h2 h3 : gH} {A : dA} {N zz : Nat → Nat} {C C1 C2 C3 : dC} {P P1 : dP} {M : dM} {tb tq : Int} {j k : Nat}
theorem mP_one {k k' j i : Nat} (a : mP k j i) (b : mP k' j i) : k = k' := by
  unfold mP at a b
  by_cases z : j = 35
  · have := a.2.2.1 z
    have := b.2.2.1 z
    omega
  · exact (a.2.2.2 z).symm.trans (b.2.2.2 z)
theorem Fm.hi (F : Fm k C C1) : ∀ j i f : Nat, 38 ≤ j → C1 j i f = C j i f := fun j i f hj => F j i f (fun z => by have := z.2.1; omega)
theorem Fm.two (F : Fm k C C1) : ∀ s, C1 2 0 s = C 2 0 s := fun s => F 2 0 s (fun z => by have := z.1; omega)
theorem fm_of (F : Fm k C C1) (G : FmP k P P1) (hk : k = 0 ∨ k = 3) : ∀ s : Nat, s < 2 → ∀ j i f : Nat, mP (s + 1) j i → C1 j i f = C j i f ∧ P1 j i f = P j i f := fun s hs j i f hm => ⟨F j i f (fun z => by have := mP_one hm z; omega), G j i f (fun z => by have := mP_one hm z; omega)⟩
theorem Hi.o90 (f1 : ∀ j i f : Nat, 38 ≤ j → C1 j i f = C j i f) (f2 : ∀ j i f : Nat, j ≠ 90 → C2 j i f = C1 j i f) : Hi C C2 := fun j f hj hs => (f2 j 0 f (by have := sta_lt hs; omega)).trans (f1 j 0 f hj)
theorem qp32 {S : dC} (I : SI S) (J : MI S tb M) : (qpose S M).1 ≤ 32 := by
  have i1 := I.ns
  have j1 := J.cu
  by_cases z : S 38 0 19 = 0
  · unfold qpose
    rw [if_pos z]
    exact Nat.zero_le _
  · rcases J.mi with y | y
    · have := qpose_idle I J (by omega) y
      rw [this.1]
      omega
    · have := (qpose_in I J y).2.2
      omega
theorem LJ.I2 (J : LJ j N zz C P) (a : Hi C C2) : SI C2 := J.si.Hi_ a
theorem LJ.M2 (J : LJ j N zz C P) (a : Hi C C2) (e : C2 40 0 = C 40 0) : MI C2 (100 * (j : Int)) (C2 40 0) := by
  rw [e]
  exact J.mi.mv J.si (MV.hi a) (Or.inr (a 38 19 (by decide) rfl)) (Int.le_refl _)
theorem lc20 (J : LJ j N zz C P) (R : D h A N zz C P) (hj : j < 512) : vLc20 (A 8 0) (LI (A 8 0) (A 0 0) (A 38 0) (A 90 0) (j + 1)) h (A 0 0) (A 38 0) (A 90 0) := by
  unfold vLc20 vL_state
  refine wio R a00 rfl (by decide) (q_state (J.Z R) J.mi (fun a => ⟨rfl, ?_⟩) (fun a y hy => L_out R (fun h2 C2 R2 o2 f2 => ?_)))
  · exact wio R a38 rfl (by decide) (r_state R (fun _ x3 h3 C3 R3 _ e25 fr => L_code R3 (e25.trans (by decide)) (by decide) (LI_s J (RF.c25 fr) (fun f hf => fr 40 0 f (by omega)) R3)) (fun b => absurd a b))
  · have n19 : C2 38 0 19 = C 38 0 19 := f2 38 0 19 (by decide)
    exact wio R2 a38 rfl (by decide) (r_state R2 (fun b => by exfalso; omega) (fun b x3 h3 C3 R3 hx e25 fr => L_ok R3 e25 (((fr 90 0 0 (by omega)).trans o2).trans (hy.trans (hx.trans (f2 40 0 12 (by decide))).symm)) (LI_s J ((RF.o90 f2).tr (RF.c25 fr)) (fun f hf => (fr 40 0 f (by omega)).trans (f2 40 0 f (by decide))) R3)))
theorem lc21 (J : LJ j N zz C P) (R : D h A N zz C P) (hj : j < 512) : vLc21 (A 8 0) (LI (A 8 0) (A 0 0) (A 38 0) (A 90 0) (j + 1)) h (A 0 0) (A 38 0) (A 90 0) := by
  unfold vLc21
  have j8 := J.mi.mi
  have jd := J.mi.id
  have jz := J.mi.fz
  exact wio R a00 rfl (by decide) (q_target (J.Z R) J.mi (fun y hy => wio R a38 rfl (by decide) (r_target R (fun b x3 h3 C3 R3 hx e25 fr => ⟨Int32.toInt.inj (hy.trans (by rw [if_neg (by omega), hx])), (LI_s J (RF.c25 fr) (fun f hf => fr 40 0 f (by omega)) R3)⟩) (fun b x3 h3 C3 R3 hx e25 fr => ⟨Int32.toInt.inj (hy.trans (by rw [if_pos (by omega), hx])), (LI_s J (RF.c25 fr) (fun f hf => fr 40 0 f (by omega)) R3)⟩))))
theorem lc22 (J : LJ j N zz C P) (R : D h A N zz C P) (hj : j < 512) : vLc22 (A 8 0) (LI (A 8 0) (A 0 0) (A 38 0) (A 90 0) (j + 1)) h (A 0 0) (A 38 0) (A 90 0) := by
  unfold vLc22
  have j8 := J.mi.mi
  have jd := J.mi.id
  have jz := J.mi.fz
  exact wio R a00 rfl (by decide) (q_transition (J.Z R) J.mi (fun y hy => wio R a38 rfl (by decide) (r_transition R (fun b x3 h3 C3 R3 hx e25 fr => ⟨Int32.toInt.inj (hy.trans (by rw [if_neg (by omega), hx])), (LI_s J (RF.c25 fr) (fun f hf => fr 40 0 f (by omega)) R3)⟩) (fun b x3 h3 C3 R3 hx e25 fr => ⟨Int32.toInt.inj (hy.trans (by rw [if_pos (by omega), hx])), (LI_s J (RF.c25 fr) (fun f hf => fr 40 0 f (by omega)) R3)⟩))))
theorem lc23 (J : LJ j N zz C P) (R : D h A N zz C P) (hj : j < 512) : vLc23 (A 8 0) (LI (A 8 0) (A 0 0) (A 38 0) (A 90 0) (j + 1)) h (A 0 0) (A 38 0) (A 90 0) := by
  unfold vLc23
  have j8 := J.mi.mi
  have jd := J.mi.id
  have jz := J.mi.fz
  exact wio R a00 rfl (by decide) (q_elapsed (J.Z R) J.mi (fun y hy => wio R a38 rfl (by decide) (r_elapsed R (fun b x3 h3 C3 R3 hx e25 fr => ⟨Int32.toInt.inj (hy.trans (by rw [if_neg (by omega), hx])), (LI_s J (RF.c25 fr) (fun f hf => fr 40 0 f (by omega)) R3)⟩) (fun b x3 h3 C3 R3 hx e25 fr => ⟨Int32.toInt.inj (hy.trans (by rw [if_pos (by omega), hx])), (LI_s J (RF.c25 fr) (fun f hf => fr 40 0 f (by omega)) R3)⟩))))
theorem lc24 (J : LJ j N zz C P) (R : D h A N zz C P) (hj : j < 512) : vLc24 (A 8 0) (LI (A 8 0) (A 0 0) (A 38 0) (A 90 0) (j + 1)) h (A 0 0) (A 38 0) (A 90 0) := by
  unfold vLc24
  have j8 := J.mi.mi
  have jd := J.mi.id
  have jz := J.mi.fz
  exact wio R a00 rfl (by decide) (q_isFrozen (J.Z R) J.mi (fun y hy => wio R a38 rfl (by decide) (r_isFrozen R (fun b x3 h3 C3 R3 hx e25 fr => ⟨Int32.toInt.inj (hy.trans (by rw [hx]; omega)), (LI_s J (RF.c25 fr) (fun f hf => fr 40 0 f (by omega)) R3)⟩) (fun b c x3 h3 C3 R3 hx e25 fr => ⟨Int32.toInt.inj (hy.trans (by rw [hx]; exact c)), (LI_s J (RF.c25 fr) (fun f hf => fr 40 0 f (by omega)) R3)⟩))))
theorem lc33 (J : LJ j N zz C P) (R : D h A N zz C P) (hj : j < 512) : vLc33 (A 8 0) (LI (A 8 0) (A 0 0) (A 38 0) (A 90 0) (j + 1)) h (A 0 0) (A 38 0) (A 90 0) := by
  unfold vLc33
  have j8 := J.mi.mi
  have jd := J.mi.id
  have jz := J.mi.fz
  exact wio R a00 rfl (by decide) (q_fired (J.Z R) (fun y hy => wio R a38 rfl (by decide) (r_fired R (fun x3 h3 C3 R3 hx e25 fr => ⟨Int32.toInt.inj (hy.trans (hx.symm)), (LI_s J (RF.c25 fr) (fun f hf => fr 40 0 f (by omega)) R3)⟩))))
theorem lc25 (J : LJ j N zz C P) (R : D h A N zz C P) (hj : j < 512) (p1 : Int32) : vLc25 (A 8 0) (LI (A 8 0) (A 0 0) (A 38 0) (A 90 0) (j + 1)) h (A 0 0) (A 38 0) (A 90 0) p1 := by
  unfold vLc25 vL_progress
  have j8 := J.mi.mi
  refine wio R a00 rfl (by decide) (q_progress (J.Z R) J.mi (by omega) (fun a => ⟨rfl, ?_⟩) (fun a b y hy => L_outl R (fun h2 C2 R2 o2 f2 => ?_)) (fun a b c => ⟨rfl, ?_⟩) (fun a b c y hy => L_outl R (fun h2 C2 R2 o2 f2 => ?_)))
  · exact wio R a38 rfl (by decide) (r_progress R (fun _ x3 h3 C3 R3 _ e25 fr => L_code R3 (e25.trans (by decide)) (by decide) (LI_s J (RF.c25 fr) (fun f hf => fr 40 0 f (by omega)) R3)) (fun b => absurd a b) (fun b => absurd a b))
  · have n19 : C2 38 0 19 = C 38 0 19 := f2 38 0 19 (by decide)
    exact wio R2 a38 rfl (by decide) (r_progress R2 (fun z => by exfalso; omega) (fun z1 z2 x3 h3 C3 R3 hx e25 fr => L_okl R3 e25 (((fr 90 0 0 (by omega)).trans o2).trans (hy.trans (hx.trans (by rw [f2 40 0 13 (by decide), f2 40 0 14 (by decide)]; rfl)).symm)) (LI_s J ((RF.o90 f2).tr (RF.c25 fr)) (fun f hf => (fr 40 0 f (by omega)).trans (f2 40 0 f (by decide))) R3)) (fun z1 z2 z3 => by exfalso; omega))
  · exact wio R a38 rfl (by decide) (r_progress R (fun _ x3 h3 C3 R3 _ e25 fr => L_code R3 (e25.trans (by decide)) (by decide) (LI_s J (RF.c25 fr) (fun f hf => fr 40 0 f (by omega)) R3)) (fun z1 z2 => absurd z2 b) (fun z1 z2 z3 => absurd c z3))
  · have n19 : C2 38 0 19 = C 38 0 19 := f2 38 0 19 (by decide)
    have n8 : C2 40 0 8 = C 40 0 8 := f2 40 0 8 (by decide)
    exact wio R2 a38 rfl (by decide) (r_progress R2 (fun z => by exfalso; omega) (fun z1 z2 => absurd z2 b) (fun z1 z2 z3 x3 h3 C3 R3 hx e25 fr => L_okl R3 e25 (((fr 90 0 0 (by omega)).trans o2).trans (hy.trans (hx.trans (by rw [f2 40 0 17 (by decide), f2 40 0 18 (by decide)]; rfl)).symm)) (LI_s J ((RF.o90 f2).tr (RF.c25 fr)) (fun f hf => (fr 40 0 f (by omega)).trans (f2 40 0 f (by decide))) R3)))
theorem lc34 (J : LJ j N zz C P) (R : D h A N zz C P) (hj : j < 512) (p1 : Int32) (p2 : Int32) : vLc34 (A 8 0) (LI (A 8 0) (A 0 0) (A 38 0) (A 90 0) (j + 1)) h (A 0 0) (A 38 0) (A 90 0) p1 p2 := by
  unfold vLc34 vL_event
  refine wio R a00 rfl (by decide) (q_event (J.Z R) J.mi (by omega) (fun a => Or.inl ⟨rfl, ?_⟩) (fun a b c => Or.inr (⟨rfl, ?_⟩)) (fun a b c d y hy => L_out R (fun h2 C2 R2 o2 f2 => ?_)))
  · exact wio R a38 rfl (by decide) (r_event R ⟨J.mi.ev.1, J.mi.ev.2.1⟩ (fun _ x3 h3 C3 R3 _ e25 fr => L_code R3 (e25.trans (by decide)) (by decide) (LI_s J (RF.c25 fr) (fun f hf => fr 40 0 f (by omega)) R3)) (fun z1 z2 z3 => by exfalso; omega) (fun z1 z2 z3 z4 => by exfalso; omega))
  · exact wio R a38 rfl (by decide) (r_event R ⟨J.mi.ev.1, J.mi.ev.2.1⟩ (fun z => by exfalso; omega) (fun _ _ _ x3 h3 C3 R3 _ e25 fr => L_code R3 (e25.trans (by decide)) (by decide) (LI_s J (RF.c25 fr) (fun f hf => fr 40 0 f (by omega)) R3)) (fun z1 z2 z3 z4 => by exfalso; omega))
  · have n1 : C2 40 0 166 = C 40 0 166 := f2 40 0 166 (by decide)
    exact wio R2 a38 rfl (by decide) (r_event R2 (by rw [n1]; exact ⟨J.mi.ev.1, J.mi.ev.2.1⟩) (fun z => by exfalso; omega) (fun z1 z2 z3 => by exfalso; omega) (fun z1 z2 z3 z4 x3 h3 C3 R3 hx e25 fr => L_ok R3 e25 (((fr 90 0 0 (by omega)).trans o2).trans (hy.trans (hx.trans (f2 40 0 _ (by decide))).symm)) (LI_s J ((RF.o90 f2).tr (RF.c25 fr)) (fun f hf => (fr 40 0 f (by omega)).trans (f2 40 0 f (by decide))) R3)))
theorem lc40 (J : LJ j N zz C P) (R : D h A N zz C P) (hj : j < 512) (p1 : Int32) : vLc40 (A 8 0) (LI (A 8 0) (A 0 0) (A 38 0) (A 90 0) (j + 1)) h (A 0 0) (A 38 0) (A 90 0) p1 := by
  unfold vLc40 vL_count
  refine wio R a00 rfl (by decide) (q_count (J.Z R) J.mi (fun a => ⟨rfl, ?_⟩) (fun a b y hy => L_out R (fun h2 C2 R2 o2 f2 => ?_)))
  · exact wio R a38 rfl (by decide) (r_count R (fun _ x3 h3 C3 R3 _ e25 fr => L_code R3 (e25.trans (by decide)) (by decide) (LI_s J (RF.c25 fr) (fun f hf => fr 40 0 f (by omega)) R3)) (fun z => by exfalso; omega) (fun z => by exfalso; omega) (fun z => by exfalso; omega) (fun z => by exfalso; omega) (fun z => by exfalso; omega) (fun z => by exfalso; omega) (fun z => by exfalso; omega) (fun z => by exfalso; omega))
  · exact wio R2 a38 rfl (by decide) (r_count R2 (fun z => by exfalso; omega) (fun z x3 h3 C3 R3 hx e25 fr => L_ok R3 e25 (((fr 90 0 0 (by omega)).trans o2).trans (hy.trans ((show _ = C 38 0 3 by rw [if_pos (by omega)]).trans (hx.trans (f2 38 0 3 (by decide))).symm))) (LI_s J ((RF.o90 f2).tr (RF.c25 fr)) (fun f hf => (fr 40 0 f (by omega)).trans (f2 40 0 f (by decide))) R3)) (fun z x3 h3 C3 R3 hx e25 fr => L_ok R3 e25 (((fr 90 0 0 (by omega)).trans o2).trans (hy.trans ((show _ = C 38 0 8 by rw [if_neg (by omega), if_pos (by omega)]).trans (hx.trans (f2 38 0 8 (by decide))).symm))) (LI_s J ((RF.o90 f2).tr (RF.c25 fr)) (fun f hf => (fr 40 0 f (by omega)).trans (f2 40 0 f (by decide))) R3)) (fun z x3 h3 C3 R3 hx e25 fr => L_ok R3 e25 (((fr 90 0 0 (by omega)).trans o2).trans (hy.trans ((show _ = C 38 0 14 by rw [if_neg (by omega), if_neg (by omega), if_pos (by omega)]).trans (hx.trans (f2 38 0 14 (by decide))).symm))) (LI_s J ((RF.o90 f2).tr (RF.c25 fr)) (fun f hf => (fr 40 0 f (by omega)).trans (f2 40 0 f (by decide))) R3)) (fun z x3 h3 C3 R3 hx e25 fr => L_ok R3 e25 (((fr 90 0 0 (by omega)).trans o2).trans (hy.trans ((show _ = C 38 0 19 by rw [if_neg (by omega), if_neg (by omega), if_neg (by omega), if_pos (by omega)]).trans (hx.trans (f2 38 0 19 (by decide))).symm))) (LI_s J ((RF.o90 f2).tr (RF.c25 fr)) (fun f hf => (fr 40 0 f (by omega)).trans (f2 40 0 f (by decide))) R3)) (fun z x3 h3 C3 R3 hx e25 fr => L_ok R3 e25 (((fr 90 0 0 (by omega)).trans o2).trans (hy.trans ((show _ = C 38 0 21 by rw [if_neg (by omega), if_neg (by omega), if_neg (by omega), if_neg (by omega), if_pos (by omega)]).trans (hx.trans (f2 38 0 21 (by decide))).symm))) (LI_s J ((RF.o90 f2).tr (RF.c25 fr)) (fun f hf => (fr 40 0 f (by omega)).trans (f2 40 0 f (by decide))) R3)) (fun z x3 h3 C3 R3 hx e25 fr => L_ok R3 e25 (((fr 90 0 0 (by omega)).trans o2).trans (hy.trans ((show _ = C 40 0 287 by rw [if_neg (by omega), if_neg (by omega), if_neg (by omega), if_neg (by omega), if_neg (by omega), if_pos (by omega)]).trans (hx.trans (f2 40 0 287 (by decide))).symm))) (LI_s J ((RF.o90 f2).tr (RF.c25 fr)) (fun f hf => (fr 40 0 f (by omega)).trans (f2 40 0 f (by decide))) R3)) (fun z x3 h3 C3 R3 hx e25 fr => L_ok R3 e25 (((fr 90 0 0 (by omega)).trans o2).trans (hy.trans ((show _ = C 40 0 166 by rw [if_neg (by omega), if_neg (by omega), if_neg (by omega), if_neg (by omega), if_neg (by omega), if_neg (by omega), if_pos (by omega)]).trans (hx.trans (f2 40 0 166 (by decide))).symm))) (LI_s J ((RF.o90 f2).tr (RF.c25 fr)) (fun f hf => (fr 40 0 f (by omega)).trans (f2 40 0 f (by decide))) R3)) (fun z x3 h3 C3 R3 hx e25 fr => L_ok R3 e25 (((fr 90 0 0 (by omega)).trans o2).trans (hy.trans ((show _ = C 38 0 24 by rw [if_neg (by omega), if_neg (by omega), if_neg (by omega), if_neg (by omega), if_neg (by omega), if_neg (by omega), if_neg (by omega)]).trans (hx.trans (f2 38 0 24 (by decide))).symm))) (LI_s J ((RF.o90 f2).tr (RF.c25 fr)) (fun f hf => (fr 40 0 f (by omega)).trans (f2 40 0 f (by decide))) R3)))
theorem lc2 (J : LJ j N zz C P) (R : D h A N zz C P) (hj : j < 512) (p1 : Int32) : vLc2 (A 8 0) (LI (A 8 0) (A 0 0) (A 38 0) (A 90 0) (j + 1)) h (A 0 0) (A 38 0) (A 90 0) p1 := by
  unfold vLc2 vL_value
  refine wio R a00 rfl (by decide) (q_value (J.Z R) J.si (fun a => ⟨rfl, ?_⟩) (fun a b y hy => L_out R (fun h2 C2 R2 o2 f2 => ?_)))
  · exact wio R a38 rfl (by decide) (r_value R J.si (fun _ x3 h3 C3 R3 _ e25 fr => L_code R3 (e25.trans (by decide)) (by decide) (LI_s J (RF.c25 fr) (fun f hf => fr 40 0 f (by omega)) R3)) (fun z1 z2 => by exfalso; omega))
  · have n1 : C2 38 0 3 = C 38 0 3 := f2 38 0 3 (by decide)
    exact wio R2 a38 rfl (by decide) (r_value R2 (J.I2 (Hi.o90 (fun _ _ _ _ => rfl) f2)) (fun z => by exfalso; omega) (fun z1 z2 x3 h3 C3 R3 hx e25 fr => L_ok R3 e25 (((fr 90 0 0 (by omega)).trans o2).trans (hy.trans (hx.trans (f2 40 0 _ (by decide))).symm)) (LI_s J ((RF.o90 f2).tr (RF.c25 fr)) (fun f hf => (fr 40 0 f (by omega)).trans (f2 40 0 f (by decide))) R3)))
theorem lc28 (J : LJ j N zz C P) (R : D h A N zz C P) (hj : j < 512) (p1 : Int32) : vLc28 (A 8 0) (LI (A 8 0) (A 0 0) (A 38 0) (A 90 0) (j + 1)) h (A 0 0) (A 38 0) (A 90 0) p1 := by
  unfold vLc28 vL_blocked
  refine wio R a00 rfl (by decide) (q_blocked (J.Z R) J.si J.mi (by omega) (fun a => ⟨rfl, ?_⟩) (fun a b y hy => L_out R (fun h2 C2 R2 o2 f2 => ?_)))
  · exact wio R a38 rfl (by decide) (x_blocked R J.si J.mi (fun _ x3 h3 C3 X3 => L_code X3.1 (X3.2.2.2.1.trans (by decide)) (by decide) (LI_s J (RF.fw X3.2.2.2.2) (fun f hf => congrFun X3.2.2.1 f) X3.1)) (fun z1 z2 z3 => by exfalso; omega))
  · have hh : Hi C C2 := Hi.o90 (fun _ _ _ _ => rfl) f2
    have n1 : C2 38 0 21 = C 38 0 21 := f2 38 0 21 (by decide)
    have e40 : C2 40 0 = C 40 0 := funext fun f => f2 40 0 f (by decide)
    exact wio R2 a38 rfl (by decide) (x_blocked R2 (J.I2 hh) (J.M2 hh e40) (fun z => by exfalso; omega) (fun z1 z2 z3 x3 h3 C3 X3 hx => L_ok X3.1 X3.2.2.2.1 (((X3.2.2.2.2 90 0 0 (by unfold gP; omega) (by omega)).trans o2).trans (hy.trans (hx.trans (by rw [blkS_Hi hh, e40])).symm)) (LI_s J ((RF.o90 f2).tr (RF.fw X3.2.2.2.2)) (fun f hf => congrFun (X3.2.2.1.trans e40) f) X3.1)))
theorem lc26 (J : LJ j N zz C P) (R : D h A N zz C P) (hj : j < 512) (p1 : Int32) : vLc26 (A 8 0) (LI (A 8 0) (A 0 0) (A 38 0) (A 90 0) (j + 1)) h (A 0 0) (A 38 0) (A 90 0) p1 := by
  unfold vLc26 vL_stateLength
  refine wio R a00 rfl (by decide) (q_stateLength (J.Z R) J.si J.mi (fun a => ⟨rfl, ?_⟩) (fun a b y h1 C1 Z1 hy => L_out Z1.1 (fun h2 C2 R2 o2 f2 => ?_)))
  · exact wio R a38 rfl (by decide) (x_stateLength R J.si J.mi (fun _ x3 h3 C3 X3 => L_code X3.1 (X3.2.2.2.1.trans (by decide)) (by decide) (LI_s J (RF.fw X3.2.2.2.2) (fun f hf => congrFun X3.2.2.1 f) X3.1)) (fun z1 z2 => by exfalso; omega))
  · have f1 := Z1.2.2.2.1.hi
    have hh : Hi C C2 := Hi.o90 f1 f2
    have n19 : C2 38 0 19 = C 38 0 19 := (f2 38 0 19 (by decide)).trans (f1 38 0 19 (by decide))
    have e40 : C2 40 0 = C 40 0 := funext fun f => (f2 40 0 f (by decide)).trans (f1 40 0 f (by decide))
    exact wio R2 a38 rfl (by decide) (x_stateLength R2 (J.I2 hh) (J.M2 hh e40) (fun z => by exfalso; omega) (fun z1 z2 x3 h3 C3 X3 hx => L_ok X3.1 X3.2.2.2.1 (((X3.2.2.2.2 90 0 0 (by unfold gP; omega) (by omega)).trans o2).trans (hy.trans (hx.trans (by rw [lenS_Hi hh, e40])).symm)) (LI_q J Z1.2.1 Z1.2.2.1 Z1.2.2.2.1.hi (fm_of Z1.2.2.2.1 Z1.2.2.2.2 (Or.inl rfl)) Z1.2.2.2.1.two ((RF.o90 f2).tr (RF.fw X3.2.2.2.2)) (fun f hf => congrFun (X3.2.2.1.trans e40) f) X3.1)))
theorem lc27 (J : LJ j N zz C P) (R : D h A N zz C P) (hj : j < 512) (p1 : Int32) (p2 : Int32) : vLc27 (A 8 0) (LI (A 8 0) (A 0 0) (A 38 0) (A 90 0) (j + 1)) h (A 0 0) (A 38 0) (A 90 0) p1 p2 := by
  unfold vLc27 vL_partWeight
  refine wio R a00 rfl (by decide) (q_partWeight (J.Z R) J.si J.mi (fun a => ⟨rfl, ?_⟩) (fun a b c d y h1 C1 Z1 hy => L_out Z1.1 (fun h2 C2 R2 o2 f2 => ?_)))
  · exact wio R a38 rfl (by decide) (x_partWeight R J.si J.mi (fun _ x3 h3 C3 X3 => L_code X3.1 (X3.2.2.2.1.trans (by decide)) (by decide) (LI_s J (RF.fw X3.2.2.2.2) (fun f hf => congrFun X3.2.2.1 f) X3.1)) (fun z1 z2 z3 z4 => by exfalso; omega))
  · have f1 := Z1.2.2.2.1.hi
    have hh : Hi C C2 := Hi.o90 f1 f2
    have n19 : C2 38 0 19 = C 38 0 19 := (f2 38 0 19 (by decide)).trans (f1 38 0 19 (by decide))
    have n8 : C2 38 0 8 = C 38 0 8 := (f2 38 0 8 (by decide)).trans (f1 38 0 8 (by decide))
    have e40 : C2 40 0 = C 40 0 := funext fun f => (f2 40 0 f (by decide)).trans (f1 40 0 f (by decide))
    exact wio R2 a38 rfl (by decide) (x_partWeight R2 (J.I2 hh) (J.M2 hh e40) (fun z => by exfalso; omega) (fun z1 z2 z3 z4 x3 h3 C3 X3 hx => L_ok X3.1 X3.2.2.2.1 (((X3.2.2.2.2 90 0 0 (by unfold gP; omega) (by omega)).trans o2).trans (hy.trans (hx.trans (by rw [bw_Hi hh, e40])).symm)) (LI_q J Z1.2.1 Z1.2.2.1 Z1.2.2.2.1.hi (fm_of Z1.2.2.2.1 Z1.2.2.2.2 (Or.inl rfl)) Z1.2.2.2.1.two ((RF.o90 f2).tr (RF.fw X3.2.2.2.2)) (fun f hf => congrFun (X3.2.2.1.trans e40) f) X3.1)))
theorem lc29 (J : LJ j N zz C P) (R : D h A N zz C P) (hj : j < 512) : vLc29 (A 8 0) (LI (A 8 0) (A 0 0) (A 38 0) (A 90 0) (j + 1)) h (A 0 0) (A 38 0) (A 90 0) := by
  unfold vLc29
  refine wio R a00 rfl (by decide) (q_poseSize (J.Z R) J.si J.mi (fun y h2 C2 Z1 hy => ?_))
  have f1 := Z1.2.2.2.1.hi
  have hh : Hi C C2 := fun j f hj _ => f1 j 0 f hj
  have e40 : C2 40 0 = C 40 0 := funext fun f => f1 40 0 f (by decide)
  exact wio Z1.1 a38 rfl (by decide) (x_poseSize Z1.1 (J.I2 hh) (J.M2 hh e40) (fun x3 h3 C3 X3 hx => ⟨Int32.toInt.inj (hy.trans (hx.trans (by rw [qpose_Hi hh, e40])).symm), LI_q J Z1.2.1 Z1.2.2.1 f1 (fm_of Z1.2.2.2.1 Z1.2.2.2.2 (Or.inl rfl)) Z1.2.2.2.1.two (RF.fw X3.2.2.2.2) (fun f hf => congrFun (X3.2.2.1.trans e40) f) X3.1⟩))
theorem lc30 (J : LJ j N zz C P) (R : D h A N zz C P) (hj : j < 512) (p1 : Int32) : vLc30 (A 8 0) (LI (A 8 0) (A 0 0) (A 38 0) (A 90 0) (j + 1)) h (A 0 0) (A 38 0) (A 90 0) p1 := by
  unfold vLc30 vL_poseClip
  refine wio R a00 rfl (by decide) (q_poseClip (J.Z R) J.si J.mi (qp32 J.si J.mi) (fun a h2 C2 Z1 => ⟨rfl, ?_⟩) (fun a b y h1 C1 Z1 hy => L_out Z1.1 (fun h2 C2 R2 o2 f2 => ?_)))
  · have f1 := Z1.2.2.2.1.hi
    have hh : Hi C C2 := fun j f hj _ => f1 j 0 f hj
    have e40 : C2 40 0 = C 40 0 := funext fun f => f1 40 0 f (by decide)
    have eq : qpose C2 (C2 40 0) = qpose C (C 40 0) := by rw [qpose_Hi hh, e40]
    exact wio Z1.1 a38 rfl (by decide) (x_poseClip Z1.1 (J.I2 hh) (J.M2 hh e40) (fun _ x3 h3 C3 X3 => L_code X3.1 (X3.2.2.2.1.trans (by decide)) (by decide) (LI_q J Z1.2.1 Z1.2.2.1 f1 (fm_of Z1.2.2.2.1 Z1.2.2.2.2 (Or.inl rfl)) Z1.2.2.2.1.two (RF.fw X3.2.2.2.2) (fun f hf => congrFun (X3.2.2.1.trans e40) f) X3.1)) (fun z1 z2 => by rw [eq] at z2; exfalso; omega))
  · have f1 := Z1.2.2.2.1.hi
    have hh : Hi C C2 := Hi.o90 f1 f2
    have e40 : C2 40 0 = C 40 0 := funext fun f => (f2 40 0 f (by decide)).trans (f1 40 0 f (by decide))
    have eq : qpose C2 (C2 40 0) = qpose C (C 40 0) := by rw [qpose_Hi hh, e40]
    exact wio R2 a38 rfl (by decide) (x_poseClip R2 (J.I2 hh) (J.M2 hh e40) (fun z => by rw [eq] at z; exfalso; omega) (fun z1 z2 x3 h3 C3 X3 hx => L_ok X3.1 X3.2.2.2.1 (((X3.2.2.2.2 90 0 0 (by unfold gP; omega) (by omega)).trans o2).trans (hy.trans (hx.trans (by rw [eq])).symm)) (LI_q J Z1.2.1 Z1.2.2.1 Z1.2.2.2.1.hi (fm_of Z1.2.2.2.1 Z1.2.2.2.2 (Or.inl rfl)) Z1.2.2.2.1.two ((RF.o90 f2).tr (RF.fw X3.2.2.2.2)) (fun f hf => congrFun (X3.2.2.1.trans e40) f) X3.1)))
theorem lc31 (J : LJ j N zz C P) (R : D h A N zz C P) (hj : j < 512) (p1 : Int32) : vLc31 (A 8 0) (LI (A 8 0) (A 0 0) (A 38 0) (A 90 0) (j + 1)) h (A 0 0) (A 38 0) (A 90 0) p1 := by
  unfold vLc31 vL_poseTime
  refine wio R a00 rfl (by decide) (q_poseTime (J.Z R) J.si J.mi (qp32 J.si J.mi) (fun a h2 C2 Z1 => ⟨rfl, ?_⟩) (fun a b y h1 C1 Z1 hy => L_out Z1.1 (fun h2 C2 R2 o2 f2 => ?_)))
  · have f1 := Z1.2.2.2.1.hi
    have hh : Hi C C2 := fun j f hj _ => f1 j 0 f hj
    have e40 : C2 40 0 = C 40 0 := funext fun f => f1 40 0 f (by decide)
    have eq : qpose C2 (C2 40 0) = qpose C (C 40 0) := by rw [qpose_Hi hh, e40]
    exact wio Z1.1 a38 rfl (by decide) (x_poseTime Z1.1 (J.I2 hh) (J.M2 hh e40) (fun _ x3 h3 C3 X3 => L_code X3.1 (X3.2.2.2.1.trans (by decide)) (by decide) (LI_q J Z1.2.1 Z1.2.2.1 f1 (fm_of Z1.2.2.2.1 Z1.2.2.2.2 (Or.inl rfl)) Z1.2.2.2.1.two (RF.fw X3.2.2.2.2) (fun f hf => congrFun (X3.2.2.1.trans e40) f) X3.1)) (fun z1 z2 => by rw [eq] at z2; exfalso; omega))
  · have f1 := Z1.2.2.2.1.hi
    have hh : Hi C C2 := Hi.o90 f1 f2
    have e40 : C2 40 0 = C 40 0 := funext fun f => (f2 40 0 f (by decide)).trans (f1 40 0 f (by decide))
    have eq : qpose C2 (C2 40 0) = qpose C (C 40 0) := by rw [qpose_Hi hh, e40]
    exact wio R2 a38 rfl (by decide) (x_poseTime R2 (J.I2 hh) (J.M2 hh e40) (fun z => by rw [eq] at z; exfalso; omega) (fun z1 z2 x3 h3 C3 X3 hx => L_ok X3.1 X3.2.2.2.1 (((X3.2.2.2.2 90 0 0 (by unfold gP; omega) (by omega)).trans o2).trans (hy.trans (hx.trans (by rw [eq])).symm)) (LI_q J Z1.2.1 Z1.2.2.1 Z1.2.2.2.1.hi (fm_of Z1.2.2.2.1 Z1.2.2.2.2 (Or.inl rfl)) Z1.2.2.2.1.two ((RF.o90 f2).tr (RF.fw X3.2.2.2.2)) (fun f hf => congrFun (X3.2.2.1.trans e40) f) X3.1)))
theorem lc32 (J : LJ j N zz C P) (R : D h A N zz C P) (hj : j < 512) (p1 : Int32) : vLc32 (A 8 0) (LI (A 8 0) (A 0 0) (A 38 0) (A 90 0) (j + 1)) h (A 0 0) (A 38 0) (A 90 0) p1 := by
  unfold vLc32 vL_poseWeight
  refine wio R a00 rfl (by decide) (q_poseWeight (J.Z R) J.si J.mi (qp32 J.si J.mi) (fun a h2 C2 Z1 => ⟨rfl, ?_⟩) (fun a b y h1 C1 Z1 hy => L_out Z1.1 (fun h2 C2 R2 o2 f2 => ?_)))
  · have f1 := Z1.2.2.2.1.hi
    have hh : Hi C C2 := fun j f hj _ => f1 j 0 f hj
    have e40 : C2 40 0 = C 40 0 := funext fun f => f1 40 0 f (by decide)
    have eq : qpose C2 (C2 40 0) = qpose C (C 40 0) := by rw [qpose_Hi hh, e40]
    exact wio Z1.1 a38 rfl (by decide) (x_poseWeight Z1.1 (J.I2 hh) (J.M2 hh e40) (fun _ x3 h3 C3 X3 => L_code X3.1 (X3.2.2.2.1.trans (by decide)) (by decide) (LI_q J Z1.2.1 Z1.2.2.1 f1 (fm_of Z1.2.2.2.1 Z1.2.2.2.2 (Or.inl rfl)) Z1.2.2.2.1.two (RF.fw X3.2.2.2.2) (fun f hf => congrFun (X3.2.2.1.trans e40) f) X3.1)) (fun z1 z2 => by rw [eq] at z2; exfalso; omega))
  · have f1 := Z1.2.2.2.1.hi
    have hh : Hi C C2 := Hi.o90 f1 f2
    have e40 : C2 40 0 = C 40 0 := funext fun f => (f2 40 0 f (by decide)).trans (f1 40 0 f (by decide))
    have eq : qpose C2 (C2 40 0) = qpose C (C 40 0) := by rw [qpose_Hi hh, e40]
    exact wio R2 a38 rfl (by decide) (x_poseWeight R2 (J.I2 hh) (J.M2 hh e40) (fun z => by rw [eq] at z; exfalso; omega) (fun z1 z2 x3 h3 C3 X3 hx => L_ok X3.1 X3.2.2.2.1 (((X3.2.2.2.2 90 0 0 (by unfold gP; omega) (by omega)).trans o2).trans (hy.trans (hx.trans (by rw [eq])).symm)) (LI_q J Z1.2.1 Z1.2.2.1 Z1.2.2.2.1.hi (fm_of Z1.2.2.2.1 Z1.2.2.2.2 (Or.inl rfl)) Z1.2.2.2.1.two ((RF.o90 f2).tr (RF.fw X3.2.2.2.2)) (fun f hf => congrFun (X3.2.2.1.trans e40) f) X3.1)))
theorem lc35 (J : LJ j N zz C P) (R : D h A N zz C P) (hj : j < 512) (p1 : Int32) : vLc35 (A 8 0) (LI (A 8 0) (A 0 0) (A 38 0) (A 90 0) (j + 1)) h (A 0 0) (A 38 0) (A 90 0) p1 := by
  unfold vLc35 vL_foretell
  have tq := J.tq
  refine wio R a00 rfl (by decide) (q_foretell R J.ks J.cp J.si J.mi (by omega) (by omega) (fun a => Or.inl ⟨rfl, ?_⟩) (fun a b c => Or.inr (⟨rfl, ?_⟩)) (fun a b c y h1 C1 P1 t1 M1 Z1 hy => L_out Z1.1 (fun h2 C2 R2 o2 f2 => ?_)))
  · exact wio R a38 rfl (by decide) (x_foretell R J.si J.mi (by omega) (by omega) (fun _ x3 h3 C3 X3 => L_code X3.1 (X3.2.2.2.1.trans (by decide)) (by decide) (LI_s J (RF.fw X3.2.2.2.2) (fun f hf => congrFun X3.2.2.1 f) X3.1)) (fun z1 z2 z3 => by exfalso; omega) (fun z1 z2 z3 => by exfalso; omega))
  · exact wio R a38 rfl (by decide) (x_foretell R J.si J.mi (by omega) (by omega) (fun z => by exfalso; omega) (fun _ _ _ x3 h3 C3 X3 => L_code X3.1 (X3.2.2.2.1.trans (by decide)) (by decide) (LI_s J (RF.fw X3.2.2.2.2) (fun f hf => congrFun X3.2.2.1 f) X3.1)) (fun z1 z2 z3 => by exfalso; omega))
  · have f1 := Z1.2.2.2.1.hi
    have hh : Hi C C2 := Hi.o90 f1 f2
    have n19 : C2 38 0 19 = C 38 0 19 := (f2 38 0 19 (by decide)).trans (f1 38 0 19 (by decide))
    have e40 : C2 40 0 = C 40 0 := funext fun f => (f2 40 0 f (by decide)).trans (f1 40 0 f (by decide))
    have fm1 := J.mi.fm
    have cu := J.mi.cu
    have ev := J.mi.ev
    have c1 : CP C 0 (C 40 0 287) (C 40 0) C1 P1 := J.cp.go (by omega) (by omega) (fun j i f hm => ⟨Z1.2.2.2.1 j i f (fun z => by have := mP_one hm z; omega), Z1.2.2.2.2 j i f (fun z => by have := mP_one hm z; omega)⟩) (fun _ _ => rfl) (fun z => z)
    have n287 : C2 40 0 287 = C 40 0 287 := congrFun e40 287
    have tq := J.tq
    exact wio R2 a38 rfl (by decide) (x_foretell R2 (J.I2 hh) (J.M2 hh e40) (by omega) (by omega) (fun z => by exfalso; omega) (fun z1 z2 z3 => by exfalso; omega) (fun z1 z2 z3 x3 h3 C3 X3 hx => L_ok X3.1 X3.2.2.2.1 (((X3.2.2.2.2 90 0 0 (by unfold gP; omega) (by omega)).trans o2).trans (hy.trans (hx.trans (by rw [told_Hi hh, e40])).symm)) (LI_q J Z1.2.1 c1 f1 (fm_of Z1.2.2.2.1 Z1.2.2.2.2 (Or.inr rfl)) Z1.2.2.2.1.two ((RF.o90 f2).tr (RF.fw X3.2.2.2.2)) (fun f hf => by rw [congrFun X3.2.2.1 f, e40]; unfold cpy; rw [if_neg (by omega)]) X3.1)))
theorem lc36 (J : LJ j N zz C P) (R : D h A N zz C P) (hj : j < 512) (p1 : Int32) : vLc36 (A 8 0) (LI (A 8 0) (A 0 0) (A 38 0) (A 90 0) (j + 1)) h (A 0 0) (A 38 0) (A 90 0) p1 := by
  unfold vLc36 vL_ticksTo
  have tq := J.tq
  refine wio R a00 rfl (by decide) (q_ticksTo R J.ks J.cp J.si J.mi (by omega) (by omega) (fun a => ⟨rfl, ?_⟩) (fun a b y h1 C1 P1 t1 M1 Z1 hy => L_out Z1.1 (fun h2 C2 R2 o2 f2 => ?_)))
  · exact wio R a38 rfl (by decide) (x_ticksTo R J.si J.mi (by omega) (by omega) (fun _ x3 h3 C3 X3 => L_code X3.1 (X3.2.2.2.1.trans (by decide)) (by decide) (LI_s J (RF.fw X3.2.2.2.2) (fun f hf => congrFun X3.2.2.1 f) X3.1)) (fun z1 z2 => by exfalso; omega))
  · have f1 := Z1.2.2.2.1.hi
    have hh : Hi C C2 := Hi.o90 f1 f2
    have n19 : C2 38 0 19 = C 38 0 19 := (f2 38 0 19 (by decide)).trans (f1 38 0 19 (by decide))
    have e40 : C2 40 0 = C 40 0 := funext fun f => (f2 40 0 f (by decide)).trans (f1 40 0 f (by decide))
    have fm1 := J.mi.fm
    have cu := J.mi.cu
    have ev := J.mi.ev
    have c1 : CP C 0 (C 40 0 287) (C 40 0) C1 P1 := J.cp.go (by omega) (by omega) (fun j i f hm => ⟨Z1.2.2.2.1 j i f (fun z => by have := mP_one hm z; omega), Z1.2.2.2.2 j i f (fun z => by have := mP_one hm z; omega)⟩) (fun _ _ => rfl) (fun z => z)
    have n287 : C2 40 0 287 = C 40 0 287 := congrFun e40 287
    have tq := J.tq
    exact wio R2 a38 rfl (by decide) (x_ticksTo R2 (J.I2 hh) (J.M2 hh e40) (by omega) (by omega) (fun z => by exfalso; omega) (fun z1 z2 x3 h3 C3 X3 hx => L_ok X3.1 X3.2.2.2.1 (((X3.2.2.2.2 90 0 0 (by unfold gP; omega) (by omega)).trans o2).trans (hy.trans (hx.trans (by rw [tto_Hi hh, e40])).symm)) (LI_q J Z1.2.1 c1 f1 (fm_of Z1.2.2.2.1 Z1.2.2.2.2 (Or.inr rfl)) Z1.2.2.2.1.two ((RF.o90 f2).tr (RF.fw X3.2.2.2.2)) (fun f hf => by rw [congrFun X3.2.2.1 f, e40]; unfold cpy; rw [if_neg (by omega)]) X3.1)))
theorem lc37 (J : LJ j N zz C P) (R : D h A N zz C P) (hj : j < 512) (p1 : Int32) (p2 : Int32) : vLc37 (A 8 0) (LI (A 8 0) (A 0 0) (A 38 0) (A 90 0) (j + 1)) h (A 0 0) (A 38 0) (A 90 0) p1 p2 := by
  unfold vLc37 vL_steps
  refine wio R a00 rfl (by decide) (q_steps R J.ks J.si (fun a => ⟨rfl, ?_⟩) (fun a b c d y h1 C1 R1 fr1 hd => L_out R1 (fun h2 C2 R2 o2 f2 => ?_)))
  · exact wio R a38 rfl (by decide) (r_steps R J.si (fun _ x3 h3 C3 R3 e25 fr => L_code R3 (e25.trans (by decide)) (by decide) (LI_s J (fun j i f h1 h2 _ => fr j i f (by omega) (by omega)) (fun f hf => fr 40 0 f (by omega) (by omega)) R3)) (fun z1 z2 z3 z4 => by exfalso; omega))
  · have f1 : ∀ j i f : Nat, 38 ≤ j → C1 j i f = C j i f := fun j i f hj => fr1 j i f (by omega)
    have hh : Hi C C2 := Hi.o90 f1 f2
    have n19 : C2 38 0 19 = C 38 0 19 := hh 38 19 (by decide) rfl
    have fm1 := J.mi.fm
    have cu := J.mi.cu
    have ev := J.mi.ev
    exact wio R2 a38 rfl (by decide) (r_steps R2 (J.I2 hh) (fun z => by exfalso; omega) (fun z1 z2 z3 z4 x3 h3 C3 R3 e25 fr hd2 => L_ok R3 e25 (((fr 90 0 0 (by omega) (by omega)).trans o2).trans (isD_one hd (by rw [isD_Hi hh] at hd2; exact hd2))) (LI_q J (J.ks.di fr1) (J.cp.go (by omega) (by omega) (fun j i f hm => ⟨fr1 j i f (by have := hm.1; omega), rfl⟩) (fun _ _ => rfl) (fun z => z)) f1 (fun s hs j i f hm => ⟨fr1 j i f (by have := hm.1; omega), rfl⟩) (fun s => fr1 2 0 s (by decide)) (fun j i f h1 h2 h3 => (fr j i f (by omega) (by omega)).trans (f2 j i f (by omega))) (fun f hf => (fr 40 0 f (by omega) (by omega)).trans ((f2 40 0 f (by decide)).trans (f1 40 0 f (by decide)))) R3)))
theorem lc16 (J : LJ j N zz C P) (R : D h A N zz C P) (hj : j < 512) : vLc16 (A 8 0) (LI (A 8 0) (A 0 0) (A 38 0) (A 90 0) (j + 1)) h (A 0 0) (A 38 0) (A 90 0) := by
  unfold vLc16
  have i1 := J.si.nt
  have hn : C 38 0 21 = (((C 38 0 21).toNat : Nat) : Int) := by omega
  refine wio R a00 rfl (by decide) (q_fault R J.ks J.si rfl hn (fun y h2 C2 P2 R2 K2 G hy => ?_))
  have f1 : ∀ j i f : Nat, 38 ≤ j → C2 j i f = C j i f := fun j i f hj => (G j i f (by omega)).1
  have hh : Hi C C2 := fun j f hj _ => f1 j 0 f hj
  have fm1 := J.mi.fm
  have cu := J.mi.cu
  have ev := J.mi.ev
  refine wio R2 a38 rfl (by decide) (rr_fault R2 (J.I2 hh) (n := (C 38 0 21).toNat) ((f1 38 0 21 (by decide)).trans hn) (fun x3 h3 C3 R3 e25 fr hx => ⟨Int32.toInt.inj (hy.trans (hx.trans (by rw [pAll_Hi hh])).symm), ?_⟩))
  exact LI_q J K2 (J.cp.go (by omega) (by omega) (fun j i f hm => G j i f (by have := hm.1; omega)) (fun _ _ => rfl) (fun z => z)) f1 (fun s hs j i f hm => G j i f (by have := hm.1; omega)) (fun s => (G 2 0 s (by omega)).1) (fun j i f h1 h2 h3 => fr j i f (by unfold nr; omega) (by omega)) (fun f hf => (fr 40 0 f (by unfold nr; omega) (by omega)).trans (f1 40 0 f (by decide))) R3
end LQ
