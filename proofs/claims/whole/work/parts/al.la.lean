/-! ===== the law's calls that add ===== -/
theorem bz01 (x : Int32) : (bz x).toInt = 0 ∨ (bz x).toInt = 1 := by
  unfold bz
  split
  · exact Or.inl (by decide)
  · exact Or.inr (by decide)
section LQA
variable {h h2 h3 : gH} {A A1 : dA} {N zz N1 zz1 : Nat → Nat} {C C1 C2 C3 : dC} {P P1 : dP} {M : dM} {tb tq : Int} {j k : Nat} {t0 x mm o : Nat}
def mx (C C3 : dC) : dC := fun j i f => if 38 ≤ j then C3 j i f else C j i f
theorem mx_hi : Hi (mx C C3) C3 := fun j f hj _ => (if_pos hj).symm
theorem mx_s {X : Nat → Nat → Prop} (a : ∀ j f : Nat, 38 ≤ j → sta j f = true → ¬ X j f → C3 j 0 f = C j 0 f) : ∀ j f : Nat, sta j f = true → ¬ X j f → mx C C3 j 0 f = C j 0 f := fun j f hs hx => by
  unfold mx
  by_cases z : 38 ≤ j
  · rw [if_pos z]; exact a j f z hs hx
  · rw [if_neg z]
theorem mx_s2 {X Y : Nat → Nat → Prop} (a : ∀ j f : Nat, 38 ≤ j → sta j f = true → ¬ X j f → ¬ Y j f → C3 j 0 f = C j 0 f) : ∀ j f : Nat, sta j f = true → ¬ X j f → ¬ Y j f → mx C C3 j 0 f = C j 0 f := fun j f hs hx hy => by
  unfold mx
  by_cases z : 38 ≤ j
  · rw [if_pos z]; exact a j f z hs hx hy
  · rw [if_neg z]
theorem MV.eq (a : C3 38 0 19 = C 38 0 19) (b : C3 38 0 21 = C 38 0 21) (c : ∀ s : Nat, C3 57 0 s = C 57 0 s) (d : ∀ t : Nat, (t : Int) < C 38 0 21 → C3 60 0 (17 * t + 2) = C 60 0 (17 * t + 2)) : MV C C3 := ⟨Int.le_of_eq a.symm, Int.le_of_eq b.symm, fun s _ => c s, d⟩
/-- a call that adds, and leaves the machines as they are -/
theorem LI_a (J : LJ j N zz C P) (a8 : A1 8 0 = t0) (a0 : A1 0 0 = x) (am : A1 38 0 = mm) (ao : A1 90 0 = o) (c1 : ∀ j i f : Nat, 21 ≤ j → C1 j i f = C j i f) (p1 : ∀ j i f : Nat, 21 ≤ j → P1 j i f = P j i f) (c2 : ∀ s, C1 2 0 s = C 2 0 s) (lo : ∀ j i f : Nat, j < 38 → C3 j i f = C1 j i f) (e41 : ∀ s, C3 41 0 s = C 41 0 s) (e40 : ∀ f, f < 870 → C3 40 0 f = C 40 0 f) (S3 : SI (mx C C3)) (K3 : KS (mx C C3) N1 zz1 C1 P1) (v : MV C C3) (hn : 0 < C 38 0 19 ∨ C3 38 0 19 = C 38 0 19) (h3' : C 38 0 3 ≤ C3 38 0 3) (cz : ∀ c : Nat, C3 38 0 8 ≤ c → c < 12 → C3 45 0 c = 0) (R3 : D h3 A1 N1 zz1 C3 P1) : LI t0 x mm o (j + 1) h3 := by
  have fm := J.mi.fm
  have cu := J.mi.cu
  have ev := J.mi.ev
  have m : ∀ j i f : Nat, 21 ≤ j → j ≤ 37 → C3 j i f = C j i f ∧ P1 j i f = P j i f := fun j i f z1 z2 => ⟨(lo j i f (by omega)).trans (c1 j i f z1), p1 j i f z1⟩
  exact ⟨A1, N1, zz1, C3, P1, a8, a0, am, ao, R3, J.same v hn h3' (S3.Hi_ mx_hi) ((K3.Hi_ mx_hi).fr (fun j i f z => lo j i f (by omega)) (fun _ _ _ _ => rfl)) (J.cp.go (by omega) (by omega) (fun j i f z => m j i f z.1 z.2.1) (fun _ _ => rfl) (fun z => z)) cz (fun s hs => ⟨(lo 2 0 s (by decide)).trans (c2 s), e41 s⟩) e40 (fun s hs j i f z => m j i f z.1 z.2.1)⟩
theorem lc13 (J : LJ j N zz C P) (R : D h A N zz C P) (hj : j < 512) (p1 : Int32) : vLc13 (A 8 0) (LI (A 8 0) (A 0 0) (A 38 0) (A 90 0) (j + 1)) h (A 0 0) (A 38 0) (A 90 0) p1 := by
  unfold vLc13 vL_setThreshold
  refine wio R a00 rfl (by decide) (q_setThreshold R J.ks (fun a => ⟨rfl, ?_⟩) (fun a b y h1 R1 hy => L_out R1 (fun h2 C2 R2 o2 f2 => ?_)))
  · exact wio R a38 rfl (by decide) (r_setThreshold R J.si (fun _ x3 h3 C3 R3 _ e25 fr => L_code R3 (e25.trans (by decide)) (by decide) (LI_s J (RF.c25 fr) (fun f hf => fr 40 0 f (by omega)) R3)) (fun z1 z2 => by exfalso; omega))
  · have f1 : ∀ j i f : Nat, 21 ≤ j → (up3 C 4 0 6 p1.toInt) j i f = C j i f := fun j i f hj => by rw [up3_ne _ _ (by omega)]
    have f12 : ∀ s, (up3 C 4 0 6 p1.toInt) 2 0 s = C 2 0 s := fun s => by rw [up3_ne _ _ (by omega)]
    have hh : Hi C C2 := Hi.o90 (fun j i f hj => f1 j i f (by omega)) f2
    have n38_22 : C2 38 0 22 = C 38 0 22 := hh 38 22 (by decide) rfl
    refine wio R2 a38 rfl (by decide) (r_setThreshold R2 (J.I2 hh) (fun z => by exfalso; omega) (fun z1 z2 x3 h3 C3 R3 hx e25 a1 fr => L_ok R3 e25 (((fr 90 0 0 (by omega) (by omega)).trans o2).trans (hy.trans (hx.trans n38_22).symm)) ?_))
    have F3 : ∀ j f : Nat, 38 ≤ j → sta j f = true → ¬ (j = 38 ∧ f = 22) → C3 j 0 f = C j 0 f := fun j f hj hs hx => (fr j 0 f (by have := sta_lt hs; omega) (by have := sta_lt hs; omega)).trans (hh j f hj hs)
    have n19 := F3 38 19 (by decide) rfl
    exact LI_a J rfl rfl rfl rfl f1 (fun _ _ _ _ => rfl) f12 (fun j i f hj => (fr j i f (by omega) (by omega)).trans (f2 j i f (by omega))) (fun s => (fr 41 0 s (by omega) (by omega)).trans ((f2 41 0 s (by decide)).trans (f1 41 0 s (by decide)))) (fun f _ => (fr 40 0 f (by omega) (by omega)).trans ((f2 40 0 f (by decide)).trans (f1 40 0 f (by decide)))) (SI.thr J.si ⟨by rw [show mx C C3 38 0 22 = p1.toInt from a1]; exact a, by rw [show mx C C3 38 0 22 = p1.toInt from a1]; exact b⟩ (mx_s F3)) (KS.thr J.ks a1 (mx_s F3)) (MV.eq (F3 38 19 (by decide) rfl (by omega)) (F3 38 21 (by decide) rfl (by omega)) (fun s => F3 57 s (by decide) rfl (by omega)) (fun t _ => F3 60 _ (by decide) rfl (by omega))) (Or.inr (F3 38 19 (by decide) rfl (by omega))) (Int.le_of_eq (F3 38 3 (by decide) rfl (by omega)).symm) (fun c z1 z2 => (F3 45 c (by decide) rfl (by omega)).trans (J.cz c (by rw [← F3 38 8 (by decide) rfl (by omega)]; exact z1) z2)) R3
theorem lc14 (J : LJ j N zz C P) (R : D h A N zz C P) (hj : j < 512) (p1 : Int32) : vLc14 (A 8 0) (LI (A 8 0) (A 0 0) (A 38 0) (A 90 0) (j + 1)) h (A 0 0) (A 38 0) (A 90 0) p1 := by
  unfold vLc14 vL_type
  have i1 := J.si.tl
  obtain ⟨n, hn⟩ : ∃ n : Nat, C 38 0 24 = (n : Int) := ⟨(C 38 0 24).toNat, by omega⟩
  refine wio R a00 rfl (by decide) (q_type R J.ks hn (fun a => Or.inl ⟨rfl, ?_⟩) (fun a b c => Or.inr (⟨rfl, ?_⟩)) (fun a b c y h1 R1 hy => L_out R1 (fun h2 C2 R2 o2 f2 => ?_)))
  · exact wio R a38 rfl (by decide) (r_type R J.si (fun _ x3 h3 C3 R3 _ e25 fr => L_code R3 (e25.trans (by decide)) (by decide) (LI_s J (RF.c25 fr) (fun f hf => fr 40 0 f (by omega)) R3)) (fun z1 z2 z3 => by exfalso; omega) (fun z1 z2 z3 => by exfalso; omega))
  · exact wio R a38 rfl (by decide) (r_type R J.si (fun z => by exfalso; omega) (fun _ _ _ x3 h3 C3 R3 _ e25 fr => L_code R3 (e25.trans (by decide)) (by decide) (LI_s J (RF.c25 fr) (fun f hf => fr 40 0 f (by omega)) R3)) (fun z1 z2 z3 => by exfalso; omega))
  · have f1 : ∀ j i f : Nat, 21 ≤ j → (up3 (up3 C 20 0 n p1.toInt) 19 0 2 ((n : Int) + 1)) j i f = C j i f := fun j i f hj => by rw [up3_ne _ _ (by omega), up3_ne _ _ (by omega)]
    have f12 : ∀ s, (up3 (up3 C 20 0 n p1.toInt) 19 0 2 ((n : Int) + 1)) 2 0 s = C 2 0 s := fun s => by rw [up3_ne _ _ (by omega), up3_ne _ _ (by omega)]
    have hh : Hi C C2 := Hi.o90 (fun j i f hj => f1 j i f (by omega)) f2
    have n24 : C2 38 0 24 = (n : Int) := (hh 38 24 (by decide) rfl).trans hn
    refine wio R2 a38 rfl (by decide) (r_type R2 (J.I2 hh) (fun z => by exfalso; omega) (fun z1 z2 z3 => by exfalso; omega) (fun z1 z2 z3 x3 h3 C3 R3 hx e25 a1 a2 fr => ?_))
    simp only [n24, Int.toNat_natCast] at hx a1 a2 fr
    refine L_ok R3 e25 (((fr 90 0 0 (by omega) (by omega) (by omega)).trans o2).trans (hy.trans hx.symm)) ?_
    have F3 : ∀ j f : Nat, 38 ≤ j → sta j f = true → ¬ (j = 38 ∧ f = 24 ∨ j = 63 ∧ f = n) → C3 j 0 f = C j 0 f := fun j f hj hs hx => (fr j 0 f (by have := sta_lt hs; omega) (by have := sta_lt hs; omega) (by have := sta_lt hs; omega)).trans (hh j f hj hs)
    have n19 := F3 38 19 (by decide) rfl
    exact LI_a J rfl rfl rfl rfl f1 (fun _ _ _ _ => rfl) f12 (fun j i f hj => (fr j i f (by omega) (by omega) (by omega)).trans (f2 j i f (by omega))) (fun s => (fr 41 0 s (by omega) (by omega) (by omega)).trans ((f2 41 0 s (by decide)).trans (f1 41 0 s (by decide)))) (fun f _ => (fr 40 0 f (by omega) (by omega) (by omega)).trans ((f2 40 0 f (by decide)).trans (f1 40 0 f (by decide)))) (SI.typ J.si hn c a2 ⟨by rw [show mx C C3 63 0 n = p1.toInt from a1]; exact a, by rw [show mx C C3 63 0 n = p1.toInt from a1]; exact b⟩ (mx_s F3)) (KS.typ J.ks hn a2 a1 (mx_s2 (fun j f hj hs z1 z2 => F3 j f hj hs (fun y => y.elim z1 z2)))) (MV.eq (F3 38 19 (by decide) rfl (by omega)) (F3 38 21 (by decide) rfl (by omega)) (fun s => F3 57 s (by decide) rfl (by omega)) (fun t _ => F3 60 _ (by decide) rfl (by omega))) (Or.inr (F3 38 19 (by decide) rfl (by omega))) (Int.le_of_eq (F3 38 3 (by decide) rfl (by omega)).symm) (fun c z1 z2 => (F3 45 c (by decide) rfl (by omega)).trans (J.cz c (by rw [← F3 38 8 (by decide) rfl (by omega)]; exact z1) z2)) R3
theorem lc15 (J : LJ j N zz C P) (R : D h A N zz C P) (hj : j < 512) : vLc15 (A 8 0) (LI (A 8 0) (A 0 0) (A 38 0) (A 90 0) (j + 1)) h (A 0 0) (A 38 0) (A 90 0) := by
  unfold vLc15
  refine wio R a00 rfl (by decide) (q_clearText R J.ks (fun y h2 R2 hy => ?_))
  have f1 : ∀ j i f : Nat, 21 ≤ j → (up3 C 19 0 2 0) j i f = C j i f := fun j i f hj => up3_ne _ _ (by omega)
  have f12 : ∀ s, (up3 C 19 0 2 0) 2 0 s = C 2 0 s := fun s => up3_ne _ _ (by omega)
  obtain ⟨C2, hC2⟩ : ∃ C2, C2 = up3 C 19 0 2 0 := ⟨_, rfl⟩
  rw [← hC2] at R2
  have f2 : ∀ j i f : Nat, j ≠ 90 → C2 j i f = (up3 C 19 0 2 0) j i f := fun j i f _ => by rw [hC2]
  have hh : Hi C C2 := Hi.o90 (fun j i f hj => f1 j i f (by omega)) f2
  have n24 : C2 38 0 24 = C 38 0 24 := hh 38 24 (by decide) rfl
  refine wio R2 a38 rfl (by decide) (r_clearText R2 (fun x3 h3 C3 R3 hx e25 a1 fr => ⟨Int32.toInt.inj (hy.trans (hx.trans n24).symm), ?_⟩))
  have F3 : ∀ j f : Nat, 38 ≤ j → sta j f = true → ¬ (j = 38 ∧ f = 24) → C3 j 0 f = C j 0 f := fun j f hj hs hx => (fr j 0 f (by have := sta_lt hs; omega) (by have := sta_lt hs; omega)).trans (hh j f hj hs)
  have n19 := F3 38 19 (by decide) rfl
  exact LI_a J rfl rfl rfl rfl f1 (fun _ _ _ _ => rfl) f12 (fun j i f hj => (fr j i f (by omega) (by omega)).trans (f2 j i f (by omega))) (fun s => (fr 41 0 s (by omega) (by omega)).trans ((f2 41 0 s (by decide)).trans (f1 41 0 s (by decide)))) (fun f _ => (fr 40 0 f (by omega) (by omega)).trans ((f2 40 0 f (by decide)).trans (f1 40 0 f (by decide)))) (SI.clt J.si a1 (mx_s F3)) (KS.clt J.ks a1 (mx_s F3)) (MV.eq (F3 38 19 (by decide) rfl (by omega)) (F3 38 21 (by decide) rfl (by omega)) (fun s => F3 57 s (by decide) rfl (by omega)) (fun t _ => F3 60 _ (by decide) rfl (by omega))) (Or.inr (F3 38 19 (by decide) rfl (by omega))) (Int.le_of_eq (F3 38 3 (by decide) rfl (by omega)).symm) (fun c z1 z2 => (F3 45 c (by decide) rfl (by omega)).trans (J.cz c (by rw [← F3 38 8 (by decide) rfl (by omega)]; exact z1) z2)) R3
theorem lc0 (J : LJ j N zz C P) (R : D h A N zz C P) (hj : j < 512) (p1 : Int32) : vLc0 (A 8 0) (LI (A 8 0) (A 0 0) (A 38 0) (A 90 0) (j + 1)) h (A 0 0) (A 38 0) (A 90 0) p1 := by
  unfold vLc0 vL_addParameter
  have i1 := J.si.np
  obtain ⟨n, hn⟩ : ∃ n : Nat, C 38 0 3 = (n : Int) := ⟨(C 38 0 3).toNat, by omega⟩
  refine wio R a00 rfl (by decide) (q_addParameter R J.ks hn (fun a => Or.inl ⟨rfl, ?_⟩) (fun a b c => Or.inr (⟨rfl, ?_⟩)) (fun a b c y h1 R1 hy => L_out R1 (fun h2 C2 R2 o2 f2 => ?_)))
  · exact wio R a38 rfl (by decide) (r_addParameter R J.si (fun _ x3 h3 C3 R3 _ e25 fr => L_code R3 (e25.trans (by decide)) (by decide) (LI_s J (RF.c25 fr) (fun f hf => fr 40 0 f (by omega)) R3)) (fun z1 z2 z3 => by exfalso; omega) (fun z1 z2 z3 => by exfalso; omega))
  · exact wio R a38 rfl (by decide) (r_addParameter R J.si (fun z => by exfalso; omega) (fun _ _ _ x3 h3 C3 R3 _ e25 fr => L_code R3 (e25.trans (by decide)) (by decide) (LI_s J (RF.c25 fr) (fun f hf => fr 40 0 f (by omega)) R3)) (fun z1 z2 z3 => by exfalso; omega))
  · have f1 : ∀ j i f : Nat, 21 ≤ j → (up3 (up3 C 5 0 n p1.toInt) 4 0 1 ((n : Int) + 1)) j i f = C j i f := fun j i f hj => by rw [up3_ne _ _ (by omega), up3_ne _ _ (by omega)]
    have f12 : ∀ s, (up3 (up3 C 5 0 n p1.toInt) 4 0 1 ((n : Int) + 1)) 2 0 s = C 2 0 s := fun s => by rw [up3_ne _ _ (by omega), up3_ne _ _ (by omega)]
    have hh : Hi C C2 := Hi.o90 (fun j i f hj => f1 j i f (by omega)) f2
    have n3 : C2 38 0 3 = (n : Int) := (hh 38 3 (by decide) rfl).trans hn
    refine wio R2 a38 rfl (by decide) (r_addParameter R2 (J.I2 hh) (fun z => by exfalso; omega) (fun z1 z2 z3 => by exfalso; omega) (fun z1 z2 z3 x3 h3 C3 R3 hx e25 a1 a2 a3 fr => ?_))
    simp only [n3, Int.toNat_natCast] at hx a1 a2 a3 fr
    refine L_ok R3 e25 (((fr 90 0 0 (by omega) (by omega) (by omega) (by omega)).trans o2).trans (hy.trans hx.symm)) ?_
    have F3 : ∀ j f : Nat, 38 ≤ j → sta j f = true → ¬ (j = 38 ∧ f = 3 ∨ j = 42 ∧ f = n) → C3 j 0 f = C j 0 f := fun j f hj hs hx => (fr j 0 f (by have := sta_lt hs; omega) (by have := sta_lt hs; omega) (by have := sta_lt hs; omega) (by have := sta_lt hs; omega)).trans (hh j f hj hs)
    have n19 := F3 38 19 (by decide) rfl
    exact LI_a J rfl rfl rfl rfl f1 (fun _ _ _ _ => rfl) f12 (fun j i f hj => (fr j i f (by omega) (by omega) (by omega) (by omega)).trans (f2 j i f (by omega))) (fun s => (fr 41 0 s (by omega) (by omega) (by omega) (by omega)).trans ((f2 41 0 s (by decide)).trans (f1 41 0 s (by decide)))) (fun f hf => by
      by_cases z : f = n
      · rw [z, a2]; exact (J.vz n (by omega) c).symm
      · exact (fr 40 0 f (by omega) (by omega) (by omega) (by omega)).trans ((f2 40 0 f (by decide)).trans (f1 40 0 f (by decide)))) (SI.apa J.si hn c a3 a1 ⟨a, b⟩ (mx_s F3)) (KS.apa J.ks hn a3 a1 (mx_s2 (fun j f hj hs z1 z2 => F3 j f hj hs (fun y => y.elim z1 z2)))) (MV.eq (F3 38 19 (by decide) rfl (by omega)) (F3 38 21 (by decide) rfl (by omega)) (fun s => F3 57 s (by decide) rfl (by omega)) (fun t _ => F3 60 _ (by decide) rfl (by omega))) (Or.inr (F3 38 19 (by decide) rfl (by omega))) (by omega) (fun c z1 z2 => (F3 45 c (by decide) rfl (by omega)).trans (J.cz c (by rw [← F3 38 8 (by decide) rfl (by omega)]; exact z1) z2)) R3
theorem lc10 (J : LJ j N zz C P) (R : D h A N zz C P) (hj : j < 512) (p1 : Int32) (p2 : Int32) (p3 : Int32) : vLc10 (A 8 0) (LI (A 8 0) (A 0 0) (A 38 0) (A 90 0) (j + 1)) h (A 0 0) (A 38 0) (A 90 0) p1 p2 p3 := by
  unfold vLc10 vL_setTiming
  have n3 : (((N 3 : Nat) : Int)) = C 38 0 21 := J.ks.nn.2.2.2
  have i1 := J.si.nt
  refine wio R a00 rfl (by decide) (q_setTiming R J.ks (fun a => Or.inl ⟨rfl, ?_⟩) (fun a b c => Or.inr (Or.inl ⟨rfl, ?_⟩)) (fun a b c d e f g i => Or.inr (Or.inr (⟨rfl, ?_⟩))) (fun a b c d e f g y h1 R1 hy => L_out R1 (fun h2 C2 R2 o2 f2 => ?_)))
  · exact wio R a38 rfl (by decide) (r_setTiming R J.si (fun _ x3 h3 C3 R3 _ e25 fr => L_code R3 (e25.trans (by decide)) (by decide) (LI_s J (RF.c25 fr) (fun f hf => fr 40 0 f (by omega)) R3)) (fun z0 z1 z2 => by exfalso; omega) (fun z0 z1 z2 z3 z4 z5 z6 z7 => by exfalso; omega) (fun z0 z1 z2 z3 z4 z5 z6 => by exfalso; omega))
  · exact wio R a38 rfl (by decide) (r_setTiming R J.si (fun z0 => by exfalso; omega) (fun _ _ _ x3 h3 C3 R3 _ e25 fr => L_code R3 (e25.trans (by decide)) (by decide) (LI_s J (RF.c25 fr) (fun f hf => fr 40 0 f (by omega)) R3)) (fun z0 z1 z2 z3 z4 z5 z6 z7 => by exfalso; omega) (fun z0 z1 z2 z3 z4 z5 z6 => by exfalso; omega))
  · exact wio R a38 rfl (by decide) (r_setTiming R J.si (fun z0 => by exfalso; omega) (fun z0 z1 z2 => by exfalso; omega) (fun _ _ _ _ _ _ _ _ x3 h3 C3 R3 _ e25 fr => L_code R3 (e25.trans (by decide)) (by decide) (LI_s J (RF.c25 fr) (fun f hf => fr 40 0 f (by omega)) R3)) (fun z0 z1 z2 z3 z4 z5 z6 => by exfalso; omega))
  · obtain ⟨t, ht⟩ : ∃ t : Nat, p1.toInt = (t : Int) := ⟨p1.toInt.toNat, by omega⟩
    have et : p1.toInt.toNat = t := by omega
    rw [et] at R1 f2 hy g
    have f1 : ∀ j i f : Nat, 21 ≤ j → (up3 (up3 C 15 (t + 1) 4 p2.toInt) 15 (t + 1) 5 p3.toInt) j i f = C j i f := fun j i f hj => by rw [up3_ne _ _ (by omega), up3_ne _ _ (by omega)]
    have f12 : ∀ s, (up3 (up3 C 15 (t + 1) 4 p2.toInt) 15 (t + 1) 5 p3.toInt) 2 0 s = C 2 0 s := fun s => by rw [up3_ne _ _ (by omega), up3_ne _ _ (by omega)]
    have hh : Hi C C2 := Hi.o90 (fun j i f hj => f1 j i f (by omega)) f2
    have n38_21 : C2 38 0 21 = C 38 0 21 := hh 38 21 (by decide) rfl
    have g60 : ∀ f, C2 60 0 f = C 60 0 f := fun f => hh 60 f (by decide) rfl
    refine wio R2 a38 rfl (by decide) (r_setTiming R2 (J.I2 hh) (fun z => by exfalso; omega) (fun z1 z2 z3 => by exfalso; omega) (fun z1 z2 z3 z4 z5 z6 z7 z8 => by rw [et, g60] at z8; exfalso; omega) (fun z1 z2 z3 z4 z5 z6 z7 x3 h3 C3 R3 hx e25 a1 a2 fr => ?_))
    rw [et] at hx a1 a2 fr
    refine L_ok R3 e25 (((fr 90 0 0 (by omega) (by omega) (by omega)).trans o2).trans (hy.trans (hx.trans (g60 _)).symm)) ?_
    have F3 : ∀ j f : Nat, 38 ≤ j → sta j f = true → ¬ (j = 60 ∧ (f = 17 * t + 3 ∨ f = 17 * t + 4)) → C3 j 0 f = C j 0 f := fun j f hj hs hx => (fr j 0 f (by have := sta_lt hs; omega) (by have := sta_lt hs; omega) (by have := sta_lt hs; omega)).trans (hh j f hj hs)
    have n19 := F3 38 19 (by decide) rfl
    have F6 : ∀ f : Nat, f ≠ 17 * t + 3 → f ≠ 17 * t + 4 → C3 60 0 f = C 60 0 f := fun f z1 z2 => F3 60 f (by decide) rfl (by omega)
    have tl : (t : Int) < C 38 0 21 := by omega
    have n21 := F3 38 21 (by decide) rfl (by omega)
    obtain ⟨r1, r2, r3, r4, r5, r6, r7, r8, r9, r10, r11⟩ := J.si.rec_ tl
    have T3 : TRk C (mx C C3) t := ⟨by rw [show mx C C3 60 0 (17 * t) = C 60 0 (17 * t) from F6 _ (by omega) (by omega)]; exact r1, by rw [show mx C C3 60 0 (17 * t + 1) = C 60 0 (17 * t + 1) from F6 _ (by omega) (by omega)]; exact r2, by rw [show mx C C3 60 0 (17 * t + 2) = C 60 0 (17 * t + 2) from F6 _ (by omega) (by omega)]; exact r3, by rw [show mx C C3 60 0 (17 * t + 3) = p2.toInt from a1]; exact ⟨c, d⟩, fun z => by rw [show mx C C3 60 0 (17 * t + 3) = p2.toInt from a1]; rw [show mx C C3 60 0 (17 * t) = C 60 0 (17 * t) from F6 _ (by omega) (by omega)] at z; omega, by rw [show mx C C3 60 0 (17 * t + 4) = p3.toInt from a2]; exact ⟨e, f⟩, by rw [show mx C C3 60 0 (17 * t + 5) = C 60 0 (17 * t + 5) from F6 _ (by omega) (by omega)]; exact r7, by rw [show mx C C3 60 0 (17 * t + 6) = C 60 0 (17 * t + 6) from F6 _ (by omega) (by omega)]; exact r8, by rw [show mx C C3 60 0 (17 * t + 7) = C 60 0 (17 * t + 7) from F6 _ (by omega) (by omega)]; exact r9, fun k hk => by rw [show mx C C3 60 0 (17 * t + 7) = C 60 0 (17 * t + 7) from F6 _ (by omega) (by omega)] at hk; rw [show mx C C3 60 0 (17 * t + 8 + 3 * k) = C 60 0 (17 * t + 8 + 3 * k) from F6 _ (by omega) (by omega)]; exact r10 k hk, fun k hk => by rw [show mx C C3 60 0 (17 * t + 7) = C 60 0 (17 * t + 7) from F6 _ (by omega) (by omega)] at hk; rw [show mx C C3 60 0 (17 * t + 8 + 3 * k + 1) = C 60 0 (17 * t + 8 + 3 * k + 1) from F6 _ (by omega) (by omega)]; exact r11 k hk⟩
    have kt := J.ks.tr t (by omega)
    have kc := J.ks.tc t
    exact LI_a J rfl rfl rfl rfl f1 (fun _ _ _ _ => rfl) f12 (fun j i f hj => (fr j i f (by omega) (by omega) (by omega)).trans (f2 j i f (by omega))) (fun s => (fr 41 0 s (by omega) (by omega) (by omega)).trans ((f2 41 0 s (by decide)).trans (f1 41 0 s (by decide)))) (fun f _ => (fr 40 0 f (by omega) (by omega) (by omega)).trans ((f2 40 0 f (by decide)).trans (f1 40 0 f (by decide)))) (SI.tra (n := t) J.si (fun t' z1 _ => by rw [show mx C C3 38 0 21 = C 38 0 21 from n21] at z1; exact z1) (by rw [show mx C C3 38 0 21 = C 38 0 21 from n21]; exact i1) T3 (mx_s (fun j f hj hs z => F3 j f hj hs (by omega)))) (KS.trn (t := t) J.ks (by omega) (mx_s (fun j f hj hs z => F3 j f hj hs (by unfold t60 at z; omega))) (fun j i f z => by rw [up3_ne _ _ (by omega), up3_ne _ _ (by omega)]) ⟨by rw [up3_ne _ _ (by omega), up3_ne _ _ (by omega)]; exact kt.1, by rw [up3_ne _ _ (by omega), up3_ne _ _ (by omega), show mx C C3 60 0 (17 * t + 2) = C 60 0 (17 * t + 2) from F6 _ (by omega) (by omega)]; exact kt.2.1, by rw [up3_ne _ _ (by omega), up3_same]; exact a1.symm, by rw [up3_same]; exact a2.symm, by rw [up3_ne _ _ (by omega), up3_ne _ _ (by omega), show mx C C3 60 0 (17 * t + 5) = C 60 0 (17 * t + 5) from F6 _ (by omega) (by omega)]; exact kt.2.2.2.2.1, by rw [up3_ne _ _ (by omega), up3_ne _ _ (by omega), show mx C C3 60 0 (17 * t + 6) = C 60 0 (17 * t + 6) from F6 _ (by omega) (by omega)]; exact kt.2.2.2.2.2.1, by rw [up3_ne _ _ (by omega), up3_ne _ _ (by omega), show mx C C3 60 0 (17 * t + 7) = C 60 0 (17 * t + 7) from F6 _ (by omega) (by omega)]; exact kt.2.2.2.2.2.2⟩ (fun k hk => by rw [show mx C C3 60 0 (17 * t + 7) = C 60 0 (17 * t + 7) from F6 _ (by omega) (by omega)] at hk; rw [show mx C C3 60 0 (17 * t + 8 + 3 * k) = C 60 0 (17 * t + 8 + 3 * k) from F6 _ (by omega) (by omega), show mx C C3 60 0 (17 * t + 8 + 3 * k + 1) = C 60 0 (17 * t + 8 + 3 * k + 1) from F6 _ (by omega) (by omega), show mx C C3 60 0 (17 * t + 8 + 3 * k + 2) = C 60 0 (17 * t + 8 + 3 * k + 2) from F6 _ (by omega) (by omega), up3_ne _ _ (by omega), up3_ne _ _ (by omega), up3_ne _ _ (by omega), up3_ne _ _ (by omega), up3_ne _ _ (by omega), up3_ne _ _ (by omega)]; exact kc k (by omega) hk) (fun t' z => (J.si.tc t' (by omega)).2)) (MV.eq (F3 38 19 (by decide) rfl (by omega)) (F3 38 21 (by decide) rfl (by omega)) (fun s => F3 57 s (by decide) rfl (by omega)) (fun t _ => F3 60 _ (by decide) rfl (by omega))) (Or.inr (F3 38 19 (by decide) rfl (by omega))) (Int.le_of_eq (F3 38 3 (by decide) rfl (by omega)).symm) (fun c z1 z2 => (F3 45 c (by decide) rfl (by omega)).trans (J.cz c (by rw [← F3 38 8 (by decide) rfl (by omega)]; exact z1) z2)) R3
theorem lc11 (J : LJ j N zz C P) (R : D h A N zz C P) (hj : j < 512) (p1 : Int32) (p2 : Int32) (p3 : Int32) : vLc11 (A 8 0) (LI (A 8 0) (A 0 0) (A 38 0) (A 90 0) (j + 1)) h (A 0 0) (A 38 0) (A 90 0) p1 p2 p3 := by
  unfold vLc11 vL_setInterruption
  have n3 : (((N 3 : Nat) : Int)) = C 38 0 21 := J.ks.nn.2.2.2
  have i1 := J.si.nt
  have hz : (bz p3).toInt = 0 ∨ (bz p3).toInt = 1 := bz01 p3
  refine wio R a00 rfl (by decide) (q_setInterruption R J.ks hz (fun a => Or.inl ⟨rfl, ?_⟩) (fun a b c => Or.inr (⟨rfl, ?_⟩)) (fun a b c d y h1 R1 hy => L_out R1 (fun h2 C2 R2 o2 f2 => ?_)))
  · exact wio R a38 rfl (by decide) (r_setInterruption R J.si (fun _ x3 h3 C3 R3 _ e25 fr => L_code R3 (e25.trans (by decide)) (by decide) (LI_s J (RF.c25 fr) (fun f hf => fr 40 0 f (by omega)) R3)) (fun z1 z2 z3 => by exfalso; omega) (fun z1 z2 z3 z4 z5 => by exfalso; omega) (fun z1 z2 z3 z4 z5 => by exfalso; omega))
  · exact wio R a38 rfl (by decide) (r_setInterruption R J.si (fun z => by exfalso; omega) (fun _ _ _ x3 h3 C3 R3 _ e25 fr => L_code R3 (e25.trans (by decide)) (by decide) (LI_s J (RF.c25 fr) (fun f hf => fr 40 0 f (by omega)) R3)) (fun z1 z2 z3 z4 z5 => by exfalso; omega) (fun z1 z2 z3 z4 z5 => by exfalso; omega))
  · obtain ⟨t, ht⟩ : ∃ t : Nat, p1.toInt = (t : Int) := ⟨p1.toInt.toNat, by omega⟩
    have et : p1.toInt.toNat = t := by omega
    rw [et] at R1 f2 hy
    have f1 : ∀ j i f : Nat, 21 ≤ j → (up3 (up3 C 15 (t + 1) 6 p2.toInt) 15 (t + 1) 7 (bz p3).toInt) j i f = C j i f := fun j i f hj => by rw [up3_ne _ _ (by omega), up3_ne _ _ (by omega)]
    have f12 : ∀ s, (up3 (up3 C 15 (t + 1) 6 p2.toInt) 15 (t + 1) 7 (bz p3).toInt) 2 0 s = C 2 0 s := fun s => by rw [up3_ne _ _ (by omega), up3_ne _ _ (by omega)]
    have hh : Hi C C2 := Hi.o90 (fun j i f hj => f1 j i f (by omega)) f2
    have n38_21 : C2 38 0 21 = C 38 0 21 := hh 38 21 (by decide) rfl
    have g60 : ∀ f, C2 60 0 f = C 60 0 f := fun f => hh 60 f (by decide) rfl
    have fin : ∀ (x3 : Int32) (h3 : gH) (C3 : dC), D h3 A N zz C3 P → x3.toInt = C2 60 0 (17 * t + 5) → C3 38 0 25 = 0 → C3 60 0 (17 * t + 5) = p2.toInt → C3 60 0 (17 * t + 6) = (bz p3).toInt → (∀ j i f : Nat, ¬ (j = 38 ∧ f = 25) → ¬ (j = 60 ∧ f = 17 * t + 5) → ¬ (j = 60 ∧ f = 17 * t + 6) → C3 j i f = C2 j i f) → io h3 (A 38 0) 15 (vX12_thrown (fun rc h4 => rc = 0 ∧ (((0 : Int32) = 0 → ll h4 (A 90 0) 0 (fun y9 => y9 = Int32.toInt64 x3)) ∧ LI (A 8 0) (A 0 0) (A 38 0) (A 90 0) (j + 1) h4)) h3 (A 38 0)) := fun x3 h3 C3 R3 hx e25 a1 a2 fr => by
      refine L_ok R3 e25 (((fr 90 0 0 (by omega) (by omega) (by omega)).trans o2).trans (hy.trans (hx.trans (g60 _)).symm)) ?_
      have F3 : ∀ j f : Nat, 38 ≤ j → sta j f = true → ¬ (j = 60 ∧ (f = 17 * t + 5 ∨ f = 17 * t + 6)) → C3 j 0 f = C j 0 f := fun j f hj hs hx => (fr j 0 f (by have := sta_lt hs; omega) (by have := sta_lt hs; omega) (by have := sta_lt hs; omega)).trans (hh j f hj hs)
      have n19 := F3 38 19 (by decide) rfl
      have F6 : ∀ f : Nat, f ≠ 17 * t + 5 → f ≠ 17 * t + 6 → C3 60 0 f = C 60 0 f := fun f z1 z2 => F3 60 f (by decide) rfl (by omega)
      have tl : (t : Int) < C 38 0 21 := by omega
      have n21 := F3 38 21 (by decide) rfl (by omega)
      obtain ⟨r1, r2, r3, r4, r5, r6, r7, r8, r9, r10, r11⟩ := J.si.rec_ tl
      have T3 : TRk C (mx C C3) t := ⟨by rw [show mx C C3 60 0 (17 * t) = C 60 0 (17 * t) from F6 _ (by omega) (by omega)]; exact r1, by rw [show mx C C3 60 0 (17 * t + 1) = C 60 0 (17 * t + 1) from F6 _ (by omega) (by omega)]; exact r2, by rw [show mx C C3 60 0 (17 * t + 2) = C 60 0 (17 * t + 2) from F6 _ (by omega) (by omega)]; exact r3, by rw [show mx C C3 60 0 (17 * t + 3) = C 60 0 (17 * t + 3) from F6 _ (by omega) (by omega)]; exact r4, fun z => by rw [show mx C C3 60 0 (17 * t + 3) = C 60 0 (17 * t + 3) from F6 _ (by omega) (by omega)]; rw [show mx C C3 60 0 (17 * t) = C 60 0 (17 * t) from F6 _ (by omega) (by omega)] at z; exact r5 z, by rw [show mx C C3 60 0 (17 * t + 4) = C 60 0 (17 * t + 4) from F6 _ (by omega) (by omega)]; exact r6, by rw [show mx C C3 60 0 (17 * t + 5) = p2.toInt from a1]; exact ⟨c, d⟩, by rw [show mx C C3 60 0 (17 * t + 6) = (bz p3).toInt from a2]; exact hz, by rw [show mx C C3 60 0 (17 * t + 7) = C 60 0 (17 * t + 7) from F6 _ (by omega) (by omega)]; exact r9, fun k hk => by rw [show mx C C3 60 0 (17 * t + 7) = C 60 0 (17 * t + 7) from F6 _ (by omega) (by omega)] at hk; rw [show mx C C3 60 0 (17 * t + 8 + 3 * k) = C 60 0 (17 * t + 8 + 3 * k) from F6 _ (by omega) (by omega)]; exact r10 k hk, fun k hk => by rw [show mx C C3 60 0 (17 * t + 7) = C 60 0 (17 * t + 7) from F6 _ (by omega) (by omega)] at hk; rw [show mx C C3 60 0 (17 * t + 8 + 3 * k + 1) = C 60 0 (17 * t + 8 + 3 * k + 1) from F6 _ (by omega) (by omega)]; exact r11 k hk⟩
      have kt := J.ks.tr t (by omega)
      have kc := J.ks.tc t
      exact LI_a J rfl rfl rfl rfl f1 (fun _ _ _ _ => rfl) f12 (fun j i f hj => (fr j i f (by omega) (by omega) (by omega)).trans (f2 j i f (by omega))) (fun s => (fr 41 0 s (by omega) (by omega) (by omega)).trans ((f2 41 0 s (by decide)).trans (f1 41 0 s (by decide)))) (fun f _ => (fr 40 0 f (by omega) (by omega) (by omega)).trans ((f2 40 0 f (by decide)).trans (f1 40 0 f (by decide)))) (SI.tra (n := t) J.si (fun t' z1 _ => by rw [show mx C C3 38 0 21 = C 38 0 21 from n21] at z1; exact z1) (by rw [show mx C C3 38 0 21 = C 38 0 21 from n21]; exact i1) T3 (mx_s (fun j f hj hs z => F3 j f hj hs (by omega)))) (KS.trn (t := t) J.ks (by omega) (mx_s (fun j f hj hs z => F3 j f hj hs (by unfold t60 at z; omega))) (fun j i f z => by rw [up3_ne _ _ (by omega), up3_ne _ _ (by omega)]) ⟨by rw [up3_ne _ _ (by omega), up3_ne _ _ (by omega)]; exact kt.1, by rw [up3_ne _ _ (by omega), up3_ne _ _ (by omega), show mx C C3 60 0 (17 * t + 2) = C 60 0 (17 * t + 2) from F6 _ (by omega) (by omega)]; exact kt.2.1, by rw [up3_ne _ _ (by omega), up3_ne _ _ (by omega), show mx C C3 60 0 (17 * t + 3) = C 60 0 (17 * t + 3) from F6 _ (by omega) (by omega)]; exact kt.2.2.1, by rw [up3_ne _ _ (by omega), up3_ne _ _ (by omega), show mx C C3 60 0 (17 * t + 4) = C 60 0 (17 * t + 4) from F6 _ (by omega) (by omega)]; exact kt.2.2.2.1, by rw [up3_ne _ _ (by omega), up3_same]; exact a1.symm, by rw [up3_same]; exact a2.symm, by rw [up3_ne _ _ (by omega), up3_ne _ _ (by omega), show mx C C3 60 0 (17 * t + 7) = C 60 0 (17 * t + 7) from F6 _ (by omega) (by omega)]; exact kt.2.2.2.2.2.2⟩ (fun k hk => by rw [show mx C C3 60 0 (17 * t + 7) = C 60 0 (17 * t + 7) from F6 _ (by omega) (by omega)] at hk; rw [show mx C C3 60 0 (17 * t + 8 + 3 * k) = C 60 0 (17 * t + 8 + 3 * k) from F6 _ (by omega) (by omega), show mx C C3 60 0 (17 * t + 8 + 3 * k + 1) = C 60 0 (17 * t + 8 + 3 * k + 1) from F6 _ (by omega) (by omega), show mx C C3 60 0 (17 * t + 8 + 3 * k + 2) = C 60 0 (17 * t + 8 + 3 * k + 2) from F6 _ (by omega) (by omega), up3_ne _ _ (by omega), up3_ne _ _ (by omega), up3_ne _ _ (by omega), up3_ne _ _ (by omega), up3_ne _ _ (by omega), up3_ne _ _ (by omega)]; exact kc k (by omega) hk) (fun t' z => (J.si.tc t' (by omega)).2)) (MV.eq (F3 38 19 (by decide) rfl (by omega)) (F3 38 21 (by decide) rfl (by omega)) (fun s => F3 57 s (by decide) rfl (by omega)) (fun t _ => F3 60 _ (by decide) rfl (by omega))) (Or.inr (F3 38 19 (by decide) rfl (by omega))) (Int.le_of_eq (F3 38 3 (by decide) rfl (by omega)).symm) (fun c z1 z2 => (F3 45 c (by decide) rfl (by omega)).trans (J.cz c (by rw [← F3 38 8 (by decide) rfl (by omega)]; exact z1) z2)) R3
    exact wio R2 a38 rfl (by decide) (r_setInterruption R2 (J.I2 hh) (fun z => by exfalso; omega) (fun z1 z2 z3 => by exfalso; omega) (fun z1 z2 z3 z4 z5 x3 h3 C3 R3 hx e25 a1 a2 fr => by rw [et] at hx a1 a2 fr; exact fin x3 h3 C3 R3 hx e25 a1 (a2.trans z5.symm) fr) (fun z1 z2 z3 z4 z5 x3 h3 C3 R3 hx e25 a1 a2 fr => by rw [et] at hx a1 a2 fr; exact fin x3 h3 C3 R3 hx e25 a1 (a2.trans (by omega)) fr))
end LQA
