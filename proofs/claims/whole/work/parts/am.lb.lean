/-! ===== the law's calls that make new objects ===== -/
section LQB
variable {h h2 h3 : gH} {A A1 : dA} {N zz N1 zz1 : Nat → Nat} {C C1 C2 C3 : dC} {P P1 : dP} {M : dM} {tb tq : Int} {j k : Nat} {t0 x mm o : Nat}
theorem a80 : ac N 8 0 := ⟨Nat.one_pos, by decide⟩
theorem insF_all {p : Int → Prop} {g : Nat → Int} {k m : Nat} {v : Int} (hg : ∀ w, w < m → p (g w)) (hv : p v) (hk : k ≤ m) : ∀ w, w < m + 1 → p (insF g k v w) := fun w hw => by
  unfold insF
  by_cases z : w < k
  · rw [if_pos z]; exact hg w (by omega)
  · rw [if_neg z]
    by_cases y : w = k
    · rw [if_pos y]; exact hv
    · rw [if_neg y]; exact hg (w - 1) (by omega)
theorem lc3 (J : LJ j N zz C P) (R : D h A N zz C P) (hj : j < 512) (p1 : Int32) : vLc3 (A 8 0) (LI (A 8 0) (A 0 0) (A 38 0) (A 90 0) (j + 1)) h (A 0 0) (A 38 0) (A 90 0) p1 := by
  unfold vLc3 vL_addClip
  have i1 := J.si.nc
  obtain ⟨n, hn⟩ : ∃ n : Nat, C 38 0 8 = (n : Int) := ⟨(C 38 0 8).toNat, by omega⟩
  refine wio R a00 rfl (by decide) (q_addClip R J.ks rfl hn (fun a => Or.inl ⟨rfl, ?_⟩) (fun a b c => Or.inr (⟨rfl, ?_⟩)) (fun a b c y A1 h1 N1 zz1 C1 P1 a1 eA R1 fN f4 fz fC c6 c9 p6 ha or p7 el fP hy => ?_))
  · exact wio R a38 rfl (by decide) (r_addClip R J.si (fun _ x3 h3 C3 R3 _ e25 fr => L_code R3 (e25.trans (by decide)) (by decide) (LI_s J (RF.c25 fr) (fun f hf => fr 40 0 f (by omega)) R3)) (fun z1 z2 z3 => by exfalso; omega) (fun z1 z2 z3 => by exfalso; omega))
  · exact wio R a38 rfl (by decide) (r_addClip R J.si (fun z => by exfalso; omega) (fun _ _ _ x3 h3 C3 R3 _ e25 fr => L_code R3 (e25.trans (by decide)) (by decide) (LI_s J (RF.c25 fr) (fun f hf => fr 40 0 f (by omega)) R3)) (fun z1 z2 z3 => by exfalso; omega))
  · have z45 : C 45 0 n = 0 := J.cz n (by omega) c
    rw [← eA 90 0 a90, ← eA 38 0 a38]
    refine L_out R1 (fun h2 C2 R2 o2 f2 => ?_)
    have f1 : ∀ j i f : Nat, 21 ≤ j → C1 j i f = C j i f := fun j i f hj => fC j i f (by omega) (by omega)
    have p1_ : ∀ j i f : Nat, 21 ≤ j → P1 j i f = P j i f := fun j i f hj => fP j i f (by omega) (by omega) (by omega)
    have f12 : ∀ s, C1 2 0 s = C 2 0 s := fun s => fC 2 0 s (by omega) (by omega)
    have hh : Hi C C2 := Hi.o90 (fun j i f hj => f1 j i f (by omega)) f2
    have n8 : C2 38 0 8 = (n : Int) := (hh 38 8 (by decide) rfl).trans hn
    refine wio R2 a38 rfl (by decide) (r_addClip R2 (J.I2 hh) (fun z => by exfalso; omega) (fun z1 z2 z3 => by exfalso; omega) (fun z1 z2 z3 x3 h3 C3 R3 hx e25 b1 b2 fr => ?_))
    simp only [n8, Int.toNat_natCast] at hx b1 b2 fr
    refine L_ok R3 e25 (((fr 90 0 0 (by omega) (by omega) (by omega)).trans o2).trans (hy.trans hx.symm)) ?_
    have F3 : ∀ j f : Nat, 38 ≤ j → sta j f = true → ¬ (j = 38 ∧ f = 8 ∨ j = 44 ∧ f = n) → C3 j 0 f = C j 0 f := fun j f hj hs hx => (fr j 0 f (by have := sta_lt hs; omega) (by have := sta_lt hs; omega) (by have := sta_lt hs; omega)).trans (hh j f hj hs)
    have n19 := F3 38 19 (by decide) rfl
    exact LI_a J (eA 8 0 a80) (eA 0 0 a00) rfl rfl f1 p1_ f12 (fun j i f hj => (fr j i f (by omega) (by omega) (by omega)).trans (f2 j i f (by omega))) (fun s => (fr 41 0 s (by omega) (by omega) (by omega)).trans ((f2 41 0 s (by decide)).trans (f1 41 0 s (by decide)))) (fun f _ => (fr 40 0 f (by omega) (by omega) (by omega)).trans ((f2 40 0 f (by decide)).trans (f1 40 0 f (by decide)))) (SI.acl J.si hn c z45 b2 b1 ⟨a, b⟩ (mx_s F3)) (KS.acl (len := p1.toInt) J.ks hn z45 fN f4 fz fC c6 c9 p6 ha or p7 el fP b2 b1 (mx_s2 (fun j f hj hs z1 z2 => F3 j f hj hs (fun y => y.elim z1 z2)))) (MV.eq (F3 38 19 (by decide) rfl (by omega)) (F3 38 21 (by decide) rfl (by omega)) (fun s => F3 57 s (by decide) rfl (by omega)) (fun t _ => F3 60 _ (by decide) rfl (by omega))) (Or.inr (F3 38 19 (by decide) rfl (by omega))) (Int.le_of_eq (F3 38 3 (by decide) rfl (by omega)).symm) (fun c z1 z2 => (F3 45 c (by decide) rfl (by omega)).trans (J.cz c (by omega) z2)) R3
theorem lc5 (J : LJ j N zz C P) (R : D h A N zz C P) (hj : j < 512) (p1 : Int32) : vLc5 (A 8 0) (LI (A 8 0) (A 0 0) (A 38 0) (A 90 0) (j + 1)) h (A 0 0) (A 38 0) (A 90 0) p1 := by
  unfold vLc5 vL_addClipNode
  have i8 := J.si.nc
  have i1 := J.si.nn
  have i3 := J.si.np
  obtain ⟨n, hn⟩ : ∃ n : Nat, C 38 0 14 = (n : Int) := ⟨(C 38 0 14).toNat, by omega⟩
  refine wio R a00 rfl (by decide) (q_addClipNode R J.ks rfl hn (fun a => Or.inl ⟨rfl, ?_⟩) (fun a b c => Or.inr (⟨rfl, ?_⟩)) (fun a b c y A1 h1 N1 zz1 C1 P1 a1 R1 G hy => ?_))
  · exact wio R a38 rfl (by decide) (r_addClipNode R J.si (fun _ x3 h3 C3 R3 _ e25 fr => L_code R3 (e25.trans (by decide)) (by decide) (LI_s J (RF.c25 fr) (fun f hf => fr 40 0 f (by omega)) R3)) (fun z1 z2 z3 => by exfalso; omega) (fun z1 z2 z3 => by exfalso; omega))
  · exact wio R a38 rfl (by decide) (r_addClipNode R J.si (fun z => by exfalso; omega) (fun _ _ _ x3 h3 C3 R3 _ e25 fr => L_code R3 (e25.trans (by decide)) (by decide) (LI_s J (RF.c25 fr) (fun f hf => fr 40 0 f (by omega)) R3)) (fun z1 z2 z3 => by exfalso; omega))
  · obtain ⟨eA, fN, fC, fP, L, c6, p6, q12, c121, c124⟩ := G
    rw [← eA 90 0 a90, ← eA 38 0 a38]
    refine L_out R1 (fun h2 C2 R2 o2 f2 => ?_)
    have f1 : ∀ j i f : Nat, 21 ≤ j → C1 j i f = C j i f := fun j i f hj => fC j i f (by omega)
    have p1_ : ∀ j i f : Nat, 21 ≤ j → P1 j i f = P j i f := fun j i f hj => fP j i f (by omega)
    have f12 : ∀ s, C1 2 0 s = C 2 0 s := fun s => fC 2 0 s (by omega)
    have hh : Hi C C2 := Hi.o90 (fun j i f hj => f1 j i f (by omega)) f2
    have n14 : C2 38 0 14 = (n : Int) := (hh 38 14 (by decide) rfl).trans hn
    have n8 : C2 38 0 8 = C 38 0 8 := hh 38 8 (by decide) rfl
    refine wio R2 a38 rfl (by decide) (r_addClipNode R2 (J.I2 hh) (fun z => by exfalso; omega) (fun z1 z2 z3 => by exfalso; omega) (fun z1 z2 z3 x3 h3 C3 R3 hx e25 b1 b2 fr => ?_))
    simp only [n14, Int.toNat_natCast] at hx b1 b2 fr
    refine L_ok R3 e25 (((fr 90 0 0 (by omega) (by omega) (by omega)).trans o2).trans (hy.trans hx.symm)) ?_
    have F3 : ∀ j f : Nat, 38 ≤ j → sta j f = true → ¬ (j = 38 ∧ f = 14 ∨ j = 49 ∧ f = n) → C3 j 0 f = C j 0 f := fun j f hj hs hx => (fr j 0 f (by have := sta_lt hs; omega) (by have := sta_lt hs; omega) (by have := sta_lt hs; omega)).trans (hh j f hj hs)
    have n19 := F3 38 19 (by decide) rfl
    have z51 : C 51 0 n = 0 := J.si.cmz n (by omega) (Or.inl (by omega))
    have e49 : mx C C3 49 0 n = p1.toInt := b1
    exact LI_a J (eA 8 0 a80) (eA 0 0 a00) rfl rfl f1 p1_ f12 (fun j i f hj => (fr j i f (by omega) (by omega) (by omega)).trans (f2 j i f (by omega))) (fun s => (fr 41 0 s (by omega) (by omega) (by omega)).trans ((f2 41 0 s (by decide)).trans (f1 41 0 s (by decide)))) (fun f _ => (fr 40 0 f (by omega) (by omega) (by omega)).trans ((f2 40 0 f (by decide)).trans (f1 40 0 f (by decide)))) (SI.ano J.si hn (by omega) b2 (by rw [e49]; omega) (fun z => by rw [e49] at z; omega) (mx_s (fun j f hj hs z => F3 j f hj hs (by omega)))) (KS.ano J.ks J.si hn z51 fN fC c6 p6 L fP b2 ⟨fun z => by rw [e49] at z; omega, fun _ => by rw [e49]; exact q12⟩ (mx_s (fun j f hj hs z => F3 j f hj hs (by omega)))) (MV.eq (F3 38 19 (by decide) rfl (by omega)) (F3 38 21 (by decide) rfl (by omega)) (fun s => F3 57 s (by decide) rfl (by omega)) (fun t _ => F3 60 _ (by decide) rfl (by omega))) (Or.inr (F3 38 19 (by decide) rfl (by omega))) (Int.le_of_eq (F3 38 3 (by decide) rfl (by omega)).symm) (fun c z1 z2 => (F3 45 c (by decide) rfl (by omega)).trans (J.cz c (by rw [← F3 38 8 (by decide) rfl (by omega)]; exact z1) z2)) R3
theorem lc6 (J : LJ j N zz C P) (R : D h A N zz C P) (hj : j < 512) (p1 : Int32) : vLc6 (A 8 0) (LI (A 8 0) (A 0 0) (A 38 0) (A 90 0) (j + 1)) h (A 0 0) (A 38 0) (A 90 0) p1 := by
  unfold vLc6 vL_addLine
  have i8 := J.si.nc
  have i1 := J.si.nn
  have i3 := J.si.np
  obtain ⟨n, hn⟩ : ∃ n : Nat, C 38 0 14 = (n : Int) := ⟨(C 38 0 14).toNat, by omega⟩
  refine wio R a00 rfl (by decide) (q_addLine R J.ks J.si rfl hn (fun a => Or.inl ⟨rfl, ?_⟩) (fun a b c => Or.inr (⟨rfl, ?_⟩)) (fun a b c d y A1 h1 N1 zz1 C1 P1 a1 R1 G hy => ?_))
  · exact wio R a38 rfl (by decide) (r_addLine R J.si (fun _ x3 h3 C3 R3 _ e25 fr => L_code R3 (e25.trans (by decide)) (by decide) (LI_s J (RF.c25 fr) (fun f hf => fr 40 0 f (by omega)) R3)) (fun z1 z2 z3 => by exfalso; omega) (fun z1 z2 z3 z4 => by exfalso; omega))
  · exact wio R a38 rfl (by decide) (r_addLine R J.si (fun z => by exfalso; omega) (fun _ _ _ x3 h3 C3 R3 _ e25 fr => L_code R3 (e25.trans (by decide)) (by decide) (LI_s J (RF.c25 fr) (fun f hf => fr 40 0 f (by omega)) R3)) (fun z1 z2 z3 z4 => by exfalso; omega))
  · obtain ⟨eA, fN, fC, fP, L, c6, p6, q12, c121, c124⟩ := G
    rw [← eA 90 0 a90, ← eA 38 0 a38]
    refine L_out R1 (fun h2 C2 R2 o2 f2 => ?_)
    have f1 : ∀ j i f : Nat, 21 ≤ j → C1 j i f = C j i f := fun j i f hj => fC j i f (by omega)
    have p1_ : ∀ j i f : Nat, 21 ≤ j → P1 j i f = P j i f := fun j i f hj => fP j i f (by omega)
    have f12 : ∀ s, C1 2 0 s = C 2 0 s := fun s => fC 2 0 s (by omega)
    have hh : Hi C C2 := Hi.o90 (fun j i f hj => f1 j i f (by omega)) f2
    have n14 : C2 38 0 14 = (n : Int) := (hh 38 14 (by decide) rfl).trans hn
    have n3 : C2 38 0 3 = C 38 0 3 := hh 38 3 (by decide) rfl
    have n42 : C2 42 0 p1.toInt.toNat = C 42 0 p1.toInt.toNat := hh 42 _ (by decide) rfl
    refine wio R2 a38 rfl (by decide) (r_addLine R2 (J.I2 hh) (fun z => by exfalso; omega) (fun z1 z2 z3 => by exfalso; omega) (fun z1 z2 z3 z4 x3 h3 C3 R3 hx e25 b1 b2 b3 fr => ?_))
    simp only [n14, Int.toNat_natCast] at hx b1 b2 b3 fr
    refine L_ok R3 e25 (((fr 90 0 0 (by omega) (by omega) (by omega) (by omega)).trans o2).trans (hy.trans hx.symm)) ?_
    have F3 : ∀ j f : Nat, 38 ≤ j → sta j f = true → ¬ (j = 38 ∧ f = 14 ∨ j = 49 ∧ f = n ∨ j = 50 ∧ f = n) → C3 j 0 f = C j 0 f := fun j f hj hs hx => (fr j 0 f (by have := sta_lt hs; omega) (by have := sta_lt hs; omega) (by have := sta_lt hs; omega) (by have := sta_lt hs; omega)).trans (hh j f hj hs)
    have n19 := F3 38 19 (by decide) rfl
    have z51 : C 51 0 n = 0 := J.si.cmz n (by omega) (Or.inl (by omega))
    have e49 : mx C C3 49 0 n = -1 := b1
    have e50 : mx C C3 50 0 n = p1.toInt := b2
    exact LI_a J (eA 8 0 a80) (eA 0 0 a00) rfl rfl f1 p1_ f12 (fun j i f hj => (fr j i f (by omega) (by omega) (by omega) (by omega)).trans (f2 j i f (by omega))) (fun s => (fr 41 0 s (by omega) (by omega) (by omega) (by omega)).trans ((f2 41 0 s (by decide)).trans (f1 41 0 s (by decide)))) (fun f _ => (fr 40 0 f (by omega) (by omega) (by omega) (by omega)).trans ((f2 40 0 f (by decide)).trans (f1 40 0 f (by decide)))) (SI.ano J.si hn (by omega) b3 (by rw [e49]; omega) (fun _ => by rw [e50]; omega) (mx_s (fun j f hj hs z => F3 j f hj hs (by omega)))) (KS.ano J.ks J.si hn z51 fN fC c6 p6 L fP b3 ⟨fun _ => ⟨q12, by rw [e50]; exact c121⟩, fun z => absurd e49 z⟩ (mx_s (fun j f hj hs z => F3 j f hj hs (by omega)))) (MV.eq (F3 38 19 (by decide) rfl (by omega)) (F3 38 21 (by decide) rfl (by omega)) (fun s => F3 57 s (by decide) rfl (by omega)) (fun t _ => F3 60 _ (by decide) rfl (by omega))) (Or.inr (F3 38 19 (by decide) rfl (by omega))) (Int.le_of_eq (F3 38 3 (by decide) rfl (by omega)).symm) (fun c z1 z2 => (F3 45 c (by decide) rfl (by omega)).trans (J.cz c (by rw [← F3 38 8 (by decide) rfl (by omega)]; exact z1) z2)) R3
theorem lc9 (J : LJ j N zz C P) (R : D h A N zz C P) (hj : j < 512) (p1 : Int32) (p2 : Int32) (p3 : Int32) : vLc9 (A 8 0) (LI (A 8 0) (A 0 0) (A 38 0) (A 90 0) (j + 1)) h (A 0 0) (A 38 0) (A 90 0) p1 p2 p3 := by
  unfold vLc9 vL_addTransition
  have i1 := J.si.nt
  have i2 := J.si.ns
  obtain ⟨n, hn⟩ : ∃ n : Nat, C 38 0 21 = (n : Int) := ⟨(C 38 0 21).toNat, by omega⟩
  refine wio R a00 rfl (by decide) (q_addTransition R J.ks rfl hn (fun a => Or.inl ⟨rfl, ?_⟩) (fun a b c d e => Or.inr (Or.inl ⟨rfl, ?_⟩)) (fun a b c d e f g => Or.inr (Or.inr (⟨rfl, ?_⟩))) (fun a b c d e f g y A1 h1 N1 zz1 C1 P1 a1 R1 G B hy => ?_))
  · exact wio R a38 rfl (by decide) (r_addTransition R J.si (fun _ x3 h3 C3 R3 _ e25 fr => L_code R3 (e25.trans (by decide)) (by decide) (LI_s J (RF.c25 fr) (fun f hf => fr 40 0 f (by omega)) R3)) (fun z1 z2 z3 z4 z5 => by exfalso; omega) (fun z1 z2 z3 z4 z5 z6 z7 => by exfalso; omega) (fun z1 z2 z3 z4 z5 z6 z7 => by exfalso; omega))
  · exact wio R a38 rfl (by decide) (r_addTransition R J.si (fun z1 => by exfalso; omega) (fun _ _ _ _ _ x3 h3 C3 R3 _ e25 fr => L_code R3 (e25.trans (by decide)) (by decide) (LI_s J (RF.c25 fr) (fun f hf => fr 40 0 f (by omega)) R3)) (fun z1 z2 z3 z4 z5 z6 z7 => by exfalso; omega) (fun z1 z2 z3 z4 z5 z6 z7 => by exfalso; omega))
  · exact wio R a38 rfl (by decide) (r_addTransition R J.si (fun z1 => by exfalso; omega) (fun z1 z2 z3 z4 z5 => by exfalso; omega) (fun _ _ _ _ _ _ _ x3 h3 C3 R3 _ e25 fr => L_code R3 (e25.trans (by decide)) (by decide) (LI_s J (RF.c25 fr) (fun f hf => fr 40 0 f (by omega)) R3)) (fun z1 z2 z3 z4 z5 z6 z7 => by exfalso; omega))
  · obtain ⟨eA, fN, fC, fP, L, c0⟩ := G
    obtain ⟨⟨q1, q2⟩, q3, q4, q5, q6, q7, q11⟩ := B
    rw [← eA 90 0 a90, ← eA 38 0 a38]
    refine L_out R1 (fun h2 C2 R2 o2 f2 => ?_)
    have f1 : ∀ j i f : Nat, 21 ≤ j → C1 j i f = C j i f := fun j i f hj => fC j i f (by omega)
    have p1_ : ∀ j i f : Nat, 21 ≤ j → P1 j i f = P j i f := fun j i f hj => fP j i f (by omega)
    have f12 : ∀ s, C1 2 0 s = C 2 0 s := fun s => fC 2 0 s (by omega)
    have hh : Hi C C2 := Hi.o90 (fun j i f hj => f1 j i f (by omega)) f2
    have n21 : C2 38 0 21 = (n : Int) := (hh 38 21 (by decide) rfl).trans hn
    have n19_ : C2 38 0 19 = C 38 0 19 := hh 38 19 (by decide) rfl
    refine wio R2 a38 rfl (by decide) (r_addTransition R2 (J.I2 hh) (fun z => by exfalso; omega) (fun z1 z2 z3 z4 z5 => by exfalso; omega) (fun z1 z2 z3 z4 z5 z6 z7 => by exfalso; omega) (fun z1 z2 z3 z4 z5 z6 z7 x3 h3 C3 R3 hx e25 b0 b1 b2 b3 b4 b5 fr => ?_))
    simp only [n21, Int.toNat_natCast] at hx b0 b1 b2 b3 b4 b5 fr
    refine L_ok R3 e25 (((fr 90 0 0 (by omega) (by omega) (by omega)).trans o2).trans (hy.trans hx.symm)) ?_
    have F3 : ∀ j f : Nat, 38 ≤ j → sta j f = true → ¬ (j = 38 ∧ f = 21 ∨ j = 60 ∧ 17 * n ≤ f ∧ f < 17 * n + 17) → C3 j 0 f = C j 0 f := fun j f hj hs hx => (fr j 0 f (by have := sta_lt hs; omega) (by have := sta_lt hs; omega) (by have := sta_lt hs; omega)).trans (hh j f hj hs)
    have n19 := F3 38 19 (by decide) rfl
    have e0 : mx C C3 60 0 (17 * n) = p1.toInt := b0
    have e1 : mx C C3 60 0 (17 * n + 1) = p2.toInt := b1
    have e2 : mx C C3 60 0 (17 * n + 2) = p3.toInt := b2
    have e3 : mx C C3 60 0 (17 * n + 3) = -1 := b3
    have e4 : mx C C3 60 0 (17 * n + 4) = 0 := b4 4 (by decide) (by decide)
    have e5 : mx C C3 60 0 (17 * n + 5) = 0 := b4 5 (by decide) (by decide)
    have e6 : mx C C3 60 0 (17 * n + 6) = 0 := b4 6 (by decide) (by decide)
    have e7 : mx C C3 60 0 (17 * n + 7) = 0 := b4 7 (by decide) (by decide)
    have T3 : TRk C (mx C C3) n := ⟨by rw [e0]; omega, by rw [e1]; omega, by rw [e2]; omega, by rw [e3]; omega, fun _ => e3, by rw [e4]; omega, by rw [e5]; omega, Or.inl e6, by rw [e7]; omega, fun k hk => by rw [e7] at hk; omega, fun k hk => by rw [e7] at hk; omega⟩
    exact LI_a J (eA 8 0 a80) (eA 0 0 a00) rfl rfl f1 p1_ f12 (fun j i f hj => (fr j i f (by omega) (by omega) (by omega)).trans (f2 j i f (by omega))) (fun s => (fr 41 0 s (by omega) (by omega) (by omega)).trans ((f2 41 0 s (by decide)).trans (f1 41 0 s (by decide)))) (fun f _ => (fr 40 0 f (by omega) (by omega) (by omega)).trans ((f2 40 0 f (by decide)).trans (f1 40 0 f (by decide)))) (SI.tra (n := n) J.si (fun t' z1 z2 => by rw [show mx C C3 38 0 21 = (n : Int) + 1 from b5] at z1; omega) (by rw [show mx C C3 38 0 21 = (n : Int) + 1 from b5]; omega) T3 (mx_s F3)) (KS.atr J.ks J.si hn fN fC L fP b5 ⟨by rw [e0]; exact q1, by rw [e1]; exact q2⟩ ⟨c0, q3.trans e2.symm, q4.trans e3.symm, q5.trans e4.symm, q6.trans e5.symm, q7.trans e6.symm, q11.trans e7.symm⟩ (fun k hk => by rw [e7] at hk; omega) (mx_s F3)) ⟨Int.le_of_eq (F3 38 19 (by decide) rfl (by omega)).symm, by omega, fun s _ => F3 57 s (by decide) rfl (by omega), fun t ht => F3 60 _ (by decide) rfl (by omega)⟩ (Or.inr (F3 38 19 (by decide) rfl (by omega))) (Int.le_of_eq (F3 38 3 (by decide) rfl (by omega)).symm) (fun c z1 z2 => (F3 45 c (by decide) rfl (by omega)).trans (J.cz c (by rw [← F3 38 8 (by decide) rfl (by omega)]; exact z1) z2)) R3
theorem lc12 (J : LJ j N zz C P) (R : D h A N zz C P) (hj : j < 512) (p1 : Int32) (p2 : Int32) (p3 : Int32) (p4 : Int32) : vLc12 (A 8 0) (LI (A 8 0) (A 0 0) (A 38 0) (A 90 0) (j + 1)) h (A 0 0) (A 38 0) (A 90 0) p1 p2 p3 p4 := by
  unfold vLc12 vL_addCondition
  have n3 : (((N 3 : Nat) : Int)) = C 38 0 21 := J.ks.nn.2.2.2
  have i1 := J.si.nt
  have i3 := J.si.np
  refine wio R a00 rfl (by decide) (q_addCondition R J.ks J.si (fun a => Or.inl ⟨rfl, ?_⟩) (fun a b c d e => Or.inr (Or.inl ⟨rfl, ?_⟩)) (fun a b c d e f => Or.inr (Or.inr (⟨rfl, ?_⟩))) (fun a b c d e f y h1 R1 hy => ?_))
  · exact wio R a38 rfl (by decide) (r_addCondition R J.si (fun _ x3 h3 C3 R3 _ e25 fr => L_code R3 (e25.trans (by decide)) (by decide) (LI_s J (RF.c25 fr) (fun f hf => fr 40 0 f (by omega)) R3)) (fun z1 z2 z3 z4 z5 => by exfalso; omega) (fun z1 z2 z3 z4 z5 z6 => by exfalso; omega) (fun z1 z2 z3 z4 z5 z6 => by exfalso; omega))
  · have kd := J.si.kd p2.toInt.toNat (by omega)
    unfold cnd at e
    exact wio R a38 rfl (by decide) (r_addCondition R J.si (fun z => by exfalso; omega) (fun _ _ _ _ _ x3 h3 C3 R3 _ e25 fr => L_code R3 (e25.trans (by decide)) (by decide) (LI_s J (RF.c25 fr) (fun f hf => fr 40 0 f (by omega)) R3)) (fun z1 z2 z3 z4 z5 z6 => by exfalso; omega) (fun z1 z2 z3 z4 z5 z6 => by exfalso; omega))
  · have kd := J.si.kd p2.toInt.toNat (by omega)
    have tc3 := J.si.tc p1.toInt.toNat (by omega)
    unfold cnd at e
    exact wio R a38 rfl (by decide) (r_addCondition R J.si (fun z => by exfalso; omega) (fun z1 z2 z3 z4 z5 => by exfalso; omega) (fun _ _ _ _ _ _ x3 h3 C3 R3 _ e25 fr => L_code R3 (e25.trans (by decide)) (by decide) (LI_s J (RF.c25 fr) (fun f hf => fr 40 0 f (by omega)) R3)) (fun z1 z2 z3 z4 z5 z6 => by exfalso; omega))
  · have kd := J.si.kd p2.toInt.toNat (by omega)
    have tc3 := J.si.tc p1.toInt.toNat (by omega)
    obtain ⟨t, ht⟩ : ∃ t : Nat, p1.toInt = (t : Int) := ⟨p1.toInt.toNat, by omega⟩
    have et : p1.toInt.toNat = t := by omega
    rw [et] at R1 hy f tc3
    obtain ⟨m, hm⟩ : ∃ m : Nat, C 60 0 (17 * t + 7) = (m : Int) := ⟨(C 60 0 (17 * t + 7)).toNat, by omega⟩
    rw [hm, Int.toNat_natCast] at R1
    rw [hm] at hy f
    refine L_out R1 (fun h2 C2 R2 o2 f2 => ?_)
    have f1 : ∀ j i f : Nat, 21 ≤ j → (up3 (up3 (up3 (up3 C 16 (t + 1) m p2.toInt) 17 (t + 1) m p3.toInt) 18 (t + 1) m p4.toInt) 15 (t + 1) 11 ((m : Int) + 1)) j i f = C j i f := fun j i f hj => by rw [up3_ne _ _ (by omega), up3_ne _ _ (by omega), up3_ne _ _ (by omega), up3_ne _ _ (by omega)]
    have f12 : ∀ s, (up3 (up3 (up3 (up3 C 16 (t + 1) m p2.toInt) 17 (t + 1) m p3.toInt) 18 (t + 1) m p4.toInt) 15 (t + 1) 11 ((m : Int) + 1)) 2 0 s = C 2 0 s := fun s => by rw [up3_ne _ _ (by omega), up3_ne _ _ (by omega), up3_ne _ _ (by omega), up3_ne _ _ (by omega)]
    have hh : Hi C C2 := Hi.o90 (fun j i f hj => f1 j i f (by omega)) f2
    have n38_21 : C2 38 0 21 = C 38 0 21 := hh 38 21 (by decide) rfl
    have n38_3 : C2 38 0 3 = C 38 0 3 := hh 38 3 (by decide) rfl
    have g60 : ∀ f, C2 60 0 f = C 60 0 f := fun f => hh 60 f (by decide) rfl
    have g42 : ∀ f, C2 42 0 f = C 42 0 f := fun f => hh 42 f (by decide) rfl
    unfold cnd at e
    refine wio R2 a38 rfl (by decide) (r_addCondition R2 (J.I2 hh) (fun z => by exfalso; omega) (fun z1 z2 z3 z4 z5 => by rw [g42] at z5; exfalso; omega) (fun z1 z2 z3 z4 z5 z6 => by rw [et, g60, hm] at z6; exfalso; omega) (fun z1 z2 z3 z4 z5 z6 x3 h3 C3 R3 hx e25 b0 b1 b2 b3 fr => ?_))
    rw [et] at hx b0 b1 b2 b3 fr
    simp only [g60, hm, Int.toNat_natCast] at hx b0 b1 b2 b3 fr
    refine L_ok R3 e25 (((fr 90 0 0 (by omega) (by omega)).trans o2).trans (hy.trans hx.symm)) ?_
    have F3 : ∀ j f : Nat, 38 ≤ j → sta j f = true → ¬ (j = 60 ∧ (f = 17 * t + 7 ∨ (17 * t + 8 + 3 * m ≤ f ∧ f < 17 * t + 8 + 3 * m + 3))) → C3 j 0 f = C j 0 f := fun j f hj hs hx => (fr j 0 f (by have := sta_lt hs; omega) (by have := sta_lt hs; omega)).trans (hh j f hj hs)
    have n19 := F3 38 19 (by decide) rfl
    have m3 : m = 0 ∨ m = 1 ∨ m = 2 := by omega
    have g2 : ∀ q : Nat, C3 60 0 (17 * q + 2) = C 60 0 (17 * q + 2) := fun q => F3 60 _ (by decide) rfl (fun z => by rcases m3 with y | y | y <;> subst y <;> omega)
    have F6 : ∀ f : Nat, f ≠ 17 * t + 7 → ¬ (17 * t + 8 + 3 * m ≤ f ∧ f < 17 * t + 8 + 3 * m + 3) → mx C C3 60 0 f = C 60 0 f := fun f z1 z2 => F3 60 f (by decide) rfl (by omega)
    have tl : (t : Int) < C 38 0 21 := by omega
    have n21 := F3 38 21 (by decide) rfl (by omega)
    obtain ⟨r1, r2, r3, r4, r5, r6, r7, r8, r9, r10, r11⟩ := J.si.rec_ tl
    have e0 := F6 (17 * t) (by omega) (by omega)
    have e1 := F6 (17 * t + 1) (by omega) (by omega)
    have e2 := F6 (17 * t + 2) (by omega) (by omega)
    have e3 := F6 (17 * t + 3) (by omega) (by omega)
    have e4 := F6 (17 * t + 4) (by omega) (by omega)
    have e5 := F6 (17 * t + 5) (by omega) (by omega)
    have e6 := F6 (17 * t + 6) (by omega) (by omega)
    have e7 : mx C C3 60 0 (17 * t + 7) = (m : Int) + 1 := b3
    have d0 : mx C C3 60 0 (17 * t + 8 + 3 * m) = p2.toInt := b0
    have d1 : mx C C3 60 0 (17 * t + 8 + 3 * m + 1) = p3.toInt := b1
    have d2 : mx C C3 60 0 (17 * t + 8 + 3 * m + 2) = p4.toInt := b2
    have T3 : TRk C (mx C C3) t := by
      refine ⟨by rw [e0]; exact r1, by rw [e1]; exact r2, by rw [e2]; exact r3, by rw [e3]; exact r4, by rw [e0, e3]; exact r5, by rw [e4]; exact r6, by rw [e5]; exact r7, by rw [e6]; exact r8, by rw [e7]; omega, fun k hk => ?_, fun k hk => ?_⟩
      · rw [e7] at hk
        by_cases z : k = m
        · subst z; rw [d0]; exact ⟨c, d⟩
        · rw [F6 _ (by omega) (by omega)]; exact r10 k (by omega)
      · rw [e7] at hk
        by_cases z : k = m
        · subst z; rw [d1]; omega
        · rw [F6 _ (by omega) (by omega)]; exact r11 k (by omega)
    have kt := J.ks.tr t (by omega)
    have kc := J.ks.tc t
    have K3 : KS (mx C C3) N zz (up3 (up3 (up3 (up3 C 16 (t + 1) m p2.toInt) 17 (t + 1) m p3.toInt) 18 (t + 1) m p4.toInt) 15 (t + 1) 11 ((m : Int) + 1)) P := by
      refine KS.trn (t := t) J.ks (by omega) (mx_s (fun j f hj hs z => F3 j f hj hs (by unfold t60 at z; omega))) (fun j i f z => by rw [up3_ne _ _ (by omega), up3_ne _ _ (by omega), up3_ne _ _ (by omega), up3_ne _ _ (by omega)]) ⟨?_, ?_, ?_, ?_, ?_, ?_, ?_⟩ (fun k hk => ?_) (fun t' z => (J.si.tc t' (by omega)).2)
      · rw [up3_ne _ _ (by omega), up3_ne _ _ (by omega), up3_ne _ _ (by omega), up3_ne _ _ (by omega)]; exact kt.1
      · rw [up3_ne _ _ (by omega), up3_ne _ _ (by omega), up3_ne _ _ (by omega), up3_ne _ _ (by omega), e2]; exact kt.2.1
      · rw [up3_ne _ _ (by omega), up3_ne _ _ (by omega), up3_ne _ _ (by omega), up3_ne _ _ (by omega), e3]; exact kt.2.2.1
      · rw [up3_ne _ _ (by omega), up3_ne _ _ (by omega), up3_ne _ _ (by omega), up3_ne _ _ (by omega), e4]; exact kt.2.2.2.1
      · rw [up3_ne _ _ (by omega), up3_ne _ _ (by omega), up3_ne _ _ (by omega), up3_ne _ _ (by omega), e5]; exact kt.2.2.2.2.1
      · rw [up3_ne _ _ (by omega), up3_ne _ _ (by omega), up3_ne _ _ (by omega), up3_ne _ _ (by omega), e6]; exact kt.2.2.2.2.2.1
      · rw [up3_same, e7]
      · rw [e7] at hk
        by_cases z : k = m
        · subst z
          refine ⟨?_, ?_, ?_⟩
          · rw [up3_ne _ _ (by omega), up3_ne _ _ (by omega), up3_ne _ _ (by omega), up3_same, d0]
          · rw [up3_ne _ _ (by omega), up3_ne _ _ (by omega), up3_same, d1]
          · rw [up3_ne _ _ (by omega), up3_same, d2]
        · have q := kc k (by omega) (by omega)
          refine ⟨?_, ?_, ?_⟩
          · rw [up3_ne _ _ (by omega), up3_ne _ _ (by omega), up3_ne _ _ (by omega), up3_ne _ _ (by omega), F6 _ (by omega) (by omega)]; exact q.1
          · rw [up3_ne _ _ (by omega), up3_ne _ _ (by omega), up3_ne _ _ (by omega), up3_ne _ _ (by omega), F6 _ (by omega) (by omega)]; exact q.2.1
          · rw [up3_ne _ _ (by omega), up3_ne _ _ (by omega), up3_ne _ _ (by omega), up3_ne _ _ (by omega), F6 _ (by omega) (by omega)]; exact q.2.2
    exact LI_a J rfl rfl rfl rfl f1 (fun _ _ _ _ => rfl) f12 (fun j i f hj => (fr j i f (by omega) (by omega)).trans (f2 j i f (by omega))) (fun s => (fr 41 0 s (by omega) (by omega)).trans ((f2 41 0 s (by decide)).trans (f1 41 0 s (by decide)))) (fun f _ => (fr 40 0 f (by omega) (by omega)).trans ((f2 40 0 f (by decide)).trans (f1 40 0 f (by decide)))) (SI.tra (n := t) J.si (fun t' z1 _ => by rw [show mx C C3 38 0 21 = C 38 0 21 from n21] at z1; exact z1) (by rw [show mx C C3 38 0 21 = C 38 0 21 from n21]; exact i1) T3 (mx_s (fun j f hj hs z => F3 j f hj hs (by omega)))) K3 (MV.eq (F3 38 19 (by decide) rfl (by omega)) (F3 38 21 (by decide) rfl (by omega)) (fun s => F3 57 s (by decide) rfl (by omega)) (fun q _ => g2 q)) (Or.inr (F3 38 19 (by decide) rfl (by omega))) (Int.le_of_eq (F3 38 3 (by decide) rfl (by omega)).symm) (fun c z1 z2 => (F3 45 c (by decide) rfl (by omega)).trans (J.cz c (by rw [← F3 38 8 (by decide) rfl (by omega)]; exact z1) z2)) R3
theorem lc4 (J : LJ j N zz C P) (R : D h A N zz C P) (hj : j < 512) (p1 : Int32) (p2 : Int32) (p3 : Int32) : vLc4 (A 8 0) (LI (A 8 0) (A 0 0) (A 38 0) (A 90 0) (j + 1)) h (A 0 0) (A 38 0) (A 90 0) p1 p2 p3 := by
  unfold vLc4 vL_addEvent
  have i1 := J.si.nc
  have n0 : (((N 0 : Nat) : Int)) = C 38 0 8 := J.ks.nn.1
  refine wio R a00 rfl (by decide) (q_addEvent R J.ks J.si (fun a => Or.inl ⟨rfl, ?_⟩) (fun a b c => Or.inr (Or.inl ⟨rfl, ?_⟩)) (fun a b c d e f g => Or.inr (Or.inr (⟨rfl, ?_⟩))) (fun a b c d e f g y h1 C1 R1 fC e4 w hy => ?_))
  · exact wio R a38 rfl (by decide) (r_addEvent R J.si (fun _ x3 h3 C3 R3 _ e25 fr => L_code R3 (e25.trans (by decide)) (by decide) (LI_s J (RF.c25 fr) (fun f hf => fr 40 0 f (by omega)) R3)) (fun z1 z2 z3 => by exfalso; omega) (fun z1 z2 z3 z4 z5 z6 z7 => by exfalso; omega) (fun z1 z2 z3 z4 z5 z6 z7 => by exfalso; omega))
  · exact wio R a38 rfl (by decide) (r_addEvent R J.si (fun z1 => by exfalso; omega) (fun _ _ _ x3 h3 C3 R3 _ e25 fr => L_code R3 (e25.trans (by decide)) (by decide) (LI_s J (RF.c25 fr) (fun f hf => fr 40 0 f (by omega)) R3)) (fun z1 z2 z3 z4 z5 z6 z7 => by exfalso; omega) (fun z1 z2 z3 z4 z5 z6 z7 => by exfalso; omega))
  · have em5 := J.si.em p1.toInt.toNat (by omega)
    exact wio R a38 rfl (by decide) (r_addEvent R J.si (fun z1 => by exfalso; omega) (fun z1 z2 z3 => by exfalso; omega) (fun _ _ _ _ _ _ _ x3 h3 C3 R3 _ e25 fr => L_code R3 (e25.trans (by decide)) (by decide) (LI_s J (RF.c25 fr) (fun f hf => fr 40 0 f (by omega)) R3)) (fun z1 z2 z3 z4 z5 z6 z7 => by exfalso; omega))
  · have em5 := J.si.em p1.toInt.toNat (by omega)
    obtain ⟨c0, hc0⟩ : ∃ c0 : Nat, p1.toInt = (c0 : Int) := ⟨p1.toInt.toNat, by omega⟩
    have ec : p1.toInt.toNat = c0 := by omega
    rw [ec] at fC e4 w hy g d em5
    obtain ⟨m, hm⟩ : ∃ m : Nat, C 45 0 c0 = (m : Int) := ⟨(C 45 0 c0).toNat, by omega⟩
    rw [hm] at e4 w hy g
    rw [Int.toNat_natCast] at w
    refine L_out R1 (fun h2 C2 R2 o2 f2 => ?_)
    have f1 : ∀ j i f : Nat, 21 ≤ j → C1 j i f = C j i f := fun j i f hj => fC j i f (by omega) (by omega)
    have f12 : ∀ s, C1 2 0 s = C 2 0 s := fun s => fC 2 0 s (by omega) (by omega)
    have hh : Hi C C2 := Hi.o90 (fun j i f hj => f1 j i f (by omega)) f2
    have n38_8 : C2 38 0 8 = C 38 0 8 := hh 38 8 (by decide) rfl
    have g44 : ∀ f, C2 44 0 f = C 44 0 f := fun f => hh 44 f (by decide) rfl
    have g45 : ∀ f, C2 45 0 f = C 45 0 f := fun f => hh 45 f (by decide) rfl
    have g46 : ∀ f, C2 46 0 f = C 46 0 f := fun f => hh 46 f (by decide) rfl
    have g47 : ∀ f, C2 47 0 f = C 47 0 f := fun f => hh 47 f (by decide) rfl
    refine wio R2 a38 rfl (by decide) (r_addEvent R2 (J.I2 hh) (fun z => by exfalso; omega) (fun z1 z2 z3 => by rw [ec, g44] at z3; exfalso; omega) (fun z1 z2 z3 z4 z5 z6 z7 => by rw [ec, g45, hm] at z7; exfalso; omega) (fun z1 z2 z3 z4 z5 z6 z7 x3 h3 C3 R3 hx e25 b0 b1 b2 fr => ?_))
    rw [ec] at hx b0 b1 b2 fr
    simp only [g45, g46, g47, hm, Int.toNat_natCast] at hx b0 b1 b2 fr
    refine L_ok R3 e25 (((fr 90 0 0 (by omega) (by omega) (by omega)).trans o2).trans (hy.trans hx.symm)) ?_
    have F3 : ∀ j f : Nat, 38 ≤ j → sta j f = true → ¬ (j = 45 ∧ f = c0 ∨ (j = 46 ∨ j = 47) ∧ 5 * c0 ≤ f ∧ f < 5 * c0 + m + 1) → C3 j 0 f = C j 0 f := fun j f hj hs hx => (fr j 0 f (by have := sta_lt hs; omega) (by have := sta_lt hs; omega) (by have := sta_lt hs; omega)).trans (hh j f hj hs)
    have n19 := F3 38 19 (by decide) rfl
    have hcl : (c0 : Int) < C 38 0 8 := by omega
    have S46 : ∀ k : Nat, k < m + 1 → 0 ≤ mx C C3 46 0 (5 * c0 + k) ∧ mx C C3 46 0 (5 * c0 + k) < C 44 0 c0 := fun k hk => by
      rw [show mx C C3 46 0 (5 * c0 + k) = _ from b0 k hk]
      exact insF_all (p := fun v => 0 ≤ v ∧ v < C 44 0 c0) (fun w hw => J.si.et c0 w hcl (by omega)) ⟨c, d⟩ (insK_le _ _ _) k hk
    exact LI_a J rfl rfl rfl rfl f1 (fun _ _ _ _ => rfl) f12 (fun j i f hj => (fr j i f (by omega) (by omega) (by omega)).trans (f2 j i f (by omega))) (fun s => (fr 41 0 s (by omega) (by omega) (by omega)).trans ((f2 41 0 s (by decide)).trans (f1 41 0 s (by decide)))) (fun f _ => (fr 40 0 f (by omega) (by omega) (by omega)).trans ((f2 40 0 f (by decide)).trans (f1 40 0 f (by decide)))) (SI.aev J.si hcl hm (by omega) b2 S46 (mx_s (fun j f hj hs z => F3 j f hj hs (by omega)))) (KS.eve (t := p2.toInt) (d := p3.toInt) J.ks (by omega) hm (by omega) (fun c' z => (J.si.em c' (by omega)).2) fC e4 w (mx_s2 (fun j f hj hs z1 z2 => F3 j f hj hs (by omega))) b2 b0 b1) (MV.eq (F3 38 19 (by decide) rfl (by omega)) (F3 38 21 (by decide) rfl (by omega)) (fun s => F3 57 s (by decide) rfl (by omega)) (fun t _ => F3 60 _ (by decide) rfl (by omega))) (Or.inr (F3 38 19 (by decide) rfl (by omega))) (Int.le_of_eq (F3 38 3 (by decide) rfl (by omega)).symm) (fun c' z1 z2 => (F3 45 c' (by decide) rfl (by have := F3 38 8 (by decide) rfl (by omega); omega)).trans (J.cz c' (by rw [← F3 38 8 (by decide) rfl (by omega)]; exact z1) z2)) R3
theorem deep_flat {ln nd : Nat} (I : SI C) (hnd : nd < ln) (a : deep C ln nd) (b : flat C ln nd) : False := by
  obtain ⟨d, d1, n, hn, d2⟩ := a
  obtain ⟨e, e1, e2⟩ := b
  have i1 := I.nn
  have := dInv_one (fun j l hj hl => by have := I.cn j l (by omega) hl; omega) hnd d1 e1 n hn
  have := e2 n hn
  omega
theorem lc7 (J : LJ j N zz C P) (R : D h A N zz C P) (hj : j < 512) (p1 : Int32) (p2 : Int32) (p3 : Int32) : vLc7 (A 8 0) (LI (A 8 0) (A 0 0) (A 38 0) (A 90 0) (j + 1)) h (A 0 0) (A 38 0) (A 90 0) p1 p2 p3 := by
  unfold vLc7 vL_addChild
  have i1 := J.si.nn
  refine wio R a00 rfl (by decide) (q_addChild R J.ks J.si rfl (fun a => Or.inl ⟨rfl, ?_⟩) (fun a b c d e => Or.inr (Or.inl ⟨rfl, ?_⟩)) (fun a b c d e f g i h1 C1 R1 fr1 => Or.inr (Or.inr (⟨rfl, ?_⟩))) (fun a b c d e f g i i2 i3 i4 y A1 h1 N1 zz1 C1 P1 a1 pl R1 G hy => ?_))
  · exact wio R a38 rfl (by decide) (r_addChild R J.si (fun _ x3 h3 C3 R3 _ e25 fr => L_code R3 (e25.trans (by decide)) (by decide) (LI_s J (fun j i f z1 z2 _ => fr j i f (by omega) (by omega)) (fun f hf => fr 40 0 f (by omega) (by omega)) R3)) (fun z1 z2 z3 z4 z5 => by exfalso; omega) (fun z1 z2 z3 z4 z5 z6 z7 z8 => by exfalso; omega) (fun z1 z2 z3 z4 z5 z6 z7 z8 z9 z10 z11 => by exfalso; omega))
  · exact wio R a38 rfl (by decide) (r_addChild R J.si (fun z => by exfalso; omega) (fun _ _ _ _ _ x3 h3 C3 R3 _ e25 fr => L_code R3 (e25.trans (by decide)) (by decide) (LI_s J (fun j i f z1 z2 _ => fr j i f (by omega) (by omega)) (fun f hf => fr 40 0 f (by omega) (by omega)) R3)) (fun z1 z2 z3 z4 z5 z6 z7 z8 => by exfalso; omega) (fun z1 z2 z3 z4 z5 z6 z7 z8 z9 z10 z11 => by exfalso; omega))
  · have f1 : ∀ j i f : Nat, 38 ≤ j → C1 j i f = C j i f := fun j i f hj => fr1 j i f (by omega)
    have hh : Hi C C1 := fun j f hj _ => f1 j 0 f hj
    have n14 : C1 38 0 14 = C 38 0 14 := hh 38 14 (by decide) rfl
    have g49 : ∀ f, C1 49 0 f = C 49 0 f := fun f => hh 49 f (by decide) rfl
    have fm1 := J.mi.fm
    have cu := J.mi.cu
    have ev := J.mi.ev
    refine wio R1 a38 rfl (by decide) (r_addChild R1 (J.I2 hh) (fun z => by exfalso; omega) (fun z1 z2 z3 z4 z5 => by rw [g49] at z5; exfalso; omega) (fun z1 z2 z3 z4 z5 z6 z7 z8 x3 h3 C3 R3 _ e25 fr => L_code R3 (e25.trans (by decide)) (by decide) (LI_q J (J.ks.dep fr1) (J.cp.go (by omega) (by omega) (fun j i f hm => ⟨fr1 j i f (by have := hm.1; omega), rfl⟩) (fun _ _ => rfl) (fun z => z)) f1 (fun s hs j i f hm => ⟨fr1 j i f (by have := hm.1; omega), rfl⟩) (fun s => fr1 2 0 s (by omega)) (fun j i f z1 z2 _ => fr j i f (by omega) (by omega)) (fun f hf => (fr 40 0 f (by omega) (by omega)).trans (f1 40 0 f (by decide))) R3)) (fun z1 z2 z3 z4 z5 z6 z7 z8 z9 z10 z11 => ?_))
    exfalso
    have g51 : ∀ f, C1 51 0 f = C 51 0 f := fun f => hh 51 f (by decide) rfl
    have g53 : ∀ f, C1 53 0 f = C 53 0 f := fun f => hh 53 f (by decide) rfl
    rw [flat_Hi hh] at z11
    rw [g51] at z8
    rw [g49, g51] at z10
    rcases i with i | ⟨q, i, i'⟩ | i | i
    · omega
    · exact z9 q (by rw [g51]; exact i) (by rw [g53]; exact i')
    · omega
    · exact deep_flat J.si (by omega) i z11
  · have hcm := J.si.cm p1.toInt.toNat (by omega)
    obtain ⟨ln, hl⟩ : ∃ ln : Nat, p1.toInt = (ln : Int) := ⟨p1.toInt.toNat, by omega⟩
    obtain ⟨nd, hnd⟩ : ∃ nd : Nat, p2.toInt = (nd : Int) := ⟨p2.toInt.toNat, by omega⟩
    have e1 : p1.toInt.toNat = ln := by omega
    have e2 : p2.toInt.toNat = nd := by omega
    rw [e1] at hcm d i i2 hy G
    rw [e2] at i3 G
    rw [e1, e2] at i4
    obtain ⟨k, hk⟩ : ∃ k : Nat, C 51 0 ln = (k : Int) := ⟨(C 51 0 ln).toNat, by omega⟩
    rw [hk] at i hy G
    rw [Int.toNat_natCast] at G
    have G0 := G
    obtain ⟨eA, fN, fC, fP, L, -⟩ := G
    rw [← eA 90 0 a90, ← eA 38 0 a38]
    refine L_out R1 (fun h2 C2 R2 o2 f2 => ?_)
    have f1 : ∀ j i f : Nat, 21 ≤ j → C1 j i f = C j i f := fun j i f hj => fC j i f (by omega)
    have p1_ : ∀ j i f : Nat, 21 ≤ j → P1 j i f = P j i f := fun j i f hj => fP j i f (by omega)
    have f12 : ∀ s, C1 2 0 s = C 2 0 s := fun s => fC 2 0 s (by omega)
    have hh : Hi C C2 := Hi.o90 (fun j i f hj => f1 j i f (by omega)) f2
    have n14 : C2 38 0 14 = C 38 0 14 := hh 38 14 (by decide) rfl
    have g49 : ∀ f, C2 49 0 f = C 49 0 f := fun f => hh 49 f (by decide) rfl
    have g51 : ∀ f, C2 51 0 f = C 51 0 f := fun f => hh 51 f (by decide) rfl
    have g53 : ∀ f, C2 53 0 f = C 53 0 f := fun f => hh 53 f (by decide) rfl
    refine wio R2 a38 rfl (by decide) (r_addChild R2 (J.I2 hh) (fun z => by exfalso; omega) (fun z1 z2 z3 z4 z5 => by rw [e1, g49] at z5; exfalso; omega) (fun z1 z2 z3 z4 z5 z6 z7 z8 => ?_) (fun z1 z2 z3 z4 z5 z6 z7 z8 z9 z10 z11 x3 h3 C3 R3 hx e25 b0 b1 b2 fr => ?_))
    · exfalso
      rw [e1, e2, deep_Hi hh] at z8
      rcases z8 with z | ⟨q, z, z'⟩ | z | z
      · rw [g51] at z; omega
      · exact i2 q (by rw [← g51]; exact z) (by rw [← g53]; exact z')
      · rw [g49, g51] at z; omega
      · exact deep_flat J.si (by omega) z i4
    rw [e1] at hx b0 b1 b2 fr
    simp only [g51, hk, Int.toNat_natCast] at hx b0 b1 b2 fr
    refine L_ok R3 e25 (((fr 90 0 0 (by omega) (by omega) (by omega) (by omega)).trans o2).trans (hy.trans hx.symm)) ?_
    have F3 : ∀ j f : Nat, 38 ≤ j → sta j f = true → ¬ (j = 51 ∧ f = ln ∨ (j = 52 ∨ j = 53) ∧ f = 5 * ln + k) → C3 j 0 f = C j 0 f := fun j f hj hs hx => (fr j 0 f (by have := sta_lt hs; omega) (by have := sta_lt hs; omega) (by have := sta_lt hs; omega) (by have := sta_lt hs; omega)).trans (hh j f hj hs)
    have n19 := F3 38 19 (by decide) rfl
    have np : ∀ q : Nat, q < k → C 53 0 (5 * ln + q) ≠ p3.toInt := fun q hq => i2 q (by omega)
    exact LI_a J (eA 8 0 a80) (eA 0 0 a00) rfl rfl f1 p1_ f12 (fun j i f hj => (fr j i f (by omega) (by omega) (by omega) (by omega)).trans (f2 j i f (by omega))) (fun s => (fr 41 0 s (by omega) (by omega) (by omega) (by omega)).trans ((f2 41 0 s (by decide)).trans (f1 41 0 s (by decide)))) (fun f _ => (fr 40 0 f (by omega) (by omega) (by omega) (by omega)).trans ((f2 40 0 f (by decide)).trans (f1 40 0 f (by decide)))) (SI.ach J.si (by omega) (by omega) d hk (by omega) np ⟨f, g⟩ i3 i4 b2 (b0.trans hnd) b1 (mx_s F3)) (KS.ach J.ks J.si (by omega) hk (by omega) np G0 b2 (b0.trans hnd) b1 (mx_s F3)) (MV.eq (F3 38 19 (by decide) rfl (by omega)) (F3 38 21 (by decide) rfl (by omega)) (fun s => F3 57 s (by decide) rfl (by omega)) (fun t _ => F3 60 _ (by decide) rfl (by omega))) (Or.inr (F3 38 19 (by decide) rfl (by omega))) (Int.le_of_eq (F3 38 3 (by decide) rfl (by omega)).symm) (fun c z1 z2 => (F3 45 c (by decide) rfl (by omega)).trans (J.cz c (by rw [← F3 38 8 (by decide) rfl (by omega)]; exact z1) z2)) R3
end LQB
