/-! ===== the law's calls that add a state, or load the text ===== -/
section LQS
variable {h h2 h3 : gH} {A A1 : dA} {N zz N1 zz1 : Nat → Nat} {C C1 C2 C3 : dC} {P P1 : dP} {M : dM} {tb tq : Int} {j k : Nat} {t0 x mm o : Nat}
theorem lc8 (J : LJ j N zz C P) (R : D h A N zz C P) (hj : j < 512) (p1 : Int32) (p2 : Int32) (p3 : Int32) (p4 : Int32) : vLc8 (A 8 0) (LI (A 8 0) (A 0 0) (A 38 0) (A 90 0) (j + 1)) h (A 0 0) (A 38 0) (A 90 0) p1 p2 p3 p4 := by
  unfold vLc8 vL_addState
  have i1 := J.si.ns
  have i2 := J.si.nn
  obtain ⟨n, hn⟩ : ∃ n : Nat, C 38 0 19 = (n : Int) := ⟨(C 38 0 19).toNat, by omega⟩
  have hz := bz01 p3
  refine wio R a00 rfl (by decide) (q_addState R J.ks rfl hn (by omega) hz (fun a => Or.inl ⟨rfl, ?_⟩) (fun a b c => Or.inr (Or.inl ⟨rfl, ?_⟩)) (fun a b c d e f g => Or.inr (Or.inr (⟨rfl, ?_⟩))) (fun a b c d e f g g2 y A1 h1 N1 zz1 C1 P1 a1 R1 G Q0 Q1 hy => ?_))
  · exact wio R a38 rfl (by decide) (r_addState R J.si hz (fun _ x3 h3 C3 R3 _ e25 fr => L_code R3 (e25.trans (by decide)) (by decide) (LI_s J (RF.c25 fr) (fun f hf => fr 40 0 f (by omega)) R3)) (fun z1 z2 z3 => by exfalso; omega) (fun z1 z2 z3 z4 z5 z6 z7 => by exfalso; omega) (fun z1 z2 z3 z4 z5 z6 z7 z8 z9 => by exfalso; omega) (fun z1 z2 z3 z4 z5 z6 z7 z8 => by exfalso; omega))
  · exact wio R a38 rfl (by decide) (r_addState R J.si hz (fun z1 => by exfalso; omega) (fun _ _ _ x3 h3 C3 R3 _ e25 fr => L_code R3 (e25.trans (by decide)) (by decide) (LI_s J (RF.c25 fr) (fun f hf => fr 40 0 f (by omega)) R3)) (fun z1 z2 z3 z4 z5 z6 z7 => by exfalso; omega) (fun z1 z2 z3 z4 z5 z6 z7 z8 z9 => by exfalso; omega) (fun z1 z2 z3 z4 z5 z6 z7 z8 => by exfalso; omega))
  · exact wio R a38 rfl (by decide) (r_addState R J.si hz (fun z1 => by exfalso; omega) (fun z1 z2 z3 => by exfalso; omega) (fun _ _ _ _ _ _ _ x3 h3 C3 R3 _ e25 fr => L_code R3 (e25.trans (by decide)) (by decide) (LI_s J (RF.c25 fr) (fun f hf => fr 40 0 f (by omega)) R3)) (fun z1 z2 z3 z4 z5 z6 z7 z8 z9 => by exfalso; omega) (fun z1 z2 z3 z4 z5 z6 z7 z8 => by exfalso; omega))
  · obtain ⟨eA, fN, fC, fP, L, q0, q1, q2, q3, q4⟩ := G
    have cm := J.si.cm p1.toInt.toNat (by omega)
    have f12 : ∀ s, C1 2 0 s = C 2 0 s := fun s => fC 2 0 s (by omega) (by omega)
    rw [← eA 90 0 a90, ← eA 38 0 a38]
    refine L_out R1 (fun h2 C2 R2 o2 f2 => ?_)
    have f1 : ∀ j i f : Nat, 38 ≤ j → C1 j i f = C j i f := fun j i f hj => by
      by_cases z0 : n = 0
      · exact (Q1 z0).1 j i f (by omega) (by omega) (by omega)
      · exact (Q0 z0 j i f (by omega)).1
    have hh : Hi C C2 := Hi.o90 f1 f2
    have n19_ : C2 38 0 19 = (n : Int) := (hh 38 19 (by decide) rfl).trans hn
    have n14_ : C2 38 0 14 = C 38 0 14 := hh 38 14 (by decide) rfl
    have g49 : C2 49 0 p1.toInt.toNat = C 49 0 p1.toInt.toNat := hh 49 _ (by decide) rfl
    have g51 : C2 51 0 p1.toInt.toNat = C 51 0 p1.toInt.toNat := hh 51 _ (by decide) rfl
    by_cases z0 : n = 0
    · obtain ⟨B1, B2_, ⟨B3a, B3b, B3c, B3d, B3e, B3f⟩, ⟨B4a, B4b⟩, B5, B6⟩ := Q1 z0
      refine wio R2 a38 rfl (by decide) (r_addState R2 (J.I2 hh) hz (fun z1 => by exfalso; omega) (fun z1 z2 z3 => by exfalso; omega) (fun z1 z2 z3 z4 z5 z6 z7 => by exfalso; omega) (fun z1 z2 z3 z4 z5 z6 z7 z8 z9 => by exfalso; omega) (fun z1 z2 z3 z4 z5 z6 z7 z8 x3 h3 C3 R3 hx e25 b0 b1 b2 b3 b4 c8 c11 c20 c21 c12 c13 c14 c15 fr => ?_))
      refine L_ok R3 e25 (((fr 90 0 0 (by omega) (by omega) (by omega) (by omega)).trans o2).trans (hy.trans (show (n : Int) = x3.toInt by omega))) ?_
      have b4 : C3 38 0 19 = (n : Int) + 1 := by omega
      have b0 : C3 55 0 n = p1.toInt := by rw [z0]; exact b0
      have b1 : C3 56 0 n = p2.toInt := by rw [z0]; exact b1
      have b2 : C3 57 0 n = (bz p3).toInt := by rw [z0]; exact b2
      have b3 : C3 58 0 n = p4.toInt := by rw [z0]; exact b3
      have F3 : ∀ j f : Nat, 38 ≤ j → sta j f = true → ¬ (j = 38 ∧ f = 19 ∨ 55 ≤ j ∧ j ≤ 58 ∧ f = n) → C3 j 0 f = C j 0 f := fun j f hj hs hx => (fr j 0 f (by have := sta_lt hs; omega) (by have := sta_lt hs; omega) (by have := sta_lt hs; omega) (by have := sta_lt hs; omega)).trans (hh j f hj hs)
      have n19 := F3 38 19 (by decide) rfl
      have e55 : mx C C3 55 0 n = p1.toInt := b0
      have e56 : mx C C3 56 0 n = p2.toInt := b1
      have e57 : mx C C3 57 0 n = (bz p3).toInt := b2
      have e58 : mx C C3 58 0 n = p4.toInt := b3
      have lo : ∀ j i f : Nat, j < 38 → C3 j i f = C1 j i f := fun j i f hj => (fr j i f (by omega) (by omega) (by omega) (by omega)).trans (f2 j i f (by omega))
      have g40 : ∀ f : Nat, ¬ (f = 8 ∨ f = 11 ∨ f = 20 ∨ f = 21 ∨ (12 ≤ f ∧ f < 16)) → C3 40 0 f = C 40 0 f := fun f z => (fr 40 0 f (by omega) (by omega) (by omega) (by omega)).trans ((f2 40 0 f (by decide)).trans (f1 40 0 f (by decide)))
      have g166 := g40 166 (by omega)
      have g288 := g40 288 (by omega)
      have g287 := g40 287 (by omega)
      have ev := J.mi.ev
      have fi := J.mi.fi
      have tk := J.mi.tk
      have tq := J.tq
      have k3 := F3 38 3 (by decide) rfl (by omega)
      have M3 : MI C3 (100 * ((j + 1 : Nat) : Int)) (C3 40 0) := MI_begin (fun p hp => by rw [g40 p (by omega)]; exact J.mi.va p hp) c8 c11 c20 c21 c12 c13 c14 c15 (by omega) (by omega) (by omega)
      have S3 : SI C3 := SI.Hi_ (S := mx C C3) (SI.ast J.si hn g2 b4 (by rw [e55]; omega) (by rw [e55]; omega) (by rw [e56]; omega) (by rw [e57]; exact hz) (by rw [e58]; omega) (mx_s F3)) mx_hi
      have K3 : KS C3 N1 zz1 C3 P1 := (KS.Hi_ (S := mx C C3) (KS.ast J.ks J.si hn fN fC L fP b4 ⟨q0, by rw [e55]; exact q1, q2.trans e56.symm, q3.trans e57.symm, q4.trans e58.symm⟩ (mx_s F3)) mx_hi).fr (fun j i f z => lo j i f (by omega)) (fun _ _ _ _ => rfl)
      have m0 : ∀ j i f : Nat, 21 ≤ j → j < 38 → ¬ ((j = 23 ∨ j = 24) ∧ i = 0 ∧ 1 ≤ f ∧ f ≤ 5) → ¬ (j = 21 ∧ i = 0 ∧ (f = 5 ∨ f = 6 ∨ f = 8)) → C3 j i f = C j i f := fun j i f y1 y2 y3 y4 => (lo j i f y2).trans (B1 j i f y1 y3 y4)
      have c3 : CP C3 0 (C3 40 0 287) (C3 40 0) C3 P1 := by
        have cp := J.cp
        refine ⟨fun p hp => ?_, ?_, ?_, ?_, ?_, fun _ => B6, fun y => absurd (c8.symm.trans y) (by decide), fun _ => ?_, ⟨?_, ?_, fun _ => ?_⟩, fun y => absurd (c8.symm.trans y) (by decide), fun y => absurd (c20.symm.trans y) (by decide), fun e w he hw => ?_, ?_, ?_, ?_, ?_⟩
        · rw [m0 22 0 p (by omega) (by omega) (by omega) (by omega), g40 p (by omega)]; exact cp.va p hp
        · rw [lo 21 0 8 (by decide), B4b, c11]
        · rw [m0 21 0 9 (by omega) (by omega) (by omega) (by omega), g287]; exact cp.tk
        · rw [m0 33 0 1 (by omega) (by omega) (by omega) (by omega), g288]; exact cp.fi
        · rw [lo 21 0 6 (by decide), B4a, c20]
        · rw [B5, c12]; rfl
        · rw [lo 23 0 1 (by decide), B3a, c13]
        · rw [lo 23 0 2 (by decide), B3b, c14]
        · rw [lo 23 0 3 (by decide), B3c, c15]
        · rw [g166] at he
          rw [m0 35 _ _ (by omega) (by omega) (by omega) (by omega), g166, g288, g40 (167 + 4 * e + w) (by omega)]
          exact cp.ev e w he hw
        · exact Or.inr ((lo 23 0 3 (by decide)).trans B3c)
        · exact Or.inr ((lo 23 0 5 (by decide)).trans B3d)
        · exact Or.inr ((lo 24 0 3 (by decide)).trans B3e)
        · exact Or.inr ((lo 24 0 5 (by decide)).trans B3f)
      exact ⟨A1, N1, zz1, C3, P1, eA 8 0 a80, eA 0 0 a00, rfl, rfl, R3, J.mk_ ⟨by omega, Int.le_of_eq (F3 38 21 (by decide) rfl (by omega)).symm, fun s hs => F3 57 s (by decide) rfl (by omega), fun t ht => F3 60 _ (by decide) rfl (by omega)⟩ (Int.le_of_eq k3.symm) S3 K3 M3 c3 (by omega) (fun p y1 y2 => by rw [g40 p (by omega)]; exact J.vz p (by omega) y2) (fun c y1 y2 => (F3 45 c (by decide) rfl (by omega)).trans (J.cz c (by rw [← F3 38 8 (by decide) rfl (by omega)]; exact y1) y2)) (fun s hs => ⟨(lo 2 0 s (by decide)).trans (f12 s), (fr 41 0 s (by omega) (by omega) (by omega) (by omega)).trans ((f2 41 0 s (by decide)).trans (f1 41 0 s (by decide)))⟩) (fun f y1 y2 => g40 f (by omega)) (fun s hs j i f hm => by
        have m4 := hm.2.2.2
        have m2 := hm.1
        have m3 := hm.2.1
        exact ⟨m0 j i f (by omega) (by omega) (by omega) (by omega), B2_ j i f (by omega) (by omega) (by omega)⟩)⟩
    · have f1 : ∀ j i f : Nat, 21 ≤ j → C1 j i f = C j i f := fun j i f hj => (Q0 z0 j i f hj).1
      have p1_ : ∀ j i f : Nat, 21 ≤ j → P1 j i f = P j i f := fun j i f hj => (Q0 z0 j i f hj).2
      refine wio R2 a38 rfl (by decide) (r_addState R2 (J.I2 hh) hz (fun z1 => by exfalso; omega) (fun z1 z2 z3 => by exfalso; omega) (fun z1 z2 z3 z4 z5 z6 z7 => by exfalso; omega) (fun z1 z2 z3 z4 z5 z6 z7 z8 z9 x3 h3 C3 R3 hx e25 b0 b1 b2 b3 b4 fr => ?_) (fun z1 z2 z3 z4 z5 z6 z7 z8 => by exfalso; omega))
      simp only [n19_, Int.toNat_natCast] at hx b0 b1 b2 b3 b4 fr
      refine L_ok R3 e25 (((fr 90 0 0 (by omega) (by omega) (by omega)).trans o2).trans (hy.trans hx.symm)) ?_
      have F3 : ∀ j f : Nat, 38 ≤ j → sta j f = true → ¬ (j = 38 ∧ f = 19 ∨ 55 ≤ j ∧ j ≤ 58 ∧ f = n) → C3 j 0 f = C j 0 f := fun j f hj hs hx => (fr j 0 f (by have := sta_lt hs; omega) (by have := sta_lt hs; omega) (by have := sta_lt hs; omega)).trans (hh j f hj hs)
      have n19 := F3 38 19 (by decide) rfl
      have e55 : mx C C3 55 0 n = p1.toInt := b0
      have e56 : mx C C3 56 0 n = p2.toInt := b1
      have e57 : mx C C3 57 0 n = (bz p3).toInt := b2
      have e58 : mx C C3 58 0 n = p4.toInt := b3
      exact LI_a J (eA 8 0 a80) (eA 0 0 a00) rfl rfl f1 p1_ f12 (fun j i f hj => (fr j i f (by omega) (by omega) (by omega)).trans (f2 j i f (by omega))) (fun s => (fr 41 0 s (by omega) (by omega) (by omega)).trans ((f2 41 0 s (by decide)).trans (f1 41 0 s (by decide)))) (fun f _ => (fr 40 0 f (by omega) (by omega) (by omega)).trans ((f2 40 0 f (by decide)).trans (f1 40 0 f (by decide)))) (SI.ast J.si hn g2 b4 (by rw [e55]; omega) (by rw [e55]; omega) (by rw [e56]; omega) (by rw [e57]; exact hz) (by rw [e58]; omega) (mx_s F3)) (KS.ast J.ks J.si hn fN fC L fP b4 ⟨q0, by rw [e55]; exact q1, q2.trans e56.symm, q3.trans e57.symm, q4.trans e58.symm⟩ (mx_s F3)) ⟨by omega, Int.le_of_eq (F3 38 21 (by decide) rfl (by omega)).symm, fun s hs => F3 57 s (by decide) rfl (by omega), fun t ht => F3 60 _ (by decide) rfl (by omega)⟩ (Or.inl (by omega)) (Int.le_of_eq (F3 38 3 (by decide) rfl (by omega)).symm) (fun c z1 z2 => (F3 45 c (by decide) rfl (by omega)).trans (J.cz c (by rw [← F3 38 8 (by decide) rfl (by omega)]; exact z1) z2)) R3
theorem pAll_ok {W : dC} (hns : 0 ≤ W 38 0 19) : ∀ (m i q : Nat) (l : List dM), i ≤ tL W → pAll W m i = (q, some l) → l.length ≤ m ∧ ∀ r, r ∈ l → rOK W r
  | 0, i, q, l, _, h => by
    have h : (sk W i, (none : Option (List dM))) = (q, some l) := h
    cases h
  | m + 1, i, q, l, hi, h => by
    cases hp : pTr W i with
    | mk q1 o =>
      have J := pTr_ok hi hns hp
      cases o with
      | none => rw [pAll_none hp] at h; cases h
      | some r =>
        have rk := J.2.2.2 r rfl
        have s2 := sk_le J.2.1
        rw [pAll_some hp] at h
        unfold pRest at h
        by_cases a : tb W (sk W q1) = -1
        · rw [if_pos a] at h
          cases h
          exact ⟨Nat.succ_le_succ (Nat.zero_le _), fun r' hr => by rw [List.mem_singleton.1 hr]; exact rk⟩
        · have b1 := tb_in a
          rw [if_neg a] at h
          by_cases b : tb W (sk W q1) = 59
          · rw [if_pos b] at h
            cases hq : pAll W m (sk W q1 + 1) with
            | mk q2 o2 =>
              rw [hq] at h
              cases o2 with
              | none => cases h
              | some l2 =>
                cases h
                have K := pAll_ok hns m _ _ _ (by omega) hq
                refine ⟨Nat.succ_le_succ K.1, fun r' hr => ?_⟩
                rcases List.mem_cons.1 hr with z | z
                · rw [z]; exact rk
                · exact K.2 r' z
          · rw [if_neg b] at h
            cases h
theorem addsS_SI {W : dC} : ∀ (l : List dM) (S : dC) (n : Nat), SI S → TS W S → S 38 0 21 = (n : Int) → n + l.length ≤ 24 → (∀ r, r ∈ l → rOK W r) → SI (addsS S l)
  | [], S, n, I, _, _, _, _ => I
  | r :: l, S, n, I, T, hn, hl, hr => by
    have hl : n + (l.length + 1) ≤ 24 := hl
    exact addsS_SI l (addS S r) (n + 1) (addS_SI I T hn (by omega) (hr r (List.mem_cons_self ..))) (addS_TS r T hn) (by rw [addS_n, hn]; rfl) (by omega) (fun r' h' => hr r' (List.mem_cons_of_mem _ h'))
theorem addsS_at {j i f : Nat} : ∀ (l : List dM) (S S' : dC), S 38 0 21 = S' 38 0 21 → S j i f = S' j i f → addsS S l j i f = addsS S' l j i f
  | [], _, _, _, e => e
  | r :: l, S, S', e1, e2 => by
    refine addsS_at l (addS S r) (addS S' r) (by rw [addS_n, addS_n, e1]) ?_
    unfold addS
    rw [e1, e2]
theorem addsS_o : ∀ (l : List dM) (S : dC) (n : Nat) {j i f : Nat}, S 38 0 21 = (n : Int) → ¬ (j = 38 ∧ f = 21) → ¬ (j = 60 ∧ 17 * n ≤ f) → addsS S l j i f = S j i f
  | [], _, _, _, _, _, _, _, _ => rfl
  | r :: l, S, n, j, i, f, hn, h1, h2 => by
    refine (addsS_o l (addS S r) (n + 1) (by rw [addS_n, hn]; rfl) h1 (by omega)).trans (addS_o r hn (by omega))
theorem lc17 (J : LJ j N zz C P) (R : D h A N zz C P) (hj : j < 512) : vLc17 (A 8 0) (LI (A 8 0) (A 0 0) (A 38 0) (A 90 0) (j + 1)) h (A 0 0) (A 38 0) (A 90 0) := by
  unfold vLc17 vL_load
  have i1 := J.si.nt
  have i2 := J.si.ns
  have fm1 := J.mi.fm
  have cu := J.mi.cu
  have ev := J.mi.ev
  obtain ⟨n, hn⟩ : ∃ n : Nat, C 38 0 21 = (n : Int) := ⟨(C 38 0 21).toNat, by omega⟩
  refine wio R a00 rfl (by decide) (q_load R J.ks J.si rfl hn (fun q e h1 C1 P1 R1 K1 G => ⟨rfl, ?_⟩) (fun q l e y A1 h1 N1 zz1 C1 P1 aN eA R1 K1 G hy => ?_))
  · have f1 : ∀ j i f : Nat, 38 ≤ j → C1 j i f = C j i f := fun j i f hj => (G j i f (by omega)).1
    have hh : Hi C C1 := fun j f hj _ => f1 j 0 f hj
    refine wio R1 a38 rfl (by decide) (rr_load R1 (J.I2 hh) ((f1 38 0 21 (by decide)).trans hn) (fun q' e' x3 h3 C3 R3 e25 fr => L_code R3 (e25.trans (by decide)) (by decide) ?_) (fun q' l' e' => by rw [pAll_Hi hh, e] at e'; cases e'))
    exact LI_q J K1 (J.cp.go (by omega) (by omega) (fun j i f hm => G j i f (by have := hm.1; omega)) (fun _ _ => rfl) (fun z => z)) f1 (fun s hs j i f hm => G j i f (by have := hm.1; omega)) (fun s => (G 2 0 s (by omega)).1) (fun j i f h1 h2 h3 => fr j i f (by unfold nr; omega) (by omega)) (fun f hf => (fr 40 0 f (by unfold nr; omega) (by omega)).trans (f1 40 0 f (by decide))) R3
  · rw [← eA 90 0 a90, ← eA 38 0 a38]
    refine L_out R1 (fun h2 C2 R2 o2 f2 => ?_)
    have f1 : ∀ j i f : Nat, 38 ≤ j → C1 j i f = C j i f := fun j i f hj => (G j i f (by omega)).1
    have hh : Hi C C2 := Hi.o90 f1 f2
    have n21_ : C2 38 0 21 = C 38 0 21 := hh 38 21 (by decide) rfl
    refine wio R2 a38 rfl (by decide) (rr_load R2 (J.I2 hh) (n21_.trans hn) (fun q' e' => by rw [pAll_Hi hh, e] at e'; cases e') (fun q' l' e' x3 h3 C3 R3 e25 c24 fa fb hx => ?_))
    rw [pAll_Hi hh, e] at e'
    cases e'
    refine L_ok R3 e25 (((fb 90 0 0 (by unfold nr; omega) (by omega) (by omega)).trans o2).trans (hy.trans hx.symm)) ?_
    have lo : ∀ j i f : Nat, j < 38 → C3 j i f = C1 j i f := fun j i f hj => (fb j i f (by unfold nr; omega) (by omega) (by omega)).trans (f2 j i f (by omega))
    have F3 : ∀ j f : Nat, 38 ≤ j → sta j f = true → ¬ (j = 38 ∧ (f = 24 ∨ f = 21)) → j ≠ 60 → C3 j 0 f = C j 0 f := fun j f hj hs y1 y2 => (fb j 0 f (by have := sta_lt hs; unfold nr; omega) (by have := sta_lt hs; omega) y2).trans (hh j f hj hs)
    have H3 : Hi (up3 (addsS C l) 38 0 24 0) C3 := fun j f hj hs => by
      by_cases z : j = 38 ∧ f = 24
      · rw [z.1, z.2, up3_same]; exact c24
      · rw [up3_ne _ _ (by omega), fa j f (by have := sta_lt hs; unfold nr; omega) (by have := sta_lt hs; omega)]
        exact addsS_at l C2 C n21_ (hh j f hj hs)
    have T : TS C C := ⟨rfl, fun _ => rfl, fun _ => rfl, rfl, rfl⟩
    have pk := pAll_ok i2.1 _ _ _ _ (Nat.zero_le _) e
    have S1 : SI (addsS C l) := addsS_SI l C n J.si T hn (by omega) pk.2
    have S3 : SI C3 := (S1.clt (up3_same _ _ _ _ _) (fun j f _ hj => up3_ne _ _ (by omega))).Hi_ H3
    have K3 : KS C3 N1 zz1 C3 P1 := (K1.Hi_ H3).fr (fun j i f z => lo j i f (by omega)) (fun _ _ _ _ => rfl)
    have k19 := F3 38 19 (by decide) rfl (by omega) (by decide)
    have k21 : C3 38 0 21 = C 38 0 21 + (l.length : Int) := (H3 38 21 (by decide) rfl).trans ((up3_ne _ _ (by omega)).trans (addsS_n l C))
    have k60 : ∀ f : Nat, f < 17 * n → C3 60 0 f = C 60 0 f := fun f hf => (H3 60 f (by decide) rfl).trans ((up3_ne _ _ (by omega)).trans (addsS_o l C n hn (by omega) (by omega)))
    have m0 : ∀ j i f : Nat, 21 ≤ j → j < 38 → C3 j i f = C j i f ∧ P1 j i f = P j i f := fun j i f y1 y2 => ⟨(lo j i f y2).trans (G j i f (by omega)).1, (G j i f (by omega)).2⟩
    have e40 : ∀ f, C3 40 0 f = C 40 0 f := fun f => (fb 40 0 f (by unfold nr; omega) (by omega) (by decide)).trans ((f2 40 0 f (by decide)).trans (f1 40 0 f (by decide)))
    exact ⟨A1, N1, zz1, C3, P1, eA 8 0 a80, eA 0 0 a00, rfl, rfl, R3, J.same ⟨Int.le_of_eq k19.symm, by omega, fun s _ => F3 57 s (by decide) rfl (by omega) (by decide), fun t ht => k60 _ (by omega)⟩ (Or.inr k19) (Int.le_of_eq (F3 38 3 (by decide) rfl (by omega) (by decide)).symm) S3 K3 (J.cp.go (by omega) (by omega) (fun j i f z => m0 j i f z.1 (by have := z.2.1; omega)) (fun _ _ => rfl) (fun z => z)) (fun c y1 y2 => (F3 45 c (by decide) rfl (by omega) (by decide)).trans (J.cz c (by rw [← F3 38 8 (by decide) rfl (by omega) (by decide)]; exact y1) y2)) (fun s hs => ⟨(lo 2 0 s (by decide)).trans (G 2 0 s (by omega)).1, (fb 41 0 s (by unfold nr; omega) (by omega) (by decide)).trans ((f2 41 0 s (by decide)).trans (f1 41 0 s (by decide)))⟩) (fun f _ => e40 f) (fun s hs j i f z => m0 j i f z.1 (by have := z.2.1; omega))⟩
end LQS
