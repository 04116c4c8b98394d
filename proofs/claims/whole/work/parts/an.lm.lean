/-! ===== the law's calls that change the machine ===== -/
section LQM
variable {h h2 h3 : gH} {A A1 : dA} {N zz N1 zz1 : Nat → Nat} {S C C1 C2 C3 : dC} {P P1 : dP} {M M' : dM} {tb tq : Int} {j k : Nat} {t0 x mm o : Nat}
theorem MI.c9 (J : MI S tb M) (e : ∀ f, 8 ≤ f → f < 289 → M' f = M f) (hv : ∀ p : Nat, p < 8 → -100 ≤ M' p ∧ M' p ≤ 100) : MI S tb M' := by
  have j6 := J.fm
  have j4 := J.cu
  have p12 : prg M' 12 = prg M 12 := by unfold prg; rw [e 13 (by decide) (by decide), e 14 (by decide) (by decide)]
  have p16 : prg M' 16 = prg M 16 := by unfold prg; rw [e 17 (by decide) (by decide), e 18 (by decide) (by decide)]
  have sm : fb_si (fun k => M' (24 + 3 * k)) (M 21).toNat = fb_si (fun k => M (24 + 3 * k)) (M 21).toNat := fb_si_cong fun k hk => e _ (by omega) (by omega)
  have fe : ∀ k : Nat, (k : Int) < M 21 → 0 ≤ M' (22 + 3 * k) ∧ M' (22 + 3 * k) < 12 ∧ 0 ≤ M' (23 + 3 * k) ∧ M' (23 + 3 * k) < 500 ∧ 0 < M' (24 + 3 * k) ∧ M' (24 + 3 * k) ≤ 1000000 := fun k hk => by
    rw [e _ (by omega) (by omega), e (23 + 3 * k) (by omega) (by omega), e (24 + 3 * k) (by omega) (by omega)]; exact J.fe k hk
  unfold MI
  rw [p12, p16, e 8 (by decide) (by decide), e 9 (by decide) (by decide), e 10 (by decide) (by decide), e 11 (by decide) (by decide), e 12 (by decide) (by decide), e 13 (by decide) (by decide), e 14 (by decide) (by decide), e 15 (by decide) (by decide), e 16 (by decide) (by decide), e 17 (by decide) (by decide), e 18 (by decide) (by decide), e 19 (by decide) (by decide), e 20 (by decide) (by decide), e 21 (by decide) (by decide), e 166 (by decide) (by decide), e 288 (by decide) (by decide), sm]
  exact ⟨hv, J.mi, J.cu, J.sa, J.ca, J.la, J.fa, J.fz, J.id, J.xx, J.el, J.sb, J.cb, J.lb, J.fb, J.fm, fe, J.fs, J.ev, J.fi, J.tk⟩
theorem MI_begin (va : ∀ p : Nat, p < 8 → -100 ≤ M p ∧ M p ≤ 100) (e8 : M 8 = 0) (e11 : M 11 = 0) (e20 : M 20 = 0) (e21 : M 21 = 0) (e12 : M 12 = 0) (e13 : M 13 = 0) (e14 : M 14 = 0) (e15 : M 15 = 1) (ev : 0 ≤ M 166 ∧ M 166 ≤ 30 ∧ (M 288 ≤ 30 → M 166 = M 288) ∧ (30 ≤ M 288 → M 166 = 30)) (fi : 0 ≤ M 288 ∧ M 288 ≤ 120 * tb) (tk : 0 ≤ tb) : MI S tb M := by
  have no : M 8 = 1 → False := fun z => absurd (e8.symm.trans z) (by decide)
  have p12 : prg M 12 = 0 := by rw [prg_of, show M (12 + 1) = 0 from e13, show M (12 + 2) = 0 from e14]; decide
  exact ⟨va, Or.inl e8, by omega, ⟨by omega, fun z => by omega, fun _ => ⟨e8, e12⟩⟩, ⟨by omega, by omega, by omega, by rw [p12]; omega⟩, fun _ => e13, Or.inr e15, Or.inl e20, fun _ => ⟨e11, e20, e21⟩, fun z => (no z).elim, fun z => (no z).elim, fun z => (no z).elim, fun z => (no z).elim, fun z => (no z).elim, fun z => (no z).elim, by omega, fun k hk => by rw [e21] at hk; omega, fun z => absurd (e20.symm.trans z) (by decide), ev, fi, tk⟩
/-! a value that is 0 stays 0 -/
theorem adv_lo {t p : Nat} {y : Int} (hp : p < 8) (ht : 8 ≤ t) : adv S M t y p = M p := by
  unfold adv
  rw [um_n _ _ (by omega)]
  split
  · unfold advN; rw [um_n _ _ (by omega)]
  · unfold advL; rw [um_n _ _ (by omega), um_n _ _ (by omega)]
theorem ntM_lo {a b c d : Int} {p : Nat} (hp : p < 8) : ntM M a b c d p = M p := by
  unfold ntM nt0
  rw [um_n _ _ (by omega), um_n _ _ (by omega), um_n _ _ (by omega), um_n _ _ (by omega), um_n _ _ (by omega), um_n _ _ (by omega)]
  unfold ntS
  split
  · rw [um_n _ _ (by omega)]
    exact if_neg (by omega)
  · rfl
theorem fiK_lo {s c p : Nat} {a b d e : Int} (hp : p < 8) : ∀ n, fiK S s a b d e c n M p = M p
  | 0 => rfl
  | n + 1 => by
    show (if crs (zOf S c n) a b d (S 57 0 s) then ntM (fiK S s a b d e c n M) e (S 47 0 (5 * c + n)) c s else fiK S s a b d e c n M) p = M p
    split
    · rw [ntM_lo hp]; exact fiK_lo hp n
    · exact fiK_lo hp n
theorem fiC_lo {T : Nat → Int} {s p : Nat} {a b d e : Int} (hp : p < 8) : ∀ n, fiC S T s a b d e n M p = M p
  | 0 => rfl
  | n + 1 => by
    show (if hrd S (T n) then fiK S s a b d e n (S 45 0 n).toNat (fiC S T s a b d e n M) else fiC S T s a b d e n M) p = M p
    split
    · rw [fiK_lo hp]; exact fiC_lo hp n
    · exact fiC_lo hp n
theorem fir_lo {s p : Nat} {a b c d e : Int} (hp : p < 8) : fir S s a b c d e M p = M p := fiC_lo hp _
theorem cpT_lo {p : Nat} (hp : p < 8) : cpT M p = M p := if_neg (by omega)
theorem adA_lo {p : Nat} (hp : p < 8) : adA S M p = M p := by
  unfold adA
  split
  · exact adv_lo hp (by decide)
  · rfl
theorem adB_lo {p : Nat} (hp : p < 8) : adB S M p = M p := by
  unfold adB
  split
  · rw [adv_lo hp (by decide), adv_lo hp (by decide)]
  · rw [adv_lo hp (by decide), adA_lo hp]
theorem tkM_lo {p : Nat} (hp : p < 8) : tkM S M p = M p := by
  unfold tkM
  split
  · unfold tkI
    rw [fir_lo hp, adv_lo hp (by decide)]
  · have eE : tkE S M p = M p := by unfold tkE; rw [um_n _ _ (by omega), adB_lo hp]
    have eF : tkF S M p = M p := by
      unfold tkF
      split
      · rw [endM_lo hp, eE]
      · exact eE
    unfold tkB
    rw [fir_lo hp]
    unfold tkA
    split
    · rw [fir_lo hp, eF]
    · exact eF
theorem clr_z {t p : Nat} (hz : M p = 0) : ∀ n, clr S t n M p = 0
  | 0 => hz
  | n + 1 => by
    show um (clr S t n M) (cnP S t n).toNat (if S 42 0 (cnP S t n).toNat = 2 then 0 else clr S t n M (cnP S t n).toNat) p = 0
    by_cases z : p = (cnP S t n).toNat
    · rw [← z, um_s]
      split
      · rfl
      · exact clr_z hz n
    · rw [um_n _ _ z]; exact clr_z hz n
theorem goT_lo {t p : Nat} (hp : p < 8) : goT S t M p = M p := by
  have eB : goB S t M p = M p := by
    unfold goB trkM
    rw [um_n _ _ (by omega), um_n _ _ (by omega), um_n _ _ (by omega), um_n _ _ (by omega)]
  have eP : goP S t M p = M p := by
    unfold goP
    split
    · rw [um_n _ _ (by omega), eB]
    · exact eB
  unfold goT
  split
  · rw [endM_lo hp, eP]
  · rw [um_n _ _ (by omega), um_n _ _ (by omega), um_n _ _ (by omega), eP]
theorem frz_lo {l : Int} {p : Nat} (hp : p < 8) : frz S M l p = M p := by
  have e0 : frz0 S M p = M p := by
    unfold frz0
    rw [um_n _ _ (by omega), um_n _ _ (by omega), um_n _ _ (by omega), putQ_lo _ _ (by omega)]
  unfold frz
  split
  · rw [cpT_lo hp, e0]
  · exact e0
theorem tak_z {p : Nat} (hp : p < 8) (hz : M p = 0) : tak S M p = 0 := by
  unfold tak
  cases hq : pick S M with
  | none => exact hz
  | some u =>
    obtain ⟨t, l⟩ := u
    show takM S (clr S t (cnN S t) M) t l p = 0
    unfold takM
    rw [goT_lo hp]
    split
    · rw [frz_lo hp]; exact clr_z hz _
    · unfold idl
      rw [um_n _ _ (by omega), um_n _ _ (by omega), um_n _ _ (by omega)]; exact clr_z hz _
theorem tck_z {p : Nat} (hp : p < 8) (hz : M p = 0) : tck S M p = 0 := by
  unfold tck
  rw [tkM_lo hp]
  unfold tk4
  exact tak_z hp (tak_z hp (tak_z hp (tak_z hp (by rw [um_n _ _ (by omega)]; exact hz))))
theorem tcks_z {p : Nat} (hp : p < 8) : ∀ (n : Nat) (M : dM), M p = 0 → tcks S n M p = 0
  | 0, _, hz => hz
  | n + 1, M, hz => tcks_z hp n (tck S M) (tck_z hp hz)
/-- the end of a call that changes the machine: the class' tables went to C1, the reference's to C3 -/
theorem LI_m (J : LJ j N zz C P) (K1 : KS C N zz C1 P1) (f1 : ∀ j i f : Nat, 38 ≤ j → C1 j i f = C j i f) (fm : ∀ s : Nat, s < 2 → ∀ j i f : Nat, mP (s + 1) j i → C1 j i f = C j i f ∧ P1 j i f = P j i f) (f2 : ∀ s, C1 2 0 s = C 2 0 s) (rf : RF C1 C3) (M3 : MI C3 (100 * ((j + 1 : Nat) : Int)) (C3 40 0)) (c3 : CP C 0 (C3 40 0 287) (C3 40 0) C1 P1) (q3 : 0 ≤ C3 40 0 287 ∧ C3 40 0 287 ≤ 100 * ((j + 1 : Nat) : Int)) (vz : ∀ p : Nat, C 38 0 3 ≤ p → p < 8 → C3 40 0 p = 0) (e40 : ∀ f, 290 ≤ f → f < 870 → C3 40 0 f = C 40 0 f) (R3 : D h3 A N zz C3 P1) : LI (A 8 0) (A 0 0) (A 38 0) (A 90 0) (j + 1) h3 := by
  have hh : Hi C C3 := fun j f hj hs => (rf.hi j f hj hs).trans (f1 j 0 f hj)
  have e1 : ∀ j i f : Nat, j < 38 → C3 j i f = C1 j i f := fun j i f hj => rf j i f (by omega) (by omega) (by omega)
  have n8 := hh 38 8 (by decide) rfl
  have n3 := hh 38 3 (by decide) rfl
  have n19 := hh 38 19 (by decide) rfl
  have fm3 := M3.fm
  have cu3 := M3.cu
  have ev3 := M3.ev
  refine ⟨A, N, zz, C3, P1, rfl, rfl, rfl, rfl, R3, J.mk_ (MV.hi hh) (by omega) (J.si.Hi_ hh) ((K1.fr (fun j i f hj => e1 j i f (by omega)) (fun _ _ _ _ => rfl)).Hi_ hh) M3 ?_ q3 (fun p h1 h2 => vz p (by omega) h2) (fun c h1 h2 => ?_) (fun s hs => ⟨(e1 2 0 s (by decide)).trans (f2 s), (rf 41 0 s (by decide) (by omega) (by decide)).trans (f1 41 0 s (by decide))⟩) e40 (fun s hs j i f hm => ⟨(e1 j i f (by have := hm.2.1; omega)).trans (fm s hs j i f hm).1, (fm s hs j i f hm).2⟩)⟩
  · exact c3.go (by omega) (by omega) (fun j i f hm => ⟨e1 j i f (by have := hm.2.1; omega), rfl⟩) (fun _ _ => rfl) (fun z => by omega)
  · rw [hh 45 c (by decide) rfl]
    exact J.cz c (by omega) h2
theorem lc1 (J : LJ j N zz C P) (R : D h A N zz C P) (hj : j < 512) (p1 : Int32) (p2 : Int32) : vLc1 (A 8 0) (LI (A 8 0) (A 0 0) (A 38 0) (A 90 0) (j + 1)) h (A 0 0) (A 38 0) (A 90 0) p1 p2 := by
  unfold vLc1 vL_set
  have i3 := J.si.np
  have fm1 := J.mi.fm
  have cu := J.mi.cu
  have ev := J.mi.ev
  refine wio R a00 rfl (by decide) (q_set (J.Z R) (by omega) J.si (fun a => Or.inl ⟨rfl, ?_⟩) (fun a b c => Or.inr (⟨rfl, ?_⟩)) (fun a b c d y h1 C1 Z1 hy => L_out Z1.1 (fun h2 C2 R2 o2 f2 => ?_)))
  · exact wio R a38 rfl (by decide) (r_set R J.si (fun _ x3 h3 C3 R3 _ e25 fr => L_code R3 (e25.trans (by decide)) (by decide) (LI_s J (RF.c25 fr) (fun f hf => fr 40 0 f (by omega)) R3)) (fun z1 z2 z3 => by exfalso; omega) (fun z1 z2 z3 => by exfalso; omega))
  · exact wio R a38 rfl (by decide) (r_set R J.si (fun z => by exfalso; omega) (fun _ _ _ x3 h3 C3 R3 _ e25 fr => L_code R3 (e25.trans (by decide)) (by decide) (LI_s J (RF.c25 fr) (fun f hf => fr 40 0 f (by omega)) R3)) (fun z1 z2 z3 => by exfalso; omega))
  · have f1 := Z1.2.2.2.1.hi
    have hh : Hi C C2 := Hi.o90 f1 f2
    have n3 : C2 38 0 3 = C 38 0 3 := hh 38 3 (by decide) rfl
    obtain ⟨p, hp⟩ : ∃ p : Nat, p1.toInt = (p : Int) := ⟨p1.toInt.toNat, by omega⟩
    have ep : p1.toInt.toNat = p := by omega
    rw [ep] at c d Z1 hy
    have n42 : C2 42 0 p = C 42 0 p := hh 42 p (by decide) rfl
    have e40 : ∀ f, C2 40 0 f = C 40 0 f := fun f => (f2 40 0 f (by decide)).trans (f1 40 0 f (by decide))
    refine wio R2 a38 rfl (by decide) (r_set R2 (J.I2 hh) (fun z => by exfalso; omega) (fun z1 z2 z3 => by rw [ep, n42] at z3; exfalso; omega) (fun z1 z2 z3 x3 h3 C3 R3 hx e25 b0 fr => ?_))
    rw [ep] at hx b0 fr
    refine L_ok R3 e25 (((fr 90 0 0 (by omega) (by omega)).trans o2).trans (hy.trans (hx.trans (e40 p)).symm)) ?_
    have g40 : ∀ f, f ≠ p → C3 40 0 f = C 40 0 f := fun f hf => (fr 40 0 f (by omega) (by omega)).trans (e40 f)
    have rf : RF C1 C3 := (RF.o90 f2).tr (fun j i f z1 z2 z3 => fr j i f (by omega) (by omega))
    have h3h : Hi C C3 := fun j f hj hs => (rf.hi j f hj hs).trans (f1 j 0 f hj)
    have em : C3 40 0 = um (C 40 0) p p2.toInt := funext fun f => by
      by_cases z : f = p
      · rw [z, um_s, b0]
      · rw [um_n _ _ z, g40 f z]
    have tq := J.tq
    have va := J.mi.va p (by omega)
    refine LI_m J Z1.2.1 f1 (fm_of Z1.2.2.2.1 Z1.2.2.2.2 (Or.inl rfl)) Z1.2.2.2.1.two rf ((J.mi.mv J.si (MV.hi h3h) (Or.inr (h3h 38 19 (by decide) rfl)) (by omega)).cong (fun f z1 z2 => g40 f (by omega)) (fun q hq => ?_)) ?_ (by rw [g40 287 (by omega)]; omega) (fun q z1 z2 => by rw [g40 q (by omega)]; exact J.vz q z1 z2) (fun f z1 z2 => g40 f (by omega)) R3
    · by_cases z : q = p
      · rw [z, b0]; omega
      · rw [g40 q z]; exact J.mi.va q hq
    · rw [g40 287 (by omega), em]
      exact Z1.2.2.1
theorem lc18 (J : LJ j N zz C P) (R : D h A N zz C P) (hj : j < 512) (p1 : Int32) : vLc18 (A 8 0) (LI (A 8 0) (A 0 0) (A 38 0) (A 90 0) (j + 1)) h (A 0 0) (A 38 0) (A 90 0) p1 := by
  unfold vLc18 vL_tick
  have tq := J.tq
  refine wio R a00 rfl (by decide) (q_tick (J.Z R) J.si J.mi (by omega) (by omega) (fun a => Or.inl ⟨rfl, ?_⟩) (fun a b c => Or.inr (⟨rfl, ?_⟩)) (fun a b c y h1 C1 P1 Z1 hy => L_out Z1.1 (fun h2 C2 R2 o2 f2 => ?_)))
  · exact wio R a38 rfl (by decide) (x_tick R J.si J.mi (by omega) (by omega) (fun _ x3 h3 C3 X3 => L_code X3.1 (X3.2.2.2.1.trans (by decide)) (by decide) (LI_s J (RF.fw X3.2.2.2.2) (fun f hf => congrFun X3.2.2.1 f) X3.1)) (fun z1 z2 z3 => by exfalso; omega) (fun z1 z2 z3 => by exfalso; omega))
  · exact wio R a38 rfl (by decide) (x_tick R J.si J.mi (by omega) (by omega) (fun z => by exfalso; omega) (fun _ _ _ x3 h3 C3 X3 => L_code X3.1 (X3.2.2.2.1.trans (by decide)) (by decide) (LI_s J (RF.fw X3.2.2.2.2) (fun f hf => congrFun X3.2.2.1 f) X3.1)) (fun z1 z2 z3 => by exfalso; omega))
  · have f1 := Z1.2.2.2.1.hi
    have hh : Hi C C2 := Hi.o90 f1 f2
    have n19 : C2 38 0 19 = C 38 0 19 := hh 38 19 (by decide) rfl
    have e40 : C2 40 0 = C 40 0 := funext fun f => (f2 40 0 f (by decide)).trans (f1 40 0 f (by decide))
    have n287 : C2 40 0 287 = C 40 0 287 := congrFun e40 287
    refine wio R2 a38 rfl (by decide) (x_tick R2 (J.I2 hh) (J.M2 hh e40) (by omega) (by omega) (fun z => by exfalso; omega) (fun z1 z2 z3 => by exfalso; omega) (fun z1 z2 z3 x3 h3 C3 X3 hx => L_ok X3.1 X3.2.2.2.1 (((X3.2.2.2.2 90 0 0 (by unfold gP; omega) (by omega)).trans o2).trans (hy.trans (hx.trans (by rw [tcks_Hi hh, e40])).symm)) ?_))
    obtain ⟨n, hn⟩ : ∃ n : Nat, p1.toInt = (n : Int) := ⟨p1.toInt.toNat, by omega⟩
    have en : p1.toInt.toNat = n := by omega
    have em : C3 40 0 = tcks C n (C 40 0) := by rw [X3.2.2.1, tcks_Hi hh, e40, en]
    rw [en] at Z1
    have rf : RF C1 C3 := (RF.o90 f2).tr (RF.fw X3.2.2.2.2)
    have h3h : Hi C C3 := fun j f hj hs => (rf.hi j f hj hs).trans (f1 j 0 f hj)
    have t287 := tcks_287 J.si c n _ _ J.mi
    refine LI_m J Z1.2.1 f1 (fm_of Z1.2.2.2.1 Z1.2.2.2.2 (Or.inl rfl)) Z1.2.2.2.1.two rf ?_ (by rw [em]; exact Z1.2.2.1) (by rw [em, t287]; omega) (fun q y1 y2 => by rw [em]; exact tcks_z y2 n _ (J.vz q y1 y2)) (fun f y1 y2 => by rw [em]; exact tcks_hi J.si c (by omega) n _ _ J.mi) X3.1
    rw [em]
    exact (MI_tcks J.si c n _ _ J.mi).mv J.si (MV.hi h3h) (Or.inr (h3h 38 19 (by decide) rfl)) (by omega)
theorem lc19 (J : LJ j N zz C P) (R : D h A N zz C P) (hj : j < 512) : vLc19 (A 8 0) (LI (A 8 0) (A 0 0) (A 38 0) (A 90 0) (j + 1)) h (A 0 0) (A 38 0) (A 90 0) := by
  unfold vLc19
  refine wio R a00 rfl (by decide) (q_reset (J.Z R) (fun y h2 C2 P2 Z2 hy => ?_))
  have fm1 := J.mi.fm
  have cu := J.mi.cu
  have ev := J.mi.ev
  have Z0 := Z2 (fun f => if f = 15 then 1 else 0) (fun p hp => if_neg (by omega)) (if_neg (by decide)) (if_neg (by decide)) (if_neg (by decide)) (if_neg (by decide)) (if_neg (by decide)) (if_neg (by decide)) (if_pos rfl) (if_neg (by decide)) (if_neg (by decide))
  have f1 := Z0.2.2.2.1.hi
  have e40 : ∀ f, C2 40 0 f = C 40 0 f := fun f => f1 40 0 f (by decide)
  refine wio Z0.1 a38 rfl (by decide) (r_reset Z0.1 (fun x3 h3 C3 R3 hx e25 b0 b8 b11 b20 b21 b12 b13 b14 b15 b166 b287 b288 fr => ⟨Int32.toInt.inj (hy.trans (hx.trans (e40 287)).symm), ?_⟩))
  have Z1 := Z2 (C3 40 0) (fun p hp => b0 p hp) b8 b11 b20 b12 b13 b14 b15 b166 b288
  have rf : RF C2 C3 := fun j i f z1 z2 z3 => fr j i f (by omega) (by omega)
  refine LI_m J Z1.2.1 f1 (fm_of Z1.2.2.2.1 Z1.2.2.2.2 (Or.inl rfl)) Z1.2.2.2.1.two rf (MI_begin (fun p hp => by rw [b0 p hp]; decide) b8 b11 b20 b21 b12 b13 b14 b15 (by rw [b166, b288]; decide) (by rw [b288]; omega) (by omega)) (by rw [b287]; exact Z1.2.2.1) (by rw [b287]; omega) (fun p _ hp => b0 p hp) (fun f z1 z2 => (fr 40 0 f (by omega) (by omega)).trans (e40 f)) R3
theorem lc38 (J : LJ j N zz C P) (R : D h A N zz C P) (hj : j < 512) (p1 : Int32) : vLc38 (A 8 0) (LI (A 8 0) (A 0 0) (A 38 0) (A 90 0) (j + 1)) h (A 0 0) (A 38 0) (A 90 0) p1 := by
  unfold vLc38 vL_keep
  have fm1 := J.mi.fm
  have cu := J.mi.cu
  have ev := J.mi.ev
  have tq := J.tq
  have i3 := J.si.np
  refine wio R a00 rfl (by decide) (q_keep R J.ks J.cp (by omega) J.mi.fz (fun a => Or.inl ⟨rfl, ?_⟩) (fun a b c => Or.inr (⟨rfl, ?_⟩)) (fun a b c y h1 C1 P1 R1 K1 c1 g1 gP1 hk hy => L_out R1 (fun h2 C2 R2 o2 f2 => ?_)))
  · exact wio R a38 rfl (by decide) (r_keep R J.si (fun _ x3 h3 C3 R3 _ e25 fr => L_code R3 (e25.trans (by decide)) (by decide) (LI_s J (RF.c25 fr) (fun f hf => fr 40 0 f (by omega)) R3)) (fun z1 z2 z3 => by exfalso; omega) (fun z1 z2 z3 => by exfalso; omega))
  · exact wio R a38 rfl (by decide) (r_keep R J.si (fun z => by exfalso; omega) (fun _ _ _ x3 h3 C3 R3 _ e25 fr => L_code R3 (e25.trans (by decide)) (by decide) (LI_s J (RF.c25 fr) (fun f hf => fr 40 0 f (by omega)) R3)) (fun z1 z2 z3 => by exfalso; omega))
  · obtain ⟨s, hs⟩ : ∃ s : Nat, p1.toInt = (s : Int) := ⟨p1.toInt.toNat, by omega⟩
    have es : p1.toInt.toNat = s := by omega
    rw [es] at c1 g1 gP1 hk
    have s2 : s < 2 := by omega
    have f1 : ∀ j i f : Nat, 38 ≤ j → C1 j i f = C j i f := fun j i f hj => g1 j i f (fun z => by have := z.2.1; omega) (by omega)
    have hh : Hi C C2 := Hi.o90 f1 f2
    have n19 : C2 38 0 19 = C 38 0 19 := hh 38 19 (by decide) rfl
    have n3 : C2 38 0 3 = C 38 0 3 := hh 38 3 (by decide) rfl
    have e40 : ∀ f, C2 40 0 f = C 40 0 f := fun f => (f2 40 0 f (by decide)).trans (f1 40 0 f (by decide))
    refine wio R2 a38 rfl (by decide) (r_keep R2 (J.I2 hh) (fun z => by exfalso; omega) (fun z1 z2 z3 => by exfalso; omega) (fun z1 z2 z3 x3 h3 C3 R3 hx e25 b0 b1 b2 fr => ?_))
    rw [es] at b0 b1 b2 fr
    refine L_ok R3 e25 (((fr 90 0 0 (by omega) (by omega) (by omega) (by omega)).trans o2).trans (hy.trans (hx.trans (e40 287)).symm)) ?_
    have m40 : ∀ f, f < 289 → C3 40 0 f = C 40 0 f := fun f hf => (fr 40 0 f (by omega) (by omega) (by omega) (by omega)).trans (e40 f)
    have sl1 : ∀ f, f < 289 → sl_ C3 s f = C 40 0 f := fun f hf => (b0 f hf).trans (e40 f)
    have sl9 : sl_ C3 s 289 = C 38 0 3 := b1.trans n3
    have lo : ∀ j i f : Nat, j < 38 → C3 j i f = C1 j i f := fun j i f hj => (fr j i f (by omega) (by omega) (by omega) (by omega)).trans (f2 j i f (by omega))
    have h3h : Hi C C3 := fun j f hj hs => (fr j 0 f (by have := sta_lt hs; omega) (by have := sta_lt hs; omega) (by have := sta_lt hs; omega) (fun z => by rw [z.1] at hs; cases hs)).trans (hh j f hj hs)
    have k19 := h3h 38 19 (by decide) rfl
    have k3 := h3h 38 3 (by decide) rfl
    have k8 := h3h 38 8 (by decide) rfl
    have MC : MI C3 (100 * ((j + 1 : Nat) : Int)) (C 40 0) := J.mi.mv J.si (MV.hi h3h) (Or.inr k19) (by omega)
    have c0 : CP C 0 (C 40 0 287) (C 40 0) C1 P1 := J.cp.go (by omega) (by omega) (fun j i f hm => ⟨g1 j i f (fun z => by have := mP_one hm z; omega) (by have := hm.1; omega), gP1 j i f (fun z => by have := mP_one hm z; omega)⟩) (fun _ _ => rfl) (fun z => z)
    refine ⟨A, N, zz, C3, P1, rfl, rfl, rfl, rfl, R3, J.si.Hi_ h3h, (K1.fr (fun j i f hj => lo j i f (by omega)) (fun _ _ _ _ => rfl)).Hi_ h3h, MC.c9 (fun f _ hf => m40 f hf) (fun p hp => by rw [m40 p (by omega)]; exact J.mi.va p hp), ?_, by rw [m40 287 (by decide)]; omega, fun p y1 y2 => by rw [m40 p (by omega)]; exact J.vz p (by omega) y2, fun c' y1 y2 => by rw [h3h 45 c' (by decide) rfl]; exact J.cz c' (by omega) y2, fun s' hs' => ?_, fun s' hs' hk' => ?_⟩
    · rw [m40 287 (by decide)]
      exact c0.go (by omega) (by omega) (fun j i f hm => ⟨lo j i f (by have := hm.2.1; omega), rfl⟩) (fun f hf => m40 f hf) (fun _ => c)
    · by_cases y : s' = s
      · rw [y, b2, lo 2 0 s (by decide), hk]; exact ⟨rfl, Or.inr rfl⟩
      · have q1 : C3 2 0 s' = C 2 0 s' := (lo 2 0 s' (by decide)).trans (g1 2 0 s' (fun z => by have := z.1; omega) (by omega))
        have q2 : C3 41 0 s' = C 41 0 s' := (fr 41 0 s' (by omega) (by omega) (by omega) (by omega)).trans ((f2 41 0 s' (by decide)).trans (f1 41 0 s' (by decide)))
        rw [q1, q2]; exact J.im s' hs'
    · by_cases y : s' = s
      · subst y
        refine ⟨by omega, MC.c9 (fun f _ hf => sl1 f hf) (fun p hp => by rw [sl1 p (by omega)]; exact J.mi.va p hp), ?_, by rw [sl1 287 (by decide)]; omega, by rw [sl9]; omega, fun p hp y1 => by rw [sl1 p (by omega)]; exact J.vz p (by omega) hp⟩
        rw [sl1 287 (by decide)]
        exact c1.go (by omega) (by omega) (fun j i f hm => ⟨lo j i f (by have := hm.2.1; omega), rfl⟩) (fun f hf => sl1 f hf) (fun _ => c)
      · have q2 : C3 41 0 s' = C 41 0 s' := (fr 41 0 s' (by omega) (by omega) (by omega) (by omega)).trans ((f2 41 0 s' (by decide)).trans (f1 41 0 s' (by decide)))
        refine (J.ik s' hs' (by rw [← q2]; exact hk')).mv J.si (MV.hi h3h) (by omega) (fun f hf => (fr 40 0 _ (by omega) (by omega) (by omega) (by omega)).trans (e40 _)) (fun j i f hm => ⟨(lo j i f (by have := hm.2.1; omega)).trans (g1 j i f (fun z => by have := mP_one hm z; omega) (by have := hm.1; omega)), gP1 j i f (fun z => by have := mP_one hm z; omega)⟩)
theorem lc39 (J : LJ j N zz C P) (R : D h A N zz C P) (hj : j < 512) (p1 : Int32) : vLc39 (A 8 0) (LI (A 8 0) (A 0 0) (A 38 0) (A 90 0) (j + 1)) h (A 0 0) (A 38 0) (A 90 0) p1 := by
  unfold vLc39 vL_restore
  have i3 := J.si.np
  have im := J.im
  have JC : ∀ s : Nat, s < 2 → C 2 0 s = 1 → CP C (s + 1) (sl_ C s 287) (sl_ C s) C P ∧ sl_ C s 21 ≤ 24 ∧ (sl_ C s 20 = 0 ∨ sl_ C s 20 = 1) := fun s hs hk => by
    obtain ⟨q1, q2, q3, -⟩ := J.ik s hs (by rw [← (im s hs).1]; exact hk)
    have := q2.fm
    have := q2.cu
    exact ⟨q3, by omega, q2.fz⟩
  have HB : ∀ s : Nat, s < 2 → C 41 0 s = 1 → 0 ≤ C 40 0 (290 + 290 * s + 289) ∧ C 40 0 (290 + 290 * s + 289) ≤ 8 := fun s hs hk => by
    obtain ⟨q1, q2, q3, q4, q5, q6⟩ := J.ik s hs hk
    have q5 : 0 ≤ C 40 0 (290 + 290 * s + 289) ∧ C 40 0 (290 + 290 * s + 289) ≤ C 38 0 3 := q5
    omega
  refine wio R a00 rfl (by decide) (q_restore (tqs := fun s => sl_ C s 287) (Ms := fun s => sl_ C s) R J.ks (fun s hs => by rw [(im s hs).1]; exact (im s hs).2) JC (fun a => Or.inl ⟨rfl, ?_⟩) (fun a b c => Or.inr (⟨rfl, ?_⟩)) (fun a b c y h1 C1 P1 Z1 hy => L_out Z1.1 (fun h2 C2 R2 o2 f2 => ?_)))
  · exact wio R a38 rfl (by decide) (r_restore R HB (fun s hs => (im s hs).2) (fun _ x3 h3 C3 R3 _ e25 fr => L_code R3 (e25.trans (by decide)) (by decide) (LI_s J (RF.c25 fr) (fun f hf => fr 40 0 f (by omega)) R3)) (fun z1 z2 z3 => by exfalso; omega) (fun z1 z2 z3 => by exfalso; omega))
  · have im1 := (im p1.toInt.toNat (by omega)).1
    exact wio R a38 rfl (by decide) (r_restore R HB (fun s hs => (im s hs).2) (fun z => by exfalso; omega) (fun _ _ _ x3 h3 C3 R3 _ e25 fr => L_code R3 (e25.trans (by decide)) (by decide) (LI_s J (RF.c25 fr) (fun f hf => fr 40 0 f (by omega)) R3)) (fun z1 z2 z3 => by exfalso; omega))
  · have im1 := (im p1.toInt.toNat (by omega)).1
    obtain ⟨s, hs⟩ : ∃ s : Nat, p1.toInt = (s : Int) := ⟨p1.toInt.toNat, by omega⟩
    have es : p1.toInt.toNat = s := by omega
    rw [es] at Z1 hy c im1
    have s2 : s < 2 := by omega
    have k41 : C 41 0 s = 1 := by omega
    obtain ⟨q1, q2, q3, q4, q5, q6⟩ := J.ik s s2 k41
    have f1 := Z1.2.2.2.1.hi
    have hh : Hi C C2 := Hi.o90 f1 f2
    have e40 : ∀ f, C2 40 0 f = C 40 0 f := fun f => (f2 40 0 f (by decide)).trans (f1 40 0 f (by decide))
    have e41 : ∀ f, C2 41 0 f = C 41 0 f := fun f => (f2 41 0 f (by decide)).trans (f1 41 0 f (by decide))
    refine wio R2 a38 rfl (by decide) (r_restore R2 (fun s hs hk => by rw [e40]; exact HB s hs (by rw [← e41]; exact hk)) (fun s hs => by rw [e41]; exact (im s hs).2) (fun z => by exfalso; omega) (fun z1 z2 z3 => by rw [es, e41] at z3; exfalso; omega) (fun z1 z2 z3 x3 h3 C3 R3 hx e25 b0 b1 fr => ?_))
    rw [es] at hx b0 b1
    refine L_ok R3 e25 (((fr 90 0 0 (by omega) (by omega)).trans o2).trans (hy.trans (hx.trans (e40 _)).symm)) ?_
    have em : ∀ f, f < 290 → C3 40 0 f = sl_ C s f := fun f hf => by
      by_cases z : f < 8 ∧ C2 40 0 (290 + 290 * s + 289) ≤ f
      · rw [b1 f z.1 z.2]
        exact (q6 f z.1 (by have := z.2; rw [e40] at this; exact this)).symm
      · exact (b0 f hf z).trans (e40 _)
    have rf : RF C1 C3 := (RF.o90 f2).tr (fun j i f z1 z2 z3 => fr j i f (by omega) (by omega))
    have h3h : Hi C C3 := fun j f hj hs => (rf.hi j f hj hs).trans (f1 j 0 f hj)
    have fm2 := q2.fm
    have cu2 := q2.cu
    have ev2 := q2.ev
    refine LI_m J Z1.2.1 f1 (fm_of Z1.2.2.2.1 Z1.2.2.2.2 (Or.inl rfl)) Z1.2.2.2.1.two rf ((q2.mv J.si (MV.hi h3h) (Or.inr (h3h 38 19 (by decide) rfl)) (by omega)).cong (fun f _ hf => em f hf) (fun p hp => by rw [em p (by omega)]; exact q2.va p hp)) ?_ (by rw [em 287 (by decide)]; omega) (fun p y1 y2 => by rw [em p (by omega)]; exact q6 p y2 (by omega)) (fun f y1 y2 => (fr 40 0 f (by omega) (by omega)).trans (e40 f)) R3
    rw [em 287 (by decide)]
    exact Z1.2.2.1.cong (by omega) (by omega) (fun f hf => em f (by omega))
end LQM
