/-! ===== the class: a state is added ===== -/
section AS2
variable {h : gH} {A : dA} {N zz : Nat → Nat} {S C : dC} {P : dP} {t0 n m : Nat}
theorem c_complete {Qn : Int32 → gH → Prop} (R : D h A N zz C P) (K : KS S N zz C P) (hm : (m : Int) < S 38 0 14) (k1 : S 49 0 m ≠ -1 ∨ S 51 0 m ≠ 0 → Qn 1 h) (k0 : S 49 0 m = -1 → S 51 0 m = 0 → Qn 0 h) : vX5_isComplete t0 Qn h (A 12 (m + 1)) := by
  have n0 := K.nn
  have a12 : ac N 12 (m + 1) := show m + 1 < N 1 + 1 by omega
  have a6 : m + 5 < N 1 + 5 := by omega
  have nd := K.nd m (by omega)
  have sc := K.szc m (by omega)
  unfold vX5_isComplete vX5_isComplete_b17 vX5_isComplete_b22
  by_cases z : S 49 0 m = -1
  · refine ygn R a12 rfl (nd.1 z).1 ⟨fun _ => ?_, fun a y => by cases y⟩
    refine wgrs R a12 rfl (show dS 12 (m + 1) 2 = some (6, m + 5) from rfl) (nn_i (wio R (j := 6) (i := m + 5) a6 rfl (by decide) (yempty R a6 (fun e => ?_) (fun e => ?_))))
    · exact ⟨fun _ => ⟨gZ_of (by decide), k0 z (by omega)⟩, fun q => absurd q (by decide)⟩
    · exact ⟨fun q => absurd rfl q, fun _ => ⟨gZ_of (by decide), k1 (Or.inr (by omega))⟩⟩
  · exact ygr R a12 rfl (nd.2 z) ⟨fun y => (by cases y), fun a _ => ⟨gZ_of (by decide), k1 (Or.inl z)⟩⟩
/-- what is so once a state was added -/
def SAd (n m : Nat) (b c d : Int) (A : dA) (N zz : Nat → Nat) (C : dC) (P : dP) (A1 : dA) (N1 zz1 : Nat → Nat) (C1 : dC) (P1 : dP) (a1 : Nat) : Prop :=
  (∀ j i, ac N j i → A1 j i = A j i) ∧ (∀ x, x ≠ 4 → N1 x = upN N 2 x) ∧
  (∀ j i f : Nat, j < 21 → ¬ (j = 14 ∧ i = n + 1 ∨ j = 6 ∧ i = 2 ∧ (f = 0 ∨ f = 2)) → C1 j i f = C j i f) ∧
  (∀ j i f : Nat, j < 21 → ¬ (j = 14 ∧ i = n + 1 ∨ j = 6 ∧ i = 2 ∧ f = 1 ∨ j = 7 ∧ i = a1) → P1 j i f = P j i f) ∧
  LA 2 n (14, n + 1) N zz P N1 zz1 C1 P1 a1 ∧
  (C1 14 (n + 1) 0 = (n : Int) ∧ P1 14 (n + 1) 1 = some (12, m + 1) ∧ C1 14 (n + 1) 2 = b ∧ C1 14 (n + 1) 3 = c ∧ C1 14 (n + 1) 4 = d)
/-- the machine begins in state 0 -/
def SBg (C : dC) (P : dP) (C1 : dC) (P1 : dP) : Prop :=
  (∀ j i f : Nat, 21 ≤ j → ¬ ((j = 23 ∨ j = 24) ∧ i = 0 ∧ 1 ≤ f ∧ f ≤ 5) → ¬ (j = 21 ∧ i = 0 ∧ (f = 5 ∨ f = 6 ∨ f = 8)) → C1 j i f = C j i f) ∧
  (∀ j i f : Nat, 21 ≤ j → ¬ ((j = 23 ∨ j = 24) ∧ i = 0 ∧ f = 0) → ¬ (j = 21 ∧ i = 0 ∧ f = 4) → P1 j i f = P j i f) ∧
  (C1 23 0 1 = 0 ∧ C1 23 0 2 = 0 ∧ C1 23 0 3 = 1 ∧ C1 23 0 5 = 1 ∧ C1 24 0 3 = 1 ∧ C1 24 0 5 = 1) ∧ (C1 21 0 6 = 0 ∧ C1 21 0 8 = 0) ∧ P1 23 0 0 = some (14, 1) ∧ P1 21 0 4 = none
theorem q_addState {Qn : Int32 → gH → Prop} {Qx : String → gH → Prop} {v v2 v3 v4 : Int32} (R : D h A N zz C P) (K : KS S N zz C P) (ht : A 8 0 = t0) (hn : S 38 0 19 = (n : Int)) (h10 : n ≤ 10) (hl : v3.toInt = 0 ∨ v3.toInt = 1) (kx : v.toInt < 0 ∨ S 38 0 14 ≤ v.toInt → Qx "java/lang/IndexOutOfBoundsException" h) (ky : 0 ≤ v.toInt → v.toInt < S 38 0 14 → (v2.toInt < 1 ∨ 400 < v2.toInt ∨ v4.toInt < 0 ∨ 3 < v4.toInt) → Qx "java/lang/IllegalArgumentException" h)
  (kz : 0 ≤ v.toInt → v.toInt < S 38 0 14 → 1 ≤ v2.toInt → v2.toInt ≤ 400 → 0 ≤ v4.toInt → v4.toInt ≤ 3 → ((S 49 0 v.toInt.toNat = -1 ∧ S 51 0 v.toInt.toNat = 0) ∨ 10 ≤ n) → Qx "java/lang/IllegalStateException" h)
  (k0 : 0 ≤ v.toInt → v.toInt < S 38 0 14 → 1 ≤ v2.toInt → v2.toInt ≤ 400 → 0 ≤ v4.toInt → v4.toInt ≤ 3 → (S 49 0 v.toInt.toNat ≠ -1 ∨ S 51 0 v.toInt.toNat ≠ 0) → n < 10 → ∀ (x : Int32) (A1 : dA) (h' : gH) (N1 zz1 : Nat → Nat) (C1 : dC) (P1 : dP) (a1 : Nat), D h' A1 N1 zz1 C1 P1 → SAd n v.toInt.toNat v2.toInt v3.toInt v4.toInt A N zz C P A1 N1 zz1 C1 P1 a1 → (n ≠ 0 → ∀ j i f : Nat, 21 ≤ j → C1 j i f = C j i f ∧ P1 j i f = P j i f) → (n = 0 → SBg C P C1 P1) → x.toInt = (n : Int) → Qn x h') : vX11_addState t0 Qn Qx h (A 0 0) v v2 v3 v4 := by
  have sz := K.sz
  have n0 := K.nn
  have nI : N 2 = n := by omega
  unfold vX11_addState vX11_addState_b30 vX11_addState_b63
  refine i00 R (q_node R K kx (fun m hv hm => ?_))
  have e : v.toInt.toNat = m := by omega
  rw [e] at k0 kz
  refine clt32 rfl (vl (by decide)) (fun z => ky (by omega) (by omega) (Or.inl z)) (fun z1 => clt32 (vl (by decide)) rfl (fun z => ky (by omega) (by omega) (Or.inr (Or.inl z))) (fun z2 => clt32 rfl (vl (by decide)) (fun z => ky (by omega) (by omega) (Or.inr (Or.inr (Or.inl z)))) (fun z3 => cle32 rfl (vl (by decide)) (fun z4 => ?_) (fun z => ky (by omega) (by omega) (Or.inr (Or.inr (Or.inr (by omega))))))))
  have k0 := k0 (by omega) (by omega) (by omega) (by omega) (by omega) z4
  have kz := kz (by omega) (by omega) (by omega) (by omega) (by omega) z4
  have am : ac N 12 (m + 1) := show m + 1 < N 1 + 1 by omega
  refine nn_i (wio R (j := 12) (i := m + 1) am rfl (by decide) (c_complete R K hm (fun cm => yes1 ?_) (fun e1 e2 => no1 (kz (Or.inl ⟨e1, e2⟩)))))
  have k0 := k0 cm
  have i2 : 2 < N 1 + 5 := by omega
  refine g_mdl R (nn_i (m_sts R (nn_i (wio R (j := 6) (i := 2) i2 rfl (by decide) (ysize R i2 (fun x6 h6 => clt32 h6 (vl (by decide)) (fun w => ?_) (fun w => kz (Or.inr (by omega)))))))))
  have k0 := k0 (by omega)
  have n14 : ¬ ac N 14 (N 2 + 1) := fun z => by
    have z : N 2 + 1 < N 2 + 1 := z
    omega
  refine c_newO 14 (N 2 + 1) R n14 (fun A1 => cell_state A1 _) (fun A1 h1 e1 D1 R1 => ?_)
  have nac : ∀ j i, ac N j i → ¬ (j = 14 ∧ i = N 2 + 1) := fun j i a z => n14 (by rw [← z.1, ← z.2]; exact a)
  have c1 : ∀ j i f : Nat, ¬ (j = 14 ∧ i = N 2 + 1) → zC C 14 (N 2 + 1) j i f = C j i f := fun j i f hj => by rw [zC_off _ hj]
  have p1 : ∀ j i f : Nat, ¬ (j = 14 ∧ i = N 2 + 1) → nP P 14 (N 2 + 1) j i f = P j i f := fun j i f hj => by rw [nP_off _ hj]
  generalize zC C 14 (N 2 + 1) = C1 at *
  generalize nP P 14 (N 2 + 1) = P1 at *
  have a00' := e1 0 0 a00
  have am' := e1 12 (m + 1) am
  rw [← a00', ← am']
  refine g_mdl D1 (nn_i (m_sts D1 (nn_i (wio D1 (j := 6) (i := 2) i2 rfl (by decide) (ysize D1 i2 (fun x19 h19 => ?_))))))
  rw [c1 6 2 2 (by omega)] at h19
  have S1 : Sp (ac N) P1 := D1.2
  have r0 : A1 14 (N 2 + 1) = A1 14 (N 2 + 1) := rfl
  refine c_initState (a := (n : Int)) (b := v2.toInt) (c := v3.toInt) (d := v4.toInt) S1 nac R1 am (by omega) rfl rfl hl rfl (fun h2 C2 P2 D2 c2 p2 g => ?_)
  rw [nI] at c2 p2 g c1 p1
  rw [nI]
  have u1 : ∀ x, x ≠ 2 → upN N 2 x = N x := fun x hx => if_neg hx
  have u0 : upN N 2 2 = N 2 + 1 := if_pos rfl
  have u4 := u1 4 (by decide)
  have u11 := u1 1 (by decide)
  have cc : ∀ j i f : Nat, ¬ (j = 14 ∧ i = n + 1) → C2 j i f = C j i f := fun j i f hj => by rw [c2 j i f hj, c1 j i f hj]
  have pp : ∀ j i f : Nat, ¬ (j = 14 ∧ i = n + 1) → P2 j i f = P j i f := fun j i f hj => by rw [p2 j i f hj, p1 j i f hj]
  have ni : 2 < upN N 2 1 + 5 := by omega
  refine g_mdl D2 (nn_i (m_sts D2 (nn_i (wio D2 (j := 6) (i := 2) ni rfl (by decide) ?_))))
  refine c_ladd (n := n) D2 ((e1 8 0 ⟨Nat.one_pos, by decide⟩).trans ht) ni ((cc 6 2 2 (by omega)).trans (sz.2.2.1.trans hn)) (by omega) ?_ ?_ (show n + 1 < upN N 2 2 + 1 by omega) (Or.inr (Or.inr (Or.inl rfl))) (fun A3 h3 N3 z3 C3 P3 a3 e3 D3 f1 f2 f3 f4 f5 f6 f7 f8 f9 f10 f11 => ?_)
  · rcases K.ar 2 (by omega) with q | q
    · exact Or.inl ⟨by omega, (pp 6 2 1 (by omega)).trans q.2⟩
    · refine Or.inr ?_
      obtain ⟨a, q1, q2, q3, q4, q5, q6⟩ := q
      exact ⟨a, (pp 6 2 1 (by omega)).trans q1, by omega, by omega, q5, q6⟩
  · intro a ha f q hf hq
    rw [pp 6 2 1 (by omega)] at ha
    rw [pp 7 a f (by omega), K.e2 a f ha (by omega)] at hq
    cases hq
    exact Or.inr (Or.inr (Or.inl rfl))
  · have d00 : A3 0 0 = A1 0 0 := e3 0 0 a00
    have d14 : A3 14 (n + 1) = A1 14 (n + 1) := e3 14 (n + 1) (show n + 1 < upN N 2 2 + 1 by omega)
    rw [← d00, ← d14]
    have f12 := f1 2 (by decide)
    have f11' := f1 1 (by decide)
    have i1 : 2 < N3 1 + 5 := by omega
    have a14 : ac N3 14 (n + 1) := show n + 1 < N3 2 + 1 by omega
    have SA : SAd n m v2.toInt v3.toInt v4.toInt A N zz C P A3 N3 z3 C3 P3 a3 := by
      refine ⟨fun j i a => (e3 j i ((ac_state N j i).mpr (Or.inl a))).trans (e1 j i a), f1, fun j i f _ hj => ?_, fun j i f _ hj => ?_, ⟨⟨f5, f6, f7, ?_, by omega, fun b hb => f3 b (by omega)⟩, f9, fun a f hp hf => ?_⟩, ?_⟩
      · rw [f4 j i f (by omega)]; exact cc j i f (by omega)
      · rw [f11 j i f (by omega) (by omega)]; exact pp j i f (by omega)
      · rw [pp 6 2 1 (by omega), u4] at f8; exact f8
      · rw [f10 a f ((pp 6 2 1 (by omega)).trans hp) hf]; exact pp 7 a f (by omega)
      · rw [f4 _ _ _ (by omega), f4 _ _ _ (by omega), f4 _ _ _ (by omega), f4 _ _ _ (by omega), f11 _ _ _ (by omega) (by omega)]; exact g
    have hi : ∀ j i f : Nat, 21 ≤ j → C3 j i f = C j i f ∧ P3 j i f = P j i f := fun j i f hj => ⟨by rw [f4 j i f (by omega)]; exact cc j i f (by omega), by rw [f11 j i f (by omega) (by omega)]; exact pp j i f (by omega)⟩
    have g0 : C3 14 (n + 1) 0 = (n : Int) := SA.2.2.2.2.2.1
    refine g_mdl D3 (nn_i (m_sts D3 (nn_i (wio D3 (j := 6) (i := 2) i1 rfl (by decide) (ysize D3 i1 (fun x32 h32 => ?_))))))
    rw [f5] at h32
    unfold vX11_addState_b134
    refine cne32 h32 (vl (by decide)) (fun z => ?_) (fun z => ?_)
    · exact nn_i (ygi D3 a14 rfl g0 (fun x hx => k0 x A3 h3 N3 z3 C3 P3 a3 D3 SA (fun _ => hi) (fun y => by omega) hx))
    · have zn : n = 0 := by omega
      subst zn
      refine g_mac D3 (nn_i (iom (by decide) D3 (c_beginIn (by decide) D3 a14 (fun h4 C4 P4 D4 b1 b2 b3 b4 b5 b6 => ?_))))
      have SA4 : SAd 0 m v2.toInt v3.toInt v4.toInt A N zz C P A3 N3 z3 C4 P4 a3 := by
        obtain ⟨s1, s2, s3, s4, ⟨⟨s5, s6, s7, s8, s9, s10⟩, s11, s12⟩, s13⟩ := SA
        refine ⟨s1, s2, fun j i f hj hk => ?_, fun j i f hj hk => ?_, ⟨⟨?_, ?_, s7, s8, s9, s10⟩, ?_, fun a f hp hf => ?_⟩, ?_⟩
        · rw [b1 j i f (by omega) (by omega)]; exact s3 j i f hj hk
        · rw [b2 j i f (by omega) (by omega)]; exact s4 j i f hj hk
        · rw [b1 _ _ _ (by omega) (by omega)]; exact s5
        · rw [b2 _ _ _ (by omega) (by omega)]; exact s6
        · rw [b2 _ _ _ (by omega) (by omega)]; exact s11
        · rw [b2 _ _ _ (by omega) (by omega)]; exact s12 a f hp hf
        · rw [b1 _ _ _ (by omega) (by omega), b1 _ _ _ (by omega) (by omega), b1 _ _ _ (by omega) (by omega), b1 _ _ _ (by omega) (by omega), b2 _ _ _ (by omega) (by omega)]; exact s13
      refine nn_i (ygi D4 a14 rfl (v := ((0 : Nat) : Int)) ?_ (fun x hx => k0 x A3 h4 N3 z3 C4 P4 a3 D4 SA4 (fun y => absurd rfl y) (fun _ => ⟨fun j i f hj x1 x2 => ?_, fun j i f hj x1 x2 => ?_, b3, b4, b5, b6⟩) hx))
      · rw [b1 _ _ _ (by omega) (by omega)]; exact g0
      · rw [b1 j i f x1 x2]; exact (hi j i f hj).1
      · rw [b2 j i f x1 x2]; exact (hi j i f hj).2
end AS2
