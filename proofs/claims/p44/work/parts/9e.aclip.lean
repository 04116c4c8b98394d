/-! ===== the class: a clip is added ===== -/
section AC
variable {h : gH} {A : dA} {N zz : Nat → Nat} {S C : dC} {P : dP} {t0 n : Nat}
theorem q_addClip {Qn : Int32 → gH → Prop} {Qx : String → gH → Prop} {v : Int32} (R : D h A N zz C P) (K : KS S N zz C P) (ht : A 8 0 = t0) (hn : S 38 0 8 = (n : Int)) (kx : v.toInt < 1 ∨ 500 < v.toInt → Qx "java/lang/IllegalArgumentException" h) (ky : 1 ≤ v.toInt → v.toInt ≤ 500 → 12 ≤ n → Qx "java/lang/IllegalStateException" h)
  (k0 : 1 ≤ v.toInt → v.toInt ≤ 500 → n < 12 → ∀ (x : Int32) (A1 : dA) (h' : gH) (N1 zz1 : Nat → Nat) (C1 : dC) (P1 : dP) (a1 : Nat), (∀ j i, ac N j i → A1 j i = A j i) → D h' A1 N1 zz1 C1 P1 → (∀ x, x ≠ 4 → N1 x = upN N 0 x) → N 4 ≤ N1 4 → (∀ b, b < N 4 → zz1 b = zz b) → (∀ j i f : Nat, ¬ (9 ≤ j ∧ j ≤ 11 ∧ i = n + 1) → ¬ (j = 6 ∧ i = 0 ∧ (f = 0 ∨ f = 2)) → C1 j i f = C j i f) → C1 6 0 2 = (n : Int) + 1 → (C1 9 (n + 1) 0 = (n : Int) ∧ C1 9 (n + 1) 1 = v.toInt ∧ C1 9 (n + 1) 4 = 0) → P1 6 0 1 = some (7, a1) → (a1 < N1 4 ∧ n < zz1 a1 ∧ zz1 a1 ≤ 40) → (P 6 0 1 = some (7, a1) ∨ a1 = N 4) → P1 7 a1 n = some (9, n + 1) → (∀ a f, P 6 0 1 = some (7, a) → f < n → P1 7 a1 f = P 7 a f) → (∀ j i f : Nat, ¬ (9 ≤ j ∧ j ≤ 11 ∧ i = n + 1) → ¬ (j = 6 ∧ i = 0 ∧ f = 1) → ¬ (j = 7 ∧ i = a1) → P1 j i f = P j i f) → x.toInt = (n : Int) → Qn x h') : vX11_addClip t0 Qn Qx h (A 0 0) v := by
  have sz := K.sz
  have n0 := K.nn
  have nI : N 0 = n := by omega
  unfold vX11_addClip vX11_addClip_b12
  refine clt32 rfl (vl (by decide)) (fun z => kx (Or.inl z)) (fun z => cle32 rfl (vl (by decide)) (fun y => ?_) (fun y => kx (Or.inr (by omega))))
  have k0 := k0 (by omega) y
  refine g_mdl R (nn_i (m_cls R (nn_i (wio R (j := 6) (i := 0) (show 0 < N 1 + 5 by omega) rfl (by decide) (ysize R (show 0 < N 1 + 5 by omega) (fun x6 h6 => clt32 h6 (vl (by decide)) (fun w => ?_) (fun w => ky (by omega) y (by omega))))))))
  have k0 := k0 (by omega)
  refine g_mdl R (nn_i (m_cls R ?_))
  refine c_newClip R (fun A1 h1 e1 D1 R1 => ?_)
  rw [nI] at D1 R1 ⊢
  have nac : ∀ j i, ac N j i → ¬ (9 ≤ j ∧ j ≤ 11 ∧ i = n + 1) := fun j i a z => by
    have : j = 9 ∨ j = 10 ∨ j = 11 := by omega
    have b : i < N 0 + 1 := by rcases this with rfl | rfl | rfl <;> exact a
    omega
  have c1 : ∀ j i f : Nat, ¬ (j = 9 ∧ i = n + 1) → zC C 9 (n + 1) j i f = C j i f := fun j i f hj => by rw [zC_off _ hj]
  have c19 : zC C 9 (n + 1) 9 (n + 1) 4 = 0 := by rw [zC_on]
  have p1 : ∀ j i f : Nat, ¬ (j = 9 ∧ i = n + 1) → nP P 9 (n + 1) j i f = P j i f := fun j i f hj => by rw [nP_off _ hj]
  generalize zC C 9 (n + 1) = C1 at *
  generalize nP P 9 (n + 1) = P1 at *
  have a00' := e1 0 0 a00
  have a60' := e1 6 0 (show 0 < N 1 + 5 by omega)
  rw [← a00', ← a60']
  refine g_mdl D1 (nn_i (m_cls D1 (nn_i (wio D1 (j := 6) (i := 0) (show 0 < N 1 + 5 by omega) rfl (by decide) (ysize D1 (show 0 < N 1 + 5 by omega) (fun x17 h17 => ?_))))))
  rw [c1 6 0 2 (by omega)] at h17
  have S1 : Sp (ac N) P1 := D1.2
  have hI : N 0 + 1 = n + 1 := by omega
  rw [← hI]
  rw [← hI] at R1
  refine c_initClip (a := (n : Int)) (b := v.toInt) S1 (fun j i a => by rw [hI]; exact nac j i a) R1 (h17.trans (by omega)) rfl (by rw [hI]; exact c19) (fun A2 h2 C2 P2 e2 D2 c2 p2 g0 g1 g4 => ?_)
  rw [hI] at e2 c2 p2 g0 g1 g4
  have b00 : A2 0 0 = A1 0 0 := e2 0 0 (by omega)
  have b60 : A2 6 0 = A1 6 0 := e2 6 0 (by omega)
  have b9 : A2 9 (n + 1) = A1 9 (n + 1) := e2 9 (n + 1) (by omega)
  rw [hI, ← b00, ← b60, ← b9]
  have u1 : ∀ x, x ≠ 0 → upN N 0 x = N x := fun x hx => if_neg hx
  have u0 : upN N 0 0 = N 0 + 1 := if_pos rfl
  have cc : ∀ j i f : Nat, ¬ (9 ≤ j ∧ j ≤ 11 ∧ i = n + 1) → C2 j i f = C j i f := fun j i f hj => by rw [c2 j i f hj, c1 j i f (by omega)]
  have pp : ∀ j i f : Nat, ¬ (9 ≤ j ∧ j ≤ 11 ∧ i = n + 1) → P2 j i f = P j i f := fun j i f hj => by rw [p2 j i f hj, p1 j i f (by omega)]
  have acE : ∀ j i, ac N j i → A2 j i = A j i := fun j i a => (e2 j i (fun z => nac j i a (by omega))).trans (e1 j i a)
  have ni : 0 < upN N 0 1 + 5 := by omega
  refine nn_i (wio D2 (j := 6) (i := 0) ni rfl (by decide) ?_)
  refine c_ladd (n := n) D2 ((acE 8 0 ⟨Nat.one_pos, by decide⟩).trans ht) ni ((cc 6 0 2 (by omega)).trans (sz.1.trans hn)) (by omega) ?_ ?_ (show n + 1 < upN N 0 0 + 1 by omega) (Or.inl rfl) (fun A3 h3 N3 z3 C3 P3 a3 e3 D3 f1 f2 f3 f4 f5 f6 f7 f8 f9 f10 f11 => ?_)
  · have u4 := u1 4 (by decide)
    rcases K.ar 0 (by omega) with q | q
    · exact Or.inl ⟨by omega, (pp 6 0 1 (by omega)).trans q.2⟩
    · refine Or.inr ?_
      obtain ⟨a, q1, q2, q3, q4, q5, q6⟩ := q
      exact ⟨a, (pp 6 0 1 (by omega)).trans q1, by omega, by omega, q5, q6⟩
  · intro a ha f q hf hq
    rw [pp 6 0 1 (by omega)] at ha
    rw [pp 7 a f (by omega), K.e0 a f ha (by omega)] at hq
    cases hq
    exact Or.inl rfl
  · have d00 : A3 0 0 = A2 0 0 := e3 0 0 a00
    rw [← d00]
    have u4 := u1 4 (by decide)
    have i1 : 0 < N3 1 + 5 := by omega
    refine g_mdl D3 (nn_i (m_cls D3 (nn_i (wio D3 (j := 6) (i := 0) i1 rfl (by decide) (ysize D3 i1 (fun x27 h27 => ?_))))))
    rw [f5] at h27
    refine k0 _ A3 h3 N3 z3 C3 P3 a3 (fun j i a => (e3 j i ((ac_clip N j i).mpr (Or.inl (Or.inl (Or.inl a))))).trans (acE j i a)) D3 f1 (by omega) (fun b hb => f3 b (by omega)) (fun j i f hj hk => ?_) f5 ⟨?_, ?_, ?_⟩ f6 f7 ?_ f9 (fun a f hp hf => ?_) (fun j i f x1 x2 x3 => ?_) ((sub_ti h27 (vl (by decide)) (by omega)).trans (by omega))
    · rw [f4 j i f hk]; exact cc j i f hj
    · rw [f4 _ _ _ (by omega)]; exact g0
    · rw [f4 _ _ _ (by omega)]; exact g1
    · rw [f4 _ _ _ (by omega)]; exact g4
    · rw [pp 6 0 1 (by omega), u4] at f8; exact f8
    · rw [f10 a f ((pp 6 0 1 (by omega)).trans hp) hf]; exact pp 7 a f (by omega)
    · rw [f11 j i f x2 x3]; exact pp j i f x1
end AC
