/-! ===== the class: a transition is added ===== -/
section AT2
variable {h : gH} {A : dA} {N zz : Nat → Nat} {S C : dC} {P : dP} {t0 n m : Nat}
/-- what is so once a transition was added -/
def TAd (n : Nat) (A : dA) (N zz : Nat → Nat) (C : dC) (P : dP) (A1 : dA) (N1 zz1 : Nat → Nat) (C1 : dC) (P1 : dP) (a1 : Nat) : Prop :=
  (∀ j i, ac N j i → A1 j i = A j i) ∧ (∀ x, x ≠ 4 → N1 x = upN N 3 x) ∧
  (∀ j i f : Nat, ¬ (15 ≤ j ∧ j ≤ 18 ∧ i = n + 1 ∨ j = 6 ∧ i = 3 ∧ (f = 0 ∨ f = 2)) → C1 j i f = C j i f) ∧
  (∀ j i f : Nat, ¬ (15 ≤ j ∧ j ≤ 18 ∧ i = n + 1 ∨ j = 6 ∧ i = 3 ∧ f = 1 ∨ j = 7 ∧ i = a1) → P1 j i f = P j i f) ∧
  LA 3 n (15, n + 1) N zz P N1 zz1 C1 P1 a1 ∧ C1 15 (n + 1) 0 = (n : Int)
/-- a new transition object -/
theorem c_newT {K : Nat → gH → Prop} (R : D h A N zz C P) (hn : N 3 = n) (k0 : ∀ (A1 : dA) (h1 : gH) (C1 : dC) (P1 : dP), (∀ j i, ac N j i → A1 j i = A j i) → D h1 A1 N zz C1 P1 → HR h1 A1 (fun j i => ac N j i ∨ (j = 15 ∧ i = N 3 + 1)) zz C1 P1 → (∀ j i f : Nat, ¬ (j = 15 ∧ i = n + 1) → C1 j i f = C j i f) → (∀ j i f : Nat, ¬ (j = 15 ∧ i = n + 1) → P1 j i f = P j i f) → K (A1 15 (N 3 + 1)) h1) : nw h (.inr (12, [.int 0, .null, .null, .int 0, .int 0, .int 0, .int 0, .int 0, .null, .null, .null, .int 0])) K := by
  have n15 : ¬ ac N 15 (N 3 + 1) := fun z => by
    have z : N 3 + 1 < N 3 + 1 := z
    omega
  refine c_newO 15 (N 3 + 1) R n15 (fun A1 => cell_trans A1 _) (fun A1 h1 e1 D1 R1 => k0 A1 h1 _ _ e1 D1 R1 (fun j i f hj => ?_) (fun j i f hj => ?_))
  · rw [zC_off _ (by omega)]
  · rw [nP_off _ (by omega)]
theorem nac15 (hn : N 3 = n) : ∀ j i, ac N j i → ¬ (15 ≤ j ∧ j ≤ 18 ∧ i = N 3 + 1) := fun j i a z => by
  have : j = 15 ∨ j = 16 ∨ j = 17 ∨ j = 18 := by omega
  have b : i < N 3 + 1 := by rcases this with rfl | rfl | rfl | rfl <;> exact a
  omega
/-- a transition goes into the list -/
theorem c_putT {Qn : Int32 → gH → Prop} {C0 : dC} {P0 : dP} {A0 : dA} (K : KS S N zz C0 P0) (ht : A0 8 0 = t0) (hn : S 38 0 21 = (n : Int)) (h24 : n < 24) (R : D h A (upN N 3) zz C P) (eA : ∀ j i, ac N j i → A j i = A0 j i) (cc : ∀ j i f : Nat, ¬ (15 ≤ j ∧ j ≤ 18 ∧ i = n + 1) → C j i f = C0 j i f) (pp : ∀ j i f : Nat, ¬ (15 ≤ j ∧ j ≤ 18 ∧ i = n + 1) → P j i f = P0 j i f) (c0 : C 15 (n + 1) 0 = (n : Int))
  (k0 : ∀ (A1 : dA) (h' : gH) (N1 zz1 : Nat → Nat) (C1 : dC) (P1 : dP) (a1 : Nat), D h' A1 N1 zz1 C1 P1 → A1 0 0 = A 0 0 → A1 15 (n + 1) = A 15 (n + 1) → (∀ j i, ac (upN N 3) j i → A1 j i = A j i) → TAd n A0 N zz C0 P0 A1 N1 zz1 C1 P1 a1 → (∀ j i f : Nat, (15 ≤ j ∧ j ≤ 18 ∧ i = n + 1) → C1 j i f = C j i f ∧ P1 j i f = P j i f) → Qn 1 h') : vJx4a65c_add_9ea2d t0 Qn h (A 6 3) (some (A 15 (n + 1))) := by
  have sz := K.sz
  have n0 := K.nn
  have nI : N 3 = n := by omega
  have u1 : ∀ x, x ≠ 3 → upN N 3 x = N x := fun x hx => if_neg hx
  have u0 : upN N 3 3 = N 3 + 1 := if_pos rfl
  have u4 := u1 4 (by decide)
  have ni : 3 < upN N 3 1 + 5 := by omega
  refine c_ladd (n := n) R ((eA 8 0 ⟨Nat.one_pos, by decide⟩).trans ht) ni ((cc 6 3 2 (by omega)).trans (sz.2.2.2.trans hn)) (by omega) ?_ ?_ (show n + 1 < upN N 3 3 + 1 by omega) (Or.inr (Or.inr (Or.inr rfl))) (fun A3 h3 N3 z3 C3 P3 a3 e3 D3 f1 f2 f3 f4 f5 f6 f7 f8 f9 f10 f11 => ?_)
  · rcases K.ar 3 (by omega) with q | q
    · exact Or.inl ⟨by omega, (pp 6 3 1 (by omega)).trans q.2⟩
    · refine Or.inr ?_
      obtain ⟨a, q1, q2, q3, q4, q5, q6⟩ := q
      exact ⟨a, (pp 6 3 1 (by omega)).trans q1, by omega, by omega, q5, q6⟩
  · intro a ha f q hf hq
    rw [pp 6 3 1 (by omega)] at ha
    rw [pp 7 a f (by omega), K.e3 a f ha (by omega)] at hq
    cases hq
    exact Or.inr (Or.inr (Or.inr rfl))
  · refine k0 A3 h3 N3 z3 C3 P3 a3 D3 (e3 0 0 a00) (e3 15 (n + 1) (show n + 1 < upN N 3 3 + 1 by omega)) e3 ⟨fun j i a => (e3 j i ((ac_trans N j i).mpr (Or.inl (Or.inl (Or.inl (Or.inl a)))))).trans (eA j i a), f1, fun j i f hj => ?_, fun j i f hj => ?_, ⟨⟨f5, f6, f7, ?_, by omega, fun b hb => f3 b (by omega)⟩, f9, fun a f hp hf => ?_⟩, ?_⟩ (fun j i f hj => ⟨f4 j i f (by omega), f11 j i f (by omega) (by omega)⟩)
    · rw [f4 j i f (by omega)]; exact cc j i f (by omega)
    · rw [f11 j i f (by omega) (by omega)]; exact pp j i f (by omega)
    · rw [pp 6 3 1 (by omega), u4] at f8; exact f8
    · rw [f10 a f ((pp 6 3 1 (by omega)).trans hp) hf]; exact pp 7 a f (by omega)
    · rw [f4 _ _ _ (by omega)]; exact c0
/-- the new transition as it begins -/
def TBg (n : Nat) (o : Option (Nat × Nat)) (m : Nat) (d : Int) (C1 : dC) (P1 : dP) : Prop := (P1 15 (n + 1) 1 = o ∧ P1 15 (n + 1) 2 = some (14, m)) ∧ (C1 15 (n + 1) 3 = d ∧ C1 15 (n + 1) 4 = -1 ∧ C1 15 (n + 1) 5 = 0 ∧ C1 15 (n + 1) 6 = 0 ∧ C1 15 (n + 1) 7 = 0 ∧ C1 15 (n + 1) 11 = 0)
theorem q_addTransition_b14 {Qn : Int32 → gH → Prop} {Qx : String → gH → Prop} {v2 v3 : Int32} {o : Option (Nat × Nat)} (R : D h A N zz C P) (K : KS S N zz C P) (ht : A 8 0 = t0) (hn : S 38 0 21 = (n : Int)) (ho : ∀ q, o = some q → ac N q.1 q.2) (kx : v2.toInt < 0 ∨ S 38 0 19 ≤ v2.toInt → Qx "java/lang/IndexOutOfBoundsException" h) (ky : 0 ≤ v2.toInt → v2.toInt < S 38 0 19 → (v3.toInt < 0 ∨ 60 < v3.toInt) → Qx "java/lang/IllegalArgumentException" h) (kz : 0 ≤ v2.toInt → v2.toInt < S 38 0 19 → 0 ≤ v3.toInt → v3.toInt ≤ 60 → 24 ≤ n → Qx "java/lang/IllegalStateException" h)
  (k0 : 0 ≤ v2.toInt → v2.toInt < S 38 0 19 → 0 ≤ v3.toInt → v3.toInt ≤ 60 → n < 24 → ∀ (x : Int32) (A1 : dA) (h' : gH) (N1 zz1 : Nat → Nat) (C1 : dC) (P1 : dP) (a1 : Nat), D h' A1 N1 zz1 C1 P1 → TAd n A N zz C P A1 N1 zz1 C1 P1 a1 → TBg n o (v2.toInt.toNat + 1) v3.toInt C1 P1 → x.toInt = (n : Int) → Qn x h') : vX11_addTransition_b14 t0 Qn Qx h (A 0 0) v2 v3 (o.map (dad A)) := by
  have sz := K.sz
  have n0 := K.nn
  have nI : N 3 = n := by omega
  unfold vX11_addTransition_b14 vX11_addTransition_b33
  refine i00 R (q_state_ R K kx (fun m hv hm => ?_))
  have e : v2.toInt.toNat = m := by omega
  rw [e] at k0
  refine clt32 rfl (vl (by decide)) (fun z => ky (by omega) (by omega) (Or.inl z)) (fun z1 => cle32 rfl (vl (by decide)) (fun z2 => ?_) (fun z => ky (by omega) (by omega) (Or.inr (by omega))))
  have k0 := k0 (by omega) (by omega) (by omega) z2
  have kz := kz (by omega) (by omega) (by omega) z2
  have i3 : 3 < N 1 + 5 := by omega
  refine g_mdl R (nn_i (m_trs R (nn_i (wio R (j := 6) (i := 3) i3 rfl (by decide) (ysize R i3 (fun x6 h6 => clt32 h6 (vl (by decide)) (fun w => ?_) (fun w => kz (by omega))))))))
  have k0 := k0 (by omega)
  refine c_newT R nI (fun A1 h1 C1 P1 e1 D1 R1 c1 p1 => ?_)
  have am : ac N 14 (m + 1) := show m + 1 < N 2 + 1 by omega
  have om : o.map (dad A1) = o.map (dad A) := by
    cases o with
    | none => rfl
    | some q => show some (A1 q.1 q.2) = some (A q.1 q.2); rw [e1 q.1 q.2 (ho q rfl)]
  rw [← e1 0 0 a00, ← e1 14 (m + 1) am, ← om]
  refine g_mdl D1 (nn_i (m_trs D1 (nn_i (wio D1 (j := 6) (i := 3) i3 rfl (by decide) (ysize D1 i3 (fun x16 h16 => ?_))))))
  rw [c1 6 3 2 (by omega)] at h16
  refine c_initTrans (a := (n : Int)) D1.2 (nac15 nI) R1 am (by omega) (fun A2 h2 C2 P2 e2 D2 c2 p2 g0 => ?_)
  rw [nI] at e2 c2 p2 g0
  have acE : ∀ j i, ac N j i → A2 j i = A1 j i := fun j i a => e2 j i (fun z => nac15 nI j i a (by omega))
  have om2 : o.map (dad A2) = o.map (dad A1) := by
    cases o with
    | none => rfl
    | some q => show some (A2 q.1 q.2) = some (A1 q.1 q.2); rw [acE q.1 q.2 (ho q rfl)]
  have b15 : A2 15 (n + 1) = A1 15 (n + 1) := e2 15 (n + 1) (by omega)
  rw [nI, ← acE 0 0 a00, ← acE 14 (m + 1) am, ← om2, ← b15]
  have u0 : upN N 3 3 = N 3 + 1 := if_pos rfl
  have a15 : ac (upN N 3) 15 (n + 1) := show n + 1 < upN N 3 3 + 1 by omega
  have up : ∀ j i, ac N j i → ac (upN N 3) j i := fun j i a => (ac_trans N j i).mpr (Or.inl (Or.inl (Or.inl (Or.inl a))))
  refine wio D2 (j := 15) (i := n + 1) a15 rfl (by decide) ?_
  refine c_tbegin D2 a15 (fun q hq => up _ _ (ho q hq)) (up _ _ am) (d := v3.toInt) rfl (fun h3 C3 P3 D3 c3 p3 t1 t2 => ?_)
  have ni : 3 < upN N 3 1 + 5 := by have : upN N 3 1 = N 1 := if_neg (by decide); omega
  refine g_mdl D3 (nn_i (m_trs D3 (nn_i (wio D3 (j := 6) (i := 3) ni rfl (by decide) ?_))))
  refine c_putT K ht hn (by omega) D3 (fun j i a => (acE j i a).trans (e1 j i a)) (fun j i f hj => ?_) (fun j i f hj => ?_) (t2.1.trans g0) (fun A4 h4 N4 z4 C4 P4 a4 D4 b0 b1 _ TA same => ?_)
  · rw [c3 j i f (by omega), c2 j i f hj, c1 j i f (by omega)]
  · rw [p3 j i f (by omega), p2 j i f hj, p1 j i f (by omega)]
  · have f3' := TA.2.1 3 (by decide)
    rw [← b1]
    refine ygi D4 (show ac N4 15 (n + 1) from (show n + 1 < N4 3 + 1 by omega)) rfl TA.2.2.2.2.2 (fun x hx => k0 x A4 h4 N4 z4 C4 P4 a4 D4 TA ⟨⟨?_, ?_⟩, ?_, ?_, ?_, ?_, ?_, ?_⟩ hx)
    · rw [(same 15 (n + 1) 1 (by omega)).2]; exact t1.1
    · rw [(same 15 (n + 1) 2 (by omega)).2]; exact t1.2
    · rw [(same 15 (n + 1) 3 (by omega)).1]; exact t2.2.1
    · rw [(same 15 (n + 1) 4 (by omega)).1]; exact t2.2.2.1
    · rw [(same 15 (n + 1) 5 (by omega)).1]; exact t2.2.2.2.1
    · rw [(same 15 (n + 1) 6 (by omega)).1]; exact t2.2.2.2.2.1
    · rw [(same 15 (n + 1) 7 (by omega)).1]; exact t2.2.2.2.2.2.1
    · rw [(same 15 (n + 1) 11 (by omega)).1]; exact t2.2.2.2.2.2.2
theorem q_addTransition {Qn : Int32 → gH → Prop} {Qx : String → gH → Prop} {v1 v2 v3 : Int32} (R : D h A N zz C P) (K : KS S N zz C P) (ht : A 8 0 = t0) (hn : S 38 0 21 = (n : Int)) (kx : (v1.toInt ≠ -1 ∧ (v1.toInt < 0 ∨ S 38 0 19 ≤ v1.toInt)) ∨ (v2.toInt < 0 ∨ S 38 0 19 ≤ v2.toInt) → Qx "java/lang/IndexOutOfBoundsException" h) (ky : -1 ≤ v1.toInt → v1.toInt < S 38 0 19 → 0 ≤ v2.toInt → v2.toInt < S 38 0 19 → (v3.toInt < 0 ∨ 60 < v3.toInt) → Qx "java/lang/IllegalArgumentException" h) (kz : -1 ≤ v1.toInt → v1.toInt < S 38 0 19 → 0 ≤ v2.toInt → v2.toInt < S 38 0 19 → 0 ≤ v3.toInt → v3.toInt ≤ 60 → 24 ≤ n → Qx "java/lang/IllegalStateException" h)
  (k0 : -1 ≤ v1.toInt → v1.toInt < S 38 0 19 → 0 ≤ v2.toInt → v2.toInt < S 38 0 19 → 0 ≤ v3.toInt → v3.toInt ≤ 60 → n < 24 → ∀ (x : Int32) (A1 : dA) (h' : gH) (N1 zz1 : Nat → Nat) (C1 : dC) (P1 : dP) (a1 : Nat), D h' A1 N1 zz1 C1 P1 → TAd n A N zz C P A1 N1 zz1 C1 P1 a1 → TBg n (if v1.toInt = -1 then none else some (14, v1.toInt.toNat + 1)) (v2.toInt.toNat + 1) v3.toInt C1 P1 → x.toInt = (n : Int) → Qn x h') : vX11_addTransition t0 Qn Qx h (A 0 0) v1 v2 v3 := by
  have n0 := K.nn
  unfold vX11_addTransition
  refine cne32 rfl (show (-1 : Int32).toInt = -1 by decide) (fun z => ?_) (fun z => ?_)
  · rw [if_neg z] at k0
    refine i00 R (q_state_ R K (fun y => kx (Or.inl ⟨z, y⟩)) (fun m hv hm => ?_))
    have e : v1.toInt.toNat = m := by omega
    rw [e] at k0
    exact q_addTransition_b14 (o := some (14, m + 1)) R K ht hn (fun q hq => by cases hq; exact (show m + 1 < N 2 + 1 by omega)) (fun y => kx (Or.inr y)) (ky (by omega) (by omega)) (kz (by omega) (by omega)) (k0 (by omega) (by omega))
  · rw [if_pos z] at k0
    by_cases y : v2.toInt < 0 ∨ S 38 0 19 ≤ v2.toInt
    · exact q_addTransition_b14 (o := none) R K ht hn (fun q hq => by cases hq) (fun y => kx (Or.inr y)) (fun y1 y2 => absurd y (by omega)) (fun y1 y2 => absurd y (by omega)) (fun y1 y2 => absurd y (by omega))
    · exact q_addTransition_b14 (o := none) R K ht hn (fun q hq => by cases hq) (fun y => kx (Or.inr y)) (ky (by omega) (by omega)) (kz (by omega) (by omega)) (k0 (by omega) (by omega))
end AT2
