/-! ===== the class: a node is added ===== -/
section AN
variable {h : gH} {A : dA} {N zz : Nat → Nat} {S C : dC} {P : dP} {t0 n : Nat}
/-- what is so once a node was added -/
def NAd (n : Nat) (o : Option (Nat × Nat)) (b : Int) (A : dA) (N zz : Nat → Nat) (C : dC) (P : dP) (A1 : dA) (N1 zz1 : Nat → Nat) (C1 : dC) (P1 : dP) (a1 : Nat) : Prop :=
  (∀ j i, ac N j i → A1 j i = A j i) ∧ (∀ x, x ≠ 4 → N1 x = upN N 1 x) ∧
  (∀ j i f : Nat, ¬ ((j = 12 ∨ j = 13) ∧ i = n + 1 ∨ j = 6 ∧ i = n + 5 ∨ j = 6 ∧ i = 1 ∧ (f = 0 ∨ f = 2)) → C1 j i f = C j i f) ∧
  (∀ j i f : Nat, ¬ ((j = 12 ∨ j = 13) ∧ i = n + 1 ∨ j = 6 ∧ i = n + 5 ∨ j = 6 ∧ i = 1 ∧ f = 1 ∨ j = 7 ∧ i = a1) → P1 j i f = P j i f) ∧
  LA 1 n (12, n + 1) N zz P N1 zz1 C1 P1 a1 ∧ C1 6 (n + 5) 2 = 0 ∧ P1 6 (n + 5) 1 = some (8, 0) ∧ P1 12 (n + 1) 0 = o ∧ C1 12 (n + 1) 1 = b ∧ C1 12 (n + 1) 4 = 1
theorem c_addNode {Qn : Int32 → gH → Prop} {v2 : Int32} {b : Int} {o : Option (Nat × Nat)} (R : D h A N zz C P) (K : KS S N zz C P) (ht : A 8 0 = t0) (hn : S 38 0 14 = (n : Int)) (h20 : n < 20) (ho : ∀ q, o = some q → ac N q.1 q.2) (h2 : v2.toInt = b)
  (k0 : ∀ (x : Int32) (A1 : dA) (h' : gH) (N1 zz1 : Nat → Nat) (C1 : dC) (P1 : dP) (a1 : Nat), D h' A1 N1 zz1 C1 P1 → NAd n o b A N zz C P A1 N1 zz1 C1 P1 a1 → x.toInt = (n : Int) → Qn x h') :
  nw h (.inr (8, [.null, .int 0, .null, .null, .int 0])) (fun q7 h8 => vX5_init t0 (fun h9 => nn (some (A 6 1)) (fun a10 => io h9 a10 2 (vJx4a65c_add_9ea2d t0 (fun x12 h11 => gr h11 (A 0 0) 14 0 (fun r13 => nn r13 (fun a14 => gr h11 a14 7 3 (fun r15 => nn r15 (fun a16 => io h11 a16 2 (vJx4a65c_size_8abf5 t0 (fun x18 h17 => Qn (x18 - 1) h17) h11 a16 )))))) h9 a10 (some q7)))) h8 q7 (o.map (dad A)) v2) := by
  have sz := K.sz
  have n0 := K.nn
  have nI : N 1 = n := by omega
  have n12 : ¬ ac N 12 (N 1 + 1) := fun z => by
    have z : N 1 + 1 < N 1 + 1 := z
    omega
  refine c_newO 12 (N 1 + 1) R n12 (fun A1 => cell_node A1 _) (fun A1 h1 e1 D1 R1 => ?_)
  have nac : ∀ j i, ac N j i → ¬ (((j = 12 ∨ j = 13) ∧ i = N 1 + 1) ∨ (j = 6 ∧ i = N 1 + 5)) := fun j i a z => by
    rcases z with ⟨z | z, y⟩ | ⟨z, y⟩
    · have b : i < N 1 + 1 := by rw [z] at a; exact a
      omega
    · have b : i < N 1 + 1 := by rw [z] at a; exact a
      omega
    · have b : i < N 1 + 5 := by rw [z] at a; exact a
      omega
  have c1 : ∀ j i f : Nat, ¬ (j = 12 ∧ i = N 1 + 1) → zC C 12 (N 1 + 1) j i f = C j i f := fun j i f hj => by rw [zC_off _ hj]
  have p1 : ∀ j i f : Nat, ¬ (j = 12 ∧ i = N 1 + 1) → nP P 12 (N 1 + 1) j i f = P j i f := fun j i f hj => by rw [nP_off _ hj]
  generalize zC C 12 (N 1 + 1) = C1 at *
  generalize nP P 12 (N 1 + 1) = P1 at *
  have om : o.map (dad A1) = o.map (dad A) := by
    cases o with
    | none => rfl
    | some q => show some (A1 q.1 q.2) = some (A q.1 q.2); rw [e1 q.1 q.2 (ho q rfl)]
  have a00' := e1 0 0 a00
  have a61' := e1 6 1 (show 1 < N 1 + 5 by omega)
  rw [← a00', ← a61', ← om]
  have S1 : Sp (ac N) P1 := D1.2
  refine c_initNode S1 ((e1 8 0 ⟨Nat.one_pos, by decide⟩).trans ht) nac R1 ho h2 (fun A2 h2 C2 P2 e2 D2 c2 p2 g0 g1 g4 g6 g7 => ?_)
  rw [nI] at e2 c2 p2 g0 g1 g4 g6 g7 c1 p1
  have b00 : A2 0 0 = A1 0 0 := e2 0 0 (by omega)
  have b61 : A2 6 1 = A1 6 1 := e2 6 1 (by omega)
  have b12 : A2 12 (n + 1) = A1 12 (n + 1) := e2 12 (n + 1) (by omega)
  rw [nI, ← b00, ← b61, ← b12]
  have u1 : ∀ x, x ≠ 1 → upN N 1 x = N x := fun x hx => if_neg hx
  have u0 : upN N 1 1 = N 1 + 1 := if_pos rfl
  have u4 := u1 4 (by decide)
  have cc : ∀ j i f : Nat, ¬ ((j = 12 ∨ j = 13) ∧ i = n + 1) → ¬ (j = 6 ∧ i = n + 5) → C2 j i f = C j i f := fun j i f hj hk => by rw [c2 j i f hj hk, c1 j i f (by omega)]
  have pp : ∀ j i f : Nat, ¬ ((j = 12 ∨ j = 13) ∧ i = n + 1) → ¬ (j = 6 ∧ i = n + 5) → P2 j i f = P j i f := fun j i f hj hk => by rw [p2 j i f hj hk, p1 j i f (by omega)]
  have acE : ∀ j i, ac N j i → A2 j i = A j i := fun j i a => (e2 j i (fun z => nac j i a (by omega))).trans (e1 j i a)
  have ni : 1 < upN N 1 1 + 5 := by omega
  refine nn_i (wio D2 (j := 6) (i := 1) ni rfl (by decide) ?_)
  refine c_ladd (n := n) D2 ((acE 8 0 ⟨Nat.one_pos, by decide⟩).trans ht) ni ((cc 6 1 2 (by omega) (by omega)).trans (sz.2.1.trans hn)) (by omega) ?_ ?_ (show n + 1 < upN N 1 1 + 1 by omega) (Or.inr (Or.inl rfl)) (fun A3 h3 N3 z3 C3 P3 a3 e3 D3 f1 f2 f3 f4 f5 f6 f7 f8 f9 f10 f11 => ?_)
  · rcases K.ar 1 (by omega) with q | q
    · exact Or.inl ⟨by omega, (pp 6 1 1 (by omega) (by omega)).trans q.2⟩
    · refine Or.inr ?_
      obtain ⟨a, q1, q2, q3, q4, q5, q6⟩ := q
      exact ⟨a, (pp 6 1 1 (by omega) (by omega)).trans q1, by omega, by omega, q5, q6⟩
  · intro a ha f q hf hq
    rw [pp 6 1 1 (by omega) (by omega)] at ha
    rw [pp 7 a f (by omega) (by omega), K.e1 a f ha (by omega)] at hq
    cases hq
    exact Or.inr (Or.inl rfl)
  · have d00 : A3 0 0 = A2 0 0 := e3 0 0 a00
    rw [← d00]
    have i1 : 1 < N3 1 + 5 := by omega
    refine g_mdl D3 (nn_i (m_nds D3 (nn_i (wio D3 (j := 6) (i := 1) i1 rfl (by decide) (ysize D3 i1 (fun x27 h27 => ?_))))))
    rw [f5] at h27
    refine k0 _ A3 h3 N3 z3 C3 P3 a3 D3 ⟨fun j i a => (e3 j i ((ac_node N j i).mpr (Or.inl (Or.inl (Or.inl a))))).trans (acE j i a), f1, fun j i f hj => ?_, fun j i f hj => ?_, ⟨⟨f5, f6, f7, ?_, by omega, fun b hb => f3 b (by omega)⟩, f9, fun a f hp hf => ?_⟩, ?_, ?_, ?_, ?_, ?_⟩ ((sub_ti h27 (vl (by decide)) (by omega)).trans (by omega))
    · rw [f4 j i f (by omega)]; exact cc j i f (by omega) (by omega)
    · rw [f11 j i f (by omega) (by omega)]; exact pp j i f (by omega) (by omega)
    · rw [pp 6 1 1 (by omega) (by omega), u4] at f8; exact f8
    · rw [f10 a f ((pp 6 1 1 (by omega) (by omega)).trans hp) hf]; exact pp 7 a f (by omega) (by omega)
    · rw [f4 _ _ _ (by omega)]; exact g6
    · rw [f11 _ _ _ (by omega) (by omega)]; exact g7
    · rw [f11 _ _ _ (by omega) (by omega)]; exact g0
    · rw [f4 _ _ _ (by omega)]; exact g1
    · rw [f4 _ _ _ (by omega)]; exact g4
theorem q_room {Qn : gH → Prop} {Qx : String → gH → Prop} (R : D h A N zz C P) (K : KS S N zz C P) (hn : S 38 0 14 = (n : Int)) (kx : 20 ≤ n → Qx "java/lang/IllegalStateException" h) (k0 : n < 20 → Qn h) : vX11_requireRoomForNode t0 Qn Qx h (A 0 0) := by
  have sz := K.sz
  have n0 := K.nn
  have i1 : 1 < N 1 + 5 := by omega
  unfold vX11_requireRoomForNode
  exact g_mdl R (nn_i (m_nds R (nn_i (wio R (j := 6) (i := 1) i1 rfl (by decide) (ysize R i1 (fun x6 h6 => clt32 h6 (vl (by decide)) (fun z => k0 (by omega)) (fun z => kx (by omega))))))))
theorem q_addClipNode {Qn : Int32 → gH → Prop} {Qx : String → gH → Prop} {v : Int32} (R : D h A N zz C P) (K : KS S N zz C P) (ht : A 8 0 = t0) (hn : S 38 0 14 = (n : Int)) (kx : v.toInt < 0 ∨ S 38 0 8 ≤ v.toInt → Qx "java/lang/IndexOutOfBoundsException" h) (ky : 0 ≤ v.toInt → v.toInt < S 38 0 8 → 20 ≤ n → Qx "java/lang/IllegalStateException" h)
  (k0 : 0 ≤ v.toInt → v.toInt < S 38 0 8 → n < 20 → ∀ (x : Int32) (A1 : dA) (h' : gH) (N1 zz1 : Nat → Nat) (C1 : dC) (P1 : dP) (a1 : Nat), D h' A1 N1 zz1 C1 P1 → NAd n (some (9, v.toInt.toNat + 1)) (-1) A N zz C P A1 N1 zz1 C1 P1 a1 → x.toInt = (n : Int) → Qn x h') : vX11_addClipNode t0 Qn Qx h (A 0 0) v := by
  have n0 := K.nn
  unfold vX11_addClipNode
  refine i00 R (q_clip R K kx (fun p hv hp => i00 R (q_room R K hn (fun z => ky (by omega) (by omega) z) (fun z => ?_))))
  have e : v.toInt.toNat = p := by omega
  rw [e] at k0
  refine g_mdl R (nn_i (m_nds R ?_))
  exact c_addNode (o := some (9, p + 1)) R K ht hn z (fun q hq => by cases hq; exact (show p + 1 < N 0 + 1 by omega)) (show (-1 : Int32).toInt = -1 by decide) (k0 (by omega) (by omega) z)
theorem q_addLine {Qn : Int32 → gH → Prop} {Qx : String → gH → Prop} {v : Int32} (R : D h A N zz C P) (K : KS S N zz C P) (I : SI S) (ht : A 8 0 = t0) (hn : S 38 0 14 = (n : Int)) (kx : v.toInt < 0 ∨ S 38 0 3 ≤ v.toInt → Qx "java/lang/IndexOutOfBoundsException" h) (ky : 0 ≤ v.toInt → v.toInt < S 38 0 3 → (S 42 0 v.toInt.toNat ≠ 0 ∨ 20 ≤ n) → Qx "java/lang/IllegalStateException" h)
  (k0 : 0 ≤ v.toInt → v.toInt < S 38 0 3 → S 42 0 v.toInt.toNat = 0 → n < 20 → ∀ (x : Int32) (A1 : dA) (h' : gH) (N1 zz1 : Nat → Nat) (C1 : dC) (P1 : dP) (a1 : Nat), D h' A1 N1 zz1 C1 P1 → NAd n none v.toInt A N zz C P A1 N1 zz1 C1 P1 a1 → x.toInt = (n : Int) → Qn x h') : vX11_addLine t0 Qn Qx h (A 0 0) v := by
  unfold vX11_addLine
  refine i00 R (q_param R K I kx (fun p hv hp h8 => g_mdl R (nn_i (wio R a40 rfl (by decide) ?_))))
  have e : v.toInt.toNat = p := by omega
  rw [e] at k0 ky
  refine c_kind R K I hv hp (fun x2 h2 => ceq32 h2 (vl (by decide)) (fun z => ?_) (fun z => ky (by omega) (by omega) (Or.inl z)))
  refine i00 R (q_room R K hn (fun y => ky (by omega) (by omega) (Or.inr y)) (fun y => ?_))
  refine g_mdl R (nn_i (m_nds R ?_))
  exact c_addNode (o := none) R K ht hn y (fun q hq => by cases hq) rfl (k0 (by omega) (by omega) z y)
end AN
