/-! ===== the class adds the draft ===== -/
section CAD
variable {h : gH} {A : dA} {N zz : Nat → Nat} {S W C C' C0 : dC} {P P' : dP} {t0 i n : Nat}
/-- a transition has a record -/
def TR (i : Nat) (r : dM) (C : dC) : Prop := (C 15 i 3 = r 2 ∧ C 15 i 4 = r 3 ∧ C 15 i 5 = r 4 ∧ C 15 i 6 = r 5 ∧ C 15 i 7 = r 6 ∧ C 15 i 11 = r 7) ∧ ∀ k : Nat, (k : Int) < r 7 → C 16 i k = r (8 + 3 * k) ∧ C 17 i k = r (8 + 3 * k + 1) ∧ C 18 i k = r (8 + 3 * k + 2)
theorem c_copyT {Qn : gH → Prop} {r : dM} {o : Option (Nat × Nat)} {m : Nat} (R : D h A N zz C P) (hi : ac N 15 i) (i0 : i ≠ 0) (d : DR r C) (h7 : 0 ≤ r 7 ∧ r 7 ≤ 3) (h6 : r 6 = 0 ∨ r 6 = 1) (ho : P 15 0 1 = o) (hm : P 15 0 2 = some (14, m)) (am : ac N 14 m) (oac : ∀ q, o = some q → ac N q.1 q.2)
  (k0 : ∀ (h' : gH) (C' : dC) (P' : dP), D h' A N zz C' P' → (∀ j x f : Nat, ¬ (15 ≤ j ∧ j ≤ 18 ∧ x = i) → C' j x f = C j x f) → (∀ j x f : Nat, ¬ (j = 15 ∧ x = i) → P' j x f = P j x f) → (P' 15 i 1 = o ∧ P' 15 i 2 = some (14, m)) → C' 15 i 0 = C 15 i 0 → TR i r C' → Qn h') : vX9_copyFrom t0 Qn h (A 15 i) (some (A 15 0)) := by
  have a15 : ac N 15 0 := Nat.zero_lt_succ _
  obtain ⟨⟨d1, d2, d3, d4, d5, d6⟩, dk⟩ := d
  unfold vX9_copyFrom
  refine nn_i (ygm R a15 rfl ?_)
  rw [ho]
  refine ygr R a15 rfl hm (ygi R a15 rfl d1 (fun x4 h4 => wio R hi rfl (by decide) (c_tbegin R hi oac am h4 (fun h5 C5 P5 R5 c5 p5 t1 t2 => ?_))))
  have g5 : ∀ f, C5 15 0 f = C 15 0 f := fun f => c5 15 0 f (by omega)
  refine ygi R5 a15 rfl ((g5 4).trans d2) (fun x6 hx6 => wpvI R5 hi rfl hx6 (fun h7' R7 => ?_))
  refine ygi R7 a15 rfl (v := r 4) ((up3_ne _ _ (by omega)).trans ((g5 5).trans d3)) (fun x8 hx8 => wpvI R7 hi rfl hx8 (fun h9 R9 => ?_))
  refine ygi R9 a15 rfl (v := r 5) ((up3_ne _ _ (by omega)).trans ((up3_ne _ _ (by omega)).trans ((g5 6).trans d4))) (fun x10 hx10 => wpvI R9 hi rfl hx10 (fun h11 R11 => ?_))
  refine ygi R11 a15 rfl (v := r 6) ((up3_ne _ _ (by omega)).trans ((up3_ne _ _ (by omega)).trans ((up3_ne _ _ (by omega)).trans ((g5 7).trans d5)))) (fun x12 hx12 => ⟨gZ_of (by omega), wpvI R11 hi rfl hx12 (fun h13 R13 => ?_)⟩)
  have fr : ∀ j x f : Nat, ¬ (j = 15 ∧ x = i) → up3 (up3 (up3 (up3 C5 15 i 4 (r 3)) 15 i 5 (r 4)) 15 i 6 (r 5)) 15 i 7 (r 6) j x f = C j x f := fun j x f hj => by
    rw [up3_ne _ _ (by omega), up3_ne _ _ (by omega), up3_ne _ _ (by omega), up3_ne _ _ (by omega)]
    exact c5 j x f hj
  have row : ∀ f, f ≠ 4 → f ≠ 5 → f ≠ 6 → f ≠ 7 → up3 (up3 (up3 (up3 C5 15 i 4 (r 3)) 15 i 5 (r 4)) 15 i 6 (r 5)) 15 i 7 (r 6) 15 i f = C5 15 i f := fun f u1 u2 u3 u4 => by
    rw [up3_ne _ _ (by omega), up3_ne _ _ (by omega), up3_ne _ _ (by omega), up3_ne _ _ (by omega)]
  have w4 : up3 (up3 (up3 (up3 C5 15 i 4 (r 3)) 15 i 5 (r 4)) 15 i 6 (r 5)) 15 i 7 (r 6) 15 i 4 = r 3 := by
    rw [up3_ne _ _ (by omega), up3_ne _ _ (by omega), up3_ne _ _ (by omega), up3_same]
  have w5 : up3 (up3 (up3 (up3 C5 15 i 4 (r 3)) 15 i 5 (r 4)) 15 i 6 (r 5)) 15 i 7 (r 6) 15 i 5 = r 4 := by
    rw [up3_ne _ _ (by omega), up3_ne _ _ (by omega), up3_same]
  have w6 : up3 (up3 (up3 (up3 C5 15 i 4 (r 3)) 15 i 5 (r 4)) 15 i 6 (r 5)) 15 i 7 (r 6) 15 i 6 = r 5 := by
    rw [up3_ne _ _ (by omega), up3_same]
  have w7 : up3 (up3 (up3 (up3 C5 15 i 4 (r 3)) 15 i 5 (r 4)) 15 i 6 (r 5)) 15 i 7 (r 6) 15 i 7 = r 6 := up3_same _ _ _ _ _
  generalize up3 (up3 (up3 (up3 C5 15 i 4 (r 3)) 15 i 5 (r 4)) 15 i 6 (r 5)) 15 i 7 (r 6) = C13 at *
  have v0 := (row 0 (by decide) (by decide) (by decide) (by decide)).trans t2.1
  have v3 := (row 3 (by decide) (by decide) (by decide) (by decide)).trans t2.2.1
  have v11 := (row 11 (by decide) (by decide) (by decide) (by decide)).trans t2.2.2.2.2.2.2
  obtain ⟨c, hc⟩ : ∃ c : Nat, r 7 = (c : Int) := ⟨(r 7).toNat, by omega⟩
  have lp : ∀ (m' k : Nat) (h : gH) (C1 : dC) (v2 : Int32), k + m' = c → D h A N zz C1 P5 → v2.toInt = (k : Int) → C1 15 i 11 = (k : Int) → (∀ f, f ≠ 11 → C1 15 i f = C13 15 i f) → (∀ l : Nat, l < k → C1 16 i l = r (8 + 3 * l) ∧ C1 17 i l = r (8 + 3 * l + 1) ∧ C1 18 i l = r (8 + 3 * l + 2)) → (∀ j x f : Nat, ¬ (15 ≤ j ∧ j ≤ 18 ∧ x = i) → C1 j x f = C j x f) → vX9_copyFrom_b50 t0 Qn (m' + 1) h (A 15 i) (some (A 15 0)) v2 := by
    intro m'
    induction m' with
    | zero =>
      intro k h C1 v2 hk R1 h2 e11 e15 el ef
      show vX9_copyFrom_b50_o t0 (vX9_copyFrom_b50 t0 Qn 0) Qn _ _ _ _
      unfold vX9_copyFrom_b50_o vX9_copyFrom_b91
      refine nn_i (ygi R1 a15 rfl (v := r 7) ((ef 15 0 11 (by omega)).trans d6) (fun x2 hx2 => cle32 hx2 h2 (fun _ => ?_) (fun z => by omega)))
      refine k0 h C1 P5 R1 ef (fun j x f hj => p5 j x f hj) t1 ((e15 0 (by decide)).trans v0) ⟨⟨(e15 3 (by decide)).trans v3, (e15 4 (by decide)).trans w4, (e15 5 (by decide)).trans w5, (e15 6 (by decide)).trans w6, (e15 7 (by decide)).trans w7, by omega⟩, fun l hl => el l (by omega)⟩
    | succ m' ih =>
      intro k h C1 v2 hk R1 h2 e11 e15 el ef
      have a16 : ac N 16 0 := a15
      have a17 : ac N 17 0 := a15
      have a18 : ac N 18 0 := a15
      have q := dk k (by omega)
      show vX9_copyFrom_b50_o t0 (vX9_copyFrom_b50 t0 Qn (m' + 1)) Qn _ _ _ _
      unfold vX9_copyFrom_b50_o
      refine nn_i (ygi R1 a15 rfl (v := r 7) ((ef 15 0 11 (by omega)).trans d6) (fun x2 hx2 => cle32 hx2 h2 (fun z => by omega) (fun _ => cle32 (vl (by decide)) h2 (fun z => by omega) (fun _ => ?_))))
      refine wgrs R1 a15 rfl (show dS 15 0 8 = some (16, 0) from rfl) (nn_i (yli R1 a16 rfl h2 (show k < 3 by omega) ((ef 16 0 k (by omega)).trans q.1) (fun x5 h5 => ?_)))
      refine wgrs R1 a15 rfl (show dS 15 0 9 = some (17, 0) from rfl) (nn_i (yli R1 a17 rfl h2 (show k < 3 by omega) ((ef 17 0 k (by omega)).trans q.2.1) (fun x8 h8 => ?_)))
      refine wgrs R1 a15 rfl (show dS 15 0 10 = some (18, 0) from rfl) (nn_i (yli R1 a18 rfl h2 (show k < 3 by omega) ((ef 18 0 k (by omega)).trans q.2.2) (fun x11 h11 => wio R1 hi rfl (by decide) ?_)))
      refine q_appendCondition R1 hi (n := k) e11 (by omega) (fun h12 R12 => ih (k + 1) h12 _ (v2 + 1) (by omega) R12 (ix_add h2 (ix_lit (by decide)) (by omega)) ?_ (fun f hf => ?_) (fun l hl => ?_) (fun j x f hj => ?_))
      · rw [up3_same]; omega
      · rw [up3_ne _ _ (by omega), up3_ne _ _ (by omega), up3_ne _ _ (by omega), up3_ne _ _ (by omega)]; exact e15 f hf
      · by_cases z : l = k
        · rw [z]
          refine ⟨?_, ?_, ?_⟩
          · rw [up3_ne _ _ (by omega), up3_ne _ _ (by omega), up3_ne _ _ (by omega), up3_same]; exact h5
          · rw [up3_ne _ _ (by omega), up3_ne _ _ (by omega), up3_same]; exact h8
          · rw [up3_ne _ _ (by omega), up3_same]; exact h11
        · have q := el l (by omega)
          refine ⟨?_, ?_, ?_⟩
          · rw [up3_ne _ _ (by omega), up3_ne _ _ (by omega), up3_ne _ _ (by omega), up3_ne _ _ (by omega)]; exact q.1
          · rw [up3_ne _ _ (by omega), up3_ne _ _ (by omega), up3_ne _ _ (by omega), up3_ne _ _ (by omega)]; exact q.2.1
          · rw [up3_ne _ _ (by omega), up3_ne _ _ (by omega), up3_ne _ _ (by omega), up3_ne _ _ (by omega)]; exact q.2.2
      · rw [up3_ne _ _ (by omega), up3_ne _ _ (by omega), up3_ne _ _ (by omega), up3_ne _ _ (by omega)]; exact ef j x f hj
  exact ⟨c + 1, lp c 0 h13 C13 0 (by omega) R13 (by decide) v11 (fun _ _ => rfl) (fun l hl => absurd hl (by omega)) (fun j x f hj => fr j x f (by omega))⟩
/-- the table with one transition more -/
def addS (S : dC) (r : dM) : dC := fun j i f => if j = 38 ∧ f = 21 then S 38 0 21 + 1 else if j = 60 ∧ 17 * (S 38 0 21).toNat ≤ f ∧ f < 17 * (S 38 0 21).toNat + 17 then r (f - 17 * (S 38 0 21).toNat) else S j i f
theorem addS_n (S : dC) (r : dM) : addS S r 38 0 21 = S 38 0 21 + 1 := if_pos ⟨rfl, rfl⟩
theorem addS_r (r : dM) (hn : S 38 0 21 = (n : Int)) (w : Nat) (hw : w < 17) : addS S r 60 0 (17 * n + w) = r w := by
  have e : (S 38 0 21).toNat = n := by omega
  unfold addS
  rw [if_neg (by omega), e, if_pos ⟨rfl, by omega, by omega⟩, show 17 * n + w - 17 * n = w by omega]
theorem addS_o (r : dM) (hn : S 38 0 21 = (n : Int)) {j i f : Nat} (h : ¬ (j = 38 ∧ f = 21 ∨ j = 60 ∧ 17 * n ≤ f ∧ f < 17 * n + 17)) : addS S r j i f = S j i f := by
  have e : (S 38 0 21).toNat = n := by omega
  unfold addS
  rw [if_neg (by omega), e, if_neg (by omega)]
theorem addS_TS (r : dM) (T : TS W S) (hn : S 38 0 21 = (n : Int)) : TS W (addS S r) := by
  obtain ⟨t1, t2, t3, t4, t5⟩ := T
  refine ⟨?_, fun i => ?_, fun p => ?_, ?_, ?_⟩
  · rw [addS_o r hn (by omega)]; exact t1
  · rw [addS_o r hn (by omega)]; exact t2 i
  · rw [addS_o r hn (by omega)]; exact t3 p
  · rw [addS_o r hn (by omega)]; exact t4
  · rw [addS_o r hn (by omega)]; exact t5
theorem addS_SI {r : dM} (I : SI S) (T : TS W S) (hn : S 38 0 21 = (n : Int)) (h24 : n < 24) (rk : rOK W r) : SI (addS S r) := by
  have e3 : S 38 0 3 = W 38 0 3 := T.2.2.2.1
  have e19 : S 38 0 19 = W 38 0 19 := T.2.2.2.2
  have g := fun w hw => addS_r r hn w hw
  have g0 : addS S r 60 0 (17 * n) = r 0 := g 0 (by decide)
  obtain ⟨b0, b1, b2, b3, b3a, b4, b5, b6, b7, b8, b9⟩ := rk
  refine I.tra (n := n) (fun t ht hne => ?_) ?_ ⟨?_, ?_, ?_, ?_, ?_, ?_, ?_, ?_, ?_, fun k hk => ?_, fun k hk => ?_⟩ (fun j f _ hj => addS_o r hn hj)
  · rw [addS_n] at ht; omega
  · rw [addS_n]; omega
  · rw [g0, e19]; exact b0
  · rw [g 1 (by decide), e19]; exact b1
  · rw [g 2 (by decide)]; exact b2
  · rw [g 3 (by decide)]; exact b3
  · rw [g0, g 3 (by decide)]; exact b3a
  · rw [g 4 (by decide)]; exact b4
  · rw [g 5 (by decide)]; exact b5
  · rw [g 6 (by decide)]; exact b6
  · rw [g 7 (by decide)]; exact b7
  · rw [g 7 (by decide)] at hk
    rw [show 17 * n + 8 + 3 * k = 17 * n + (8 + 3 * k) by omega, g _ (by omega), e3]; exact b8 k hk
  · rw [g 7 (by decide)] at hk
    rw [show 17 * n + 8 + 3 * k + 1 = 17 * n + (8 + 3 * k + 1) by omega, g _ (by omega)]; exact b9 k hk
/-- nothing outside of lists, transitions and the reader was changed -/
def GF (C : dC) (P : dP) (C1 : dC) (P1 : dP) : Prop := ∀ j x f : Nat, ¬ (6 ≤ j ∧ j ≤ 20) → C1 j x f = C j x f ∧ P1 j x f = P j x f
theorem GF.rf (C : dC) (P : dP) : GF C P C P := fun _ _ _ _ => ⟨rfl, rfl⟩
theorem GF.tr {C1 C2 : dC} {P1 P2 : dP} (a : GF C P C1 P1) (b : GF C1 P1 C2 P2) : GF C P C2 P2 := fun j x f h => ⟨(b j x f h).1.trans (a j x f h).1, (b j x f h).2.trans (a j x f h).2⟩
theorem GF.of (a : Fdr C C') (b : Pdr P P') : GF C P C' P' := fun j x f h => ⟨a j x f (by omega) (by omega), b j x f (by omega)⟩
theorem c_addDraft {Qn : gH → Prop} {r : dM} (Z : CR h A N zz S W C P i) (T : TS W S) (I : SI S) (d : DR r C) (dp : DRP r P) (rk : rOK W r) (ht : A 8 0 = t0) (hn : S 38 0 21 = (n : Int)) (h24 : n < 24) (k0 : ∀ (A1 : dA) (h' : gH) (N1 zz1 : Nat → Nat) (C1 : dC) (P1 : dP), (∀ j i, ac N j i → A1 j i = A j i) → CR h' A1 N1 zz1 (addS S r) W C1 P1 i → (∀ x, x ≠ 4 → N1 x = upN N 3 x) → N 4 ≤ N1 4 → GF C P C1 P1 → ∀ v0 : Nat, v0 = A1 19 0 → v0 = A 19 0 → Qn h') : vX10_addDraft t0 Qn h (A 19 0) := by
  obtain ⟨R, K, e, hi⟩ := id Z
  have sz := K.sz
  have n0 := K.nn
  have nI : N 3 = n := by omega
  have e19 : S 38 0 19 = W 38 0 19 := T.2.2.2.2
  have a15 : ac N 15 0 := Nat.zero_lt_succ _
  have i3 : 3 < N 1 + 5 := by omega
  obtain ⟨b0, b1, b2, b3, b3a, b4, b5, b6, b7, b8, b9⟩ := id rk
  unfold vX10_addDraft
  refine c_newT R nI (fun A1 h1 C1 P1 e1 D1 R1 c1 p1 => ?_)
  have am : ac N 14 ((r 1).toNat + 1) := show (r 1).toNat + 1 < N 2 + 1 by omega
  rw [← e1 19 0 a19]
  refine g_mdt D1 (nn_i (m_trs D1 (nn_i (wio D1 (j := 6) (i := 3) i3 rfl (by decide) (ysize D1 i3 (fun x8 h8 => ?_))))))
  rw [c1 6 3 2 (by omega)] at h8
  refine g_drf D1 (nn_i (ygr D1 a15 rfl ((p1 15 0 2 (by omega)).trans dp.2) ?_))
  refine c_initTrans (a := (n : Int)) D1.2 (nac15 nI) R1 am (by omega) (fun A2 h2 C2 P2 e2 D2 c2 p2 g0 => ?_)
  rw [nI] at e2 c2 p2 g0
  have acE : ∀ j i, ac N j i → A2 j i = A1 j i := fun j i a => e2 j i (fun z => nac15 nI j i a (by omega))
  have b15 : A2 15 (n + 1) = A1 15 (n + 1) := e2 15 (n + 1) (by omega)
  rw [nI, ← acE 19 0 a19, ← b15]
  have u0 : upN N 3 3 = N 3 + 1 := if_pos rfl
  have a15' : ac (upN N 3) 15 (n + 1) := show n + 1 < upN N 3 3 + 1 by omega
  have up : ∀ j i, ac N j i → ac (upN N 3) j i := fun j i a => (ac_trans N j i).mpr (Or.inl (Or.inl (Or.inl (Or.inl a))))
  have cc2 : ∀ j x f : Nat, ¬ (15 ≤ j ∧ j ≤ 18 ∧ x = n + 1) → C2 j x f = C j x f := fun j x f hj => by rw [c2 j x f hj, c1 j x f (by omega)]
  have pp2 : ∀ j x f : Nat, ¬ (15 ≤ j ∧ j ≤ 18 ∧ x = n + 1) → P2 j x f = P j x f := fun j x f hj => by rw [p2 j x f hj, p1 j x f (by omega)]
  have d2 : DR r C2 := by
    obtain ⟨⟨q1, q2, q3, q4, q5, q6⟩, qk⟩ := d
    refine ⟨⟨?_, ?_, ?_, ?_, ?_, ?_⟩, fun k hk => ?_⟩
    · rw [cc2 _ _ _ (by omega)]; exact q1
    · rw [cc2 _ _ _ (by omega)]; exact q2
    · rw [cc2 _ _ _ (by omega)]; exact q3
    · rw [cc2 _ _ _ (by omega)]; exact q4
    · rw [cc2 _ _ _ (by omega)]; exact q5
    · rw [cc2 _ _ _ (by omega)]; exact q6
    · rw [cc2 _ _ _ (by omega), cc2 _ _ _ (by omega), cc2 _ _ _ (by omega)]; exact qk k hk
  refine g_drf D2 (wio D2 a15' rfl (by decide) (c_copyT D2 a15' (by omega) d2 b7 b6 ((pp2 15 0 1 (by omega)).trans dp.1) ((pp2 15 0 2 (by omega)).trans dp.2) (up _ _ am) (fun q hq => ?_) (fun h3 C3 P3 D3 c3 p3 t1 t2 t3 => ?_)))
  · by_cases z : r 0 = -1
    · rw [if_pos z] at hq; cases hq
    · rw [if_neg z] at hq; cases hq
      exact up 14 _ (show (r 0).toNat + 1 < N 2 + 1 by omega)
  have ni : 3 < upN N 3 1 + 5 := by have : upN N 3 1 = N 1 := if_neg (by decide); omega
  refine g_mdt D3 (nn_i (m_trs D3 (nn_i (wio D3 (j := 6) (i := 3) ni rfl (by decide) ?_))))
  refine c_putT K ht hn (by omega) D3 (fun j i a => (acE j i a).trans (e1 j i a)) (fun j x f hj => ?_) (fun j x f hj => ?_) (t2.trans g0) (fun A4 h4 N4 z4 C4 P4 a4 D4 q0 q1 q2 TA same => ?_)
  · rw [c3 j x f hj]; exact cc2 j x f hj
  · rw [p3 j x f (by omega)]; exact pp2 j x f hj
  · have q19 : A4 19 0 = A2 19 0 := q2 19 0 (up 19 0 a19)
    obtain ⟨s1, s2, s3, s4, s5, s6⟩ := id TA
    have sr := fun (j f : Nat) (hj : 15 ≤ j ∧ j ≤ 18) => same j (n + 1) f ⟨hj.1, hj.2, rfl⟩
    have g := fun w hw => addS_r r hn w hw
    have g0' : addS S r 60 0 (17 * n) = r 0 := g 0 (by decide)
    have KK : KS (addS S r) N4 z4 C4 P4 := by
      refine K.atr I hn s2 s3 s5 s4 ?_ ⟨?_, ?_⟩ ⟨s6, ?_, ?_, ?_, ?_, ?_, ?_⟩ (fun k hk => ?_) (fun j f _ hj => addS_o r hn hj)
      · rw [addS_n, hn]
      · rw [(sr 15 1 (by omega)).2, t1.1, g0']
      · rw [(sr 15 2 (by omega)).2, t1.2, g 1 (by decide)]
      · rw [(sr 15 3 (by omega)).1, g 2 (by decide)]; exact t3.1.1
      · rw [(sr 15 4 (by omega)).1, g 3 (by decide)]; exact t3.1.2.1
      · rw [(sr 15 5 (by omega)).1, g 4 (by decide)]; exact t3.1.2.2.1
      · rw [(sr 15 6 (by omega)).1, g 5 (by decide)]; exact t3.1.2.2.2.1
      · rw [(sr 15 7 (by omega)).1, g 6 (by decide)]; exact t3.1.2.2.2.2.1
      · rw [(sr 15 11 (by omega)).1, g 7 (by decide)]; exact t3.1.2.2.2.2.2
      · rw [g 7 (by decide)] at hk
        have q := t3.2 k hk
        rw [(sr 16 k (by omega)).1, (sr 17 k (by omega)).1, (sr 18 k (by omega)).1, show 17 * n + 8 + 3 * k = 17 * n + (8 + 3 * k) by omega, show 17 * n + (8 + 3 * k) + 1 = 17 * n + (8 + 3 * k + 1) by omega, show 17 * n + (8 + 3 * k) + 2 = 17 * n + (8 + 3 * k + 2) by omega, g _ (by omega), g _ (by omega), g _ (by omega)]
        exact q
    refine k0 A4 h4 N4 z4 C4 P4 s1 ⟨D4, KK, (s3 _ _ _ (by omega)).trans e, hi⟩ s2 s5.1.2.2.2.2.1 (fun j x f hj => ⟨s3 j x f (by omega), s4 j x f (by have := s5.1.2.2.2.1; omega)⟩) (A4 19 0) rfl (s1 19 0 a19)
end CAD
