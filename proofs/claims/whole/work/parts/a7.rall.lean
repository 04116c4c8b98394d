/-! ===== the reference reads all, faults, loads ===== -/
section RAL
variable {h : gH} {A : dA} {N zz : Nat → Nat} {S W C C' C1 C0 : dC} {P : dP} {i n m : Nat} {ad : Bool} {fi : Int} {r : dM} {Qn : Int32 → gH → Prop}
/-- not a column of the reader -/
def nr (j f : Nat) : Prop := ¬ (j = 38 ∧ 30 ≤ f ∧ f ≤ 36)
theorem addS_cg {S S' : dC} (r : dM) (e : ∀ j f, nr j f → S j 0 f = S' j 0 f) : ∀ j f, nr j f → addS S r j 0 f = addS S' r j 0 f := fun j f hj => by
  have e21 : S 38 0 21 = S' 38 0 21 := e 38 21 (by unfold nr; omega)
  unfold addS
  rw [e21, e j f hj]
theorem addsS_cg : ∀ (l : List dM) {S S' : dC}, (∀ j f, nr j f → S j 0 f = S' j 0 f) → ∀ j f, nr j f → addsS S l j 0 f = addsS S' l j 0 f
  | [], S, S', e => e
  | r :: l, S, S', e => addsS_cg l (addS_cg r e)
/-- what the reading of all leaves in the table -/
def FA (ad : Bool) (l : List dM) (C C' : dC) : Prop := (∀ j f : Nat, nr j f → C' j 0 f = (if ad = true then addsS C l else C) j 0 f) ∧ (∀ j x f : Nat, nr j f → ¬ (ad = true ∧ (j = 38 ∧ f = 21 ∨ j = 60)) → C' j x f = C j x f)
theorem FA.rf (C : dC) : FA ad [] C C := ⟨fun j f _ => by cases ad <;> rfl, fun _ _ _ _ _ => rfl⟩
theorem FA.cons {l : List dM} (a : FA ad [r] C C1) (b : FA ad l C1 C') : FA ad (r :: l) C C' := by
  refine ⟨fun j f hj => ?_, fun j x f hj hk => (b.2 j x f hj hk).trans (a.2 j x f hj hk)⟩
  rw [b.1 j f hj]
  cases ad with
  | false => exact a.1 j f hj
  | true => exact addsS_cg l a.1 j f hj
/-- only the reader's columns -/
def Fr_ (C C' : dC) : Prop := ∀ j x f : Nat, nr j f → C' j x f = C j x f
theorem FA.pre {l : List dM} (a : Fr_ C C1) (b : FA ad l C1 C') : FA ad l C C' := by
  refine ⟨fun j f hj => ?_, fun j x f hj hk => (b.2 j x f hj hk).trans (a j x f hj)⟩
  rw [b.1 j f hj]
  cases ad with
  | false => exact a j 0 f hj
  | true => exact addsS_cg l (fun j f hj => a j 0 f hj) j f hj
theorem FA.post {l : List dM} (a : FA ad l C C1) (b : Fr_ C1 C') : FA ad l C C' := ⟨fun j f hj => (b j 0 f hj).trans (a.1 j f hj), fun j x f hj hk => (b j x f hj).trans (a.2 j x f hj hk)⟩
theorem FA.one (hn : C 38 0 21 = (n : Int)) (w : RW ad n r C1) (f : FT ad n C C1) : FA ad [r] C C1 := by
  refine ⟨fun j g hj => ?_, fun j x g hj hk => f j x g (by unfold nr at hj; omega) (fun y => hk ⟨y.1, by omega⟩)⟩
  cases ad with
  | false => exact f j 0 g (by unfold nr at hj; omega) (fun y => by cases y.1)
  | true =>
    obtain ⟨w1, w2⟩ := w rfl
    show C1 j 0 g = addS C r j 0 g
    by_cases a : j = 38 ∧ g = 21
    · rw [a.1, a.2, addS_n, hn, w1]
    · by_cases b : j = 60 ∧ 17 * n ≤ g ∧ g < 17 * n + 17
      · obtain ⟨b1, b2, b3⟩ := b
        have e : g = 17 * n + (g - 17 * n) := by omega
        rw [b1, e, addS_r r hn _ (by omega)]
        exact w2 _ (by omega)
      · rw [addS_o r hn (by omega)]
        exact f j 0 g (by unfold nr at hj; omega) (fun y => by omega)
theorem Fz.r_ (a : Fz C C') : Fr_ C C' := fun j x f hj => a j x f (by unfold nr at hj; omega)
def BY (Qn : Int32 → gH → Prop) (A : dA) (N zz : Nat → Nat) (W C : dC) (P : dP) (ad : Bool) (c34 : Nat) (x : Nat × Option (List dM)) : Prop := (∀ (q : Nat) (l : List dM), x = (q, some l) → ∀ (h' : gH) (C' : dC), RT h' A N zz W C' P ad q 1 → FA ad l C C' → C' 38 0 34 = ((c34 + l.length : Nat) : Int) → ∀ x : Int32, x.toInt = 1 → Qn x h') ∧ (∀ q : Nat, x = (q, none) → ad = false ∧ ∀ (h' : gH) (C' : dC), RT h' A N zz W C' P ad q 0 → Fr_ C C' → ∀ x : Int32, x.toInt = 0 → Qn x h')
theorem BY.mv {c34 : Nat} {x : Nat × Option (List dM)} (X : BY Qn A N zz W C P ad c34 x) (f : Fr_ C C1) : BY Qn A N zz W C1 P ad c34 x := ⟨fun q l e h' C' z g => X.1 q l e h' C' z (FA.pre f g), fun q e => ⟨(X.2 q e).1, fun h' C' z g => (X.2 q e).2 h' C' z (fun j x f' hj => (g j x f' hj).trans (f j x f' hj))⟩⟩
theorem BY.cons {c34 : Nat} {x : Nat × Option (List dM)} (X : BY Qn A N zz W C P ad c34 (pCons r x)) (f : FA ad [r] C C1) : BY Qn A N zz W C1 P ad (c34 + 1) x := by
  obtain ⟨e, o⟩ := x
  cases o with
  | none =>
    refine ⟨fun q l y => (by cases y), fun q y => ?_⟩
    cases y
    have a := X.2 e rfl
    refine ⟨a.1, fun h' C' z g => a.2 h' C' z (fun j x f' hj => (g j x f' hj).trans (f.2 j x f' hj (fun u => by rw [a.1] at u; cases u.1)))⟩
  | some l =>
    refine ⟨fun q l' y h' C' z g e34 => ?_, fun q y => by cases y⟩
    cases y
    refine X.1 e (r :: l) rfl h' C' z (f.cons g) ?_
    rw [e34, List.length_cons]
    omega
theorem t_b82 {q : Nat} (Z : RT h A N zz W C P ad q fi) (hf : fi = 0 ∨ fi = 1) (k : ∀ x : Int32, x.toInt = fi → Qn x h) : vX12_readsAll_b82 Qn h (A 38 0) := by
  unfold vX12_readsAll_b82
  exact t_fi Z (fun x1 hx1 => ⟨gZ_of (by omega), k x1 hx1⟩)
theorem t_b33n {q M : Nat} (Z : RT h A N zz W C P ad q 0) (k : ∀ x : Int32, x.toInt = 0 → Qn x h) : vX12_readsAll_b33 Qn (M + 1) h (A 38 0) := by
  show vX12_readsAll_b33_o (vX12_readsAll_b33 Qn M) Qn h (A 38 0)
  unfold vX12_readsAll_b33_o
  exact t_fi Z (fun x1 hx1 => ceq32 hx1 (vl (by decide)) (fun _ => t_b82 Z (Or.inl rfl) k) (fun y => absurd rfl y))
/-- the reading goes on behind a transition -/
theorem t_after {K : gH → Prop} {q c34 : Nat} (Z : RT h A N zz W C P ad q fi) (IW : SI W) (h34 : C 38 0 34 = (c34 : Int)) (hb : c34 ≤ 1000) (k : ∀ (h' : gH) (C' : dC), RT h' A N zz W C' P ad (sk W q) fi → Fr_ C C' → C' 38 0 34 = ((c34 + 1 : Nat) : Int) → (C' 38 0 21 = C 38 0 21) → K h') : gi h (A 38 0) 15 34 (fun x5 => pv h (A 38 0) 15 34 (.int (x5 + 1)) (fun h6 => io h6 (A 38 0) 15 (vX12_skips (fun h7 => K h7) h6 (A 38 0)))) := by
  refine ygi Z.1 a38 rfl h34 (fun x5 hx5 => wpvI Z.1 a38 rfl (v := ((c34 + 1 : Nat) : Int)) (ix_add hx5 (ix_lit (by decide)) (by omega)) (fun h6 R6 => io38_ R6 ?_))
  have Z6 := Z.oth (Or.inl rfl) R6
  refine t_skips Z6 IW (fun h7 C7 Z7 f7 => k h7 C7 Z7 (fun j x f hj => ?_) ?_ ?_)
  · rw [f7 j x f (by unfold nr at hj; omega), up3_ne _ _ (by unfold nr at hj; omega)]
  · rw [f7 _ _ _ (by omega), up3_same]
  · rw [f7 _ _ _ (by omega), up3_ne _ _ (by omega)]
theorem t_alltr (IW : SI W) : ∀ (m i n c34 k : Nat) (h : gH) (C : dC) (fi : Int) (K : gH → Prop), RT h A N zz W C P ad i fi → C 38 0 21 = (n : Int) → C 38 0 34 = (c34 : Int) → k = (if ad = true then n else n + c34) → n ≤ 24 → c34 ≤ k → k + m = 24 → (∀ h9, vX12_readsAll_b33 Qn (m + 1) h9 (A 38 0) → K h9) → BY Qn A N zz W C P ad c34 (pAll W m i) → vX12_readsTransition (fun h4 => gi h4 (A 38 0) 15 34 (fun x5 => pv h4 (A 38 0) 15 34 (.int (x5 + 1)) (fun h6 => io h6 (A 38 0) 15 (vX12_skips (fun h7 => K h7) h6 (A 38 0))))) h (A 38 0) := by
  intro m
  induction m with
  | zero =>
    intro i n c34 k h C fi K Z hc h34 hk hn hb hm kK X
    refine t_trans Z IW hc h34 hk hn (by omega) ⟨fun q r' e => ?_, fun q e h1 C1 Z1 f1 => ?_⟩
    · unfold pRm at e
      rw [if_neg (by omega)] at e
      cases e
    · unfold pRm at e
      rw [if_neg (by omega)] at e
      cases e
      have x2 := X.2 (sk W i) rfl
      have ad0 := x2.1
      refine t_after (c34 := c34) Z1 IW ((f1 _ _ _ (by omega) (by omega)).trans h34) (by omega) (fun h2 C2 Z2 f2 _ _ => kK h2 (t_b33n Z2 (fun x hx => ?_)))
      rw [sk_sk] at Z2
      refine x2.2 h2 C2 Z2 (fun j x f hj => (f2 j x f hj).trans (f1 j x f (by unfold nr at hj; omega) (fun y => by rw [ad0] at y; cases y.1))) x hx
  | succ m ih =>
    intro i n c34 k h C fi K Z hc h34 hk hn hb hm kK X
    have le := Z.2.2.2.2.2
    have k24 : k < 24 := by omega
    refine t_trans Z IW hc h34 hk hn (by omega) ⟨fun q r' e => ?_, fun q e h1 C1 Z1 f1 => ?_⟩
    · unfold pRm at e
      rw [if_pos k24] at e
      rw [pAll_some e] at X
      refine ⟨fun fq h1 C1 Z1 w1 f1 => ?_, fun fq h1 C1 Z1 f1 => ?_⟩
      · have one := FA.one hc w1 f1
        have c341 : C1 38 0 34 = (c34 : Int) := (f1 _ _ _ (by omega) (by omega)).trans h34
        refine t_after (c34 := c34) Z1 IW c341 (by omega) (fun h2 C2 Z2 f2 e34 e21 => kK h2 ?_)
        rw [sk_sk] at Z2
        have X2 := (X.cons one).mv f2
        unfold pRest at X2
        have le2 := Z2.2.2.2.2.2
        show vX12_readsAll_b33_o (vX12_readsAll_b33 Qn (m + 1)) Qn h2 (A 38 0)
        unfold vX12_readsAll_b33_o
        refine t_fi Z2 (fun x1 hx1 => ceq32 hx1 (vl (by decide)) (fun y => absurd y (by decide)) (fun _ => t_at Z2 (fun x2 hx2 => ygi Z2.1 a38 rfl (Z2.len IW) (fun x3 hx3 => cle32 hx3 hx2 (fun y => ?_) (fun y => ?_)))))
        · rw [if_pos (tb_ge (by omega))] at X2
          exact t_b82 Z2 (Or.inr rfl) (X2.1 (sk W q) [] rfl h2 C2 Z2 (FA.rf C2) (by rw [e34]; rfl))
        · have hb2 : tb W (sk W q) ≠ -1 := by
            have rr := IW.tx (sk W q) (by have := (W_len IW).2; omega)
            rw [tb_lt (by omega)]
            omega
          have f59 : tb W (sk W q) = 59 := fq.elim (fun u => absurd u hb2) id
          rw [if_neg hb2, if_pos f59] at X2
          refine t_at Z2 (fun x4 hx4 => t_wat Z2 (m := sk W q + 1) (ix_add hx4 (ix_lit (by decide)) (by have := (W_len IW).2; omega)) (by omega) (fun h5 C5 Z5 f5 => io38_ Z5.1 ?_))
          have X5 := X2.mv f5.r_
          have e345 : C5 38 0 34 = ((c34 + 1 : Nat) : Int) := (f5 _ _ _ (by omega)).trans e34
          cases ad with
          | false =>
            have hk : k = n + c34 := hk
            have e215 : C5 38 0 21 = (n : Int) := by rw [f5 _ _ _ (by omega), e21, f1 _ _ _ (by omega) (fun y => by cases y.1)]; exact hc
            exact ih (sk W q + 1) n (c34 + 1) (k + 1) h5 C5 1 _ Z5 e215 e345 (by show k + 1 = n + (c34 + 1); omega) hn (by omega) (by omega) (fun h9 y => y) X5
          | true =>
            have hk : k = n := hk
            obtain ⟨w2, _⟩ := w1 rfl
            have e215 : C5 38 0 21 = ((n + 1 : Nat) : Int) := by rw [f5 _ _ _ (by omega), e21, w2]; omega
            exact ih (sk W q + 1) (n + 1) (c34 + 1) (k + 1) h5 C5 1 _ Z5 e215 e345 (by show k + 1 = n + 1; omega) (by omega) (by omega) (by omega) (fun h9 y => y) X5
      · have nq : pRest W m q = (sk W q, none) := by
          unfold pRest
          rw [if_neg (fun y => fq (Or.inl y)), if_neg (fun y => fq (Or.inr y))]
        rw [nq] at X
        have x2 := X.2 (sk W q) rfl
        have ad0 := x2.1
        refine t_after (c34 := c34) Z1 IW ((f1 _ _ _ (by omega) (by omega)).trans h34) (by omega) (fun h2 C2 Z2 f2 _ _ => kK h2 (t_b33n Z2 (fun x hx => ?_)))
        rw [sk_sk] at Z2
        exact x2.2 h2 C2 Z2 (fun j x f hj => (f2 j x f hj).trans (f1 j x f (by unfold nr at hj; omega) (fun y => by rw [ad0] at y; cases y.1))) x hx
    · unfold pRm at e
      rw [if_pos k24] at e
      rw [pAll_none e] at X
      have st := (pTr_ok le IW.ns.1 e).2.2.1 rfl
      have x2 := X.2 q rfl
      have ad0 := x2.1
      refine t_after (c34 := c34) Z1 IW ((f1 _ _ _ (by omega) (by omega)).trans h34) (by omega) (fun h2 C2 Z2 f2 _ _ => kK h2 (t_b33n Z2 (fun x hx => ?_)))
      rw [st] at Z2
      exact x2.2 h2 C2 Z2 (fun j x f hj => (f2 j x f hj).trans (f1 j x f (by unfold nr at hj; omega) (fun y => by rw [ad0] at y; cases y.1))) x hx
theorem t_readsAll {v1 : Int32} (R : D h A N zz C P) (T : TS W C) (IW : SI W) (hc : C 38 0 21 = (n : Int)) (hn : n ≤ 24) (h1 : v1.toInt = if ad = true then 1 else 0) (X : BY Qn A N zz W C P ad 0 (pAll W (24 - n) 0)) : vX12_readsAll Qn h (A 38 0) v1 := by
  have g : gZ v1 := gZ_of (by cases ad; exact Or.inl h1; exact Or.inr h1)
  unfold vX12_readsAll
  refine ⟨g, wpvI R a38 rfl h1 (fun h2 R2 => wpvI R2 a38 rfl (v := 0) (vl (by decide)) (fun h3 R3 => wpvI R3 a38 rfl (v := 0) (vl (by decide)) (fun h4 R4 => io38_ R4 ?_)))⟩
  have fr : Fr_ C (up3 (up3 (up3 C 38 0 32 (if ad = true then 1 else 0)) 38 0 30 0) 38 0 34 0) := fun j x f hj => by
    rw [up3_ne _ _ (by unfold nr at hj; omega), up3_ne _ _ (by unfold nr at hj; omega), up3_ne _ _ (by unfold nr at hj; omega)]
  have X4 := X.mv fr
  have Z4 : RT h4 A N zz W (up3 (up3 (up3 C 38 0 32 (if ad = true then 1 else 0)) 38 0 30 0) 38 0 34 0) P ad 0 (up3 (up3 (up3 C 38 0 32 (if ad = true then 1 else 0)) 38 0 30 0) 38 0 34 0 38 0 31) := by
    refine ⟨R4, T.fz (fun j f hj => fr j 0 f (by unfold nr; omega)), ?_, rfl, ?_, Nat.zero_le _⟩
    · rw [up3_ne _ _ (by omega), up3_same]
      rfl
    · rw [up3_ne _ _ (by omega), up3_ne _ _ (by omega), up3_same]
  refine t_alltr IW (24 - n) 0 n 0 n h4 _ _ _ Z4 ((fr 38 0 21 (by unfold nr; omega)).trans hc) (up3_same _ _ _ _ _) (by cases ad <;> rfl) hn (Nat.zero_le _) (by omega) (fun h9 y => ⟨24 - n + 1, y⟩) X4
theorem rr_fault (R : D h A N zz C P) (I : SI C) (hc : C 38 0 21 = (n : Int)) (k0 : ∀ (x : Int32) (h' : gH) (C' : dC), D h' A N zz C' P → C' 38 0 25 = 0 → (∀ j x f : Nat, nr j f → ¬ (j = 38 ∧ f = 25) → C' j x f = C j x f) → x.toInt = fltN (pAll C (24 - n) 0) → Qn x h') : vX12_fault Qn h (A 38 0) := by
  have i1 := I.nt
  have T : TS C (up3 C 38 0 25 0) := ⟨up3_ne _ _ (by omega), fun _ => up3_ne _ _ (by omega), fun _ => up3_ne _ _ (by omega), up3_ne _ _ (by omega), up3_ne _ _ (by omega)⟩
  unfold vX12_fault vX12_fault_b21
  refine wpvI R a38 rfl (v := 0) (vl (by decide)) (fun h1 R1 => io38_ R1 ?_)
  refine t_readsAll (ad := false) R1 T I ((up3_ne _ _ (by omega)).trans hc) (by omega) (by decide) ⟨fun q l e h' C' Z' f' _ x hx => ?_, fun q e => ⟨rfl, fun h' C' Z' f' x hx => ?_⟩⟩
  · refine ceq32 hx (vl (by decide)) (fun y => absurd y (by decide)) (fun _ => k0 (-1) h' C' Z'.1 ?_ (fun j x f hj hk => ?_) ?_)
    · rw [f'.2 _ _ _ (by unfold nr; omega) (fun y => by cases y.1), up3_same]
    · rw [f'.2 j x f hj (fun y => by cases y.1), up3_ne _ _ (by omega)]
    · rw [e]
      show (-1 : Int32).toInt = -1
      decide
  · refine ceq32 hx (vl (by decide)) (fun _ => t_at Z' (fun x4 hx4 => k0 x4 h' C' Z'.1 ?_ (fun j x f hj hk => ?_) ?_)) (fun y => absurd rfl y)
    · rw [f' _ _ _ (by unfold nr; omega), up3_same]
    · rw [f' j x f hj, up3_ne _ _ (by omega)]
    · rw [e]
      exact hx4
theorem rr_load (R : D h A N zz C P) (I : SI C) (hc : C 38 0 21 = (n : Int))
  (k1 : ∀ q : Nat, pAll C (24 - n) 0 = (q, none) → ∀ (x : Int32) (h' : gH) (C' : dC), D h' A N zz C' P → C' 38 0 25 = 1 → (∀ j x f : Nat, nr j f → ¬ (j = 38 ∧ f = 25) → C' j x f = C j x f) → Qn x h')
  (k0 : ∀ (q : Nat) (l : List dM), pAll C (24 - n) 0 = (q, some l) → ∀ (x : Int32) (h' : gH) (C' : dC), D h' A N zz C' P → C' 38 0 25 = 0 → C' 38 0 24 = 0 → (∀ j f : Nat, nr j f → ¬ (j = 38 ∧ (f = 25 ∨ f = 24)) → C' j 0 f = addsS C l j 0 f) → (∀ j x f : Nat, nr j f → ¬ (j = 38 ∧ (f = 25 ∨ f = 24 ∨ f = 21)) → ¬ (j = 60) → C' j x f = C j x f) → x.toInt = (l.length : Int) → Qn x h') : vX12_load Qn h (A 38 0) := by
  have i1 := I.nt
  have T : TS C (up3 C 38 0 25 0) := ⟨up3_ne _ _ (by omega), fun _ => up3_ne _ _ (by omega), fun _ => up3_ne _ _ (by omega), up3_ne _ _ (by omega), up3_ne _ _ (by omega)⟩
  unfold vX12_load
  refine wpvI R a38 rfl (v := 0) (vl (by decide)) (fun h1 R1 => io38_ R1 ?_)
  have n25 : nr 38 25 := by unfold nr; omega
  have n21 : nr 38 21 := by unfold nr; omega
  refine t_readsAll (ad := false) R1 T I ((up3_ne _ _ (by omega)).trans hc) (by omega) (by decide) ⟨fun q l e h' C' Z' f' _ x hx => ?_, fun q e => ⟨rfl, fun h' C' Z' f' x hx => ?_⟩⟩
  · have f2 : ∀ j x f : Nat, nr j f → C' j x f = up3 C 38 0 25 0 j x f := fun j x f hj => f'.2 j x f hj (fun y => by cases y.1)
    have c21 : C' 38 0 21 = (n : Int) := by rw [f2 _ _ _ n21, up3_ne _ _ (by omega)]; exact hc
    refine cne32 hx (vl (by decide)) (fun _ => io38_ Z'.1 ?_) (fun y => absurd y (by decide))
    refine t_readsAll (ad := true) Z'.1 Z'.2.1 I c21 (by omega) (by decide) ⟨fun q2 l2 e2 h2 C2 Z2 g2 e34 x2 hx2 => ?_, fun q2 e2 => ?_⟩
    · rw [e] at e2
      cases e2
      refine wpvI Z2.1 a38 rfl (v := 0) (vl (by decide)) (fun h6 R6 => ygi R6 a38 rfl (v := ((0 + l.length : Nat) : Int)) ((up3_ne _ _ (by omega)).trans e34) (fun x7 hx7 => ?_))
      have cg : ∀ j f, nr j f → ¬ (j = 38 ∧ f = 25) → addsS C' l j 0 f = addsS C l j 0 f := fun j f hj hk => by
        have a1 := addsS_cg l (S := C') (S' := up3 C 38 0 25 0) (fun j f hj => f2 j 0 f hj) j f hj
        rw [a1]
        have a2 : ∀ (l : List dM) (S S' : dC), S 38 0 21 = S' 38 0 21 → S j 0 f = S' j 0 f → addsS S l j 0 f = addsS S' l j 0 f := by
          intro l
          induction l with
          | nil => exact fun S S' _ y => y
          | cons r l ih =>
            intro S S' y1 y2
            refine ih (addS S r) (addS S' r) ?_ ?_
            · rw [addS_n, addS_n, y1]
            · unfold addS
              rw [y1, y2]
        exact a2 l _ _ (up3_ne _ _ (by omega)) (up3_ne _ _ (by omega))
      have f3 : ∀ j x f : Nat, nr j f → ¬ (j = 38 ∧ f = 21) → ¬ (j = 60) → C2 j x f = up3 C 38 0 25 0 j x f := fun j x f hj h1 h2 => (g2.2 j x f hj (fun y => by omega)).trans (f2 j x f hj)
      refine k0 q l e x7 h6 _ R6 ?_ (up3_same _ _ _ _ _) (fun j f hj hk => ?_) (fun j x f hj h1 h2 => ?_) (by rw [hx7]; omega)
      · rw [up3_ne _ _ (by omega), f3 _ _ _ n25 (by omega) (by omega), up3_same]
      · rw [up3_ne _ _ (by omega), g2.1 j f hj]
        exact cg j f hj (by omega)
      · rw [up3_ne _ _ (by omega), f3 j x f hj (by omega) h2, up3_ne _ _ (by omega)]
    · rw [e] at e2
      cases e2
  · refine cne32 hx (vl (by decide)) (fun y => absurd rfl y) (fun _ => io38_ Z'.1 (r_fails Z'.1 (vl (by decide) : (1 : Int32).toInt = 1) (fun h2 R2 => k1 q e 0 h2 _ R2 (up3_same _ _ _ _ _) (fun j x f hj hk => ?_))))
    rw [up3_ne _ _ (by omega), f' j x f hj, up3_ne _ _ (by omega)]
end RAL
