/-! ===== the class reads all, faults, loads ===== -/
def addsS : dC → List dM → dC
  | S, [] => S
  | S, r :: l => addsS (addS S r) l
def pRest (W : dC) (m q : Nat) : Nat × Option (List dM) := if tb W (sk W q) = -1 then (sk W q, some []) else if tb W (sk W q) = 59 then pAll W m (sk W q + 1) else (sk W q, none)
def pCons (r : dM) : Nat × Option (List dM) → Nat × Option (List dM)
  | (e, none) => (e, none)
  | (e, some l) => (e, some (r :: l))
theorem pAll_some {W : dC} {m i q : Nat} {r : dM} (h : pTr W i = (q, some r)) : pAll W (m + 1) i = pCons r (pRest W m q) := by
  show (match pTr W i with
    | (q, none) => (q, none)
    | (q, some r) => if tb W (sk W q) = -1 then (sk W q, some [r]) else if tb W (sk W q) = 59 then (match pAll W m (sk W q + 1) with
        | (e, none) => (e, none)
        | (e, some l) => (e, some (r :: l)))
      else (sk W q, none)) = _
  rw [h]
  show (if tb W (sk W q) = -1 then (sk W q, some [r]) else if tb W (sk W q) = 59 then (match pAll W m (sk W q + 1) with
        | (e, none) => (e, none)
        | (e, some l) => (e, some (r :: l)))
      else (sk W q, none)) = _
  unfold pRest
  by_cases a : tb W (sk W q) = -1
  · rw [if_pos a, if_pos a]; rfl
  · rw [if_neg a, if_neg a]
    by_cases b : tb W (sk W q) = 59
    · rw [if_pos b, if_pos b]
      cases pAll W m (sk W q + 1) with
      | mk e o =>
        cases o <;> rfl
    · rw [if_neg b, if_neg b]; rfl
theorem pAll_none {W : dC} {m i q : Nat} (h : pTr W i = (q, none)) : pAll W (m + 1) i = (q, none) := by
  show (match pTr W i with
    | (q, none) => (q, none)
    | (q, some r) => if tb W (sk W q) = -1 then (sk W q, some [r]) else if tb W (sk W q) = 59 then (match pAll W m (sk W q + 1) with
        | (e, none) => (e, none)
        | (e, some l) => (e, some (r :: l)))
      else (sk W q, none)) = _
  rw [h]
theorem addsS_n : ∀ (l : List dM) (S : dC), addsS S l 38 0 21 = S 38 0 21 + (l.length : Int)
  | [], S => by show S 38 0 21 = S 38 0 21 + ((0 : Nat) : Int); omega
  | r :: l, S => by
    show addsS (addS S r) l 38 0 21 = _
    rw [addsS_n l (addS S r), addS_n, List.length_cons]
    omega
theorem ac_mono {N N1 : Nat → Nat} (hN : ∀ x, N x ≤ N1 x) {j i : Nat} (a : ac N j i) : ac N1 j i := by
  have h0 := hN 0
  have h1 := hN 1
  have h2 := hN 2
  have h3 := hN 3
  have h4 := hN 4
  unfold ac at *
  split at a <;> first | exact a | omega
section CLL
variable {h : gH} {A : dA} {N zz : Nat → Nat} {S W C C' C0 : dC} {P P' : dP} {t0 i n m : Nat} {Qn : Int32 → gH → Prop} {ad : Bool}
/-- what the reading of all leaves -/
def AX (Qn : Int32 → gH → Prop) (ad : Bool) (W : dC) (A : dA) (N zz : Nat → Nat) (S C : dC) (P : dP) (x : Nat × Option (List dM)) : Prop := (∀ (q : Nat) (l : List dM), x = (q, some l) → ∀ (A1 : dA) (h' : gH) (N1 zz1 : Nat → Nat) (C1 : dC) (P1 : dP), (∀ j i, ac N j i → ac N1 j i) → (∀ j i, ac N j i → A1 j i = A j i) → CR h' A1 N1 zz1 (if ad = true then addsS S l else S) W C1 P1 q → GF C P C1 P1 → (ad = false → A1 = A ∧ N1 = N ∧ zz1 = zz) → Qn (-1) h') ∧ (∀ q : Nat, x = (q, none) → ad = false ∧ ∀ (h' : gH) (C1 : dC) (P1 : dP), CR h' A N zz S W C1 P1 q → GF C P C1 P1 → ∀ y : Int32, y.toInt = (q : Int) → Qn y h')
theorem AX.mv {x : Nat × Option (List dM)} (X : AX Qn ad W A N zz S C P x) (g : GF C P C' P') : AX Qn ad W A N zz S C' P' x := ⟨fun q l e A1 h' N1 z1 C1 P1 a0 a b c => X.1 q l e A1 h' N1 z1 C1 P1 a0 a b (g.tr c), fun q e => ⟨(X.2 q e).1, fun h' C1 P1 a b => (X.2 q e).2 h' C1 P1 a (g.tr b)⟩⟩
theorem AX.cons0 {r : dM} {x : Nat × Option (List dM)} (X : AX Qn false W A N zz S C P (pCons r x)) : AX Qn false W A N zz S C P x := by
  obtain ⟨e, o⟩ := x
  cases o with
  | none => exact X
  | some l => exact ⟨fun q l' e' A1 h' N1 z1 C1 P1 a0 a b c d => X.1 q (r :: l') (by cases e'; rfl) A1 h' N1 z1 C1 P1 a0 a b c d, fun q e' => by cases e'⟩
theorem AX.cons1 {r : dM} {x : Nat × Option (List dM)} {A1 : dA} {N1 zz1 : Nat → Nat} {C1 : dC} {P1 : dP} (X : AX Qn true W A N zz S C P (pCons r x)) (hN : ∀ j i, ac N j i → ac N1 j i) (eA : ∀ j i, ac N j i → A1 j i = A j i) (g : GF C P C1 P1) : AX Qn true W A1 N1 zz1 (addS S r) C1 P1 x := by
  obtain ⟨e, o⟩ := x
  cases o with
  | none => exact ⟨fun q l' e' => (by cases e'), fun q e' => absurd (X.2 q e').1 (by decide)⟩
  | some l => exact ⟨fun q l' e' A2 h' N2 z2 C2 P2 a0 a b c d => X.1 q (r :: l') (by cases e'; rfl) A2 h' N2 z2 C2 P2 (fun j i y => a0 j i (hN j i y)) (fun j i y => (a j i (hN j i y)).trans (eA j i y)) b (g.tr c) (fun y => (by cases y)), fun q e' => by cases e'⟩
theorem GF.f3 (f : Fd3 C C') : GF C P C' P := fun j x g hj => ⟨f j x g (by omega), rfl⟩
/-- the reading of all from a place: with fuel m, its words K -/
def RA (Qn : Int32 → gH → Prop) (t0 : Nat) (ad : Bool) (W : dC) (m : Nat) (K : Nat → gH → Prop) : Prop := ∀ (A : dA) (N zz : Nat → Nat) (S C : dC) (P : dP) (h : gH) (i n : Nat), CR h A N zz S W C P i → TS W S → SI S → A 8 0 = t0 → S 38 0 21 = (n : Int) → n + m ≤ 24 → AX Qn ad W A N zz S C P (pAll W m i) → K (A 19 0) h
theorem ra_exit (Z : CR h A N zz S W C P i) (T : TS W S) (I : SI S) (X : AX Qn ad W A N zz S C P (pAll W 0 i)) : io h (A 19 0) 13 (vX10_nextByte t0 (fun x2 h1 => gi h1 (A 19 0) 13 3 (fun x3 => Qn x3 h1)) h (A 19 0)) :=
  io19 Z.1 (c_next Z T I (fun x2 h1 C1 Z1 f1 hx => ygi Z1.1 a19 rfl Z1.2.2.1 (fun x3 h3 => (X.2 (sk W i) rfl).2 h1 C1 P Z1 (GF.f3 f1) x3 h3)))
theorem ra_b46 {K : Nat → gH → Prop} {q : Nat} (Z : CR h A N zz S W C P q) (T : TS W S) (I : SI S) (ht : A 8 0 = t0) (hn : S 38 0 21 = (n : Int)) (h24 : n + m ≤ 24) (X : AX Qn ad W A N zz S C P (pRest W m q)) (kK : RA Qn t0 ad W m K) : io h (A 19 0) 13 (vX10_nextByte t0 (fun x2 h1 => ((¬ (x2 : Int32) = (-1)) → ((((x2 : Int32) = 59) → (gi h1 (A 19 0) 13 3 (fun x3 => pv h1 (A 19 0) 13 3 (.int (x3 + 1)) (fun h4 => K (A 19 0) h4)))) ∧ ((¬ (x2 : Int32) = 59) → (gi h1 (A 19 0) 13 3 (fun x5 => Qn x5 h1))))) ∧ (((x2 : Int32) = (-1)) → (Qn (-1) h1))) h (A 19 0)) := by
  refine io19 Z.1 (c_next Z T I (fun x2 h1 C1 Z1 f1 hx => ?_))
  have X1 := X.mv (GF.f3 (P := P) f1)
  unfold pRest at X1
  refine cne32 hx (show (-1 : Int32).toInt = -1 by decide) (fun a => ?_) (fun a => ?_)
  · rw [if_neg a] at X1
    refine ceq32 hx (vl (by decide)) (fun b => ?_) (fun b => ?_)
    · rw [if_pos b] at X1
      exact c_inc Z1 (tb_in a) T I (fun h4 C4 Z4 f4 => kK A N zz S C4 P h4 (sk W q + 1) n Z4 T I ht hn h24 (X1.mv (GF.f3 f4)))
    · rw [if_neg b] at X1
      exact ygi Z1.1 a19 rfl Z1.2.2.1 (fun x3 h3 => (X1.2 (sk W q) rfl).2 h1 C1 P Z1 (GF.rf C1 P) x3 h3)
  · rw [if_pos a] at X1
    refine X1.1 (sk W q) [] rfl A h1 N zz C1 P (fun _ _ y => y) (fun _ _ _ => rfl) ?_ (GF.rf C1 P) (fun _ => ⟨rfl, rfl, rfl⟩)
    have e : (if ad = true then addsS S [] else S) = S := by
      cases ad
      · rfl
      · rfl
    rw [e]
    exact Z1
theorem ra_succ {K : Nat → gH → Prop} {v1 : Int32} (Z : CR h A N zz S W C P i) (T : TS W S) (I : SI S) (IW : SI W) (ht : A 8 0 = t0) (hn : S 38 0 21 = (n : Int)) (h24 : n + (m + 1) ≤ 24) (h1 : v1.toInt = if ad = true then 1 else 0) (X : AX Qn ad W A N zz S C P (pAll W (m + 1) i)) (kK : RA Qn t0 ad W m K) : io h (A 19 0) 13 (vX10_readTransition t0 (fun x5 h4 => ((¬ (x5 : Int32) = 0) → ((((v1 : Int32) = 0) → (io h4 (A 19 0) 13 (vX10_nextByte t0 (fun x2 h1 => ((¬ (x2 : Int32) = (-1)) → ((((x2 : Int32) = 59) → (gi h1 (A 19 0) 13 3 (fun x3 => pv h1 (A 19 0) 13 3 (.int (x3 + 1)) (fun h4 => K (A 19 0) h4)))) ∧ ((¬ (x2 : Int32) = 59) → (gi h1 (A 19 0) 13 3 (fun x5 => Qn x5 h1))))) ∧ (((x2 : Int32) = (-1)) → (Qn (-1) h1))) h4 (A 19 0)))) ∧ ((¬ (v1 : Int32) = 0) → (io h4 (A 19 0) 13 (vX10_addDraft t0 (fun h6 => io h6 (A 19 0) 13 (vX10_nextByte t0 (fun x2 h1 => ((¬ (x2 : Int32) = (-1)) → ((((x2 : Int32) = 59) → (gi h1 (A 19 0) 13 3 (fun x3 => pv h1 (A 19 0) 13 3 (.int (x3 + 1)) (fun h4 => K (A 19 0) h4)))) ∧ ((¬ (x2 : Int32) = 59) → (gi h1 (A 19 0) 13 3 (fun x5 => Qn x5 h1))))) ∧ (((x2 : Int32) = (-1)) → (Qn (-1) h1))) h6 (A 19 0))) h4 (A 19 0)))))) ∧ (((x5 : Int32) = 0) → (gi h4 (A 19 0) 13 3 (fun x7 => Qn x7 h4)))) h (A 19 0)) := by
  refine io19 Z.1 (c_trans Z T I IW ⟨fun q r e h' C' P' Z' d dp fr pr x hx => ?_, fun q e h' C' P' Z' fr pr x hx => ?_⟩)
  · rw [pAll_some e] at X
    have X1 := X.mv (GF.of fr pr)
    have rk := (pTr_ok Z.2.2.2 IW.ns.1 e).2.2.2 r rfl
    refine cne32 hx (vl (by decide)) (fun _ => ?_) (fun z => by omega)
    cases ad with
    | false =>
      have h1 : v1.toInt = 0 := h1
      exact ceq32 h1 (vl (by decide)) (fun _ => ra_b46 Z' T I ht hn (by omega) X1.cons0 kK) (fun z => by omega)
    | true =>
      have h1 : v1.toInt = 1 := h1
      refine ceq32 h1 (vl (by decide)) (fun z => by omega) (fun _ => io19 Z'.1 (c_addDraft Z' T I d dp rk ht hn (by omega) (fun A1 h6 N1 zz1 C1 P1 eA Z6 fN f4 g v0 q1 q2 => ?_)))
      have mono : ∀ j i, ac N j i → ac N1 j i := fun j i a => ac_mono (fun x => by
        by_cases z : x = 4
        · rw [z]; exact f4
        · rw [fN x z]
          unfold upN
          split
          · rename_i y; rw [y]; omega
          · exact Nat.le_refl _) a
      rw [← q2, q1]
      refine ra_b46 (n := n + 1) Z6 (addS_TS r T hn) (addS_SI I T hn (by omega) rk) ((eA 8 0 ⟨Nat.one_pos, by decide⟩).trans ht) ?_ (by omega) (X1.cons1 mono eA g) kK
      rw [addS_n, hn]
      omega
  · rw [pAll_none e] at X
    refine cne32 hx (vl (by decide)) (fun z => by omega) (fun _ => ygi Z'.1 a19 rfl Z'.2.2.1 (fun x7 h7 => (X.2 q rfl).2 h' C' P' Z' (GF.of fr pr) x7 h7))
theorem ra_24 {v1 v2 v3 : Int32} (h2 : v2.toInt = 24) (h3 : v3.toInt = 24) : RA Qn t0 ad W 0 (fun v0 h => vX10_readAll_b21_24 t0 Qn h v0 v1 v2 v3) := by
  intro A N zz S C P h i n Z T I ht hn h24 X
  show vX10_readAll_b21_24 t0 Qn h (A 19 0) v1 v2 v3
  unfold vX10_readAll_b21_24
  exact cle32 h2 h3 (fun _ => ra_exit Z T I X) (fun z => by omega)
theorem ra_23 {v1 v2 v3 : Int32} (IW : SI W) (h1 : v1.toInt = if ad = true then 1 else 0) (m : Nat) (hm : m ≤ 1) (h2 : v2.toInt = ((23 + m : Nat) : Int)) (h3 : v3.toInt = 23) : RA Qn t0 ad W m (fun v0 h => vX10_readAll_b21_23 t0 Qn h v0 v1 v2 v3) := by
  intro A N zz S C P h i n Z T I ht hn h24 X
  show vX10_readAll_b21_23 t0 Qn h (A 19 0) v1 v2 v3
  unfold vX10_readAll_b21_23 vX10_readAll_b46_23
  cases m with
  | zero => exact cle32 h2 h3 (fun _ => ra_exit Z T I X) (fun z => by omega)
  | succ m =>
    have h2' : v2.toInt = ((24 + m : Nat) : Int) := h2.trans (by omega)
    have hm0 : m = 0 := by omega
    subst hm0
    exact cle32 h2 h3 (fun z => by omega) (fun _ => ra_succ (K := fun v0 h => vX10_readAll_b21_24 t0 Qn h v0 v1 v2 (v3 + 1)) Z T I IW ht hn h24 h1 X (ra_24 h2' (add_ti h3 (vl (by decide)) (by decide))))
theorem ra_22 {v1 v2 v3 : Int32} (IW : SI W) (h1 : v1.toInt = if ad = true then 1 else 0) (m : Nat) (hm : m ≤ 2) (h2 : v2.toInt = ((22 + m : Nat) : Int)) (h3 : v3.toInt = 22) : RA Qn t0 ad W m (fun v0 h => vX10_readAll_b21_22 t0 Qn h v0 v1 v2 v3) := by
  intro A N zz S C P h i n Z T I ht hn h24 X
  show vX10_readAll_b21_22 t0 Qn h (A 19 0) v1 v2 v3
  unfold vX10_readAll_b21_22 vX10_readAll_b46_22
  cases m with
  | zero => exact cle32 h2 h3 (fun _ => ra_exit Z T I X) (fun z => by omega)
  | succ m =>
    have h2' : v2.toInt = ((23 + m : Nat) : Int) := h2.trans (by omega)
    exact cle32 h2 h3 (fun z => by omega) (fun _ => ra_succ (K := fun v0 h => vX10_readAll_b21_23 t0 Qn h v0 v1 v2 (v3 + 1)) Z T I IW ht hn h24 h1 X (ra_23 IW h1 m (by omega) h2' (add_ti h3 (vl (by decide)) (by decide))))
theorem ra_21 {v1 v2 v3 : Int32} (IW : SI W) (h1 : v1.toInt = if ad = true then 1 else 0) (m : Nat) (hm : m ≤ 3) (h2 : v2.toInt = ((21 + m : Nat) : Int)) (h3 : v3.toInt = 21) : RA Qn t0 ad W m (fun v0 h => vX10_readAll_b21_21 t0 Qn h v0 v1 v2 v3) := by
  intro A N zz S C P h i n Z T I ht hn h24 X
  show vX10_readAll_b21_21 t0 Qn h (A 19 0) v1 v2 v3
  unfold vX10_readAll_b21_21 vX10_readAll_b46_21
  cases m with
  | zero => exact cle32 h2 h3 (fun _ => ra_exit Z T I X) (fun z => by omega)
  | succ m =>
    have h2' : v2.toInt = ((22 + m : Nat) : Int) := h2.trans (by omega)
    exact cle32 h2 h3 (fun z => by omega) (fun _ => ra_succ (K := fun v0 h => vX10_readAll_b21_22 t0 Qn h v0 v1 v2 (v3 + 1)) Z T I IW ht hn h24 h1 X (ra_22 IW h1 m (by omega) h2' (add_ti h3 (vl (by decide)) (by decide))))
theorem ra_20 {v1 v2 v3 : Int32} (IW : SI W) (h1 : v1.toInt = if ad = true then 1 else 0) (m : Nat) (hm : m ≤ 4) (h2 : v2.toInt = ((20 + m : Nat) : Int)) (h3 : v3.toInt = 20) : RA Qn t0 ad W m (fun v0 h => vX10_readAll_b21_20 t0 Qn h v0 v1 v2 v3) := by
  intro A N zz S C P h i n Z T I ht hn h24 X
  show vX10_readAll_b21_20 t0 Qn h (A 19 0) v1 v2 v3
  unfold vX10_readAll_b21_20 vX10_readAll_b46_20
  cases m with
  | zero => exact cle32 h2 h3 (fun _ => ra_exit Z T I X) (fun z => by omega)
  | succ m =>
    have h2' : v2.toInt = ((21 + m : Nat) : Int) := h2.trans (by omega)
    exact cle32 h2 h3 (fun z => by omega) (fun _ => ra_succ (K := fun v0 h => vX10_readAll_b21_21 t0 Qn h v0 v1 v2 (v3 + 1)) Z T I IW ht hn h24 h1 X (ra_21 IW h1 m (by omega) h2' (add_ti h3 (vl (by decide)) (by decide))))
theorem ra_19 {v1 v2 v3 : Int32} (IW : SI W) (h1 : v1.toInt = if ad = true then 1 else 0) (m : Nat) (hm : m ≤ 5) (h2 : v2.toInt = ((19 + m : Nat) : Int)) (h3 : v3.toInt = 19) : RA Qn t0 ad W m (fun v0 h => vX10_readAll_b21_19 t0 Qn h v0 v1 v2 v3) := by
  intro A N zz S C P h i n Z T I ht hn h24 X
  show vX10_readAll_b21_19 t0 Qn h (A 19 0) v1 v2 v3
  unfold vX10_readAll_b21_19 vX10_readAll_b46_19
  cases m with
  | zero => exact cle32 h2 h3 (fun _ => ra_exit Z T I X) (fun z => by omega)
  | succ m =>
    have h2' : v2.toInt = ((20 + m : Nat) : Int) := h2.trans (by omega)
    exact cle32 h2 h3 (fun z => by omega) (fun _ => ra_succ (K := fun v0 h => vX10_readAll_b21_20 t0 Qn h v0 v1 v2 (v3 + 1)) Z T I IW ht hn h24 h1 X (ra_20 IW h1 m (by omega) h2' (add_ti h3 (vl (by decide)) (by decide))))
theorem ra_18 {v1 v2 v3 : Int32} (IW : SI W) (h1 : v1.toInt = if ad = true then 1 else 0) (m : Nat) (hm : m ≤ 6) (h2 : v2.toInt = ((18 + m : Nat) : Int)) (h3 : v3.toInt = 18) : RA Qn t0 ad W m (fun v0 h => vX10_readAll_b21_18 t0 Qn h v0 v1 v2 v3) := by
  intro A N zz S C P h i n Z T I ht hn h24 X
  show vX10_readAll_b21_18 t0 Qn h (A 19 0) v1 v2 v3
  unfold vX10_readAll_b21_18 vX10_readAll_b46_18
  cases m with
  | zero => exact cle32 h2 h3 (fun _ => ra_exit Z T I X) (fun z => by omega)
  | succ m =>
    have h2' : v2.toInt = ((19 + m : Nat) : Int) := h2.trans (by omega)
    exact cle32 h2 h3 (fun z => by omega) (fun _ => ra_succ (K := fun v0 h => vX10_readAll_b21_19 t0 Qn h v0 v1 v2 (v3 + 1)) Z T I IW ht hn h24 h1 X (ra_19 IW h1 m (by omega) h2' (add_ti h3 (vl (by decide)) (by decide))))
theorem ra_17 {v1 v2 v3 : Int32} (IW : SI W) (h1 : v1.toInt = if ad = true then 1 else 0) (m : Nat) (hm : m ≤ 7) (h2 : v2.toInt = ((17 + m : Nat) : Int)) (h3 : v3.toInt = 17) : RA Qn t0 ad W m (fun v0 h => vX10_readAll_b21_17 t0 Qn h v0 v1 v2 v3) := by
  intro A N zz S C P h i n Z T I ht hn h24 X
  show vX10_readAll_b21_17 t0 Qn h (A 19 0) v1 v2 v3
  unfold vX10_readAll_b21_17 vX10_readAll_b46_17
  cases m with
  | zero => exact cle32 h2 h3 (fun _ => ra_exit Z T I X) (fun z => by omega)
  | succ m =>
    have h2' : v2.toInt = ((18 + m : Nat) : Int) := h2.trans (by omega)
    exact cle32 h2 h3 (fun z => by omega) (fun _ => ra_succ (K := fun v0 h => vX10_readAll_b21_18 t0 Qn h v0 v1 v2 (v3 + 1)) Z T I IW ht hn h24 h1 X (ra_18 IW h1 m (by omega) h2' (add_ti h3 (vl (by decide)) (by decide))))
theorem ra_16 {v1 v2 v3 : Int32} (IW : SI W) (h1 : v1.toInt = if ad = true then 1 else 0) (m : Nat) (hm : m ≤ 8) (h2 : v2.toInt = ((16 + m : Nat) : Int)) (h3 : v3.toInt = 16) : RA Qn t0 ad W m (fun v0 h => vX10_readAll_b21_16 t0 Qn h v0 v1 v2 v3) := by
  intro A N zz S C P h i n Z T I ht hn h24 X
  show vX10_readAll_b21_16 t0 Qn h (A 19 0) v1 v2 v3
  unfold vX10_readAll_b21_16 vX10_readAll_b46_16
  cases m with
  | zero => exact cle32 h2 h3 (fun _ => ra_exit Z T I X) (fun z => by omega)
  | succ m =>
    have h2' : v2.toInt = ((17 + m : Nat) : Int) := h2.trans (by omega)
    exact cle32 h2 h3 (fun z => by omega) (fun _ => ra_succ (K := fun v0 h => vX10_readAll_b21_17 t0 Qn h v0 v1 v2 (v3 + 1)) Z T I IW ht hn h24 h1 X (ra_17 IW h1 m (by omega) h2' (add_ti h3 (vl (by decide)) (by decide))))
theorem ra_15 {v1 v2 v3 : Int32} (IW : SI W) (h1 : v1.toInt = if ad = true then 1 else 0) (m : Nat) (hm : m ≤ 9) (h2 : v2.toInt = ((15 + m : Nat) : Int)) (h3 : v3.toInt = 15) : RA Qn t0 ad W m (fun v0 h => vX10_readAll_b21_15 t0 Qn h v0 v1 v2 v3) := by
  intro A N zz S C P h i n Z T I ht hn h24 X
  show vX10_readAll_b21_15 t0 Qn h (A 19 0) v1 v2 v3
  unfold vX10_readAll_b21_15 vX10_readAll_b46_15
  cases m with
  | zero => exact cle32 h2 h3 (fun _ => ra_exit Z T I X) (fun z => by omega)
  | succ m =>
    have h2' : v2.toInt = ((16 + m : Nat) : Int) := h2.trans (by omega)
    exact cle32 h2 h3 (fun z => by omega) (fun _ => ra_succ (K := fun v0 h => vX10_readAll_b21_16 t0 Qn h v0 v1 v2 (v3 + 1)) Z T I IW ht hn h24 h1 X (ra_16 IW h1 m (by omega) h2' (add_ti h3 (vl (by decide)) (by decide))))
theorem ra_14 {v1 v2 v3 : Int32} (IW : SI W) (h1 : v1.toInt = if ad = true then 1 else 0) (m : Nat) (hm : m ≤ 10) (h2 : v2.toInt = ((14 + m : Nat) : Int)) (h3 : v3.toInt = 14) : RA Qn t0 ad W m (fun v0 h => vX10_readAll_b21_14 t0 Qn h v0 v1 v2 v3) := by
  intro A N zz S C P h i n Z T I ht hn h24 X
  show vX10_readAll_b21_14 t0 Qn h (A 19 0) v1 v2 v3
  unfold vX10_readAll_b21_14 vX10_readAll_b46_14
  cases m with
  | zero => exact cle32 h2 h3 (fun _ => ra_exit Z T I X) (fun z => by omega)
  | succ m =>
    have h2' : v2.toInt = ((15 + m : Nat) : Int) := h2.trans (by omega)
    exact cle32 h2 h3 (fun z => by omega) (fun _ => ra_succ (K := fun v0 h => vX10_readAll_b21_15 t0 Qn h v0 v1 v2 (v3 + 1)) Z T I IW ht hn h24 h1 X (ra_15 IW h1 m (by omega) h2' (add_ti h3 (vl (by decide)) (by decide))))
theorem ra_13 {v1 v2 v3 : Int32} (IW : SI W) (h1 : v1.toInt = if ad = true then 1 else 0) (m : Nat) (hm : m ≤ 11) (h2 : v2.toInt = ((13 + m : Nat) : Int)) (h3 : v3.toInt = 13) : RA Qn t0 ad W m (fun v0 h => vX10_readAll_b21_13 t0 Qn h v0 v1 v2 v3) := by
  intro A N zz S C P h i n Z T I ht hn h24 X
  show vX10_readAll_b21_13 t0 Qn h (A 19 0) v1 v2 v3
  unfold vX10_readAll_b21_13 vX10_readAll_b46_13
  cases m with
  | zero => exact cle32 h2 h3 (fun _ => ra_exit Z T I X) (fun z => by omega)
  | succ m =>
    have h2' : v2.toInt = ((14 + m : Nat) : Int) := h2.trans (by omega)
    exact cle32 h2 h3 (fun z => by omega) (fun _ => ra_succ (K := fun v0 h => vX10_readAll_b21_14 t0 Qn h v0 v1 v2 (v3 + 1)) Z T I IW ht hn h24 h1 X (ra_14 IW h1 m (by omega) h2' (add_ti h3 (vl (by decide)) (by decide))))
theorem ra_12 {v1 v2 v3 : Int32} (IW : SI W) (h1 : v1.toInt = if ad = true then 1 else 0) (m : Nat) (hm : m ≤ 12) (h2 : v2.toInt = ((12 + m : Nat) : Int)) (h3 : v3.toInt = 12) : RA Qn t0 ad W m (fun v0 h => vX10_readAll_b21_12 t0 Qn h v0 v1 v2 v3) := by
  intro A N zz S C P h i n Z T I ht hn h24 X
  show vX10_readAll_b21_12 t0 Qn h (A 19 0) v1 v2 v3
  unfold vX10_readAll_b21_12 vX10_readAll_b46_12
  cases m with
  | zero => exact cle32 h2 h3 (fun _ => ra_exit Z T I X) (fun z => by omega)
  | succ m =>
    have h2' : v2.toInt = ((13 + m : Nat) : Int) := h2.trans (by omega)
    exact cle32 h2 h3 (fun z => by omega) (fun _ => ra_succ (K := fun v0 h => vX10_readAll_b21_13 t0 Qn h v0 v1 v2 (v3 + 1)) Z T I IW ht hn h24 h1 X (ra_13 IW h1 m (by omega) h2' (add_ti h3 (vl (by decide)) (by decide))))
theorem ra_11 {v1 v2 v3 : Int32} (IW : SI W) (h1 : v1.toInt = if ad = true then 1 else 0) (m : Nat) (hm : m ≤ 13) (h2 : v2.toInt = ((11 + m : Nat) : Int)) (h3 : v3.toInt = 11) : RA Qn t0 ad W m (fun v0 h => vX10_readAll_b21_11 t0 Qn h v0 v1 v2 v3) := by
  intro A N zz S C P h i n Z T I ht hn h24 X
  show vX10_readAll_b21_11 t0 Qn h (A 19 0) v1 v2 v3
  unfold vX10_readAll_b21_11 vX10_readAll_b46_11
  cases m with
  | zero => exact cle32 h2 h3 (fun _ => ra_exit Z T I X) (fun z => by omega)
  | succ m =>
    have h2' : v2.toInt = ((12 + m : Nat) : Int) := h2.trans (by omega)
    exact cle32 h2 h3 (fun z => by omega) (fun _ => ra_succ (K := fun v0 h => vX10_readAll_b21_12 t0 Qn h v0 v1 v2 (v3 + 1)) Z T I IW ht hn h24 h1 X (ra_12 IW h1 m (by omega) h2' (add_ti h3 (vl (by decide)) (by decide))))
theorem ra_10 {v1 v2 v3 : Int32} (IW : SI W) (h1 : v1.toInt = if ad = true then 1 else 0) (m : Nat) (hm : m ≤ 14) (h2 : v2.toInt = ((10 + m : Nat) : Int)) (h3 : v3.toInt = 10) : RA Qn t0 ad W m (fun v0 h => vX10_readAll_b21_10 t0 Qn h v0 v1 v2 v3) := by
  intro A N zz S C P h i n Z T I ht hn h24 X
  show vX10_readAll_b21_10 t0 Qn h (A 19 0) v1 v2 v3
  unfold vX10_readAll_b21_10 vX10_readAll_b46_10
  cases m with
  | zero => exact cle32 h2 h3 (fun _ => ra_exit Z T I X) (fun z => by omega)
  | succ m =>
    have h2' : v2.toInt = ((11 + m : Nat) : Int) := h2.trans (by omega)
    exact cle32 h2 h3 (fun z => by omega) (fun _ => ra_succ (K := fun v0 h => vX10_readAll_b21_11 t0 Qn h v0 v1 v2 (v3 + 1)) Z T I IW ht hn h24 h1 X (ra_11 IW h1 m (by omega) h2' (add_ti h3 (vl (by decide)) (by decide))))
theorem ra_9 {v1 v2 v3 : Int32} (IW : SI W) (h1 : v1.toInt = if ad = true then 1 else 0) (m : Nat) (hm : m ≤ 15) (h2 : v2.toInt = ((9 + m : Nat) : Int)) (h3 : v3.toInt = 9) : RA Qn t0 ad W m (fun v0 h => vX10_readAll_b21_9 t0 Qn h v0 v1 v2 v3) := by
  intro A N zz S C P h i n Z T I ht hn h24 X
  show vX10_readAll_b21_9 t0 Qn h (A 19 0) v1 v2 v3
  unfold vX10_readAll_b21_9 vX10_readAll_b46_9
  cases m with
  | zero => exact cle32 h2 h3 (fun _ => ra_exit Z T I X) (fun z => by omega)
  | succ m =>
    have h2' : v2.toInt = ((10 + m : Nat) : Int) := h2.trans (by omega)
    exact cle32 h2 h3 (fun z => by omega) (fun _ => ra_succ (K := fun v0 h => vX10_readAll_b21_10 t0 Qn h v0 v1 v2 (v3 + 1)) Z T I IW ht hn h24 h1 X (ra_10 IW h1 m (by omega) h2' (add_ti h3 (vl (by decide)) (by decide))))
theorem ra_8 {v1 v2 v3 : Int32} (IW : SI W) (h1 : v1.toInt = if ad = true then 1 else 0) (m : Nat) (hm : m ≤ 16) (h2 : v2.toInt = ((8 + m : Nat) : Int)) (h3 : v3.toInt = 8) : RA Qn t0 ad W m (fun v0 h => vX10_readAll_b21_8 t0 Qn h v0 v1 v2 v3) := by
  intro A N zz S C P h i n Z T I ht hn h24 X
  show vX10_readAll_b21_8 t0 Qn h (A 19 0) v1 v2 v3
  unfold vX10_readAll_b21_8 vX10_readAll_b46_8
  cases m with
  | zero => exact cle32 h2 h3 (fun _ => ra_exit Z T I X) (fun z => by omega)
  | succ m =>
    have h2' : v2.toInt = ((9 + m : Nat) : Int) := h2.trans (by omega)
    exact cle32 h2 h3 (fun z => by omega) (fun _ => ra_succ (K := fun v0 h => vX10_readAll_b21_9 t0 Qn h v0 v1 v2 (v3 + 1)) Z T I IW ht hn h24 h1 X (ra_9 IW h1 m (by omega) h2' (add_ti h3 (vl (by decide)) (by decide))))
theorem ra_7 {v1 v2 v3 : Int32} (IW : SI W) (h1 : v1.toInt = if ad = true then 1 else 0) (m : Nat) (hm : m ≤ 17) (h2 : v2.toInt = ((7 + m : Nat) : Int)) (h3 : v3.toInt = 7) : RA Qn t0 ad W m (fun v0 h => vX10_readAll_b21_7 t0 Qn h v0 v1 v2 v3) := by
  intro A N zz S C P h i n Z T I ht hn h24 X
  show vX10_readAll_b21_7 t0 Qn h (A 19 0) v1 v2 v3
  unfold vX10_readAll_b21_7 vX10_readAll_b46_7
  cases m with
  | zero => exact cle32 h2 h3 (fun _ => ra_exit Z T I X) (fun z => by omega)
  | succ m =>
    have h2' : v2.toInt = ((8 + m : Nat) : Int) := h2.trans (by omega)
    exact cle32 h2 h3 (fun z => by omega) (fun _ => ra_succ (K := fun v0 h => vX10_readAll_b21_8 t0 Qn h v0 v1 v2 (v3 + 1)) Z T I IW ht hn h24 h1 X (ra_8 IW h1 m (by omega) h2' (add_ti h3 (vl (by decide)) (by decide))))
theorem ra_6 {v1 v2 v3 : Int32} (IW : SI W) (h1 : v1.toInt = if ad = true then 1 else 0) (m : Nat) (hm : m ≤ 18) (h2 : v2.toInt = ((6 + m : Nat) : Int)) (h3 : v3.toInt = 6) : RA Qn t0 ad W m (fun v0 h => vX10_readAll_b21_6 t0 Qn h v0 v1 v2 v3) := by
  intro A N zz S C P h i n Z T I ht hn h24 X
  show vX10_readAll_b21_6 t0 Qn h (A 19 0) v1 v2 v3
  unfold vX10_readAll_b21_6 vX10_readAll_b46_6
  cases m with
  | zero => exact cle32 h2 h3 (fun _ => ra_exit Z T I X) (fun z => by omega)
  | succ m =>
    have h2' : v2.toInt = ((7 + m : Nat) : Int) := h2.trans (by omega)
    exact cle32 h2 h3 (fun z => by omega) (fun _ => ra_succ (K := fun v0 h => vX10_readAll_b21_7 t0 Qn h v0 v1 v2 (v3 + 1)) Z T I IW ht hn h24 h1 X (ra_7 IW h1 m (by omega) h2' (add_ti h3 (vl (by decide)) (by decide))))
theorem ra_5 {v1 v2 v3 : Int32} (IW : SI W) (h1 : v1.toInt = if ad = true then 1 else 0) (m : Nat) (hm : m ≤ 19) (h2 : v2.toInt = ((5 + m : Nat) : Int)) (h3 : v3.toInt = 5) : RA Qn t0 ad W m (fun v0 h => vX10_readAll_b21_5 t0 Qn h v0 v1 v2 v3) := by
  intro A N zz S C P h i n Z T I ht hn h24 X
  show vX10_readAll_b21_5 t0 Qn h (A 19 0) v1 v2 v3
  unfold vX10_readAll_b21_5 vX10_readAll_b46_5
  cases m with
  | zero => exact cle32 h2 h3 (fun _ => ra_exit Z T I X) (fun z => by omega)
  | succ m =>
    have h2' : v2.toInt = ((6 + m : Nat) : Int) := h2.trans (by omega)
    exact cle32 h2 h3 (fun z => by omega) (fun _ => ra_succ (K := fun v0 h => vX10_readAll_b21_6 t0 Qn h v0 v1 v2 (v3 + 1)) Z T I IW ht hn h24 h1 X (ra_6 IW h1 m (by omega) h2' (add_ti h3 (vl (by decide)) (by decide))))
theorem ra_4 {v1 v2 v3 : Int32} (IW : SI W) (h1 : v1.toInt = if ad = true then 1 else 0) (m : Nat) (hm : m ≤ 20) (h2 : v2.toInt = ((4 + m : Nat) : Int)) (h3 : v3.toInt = 4) : RA Qn t0 ad W m (fun v0 h => vX10_readAll_b21_4 t0 Qn h v0 v1 v2 v3) := by
  intro A N zz S C P h i n Z T I ht hn h24 X
  show vX10_readAll_b21_4 t0 Qn h (A 19 0) v1 v2 v3
  unfold vX10_readAll_b21_4 vX10_readAll_b46_4
  cases m with
  | zero => exact cle32 h2 h3 (fun _ => ra_exit Z T I X) (fun z => by omega)
  | succ m =>
    have h2' : v2.toInt = ((5 + m : Nat) : Int) := h2.trans (by omega)
    exact cle32 h2 h3 (fun z => by omega) (fun _ => ra_succ (K := fun v0 h => vX10_readAll_b21_5 t0 Qn h v0 v1 v2 (v3 + 1)) Z T I IW ht hn h24 h1 X (ra_5 IW h1 m (by omega) h2' (add_ti h3 (vl (by decide)) (by decide))))
theorem ra_3 {v1 v2 v3 : Int32} (IW : SI W) (h1 : v1.toInt = if ad = true then 1 else 0) (m : Nat) (hm : m ≤ 21) (h2 : v2.toInt = ((3 + m : Nat) : Int)) (h3 : v3.toInt = 3) : RA Qn t0 ad W m (fun v0 h => vX10_readAll_b21_3 t0 Qn h v0 v1 v2 v3) := by
  intro A N zz S C P h i n Z T I ht hn h24 X
  show vX10_readAll_b21_3 t0 Qn h (A 19 0) v1 v2 v3
  unfold vX10_readAll_b21_3 vX10_readAll_b46_3
  cases m with
  | zero => exact cle32 h2 h3 (fun _ => ra_exit Z T I X) (fun z => by omega)
  | succ m =>
    have h2' : v2.toInt = ((4 + m : Nat) : Int) := h2.trans (by omega)
    exact cle32 h2 h3 (fun z => by omega) (fun _ => ra_succ (K := fun v0 h => vX10_readAll_b21_4 t0 Qn h v0 v1 v2 (v3 + 1)) Z T I IW ht hn h24 h1 X (ra_4 IW h1 m (by omega) h2' (add_ti h3 (vl (by decide)) (by decide))))
theorem ra_2 {v1 v2 v3 : Int32} (IW : SI W) (h1 : v1.toInt = if ad = true then 1 else 0) (m : Nat) (hm : m ≤ 22) (h2 : v2.toInt = ((2 + m : Nat) : Int)) (h3 : v3.toInt = 2) : RA Qn t0 ad W m (fun v0 h => vX10_readAll_b21_2 t0 Qn h v0 v1 v2 v3) := by
  intro A N zz S C P h i n Z T I ht hn h24 X
  show vX10_readAll_b21_2 t0 Qn h (A 19 0) v1 v2 v3
  unfold vX10_readAll_b21_2 vX10_readAll_b46_2
  cases m with
  | zero => exact cle32 h2 h3 (fun _ => ra_exit Z T I X) (fun z => by omega)
  | succ m =>
    have h2' : v2.toInt = ((3 + m : Nat) : Int) := h2.trans (by omega)
    exact cle32 h2 h3 (fun z => by omega) (fun _ => ra_succ (K := fun v0 h => vX10_readAll_b21_3 t0 Qn h v0 v1 v2 (v3 + 1)) Z T I IW ht hn h24 h1 X (ra_3 IW h1 m (by omega) h2' (add_ti h3 (vl (by decide)) (by decide))))
theorem ra_1 {v1 v2 v3 : Int32} (IW : SI W) (h1 : v1.toInt = if ad = true then 1 else 0) (m : Nat) (hm : m ≤ 23) (h2 : v2.toInt = ((1 + m : Nat) : Int)) (h3 : v3.toInt = 1) : RA Qn t0 ad W m (fun v0 h => vX10_readAll_b21_1 t0 Qn h v0 v1 v2 v3) := by
  intro A N zz S C P h i n Z T I ht hn h24 X
  show vX10_readAll_b21_1 t0 Qn h (A 19 0) v1 v2 v3
  unfold vX10_readAll_b21_1 vX10_readAll_b46_1
  cases m with
  | zero => exact cle32 h2 h3 (fun _ => ra_exit Z T I X) (fun z => by omega)
  | succ m =>
    have h2' : v2.toInt = ((2 + m : Nat) : Int) := h2.trans (by omega)
    exact cle32 h2 h3 (fun z => by omega) (fun _ => ra_succ (K := fun v0 h => vX10_readAll_b21_2 t0 Qn h v0 v1 v2 (v3 + 1)) Z T I IW ht hn h24 h1 X (ra_2 IW h1 m (by omega) h2' (add_ti h3 (vl (by decide)) (by decide))))
theorem ra_0 {v1 v2 v3 : Int32} (IW : SI W) (h1 : v1.toInt = if ad = true then 1 else 0) (m : Nat) (hm : m ≤ 24) (h2 : v2.toInt = ((0 + m : Nat) : Int)) (h3 : v3.toInt = 0) : RA Qn t0 ad W m (fun v0 h => vX10_readAll_b21_0 t0 Qn h v0 v1 v2 v3) := by
  intro A N zz S C P h i n Z T I ht hn h24 X
  show vX10_readAll_b21_0 t0 Qn h (A 19 0) v1 v2 v3
  unfold vX10_readAll_b21_0 vX10_readAll_b46_0
  cases m with
  | zero => exact cle32 h2 h3 (fun _ => ra_exit Z T I X) (fun z => by omega)
  | succ m =>
    have h2' : v2.toInt = ((1 + m : Nat) : Int) := h2.trans (by omega)
    exact cle32 h2 h3 (fun z => by omega) (fun _ => ra_succ (K := fun v0 h => vX10_readAll_b21_1 t0 Qn h v0 v1 v2 (v3 + 1)) Z T I IW ht hn h24 h1 X (ra_1 IW h1 m (by omega) h2' (add_ti h3 (vl (by decide)) (by decide))))
theorem c_readAll {v1 : Int32} (R : D h A N zz C P) (K : KS S N zz C P) (T : TS W S) (I : SI S) (IW : SI W) (ht : A 8 0 = t0) (hn : S 38 0 21 = (n : Int)) (h1 : v1.toInt = if ad = true then 1 else 0) (X : AX Qn ad W A N zz S C P (pAll W (24 - n) 0)) : vX10_readAll t0 Qn h (A 19 0) v1 := by
  have i1 := I.nt
  have sz := K.sz
  have i3 : 3 < N 1 + 5 := by omega
  unfold vX10_readAll
  refine wpvI R a19 rfl (v := 0) (vl (by decide)) (fun h2 R2 => ?_)
  have f : Fd3 C (up3 C 19 0 3 0) := fun j x g hj => up3_ne _ _ (by omega)
  have Z : CR h2 A N zz S W (up3 C 19 0 3 0) P 0 := ⟨R2, K.at3 f, up3_same _ _ _ _ _, Nat.zero_le _⟩
  have X2 := X.mv (GF.f3 (P := P) f)
  generalize up3 C 19 0 3 0 = C2 at *
  have sz2 := Z.2.1.sz
  refine g_mdt R2 (nn_i (m_trs R2 (nn_i (wio R2 (j := 6) (i := 3) i3 rfl (by decide) (ysize R2 i3 (fun x7 h7 => ?_))))))
  have e : (24 - x7).toInt = ((0 + (24 - n) : Nat) : Int) := (sub_ti (vl (by decide) : (24 : Int32).toInt = 24) h7 (by omega)).trans (by omega)
  exact ra_0 IW h1 (24 - n) (by omega) e (by decide) A N zz S C2 P h2 0 n Z T I ht hn (by omega) X2
/-- the fault that a text has -/
def fltN (x : Nat × Option (List dM)) : Int := match x with
  | (q, none) => (q : Int)
  | (_, some _) => -1
theorem q_fault (R : D h A N zz C P) (K : KS S N zz C P) (I : SI S) (ht : A 8 0 = t0) (hn : S 38 0 21 = (n : Int)) (k0 : ∀ (x : Int32) (h' : gH) (C1 : dC) (P1 : dP), D h' A N zz C1 P1 → KS S N zz C1 P1 → GF C P C1 P1 → x.toInt = fltN (pAll S (24 - n) 0) → Qn x h') : vX11_fault t0 Qn h (A 0 0) := by
  have T : TS S S := ⟨rfl, fun _ => rfl, fun _ => rfl, rfl, rfl⟩
  unfold vX11_fault
  refine g_txt R (nn_i (io19 R (c_readAll (ad := false) R K T I I ht hn (by decide) ⟨fun q l e A1 h' N1 zz1 C1 P1 hN eA Z g d => ?_, fun q e => ⟨rfl, fun h' C1 P1 Z g y hy => ?_⟩⟩)))
  · obtain ⟨d1, d2, d3⟩ := d rfl
    subst d1 d2 d3
    refine k0 (-1) h' C1 P1 Z.1 Z.2.1 g ?_
    rw [e]
    show (-1 : Int32).toInt = -1
    decide
  · refine k0 y h' C1 P1 Z.1 Z.2.1 g ?_
    rw [e]
    exact hy
theorem q_load {Qx : String → gH → Prop} (R : D h A N zz C P) (K : KS S N zz C P) (I : SI S) (ht : A 8 0 = t0) (hn : S 38 0 21 = (n : Int)) (kx : ∀ q : Nat, pAll S (24 - n) 0 = (q, none) → ∀ (h' : gH) (C1 : dC) (P1 : dP), D h' A N zz C1 P1 → KS S N zz C1 P1 → GF C P C1 P1 → Qx "java/lang/IllegalStateException" h')
  (k0 : ∀ (q : Nat) (l : List dM), pAll S (24 - n) 0 = (q, some l) → ∀ (x : Int32) (A1 : dA) (h' : gH) (N1 zz1 : Nat → Nat) (C1 : dC) (P1 : dP), (∀ j i, ac N j i → ac N1 j i) → (∀ j i, ac N j i → A1 j i = A j i) → D h' A1 N1 zz1 C1 P1 → KS (up3 (addsS S l) 38 0 24 0) N1 zz1 C1 P1 → GF C P C1 P1 → x.toInt = (l.length : Int) → Qn x h') : vX11_load t0 Qn Qx h (A 0 0) := by
  have T : TS S S := ⟨rfl, fun _ => rfl, fun _ => rfl, rfl, rfl⟩
  have i1 := I.nt
  have i3 : ∀ N : Nat → Nat, 3 < N 1 + 5 := fun N => by omega
  unfold vX11_load
  refine g_txt R (nn_i (io19 R (c_readAll (ad := false) R K T I I ht hn (by decide) ⟨fun q l e A1 h' N1 zz1 C1 P1 hN eA Z g d => ?_, fun q e => ⟨rfl, fun h' C1 P1 Z g y hy => ?_⟩⟩)))
  · obtain ⟨d1, d2, d3⟩ := d rfl
    subst d1 d2 d3
    obtain ⟨R1, K1, _, _⟩ := Z
    have R1 : D h' A1 N1 zz1 C1 P1 := R1
    have K1 : KS S N1 zz1 C1 P1 := K1
    have sz1 := K1.sz
    refine ⟨fun _ => ?_, fun z => absurd rfl z⟩
    refine g_mdl R1 (nn_i (m_trs R1 (nn_i (wio R1 (j := 6) (i := 3) (i3 _) rfl (by decide) (ysize R1 (i3 _) (fun x10 h10 => ?_))))))
    refine g_txt R1 (nn_i (io19 R1 (c_readAll (ad := true) R1 K1 T I I ht hn (by decide) ⟨fun q2 l2 e2 A2 h2 N2 zz2 C2 P2 hN2 eA2 Z2 g2 _ => ?_, fun q2 e2 => ?_⟩)))
    · rw [e] at e2
      cases e2
      obtain ⟨R2, K2, _, _⟩ := Z2
      have K2 : KS (addsS S l) N2 zz2 C2 P2 := K2
      rw [← eA2 0 0 a00]
      refine g_txt R2 (nn_i (wpvI R2 a19 rfl (v := 0) (vl (by decide)) (fun h3 R3 => ?_)))
      have K3 : KS (up3 (addsS S l) 38 0 24 0) N2 zz2 (up3 C2 19 0 2 0) P2 := K2.clt (up3_same _ _ _ _ _) (fun j f _ hj => up3_ne _ _ (by omega))
      have sz3 := K3.sz.2.2.2
      have g3 : GF C2 P2 (up3 C2 19 0 2 0) P2 := fun j x f hj => ⟨up3_ne _ _ (by omega), rfl⟩
      refine g_mdl R3 (nn_i (m_trs R3 (nn_i (wio R3 (j := 6) (i := 3) (i3 _) rfl (by decide) (ysize R3 (i3 _) (fun x23 h23 => ?_))))))
      have en : up3 (addsS S l) 38 0 24 0 38 0 21 = S 38 0 21 + (l.length : Int) := (up3_ne _ _ (by omega)).trans (addsS_n l S)
      have s3 := sz1.2.2.2
      have r9 := fb_rng x23
      refine k0 q l e _ A2 h3 N2 zz2 _ P2 hN2 eA2 R3 K3 ((g.tr g2).tr g3) ?_
      refine (sub_ti h23 h10 ?_).trans ?_
      · rw [h23] at r9
        omega
      · omega
    · rw [e] at e2
      cases e2
  · have r9 := hy
    refine ⟨fun z => ?_, fun _ => kx q e h' C1 P1 Z.1 Z.2.1 g⟩
    rw [z] at hy
    exact absurd hy (by rw [show (-1 : Int32).toInt = -1 by decide]; omega)
end CLL
