/-! ===== the class: candidates ===== -/
theorem fO_snoc (p : Nat → Bool) : ∀ m k : Nat, fO p (m + 1) k = match fO p m k with
    | some t => some t
    | none => if p (k + m) = true then some (k + m) else none
  | 0, k => by
    show (if p k = true then some k else none) = _
    rfl
  | m + 1, k => by
    have ih := fO_snoc p m (k + 1)
    have e1 : fO p (m + 1 + 1) k = if p k = true then some k else fO p (m + 1) (k + 1) := rfl
    have e2 : fO p (m + 1) k = if p k = true then some k else fO p m (k + 1) := rfl
    rw [e1, e2]
    by_cases z : p k = true
    · rw [if_pos z, if_pos z]
    · rw [if_neg z, if_neg z, ih, show k + 1 + m = k + (m + 1) by omega]
theorem fO_none {p : Nat → Bool} : ∀ {m k : Nat}, (∀ t, k ≤ t → t < k + m → p t ≠ true) → fO p m k = none
  | 0, _, _ => rfl
  | m + 1, k, h => by
    unfold fO
    rw [if_neg (h k (Nat.le_refl _) (by omega))]
    exact fO_none fun t h1 h2 => h t (by omega) (by omega)
theorem frs_none {S : dC} {M : dM} {l : Int} (h : ∀ t, lst S M t ≠ l) : frs S M l = none := by
  unfold frs
  rw [fO_none fun t _ _ z => h t ((posB_of S M l true t).mp z).2.1]
  exact fO_none fun t _ _ z => h t ((posB_of S M l false t).mp z).2.1
/-- what a scan has found below n -/
def fnd (S : dC) (M : dM) (l : Int) (n : Nat) : Option Nat := match fO (posB S M l true) n 0 with
  | some t => some t
  | none => fO (posB S M l false) n 0
theorem fnd_end (S : dC) (M : dM) (l : Int) : fnd S M l (nT S) = frs S M l := rfl
theorem fnd_step (S : dC) (M : dM) (l : Int) (n : Nat) : fnd S M l (n + 1) = match fnd S M l n with
    | none => if lst S M n = l ∧ agn S M n l = 0 then some n else none
    | some t => if S 60 0 (17 * t) ≠ -1 ∧ S 60 0 (17 * n) = -1 ∧ lst S M n = l ∧ agn S M n l = 0 then some n else some t := by
  unfold fnd
  rw [fO_snoc (posB S M l true), fO_snoc (posB S M l false), Nat.zero_add]
  have pt := posB_of S M l true n
  have pf := posB_of S M l false n
  cases h1 : fO (posB S M l true) n 0 with
  | some t =>
    have := (posB_of S M l true t).mp (fO_in h1).2.2
    have e : S 60 0 (17 * t) = -1 := this.1.mpr rfl
    exact (if_neg fun z => z.1 e).symm
  | none =>
    by_cases c1 : posB S M l true n = true
    · have c1' := pt.mp c1
      have e : S 60 0 (17 * n) = -1 := c1'.1.mpr rfl
      simp only [c1, if_true]
      cases h2 : fO (posB S M l false) n 0 with
      | some t =>
        have := (posB_of S M l false t).mp (fO_in h2).2.2
        have e2 : S 60 0 (17 * t) ≠ -1 := fun z => by have := this.1.mp z; cases this
        exact (if_pos ⟨e2, e, c1'.2⟩).symm
      | none => exact (if_pos c1'.2).symm
    · simp only [c1, if_false]
      cases h2 : fO (posB S M l false) n 0 with
      | some t => exact (if_neg fun z => c1 (pt.mpr ⟨⟨fun _ => rfl, fun _ => z.2.1⟩, z.2.2⟩)).symm
      | none =>
        by_cases c2 : posB S M l false n = true
        · simp only [c2, if_true]
          exact (if_pos (pf.mp c2).2).symm
        · simp only [c2, if_false]
          refine (if_neg fun z => ?_).symm
          by_cases y : S 60 0 (17 * n) = -1
          · exact c1 (pt.mpr ⟨⟨fun _ => rfl, fun _ => y⟩, z⟩)
          · exact c2 (pf.mpr ⟨⟨fun q => absurd q y, fun q => by cases q⟩, z⟩)
theorem fnd_in {S : dC} {M : dM} {l : Int} {n t : Nat} (h : fnd S M l n = some t) : t < n ∧ lst S M t = l := by
  unfold fnd at h
  cases h1 : fO (posB S M l true) n 0 with
  | some u =>
    rw [h1] at h
    cases h
    have := fO_in h1
    exact ⟨by omega, ((posB_of S M l true t).mp this.2.2).2.1⟩
  | none =>
    rw [h1] at h
    replace h : fO (posB S M l false) n 0 = some t := h
    have := fO_in h
    exact ⟨by omega, ((posB_of S M l false t).mp this.2.2).2.1⟩
section CC
variable {h : gH} {A : dA} {N zz : Nat → Nat} {S C C0 : dC} {P P0 : dP} {t0 k : Nat} {tq tb : Int} {M : dM}
theorem tr_in {t : Nat} (K : KS S N zz C P) (ht : (t : Int) < S 38 0 21) : ac N 15 (t + 1) := show t + 1 < N 3 + 1 by have := K.nn; omega
theorem c_listed {Qn : Int32 → gH → Prop} {t l b : Nat} (R : D h A N zz C P) (K : KS S N zz C P) (I : SI S) (ht : (t : Int) < S 38 0 21) (hl : (l : Int) < S 38 0 19) (hb : (b : Int) < S 38 0 19) (k1 : inL S t (l : Int) → ¬ isBk S t (b : Int) → Qn 1 h) (k0 : ¬ (inL S t (l : Int) ∧ ¬ isBk S t (b : Int)) → Qn 0 h) : vX9_isListed t0 Qn h (A 15 (t + 1)) (some (A 14 (l + 1))) (some (A 14 (b + 1))) := by
  have nn := K.nn
  have i1 := I.tf t ht
  have i2 := I.tt t ht
  have tf := K.tf t (by omega)
  have aT := tr_in K ht
  have k1 : (S 60 0 (17 * t) = -1 ∨ S 60 0 (17 * t) = (l : Int)) → ¬ (S 60 0 (17 * t) = -1 ∧ S 60 0 (17 * t + 1) = (b : Int)) → Qn 1 h := k1
  have k0 : ¬ ((S 60 0 (17 * t) = -1 ∨ S 60 0 (17 * t) = (l : Int)) ∧ ¬ (S 60 0 (17 * t) = -1 ∧ S 60 0 (17 * t + 1) = (b : Int))) → Qn 0 h := k0
  unfold vX9_isListed vX9_isListed_b36
  by_cases hz : S 60 0 (17 * t) = -1
  · rw [if_pos hz] at tf
    refine ygn R aT rfl tf.1 ⟨fun _ => ygr R aT rfl tf.2 ⟨fun z => ⟨gZ_of (by decide), k0 ?_⟩, fun z => ⟨gZ_of (by decide), k1 (Or.inl hz) ?_⟩⟩, fun a z => by cases z⟩
    · have e := (R.inj (st_in K (s := (S 60 0 (17 * t + 1)).toNat) (by omega)) (st_in K hb)).mp (Option.some.inj z)
      omega
    · exact fun y => z (by rw [show (S 60 0 (17 * t + 1)).toNat = b by omega])
  · rw [if_neg hz] at tf
    refine ygr R aT rfl tf.1 ⟨(fun z => by cases z), fun a _ => ygr R aT rfl tf.1 ⟨fun z => ⟨gZ_of (by decide), k0 ?_⟩, fun z => ⟨gZ_of (by decide), k1 (Or.inr ?_) ?_⟩⟩⟩
    · exact fun y => z (by rw [show (S 60 0 (17 * t)).toNat = l by omega])
    · have e := (R.inj (st_in K (s := (S 60 0 (17 * t)).toNat) (by omega)) (st_in K hl)).mp (Option.some.inj z)
      omega
    · exact fun y => hz y.1
theorem c_org112 {Qn : Int32 → gH → Prop} {t : Nat} {s0 : Int32} (hk : k < 4) (Z : CQ h A N zz S k tq C0 P0 C P M) (I : SI S) (J : MI S tb M) (h8 : M 8 = 1) (ht : (t : Int) < S 38 0 21) (hx : (t : Int) ≠ M 9) (h11 : M 11 < 2) (hs0 : (inS S M t ∧ s0 = 1) ∨ (¬ inS S M t ∧ s0 = 0)) (k0 : ∀ x : Int32, x.toInt = lst S M t → Qn x h) : vX3_originOf_b112 t0 Qn h (A 21 k) (some (A 15 (t + 1))) s0 := by
  obtain ⟨R, K, JC, F, G⟩ := Z
  have j9 := J.sb h8
  have jx := J.xx h8
  have nn := K.nn
  have mx := JC.mx h8
  have sB := (JC.sb h8).1
  have tr := K.tr (M 9).toNat (by omega)
  have md := I.tm (M 9).toNat (by omega)
  have am : ac N 21 k := hk
  have a24 : ac N 24 k := hk
  have aX : ac N 15 ((M 9).toNat + 1) := tr_in K (by omega)
  have e16 : (((M 16).toNat : Nat) : Int) = M 16 := by omega
  have hm : modS S M = S 60 0 (17 * (M 9).toNat + 5) := by unfold modS; rw [if_pos h11]
  have h8' : ¬ M 8 = 0 := by omega
  unfold vX3_originOf_b112 vX3_originOf_b181 vX3_originOf_b192 vX3_originOf_b211 vX3_originOf_b230
  have fin : ∀ x9 : Int32, ((inT S M t ∧ x9 = 1) ∨ (¬ inT S M t ∧ x9 = 0)) → ∀ x12 : Int32, x12.toInt = S 60 0 (17 * (M 9).toNat + 5) → ((x12 : Int32).toInt = 1 → ((((s0 : Int32) = 0) → (Qn 0 h)) ∧ ((¬ (s0 : Int32) = 0) → (Qn 1 h)))) ∧ ((x12 : Int32).toInt = 2 → ((((x9 : Int32) = 0) → (Qn 0 h)) ∧ ((¬ (x9 : Int32) = 0) → (Qn 2 h)))) ∧ ((x12 : Int32).toInt = 3 → ((((s0 : Int32) = 0) → ((((x9 : Int32) = 0) → (Qn 0 h)) ∧ ((¬ (x9 : Int32) = 0) → (Qn 2 h)))) ∧ ((¬ (s0 : Int32) = 0) → (Qn 1 h)))) ∧ ((x12 : Int32).toInt = 4 → ((((x9 : Int32) = 0) → ((((s0 : Int32) = 0) → (Qn 0 h)) ∧ ((¬ (s0 : Int32) = 0) → (Qn 1 h)))) ∧ ((¬ (x9 : Int32) = 0) → (Qn 2 h)))) ∧ (((x12 : Int32).toInt < 1 ∨ 4 < (x12 : Int32).toInt) → (Qn 0 h)) := by
    intro x9 h9 x12 h12
    rw [← hm] at h12 md
    have mm : modS S M = 0 ∨ modS S M = 1 ∨ modS S M = 2 ∨ modS S M = 3 ∨ modS S M = 4 := by omega
    rcases hs0 with ⟨hS, rfl⟩ | ⟨hS, rfl⟩ <;> rcases h9 with ⟨hT, rfl⟩ | ⟨hT, rfl⟩
    · rcases mm with q | q | q | q | q <;> rw [q] at h12 <;> simp (decide := true) only [lst, if_neg h8', q, if_pos hS, if_pos hT, if_true, if_false] at k0 <;> refine ⟨fun z => ?_, fun z => ?_, fun z => ?_, fun z => ?_, fun z => ?_⟩ <;> first | (exfalso; omega) | (refine ⟨fun y => ?_, fun y => ?_⟩ <;> first | exact k0 _ (by decide) | exact absurd y (by decide) | (refine ⟨fun w => ?_, fun w => ?_⟩ <;> first | exact k0 _ (by decide) | exact absurd w (by decide))) | exact k0 _ (by decide)
    · rcases mm with q | q | q | q | q <;> rw [q] at h12 <;> simp (decide := true) only [lst, if_neg h8', q, if_pos hS, if_neg hT, if_true, if_false] at k0 <;> refine ⟨fun z => ?_, fun z => ?_, fun z => ?_, fun z => ?_, fun z => ?_⟩ <;> first | (exfalso; omega) | (refine ⟨fun y => ?_, fun y => ?_⟩ <;> first | exact k0 _ (by decide) | exact absurd y (by decide) | (refine ⟨fun w => ?_, fun w => ?_⟩ <;> first | exact k0 _ (by decide) | exact absurd w (by decide))) | exact k0 _ (by decide)
    · rcases mm with q | q | q | q | q <;> rw [q] at h12 <;> simp (decide := true) only [lst, if_neg h8', q, if_neg hS, if_pos hT, if_true, if_false] at k0 <;> refine ⟨fun z => ?_, fun z => ?_, fun z => ?_, fun z => ?_, fun z => ?_⟩ <;> first | (exfalso; omega) | (refine ⟨fun y => ?_, fun y => ?_⟩ <;> first | exact k0 _ (by decide) | exact absurd y (by decide) | (refine ⟨fun w => ?_, fun w => ?_⟩ <;> first | exact k0 _ (by decide) | exact absurd w (by decide))) | exact k0 _ (by decide)
    · rcases mm with q | q | q | q | q <;> rw [q] at h12 <;> simp (decide := true) only [lst, if_neg h8', q, if_neg hS, if_neg hT, if_true, if_false] at k0 <;> refine ⟨fun z => ?_, fun z => ?_, fun z => ?_, fun z => ?_, fun z => ?_⟩ <;> first | (exfalso; omega) | (refine ⟨fun y => ?_, fun y => ?_⟩ <;> first | exact k0 _ (by decide) | exact absurd y (by decide) | (refine ⟨fun w => ?_, fun w => ?_⟩ <;> first | exact k0 _ (by decide) | exact absurd w (by decide))) | exact k0 _ (by decide)
  refine m_tgt hk R (nn_i (ygr R a24 rfl sB (m_tgt hk R (nn_i (ygr R a24 rfl sB (nn_i (wio R (tr_in K ht) rfl (by decide) ?_)))))))
  refine c_listed R K I ht (l := (M 16).toNat) (b := (M 16).toNat) (by omega) (by omega) (fun y1 y2 => ?_) (fun y => ?_)
  · exact ygr R am rfl mx.1 (nn_i (ygi R aX rfl tr.2.2.2.2.1 (fun x12 h12 => fin 1 (Or.inl ⟨⟨by rw [← e16]; exact y1, hx, by rw [← e16]; exact y2⟩, rfl⟩) x12 h12)))
  · exact ygr R am rfl mx.1 (nn_i (ygi R aX rfl tr.2.2.2.2.1 (fun x12 h12 => fin 0 (Or.inr ⟨fun q => y ⟨by rw [e16]; exact q.1, by rw [e16]; exact q.2.2⟩, rfl⟩) x12 h12)))
theorem c_origin {Qn : Int32 → gH → Prop} {t : Nat} (hk : k < 4) (Z : CQ h A N zz S k tq C0 P0 C P M) (I : SI S) (J : MI S tb M) (ht : (t : Int) < S 38 0 21) (k0 : ∀ x : Int32, x.toInt = lst S M t → Qn x h) : vX3_originOf t0 Qn h (A 21 k) (some (A 15 (t + 1))) := by
  obtain ⟨R, K, JC, F, G⟩ := id Z
  have js := J.sa
  have jm := J.mi
  have nn := K.nn
  have tt := I.tt t ht
  have hns : 0 < S 38 0 19 := by omega
  have sA := JC.sa hns
  have js2 := js.2.1 hns
  have am : ac N 21 k := hk
  have a23 : ac N 23 k := hk
  have a24 : ac N 24 k := hk
  have e12 : (((M 12).toNat : Nat) : Int) = M 12 := by omega
  unfold vX3_originOf
  by_cases h8 : M 8 = 0
  · have e : lst S M t = if inL S t (M 12) ∧ ¬ isBk S t (M 12) then 1 else 0 := by unfold lst; rw [if_pos h8]
    rw [e] at k0
    unfold vX3_originOf_b33
    refine ygn R am rfl (JC.mi h8) ⟨fun _ => ?_, fun a z => by cases z⟩
    refine m_src hk R (nn_i (ygr R a23 rfl sA (m_src hk R (nn_i (ygr R a23 rfl sA (nn_i (wio R (tr_in K ht) rfl (by decide) ?_)))))))
    refine c_listed R K I ht (l := (M 12).toNat) (b := (M 12).toNat) (by omega) (by omega) (fun y1 y2 => ?_) (fun y => ?_)
    · rw [e12] at y1 y2
      exact ⟨fun q => absurd q (by decide), fun _ => k0 1 (by rw [if_pos ⟨y1, y2⟩]; decide)⟩
    · rw [e12] at y
      exact ⟨fun _ => k0 0 (by rw [if_neg y]; decide), fun q => absurd rfl q⟩
  have h8 : M 8 = 1 := by omega
  have mx := JC.mx h8
  have jx := J.xx h8
  have j9 := J.sb h8
  have sB := (JC.sb h8).1
  have tr := K.tr (M 9).toNat (by omega)
  have trt := K.tr t (by omega)
  have aX : ac N 15 ((M 9).toNat + 1) := tr_in K (by omega)
  have h8' : ¬ M 8 = 0 := by omega
  have or6 := I.tor (M 9).toNat (by omega)
  have e16 : (((M 16).toNat : Nat) : Int) = M 16 := by omega
  unfold vX3_originOf_b50
  refine ygr R am rfl mx.1 ⟨(fun z => by cases z), fun a2 _ => ?_⟩
  refine ygi R am rfl JC.cu (fun x12 h12 => cle32 (vl (by decide)) h12 (fun z => k0 0 ?_) (fun z => ?_))
  · have hm : modS S M = 0 := by unfold modS; rw [if_neg (by omega)]
    unfold lst
    rw [if_neg h8', hm]
    show (0 : Int32).toInt = 0
    decide
  have h11 : M 11 < 2 := by omega
  refine ygr R am rfl mx.1 ⟨fun y => ?_, fun y => k0 0 ?_⟩
  · have hx : (t : Int) ≠ M 9 := fun q => y (by rw [show t = (M 9).toNat by omega])
    have b112 := fun (s0 : Int32) hs => c_org112 (t0 := t0) (Qn := Qn) (s0 := s0) hk Z I J h8 ht hx h11 hs k0
    -- not behind the present one, or it is not ordered
    have b81 : (S 60 0 (17 * (M 9).toNat + 6) = 0 ∨ (t : Int) < M 9) → vX3_originOf_b81 t0 Qn h (A 21 k) (some (A 15 (t + 1))) 0 := fun ho => by
      unfold vX3_originOf_b81 vX3_originOf_b111
      refine no0 (m_src hk R (nn_i (ygr R a23 rfl sA (m_tgt hk R (nn_i (ygr R a24 rfl sB (nn_i (wio R (tr_in K ht) rfl (by decide) ?_))))))))
      refine c_listed R K I ht (l := (M 12).toNat) (b := (M 16).toNat) (by omega) (by omega) (fun y1 y2 => ?_) (fun y => ?_)
      · rw [e12] at y1
        rw [e16] at y2
        exact ⟨fun q => absurd q (by decide), fun _ => b112 1 (Or.inl ⟨⟨y1, hx, y2, ho⟩, rfl⟩)⟩
      · rw [e12, e16] at y
        exact ⟨fun _ => b112 0 (Or.inr ⟨fun q => y ⟨q.1, q.2.2.1⟩, rfl⟩), fun q => absurd rfl q⟩
    refine ygr R am rfl mx.1 (nn_i (ygi R aX rfl tr.2.2.2.2.2.1 (fun x16 h16 => ceq32 h16 (vl (by decide)) (fun q => ?_) (fun q => nn_i ?_))))
    · unfold vX3_originOf_b80
      exact b81 (Or.inl q)
    · refine ygi R (tr_in K ht) rfl trt.1 (fun x18 h18 => ygr R am rfl mx.1 (nn_i (ygi R aX rfl tr.1 (fun x21 h21 => cle32 h18 h21 (fun w => ?_) (fun w => ?_)))))
      · unfold vX3_originOf_b80
        exact b81 (Or.inr (by omega))
      · unfold vX3_originOf_b81 vX3_originOf_b111
        exact yes0 (b112 0 (Or.inr ⟨fun p => by have := p.2.2.2; omega, rfl⟩))
  · have e := (R.inj (tr_in K ht) aX).mp (Option.some.inj y)
    have hS : ¬ inS S M t := fun q => q.2.1 (by omega)
    have hT : ¬ inT S M t := fun q => q.2.1 (by omega)
    unfold lst
    rw [if_neg h8', if_neg hT, if_neg hS]
    (repeat' split) <;> decide
/-! what hinders a transition -/
theorem c_value {Qn : Int32 → gH → Prop} {v : Int32} {p : Nat} {w : Int} (hk : k < 4) (R : D h A N zz C P) (hv : v.toInt = (p : Int)) (hp : p < 8) (e : C 22 k p = w) (k0 : ∀ x : Int32, x.toInt = w → Qn x h) : vX3_valueOf t0 Qn h (A 21 k) v := by
  have a22 : ac N 22 k := hk
  unfold vX3_valueOf vX3_valueOf_b22 vX3_valueOf_b23
  refine clt32 hv (vl (by decide)) (fun z => by omega) (fun _ => m_val hk R (nn_i (yal R a22 (by decide) (n := 8) rfl (by decide) (fun x3 h3 => ?_))))
  refine cle32 h3 hv (fun z => by omega) (fun _ => m_val hk R (nn_i ?_))
  exact yli R a22 rfl hv (show p < 8 from hp) e k0
theorem c_holds {Qn : Int32 → gH → Prop} {v1 v2 : Int32} {t i : Nat} {w : Int} (R : D h A N zz C P) (K : KS S N zz C P) (I : SI S) (ht : (t : Int) < S 38 0 21) (h1 : v1.toInt = (i : Int)) (hi : i < cnN S t) (h2 : v2.toInt = w) (hw : w = M (cnP S t i).toNat) (k1 : hld S M t i → Qn 1 h) (k0 : ¬ hld S M t i → Qn 0 h) : vX9_holds t0 Qn h (A 15 (t + 1)) v1 v2 := by
  have nn := K.nn
  have tr := K.tr t (by omega)
  have ic := I.tc t ht
  have hc : (i : Int) < S 60 0 (17 * t + 7) := by unfold cnN at hi; omega
  have tc := K.tc t i (by omega) hc
  have io := I.to_ t i ht hc
  have aT := tr_in K ht
  have a17 : ac N 17 (t + 1) := aT
  have a18 : ac N 18 (t + 1) := aT
  unfold hld cnO cnV at k1 k0
  rw [← hw] at k1 k0
  unfold vX9_holds vX9_holds_b17 vX9_holds_b70 vX9_holds_b81 vX9_holds_b92 vX9_holds_b103
  refine clt32 h1 (vl (by decide)) (fun z => by omega) (fun _ => ygi R aT rfl tr.2.2.2.2.2.2 (fun x1 hx1 => ?_))
  refine cle32 hx1 h1 (fun z => by omega) (fun _ => clt32 h1 (vl (by decide)) (fun _ => ?_) (fun z => by omega))
  refine wgrs R aT rfl (show dS 15 (t + 1) 10 = some (18, t + 1) from rfl) (nn_i (yli R a18 rfl h1 (show i < 3 by omega) tc.2.2 (fun x4 h4 => ?_)))
  refine wgrs R aT rfl (show dS 15 (t + 1) 9 = some (17, t + 1) from rfl) (nn_i (yli R a17 rfl h1 (show i < 3 by omega) tc.2.1 (fun x7 h7 => ?_)))
  refine ⟨fun z => ?_, fun z => ?_, fun z => ?_, fun z => ?_⟩
  · exact cle32 h2 h4 (fun y => ⟨gZ_of (by decide), k0 (by omega)⟩) (fun y => ⟨gZ_of (by decide), k1 (by omega)⟩)
  · exact cle32 h4 h2 (fun y => ⟨gZ_of (by decide), k0 (by omega)⟩) (fun y => ⟨gZ_of (by decide), k1 (by omega)⟩)
  · exact cne32 h2 h4 (fun y => ⟨gZ_of (by decide), k0 (by omega)⟩) (fun y => ⟨gZ_of (by decide), k1 (by omega)⟩)
  · exact ceq32 h2 h4 (fun y => ⟨gZ_of (by decide), k0 (by omega)⟩) (fun y => ⟨gZ_of (by decide), k1 (by omega)⟩)
theorem c_ob_loop {Qn : Int32 → gH → Prop} {t : Nat} (hk : k < 4) (Z : CQ h A N zz S k tq C0 P0 C P M) (I : SI S) (ht : (t : Int) < S 38 0 21) (kk : ∀ x : Int32, x.toInt = agl S M t (cnN S t) 0 → Qn x h) :
  ∀ (m i : Nat) (v4 : Int32), v4.toInt = (i : Int) → i + m = cnN S t → agl S M t (cnN S t) 0 = agl S M t m i → vX3_obstacleFrom_b53 t0 Qn (m + 1) h (A 21 k) (some (A 15 (t + 1))) v4 := by
  obtain ⟨R, K, JC, F, G⟩ := id Z
  have nn := K.nn
  have tr := K.tr t (by omega)
  have ic := I.tc t ht
  have aT := tr_in K ht
  have a16 : ac N 16 (t + 1) := aT
  have hn : ((cnN S t : Nat) : Int) = S 60 0 (17 * t + 7) := by unfold cnN; omega
  intro m
  induction m with
  | zero =>
    intro i v4 h4 hm ha
    have kk := kk 0 (by rw [ha]; rfl)
    show vX3_obstacleFrom_b53_o t0 (vX3_obstacleFrom_b53 t0 Qn 0) Qn _ _ _ _
    unfold vX3_obstacleFrom_b53_o vX3_obstacleFrom_b99
    exact nn_i (ygi R aT rfl tr.2.2.2.2.2.2 (fun x2 h2 => cle32 h2 h4 (fun _ => kk) (fun z => by omega)))
  | succ m ih =>
    intro i v4 h4 hm ha
    have e : agl S M t (m + 1) i = if hld S M t i then agl S M t m (i + 1) else 3 + (i : Int) := rfl
    rw [e] at ha
    have tc := K.tc t i (by omega) (by omega)
    have cp := cnP_in I ht (k := i) (by omega)
    have cpe : cnP S t i = S 60 0 (17 * t + 8 + 3 * i) := rfl
    show vX3_obstacleFrom_b53_o t0 (vX3_obstacleFrom_b53 t0 Qn (m + 1)) Qn _ _ _ _
    unfold vX3_obstacleFrom_b53_o
    refine nn_i (ygi R aT rfl tr.2.2.2.2.2.2 (fun x2 h2 => cle32 h2 h4 (fun z => by omega) (fun _ => cle32 (vl (by decide)) h4 (fun z => by omega) (fun _ => ?_))))
    refine wgrs R aT rfl (show dS 15 (t + 1) 8 = some (16, t + 1) from rfl) (nn_i (yli R a16 rfl h4 (show i < 3 by omega) tc.1 (fun x5 h5 => iom hk R ?_)))
    refine c_value hk R (p := (cnP S t i).toNat) (by omega) (by omega) (JC.va _ (by omega)) (fun x7 h7 => wio R aT rfl (by decide) ?_)
    refine c_holds (M := M) R K I ht h4 (by omega) h7 rfl (fun z => ?_) (fun z => ?_)
    · rw [if_pos z] at ha
      exact ⟨fun _ => ih (i + 1) _ (ix_add h4 (ix_lit (by decide)) (by omega)) (by omega) ha, fun q => absurd q (by decide)⟩
    · rw [if_neg z] at ha
      exact ⟨fun q => absurd rfl q, fun _ => kk _ (by rw [ha]; exact add_ti (vl (by decide)) h4 (by omega))⟩
theorem c_obstacle {Qn : Int32 → gH → Prop} {v1 : Int32} {t : Nat} {l : Int} (hk : k < 4) (Z : CQ h A N zz S k tq C0 P0 C P M) (I : SI S) (J : MI S tb M) (hb : tb ≤ 100000) (ht : (t : Int) < S 38 0 21) (h1 : v1.toInt = l) (hl : l = 0 ∨ l = 1 ∨ (l = 2 ∧ M 8 = 1)) (kk : ∀ x : Int32, x.toInt = (if l = 0 then 1 else agn S M t l) → Qn x h) : vX3_obstacleFrom t0 Qn h (A 21 k) v1 (some (A 15 (t + 1))) := by
  obtain ⟨R, K, JC, F, G⟩ := id Z
  have nn := K.nn
  have tr := K.tr t (by omega)
  have te := I.te t ht
  have tt := I.tt t ht
  have jt := J.tk
  have hns : 0 < S 38 0 19 := by omega
  have t12 := MI_tr12 J hns
  have aT := tr_in K ht
  have go : ∀ j a : Nat, (j = 23 ∨ j = 24) → a = trkOf l → l ≠ 0 → C j k 1 = M (a + 1) → C j k 2 = M (a + 2) → trI S M a (4000000 * tb + 1000000) → vX3_obstacleFrom_b22 t0 Qn h (A 21 k) (some (A 15 (t + 1))) (some (A j k)) := fun j a hj ha hl0 e1 e2 ti => by
    rw [if_neg hl0] at kk
    have cy := trI_cyc ti (by omega)
    obtain ⟨t1, t2, t3, t4, t5, t6, t7, t8⟩ := ti
    have lp : ¬ (S 60 0 (17 * t + 3) ≠ -1 ∧ prg M (trkOf l) < S 60 0 (17 * t + 3) * 10000) → vX3_obstacleFrom_b50 t0 Qn h (A 21 k) (some (A 15 (t + 1))) := fun hn => by
      unfold vX3_obstacleFrom_b50
      exact ⟨cnN S t + 1, c_ob_loop hk Z I ht (fun x hx => kk x (by rw [hx]; unfold agn; rw [if_neg hn])) (cnN S t) 0 0 (by decide) (by omega) rfl⟩
    have k2 : S 60 0 (17 * t + 3) ≠ -1 ∧ prg M (trkOf l) < S 60 0 (17 * t + 3) * 10000 → Qn 2 h := fun hn => kk 2 (by unfold agn; rw [if_pos hn]; decide)
    rw [← ha] at lp k2
    have pe : prg M a = M (a + 1) * 1000000 + M (a + 2) := rfl
    unfold vX3_obstacleFrom_b22
    refine nn_i (ygi R aT rfl tr.2.2.1 (fun x2 h2 => ceq32 h2 (by decide : ((-1 : Int32)).toInt = -1) (fun z => lp (fun y => y.1 z)) (fun z => nn_i ?_)))
    refine wio R (k21 hk j (by omega)) (by rcases hj with rfl | rfl <;> rfl) (by decide) (c_prog hj hk R e1 e2 ⟨t3, cy⟩ ⟨t4, t5⟩ (fun x5 h5 => ?_))
    refine ygi R aT rfl tr.2.2.1 (fun x6 h6 => cle64 (mulL_ti (wid_ti h6) (vlL (by decide)) (by omega)) h5 (fun y => lp (fun q => by have := q.2; omega)) (fun y => k2 ⟨z, by omega⟩))
  unfold vX3_obstacleFrom
  refine cne32 h1 (vl (by decide)) (fun z => cne32 h1 (vl (by decide)) (fun y => ?_) (fun y => ?_)) (fun z => kk 1 (by rw [if_pos z]; decide))
  · refine m_src hk R (go 23 12 (Or.inl rfl) (by unfold trkOf; rw [if_neg y]) z JC.ta.1 JC.ta.2.1 t12)
  · have h8 : M 8 = 1 := by omega
    have sb := JC.sb h8
    exact m_tgt hk R (go 24 16 (Or.inr rfl) (by unfold trkOf; rw [if_pos y]) z sb.2.1 sb.2.2.1 (MI_tr16 J h8))
/-! the first possible one -/
def tRef (A : dA) (o : Option Nat) : Option Nat := o.map fun t => A 15 (t + 1)
theorem c_fpo {Qn : Option Nat → gH → Prop} {v1 : Int32} {l : Int} (hk : k < 4) (Z : CQ h A N zz S k tq C0 P0 C P M) (I : SI S) (J : MI S tb M) (hb : tb ≤ 100000) (h1 : v1.toInt = l) (hl : l = 1 ∨ (l = 2 ∧ M 8 = 1)) (kk : Qn (tRef A (frs S M l)) h) : vX3_firstPossibleOf t0 Qn h (A 21 k) v1 := by
  obtain ⟨R, K, JC, F, G⟩ := id Z
  have nn := K.nn
  have i1 := I.nt
  have sz := K.sz
  have a63 : ac N 6 3 := show 3 < N 1 + 5 by omega
  have hn : ((nT S : Nat) : Int) = S 38 0 21 := by unfold nT; omega
  have lp : ∀ (m i : Nat) (v3 : Int32), v3.toInt = (i : Int) → i + m = nT S → vX3_firstPossibleOf_b4 t0 Qn (m + 1) h (A 21 k) v1 (tRef A (fnd S M l i)) v3 := by
    intro m
    induction m with
    | zero =>
      intro i v3 h3 hm
      have hm : i = nT S := by omega
      subst hm
      show vX3_firstPossibleOf_b4_o t0 (vX3_firstPossibleOf_b4 t0 Qn 0) Qn _ _ _ _ _
      unfold vX3_firstPossibleOf_b4_o
      refine m_mod hk R (nn_i (m_trs R (nn_i (wio R a63 rfl (by decide) (ysize R a63 (fun x6 h6 => ?_))))))
      exact cle32 h6 h3 (fun _ => kk) (fun z => by omega)
    | succ m ih =>
      intro i v3 h3 hm
      have ti : (i : Int) < S 38 0 21 := by omega
      have h31 : (v3 + 1).toInt = ((i + 1 : Nat) : Int) := ix_add h3 (ix_lit (by decide)) (by omega)
      have ih := ih (i + 1) (v3 + 1) h31 (by omega)
      have fs := fnd_step S M l i
      have tf := K.tf i (by omega)
      have aT := tr_in K ti
      have e2 : i < N 3 := by omega
      -- it is looked at, as nothing better was found
      have look : (fnd S M l (i + 1) = if lst S M i = l ∧ agn S M i l = 0 then some i else fnd S M l i) → vX3_firstPossibleOf_b53 t0 (vX3_firstPossibleOf_b4 t0 Qn (m + 1)) Qn h (A 21 k) v1 (tRef A (fnd S M l i)) v3 (some (A 15 (i + 1))) := fun e => by
        unfold vX3_firstPossibleOf_b53 vX3_firstPossibleOf_b58 vX3_firstPossibleOf_b88
        refine ⟨fun z => absurd z (by decide), fun _ => iom hk R (c_origin hk Z I J ti (fun x2 h2 => ?_))⟩
        refine cne32 h2 h1 (fun y => ?_) (fun y => iom hk R (c_obstacle hk Z I J hb ti h1 (by omega) (fun x4 h4 => ?_)))
        · rw [if_neg fun q => y q.1] at e
          rw [e] at ih
          exact ih
        · rw [if_neg (by omega)] at h4
          refine cne32 h4 (vl (by decide)) (fun q => ?_) (fun q => ?_)
          · rw [if_neg fun w => q w.2] at e
            rw [e] at ih
            exact ih
          · rw [if_pos ⟨y, q⟩] at e
            rw [e] at ih
            exact ih
      -- it isn't looked at
      have pass : fnd S M l (i + 1) = fnd S M l i → vX3_firstPossibleOf_b57 t0 (vX3_firstPossibleOf_b4 t0 Qn (m + 1)) Qn h (A 21 k) v1 (tRef A (fnd S M l i)) v3 (some (A 15 (i + 1))) := fun e => by
        unfold vX3_firstPossibleOf_b57 vX3_firstPossibleOf_b58 vX3_firstPossibleOf_b88
        rw [e] at ih
        exact yes_eq ih
      show vX3_firstPossibleOf_b4_o t0 (vX3_firstPossibleOf_b4 t0 Qn (m + 1)) Qn _ _ _ _ _
      unfold vX3_firstPossibleOf_b4_o
      refine m_mod hk R (nn_i (m_trs R (nn_i (wio R a63 rfl (by decide) (ysize R a63 (fun x6 h6 => ?_))))))
      refine cle32 h6 h3 (fun z => by omega) (fun _ => m_mod hk R (nn_i (m_trs R (nn_i (wio R a63 rfl (by decide) ?_)))))
      refine yget R K a63 h3 (by omega) (fun a ha => K.e3 a i ha e2) (nn_i (wio R aT rfl (by decide) ?_))
      cases hf : fnd S M l i with
      | none =>
        rw [hf] at look fs
        exact ⟨fun _ => look fs, fun a z => by cases z⟩
      | some t =>
        rw [hf] at look pass fs
        replace fs : fnd S M l (i + 1) = if S 60 0 (17 * t) ≠ -1 ∧ S 60 0 (17 * i) = -1 ∧ lst S M i = l ∧ agn S M i l = 0 then some i else some t := fs
        have ft := fnd_in hf
        have tft := K.tf t (by omega)
        have aTt : ac N 15 (t + 1) := tr_in K (by omega)
        refine ⟨(fun z => by cases z), fun a14 h14 => ?_⟩
        have h14 : A 15 (t + 1) = a14 := Option.some.inj h14
        subst h14
        by_cases z : S 60 0 (17 * i) = -1
        · rw [if_pos z] at tf
          refine ygn R aT rfl tf.1 ⟨fun _ => ?_, fun a q => by cases q⟩
          by_cases y : S 60 0 (17 * t) = -1
          · rw [if_pos y] at tft
            exact ygn R aTt rfl tft.1 ⟨fun _ => pass (by rw [fs, if_neg fun q => q.1 y]), fun a q => by cases q⟩
          · rw [if_neg y] at tft
            refine ygr R aTt rfl tft.1 ⟨(fun q => by cases q), fun a _ => look ?_⟩
            rw [fs]
            by_cases w : lst S M i = l ∧ agn S M i l = 0
            · rw [if_pos ⟨y, z, w⟩, if_pos w]
            · rw [if_neg fun q => w q.2.2, if_neg w]
        · rw [if_neg z] at tf
          exact ygr R aT rfl tf.1 ⟨(fun q => by cases q), fun a _ => pass (by rw [fs, if_neg fun q => z q.2.1])⟩
  unfold vX3_firstPossibleOf
  exact ⟨nT S + 1, lp (nT S) 0 0 (by decide) (by omega)⟩
def pickT (S : dC) (M : dM) : Option Nat := (pick S M).map fun q => q.1
theorem lst_mode2 {S : dC} {M : dM} (h8 : M 8 = 1) (hm : S 60 0 (17 * (M 9).toNat + 5) = 2) (t : Nat) : lst S M t ≠ 1 := by
  have : modS S M = 2 ∨ modS S M = 0 := by unfold modS; split; exact Or.inl hm; exact Or.inr rfl
  unfold lst
  rw [if_neg (by omega)]
  rcases this with q | q <;> rw [q]
  · rw [if_neg (by decide), if_neg (by decide), if_pos rfl]
    split <;> decide
  · rw [if_neg (by decide), if_neg (by decide), if_neg (by decide), if_neg (by decide)]
    decide
theorem lst_idle {S : dC} {M : dM} (h8 : M 8 = 0) (t : Nat) : lst S M t ≠ 2 := by
  unfold lst
  rw [if_pos h8]
  split <;> decide
theorem pickT_of {S : dC} {M : dM} {l : Int} (h : (l = ls0 S M) ∨ (frs S M (ls0 S M) = none ∧ l = 3 - ls0 S M)) : pickT S M = match frs S M l with
    | some t => some t
    | none => frs S M (3 - l) := by
  unfold pickT pick
  rcases h with h | ⟨h, e⟩
  · subst h
    cases h1 : frs S M (ls0 S M) with
    | some t => rfl
    | none =>
      cases h2 : frs S M (3 - ls0 S M) with
      | some t => rfl
      | none => rfl
  · subst e
    rw [h]
    have e3 : 3 - (3 - ls0 S M) = ls0 S M := by omega
    rw [e3, h]
    cases h2 : frs S M (3 - ls0 S M) with
    | some t => rfl
    | none => rfl
theorem c_firstPossible {Qn : Option Nat → gH → Prop} (hk : k < 4) (Z : CQ h A N zz S k tq C0 P0 C P M) (I : SI S) (J : MI S tb M) (hb : tb ≤ 100000) (kk : Qn (tRef A (pickT S M)) h) : vX3_firstPossible t0 Qn h (A 21 k) := by
  obtain ⟨R, K, JC, F, G⟩ := id Z
  have nn := K.nn
  have jm := J.mi
  have am : ac N 21 k := hk
  unfold vX3_firstPossible vX3_firstPossible_b33 vX3_firstPossible_b29 vX3_firstPossible_b34 vX3_firstPossible_b45 vX3_firstPossible_b70 vX3_firstPossible_b74
  by_cases h8 : M 8 = 0
  · have l0 : ls0 S M = 1 := by unfold ls0; rw [if_neg (by omega)]
    rw [pickT_of (Or.inl l0.symm)] at kk
    have e2 : frs S M (3 - 1) = none := frs_none fun t => lst_idle h8 t
    refine ygn R am rfl (JC.mi h8) ⟨fun _ => no1 (iom hk R ?_), fun a z => by cases z⟩
    refine c_fpo hk Z I J hb (vl (by decide)) (Or.inl rfl) ?_
    cases h1 : frs S M 1 with
    | none =>
      rw [h1] at kk
      replace kk : Qn (tRef A (frs S M (3 - 1))) h := kk
      rw [e2] at kk
      exact ⟨fun _ => ygn R am rfl (JC.mi h8) ⟨fun _ => kk, fun a z => by cases z⟩, fun a z => by cases z⟩
    | some t =>
      rw [h1] at kk
      refine ⟨(fun z => by cases z), fun a z => ?_⟩
      have z : A 15 (t + 1) = a := Option.some.inj z
      subst z
      exact kk
  have h8 : M 8 = 1 := by omega
  have mx := JC.mx h8
  have jx := J.xx h8
  have tr := K.tr (M 9).toNat (by omega)
  have aX : ac N 15 ((M 9).toNat + 1) := tr_in K (by omega)
  -- one list, and then the other one
  have go : ∀ (w s : Int32) (l : Int), s.toInt = l → ((w = 0 ∧ l = 1) ∨ (w = 1 ∧ l = 2)) → Qn (tRef A (match frs S M l with | some t => some t | none => frs S M (3 - l))) h → vX3_firstPossibleOf t0 (fun r2 h1 => ((r2) = none → (gr h1 (A 21 k) 6 4 (fun r4 => ((r4) = none → (Qn (none : Option Nat) h1)) ∧ (∀ a5 : Nat, (r4) = some a5 → ((((w : Int32) = 0) → (io h1 (A 21 k) 6 (vX3_firstPossibleOf t0 (fun r2 h1 => Qn r2 h1) h1 (A 21 k) 2))) ∧ ((¬ (w : Int32) = 0) → (io h1 (A 21 k) 6 (vX3_firstPossibleOf t0 (fun r2 h1 => Qn r2 h1) h1 (A 21 k) 1)))))))) ∧ (∀ a3 : Nat, (r2) = some a3 → (Qn (some a3) h1))) h (A 21 k) s := by
    intro w s l hs hw kq
    refine c_fpo hk Z I J hb hs (by omega) ?_
    cases h1 : frs S M l with
    | none =>
      rw [h1] at kq
      replace kq : Qn (tRef A (frs S M (3 - l))) h := kq
      refine ⟨fun _ => ygr R am rfl mx.1 ⟨(fun z => by cases z), fun a _ => ?_⟩, fun a z => by cases z⟩
      rcases hw with ⟨rfl, rfl⟩ | ⟨rfl, rfl⟩
      · exact no1 (iom hk R (c_fpo hk Z I J hb (vl (by decide)) (Or.inr ⟨rfl, h8⟩) kq))
      · exact yes1 (iom hk R (c_fpo hk Z I J hb (vl (by decide)) (Or.inl rfl) kq))
    | some t =>
      rw [h1] at kq
      refine ⟨(fun z => by cases z), fun a z => ?_⟩
      have z : A 15 (t + 1) = a := Option.some.inj z
      subst z
      exact kq
  have m2 : S 60 0 (17 * (M 9).toNat + 5) = 2 → frs S M 1 = none := fun q => frs_none fun t => lst_mode2 h8 q t
  refine ygr R am rfl mx.1 ⟨(fun z => by cases z), fun a2 _ => ygr R am rfl mx.1 (nn_i (ygi R aX rfl tr.2.2.2.2.1 (fun x5 h5 => ceq32 h5 (vl (by decide)) (fun q => ?_) (fun q => ?_))))⟩
  · have l0 : ls0 S M = 1 := by unfold ls0; rw [if_neg (by omega)]
    rw [pickT_of (l := 2) (Or.inr ⟨by rw [l0]; exact m2 q, by rw [l0]; rfl⟩)] at kk
    exact yes1 (iom hk R (go 1 2 2 (vl (by decide)) (Or.inr ⟨rfl, rfl⟩) kk))
  · refine ygr R am rfl mx.1 (nn_i (ygi R aX rfl tr.2.2.2.2.1 (fun x8 h8' => cne32 h8' (vl (by decide)) (fun y => ?_) (fun y => ?_))))
    · have l0 : ls0 S M = 1 := by unfold ls0; rw [if_neg (by omega)]
      rw [pickT_of (Or.inl l0.symm)] at kk
      exact no1 (iom hk R (go 0 1 1 (vl (by decide)) (Or.inl ⟨rfl, rfl⟩) kk))
    · have l0 : ls0 S M = 2 := by unfold ls0; rw [if_pos ⟨h8, y⟩]
      rw [pickT_of (Or.inl l0.symm)] at kk
      exact yes1 (iom hk R (go 1 2 2 (vl (by decide)) (Or.inr ⟨rfl, rfl⟩) kk))
end CC
