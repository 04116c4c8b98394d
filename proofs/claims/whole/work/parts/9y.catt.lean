/-! ===== the class reads conditions, attributes ===== -/
section CAT
variable {h : gH} {A : dA} {N zz : Nat → Nat} {S W C C' C0 : dC} {P : dP} {t0 i : Nat}
/-- the draft holds a record -/
def DR (r : dM) (C : dC) : Prop := (C 15 0 3 = r 2 ∧ C 15 0 4 = r 3 ∧ C 15 0 5 = r 4 ∧ C 15 0 6 = r 5 ∧ C 15 0 7 = r 6 ∧ C 15 0 11 = r 7) ∧ ∀ k : Nat, (k : Int) < r 7 → C 16 0 k = r (8 + 3 * k) ∧ C 17 0 k = r (8 + 3 * k + 1) ∧ C 18 0 k = r (8 + 3 * k + 2)
def DRP (r : dM) (P : dP) : Prop := P 15 0 1 = (if r 0 = -1 then none else some (14, (r 0).toNat + 1)) ∧ P 15 0 2 = some (14, (r 1).toNat + 1)
theorem DR.f3 {r : dM} (d : DR r C) (f : Fd3 C C') : DR r C' := by
  obtain ⟨⟨d1, d2, d3, d4, d5, d6⟩, d7⟩ := d
  refine ⟨⟨?_, ?_, ?_, ?_, ?_, ?_⟩, fun k hk => ?_⟩
  · rw [f _ _ _ (by omega)]; exact d1
  · rw [f _ _ _ (by omega)]; exact d2
  · rw [f _ _ _ (by omega)]; exact d3
  · rw [f _ _ _ (by omega)]; exact d4
  · rw [f _ _ _ (by omega)]; exact d5
  · rw [f _ _ _ (by omega)]; exact d6
  · rw [f _ _ _ (by omega), f _ _ _ (by omega), f _ _ _ (by omega)]; exact d7 k hk
/-- only the reader's place and the draft were changed -/
def Fdr (C C' : dC) : Prop := ∀ j x f : Nat, ¬ (j = 19 ∧ f = 3) → ¬ (15 ≤ j ∧ j ≤ 18 ∧ x = 0) → C' j x f = C j x f
theorem Fdr.tr {C1 : dC} (a : Fdr C C') (b : Fdr C' C1) : Fdr C C1 := fun j x f h h2 => (b j x f h h2).trans (a j x f h h2)
theorem Fd3.dr (a : Fd3 C C') : Fdr C C' := fun j x f h _ => a j x f h
theorem Fdr.rf (C : dC) : Fdr C C := fun _ _ _ _ _ => rfl
theorem KS.drf (K : KS S N zz C P) {P' : dP} (c : ∀ j x f : Nat, ¬ (j = 19 ∧ f = 3) → ¬ (15 ≤ j ∧ j ≤ 18 ∧ x = 0) → C' j x f = C j x f) (p : ∀ j x f : Nat, ¬ (j = 15 ∧ x = 0) → P' j x f = P j x f) : KS S N zz C' P' := by
  have e1 : (fun j i f => if j = 19 ∧ f = 3 then 0 else if 15 ≤ j ∧ j ≤ 18 ∧ i = 0 then 0 else C' j i f : dC) = (fun j i f => if j = 19 ∧ f = 3 then 0 else if 15 ≤ j ∧ j ≤ 18 ∧ i = 0 then 0 else C j i f : dC) := funext fun j => funext fun i => funext fun f => by
    by_cases z : j = 19 ∧ f = 3
    · rw [if_pos z, if_pos z]
    · by_cases y : 15 ≤ j ∧ j ≤ 18 ∧ i = 0
      · rw [if_neg z, if_neg z, if_pos y, if_pos y]
      · rw [if_neg z, if_neg z, if_neg y, if_neg y, c j i f z y]
  have e2 : (fun j i f => if j = 15 ∧ i = 0 then none else P' j i f : dP) = (fun j i f => if j = 15 ∧ i = 0 then none else P j i f : dP) := funext fun j => funext fun i => funext fun f => by
    by_cases z : j = 15 ∧ i = 0
    · rw [if_pos z, if_pos z]
    · rw [if_neg z, if_neg z, p j i f z]
  have K1 : KS S N zz (fun j i f => if j = 19 ∧ f = 3 then 0 else if 15 ≤ j ∧ j ≤ 18 ∧ i = 0 then 0 else C j i f : dC) (fun j i f => if j = 15 ∧ i = 0 then none else P j i f : dP) := by
    unfold KS KS0 at *
    exact K
  rw [← e1, ← e2] at K1
  unfold KS KS0 at *
  exact K1
/-- the class reads with the draft r -/
def CD (h : gH) (A : dA) (N zz : Nat → Nat) (S W C : dC) (P : dP) (i : Nat) (r : dM) : Prop := CR h A N zz S W C P i ∧ DR r C ∧ (P 15 0 1 = none ↔ r 0 = -1)
theorem c_mark {Qn : Int32 → gH → Prop} {v : Int32} {c : Int} (hv : v.toInt = c) (k0 : sgn c = 5 → Qn 0 h) (k1 : ∀ k : Nat, sgn c = k → k < 5 → Qn (Int32.ofNat (2 ^ k)) h) : vX10_markOf t0 Qn h v := by
  unfold vX10_markOf
  rw [hv]
  refine ⟨fun z => ?_, fun z => ?_, fun z => ?_, fun z => ?_, fun z => ?_, fun z => k0 ?_⟩
  · exact k1 2 (by rw [z]; rfl) (by decide)
  · exact k1 1 (by rw [z]; rfl) (by decide)
  · exact k1 4 (by rw [z]; rfl) (by decide)
  · exact k1 0 (by rw [z]; rfl) (by decide)
  · exact k1 3 (by rw [z]; rfl) (by decide)
  · unfold sgn
    rw [if_neg z.2.2.2.1, if_neg z.2.1, if_neg z.1, if_neg z.2.2.2.2, if_neg z.2.2.1]
theorem c_op {Qn : Int32 → gH → Prop} {v : Int32} {c : Int} (hv : v.toInt = c) (k0 : ∀ x : Int32, x.toInt = opK c → Qn x h) : vX10_operatorOf t0 Qn h v := by
  unfold vX10_operatorOf
  rw [hv]
  refine ⟨fun z => k0 3 ?_, fun z => k0 1 ?_, fun z => k0 2 ?_, fun z => k0 0 ?_, fun z => k0 (-1) ?_⟩
  · rw [z]; decide
  · rw [z]; decide
  · rw [z]; decide
  · rw [z]; decide
  · unfold opK
    rw [if_neg z.2.2.2, if_neg z.2.1, if_neg z.2.2.1, if_neg z.1]
    decide
/-- the kind of what a byte names, or none -/
theorem c_kindN {Qn : Int32 → gH → Prop} {v : Int32} {p : Int} (R : D h A N zz C P) (K : KS S N zz C P) (I : SI S) (hv : v.toInt = p) (k1 : 0 ≤ p → p < S 38 0 3 → ∀ x : Int32, x.toInt = S 42 0 p.toNat → Qn x h) (k0 : ¬ (0 ≤ p ∧ p < S 38 0 3) → Qn (-1) h) : vX4_kindOf t0 Qn h (A 4 0) v := by
  by_cases z : 0 ≤ p ∧ p < S 38 0 3
  · exact c_kind R K I (p := p.toNat) (by omega) (by omega) (k1 z.1 z.2)
  · unfold vX4_kindOf vX4_kindOf_b30 vX4_kindOf_b31
    exact clt32 hv (vl (by decide)) (fun _ => k0 z) (fun y => ygi R a40 rfl K.np (fun x1 h1 => cle32 h1 hv (fun _ => k0 z) (fun u => absurd ⟨by omega, by omega⟩ z)))
/-- the draft takes a condition -/
theorem c_app {Qn : Int32 → gH → Prop} {v1 v2 v3 : Int32} {r : dM} (Z : CD h A N zz S W C P i r) (h7 : 0 ≤ r 7 ∧ r 7 < 3) (k0 : ∀ (h' : gH) (C' : dC), CD h' A N zz S W C' P i (addC r v1.toInt v2.toInt v3.toInt) → Fdr C C' → Qn 1 h') : nn (some (A 15 0)) (fun a1 => io h a1 12 (vX9_appendCondition t0 (fun h2 => Qn 1 h2) h a1 v1 v2 v3)) := by
  obtain ⟨⟨R, K, e, hi⟩, ⟨d, dk⟩, dn⟩ := Z
  have a15 : ac N 15 0 := Nat.zero_lt_succ _
  obtain ⟨m, hm⟩ : ∃ m : Nat, r 7 = (m : Int) := ⟨(r 7).toNat, by omega⟩
  have em : (r 7).toNat = m := by omega
  have d7 := d.2.2.2.2.2
  refine nn_i (wio R a15 rfl (by decide) (q_appendCondition R a15 (n := m) (d7.trans hm) (by omega) (fun h' R' => ?_)))
  have fr : Fdr C (up3 (up3 (up3 (up3 C 16 0 m v1.toInt) 17 0 m v2.toInt) 18 0 m v3.toInt) 15 0 11 ((m : Int) + 1)) := fun j x f h1 h2 => by
    rw [up3_ne _ _ (by omega), up3_ne _ _ (by omega), up3_ne _ _ (by omega), up3_ne _ _ (by omega)]
  have lo : ∀ w, w < 7 → addC r v1.toInt v2.toInt v3.toInt w = r w := fun w hw => by
    unfold addC
    rw [um_n _ _ (by omega), um_n _ _ (by omega), um_n _ _ (by omega), um_n _ _ (by omega)]
  have e7 : addC r v1.toInt v2.toInt v3.toInt 7 = r 7 + 1 := um_s _ _ _
  have hi_ : ∀ w, 8 ≤ w → addC r v1.toInt v2.toInt v3.toInt w = um (um (um r (8 + 3 * m) v1.toInt) (8 + 3 * m + 1) v2.toInt) (8 + 3 * m + 2) v3.toInt w := fun w hw => by
    unfold addC
    rw [um_n _ _ (by omega), em]
  refine k0 h' _ ⟨⟨R', K.drf fr (fun _ _ _ _ => rfl), ?_, hi⟩, ⟨⟨?_, ?_, ?_, ?_, ?_, ?_⟩, fun k hk => ⟨?_, ?_, ?_⟩⟩, by rw [lo 0 (by omega)]; exact dn⟩ fr
  · rw [up3_ne _ _ (by omega), up3_ne _ _ (by omega), up3_ne _ _ (by omega), up3_ne _ _ (by omega)]; exact e
  · rw [up3_ne _ _ (by omega), up3_ne _ _ (by omega), up3_ne _ _ (by omega), up3_ne _ _ (by omega), lo 2 (by omega)]; exact d.1
  · rw [up3_ne _ _ (by omega), up3_ne _ _ (by omega), up3_ne _ _ (by omega), up3_ne _ _ (by omega), lo 3 (by omega)]; exact d.2.1
  · rw [up3_ne _ _ (by omega), up3_ne _ _ (by omega), up3_ne _ _ (by omega), up3_ne _ _ (by omega), lo 4 (by omega)]; exact d.2.2.1
  · rw [up3_ne _ _ (by omega), up3_ne _ _ (by omega), up3_ne _ _ (by omega), up3_ne _ _ (by omega), lo 5 (by omega)]; exact d.2.2.2.1
  · rw [up3_ne _ _ (by omega), up3_ne _ _ (by omega), up3_ne _ _ (by omega), up3_ne _ _ (by omega), lo 6 (by omega)]; exact d.2.2.2.2.1
  · rw [up3_same, e7]; omega
  · rw [up3_ne _ _ (by omega), up3_ne _ _ (by omega), up3_ne _ _ (by omega), hi_ _ (by omega)]
    rw [e7] at hk
    by_cases x : k = m
    · rw [x, up3_same, um_n _ _ (by omega), um_n _ _ (by omega), um_s]
    · rw [up3_ne _ _ (by omega), um_n _ _ (by omega), um_n _ _ (by omega), um_n _ _ (by omega)]; exact (dk k (by omega)).1
  · rw [up3_ne _ _ (by omega), up3_ne _ _ (by omega), hi_ _ (by omega)]
    rw [e7] at hk
    by_cases x : k = m
    · rw [x, up3_same, um_n _ _ (by omega), um_s]
    · rw [up3_ne _ _ (by omega), up3_ne _ _ (by omega), um_n _ _ (by omega), um_n _ _ (by omega), um_n _ _ (by omega)]; exact (dk k (by omega)).2.1
  · rw [up3_ne _ _ (by omega), hi_ _ (by omega)]
    rw [e7] at hk
    by_cases x : k = m
    · rw [x, up3_same, um_s]
    · rw [up3_ne _ _ (by omega), up3_ne _ _ (by omega), up3_ne _ _ (by omega), um_n _ _ (by omega), um_n _ _ (by omega), um_n _ _ (by omega)]; exact (dk k (by omega)).2.2
theorem CD.mv {h' : gH} {n : Nat} {r : dM} (Z : CD h A N zz S W C P i r) (Z' : CR h' A N zz S W C' P n) (f : Fd3 C C') : CD h' A N zz S W C' P n r := ⟨Z', Z.2.1.f3 f, Z.2.2⟩
theorem g_drf {K : Option Nat → Prop} (R : D h A N zz C P) (k0 : K (some (A 15 0))) : gr h (A 19 0) 13 4 K := wgrs R a19 rfl (show dS 19 0 4 = some (15, 0) from rfl) k0
theorem g_mdt {K : Option Nat → Prop} (R : D h A N zz C P) (k0 : K (some (A 4 0))) : gr h (A 19 0) 13 0 K := wgrs R a19 rfl (show dS 19 0 0 = some (4, 0) from rfl) k0
/-- what a condition's reading leaves: the draft with it, or the fault -/
def CX (Qn : Int32 → gH → Prop) (A : dA) (N zz : Nat → Nat) (S W C : dC) (P : dP) (r : dM) (x : Nat × Option (Int × Int × Int)) : Prop := (∀ (q : Nat) (a o v : Int), x = (q, some (a, o, v)) → ∀ (h' : gH) (C' : dC), CD h' A N zz S W C' P q (addC r a o v) → Fdr C C' → Qn 1 h') ∧ (∀ q : Nat, x = (q, none) → ∀ (h' : gH) (C' : dC), CD h' A N zz S W C' P q r → Fdr C C' → Qn 0 h')
theorem CX.mv {Qn : Int32 → gH → Prop} {r : dM} {x : Nat × Option (Int × Int × Int)} (X : CX Qn A N zz S W C P r x) (f : Fdr C C') : CX Qn A N zz S W C' P r x := ⟨fun q a o v e h' C1 z g => X.1 q a o v e h' C1 z (f.tr g), fun q e h' C1 z g => X.2 q e h' C1 z (f.tr g)⟩
theorem c_cv {Qn : Int32 → gH → Prop} {v2 v4 v5 : Int32} {r : dM} {a o : Int} {neg : Bool} (Z : CD h A N zz S W C P i r) (T : TS W S) (I : SI S) (h7 : 0 ≤ r 7 ∧ r 7 < 3) (h2 : v2.toInt = a) (h4 : v4.toInt = o) (h5 : v5.toInt = if neg = true then 1 else 0) (X : CX Qn A N zz S W C P r (match pNum W 100 i with
    | (q, none) => (q, none)
    | (q, some v) => (q, some (a, o, if neg = true then -v else v)))) : vX10_readCondition_b154 t0 Qn h (A 19 0) v2 v4 v5 := by
  unfold vX10_readCondition_b154 vX10_readCondition_b190
  have L := fun (q : Nat) (v : Int) (e : pNum W 100 i = (q, some v)) => (pNum_le Z.1.2.2.2 e).2.2.2.2 v rfl
  refine io19 Z.1.1 (c_num Z.1 T I (vl (by decide) : (100 : Int32).toInt = 100) (fun q v e x h' C' Z' f' hx => ?_) (fun q e h' C' Z' f' => ?_))
  · have l := L q v e
    rw [e] at X
    refine cne32 hx (show (-1 : Int32).toInt = -1 by decide) (fun _ => g_drf Z'.1 ?_) (fun z => by omega)
    have Z2 := Z.mv Z' f'
    cases neg with
    | true =>
      have h5 : v5.toInt = 1 := h5
      refine ceq32 h5 (vl (by decide)) (fun z => by omega) (fun _ => c_app Z2 h7 (fun h4' C4 Z4 f4 => X.1 q a o (-v) rfl h4' C4 ?_ (f'.dr.tr f4)))
      have e3 : (-x).toInt = -v := neg_ti hx (by omega)
      rw [h2, h4, e3] at Z4
      exact Z4
    | false =>
      have h5 : v5.toInt = 0 := h5
      refine ceq32 h5 (vl (by decide)) (fun _ => c_app Z2 h7 (fun h4' C4 Z4 f4 => X.1 q a o v rfl h4' C4 ?_ (f'.dr.tr f4))) (fun z => by omega)
      rw [h2, h4, hx] at Z4
      exact Z4
  · rw [e] at X
    exact ⟨fun z => absurd rfl z, fun _ => X.2 q rfl h' C' (Z.mv Z' f') f'.dr⟩
theorem c_cp {Qn : Int32 → gH → Prop} {v1 : Int32} {r : dM} {no : Bool} {p : Nat} (Z : CD h A N zz S W C P i r) (T : TS W S) (I : SI S) (IW : SI W) (h7 : 0 ≤ r 7 ∧ r 7 < 3) (hp : p = sk W i) (h1 : v1.toInt = if no = true then 1 else 0) (X : CX Qn A N zz S W C P r (pCp W no p)) : vX10_readCondition_b29 t0 Qn h (A 19 0) v1 := by
  subst hp
  have tl := tL_eq T I
  have i3 := IW.np
  unfold vX10_readCondition_b29 vX10_parameterOf vX10_parameterOf_b19 vX10_parameterOf_b20
  refine io19 Z.1.1 (c_next Z.1 T I (fun x2 hA CA ZA fA hx => ?_))
  have X1 := X.mv fA.dr
  have Z1 := Z.mv ZA fA
  obtain ⟨RA, KA, eA, leA⟩ := id ZA
  have e3 : S 38 0 3 = W 38 0 3 := T.2.2.2.1
  -- behind the parameter's number
  have rest : ∀ (x4 : Int32) (pr : Int), x4.toInt = pr → (¬ isPr W (tb W (sk W i)) → ¬ (0 ≤ pr ∧ pr < S 38 0 3)) → (isPr W (tb W (sk W i)) → pr = tb W (sk W i) - 97) → (0 ≤ pr → isPr W (tb W (sk W i)) ∨ S 38 0 3 ≤ pr) → gr hA (A 19 0) 13 0 (fun r5 => nn r5 (fun a6 => io hA a6 7 (vX4_kindOf t0 (fun x8 h7 => (((x8 : Int32) = (-1)) → (vX10_readCondition_b60 t0 Qn h7 )) ∧ ((¬ (x8 : Int32) = (-1)) → ((((v1 : Int32) = 0) → (vX10_readCondition_b62 t0 Qn h7 (A 19 0) v1 x4 x8)) ∧ ((¬ (v1 : Int32) = 0) → ((((x8 : Int32) = 1) → (vX10_readCondition_b62 t0 Qn h7 (A 19 0) v1 x4 x8)) ∧ ((¬ (x8 : Int32) = 1) → (vX10_readCondition_b60 t0 Qn h7 ))))))) hA a6 x4))) := fun x4 pr h4 n1 n2 n3 => by
    refine g_mdt RA (nn_i (wio RA a40 rfl (by decide) (c_kindN RA KA I h4 (fun b1 b2 x8 h8 => ?_) (fun b => ?_))))
    · have hpr : isPr W (tb W (sk W i)) := (n3 b1).elim id (fun y => by omega)
      have epr := n2 hpr
      have kd := I.kd pr.toNat (by have := I.np; omega)
      have ek : S 42 0 pr.toNat = W 42 0 (tb W (sk W i) - 97).toNat := by rw [← epr]; exact T.2.2.1 _
      have hp1 := tb_in (W := W) (i := sk W i) (by have := hpr.1; omega)
      -- behind the parameter
      have go : (no = true → W 42 0 (tb W (sk W i) - 97).toNat = 1) → vX10_readCondition_b62 t0 Qn hA (A 19 0) v1 x4 x8 := fun cn => by
        unfold pCp at X1
        rw [if_pos ⟨hpr, cn⟩] at X1
        unfold vX10_readCondition_b62
        refine c_inc ZA hp1 T I (fun hB CB ZB fB => ?_)
        have X2 := X1.mv fB.dr
        have Z2 := Z1.mv ZB fB
        refine ceq32 h8 (vl (by decide)) (fun k0 => ?_) (fun k0 => ?_)
        · rw [if_pos (by omega)] at X2
          refine io19 ZB.1 (c_next ZB T I (fun x5 hC CC ZC fC hx5 => c_op hx5 (fun x6 h6 => ?_)))
          have X3 := X2.mv fC.dr
          have Z3 := Z2.mv ZC fC
          refine cne32 h6 (show (-1 : Int32).toInt = -1 by decide) (fun o1 => ?_) (fun o1 => ?_)
          · rw [if_neg o1] at X3
            have hp2 := tb_in (W := W) (i := sk W (sk W i + 1)) (fun e => o1 (by rw [e]; rfl))
            refine c_inc ZC hp2 T I (fun hD CD_ ZD fD => ?_)
            have X4 := X3.mv fD.dr
            have Z4 := Z3.mv ZD fD
            unfold pCv at X4
            refine io19 ZD.1 (c_next ZD T I (fun x10 hE CE ZE fE hx10 => ?_))
            have X5 := X4.mv fE.dr
            have Z5 := Z4.mv ZE fE
            unfold vX10_readCondition_b137
            refine cne32 hx10 (vl (by decide)) (fun m1 => ?_) (fun m1 => ?_)
            · rw [if_neg m1] at X5
              refine ⟨fun _ => ?_, fun z => absurd rfl z⟩
              refine c_cv (a := tb W (sk W i) - 97) (o := opK (tb W (sk W (sk W i + 1)))) (neg := false) Z5 T I h7 (by omega) h6 (by decide) ?_
              exact X5
            · rw [if_pos m1] at X5
              refine ⟨fun z => absurd z (by decide), fun _ => ?_⟩
              refine c_inc ZE (tb_in (by omega)) T I (fun hF CF ZF fF => ?_)
              exact c_cv (a := tb W (sk W i) - 97) (o := opK (tb W (sk W (sk W i + 1)))) (neg := true) (Z5.mv ZF fF) T I h7 (by omega) h6 (by decide) (X5.mv fF.dr)
          · rw [if_pos o1] at X3
            exact X3.2 _ rfl hC CC Z3 (Fdr.rf CC)
        · rw [if_neg (by omega)] at X2
          unfold vX10_readCondition_b91
          cases no with
          | true =>
            have h1 : v1.toInt = 1 := h1
            refine g_drf ZB.1 (ceq32 h1 (vl (by decide)) (fun z => by omega) (fun _ => c_app Z2 h7 (fun h' C' Z' f' => X2.1 _ _ _ _ rfl h' C' ?_ f')))
            rw [h4, epr, show (2 : Int32).toInt = 2 by decide, show (0 : Int32).toInt = 0 by decide] at Z'
            exact Z'
          | false =>
            have h1 : v1.toInt = 0 := h1
            refine g_drf ZB.1 (ceq32 h1 (vl (by decide)) (fun _ => c_app Z2 h7 (fun h' C' Z' f' => X2.1 _ _ _ _ rfl h' C' ?_ f')) (fun z => by omega))
            rw [h4, epr, show (2 : Int32).toInt = 2 by decide, show (1 : Int32).toInt = 1 by decide] at Z'
            exact Z'
      refine ceq32 h8 (show (-1 : Int32).toInt = -1 by decide) (fun z => by omega) (fun _ => ?_)
      cases no with
      | false =>
        have h1 : v1.toInt = 0 := h1
        exact ceq32 h1 (vl (by decide)) (fun _ => go (fun z => by cases z)) (fun z => by omega)
      | true =>
        have h1 : v1.toInt = 1 := h1
        refine ceq32 h1 (vl (by decide)) (fun z => by omega) (fun _ => ceq32 h8 (vl (by decide)) (fun z => go (fun _ => by omega)) (fun z => ?_))
        unfold vX10_readCondition_b60
        unfold pCp at X1
        rw [if_neg (fun y => by have := y.2 rfl; omega)] at X1
        exact X1.2 _ rfl hA CA Z1 (Fdr.rf CA)
    · refine ⟨fun _ => ?_, fun z => absurd rfl z⟩
      unfold vX10_readCondition_b60
      unfold pCp at X1
      rw [if_neg (fun y => b (by have := n2 y.1; have := y.1.1; have := y.1.2; omega))] at X1
      exact X1.2 _ rfl hA CA Z1 (Fdr.rf CA)
  refine clt32 hx (vl (by decide)) (fun z => ?_) (fun z => clt32 (vl (by decide)) hx (fun y => ?_) (fun y => ?_))
  · exact rest (-1) (-1) (by decide) (fun _ => by omega) (fun y => by have := y.1; omega) (fun y => by omega)
  · exact rest (-1) (-1) (by decide) (fun _ => by omega) (fun u => by have := u.2; omega) (fun y => by omega)
  · exact rest (x2 - 97) (tb W (sk W i) - 97) (sub_ti hx (vl (by decide)) (by omega)) (fun u q => u ⟨by omega, by omega⟩) (fun _ => rfl) (fun u => by
      by_cases q : tb W (sk W i) - 97 < W 38 0 3
      · exact Or.inl ⟨by omega, q⟩
      · exact Or.inr (by omega))
theorem c_cond {Qn : Int32 → gH → Prop} {r : dM} (Z : CD h A N zz S W C P i r) (T : TS W S) (I : SI S) (IW : SI W) (h7 : 0 ≤ r 7 ∧ r 7 < 3) (X : CX Qn A N zz S W C P r (pCond W i)) : vX10_readCondition t0 Qn h (A 19 0) := by
  unfold vX10_readCondition vX10_readCondition_b14
  refine io19 Z.1.1 (c_next Z.1 T I (fun x2 hA CA ZA fA hx => ?_))
  have X1 := X.mv fA.dr
  have Z1 := Z.mv ZA fA
  unfold pCond at X1
  refine cne32 hx (vl (by decide)) (fun z => ?_) (fun z => ?_)
  · rw [if_neg z] at X1
    refine ⟨fun _ => ?_, fun z => absurd rfl z⟩
    exact c_cp (no := false) Z1 T I IW h7 (sk_sk W i).symm (by decide) X1
  · rw [if_pos z] at X1
    refine ⟨fun y => absurd y (by decide), fun _ => c_inc ZA (tb_in (by omega)) T I (fun hB CB ZB fB => ?_)⟩
    exact c_cp (no := true) (Z1.mv ZB fB) T I IW h7 rfl (by decide) (X1.mv fB.dr)
end CAT
