/-! ===== the class reads a transition, adds it ===== -/
section CTR
variable {h : gH} {A : dA} {N zz : Nat → Nat} {S W C C' C0 : dC} {P P' : dP} {t0 i n : Nat}
theorem addC_01 (r : dM) (a o v : Int) : addC r a o v 0 = r 0 ∧ addC r a o v 1 = r 1 := by
  unfold addC
  rw [um_n _ _ (by omega), um_n _ _ (by omega), um_n _ _ (by omega), um_n _ _ (by omega), um_n _ _ (by omega), um_n _ _ (by omega), um_n _ _ (by omega), um_n _ _ (by omega)]
  exact ⟨rfl, rfl⟩
theorem pOne_01 {k p e q e' : Nat} {r r' : dM} (h : pOne W k p e r = (q, some (e', r'))) : r' 0 = r 0 ∧ r' 1 = r 1 := by
  unfold pOne at h
  by_cases a : k < 4
  · rw [if_pos a] at h
    by_cases b : e / 2 ^ k % 2 = 1
    · rw [if_pos b] at h; cases h
    · rw [if_neg b] at h
      by_cases c : k = 3
      · rw [if_pos c] at h
        cases h
        exact ⟨rfl, rfl⟩
      · rw [if_neg c] at h
        cases hn : pNum W (mst k) (p + 1) with
        | mk q' o =>
          rw [hn] at h
          cases o with
          | none => cases h
          | some v =>
            cases h
            exact ⟨um_n _ _ (by omega), um_n _ _ (by omega)⟩
  · rw [if_neg a] at h
    by_cases b : 3 ≤ r 7
    · rw [if_pos b] at h; cases h
    · rw [if_neg b] at h
      cases hn : pCond W (p + 1) with
      | mk q' o =>
        rw [hn] at h
        cases o with
        | none => cases h
        | some v =>
          obtain ⟨x, y, z⟩ := v
          cases h
          exact addC_01 r x y z
theorem pAtt_01 : ∀ (m i e q : Nat) (r r' : dM), pAtt W m i e r = (q, some r') → r' 0 = r 0 ∧ r' 1 = r 1
  | 0, i, e, q, r, r', h => by cases h; exact ⟨rfl, rfl⟩
  | m + 1, i, e, q, r, r', h => by
    have h : (if sgn (tb W (sk W i)) = 5 then (sk W i, some r) else (match pOne W (sgn (tb W (sk W i))) (sk W i) e r with
      | (q, none) => (q, none)
      | (q, some (e', r')) => pAtt W m q e' r')) = (q, some r') := h
    by_cases z : sgn (tb W (sk W i)) = 5
    · rw [if_pos z] at h
      cases h
      exact ⟨rfl, rfl⟩
    · rw [if_neg z] at h
      cases hn : pOne W (sgn (tb W (sk W i))) (sk W i) e r with
      | mk q' o' =>
        rw [hn] at h
        cases o' with
        | none => cases h
        | some y =>
          obtain ⟨e', r1⟩ := y
          have a := pOne_01 hn
          have b := pAtt_01 m q' e' q r1 r' h
          exact ⟨b.1.trans a.1, b.2.trans a.2⟩
/-- only the draft's references were changed -/
def Pdr (P P' : dP) : Prop := ∀ j x f : Nat, ¬ (j = 15 ∧ x = 0) → P' j x f = P j x f
theorem Pdr.rf (P : dP) : Pdr P P := fun _ _ _ _ => rfl
/-- what a transition's reading leaves -/
def TX (Qn : Int32 → gH → Prop) (A : dA) (N zz : Nat → Nat) (S W C : dC) (P : dP) (x : Nat × Option dM) : Prop := (∀ (q : Nat) (r' : dM), x = (q, some r') → ∀ (h' : gH) (C' : dC) (P' : dP), CR h' A N zz S W C' P' q → DR r' C' → DRP r' P' → Fdr C C' → Pdr P P' → ∀ x : Int32, x.toInt = 1 → Qn x h') ∧ (∀ q : Nat, x = (q, none) → ∀ (h' : gH) (C' : dC) (P' : dP), CR h' A N zz S W C' P' q → Fdr C C' → Pdr P P' → ∀ x : Int32, x.toInt = 0 → Qn x h')
theorem TX.mv {Qn : Int32 → gH → Prop} {x : Nat × Option dM} (X : TX Qn A N zz S W C P x) (f : Fd3 C C') : TX Qn A N zz S W C' P x := ⟨fun q r e h' C1 P1 z d1 d2 g => X.1 q r e h' C1 P1 z d1 d2 (f.dr.tr g), fun q e h' C1 P1 z g => X.2 q e h' C1 P1 z (f.dr.tr g)⟩
theorem c_trans2 {Qn : Int32 → gH → Prop} {f : Int} {o : Option (Nat × Nat)} (Z : CR h A N zz S W C P i) (hi : i < tL W) (T : TS W S) (I : SI S) (IW : SI W) (hf : -1 ≤ f ∧ f < W 38 0 19) (ho : o = if f = -1 then none else some (14, f.toNat + 1)) (X : TX Qn A N zz S W C P (pTo W f (i + 1))) : vX10_readTransition_b26 t0 Qn h (A 19 0) (o.map (dad A)) := by
  have e19 : S 38 0 19 = W 38 0 19 := T.2.2.2.2
  have oac : ∀ N1 : Nat → Nat, (∀ x, x ≠ 4 → N1 x = N x) → ∀ q, o = some q → ac N1 q.1 q.2 := fun N1 hN q hq => by
    rw [ho] at hq
    have n2 := Z.2.1.nn
    have h2 := hN 2 (by decide)
    by_cases z : f = -1
    · rw [if_pos z] at hq; cases hq
    · rw [if_neg z] at hq; cases hq
      show f.toNat + 1 < N1 2 + 1
      omega
  unfold vX10_readTransition_b26
  refine c_inc Z hi T I (fun h2 C2 Z2 f2 => io19 Z2.1 ?_)
  have X2 := X.mv f2
  unfold pTo at X2
  refine c_sign Z2 T I (vl (by decide) : (62 : Int32).toInt = 62) (by decide) (fun s1 h3 C3 Z3 f3 => ?_) (fun s1 h3 C3 Z3 f3 => ?_)
  · refine yes0 (io19 Z3.1 (c_next Z3 T I (fun x6 h5 C5 Z5 f5 hx6 => io19 Z5.1 ?_)))
    have X5 := (X2.mv f3).mv f5
    rw [if_pos s1] at X5
    refine c_stateOf Z5.1 Z5.2.1 hx6 (tb_rng IW _) (fun s hs1 hs2 => ?_) (fun ns => ?_)
    · have hst : isSt W (tb W (sk W (sk W (i + 1) + 1))) := ⟨by omega, by omega⟩
      rw [if_pos hst] at X5
      refine ⟨fun z => (by cases z), fun a9 ha9 => ?_⟩
      cases ha9
      refine c_inc Z5 (tb_in (by omega)) T I (fun h11 C11 Z11 f11 => io19 Z11.1 ?_)
      have X11 := X5.mv f11
      refine c_sign Z11 T I (vl (by decide) : (47 : Int32).toInt = 47) (by decide) (fun s2 h12 C12 Z12 f12 => ?_) (fun s2 h12 C12 Z12 f12 => ?_)
      · have X12 := X11.mv f12
        rw [if_pos s2] at X12
        refine yes0 (io19 Z12.1 (c_num Z12 T I (vl (by decide) : (60 : Int32).toInt = 60) (fun q v en x h14 C14 Z14 f14 hx => ?_) (fun q en h14 C14 Z14 f14 => ?_)))
        · have X14 := X12.mv f14
          rw [en] at X14
          have lv := (pNum_le Z12.2.2.2 en).2.2.2.2 v rfl
          have a15 : ac N 15 0 := Nat.zero_lt_succ _
          have a14 : ac N 14 (s + 1) := st_in Z14.2.1 hs2
          refine cne32 hx (show (-1 : Int32).toInt = -1 by decide) (fun _ => g_drf Z14.1 (nn_i (wio Z14.1 a15 rfl (by decide) ?_))) (fun z => by omega)
          refine c_tbegin Z14.1 a15 (oac N (fun _ _ => rfl)) a14 hx (fun h18 C18 P18 R18 c18 p18 t1 t2 => ?_)
          have K18 : KS S N zz C18 P18 := Z14.2.1.drf (fun j x f' u1 u2 => c18 j x f' (by omega)) p18
          have Z18 : CR h18 A N zz S W C18 P18 q := ⟨R18, K18, (c18 _ _ _ (by omega)).trans Z14.2.2.1, Z14.2.2.2⟩
          have es : tb W (sk W (sk W (i + 1) + 1)) - 65 = (s : Int) := hs1
          rw [es] at X14
          have r0 : rec0 f (s : Int) v 0 = f := rfl
          have r1 : rec0 f (s : Int) v 1 = (s : Int) := rfl
          have D18 : CD h18 A N zz S W C18 P18 q (rec0 f (s : Int) v) := by
            refine ⟨Z18, ⟨⟨t2.2.1, t2.2.2.1, t2.2.2.2.1, t2.2.2.2.2.1, t2.2.2.2.2.2.1, t2.2.2.2.2.2.2⟩, fun k hk => absurd hk (by show ¬ (k : Int) < 0; omega)⟩, ?_⟩
            rw [t1.1, ho, r0]
            by_cases z : f = -1
            · rw [if_pos z]; exact ⟨fun _ => z, fun _ => rfl⟩
            · rw [if_neg z]; exact ⟨fun y => (by cases y), fun y => absurd y z⟩
          have dP : ∀ r' : dM, r' 0 = rec0 f (s : Int) v 0 → r' 1 = rec0 f (s : Int) v 1 → DRP r' P18 := fun r' e0 e1 => by
            unfold DRP
            rw [t1.1, t1.2, e0, e1, r0, r1, ho]
            exact ⟨rfl, rfl⟩
          have fr : Fdr C14 C18 := fun j x f' u1 u2 => c18 j x f' (by omega)
          unfold vX10_readAttributes
          refine io19 R18 ⟨151, c_atts T I IW 150 0 q (if f = -1 then 1 else 0) 0 (rec0 f (s : Int) v) h18 C18 0 0 rfl (by decide) (by decide) ⟨by decide, fun y => ?_, fun y => ?_⟩ (by split <;> decide) (rec0_ok hf ⟨by omega, by omega⟩ ⟨lv.1, lv.2.1⟩) (fun y => ?_) D18 ⟨fun q' r' e h' C' Z' f' x hx1 => ⟨gZ_of (Or.inr hx1), ?_⟩, fun q' e h' C' Z' f' x hx1 => ⟨gZ_of (Or.inl hx1), ?_⟩⟩⟩
          · have y : f = -1 := y
            rw [if_pos y]
            exact ⟨by decide, by decide⟩
          · have y : f ≠ -1 := y
            rw [if_neg y]
          · have y : f = -1 := y
            rw [if_pos y]
          · have e01 := pAtt_01 150 q _ q' _ r' e
            exact X14.1 q' r' e h' C' P18 Z'.1 Z'.2.1 (dP r' e01.1 e01.2) (fr.tr f') p18 x hx1
          · exact X14.2 q' e h' C' P18 Z' (fr.tr f') p18 x hx1
        · have X14 := X12.mv f14
          rw [en] at X14
          exact ⟨fun z => absurd rfl z, fun _ => X14.2 q rfl h14 C14 P Z14 (Fdr.rf C14) (Pdr.rf P) 0 (by decide)⟩
      · have X12 := X11.mv f12
        rw [if_neg s2] at X12
        exact no0 (X12.2 _ rfl h12 C12 P Z12 (Fdr.rf C12) (Pdr.rf P) 0 (by decide))
    · rw [if_neg (fun y => ns (by have := y.1; have := y.2; omega))] at X5
      exact ⟨fun _ => X5.2 _ rfl h5 C5 P Z5 (Fdr.rf C5) (Pdr.rf P) 0 (by decide), fun a z => by cases z⟩
  · have X3 := X2.mv f3
    rw [if_neg s1] at X3
    exact no0 (X3.2 _ rfl h3 C3 P Z3 (Fdr.rf C3) (Pdr.rf P) 0 (by decide))
theorem c_trans {Qn : Int32 → gH → Prop} (Z : CR h A N zz S W C P i) (T : TS W S) (I : SI S) (IW : SI W) (X : TX Qn A N zz S W C P (pTr W i)) : vX10_readTransition t0 Qn h (A 19 0) := by
  have e19 : S 38 0 19 = W 38 0 19 := T.2.2.2.2
  have ins := IW.ns
  unfold vX10_readTransition
  refine io19 Z.1 (c_next Z T I (fun x2 h1 C1 Z1 f1 hx => ?_))
  have X1 := X.mv f1
  unfold pTr at X1
  refine ceq32 hx (vl (by decide)) (fun z => ?_) (fun z => io19 Z1.1 (c_next Z1 T I (fun x4 h3 C3 Z3 f3 hx4 => io19 Z3.1 ?_)))
  · rw [if_pos z] at X1
    exact c_trans2 (o := none) Z1 (tb_in (by omega)) T I IW ⟨by decide, by omega⟩ rfl X1
  · rw [sk_sk] at Z3 hx4
    have X3 := X1.mv f3
    rw [if_neg z] at X3
    refine c_stateOf Z3.1 Z3.2.1 hx4 (tb_rng IW _) (fun s hs1 hs2 => ?_) (fun ns => ?_)
    · rw [if_pos ⟨by omega, by omega⟩] at X3
      refine ⟨fun z => (by cases z), fun a ha => ?_⟩
      cases ha
      refine c_trans2 (o := some (14, s + 1)) Z3 (tb_in (by omega)) T I IW ⟨by omega, by omega⟩ ?_ X3
      rw [if_neg (by omega), show (tb W (sk W i) - 65).toNat = s by omega]
    · rw [if_neg (fun y => ns (by have := y.1; have := y.2; omega))] at X3
      exact ⟨fun _ => X3.2 _ rfl h3 C3 P Z3 (Fdr.rf C3) (Pdr.rf P) 0 (by decide), fun a z => by cases z⟩
end CTR
