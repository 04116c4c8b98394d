/-! ===== the reference reads a condition ===== -/
section RCO
variable {h : gH} {A : dA} {N zz : Nat → Nat} {S W C C' C0 : dC} {P : dP} {i n : Nat} {ad : Bool} {fi : Int} {r : dM}
/-- the transition that is being added -/
def RW (ad : Bool) (n : Nat) (r : dM) (C : dC) : Prop := ad = true → C 38 0 21 = (n : Int) + 1 ∧ ∀ w : Nat, w < 17 → C 60 0 (17 * n + w) = r w
/-- place, fault, number were changed, and the row that is being added -/
def Fw2 (ad : Bool) (n : Nat) (C C' : dC) : Prop := ∀ j x f : Nat, ¬ (j = 38 ∧ (f = 30 ∨ f = 31 ∨ f = 33)) → ¬ (ad = true ∧ j = 60 ∧ 17 * n ≤ f ∧ f < 17 * n + 17) → C' j x f = C j x f
theorem Fz.w2 (a : Fz C C') : Fw2 ad n C C' := fun j x f h _ => a j x f h
theorem Fw2.tr {C1 : dC} (a : Fw2 ad n C C') (b : Fw2 ad n C' C1) : Fw2 ad n C C1 := fun j x f h g => (b j x f h g).trans (a j x f h g)
theorem RW.fz (w : RW ad n r C) (f : Fz C C') : RW ad n r C' := fun z => by
  obtain ⟨w1, w2⟩ := w z
  exact ⟨(f _ _ _ (by omega)).trans w1, fun k hk => (f _ _ _ (by omega)).trans (w2 k hk)⟩
/-- what a condition's reading leaves -/
def YX (Qn : gH → Prop) (A : dA) (N zz : Nat → Nat) (W C : dC) (P : dP) (ad : Bool) (n : Nat) (r : dM) (x : Nat × Option (Int × Int × Int)) : Prop := (∀ (q : Nat) (a o v : Int), x = (q, some (a, o, v)) → ∀ (h' : gH) (C' : dC), RT h' A N zz W C' P ad q 1 → RW ad n (addC r a o v) C' → Fw2 ad n C C' → Qn h') ∧ (∀ q : Nat, x = (q, none) → ∀ (h' : gH) (C' : dC), RT h' A N zz W C' P ad q 0 → Fw2 ad n C C' → Qn h')
theorem YX.mv {Qn : gH → Prop} {x : Nat × Option (Int × Int × Int)} (X : YX Qn A N zz W C P ad n r x) (f : Fz C C') : YX Qn A N zz W C' P ad n r x := ⟨fun q a o v e h' C1 z w g => X.1 q a o v e h' C1 z w (f.w2.tr g), fun q e h' C1 z g => X.2 q e h' C1 z (f.w2.tr g)⟩
/-- the condition is added, if it may be -/
theorem t_b297 {Qn : gH → Prop} {v2 v3 v4 : Int32} {a o v : Int} {q : Nat} (Z : RT h A N zz W C P ad q 1) (w : RW ad n r C) (hn : n < 24) (h7 : 0 ≤ r 7 ∧ r 7 < 3) (h2 : v2.toInt = a) (h3 : v3.toInt = o) (h4 : v4.toInt = v) (k0 : ∀ (h' : gH) (C' : dC), RT h' A N zz W C' P ad q 1 → RW ad n (addC r a o v) C' → Fw2 ad n C C' → Qn h') : vX12_readsCondition_b297 Qn h (A 38 0) v2 v3 v4 := by
  unfold vX12_readsCondition_b297 vX12_readsCondition_b325
  refine t_fi Z (fun x1 hx1 => ceq32 hx1 (vl (by decide)) (fun z => absurd z (by decide)) (fun _ => t_ad Z (fun x2 hx2 => ?_)))
  cases ad with
  | false =>
    have hx2 : x2.toInt = 0 := hx2
    exact ceq32 hx2 (vl (by decide)) (fun _ => k0 h C Z (fun z => by cases z) (Fz.rf C).w2) (fun z => by omega)
  | true =>
    have hx2 : x2.toInt = 1 := hx2
    obtain ⟨w1, w2⟩ := w rfl
    obtain ⟨m, hm⟩ : ∃ m : Nat, r 7 = (m : Int) := ⟨(r 7).toNat, by omega⟩
    have em : (r 7).toNat = m := by omega
    have c7 := w2 7 (by decide)
    have em2 : (C 60 0 (17 * n + 7)).toNat = m := by omega
    refine ceq32 hx2 (vl (by decide)) (fun z => by omega) (fun _ => ygi Z.1 a38 rfl w1 (fun x3 hx3 => io38_ Z.1 ?_))
    refine r_condition Z.1 (t := n) (sub_ti hx3 (vl (by decide)) (by omega) |>.trans (by omega)) hn (by omega) (fun h' C' R' e1 e2 e3 e4 fr => ?_)
    rw [em2] at e1 e2 e3 fr
    obtain ⟨R, T, t1, t2, t3, hi⟩ := Z
    refine k0 h' C' ⟨R', T.fz (fun j f hj => fr j 0 f (by omega)), (fr _ _ _ (by omega)).trans t1, (fr _ _ _ (by omega)).trans t2, (fr _ _ _ (by omega)).trans t3, hi⟩ (fun _ => ⟨(fr _ _ _ (by omega)).trans w1, fun k hk => ?_⟩) (fun j x f g1 g2 => fr j x f (fun y => g2 ⟨rfl, y.1, by omega, by omega⟩))
    unfold addC
    rw [em]
    by_cases k7 : k = 7
    · rw [k7, um_s, e4, c7]
    · rw [um_n _ _ k7]
      by_cases b2 : k = 8 + 3 * m + 2
      · rw [b2, um_s, show 17 * n + (8 + 3 * m + 2) = 17 * n + 8 + 3 * m + 2 by omega, e3, h4]
      · rw [um_n _ _ b2]
        by_cases b1 : k = 8 + 3 * m + 1
        · rw [b1, um_s, show 17 * n + (8 + 3 * m + 1) = 17 * n + 8 + 3 * m + 1 by omega, e2, h3]
        · rw [um_n _ _ b1]
          by_cases b0 : k = 8 + 3 * m
          · rw [b0, um_s, show 17 * n + (8 + 3 * m) = 17 * n + 8 + 3 * m by omega, e1, h2]
          · rw [um_n _ _ b0, fr _ _ _ (by omega)]
            exact w2 k hk
theorem t_b297n {Qn : gH → Prop} {v2 v3 v4 : Int32} {q : Nat} (Z : RT h A N zz W C P ad q 0) (k0 : Qn h) : vX12_readsCondition_b297 Qn h (A 38 0) v2 v3 v4 := by
  unfold vX12_readsCondition_b297 vX12_readsCondition_b325
  exact t_fi Z (fun x1 hx1 => ceq32 hx1 (vl (by decide)) (fun _ => k0) (fun y => absurd rfl y))
/-- behind the operator -/
theorem t_cv {Qn : gH → Prop} {v2 v3 : Int32} {a o : Int} (Z : RT h A N zz W C P ad i 1) (IW : SI W) (w : RW ad n r C) (hn : n < 24) (h7 : 0 ≤ r 7 ∧ r 7 < 3) (h2 : v2.toInt = a) (h3 : v3.toInt = o) (X : YX Qn A N zz W C P ad n r (pCv W a o i)) : io h (A 38 0) 15 (vX12_skips (fun h2 => gi h2 (A 38 0) 15 31 (fun x3 => (((x3 : Int32) = 0) → (vX12_readsCondition_b250 Qn h2 (A 38 0) v2 v3)) ∧ ((¬ (x3 : Int32) = 0) → (io h2 (A 38 0) 15 (vX12_here (fun x5 h4 => (((x5 : Int32) = 0) → (vX12_readsCondition_b250 Qn h4 (A 38 0) v2 v3)) ∧ ((¬ (x5 : Int32) = 0) → (vX12_readsCondition_b251 Qn h4 (A 38 0) v2 v3 1))) h2 (A 38 0) 45))))) h (A 38 0)) := by
  have tl := (W_len IW).2
  refine io38_ Z.1 (t_skips Z IW (fun h1 C1 Z1 f1 => ?_))
  have X1 := X.mv f1
  have w1 := w.fz f1
  unfold pCv at X1
  refine t_fi Z1 (fun x1 hx1 => ceq32 hx1 (vl (by decide)) (fun z => absurd z (by decide)) (fun _ => io38_ Z1.1 ?_))
  -- a number with its sign
  have num : ∀ (s0 s1 x1 : Int32) (neg : Bool) (d : Nat), x1.toInt = ((sk W i : Nat) : Int) → s0.toInt = (if neg = true then 1 else 0) → s1.toInt = (d : Int) → d = (if neg = true then 1 else 0) → (neg = true → sk W i < tL W) → YX Qn A N zz W C1 P ad n r (match pNum W 100 (sk W i + d) with
      | (q, none) => (q, none)
      | (q, some v) => (q, some (a, o, if neg = true then -v else v))) → vX12_readsCondition_b268 Qn h1 (A 38 0) v2 v3 s0 s1 x1 (A 38 0) := fun s0 s1 x1 neg d hx1 hs0 hs1 hd hlt X2 => by
    unfold vX12_readsCondition_b268
    have le := Z1.2.2.2.2.2
    have hd2 : d = 0 ∨ d = 1 := by rw [hd]; split <;> omega
    have hle : sk W i + d ≤ tL W := by
      cases neg with
      | false => have hd : d = 0 := hd; omega
      | true => have hd : d = 1 := hd; have := hlt rfl; omega
    refine t_wat Z1 (m := sk W i + d) (ix_add hx1 hs1 (by omega)) hle (fun hB C2 Z2 f2 => io38_ Z2.1 ?_)
    have X3 := X2.mv f2
    have w2 := w1.fz f2
    refine t_num Z2 IW (Or.inr rfl) (vl (by decide) : (100 : Int32).toInt = 100) (fun _ q v e h3' C3 Z3 f3 e33 => ?_) (fun q e h3' C3 Z3 f3 => ?_)
    · have X4 := X3.mv f3
      have w3 := w2.fz f3
      rw [e] at X4
      have l := (pNum_le hle e).2.2.2.2 v rfl
      unfold vX12_readsCondition_b295
      cases neg with
      | false =>
        have hs0 : s0.toInt = 0 := hs0
        exact ceq32 hs0 (vl (by decide)) (fun _ => ygi Z3.1 a38 rfl e33 (fun x3 hx3 => t_b297 Z3 w3 hn h7 h2 h3 hx3 (X4.1 q a o v rfl))) (fun z => by omega)
      | true =>
        have hs0 : s0.toInt = 1 := hs0
        exact ceq32 hs0 (vl (by decide)) (fun z => by omega) (fun _ => ygi Z3.1 a38 rfl e33 (fun x3 hx3 => t_b297 Z3 w3 hn h7 h2 h3 (neg_ti hx3 (by omega)) (X4.1 q a o (-v) rfl)))
    · have X4 := X3.mv f3
      have e : pNum W 100 (sk W i + d) = (q, none) := e.elim (fun y => absurd y.1 (by decide)) (fun y => y.2)
      rw [e] at X4
      have e33 : ∀ K : Int32 → Prop, (∀ x, K x) → gi h3' (A 38 0) 15 33 K := fun K kk => ygi Z3.1 a38 rfl rfl (fun x _ => kk x)
      unfold vX12_readsCondition_b295
      exact ceq32 (rfl : s0.toInt = s0.toInt) (vl (by decide)) (fun _ => e33 _ (fun x => t_b297n Z3 (X4.2 q rfl h3' C3 Z3 (Fz.rf C3).w2))) (fun _ => e33 _ (fun x => t_b297n Z3 (X4.2 q rfl h3' C3 Z3 (Fz.rf C3).w2)))
  unfold vX12_readsCondition_b250 vX12_readsCondition_b251
  refine t_here Z1 IW (vl (by decide) : (45 : Int32).toInt = 45) (by decide) (fun y => no_pos ?_) (fun y => ok_pos ?_)
  · rw [if_pos y] at X1
    exact t_at Z1 (fun x1 hx1 => ⟨fun z => absurd z (by decide), fun _ => num 1 1 x1 true 1 hx1 (by decide) (by decide) rfl (fun _ => tb_in (by omega)) X1⟩)
  · rw [if_neg y] at X1
    exact t_at Z1 (fun x1 hx1 => ⟨fun _ => num 0 0 x1 false 0 hx1 (by decide) (by decide) rfl (fun z => by cases z) (by rw [Nat.add_zero]; exact X1), fun z => absurd rfl z⟩)
/-- behind the parameter -/
theorem t_cp {Qn : gH → Prop} {v1 : Int32} {no : Bool} {p : Nat} (Z : RT h A N zz W C P ad p 1) (IW : SI W) (w : RW ad n r C) (hn : n < 24) (h7 : 0 ≤ r 7 ∧ r 7 < 3) (h1 : v1.toInt = if no = true then 1 else 0) (hs : sk W p = p) (X : YX Qn A N zz W C P ad n r (pCp W no p)) : gi h (A 38 0) 15 30 (fun x3 => gi h (A 38 0) 15 24 (fun x4 => ((x4 ≤ (x3 : Int32)) → (vX12_readsCondition_b61 Qn h (A 38 0) v1 99)) ∧ ((¬ x4 ≤ (x3 : Int32)) → (gr h (A 38 0) 15 23 (fun r5 => gi h (A 38 0) 15 30 (fun x6 => nn r5 (fun a7 => li h a7 x6 (fun x8 => vX12_readsCondition_b61 Qn h (A 38 0) v1 (x8 - 97))))))))) := by
  have tl := (W_len IW).2
  have i3 := IW.np
  have le := Z.2.2.2.2.2
  have rng := tb_rng IW p
  have e3 : C 38 0 3 = W 38 0 3 := Z.2.1.2.2.2.1
  have a42 : ac N 42 0 := ⟨Nat.one_pos, by decide⟩
  have g42 : ∀ {h : gH} {C : dC} {K : Option Nat → Prop}, D h A N zz C P → K (some (A 42 0)) → gr h (A 38 0) 15 2 K := fun R kk => wgrs R a38 rfl (show dS 38 0 2 = some (42, 0) from rfl) kk
  have b61 : ∀ (s0 : Int32) (pr : Int), s0.toInt = pr → ((0 ≤ pr ∧ pr < W 38 0 3) ↔ isPr W (tb W p)) → (isPr W (tb W p) → pr = tb W p - 97) → vX12_readsCondition_b61 Qn h (A 38 0) v1 s0 := fun s0 pr hs0 hpr epr => by
    unfold vX12_readsCondition_b61
    have bad : ¬ (isPr W (tb W p) ∧ (no = true → W 42 0 (tb W p - 97).toNat = 1)) → vX12_readsCondition_b89 Qn h (A 38 0) v1 s0 (A 38 0) := fun z => by
      unfold vX12_readsCondition_b89 vX12_readsCondition_b90
      refine ⟨gZ_of (by decide), t_wfi Z (v := 0) (by decide) (fun hA CA ZA fA => t_fi ZA (fun x2 h2 => cne32 h2 (vl (by decide)) (fun y => absurd rfl y) (fun _ => ?_)))⟩
      have X1 := X.mv fA
      unfold pCp at X1
      rw [if_neg z] at X1
      exact X1.2 p rfl hA CA ZA (Fz.rf CA).w2
    have good : isPr W (tb W p) → (no = true → W 42 0 (tb W p - 97).toNat = 1) → vX12_readsCondition_b85 Qn h (A 38 0) v1 s0 (A 38 0) := fun z1 z2 => by
      have ep := epr z1
      have z11 := z1.1
      have z12 := z1.2
      have hp := tb_in (W := W) (i := p) (by omega)
      have hsn : s0.toInt = (((tb W p - 97).toNat : Nat) : Int) := by omega
      unfold vX12_readsCondition_b85 vX12_readsCondition_b90
      refine ⟨gZ_of (by decide), t_wfi Z (v := 1) (by decide) (fun hA CA ZA fA => t_fi ZA (fun x2 h2 => cne32 h2 (vl (by decide)) (fun _ => ?_) (fun y => absurd y (by decide))))⟩
      refine t_at ZA (fun x3 hx3 => t_wat ZA (m := p + 1) (ix_add hx3 (ix_lit (by decide)) (by omega)) (by omega) (fun hB CB ZB fB => ?_))
      have X1 := (X.mv fA).mv fB
      have w1 := (w.fz fA).fz fB
      unfold pCp at X1
      rw [if_pos ⟨z1, z2⟩] at X1
      -- behind the parameter, its kind
      have b122 : ∀ (v3 s1 : Int32), v3.toInt = 2 → s1.toInt = (if no = true then 0 else 1) → vX12_readsCondition_b122 Qn hB (A 38 0) s0 v3 s1 := fun v3 s1 h3 hs1 => by
        unfold vX12_readsCondition_b122
        refine g42 ZB.1 (nn_i (yli ZB.1 a42 rfl hsn (show (tb W p - 97).toNat < 8 by omega) (ZB.2.1.2.2.1 _) (fun x3 hx3 => cne32 hx3 (vl (by decide)) (fun k0 => ?_) (fun k0 => ?_))))
        · rw [if_neg k0] at X1
          refine t_b297 ZB w1 hn h7 (hs0.trans ep) h3 hs1 (X1.1 (p + 1) _ _ _ ?_)
          rfl
        · rw [if_pos k0] at X1
          refine io38_ ZB.1 (t_skips ZB IW (fun hC CC ZC fC => ?_))
          have X2 := X1.mv fC
          have w2 := w1.fz fC
          have tt := tb_in (W := W) (i := sk W (p + 1))
          -- the operator
          have b190 : ∀ s2 : Int32, ((opK (tb W (sk W (p + 1))) = -1 ∧ s2.toInt = 4) ∨ (opK (tb W (sk W (p + 1))) ≠ -1 ∧ s2.toInt = opK (tb W (sk W (p + 1))))) → vX12_readsCondition_b190 Qn hC (A 38 0) s0 s2 := fun s2 hs2 => by
            have oi := opK_in (tb W (sk W (p + 1)))
            unfold vX12_readsCondition_b190 vX12_readsCondition_b202 vX12_readsCondition_b222
            refine cle32 (vl (by decide)) (rfl : s2.toInt = s2.toInt) (fun z => ?_) (fun z => ?_)
            · have o1 : opK (tb W (sk W (p + 1))) = -1 := by omega
              rw [if_pos o1] at X2
              refine t_step (s0 := 0) (v := 0) ZC IW (by decide) (Or.inl rfl) (fun y => absurd y (by decide)) (fun hD CD_ ZD fD => io38_ ZD.1 (t_skips ZD IW (fun hE CE ZE fE => ?_)))
              rw [Nat.add_zero, sk_sk] at ZE
              have X3 := (X2.mv fD).mv fE
              unfold vX12_readsCondition_b250 vX12_readsCondition_b251 vX12_readsCondition_b268
              refine t_fi ZE (fun x3 hx3 => ceq32 hx3 (vl (by decide)) (fun _ => t_at ZE (fun x1 hx1 => ⟨fun _ => ?_, fun y => absurd rfl y⟩)) (fun y => absurd rfl y))
              have leE := ZE.2.2.2.2.2
              refine t_wat ZE (m := sk W (p + 1) + 0) (ix_add hx1 (ix_lit (by decide)) (by omega)) (by omega) (fun hF CF ZF fF => io38_ ZF.1 ?_)
              rw [Nat.add_zero] at ZF
              refine t_num ZF IW (Or.inl rfl) (vl (by decide) : (100 : Int32).toInt = 100) (fun y => absurd y (by decide)) (fun q hq hG CG ZG fG => ?_)
              have eq : q = sk W (p + 1) := by
                rcases hq with ⟨_, y⟩ | ⟨y, _⟩
                · rw [y, sk_sk]
                · exact absurd y (by decide)
              rw [eq] at ZG
              have X4 := (X3.mv fF).mv fG
              unfold vX12_readsCondition_b295
              exact ⟨fun _ => ygi ZG.1 a38 rfl rfl (fun x _ => t_b297n ZG (X4.2 _ rfl hG CG ZG (Fz.rf CG).w2)), fun y => absurd rfl y⟩
            · have o1 : opK (tb W (sk W (p + 1))) ≠ -1 := by omega
              have o2 : s2.toInt = opK (tb W (sk W (p + 1))) := by omega
              rw [if_neg o1] at X2
              refine t_step (s0 := 1) (v := 1) ZC IW (by decide) (Or.inr rfl) (fun _ => tt (fun e => o1 (by rw [e]; rfl))) (fun hD CD_ ZD fD => ?_)
              exact t_cv ZD IW (w2.fz fD) hn h7 (hs0.trans ep) o2 (X2.mv fD)
          refine io38_ ZC.1 (t_here ZC IW (vl (by decide) : (62 : Int32).toInt = 62) (by decide) (fun y => no_pos (b190 0 (Or.inr ?_))) (fun y0 => ok_pos (io38_ ZC.1 (t_here ZC IW (vl (by decide) : (60 : Int32).toInt = 60) (by decide) (fun y => no_pos (b190 1 (Or.inr ?_))) (fun y1 => ok_pos (io38_ ZC.1 (t_here ZC IW (vl (by decide) : (61 : Int32).toInt = 61) (by decide) (fun y => no_pos (b190 2 (Or.inr ?_))) (fun y2 => ok_pos (io38_ ZC.1 (t_here ZC IW (vl (by decide) : (35 : Int32).toInt = 35) (by decide) (fun y => no_pos (b190 3 (Or.inr ?_))) (fun y3 => ok_pos (b190 4 (Or.inl ?_)))))))))))))
          · rw [y]; decide
          · rw [y]; decide
          · rw [y]; decide
          · rw [y]; decide
          · unfold opK
            rw [if_neg y0, if_neg y1, if_neg y2, if_neg y3]
            decide
      cases no with
      | false =>
        have h1 : v1.toInt = 0 := h1
        exact ceq32 h1 (vl (by decide)) (fun _ => b122 2 1 (by decide) (by decide)) (fun y => by omega)
      | true =>
        have h1 : v1.toInt = 1 := h1
        exact ceq32 h1 (vl (by decide)) (fun y => by omega) (fun _ => b122 2 0 (by decide) (by decide))
    refine io38_ Z.1 (r_isParameter Z.1 (by rw [e3]; exact i3) (fun a b => yes1 ?_) (fun a => no1 (bad (fun y => by have := hpr.mpr y.1; omega))))
    have z1 : isPr W (tb W p) := hpr.mp ⟨by omega, by omega⟩
    cases no with
    | false =>
      have h1 : v1.toInt = 0 := h1
      exact ceq32 h1 (vl (by decide)) (fun _ => good z1 (fun y => by cases y)) (fun y => by omega)
    | true =>
      have h1 : v1.toInt = 1 := h1
      have ep := epr z1
      have z12 := z1.2
      refine ceq32 h1 (vl (by decide)) (fun y => by omega) (fun _ => g42 Z.1 (nn_i (yli Z.1 a42 rfl (show s0.toInt = (((tb W p - 97).toNat : Nat) : Int) by omega) (show (tb W p - 97).toNat < 8 by omega) (Z.2.1.2.2.1 _) (fun x5 hx5 => cne32 hx5 (vl (by decide)) (fun y => bad (fun u => y (u.2 rfl))) (fun y => good z1 (fun _ => y))))))
  refine t_at Z (fun x3 hx3 => ygi Z.1 a38 rfl (Z.len IW) (fun x4 hx4 => cle32 hx4 hx3 (fun y => b61 99 99 (by decide) ⟨fun u => by omega, fun u => ?_⟩ (fun u => ?_)) (fun y => g_t63 Z.1 (t_at Z (fun x6 hx6 => nn_i ?_)))))
  · have u1 := u.1
    rw [tb_ge (by omega)] at u1
    omega
  · have u1 := u.1
    rw [tb_ge (by omega)] at u1
    omega
  · exact yli Z.1 a63 rfl hx6 (show p < 150 by omega) (Z.byt (by omega)) (fun x8 h8 => b61 (x8 - 97) (tb W p - 97) (sub_ti h8 (vl (by decide)) (by omega)) ⟨fun u => ⟨by omega, u.2⟩, fun u => ⟨by have := u.1; omega, u.2⟩⟩ (fun _ => rfl))
theorem t_cond {Qn : gH → Prop} (Z : RT h A N zz W C P ad i 1) (IW : SI W) (w : RW ad n r C) (hn : n < 24) (h7 : 0 ≤ r 7 ∧ r 7 < 3) (X : YX Qn A N zz W C P ad n r (pCond W i)) : vX12_readsCondition Qn h (A 38 0) := by
  have tl := (W_len IW).2
  unfold vX12_readsCondition vX12_readsCondition_b25
  refine io38_ Z.1 (t_skips Z IW (fun h1 C1 Z1 f1 => io38_ Z1.1 ?_))
  have X1 := X.mv f1
  have w1 := w.fz f1
  have le := Z1.2.2.2.2.2
  unfold pCond at X1
  refine t_here Z1 IW (vl (by decide) : (126 : Int32).toInt = 126) (by decide) (fun y => t_at Z1 (fun x4 hx4 => ⟨fun z => absurd z (by decide), fun _ => ?_⟩)) (fun y => t_at Z1 (fun x4 hx4 => ⟨fun _ => ?_, fun z => absurd rfl z⟩))
  · rw [if_pos y] at X1
    have hp := tb_in (W := W) (i := sk W i) (by omega)
    refine t_wat Z1 (m := sk W i + 1) (ix_add hx4 (ix_lit (by decide)) (by omega)) (by omega) (fun h2 C2 Z2 f2 => io38_ Z2.1 (t_skips Z2 IW (fun h3 C3 Z3 f3 => ?_)))
    exact t_cp (no := true) Z3 IW ((w1.fz f2).fz f3) hn h7 (by decide) (sk_sk W _) ((X1.mv f2).mv f3)
  · rw [if_neg y] at X1
    refine t_wat Z1 (m := sk W i + 0) (ix_add hx4 (ix_lit (by decide)) (by omega)) (by omega) (fun h2 C2 Z2 f2 => io38_ Z2.1 (t_skips Z2 IW (fun h3 C3 Z3 f3 => ?_)))
    rw [Nat.add_zero, sk_sk] at Z3
    exact t_cp (no := false) Z3 IW ((w1.fz f2).fz f3) hn h7 (by decide) (sk_sk W i) ((X1.mv f2).mv f3)
end RCO
