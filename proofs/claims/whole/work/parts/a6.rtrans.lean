/-! ===== the reference reads a transition ===== -/
section RTR
variable {h : gH} {A : dA} {N zz : Nat → Nat} {S W C C' C0 : dC} {P : dP} {i n : Nat} {ad : Bool} {fi : Int} {r : dM} {Qn : gH → Prop}
theorem pAtt_sk (m q e : Nat) (r : dM) : pAtt W (m + 1) (sk W q) e r = pAtt W (m + 1) q e r := by
  show (if sgn (tb W (sk W (sk W q))) = 5 then (sk W (sk W q), some r) else (match pOne W (sgn (tb W (sk W (sk W q)))) (sk W (sk W q)) e r with
      | (q, none) => (q, none)
      | (q, some (e', r')) => pAtt W m q e' r')) = _
  rw [sk_sk]
  rfl
/-- may a transition end here -/
def fin_ (W : dC) (q : Nat) : Prop := tb W (sk W q) = -1 ∨ tb W (sk W q) = 59
/-- the frame of a transition -/
def FT (ad : Bool) (n : Nat) (C C' : dC) : Prop := ∀ j x f : Nat, ¬ (j = 38 ∧ (f = 30 ∨ f = 31 ∨ f = 33 ∨ f = 35 ∨ f = 36)) → ¬ (ad = true ∧ (j = 38 ∧ f = 21 ∨ j = 60 ∧ 17 * n ≤ f ∧ f < 17 * n + 17)) → C' j x f = C j x f
theorem Fy.t (a : Fy ad n C C') : FT ad n C C' := fun j x f h g => a j x f h (fun y => g ⟨y.1, by omega⟩)
theorem FT.tr {C1 : dC} (a : FT ad n C C') (b : FT ad n C' C1) : FT ad n C C1 := fun j x f h g => (b j x f h g).trans (a j x f h g)
theorem FT.rf (C : dC) : FT ad n C C := fun _ _ _ _ _ => rfl
theorem Fz.t (a : Fz C C') : FT ad n C C' := fun j x f h _ => a j x f (by omega)
/-- what a transition's reading leaves -/
def TY (Qn : gH → Prop) (A : dA) (N zz : Nat → Nat) (W C : dC) (P : dP) (ad : Bool) (n : Nat) (x : Nat × Option dM) : Prop := (∀ (q : Nat) (r' : dM), x = (q, some r') → (fin_ W q → ∀ (h' : gH) (C' : dC), RT h' A N zz W C' P ad (sk W q) 1 → RW ad n r' C' → FT ad n C C' → Qn h') ∧ (¬ fin_ W q → ∀ (h' : gH) (C' : dC), RT h' A N zz W C' P ad (sk W q) 0 → FT ad n C C' → Qn h')) ∧ (∀ q : Nat, x = (q, none) → ∀ (h' : gH) (C' : dC), RT h' A N zz W C' P ad q 0 → FT ad n C C' → Qn h')
theorem TY.mv {x : Nat × Option dM} (X : TY Qn A N zz W C P ad n x) (f : FT ad n C C') : TY Qn A N zz W C' P ad n x := ⟨fun q r' e => ⟨fun y h' C1 z w g => (X.1 q r' e).1 y h' C1 z w (f.tr g), fun y h' C1 z g => (X.1 q r' e).2 y h' C1 z (f.tr g)⟩, fun q e h' C1 z g => X.2 q e h' C1 z (f.tr g)⟩
theorem t_out {m : Nat} (Z : RT h A N zz W C P ad i 0) (k0 : Qn h) : vX12_readsTransition_b126 Qn (m + 1) h (A 38 0) := by
  show vX12_readsTransition_b126_o (vX12_readsTransition_b126 Qn m) Qn h (A 38 0)
  unfold vX12_readsTransition_b126_o vX12_readsTransition_b164
  exact t_fi Z (fun x1 hx1 => ceq32 hx1 (vl (by decide)) (fun _ => k0) (fun y => absurd rfl y))
theorem t_atts (IW : SI W) (hn : n < 24) : ∀ (m i e : Nat) (r : dM) (h : gH) (C : dC), sk W i = i → RT h A N zz W C P ad i 1 → RW ad n r C → e < 16 → C 38 0 35 = (e : Int) → C 38 0 36 = r 7 → rOK W r → (r 0 = -1 → e % 2 = 1) → tL W < i + m → TY Qn A N zz W C P ad n (pAtt W m i e r) → vX12_readsTransition_b126 Qn (m + 2) h (A 38 0)
  | 0, i, e, r, h, C, hs, Z, w, he, e35, e36, rk, re, hm, X => by
    have := Z.2.2.2.2.2
    omega
  | m + 1, i, e, r, h, C, hs, Z, w, he, e35, e36, rk, re, hm, X => by
    have le := Z.2.2.2.2.2
    show vX12_readsTransition_b126_o (vX12_readsTransition_b126 Qn (m + 2)) Qn h (A 38 0)
    unfold vX12_readsTransition_b126_o vX12_readsTransition_b164
    have X : TY Qn A N zz W C P ad n (if sgn (tb W (sk W i)) = 5 then (sk W i, some r) else (match pOne W (sgn (tb W (sk W i))) (sk W i) e r with
      | (q, none) => (q, none)
      | (q, some (e', r')) => pAtt W m q e' r')) := X
    rw [hs] at X
    have done : sgn (tb W i) = 5 → (tb W i = -1 ∨ tb W i = 59) → Qn h := fun s5 hy => by
      rw [if_pos s5] at X
      refine (X.1 i r rfl).1 ?_ h C ?_ w (FT.rf C)
      · unfold fin_
        rw [hs]
        exact hy
      · rw [hs]; exact Z
    refine t_fi Z (fun x1 hx1 => ceq32 hx1 (vl (by decide)) (fun y => absurd y (by decide)) (fun _ => t_at Z (fun x2 hx2 => ygi Z.1 a38 rfl (Z.len IW) (fun x3 hx3 => cle32 hx3 hx2 (fun y => ?_) (fun y => io38_ Z.1 ?_)))))
    · have e1 := tb_ge (W := W) (i := i) (by omega)
      exact done (by rw [e1]; rfl) (Or.inl e1)
    · refine t_here Z IW (vl (by decide) : (59 : Int32).toInt = 59) (by decide) (fun u => yes0 (done (by rw [u]; rfl) (Or.inr u))) (fun u => no0 (io38_ Z.1 ?_))
      have hb : tb W i ≠ -1 := by
        have r := IW.tx i (by have := (W_len IW).2; omega)
        rw [tb_lt (by omega)]
        omega
      have r7 := rk.2.2.2.2.2.2.2.2.1
      refine t_attr Z IW w hn he e35 e36 r7 ⟨fun q e' r' en h1 C1 Z1 w1 f1 g35 g36 => ?_, fun q en h1 C1 Z1 f1 => ?_⟩
      · by_cases s5 : sgn (tb W i) = 5
        · rw [if_pos s5] at en; cases en
        · rw [if_neg s5] at en
          rw [if_neg s5, en] at X
          have ok := pOne_ok (sgn_4 s5) (by omega) hs he rk re en
          have ok2 := ok.2.2.2 _ _ rfl
          have X1 := X.mv f1.t
          refine io38_ Z1.1 (t_skips Z1 IW (fun h2 C2 Z2 f2 => ?_))
          have sg := sk_ge W q
          have q35 : C2 38 0 35 = (e' : Int) := (f2 _ _ _ (by omega)).trans g35
          have q36 : C2 38 0 36 = r' 7 := (f2 _ _ _ (by omega)).trans g36
          have X2 := X1.mv (f2.t (ad := ad) (n := n))
          cases m with
          | zero => have := ok.2.1; omega
          | succ m => exact t_atts IW hn (m + 1) (sk W q) e' r' h2 C2 (sk_sk W q) Z2 (w1.fz f2) ok2.2.1 q35 q36 ok2.2.2.1 ok2.2.2.2 (by omega) (by rw [pAtt_sk]; exact X2)
      · by_cases s5 : sgn (tb W i) = 5
        · rw [if_pos s5] at en
          cases en
          rw [if_pos s5] at X
          refine io38_ Z1.1 (t_skips Z1 IW (fun h2 C2 Z2 f2 => t_out Z2 ?_))
          refine (X.1 i r rfl).2 ?_ h2 C2 Z2 (f1.t.tr f2.t)
          unfold fin_
          rw [hs]
          intro y
          rcases y with y | y
          · exact hb y
          · exact u y
        · rw [if_neg s5] at en
          rw [if_neg s5, en] at X
          have ok := pOne_ok (sgn_4 s5) (by omega) hs he rk re en
          refine io38_ Z1.1 (t_skips Z1 IW (fun h2 C2 Z2 f2 => t_out Z2 ?_))
          rw [ok.2.2.1 rfl] at Z2
          exact X.2 q rfl h2 C2 Z2 (f1.t.tr f2.t)
/-- behind the number: the attributes begin -/
theorem t_b114 {s0 : Int32} {e : Nat} (Z : RT h A N zz W C P ad i fi) (IW : SI W) (hs : s0.toInt = (e : Int)) (k0 : ∀ (h' : gH) (C' : dC), RT h' A N zz W C' P ad (sk W i) fi → FT ad n C C' → (∀ j x f : Nat, ¬ (j = 38 ∧ (f = 30 ∨ f = 31 ∨ f = 33 ∨ f = 35 ∨ f = 36)) → C' j x f = C j x f) → C' 38 0 35 = (e : Int) → C' 38 0 36 = 0 → ∃ m : Nat, vX12_readsTransition_b126 Qn m h' (A 38 0)) : vX12_readsTransition_b114 Qn h (A 38 0) s0 (A 38 0) := by
  unfold vX12_readsTransition_b114
  refine wpvI Z.1 a38 rfl hs (fun h1 R1 => ?_)
  have Z1 := Z.oth (Or.inr (Or.inl rfl)) R1
  refine wpvI R1 a38 rfl (v := 0) (vl (by decide)) (fun h2 R2 => io38_ R2 ?_)
  have Z2 := Z1.oth (Or.inr (Or.inr rfl)) R2
  refine t_skips Z2 IW (fun h3 C3 Z3 f3 => ?_)
  have fr : ∀ j x f : Nat, ¬ (j = 38 ∧ (f = 30 ∨ f = 31 ∨ f = 33 ∨ f = 35 ∨ f = 36)) → C3 j x f = C j x f := fun j x f g => by rw [f3 j x f (by omega), up3_ne _ _ (by omega), up3_ne _ _ (by omega)]
  refine k0 h3 C3 Z3 (fun j x f g _ => fr j x f g) fr ?_ ?_
  · rw [f3 _ _ _ (by omega), up3_ne _ _ (by omega), up3_same]
  · rw [f3 _ _ _ (by omega), up3_same]
def zK5 (Qn : gH → Prop) (a : Nat) (x3 x6 : Int32) : gH → Prop := fun h8 => gi h8 a 15 31 (fun x9 => (((x9 : Int32) = 0) → (vX12_readsTransition_b103 Qn h8 a x3)) ∧ ((¬ (x9 : Int32) = 0) → (gi h8 a 15 32 (fun x10 => (((x10 : Int32) = 0) → (vX12_readsTransition_b103 Qn h8 a x3)) ∧ ((¬ (x10 : Int32) = 0) → (gi h8 a 15 33 (fun x11 => io h8 a 15 (vX12_newTransition (fun h12 => vX12_readsTransition_b103 Qn h12 a x3) h8 a x3 x6 x11))))))))
def zK4 (Qn : gH → Prop) (a : Nat) (x3 x6 : Int32) : gH → Prop := fun h7 => io h7 a 15 (vX12_readsNumber (fun h8 => zK5 Qn a x3 x6 h8) h7 a 60)
def zK3 (Qn : gH → Prop) (a : Nat) (x3 x6 : Int32) : gH → Prop := fun h5 => io h5 a 15 (vX12_reads (fun h7 => zK4 Qn a x3 x6 h7) h5 a 47)
def zK2 (Qn : gH → Prop) (a : Nat) (x3 : Int32) : gH → Prop := fun h4 => io h4 a 15 (vX12_readsState (fun x6 h5 => zK3 Qn a x3 x6 h5) h4 a 0)
def zK1 (Qn : gH → Prop) (a : Nat) (x3 : Int32) : gH → Prop := fun h2 => io h2 a 15 (vX12_reads (fun h4 => zK2 Qn a x3 h4) h2 a 62)
/-- after a fault nothing is read -/
def Fl (Qn : gH → Prop) (A : dA) (N zz : Nat → Nat) (W C : dC) (P : dP) (ad : Bool) (n q : Nat) : Prop := ∀ (h' : gH) (C' : dC), RT h' A N zz W C' P ad q 0 → FT ad n C C' → Qn h'
theorem Fl.mv {q : Nat} (X : Fl Qn A N zz W C P ad n q) (f : FT ad n C C') : Fl Qn A N zz W C' P ad n q := fun h' C1 z g => X h' C1 z (f.tr g)
theorem f_b103 {x3 : Int32} (Z : RT h A N zz W C P ad i 0) (IW : SI W) (hs : sk W i = i) (X : Fl Qn A N zz W C P ad n i) : vX12_readsTransition_b103 Qn h (A 38 0) x3 := by
  unfold vX12_readsTransition_b103
  have g : ∀ (s0 : Int32) (e : Nat), s0.toInt = (e : Int) → vX12_readsTransition_b114 Qn h (A 38 0) s0 (A 38 0) := fun s0 e hs0 => t_b114 (n := n) Z IW hs0 (fun h' C' Z' f' _ _ _ => ⟨1, t_out Z' (by rw [hs] at Z'; exact X h' C' Z' f')⟩)
  exact ⟨fun _ => g 0 0 (by decide), fun _ => g 1 1 (by decide)⟩
theorem f_K5 {x3 x6 : Int32} (Z : RT h A N zz W C P ad i 0) (IW : SI W) (hs : sk W i = i) (X : Fl Qn A N zz W C P ad n i) : zK5 Qn (A 38 0) x3 x6 h := t_fi Z (fun x1 hx1 => ceq32 hx1 (vl (by decide)) (fun _ => f_b103 Z IW hs X) (fun y => absurd rfl y))
theorem f_K4 {x3 x6 : Int32} (Z : RT h A N zz W C P ad i 0) (IW : SI W) (hs : sk W i = i) (X : Fl Qn A N zz W C P ad n i) : zK4 Qn (A 38 0) x3 x6 h := by
  unfold zK4
  refine io38_ Z.1 (t_num Z IW (Or.inl rfl) (vl (by decide) : (60 : Int32).toInt = 60) (fun y => absurd y (by decide)) (fun q en h1 C1 Z1 f1 => ?_))
  have e : q = i := by
    rcases en with ⟨_, y⟩ | ⟨y, _⟩
    · rw [y, hs]
    · exact absurd y (by decide)
  rw [e] at Z1
  exact f_K5 Z1 IW hs (X.mv f1.t)
theorem f_K3 {x3 x6 : Int32} (Z : RT h A N zz W C P ad i 0) (IW : SI W) (hs : sk W i = i) (X : Fl Qn A N zz W C P ad n i) : zK3 Qn (A 38 0) x3 x6 h := by
  unfold zK3
  refine io38_ Z.1 (t_reads Z IW (Or.inl rfl) (vl (by decide) : (47 : Int32).toInt = 47) (by decide) (fun y => absurd y (by decide)) (fun _ h1 C1 Z1 f1 => ?_))
  rw [hs] at Z1
  exact f_K4 Z1 IW hs (X.mv f1.t)
theorem f_K2 {x3 : Int32} (Z : RT h A N zz W C P ad i 0) (IW : SI W) (hs : sk W i = i) (X : Fl Qn A N zz W C P ad n i) : zK2 Qn (A 38 0) x3 h := by
  unfold zK2
  refine io38_ Z.1 (t_state (any := false) Z IW (Or.inl rfl) (by decide) (fun y => absurd y (by decide)) (fun y => absurd y (by decide)) (fun _ x h1 C1 Z1 f1 => ?_))
  rw [hs] at Z1
  exact f_K3 Z1 IW hs (X.mv f1.t)
theorem f_K1 {x3 : Int32} (Z : RT h A N zz W C P ad i 0) (IW : SI W) (hs : sk W i = i) (X : Fl Qn A N zz W C P ad n i) : zK1 Qn (A 38 0) x3 h := by
  unfold zK1
  refine io38_ Z.1 (t_reads Z IW (Or.inl rfl) (vl (by decide) : (62 : Int32).toInt = 62) (by decide) (fun y => absurd y (by decide)) (fun _ h1 C1 Z1 f1 => ?_))
  rw [hs] at Z1
  exact f_K2 Z1 IW hs (X.mv f1.t)
/-- the number was read -/
theorem g_K5 {x3 x6 : Int32} {f t d : Int} (Z : RT h A N zz W C P ad i 1) (IW : SI W) (hn : n < 24) (i1 : 1 ≤ i) (h3 : x3.toInt = f) (h6 : x6.toInt = t) (hd : C 38 0 33 = d) (hc : ad = true → C 38 0 21 = (n : Int)) (rk : rOK W (rec0 f t d)) (X : TY Qn A N zz W C P ad n (pAtt W 150 i (if f = -1 then 1 else 0) (rec0 f t d))) : zK5 Qn (A 38 0) x3 x6 h := by
  have tl := (W_len IW).2
  have sg := sk_ge W i
  have b103 : ∀ (h' : gH) (C' : dC), RT h' A N zz W C' P ad i 1 → RW ad n (rec0 f t d) C' → FT ad n C C' → vX12_readsTransition_b103 Qn h' (A 38 0) x3 := fun h' C' Z' w' f' => by
    unfold vX12_readsTransition_b103
    have X' := X.mv f'
    have g : ∀ (s0 : Int32) (e : Nat), s0.toInt = (e : Int) → e = (if f = -1 then 1 else 0) → vX12_readsTransition_b114 Qn h' (A 38 0) s0 (A 38 0) := fun s0 e hs0 he => by
      refine t_b114 (n := n) Z' IW hs0 (fun h2 C2 Z2 f2 fr q35 q36 => ⟨152, ?_⟩)
      have e16 : e < 16 := by rw [he]; split <;> decide
      rw [← he] at X'
      refine t_atts IW hn 150 (sk W i) e (rec0 f t d) h2 C2 (sk_sk W i) Z2 (fun z => ?_) e16 q35 q36 rk (fun y => ?_) (by omega) (by rw [pAtt_sk 149]; exact X'.mv f2)
      · obtain ⟨w1, w2⟩ := w' z
        exact ⟨(fr _ _ _ (by omega)).trans w1, fun k hk => (fr _ _ _ (by omega)).trans (w2 k hk)⟩
      · have y : f = -1 := y
        rw [he, if_pos y]
    refine cne32 h3 (show (-1 : Int32).toInt = -1 by decide) (fun y => g 0 0 (by decide) (by rw [if_neg y])) (fun y => g 1 1 (by decide) (by rw [if_pos y]))
  unfold zK5
  refine t_fi Z (fun x9 hx9 => ceq32 hx9 (vl (by decide)) (fun y => absurd y (by decide)) (fun _ => t_ad Z (fun x10 hx10 => ?_)))
  cases ad with
  | false =>
    have hx10 : x10.toInt = 0 := hx10
    exact ceq32 hx10 (vl (by decide)) (fun _ => b103 h C Z (fun z => by cases z) (FT.rf C)) (fun y => by omega)
  | true =>
    have hx10 : x10.toInt = 1 := hx10
    refine ceq32 hx10 (vl (by decide)) (fun y => by omega) (fun _ => ygi Z.1 a38 rfl hd (fun x11 hx11 => io38_ Z.1 ?_))
    refine r_newTransition Z.1 (hc rfl) hn (fun h' C' R' e1 e2 e3 e4 e5 e6 fr => ?_)
    obtain ⟨R, T, t1, t2, t3, hi⟩ := Z
    refine b103 h' C' ⟨R', T.fz (fun j f hj => fr j 0 f (by omega) (by omega)), (fr _ _ _ (by omega) (by omega)).trans t1, (fr _ _ _ (by omega) (by omega)).trans t2, (fr _ _ _ (by omega) (by omega)).trans t3, hi⟩ (fun _ => ⟨e6, fun k hk => ?_⟩) (fun j x f' g1 g2 => fr j x f' (fun y => g2 ⟨rfl, Or.inl ⟨y.1, y.2⟩⟩) (fun y => g2 ⟨rfl, Or.inr y⟩))
    rcases Nat.lt_or_ge k 4 with k4 | k4
    · have : k = 0 ∨ k = 1 ∨ k = 2 ∨ k = 3 := by omega
      rcases this with rfl | rfl | rfl | rfl
      · exact e1.trans h3
      · exact e2.trans h6
      · exact e3.trans hx11
      · exact e4
    · rw [e5 k k4 hk]
      unfold rec0
      rw [if_neg (by omega), if_neg (by omega), if_neg (by omega), if_neg (by omega)]
/-- what stands behind the place -/
theorem g_K1 {x3 : Int32} {f : Int} (Z : RT h A N zz W C P ad i 1) (IW : SI W) (hn : n < 24) (h3 : x3.toInt = f) (hf : -1 ≤ f ∧ f < W 38 0 19) (hc : ad = true → C 38 0 21 = (n : Int)) (X : TY Qn A N zz W C P ad n (pTo W f i)) : zK1 Qn (A 38 0) x3 h := by
  unfold zK1
  unfold pTo at X
  refine io38_ Z.1 (t_reads Z IW (Or.inr rfl) (vl (by decide) : (62 : Int32).toInt = 62) (by decide) (fun _ s1 h1 C1 Z1 f1 => ?_) (fun s1 h1 C1 Z1 f1 => ?_))
  · rw [if_pos s1] at X
    have X1 := X.mv f1.t
    have hc1 : ad = true → C1 38 0 21 = (n : Int) := fun z => (f1 _ _ _ (by omega)).trans (hc z)
    unfold zK2
    refine io38_ Z1.1 (t_state (any := false) Z1 IW (Or.inr rfl) (by decide) (fun _ y => by cases y) (fun _ st x6 h2 C2 Z2 f2 hx6 => ?_) (fun ns x6 h2 C2 Z2 f2 => ?_))
    · rw [if_pos st] at X1
      have X2 := X1.mv f2.t
      have hc2 : ad = true → C2 38 0 21 = (n : Int) := fun z => (f2 _ _ _ (by omega)).trans (hc1 z)
      unfold zK3
      refine io38_ Z2.1 (t_reads Z2 IW (Or.inr rfl) (vl (by decide) : (47 : Int32).toInt = 47) (by decide) (fun _ s2 h4 C4 Z4 f4 => ?_) (fun s2 h4 C4 Z4 f4 => ?_))
      · rw [if_pos s2] at X2
        have X4 := X2.mv f4.t
        have hc4 : ad = true → C4 38 0 21 = (n : Int) := fun z => (f4 _ _ _ (by omega)).trans (hc2 z)
        unfold zK4
        refine io38_ Z4.1 (t_num Z4 IW (Or.inr rfl) (vl (by decide) : (60 : Int32).toInt = 60) (fun _ q d en h5 C5 Z5 f5 e33 => ?_) (fun q en h5 C5 Z5 f5 => ?_))
        · rw [en] at X4
          have L := pNum_le Z4.2.2.2.2.2 en
          have v1 := L.2.2.2.2 d rfl
          have st1 := st.1
          have st2 := st.2
          have L1 := L.1
          exact g_K5 Z5 IW hn (by omega) h3 hx6 e33 (fun z => (f5 _ _ _ (by omega)).trans (hc4 z)) (rec0_ok hf ⟨by omega, st2⟩ ⟨v1.1, v1.2.1⟩) (X4.mv f5.t)
        · have en := en.elim (fun y => absurd y.1 (by decide)) (fun y => y.2)
          rw [en] at X4
          have L := pNum_le Z4.2.2.2.2.2 en
          exact f_K5 Z5 IW (L.2.2.2.1 rfl) (fun h' C' z g => X4.2 q rfl h' C' z (f5.t.tr g))
      · rw [if_neg (s2.elim (fun y => absurd y (by decide)) id)] at X2
        exact f_K4 Z4 IW (sk_sk W _) (fun h' C' z g => X2.2 _ rfl h' C' z (f4.t.tr g))
    · have ns := (ns.elim (fun y => absurd y (by decide)) id).1
      rw [if_neg ns] at X1
      exact f_K3 Z2 IW (sk_sk W _) (fun h' C' z g => X1.2 _ rfl h' C' z (f2.t.tr g))
  · rw [if_neg (s1.elim (fun y => absurd y (by decide)) id)] at X
    exact f_K2 Z1 IW (sk_sk W _) (fun h' C' z g => X.2 _ rfl h' C' z (f1.t.tr g))
/-- a transition, if there is room for it -/
def pRm (W : dC) (k i : Nat) : Nat × Option dM := if k < 24 then pTr W i else (sk W i, none)
theorem t_trans {k c34 : Nat} (Z : RT h A N zz W C P ad i fi) (IW : SI W) (hc : C 38 0 21 = (n : Int)) (h34 : C 38 0 34 = (c34 : Int)) (hk : k = if ad = true then n else n + c34) (hn : n ≤ 24) (hb : c34 ≤ 1000) (X : TY Qn A N zz W C P ad n (pRm W k i)) : vX12_readsTransition Qn h (A 38 0) := by
  have tl := (W_len IW).2
  have ins := IW.ns
  have g0 : gZ 0 := gZ_of (by decide)
  have g1 : gZ 1 := gZ_of (by decide)
  unfold vX12_readsTransition
  refine io38_ Z.1 (t_skips Z IW (fun h1 C1 Z1 f1 => ?_))
  have X1 := X.mv f1.t
  have hc1 : C1 38 0 21 = (n : Int) := (f1 _ _ _ (by omega)).trans hc
  have h341 : C1 38 0 34 = (c34 : Int) := (f1 _ _ _ (by omega)).trans h34
  -- no room, or no byte
  have bad : pRm W k i = (sk W i, none) → vX12_readsTransition_b45 Qn h1 (A 38 0) (A 38 0) := fun e => by
    rw [e] at X1
    show gZ 0 ∧ pv h1 (A 38 0) 15 31 (.int 0) (fun h1 => io h1 (A 38 0) 15 (vX12_readsState (fun x3 h2 => zK1 Qn (A 38 0) x3 h2) h1 (A 38 0) 1))
    refine ⟨g0, t_wfi Z1 (v := 0) (by decide) (fun h2 C2 Z2 f2 => io38_ Z2.1 (t_state (any := true) Z2 IW (Or.inl rfl) (by decide) (fun y => absurd y (by decide)) (fun y => absurd y (by decide)) (fun _ x h3 C3 Z3 f3 => ?_)))⟩
    rw [sk_sk] at Z3
    exact f_K1 Z3 IW (sk_sk W i) (fun h' C' z g => X1.2 _ rfl h' C' z ((f2.t.tr f3.t).tr g))
  have good : k < 24 → vX12_readsTransition_b46 Qn h1 (A 38 0) 1 (A 38 0) := fun k24 => by
    unfold pRm at X1
    rw [if_pos k24] at X1
    unfold pTr at X1
    have n24 : n < 24 := by
      cases ad with
      | false => have hk : k = n + c34 := hk; omega
      | true => have hk : k = n := hk; omega
    show gZ 1 ∧ pv h1 (A 38 0) 15 31 (.int 1) (fun h1 => io h1 (A 38 0) 15 (vX12_readsState (fun x3 h2 => zK1 Qn (A 38 0) x3 h2) h1 (A 38 0) 1))
    refine ⟨g1, t_wfi Z1 (v := 1) (by decide) (fun h2 C2 Z2 f2 => io38_ Z2.1 ?_)⟩
    have X2 := X1.mv f2.t
    have hc2 : C2 38 0 21 = (n : Int) := (f2 _ _ _ (by omega)).trans hc1
    refine t_state (any := true) Z2 IW (Or.inr rfl) (by decide) (fun _ _ y h3 C3 Z3 f3 => ?_) (fun _ st x h3 C3 Z3 f3 hx => ?_) (fun ns x h3 C3 Z3 f3 => ?_)
    · rw [sk_sk] at y Z3
      rw [if_pos y] at X2
      exact g_K1 Z3 IW n24 (show (-1 : Int32).toInt = -1 by decide) ⟨by decide, by omega⟩ (fun _ => (f3 _ _ _ (by omega)).trans hc2) (X2.mv f3.t)
    · rw [sk_sk] at st Z3 hx
      have st1 := st.1
      have st2 := st.2
      by_cases y : tb W (sk W i) = 42
      · omega
      · rw [if_neg y, if_pos st] at X2
        exact g_K1 Z3 IW n24 hx ⟨by omega, st2⟩ (fun _ => (f3 _ _ _ (by omega)).trans hc2) (X2.mv f3.t)
    · rw [sk_sk] at ns Z3
      have ns := ns.elim (fun y => absurd y (by decide)) id
      rw [if_neg (ns.2 rfl), if_neg ns.1] at X2
      exact f_K1 Z3 IW (sk_sk W i) (fun h' C' z g => X2.2 _ rfl h' C' z (f3.t.tr g))
  have pe : tb W (sk W i) = -1 → pRm W k i = (sk W i, none) := fun e => by
    unfold pRm
    by_cases y : k < 24
    · rw [if_pos y]
      unfold pTr
      rw [if_neg (by rw [e]; decide), if_neg (by rw [e]; intro u; have := u.1; omega)]
    · rw [if_neg y]
  refine t_at Z1 (fun x2 hx2 => ygi Z1.1 a38 rfl (Z1.len IW) (fun x3 hx3 => cle32 hx3 hx2 (fun y => bad (pe (tb_ge (by omega)))) (fun y => ygi Z1.1 a38 rfl hc1 (fun x4 hx4 => t_ad Z1 (fun x5 hx5 => ?_)))))
  have b35 : ∀ (s0 : Int32) (d : Nat), s0.toInt = (d : Int) → n + d = k → d ≤ 1000 → vX12_readsTransition_b35 Qn h1 (A 38 0) s0 x4 (A 38 0) := fun s0 d hs0 hd hd2 => by
    unfold vX12_readsTransition_b35
    have e : (x4 + s0).toInt = ((n + d : Nat) : Int) := ix_add hx4 hs0 (by omega)
    refine cle32 (vl (by decide)) e (fun u => bad ?_) (fun u => good (by omega))
    unfold pRm
    rw [if_neg (by omega)]
  cases ad with
  | false =>
    have hx5 : x5.toInt = 0 := hx5
    exact ceq32 hx5 (vl (by decide)) (fun _ => ygi Z1.1 a38 rfl h341 (fun x6 hx6 => b35 x6 c34 hx6 hk.symm hb)) (fun u => by omega)
  | true =>
    have hx5 : x5.toInt = 1 := hx5
    exact ceq32 hx5 (vl (by decide)) (fun u => by omega) (fun _ => b35 0 0 (by decide) (by have hk : k = n := hk; omega) (by decide))
end RTR
