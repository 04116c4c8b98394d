/-! ===== the reference: steps ===== -/
section RST
variable {h : gH} {A : dA} {N zz : Nat → Nat} {S C C0 : dC} {P : dP} {f0 : Nat}
theorem a81 : ac N 81 0 := ⟨Nat.one_pos, by decide⟩
theorem a38 : ac N 38 0 := ⟨Nat.one_pos, by decide⟩
/-- far values lie above the distances, and at them as far as r -/
def Fa (S : dC) (f : Nat) (g : Nat → Int) : Prop := ∀ s : Nat, (s : Int) < S 38 0 19 → g s = 100 ∨ ∃ v : Nat, g s = (v : Int) ∧ v < 100 ∧ rs S f v s
def Fbb (S : dC) (f r : Nat) (g : Nat → Int) : Prop := ∀ s v : Nat, (s : Int) < S 38 0 19 → v ≤ r → rs S f v s → g s ≤ (v : Int)
def Fc (S : dC) (f r t a : Nat) (g : Nat → Int) : Prop := ∀ t' a' s : Nat, (t' < t ∨ (t' = t ∧ a' < a)) → (a' : Int) < S 38 0 19 → (s : Int) < S 38 0 19 → rs S f r a' → edg S t' a' s → g s ≤ (r : Int) + 1
def Ga (S : dC) (f r t a : Nat) (g : Nat → Int) : Prop := Fa S f g ∧ Fbb S f r g ∧ Fc S f r t a g
theorem Ga_next {r t a b : Nat} {g g1 : Nat → Int} (G : Ga S f0 r t a g) (ht : (t : Int) < S 38 0 21) (ha : (a : Int) < S 38 0 19) (hb : S 60 0 (17 * t + 1) = (b : Int)) (hbs : (b : Int) < S 38 0 19)
    (h : ((inL S t (a : Int) ∧ g a + 1 < g b) ∧ g1 b = g a + 1) ∨ (¬ (inL S t (a : Int) ∧ g a + 1 < g b) ∧ g1 b = g b)) (same : ∀ s, s ≠ b → g1 s = g s) : Ga S f0 r t (a + 1) g1 := by
  obtain ⟨G1, G2, G3⟩ := G
  have le : ∀ s, g1 s ≤ g s := fun s => by
    by_cases z : s = b
    · rw [z]
      rcases h with ⟨⟨h1, h2⟩, h3⟩ | ⟨h1, h3⟩ <;> omega
    · rw [same s z]; exact Int.le_refl _
  refine ⟨fun s hs => ?_, fun s v hs hv hr => Int.le_trans (le s) (G2 s v hs hv hr), fun t' a' s hta ha' hs hr e => ?_⟩
  · by_cases z : s = b
    · rw [z]
      rcases h with ⟨⟨h1, h2⟩, h3⟩ | ⟨h1, h3⟩
      · rw [h3]
        rcases G1 b hbs with q | ⟨w, q, qw, _⟩
        · rcases G1 a ha with p | ⟨v, p, pv, pr⟩
          · omega
          · exact Or.inr ⟨v + 1, by omega, by omega, Or.inr ⟨t, a, ha, pr, ht, h1, hb⟩⟩
        · rcases G1 a ha with p | ⟨v, p, pv, pr⟩
          · omega
          · exact Or.inr ⟨v + 1, by omega, by omega, Or.inr ⟨t, a, ha, pr, ht, h1, hb⟩⟩
      · rw [h3]; exact G1 b hbs
    · rw [same s z]; exact G1 s hs
  · by_cases z : t' = t ∧ a' = a
    · rw [z.1, z.2] at e
      rw [z.2] at hr
      have sb : s = b := by have := e.2.2; omega
      rw [sb]
      have ga := G2 a r ha (Nat.le_refl r) hr
      have il : inL S t (a : Int) := e.2.1
      rcases h with ⟨⟨h1, h2⟩, h3⟩ | ⟨h1, h3⟩
      · omega
      · have : ¬ g a + 1 < g b := fun y => h1 ⟨il, y⟩
        omega
    · exact Int.le_trans (le s) (G3 t' a' s (by omega) ha' hs hr e)
theorem Ga_row {r t a : Nat} {g : Nat → Int} (G : Ga S f0 r t a g) (ha : (a : Int) = S 38 0 19) : Ga S f0 r (t + 1) 0 g := ⟨G.1, G.2.1, fun t' a' s hta ha' hs hr e => G.2.2 t' a' s (by omega) ha' hs hr e⟩
theorem Ga_end {r t : Nat} {g : Nat → Int} (G : Ga S f0 r t 0 g) (ht : (t : Int) = S 38 0 21) : Fa S f0 g ∧ Fbb S f0 (r + 1) g := by
  refine ⟨G.1, fun s v hs hv hr => ?_⟩
  by_cases z : v ≤ r
  · exact G.2.1 s v hs z hr
  · have : v = r + 1 := by omega
    rw [this] at hr ⊢
    rcases hr with hr | ⟨t', a, ha, hr, e⟩
    · have := G.2.1 s r hs (Nat.le_refl r) hr
      omega
    · have := G.2.2 t' a s (by have := e.1; omega) ha hs hr e
      omega
theorem Ga_0 {r : Nat} {g : Nat → Int} (a : Fa S f0 g) (b : Fbb S f0 r g) : Ga S f0 r 0 0 g := ⟨a, b, fun t' a' s hta => by omega⟩
theorem Fa_isD {s : Nat} {g : Nat → Int} (hs : (s : Int) < S 38 0 19) (h100 : S 38 0 19 ≤ 10) (a : Fa S f0 g) (b : Fbb S f0 (S 38 0 19).toNat g) : (g s < 100 → isD S f0 s (g s)) ∧ (¬ g s < 100 → isD S f0 s (-1)) := by
  have key : ∀ n, rs S f0 n s → ∃ w : Nat, lsD S f0 s w ∧ g s ≤ (w : Int) ∧ w < 10 := fun n z => by
    obtain ⟨w, _, l⟩ := rs_least z
    have := lsD_lt hs l
    exact ⟨w, l, b s w hs (by omega) l.1, by omega⟩
  refine ⟨fun z => ?_, fun z => Or.inl ⟨rfl, fun n y => ?_⟩⟩
  · rcases a s hs with q | ⟨v, q, qv, qr⟩
    · omega
    · obtain ⟨w, l, lw, _⟩ := key v qr
      have : w = v := by
        rcases Nat.lt_or_ge v w with x | x
        · exact absurd qr (l.2 v x)
        · omega
      rw [this] at l
      exact Or.inr ⟨v, q, l⟩
  · obtain ⟨w, l, lw, w10⟩ := key n y
    omega
/-- the reference's columns but those of far -/
def E81 (C0 C : dC) : Prop := ∀ j i f : Nat, ¬ (j = 81) → C j i f = C0 j i f
theorem E81.st (E : E81 C0 C) : St C0 C := fun j i f hs => E j i f (fun z => by rw [z] at hs; cases hs)
theorem r_far_in {k62 : gH → Nat → Int32 → Int32 → Prop} {k73 : gH → Nat → Int32 → Int32 → Int32 → Prop} {Qn : Int32 → gH → Prop} {v2 v3 v4 : Int32} {r t : Nat} (I : SI C0) (ht : (t : Int) < C0 38 0 21) (h4 : v4.toInt = (t : Int)) (k0 : ∀ (h' : gH) (C' : dC), D h' A N zz C' P → E81 C0 C' → Ga C0 f0 r (t + 1) 0 (C' 81 0) → k73 h' (A 38 0) v2 v3 (v4 + 1)) :
  ∀ (m a : Nat) (h : gH) (C : dC) (v5 : Int32), D h A N zz C P → E81 C0 C → v5.toInt = (a : Int) → ((a + m : Nat) : Int) = C0 38 0 19 → Ga C0 f0 r t a (C 81 0) → vX12_steps_b85 k62 k73 Qn (m + 1) h (A 38 0) v2 v3 v4 v5 := by
  have i1 := I.nt
  have i2 := I.ns
  have tt := I.tt t ht
  obtain ⟨b, hb⟩ : ∃ b : Nat, C0 60 0 (17 * t + 1) = (b : Int) := ⟨(C0 60 0 (17 * t + 1)).toNat, by omega⟩
  have hbs : (b : Int) < C0 38 0 19 := by omega
  intro m
  induction m with
  | zero =>
    intro a h C v5 R E h5 hm G
    have R9 := E.st (C := C)
    show vX12_steps_b85_o k62 k73 (vX12_steps_b85 k62 k73 Qn 0) Qn _ _ _ _ _ _
    unfold vX12_steps_b85_o
    exact ygi R a38 rfl (E 38 0 19 (by decide)) (fun x1 h1 => cle32 h1 h5 (fun _ => k0 h C R E (Ga_row G (by omega))) (fun z => by omega))
  | succ m ih =>
    intro a h C v5 R E h5 hm G
    have E9 := E.st
    have ha : (a : Int) < C0 38 0 19 := by omega
    have h51 : (v5 + 1).toInt = ((a + 1 : Nat) : Int) := ix_add h5 (ix_lit (by decide)) (by omega)
    have gr_ : ∀ {h : gH} {C : dC} {K : Option Nat → Prop}, D h A N zz C P → K (some (A 81 0)) → gr h (A 38 0) 15 41 K := fun R kk => wgrs R a38 rfl (show dS 38 0 41 = some (81, 0) from rfl) kk
    have io_ : ∀ {h : gH} {C : dC} {K : Prop}, D h A N zz C P → K → io h (A 38 0) 15 K := fun R kk => wio R a38 rfl (by decide) kk
    have of1 : ∀ {Qn : Int32 → gH → Prop}, (∀ x : Int32, x.toInt = (b : Int) → Qn x h) → vX12_of Qn h (A 38 0) v4 1 := fun kk => r_of R h4 (by decide : (1 : Int32).toInt = ((1 : Nat) : Int)) (by omega) (fun x hx => kk x (hx.trans ((E 60 0 (17 * t + 1) (by decide)).trans hb)))
    have fin : ∀ (s0 s1 : Int32) (w : Int), s0.toInt = w → s1.toInt = (b : Int) → (((inL C0 t (a : Int) ∧ C 81 0 a + 1 < C 81 0 b) ∧ w = C 81 0 a + 1) ∨ (¬ (inL C0 t (a : Int) ∧ C 81 0 a + 1 < C 81 0 b) ∧ w = C 81 0 b)) → vX12_steps_b176 k62 k73 (vX12_steps_b85 k62 k73 Qn (m + 1)) Qn h (A 38 0) v2 v3 v4 v5 s0 s1 (some (A 81 0)) := fun s0 s1 w e0 e1 hw => by
      unfold vX12_steps_b176
      refine nn_i (wsi R a81 rfl e1 (show b < 10 by omega) e0 (fun h2 R2 => ih (a + 1) h2 _ (v5 + 1) R2 (fun j i f hj => ?_) h51 (by omega) (Ga_next G ht ha hb hbs ?_ (fun s hs => up3_ne _ _ (by omega)))))
      · rw [up3_ne _ _ (by omega)]; exact E j i f hj
      · rw [up3_same]; exact hw
    have no : ¬ (inL C0 t (a : Int) ∧ C 81 0 a + 1 < C 81 0 b) → vX12_steps_b134 k62 k73 (vX12_steps_b85 k62 k73 Qn (m + 1)) Qn h (A 38 0) v2 v3 v4 v5 0 := fun z => by
      unfold vX12_steps_b134
      exact gr_ R (io_ R (of1 (fun x3 h3 => ⟨fun _ => gr_ R (io_ R (of1 (fun x6 h6 => nn_i (yli R a81 rfl h6 (show b < 10 by omega) rfl (fun x8 h8 => fin x8 x3 _ h8 h3 (Or.inr ⟨z, rfl⟩)))))), fun q => absurd rfl q⟩)))
    have yes : (inL C0 t (a : Int) ∧ C 81 0 a + 1 < C 81 0 b) → vX12_steps_b134 k62 k73 (vX12_steps_b85 k62 k73 Qn (m + 1)) Qn h (A 38 0) v2 v3 v4 v5 1 := fun z => by
      unfold vX12_steps_b134
      refine gr_ R (io_ R (of1 (fun x3 h3 => ⟨fun q => absurd q (by decide), fun _ => gr_ R (nn_i (yli R a81 rfl h5 (show a < 10 by omega) rfl (fun x11 h11 => ?_)))⟩)))
      have bb : C 81 0 a ≤ 100 ∧ 0 ≤ C 81 0 a := by rcases G.1 a ha with q | ⟨v, q, qv, _⟩ <;> omega
      exact fin (x11 + 1) x3 (C 81 0 a + 1) (add_ti h11 (vl (by decide)) (by omega)) h3 (Or.inl ⟨z, rfl⟩)
    show vX12_steps_b85_o k62 k73 (vX12_steps_b85 k62 k73 Qn (m + 1)) Qn _ _ _ _ _ _
    unfold vX12_steps_b85_o vX12_steps_b133
    refine ygi R a38 rfl (E 38 0 19 (by decide)) (fun x1 h1 => cle32 h1 h5 (fun z => by omega) (fun _ => io_ R ?_))
    refine w_inList R E9 (isN_h h4) (by omega) (isV_h h5) (fun il => yes1 ?_) (fun il => no1 (no (fun z => il z.1)))
    refine gr_ R (nn_i (yli R a81 rfl h5 (show a < 10 by omega) rfl (fun x6 h6 => gr_ R (io_ R (of1 (fun x9 h9 => nn_i (yli R a81 rfl h9 (show b < 10 by omega) rfl (fun x11 h11 => ?_))))))))
    have bb : C 81 0 a ≤ 100 ∧ 0 ≤ C 81 0 a := by rcases G.1 a ha with q | ⟨v, q, qv, _⟩ <;> omega
    have h61 : (x6 + 1).toInt = C 81 0 a + 1 := add_ti h6 (vl (by decide)) (by omega)
    exact cle32 h11 h61 (fun z => no (fun y => by omega)) (fun z => yes ⟨il, by omega⟩)
theorem r_steps {Qn : Int32 → gH → Prop} {v1 v2 : Int32} (R : D h A N zz C P) (I : SI C)
  (k1 : (v1.toInt < 0 ∨ C 38 0 19 ≤ v1.toInt) ∨ (v2.toInt < 0 ∨ C 38 0 19 ≤ v2.toInt) → ∀ (x : Int32) (h' : gH) (C' : dC), D h' A N zz C' P → C' 38 0 25 = 1 → (∀ j i f : Nat, ¬ (j = 38 ∧ f = 25) → ¬ (j = 81) → C' j i f = C j i f) → Qn x h')
  (k0 : 0 ≤ v1.toInt → v1.toInt < C 38 0 19 → 0 ≤ v2.toInt → v2.toInt < C 38 0 19 → ∀ (x : Int32) (h' : gH) (C' : dC), D h' A N zz C' P → C' 38 0 25 = 0 → (∀ j i f : Nat, ¬ (j = 38 ∧ f = 25) → ¬ (j = 81) → C' j i f = C j i f) → isD C v1.toInt.toNat v2.toInt.toNat x.toInt → Qn x h') : vX12_steps Qn h (A 38 0) v1 v2 := by
  have i1 := I.nt
  have i2 := I.ns
  have io_ : ∀ {h : gH} {C : dC} {K : Prop}, D h A N zz C P → K → io h (A 38 0) 15 K := fun R kk => wio R a38 rfl (by decide) kk
  have gr_ : ∀ {h : gH} {C : dC} {K : Option Nat → Prop}, D h A N zz C P → K (some (A 81 0)) → gr h (A 38 0) 15 41 K := fun R kk => wgrs R a38 rfl (show dS 38 0 41 = some (81, 0) from rfl) kk
  unfold vX12_steps vX12_steps_b21
  refine wpvI R a38 rfl (v := 0) (vl (by decide)) (fun h1 R1 => io_ R1 ?_)
  have I0 : SI (up3 C 38 0 25 0) := I.code 0
  have n19 : up3 C 38 0 25 0 38 0 19 = C 38 0 19 := up3_ne _ _ (by omega)
  have n21 : up3 C 38 0 25 0 38 0 21 = C 38 0 21 := up3_ne _ _ (by omega)
  have n25 : up3 C 38 0 25 0 38 0 25 = 0 := up3_same _ _ _ _ _
  have fr0 : ∀ j i f : Nat, ¬ (j = 38 ∧ f = 25) → up3 C 38 0 25 0 j i f = C j i f := fun j i f hj => up3_ne _ _ (by omega)
  have tr : ∀ {a b : Nat} {x : Int}, isD (up3 C 38 0 25 0) a b x → isD C a b x := fun {a b x} z => by
    have ee : ∀ t x y, edg (up3 C 38 0 25 0) t x y ↔ edg C t x y := fun t x y => by
      unfold edg
      rw [n21, fr0 60 0 _ (by omega), fr0 60 0 _ (by omega)]
    have er : ∀ n s, rs (up3 C 38 0 25 0) a n s ↔ rs C a n s := fun n => by
      induction n with
      | zero => exact fun s => Iff.rfl
      | succ n ih =>
        intro s
        refine ⟨fun z => ?_, fun z => ?_⟩
        · rcases z with z | ⟨t, x, hx, z, e⟩
          · exact Or.inl ((ih s).mp z)
          · rw [n19] at hx
            exact Or.inr ⟨t, x, hx, (ih x).mp z, (ee t x s).mp e⟩
        · rcases z with z | ⟨t, x, hx, z, e⟩
          · exact Or.inl ((ih s).mpr z)
          · exact Or.inr ⟨t, x, by rw [n19]; exact hx, (ih x).mpr z, (ee t x s).mpr e⟩
    rcases z with ⟨z1, z2⟩ | ⟨v, z1, z2, z3⟩
    · exact Or.inl ⟨z1, fun n y => z2 n ((er n b).mpr y)⟩
    · exact Or.inr ⟨v, z1, (er v b).mp z2, fun u hu y => z3 u hu ((er u b).mpr y)⟩
  generalize hC0 : up3 C 38 0 25 0 = C0 at *
  have bad : ((v1.toInt < 0 ∨ C 38 0 19 ≤ v1.toInt) ∨ (v2.toInt < 0 ∨ C 38 0 19 ≤ v2.toInt)) → io h1 (A 38 0) 15 (vX12_fails (fun x2 h1 => Qn x2 h1) h1 (A 38 0) 1) := fun z => io_ R1 (r_fails R1 (vl (by decide)) (fun h' R' => k1 z 0 h' _ R' (up3_same _ _ _ _ _) (fun j i f hj _ => (up3_ne _ _ (by omega)).trans (fr0 j i f hj))))
  refine r_isState R1 I0.ns (fun a1 a2 => yes1 (io_ R1 ?_)) (fun a => no1 (bad (Or.inl (by omega))))
  refine r_isState R1 I0.ns (fun b1 b2 => yes0 ?_) (fun b => no0 (bad (Or.inr (by omega))))
  obtain ⟨a, hv1⟩ : ∃ a : Nat, v1.toInt = (a : Int) := ⟨v1.toInt.toNat, by omega⟩
  obtain ⟨b, hv2⟩ : ∃ b : Nat, v2.toInt = (b : Int) := ⟨v2.toInt.toNat, by omega⟩
  have e1 : v1.toInt.toNat = a := by omega
  have e2 : v2.toInt.toNat = b := by omega
  rw [e1, e2] at k0
  have k0 := k0 (by omega) (by omega) (by omega) (by omega)
  have hb : (b : Int) < C0 38 0 19 := by omega
  obtain ⟨ns, hns⟩ : ∃ ns : Nat, C0 38 0 19 = (ns : Int) := ⟨(C0 38 0 19).toNat, by omega⟩
  obtain ⟨nt, hnt⟩ : ∃ nt : Nat, C0 38 0 21 = (nt : Int) := ⟨(C0 38 0 21).toNat, by omega⟩
  -- all rounds
  have l62 : ∀ (m r : Nat) (h : gH) (C : dC) (v3 : Int32), D h A N zz C P → E81 C0 C → v3.toInt = (r : Int) → r + m = ns → Fa C0 a (C 81 0) → Fbb C0 a r (C 81 0) → vX12_steps_b62 Qn (m + 1) h (A 38 0) v2 v3 := by
    intro m
    induction m with
    | zero =>
      intro r h C2 v3 R2 E h3 hm F1 F2
      show vX12_steps_b62_o (vX12_steps_b62 Qn 0) Qn _ _ _ _
      unfold vX12_steps_b62_o vX12_steps_b216
      refine ygi R2 a38 rfl (E 38 0 19 (by decide)) (fun x1 hx1 => cle32 hx1 h3 (fun _ => gr_ R2 (nn_i (yli R2 a81 rfl hv2 (show b < 10 by omega) rfl (fun x4 h4 => ?_)))) (fun z => by omega))
      have fi := Fa_isD hb (by omega) F1 (by rw [show (C0 38 0 19).toNat = r by omega]; exact F2)
      have frr : ∀ j i f : Nat, ¬ (j = 38 ∧ f = 25) → ¬ (j = 81) → C2 j i f = C j i f := fun j i f hj hk => (E j i f hk).trans (fr0 j i f hj)
      have c25 : C2 38 0 25 = 0 := (E 38 0 25 (by decide)).trans n25
      refine cle32 (vl (by decide)) h4 (fun z => ?_) (fun z => ?_)
      · exact k0 (-1) h C2 R2 c25 frr (by rw [show (-1 : Int32).toInt = -1 by decide]; exact tr (fi.2 (by omega)))
      · exact gr_ R2 (nn_i (yli R2 a81 rfl hv2 (show b < 10 by omega) rfl (fun x7 h7 => k0 x7 h C2 R2 c25 frr (by rw [h7]; exact tr (fi.1 (by omega))))))
    | succ m ih =>
      intro r h C2 v3 R2 E h3 hm F1 F2
      show vX12_steps_b62_o (vX12_steps_b62 Qn (m + 1)) Qn _ _ _ _
      unfold vX12_steps_b62_o
      refine ygi R2 a38 rfl (E 38 0 19 (by decide)) (fun x1 hx1 => cle32 hx1 h3 (fun z => by omega) (fun _ => ⟨nt + 1, ?_⟩))
      have l73 : ∀ (m2 t : Nat) (h : gH) (C3 : dC) (v4 : Int32), D h A N zz C3 P → E81 C0 C3 → v4.toInt = (t : Int) → t + m2 = nt → Ga C0 a r t 0 (C3 81 0) → vX12_steps_b73 (vX12_steps_b62 Qn (m + 1)) Qn (m2 + 1) h (A 38 0) v2 v3 v4 := by
        intro m2
        induction m2 with
        | zero =>
          intro t h C3 v4 R3 E3 h4 hm2 G
          show vX12_steps_b73_o (vX12_steps_b62 Qn (m + 1)) (vX12_steps_b73 (vX12_steps_b62 Qn (m + 1)) Qn 0) Qn _ _ _ _ _
          unfold vX12_steps_b73_o
          have ge := Ga_end G (by omega)
          exact ygi R3 a38 rfl (E3 38 0 21 (by decide)) (fun x1 hx1 => cle32 hx1 h4 (fun _ => ih (r + 1) h C3 (v3 + 1) R3 E3 (ix_add h3 (ix_lit (by decide)) (by omega)) (by omega) ge.1 ge.2) (fun z => by omega))
        | succ m2 ih2 =>
          intro t h C3 v4 R3 E3 h4 hm2 G
          show vX12_steps_b73_o (vX12_steps_b62 Qn (m + 1)) (vX12_steps_b73 (vX12_steps_b62 Qn (m + 1)) Qn (m2 + 1)) Qn _ _ _ _ _
          unfold vX12_steps_b73_o
          refine ygi R3 a38 rfl (E3 38 0 21 (by decide)) (fun x1 hx1 => cle32 hx1 h4 (fun z => by omega) (fun _ => ⟨ns + 1, ?_⟩))
          exact r_far_in I0 (by omega) h4 (fun h' C' R' E' G' => ih2 (t + 1) h' C' (v4 + 1) R' E' (ix_add h4 (ix_lit (by decide)) (by omega)) (by omega) G') ns 0 h C3 0 R3 E3 (by decide) (by omega) G
      exact l73 nt 0 h C2 0 R2 E (by decide) (by omega) (Ga_0 F1 F2)
  -- the beginning
  have l29 : ∀ (m i : Nat) (h : gH) (C2 : dC) (v3 : Int32), D h A N zz C2 P → E81 C0 C2 → v3.toInt = (i : Int) → i + m = ns → (∀ s, s < i → C2 81 0 s = if s = a then 0 else 100) → vX12_steps_b29 Qn (m + 1) h (A 38 0) v1 v2 v3 := by
    intro m
    induction m with
    | zero =>
      intro i h C2 v3 R2 E h3 hm w
      show vX12_steps_b29_o (vX12_steps_b29 Qn 0) Qn _ _ _ _ _
      unfold vX12_steps_b29_o
      refine ygi R2 a38 rfl (E 38 0 19 (by decide)) (fun x1 hx1 => cle32 hx1 h3 (fun _ => ⟨ns + 1, ?_⟩) (fun z => by omega))
      refine l62 ns 0 h C2 0 R2 E (by decide) (by omega) (fun s hs => ?_) (fun s v hs hv hr => ?_)
      · rw [w s (by omega)]
        by_cases z : s = a
        · rw [if_pos z]; exact Or.inr ⟨0, rfl, by decide, z⟩
        · rw [if_neg z]; exact Or.inl rfl
      · have : v = 0 := by omega
        rw [this] at hr ⊢
        have hr : s = a := hr
        rw [w s (by omega), if_pos hr]
        decide
    | succ m ih =>
      intro i h C2 v3 R2 E h3 hm w
      show vX12_steps_b29_o (vX12_steps_b29 Qn (m + 1)) Qn _ _ _ _ _
      unfold vX12_steps_b29_o vX12_steps_b53
      have nx : ∀ (s0 : Int32) (w0 : Int), s0.toInt = w0 → (w0 = if i = a then 0 else 100) → nn (some (A 81 0)) (fun a1 => si h a1 v3 s0 (fun h2 => vX12_steps_b29 Qn (m + 1) h2 (A 38 0) v1 v2 (v3 + 1))) := fun s0 w0 e0 ew => nn_i (wsi R2 a81 rfl h3 (show i < 10 by omega) e0 (fun h4 R4 => ih (i + 1) h4 _ (v3 + 1) R4 (fun j x f hj => (up3_ne _ _ (by omega)).trans (E j x f hj)) (ix_add h3 (ix_lit (by decide)) (by omega)) (by omega) (fun s hs => by
        by_cases z : s = i
        · rw [z, up3_same]; exact ew
        · rw [up3_ne _ _ (by omega)]; exact w s (by omega))))
      refine ygi R2 a38 rfl (E 38 0 19 (by decide)) (fun x1 hx1 => cle32 hx1 h3 (fun z => by omega) (fun _ => gr_ R2 (cne32 h3 hv1 (fun z => nx 100 100 (by decide) (by rw [if_neg (by omega)])) (fun z => nx 0 0 (by decide) (by rw [if_pos (by omega)])))))
  refine ⟨ns + 1, l29 ns 0 h1 C0 0 R1 (fun _ _ _ _ => rfl) (by decide) (by omega) (fun s hs => by omega)⟩
end RST
