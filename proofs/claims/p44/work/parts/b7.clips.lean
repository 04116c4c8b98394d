/-! ===== clips, events, trees ===== -/
section CLX
variable {h h' : gH} {S : dC} {E : Nat → Int} {t0 x ea : Nat}
variable {Qv : gH → Prop} {v w : Int32}
/-- events of clip k -/
theorem b_82 {k : Nat} (hk : k < 4) {k20 : gH → Option Nat → Option Nat → Int32 → Prop} {v3 v4 v5 : Int32} {T : Nat} (hT : T ≤ 3) (h3 : v3.toInt = (k : Int)) (h5 : v5.toInt = (T : Int)) (K : ∀ (S' : dC) (h' : gH), CLP (k + 1) S' E → WB t0 x ea S' E h' → k20 h' (some x) (some ea) (v3 + 1)) : ∀ (r m n : Nat) (h : gH) (S : dC) (v6 : Int32), m + r = T → r < n → v6.toInt = (m : Int) → EVP k m S E → WB t0 x ea S E h → vL_builds_b82 t0 k20 Qv n h (some x) (some ea) v3 v4 v5 v6
  | _, _, 0, _, _, _, _, hn, _, _, _ => absurd hn (Nat.not_lt_zero _)
  | 0, m, n + 1, h, S, v6, e, hn, h6, p, W => by
    show vL_builds_b82_o t0 k20 (vL_builds_b82 t0 k20 Qv n) Qv _ _ _ _ _ _ _
    unfold vL_builds_b82_o
    obtain ⟨p1, p2, p3, p4, p5, p6, p7, p8, p9, p10⟩ := p
    refine cle32 h5 h6 (fun _ => nn_i ?_) (fun z => absurd z (by omega))
    refine w_aclipn W p1.1 p3 (by omega) (by omega) (fun y h1 S1 I1 q1 q2 f1 W1 => K S1 h1 ?_ W1)
    refine ⟨p1.mv I1 (fun j f z => f1 j f (by omega)), (f1 38 8 (by omega)).trans (p2.trans (by omega)), q1.trans (by omega), (f1 38 19 (by omega)).trans p4, (f1 38 21 (by omega)).trans p5, fun c hc => ?_, fun c hc => (f1 45 c (by omega)).trans (p9 c (by omega)), fun q => (f1 51 q (by omega)).trans (p10 q)⟩
    by_cases z : c = k
    · subst z
      exact ⟨p7.trans (f1 44 _ (by omega)).symm, q2.trans h3⟩
    · exact ⟨(p6 c (by omega)).1.trans (f1 44 c (by omega)).symm, (f1 49 c (by omega)).trans (p6 c (by omega)).2⟩
  | r + 1, m, n + 1, h, S, v6, e, hn, h6, p, W => by
    show vL_builds_b82_o t0 k20 (vL_builds_b82 t0 k20 Qv n) Qv _ _ _ _ _ _ _
    unfold vL_builds_b82_o
    obtain ⟨p1, p2, p3, p4, p5, p6, p7, p8, p9, p10⟩ := p
    have cl := p1.1.cl k (by omega)
    refine cle32 h5 h6 (fun z => absurd z (by omega)) (fun _ => nn_i ?_)
    refine w_e W h3 (by omega) (fun y5 e5 => ?_)
    rw [p7] at e5
    refine w_low (c := S 44 0 k) e5 (by omega) (fun y7 a b => nn_i ?_)
    have e10 : ((10 * v3) + v6).toInt = 10 * (k : Int) + m := add_ti (mul_ti (vl (by decide)) h3 (by omega)) h6 (by omega)
    refine w_aevent W p1.1 h3 (by omega) p8 (by omega) ⟨a, b⟩ (by omega) (fun y h1 S1 I1 q1 f1 W1 => ?_)
    refine b_82 hk hT h3 h5 K r (m + 1) n h1 S1 _ (by omega) (by omega) (inc1 h6 (by omega)) ?_ W1
    exact ⟨p1.mv I1 (fun j f z => f1 j f (by omega)), (f1 38 8 (by omega)).trans p2, (f1 38 14 (by omega)).trans p3, (f1 38 19 (by omega)).trans p4, (f1 38 21 (by omega)).trans p5, fun c hc => ⟨(p6 c hc).1.trans (f1 44 c (by omega)).symm, (f1 49 c (by omega)).trans (p6 c hc).2⟩, p7.trans (f1 44 k (by omega)).symm, q1.trans (by omega), fun c hc => (f1 45 c (by omega)).trans (p9 c hc), fun q => (f1 51 q (by omega)).trans (p10 q)⟩
theorem b_55 {k : Nat} (hk : k < 4) {k20 : gH → Option Nat → Option Nat → Int32 → Prop} {v3 v4 s0 s1 : Int32} {c : Int} (h3 : v3.toInt = (k : Int)) (h0 : s0.toInt = c) (hc : 0 < c ∧ c ≤ 500) (p : CLP k S E) (W : WB t0 x ea S E h) (K : ∀ (S' : dC) (E' : Nat → Int) (h' : gH), CLP (k + 1) S' E' → WB t0 x ea S' E' h' → k20 h' (some x) (some ea) (v3 + 1)) : vL_builds_b55 t0 k20 Qv h (some x) (some ea) v3 v4 s0 s1 1 v3 (some ea) := by
  unfold vL_builds_b55
  obtain ⟨p1, p2, p3, p4, p5, p6, p7, p8⟩ := p
  refine w_low (c := c) h0 hc.1 (fun y a b => nn_i ?_)
  refine w_esi W h3 (by omega) (fun h1 W1 => nn_i ?_)
  have e1 : (1 + y).toInt = 1 + y.toInt := add_ti (vl (by decide)) rfl (by omega)
  have W1 : WB t0 x ea S (fun f => if f = k then (1 + y).toInt else E f) h1 := W1
  have en : ∀ f : Nat, f ≠ k → (fun f => if f = k then (1 + y).toInt else E f) f = E f := fun f hf => if_neg hf
  have e0 : (fun f => if f = k then (1 + y).toInt else E f) k = (1 + y).toInt := if_pos rfl
  generalize (fun f => if f = k then (1 + y).toInt else E f) = E1 at W1 en e0
  refine w_e W1 h3 (by omega) (fun y6 e6 => nn_i ?_)
  refine w_aclip W1 p1.1 p2 (by omega) (p7 k (Nat.le_refl k)) (by omega) (fun yc h2 S1 I1 q1 q2 f1 W2 => ?_)
  refine w_low (c := 4) (vl (by decide)) (by decide) (fun ym a1 b1 => ?_)
  obtain ⟨T, hT⟩ : ∃ T : Nat, ym.toInt = (T : Int) := ⟨ym.toInt.toNat, by omega⟩
  refine b_82 (E := E1) hk (T := T) (by omega) h3 hT (fun S' h' P' W' => K S' E1 h' P' W') T 0 5 h2 S1 0 (Nat.zero_add T) (by omega) (by decide) ?_ W2
  exact ⟨p1.mv I1 (fun j f z => f1 j f (by omega)), q1, (f1 38 14 (by omega)).trans p3, (f1 38 19 (by omega)).trans p4, (f1 38 21 (by omega)).trans p5, fun c hc => ⟨(en c (by omega)).trans ((p6 c hc).1.trans (f1 44 c (by omega)).symm), (f1 49 c (by omega)).trans (p6 c hc).2⟩, by rw [q2, e6], (f1 45 k (by omega)).trans (p7 k (Nat.le_refl k)), fun c hc => (f1 45 c (by omega)).trans (p7 c (by omega)), fun q => (f1 51 q (by omega)).trans (p8 q)⟩
/-- the trees -/
theorem b_tree (p : CLP 4 S E) (W : WB t0 x ea S E h) {k20 : gH → Option Nat → Option Nat → Int32 → Prop} {v3 : Int32} {a : Int} (h3 : v3.toInt = a) (ha : 4 ≤ a) (K : ∀ (T : Nat) (S' : dC) (E' : Nat → Int) (h' : gH), T ≤ 9 → TRP 4 T S' E' → WB t0 x ea S' E' h' → Qv h') : vL_builds_b20_o t0 k20 Qv h (some x) (some ea) v3 := by
  obtain ⟨p1, p2, p3, p4, p5, p6, p7, p8⟩ := p
  unfold vL_builds_b20_o
  refine cle32 (vl (by decide)) h3 (fun _ => ?_) (fun z => absurd ha z)
  refine w_cell (by decide) (fun z => nn_i ?_)
  have c0 := (p6 0 (by decide)).2
  have c1 := (p6 1 (by decide)).2
  have c2 := (p6 2 (by decide)).2
  have c3 := (p6 3 (by decide)).2
  -- line 4
  refine w_aline W p1.1 p3 (by decide) ⟨by decide, by rw [p1.2.1]; decide⟩ p1.2.2.1 (fun _ h1 S1 I1 n1 l1 f1 W1 => ?_)
  have k1 : PK S1 := p1.mv I1 (fun j f z => f1 j f (by omega))
  have z1 : ∀ q : Nat, S1 51 0 q = 0 := fun q => (f1 51 q (by omega)).trans (p8 q)
  refine w_low (c := 60) (vl (by decide)) (by decide) (fun y0 a0 b0 => ?_)
  have e0 : (y0 - 100).toInt = y0.toInt - 100 := sub_ti rfl (vl (by decide)) (by omega)
  refine w_achild (ln := 4) (nd := 0) (k := 0) W1 I1 (by decide) (by rw [n1]; decide) (by decide) (by decide) l1 (z1 4) (by decide) (fun q hq => absurd hq (Nat.not_lt_zero q)) (by rw [e0]; omega) (Or.inl (by rw [f1 49 0 (by omega), c0]; decide)) (nodeep I1 (by rw [n1]; decide) (fun j _ => z1 j) (by decide) (by decide) (by rw [n1]; decide)) (fun _ h2 S2 I2 m2 s2 t2 f2 W2 => ?_)
  rw [e0] at t2
  have n2 : S2 38 0 14 = 5 := (f2 38 14 (by omega)).trans n1
  have l2 : S2 49 0 4 = -1 := (f2 49 4 (by omega)).trans l1
  have z2 : ∀ q : Nat, q ≠ 4 → S2 51 0 q = 0 := fun q hq => (f2 51 q (by omega)).trans (z1 q)
  refine w_low (c := 90) (vl (by decide)) (by decide) (fun y1 a1 b1 => ?_)
  have e1 : (y1 - 40).toInt = y1.toInt - 40 := sub_ti rfl (vl (by decide)) (by omega)
  refine w_achild (ln := 4) (nd := 1) (k := 1) W2 I2 (by decide) (by rw [n2]; decide) (by decide) (by decide) l2 m2 (by decide) (fun q hq => ?_) (by rw [e1]; omega) (Or.inl (by rw [f2 49 1 (by omega), f1 49 1 (by omega), c1]; decide)) (nodeep I2 (by rw [n2]; decide) (fun j hj => z2 j (by omega)) (by decide) (by decide) (by rw [n2]; decide)) (fun _ h3' S3 I3 m3 s3 t3 f3 W3 => ?_)
  · have q0 : q = 0 := by omega
    rw [q0, e1]
    rw [show 5 * 4 + 0 = 20 from rfl] at t2 ⊢
    omega
  have n3 : S3 38 0 14 = 5 := (f3 38 14 (by omega)).trans n2
  have k3 : PK S3 := (k1.mv I2 (fun j f z => f2 j f (by omega))).mv I3 (fun j f z => f3 j f (by omega))
  have z3 : ∀ q : Nat, q ≠ 4 → S3 51 0 q = 0 := fun q hq => (f3 51 q (by omega)).trans (z2 q hq)
  -- line 5
  refine w_aline W3 I3 n3 (by decide) ⟨by decide, by rw [k3.2.1]; decide⟩ k3.2.2.1 (fun _ h4 S4 I4 n4 l4 f4 W4 => ?_)
  have n4 : S4 38 0 14 = 6 := n4
  have z4 : ∀ q : Nat, q ≠ 4 → S4 51 0 q = 0 := fun q hq => (f4 51 q (by omega)).trans (z3 q hq)
  have m4 : S4 51 0 4 = 2 := (f4 51 4 (by omega)).trans m3
  refine w_achild (ln := 5) (nd := 4) (k := 0) W4 I4 (by decide) (by rw [n4]; decide) (by decide) (by decide) l4 (z4 5 (by decide)) (by decide) (fun q hq => absurd hq (Nat.not_lt_zero q)) (by decide) (Or.inr (by rw [m4]; decide)) (nodeep I4 (by rw [n4]; decide) (fun j hj => z4 j (by omega)) (by decide) (by decide) (by rw [n4]; decide)) (fun _ h5 S5 I5 m5 s5 t5 f5 W5 => ?_)
  have t5 : S5 53 0 25 = -100 := t5.trans (by decide)
  have n5 : S5 38 0 14 = 6 := (f5 38 14 (by omega)).trans n4
  have l5 : S5 49 0 5 = -1 := (f5 49 5 (by omega)).trans l4
  have z5 : ∀ q : Nat, q < 4 → S5 51 0 q = 0 := fun q hq => (f5 51 q (by omega)).trans (z4 q (by omega))
  refine w_low (c := 100) (vl (by decide)) (by decide) (fun y2 a2 b2 => ?_)
  have e2 : (y2 - 50).toInt = y2.toInt - 50 := sub_ti rfl (vl (by decide)) (by omega)
  refine w_achild (ln := 5) (nd := 2) (k := 1) W5 I5 (by decide) (by rw [n5]; decide) (by decide) (by decide) l5 m5 (by decide) (fun q hq => ?_) (by rw [e2]; omega) (Or.inl (by rw [f5 49 2 (by omega), f4 49 2 (by omega), f3 49 2 (by omega), f2 49 2 (by omega), f1 49 2 (by omega), c2]; decide)) (nodeep I5 (by rw [n5]; decide) z5 (by decide) (by decide) (by rw [n5]; decide)) (fun _ h6 S6 I6 m6 s6 t6 f6 W6 => ?_)
  · have q0 : q = 0 := by omega
    rw [q0, e2, show 5 * 5 + 0 = 25 from rfl, t5]
    omega
  rw [e2] at t6
  have t6 : S6 53 0 26 = y2.toInt - 50 := t6
  have t65 : S6 53 0 25 = -100 := (f6 53 25 (by omega)).trans t5
  have n6 : S6 38 0 14 = 6 := (f6 38 14 (by omega)).trans n5
  have l6 : S6 49 0 5 = -1 := (f6 49 5 (by omega)).trans l5
  have z6 : ∀ q : Nat, q < 4 → S6 51 0 q = 0 := fun q hq => (f6 51 q (by omega)).trans (z5 q hq)
  refine w_low (c := 40) (vl (by decide)) (by decide) (fun y3 a3 b3 => ?_)
  have e3 : (60 + y3).toInt = 60 + y3.toInt := add_ti (vl (by decide)) rfl (by omega)
  refine w_achild (ln := 5) (nd := 3) (k := 2) W6 I6 (by decide) (by rw [n6]; decide) (by decide) (by decide) l6 m6 (by decide) (fun q hq => ?_) (by rw [e3]; omega) (Or.inl (by rw [f6 49 3 (by omega), f5 49 3 (by omega), f4 49 3 (by omega), f3 49 3 (by omega), f2 49 3 (by omega), f1 49 3 (by omega), c3]; decide)) (nodeep I6 (by rw [n6]; decide) z6 (by decide) (by decide) (by rw [n6]; decide)) (fun _ h7 S7 I7 m7 s7 t7 f7 W7 => ?_)
  · have d : q = 0 ∨ q = 1 := by omega
    rcases d with d | d
    · rw [d, e3, show 5 * 5 + 0 = 25 from rfl, t65]
      omega
    · rw [d, e3, show 5 * 5 + 1 = 26 from rfl, t6]
      omega
  have g : ∀ j f : Nat, ¬ (j = 38 ∧ f = 14 ∨ j = 49 ∧ (f = 4 ∨ f = 5) ∨ j = 50 ∨ j = 51 ∧ (f = 4 ∨ f = 5) ∨ j = 52 ∨ j = 53) → S7 j 0 f = S j 0 f := fun j f z => by
    rw [f7 j f (by omega), f6 j f (by omega), f5 j f (by omega), f4 j f (by omega), f3 j f (by omega), f2 j f (by omega), f1 j f (by omega)]
  have m74 : S7 51 0 4 = 2 := by rw [f7 51 4 (by omega), f6 51 4 (by omega), f5 51 4 (by omega)]; exact m4
  exact b_239 K 4 0 5 h7 S7 0 rfl (by decide) (by decide) ⟨p1.mv I7 (fun j f z => g j f (by omega)), (g 38 8 (by omega)).trans p2, (f7 38 14 (by omega)).trans n6, fun c hc => ⟨(p6 c hc).1.trans (g 44 c (by omega)).symm, (g 49 c (by omega)).trans (p6 c hc).2⟩, ⟨(f7 49 5 (by omega)).trans l6, by rw [m74]; decide, by rw [m7]; decide, (f7 53 25 (by omega)).trans t65⟩, (g 38 19 (by omega)).trans p4, (g 38 21 (by omega)).trans p5, fun t ht => absurd ht (Nat.not_lt_zero t)⟩ W7
theorem b_20 (K : ∀ (T : Nat) (S' : dC) (E' : Nat → Int) (h' : gH), T ≤ 9 → TRP 4 T S' E' → WB t0 x ea S' E' h' → Qv h') : ∀ (m k n : Nat) (h : gH) (S : dC) (E : Nat → Int) (v3 : Int32), k + m = 4 → m < n → v3.toInt = (k : Int) → CLP k S E → WB t0 x ea S E h → vL_builds_b20 t0 Qv n h (some x) (some ea) v3
  | _, _, 0, _, _, _, _, _, hn, _, _, _ => absurd hn (Nat.not_lt_zero _)
  | 0, k, n + 1, h, S, E, v3, e, hn, h3, p, W => by
    have ek : k = 4 := by omega
    subst ek
    exact b_tree (k20 := vL_builds_b20 t0 Qv n) p W h3 (by decide) K
  | m + 1, k, n + 1, h, S, E, v3, e, hn, h3, p, W => by
    show vL_builds_b20_o t0 (vL_builds_b20 t0 Qv n) Qv _ _ _ _
    unfold vL_builds_b20_o
    refine cle32 (vl (by decide)) h3 (fun z => absurd z (by omega)) (fun _ => ?_)
    refine w_cell (by omega) (fun z => ?_)
    have rec_ : ∀ (S' : dC) (E' : Nat → Int) (h' : gH), CLP (k + 1) S' E' → WB t0 x ea S' E' h' → vL_builds_b20 t0 Qv n h' (some x) (some ea) (v3 + 1) := fun S' E' h' p' W' => b_20 K m (k + 1) n h' S' E' _ (by omega) (by omega) (inc1 h3 (by omega)) p' W'
    exact ⟨fun _ => b_55 (c := 60) (by omega) h3 (vl (by decide)) (by decide) p W rec_, fun _ => b_55 (c := 500) (by omega) h3 (vl (by decide)) (by decide) p W rec_⟩
/-- before anything was added -/
def EMP (S : dC) : Prop := SI S ∧ S 38 0 3 = 0 ∧ S 38 0 8 = 0 ∧ S 38 0 14 = 0 ∧ S 38 0 19 = 0 ∧ S 38 0 21 = 0 ∧ (∀ c : Nat, S 45 0 c = 0) ∧ (∀ n : Nat, S 51 0 n = 0)
theorem w_builds (p : EMP S) (W : WB t0 x ea S E h) (K : ∀ (S' : dC) (E' : Nat → Int) (h' : gH), LSt S' E' → WB t0 x ea S' E' h' → Qv h') : vL_builds t0 Qv h (some x) (some ea) := by
  obtain ⟨p1, p2, p3, p4, p5, p6, p7, p8⟩ := p
  unfold vL_builds
  refine nn_i (w_apar W p1 p2 (by decide) (by decide) (fun _ h1 S1 I1 n1 k1 f1 W1 => ?_))
  refine w_apar (n := 1) W1 I1 n1 (by decide) (by decide) (fun _ h2 S2 I2 n2 k2 f2 W2 => ?_)
  refine w_apar (n := 2) W2 I2 n2 (by decide) (by decide) (fun _ h3 S3 I3 n3 k3 f3 W3 => ?_)
  have g : ∀ j f : Nat, ¬ (j = 38 ∧ f = 3 ∨ j = 42) → S3 j 0 f = S j 0 f := fun j f z => by
    rw [f3 j f (by omega), f2 j f (by omega), f1 j f (by omega)]
  have q0 : S3 42 0 0 = 0 := by rw [f3 42 0 (by omega), f2 42 0 (by omega), k1]; decide
  have q1 : S3 42 0 1 = 1 := by rw [f3 42 1 (by omega), k2]; decide
  have q2 : S3 42 0 2 = 2 := by rw [k3]; decide
  refine b_20 (fun T S' E' h' hT P' W' => K S' E' h' ?_ W') 4 0 5 h3 S3 E 0 rfl (by decide) (by decide) ⟨⟨I3, n3, q0, q1, q2⟩, (g 38 8 (by omega)).trans p3, (g 38 14 (by omega)).trans p4, (g 38 19 (by omega)).trans p5, (g 38 21 (by omega)).trans p6, fun c hc => absurd hc (Nat.not_lt_zero c), fun c _ => (g 45 c (by omega)).trans (p7 c), fun n => (g 51 n (by omega)).trans (p8 n)⟩ W3
  obtain ⟨⟨s1, s2, s3, s4, s5⟩, r2, r3, r4, ⟨r5, r6, r7, r8⟩, r9, r10, r11⟩ := P'
  exact ⟨s1, ⟨r2, fun c hc => (r4 c hc).1, by omega, fun t ht => r11 t (by omega)⟩, r9, s2, ⟨s3, s4, s5⟩, r3, (r4 0 (by decide)).2, r5, r7, r8⟩
end CLX
