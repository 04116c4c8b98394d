/-! ===== the class: poses ===== -/
def pzC (C : dC) (k : Nat) (q : dQ) : Prop := C 29 k 3 = (q.1 : Int) ∧ ∀ i : Nat, i < q.1 → C 30 k i = q.2.1 i ∧ C 31 k i = q.2.2.1 i ∧ C 32 k i = q.2.2.2 i
def Kp (C C' : dC) (k : Nat) : Prop := ∀ j i f : Nat, ¬ (29 ≤ j ∧ j ≤ 32 ∧ i = k) → C' j i f = C j i f
theorem Kp.rf (C : dC) (k : Nat) : Kp C C k := fun _ _ _ _ => rfl
theorem Kp.up {C C' : dC} {k j f : Nat} {v : Int} (a : Kp C C' k) (hj : 29 ≤ j ∧ j ≤ 32) : Kp C (up3 C' j k f v) k := fun j' i' f' h => by
  rw [up3_ne C' v fun z => h (by rw [z.1, z.2.1]; exact ⟨hj.1, hj.2, rfl⟩)]
  exact a j' i' f' h
theorem Kp.tr {C C1 C2 : dC} {k : Nat} (a : Kp C C1 k) (b : Kp C1 C2 k) : Kp C C2 k := fun j i f h => (b j i f h).trans (a j i f h)
/-- an entry put in, unless it weighs nothing -/
def qad0 (q : dQ) (c t w : Int) : dQ := if w = 0 then q else qadd q c t w
theorem qtrk_mono (S : dC) (M : dM) (t : Nat) (w : Int) (q : dQ) : ∀ m n : Nat, n ≤ m → (qtrk S M t w n q).1 ≤ (qtrk S M t w m q).1
  | 0, n, h => by
    have : n = 0 := by omega
    subst this
    exact Nat.le_refl _
  | m + 1, n, h => by
    rcases Nat.lt_or_ge m n with z | z
    · rw [show n = m + 1 by omega]; exact Nat.le_refl _
    · refine Nat.le_trans (qtrk_mono S M t w q m n z) ?_
      show _ ≤ (if bw S M (M t).toNat w m ≤ 0 then qtrk S M t w m q else qadd (qtrk S M t w m q) (m : Int) (tmS S M t m) (bw S M (M t).toNat w m)).1
      split
      · exact Nat.le_refl _
      · exact (qadd_many _ _ _ _).1
theorem qfrz_mono (M : dM) (w : Int) (q : dQ) : ∀ m n : Nat, n ≤ m → (qfrz M w n q).1 ≤ (qfrz M w m q).1
  | 0, n, h => by
    have : n = 0 := by omega
    subst this
    exact Nat.le_refl _
  | m + 1, n, h => by
    rcases Nat.lt_or_ge m n with z | z
    · rw [show n = m + 1 by omega]; exact Nat.le_refl _
    · refine Nat.le_trans (qfrz_mono M w q m n z) ?_
      show _ ≤ (if qfw M w m ≤ 0 then qfrz M w m q else qadd (qfrz M w m q) (M (22 + 3 * m)) (M (23 + 3 * m)) (qfw M w m)).1
      split
      · exact Nat.le_refl _
      · exact (qadd_many _ _ _ _).1
section CE
variable {h : gH} {A : dA} {N zz : Nat → Nat} {S C C0 : dC} {P P0 : dP} {t0 k : Nat} {tq tb : Int} {M : dM}
theorem p_a {K : Option Nat → Prop} (hk : k < 4) (R : D h A N zz C P) (k0 : K (some (A 30 k))) : gr h (A 29 k) 9 0 K := wgrs R (j := 29) hk rfl (show dS 29 k 0 = some (30, k) from rfl) k0
theorem p_b {K : Option Nat → Prop} (hk : k < 4) (R : D h A N zz C P) (k0 : K (some (A 31 k))) : gr h (A 29 k) 9 1 K := wgrs R (j := 29) hk rfl (show dS 29 k 1 = some (31, k) from rfl) k0
theorem p_c {K : Option Nat → Prop} (hk : k < 4) (R : D h A N zz C P) (k0 : K (some (A 32 k))) : gr h (A 29 k) 9 2 K := wgrs R (j := 29) hk rfl (show dS 29 k 2 = some (32, k) from rfl) k0
theorem c_before {Qn : Int32 → gH → Prop} {v1 v2 v3 : Int32} {i : Nat} {c t x y : Int} (hk : k < 4) (R : D h A N zz C P) (h1 : v1.toInt = (i : Int)) (hi : i < 32) (h2 : v2.toInt = c) (h3 : v3.toInt = t) (ex : C 30 k i = x) (ey : C 31 k i = y) (k1 : (x < c ∨ (x = c ∧ y < t)) → Qn 1 h) (k0 : ¬ (x < c ∨ (x = c ∧ y < t)) → Qn 0 h) : vX6_isBefore t0 Qn h (A 29 k) v1 v2 v3 := by
  have a30 : ac N 30 k := hk
  have a31 : ac N 31 k := hk
  unfold vX6_isBefore vX6_isBefore_b10 vX6_isBefore_b42 vX6_isBefore_b46 vX6_isBefore_b47
  refine clt32 h1 (vl (by decide)) (fun z => by omega) (fun _ => clt32 h1 (vl (by decide)) (fun _ => ?_) (fun z => by omega))
  refine p_a hk R (nn_i (yli R a30 rfl h1 (show i < 32 from hi) ex (fun x3 hx => clt32 hx h2 (fun z => ⟨gZ_of (by decide), k1 (Or.inl z)⟩) (fun z => ?_))))
  refine p_a hk R (nn_i (yli R a30 rfl h1 (show i < 32 from hi) ex (fun x6 hx6 => cne32 hx6 h2 (fun w => ⟨gZ_of (by decide), k0 (by omega)⟩) (fun w => ?_))))
  exact p_b hk R (nn_i (yli R a31 rfl h1 (show i < 32 from hi) ey (fun x9 h9 => cle32 h3 h9 (fun u => ⟨gZ_of (by decide), k0 (by omega)⟩) (fun u => ⟨gZ_of (by decide), k1 (by omega)⟩))))
/-- the columns of a pose while an entry is put in -/
def pcS (C : dC) (k : Nat) (q : dQ) (x : Nat) : Prop := C 29 k 3 = (q.1 : Int) ∧ (∀ i : Nat, i < x → C 30 k i = q.2.1 i ∧ C 31 k i = q.2.2.1 i ∧ C 32 k i = q.2.2.2 i) ∧ (∀ i : Nat, x < i → i ≤ q.1 → C 30 k i = q.2.1 (i - 1) ∧ C 31 k i = q.2.2.1 (i - 1) ∧ C 32 k i = q.2.2.2 (i - 1))
set_option maxRecDepth 100000 in
set_option maxHeartbeats 4000000 in
theorem c_en_shift {Qn : gH → Prop} {q : dQ} {p : Nat} {v1 v2 v3 v4 : Int32} {c t w : Int} (hk : k < 4) (h1 : v1.toInt = c) (h2 : v2.toInt = t) (h3 : v3.toInt = w) (h4 : v4.toInt = (p : Int)) (hq : q.1 < 32) (k0 : ∀ (h' : gH) (C' : dC), D h' A N zz C' P → Kp C C' k → pzC C' k (q.1 + 1, insF q.2.1 p c, insF q.2.2.1 p t, insF q.2.2.2 p w) → Qn h') :
  ∀ (m : Nat) (h : gH) (C1 : dC) (v5 : Int32), D h A N zz C1 P → Kp C C1 k → pcS C1 k q (p + m) → v5.toInt = ((p + m : Nat) : Int) → p + m ≤ q.1 → vX6_addEntry_b107 t0 Qn (m + 1) h (A 29 k) v1 v2 v3 v4 v5 := by
  have a29 : ac N 29 k := hk
  have a30 : ac N 30 k := hk
  have a31 : ac N 31 k := hk
  have a32 : ac N 32 k := hk
  intro m
  induction m with
  | zero =>
    intro h C1 v5 R B s h5 hm
    obtain ⟨s1, s2, s3⟩ := s
    show vX6_addEntry_b107_o t0 (vX6_addEntry_b107 t0 Qn 0) Qn _ _ _ _ _ _ _
    unfold vX6_addEntry_b107_o
    refine cle32 h5 h4 (fun _ => ?_) (fun z => by omega)
    refine p_a hk R (nn_i (wsi R a30 rfl h4 (show p < 32 by omega) h1 (fun h3' R3 => ?_)))
    refine p_b hk R3 (nn_i (wsi R3 a31 rfl h4 (show p < 32 by omega) h2 (fun h6 R6 => ?_)))
    refine p_c hk R6 (nn_i (wsi R6 a32 rfl h4 (show p < 32 by omega) h3 (fun h9 R9 => ?_)))
    refine ygi R9 a29 rfl (v := (q.1 : Int)) (by simp only [up3, eq_self, asb, Nat.add_zero, Nat.zero_add, Nat.reduceEqDiff, false_and, and_false, and_true, true_and, if_true, if_false, ↓reduceIte]; exact s1) (fun x10 h10 => ?_)
    refine wpvI R9 a29 rfl (v := (q.1 : Int) + 1) (add_ti h10 (vl (by decide)) (by omega)) (fun h11 R11 => k0 h11 _ R11 (Kp.up (Kp.up (Kp.up (Kp.up B (by decide)) (by decide)) (by decide)) (by decide)) ⟨?_, fun i hi => ?_⟩)
    · simp only [up3, eq_self, asb, Nat.add_zero, Nat.zero_add, Nat.reduceEqDiff, false_and, and_false, and_true, true_and, if_true, if_false, ↓reduceIte]; rfl
    · replace hi : i < q.1 + 1 := hi
      simp only [up3, eq_self, asb, Nat.add_zero, Nat.zero_add, Nat.reduceEqDiff, false_and, and_false, and_true, true_and, if_true, if_false, ↓reduceIte]
      unfold insF
      by_cases z1 : i < p
      · obtain ⟨x1, x2, x3⟩ := s2 i (by omega)
        simp only [show ¬ i = p by omega, z1, if_true, if_false]
        exact ⟨x1, x2, x3⟩
      · by_cases z2 : i = p
        · subst z2; simp only [Nat.lt_irrefl, if_true, if_false]; (refine ⟨?_, ?_, ?_⟩ <;> first | trivial | assumption)
        · obtain ⟨x1, x2, x3⟩ := s3 i (by omega) (by omega)
          simp only [z1, z2, if_false]
          exact ⟨x1, x2, x3⟩
  | succ m ih =>
    intro h C1 v5 R B s h5 hm
    obtain ⟨s1, s2, s3⟩ := s
    obtain ⟨y1, y2, y3⟩ := s2 (p + (m + 1) - 1) (by omega)
    have h51 : (v5 - 1).toInt = ((p + (m + 1) - 1 : Nat) : Int) := (sub_ti h5 (vl (by decide)) (by omega)).trans (by omega)
    show vX6_addEntry_b107_o t0 (vX6_addEntry_b107 t0 Qn (m + 1)) Qn _ _ _ _ _ _ _
    unfold vX6_addEntry_b107_o
    refine cle32 h5 h4 (fun z => by omega) (fun _ => ?_)
    refine p_a hk R (p_a hk R (nn_i (yli R a30 rfl h51 (show p + (m + 1) - 1 < 32 by omega) y1 (fun x15 h15 => nn_i (wsi R a30 rfl h5 (show p + (m + 1) < 32 by omega) h15 (fun h17 R17 => ?_))))))
    refine p_b hk R17 (p_b hk R17 (nn_i (yli R17 a31 rfl h51 (show p + (m + 1) - 1 < 32 by omega) (v := q.2.2.1 (p + (m + 1) - 1)) (by simp only [up3, eq_self, asb, Nat.add_zero, Nat.zero_add, Nat.reduceEqDiff, false_and, and_false, and_true, true_and, if_true, if_false, ↓reduceIte]; exact y2) (fun x21 h21 => nn_i (wsi R17 a31 rfl h5 (show p + (m + 1) < 32 by omega) h21 (fun h23 R23 => ?_))))))
    refine p_c hk R23 (p_c hk R23 (nn_i (yli R23 a32 rfl h51 (show p + (m + 1) - 1 < 32 by omega) (v := q.2.2.2 (p + (m + 1) - 1)) (by simp only [up3, eq_self, asb, Nat.add_zero, Nat.zero_add, Nat.reduceEqDiff, false_and, and_false, and_true, true_and, if_true, if_false, ↓reduceIte]; exact y3) (fun x27 h27 => nn_i (wsi R23 a32 rfl h5 (show p + (m + 1) < 32 by omega) h27 (fun h29 R29 => ?_))))))
    refine ih _ _ _ R29 (Kp.up (Kp.up (Kp.up B (by decide)) (by decide)) (by decide)) ⟨?_, fun i hi => ?_, fun i hi hi2 => ?_⟩ ((ix_dec (x := p + (m + 1)) h5 (by omega)).trans (by omega)) (by omega)
    · simp only [up3, eq_self, asb, Nat.add_zero, Nat.zero_add, Nat.reduceEqDiff, false_and, and_false, and_true, true_and, if_true, if_false, ↓reduceIte]; exact s1
    · obtain ⟨x1, x2, x3⟩ := s2 i (by omega)
      simp only [up3, eq_self, asb, Nat.add_zero, Nat.zero_add, Nat.reduceEqDiff, false_and, and_false, and_true, true_and, if_true, if_false, ↓reduceIte, show ¬ i = p + (m + 1) by omega]
      exact ⟨x1, x2, x3⟩
    · by_cases z : i = p + (m + 1)
      · subst z
        simp only [up3, eq_self, asb, Nat.add_zero, Nat.zero_add, Nat.reduceEqDiff, false_and, and_false, and_true, true_and, if_true, if_false, ↓reduceIte] <;> trivial
      · obtain ⟨x1, x2, x3⟩ := s3 i (by omega) (by omega)
        simp only [up3, eq_self, asb, Nat.add_zero, Nat.zero_add, Nat.reduceEqDiff, false_and, and_false, and_true, true_and, if_true, if_false, ↓reduceIte, z]
        exact ⟨x1, x2, x3⟩
theorem c_entry {Qn : gH → Prop} {q : dQ} {v1 v2 v3 : Int32} {c t w : Int} (hk : k < 4) (R : D h A N zz C P) (pz : pzC C k q) (h1 : v1.toInt = c) (h2 : v2.toInt = t) (h3 : v3.toInt = w) (hq : (qad0 q c t w).1 ≤ 32) (hs : ∀ i : Nat, i < q.1 → 0 ≤ q.2.2.2 i ∧ q.2.2.2 i ≤ 1000000000) (hw : 0 ≤ w ∧ w ≤ 1000000000) (k0 : ∀ (h' : gH) (C' : dC), D h' A N zz C' P → Kp C C' k → pzC C' k (qad0 q c t w) → Qn h') : vX6_addEntry t0 Qn h (A 29 k) v1 v2 v3 := by
  obtain ⟨p1, p2⟩ := id pz
  have a29 : ac N 29 k := hk
  have a30 : ac N 30 k := hk
  have a31 : ac N 31 k := hk
  have a32 : ac N 32 k := hk
  have hq1 : q.1 ≤ 32 := by
    unfold qad0 at hq
    split at hq
    · exact hq
    · have := qadd_many q c t w; omega
  -- behind the scan
  have fin : ∀ (p : Nat) (v4 : Int32), v4.toInt = (p : Int) → p ≤ q.1 → fk q c t q.1 0 = p → vX6_addEntry_b36 t0 Qn h (A 29 k) v1 v2 v3 v4 := by
    intro p v4 h4 hp hf
    unfold vX6_addEntry_b36 vX6_addEntry_b47
    refine ceq32 h3 (vl (by decide)) (fun z => k0 h C R (Kp.rf C k) (by unfold qad0; rw [if_pos z]; exact pz)) (fun z => ?_)
    have e0 : qad0 q c t w = qadd q c t w := by unfold qad0; rw [if_neg z]
    rw [e0] at hq k0
    have put : ¬ (p < q.1 ∧ q.2.1 p = c ∧ q.2.2.1 p = t) → vX6_addEntry_b91 t0 Qn h (A 29 k) v1 v2 v3 v4 := fun hn => by
      have e : qadd q c t w = (q.1 + 1, insF q.2.1 p c, insF q.2.2.1 p t, insF q.2.2.2 p w) := by unfold qadd; rw [hf, if_neg hn]
      rw [e] at k0 hq
      replace hq : q.1 + 1 ≤ 32 := hq
      unfold vX6_addEntry_b91
      refine ygi R a29 rfl p1 (fun x1 hx1 => clt32 hx1 (vl (by decide)) (fun _ => ?_) (fun y => by omega))
      refine ygi R a29 rfl p1 (fun x2 hx2 => ⟨q.1 - p + 1, c_en_shift hk h1 h2 h3 h4 (by omega) k0 (q.1 - p) h C x2 R (Kp.rf C k) ⟨p1, fun i hi => p2 i (by omega), fun i hi hi2 => absurd hi (by omega)⟩ (by omega) (by omega)⟩)
    have hp32 : p < 32 := by
      by_cases y : p < q.1 ∧ q.2.1 p = c ∧ q.2.2.1 p = t
      · omega
      · have e : qadd q c t w = (q.1 + 1, insF q.2.1 p c, insF q.2.2.1 p t, insF q.2.2.2 p w) := by unfold qadd; rw [hf, if_neg y]
        rw [e] at hq
        replace hq : q.1 + 1 ≤ 32 := hq
        omega
    refine clt32 h4 (vl (by decide)) (fun _ => ?_) (fun y => by omega)
    refine ygi R a29 rfl p1 (fun x1 hx1 => cle32 hx1 h4 (fun y => put (fun u => by omega)) (fun y => ?_))
    obtain ⟨x1, x2, x3⟩ := p2 p (by omega)
    have sp := hs p (by omega)
    refine p_a hk R (nn_i (yli R a30 rfl h4 (show p < 32 from hp32) x1 (fun x4 hx4 => cne32 hx4 h1 (fun u => put (fun v => u v.2.1)) (fun u => ?_))))
    refine p_b hk R (nn_i (yli R a31 rfl h4 (show p < 32 from hp32) x2 (fun x7 hx7 => cne32 hx7 h2 (fun v => put (fun g => v g.2.2)) (fun v => ?_))))
    have e : qadd q c t w = (q.1, q.2.1, q.2.2.1, fun i => if i = p then q.2.2.2 i + w else q.2.2.2 i) := by unfold qadd; rw [hf, if_pos ⟨by omega, u, v⟩]
    rw [e] at k0
    refine p_c hk R (nn_i (yli R a32 rfl h4 (show p < 32 from hp32) x3 (fun x10 h10 => wsi R a32 rfl h4 (show p < 32 from hp32) (add_ti h10 h3 (by omega)) (fun h11 R11 => k0 h11 _ R11 (Kp.up (Kp.rf C k) (by decide)) ⟨?_, fun i hi => ?_⟩))))
    · simp only [up3, eq_self, asb, Nat.add_zero, Nat.zero_add, Nat.reduceEqDiff, false_and, and_false, and_true, true_and, if_true, if_false, ↓reduceIte]; exact p1
    · replace hi : i < q.1 := hi
      obtain ⟨y1, y2, y3⟩ := p2 i hi
      simp only [up3, eq_self, asb, Nat.add_zero, Nat.zero_add, Nat.reduceEqDiff, false_and, and_false, and_true, true_and, if_true, if_false, ↓reduceIte]
      refine ⟨y1, y2, ?_⟩
      by_cases g : i = p
      · subst g; simp only [if_true]
      · simp only [g, if_false]; exact y3
  have lp : ∀ (m p : Nat) (v4 : Int32), v4.toInt = (p : Int) → p + m = q.1 → fk q c t q.1 0 = fk q c t m p → vX6_addEntry_b3 t0 Qn (m + 1) h (A 29 k) v1 v2 v3 v4 := by
    intro m
    induction m with
    | zero =>
      intro p v4 h4 hm hf
      show vX6_addEntry_b3_o t0 (vX6_addEntry_b3 t0 Qn 0) Qn _ _ _ _ _ _
      unfold vX6_addEntry_b3_o
      exact ygi R a29 rfl p1 (fun x hx => cle32 hx h4 (fun _ => fin p v4 h4 (by omega) hf) (fun z => by omega))
    | succ m ih =>
      intro p v4 h4 hm hf
      rw [fk_succ q c t m p] at hf
      obtain ⟨x1, x2, x3⟩ := p2 p (by omega)
      show vX6_addEntry_b3_o t0 (vX6_addEntry_b3 t0 Qn (m + 1)) Qn _ _ _ _ _ _
      unfold vX6_addEntry_b3_o
      refine ygi R a29 rfl p1 (fun x hx => cle32 hx h4 (fun z => by omega) (fun _ => cle32 (vl (by decide)) h4 (fun z => by omega) (fun _ => wio R a29 rfl (by decide) ?_)))
      refine c_before hk R h4 (by omega) h1 h2 x1 x2 (fun z => ?_) (fun z => ?_)
      · rw [if_pos z] at hf
        exact ⟨fun y => absurd y (by decide), fun _ => ih (p + 1) _ (ix_add h4 (ix_lit (by decide)) (by omega)) (by omega) hf⟩
      · rw [if_neg z] at hf
        exact ⟨fun _ => fin p v4 h4 (by omega) hf, fun y => absurd rfl y⟩
  unfold vX6_addEntry
  exact ⟨q.1 + 1, lp q.1 0 0 (by decide) (by omega) rfl⟩
/-! a track's entries -/
theorem qok_w {q : dQ} {b : Int} (h : qok q) (hs : qsum q ≤ b) (hb : b ≤ 1000000000) : ∀ i : Nat, i < q.1 → 0 ≤ q.2.2.2 i ∧ q.2.2.2 i ≤ 1000000000 := fun i hi => by
  have h1 := (h i hi).2.2.2.2
  have h2 := qok_sum h hi
  omega
theorem c_trackPose {Qn : gH → Prop} {v2 : Int32} {j a : Nat} {w : Int} {q : dQ} (hk : k < 4) (Z : CQ h A N zz S k tq C0 P0 C P M) (I : SI S) (hVb : ∀ p : Nat, p < 8 → -100 ≤ M p ∧ M p ≤ 100) (hj : j = 23 ∨ j = 24) (e0 : P j k 0 = some (14, (M a).toNat + 1)) (e2 : C j k 2 = M (a + 2)) (hs : 0 ≤ M a ∧ M a < S 38 0 19) (hp : 0 ≤ M (a + 2) ∧ M (a + 2) ≤ 1000000) (h2 : v2.toInt = w) (hw : 0 ≤ w ∧ w ≤ 1000000) (pz : pzC C k q) (qo : qok q) (qs : qsum q + w ≤ 1000000) (qm : (qtrk S M a w (nC S) q).1 ≤ 32) (k0 : ∀ (h' : gH) (C' : dC), CQ h' A N zz S k tq C0 P0 C' P M → (∀ j i f : Nat, ¬ ((29 ≤ j ∧ j ≤ 32 ∨ j = 37) ∧ i = k) → C' j i f = C j i f) → pzC C' k (qtrk S M a w (nC S) q) → Qn h') : vX3_addTrackPose t0 Qn h (A 21 k) (some (A j k)) v2 := by
  obtain ⟨R, K, JC, F, G⟩ := id Z
  have kn := K.nn
  have i0 := I.nc
  have mo := I.mo (M a).toNat (by omega)
  have mc := I.mc (M a).toNat (by omega)
  have st := K.st (M a).toNat (by omega)
  have aj : ac N j k := k21 hk j (by omega)
  have hnc : ((nC S : Nat) : Int) = S 38 0 8 := by unfold nC; omega
  have kj0 : dK j 0 = some (11, 2) := by rcases hj with rfl | rfl <;> rfl
  have kj2 : dK j 2 = some (11, 0) := by rcases hj with rfl | rfl <;> rfl
  have gq : (M a).toNat < N 2 := by omega
  unfold vX3_addTrackPose
  refine m_bld hk R (nn_i (ygr R aj kj0 e0 (nn_i (ygr R (st_in K (s := (M a).toNat) (by omega)) rfl st.2.1 (m_val hk R (nn_i (ioj (j := 36) (by decide) hk R rfl (by decide) ?_)))))))
  refine c_fill hk I hVb R K JC.va (by omega) mc h2 hw (fun h1 C1 R1 B1 e1 => ?_)
  have lp : ∀ (m c : Nat) (h' : gH) (C' : dC) (v3 : Int32), D h' A N zz C' P → Kp C1 C' k → pzC C' k (qtrk S M a w c q) → v3.toInt = (c : Int) → c + m = nC S → vX3_addTrackPose_b21 t0 Qn (m + 1) h' (A 21 k) (some (A j k)) v3 := by
    intro m
    induction m with
    | zero =>
      intro c h' C' v3 R' B' p' h3 hm
      have hm : c = nC S := by omega
      subst hm
      have B2 : ∀ j i f : Nat, ¬ ((29 ≤ j ∧ j ≤ 32 ∨ j = 37) ∧ i = k) → C' j i f = C j i f := fun j i f hj => (B' j i f (by omega)).trans (B1 j i f (by omega))
      have Z' := Z.gar R' B2
      have sz' := Z'.2.1.sz
      show vX3_addTrackPose_b21_o t0 (vX3_addTrackPose_b21 t0 Qn 0) Qn _ _ _ _
      unfold vX3_addTrackPose_b21_o
      refine m_mod hk R' (nn_i (m_cls R' (nn_i (wio R' (j := 6) (i := 0) (Nat.zero_lt_succ _) rfl (by decide) (ysize R' (Nat.zero_lt_succ _) (fun x6 h6 => ?_))))))
      exact cle32 h6 h3 (fun _ => k0 h' C' Z' B2 p') (fun z => by omega)
    | succ m ih =>
      intro c h' C' v3 R' B' p' h3 hm
      have B2 : ∀ j i f : Nat, ¬ ((29 ≤ j ∧ j ≤ 32 ∨ j = 37) ∧ i = k) → C' j i f = C j i f := fun j i f hj => (B' j i f (by omega)).trans (B1 j i f (by omega))
      have Z' := Z.gar R' B2
      have K' := Z'.2.1
      have sz' := K'.sz
      have kc := K'.cl c (by omega)
      have b := bw_in I M (s := (M a).toNat) (w := w) c (by omega) hw.1
      have b4 := I.cl c (by omega)
      have tm := tmS_in I M (t := a) (c := c) (by omega) hp.1
      have qi := qtrk_in I M hs hp.1 hw.1 qo c (by omega)
      have bs := bw_sum I M (s := (M a).toNat) (w := w) c (by omega) hw.1
      have qn : qtrk S M a w (c + 1) q = qad0 (qtrk S M a w c q) (c : Int) (tmS S M a c) (bw S M (M a).toNat w c) := by
        show (if bw S M (M a).toNat w c ≤ 0 then qtrk S M a w c q else qadd (qtrk S M a w c q) (c : Int) (tmS S M a c) (bw S M (M a).toNat w c)) = _
        unfold qad0
        by_cases z : bw S M (M a).toNat w c = 0
        · rw [if_pos z, if_pos (by omega)]
        · rw [if_neg z, if_neg (by omega)]
      have qle := qtrk_mono S M a w q (nC S) (c + 1) (by omega)
      rw [qn] at qle
      have m1 : 0 ≤ M (a + 2) * S 44 0 c := Int.mul_nonneg hp.1 (by omega)
      have m2 : M (a + 2) * S 44 0 c ≤ 1000000 * 500 := Int.mul_le_mul hp.2 (by omega) (by omega) (by decide)
      have et : tmS S M a c = if M (a + 2) * S 44 0 c / 1000000 ≤ S 44 0 c - 1 then M (a + 2) * S 44 0 c / 1000000 else S 44 0 c - 1 := rfl
      have w37 : C' 37 k c = bw S M (M a).toNat w c := (B' 37 k c (by omega)).trans (e1 c (by omega))
      show vX3_addTrackPose_b21_o t0 (vX3_addTrackPose_b21 t0 Qn (m + 1)) Qn _ _ _ _
      unfold vX3_addTrackPose_b21_o vJ9_min_f86c9 vJ9_min_f86c9_b11
      refine m_mod hk R' (nn_i (m_cls R' (nn_i (wio R' (j := 6) (i := 0) (Nat.zero_lt_succ _) rfl (by decide) (ysize R' (Nat.zero_lt_succ _) (fun x6 h6 => ?_))))))
      refine cle32 h6 h3 (fun z => by omega) (fun _ => m_mod hk R' (nn_i (m_cls R' (nn_i (wio R' (j := 6) (i := 0) (Nat.zero_lt_succ _) rfl (by decide) ?_)))))
      refine yget R' K' (Nat.zero_lt_succ _) h3 (by omega) (fun a ha => K'.e0 a c ha (by omega)) (nn_i (wio R' (cl_in K' (by omega)) rfl (by decide) ?_))
      refine ygi R' (cl_in K' (by omega)) rfl kc.2.1 (fun x14 h14 => nn_i (ygi R' aj kj2 (v := M (a + 2)) ((B2 j k 2 (by omega)).trans e2) (fun x16 h16 => ⟨ne_ti ⟨vlL (by decide), by decide⟩, ?_⟩)))
      have q1 : (((Int32.toInt64 x16) * (Int32.toInt64 x14)) / 1000000).toInt = M (a + 2) * S 44 0 c / 1000000 := divL_ti (mulL_ti (wid_ti h16) (wid_ti h14) (by omega)) (vlL (by decide)) m1 (by decide)
      have q2 : (Int32.toInt64 (x14 - 1)).toInt = S 44 0 c - 1 := wid_ti (sub_ti h14 (vl (by decide)) (by omega))
      have fin : ∀ x18 : Int64, x18.toInt = tmS S M a c → gr h' (A 21 k) 6 12 (fun r19 => gr h' (A 21 k) 6 11 (fun r20 => nn r20 (fun a21 => io h' a21 3 (vX0_weightOf t0 (fun x23 h22 => nn r19 (fun a24 => io h22 a24 9 (vX6_addEntry t0 (fun h25 => vX3_addTrackPose_b21 t0 Qn (m + 1) h25 (A 21 k) (some (A j k)) (v3 + 1)) h22 a24 v3 (Int64.toInt32 x18) x23))) h' a21 v3)))) := fun x18 h18 => by
        refine m_pos hk R' (m_bld hk R' (nn_i (ioj (j := 36) (by decide) hk R' rfl (by decide) ?_)))
        refine c_weight hk R' h3 (by omega) w37 (fun x23 h23 => nn_i (ioj (j := 29) (by decide) hk R' rfl (by decide) ?_))
        refine c_entry hk R' p' h3 (nar_ti h18 (by omega)) h23 (by omega) (qok_w qi.1 (b := 1000000) (by rw [qi.2.1]; omega) (by decide)) (by omega) (fun h25 C25 R25 B25 p25 => ih (c + 1) h25 C25 _ R25 (B'.tr B25) (by rw [qn]; exact p25) (ix_add h3 (ix_lit (by decide)) (by omega)) (by omega))
      refine clt64 q2 q1 (fun z => fin _ ?_) (fun z => fin _ ?_)
      · rw [q2, et, if_neg (by omega)]
      · rw [q1, et, if_pos (by omega)]
  exact ⟨nC S + 1, lp (nC S) 0 h1 C1 0 R1 (Kp.rf C1 k) ⟨(B1 29 k 3 (by omega)).trans pz.1, fun i hi => by rw [B1 30 k i (by omega), B1 31 k i (by omega), B1 32 k i (by omega)]; exact pz.2 i hi⟩ (by decide) (by omega)⟩
/-! frozen entries -/
theorem c_frozen {Qn : gH → Prop} {v2 : Int32} {w : Int} (hk : k < 4) (Z : CQ h A N zz S k tq C0 P0 C P M) (J : MI S tb M) (h20 : M 20 = 1) (h2 : v2.toInt = w) (hw : 0 ≤ w ∧ w ≤ 1000000) (pz : pzC C k q0) (k0 : ∀ (h' : gH) (C' : dC), CQ h' A N zz S k tq C0 P0 C' P M → (∀ j i f : Nat, ¬ ((29 ≤ j ∧ j ≤ 32 ∨ j = 37) ∧ i = k) → C' j i f = C j i f) → pzC C' k (qfrz M w (M 21).toNat q0) → Qn h') : vX6_addFrozen t0 Qn h (A 29 k) (some (A 25 k)) v2 := by
  obtain ⟨R, K, JC, F, G⟩ := id Z
  obtain ⟨f1, f2⟩ := JC.fr h20
  have j6 := J.fm
  have j4 := J.cu
  have fe := J.fe
  have a25 : ac N 25 k := hk
  have a26 : ac N 26 k := hk
  have a27 : ac N 27 k := hk
  have a28 : ac N 28 k := hk
  have c1 := qmis_lo hw (M 21).toNat fun j hj => (fe j (by omega)).2.2.2.2
  -- what was found missing
  have go : ∀ v3 : Int64, v3.toInt = qmis M w (M 21).toNat → vX6_addFrozen_b46 t0 Qn h (A 29 k) (some (A 25 k)) v2 v3 := fun v3 h3 => by
    have lp : ∀ (m i : Nat) (h' : gH) (C' : dC) (v5 : Int32), D h' A N zz C' P → Kp C C' k → pzC C' k (qfrz M w i q0) → v5.toInt = (i : Int) → ((i + m : Nat) : Int) = M 21 → vX6_addFrozen_b49 t0 Qn (m + 1) h' (A 29 k) (some (A 25 k)) v2 v3 v5 := by
      intro m
      induction m with
      | zero =>
        intro i h' C' v5 R' B' p' h5 hm
        have hm : (M 21).toNat = i := by omega
        have B2 : ∀ j i f : Nat, ¬ ((29 ≤ j ∧ j ≤ 32 ∨ j = 37) ∧ i = k) → C' j i f = C j i f := fun j i f hj => B' j i f (by omega)
        have kq := k0 h' C' (Z.gar R' B2) B2 (by rw [hm]; exact p')
        show vX6_addFrozen_b49_o t0 (vX6_addFrozen_b49 t0 Qn 0) Qn _ _ _ _ _ _
        unfold vX6_addFrozen_b49_o vX6_addFrozen_b120
        exact nn_i (ygi R' a25 rfl (v := M 21) ((B' 25 k 3 (by omega)).trans f1) (fun x2 hx => cle32 hx h5 (fun _ => kq) (fun z => by omega)))
      | succ m ih =>
        intro i h' C' v5 R' B' p' h5 hm
        have e := fe i (by omega)
        have g := f2 i (by omega)
        have b2 := fz_w e.2.2.2.2 hw
        have qi := qfrz_in J h20 hw i (by omega)
        have qw := qfw_in J h20 hw (k := i) (by omega)
        have qt := qfrz_sum J h20 hw
        have qn : qfrz M w (i + 1) q0 = qad0 (qfrz M w i q0) (M (22 + 3 * i)) (M (23 + 3 * i)) (qfw M w i) := by
          show (if qfw M w i ≤ 0 then qfrz M w i q0 else qadd (qfrz M w i q0) (M (22 + 3 * i)) (M (23 + 3 * i)) (qfw M w i)) = _
          unfold qad0
          by_cases z : qfw M w i = 0
          · rw [if_pos z, if_pos (by omega)]
          · rw [if_neg z, if_neg (by omega)]
        have qi1 := qfrz_in J h20 hw (i + 1) (by omega)
        have m0 := qmis_pos hw (n := (M 21).toNat) (fun j hj => (fe j (by omega)).2.2.2.2.1) (J.fs h20)
        have qf : qfw M w i = M (24 + 3 * i) * w / 1000000 + (if i = 0 then qmis M w (M 21).toNat else 0) := rfl
        have sm : ∀ j : Nat, j < (qfrz M w i q0).1 → 0 ≤ (qfrz M w i q0).2.2.2 j ∧ (qfrz M w i q0).2.2.2 j ≤ 1000000000 := qok_w qi.1 (b := 1000000000) (by
          rw [qi.2.1]
          have : ∀ n : Nat, (n : Int) ≤ M 21 → fb_si (qfw M w) n ≤ (n : Int) * 2000000 := fun n => by
            induction n with
            | zero => intro _; exact Int.le_refl _
            | succ n ihn =>
              intro hn
              have u := ihn (by omega)
              have v := fz_w (fe n (by omega)).2.2.2.2 hw
              have y : qfw M w n ≤ 2000000 := by unfold qfw; split <;> omega
              rw [fb_si_succ]
              omega
          have := this i (by omega)
          omega) (by decide)
        have add : ∀ v6 : Int64, v6.toInt = qfw M w i → vX6_addFrozen_b93 t0 (vX6_addFrozen_b49 t0 Qn (m + 1)) Qn h' (A 29 k) (some (A 25 k)) v2 v3 v5 v6 := fun v6 h6 => by
          have y : qfw M w i ≤ 2000000 := by rw [qf]; split <;> omega
          unfold vX6_addFrozen_b93
          refine nn_i (wgrs R' a25 rfl (show dS 25 k 0 = some (26, k) from rfl) (nn_i (yli R' a26 rfl h5 (show i < 32 by omega) (v := M (22 + 3 * i)) ((B' 26 k i (by omega)).trans g.1) (fun x4 h4 => ?_))))
          refine wgrs R' a25 rfl (show dS 25 k 1 = some (27, k) from rfl) (nn_i (yli R' a27 rfl h5 (show i < 32 by omega) (v := M (23 + 3 * i)) ((B' 27 k i (by omega)).trans g.2.1) (fun x7 h7 => ioj (j := 29) (by decide) hk R' rfl (by decide) ?_)))
          exact c_entry hk R' p' h4 h7 (nar_ti h6 (by omega)) (by rw [← qn]; omega) sm (by omega) (fun h8 C8 R8 B8 p8 => ih (i + 1) h8 C8 _ R8 (B'.tr B8) (by rw [qn]; exact p8) (ix_add h5 (ix_lit (by decide)) (by omega)) (by omega))
        show vX6_addFrozen_b49_o t0 (vX6_addFrozen_b49 t0 Qn (m + 1)) Qn _ _ _ _ _ _
        unfold vX6_addFrozen_b49_o
        refine nn_i (ygi R' a25 rfl (v := M 21) ((B' 25 k 3 (by omega)).trans f1) (fun x2 hx => cle32 hx h5 (fun z => by omega) (fun _ => cle32 (vl (by decide)) h5 (fun z => by omega) (fun _ => ?_))))
        refine wgrs R' a25 rfl (show dS 25 k 2 = some (28, k) from rfl) (nn_i (yli R' a28 rfl h5 (show i < 32 by omega) (v := M (24 + 3 * i)) ((B' 28 k i (by omega)).trans g.2.2) (fun x5 h5' => ⟨ne_ti ⟨vlL (by decide), by decide⟩, ?_⟩)))
        have dv : (((Int32.toInt64 x5) * (Int32.toInt64 v2)) / 1000000).toInt = M (24 + 3 * i) * w / 1000000 := divL_ti (mulL_ti (wid_ti h5') (wid_ti h2) (by omega)) (vlL (by decide)) (by omega) (by decide)
        refine cne32 h5 (vl (by decide)) (fun z => add _ (dv.trans ?_)) (fun z => add _ ((addL_ti dv h3 (by omega)).trans ?_))
        · rw [qf, if_neg (by omega)]; omega
        · rw [qf, if_pos (by omega)]
    unfold vX6_addFrozen_b46
    exact ⟨(M 21).toNat + 1, lp (M 21).toNat 0 h C 0 R (Kp.rf C k) pz (by decide) (by omega)⟩
  have lm : ∀ (m i : Nat) (v3 : Int64) (v5 : Int32), v3.toInt = qmis M w i → v5.toInt = (i : Int) → ((i + m : Nat) : Int) = M 21 → vX6_addFrozen_b6 t0 Qn (m + 1) h (A 29 k) (some (A 25 k)) v2 v3 v5 := by
    intro m
    induction m with
    | zero =>
      intro i v3 v5 h3 h5 hm
      have hm : (M 21).toNat = i := by omega
      rw [hm] at go
      show vX6_addFrozen_b6_o t0 (vX6_addFrozen_b6 t0 Qn 0) Qn _ _ _ _ _ _
      unfold vX6_addFrozen_b6_o
      exact nn_i (ygi R a25 rfl f1 (fun x2 hx => cle32 hx h5 (fun _ => go v3 h3) (fun z => by omega)))
    | succ m ih =>
      intro i v3 v5 h3 h5 hm
      have e := fe i (by omega)
      have g := f2 i (by omega)
      have b2 := fz_w e.2.2.2.2 hw
      have b3 := qmis_lo hw i fun j hj => (fe j (by omega)).2.2.2.2
      show vX6_addFrozen_b6_o t0 (vX6_addFrozen_b6 t0 Qn (m + 1)) Qn _ _ _ _ _ _
      unfold vX6_addFrozen_b6_o
      refine nn_i (ygi R a25 rfl f1 (fun x2 hx => cle32 hx h5 (fun z => by omega) (fun _ => cle32 (vl (by decide)) h5 (fun z => by omega) (fun _ => ?_))))
      refine wgrs R a25 rfl (show dS 25 k 2 = some (28, k) from rfl) (nn_i (yli R a28 rfl h5 (show i < 32 by omega) g.2.2 (fun x5 h5' => ⟨ne_ti ⟨vlL (by decide), by decide⟩, ?_⟩)))
      refine ih (i + 1) _ _ ?_ (ix_add h5 (ix_lit (by decide)) (by omega)) (by omega)
      rw [qmis_succ]
      exact subL_ti h3 (divL_ti (mulL_ti (wid_ti h5') (wid_ti h2) (by omega)) (vlL (by decide)) (by omega) (by decide)) (by omega)
  unfold vX6_addFrozen
  exact ⟨(M 21).toNat + 1, lm (M 21).toNat 0 _ 0 (by rw [wid_ti h2]; show w = w - 0; omega) (by decide) (by omega)⟩
/-- what the present pose is like when the machine is idle -/
theorem qpose_idle {S : dC} (I : SI S) {M : dM} (J : MI S tb M) (hns : 0 < S 38 0 19) (h8 : M 8 = 0) : qpose S M = qtrk S M 12 1000000 (nC S) q0 ∧ (qtrk S M 12 1000000 (nC S) q0).1 ≤ 8 := by
  have j2 := J.sa
  have j3 := J.ca
  have i0 := I.nc
  have c := bw_cnt I M (s := (M 12).toNat) (w := 1000000) (nC S) (by have := j2.2.1 hns; omega)
  have t := qtrk_in I M (t := 12) (w := 1000000) (q := q0) ⟨j2.1, j2.2.1 hns⟩ (show 0 ≤ M 14 by omega) (by decide) q0_ok (nC S) (by unfold nC; omega)
  refine ⟨?_, ?_⟩
  · unfold qpose
    rw [if_neg (by omega), if_pos h8]
  · have z1 : q0.1 = 0 := rfl
    have e := t.2.2.2
    generalize fb_ct (fun c => decide (bw S M (M 12).toNat 1000000 c ≠ 0)) (nC S) = y at *
    omega
theorem c_fillPose {Qn : gH → Prop} (hk : k < 4) (Z : CQ h A N zz S k tq C0 P0 C P M) (I : SI S) (J : MI S tb M) (hns : 0 < S 38 0 19) (k0 : ∀ (h' : gH) (C' : dC), CQ h' A N zz S k tq C0 P0 C' P M → (∀ j i f : Nat, ¬ ((29 ≤ j ∧ j ≤ 32 ∨ j = 37) ∧ i = k) → C' j i f = C j i f) → pzC C' k (qpose S M) → Qn h') : vX3_fillPose t0 Qn h (A 21 k) := by
  obtain ⟨R, K, JC, F, G⟩ := id Z
  have a29 : ac N 29 k := hk
  have am : ac N 21 k := hk
  have jm := J.mi
  have j2 := J.sa
  have j3 := J.ca
  have j12 : 0 ≤ M 12 ∧ M 12 < S 38 0 19 := ⟨j2.1, j2.2.1 hns⟩
  have i0 := I.nc
  unfold vX3_fillPose
  refine m_pos hk R (nn_i (wpvI R a29 rfl (v := 0) (vl (by decide)) (fun h3 R3 => ?_)))
  have B3 : ∀ j i f : Nat, ¬ ((29 ≤ j ∧ j ≤ 32 ∨ j = 37) ∧ i = k) → up3 C 29 k 3 0 j i f = C j i f := fun j i f hj => up3_off_ _ _ (by omega)
  have Z3 := Z.gar R3 B3
  have p3 : pzC (up3 C 29 k 3 0) k q0 := ⟨by simp only [up3, eq_self, asb, Nat.add_zero, Nat.zero_add, Nat.reduceEqDiff, false_and, and_false, and_true, true_and, if_true, if_false, ↓reduceIte]; rfl, fun i hi => absurd hi (Nat.not_lt_zero i)⟩
  have JC3 := Z3.2.2.1
  have k1 := fun h' C' (Z' : CQ h' A N zz S k tq C0 P0 C' P M) (B' : ∀ j i f : Nat, ¬ ((29 ≤ j ∧ j ≤ 32 ∨ j = 37) ∧ i = k) → C' j i f = up3 C 29 k 3 0 j i f) p' => k0 h' C' Z' (fun j i f hj => (B' j i f hj).trans (B3 j i f hj)) p'
  clear k0
  generalize up3 C 29 k 3 0 = C3 at *
  by_cases h8 : M 8 = 0
  · obtain ⟨q1, q2⟩ := qpose_idle I J hns h8
    rw [q1] at k1
    refine ygn R3 am rfl (JC3.mi h8) ⟨fun _ => m_src hk R3 (iom hk R3 ?_), fun a z => by cases z⟩
    exact c_trackPose hk Z3 I J.va (Or.inl rfl) (a := 12) (JC3.sa hns) JC3.ta.2.1 j12 (show 0 ≤ M 14 ∧ M 14 ≤ 1000000 by omega) (vl (by decide)) (w := 1000000) (by decide) p3 q0_ok (by decide) (by omega) k1
  have h8 : M 8 = 1 := by omega
  have mx := JC3.mx h8
  have sb := JC3.sb h8
  have jx := J.xx h8
  have je := J.el h8
  have j9 := J.sb h8
  have jb := J.cb h8
  have sh := sh_in J h8
  obtain ⟨q1, q2, q3⟩ := qpose_in I J h8
  have j4 := J.cu
  have j6 := J.fm
  have hn : ((nC S : Nat) : Int) ≤ S 38 0 8 := by unfold nC; omega
  have last : ∀ (q : dQ) (hq : qpose S M = qtrk S M 16 (shr S M) (nC S) q) (qo : qok q) (qs : qsum q + shr S M ≤ 1000000) (h' : gH) (C' : dC) (v : Int32), v.toInt = shr S M → CQ h' A N zz S k tq C0 P0 C' P M → (∀ j i f : Nat, ¬ ((29 ≤ j ∧ j ≤ 32 ∨ j = 37) ∧ i = k) → C' j i f = C3 j i f) → pzC C' k q → vX3_fillPose_b68 t0 Qn h' (A 21 k) v := fun q hq qo qs h' C' v hv Z' B' p' => by
    unfold vX3_fillPose_b68
    refine m_tgt hk Z'.1 (iom hk Z'.1 ?_)
    have sb' := Z'.2.2.1.sb h8
    rw [hq] at q3
    exact c_trackPose hk Z' I J.va (Or.inr rfl) (a := 16) sb'.1 sb'.2.2.1 j9 (show 0 ≤ M 18 ∧ M 18 ≤ 1000000 by omega) hv sh p' qo qs (by omega) (fun h2 C2 Z2 B2 p2 => k1 h2 C2 Z2 (fun j i f hj => (B2 j i f hj).trans (B' j i f hj)) (by rw [hq]; exact p2))
  have hsh : -2147483648 ≤ 1000000 - shr S M ∧ 1000000 - shr S M < 2147483648 := by omega
  refine ygr R3 am rfl mx.1 ⟨(fun z => by cases z), fun a5 _ => iom hk R3 ?_⟩
  refine c_share hk Z3 I h8 jx (by omega) (by omega) (fun x9 h9 => ?_)
  refine ygi R3 am rfl JC3.fz (fun x10 h10 => ceq32 h10 (vl (by decide)) (fun z => m_src hk R3 (iom hk R3 ?_)) (fun z => ?_))
  · have hq : qpose S M = qtrk S M 16 (shr S M) (nC S) (qtrk S M 12 (1000000 - shr S M) (nC S) q0) := by unfold qpose; rw [if_neg (by omega), if_neg (by omega), if_neg (by omega)]
    have t0' := qtrk_in I M (t := 12) (w := 1000000 - shr S M) (q := q0) j12 (show 0 ≤ M 14 by omega) (by omega) q0_ok (nC S) hn
    have t1' := qtrk_in I M (t := 16) (w := shr S M) (q := qtrk S M 12 (1000000 - shr S M) (nC S) q0) j9 (show 0 ≤ M 18 by omega) sh.1 t0'.1 (nC S) hn
    have s0 := bw_sum I M (s := (M 12).toNat) (w := 1000000 - shr S M) (nC S) (by omega) (by omega)
    have z0 : qsum q0 = 0 := rfl
    refine c_trackPose hk Z3 I J.va (Or.inl rfl) (a := 12) (JC3.sa hns) JC3.ta.2.1 j12 (show 0 ≤ M 14 ∧ M 14 ≤ 1000000 by omega) (sub_ti (vl (by decide)) h9 hsh) (by omega) p3 q0_ok (by omega) (by have := t1'.2.2.1; rw [← hq] at this; omega) (fun h' C' Z' B' p' => last _ hq t0'.1 (by rw [t0'.2.1]; omega) h' C' x9 h9 Z' B' p')
  · have h20 : M 20 = 1 := by have := J.fz; omega
    have hq : qpose S M = qtrk S M 16 (shr S M) (nC S) (qfrz M (1000000 - shr S M) (M 21).toNat q0) := by unfold qpose; rw [if_neg (by omega), if_neg (by omega), if_pos h20]
    have f1 := qfrz_in J h20 (w := 1000000 - shr S M) (by omega) (M 21).toNat (by omega)
    have f2 := qfrz_sum J h20 (w := 1000000 - shr S M) (by omega)
    refine m_pos hk R3 (m_fzp hk R3 (nn_i (ioj (j := 29) (by decide) hk R3 rfl (by decide) ?_)))
    exact c_frozen hk Z3 J h20 (sub_ti (vl (by decide)) h9 hsh) (by omega) p3 (fun h' C' Z' B' p' => last _ hq f1.1 (by omega) h' C' x9 h9 Z' B' p')
end CE
