/-! ===== the law's helpers over the world ===== -/
def plc (M : dM) : Int := if M 8 = 1 then M 16 else M 12
def i32 (v : Int) : Int32 := Int32.ofInt v
def i64 (v : Int) : Int64 := Int64.ofInt v
theorem i32_of {y : Int32} {v : Int} (h : y.toInt = v) : y = i32 v := by unfold i32; rw [← h, Int32.ofInt_toInt]
theorem i64_of {y : Int64} {v : Int} (h : y.toInt = v) : y = i64 v := by unfold i64; rw [← h, Int64.ofInt_toInt]
def itF (f : Nat → Int64 → Int64) : Nat → Nat → Int64 → Int64
  | 0, _, a => a
  | m + 1, k, a => itF f m (k + 1) (f k a)
def tlA (M : dM) : Int64 := ((((((((Int32.toInt64 (i32 (M 12))) * 31) + ((Int32.toInt64 (i32 (if M 8 = 1 then M 16 else -1))) * 37)) + ((Int32.toInt64 (i32 (if M 8 = 1 then M 9 else -1))) * 41)) + ((Int32.toInt64 (i32 (if M 8 = 1 then M 10 else -1))) * 43)) + ((i64 (prg M 12)) * 47)) + ((Int32.toInt64 (i32 (M 288))) * 53)) + ((Int32.toInt64 (i32 (M 287))) * 59)) + ((Int32.toInt64 (i32 (M 166))) * 61)
def tlB (M : dM) : Int64 := if M 8 = 1 then (tlA M * 67) + i64 (prg M 16) else tlA M
def tlV (M : dM) (k : Nat) (a : Int64) : Int64 := (a * 71) + (Int32.toInt64 (i32 (M k)))
noncomputable def tlP (S : dC) (M : dM) (k : Nat) (a : Int64) : Int64 := (((a * 73) + ((Int32.toInt64 (i32 ((qpose S M).2.1 k))) * 5)) + ((Int32.toInt64 (i32 ((qpose S M).2.2.1 k))) * 7)) + (Int32.toInt64 (i32 ((qpose S M).2.2.2 k)))
def tlE (M : dM) (k : Nat) (a : Int64) : Int64 := ((((a * 79) + ((Int32.toInt64 (i32 (M (167 + 4 * k + 0)))) * 3)) + ((Int32.toInt64 (i32 (M (167 + 4 * k + 1)))) * 5)) + ((Int32.toInt64 (i32 (M (167 + 4 * k + 2)))) * 7)) + (Int32.toInt64 (i32 (M (167 + 4 * k + 3))))
/-- what the law's tale tells of a machine -/
noncomputable def taleV (S : dC) (M : dM) : Int64 := itF (tlE M) (M 166).toNat 0 (itF (tlP S M) (qpose S M).1 0 (itF (tlV M) 3 0 (tlB M)))
theorem inc1 {v : Int32} {k : Nat} (h : v.toInt = (k : Int)) (hk : k < 100000) : (v + 1).toInt = ((k + 1 : Nat) : Int) := (add_ti h (vl (by decide)) (by omega)).trans (by omega)
theorem decN {v : Int32} {k : Nat} (h : v.toInt = (k : Int)) (h1 : 1 ≤ k) (hk : k < 100000) : (v - 1).toInt = ((k - 1 : Nat) : Int) := (sub_ti h (vl (by decide)) (by omega)).trans (by omega)
section HLP
variable {h h' : gH} {S : dC} {M : dM} {O : Nat → Option dM} {E : Nat → Int} {tb : Int} {t0 x ea : Nat}
variable {Qn : Int32 → gH → Prop} {Ql : Int64 → gH → Prop}
theorem w_place (W : WD t0 x ea S M O E h) (g : GD S tb M) (k0 : ∀ y : Int32, y.toInt = plc M → Qn y h) : vL_place t0 Qn h (some x) := by
  have jm := g.2.1.mi
  unfold vL_place vL_place_b18
  refine nn_i (w_target W g.2.1 (fun y hy => ?_))
  rcases jm with z | z
  · rw [if_neg (by omega)] at hy
    refine cle32 (vl (by decide)) hy (fun c => absurd c (by decide)) (fun _ => w_state W g (fun y2 h2 => k0 y2 (h2.trans ?_)))
    unfold plc
    rw [if_neg (by omega)]
  · rw [if_pos z] at hy
    have jb := g.2.1.sb z
    refine cle32 (vl (by decide)) hy (fun _ => w_target W g.2.1 (fun y2 h2 => k0 y2 (h2.trans (by unfold plc; rw [if_pos z, if_pos z])))) (fun c => absurd jb.1 c)
theorem tale_e (g : GD S tb M) : ∀ (m k n : Nat) (h : gH) (a : Int64) (v4 v5 : Int32), ((k + m : Nat) : Int) = M 166 → m < n → v4.toInt = M 166 → v5.toInt = (k : Int) → WD t0 x ea S M O E h → (∀ h' : gH, WD t0 x ea S M O E h' → Ql (itF (tlE M) m k a) h') → vL_tale_b201 t0 Ql n h (some x) a v4 v5
  | _, _, 0, _, _, _, _, _, hn, _, _, _, _ => absurd hn (Nat.not_lt_zero _)
  | 0, k, n + 1, h, a, v4, v5, e, hn, h4, h5, W, K => by
    show vL_tale_b201_o t0 (vL_tale_b201 t0 Ql n) Ql _ _ _ _ _
    unfold vL_tale_b201_o
    exact cle32 h4 h5 (fun _ => K h W) (fun z => absurd z (by omega))
  | m + 1, k, n + 1, h, a, v4, v5, e, hn, h4, h5, W, K => by
    have ev := g.2.1.ev
    show vL_tale_b201_o t0 (vL_tale_b201 t0 Ql n) Ql _ _ _ _ _
    unfold vL_tale_b201_o
    refine cle32 h4 h5 (fun z => absurd z (by omega)) (fun _ => nn_i ?_)
    refine w_event W g (c := 0) h5 (by omega) (by decide) (by decide) (fun y0 e0 => ?_)
    refine w_event W g (c := 1) h5 (by omega) (by decide) (by decide) (fun y1 e1 => ?_)
    refine w_event W g (c := 2) h5 (by omega) (by decide) (by decide) (fun y2 e2 => ?_)
    refine w_event W g (c := 3) h5 (by omega) (by decide) (by decide) (fun y3 e3 => ?_)
    obtain rfl := i32_of e0
    obtain rfl := i32_of e1
    obtain rfl := i32_of e2
    obtain rfl := i32_of e3
    exact tale_e g m (k + 1) n h _ v4 _ (by omega) (by omega) h4 (inc1 h5 (by omega)) W K
theorem tale_p (g : GD S tb M) : ∀ (m k n : Nat) (h : gH) (a : Int64) (v3 v4 : Int32), k + m = (qpose S M).1 → m < n → v3.toInt = ((qpose S M).1 : Int) → v4.toInt = (k : Int) → WD t0 x ea S M O E h → (∀ h' : gH, WD t0 x ea S M O E h' → Ql (itF (tlE M) (M 166).toNat 0 (itF (tlP S M) m k a)) h') → vL_tale_b140 t0 Ql n h (some x) a v3 v4
  | _, _, 0, _, _, _, _, _, hn, _, _, _, _ => absurd hn (Nat.not_lt_zero _)
  | 0, k, n + 1, h, a, v3, v4, e, hn, h3, h4, W, K => by
    have ev := g.2.1.ev
    show vL_tale_b140_o t0 (vL_tale_b140 t0 Ql n) Ql _ _ _ _ _
    unfold vL_tale_b140_o
    refine cle32 h3 h4 (fun _ => nn_i (w_count6 W g.2.1 (by decide) (fun y hy => ?_))) (fun z => absurd z (by omega))
    exact tale_e g (M 166).toNat 0 40 h a y 0 (by omega) (by omega) hy (by decide) W K
  | m + 1, k, n + 1, h, a, v3, v4, e, hn, h3, h4, W, K => by
    have gm := g.many
    show vL_tale_b140_o t0 (vL_tale_b140 t0 Ql n) Ql _ _ _ _ _
    unfold vL_tale_b140_o
    refine cle32 h3 h4 (fun z => absurd z (by omega)) (fun _ => nn_i ?_)
    refine w_pclip W g h4 (by omega) (fun y0 h0 W0 e0 => ?_)
    refine w_ptime W0 g h4 (by omega) (fun y1 h1 W1 e1 => ?_)
    refine w_pweight W1 g h4 (by omega) (fun y2 h2 W2 e2 => ?_)
    obtain rfl := i32_of e0
    obtain rfl := i32_of e1
    obtain rfl := i32_of e2
    exact tale_p g m (k + 1) n h2 _ v3 _ (by omega) (by omega) h3 (inc1 h4 (by omega)) W2 K
theorem tale_v (g : GD S tb M) (h3p : 3 ≤ S 38 0 3) : ∀ (m k n : Nat) (h : gH) (a : Int64) (v3 : Int32), k + m = 3 → m < n → v3.toInt = (k : Int) → WD t0 x ea S M O E h → (∀ h' : gH, WD t0 x ea S M O E h' → Ql (itF (tlE M) (M 166).toNat 0 (itF (tlP S M) (qpose S M).1 0 (itF (tlV M) m k a))) h') → vL_tale_b108 t0 Ql n h (some x) a v3
  | _, _, 0, _, _, _, _, hn, _, _, _ => absurd hn (Nat.not_lt_zero _)
  | 0, k, n + 1, h, a, v3, e, hn, h3, W, K => by
    show vL_tale_b108_o t0 (vL_tale_b108 t0 Ql n) Ql _ _ _ _
    unfold vL_tale_b108_o
    refine cle32 (vl (by decide)) h3 (fun _ => nn_i (w_size W g.1 g.2.1 (fun y h1 W1 hy => ?_))) (fun z => absurd z (by omega))
    have gm := g.many
    exact tale_p g (qpose S M).1 0 40 h1 a y 0 (by omega) (by omega) hy (by decide) W1 K
  | m + 1, k, n + 1, h, a, v3, e, hn, h3, W, K => by
    show vL_tale_b108_o t0 (vL_tale_b108 t0 Ql n) Ql _ _ _ _
    unfold vL_tale_b108_o
    refine cle32 (vl (by decide)) h3 (fun z => absurd z (by omega)) (fun _ => nn_i ?_)
    refine w_value W g.1 h3 (by omega) (fun y hy => ?_)
    obtain rfl := i32_of hy
    exact tale_v g h3p m (k + 1) n h _ _ (by omega) (by omega) (inc1 h3 (by omega)) W K
theorem w_tale (W : WD t0 x ea S M O E h) (g : GD S tb M) (h3p : 3 ≤ S 38 0 3) (k0 : ∀ h' : gH, WD t0 x ea S M O E h' → Ql (taleV S M) h') : vL_tale t0 Ql h (some x) := by
  have jm := g.2.1.mi
  unfold vL_tale
  refine nn_i (w_state W g (fun y0 e0 => ?_))
  refine w_target W g.2.1 (fun y1 e1 => ?_)
  refine w_transition W g.2.1 (fun y2 e2 => ?_)
  refine w_elapsed W g.2.1 (fun y3 e3 => ?_)
  refine w_prog0 W g (by decide) (fun y4 e4 => ?_)
  refine w_fired W (fun y5 e5 => ?_)
  refine w_count5 W g.2.1 (by decide) (fun y6 e6 => ?_)
  refine w_count6 W g.2.1 (by decide) (fun y7 e7 => ?_)
  refine w_target W g.2.1 (fun y8 e8 => ?_)
  obtain rfl := i32_of e0
  obtain rfl := i32_of e1
  obtain rfl := i32_of e2
  obtain rfl := i32_of e3
  obtain rfl := i64_of e4
  obtain rfl := i32_of e5
  obtain rfl := i32_of e6
  obtain rfl := i32_of e7
  unfold taleV at k0
  rcases jm with z | z
  · have e9 : tlB M = tlA M := if_neg (by omega)
    rw [if_neg (by omega)] at e8
    rw [e9] at k0
    refine clt32 e8 (vl (by decide)) (fun _ => ?_) (fun c => absurd (by decide) c)
    unfold vL_tale_b105
    exact tale_v g h3p 3 0 4 h _ 0 rfl (by decide) (by decide) W k0
  · have e9 : tlB M = (tlA M * 67) + i64 (prg M 16) := if_pos z
    have jb := g.2.1.sb z
    rw [if_pos z] at e8
    rw [e9] at k0
    refine clt32 e8 (vl (by decide)) (fun c => absurd jb.1 (by omega)) (fun _ => w_prog1 W g (by decide) z (fun y9 e9 => ?_))
    obtain rfl := i64_of e9
    unfold vL_tale_b105
    exact tale_v g h3p 3 0 4 h _ 0 rfl (by decide) (by decide) W k0
/-- the law's row holds the clips' lengths and the transitions' durations -/
def EF (S : dC) (E : Nat → Int) : Prop := S 38 0 8 = 4 ∧ (∀ c : Nat, c < 4 → E c = S 44 0 c) ∧ S 38 0 21 ≤ 24 ∧ ∀ t : Nat, (t : Int) < S 38 0 21 → E (10 + t) = durS S t
theorem fits_end (W : WD t0 x ea S M O E h) (g : GD S tb M) (F : EF S E) (v3 : Int64) (e3 : v3.toInt = 1000000) (K : ∀ h' : gH, WD t0 x ea S M O E h' → Qn 1 h') : nn (some x) (fun a1 => io h a1 14 (vX11_transition t0 (fun x3 h2 => ((0 ≤ (x3 : Int32)) → (vL_poseFits_b131 t0 Qn h2 (some a1) (some ea) v3 0)) ∧ ((¬ 0 ≤ (x3 : Int32)) → (vL_poseFits_b131 t0 Qn h2 (some a1) (some ea) v3 1))) h a1)) := by
  have jm := g.2.1.mi
  have fin : vL_poseFits_b204 t0 Qn h v3 1 := by
    unfold vL_poseFits_b204 vL_poseFits_b224
    exact ⟨fun c => absurd c (by decide), fun _ => cne64 e3 (vlL (by decide)) (fun c => absurd rfl c) (fun _ => ⟨gZ_of (by decide), K h W⟩)⟩
  refine nn_i (w_transition W g.2.1 (fun y hy => ?_))
  unfold vL_poseFits_b131
  rcases jm with z | z
  · rw [if_neg (by omega)] at hy
    have id := g.2.1.id z
    refine cle32 (vl (by decide)) hy (fun c => absurd c (by decide)) (fun _ => ⟨fun c => absurd c (by decide), fun _ => nn_i ?_⟩)
    refine w_target W g.2.1 (fun y1 e1 => ?_)
    rw [if_neg (by omega)] at e1
    refine cne32 e1 (show (-1 : Int32).toInt = -1 by decide) (fun c => absurd rfl c) (fun _ => ?_)
    refine w_elapsed W g.2.1 (fun y2 e2 => ?_)
    rw [if_neg (by omega)] at e2
    refine cne32 e2 (show (-1 : Int32).toInt = -1 by decide) (fun c => absurd rfl c) (fun _ => ?_)
    refine w_isFrozen W g.2.1 (fun y3 e3 => ?_)
    exact cne32 e3 (vl (by decide)) (fun c => absurd id.2.1 c) (fun _ => fin)
  · rw [if_pos z] at hy
    have xx := g.2.1.xx z
    have el := g.2.1.el z
    have sb := g.2.1.sb z
    have nt := F.2.2.1
    refine cle32 (vl (by decide)) hy (fun _ => ⟨fun _ => nn_i ?_, fun c => absurd rfl c⟩) (fun c => absurd xx.1 c)
    refine w_elapsed W g.2.1 (fun y1 e1 => ?_)
    rw [if_pos z] at e1
    refine clt32 e1 (vl (by decide)) (fun c => absurd el.1 (by omega)) (fun _ => ?_)
    refine w_elapsed W g.2.1 (fun y2 e2 => ?_)
    rw [if_pos z] at e2
    refine w_transition W g.2.1 (fun y3 e3 => ?_)
    rw [if_pos z] at e3
    have e4 : (10 + y3).toInt = ((10 + (M 9).toNat : Nat) : Int) := (add_ti (vl (by decide)) e3 (by omega)).trans (by omega)
    refine nn_i (w_e W e4 (by omega) (fun y5 e5 => ?_))
    rw [F.2.2.2 (M 9).toNat (by omega)] at e5
    refine cle32 e5 e2 (fun c => absurd c (by omega)) (fun _ => ?_)
    refine w_target W g.2.1 (fun y6 e6 => ?_)
    rw [if_pos z] at e6
    exact clt32 e6 (vl (by decide)) (fun c => absurd sb.1 (by omega)) (fun _ => fin)
theorem qw_part {q : dQ} (hp : ∀ i : Nat, i < q.1 → 0 < q.2.2.2 i) : ∀ k : Nat, k ≤ q.1 → 0 ≤ fb_si q.2.2.2 k ∧ fb_si q.2.2.2 k ≤ qsum q := fun k hk => by
  have h1 : 0 ≤ fb_si q.2.2.2 k := fb_si_pos (fun i hi => Int.le_of_lt (hp i (by omega)))
  have h2 := fb_si_split q.2.2.2 k (q.1 - k)
  have h3 : 0 ≤ fb_si (fun i => q.2.2.2 (k + i)) (q.1 - k) := fb_si_pos (fun i hi => Int.le_of_lt (hp _ (by omega)))
  rw [show k + (q.1 - k) = q.1 by omega] at h2
  have h4 : qsum q = fb_si q.2.2.2 q.1 := rfl
  omega
theorem fits_p (g : GD S tb M) (F : EF S E) : ∀ (m k n : Nat) (h : gH) (v2 v5 : Int32) (v3 : Int64), k + m = (qpose S M).1 → m < n → v2.toInt = ((qpose S M).1 : Int) → v5.toInt = (k : Int) → v3.toInt = fb_si (qpose S M).2.2.2 k → WD t0 x ea S M O E h → (∀ h' : gH, WD t0 x ea S M O E h' → Qn 1 h') → vL_poseFits_b10 t0 Qn n h (some x) (some ea) v2 v3 v5
  | _, _, 0, _, _, _, _, _, hn, _, _, _, _, _ => absurd hn (Nat.not_lt_zero _)
  | 0, k, n + 1, h, v2, v5, v3, e, hn, h2, h5, h3, W, K => by
    obtain ⟨q1, q2⟩ := qpose_fits g.1 g.2.1 g.2.2.1 g.2.2.2.1
    show vL_poseFits_b10_o t0 (vL_poseFits_b10 t0 Qn n) Qn _ _ _ _ _ _
    unfold vL_poseFits_b10_o
    refine cle32 h2 h5 (fun _ => fits_end W g F v3 ?_ K) (fun z => absurd z (by omega))
    rw [h3, show k = (qpose S M).1 by omega]
    exact q2
  | m + 1, k, n + 1, h, v2, v5, v3, e, hn, h2, h5, h3, W, K => by
    obtain ⟨⟨q1, q2⟩, q3⟩ := qpose_fits g.1 g.2.1 g.2.2.1 g.2.2.2.1
    have gm := g.many
    have hk : k < (qpose S M).1 := by omega
    obtain ⟨c1, c2, c3, c4, c5⟩ := q2 k hk
    have p1 := qw_part (fun i hi => (q2 i hi).2.2.2.2) k (by omega)
    have p2 := qw_part (fun i hi => (q2 i hi).2.2.2.2) (k + 1) (by omega)
    rw [fb_si_succ] at p2
    have lt4 : (qpose S M).2.1 k < 4 := by have := F.1; omega
    have rec_ : ∀ h' : gH, WD t0 x ea S M O E h' → vL_poseFits_b103 t0 (vL_poseFits_b10 t0 Qn n) Qn h' (some x) (some ea) v2 v3 v5 := fun h' W' => by
      unfold vL_poseFits_b103
      refine nn_i (w_pweight W' g h5 hk (fun y1 h1 W1 e1 => ?_))
      refine fits_p g F m (k + 1) n h1 v2 _ _ (by omega) (by omega) h2 (inc1 h5 (by omega)) ?_ W1 K
      rw [fb_si_succ]
      exact addL_ti h3 (wid_ti e1) (by omega)
    show vL_poseFits_b10_o t0 (vL_poseFits_b10 t0 Qn n) Qn _ _ _ _ _ _
    unfold vL_poseFits_b10_o
    refine cle32 h2 h5 (fun z => absurd z (by omega)) (fun _ => nn_i ?_)
    refine w_pclip W g h5 hk (fun y0 h0 W0 e0 => ?_)
    refine w_ptime W0 g h5 hk (fun y1 h1 W1 e1 => ?_)
    refine w_pweight W1 g h5 hk (fun y2 h2' W2 e2 => ?_)
    refine cle32 e2 (vl (by decide)) (fun z => absurd z (by omega)) (fun _ => ?_)
    refine clt32 e1 (vl (by decide)) (fun z => absurd z (by omega)) (fun _ => nn_i ?_)
    refine w_e W2 (n := ((qpose S M).2.1 k).toNat) (by omega) (by omega) (fun y3 e3 => ?_)
    rw [F.2.1 _ (by omega)] at e3
    refine clt32 e1 e3 (fun _ => ?_) (fun z => absurd c4 z)
    refine cle32 h5 (vl (by decide)) (fun _ => rec_ h2' W2) (fun z => ?_)
    have k1 : 1 ≤ k := by omega
    have sm := q1 (k - 1) (by omega)
    rw [show k - 1 + 1 = k by omega] at sm
    have hd := decN h5 k1 (by omega)
    refine w_pclip W2 g hd (by omega) (fun y4 h4 W4 e4 => ?_)
    refine clt32 e0 e4 (fun z => absurd z (by omega)) (fun _ => ?_)
    refine w_pclip W4 g hd (by omega) (fun y5 h5' W5 e5 => ?_)
    refine cne32 e5 e0 (fun _ => rec_ h5' W5) (fun z2 => ?_)
    refine w_ptime W5 g hd (by omega) (fun y6 h6 W6 e6 => ?_)
    exact clt32 e6 e1 (fun _ => rec_ h6 W6) (fun z3 => absurd z3 (by omega))
theorem w_fits (W : WD t0 x ea S M O E h) (g : GD S tb M) (F : EF S E) (K : ∀ h' : gH, WD t0 x ea S M O E h' → Qn 1 h') : vL_poseFits t0 Qn h (some x) (some ea) := by
  unfold vL_poseFits
  refine nn_i (w_size W g.1 g.2.1 (fun y h1 W1 hy => ?_))
  have gm := g.many
  exact fits_p g F (qpose S M).1 0 40 h1 y 0 0 (by omega) (by omega) hy (by decide) (show (0 : Int64).toInt = (0 : Int) by decide) W1 K
/-- lengths -/
def LB (S : dC) (M : dM) (s k : Nat) (lo hi : Int) : Prop := ∀ c : Nat, c < k → 0 < bw S M s 1000000 c → lo ≤ S 44 0 c ∧ S 44 0 c ≤ hi
theorem LB_one {s k : Nat} {lo hi lo' hi' : Int} (B : LB S M s k lo hi) (h1 : lo' ≤ lo) (h2 : hi ≤ hi') (h3 : 0 < bw S M s 1000000 k → lo' ≤ S 44 0 k ∧ S 44 0 k ≤ hi') : LB S M s (k + 1) lo' hi' := fun c hc hp => by
  rcases Nat.lt_or_ge c k with z | z
  · have := B c z hp
    omega
  · rw [show c = k by omega] at hp ⊢
    exact h3 hp
theorem lens_in (g : GD S tb M) (F : EF S E) {s : Nat} (hs : (s : Int) < S 38 0 19) {k2 : gH → Option Nat → Option Nat → Int32 → Prop} {v2 : Int32} (h2 : v2.toInt = (s : Int)) (K : ∀ h' : gH, WD t0 x ea S M O E h' → k2 h' (some x) (some ea) (v2 + 1)) :
  ∀ (m k n : Nat) (h : gH) (v3 v4 v5 v6 : Int32), k + m = 4 → m < n → v6.toInt = (k : Int) → v3.toInt = fb_si (bw S M s 1000000) k → LB S M s k v4.toInt v5.toInt → WD t0 x ea S M O E h → vL_lengthsFit_b20 t0 k2 Qn n h (some x) (some ea) v2 v3 v4 v5 v6
  | _, _, 0, _, _, _, _, _, _, hn, _, _, _, _ => absurd hn (Nat.not_lt_zero _)
  | 0, k, n + 1, h, v3, v4, v5, v6, e, hn, h6, h3, B, W => by
    have n4 : nC S = k := by have := F.1; unfold nC; omega
    have fl := bw_full g.1 M (w := 1000000) hs (by decide)
    rw [n4] at fl
    have b := lenS_btw g.1 M (lo := v4.toInt) (hi := v5.toInt) hs (by rw [n4]; exact B)
    rw [fl] at h3
    show vL_lengthsFit_b20_o t0 k2 (vL_lengthsFit_b20 t0 k2 Qn n) Qn _ _ _ _ _ _ _ _
    unfold vL_lengthsFit_b20_o
    refine cle32 (vl (by decide)) h6 (fun _ => nn_i ?_) (fun z => absurd z (by omega))
    refine w_length W g h2 hs (fun y h1 W1 hy => ?_)
    refine cne32 h3 (vl (by decide)) (fun z => absurd rfl z) (fun _ => ?_)
    refine clt32 hy rfl (fun z => absurd b.1 (by omega)) (fun _ => ?_)
    exact cle32 hy rfl (fun _ => K h1 W1) (fun z => absurd b.2 z)
  | m + 1, k, n + 1, h, v3, v4, v5, v6, e, hn, h6, h3, B, W => by
    have hb := bw_in g.1 M (s := s) (w := 1000000) k hs (by decide)
    have sb := bw_sum g.1 M (s := s) (w := 1000000) k hs (by decide)
    have ps : 0 ≤ fb_si (bw S M s 1000000) k := fb_si_pos (fun c _ => (bw_in g.1 M (s := s) (w := 1000000) c hs (by decide)).1)
    have f1 := F.1
    show vL_lengthsFit_b20_o t0 k2 (vL_lengthsFit_b20 t0 k2 Qn n) Qn _ _ _ _ _ _ _ _
    unfold vL_lengthsFit_b20_o
    refine cle32 (vl (by decide)) h6 (fun z => absurd z (by omega)) (fun _ => nn_i ?_)
    refine w_part W g h2 hs h6 (by omega) (fun y h1 W1 hy => ?_)
    have e3 : (v3 + y).toInt = fb_si (bw S M s 1000000) (k + 1) := (add_ti h3 hy (by omega)).trans (fb_si_succ _ _).symm
    have rec_ : ∀ (a b : Int32) (h' : gH), WD t0 x ea S M O E h' → LB S M s (k + 1) a.toInt b.toInt → vL_lengthsFit_b88 t0 k2 (vL_lengthsFit_b20 t0 k2 Qn n) Qn h' (some x) (some ea) v2 (v3 + y) a v6 b := fun a b h' W' B' => by
      unfold vL_lengthsFit_b88
      exact lens_in g F hs h2 K m (k + 1) n h' _ a b _ (by omega) (by omega) (inc1 h6 (by omega)) e3 B' W'
    have rec2 : ∀ (a : Int32), a.toInt ≤ v4.toInt → (0 < bw S M s 1000000 k → a.toInt ≤ S 44 0 k) → vL_lengthsFit_b63 t0 k2 (vL_lengthsFit_b20 t0 k2 Qn n) Qn h1 (some x) (some ea) v2 (v3 + y) v5 v6 y a := fun a a1 a2 => by
      unfold vL_lengthsFit_b63 vL_lengthsFit_b86
      refine cle32 hy (vl (by decide)) (fun z => ?_) (fun z => nn_i ?_)
      · exact rec_ a v5 h1 W1 (LB_one B a1 (Int.le_refl _) (fun p => absurd p (by omega)))
      · refine w_e W1 h6 (by omega) (fun y2 e2 => ?_)
        rw [F.2.1 k (by omega)] at e2
        refine cle32 e2 rfl (fun z2 => ?_) (fun z2 => ?_)
        · exact rec_ a v5 h1 W1 (LB_one B a1 (Int.le_refl _) (fun p => ⟨a2 p, z2⟩))
        · refine w_e W1 h6 (by omega) (fun y3 e3 => ?_)
          rw [F.2.1 k (by omega)] at e3
          exact rec_ a y3 h1 W1 (LB_one B a1 (by omega) (fun p => ⟨a2 p, by omega⟩))
    unfold vL_lengthsFit_b61
    refine cle32 hy (vl (by decide)) (fun z => ?_) (fun z => nn_i ?_)
    · exact rec2 v4 (Int.le_refl _) (fun p => absurd p (by omega))
    · refine w_e W1 h6 (by omega) (fun y2 e2 => ?_)
      rw [F.2.1 k (by omega)] at e2
      refine cle32 rfl e2 (fun z2 => ?_) (fun z2 => ?_)
      · exact rec2 v4 (Int.le_refl _) (fun _ => z2)
      · refine w_e W1 h6 (by omega) (fun y3 e3 => ?_)
        rw [F.2.1 k (by omega)] at e3
        exact rec2 y3 (by omega) (fun _ => by omega)
theorem lens_out (g : GD S tb M) (F : EF S E) (hs : S 38 0 19 = 4) : ∀ (m k n : Nat) (h : gH) (v2 : Int32), k + m = 4 → m < n → v2.toInt = (k : Int) → WD t0 x ea S M O E h → (∀ h' : gH, WD t0 x ea S M O E h' → Qn 1 h') → vL_lengthsFit_b2 t0 Qn n h (some x) (some ea) v2
  | _, _, 0, _, _, _, hn, _, _, _ => absurd hn (Nat.not_lt_zero _)
  | 0, k, n + 1, h, v2, e, hn, h2, W, K => by
    show vL_lengthsFit_b2_o t0 (vL_lengthsFit_b2 t0 Qn n) Qn _ _ _ _
    unfold vL_lengthsFit_b2_o
    exact cle32 (vl (by decide)) h2 (fun _ => K h W) (fun z => absurd z (by omega))
  | m + 1, k, n + 1, h, v2, e, hn, h2, W, K => by
    show vL_lengthsFit_b2_o t0 (vL_lengthsFit_b2 t0 Qn n) Qn _ _ _ _
    unfold vL_lengthsFit_b2_o
    refine cle32 (vl (by decide)) h2 (fun z => absurd z (by omega)) (fun _ => ?_)
    exact lens_in g F (s := k) (by omega) h2 (fun h' W' => lens_out g F hs m (k + 1) n h' _ (by omega) (by omega) (inc1 h2 (by omega)) W' K) 4 0 5 h 0 1000 0 0 rfl (by decide) (by decide) (show (0 : Int32).toInt = (0 : Int) by decide) (fun c hc => absurd hc (Nat.not_lt_zero c)) W
theorem w_lens (W : WD t0 x ea S M O E h) (g : GD S tb M) (F : EF S E) (hs : S 38 0 19 = 4) (K : ∀ h' : gH, WD t0 x ea S M O E h' → Qn 1 h') : vL_lengthsFit t0 Qn h (some x) (some ea) := by
  unfold vL_lengthsFit
  exact lens_out g F hs 4 0 5 h 0 rfl (by decide) (by decide) W K
end HLP
