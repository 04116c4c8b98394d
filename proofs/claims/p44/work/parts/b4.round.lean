/-! ===== the law's rounds ===== -/
theorem and_pos (x : Int32) : 0 ≤ (x &&& 2147483647).toInt := by
  rw [pk_and x 31 (by decide)]
  have h : x.toBitVec.toNat % 2 ^ 31 < 2147483648 := Nat.mod_lt _ (by decide)
  generalize x.toBitVec.toNat % 2 ^ 31 = j at h ⊢
  have e : (nI j).toInt = (j : Int) := Int32.toInt_ofNat_of_lt h
  rw [e]
  exact Int.natCast_nonneg j
theorem and_one (x : Int32) : ∃ r : Nat, r < 2 ∧ (x &&& 1).toInt = (r : Int) := by
  rw [pk_and x 1 (by decide)]
  have h : x.toBitVec.toNat % 2 ^ 1 < 2 := Nat.mod_lt _ (by decide)
  generalize x.toBitVec.toNat % 2 ^ 1 = j at h ⊢
  exact ⟨j, h, Int32.toInt_ofNat_of_lt (Nat.lt_trans h (by decide))⟩
theorem low_in {x n : Int32} {X c : Int} (hx : x.toInt = X) (h0 : 0 ≤ X) (hn : n.toInt = c) (hc : 0 < c) : 0 ≤ (x - x / n * n).toInt ∧ (x - x / n * n).toInt < c := by
  have hX : X < 2147483648 := by have := Int32.toInt_lt x; omega
  have h1 : (x / n).toInt = X / c := div_ti hx hn h0 hc
  have m1 := Int.emod_nonneg X (show c ≠ 0 by omega)
  have m2 := Int.emod_lt_of_pos X hc
  have m3 : X % c = X - X / c * c := by rw [Int.emod_def, Int.mul_comm]
  have m4 : 0 ≤ X / c * c := Int.mul_nonneg (Int.ediv_nonneg h0 (Int.le_of_lt hc)) (Int.le_of_lt hc)
  have h2 : (x / n * n).toInt = X / c * c := mul_ti h1 hn (by omega)
  have h3 : (x - x / n * n).toInt = X - X / c * c := sub_ti hx h2 (by omega)
  rw [h3, ← m3]
  exact ⟨m1, m2⟩
/-- what stands of all that was added, once the law has built it -/
def LSt (S : dC) (E : Nat → Int) : Prop := SI S ∧ EF S E ∧ S 38 0 19 = 4 ∧ S 38 0 3 = 3 ∧ (S 42 0 0 = 0 ∧ S 42 0 1 = 1 ∧ S 42 0 2 = 2) ∧ (S 38 0 14 = 6 ∧ S 49 0 0 = 0 ∧ S 49 0 5 = -1 ∧ 0 < S 51 0 5 ∧ S 53 0 25 = -100)
section RND
variable {h h' : gH} {S : dC} {M Mb : dM} {O : Nat → Option dM} {E : Nat → Int} {tb : Int} {t0 x ea : Nat}
variable {Qn : Int32 → gH → Prop} {Ql : Int64 → gH → Prop} {v w : Int32}
theorem w_low {c : Int} {n : Int32} (hn : n.toInt = c) (hc : 0 < c) (K : ∀ y : Int32, 0 ≤ y.toInt → y.toInt < c → Qn y h) : vL_low t0 Qn h v n := by
  unfold vL_low
  have b := low_in (x := v &&& 2147483647) rfl (and_pos v) hn hc
  refine ⟨fun z => ?_, K _ b.1 b.2⟩
  rw [z] at hn
  have : (0 : Int) = c := hn
  omega
theorem GD.tk (g : GD S tb M) (n : Nat) (h1 : tb + n ≤ 90000) (h2 : M 287 + n ≤ 800000) : GD S (tb + n) (tcks S n M) := by
  have e := tcks_287 g.1 g.2.2.2.1 n tb M g.2.1
  have g6 := g.2.2.2.2.2.1
  exact ⟨g.1, MI_tcks g.1 g.2.2.2.1 n tb M g.2.1, FZ_tcks g.1 g.2.2.2.1 n tb M g.2.1 g.2.2.1, g.2.2.2.1, h1, by omega, by omega⟩
theorem GD.par (g : GD S tb M) {p : Nat} {v : Int} (hp : p < 8) (hv : -100 ≤ v ∧ v ≤ 100) : GD S tb (um M p v) := by
  have j4 := g.2.1.cu
  have j6 := g.2.1.fm
  have e : um M p v 287 = M 287 := um_n _ _ (by omega)
  refine ⟨g.1, g.2.1.cong (fun f h1 h2 => um_n _ _ (by omega)) (fun q hq => ?_), g.2.2.1.cong (by omega) (fun f h1 h2 => um_n _ _ (by omega)), g.2.2.2.1, g.2.2.2.2.1, by rw [e]; exact g.2.2.2.2.2.1, by rw [e]; exact g.2.2.2.2.2.2⟩
  by_cases z : q = p
  · rw [z, um_s]; exact hv
  · rw [um_n _ _ z]; exact g.2.1.va q hq
theorem rnd_in (L : LSt S E) (g : GD S tb Mb) (ht : tb + 100 ≤ 90000) (h287 : Mb 287 + 100 ≤ 800000) {r1 : Nat} (ho : O r1 = some Mb) (hr1 : r1 < 2) {a b to : Nat} (ha : 1 ≤ a ∧ a ≤ 6) (hb : 1 ≤ b ∧ b ≤ 6) {k65 : gH → Option Nat → Option Nat → Int32 → Int32 → Prop} {v3 v4 v6 v7 v8 v12 v13 v14 : Int32} {v15 : Int64} (e4 : (v4 &&& 1).toInt = (r1 : Int)) (e6 : v6.toInt = (a : Int)) (e7 : v7.toInt = (b : Int)) (e8 : v8.toInt = (to : Int)) (e12 : v12.toInt = tto S (to : Int) 101 0 Mb) (e13 : v13.toInt = tcks S a Mb 288 - Mb 288) (e14 : v14.toInt = tcks S b (tcks S a Mb) 288 - tcks S a Mb 288) (e15 : v15 = taleV S (tcks S (a + b) Mb)) (K : ∀ h' : gH, WD t0 x ea S (tcks S (a + b) Mb) O E h' → k65 h' (some x) (some ea) v3 (v4 + 1)) :
  ∀ (m k n : Nat) (h : gH) (v17 : Int32), k + m = a + b → m < n → v17.toInt = (k : Int) → WD t0 x ea S (tcks S k Mb) O E h → vL_law_b305 t0 k65 Qn n h (some x) (some ea) v3 v4 v6 v7 v8 v12 v13 v14 v15 v17
  | _, _, 0, _, _, _, hn, _, _ => absurd hn (Nat.not_lt_zero _)
  | 0, k, n + 1, h, v17, e, hn, h17, W => by
    have L3 : 3 ≤ S 38 0 3 := by have := L.2.2.2.1; omega
    have e67 : (v6 + v7).toInt = ((a + b : Nat) : Int) := (add_ti e6 e7 (by omega)).trans (by omega)
    have gk := g.tk (a + b) (by omega) (by omega)
    have g1 := g.tk a (by omega) (by omega)
    have f0 := g.2.1.fi
    have f1 := g1.2.1.fi
    have f2 := gk.2.1.fi
    have ek : k = a + b := by omega
    rw [ek] at W
    have e34 : (v13 + v14).toInt = tcks S (a + b) Mb 288 - Mb 288 := by
      rw [tcks_add] at f2 ⊢
      exact (add_ti e13 e14 (by omega)).trans (by omega)
    have fin : vL_law_b388 t0 k65 Qn h (some x) (some ea) v3 v4 v6 v7 v13 v14 v15 := by
      unfold vL_law_b388
      refine w_tale W gk L3 (fun h1 W1 => ⟨fun _ => nn_i (w_restore W1 e4 hr1 ho (fun y h2 W2 _ => w_tick W2 g e67 (by omega) (by omega) (fun y3 h3 W3 e3 => ?_))), fun c => absurd e15.symm c⟩)
      refine cne32 e3 e34 (fun z => absurd rfl z) (fun _ => w_tale W3 gk L3 (fun h4 W4 => ⟨fun _ => K h4 W4, fun c => absurd e15.symm c⟩))
    show vL_law_b305_o t0 k65 (vL_law_b305 t0 k65 Qn n) Qn _ _ _ _ _ _ _ _ _ _ _ _ _
    unfold vL_law_b305_o
    exact cle32 e67 h17 (fun _ => fin) (fun z => absurd z (by omega))
  | m + 1, k, n + 1, h, v17, e, hn, h17, W => by
    have e67 : (v6 + v7).toInt = ((a + b : Nat) : Int) := (add_ti e6 e7 (by omega)).trans (by omega)
    have gk := g.tk k (by omega) (by omega)
    have jm := gk.2.1.mi
    have ff := tto_fits (S := S) (s := (to : Int)) (M := Mb) (n := k) (by omega)
    have next : vL_law_b376 t0 k65 (vL_law_b305 t0 k65 Qn n) Qn h (some x) (some ea) v3 v4 v6 v7 v8 v12 v13 v14 v15 v17 := by
      unfold vL_law_b376
      refine nn_i (w_tick W gk (n := 1) (by decide) (Nat.le_refl 1) (by decide) (fun y h1 W1 _ => ?_))
      rw [← tcks_add] at W1
      exact rnd_in L g ht h287 ho hr1 ha hb e4 e6 e7 e8 e12 e13 e14 e15 K m (k + 1) n h1 _ (by omega) (by omega) (inc1 h17 (by omega)) W1
    have key : ∀ s0 : Int32, ((s0.toInt = 1 ∧ idS (tcks S k Mb) (to : Int)) ∨ (s0.toInt = 0 ∧ ¬ idS (tcks S k Mb) (to : Int))) → vL_law_b343 t0 k65 (vL_law_b305 t0 k65 Qn n) Qn h (some x) (some ea) v3 v4 v6 v7 v8 v12 v13 v14 v15 v17 s0 := fun s0 hs => by
      unfold vL_law_b343 vL_law_b359 vL_law_b374
      generalize tto S (to : Int) 101 0 Mb = q at e12 ff
      refine cne32 e12 h17 (fun z => ?_) (fun z => ?_)
      · refine ceq32 (y := 0) (x := s0.toInt) rfl (vl (by decide)) (fun _ => next) (fun z0 => ?_)
        have i1 : idS (tcks S k Mb) (to : Int) := by
          rcases hs with y | y
          · exact y.2
          · exact absurd y.1 z0
        refine clt32 e12 (vl (by decide)) (fun z1 => absurd ((ff (Or.inl z1)).mp i1) z) (fun z1 => ?_)
        refine clt32 e12 h17 (fun _ => next) (fun z2 => absurd ((ff (Or.inr (by omega))).mp i1) z)
      · refine ceq32 (y := 1) (x := s0.toInt) rfl (vl (by decide)) (fun _ => next) (fun z0 => ?_)
        rcases hs with y | y
        · exact absurd y.1 z0
        · exact absurd ((ff (Or.inr (by omega))).mpr z) y.2
    show vL_law_b305_o t0 k65 (vL_law_b305 t0 k65 Qn n) Qn _ _ _ _ _ _ _ _ _ _ _ _ _
    unfold vL_law_b305_o vL_law_b342
    refine cle32 e67 h17 (fun z => absurd z (by omega)) (fun _ => ?_)
    refine cle32 (vl (by decide)) h17 (fun z => absurd z (by omega)) (fun _ => nn_i (w_target W gk.2.1 (fun y hy => ?_)))
    rcases jm with z | z
    · rw [if_neg (by omega)] at hy
      refine cle32 (vl (by decide)) hy (fun c => absurd c (by decide)) (fun _ => w_state W gk (fun y2 h2 => ?_))
      refine cne32 h2 e8 (fun c => key 0 (Or.inr ⟨by decide, fun q => c q.2⟩)) (fun c => key 1 (Or.inl ⟨by decide, z, c⟩))
    · rw [if_pos z] at hy
      have jb := gk.2.1.sb z
      refine cle32 (vl (by decide)) hy (fun _ => key 0 (Or.inr ⟨by decide, fun q => ?_⟩)) (fun c => absurd jb.1 c)
      have := q.1
      omega
/-! calls that throw change nothing -/
theorem w_tickbad (W : WD t0 x ea S M O E h) (g : GD S tb M) (hv : v.toInt < 1 ∨ 100 < v.toInt) (k0 : Qn (-1) h) : vL_tick t0 Qn h x v := by
  obtain ⟨A, N, zz, C, P, ⟨rfl, rfl, rfl⟩, R, K, J, e, sl⟩ := W
  have gt := g.2.2.2.2.1
  have g6 := g.2.2.2.2.2.1
  have g7 := g.2.2.2.2.2.2
  unfold vL_tick
  exact wio R a00 rfl (by decide) (q_tick (Z0 R K J) g.1 g.2.1 (by omega) (by omega) (fun _ => Or.inl ⟨rfl, k0⟩) (fun _ _ _ => by exfalso; omega) (fun _ _ _ y h' C' P' Z hy => by exfalso; omega))
theorem w_tick0 (W : WD t0 x ea S M O E h) (I : SI S) (J0 : MI S tb M) (ht : tb ≤ 90000) (h287 : M 287 = 0) (hn : S 38 0 19 = 0) (hv : 1 ≤ v.toInt ∧ v.toInt ≤ 100) (k0 : Qn (-2) h) : vL_tick t0 Qn h x v := by
  obtain ⟨A, N, zz, C, P, ⟨rfl, rfl, rfl⟩, R, K, J, e, sl⟩ := W
  unfold vL_tick
  exact wio R a00 rfl (by decide) (q_tick (Z0 R K J) I J0 (by omega) (by omega) (fun _ => by exfalso; omega) (fun _ _ _ => Or.inr ⟨rfl, k0⟩) (fun _ _ _ y h' C' P' Z hy => by exfalso; omega))
theorem w_ast1 (W : WD t0 x ea S M O E h) (I : SI S) (hv : v.toInt < 0 ∨ S 38 0 14 ≤ v.toInt) (k0 : Qn (-1) h) : vL_addState t0 Qn h x v w := by
  obtain ⟨A, N, zz, C, P, ⟨rfl, rfl, rfl⟩, R, K, J, e, sl⟩ := W
  have i1 := I.ns
  unfold vL_addState
  exact wio R a00 rfl (by decide) (q_addState (n := (S 38 0 19).toNat) R K rfl (by omega) (by omega) (Or.inr (by decide)) (fun _ => Or.inl ⟨rfl, k0⟩) (fun _ _ _ => by exfalso; omega) (fun _ _ _ _ _ _ _ => by exfalso; omega) (fun _ _ _ _ _ _ _ _ _ _ _ _ _ _ _ _ _ _ _ _ _ => by exfalso; omega))
theorem w_ast2 (W : WD t0 x ea S M O E h) (I : SI S) (hv : 0 ≤ v.toInt ∧ v.toInt < S 38 0 14) (hw : w.toInt < 1 ∨ 400 < w.toInt) (k0 : Qn (-2) h) : vL_addState t0 Qn h x v w := by
  obtain ⟨A, N, zz, C, P, ⟨rfl, rfl, rfl⟩, R, K, J, e, sl⟩ := W
  have i1 := I.ns
  unfold vL_addState
  exact wio R a00 rfl (by decide) (q_addState (n := (S 38 0 19).toNat) R K rfl (by omega) (by omega) (Or.inr (by decide)) (fun _ => by exfalso; omega) (fun _ _ _ => Or.inr (Or.inl ⟨rfl, k0⟩)) (fun _ _ _ _ _ _ _ => by exfalso; omega) (fun _ _ _ _ _ _ _ _ _ _ _ _ _ _ _ _ _ _ _ _ _ => by exfalso; omega))
theorem w_atr1 {u : Int32} (W : WD t0 x ea S M O E h) (I : SI S) (hv : v.toInt ≠ -1 ∧ (v.toInt < 0 ∨ S 38 0 19 ≤ v.toInt)) (k0 : Qn (-1) h) : vL_addTransition t0 Qn h x v w u := by
  obtain ⟨A, N, zz, C, P, ⟨rfl, rfl, rfl⟩, R, K, J, e, sl⟩ := W
  have i1 := I.nt
  unfold vL_addTransition
  exact wio R a00 rfl (by decide) (q_addTransition (n := (S 38 0 21).toNat) R K rfl (by omega) (fun _ => Or.inl ⟨rfl, k0⟩) (fun _ _ _ _ _ => by exfalso; omega) (fun _ _ _ _ _ _ _ => by exfalso; omega) (fun _ _ _ _ _ _ _ _ _ _ _ _ _ _ _ _ _ _ => by exfalso; omega))
theorem w_atr2 {u : Int32} (W : WD t0 x ea S M O E h) (I : SI S) (hv : 0 ≤ v.toInt ∧ v.toInt < S 38 0 19) (hw : 0 ≤ w.toInt ∧ w.toInt < S 38 0 19) (hu : u.toInt < 0 ∨ 60 < u.toInt) (k0 : Qn (-2) h) : vL_addTransition t0 Qn h x v w u := by
  obtain ⟨A, N, zz, C, P, ⟨rfl, rfl, rfl⟩, R, K, J, e, sl⟩ := W
  have i1 := I.nt
  unfold vL_addTransition
  exact wio R a00 rfl (by decide) (q_addTransition (n := (S 38 0 21).toNat) R K rfl (by omega) (fun _ => by exfalso; omega) (fun _ _ _ _ _ => Or.inr (Or.inl ⟨rfl, k0⟩)) (fun _ _ _ _ _ _ _ => by exfalso; omega) (fun _ _ _ _ _ _ _ _ _ _ _ _ _ _ _ _ _ _ => by exfalso; omega))
theorem w_ach1 {u : Int32} (W : WD t0 x ea S M O E h) (I : SI S) (hv : v.toInt < 0 ∨ S 38 0 14 ≤ v.toInt) (k0 : Qn (-1) h) : vL_addChild t0 Qn h x v w u := by
  obtain ⟨A, N, zz, C, P, ⟨rfl, rfl, rfl⟩, R, K, J, e, sl⟩ := W
  unfold vL_addChild
  exact wio R a00 rfl (by decide) (q_addChild R K I rfl (fun _ => Or.inl ⟨rfl, k0⟩) (fun _ _ _ _ _ => by exfalso; omega) (fun _ _ _ _ _ _ _ _ _ _ _ _ => by exfalso; omega) (fun _ _ _ _ _ _ _ _ _ _ _ _ _ _ _ _ _ _ _ _ _ _ _ => by exfalso; omega))
theorem w_ach2 {u : Int32} {n m : Nat} (W : WD t0 x ea S M O E h) (I : SI S) (hv : v.toInt = (n : Int)) (hn : (n : Int) < S 38 0 14) (hw : w.toInt = (m : Int)) (hm : (m : Int) < S 38 0 14) (hb : S 49 0 n ≠ -1 ∨ n ≤ m) (k0 : Qn (-2) h) : vL_addChild t0 Qn h x v w u := by
  obtain ⟨A, N, zz, C, P, ⟨rfl, rfl, rfl⟩, R, K, J, e, sl⟩ := W
  have en : v.toInt.toNat = n := by rw [hv]; rfl
  unfold vL_addChild
  refine wio R a00 rfl (by decide) (q_addChild R K I rfl (fun _ => by exfalso; omega) (fun _ _ _ _ _ => Or.inr (Or.inl ⟨rfl, k0⟩)) (fun _ _ _ z1 z2 _ _ _ _ _ _ _ => ?_) (fun _ _ _ z1 z2 _ _ _ _ _ _ _ _ _ _ _ _ _ _ _ _ _ _ => ?_))
  · rw [en] at z1; exfalso; omega
  · rw [en] at z1; exfalso; omega
/-- the line has a child at this position -/
theorem w_ach3 {u : Int32} {n m k : Nat} (W : WD t0 x ea S M O E h) (I : SI S) (hv : v.toInt = (n : Int)) (hn : (n : Int) < S 38 0 14) (hw : w.toInt = (m : Int)) (hm : m < n) (hl : S 49 0 n = -1) (hk : (k : Int) < S 51 0 n) (hu : S 53 0 (5 * n + k) = u.toInt) (hr : -100 ≤ u.toInt ∧ u.toInt ≤ 100) (k0 : ∀ h' : gH, WD t0 x ea S M O E h' → Qn (-3) h') : vL_addChild t0 Qn h x v w u := by
  obtain ⟨A, N, zz, C, P, a, R, K, J, e, sl⟩ := W
  rw [← a.1, ← a.2.1]
  have en : v.toInt.toNat = n := by rw [hv]; rfl
  unfold vL_addChild
  refine wio R a00 rfl (by decide) (q_addChild R K I rfl (fun _ => by exfalso; omega) (fun _ _ _ _ z => ?_) (fun _ _ _ _ _ _ _ _ h' C' R' fr => Or.inr (Or.inr ⟨rfl, k0 h' ⟨A, N, zz, C', P, a, R', K.dep fr, J.keep (fun j i f z => fr j i f (by omega)) (fun _ _ _ => rfl), fun f => (fr 90 0 f (by omega)).trans (e f), fun s hs => ?_⟩⟩)) (fun _ _ _ _ _ _ _ _ np _ _ _ _ _ _ _ _ _ _ _ _ _ _ => ?_))
  · rw [en] at z; exfalso; omega
  · have I0 := sl s hs
    have e2 : C' 2 0 s = C 2 0 s := fr 2 0 s (by omega)
    cases ho : O s with
    | none => rw [ho] at I0; exact e2.trans I0
    | some m => rw [ho] at I0; exact ⟨e2.trans I0.1, I0.2.1.keep (fun j i f z => fr j i f (by omega)) (fun _ _ _ => rfl), I0.2.2⟩
  · rw [en] at np
    exact absurd hu (np k hk)
/-- the start again -/
def rsM : dM := fun f => if f = 15 then 1 else 0
theorem MI_rs {S : dC} (hn : 0 < S 38 0 19) : MI S 0 rsM :=
  ⟨fun p hp => by have e : rsM p = 0 := if_neg (by omega); rw [e]; decide, Or.inl rfl, by decide, ⟨by decide, fun _ => hn, fun z => by omega⟩, by decide, fun _ => rfl, Or.inr rfl, Or.inl rfl, fun _ => ⟨rfl, rfl, rfl⟩, fun z => absurd z (by decide), fun z => absurd z (by decide), fun z => absurd z (by decide), fun z => absurd z (by decide), fun z => absurd z (by decide), fun z => absurd z (by decide), by decide, fun k hk => by have hk : (k : Int) < 0 := hk; exfalso; omega, fun z => absurd z (by decide), by decide, by decide, by decide⟩
theorem w_reset (W : WD t0 x ea S M O E h) (k0 : ∀ (y : Int32) (h' : gH), WD t0 x ea S rsM O E h' → y.toInt = M 287 → Qn y h') : io h x 14 (vX11_reset t0 Qn h x) := by
  obtain ⟨A, N, zz, C, P, a, R, K, J, e, sl⟩ := W
  rw [← a.1, ← a.2.1]
  exact wio R a00 rfl (by decide) (q_reset (Z0 R K J) (fun y h' C' P' Z hy => k0 y h' (WD.run a e sl (Z rsM (fun p hp => if_neg (by omega)) rfl rfl rfl rfl rfl rfl rfl rfl rfl)) hy))
theorem w_end (L : LSt S E) (g : GD S tb M) (W : WD t0 x ea S M O E h) (K : ∀ h' : gH, Qn 1 h') {k65 : gH → Option Nat → Option Nat → Int32 → Int32 → Prop} {v3 v4 : Int32} {a b : Int} (h3 : v3.toInt = a) (h4 : v4.toInt = b) (hab : a ≤ b) : vL_law_b65_o t0 k65 Qn h (some x) (some ea) v3 v4 := by
  have L3 : 3 ≤ S 38 0 3 := by have := L.2.2.2.1; omega
  obtain ⟨n6, n0, n5, m5, p5⟩ := L.2.2.2.2.2
  have ns := L.2.2.1
  unfold vL_law_b65_o
  refine cle32 h3 h4 (fun _ => ?_) (fun z => absurd hab z)
  refine w_tale W g L3 (fun h1 W => nn_i ?_)
  refine w_tickbad W g (Or.inl (by decide)) ⟨fun c => absurd rfl c, fun _ => ?_⟩
  refine w_tickbad W g (Or.inr (by decide)) ⟨fun c => absurd rfl c, fun _ => ?_⟩
  refine w_ast1 W g.1 (Or.inr (by rw [n6]; decide)) ⟨fun c => absurd rfl c, fun _ => ?_⟩
  refine w_ast2 W g.1 ⟨by decide, by rw [n6]; decide⟩ (Or.inr (by decide)) ⟨fun c => absurd rfl c, fun _ => ?_⟩
  refine w_atr1 W g.1 ⟨by decide, Or.inl (by decide)⟩ ⟨fun c => absurd rfl c, fun _ => ?_⟩
  refine w_atr2 W g.1 ⟨by decide, by rw [ns]; decide⟩ ⟨by decide, by rw [ns]; decide⟩ (Or.inr (by decide)) ⟨fun _ => ?_, fun c => absurd rfl c⟩
  refine w_ach2 (n := 0) (m := 0) W g.1 (by decide) (by rw [n6]; decide) (by decide) (by rw [n6]; decide) (Or.inl (by rw [n0]; decide)) ⟨fun c => absurd rfl c, fun _ => ?_⟩
  refine w_ach2 (n := 5) (m := 5) W g.1 (by decide) (by rw [n6]; decide) (by decide) (by rw [n6]; decide) (Or.inr (Nat.le_refl 5)) ⟨fun c => absurd rfl c, fun _ => ?_⟩
  refine w_ach3 (n := 5) (m := 0) (k := 0) W g.1 (by decide) (by rw [n6]; decide) (by decide) (by decide) n5 m5 (p5.trans (by decide)) (by decide) (fun h2 W => ⟨fun c => absurd rfl c, fun _ => ?_⟩)
  refine w_ach1 W g.1 (Or.inr (by rw [n6]; decide)) ⟨fun c => absurd rfl c, fun _ => ?_⟩
  refine w_tale W g L3 (fun h3 W => ⟨fun _ => ?_, fun c => absurd rfl c⟩)
  refine w_count5 W g.2.1 (by decide) (fun y1 e1 => w_reset W (fun y2 h4 W e2 => ?_))
  have J := MI_rs g.2.2.2.1
  have g2 : GD S 0 rsM := ⟨g.1, J, FZ.no (by decide), g.2.2.2.1, by decide, by decide, by decide⟩
  refine cne32 e2 e1 (fun c => absurd rfl c) (fun _ => w_count5 W J (by decide) (fun y3 e3 => ?_))
  refine cne32 e3 (vl (by decide)) (fun c => absurd (by decide) c) (fun _ => w_fired W (fun y4 e4 => ?_))
  refine cne32 e4 (vl (by decide)) (fun c => absurd (by decide) c) (fun _ => w_state W g2 (fun y5 e5 => ?_))
  refine cne32 e5 (vl (by decide)) (fun c => absurd (by decide) c) (fun _ => w_target W J (fun y6 e6 => ?_))
  refine cne32 e6 (show (-1 : Int32).toInt = -1 by decide) (fun c => absurd (if_neg (by decide)) c) (fun _ => w_prog0 W g2 (by decide) (fun y7 e7 => ?_))
  refine cne64 e7 (vlL (by decide)) (fun c => absurd (by decide) c) (fun _ => w_value (n := 0) W g.1 (by decide) (by have := L.2.2.2.1; omega) (fun y8 e8 => ?_))
  refine cne32 e8 (vl (by decide)) (fun c => absurd (by decide) c) (fun _ => ?_)
  unfold vL_law_b650
  exact K h4
/-- one round -/
theorem one_round (L : LSt S E) {v3 v4 : Int32} {R k : Nat} {k65 : gH → Option Nat → Option Nat → Int32 → Int32 → Prop} (h3 : v3.toInt = (R : Int)) (hR : R ≤ 6) (h4 : v4.toInt = (k : Int)) (hkR : k < R) (g : GD S (100 * (k : Int)) M) (g7 : M 287 ≤ 100 * (k : Int)) (W : WD t0 x ea S M O E h) (K : ∀ (h' : gH) (M' : dM) (O' : Nat → Option dM), GD S (100 * ((k + 1 : Nat) : Int)) M' → M' 287 ≤ 100 * ((k + 1 : Nat) : Int) → WD t0 x ea S M' O' E h' → k65 h' (some x) (some ea) v3 (v4 + 1)) : vL_law_b65_o t0 k65 Qn h (some x) (some ea) v3 v4 := by
  have L3 : 3 ≤ S 38 0 3 := by have := L.2.2.2.1; omega
  have n3 := L.2.2.2.1
  have ns := L.2.2.1
  obtain ⟨q0, q1, q2⟩ := L.2.2.2.2.1
  unfold vL_law_b65_o
  refine cle32 h3 h4 (fun z => absurd hkR (by omega)) (fun _ => ?_)
  have e21 : (21 + v4).toInt = 21 + (k : Int) := add_ti (vl (by decide)) h4 (by omega)
  unfold vL_cell
  refine ⟨by rw [e21]; omega, fun z => ?_⟩
  refine w_low (c := 201) (vl (by decide)) (by decide) (fun y0 a0 b0 => nn_i ?_)
  have e0 : (y0 - 100).toInt = y0.toInt - 100 := sub_ti rfl (vl (by decide)) (by omega)
  refine w_set (n := 0) W g.1 g.2.1 (by decide) (by omega) (fun _ => by rw [e0]; omega) (fun c => absurd q0 c) (fun _ h1 W => ?_)
  have g := g.par (p := 0) (v := (y0 - 100).toInt) (by decide) (by rw [e0]; omega)
  have g7 : um M 0 (y0 - 100).toInt 287 ≤ 100 * (k : Int) := by rw [um_n _ _ (show (287 : Nat) ≠ 0 by decide)]; exact g7
  generalize um M 0 (y0 - 100).toInt = M at W g g7
  obtain ⟨r, hr, er⟩ := and_one (z >>> (8 &&& 31))
  refine w_set (n := 1) W g.1 g.2.1 (by decide) (by omega) (fun c => absurd (q1.symm.trans c) (by decide)) (fun _ => by rw [er]; omega) (fun _ h2 W => ?_)
  have g := g.par (p := 1) (v := ((z >>> (8 &&& 31)) &&& 1).toInt) (by decide) (by rw [er]; omega)
  have g7 : um M 1 ((z >>> (8 &&& 31)) &&& 1).toInt 287 ≤ 100 * (k : Int) := by rw [um_n _ _ (show (287 : Nat) ≠ 1 by decide)]; exact g7
  generalize um M 1 ((z >>> (8 &&& 31)) &&& 1).toInt = M at W g g7
  clear er
  obtain ⟨r, hr, er⟩ := and_one (z >>> (9 &&& 31))
  refine w_set (n := 2) W g.1 g.2.1 (by decide) (by omega) (fun c => absurd (q2.symm.trans c) (by decide)) (fun _ => by rw [er]; omega) (fun _ h3' W => ?_)
  have g := g.par (p := 2) (v := ((z >>> (9 &&& 31)) &&& 1).toInt) (by decide) (by rw [er]; omega)
  have g7 : um M 2 ((z >>> (9 &&& 31)) &&& 1).toInt 287 ≤ 100 * (k : Int) := by rw [um_n _ _ (show (287 : Nat) ≠ 2 by decide)]; exact g7
  generalize um M 2 ((z >>> (9 &&& 31)) &&& 1).toInt = M at W g g7
  clear er
  refine w_lens W g L.2.1 ns (fun h4' W => ⟨fun c => absurd c (by decide), fun _ => ?_⟩)
  refine w_fits W g L.2.1 (fun h5 W => ⟨fun _ => ?_, fun c => absurd c (by decide)⟩)
  refine w_low (c := 6) (vl (by decide)) (by decide) (fun ya a1 a2 => ?_)
  refine w_low (c := 6) (vl (by decide)) (by decide) (fun yb b1 b2 => ?_)
  refine w_low (c := 4) (vl (by decide)) (by decide) (fun yt t1 t2 => ?_)
  obtain ⟨a, ea_⟩ : ∃ a : Nat, 1 + ya.toInt = (a : Int) := ⟨(1 + ya.toInt).toNat, by omega⟩
  obtain ⟨b, eb_⟩ : ∃ b : Nat, 1 + yb.toInt = (b : Int) := ⟨(1 + yb.toInt).toNat, by omega⟩
  obtain ⟨to, et_⟩ : ∃ b : Nat, yt.toInt = (b : Int) := ⟨yt.toInt.toNat, by omega⟩
  have e6 : (1 + ya).toInt = (a : Int) := (add_ti (vl (by decide)) rfl (by omega)).trans ea_
  have e7 : (1 + yb).toInt = (b : Int) := (add_ti (vl (by decide)) rfl (by omega)).trans eb_
  have e67 : ((1 + ya) + (1 + yb)).toInt = ((a + b : Nat) : Int) := (add_ti e6 e7 (by omega)).trans (by omega)
  have ha : 1 ≤ a ∧ a ≤ 6 := by omega
  have hb : 1 ≤ b ∧ b ≤ 6 := by omega
  have ht : to < 4 := by omega
  obtain ⟨r1, hr1, er1⟩ := and_one v4
  clear a0 b0 a1 a2 b1 b2 t1 t2 ea_ eb_ hr e0
  have gab := g.tk (a + b) (by omega) (by omega)
  have ga := g.tk a (by omega) (by omega)
  refine w_tale W g L3 (fun h6 W => ?_)
  refine w_foretell W g e67 (by omega) (by omega) (fun yd h7 W ed => ?_)
  refine w_ticksTo W g et_ (by omega) (fun yw h8 W ew => ?_)
  refine w_tale W g L3 (fun h9 W => ⟨fun c => absurd rfl c, fun _ => ?_⟩)
  refine w_keep W g er1 hr1 (fun yk h10 W ek => ?_)
  refine w_count5 W g.2.1 (by decide) (fun yc ec => ?_)
  refine ceq32 ek ec (fun _ => ?_) (fun c => absurd rfl c)
  refine w_tick W g e6 (by omega) (by omega) (fun y13 h11 W e13 => ?_)
  refine w_tick W ga e7 (by omega) (by omega) (fun y14 h12 W e14 => ?_)
  rw [← tcks_add] at W
  refine w_tale W gab L3 (fun h13 W => ?_)
  refine w_place W gab (fun yp ep => ?_)
  refine cne32 ep ed (fun c => absurd rfl c) (fun _ => ?_)
  refine w_fits W gab L.2.1 (fun h14 W => ⟨fun c => absurd c (by decide), fun _ => ?_⟩)
  refine w_restore W er1 hr1 (m := M) (if_pos rfl) (fun yr h15 W er => ?_)
  refine w_count5 W g.2.1 (by decide) (fun yc2 ec2 => ?_)
  refine cne32 er ec2 (fun c => absurd rfl c) (fun _ => ?_)
  refine w_tale W g L3 (fun h16 W => ⟨fun _ => ?_, fun c => absurd rfl c⟩)
  have W0 : WD t0 x ea S (tcks S 0 M) (fun s => if s = r1 then some M else O s) E h16 := W
  refine rnd_in L g (by omega) (by omega) (r1 := r1) (if_pos rfl) hr1 ha hb er1 e6 e7 et_ ew e13 e14 rfl (fun h17 W => ?_) (a + b) 0 14 h16 0 (Nat.zero_add _) (by omega) (by decide) W0
  have s7 := tcks_287 g.1 g.2.2.2.1 (a + b) _ M g.2.1
  refine K h17 _ _ ⟨gab.1, @MI_up 0 S (100 * (k : Int) + ((a + b : Nat) : Int)) (100 * ((k + 1 : Nat) : Int)) _ gab.2.1 (by omega), gab.2.2.1, gab.2.2.2.1, by omega, gab.2.2.2.2.2.1, gab.2.2.2.2.2.2⟩ (by omega) W
/-- the rounds, and what follows them -/
theorem rounds (L : LSt S E) {v3 : Int32} {R : Nat} (h3 : v3.toInt = (R : Int)) (hR : R ≤ 6) (K : ∀ h' : gH, Qn 1 h') : ∀ (m k n : Nat) (h : gH) (v4 : Int32) (M : dM) (O : Nat → Option dM), k + m = R → m < n → v4.toInt = (k : Int) → GD S (100 * (k : Int)) M → M 287 ≤ 100 * (k : Int) → WD t0 x ea S M O E h → vL_law_b65 t0 Qn n h (some x) (some ea) v3 v4
  | _, _, 0, _, _, _, _, _, hn, _, _, _, _ => absurd hn (Nat.not_lt_zero _)
  | 0, k, n + 1, h, v4, M, O, e, hn, h4, g, g7, W => w_end (k65 := vL_law_b65 t0 Qn n) L g W K h3 h4 (by omega)
  | m + 1, k, n + 1, h, v4, M, O, e, hn, h4, g, g7, W => one_round (k65 := vL_law_b65 t0 Qn n) L h3 hR h4 (by omega) g g7 W (fun h' M' O' g' q W' => rounds L h3 hR K m (k + 1) n h' _ M' O' (by omega) (by omega) (inc1 h4 (by omega)) g' q W')
end RND
