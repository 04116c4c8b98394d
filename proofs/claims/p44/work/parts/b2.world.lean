/-! ===== the law's world: the class' tables, a machine's numbers, the images, the law's row ===== -/
def IMG (S : dC) (s : Nat) (o : Option dM) (C : dC) (P : dP) : Prop := match o with
  | none => C 2 0 s = 0
  | some m => C 2 0 s = 1 ∧ CP S (s + 1) (m 287) m C P ∧ m 21 ≤ 24 ∧ (m 20 = 0 ∨ m 20 = 1)
def WD (t0 x ea : Nat) (S : dC) (M : dM) (O : Nat → Option dM) (E : Nat → Int) (h : gH) : Prop := ∃ (A : dA) (N zz : Nat → Nat) (C : dC) (P : dP), (A 8 0 = t0 ∧ A 0 0 = x ∧ A 90 0 = ea) ∧ D h A N zz C P ∧ KS S N zz C P ∧ CP S 0 (M 287) M C P ∧ (∀ f, C 90 0 f = E f) ∧ (∀ s : Nat, s < 2 → IMG S s (O s) C P)
/-- what holds of a machine that runs -/
def GD (S : dC) (tb : Int) (M : dM) : Prop := SI S ∧ MI S tb M ∧ FZ S M ∧ 0 < S 38 0 19 ∧ tb ≤ 90000 ∧ 0 ≤ M 287 ∧ M 287 ≤ 800000
section WDS
variable {h h' : gH} {A : dA} {N zz : Nat → Nat} {S C C' : dC} {P P' : dP} {M M' : dM} {O : Nat → Option dM} {E : Nat → Int} {tb tq t' : Int} {t0 x ea k s : Nat}
theorem mP_two {k k' j i : Nat} (a : mP k j i) (b : mP k' j i) : k = k' := by
  obtain ⟨a1, a2, a3, a4⟩ := a
  obtain ⟨b1, b2, b3, b4⟩ := b
  by_cases z : j = 35
  · have := a3 z
    have := b3 z
    omega
  · have := a4 z
    have := b4 z
    omega
theorem CP.other {k2 : Nat} (J : CP S k2 tq M C P) (hk : k2 ≠ k) (F : Fm k C C') (G : FmP k P P') : CP S k2 tq M C' P' :=
  J.keep (fun j i f z => F j i f (fun q => hk (mP_two (show mP k2 j i by unfold mP; omega) q))) (fun j f z => G j k2 f (fun q => hk (mP_two (show mP k2 j k2 from mP_k (by omega)) q)))
theorem IMG.other {o : Option dM} (I : IMG S s o C P) (hk : s + 1 ≠ k) (F : Fm k C C') (G : FmP k P P') : IMG S s o C' P' := by
  have e : C' 2 0 s = C 2 0 s := F 2 0 s (fun q => by have := q.1; omega)
  cases o with
  | none => exact e.trans I
  | some m => exact ⟨e.trans I.1, I.2.1.other hk F G, I.2.2⟩
/-- the machine has run on -/
theorem WD.run (a : A 8 0 = t0 ∧ A 0 0 = x ∧ A 90 0 = ea) (e : ∀ f, C 90 0 f = E f) (sl : ∀ s : Nat, s < 2 → IMG S s (O s) C P) (Z : CQ h' A N zz S 0 (M' 287) C P C' P' M') : WD t0 x ea S M' O E h' :=
  ⟨A, N, zz, C', P', a, Z.1, Z.2.1, Z.2.2.1, fun f => (Z.2.2.2.1 90 0 f (fun q => by have := q.2.1; omega)).trans (e f), fun s hs => (sl s hs).other (by omega) Z.2.2.2.1 Z.2.2.2.2⟩
/-- the copy has run -/
theorem WD.fut (a : A 8 0 = t0 ∧ A 0 0 = x ∧ A 90 0 = ea) (J : CP S 0 (M 287) M C P) (e : ∀ f, C 90 0 f = E f) (sl : ∀ s : Nat, s < 2 → IMG S s (O s) C P) (Z : CQ h' A N zz S 3 t' C P C' P' M') : WD t0 x ea S M O E h' :=
  ⟨A, N, zz, C', P', a, Z.1, Z.2.1, J.other (by decide) Z.2.2.2.1 Z.2.2.2.2, fun f => (Z.2.2.2.1 90 0 f (fun q => by have := q.2.1; omega)).trans (e f), fun s hs => (sl s hs).other (by omega) Z.2.2.2.1 Z.2.2.2.2⟩
theorem Z0 (R : D h A N zz C P) (K : KS S N zz C P) (J : CP S 0 (M 287) M C P) : CQ h A N zz S 0 (M 287) C P C P M := ⟨R, K, J, Fm.rf _ _, FmP.rf _ _⟩
variable {Qn : Int32 → gH → Prop} {Ql : Int64 → gH → Prop} {Qx : String → gH → Prop} {v w : Int32}
theorem w_state (W : WD t0 x ea S M O E h) (g : GD S tb M) (k0 : ∀ y : Int32, y.toInt = M 12 → Qn y h) : io h x 14 (vX11_state t0 Qn Qx h x) := by
  obtain ⟨A, N, zz, C, P, ⟨rfl, rfl, rfl⟩, R, K, J, e, sl⟩ := W
  have gn := g.2.2.2.1
  exact wio R a00 rfl (by decide) (q_state (Z0 R K J) g.2.1 (fun z => absurd z (by omega)) (fun _ y hy => k0 y hy))
theorem w_target (W : WD t0 x ea S M O E h) (g : MI S tb M) (k0 : ∀ y : Int32, y.toInt = (if M 8 = 1 then M 16 else -1) → Qn y h) : io h x 14 (vX11_target t0 Qn h x) := by
  obtain ⟨A, N, zz, C, P, ⟨rfl, rfl, rfl⟩, R, K, J, e, sl⟩ := W
  exact wio R a00 rfl (by decide) (q_target (Z0 R K J) g k0)
theorem w_transition (W : WD t0 x ea S M O E h) (g : MI S tb M) (k0 : ∀ y : Int32, y.toInt = (if M 8 = 1 then M 9 else -1) → Qn y h) : io h x 14 (vX11_transition t0 Qn h x) := by
  obtain ⟨A, N, zz, C, P, ⟨rfl, rfl, rfl⟩, R, K, J, e, sl⟩ := W
  exact wio R a00 rfl (by decide) (q_transition (Z0 R K J) g k0)
theorem w_elapsed (W : WD t0 x ea S M O E h) (g : MI S tb M) (k0 : ∀ y : Int32, y.toInt = (if M 8 = 1 then M 10 else -1) → Qn y h) : io h x 14 (vX11_elapsed t0 Qn h x) := by
  obtain ⟨A, N, zz, C, P, ⟨rfl, rfl, rfl⟩, R, K, J, e, sl⟩ := W
  exact wio R a00 rfl (by decide) (q_elapsed (Z0 R K J) g k0)
theorem w_isFrozen (W : WD t0 x ea S M O E h) (g : MI S tb M) (k0 : ∀ y : Int32, y.toInt = M 20 → Qn y h) : io h x 14 (vX11_isFrozen t0 Qn h x) := by
  obtain ⟨A, N, zz, C, P, ⟨rfl, rfl, rfl⟩, R, K, J, e, sl⟩ := W
  exact wio R a00 rfl (by decide) (q_isFrozen (Z0 R K J) g k0)
theorem w_fired (W : WD t0 x ea S M O E h) (k0 : ∀ y : Int32, y.toInt = M 288 → Qn y h) : io h x 14 (vX11_fired t0 Qn h x) := by
  obtain ⟨A, N, zz, C, P, ⟨rfl, rfl, rfl⟩, R, K, J, e, sl⟩ := W
  exact wio R a00 rfl (by decide) (q_fired (Z0 R K J) k0)
/-- the progress of the only track, or the source -/
theorem w_prog0 (W : WD t0 x ea S M O E h) (g : GD S tb M) (hv : v.toInt = 0) (k0 : ∀ y : Int64, y.toInt = prg M 12 → Ql y h) : io h x 14 (vX11_progress t0 Ql Qx h x v) := by
  obtain ⟨A, N, zz, C, P, ⟨rfl, rfl, rfl⟩, R, K, J, e, sl⟩ := W
  have gn := g.2.2.2.1
  have gt := g.2.2.2.2.1
  exact wio R a00 rfl (by decide) (q_progress (Z0 R K J) g.2.1 (by omega) (fun z => absurd z (by omega)) (fun _ _ y hy => k0 y hy) (fun _ z => absurd hv z) (fun _ z => absurd hv z))
theorem w_prog1 (W : WD t0 x ea S M O E h) (g : GD S tb M) (hv : v.toInt = 1) (h8 : M 8 = 1) (k0 : ∀ y : Int64, y.toInt = prg M 16 → Ql y h) : io h x 14 (vX11_progress t0 Ql Qx h x v) := by
  obtain ⟨A, N, zz, C, P, ⟨rfl, rfl, rfl⟩, R, K, J, e, sl⟩ := W
  have gn := g.2.2.2.1
  have gt := g.2.2.2.2.1
  exact wio R a00 rfl (by decide) (q_progress (Z0 R K J) g.2.1 (by omega) (fun z => absurd z (by omega)) (fun _ z => absurd z (by omega)) (fun _ _ z => absurd z (by omega)) (fun _ _ _ y hy => k0 y hy))
theorem w_length (W : WD t0 x ea S M O E h) (g : GD S tb M) {n : Nat} (hv : v.toInt = (n : Int)) (hn : (n : Int) < S 38 0 19) (k0 : ∀ (y : Int32) (h' : gH), WD t0 x ea S M O E h' → y.toInt = lenS S M n → Qn y h') : io h x 14 (vX11_stateLength t0 Qn Qx h x v) := by
  obtain ⟨A, N, zz, C, P, a, R, K, J, e, sl⟩ := W
  rw [← a.1, ← a.2.1]
  refine wio R a00 rfl (by decide) (q_stateLength (Z0 R K J) g.1 g.2.1 (fun z => absurd z (by omega)) (fun _ _ y h' C' Z hy => k0 y h' (WD.run a e sl Z) ?_))
  rw [hy, hv]
  rfl
theorem w_part (W : WD t0 x ea S M O E h) (g : GD S tb M) {n c : Nat} (hv : v.toInt = (n : Int)) (hn : (n : Int) < S 38 0 19) (hw : w.toInt = (c : Int)) (hc : (c : Int) < S 38 0 8) (k0 : ∀ (y : Int32) (h' : gH), WD t0 x ea S M O E h' → y.toInt = bw S M n 1000000 c → Qn y h') : io h x 14 (vX11_partWeight t0 Qn Qx h x v w) := by
  obtain ⟨A, N, zz, C, P, a, R, K, J, e, sl⟩ := W
  rw [← a.1, ← a.2.1]
  refine wio R a00 rfl (by decide) (q_partWeight (Z0 R K J) g.1 g.2.1 (fun z => absurd z (by omega)) (fun _ _ _ _ y h' C' Z hy => k0 y h' (WD.run a e sl Z) ?_))
  rw [hy, hv, hw]
  rfl
theorem w_value (W : WD t0 x ea S M O E h) (I : SI S) {n : Nat} (hv : v.toInt = (n : Int)) (hn : (n : Int) < S 38 0 3) (k0 : ∀ y : Int32, y.toInt = M n → Qn y h) : io h x 14 (vX11_value t0 Qn Qx h x v) := by
  obtain ⟨A, N, zz, C, P, ⟨rfl, rfl, rfl⟩, R, K, J, e, sl⟩ := W
  refine wio R a00 rfl (by decide) (q_value (Z0 R K J) I (fun z => absurd z (by omega)) (fun _ _ y hy => k0 y ?_))
  rw [hy, hv]
  rfl
theorem w_size (W : WD t0 x ea S M O E h) (I : SI S) (g : MI S tb M) (k0 : ∀ (y : Int32) (h' : gH), WD t0 x ea S M O E h' → y.toInt = ((qpose S M).1 : Int) → Qn y h') : io h x 14 (vX11_poseSize t0 Qn h x) := by
  obtain ⟨A, N, zz, C, P, a, R, K, J, e, sl⟩ := W
  rw [← a.1, ← a.2.1]
  exact wio R a00 rfl (by decide) (q_poseSize (Z0 R K J) I g (fun y h' C' Z hy => k0 y h' (WD.run a e sl Z) hy))
theorem GD.many (g : GD S tb M) : (qpose S M).1 ≤ 32 := by
  have j1 := g.2.1.mi
  have i0 := g.1.nc
  have gn := g.2.2.2.1
  have j2 := g.2.1.sa
  have j4 := g.2.1.cu
  rcases j1 with z | z
  · have j3 := g.2.1.ca
    have b := (qtrk_in g.1 M (t := 12) (w := 1000000) ⟨j2.1, j2.2.1 gn⟩ j3.2.1 (by decide) q0_ok (nC S) (by unfold nC; omega)).2.2.2
    have c := bw_cnt g.1 M (s := (M 12).toNat) (w := 1000000) (nC S) (by have := j2.2.1 gn; omega)
    unfold qpose
    rw [if_neg (by omega), if_pos z]
    have e0 : q0.1 = 0 := rfl
    rw [e0] at b
    generalize fb_ct (fun c => decide (bw S M (M 12).toNat 1000000 c ≠ 0)) (nC S) = y at b c
    omega
  · have := (qpose_in g.1 g.2.1 z).2.2
    omega
theorem w_pclip (W : WD t0 x ea S M O E h) (g : GD S tb M) {i : Nat} (hv : v.toInt = (i : Int)) (hi : i < (qpose S M).1) (k0 : ∀ (y : Int32) (h' : gH), WD t0 x ea S M O E h' → y.toInt = (qpose S M).2.1 i → Qn y h') : io h x 14 (vX11_poseClip t0 Qn Qx h x v) := by
  obtain ⟨A, N, zz, C, P, a, R, K, J, e, sl⟩ := W
  rw [← a.1, ← a.2.1]
  refine wio R a00 rfl (by decide) (q_poseClip (Z0 R K J) g.1 g.2.1 g.many (fun z => absurd z (by omega)) (fun _ _ y h' C' Z hy => k0 y h' (WD.run a e sl Z) ?_))
  rw [hy, hv]
  rfl
theorem w_ptime (W : WD t0 x ea S M O E h) (g : GD S tb M) {i : Nat} (hv : v.toInt = (i : Int)) (hi : i < (qpose S M).1) (k0 : ∀ (y : Int32) (h' : gH), WD t0 x ea S M O E h' → y.toInt = (qpose S M).2.2.1 i → Qn y h') : io h x 14 (vX11_poseTime t0 Qn Qx h x v) := by
  obtain ⟨A, N, zz, C, P, a, R, K, J, e, sl⟩ := W
  rw [← a.1, ← a.2.1]
  refine wio R a00 rfl (by decide) (q_poseTime (Z0 R K J) g.1 g.2.1 g.many (fun z => absurd z (by omega)) (fun _ _ y h' C' Z hy => k0 y h' (WD.run a e sl Z) ?_))
  rw [hy, hv]
  rfl
theorem w_pweight (W : WD t0 x ea S M O E h) (g : GD S tb M) {i : Nat} (hv : v.toInt = (i : Int)) (hi : i < (qpose S M).1) (k0 : ∀ (y : Int32) (h' : gH), WD t0 x ea S M O E h' → y.toInt = (qpose S M).2.2.2 i → Qn y h') : io h x 14 (vX11_poseWeight t0 Qn Qx h x v) := by
  obtain ⟨A, N, zz, C, P, a, R, K, J, e, sl⟩ := W
  rw [← a.1, ← a.2.1]
  refine wio R a00 rfl (by decide) (q_poseWeight (Z0 R K J) g.1 g.2.1 g.many (fun z => absurd z (by omega)) (fun _ _ y h' C' Z hy => k0 y h' (WD.run a e sl Z) ?_))
  rw [hy, hv]
  rfl
theorem w_event (W : WD t0 x ea S M O E h) (g : GD S tb M) {i c : Nat} (hv : v.toInt = (i : Int)) (hi : (i : Int) < M 166) (hw : w.toInt = (c : Int)) (hc : c < 4) (k0 : ∀ y : Int32, y.toInt = M (167 + 4 * i + c) → Qn y h) : io h x 14 (vX11_event t0 Qn Qx h x v w) := by
  obtain ⟨A, N, zz, C, P, ⟨rfl, rfl, rfl⟩, R, K, J, e, sl⟩ := W
  have gt := g.2.2.2.2.1
  refine wio R a00 rfl (by decide) (q_event (Z0 R K J) g.2.1 (by omega) (fun z => absurd z (by omega)) (fun _ _ z => absurd z (by omega)) (fun _ _ _ _ y hy => k0 y ?_))
  rw [hy, hv, hw]
  rfl
theorem w_count5 (W : WD t0 x ea S M O E h) (g : MI S tb M) (hv : v.toInt = 5) (k0 : ∀ y : Int32, y.toInt = M 287 → Qn y h) : io h x 14 (vX11_count t0 Qn Qx h x v) := by
  obtain ⟨A, N, zz, C, P, ⟨rfl, rfl, rfl⟩, R, K, J, e, sl⟩ := W
  refine wio R a00 rfl (by decide) (q_count (Z0 R K J) g (fun z => absurd z (by omega)) (fun _ _ y hy => k0 y ?_))
  rw [hy, hv]
  rfl
theorem w_count6 (W : WD t0 x ea S M O E h) (g : MI S tb M) (hv : v.toInt = 6) (k0 : ∀ y : Int32, y.toInt = M 166 → Qn y h) : io h x 14 (vX11_count t0 Qn Qx h x v) := by
  obtain ⟨A, N, zz, C, P, ⟨rfl, rfl, rfl⟩, R, K, J, e, sl⟩ := W
  refine wio R a00 rfl (by decide) (q_count (Z0 R K J) g (fun z => absurd z (by omega)) (fun _ _ y hy => k0 y ?_))
  rw [hy, hv]
  rfl
theorem w_foretell (W : WD t0 x ea S M O E h) (g : GD S tb M) {n : Nat} (hv : v.toInt = (n : Int)) (h1 : 1 ≤ n) (h2 : n ≤ 100) (k0 : ∀ (y : Int32) (h' : gH), WD t0 x ea S M O E h' → y.toInt = told S n M → Qn y h') : io h x 14 (vX11_foretell t0 Qn Qx h x v) := by
  obtain ⟨A, N, zz, C, P, a, R, K, J, e, sl⟩ := W
  rw [← a.1, ← a.2.1]
  have gn := g.2.2.2.1
  have gt := g.2.2.2.2.1
  have g6 := g.2.2.2.2.2.1
  have g7 := g.2.2.2.2.2.2
  refine wio R a00 rfl (by decide) (q_foretell R K J g.1 g.2.1 (by omega) (by omega) (fun z => absurd z (by omega)) (fun _ _ z => absurd z (by omega)) (fun _ _ _ y h' C' P' t' M' Z hy => k0 y h' (WD.fut a J e sl Z) ?_))
  rw [hy, hv]
  rfl
theorem w_ticksTo (W : WD t0 x ea S M O E h) (g : GD S tb M) {n : Nat} (hv : v.toInt = (n : Int)) (h1 : (n : Int) < S 38 0 19) (k0 : ∀ (y : Int32) (h' : gH), WD t0 x ea S M O E h' → y.toInt = tto S (n : Int) 101 0 M → Qn y h') : io h x 14 (vX11_ticksTo t0 Qn Qx h x v) := by
  obtain ⟨A, N, zz, C, P, a, R, K, J, e, sl⟩ := W
  rw [← a.1, ← a.2.1]
  have gt := g.2.2.2.2.1
  have g6 := g.2.2.2.2.2.1
  have g7 := g.2.2.2.2.2.2
  refine wio R a00 rfl (by decide) (q_ticksTo R K J g.1 g.2.1 (by omega) (by omega) (fun z => absurd z (by omega)) (fun _ _ y h' C' P' t' M' Z hy => k0 y h' (WD.fut a J e sl Z) ?_))
  rw [hy, hv]
theorem w_set (W : WD t0 x ea S M O E h) (I : SI S) (g : MI S tb M) {n : Nat} (hv : v.toInt = (n : Int)) (h1 : (n : Int) < S 38 0 3) (h2 : S 42 0 n = 0 → -100 ≤ w.toInt ∧ w.toInt ≤ 100) (h3 : S 42 0 n ≠ 0 → w.toInt = 0 ∨ w.toInt = 1) (k0 : ∀ (y : Int32) (h' : gH), WD t0 x ea S (um M n w.toInt) O E h' → Qn y h') : io h x 14 (vX11_set t0 Qn Qx h x v w) := by
  obtain ⟨A, N, zz, C, P, a, R, K, J, e, sl⟩ := W
  rw [← a.1, ← a.2.1]
  have j4 := g.cu
  have j6 := g.fm
  have i1 := I.np
  have en : v.toInt.toNat = n := by rw [hv]; rfl
  refine wio R a00 rfl (by decide) (q_set (Z0 R K J) (by omega) I (fun z => absurd z (by omega)) (fun _ _ z => absurd ⟨fun q => ?_, fun q => ?_⟩ z) (fun _ _ _ _ y h' C' Z hy => ?_))
  · rw [en] at Z
    have e9 : um M n w.toInt 287 = M 287 := um_n _ _ (show 287 ≠ n by omega)
    rw [← e9] at Z
    exact k0 y h' (WD.run a e sl Z)
  · rw [en] at q; exact h2 q
  · rw [en] at q; exact h3 q
theorem w_keep (W : WD t0 x ea S M O E h) (g : GD S tb M) {n : Nat} (hv : v.toInt = (n : Int)) (hn : n < 2) (k0 : ∀ (y : Int32) (h' : gH), WD t0 x ea S M (fun s => if s = n then some M else O s) E h' → y.toInt = M 287 → Qn y h') : io h x 14 (vX11_keep t0 Qn Qx h x v) := by
  obtain ⟨A, N, zz, C, P, a, R, K, J, e, sl⟩ := W
  rw [← a.1, ← a.2.1]
  have j4 := g.2.1.cu
  have j5 := g.2.1.fz
  have j6 := g.2.1.fm
  have gn := g.2.2.2.1
  have en : v.toInt.toNat = n := by rw [hv]; rfl
  refine wio R a00 rfl (by decide) (q_keep R K J (by omega) j5 (fun z => absurd z (by omega)) (fun _ _ z => absurd z (by omega)) (fun _ _ _ y h' C' P' R' K' J' F G e2 hy => k0 y h' ?_ hy))
  rw [en] at J' F G e2
  have F' : ∀ j i f : Nat, j ≠ 2 → ¬ mP (n + 1) j i → C' j i f = C j i f := fun j i f hj hm => F j i f hm (fun z => hj z.1)
  refine ⟨A, N, zz, C', P', a, R', K', J.keep (fun j i f z => F' j i f (by omega) (fun q => absurd (mP_two (k := 0) (show mP 0 j i by unfold mP; omega) q) (by omega))) (fun j f z => G j 0 f (fun q => absurd (mP_two (k := 0) (mP_k (by omega)) q) (by omega))), fun f => (F' 90 0 f (by decide) (fun q => by have := q.2.1; omega)).trans (e f), fun s hs => ?_⟩
  by_cases z : s = n
  · subst z
    show IMG S s (if s = s then some M else O s) C' P'
    rw [if_pos rfl]
    exact ⟨e2, J', by omega, j5⟩
  · show IMG S s (if s = n then some M else O s) C' P'
    rw [if_neg z]
    have e3 : C' 2 0 s = C 2 0 s := F 2 0 s (fun q => by have := q.1; omega) (fun q => z q.2.2)
    have I0 := sl s hs
    cases ho : O s with
    | none => rw [ho] at I0; exact e3.trans I0
    | some m =>
      rw [ho] at I0
      exact ⟨e3.trans I0.1, I0.2.1.keep (fun j i f z' => F' j i f (by omega) (fun q => absurd (mP_two (k := s + 1) (show mP (s + 1) j i by unfold mP; omega) q) (by omega))) (fun j f z' => G j (s + 1) f (fun q => absurd (mP_two (k := s + 1) (mP_k (by omega)) q) (by omega))), I0.2.2⟩
theorem w_restore (W : WD t0 x ea S M O E h) {n : Nat} {m : dM} (hv : v.toInt = (n : Int)) (hn : n < 2) (ho : O n = some m) (k0 : ∀ (y : Int32) (h' : gH), WD t0 x ea S m O E h' → y.toInt = m 287 → Qn y h') : io h x 14 (vX11_restore t0 Qn Qx h x v) := by
  obtain ⟨A, N, zz, C, P, a, R, K, J, e, sl⟩ := W
  rw [← a.1, ← a.2.1]
  have en : v.toInt.toNat = n := by rw [hv]; rfl
  have on := sl n hn
  rw [ho] at on
  refine wio R a00 rfl (by decide) (q_restore (tqs := fun s => (O s).elim 0 (fun m => m 287)) (Ms := fun s => (O s).elim (fun _ => 0) id) R K (fun s hs => ?_) (fun s hs h1 => ?_) (fun z => absurd z (by omega)) (fun _ _ z => ?_) (fun _ _ _ y h' C' P' Z hy => ?_))
  · have I0 := sl s hs
    cases ho : O s with
    | none => rw [ho] at I0; exact Or.inl I0
    | some m => rw [ho] at I0; exact Or.inr I0.1
  · have I0 := sl s hs
    cases ho : O s with
    | none => rw [ho] at I0; have I0 : C 2 0 s = 0 := I0; omega
    | some m => rw [ho] at I0; exact I0.2
  · rw [en] at z
    have := on.1
    omega
  · rw [en] at Z hy
    simp only [ho] at Z hy
    exact k0 y h' (WD.run a e sl Z) hy
theorem w_e {K : Int32 → Prop} (W : WD t0 x ea S M O E h) {n : Nat} (hv : v.toInt = (n : Int)) (hn : n < 48) (k0 : ∀ y : Int32, y.toInt = E n → K y) : li h ea v K := by
  obtain ⟨A, N, zz, C, P, a, R, K, J, e, sl⟩ := W
  rw [← a.2.2]
  exact R.li (j := 90) (i := 0) ⟨Nat.one_pos, by decide⟩ rfl rfl hv (show n < 48 from hn) (fun y hy => k0 y (hy.trans (e n)))
theorem w_esi {K : gH → Prop} (W : WD t0 x ea S M O E h) {n : Nat} (hv : v.toInt = (n : Int)) (hn : n < 48) (k0 : ∀ h' : gH, WD t0 x ea S M O (fun f => if f = n then w.toInt else E f) h' → K h') : si h ea v w K := by
  obtain ⟨A, N, zz, C, P, a, R, K, J, e, sl⟩ := W
  rw [← a.2.2]
  refine R.si (j := 90) (i := 0) ⟨Nat.one_pos, by decide⟩ rfl rfl hv (show n < 48 from hn) rfl (fun h' R' => k0 h' ⟨A, N, zz, _, P, ⟨a.1, a.2.1, a.2.2⟩, R', K.fr (fun j i f hj => up3_ne _ _ (by omega)) (fun _ _ _ _ => rfl), J.keep (fun j i f z => up3_ne _ _ (by omega)) (fun _ _ _ => rfl), fun f => ?_, fun s hs => ?_⟩)
  · show (if 90 = 90 ∧ 0 = 0 ∧ f = n then w.toInt else C 90 0 f) = (if f = n then w.toInt else E f)
    by_cases z : f = n
    · rw [if_pos ⟨rfl, rfl, z⟩, if_pos z]
    · rw [if_neg (fun q => z q.2.2), if_neg z]
      exact e f
  · have I0 := sl s hs
    cases ho : O s with
    | none => rw [ho] at I0; exact (up3_ne _ _ (by omega)).trans I0
    | some m => rw [ho] at I0; exact ⟨(up3_ne _ _ (by omega)).trans I0.1, I0.2.1.keep (fun j i f z => up3_ne _ _ (by omega)) (fun _ _ _ => rfl), I0.2.2⟩
theorem w_tick (W : WD t0 x ea S M O E h) (g : GD S tb M) {n : Nat} (hv : v.toInt = (n : Int)) (h1 : 1 ≤ n) (h2 : n ≤ 100) (k0 : ∀ (y : Int32) (h' : gH), WD t0 x ea S (tcks S n M) O E h' → y.toInt = tcks S n M 288 - M 288 → Qn y h') : vL_tick t0 Qn h x v := by
  obtain ⟨A, N, zz, C, P, a, R, K, J, e, sl⟩ := W
  have gn := g.2.2.2.1
  have gt := g.2.2.2.2.1
  have g6 := g.2.2.2.2.2.1
  have g7 := g.2.2.2.2.2.2
  have en : v.toInt.toNat = n := by rw [hv]; rfl
  unfold vL_tick
  rw [← a.1, ← a.2.1]
  refine wio R a00 rfl (by decide) (q_tick (Z0 R K J) g.1 g.2.1 (by omega) (by omega) (fun z => absurd z (by omega)) (fun _ _ z => absurd z (by omega)) (fun _ _ _ y h' C' P' Z hy => ?_))
  rw [en] at Z hy
  exact k0 y h' (WD.run a e sl Z) hy
end WDS
