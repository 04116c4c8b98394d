/-! ===== the class: a child is added ===== -/
section CH
variable {h : gH} {A : dA} {N zz : Nat → Nat} {S C C' C0 : dC} {P : dP} {t0 n : Nat}
theorem dec1 {v : Int32} {n : Nat} (h : v.toInt = ((n + 1 : Nat) : Int)) : (v - 1).toInt = (n : Int) := sub_ti h (vl (by decide)) (by have := fb_rng v; omega) |>.trans (by omega)
theorem dec2 {v : Int32} {n : Nat} (h : v.toInt = ((n + 1 : Nat) : Int)) : (v + (-1)).toInt = (n : Int) := by
  have r := fb_rng v
  have b : -2147483648 ≤ ((n + 1 : Nat) : Int) + -1 ∧ ((n + 1 : Nat) : Int) + -1 < 2147483648 := by omega
  exact (add_ti h (show (-1 : Int32).toInt = -1 by decide) b).trans (by omega)
theorem no_pos {K1 K2 : Prop} (k : K2) : ((1 : Int32) = 0 → K1) ∧ ((¬ (1 : Int32) = 0) → K2) := ⟨fun z => absurd z (by decide), fun _ => k⟩
theorem ok_pos {K1 K2 : Prop} (k : K1) : ((0 : Int32) = 0 → K1) ∧ ((¬ (0 : Int32) = 0) → K2) := ⟨fun _ => k, fun z => absurd rfl z⟩
theorem c_posOf {Qn : Int32 → gH → Prop} {v1 : Int32} {m i : Nat} (R : D h A N zz C P) (am : ac N 12 (m + 1)) (h1 : v1.toInt = (i : Int)) (hi : i < 5) (k0 : ∀ x : Int32, x.toInt = C 13 (m + 1) i → Qn x h) : vX5_positionOf t0 Qn h (A 12 (m + 1)) v1 := by
  have a13 : ac N 13 (m + 1) := am
  unfold vX5_positionOf vX5_positionOf_b22 vX5_positionOf_b23
  refine clt32 h1 (vl (by decide)) (fun z => by omega) (fun _ => g_pst R am (nn_i (yal R a13 (by decide) (n := 5) rfl (by decide) (fun x3 h3 => cle32 h3 h1 (fun z => by omega) (fun _ => ?_)))))
  exact g_pst R am (nn_i (yli R a13 rfl h1 (show i < 5 from hi) rfl k0))
theorem c_hasPos {Qn : Int32 → gH → Prop} {v1 : Int32} (R : D h A N zz C P) (K : KS S N zz C P) (I : SI S) (hn : (n : Int) < S 38 0 14) (k1 : exN (fun k => (k : Int) < S 51 0 n ∧ S 53 0 (5 * n + k) = v1.toInt) → Qn 1 h) (k0 : (∀ k : Nat, (k : Int) < S 51 0 n → S 53 0 (5 * n + k) ≠ v1.toInt) → Qn 0 h) : vX5_hasPosition t0 Qn h (A 12 (n + 1)) v1 := by
  have n0 := K.nn
  have a12 := nd_in K hn
  have a6 : n + 5 < N 1 + 5 := by omega
  have sc := K.szc n (by omega)
  have cm := I.cm n (by have := I.nn; omega)
  obtain ⟨sg, hs⟩ := K.ch
  obtain ⟨s1, s2⟩ := hs n (by omega)
  have lp : ∀ (m i : Nat) (v2 : Int32), v2.toInt = (i : Int) → ((i + m : Nat) : Int) = S 51 0 n → (∀ l : Nat, l < i → C 13 (n + 1) l ≠ v1.toInt) → vX5_hasPosition_b2 t0 Qn (m + 1) h (A 12 (n + 1)) v1 v2 := by
    intro m
    induction m with
    | zero =>
      intro i v2 h2 hm b
      show vX5_hasPosition_b2_o t0 (vX5_hasPosition_b2 t0 Qn 0) Qn _ _ _ _
      unfold vX5_hasPosition_b2_o
      refine g_chl R a12 (nn_i (wio R (j := 6) (i := n + 5) a6 rfl (by decide) (ysize R a6 (fun x4 h4 => cle32 h4 h2 (fun _ => k0 (fun l hl => ?_)) (fun z => by omega)))))
      obtain ⟨i', q1, q2⟩ := s2 l hl
      have q3 := (s1 i' q1).2.2
      rw [q2] at q3
      rw [← q3]
      exact b i' (by omega)
    | succ m ih =>
      intro i v2 h2 hm b
      show vX5_hasPosition_b2_o t0 (vX5_hasPosition_b2 t0 Qn (m + 1)) Qn _ _ _ _
      unfold vX5_hasPosition_b2_o
      refine g_chl R a12 (nn_i (wio R (j := 6) (i := n + 5) a6 rfl (by decide) (ysize R a6 (fun x4 h4 => cle32 h4 h2 (fun z => by omega) (fun _ => wio R a12 rfl (by decide) ?_)))))
      refine c_posOf R a12 h2 (by omega) (fun x6 h6 => cne32 h6 rfl (fun z => ih (i + 1) (v2 + 1) (ix_add h2 (ix_lit (by decide)) (by omega)) (by omega) (fun l hl => ?_)) (fun z => k1 ?_))
      · by_cases y : l = i
        · rw [y]; exact z
        · exact b l (by omega)
      · have q := s1 i (by omega)
        exact ⟨sg n i, q.1, by rw [← q.2.2]; exact z⟩
  unfold vX5_hasPosition
  exact ⟨(S 51 0 n).toNat + 1, lp (S 51 0 n).toNat 0 0 (by decide) (by omega) (fun l hl => absurd hl (by omega))⟩
/-- what is so once a child was added -/
def CAd (ln nd k pl : Nat) (p : Int) (A : dA) (N zz : Nat → Nat) (C : dC) (P : dP) (A1 : dA) (N1 zz1 : Nat → Nat) (C1 : dC) (P1 : dP) (a1 : Nat) : Prop :=
  (∀ j i, ac N j i → A1 j i = A j i) ∧ (∀ x, x ≠ 4 → N1 x = N x) ∧
  (∀ j i f : Nat, ¬ (j = 13 ∧ i = ln + 1 ∨ j = 12 ∧ f = 4 ∨ j = 6 ∧ i = ln + 5 ∧ (f = 0 ∨ f = 2)) → C1 j i f = C j i f) ∧
  (∀ j i f : Nat, ¬ (j = 6 ∧ i = ln + 5 ∧ f = 1 ∨ j = 7 ∧ i = a1) → P1 j i f = P j i f) ∧
  LA0 (ln + 5) k N zz P N1 zz1 C1 P1 a1 ∧ pl ≤ k ∧ (0 < pl → C 13 (ln + 1) (pl - 1) ≤ p) ∧ (pl < k → p < C 13 (ln + 1) pl) ∧
  (∀ w : Nat, w < k + 1 → C1 13 (ln + 1) w = insF (C 13 (ln + 1)) pl p w) ∧ P1 7 a1 pl = some (12, nd + 1) ∧
  (∀ a f, P 6 (ln + 5) 1 = some (7, a) → f < pl → P1 7 a1 f = P 7 a f) ∧ (∀ a f, P 6 (ln + 5) 1 = some (7, a) → pl ≤ f → f < k → P1 7 a1 (f + 1) = P 7 a f)
theorem c_insChild {Qn : gH → Prop} {v2 : Int32} {ln nd k : Nat} (R : D h A N zz C P) (K : KS S N zz C P) (ht : A 8 0 = t0) (hnd : nd < ln) (hln : (ln : Int) < S 38 0 14) (hk : S 51 0 ln = (k : Int)) (h5 : k < 5) (k0 : ∀ (A1 : dA) (h' : gH) (N1 zz1 : Nat → Nat) (C1 : dC) (P1 : dP) (a1 pl : Nat), D h' A1 N1 zz1 C1 P1 → CAd ln nd k pl v2.toInt A N zz C P A1 N1 zz1 C1 P1 a1 → Qn h') : vX5_insertChild t0 Qn h (A 12 (ln + 1)) (some (A 12 (nd + 1))) v2 := by
  have n0 := K.nn
  have a12 := nd_in K hln
  have a13 : ac N 13 (ln + 1) := a12
  have and_ : ac N 12 (nd + 1) := nd_in K (by omega)
  have a6 : ln + 5 < N 1 + 5 := by omega
  have sc := (K.szc ln (by omega)).trans hk
  obtain ⟨sg, hs⟩ := K.ch
  obtain ⟨s1, s2⟩ := hs ln (by omega)
  have fin : ∀ (n : Nat) (h' : gH) (C' : dC) (v3 : Int32), D h' A N zz C' P → v3.toInt = (n : Int) → n ≤ k → (0 < n → C 13 (ln + 1) (n - 1) ≤ v2.toInt) → (n < k → v2.toInt < C 13 (ln + 1) n) → (∀ w : Nat, n < w → w < k + 1 → C' 13 (ln + 1) w = C 13 (ln + 1) (w - 1)) → (∀ j i' f : Nat, ¬ (j = 13 ∧ i' = ln + 1 ∧ n < f) → C' j i' f = C j i' f) → vX5_insertChild_b50 t0 Qn h' (A 12 (ln + 1)) (some (A 12 (nd + 1))) v2 v3 := fun n h' C' v3 R' h3 hn b1 b2 hw hf => by
    unfold vX5_insertChild_b50
    refine g_pst R' a12 (nn_i (wsi R' a13 rfl h3 (show n < 5 by omega) (rfl : v2.toInt = v2.toInt) (fun h3' R3 => ?_)))
    refine g_chl R3 a12 (nn_i (wio R3 (j := 6) (i := ln + 5) a6 rfl (by decide) ?_))
    have fC : ∀ j i f : Nat, ¬ (j = 13 ∧ i = ln + 1) → up3 C' 13 (ln + 1) n v2.toInt j i f = C j i f := fun j i f hj => by
      rw [up3_ne _ _ (by omega)]
      exact hf j i f (by omega)
    have fW : ∀ w : Nat, w < k + 1 → up3 C' 13 (ln + 1) n v2.toInt 13 (ln + 1) w = insF (C 13 (ln + 1)) n v2.toInt w := fun w hw' => by
      unfold insF
      by_cases z : w < n
      · rw [if_pos z, up3_ne _ _ (by omega)]; exact hf _ _ _ (by omega)
      · rw [if_neg z]
        by_cases y : w = n
        · rw [if_pos y, y, up3_same]
        · rw [if_neg y, up3_ne _ _ (by omega)]; exact hw w (by omega) hw'
    generalize up3 C' 13 (ln + 1) n v2.toInt = C3 at *
    refine c_lins (n := k) (pl := n) R3 ht a6 ((fC 6 (ln + 5) 2 (by omega)).trans sc) (by omega) ?_ ?_ and_ (Or.inr (Or.inl rfl)) h3 hn (fun A1 h4 N1 zz1 C1 P1 a1 eA R4 eN L g1 g2 g3 g4 g5 => ?_)
    · rcases K.ar (ln + 5) a6 with q | q
      · exact Or.inl ⟨by omega, q.2⟩
      · obtain ⟨a, q1, q2, q3, q4, q5, q6⟩ := q
        exact Or.inr ⟨a, q1, q2, by omega, q5, q6⟩
    · intro a ha f q hf' hq
      rw [(s1 f (by omega)).2.1 a ha] at hq
      cases hq
      exact Or.inr (Or.inl rfl)
    · refine k0 A1 h4 N1 zz1 C1 P1 a1 n R4 ⟨eA, eN, fun j i f hj => ?_, fun j i f hj => g5 j i f (by omega) (by omega), L, hn, b1, b2, fun w hw' => ?_, g2, g3, g4⟩
      · rw [g1 j i f (by omega)]; exact fC j i f (by omega)
      · rw [g1 _ _ _ (by omega)]; exact fW w hw'
  have lp : ∀ (n : Nat) (h' : gH) (C' : dC) (v3 : Int32), D h' A N zz C' P → v3.toInt = (n : Int) → n ≤ k → (n < k → v2.toInt < C 13 (ln + 1) n) → (∀ w : Nat, n < w → w < k + 1 → C' 13 (ln + 1) w = C 13 (ln + 1) (w - 1)) → (∀ j i' f : Nat, ¬ (j = 13 ∧ i' = ln + 1 ∧ n < f) → C' j i' f = C j i' f) → vX5_insertChild_b14 t0 Qn (n + 1) h' (A 12 (ln + 1)) (some (A 12 (nd + 1))) v2 v3 := by
    intro n
    induction n with
    | zero =>
      intro h' C' v3 R' h3 hn b2 hw hf
      show vX5_insertChild_b14_o t0 (vX5_insertChild_b14 t0 Qn 0) Qn _ _ _ _ _
      unfold vX5_insertChild_b14_o
      exact cle32 h3 (vl (by decide)) (fun _ => fin 0 h' C' v3 R' h3 hn (fun z => by omega) b2 hw hf) (fun z => by omega)
    | succ n ih =>
      intro h' C' v3 R' h3 hn b2 hw hf
      show vX5_insertChild_b14_o t0 (vX5_insertChild_b14 t0 Qn (n + 1)) Qn _ _ _ _ _
      unfold vX5_insertChild_b14_o
      refine cle32 h3 (vl (by decide)) (fun z => by omega) (fun _ => ?_)
      refine g_pst R' a12 (nn_i (yli R' a13 rfl (dec1 h3) (show n < 5 by omega) (hf 13 (ln + 1) n (by omega)) (fun x3 h3x => cle32 h3x rfl (fun z => ?_) (fun z => ?_))))
      · exact fin (n + 1) h' C' v3 R' h3 hn (fun _ => z) b2 hw hf
      · refine g_pst R' a12 (g_pst R' a12 (nn_i (yli R' a13 rfl (dec1 h3) (show n < 5 by omega) (hf 13 (ln + 1) n (by omega)) (fun x7 h7 => nn_i (wsi R' a13 rfl h3 (show n + 1 < 5 by omega) h7 (fun h9 R9 => ?_))))))
        refine ih h9 _ _ R9 (dec2 h3) (by omega) (fun _ => by omega) (fun w w1 w2 => ?_) (fun j i' f a => ?_)
        · by_cases z : w = n + 1
          · rw [z]
            exact up3_same _ _ _ _ _
          · exact (up3_ne _ _ (by omega)).trans (hw w (by omega) w2)
        · rw [up3_ne _ _ (by omega)]
          exact hf j i' f (by omega)
  unfold vX5_insertChild
  refine g_chl R a12 (nn_i (wio R (j := 6) (i := ln + 5) a6 rfl (by decide) (ysize R a6 (fun x4 h4 => clt32 (h4.trans sc) (vl (by decide)) (fun _ => ⟨k + 1, ?_⟩) (fun z => by omega)))))
  exact lp k h C x4 R (h4.trans sc) (Nat.le_refl k) (fun z => by omega) (fun w a b => by omega) (fun _ _ _ _ => rfl)
theorem c_isLine {Qn : Int32 → gH → Prop} (R : D h A N zz C P) (K : KS S N zz C P) (hn : (n : Int) < S 38 0 14) (k1 : S 49 0 n = -1 → Qn 1 h) (k0 : S 49 0 n ≠ -1 → Qn 0 h) : vX5_isLine t0 Qn h (A 12 (n + 1)) := by
  have n0 := K.nn
  have a12 := nd_in K hn
  have nd := K.nd n (by omega)
  unfold vX5_isLine vX5_isLine_b12
  by_cases z : S 49 0 n = -1
  · exact ygn R a12 rfl (nd.1 z).1 ⟨fun _ => ⟨gZ_of (by decide), k1 z⟩, fun a y => by cases y⟩
  · exact ygr R a12 rfl (nd.2 z) ⟨fun y => (by cases y), fun a _ => ⟨gZ_of (by decide), k0 z⟩⟩
theorem q_addChild {Qn : Int32 → gH → Prop} {Qx : String → gH → Prop} {v1 v2 v3 : Int32} (R : D h A N zz C P) (K : KS S N zz C P) (I : SI S) (ht : A 8 0 = t0) (kx : (v1.toInt < 0 ∨ S 38 0 14 ≤ v1.toInt) ∨ (v2.toInt < 0 ∨ S 38 0 14 ≤ v2.toInt) → Qx "java/lang/IndexOutOfBoundsException" h) (ky : 0 ≤ v1.toInt → v1.toInt < S 38 0 14 → 0 ≤ v2.toInt → v2.toInt < S 38 0 14 → (S 49 0 v1.toInt.toNat ≠ -1 ∨ v1.toInt ≤ v2.toInt ∨ v3.toInt < -100 ∨ 100 < v3.toInt) → Qx "java/lang/IllegalArgumentException" h)
  (kz : 0 ≤ v1.toInt → v1.toInt < S 38 0 14 → 0 ≤ v2.toInt → S 49 0 v1.toInt.toNat = -1 → v2.toInt < v1.toInt → -100 ≤ v3.toInt → v3.toInt ≤ 100 → (S 51 0 v1.toInt.toNat = 5 ∨ exN (fun k => (k : Int) < S 51 0 v1.toInt.toNat ∧ S 53 0 (5 * v1.toInt.toNat + k) = v3.toInt) ∨ (S 49 0 v2.toInt.toNat = -1 ∧ S 51 0 v2.toInt.toNat ≤ 0) ∨ deep S v1.toInt.toNat v2.toInt.toNat) → ∀ (h' : gH) (C' : dC), D h' A N zz C' P → (∀ j i f : Nat, ¬ (j = 12 ∧ f = 4) → C' j i f = C j i f) → Qx "java/lang/IllegalStateException" h')
  (k0 : 0 ≤ v1.toInt → v1.toInt < S 38 0 14 → 0 ≤ v2.toInt → S 49 0 v1.toInt.toNat = -1 → v2.toInt < v1.toInt → -100 ≤ v3.toInt → v3.toInt ≤ 100 → S 51 0 v1.toInt.toNat < 5 → (∀ k : Nat, (k : Int) < S 51 0 v1.toInt.toNat → S 53 0 (5 * v1.toInt.toNat + k) ≠ v3.toInt) → (S 49 0 v2.toInt.toNat ≠ -1 ∨ 0 < S 51 0 v2.toInt.toNat) → flat S v1.toInt.toNat v2.toInt.toNat → ∀ (x : Int32) (A1 : dA) (h' : gH) (N1 zz1 : Nat → Nat) (C1 : dC) (P1 : dP) (a1 pl : Nat), D h' A1 N1 zz1 C1 P1 → CAd v1.toInt.toNat v2.toInt.toNat (S 51 0 v1.toInt.toNat).toNat pl v3.toInt A N zz C P A1 N1 zz1 C1 P1 a1 → x.toInt = S 51 0 v1.toInt.toNat + 1 → Qn x h') : vX11_addChild t0 Qn Qx h (A 0 0) v1 v2 v3 := by
  have n0 := K.nn
  have i1 := I.nn
  unfold vX11_addChild vX11_addChild_b39 vX11_addChild_b70 vX11_addChild_b103
  refine i00 R (q_node R K (fun y => kx (Or.inl y)) (fun ln hv1 hln => i00 R (q_node R K (fun y => kx (Or.inr y)) (fun nd hv2 hnd => ?_))))
  have e1 : v1.toInt.toNat = ln := by omega
  have e2 : v2.toInt.toNat = nd := by omega
  rw [e1] at ky
  rw [e1, e2] at kz k0
  have aln := nd_in K hln
  have and_ := nd_in K hnd
  have ky := ky (by omega) (by omega) (by omega) (by omega)
  refine nn_i (wio R aln rfl (by decide) (c_isLine R K hln (fun il => yes1 ?_) (fun il => no1 (ky (Or.inl il)))))
  refine cle32 rfl rfl (fun z => ky (Or.inr (Or.inl z))) (fun z1 => clt32 rfl (show (-100 : Int32).toInt = -100 by decide) (fun z => ky (Or.inr (Or.inr (Or.inl z)))) (fun z2 => cle32 rfl (vl (by decide)) (fun z3 => ?_) (fun z => ky (Or.inr (Or.inr (Or.inr (by omega)))))))
  have kz := fun c => kz (by omega) (by omega) (by omega) il (by omega) (by omega) z3 c
  have k0 := k0 (by omega) (by omega) (by omega) il (by omega) (by omega) z3
  have a6 : ln + 5 < N 1 + 5 := by omega
  have sc := K.szc ln (by omega)
  have cm := I.cm ln (by omega)
  have cm2 := I.cm nd (by omega)
  refine g_chl R aln (nn_i (wio R (j := 6) (i := ln + 5) a6 rfl (by decide) (ysize R a6 (fun x11 h11 => cle32 (vl (by decide)) (h11.trans sc) (fun z => kz (Or.inl (by omega)) h C R (fun _ _ _ _ => rfl)) (fun z5 => ?_)))))
  refine wio R aln rfl (by decide) (c_hasPos R K I hln (fun ex => no_pos (kz (Or.inr (Or.inl ex)) h C R (fun _ _ _ _ => rfl))) (fun np => ok_pos ?_))
  refine nn_i (wio R and_ rfl (by decide) (c_complete R K hnd (fun cm3 => yes1 ?_) (fun q1 q2 => no1 (kz (Or.inr (Or.inr (Or.inl ⟨q1, by omega⟩))) h C R (fun _ _ _ _ => rfl)))))
  refine g_mdl R (nn_i (wio R a40 rfl (by decide) (c_greatest R K I (by omega) hln (fun x20 h19 C9 d R9 d1 d2 fr => ?_))))
  refine cle32 rfl (vl (by decide)) (fun w1 => ?_) (fun w2 => kz (Or.inr (Or.inr (Or.inr ⟨d, d1, ?_⟩))) h19 C9 R9 fr)
  · have K9 : KS S N zz C9 P := K.dep fr
    refine wio R9 aln rfl (by decide) (c_insChild (k := (S 51 0 ln).toNat) R9 K9 ht (by omega) hln (by omega) (by omega) (fun A1 h4 N1 zz1 C1 P1 a1 pl R4 G => ?_))
    obtain ⟨g1, g2, g3, g4, g5, g6, g7, g8, g9, g10, g11, g12⟩ := id G
    have n1 := g2 1 (by decide)
    have b12 : A1 12 (ln + 1) = A 12 (ln + 1) := g1 _ _ aln
    have a12' : ac N1 12 (ln + 1) := show ln + 1 < N1 1 + 1 by omega
    have a6' : ln + 5 < N1 1 + 5 := by omega
    rw [← b12]
    refine g_chl R4 a12' (nn_i (wio R4 (j := 6) (i := ln + 5) a6' rfl (by decide) (ysize R4 a6' (fun x25 h25 => ?_))))
    have c6 := g5.1
    refine k0 (by omega) np (by omega) ⟨d, d1, fun j hj => Int.le_trans (d2.2.2.1 j hj) w1⟩ x25 A1 h4 N1 zz1 C1 P1 a1 pl R4 ⟨g1, g2, fun j i f hj => ?_, g4, g5, g6, ?_, ?_, fun w hw => ?_, g10, g11, g12⟩ (by omega)
    · rw [g3 j i f hj]; exact fr j i f (by omega)
    · rw [← fr 13 (ln + 1) (pl - 1) (by omega)]; exact g7
    · rw [← fr 13 (ln + 1) pl (by omega)]; exact g8
    · have : C9 13 (ln + 1) = C 13 (ln + 1) := funext fun f => fr 13 (ln + 1) f (by omega)
      rw [← this]; exact g9 w hw
  · obtain ⟨q1, q2, q3, q4⟩ := d2
    rcases q4 with q4 | ⟨j, hj, q4⟩
    · omega
    · exact ⟨j, hj, by omega⟩
end CH
