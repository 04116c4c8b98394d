/-! ===== the class reads the text: bytes, signs, numbers ===== -/
section CRD
variable {h : gH} {A : dA} {N zz : Nat → Nat} {S W C C' C0 : dC} {P : dP} {t0 i : Nat}
/-- only the reader's place was changed -/
def Fd3 (C C' : dC) : Prop := ∀ j x f : Nat, ¬ (j = 19 ∧ f = 3) → C' j x f = C j x f
theorem Fd3.rf (C : dC) : Fd3 C C := fun _ _ _ _ => rfl
theorem Fd3.tr {C1 : dC} (a : Fd3 C C') (b : Fd3 C' C1) : Fd3 C C1 := fun j x f h => (b j x f h).trans (a j x f h)
theorem KS.at3 (K : KS S N zz C P) (fr : Fd3 C C') : KS S N zz C' P := by
  have e : (fun j i f => if j = 19 ∧ f = 3 then 0 else C' j i f : dC) = (fun j i f => if j = 19 ∧ f = 3 then 0 else C j i f : dC) := funext fun j => funext fun i => funext fun f => by
    by_cases z : j = 19 ∧ f = 3
    · rw [if_pos z, if_pos z]
    · rw [if_neg z, if_neg z, fr j i f z]
  have K1 : KS S N zz (fun j i f => if j = 19 ∧ f = 3 then 0 else C j i f : dC) P := by
    unfold KS KS0 at *
    exact K
  rw [← e] at K1
  unfold KS KS0 at *
  exact K1
/-- the class reads at place i -/
def CR (h : gH) (A : dA) (N zz : Nat → Nat) (S W C : dC) (P : dP) (i : Nat) : Prop := D h A N zz C P ∧ KS S N zz C P ∧ C 19 0 3 = (i : Int) ∧ i ≤ tL W
theorem tL_eq (T : TS W S) (I : SI S) : S 38 0 24 = ((tL W : Nat) : Int) ∧ tL W ≤ 150 := by
  have t := I.tl
  have e := T.1
  unfold tL
  omega
theorem tb_S (T : TS W S) (I : SI S) (hi : i < tL W) : S 63 0 i = tb W i := by rw [tb_lt hi]; exact T.2.1 i
/-- the place goes on -/
theorem CR.go {n : Nat} {h' : gH} {v : Int} (Z : CR h A N zz S W C P i) (hv : v = (n : Int)) (hn : n ≤ tL W) (R : D h' A N zz (up3 C 19 0 3 v) P) : CR h' A N zz S W (up3 C 19 0 3 v) P n ∧ Fd3 C (up3 C 19 0 3 v) := by
  have f : Fd3 C (up3 C 19 0 3 v) := fun j x f hj => up3_ne _ _ (by omega)
  exact ⟨⟨R, Z.2.1.at3 f, (up3_same _ _ _ _ _).trans hv, hn⟩, f⟩
theorem n_b50 {Qn : Int32 → gH → Prop} (Z : CR h A N zz S W C P i) (T : TS W S) (I : SI S) (k0 : ∀ x : Int32, x.toInt = tb W i → Qn x h) : vX10_nextByte_b50 t0 Qn h (A 19 0) := by
  obtain ⟨R, K, e, hi⟩ := Z
  have tl := tL_eq T I
  have tx := K.tx
  unfold vX10_nextByte_b50 vX10_nextByte_b85 vX10_nextByte_b86
  refine ygi R a19 rfl e (fun x1 h1 => ygi R a19 rfl (tx.1.trans tl.1) (fun x2 h2 => cle32 h2 h1 (fun z => k0 (-1) ?_) (fun z => ygi R a19 rfl e (fun x3 h3 => g_byt R (nn_i (yal R a20 (by decide) (n := 150) rfl (by decide) (fun x6 h6 => cle32 h6 h3 (fun y => by omega) (fun _ => ?_))))))))
  · rw [tb_ge (by omega)]; decide
  · exact g_byt R (ygi R a19 rfl e (fun x8 h8 => nn_i (yli R a20 rfl h8 (show i < 150 by omega) ((tx.2 i (by omega)).trans (tb_S T I (by omega))) k0)))
theorem n_body {Qn : Int32 → gH → Prop} {k : gH → Nat → Prop} (Z : CR h A N zz S W C P i) (T : TS W S) (I : SI S) (k0 : tb W i ≠ 32 → ∀ x : Int32, x.toInt = tb W i → Qn x h) (k1 : tb W i = 32 → ∀ (h' : gH) (C' : dC), CR h' A N zz S W C' P (i + 1) → Fd3 C C' → k h' (A 19 0)) : vX10_nextByte_b0_o t0 k Qn h (A 19 0) := by
  obtain ⟨R, K, e, hi⟩ := id Z
  have tl := tL_eq T I
  have tx := K.tx
  unfold vX10_nextByte_b0_o
  refine ygi R a19 rfl e (fun x1 h1 => ygi R a19 rfl (tx.1.trans tl.1) (fun x2 h2 => cle32 h2 h1 (fun z => n_b50 Z T I (k0 ?_)) (fun z => ygi R a19 rfl e (fun x3 h3 => g_byt R (nn_i (yal R a20 (by decide) (n := 150) rfl (by decide) (fun x6 h6 => cle32 h6 h3 (fun y => by omega) (fun _ => ?_))))))))
  · rw [tb_ge (by omega)]; decide
  · refine g_byt R (ygi R a19 rfl e (fun x8 h8 => nn_i (yli R a20 rfl h8 (show i < 150 by omega) ((tx.2 i (by omega)).trans (tb_S T I (by omega))) (fun x10 h10 => cne32 h10 (vl (by decide)) (fun y => n_b50 Z T I (k0 y)) (fun y => ?_)))))
    refine ygi R a19 rfl e (fun x11 h11 => wpvI R a19 rfl (v := ((i + 1 : Nat) : Int)) (ix_add h11 (ix_lit (by decide)) (by omega)) (fun h12 R12 => ?_))
    have q := Z.go rfl (show i + 1 ≤ tL W by omega) R12
    exact k1 y h12 _ q.1 q.2
theorem n_loop {Qn : Int32 → gH → Prop} (T : TS W S) (I : SI S) : ∀ (m i : Nat) (h : gH) (C : dC), tL W - i = m → CR h A N zz S W C P i → (∀ (x : Int32) (h' : gH) (C' : dC), CR h' A N zz S W C' P (sk W i) → Fd3 C C' → x.toInt = tb W (sk W i) → Qn x h') → vX10_nextByte_b0 t0 Qn (m + 1) h (A 19 0)
  | 0, i, h, C, hm, Z, k0 => by
    show vX10_nextByte_b0_o t0 (vX10_nextByte_b0 t0 Qn 0) Qn h (A 19 0)
    refine n_body Z T I (fun y x hx => ?_) (fun y => ?_)
    · rw [sk_st y] at k0
      exact k0 x h C Z (Fd3.rf C) hx
    · have := tb_in (W := W) (i := i) (by omega)
      omega
  | m + 1, i, h, C, hm, Z, k0 => by
    show vX10_nextByte_b0_o t0 (vX10_nextByte_b0 t0 Qn (m + 1)) Qn h (A 19 0)
    refine n_body Z T I (fun y x hx => ?_) (fun y h' C' Z' f' => ?_)
    · rw [sk_st y] at k0
      exact k0 x h C Z (Fd3.rf C) hx
    · rw [sk_eq, if_pos y] at k0
      exact n_loop T I m (i + 1) h' C' (by omega) Z' (fun x h2 C2 Z2 f2 hx => k0 x h2 C2 Z2 (f'.tr f2) hx)
theorem c_next {Qn : Int32 → gH → Prop} (Z : CR h A N zz S W C P i) (T : TS W S) (I : SI S) (k0 : ∀ (x : Int32) (h' : gH) (C' : dC), CR h' A N zz S W C' P (sk W i) → Fd3 C C' → x.toInt = tb W (sk W i) → Qn x h') : vX10_nextByte t0 Qn h (A 19 0) := by
  show vX10_nextByte_b0_o t0 (fun h12 v0 => ∃ n : Nat, vX10_nextByte_b0 t0 Qn n h12 v0) Qn h (A 19 0)
  refine n_body Z T I (fun y x hx => ?_) (fun y h' C' Z' f' => ⟨tL W - (i + 1) + 1, ?_⟩)
  · rw [sk_st y] at k0
    exact k0 x h C Z (Fd3.rf C) hx
  · rw [sk_eq, if_pos y] at k0
    exact n_loop T I (tL W - (i + 1)) (i + 1) h' C' rfl Z' (fun x h2 C2 Z2 f2 hx => k0 x h2 C2 Z2 (f'.tr f2) hx)
theorem io19 {K : Prop} (R : D h A N zz C P) (k : K) : io h (A 19 0) 13 K := wio R a19 rfl (by decide) k
/-- the place goes on by one -/
theorem c_inc {K : gH → Prop} (Z : CR h A N zz S W C P i) (hi : i < tL W) (T : TS W S) (I : SI S) (k0 : ∀ (h' : gH) (C' : dC), CR h' A N zz S W C' P (i + 1) → Fd3 C C' → K h') : gi h (A 19 0) 13 3 (fun x1 => pv h (A 19 0) 13 3 (.int (x1 + 1)) K) := by
  have tl := tL_eq T I
  refine ygi Z.1 a19 rfl Z.2.2.1 (fun x11 h11 => wpvI Z.1 a19 rfl (v := ((i + 1 : Nat) : Int)) (ix_add h11 (ix_lit (by decide)) (by omega)) (fun h12 R12 => ?_))
  have q := Z.go rfl (show i + 1 ≤ tL W by omega) R12
  exact k0 h12 _ q.1 q.2
theorem c_sign {Qn : Int32 → gH → Prop} {v : Int32} {c : Int} (Z : CR h A N zz S W C P i) (T : TS W S) (I : SI S) (hv : v.toInt = c) (hc : c ≠ -1) (k1 : tb W (sk W i) = c → ∀ (h' : gH) (C' : dC), CR h' A N zz S W C' P (sk W i + 1) → Fd3 C C' → Qn 1 h') (k0 : tb W (sk W i) ≠ c → ∀ (h' : gH) (C' : dC), CR h' A N zz S W C' P (sk W i) → Fd3 C C' → Qn 0 h') : vX10_readSign t0 Qn h (A 19 0) v := by
  unfold vX10_readSign
  refine io19 Z.1 (c_next Z T I (fun x2 h1 C1 Z1 f1 hx => ceq32 hx hv (fun y => ?_) (fun y => k0 y h1 C1 Z1 f1)))
  exact c_inc Z1 (tb_in (by omega)) T I (fun h' C' Z' f' => k1 y h' C' Z' (f1.tr f'))
theorem c_stateOf {Qn : Option Nat → gH → Prop} {v : Int32} {c : Int} (R : D h A N zz C P) (K : KS S N zz C P) (hv : v.toInt = c) (hc : -1 ≤ c ∧ c ≤ 255) (k1 : ∀ s : Nat, c - 65 = (s : Int) → (s : Int) < S 38 0 19 → Qn (some (A 14 (s + 1))) h) (k0 : ¬ (65 ≤ c ∧ c - 65 < S 38 0 19) → Qn none h) : vX10_stateOf t0 Qn h (A 19 0) v := by
  have sz := K.sz
  have n0 := K.nn
  have i2 : 2 < N 1 + 5 := by omega
  have h65 : (v - 65).toInt = c - 65 := sub_ti hv (vl (by decide)) (by omega)
  have gm : ∀ {K : Option Nat → Prop}, K (some (A 4 0)) → gr h (A 19 0) 13 0 K := fun kk => wgrs R a19 rfl (show dS 19 0 0 = some (4, 0) from rfl) kk
  unfold vX10_stateOf vX10_stateOf_b40 vX10_stateOf_b41
  generalize v - 65 = w at *
  refine clt32 h65 (vl (by decide)) (fun z => k0 (by omega)) (fun z => gm (nn_i (m_sts R (nn_i (wio R (j := 6) (i := 2) i2 rfl (by decide) (ysize R i2 (fun x6 h6 => cle32 h6 h65 (fun y => k0 (by omega)) (fun y => ?_))))))))
  obtain ⟨s, hs⟩ : ∃ s : Nat, c - 65 = (s : Int) := ⟨(c - 65).toNat, by omega⟩
  have h65 : w.toInt = (s : Int) := by omega
  refine gm (nn_i (m_sts R (nn_i (wio R (j := 6) (i := 2) i2 rfl (by decide) (yget R K i2 h65 (by omega) (fun a ha => K.e2 a s ha (by omega)) (nn_i (wio R (j := 14) (i := s + 1) (show s + 1 < N 2 + 1 by omega) rfl (by decide) (k1 s hs (by omega)))))))))
/-- a number, its digits counted -/
theorem c_num_end {Qn : Int32 → gH → Prop} {v1 v2 v3 : Int32} {most : Int} {p : Nat} (Z : CR h A N zz S W C P (p + dg W p)) (T : TS W S) (I : SI S) (h1 : v1.toInt = most) (h2 : v2.toInt = (p : Int)) (h3 : v3.toInt = nv W p (if dg W p < 3 then dg W p else 3)) (k1 : 1 ≤ dg W p → dg W p ≤ 3 → nv W p (dg W p) ≤ most → ∀ x : Int32, x.toInt = nv W p (dg W p) → Qn x h) (k0 : ¬ (1 ≤ dg W p ∧ dg W p ≤ 3 ∧ nv W p (dg W p) ≤ most) → ∀ (h' : gH) (C' : dC), CR h' A N zz S W C' P p → Fd3 C C' → Qn (-1) h') : vX10_readNumber_b104 t0 Qn h (A 19 0) v1 v2 v3 := by
  have tl := tL_eq T I
  have le := Z.2.2.2
  unfold vX10_readNumber_b104
  have bad : ¬ (1 ≤ dg W p ∧ dg W p ≤ 3 ∧ nv W p (dg W p) ≤ most) → vX10_readNumber_b129 t0 Qn h (A 19 0) v2 := fun z => by
    unfold vX10_readNumber_b129
    refine wpvI Z.1 a19 rfl h2 (fun h' R' => ?_)
    have q := Z.go rfl (show p ≤ tL W by omega) R'
    exact k0 z h' _ q.1 q.2
  refine ygi Z.1 a19 rfl Z.2.2.1 (fun x1 hx => ?_)
  have d : (x1 - v2).toInt = ((dg W p : Nat) : Int) := (sub_ti hx h2 (by omega)).trans (by omega)
  generalize x1 - v2 = w at *
  refine clt32 d (vl (by decide)) (fun z => bad (by omega)) (fun z1 => clt32 (vl (by decide)) d (fun z => bad (by omega)) (fun z2 => ?_))
  have e3 : (if dg W p < 3 then dg W p else 3) = dg W p := by split <;> omega
  rw [e3] at h3
  exact cle32 h3 h1 (fun z => k1 (by omega) (by omega) z v3 h3) (fun z => bad (fun q => z q.2.2))
theorem c_num_loop {Qn : Int32 → gH → Prop} {v1 v2 : Int32} {most : Int} {p : Nat} (T : TS W S) (I : SI S) (h1 : v1.toInt = most) (h2 : v2.toInt = (p : Int)) (hp : p ≤ tL W) : ∀ (m k : Nat) (h : gH) (C : dC) (v3 : Int32), k + m = dg W p → CR h A N zz S W C P (p + k) → v3.toInt = nv W p (if k < 3 then k else 3) → (1 ≤ dg W p → dg W p ≤ 3 → nv W p (dg W p) ≤ most → ∀ (x : Int32) (h' : gH) (C' : dC), CR h' A N zz S W C' P (p + dg W p) → Fd3 C C' → x.toInt = nv W p (dg W p) → Qn x h') → (¬ (1 ≤ dg W p ∧ dg W p ≤ 3 ∧ nv W p (dg W p) ≤ most) → ∀ (h' : gH) (C' : dC), CR h' A N zz S W C' P p → Fd3 C C' → Qn (-1) h') → vX10_readNumber_b12 t0 Qn (m + 1) h (A 19 0) v1 v2 v3
  | 0, k, h, C, v3, hm, Z, h3, k1, k0 => by
    have hk : k = dg W p := by omega
    subst hk
    obtain ⟨R, K, e, le⟩ := id Z
    have tl := tL_eq T I
    have tx := K.tx
    have nd := dg_out (W := W) (dg W p) p rfl
    have fin : vX10_readNumber_b104 t0 Qn h (A 19 0) v1 v2 v3 := c_num_end Z T I h1 h2 h3 (fun a b c x hx => k1 a b c x h C Z (Fd3.rf C) hx) k0
    show vX10_readNumber_b12_o t0 (vX10_readNumber_b12 t0 Qn 0) Qn h (A 19 0) v1 v2 v3
    unfold vX10_readNumber_b12_o
    refine ygi R a19 rfl e (fun x1 hx1 => ygi R a19 rfl (tx.1.trans tl.1) (fun x2 hx2 => cle32 hx2 hx1 (fun z => fin) (fun z => ygi R a19 rfl e (fun x3 hx3 => g_byt R (nn_i (yal R a20 (by decide) (n := 150) rfl (by decide) (fun x6 h6 => cle32 h6 hx3 (fun y => fin) (fun _ => ?_))))))))
    have rd := (tx.2 (p + dg W p) (by omega)).trans (tb_S T I (by omega))
    refine g_byt R (ygi R a19 rfl e (fun x8 h8 => nn_i (yli R a20 rfl h8 (show p + dg W p < 150 by omega) rd (fun x10 h10 => clt32 h10 (vl (by decide)) (fun _ => fin) (fun y => ?_)))))
    refine g_byt R (ygi R a19 rfl e (fun x12 h12 => nn_i (yli R a20 rfl h12 (show p + dg W p < 150 by omega) rd (fun x14 h14 => clt32 (vl (by decide)) h14 (fun _ => fin) (fun u => absurd ⟨by omega, by omega⟩ nd)))))
  | m + 1, k, h, C, v3, hm, Z, h3, k1, k0 => by
    obtain ⟨R, K, e, le⟩ := id Z
    have tl := tL_eq T I
    have tx := K.tx
    have dl := dg_le _ p rfl hp
    have nd := dg_in (W := W) k p (by omega)
    have nd1 := nd.1
    have nd2 := nd.2
    show vX10_readNumber_b12_o t0 (vX10_readNumber_b12 t0 Qn (m + 1)) Qn h (A 19 0) v1 v2 v3
    unfold vX10_readNumber_b12_o
    refine ygi R a19 rfl e (fun x1 hx1 => ygi R a19 rfl (tx.1.trans tl.1) (fun x2 hx2 => cle32 hx2 hx1 (fun z => by omega) (fun z => ygi R a19 rfl e (fun x3 hx3 => g_byt R (nn_i (yal R a20 (by decide) (n := 150) rfl (by decide) (fun x6 h6 => cle32 h6 hx3 (fun y => by omega) (fun _ => ?_))))))))
    have rd := (tx.2 (p + k) (by omega)).trans (tb_S T I (by omega))
    refine g_byt R (ygi R a19 rfl e (fun x8 h8 => nn_i (yli R a20 rfl h8 (show p + k < 150 by omega) rd (fun x10 h10 => clt32 h10 (vl (by decide)) (fun y => by omega) (fun y => ?_)))))
    refine g_byt R (ygi R a19 rfl e (fun x12 h12 => nn_i (yli R a20 rfl h12 (show p + k < 150 by omega) rd (fun x14 h14 => clt32 (vl (by decide)) h14 (fun y => by omega) (fun u => ?_)))))
    have nx : ∀ v : Int32, v.toInt = nv W p (if k + 1 < 3 then k + 1 else 3) → vX10_readNumber_b91 t0 (vX10_readNumber_b12 t0 Qn (m + 1)) Qn h (A 19 0) v1 v2 v := fun v hv => by
      unfold vX10_readNumber_b91
      refine c_inc Z (by omega) T I (fun h' C' Z' f' => ?_)
      exact c_num_loop T I h1 h2 hp m (k + 1) h' C' v (by omega) (by rw [show p + (k + 1) = p + k + 1 by omega]; exact Z') hv (fun a b c x h2 C2 Z2 f2 hx => k1 a b c x h2 C2 Z2 (f'.tr f2) hx) (fun a h2 C2 Z2 f2 => k0 a h2 C2 Z2 (f'.tr f2))
    refine ygi R a19 rfl e (fun x15 h15 => ?_)
    have d : (x15 - v2).toInt = ((k : Nat) : Int) := (sub_ti h15 h2 (by omega)).trans (by omega)
    generalize x15 - v2 = w at *
    refine cle32 (vl (by decide)) d (fun z => nx v3 ?_) (fun z => ?_)
    · have a1 : (if k < 3 then k else 3) = 3 := if_neg (by omega)
      have a2 : (if k + 1 < 3 then k + 1 else 3) = 3 := if_neg (by omega)
      rw [a1] at h3
      rw [a2]
      exact h3
    · have hk3 : k < 3 := by omega
      rw [if_pos hk3] at h3
      have nb := nv_in (W := W) (i := p) k (by omega) (fun l hl => dg_in l p (by omega))
      have nb1 := nb.1
      have nb2 := nb.2.1
      refine g_byt R (ygi R a19 rfl e (fun x17 h17 => nn_i (yli R a20 rfl h17 (show p + k < 150 by omega) rd (fun x19 h19 => nx _ ?_))))
      have a2 : (if k + 1 < 3 then k + 1 else 3) = k + 1 := by split <;> omega
      rw [a2]
      have e1 : (v3 * 10).toInt = nv W p k * 10 := mul_ti h3 (vl (by decide)) (by omega)
      have e2 : (v3 * 10 + x19).toInt = nv W p k * 10 + tb W (p + k) := add_ti e1 h19 (by omega)
      have e3 : (v3 * 10 + x19 - 48).toInt = nv W p k * 10 + tb W (p + k) - 48 := sub_ti e2 (vl (by decide)) (by omega)
      rw [e3]
      show _ = 10 * nv W p k + tb W (p + k) - 48
      clear e1 e2 e3
      omega
theorem c_num {Qn : Int32 → gH → Prop} {v1 : Int32} {most : Int} (Z : CR h A N zz S W C P i) (T : TS W S) (I : SI S) (h1 : v1.toInt = most) (k1 : ∀ (q : Nat) (v : Int), pNum W most i = (q, some v) → ∀ (x : Int32) (h' : gH) (C' : dC), CR h' A N zz S W C' P q → Fd3 C C' → x.toInt = v → Qn x h') (k0 : ∀ q : Nat, pNum W most i = (q, none) → ∀ (h' : gH) (C' : dC), CR h' A N zz S W C' P q → Fd3 C C' → Qn (-1) h') : vX10_readNumber t0 Qn h (A 19 0) v1 := by
  unfold vX10_readNumber
  refine io19 Z.1 (c_next Z T I (fun x2 h2 C2 Z2 f2 hx => ygi Z2.1 a19 rfl Z2.2.2.1 (fun x3 h3 => ⟨dg W (sk W i) + 1, ?_⟩)))
  refine c_num_loop T I h1 h3 Z2.2.2.2 (dg W (sk W i)) 0 h2 C2 0 (by omega) Z2 (by rw [if_pos (by decide)]; show (0 : Int32).toInt = 0; decide) (fun a b c x h4 C4 Z4 f4 hx => k1 _ _ ?_ x h4 C4 Z4 (f2.tr f4) hx) (fun a h4 C4 Z4 f4 => k0 _ ?_ h4 C4 Z4 (f2.tr f4))
  · unfold pNum
    rw [if_pos ⟨a, b, c⟩]
  · unfold pNum
    rw [if_neg a]
end CRD
