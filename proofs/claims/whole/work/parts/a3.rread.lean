/-! ===== the reference reads the text: bytes, signs, numbers, states ===== -/
section RRD
variable {h : gH} {A : dA} {N zz : Nat → Nat} {S W C C' C0 : dC} {P : dP} {i n : Nat} {ad : Bool} {fi : Int}
/-- the reference reads at place i; fi: no fault so far -/
def RT (h : gH) (A : dA) (N zz : Nat → Nat) (W C : dC) (P : dP) (ad : Bool) (i : Nat) (fi : Int) : Prop := D h A N zz C P ∧ TS W C ∧ C 38 0 30 = (i : Int) ∧ C 38 0 31 = fi ∧ C 38 0 32 = (if ad = true then 1 else 0) ∧ i ≤ tL W
/-- only place, fault, number were changed -/
def Fz (C C' : dC) : Prop := ∀ j x f : Nat, ¬ (j = 38 ∧ (f = 30 ∨ f = 31 ∨ f = 33)) → C' j x f = C j x f
theorem Fz.rf (C : dC) : Fz C C := fun _ _ _ _ => rfl
theorem Fz.tr {C1 : dC} (a : Fz C C') (b : Fz C' C1) : Fz C C1 := fun j x f h => (b j x f h).trans (a j x f h)
theorem TS.fz (T : TS W C) (f : ∀ j f : Nat, (j = 38 ∧ (f = 24 ∨ f = 3 ∨ f = 19)) ∨ j = 63 ∨ j = 42 → C' j 0 f = C j 0 f) : TS W C' := by
  obtain ⟨t1, t2, t3, t4, t5⟩ := T
  refine ⟨?_, fun i => ?_, fun p => ?_, ?_, ?_⟩
  · rw [f 38 24 (by omega)]; exact t1
  · rw [f 63 i (by omega)]; exact t2 i
  · rw [f 42 p (by omega)]; exact t3 p
  · rw [f 38 3 (by omega)]; exact t4
  · rw [f 38 19 (by omega)]; exact t5
theorem Fz.up {f : Nat} {v : Int} (hf : f = 30 ∨ f = 31 ∨ f = 33) : Fz C (up3 C 38 0 f v) := fun j x g hj => up3_ne _ _ (by omega)
theorem io38_ {K : Prop} (R : D h A N zz C P) (k : K) : io h (A 38 0) 15 K := wio R a38 rfl (by decide) k
theorem g_t63 {K : Option Nat → Prop} (R : D h A N zz C P) (k0 : K (some (A 63 0))) : gr h (A 38 0) 15 23 K := wgrs R a38 rfl (show dS 38 0 23 = some (63, 0) from rfl) k0
theorem a63 : ac N 63 0 := ⟨Nat.one_pos, by decide⟩
theorem W_len (IW : SI W) : W 38 0 24 = ((tL W : Nat) : Int) ∧ tL W ≤ 150 := by
  have t := IW.tl
  unfold tL
  omega
theorem RT.len (Z : RT h A N zz W C P ad i fi) (IW : SI W) : C 38 0 24 = ((tL W : Nat) : Int) := Z.2.1.1.trans (W_len IW).1
theorem RT.byt (Z : RT h A N zz W C P ad i fi) {m : Nat} (hm : m < tL W) : C 63 0 m = tb W m := by rw [tb_lt hm]; exact Z.2.1.2.1 m
/-- a column of the reader is set -/
theorem RT.at_ {m : Nat} {h' : gH} {v : Int} (Z : RT h A N zz W C P ad i fi) (hv : v = (m : Int)) (hm : m ≤ tL W) (R : D h' A N zz (up3 C 38 0 30 v) P) : RT h' A N zz W (up3 C 38 0 30 v) P ad m fi ∧ Fz C (up3 C 38 0 30 v) := by
  obtain ⟨R0, T, e1, e2, e3, hi⟩ := Z
  exact ⟨⟨R, T.fz (fun j f hj => up3_ne _ _ (by omega)), (up3_same _ _ _ _ _).trans hv, (up3_ne _ _ (by omega)).trans e2, (up3_ne _ _ (by omega)).trans e3, hm⟩, Fz.up (Or.inl rfl)⟩
theorem RT.fi_ {h' : gH} {v : Int} (Z : RT h A N zz W C P ad i fi) (R : D h' A N zz (up3 C 38 0 31 v) P) : RT h' A N zz W (up3 C 38 0 31 v) P ad i v ∧ Fz C (up3 C 38 0 31 v) := by
  obtain ⟨R0, T, e1, e2, e3, hi⟩ := Z
  exact ⟨⟨R, T.fz (fun j f hj => up3_ne _ _ (by omega)), (up3_ne _ _ (by omega)).trans e1, up3_same _ _ _ _ _, (up3_ne _ _ (by omega)).trans e3, hi⟩, Fz.up (Or.inr (Or.inl rfl))⟩
theorem s_body {Qn : gH → Prop} {k : gH → Nat → Prop} (Z : RT h A N zz W C P ad i fi) (IW : SI W) (k0 : tb W i ≠ 32 → Qn h) (k1 : tb W i = 32 → ∀ (h' : gH) (C' : dC), RT h' A N zz W C' P ad (i + 1) fi → Fz C C' → k h' (A 38 0)) : vX12_skips_b0_o k Qn h (A 38 0) := by
  obtain ⟨R, T, e1, e2, e3, hi⟩ := id Z
  have tl := (W_len IW).2
  unfold vX12_skips_b0_o vX12_skips_b38
  refine ygi R a38 rfl e1 (fun x1 h1 => ygi R a38 rfl (Z.len IW) (fun x2 h2 => cle32 h2 h1 (fun z => k0 ?_) (fun z => g_t63 R (ygi R a38 rfl e1 (fun x4 h4 => nn_i (yli R a63 rfl h4 (show i < 150 by omega) (Z.byt (by omega)) (fun x6 h6 => cne32 h6 (vl (by decide)) (fun y => k0 y) (fun y => ?_))))))))
  · rw [tb_ge (by omega)]; decide
  · refine ygi R a38 rfl e1 (fun x7 h7 => wpvI R a38 rfl (v := ((i + 1 : Nat) : Int)) (ix_add h7 (ix_lit (by decide)) (by omega)) (fun h8 R8 => ?_))
    have q := Z.at_ rfl (show i + 1 ≤ tL W by omega) R8
    exact k1 y h8 _ q.1 q.2
theorem s_loop {Qn : gH → Prop} (IW : SI W) : ∀ (m i : Nat) (h : gH) (C : dC), tL W - i = m → RT h A N zz W C P ad i fi → (∀ (h' : gH) (C' : dC), RT h' A N zz W C' P ad (sk W i) fi → Fz C C' → Qn h') → vX12_skips_b0 Qn (m + 1) h (A 38 0)
  | 0, i, h, C, hm, Z, k0 => by
    show vX12_skips_b0_o (vX12_skips_b0 Qn 0) Qn h (A 38 0)
    refine s_body Z IW (fun y => ?_) (fun y => ?_)
    · rw [sk_st y] at k0
      exact k0 h C Z (Fz.rf C)
    · have := tb_in (W := W) (i := i) (by omega)
      omega
  | m + 1, i, h, C, hm, Z, k0 => by
    show vX12_skips_b0_o (vX12_skips_b0 Qn (m + 1)) Qn h (A 38 0)
    refine s_body Z IW (fun y => ?_) (fun y h' C' Z' f' => ?_)
    · rw [sk_st y] at k0
      exact k0 h C Z (Fz.rf C)
    · rw [sk_eq, if_pos y] at k0
      exact s_loop IW m (i + 1) h' C' (by omega) Z' (fun h2 C2 Z2 f2 => k0 h2 C2 Z2 (f'.tr f2))
theorem t_skips {Qn : gH → Prop} (Z : RT h A N zz W C P ad i fi) (IW : SI W) (k0 : ∀ (h' : gH) (C' : dC), RT h' A N zz W C' P ad (sk W i) fi → Fz C C' → Qn h') : vX12_skips Qn h (A 38 0) := by
  show vX12_skips_b0_o (fun h8 v0 => ∃ n : Nat, vX12_skips_b0 Qn n h8 v0) Qn h (A 38 0)
  refine s_body Z IW (fun y => ?_) (fun y h' C' Z' f' => ⟨tL W - (i + 1) + 1, ?_⟩)
  · rw [sk_st y] at k0
    exact k0 h C Z (Fz.rf C)
  · rw [sk_eq, if_pos y] at k0
    exact s_loop IW (tL W - (i + 1)) (i + 1) h' C' rfl Z' (fun h2 C2 Z2 f2 => k0 h2 C2 Z2 (f'.tr f2))
theorem t_here {Qn : Int32 → gH → Prop} {v : Int32} {c : Int} (Z : RT h A N zz W C P ad i fi) (IW : SI W) (hv : v.toInt = c) (hc : c ≠ -1) (k1 : tb W i = c → Qn 1 h) (k0 : tb W i ≠ c → Qn 0 h) : vX12_here Qn h (A 38 0) v := by
  obtain ⟨R, T, e1, e2, e3, hi⟩ := id Z
  have tl := (W_len IW).2
  unfold vX12_here vX12_here_b28 vX12_here_b29
  have g0 : gZ 0 := gZ_of (by decide)
  have g1 : gZ 1 := gZ_of (by decide)
  refine ygi R a38 rfl e1 (fun x1 h1 => ygi R a38 rfl (Z.len IW) (fun x2 h2 => cle32 h2 h1 (fun z => ⟨g0, k0 ?_⟩) (fun z => g_t63 R (ygi R a38 rfl e1 (fun x4 h4 => nn_i (yli R a63 rfl h4 (show i < 150 by omega) (Z.byt (by omega)) (fun x6 h6 => cne32 h6 hv (fun y => ⟨g0, k0 y⟩) (fun y => ⟨g1, k1 y⟩))))))))
  rw [tb_ge (by omega)]
  exact fun y => hc y.symm
/-- the fault flag -/
theorem t_fi {K : Int32 → Prop} (Z : RT h A N zz W C P ad i fi) (k : ∀ x : Int32, x.toInt = fi → K x) : gi h (A 38 0) 15 31 K := ygi Z.1 a38 rfl Z.2.2.2.1 k
theorem t_ad {K : Int32 → Prop} (Z : RT h A N zz W C P ad i fi) (k : ∀ x : Int32, x.toInt = (if ad = true then 1 else 0) → K x) : gi h (A 38 0) 15 32 K := ygi Z.1 a38 rfl Z.2.2.2.2.1 k
theorem t_at {K : Int32 → Prop} (Z : RT h A N zz W C P ad i fi) (k : ∀ x : Int32, x.toInt = (i : Int) → K x) : gi h (A 38 0) 15 30 K := ygi Z.1 a38 rfl Z.2.2.1 k
theorem t_wat {K : gH → Prop} {x : Int32} {m : Nat} (Z : RT h A N zz W C P ad i fi) (hx : x.toInt = (m : Int)) (hm : m ≤ tL W) (k : ∀ (h' : gH) (C' : dC), RT h' A N zz W C' P ad m fi → Fz C C' → K h') : pv h (A 38 0) 15 30 (.int x) K := wpvI Z.1 a38 rfl hx (fun h' R' => k h' _ (Z.at_ rfl hm R').1 (Z.at_ rfl hm R').2)
theorem t_wfi {K : gH → Prop} {x : Int32} {v : Int} (Z : RT h A N zz W C P ad i fi) (hx : x.toInt = v) (k : ∀ (h' : gH) (C' : dC), RT h' A N zz W C' P ad i v → Fz C C' → K h') : pv h (A 38 0) 15 31 (.int x) K := wpvI Z.1 a38 rfl hx (fun h' R' => k h' _ (Z.fi_ R').1 (Z.fi_ R').2)
/-- a flag 0 or 1 is set, the place goes on by it -/
theorem t_step {K : gH → Prop} {s0 : Int32} {v : Nat} (Z : RT h A N zz W C P ad i fi) (IW : SI W) (hs : s0.toInt = (v : Int)) (hv : v = 0 ∨ v = 1) (hi : v = 1 → i < tL W) (k : ∀ (h' : gH) (C' : dC), RT h' A N zz W C' P ad (i + v) (v : Int) → Fz C C' → K h') : gZ s0 ∧ pv h (A 38 0) 15 31 (.int s0) (fun h1 => gi h1 (A 38 0) 15 30 (fun x2 => gi h1 (A 38 0) 15 31 (fun x3 => (((x3 : Int32) = 0) → pv h1 (A 38 0) 15 30 (.int (x2 + 0)) (fun h1 => K h1)) ∧ ((¬ (x3 : Int32) = 0) → pv h1 (A 38 0) 15 30 (.int (x2 + 1)) (fun h1 => K h1))))) := by
  have tl := (W_len IW).2
  have le := Z.2.2.2.2.2
  refine ⟨gZ_of (by omega), t_wfi Z hs (fun h1 C1 Z1 f1 => t_at Z1 (fun x2 h2 => t_fi Z1 (fun x3 h3 => ceq32 h3 (vl (by decide)) (fun z => ?_) (fun z => ?_))))⟩
  · have v0 : v = 0 := by omega
    subst v0
    exact t_wat Z1 (m := i + 0) (ix_add h2 (ix_lit (by decide)) (by omega)) (by omega) (fun h' C' Z' f' => k h' C' Z' (f1.tr f'))
  · have v1 : v = 1 := by omega
    subst v1
    have := hi rfl
    exact t_wat Z1 (m := i + 1) (ix_add h2 (ix_lit (by decide)) (by omega)) (by omega) (fun h' C' Z' f' => k h' C' Z' (f1.tr f'))
theorem t_reads {Qn : gH → Prop} {v : Int32} {c : Int} (Z : RT h A N zz W C P ad i fi) (IW : SI W) (hf : fi = 0 ∨ fi = 1) (hv : v.toInt = c) (hc : c ≠ -1) (k1 : fi = 1 → tb W (sk W i) = c → ∀ (h' : gH) (C' : dC), RT h' A N zz W C' P ad (sk W i + 1) 1 → Fz C C' → Qn h') (k0 : (fi = 0 ∨ tb W (sk W i) ≠ c) → ∀ (h' : gH) (C' : dC), RT h' A N zz W C' P ad (sk W i) 0 → Fz C C' → Qn h') : vX12_reads Qn h (A 38 0) v := by
  unfold vX12_reads vX12_reads_b24 vX12_reads_b25 vX12_reads_b45
  refine io38_ Z.1 (t_skips Z IW (fun h1 C1 Z1 f1 => ?_))
  have bad : (fi = 0 ∨ tb W (sk W i) ≠ c) → _ := fun z => t_step (K := Qn) (s0 := 0) (v := 0) Z1 IW (by decide) (Or.inl rfl) (fun y => absurd y (by decide)) (fun h' C' Z' f' => k0 z h' C' Z' (f1.tr f'))
  refine t_fi Z1 (fun x2 h2 => ceq32 h2 (vl (by decide)) (fun z => bad (Or.inl z)) (fun z => io38_ Z1.1 ?_))
  refine t_here Z1 IW hv hc (fun y => no_pos ?_) (fun y => ok_pos (bad (Or.inr y)))
  exact t_step (K := Qn) (s0 := 1) (v := 1) Z1 IW (by decide) (Or.inr rfl) (fun _ => tb_in (by omega)) (fun h' C' Z' f' => k1 (by omega) y h' C' Z' (f1.tr f'))
/-- a number: what it leaves -/
theorem t_num_end {Qn : gH → Prop} {v2 v3 v4 s0 : Int32} {p k : Nat} {nvv : Int} {v : Nat} (Z : RT h A N zz W C P ad i fi) (h2 : v2.toInt = (p : Int)) (h4 : v4.toInt = (k : Int)) (h3 : v3.toInt = nvv) (hs : s0.toInt = (v : Int)) (hv : v = 0 ∨ v = 1) (hp : p + k ≤ tL W) (hb : tL W ≤ 150) (k0 : ∀ (h' : gH) (C' : dC), RT h' A N zz W C' P ad (if v = 0 then p else p + k) (v : Int) → Fz C C' → C' 38 0 33 = nvv → Qn h') : vX12_readsNumber_b126 Qn h (A 38 0) v2 v3 v4 s0 (A 38 0) := by
  unfold vX12_readsNumber_b126 vX12_readsNumber_b145
  have fin : ∀ (h1 : gH) (C1 : dC) (m : Nat), RT h1 A N zz W C1 P ad m (v : Int) → Fz C C1 → m = (if v = 0 then p else p + k) → pv h1 (A 38 0) 15 33 (.int v3) (fun h2 => Qn h2) := fun h1 C1 m Z1 f1 hm => by
    refine wpvI Z1.1 a38 rfl h3 (fun h2 R2 => ?_)
    obtain ⟨R0, T, e1, e2, e3, hi⟩ := Z1
    subst hm
    exact k0 h2 _ ⟨R2, T.fz (fun j f hj => up3_ne _ _ (by omega)), (up3_ne _ _ (by omega)).trans e1, (up3_ne _ _ (by omega)).trans e2, (up3_ne _ _ (by omega)).trans e3, hi⟩ (f1.tr (Fz.up (Or.inr (Or.inr rfl)))) (up3_same _ _ _ _ _)
  refine ⟨gZ_of (by omega), t_wfi Z hs (fun h1 C1 Z1 f1 => t_fi Z1 (fun x2 hx2 => ceq32 hx2 (vl (by decide)) (fun z => ?_) (fun z => ?_)))⟩
  · exact t_wat Z1 h2 (by omega) (fun h' C' Z' f' => fin h' C' p Z' (f1.tr f') (by rw [if_pos (by omega)]))
  · exact t_wat Z1 (m := p + k) (ix_add h2 h4 (by omega)) hp (fun h' C' Z' f' => fin h' C' (p + k) Z' (f1.tr f') (by rw [if_neg (by omega)]))
theorem t_num_b97 {Qn : gH → Prop} {v1 v2 v3 v4 : Int32} {most : Int} {p k : Nat} (Z : RT h A N zz W C P ad p fi) (IW : SI W) (hf : fi = 0 ∨ fi = 1) (h1 : v1.toInt = most) (h2 : v2.toInt = (p : Int)) (h4 : v4.toInt = (k : Int)) (hk : fi = 1 → k = dg W p) (hk0 : fi = 0 → k = 0) (h3 : v3.toInt = nv W p (if k < 4 then k else 4)) (k1 : fi = 1 → 1 ≤ dg W p → dg W p ≤ 3 → nv W p (dg W p) ≤ most → ∀ (h' : gH) (C' : dC), RT h' A N zz W C' P ad (p + dg W p) 1 → Fz C C' → C' 38 0 33 = nv W p (dg W p) → Qn h') (k0 : (fi = 0 ∨ ¬ (1 ≤ dg W p ∧ dg W p ≤ 3 ∧ nv W p (dg W p) ≤ most)) → ∀ (h' : gH) (C' : dC), RT h' A N zz W C' P ad p 0 → Fz C C' → Qn h') : vX12_readsNumber_b97 Qn h (A 38 0) v1 v2 v3 v4 := by
  have tl := (W_len IW).2
  have le := Z.2.2.2.2.2
  have dl := dg_le _ p rfl le
  have hk2 : k ≤ dg W p := by
    rcases hf with z | z
    · rw [hk0 z]; exact Nat.zero_le _
    · rw [hk z]; exact Nat.le_refl _
  unfold vX12_readsNumber_b97 vX12_readsNumber_b125
  have bad : (fi = 0 ∨ ¬ (1 ≤ dg W p ∧ dg W p ≤ 3 ∧ nv W p (dg W p) ≤ most)) → vX12_readsNumber_b126 Qn h (A 38 0) v2 v3 v4 0 (A 38 0) := fun z => t_num_end (v := 0) Z h2 h4 h3 (by decide) (Or.inl rfl) (by omega) tl (fun h' C' Z' f' _ => k0 z h' C' Z' f')
  refine t_fi Z (fun x1 hx1 => ceq32 hx1 (vl (by decide)) (fun z => bad (Or.inl z)) (fun z => ?_))
  have f1 : fi = 1 := by omega
  have hk := hk f1
  refine cle32 h4 (vl (by decide)) (fun z => bad (Or.inr (by omega))) (fun z1 => clt32 (vl (by decide)) h4 (fun z => bad (Or.inr (by omega))) (fun z2 => ?_))
  rw [if_pos (by omega), hk] at h3
  refine clt32 h1 h3 (fun z => bad (Or.inr (by omega))) (fun z3 => ?_)
  refine t_num_end (v := 1) Z h2 h4 h3 (by decide) (Or.inr rfl) (by omega) tl (fun h' C' Z' f' e' => ?_)
  rw [if_neg (by decide), hk] at Z'
  exact k1 f1 (by omega) (by omega) (by omega) h' C' Z' f' e'
theorem t_num_loop {Qn : gH → Prop} {v1 v2 : Int32} {most : Int} {p : Nat} (Z : RT h A N zz W C P ad p 1) (IW : SI W) (h1 : v1.toInt = most) (h2 : v2.toInt = (p : Int)) (k1 : 1 ≤ dg W p → dg W p ≤ 3 → nv W p (dg W p) ≤ most → ∀ (h' : gH) (C' : dC), RT h' A N zz W C' P ad (p + dg W p) 1 → Fz C C' → C' 38 0 33 = nv W p (dg W p) → Qn h') (k0 : ¬ (1 ≤ dg W p ∧ dg W p ≤ 3 ∧ nv W p (dg W p) ≤ most) → ∀ (h' : gH) (C' : dC), RT h' A N zz W C' P ad p 0 → Fz C C' → Qn h') : ∀ (m k : Nat) (v3 v4 : Int32), k + m = dg W p → v4.toInt = (k : Int) → v3.toInt = nv W p (if k < 4 then k else 4) → vX12_readsNumber_b14 Qn (m + 1) h (A 38 0) v1 v2 v3 v4 := by
  have tl := (W_len IW).2
  have le := Z.2.2.2.2.2
  have dl := dg_le _ p rfl le
  obtain ⟨R, T, e1, e2, e3, hi⟩ := id Z
  intro m
  induction m with
  | zero =>
    intro k v3 v4 hm h4 h3
    have hk : k = dg W p := by omega
    have nd := dg_out (W := W) (dg W p) p rfl
    have fin : vX12_readsNumber_b97 Qn h (A 38 0) v1 v2 v3 v4 := t_num_b97 Z IW (Or.inr rfl) h1 h2 h4 (fun _ => hk) (fun z => absurd z (by decide)) h3 (fun _ => k1) (fun z => k0 (z.elim (fun y => absurd y (by decide)) id))
    show vX12_readsNumber_b14_o (vX12_readsNumber_b14 Qn 0) Qn h (A 38 0) v1 v2 v3 v4
    unfold vX12_readsNumber_b14_o
    refine t_fi Z (fun x1 hx1 => ceq32 hx1 (vl (by decide)) (fun z => fin) (fun z => t_at Z (fun x2 hx2 => ygi R a38 rfl (Z.len IW) (fun x3 hx3 => ?_))))
    have s2 : (x2 + v4).toInt = ((p + k : Nat) : Int) := ix_add hx2 h4 (by omega)
    refine cle32 hx3 s2 (fun z => fin) (fun z => g_t63 R (t_at Z (fun x5 hx5 => nn_i ?_)))
    refine yli R a63 rfl (ix_add hx5 h4 (by omega)) (show p + k < 150 by omega) (Z.byt (by omega)) (fun x7 h7 => ?_)
    refine w_in (x := tb W (p + k)) (wid_ti h7) (vlL (by decide)) (vlL (by decide)) (fun a b => absurd ⟨by rw [hk] at a; exact a, by rw [hk] at b; exact b⟩ nd) (fun _ => ok_pos fin)
  | succ m ih =>
    intro k v3 v4 hm h4 h3
    have nd := dg_in (W := W) k p (by omega)
    have nd1 := nd.1
    have nd2 := nd.2
    show vX12_readsNumber_b14_o (vX12_readsNumber_b14 Qn (m + 1)) Qn h (A 38 0) v1 v2 v3 v4
    unfold vX12_readsNumber_b14_o vX12_readsNumber_b90
    refine t_fi Z (fun x1 hx1 => ceq32 hx1 (vl (by decide)) (fun z => by omega) (fun z => t_at Z (fun x2 hx2 => ygi R a38 rfl (Z.len IW) (fun x3 hx3 => ?_))))
    have s2 : (x2 + v4).toInt = ((p + k : Nat) : Int) := ix_add hx2 h4 (by omega)
    refine cle32 hx3 s2 (fun z => by omega) (fun z => g_t63 R (t_at Z (fun x5 hx5 => nn_i ?_)))
    refine yli R a63 rfl (ix_add hx5 h4 (by omega)) (show p + k < 150 by omega) (Z.byt (by omega)) (fun x7 h7 => ?_)
    refine w_in (x := tb W (p + k)) (wid_ti h7) (vlL (by decide)) (vlL (by decide)) (fun _ _ => no_pos ?_) (fun z => by omega)
    have h41 : (v4 + 1).toInt = ((k + 1 : Nat) : Int) := ix_add h4 (ix_lit (by decide)) (by omega)
    refine cle32 (vl (by decide)) h4 (fun z => ih (k + 1) v3 (v4 + 1) (by omega) h41 ?_) (fun z => g_t63 R (t_at Z (fun x11 hx11 => nn_i ?_)))
    · have a1 : (if k < 4 then k else 4) = 4 := if_neg (by omega)
      have a2 : (if k + 1 < 4 then k + 1 else 4) = 4 := if_neg (by omega)
      rw [a1] at h3
      rw [a2]
      exact h3
    · refine yli R a63 rfl (ix_add hx11 h4 (by omega)) (show p + k < 150 by omega) (Z.byt (by omega)) (fun x13 h13 => ih (k + 1) _ (v4 + 1) (by omega) h41 ?_)
      have hk4 : k < 4 := by omega
      rw [if_pos hk4] at h3
      have nb := nv_in (W := W) (i := p) k (by omega) (fun l hl => dg_in l p (by omega))
      have nb1 := nb.1
      have nb2 := nb.2.1
      have a2 : (if k + 1 < 4 then k + 1 else 4) = k + 1 := by split <;> omega
      rw [a2]
      have e1 : (10 * v3).toInt = 10 * nv W p k := mul_ti (vl (by decide)) h3 (by omega)
      have e2 : (10 * v3 + x13).toInt = 10 * nv W p k + tb W (p + k) := add_ti e1 h13 (by omega)
      exact sub_ti e2 (vl (by decide)) (by clear e1 e2; omega)
theorem t_num {Qn : gH → Prop} {v1 : Int32} {most : Int} (Z : RT h A N zz W C P ad i fi) (IW : SI W) (hf : fi = 0 ∨ fi = 1) (h1 : v1.toInt = most) (k1 : fi = 1 → ∀ (q : Nat) (v : Int), pNum W most i = (q, some v) → ∀ (h' : gH) (C' : dC), RT h' A N zz W C' P ad q 1 → Fz C C' → C' 38 0 33 = v → Qn h') (k0 : ∀ q : Nat, (fi = 0 ∧ q = sk W i ∨ fi = 1 ∧ pNum W most i = (q, none)) → ∀ (h' : gH) (C' : dC), RT h' A N zz W C' P ad q 0 → Fz C C' → Qn h') : vX12_readsNumber Qn h (A 38 0) v1 := by
  unfold vX12_readsNumber
  refine io38_ Z.1 (t_skips Z IW (fun h2 C2 Z2 f2 => t_at Z2 (fun x2 hx2 => ?_)))
  rcases hf with z | z
  · subst z
    refine ⟨1, ?_⟩
    show vX12_readsNumber_b14_o (vX12_readsNumber_b14 Qn 0) Qn h2 (A 38 0) v1 x2 0 0
    unfold vX12_readsNumber_b14_o
    refine t_fi Z2 (fun x1 hx1 => ceq32 hx1 (vl (by decide)) (fun _ => ?_) (fun y => absurd rfl y))
    exact t_num_b97 (k := 0) Z2 IW (Or.inl rfl) h1 hx2 (by decide) (fun y => absurd y (by decide)) (fun _ => rfl) (by rw [if_pos (by decide)]; show (0 : Int32).toInt = 0; decide) (fun y => absurd y (by decide)) (fun _ h' C' Z' f' => k0 _ (Or.inl ⟨rfl, rfl⟩) h' C' Z' (f2.tr f'))
  · subst z
    refine ⟨dg W (sk W i) + 1, t_num_loop Z2 IW h1 hx2 (fun a b c h' C' Z' f' e' => k1 rfl _ _ ?_ h' C' Z' (f2.tr f') e') (fun a h' C' Z' f' => k0 _ (Or.inr ⟨rfl, ?_⟩) h' C' Z' (f2.tr f')) (dg W (sk W i)) 0 0 0 (by omega) (by decide) (by rw [if_pos (by decide)]; show (0 : Int32).toInt = 0; decide)⟩
    · unfold pNum
      rw [if_pos ⟨a, b, c⟩]
    · unfold pNum
      rw [if_neg a]
/-- a state, or any -/
theorem t_state {Qn : Int32 → gH → Prop} {v1 : Int32} {any : Bool} (Z : RT h A N zz W C P ad i fi) (IW : SI W) (hf : fi = 0 ∨ fi = 1) (h1 : v1.toInt = if any = true then 1 else 0) (ka : fi = 1 → any = true → tb W (sk W i) = 42 → ∀ (h' : gH) (C' : dC), RT h' A N zz W C' P ad (sk W i + 1) 1 → Fz C C' → Qn (-1) h') (k1 : fi = 1 → isSt W (tb W (sk W i)) → ∀ (x : Int32) (h' : gH) (C' : dC), RT h' A N zz W C' P ad (sk W i + 1) 1 → Fz C C' → x.toInt = tb W (sk W i) - 65 → Qn x h') (k0 : (fi = 0 ∨ (¬ isSt W (tb W (sk W i)) ∧ (any = true → tb W (sk W i) ≠ 42))) → ∀ (x : Int32) (h' : gH) (C' : dC), RT h' A N zz W C' P ad (sk W i) 0 → Fz C C' → Qn x h') : vX12_readsState Qn h (A 38 0) v1 := by
  have tl := (W_len IW).2
  have ins := IW.ns
  unfold vX12_readsState vX12_readsState_b21
  refine io38_ Z.1 (t_skips Z IW (fun h1' C1 Z1 f1 => ?_))
  have le := Z1.2.2.2.2.2
  have rng := tb_rng IW (sk W i)
  have e19 : C1 38 0 19 = W 38 0 19 := Z1.2.1.2.2.2.2
  have bad : ∀ s0 : Int32, (fi = 0 ∨ (¬ isSt W (tb W (sk W i)) ∧ (any = true → tb W (sk W i) ≠ 42))) → vX12_readsState_b95 Qn h1' (A 38 0) s0 0 (A 38 0) := fun s0 z => by
    unfold vX12_readsState_b95 vX12_readsState_b115
    exact t_step (K := fun h => Qn s0 h) (s0 := 0) (v := 0) Z1 IW (by decide) (Or.inl rfl) (fun y => absurd y (by decide)) (fun h' C' Z' f' => k0 z s0 h' C' Z' (f1.tr f'))
  have good : ∀ s0 : Int32, fi = 1 → tb W (sk W i) ≠ -1 → ((any = true ∧ tb W (sk W i) = 42 ∧ s0 = -1) ∨ (isSt W (tb W (sk W i)) ∧ s0.toInt = tb W (sk W i) - 65)) → vX12_readsState_b95 Qn h1' (A 38 0) s0 1 (A 38 0) := fun s0 y t z => by
    unfold vX12_readsState_b95 vX12_readsState_b115
    refine t_step (K := fun h => Qn s0 h) (s0 := 1) (v := 1) Z1 IW (by decide) (Or.inr rfl) (fun _ => tb_in t) (fun h' C' Z' f' => ?_)
    rcases z with ⟨z1, z2, z3⟩ | ⟨z1, z2⟩
    · rw [z3]; exact ka y z1 z2 h' C' Z' (f1.tr f')
    · exact k1 y z1 s0 h' C' Z' (f1.tr f') z2
  -- with its number
  have b49 : ∀ s0 : Int32, (any = true ∧ tb W (sk W i) = 42 ∧ s0 = -1) ∨ ((any = true → tb W (sk W i) ≠ 42) ∧ (tb W (sk W i) ≠ -1 → s0.toInt = tb W (sk W i) - 65)) → vX12_readsState_b49 Qn h1' (A 38 0) v1 s0 := fun s0 hs => by
    unfold vX12_readsState_b49 vX12_readsState_b94
    refine t_fi Z1 (fun x1 hx1 => ceq32 hx1 (vl (by decide)) (fun z => bad s0 (Or.inl z)) (fun z => t_at Z1 (fun x2 hx2 => ygi Z1.1 a38 rfl (Z1.len IW) (fun x3 hx3 => cle32 hx3 hx2 (fun y => bad s0 (Or.inr ?_)) (fun y => ?_)))))
    · have e := tb_ge (W := W) (i := sk W i) (by omega)
      rw [e]
      exact ⟨fun q => by have := q.1; omega, fun _ => by decide⟩
    · have f1' : fi = 1 := by omega
      have hb : tb W (sk W i) ≠ -1 := by
        have r := IW.tx (sk W i) (by omega)
        rw [tb_lt (by omega)]
        omega
      have b82 : (any = true → tb W (sk W i) ≠ 42) → s0.toInt = tb W (sk W i) - 65 → vX12_readsState_b82 Qn h1' (A 38 0) s0 (A 38 0) := fun u1 u2 => by
        unfold vX12_readsState_b82 vX12_readsState_b94 vX12_readsState_b90
        refine io38_ Z1.1 (r_isState Z1.1 (by rw [e19]; exact ins) (fun a b => yes1 ?_) (fun a => no1 (bad s0 (Or.inr ⟨fun q => ?_, u1⟩))))
        · exact good s0 f1' hb (Or.inr ⟨⟨by omega, by omega⟩, u2⟩)
        · have q1 := q.1
          have q2 := q.2
          omega
      cases any with
      | false =>
        have h1 : v1.toInt = 0 := h1
        refine ceq32 h1 (vl (by decide)) (fun _ => b82 (fun u => by cases u) ?_) (fun u => by omega)
        rcases hs with ⟨u, _⟩ | ⟨_, u⟩
        · cases u
        · exact u hb
      | true =>
        have h1 : v1.toInt = 1 := h1
        refine ceq32 h1 (vl (by decide)) (fun u => by omega) (fun _ => io38_ Z1.1 (t_here Z1 IW (vl (by decide) : (42 : Int32).toInt = 42) (by decide) (fun u => yes0 ?_) (fun u => no0 ?_)))
        · unfold vX12_readsState_b90
          rcases hs with hs | ⟨hs, _⟩
          · exact good s0 f1' hb (Or.inl hs)
          · exact absurd u (hs rfl)
        · rcases hs with ⟨_, hs, _⟩ | ⟨_, hs⟩
          · exact absurd hs u
          · exact b82 (fun _ => u) (hs hb)
  have b21 : (any = true → tb W (sk W i) ≠ 42) → gi h1' (A 38 0) 15 30 (fun x1 => gi h1' (A 38 0) 15 24 (fun x2 => ((x2 ≤ (x1 : Int32)) → (vX12_readsState_b49 Qn h1' (A 38 0) v1 99)) ∧ ((¬ x2 ≤ (x1 : Int32)) → (gr h1' (A 38 0) 15 23 (fun r3 => gi h1' (A 38 0) 15 30 (fun x4 => nn r3 (fun a5 => li h1' a5 x4 (fun x6 => vX12_readsState_b49 Qn h1' (A 38 0) v1 (x6 - 65))))))))) := fun u => by
    refine t_at Z1 (fun x1 hx1 => ygi Z1.1 a38 rfl (Z1.len IW) (fun x2 hx2 => cle32 hx2 hx1 (fun y => b49 99 (Or.inr ⟨u, fun q => ?_⟩)) (fun y => g_t63 Z1.1 (t_at Z1 (fun x4 hx4 => nn_i ?_)))))
    · exact absurd (tb_ge (by omega)) q
    · exact yli Z1.1 a63 rfl hx4 (show sk W i < 150 by omega) (Z1.byt (by omega)) (fun x6 h6 => b49 (x6 - 65) (Or.inr ⟨u, fun _ => sub_ti h6 (vl (by decide)) (by omega)⟩))
  cases any with
  | false =>
    have h1 : v1.toInt = 0 := h1
    exact ceq32 h1 (vl (by decide)) (fun _ => b21 (fun u => by cases u)) (fun u => by omega)
  | true =>
    have h1 : v1.toInt = 1 := h1
    exact ceq32 h1 (vl (by decide)) (fun u => by omega) (fun _ => io38_ Z1.1 (t_here Z1 IW (vl (by decide) : (42 : Int32).toInt = 42) (by decide) (fun u => no_pos (b49 (-1) (Or.inl ⟨rfl, u, rfl⟩))) (fun u => ok_pos (b21 (fun _ => u)))))
end RRD
