/-! ===== the class: a machine is copied ===== -/
section CY
variable {h : gH} {A : dA} {N zz : Nat → Nat} {S C C0 : dC} {P P0 : dP} {t0 k k' : Nat} {tq tb : Int} {M : dM}
theorem CP.copy {C' : dC} {P' : dP} (J : CP S k' tq M C P) (hm : M 21 ≤ 24) (a : ∀ p : Nat, p < 8 → C' 22 k p = C 22 k' p) (b : C' 21 k 5 = C 21 k' 5 ∧ C' 21 k 6 = C 21 k' 6 ∧ C' 21 k 8 = C 21 k' 8 ∧ C' 21 k 9 = C 21 k' 9) (c : P' 21 k 4 = P 21 k' 4 ∧ P' 23 k 0 = P 23 k' 0 ∧ P' 24 k 0 = P 24 k' 0) (d : ∀ f, 1 ≤ f → f ≤ 5 → C' 23 k f = C 23 k' f ∧ C' 24 k f = C 24 k' f) (e : C' 25 k 3 = C 25 k' 3) (g : ∀ f, f < 32 → C' 26 k f = C 26 k' f ∧ C' 27 k f = C 27 k' f ∧ C' 28 k f = C 28 k' f) (l : C' 33 k 1 = C 33 k' 1) (r : ∀ w f : Nat, w < 4 → f < 30 → C' 35 (4 * k + w) f = C 35 (4 * k' + w) f) : CP S k tq M C' P' := by
  have d1 := fun f h1 h2 => (d f h1 h2).1
  have d2 := fun f h1 h2 => (d f h1 h2).2
  refine ⟨fun p hp => (a p hp).trans (J.va p hp), by rw [b.2.2.1]; exact J.cu, by rw [b.2.2.2]; exact J.tk, l.trans J.fi, by rw [b.2.1]; exact J.fz, by rw [c.1]; exact J.mi, by rw [c.1, b.1]; exact J.mx, by rw [c.2.1]; exact J.sa, by rw [d1 1 (by decide) (by decide), d1 2 (by decide) (by decide), d1 3 (by decide) (by decide)]; exact J.ta, by rw [c.2.2, d2 1 (by decide) (by decide), d2 2 (by decide) (by decide), d2 3 (by decide) (by decide)]; exact J.sb, fun z => ⟨e.trans (J.fr z).1, fun i hi => ?_⟩, fun x w h1 h2 => ?_, by rw [d1 3 (by decide) (by decide), d1 5 (by decide) (by decide), d2 3 (by decide) (by decide), d2 5 (by decide) (by decide)]; exact J.bo⟩
  · obtain ⟨g1, g2, g3⟩ := g i (by omega)
    rw [g1, g2, g3]
    exact (J.fr z).2 i hi
  · rw [r w _ h2 (Nat.mod_lt _ (by decide))]
    exact J.ev x w h1 h2
theorem c_lcopy {Qn : gH → Prop} (hk : k < 4) (hk' : k' < 4) (hne : k ≠ k') (R : D h A N zz C P) (k0 : ∀ (h' : gH) (C' : dC), D h' A N zz C' P → (∀ j i f : Nat, ¬ (j = 33 ∧ i = k) → ¬ (j = 35 ∧ 4 * k ≤ i ∧ i < 4 * k + 4) → C' j i f = C j i f) → C' 33 k 1 = C 33 k' 1 → (∀ w f : Nat, w < 4 → f < 30 → C' 35 (4 * k + w) f = C 35 (4 * k' + w) f) → Qn h') : vX2_copyFrom t0 Qn h (A 33 k) (some (A 33 k')) := by
  have a33 : ac N 33 k := hk
  have a33' : ac N 33 k' := hk'
  have a35 : ∀ k w, k < 4 → w < 4 → ac N 35 (4 * k + w) := fun k w h1 h2 => show 4 * k + w < 16 by omega
  have z0 : (0 : Int32).toInt = ((0 : Nat) : Int) := by decide
  have z30 : (30 : Int32).toInt = ((30 : Nat) : Int) := by decide
  have lp : ∀ (m i : Nat) (h' : gH) (C' : dC) (v2 : Int32), D h' A N zz C' P → (∀ j i f : Nat, ¬ (j = 33 ∧ i = k) → ¬ (j = 35 ∧ 4 * k ≤ i ∧ i < 4 * k + 4) → C' j i f = C j i f) → C' 33 k 1 = C 33 k' 1 → (∀ w f : Nat, w < i → f < 30 → C' 35 (4 * k + w) f = C 35 (4 * k' + w) f) → v2.toInt = (i : Int) → i + m = 4 → vX2_copyFrom_b10 t0 Qn (m + 1) h' (A 33 k) (some (A 33 k')) v2 := by
    intro m
    induction m with
    | zero =>
      intro i h' C' v2 R' f' e33 e35 h2 hm
      show vX2_copyFrom_b10_o t0 (vX2_copyFrom_b10 t0 Qn 0) Qn _ _ _ _
      unfold vX2_copyFrom_b10_o
      exact cle32 (vl (by decide)) h2 (fun _ => k0 h' C' R' f' e33 (fun w f hw hf => e35 w f (by omega) hf)) (fun z => by omega)
    | succ m ih =>
      intro i h' C' v2 R' f' e33 e35 h2 hm
      show vX2_copyFrom_b10_o t0 (vX2_copyFrom_b10 t0 Qn (m + 1)) Qn _ _ _ _
      unfold vX2_copyFrom_b10_o
      refine cle32 (vl (by decide)) h2 (fun z => by omega) (fun _ => nn_i ?_)
      refine l_props hk' R' (nn_i (l_row hk' R' (w := i) h2 (by omega) (l_props hk R' (nn_i (l_row hk R' (w := i) h2 (by omega) (nn_i (nn_i ?_)))))))
      refine R'.cpi (a35 k' i hk' (by omega)) (a35 k i hk (by omega)) rfl rfl rfl rfl z0 z0 z30 (show 0 + 30 ≤ 30 by decide) (show 0 + 30 ≤ 30 by decide) (fun h8 R8 => ?_)
      refine ih (i + 1) h8 _ _ R8 (fun j i f h1 h2 => ?_) ?_ (fun w f hw hf => ?_) (ix_add h2 (ix_lit (by decide)) (by omega)) (by omega)
      · rw [cpC_ne _ (by omega)]; exact f' j i f h1 h2
      · rw [cpC_ne _ (by omega)]; exact e33
      · by_cases z : w = i
        · rw [z, cpC_in _ ⟨Nat.zero_le f, by omega⟩, show 0 + (f - 0) = f by omega]
          exact f' 35 _ f (by omega) (by omega)
        · rw [cpC_ne _ (by omega)]
          exact e35 w f (by omega) hf
  unfold vX2_copyFrom
  refine nn_i (ygi R a33' rfl rfl (fun x2 h2 => wpvI R a33 rfl h2 (fun h3 R3 => ⟨5, ?_⟩)))
  exact lp 4 0 h3 _ 0 R3 (fun j i f h1 h2 => up3_ne _ _ (by omega)) (up3_same _ _ _ _ _) (fun w f hw _ => by omega) (by decide) (by decide)
theorem c_mcopy {Qn : gH → Prop} (hk : k < 4) (hk' : k' < 4) (hne : k ≠ k') (R : D h A N zz C P) (K : KS S N zz C P) (J : CP S k' tq M C P) (hm : M 21 ≤ 24) (h20 : M 20 = 0 ∨ M 20 = 1) (k0 : ∀ (h' : gH) (C' : dC) (P' : dP), CQ h' A N zz S k tq C P C' P' M → Qn h') : vX3_copyFrom t0 Qn h (A 21 k) (some (A 21 k')) := by
  have a21 : ac N 21 k := hk
  have a21' : ac N 21 k' := hk'
  have a22 : ac N 22 k := hk
  have a22' : ac N 22 k' := hk'
  have bo := J.bo
  have z0 : (0 : Int32).toInt = ((0 : Nat) : Int) := by decide
  have z8 : (8 : Int32).toInt = ((8 : Nat) : Int) := by decide
  unfold vX3_copyFrom
  refine nn_i (m_val hk' R (m_val hk R (nn_i (nn_i ?_))))
  refine R.cpi a22' a22 rfl rfl rfl rfl z0 z0 z8 (show 0 + 8 ≤ 8 by decide) (show 0 + 8 ≤ 8 by decide) (fun h1 R1 => ?_)
  have F1 : ∀ j i f : Nat, ¬ (j = 22 ∧ i = k) → cpC C 22 k' 0 22 k 0 8 j i f = C j i f := fun j i f hj => cpC_ne _ hj
  have E1 : ∀ p : Nat, p < 8 → cpC C 22 k' 0 22 k 0 8 22 k p = C 22 k' p := fun p hp => by rw [cpC_in _ ⟨Nat.zero_le p, by omega⟩, show 0 + (p - 0) = p by omega]
  generalize cpC C 22 k' 0 22 k 0 8 = C1 at *
  have hne' : k' ≠ k := fun z => hne z.symm
  refine m_src hk R1 (m_src hk' R1 (nn_i (ioj (j := 23) (by decide) hk R1 rfl (by decide) ?_)))
  refine c_tcopy (j := 23) (j' := 23) (Or.inl rfl) (Or.inl rfl) (by omega) hk hk' R1 (by rw [F1 _ _ _ (by omega)]; exact bo.1) (by rw [F1 _ _ _ (by omega)]; exact bo.2.1) (fun h2 C2 R2 F2 E2 => ?_)
  have P1 : ∀ j i f : Nat, ¬ (j = 23 ∧ i = k ∧ f = 0) → up3 P 23 k 0 (P 23 k' 0) j i f = P j i f := fun j i f hj => up3_ne _ _ hj
  have P1s : up3 P 23 k 0 (P 23 k' 0) 23 k 0 = P 23 k' 0 := up3_same _ _ _ _ _
  generalize up3 P 23 k 0 (P 23 k' 0) = P2 at *
  refine m_tgt hk R2 (m_tgt hk' R2 (nn_i (ioj (j := 24) (by decide) hk R2 rfl (by decide) ?_)))
  refine c_tcopy (j := 24) (j' := 24) (Or.inr rfl) (Or.inr rfl) (by omega) hk hk' R2 (by rw [F2 _ _ _ (by omega), F1 _ _ _ (by omega)]; exact bo.2.2.1) (by rw [F2 _ _ _ (by omega), F1 _ _ _ (by omega)]; exact bo.2.2.2) (fun h3 C3 R3 F3 E3 => ?_)
  rw [P1 24 k' 0 (by omega)] at R3
  have P2n : ∀ j i f : Nat, ¬ (j = 24 ∧ i = k ∧ f = 0) → up3 P2 24 k 0 (P 24 k' 0) j i f = P2 j i f := fun j i f hj => up3_ne _ _ hj
  have P2s : up3 P2 24 k 0 (P 24 k' 0) 24 k 0 = P 24 k' 0 := up3_same _ _ _ _ _
  generalize up3 P2 24 k 0 (P 24 k' 0) = P3 at *
  have F3' : ∀ j i f : Nat, ¬ ((22 ≤ j ∧ j ≤ 24) ∧ i = k) → C3 j i f = C j i f := fun j i f hj => by rw [F3 _ _ _ (by omega), F2 _ _ _ (by omega), F1 _ _ _ (by omega)]
  have V3 : ∀ p : Nat, p < 8 → C3 22 k p = C 22 k' p := fun p hp => by rw [F3 _ _ _ (by omega), F2 _ _ _ (by omega)]; exact E1 p hp
  have T3 : ∀ f, 1 ≤ f → f ≤ 5 → C3 23 k f = C 23 k' f ∧ C3 24 k f = C 24 k' f := fun f f1 f5 => ⟨by rw [F3 _ _ _ (by omega), E2 f f1 f5, F1 _ _ _ (by omega)], by rw [E3 f f1 f5, F2 _ _ _ (by omega), F1 _ _ _ (by omega)]⟩
  clear E1 E2 E3 F1 F2 F3 R1 R2
  refine ygm R3 a21' rfl (ypvQ R3 a21 rfl rfl (fun q hq => R3.cl a21' (dRc_K (j := 21) (f := 4) (ci := 6) rfl) hq) (fun h4 R4 => ?_))
  have P4n : ∀ j i f : Nat, ¬ (j = 21 ∧ i = k ∧ f = 4) → up3 P3 21 k 4 (P3 21 k' 4) j i f = P3 j i f := fun j i f hj => up3_ne _ _ hj
  have P4s : up3 P3 21 k 4 (P3 21 k' 4) 21 k 4 = P3 21 k' 4 := up3_same _ _ _ _ _
  generalize up3 P3 21 k 4 (P3 21 k' 4) = P4 at *
  have PF : ∀ j i f : Nat, ¬ (j = 23 ∧ i = k ∧ f = 0) → ¬ (j = 24 ∧ i = k ∧ f = 0) → ¬ (j = 21 ∧ i = k ∧ f = 4) → P4 j i f = P j i f := fun j i f a b c => by rw [P4n _ _ _ c, P2n _ _ _ b, P1 _ _ _ a]
  have PE : P4 21 k 4 = P 21 k' 4 ∧ P4 23 k 0 = P 23 k' 0 ∧ P4 24 k 0 = P 24 k' 0 := ⟨by rw [P4s, P2n _ _ _ (by omega), P1 _ _ _ (by omega)], by rw [P4n _ _ _ (by omega), P2n _ _ _ (by omega), P1s], by rw [P4n _ _ _ (by omega), P2s]⟩
  clear P1 P1s P2n P2s P4n P4s
  have j20 := J.fz
  refine ygi R4 a21' rfl (v := C 21 k' 5) (F3' _ _ _ (by omega)) (fun x17 h17 => wpvI R4 a21 rfl h17 (fun h5 R5 => ?_))
  refine ygi R5 a21' rfl (v := C 21 k' 6) (by rw [up3_ne _ _ (by omega)]; exact F3' _ _ _ (by omega)) (fun x19 h19 => ⟨gZ_of (by rw [h19]; omega), wpvI R5 a21 rfl h19 (fun h6 R6 => ?_)⟩)
  have F6 : ∀ j i f : Nat, ¬ (21 ≤ j ∧ j ≤ 24 ∧ i = k) → up3 (up3 C3 21 k 5 (C 21 k' 5)) 21 k 6 (C 21 k' 6) j i f = C j i f := fun j i f hj => by rw [up3_ne _ _ (by omega), up3_ne _ _ (by omega)]; exact F3' _ _ _ (by omega)
  have G6 : ∀ j i f : Nat, ¬ (j = 21 ∧ i = k) → up3 (up3 C3 21 k 5 (C 21 k' 5)) 21 k 6 (C 21 k' 6) j i f = C3 j i f := fun j i f hj => by rw [up3_ne _ _ (by omega), up3_ne _ _ (by omega)]
  have E6 : up3 (up3 C3 21 k 5 (C 21 k' 5)) 21 k 6 (C 21 k' 6) 21 k 5 = C 21 k' 5 ∧ up3 (up3 C3 21 k 5 (C 21 k' 5)) 21 k 6 (C 21 k' 6) 21 k 6 = C 21 k' 6 := ⟨by rw [up3_ne _ _ (by omega), up3_same], up3_same _ _ _ _ _⟩
  generalize up3 (up3 C3 21 k 5 (C 21 k' 5)) 21 k 6 (C 21 k' 6) = C6 at *
  refine m_fzp hk R6 (m_fzp hk' R6 (nn_i (ioj (j := 25) (by decide) hk R6 rfl (by decide) ?_)))
  refine c_pcopy (sj := 25) (Or.inl ⟨rfl, hne'⟩) hk hk' R6 (fun h7 C7 R7 F7 e25 e26 => ?_)
  refine ygi R7 a21' rfl (v := C 21 k' 8) (by rw [F7 _ _ _ (by omega)]; exact F6 _ _ _ (by omega)) (fun x25 h25 => wpvI R7 a21 rfl h25 (fun h8 R8 => ?_))
  refine ygi R8 a21' rfl (v := C 21 k' 9) (by rw [up3_ne _ _ (by omega), F7 _ _ _ (by omega)]; exact F6 _ _ _ (by omega)) (fun x27 h27 => wpvI R8 a21 rfl h27 (fun h9 R9 => ?_))
  have F9 : ∀ j i f : Nat, ¬ (21 ≤ j ∧ j ≤ 28 ∧ i = k) → up3 (up3 C7 21 k 8 (C 21 k' 8)) 21 k 9 (C 21 k' 9) j i f = C j i f := fun j i f hj => by rw [up3_ne _ _ (by omega), up3_ne _ _ (by omega), F7 _ _ _ (by omega)]; exact F6 _ _ _ (by omega)
  have G9 : ∀ j i f : Nat, ¬ (j = 21 ∧ i = k ∧ (f = 8 ∨ f = 9)) → up3 (up3 C7 21 k 8 (C 21 k' 8)) 21 k 9 (C 21 k' 9) j i f = C7 j i f := fun j i f hj => by rw [up3_ne _ _ (by omega), up3_ne _ _ (by omega)]
  have E9 : up3 (up3 C7 21 k 8 (C 21 k' 8)) 21 k 9 (C 21 k' 9) 21 k 8 = C 21 k' 8 ∧ up3 (up3 C7 21 k 8 (C 21 k' 8)) 21 k 9 (C 21 k' 9) 21 k 9 = C 21 k' 9 := ⟨by rw [up3_ne _ _ (by omega), up3_same], up3_same _ _ _ _ _⟩
  generalize up3 (up3 C7 21 k 8 (C 21 k' 8)) 21 k 9 (C 21 k' 9) = C9 at *
  refine m_log hk R9 (m_log hk' R9 (nn_i (ioj (j := 33) (by decide) hk R9 rfl (by decide) ?_)))
  refine c_lcopy hk hk' hne R9 (fun h10 C10 R10 F10 e33 e35 => ?_)
  have FA : Fm k C C10 := fun j i f hj => by
    have u : ¬ (21 ≤ j ∧ j ≤ 34 ∧ i = k) := fun z => hj (by rw [z.2.2]; exact mP_k (by omega))
    have w : ¬ (j = 35 ∧ 4 * k ≤ i ∧ i < 4 * k + 4) := fun z => hj ⟨by omega, by omega, fun _ => z.2, fun y => absurd z.1 y⟩
    rw [F10 _ _ _ (by omega) w]
    exact F9 _ _ _ (by omega)
  have FP : FmP k P P4 := fun j i f hj => PF j i f (fun z => hj (by rw [z.1, z.2.1]; exact mP_k (by decide))) (fun z => hj (by rw [z.1, z.2.1]; exact mP_k (by decide))) (fun z => hj (by rw [z.1, z.2.1]; exact mP_k (by decide)))
  refine k0 h10 C10 P4 ⟨R10, K.m FA FP, J.copy hm (fun p hp => ?_) ⟨?_, ?_, ?_, ?_⟩ PE (fun f f1 f5 => ⟨?_, ?_⟩) ?_ (fun f hf => ?_) ?_ (fun w f hw hf => ?_), FA, FP⟩
  · rw [F10 _ _ _ (by omega) (by omega), G9 _ _ _ (by omega), F7 _ _ _ (by omega), G6 _ _ _ (by omega)]; exact V3 p hp
  · rw [F10 _ _ _ (by omega) (by omega), G9 _ _ _ (by omega), F7 _ _ _ (by omega)]; exact E6.1
  · rw [F10 _ _ _ (by omega) (by omega), G9 _ _ _ (by omega), F7 _ _ _ (by omega)]; exact E6.2
  · rw [F10 _ _ _ (by omega) (by omega)]; exact E9.1
  · rw [F10 _ _ _ (by omega) (by omega)]; exact E9.2
  · rw [F10 _ _ _ (by omega) (by omega), G9 _ _ _ (by omega), F7 _ _ _ (by omega), G6 _ _ _ (by omega)]; exact (T3 f f1 f5).1
  · rw [F10 _ _ _ (by omega) (by omega), G9 _ _ _ (by omega), F7 _ _ _ (by omega), G6 _ _ _ (by omega)]; exact (T3 f f1 f5).2
  · rw [F10 _ _ _ (by omega) (by omega), G9 _ _ _ (by omega), e25]; exact F6 _ _ _ (by omega)
  · obtain ⟨y1, y2, y3⟩ := e26 f hf
    refine ⟨?_, ?_, ?_⟩
    · rw [F10 _ _ _ (by omega) (by omega), G9 _ _ _ (by omega), y1]; exact F6 _ _ _ (by omega)
    · rw [F10 _ _ _ (by omega) (by omega), G9 _ _ _ (by omega), y2]; exact F6 _ _ _ (by omega)
    · rw [F10 _ _ _ (by omega) (by omega), G9 _ _ _ (by omega), y3]; exact F6 _ _ _ (by omega)
  · rw [e33]; exact F9 _ _ _ (by omega)
  · rw [e35 w f hw hf]; exact F9 _ _ _ (by omega)
end CY
