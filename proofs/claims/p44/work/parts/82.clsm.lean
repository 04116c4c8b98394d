/-! ===== the class: a machine, what it may write ===== -/
def mP (k j i : Nat) : Prop := 21 ≤ j ∧ j ≤ 37 ∧ (j = 35 → 4 * k ≤ i ∧ i < 4 * k + 4) ∧ (j ≠ 35 → i = k)
def Fm (k : Nat) (C0 C : dC) : Prop := ∀ j i f : Nat, ¬ mP k j i → C j i f = C0 j i f
def FmP (k : Nat) (P0 P : dP) : Prop := ∀ j i f : Nat, ¬ mP k j i → P j i f = P0 j i f
theorem Fm.rf (k : Nat) (C : dC) : Fm k C C := fun _ _ _ _ => rfl
theorem FmP.rf (k : Nat) (P : dP) : FmP k P P := fun _ _ _ _ => rfl
theorem Fm.up {k : Nat} {C0 C : dC} {j i f : Nat} {v : Int} (a : Fm k C0 C) (hg : mP k j i) : Fm k C0 (up3 C j i f v) := fun j' i' f' h => by
  rw [up3_ne C v fun z => h (by rw [z.1, z.2.1]; exact hg)]
  exact a j' i' f' h
theorem FmP.up {k : Nat} {P0 P : dP} {j i f : Nat} {v : Option (Nat × Nat)} (a : FmP k P0 P) (hg : mP k j i) : FmP k P0 (up3 P j i f v) := fun j' i' f' h => by
  rw [up3_ne P v fun z => h (by rw [z.1, z.2.1]; exact hg)]
  exact a j' i' f' h
theorem mP_k {k j : Nat} (h : 21 ≤ j ∧ j ≤ 37 ∧ j ≠ 35) : mP k j k := ⟨h.1, h.2.1, fun z => absurd z h.2.2, fun _ => rfl⟩
theorem KS.m {S : dC} {N zz : Nat → Nat} {k : Nat} {C C' : dC} {P P' : dP} (K : KS S N zz C P) (a : Fm k C C') (b : FmP k P P') : KS S N zz C' P' := K.fr (fun j i f hj => a j i f fun z => by have := z.1; omega) (fun j i f hj => b j i f fun z => by have := z.1; omega)
/-- a machine's columns that its slice speaks of -/
theorem CP.keep {S : dC} {k : Nat} {tq : Int} {M : dM} {C C' : dC} {P P' : dP} (J : CP S k tq M C P) (e : ∀ j i f : Nat, (21 ≤ j ∧ j ≤ 28 ∧ i = k) ∨ (j = 33 ∧ i = k) ∨ (j = 35 ∧ 4 * k ≤ i ∧ i < 4 * k + 4) → C' j i f = C j i f) (eP : ∀ j f : Nat, (j = 21 ∨ j = 23 ∨ j = 24) → P' j k f = P j k f) : CP S k tq M C' P' := by
  have a := fun (j f : Nat) (h : (21 ≤ j ∧ j ≤ 28) ∨ j = 33) => e j k f (by omega)
  refine ⟨fun p hp => by rw [a 22 p (by omega)]; exact J.va p hp, by rw [a 21 8 (by omega)]; exact J.cu, by rw [a 21 9 (by omega)]; exact J.tk, by rw [a 33 1 (by omega)]; exact J.fi, by rw [a 21 6 (by omega)]; exact J.fz, by rw [eP 21 4 (by omega)]; exact J.mi, by rw [eP 21 4 (by omega), a 21 5 (by omega)]; exact J.mx, by rw [eP 23 0 (by omega)]; exact J.sa, by rw [a 23 1 (by omega), a 23 2 (by omega), a 23 3 (by omega)]; exact J.ta, by rw [eP 24 0 (by omega), a 24 1 (by omega), a 24 2 (by omega), a 24 3 (by omega)]; exact J.sb, fun z => ⟨by rw [a 25 3 (by omega)]; exact (J.fr z).1, fun i hi => by rw [a 26 i (by omega), a 27 i (by omega), a 28 i (by omega)]; exact (J.fr z).2 i hi⟩, fun e1 w h1 h2 => by rw [e 35 (4 * k + w) _ (by omega)]; exact J.ev e1 w h1 h2, by rw [a 23 3 (by omega), a 23 5 (by omega), a 24 3 (by omega), a 24 5 (by omega)]; exact J.bo⟩
/-- the state of a run of machine k -/
def CQ (h : gH) (A : dA) (N zz : Nat → Nat) (S : dC) (k : Nat) (tq : Int) (C0 : dC) (P0 : dP) (C : dC) (P : dP) (M : dM) : Prop := D h A N zz C P ∧ KS S N zz C P ∧ CP S k tq M C P ∧ Fm k C0 C ∧ FmP k P0 P
/-- machines that have the same numbers where the slice lies -/
theorem CP.cong {S : dC} {k : Nat} {tq : Int} {M M' : dM} {C : dC} {P : dP} (J : CP S k tq M C P) (hm : M 21 ≤ 24) (hv : M 166 ≤ 30) (e : ∀ f, f < 289 → M' f = M f) : CP S k tq M' C P := by
  refine ⟨fun p hp => by rw [e p (by omega)]; exact J.va p hp, by rw [e 11 (by omega)]; exact J.cu, J.tk, by rw [e 288 (by omega)]; exact J.fi, by rw [e 20 (by omega)]; exact J.fz, by rw [e 8 (by omega)]; exact J.mi, by rw [e 8 (by omega), e 9 (by omega), e 10 (by omega)]; exact J.mx, by rw [e 12 (by omega)]; exact J.sa, by rw [e 13 (by omega), e 14 (by omega), e 15 (by omega)]; exact J.ta, by rw [e 8 (by omega), e 16 (by omega), e 17 (by omega), e 18 (by omega), e 19 (by omega)]; exact J.sb, fun z => ?_, fun e1 w h1 h2 => ?_, J.bo⟩
  · rw [e 20 (by omega)] at z
    rw [e 21 (by omega)]
    exact ⟨(J.fr z).1, fun i hi => by rw [e (22 + 3 * i) (by omega), e (23 + 3 * i) (by omega), e (24 + 3 * i) (by omega)]; exact (J.fr z).2 i hi⟩
  · rw [e 166 (by omega)] at h1 ⊢
    rw [e 288 (by omega), e (167 + 4 * e1 + w) (by omega)]
    exact J.ev e1 w h1 h2
section CM
variable {h : gH} {A : dA} {N zz : Nat → Nat} {S C C0 : dC} {P P0 : dP} {t0 k : Nat} {tq tb : Int} {M : dM}
theorem k21 (hk : k < 4) (j : Nat) (hj : 21 ≤ j ∧ j ≤ 37 ∧ j ≠ 35) : ac N j k := ac14 hj hk
/-- writing where the slice does not look: poses and blends -/
theorem CQ.gar {h' : gH} {C' : dC} (Z : CQ h A N zz S k tq C0 P0 C P M) (R' : D h' A N zz C' P) (e : ∀ j i f : Nat, ¬ ((29 ≤ j ∧ j ≤ 32 ∨ j = 37) ∧ i = k) → C' j i f = C j i f) : CQ h' A N zz S k tq C0 P0 C' P M := by
  obtain ⟨R, K, J, F, G⟩ := Z
  exact ⟨R', K.fr (fun j i f hj => e j i f (by omega)) (fun _ _ _ _ => rfl), J.keep (fun j i f hj => e j i f (by omega)) (fun _ _ _ => rfl), fun j i f hj => (e j i f fun z => hj ⟨by omega, by omega, fun y => by omega, fun _ => z.2⟩).trans (F j i f hj), G⟩
/-! blends -/
theorem c_fill {Qn : gH → Prop} {v2 : Int32} {n : Nat} {w : Int} {V : Nat → Int} (hk : k < 4) (I : SI S) (hVb : ∀ p : Nat, p < 8 → -100 ≤ V p ∧ V p ≤ 100) (R : D h A N zz C P) (K : KS S N zz C P) (hV : ∀ p : Nat, p < 8 → C 22 k p = V p) (hn : n < N 1) (hc : S 49 0 n ≠ -1 ∨ 0 < S 51 0 n) (h2 : v2.toInt = w) (hw : 0 ≤ w ∧ w ≤ 1000000) (k0 : ∀ (h' : gH) (C' : dC), D h' A N zz C' P → Kb C C' k → (∀ c : Nat, c < 12 → C' 37 k c = bl S V 4 n w c) → Qn h') : vX0_fill t0 Qn h (A 36 k) (some (A 12 (n + 1))) v2 (some (A 22 k)) := by
  have a36 : ac N 36 k := hk
  have a37 : ac N 37 k := hk
  have s36 : dS 36 k 0 = some (37, k) := rfl
  have lp : ∀ (m i : Nat) (h : gH) (C1 : dC) (v4 : Int32), D h A N zz C1 P → Kb C C1 k → (∀ c : Nat, c < i → C1 37 k c = 0) → v4.toInt = (i : Int) → i + m = 12 → vX0_fill_b3 t0 Qn (m + 1) h (A 36 k) (some (A 12 (n + 1))) v2 (some (A 22 k)) v4 := by
    intro m
    induction m with
    | zero =>
      intro i h C1 v4 R1 B1 z1 h4 him
      have him : i = 12 := by omega
      subst him
      show vX0_fill_b3_o t0 (vX0_fill_b3 t0 Qn 0) Qn _ _ _ _ _ _
      unfold vX0_fill_b3_o
      refine wgrs R1 a36 rfl s36 (nn_i (yal R1 a37 (by decide) (n := 12) rfl (by decide) (fun x hx => ?_)))
      refine cle32 hx h4 (fun _ => wgrs R1 a36 rfl s36 ?_) (fun z => absurd (Int.le_refl _) z)
      refine c_parts hk I hVb Qn h C1 n w v2 1 R1 (K.fr (fun j i f hj => B1 j i f (by omega)) (fun _ _ _ _ => rfl)) (fun p hp => by rw [B1 22 k p (by omega)]; exact hV p hp) hn hc h2 hw (by decide) (fun c hc => by rw [z1 c hc]; omega) (fun h' C' R' B' e' => k0 h' C' R' (fun j i f hj => (B' j i f hj).trans (B1 j i f hj)) (fun c hc => by rw [e' c hc, z1 c hc]; omega))
    | succ m ih =>
      intro i h C1 v4 R1 B1 z1 h4 him
      show vX0_fill_b3_o t0 (vX0_fill_b3 t0 Qn (m + 1)) Qn _ _ _ _ _ _
      unfold vX0_fill_b3_o
      refine wgrs R1 a36 rfl s36 (nn_i (yal R1 a37 (by decide) (n := 12) rfl (by decide) (fun x hx => ?_)))
      refine cle32 hx h4 (fun z => absurd z (by omega)) (fun _ => wgrs R1 a36 rfl s36 (nn_i ?_))
      refine wsi R1 a37 rfl (m := i) h4 (show i < 12 by omega) (vl (by decide)) (fun h' R' => ih (i + 1) h' _ (v4 + 1) R' (fun j i' f hj => (up3_off_ _ _ hj).trans (B1 j i' f hj)) (fun c hc => ?_) (ix_add h4 (ix_lit (by decide)) (by omega)) (by omega))
      simp only [up3, eq_self, asb, Nat.add_zero, Nat.zero_add, Nat.reduceEqDiff, false_and, and_false, and_true, true_and, if_true, if_false, ↓reduceIte]
      split
      · rfl
      · exact z1 c (by omega)
  unfold vX0_fill
  exact ⟨13, lp 12 0 h C 0 R (fun _ _ _ _ => rfl) (fun c hc => absurd hc (Nat.not_lt_zero c)) (by decide) rfl⟩
theorem c_weight {Qn : Int32 → gH → Prop} {v1 : Int32} {c : Nat} {w : Int} (hk : k < 4) (R : D h A N zz C P) (h1 : v1.toInt = (c : Int)) (hc : c < 12) (e : C 37 k c = w) (k0 : ∀ x : Int32, x.toInt = w → Qn x h) : vX0_weightOf t0 Qn h (A 36 k) v1 := by
  have a36 : ac N 36 k := hk
  have a37 : ac N 37 k := hk
  have s36 : dS 36 k 0 = some (37, k) := rfl
  unfold vX0_weightOf vX0_weightOf_b22 vX0_weightOf_b23
  refine clt32 h1 (vl (by decide)) (fun z => by omega) (fun _ => ?_)
  refine wgrs R a36 rfl s36 (nn_i (yal R a37 (by decide) (n := 12) rfl (by decide) (fun x hx => ?_)))
  refine cle32 hx h1 (fun z => by omega) (fun _ => wgrs R a36 rfl s36 (nn_i ?_))
  exact yli R a37 rfl h1 (show c < 12 from hc) e k0
/-- the machine's fixed parts -/
theorem m_mod {K : Option Nat → Prop} (hk : k < 4) (R : D h A N zz C P) (k0 : K (some (A 4 0))) : gr h (A 21 k) 6 0 K := wgrs R (j := 21) hk rfl (show dS 21 k 0 = some (4, 0) from rfl) k0
theorem m_val {K : Option Nat → Prop} (hk : k < 4) (R : D h A N zz C P) (k0 : K (some (A 22 k))) : gr h (A 21 k) 6 1 K := wgrs R (j := 21) hk rfl (show dS 21 k 1 = some (22, k) from rfl) k0
theorem m_src {K : Option Nat → Prop} (hk : k < 4) (R : D h A N zz C P) (k0 : K (some (A 23 k))) : gr h (A 21 k) 6 2 K := wgrs R (j := 21) hk rfl (show dS 21 k 2 = some (23, k) from rfl) k0
theorem m_tgt {K : Option Nat → Prop} (hk : k < 4) (R : D h A N zz C P) (k0 : K (some (A 24 k))) : gr h (A 21 k) 6 3 K := wgrs R (j := 21) hk rfl (show dS 21 k 3 = some (24, k) from rfl) k0
theorem m_fzp {K : Option Nat → Prop} (hk : k < 4) (R : D h A N zz C P) (k0 : K (some (A 25 k))) : gr h (A 21 k) 6 7 K := wgrs R (j := 21) hk rfl (show dS 21 k 7 = some (25, k) from rfl) k0
theorem m_log {K : Option Nat → Prop} (hk : k < 4) (R : D h A N zz C P) (k0 : K (some (A 33 k))) : gr h (A 21 k) 6 10 K := wgrs R (j := 21) hk rfl (show dS 21 k 10 = some (33, k) from rfl) k0
theorem m_bld {K : Option Nat → Prop} (hk : k < 4) (R : D h A N zz C P) (k0 : K (some (A 36 k))) : gr h (A 21 k) 6 11 K := wgrs R (j := 21) hk rfl (show dS 21 k 11 = some (36, k) from rfl) k0
theorem m_pos {K : Option Nat → Prop} (hk : k < 4) (R : D h A N zz C P) (k0 : K (some (A 29 k))) : gr h (A 21 k) 6 12 K := wgrs R (j := 21) hk rfl (show dS 21 k 12 = some (29, k) from rfl) k0
theorem a40 : ac N 4 0 := ⟨Nat.one_pos, by decide⟩
theorem m_cls {K : Option Nat → Prop} (R : D h A N zz C P) (k0 : K (some (A 6 0))) : gr h (A 4 0) 7 2 K := wgrs R a40 rfl (show dS 4 0 2 = some (6, 0) from rfl) k0
theorem m_nds {K : Option Nat → Prop} (R : D h A N zz C P) (k0 : K (some (A 6 1))) : gr h (A 4 0) 7 3 K := wgrs R a40 rfl (show dS 4 0 3 = some (6, 1) from rfl) k0
theorem m_sts {K : Option Nat → Prop} (R : D h A N zz C P) (k0 : K (some (A 6 2))) : gr h (A 4 0) 7 4 K := wgrs R a40 rfl (show dS 4 0 4 = some (6, 2) from rfl) k0
theorem m_trs {K : Option Nat → Prop} (R : D h A N zz C P) (k0 : K (some (A 6 3))) : gr h (A 4 0) 7 5 K := wgrs R a40 rfl (show dS 4 0 5 = some (6, 3) from rfl) k0
theorem iom {K : Prop} (hk : k < 4) (R : D h A N zz C P) (k0 : K) : io h (A 21 k) 6 K := wio R (j := 21) hk rfl (by decide) k0
theorem ioj {K : Prop} {j ci : Nat} (hj : 21 ≤ j ∧ j ≤ 37 ∧ j ≠ 35) (hk : k < 4) (R : D h A N zz C P) (ho : dK1 j = ci) (hc : ci < 99) (k0 : K) : io h (A j k) ci K := wio R (k21 hk j hj) ho hc k0
theorem st_in {s : Nat} (K : KS S N zz C P) (hs : (s : Int) < S 38 0 19) : ac N 14 (s + 1) := show s + 1 < N 2 + 1 by have := K.nn; omega
theorem cl_in {c : Nat} (K : KS S N zz C P) (hc : (c : Int) < S 38 0 8) : ac N 9 (c + 1) := show c + 1 < N 0 + 1 by have := K.nn; omega
/-! lengths, steps -/
theorem c_length {Qn : Int32 → gH → Prop} {s : Nat} (hk : k < 4) (Z : CQ h A N zz S k tq C0 P0 C P M) (I : SI S) (hVb : ∀ p : Nat, p < 8 → -100 ≤ M p ∧ M p ≤ 100) (hs : (s : Int) < S 38 0 19) (k0 : ∀ (x : Int32) (h' : gH) (C' : dC), CQ h' A N zz S k tq C0 P0 C' P M → Kb C C' k → x.toInt = lenS S M s → Qn x h') : vX3_lengthOf t0 Qn h (A 21 k) (some (A 14 (s + 1))) := by
  obtain ⟨R, K, J, F, G⟩ := id Z
  have nn := K.nn
  have i0 := I.nc
  have mo := I.mo s hs
  have mc := I.mc s hs
  have st := K.st s (by omega)
  have sz := K.sz
  have hnc : ((nC S : Nat) : Int) = S 38 0 8 := by unfold nC; omega
  unfold vX3_lengthOf
  refine m_bld hk R (nn_i (ygr R (st_in K hs) rfl st.2.1 (m_val hk R (nn_i (ioj (j := 36) (by decide) hk R rfl (by decide) ?_)))))
  refine c_fill hk I hVb R K J.va (by omega) mc (vl (by decide)) (w := 1000000) (by decide) (fun h' C' R' B' e' => ?_)
  have Z' := Z.gar R' (fun j i f hj => B' j i f (by omega))
  obtain ⟨_, K', J', F', G'⟩ := id Z'
  have sz' := K'.sz
  have lp : ∀ (m c : Nat) (v2 : Int64) (v4 : Int32), v2.toInt = lsum S M s c → v4.toInt = (c : Int) → c + m = nC S → vX3_lengthOf_b22 t0 Qn (m + 1) h' (A 21 k) v2 v4 := by
    intro m
    induction m with
    | zero =>
      intro c v2 v4 h2 h4 hm
      have hm : c = nC S := by omega
      subst hm
      have b1 := lsum_in I M (n := nC S) hs (by omega)
      have h5 : (v2 / 1000000).toInt = lsum S M s (nC S) / 1000000 := divL_ti h2 (vlL (by decide)) (by omega) (by decide)
      have ls : lenS S M s = if lsum S M s (nC S) / 1000000 < 1 then 1 else lsum S M s (nC S) / 1000000 := rfl
      show vX3_lengthOf_b22_o t0 (vX3_lengthOf_b22 t0 Qn 0) Qn _ _ _ _
      unfold vX3_lengthOf_b22_o vJ9_max_f86c9 vJ9_max_f86c9_b11
      refine m_mod hk R' (nn_i (m_cls R' (nn_i (wio R' (j := 6) (i := 0) (Nat.zero_lt_succ _) rfl (by decide) (ysize R' (Nat.zero_lt_succ _) (fun x hx => ?_))))))
      refine cle32 hx h4 (fun _ => ⟨ne_ti ⟨vlL (by decide), by decide⟩, ?_⟩) (fun z => by omega)
      refine clt64 h5 (vlL (by decide)) (fun z => k0 _ h' C' Z' B' ?_) (fun z => k0 _ h' C' Z' B' ?_)
      · rw [ls, if_pos z]; decide
      · rw [ls, if_neg z]; exact nar_ti h5 (by omega)
    | succ m ih =>
      intro c v2 v4 h2 h4 hm
      have b1 := lsum_in I M (n := c) hs (by omega)
      have b2 := lsum_in I M (n := c + 1) hs (by omega)
      have b3 : lsum S M s (c + 1) = lsum S M s c + bw S M s 1000000 c * S 44 0 c := fb_si_succ _ _
      have b4 := I.cl c (by omega)
      have b5 := bw_in I M (s := s) (w := 1000000) c hs (by decide)
      have b6 : 0 ≤ bw S M s 1000000 c * S 44 0 c := Int.mul_nonneg b5.1 (by omega)
      have kc := K'.cl c (by omega)
      show vX3_lengthOf_b22_o t0 (vX3_lengthOf_b22 t0 Qn (m + 1)) Qn _ _ _ _
      unfold vX3_lengthOf_b22_o
      refine m_mod hk R' (nn_i (m_cls R' (nn_i (wio R' (j := 6) (i := 0) (Nat.zero_lt_succ _) rfl (by decide) (ysize R' (Nat.zero_lt_succ _) (fun x hx => ?_))))))
      refine cle32 hx h4 (fun z => by omega) (fun _ => m_bld hk R' (nn_i (ioj (j := 36) (by decide) hk R' rfl (by decide) ?_)))
      refine c_weight hk R' h4 (by omega) (e' c (by omega)) (fun x12 h12 => ?_)
      refine m_mod hk R' (nn_i (m_cls R' (nn_i (wio R' (j := 6) (i := 0) (Nat.zero_lt_succ _) rfl (by decide) ?_))))
      refine yget R' K' (Nat.zero_lt_succ _) h4 (by omega) (fun a ha => K'.e0 a c ha (by omega)) (nn_i (wio R' (cl_in K' (by omega)) rfl (by decide) ?_))
      refine ygi R' (cl_in K' (by omega)) rfl kc.2.1 (fun x20 h20 => ih (c + 1) _ _ ?_ (ix_add h4 (ix_lit (by decide)) (by omega)) (by omega))
      rw [b3]
      have h12 : x12.toInt = bw S M s 1000000 c := h12
      have b7 : bw S M s 1000000 c * S 44 0 c ≤ 500000000 := by omega
      exact addL_ti h2 (mulL_ti (wid_ti h12) (wid_ti h20) (by omega)) (by omega)
  exact ⟨nC S + 1, lp (nC S) 0 0 0 (by show (0 : Int64).toInt = 0; decide) (by decide) (by omega)⟩
end CM
