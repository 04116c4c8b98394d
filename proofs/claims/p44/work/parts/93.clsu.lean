/-! ===== the class: events, poses, ticks, what is foretold ===== -/
section CU
variable {h : gH} {A : dA} {N zz : Nat → Nat} {S C C0 : dC} {P P0 : dP} {t0 k : Nat} {tq tb : Int} {M : dM}
theorem c_kept {Qn : Int32 → gH → Prop} (hk : k < 4) (R : D h A N zz C P) (JC : CP S k tq M C P) (ev : 0 ≤ M 166 ∧ M 166 ≤ 30 ∧ (M 288 ≤ 30 → M 166 = M 288) ∧ (30 ≤ M 288 → M 166 = 30)) (k0 : ∀ x : Int32, x.toInt = M 166 → Qn x h) : vX2_kept t0 Qn h (A 33 k) := by
  unfold vX2_kept vJ9_min_7cf53 vJ9_min_7cf53_b10
  refine ygi R (show ac N 33 k from hk) rfl JC.fi (fun x1 h1 => clt32 (vl (by decide)) h1 (fun z => k0 _ ?_) (fun z => k0 _ (by omega)))
  rw [ev.2.2.2 (by omega)]
  decide
theorem q_event {Qn : Int32 → gH → Prop} {Qx : String → gH → Prop} {v w : Int32} (Z : CQ h A N zz S 0 tq C0 P0 C P M) (J : MI S tb M) (hb : tb ≤ 100000) (kx : v.toInt < 0 ∨ M 166 ≤ v.toInt → Qx "java/lang/IndexOutOfBoundsException" h) (ky : 0 ≤ v.toInt → v.toInt < M 166 → (w.toInt < 0 ∨ 4 ≤ w.toInt) → Qx "java/lang/IllegalArgumentException" h) (k0 : 0 ≤ v.toInt → v.toInt < M 166 → 0 ≤ w.toInt → w.toInt < 4 → ∀ x : Int32, x.toInt = M (167 + 4 * v.toInt.toNat + w.toInt.toNat) → Qn x h) : vX11_event t0 Qn Qx h (A 0 0) v w := by
  obtain ⟨R, K, JC, F, G⟩ := Z
  have ev := J.ev
  have fi := J.fi
  have jt := J.tk
  have a33 : ac N 33 0 := show 0 < 4 by decide
  unfold vX11_event vX11_event_b18 vX11_event_b38
  refine clt32 rfl (vl (by decide)) (fun z => kx (Or.inl z)) (fun z => g_mac R (nn_i (m_log (by decide) R (nn_i (ioj (j := 33) (by decide) (by decide) R rfl (by decide) ?_)))))
  refine c_kept (by decide) R JC ev (fun x6 h6 => clt32 rfl h6 (fun y => ?_) (fun y => kx (Or.inr (by omega))))
  refine clt32 rfl (vl (by decide)) (fun q => ky (by omega) y (Or.inl q)) (fun q => clt32 rfl (vl (by decide)) (fun q2 => ?_) (fun q2 => ky (by omega) y (Or.inr (by omega))))
  refine g_mac R (nn_i (m_log (by decide) R (nn_i (ioj (j := 33) (by decide) (by decide) R rfl (by decide) ?_))))
  unfold vX2_propertyOf vX2_propertyOf_b21
  refine clt32 rfl (vl (by decide)) (fun z2 => by omega) (fun _ => ioj (j := 33) (by decide) (by decide) R rfl (by decide) (c_kept (by decide) R JC ev (fun x2 h2 => cle32 h2 rfl (fun z2 => by omega) (fun _ => ?_))))
  refine clt32 rfl (vl (by decide)) (fun z2 => by omega) (fun _ => clt32 rfl (vl (by decide)) (fun _ => ?_) (fun z2 => by omega))
  have hv : v.toInt = ((v.toInt.toNat : Nat) : Int) := by omega
  have hw : w.toInt = ((w.toInt.toNat : Nat) : Int) := by omega
  have jev := JC.ev v.toInt.toNat w.toInt.toNat (by omega) (by omega)
  refine l_props (by decide) R (nn_i (l_row (by decide) R hw (by omega) (ygi R a33 rfl JC.fi (fun x6 h6' => ioj (j := 33) (by decide) (by decide) R rfl (by decide) (c_kept (by decide) R JC ev (fun x8 h8 => ?_))))))
  have n1 : 0 ≤ M 288 - M 166 + v.toInt := by omega
  have n2 : M 288 - M 166 + v.toInt < 2147483648 := by omega
  refine c_place (x := M 288 - M 166 + v.toInt) (add_ti (sub_ti h6' h8 (by omega)) rfl (by omega)) n1 (fun y10 h10 => nn_i ?_)
  refine yli R (show ac N 35 (4 * 0 + w.toInt.toNat) from (by omega : 4 * 0 + w.toInt.toNat < 16)) rfl (m := ((M 288 - M 166).toNat + v.toInt.toNat) % 30) (by rw [h10]; omega) (show _ < 30 from Nat.mod_lt _ (by decide)) jev (fun x12 h12 => k0 (by omega) y (by omega) (by omega) x12 h12)
theorem q_present {Qn : Option Nat → gH → Prop} (Z : CQ h A N zz S 0 tq C0 P0 C P M) (I : SI S) (J : MI S tb M) (k0 : ∀ (h' : gH) (C' : dC), CQ h' A N zz S 0 tq C0 P0 C' P M → pzC C' 0 (qpose S M) → Qn (some (A 29 0)) h') : vX11_presentPose t0 Qn h (A 0 0) := by
  have R := Z.1
  have sz := Z.2.1.sz
  have n0 := Z.2.1.nn
  have pose : ∀ {h' : gH} {C' : dC} {K : Option Nat → Prop}, D h' A N zz C' P → K (some (A 29 0)) → gr h' (A 21 0) 6 12 K := fun R' kk => wgrs R' (show ac N 21 0 from (by decide : 0 < 4)) rfl (show dS 21 0 12 = some (29, 0) from rfl) kk
  unfold vX11_presentPose vX11_presentPose_b34
  refine g_mdl R (nn_i (m_sts R (nn_i (wio R (j := 6) (i := 2) (show 2 < N 1 + 5 by omega) rfl (by decide) (yempty R (show 2 < N 1 + 5 by omega) (fun z => ⟨fun q => absurd q (by decide), fun _ => ?_⟩) (fun z => ⟨fun _ => ?_, fun q => absurd rfl q⟩))))))
  · have q : qpose S M = q0 := by unfold qpose; rw [if_pos (by omega)]
    refine g_mac R (nn_i (pose R (nn_i (wpvI R (show ac N 29 0 from (by decide : 0 < 4)) rfl (v := 0) (vl (by decide)) (fun h14 R14 => g_mac R14 (nn_i (pose R14 ?_)))))))
    refine k0 h14 _ (Z.gar R14 (fun j i f hj => up3_ne _ _ (by omega))) ?_
    rw [q]
    exact ⟨up3_same _ _ _ _ _, fun i hi => absurd hi (Nat.not_lt_zero i)⟩
  · refine g_mac R (nn_i (iom (by decide) R (c_fillPose (by decide) Z I J (by omega) (fun h' C' Z' _ pz => g_mac Z'.1 (nn_i (pose Z'.1 (k0 h' C' Z' pz)))))))
theorem q_poseSize {Qn : Int32 → gH → Prop} (Z : CQ h A N zz S 0 tq C0 P0 C P M) (I : SI S) (J : MI S tb M) (k0 : ∀ (x : Int32) (h' : gH) (C' : dC), CQ h' A N zz S 0 tq C0 P0 C' P M → x.toInt = ((qpose S M).1 : Int) → Qn x h') : vX11_poseSize t0 Qn h (A 0 0) := by
  unfold vX11_poseSize
  exact i00 Z.1 (q_present Z I J (fun h' C' Z' pz => nn_i (ygi Z'.1 (show ac N 29 0 from (by decide : 0 < 4)) rfl pz.1 (fun x hx => k0 x h' C' Z' hx))))
theorem q_poseClip {Qn : Int32 → gH → Prop} {Qx : String → gH → Prop} {v : Int32} (Z : CQ h A N zz S 0 tq C0 P0 C P M) (I : SI S) (J : MI S tb M) (hq : (qpose S M).1 ≤ 32) (kx : v.toInt < 0 ∨ ((qpose S M).1 : Int) ≤ v.toInt → ∀ (h' : gH) (C' : dC), CQ h' A N zz S 0 tq C0 P0 C' P M → Qx "java/lang/IndexOutOfBoundsException" h') (k0 : 0 ≤ v.toInt → v.toInt < ((qpose S M).1 : Int) → ∀ (x : Int32) (h' : gH) (C' : dC), CQ h' A N zz S 0 tq C0 P0 C' P M → x.toInt = (qpose S M).2.1 v.toInt.toNat → Qn x h') : vX11_poseClip t0 Qn Qx h (A 0 0) v := by
  unfold vX11_poseClip vX11_poseClip_b26
  refine i00 Z.1 (q_present Z I J (fun h' C' Z' pz => clt32 rfl (vl (by decide)) (fun z => kx (Or.inl z) h' C' Z') (fun z => nn_i ?_)))
  have R := Z'.1
  have a29 : ac N 29 0 := show 0 < 4 by decide
  have aj : ac N 30 0 := show 0 < 4 by decide
  refine ygi R a29 rfl pz.1 (fun x4 h4 => cle32 h4 rfl (fun y => kx (Or.inr y) h' C' Z') (fun y => ?_))
  have arr : ∀ {K : Option Nat → Prop}, K (some (A 30 0)) → gr h' (A 29 0) 9 0 K := fun kk => wgrs R a29 rfl (show dS 29 0 0 = some (30, 0) from rfl) kk
  refine arr (nn_i (yal R aj (by decide) (n := 32) rfl (by decide) (fun x7 h7 => clt32 rfl h7 (fun q => ?_) (fun q => by omega))))
  have hv : v.toInt = ((v.toInt.toNat : Nat) : Int) := by omega
  exact arr (nn_i (yli R aj rfl hv (show v.toInt.toNat < 32 by omega) (pz.2 v.toInt.toNat (by omega)).1 (fun x hx => k0 (by omega) (by omega) x h' C' Z' hx)))
theorem q_poseTime {Qn : Int32 → gH → Prop} {Qx : String → gH → Prop} {v : Int32} (Z : CQ h A N zz S 0 tq C0 P0 C P M) (I : SI S) (J : MI S tb M) (hq : (qpose S M).1 ≤ 32) (kx : v.toInt < 0 ∨ ((qpose S M).1 : Int) ≤ v.toInt → ∀ (h' : gH) (C' : dC), CQ h' A N zz S 0 tq C0 P0 C' P M → Qx "java/lang/IndexOutOfBoundsException" h') (k0 : 0 ≤ v.toInt → v.toInt < ((qpose S M).1 : Int) → ∀ (x : Int32) (h' : gH) (C' : dC), CQ h' A N zz S 0 tq C0 P0 C' P M → x.toInt = (qpose S M).2.2.1 v.toInt.toNat → Qn x h') : vX11_poseTime t0 Qn Qx h (A 0 0) v := by
  unfold vX11_poseTime vX11_poseTime_b26
  refine i00 Z.1 (q_present Z I J (fun h' C' Z' pz => clt32 rfl (vl (by decide)) (fun z => kx (Or.inl z) h' C' Z') (fun z => nn_i ?_)))
  have R := Z'.1
  have a29 : ac N 29 0 := show 0 < 4 by decide
  have aj : ac N 31 0 := show 0 < 4 by decide
  refine ygi R a29 rfl pz.1 (fun x4 h4 => cle32 h4 rfl (fun y => kx (Or.inr y) h' C' Z') (fun y => ?_))
  have arr : ∀ {K : Option Nat → Prop}, K (some (A 31 0)) → gr h' (A 29 0) 9 1 K := fun kk => wgrs R a29 rfl (show dS 29 0 1 = some (31, 0) from rfl) kk
  refine arr (nn_i (yal R aj (by decide) (n := 32) rfl (by decide) (fun x7 h7 => clt32 rfl h7 (fun q => ?_) (fun q => by omega))))
  have hv : v.toInt = ((v.toInt.toNat : Nat) : Int) := by omega
  exact arr (nn_i (yli R aj rfl hv (show v.toInt.toNat < 32 by omega) (pz.2 v.toInt.toNat (by omega)).2.1 (fun x hx => k0 (by omega) (by omega) x h' C' Z' hx)))
theorem q_poseWeight {Qn : Int32 → gH → Prop} {Qx : String → gH → Prop} {v : Int32} (Z : CQ h A N zz S 0 tq C0 P0 C P M) (I : SI S) (J : MI S tb M) (hq : (qpose S M).1 ≤ 32) (kx : v.toInt < 0 ∨ ((qpose S M).1 : Int) ≤ v.toInt → ∀ (h' : gH) (C' : dC), CQ h' A N zz S 0 tq C0 P0 C' P M → Qx "java/lang/IndexOutOfBoundsException" h') (k0 : 0 ≤ v.toInt → v.toInt < ((qpose S M).1 : Int) → ∀ (x : Int32) (h' : gH) (C' : dC), CQ h' A N zz S 0 tq C0 P0 C' P M → x.toInt = (qpose S M).2.2.2 v.toInt.toNat → Qn x h') : vX11_poseWeight t0 Qn Qx h (A 0 0) v := by
  unfold vX11_poseWeight vX11_poseWeight_b26
  refine i00 Z.1 (q_present Z I J (fun h' C' Z' pz => clt32 rfl (vl (by decide)) (fun z => kx (Or.inl z) h' C' Z') (fun z => nn_i ?_)))
  have R := Z'.1
  have a29 : ac N 29 0 := show 0 < 4 by decide
  have aj : ac N 32 0 := show 0 < 4 by decide
  refine ygi R a29 rfl pz.1 (fun x4 h4 => cle32 h4 rfl (fun y => kx (Or.inr y) h' C' Z') (fun y => ?_))
  have arr : ∀ {K : Option Nat → Prop}, K (some (A 32 0)) → gr h' (A 29 0) 9 2 K := fun kk => wgrs R a29 rfl (show dS 29 0 2 = some (32, 0) from rfl) kk
  refine arr (nn_i (yal R aj (by decide) (n := 32) rfl (by decide) (fun x7 h7 => clt32 rfl h7 (fun q => ?_) (fun q => by omega))))
  have hv : v.toInt = ((v.toInt.toNat : Nat) : Int) := by omega
  exact arr (nn_i (yli R aj rfl hv (show v.toInt.toNat < 32 by omega) (pz.2 v.toInt.toNat (by omega)).2.2 (fun x hx => k0 (by omega) (by omega) x h' C' Z' hx)))
theorem q_tick {Qn : Int32 → gH → Prop} {Qx : String → gH → Prop} {v : Int32} (Z : CQ h A N zz S 0 (M 287) C0 P0 C P M) (I : SI S) (J : MI S tb M) (hb : tb + 100 ≤ 100000) (h287 : 0 ≤ M 287 ∧ M 287 ≤ 900000) (kx : v.toInt < 1 ∨ 100 < v.toInt → Qx "java/lang/IllegalArgumentException" h) (ky : 1 ≤ v.toInt → v.toInt ≤ 100 → S 38 0 19 = 0 → Qx "java/lang/IllegalStateException" h) (k0 : 1 ≤ v.toInt → v.toInt ≤ 100 → 0 < S 38 0 19 → ∀ (x : Int32) (h' : gH) (C' : dC) (P' : dP), CQ h' A N zz S 0 (tcks S v.toInt.toNat M 287) C0 P0 C' P' (tcks S v.toInt.toNat M) → x.toInt = tcks S v.toInt.toNat M 288 - M 288 → Qn x h') : vX11_tick t0 Qn Qx h (A 0 0) v := by
  have R := Z.1
  have a33 : ac N 33 0 := show 0 < 4 by decide
  have jf := J.fi
  have jt := J.tk
  unfold vX11_tick
  refine i00 R (q_ticks kx (fun a b => i00 R (q_states R Z.2.1 (ky a b) (fun c => ?_))))
  refine g_mac R (nn_i (m_log (by decide) R (nn_i (ygi R a33 rfl Z.2.2.1.fi (fun x7 h7 => ?_)))))
  have k0 := k0 a b c
  have hn : v.toInt = ((v.toInt.toNat : Nat) : Int) := by omega
  have lp : ∀ (m i : Nat) (h : gH) (C : dC) (P : dP) (M' : dM) (tc : Int) (v3 : Int32), CQ h A N zz S 0 (M' 287) C0 P0 C P M' → MI S tc M' → tc + m ≤ 100000 → 0 ≤ M' 287 → M' 287 + m ≤ 1000000 → v3.toInt = (i : Int) → i + m = v.toInt.toNat → tcks S m M' = tcks S v.toInt.toNat M → vX11_tick_b22 t0 Qn Qx (m + 1) h (A 0 0) v x7 v3 := by
    intro m
    induction m with
    | zero =>
      intro i h C P M' tc v3 Z' J' ht g1 g2 h3 hm e
      have e : M' = tcks S v.toInt.toNat M := e
      have jf' := J'.fi
      rw [← e] at k0
      show vX11_tick_b22_o t0 (vX11_tick_b22 t0 Qn Qx 0) Qn Qx _ _ _ _ _
      unfold vX11_tick_b22_o
      refine cle32 rfl h3 (fun _ => g_mac Z'.1 (nn_i (m_log (by decide) Z'.1 (nn_i (ygi Z'.1 a33 rfl Z'.2.2.1.fi (fun x5 h5 => k0 _ h C P Z' (sub_ti h5 h7 (by omega)))))))) (fun z => by omega)
    | succ m ih =>
      intro i h C P M' tc v3 Z' J' ht g1 g2 h3 hm e
      show vX11_tick_b22_o t0 (vX11_tick_b22 t0 Qn Qx (m + 1)) Qn Qx _ _ _ _ _
      unfold vX11_tick_b22_o
      have q := tck_287 I J' c
      refine cle32 rfl h3 (fun z => by omega) (fun _ => g_mac Z'.1 (nn_i (iom (by decide) Z'.1 ?_)))
      exact c_runTick (by decide) I Z' J' c ⟨g1, by omega⟩ (by omega) (fun h2 C2 P2 Z2 => ih (i + 1) h2 C2 P2 (tck S M') (tc + 1) _ Z2 (MI_tck I J' c) (by omega) (by omega) (by omega) (ix_add h3 (ix_lit (by decide)) (by omega)) (by omega) e)
  exact ⟨v.toInt.toNat + 1, lp v.toInt.toNat 0 h C P M tb 0 Z J (by omega) h287.1 (by omega) (by decide) (by omega) rfl⟩
theorem m_nrk {K : Int32 → Prop} {j s : Nat} (hk : k < 4) (hj : j = 23 ∨ j = 24) (R : D h A N zz C P) (KK : KS S N zz C P) (e : P j k 0 = some (14, s + 1)) (hs : (s : Int) < S 38 0 19) (k0 : ∀ x : Int32, x.toInt = (s : Int) → K x) : gr h (A j k) 11 0 (fun r => nn r (fun a => gi h a 10 0 K)) := by
  have n0 := KK.nn
  have st := KK.st s (by omega)
  have e0 : dK j 0 = some (11, 2) := by rcases hj with rfl | rfl <;> rfl
  exact ygr R (k21 hk j (by omega)) e0 e (nn_i (ygi R (st_in KK hs) rfl st.1 k0))
theorem q_foretell {Qn : Int32 → gH → Prop} {Qx : String → gH → Prop} {v : Int32} (R : D h A N zz C P) (K : KS S N zz C P) (JC : CP S 0 (M 287) M C P) (I : SI S) (J : MI S tb M) (hb : tb + 100 ≤ 100000) (h287 : 0 ≤ M 287 ∧ M 287 ≤ 900000) (kx : v.toInt < 1 ∨ 100 < v.toInt → Qx "java/lang/IllegalArgumentException" h) (ky : 1 ≤ v.toInt → v.toInt ≤ 100 → S 38 0 19 = 0 → Qx "java/lang/IllegalStateException" h) (k0 : 1 ≤ v.toInt → v.toInt ≤ 100 → 0 < S 38 0 19 → ∀ (x : Int32) (h' : gH) (C' : dC) (P' : dP) (t' : Int) (M' : dM), CQ h' A N zz S 3 t' C P C' P' M' → x.toInt = told S v.toInt.toNat M → Qn x h') : vX11_foretell t0 Qn Qx h (A 0 0) v := by
  have j1 := J.fm
  have j2 := J.cu
  have j3 := J.ev
  unfold vX11_foretell
  refine i00 R (q_ticks kx (fun a b => i00 R (q_states R K (ky a b) (fun c => ?_))))
  have k0 := k0 a b c
  have hn : v.toInt = ((v.toInt.toNat : Nat) : Int) := by omega
  have JC' := JC
  have J' := J
  have e287 : M 287 = M 287 := rfl
  have e21 : M 21 = M 21 := rfl
  refine g_fut R (g_mac R (nn_i (iom (by decide) R ?_)))
  refine c_mcopy (k := 3) (k' := 0) (by decide) (by decide) (by decide) R K JC' (by omega) J'.fz (fun h1 C1 P1 Z1 => ?_)
  have lp : ∀ (m i : Nat) (h' : gH) (C' : dC) (P' : dP) (M' : dM) (tc : Int) (v3 : Int32), CQ h' A N zz S 3 (M' 287) C P C' P' M' → MI S tc M' → tc + m ≤ 100000 → 0 ≤ M' 287 → M' 287 + m ≤ 1000000 → v3.toInt = (i : Int) → i + m = v.toInt.toNat → tcks S m M' = tcks S v.toInt.toNat M → vX11_foretell_b22 t0 Qn Qx (m + 1) h' (A 0 0) v v3 := by
    intro m
    induction m with
    | zero =>
      intro i h' C' P' M' tc v3 Z' J' ht g1 g2 h3 hm e
      have e : M' = tcks S v.toInt.toNat M := e
      obtain ⟨R', K', JC2, F', G'⟩ := id Z'
      have td : told S v.toInt.toNat M = if M' 8 = 1 then M' 16 else M' 12 := by unfold told; rw [← e]
      rw [td] at k0
      have am : ac N 21 3 := show 3 < 4 by decide
      have jm := J'.mi
      show vX11_foretell_b22_o t0 (vX11_foretell_b22 t0 Qn Qx 0) Qn Qx _ _ _ _
      unfold vX11_foretell_b22_o vX11_foretell_b79
      refine cle32 rfl h3 (fun _ => g_fut R' (nn_i ?_)) (fun z => by omega)
      by_cases h8 : M' 8 = 1
      · rw [if_pos h8] at k0
        have sb := J'.sb h8
        refine ygr R' am rfl (JC2.mx h8).1 ⟨(fun z => by cases z), fun a _ => g_fut R' (nn_i (m_tgt (by decide) R' (nn_i ?_)))⟩
        exact m_nrk (by decide) (Or.inr rfl) R' K' (JC2.sb h8).1 (by omega) (fun x hx => k0 x h' C' P' _ M' Z' (by omega))
      · rw [if_neg h8] at k0
        have sa := J'.sa
        refine ygn R' am rfl (JC2.mi (by omega)) ⟨fun _ => g_fut R' (nn_i (m_src (by decide) R' (nn_i ?_))), (fun a z => by cases z)⟩
        exact m_nrk (by decide) (Or.inl rfl) R' K' (JC2.sa c) (by omega) (fun x hx => k0 x h' C' P' _ M' Z' (by omega))
    | succ m ih =>
      intro i h' C' P' M' tc v3 Z' J' ht g1 g2 h3 hm e
      show vX11_foretell_b22_o t0 (vX11_foretell_b22 t0 Qn Qx (m + 1)) Qn Qx _ _ _ _
      unfold vX11_foretell_b22_o
      have q := tck_287 I J' c
      refine cle32 rfl h3 (fun z => by omega) (fun _ => g_fut Z'.1 (nn_i (iom (by decide) Z'.1 ?_)))
      exact c_runTick (by decide) I Z' J' c ⟨g1, by omega⟩ (by omega) (fun h2 C2 P2 Z2 => ih (i + 1) h2 C2 P2 (tck S M') (tc + 1) _ Z2 (MI_tck I J' c) (by omega) (by omega) (by omega) (ix_add h3 (ix_lit (by decide)) (by omega)) (by omega) e)
  exact ⟨v.toInt.toNat + 1, lp v.toInt.toNat 0 h1 C1 P1 M tb 0 Z1 J' (by omega) (by omega) (by omega) (by decide) (by omega) rfl⟩
theorem q_ticksTo {Qn : Int32 → gH → Prop} {Qx : String → gH → Prop} {v : Int32} (R : D h A N zz C P) (K : KS S N zz C P) (JC : CP S 0 (M 287) M C P) (I : SI S) (J : MI S tb M) (hb : tb + 101 ≤ 100000) (h287 : 0 ≤ M 287 ∧ M 287 ≤ 900000) (kx : v.toInt < 0 ∨ S 38 0 19 ≤ v.toInt → Qx "java/lang/IndexOutOfBoundsException" h) (k0 : 0 ≤ v.toInt → v.toInt < S 38 0 19 → ∀ (x : Int32) (h' : gH) (C' : dC) (P' : dP) (t' : Int) (M' : dM), CQ h' A N zz S 3 t' C P C' P' M' → x.toInt = tto S v.toInt 101 0 M → Qn x h') : vX11_ticksTo t0 Qn Qx h (A 0 0) v := by
  have j1 := J.fm
  have j2 := J.cu
  have j3 := J.ev
  unfold vX11_ticksTo
  refine i00 R (q_state_ R K kx (fun s hv hs => ?_))
  have c : 0 < S 38 0 19 := by omega
  have k0 := k0 (by omega) (by omega)
  rw [hv] at k0
  have JC' := JC
  have J' := J
  have e287 : M 287 = M 287 := rfl
  have e21 : M 21 = M 21 := rfl
  refine g_fut R (g_mac R (nn_i (iom (by decide) R ?_)))
  refine c_mcopy (k := 3) (k' := 0) (by decide) (by decide) (by decide) R K JC' (by omega) J'.fz (fun h1 C1 P1 Z1 => ?_)
  have lp : ∀ (m i : Nat) (h' : gH) (C' : dC) (P' : dP) (M' : dM) (tc : Int) (v3 : Int32), CQ h' A N zz S 3 (M' 287) C P C' P' M' → MI S tc M' → tc + m ≤ 100000 → 0 ≤ M' 287 → M' 287 + m ≤ 1000000 → v3.toInt = (i : Int) → i + m = 101 → tto S (s : Int) m (i : Int) M' = tto S (s : Int) 101 0 M → vX11_ticksTo_b19 t0 Qn Qx (m + 1) h' (A 0 0) (some (A 14 (s + 1))) v3 := by
    intro m
    induction m with
    | zero =>
      intro i h' C' P' M' tc v3 Z' J' ht g1 g2 h3 hm e
      have e : -1 = tto S (s : Int) 101 0 M := e
      rw [← e] at k0
      show vX11_ticksTo_b19_o t0 (vX11_ticksTo_b19 t0 Qn Qx 0) Qn Qx _ _ _ _
      unfold vX11_ticksTo_b19_o
      exact clt32 (vl (by decide)) h3 (fun _ => k0 (-1) h' C' P' _ M' Z' (by decide)) (fun z => by omega)
    | succ m ih =>
      intro i h' C' P' M' tc v3 Z' J' ht g1 g2 h3 hm e
      obtain ⟨R', K', JC2, F', G'⟩ := id Z'
      have et : tto S (s : Int) (m + 1) (i : Int) M' = if M' 8 = 0 ∧ M' 12 = (s : Int) then (i : Int) else tto S (s : Int) m ((i : Int) + 1) (tck S M') := rfl
      rw [et] at e
      have am : ac N 21 3 := show 3 < 4 by decide
      have jm := J'.mi
      have sa := J'.sa
      have q := tck_287 I J' c
      have go : ¬ (M' 8 = 0 ∧ M' 12 = (s : Int)) → vX11_ticksTo_b51 t0 (vX11_ticksTo_b19 t0 Qn Qx (m + 1)) Qn Qx h' (A 0 0) (some (A 14 (s + 1))) v3 := fun hn => by
        rw [if_neg hn] at e
        unfold vX11_ticksTo_b51
        refine g_fut R' (nn_i (iom (by decide) R' ?_))
        exact c_runTick (by decide) I Z' J' c ⟨g1, by omega⟩ (by omega) (fun h2 C2 P2 Z2 => ih (i + 1) h2 C2 P2 (tck S M') (tc + 1) _ Z2 (MI_tck I J' c) (by omega) (by omega) (by omega) (ix_add h3 (ix_lit (by decide)) (by omega)) (by omega) e)
      show vX11_ticksTo_b19_o t0 (vX11_ticksTo_b19 t0 Qn Qx (m + 1)) Qn Qx _ _ _ _
      unfold vX11_ticksTo_b19_o
      refine clt32 (vl (by decide)) h3 (fun z => by omega) (fun _ => g_fut R' (nn_i ?_))
      by_cases h8 : M' 8 = 1
      · exact ygr R' am rfl (JC2.mx h8).1 ⟨(fun z => by cases z), fun a _ => go (by omega)⟩
      · have h80 : M' 8 = 0 := by omega
        refine ygn R' am rfl (JC2.mi h80) ⟨fun _ => g_fut R' (nn_i (m_src (by decide) R' (nn_i ?_))), (fun a z => by cases z)⟩
        have a12 : ac N 14 ((M' 12).toNat + 1) := st_in K' (by omega)
        have as : ac N 14 (s + 1) := st_in K' hs
        refine ygr R' (k21 (by decide) 23 (by decide)) rfl (JC2.sa c) ⟨fun z => go (fun y => z (by rw [y.2, Int.toNat_natCast])), fun z => ?_⟩
        have z2 := (R'.inj a12 as).mp (Option.some.inj z)
        rw [if_pos ⟨h80, by omega⟩] at e
        exact k0 v3 h' C' P' _ M' Z' (h3.trans e)
  exact ⟨102, lp 101 0 h1 C1 P1 M tb 0 Z1 J' (by omega) (by omega) (by omega) (by decide) (by decide) rfl⟩
end CU
