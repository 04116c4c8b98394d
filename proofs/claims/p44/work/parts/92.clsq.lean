/-! ===== the class: checks, asked values ===== -/
section CS
variable {h : gH} {A : dA} {N zz : Nat → Nat} {S C C0 : dC} {P P0 : dP} {t0 : Nat} {tq tb : Int} {M : dM}
theorem a00 : ac N 0 0 := ⟨Nat.one_pos, by decide⟩
theorem i00 {K : Prop} (R : D h A N zz C P) (k0 : K) : io h (A 0 0) 14 K := wio R a00 rfl (by decide) k0
theorem g_mdl {K : Option Nat → Prop} (R : D h A N zz C P) (k0 : K (some (A 4 0))) : gr h (A 0 0) 14 0 K := wgrs R a00 rfl (show dS 0 0 0 = some (4, 0) from rfl) k0
theorem g_txt {K : Option Nat → Prop} (R : D h A N zz C P) (k0 : K (some (A 19 0))) : gr h (A 0 0) 14 1 K := wgrs R a00 rfl (show dS 0 0 1 = some (19, 0) from rfl) k0
theorem g_mac {K : Option Nat → Prop} (R : D h A N zz C P) (k0 : K (some (A 21 0))) : gr h (A 0 0) 14 2 K := wgrs R a00 rfl (show dS 0 0 2 = some (21, 0) from rfl) k0
theorem g_fut {K : Option Nat → Prop} (R : D h A N zz C P) (k0 : K (some (A 21 3))) : gr h (A 0 0) 14 3 K := wgrs R a00 rfl (show dS 0 0 3 = some (21, 3) from rfl) k0
theorem g_img {K : Option Nat → Prop} (R : D h A N zz C P) (k0 : K (some (A 1 0))) : gr h (A 0 0) 14 4 K := wgrs R a00 rfl (show dS 0 0 4 = some (1, 0) from rfl) k0
theorem g_kpt {K : Option Nat → Prop} (R : D h A N zz C P) (k0 : K (some (A 2 0))) : gr h (A 0 0) 14 5 K := wgrs R a00 rfl (show dS 0 0 5 = some (2, 0) from rfl) k0
theorem g_dis {K : Option Nat → Prop} (R : D h A N zz C P) (k0 : K (some (A 3 0))) : gr h (A 0 0) 14 6 K := wgrs R a00 rfl (show dS 0 0 6 = some (3, 0) from rfl) k0
theorem q_states {Qn : gH → Prop} {Qx : String → gH → Prop} (R : D h A N zz C P) (K : KS S N zz C P) (kx : S 38 0 19 = 0 → Qx "java/lang/IllegalStateException" h) (k0 : 0 < S 38 0 19 → Qn h) : vX11_requireStates t0 Qn Qx h (A 0 0) := by
  have sz := K.sz
  have n0 := K.nn
  unfold vX11_requireStates
  refine g_mdl R (nn_i (m_sts R (nn_i (wio R (j := 6) (i := 2) (show 2 < N 1 + 5 by omega) rfl (by decide) (yempty R (by omega) (fun z => ?_) (fun z => ?_))))))
  · exact ⟨fun q => absurd q (by decide), fun _ => kx (by omega)⟩
  · exact ⟨fun _ => k0 (by omega), fun q => absurd rfl q⟩
theorem q_ticks {Qn : gH → Prop} {Qx : String → gH → Prop} {v : Int32} (kx : v.toInt < 1 ∨ 100 < v.toInt → Qx "java/lang/IllegalArgumentException" h) (k0 : 1 ≤ v.toInt → v.toInt ≤ 100 → Qn h) : vX11_requireTicks t0 Qn Qx h (A 0 0) v := by
  unfold vX11_requireTicks vX11_requireTicks_b11
  exact clt32 rfl (vl (by decide)) (fun z => kx (Or.inl z)) (fun z => cle32 rfl (vl (by decide)) (fun y => k0 (by omega) y) (fun y => kx (Or.inr (by omega))))
theorem q_slot {Qn : gH → Prop} {Qx : String → gH → Prop} {v : Int32} (kx : v.toInt < 0 ∨ 2 ≤ v.toInt → Qx "java/lang/IllegalArgumentException" h) (k0 : ∀ s : Nat, v.toInt = (s : Int) → s < 2 → Qn h) : vX11_requireSlot t0 Qn Qx h (A 0 0) v := by
  unfold vX11_requireSlot vX11_requireSlot_b9
  exact clt32 rfl (vl (by decide)) (fun z => kx (Or.inl z)) (fun z => clt32 rfl (vl (by decide)) (fun y => k0 v.toInt.toNat (by omega) (by omega)) (fun y => kx (Or.inr (by omega))))
theorem q_clip {Qn : Option Nat → gH → Prop} {Qx : String → gH → Prop} {v : Int32} (R : D h A N zz C P) (K : KS S N zz C P) (kx : v.toInt < 0 ∨ S 38 0 8 ≤ v.toInt → Qx "java/lang/IndexOutOfBoundsException" h) (k0 : ∀ s : Nat, v.toInt = (s : Int) → (s : Int) < S 38 0 8 → Qn (some (A 9 (s + 1))) h) : vX11_clipAt t0 Qn Qx h (A 0 0) v := by
  have sz := K.sz
  have n0 := K.nn
  unfold vX11_clipAt vX11_clipAt_b18
  refine clt32 rfl (vl (by decide)) (fun z => kx (Or.inl z)) (fun z => g_mdl R (nn_i (m_cls R (nn_i (wio R (j := 6) (i := 0) (show 0 < N 1 + 5 by omega) rfl (by decide) (ysize R (by omega) (fun x6 h6 => ?_)))))))
  refine clt32 rfl h6 (fun y => ?_) (fun y => kx (Or.inr (by omega)))
  have hv : v.toInt = ((v.toInt.toNat : Nat) : Int) := by omega
  refine g_mdl R (nn_i (m_cls R (nn_i (wio R (j := 6) (i := 0) (show 0 < N 1 + 5 by omega) rfl (by decide) (yget R K (by omega) hv (by omega) (fun a ha => K.e0 a _ ha (by omega)) (nn_i (wio R (j := 9) (i := v.toInt.toNat + 1) (show v.toInt.toNat + 1 < N 0 + 1 by omega) rfl (by decide) (k0 _ hv (by omega)))))))))
theorem q_node {Qn : Option Nat → gH → Prop} {Qx : String → gH → Prop} {v : Int32} (R : D h A N zz C P) (K : KS S N zz C P) (kx : v.toInt < 0 ∨ S 38 0 14 ≤ v.toInt → Qx "java/lang/IndexOutOfBoundsException" h) (k0 : ∀ s : Nat, v.toInt = (s : Int) → (s : Int) < S 38 0 14 → Qn (some (A 12 (s + 1))) h) : vX11_nodeAt t0 Qn Qx h (A 0 0) v := by
  have sz := K.sz
  have n0 := K.nn
  unfold vX11_nodeAt vX11_nodeAt_b18
  refine clt32 rfl (vl (by decide)) (fun z => kx (Or.inl z)) (fun z => g_mdl R (nn_i (m_nds R (nn_i (wio R (j := 6) (i := 1) (show 1 < N 1 + 5 by omega) rfl (by decide) (ysize R (by omega) (fun x6 h6 => ?_)))))))
  refine clt32 rfl h6 (fun y => ?_) (fun y => kx (Or.inr (by omega)))
  have hv : v.toInt = ((v.toInt.toNat : Nat) : Int) := by omega
  refine g_mdl R (nn_i (m_nds R (nn_i (wio R (j := 6) (i := 1) (show 1 < N 1 + 5 by omega) rfl (by decide) (yget R K (by omega) hv (by omega) (fun a ha => K.e1 a _ ha (by omega)) (nn_i (wio R (j := 12) (i := v.toInt.toNat + 1) (show v.toInt.toNat + 1 < N 1 + 1 by omega) rfl (by decide) (k0 _ hv (by omega)))))))))
theorem q_state_ {Qn : Option Nat → gH → Prop} {Qx : String → gH → Prop} {v : Int32} (R : D h A N zz C P) (K : KS S N zz C P) (kx : v.toInt < 0 ∨ S 38 0 19 ≤ v.toInt → Qx "java/lang/IndexOutOfBoundsException" h) (k0 : ∀ s : Nat, v.toInt = (s : Int) → (s : Int) < S 38 0 19 → Qn (some (A 14 (s + 1))) h) : vX11_stateAt t0 Qn Qx h (A 0 0) v := by
  have sz := K.sz
  have n0 := K.nn
  unfold vX11_stateAt vX11_stateAt_b18
  refine clt32 rfl (vl (by decide)) (fun z => kx (Or.inl z)) (fun z => g_mdl R (nn_i (m_sts R (nn_i (wio R (j := 6) (i := 2) (show 2 < N 1 + 5 by omega) rfl (by decide) (ysize R (by omega) (fun x6 h6 => ?_)))))))
  refine clt32 rfl h6 (fun y => ?_) (fun y => kx (Or.inr (by omega)))
  have hv : v.toInt = ((v.toInt.toNat : Nat) : Int) := by omega
  refine g_mdl R (nn_i (m_sts R (nn_i (wio R (j := 6) (i := 2) (show 2 < N 1 + 5 by omega) rfl (by decide) (yget R K (by omega) hv (by omega) (fun a ha => K.e2 a _ ha (by omega)) (nn_i (wio R (j := 14) (i := v.toInt.toNat + 1) (show v.toInt.toNat + 1 < N 2 + 1 by omega) rfl (by decide) (k0 _ hv (by omega)))))))))
theorem q_transition_ {Qn : Option Nat → gH → Prop} {Qx : String → gH → Prop} {v : Int32} (R : D h A N zz C P) (K : KS S N zz C P) (kx : v.toInt < 0 ∨ S 38 0 21 ≤ v.toInt → Qx "java/lang/IndexOutOfBoundsException" h) (k0 : ∀ s : Nat, v.toInt = (s : Int) → (s : Int) < S 38 0 21 → Qn (some (A 15 (s + 1))) h) : vX11_transitionAt t0 Qn Qx h (A 0 0) v := by
  have sz := K.sz
  have n0 := K.nn
  unfold vX11_transitionAt vX11_transitionAt_b18
  refine clt32 rfl (vl (by decide)) (fun z => kx (Or.inl z)) (fun z => g_mdl R (nn_i (m_trs R (nn_i (wio R (j := 6) (i := 3) (show 3 < N 1 + 5 by omega) rfl (by decide) (ysize R (by omega) (fun x6 h6 => ?_)))))))
  refine clt32 rfl h6 (fun y => ?_) (fun y => kx (Or.inr (by omega)))
  have hv : v.toInt = ((v.toInt.toNat : Nat) : Int) := by omega
  refine g_mdl R (nn_i (m_trs R (nn_i (wio R (j := 6) (i := 3) (show 3 < N 1 + 5 by omega) rfl (by decide) (yget R K (by omega) hv (by omega) (fun a ha => K.e3 a _ ha (by omega)) (nn_i (wio R (j := 15) (i := v.toInt.toNat + 1) (show v.toInt.toNat + 1 < N 3 + 1 by omega) rfl (by decide) (k0 _ hv (by omega)))))))))
theorem q_hasp {Qn : Int32 → gH → Prop} {v : Int32} (R : D h A N zz C P) (K : KS S N zz C P) (I : SI S) (k1 : 0 ≤ v.toInt → v.toInt < S 38 0 3 → Qn 1 h) (k0 : v.toInt < 0 ∨ S 38 0 3 ≤ v.toInt → Qn 0 h) : vX4_hasParameter t0 Qn h (A 4 0) v := by
  have i0 := I.np
  have a5 : ac N 5 0 := ⟨Nat.one_pos, by decide⟩
  unfold vX4_hasParameter vX4_hasParameter_b25 vX4_hasParameter_b26
  have bad : (v.toInt < 0 ∨ S 38 0 3 ≤ v.toInt) → gZ 0 ∧ Qn 0 h := fun z => ⟨gZ_of (by decide), k0 z⟩
  refine clt32 rfl (vl (by decide)) (fun z => bad (Or.inl z)) (fun z => ygi R a40 rfl K.np (fun x1 h1 => cle32 h1 rfl (fun y => bad (Or.inr y)) (fun y => ?_)))
  exact wgrs R a40 rfl (show dS 4 0 0 = some (5, 0) from rfl) (nn_i (yal R a5 (by decide) (n := 8) rfl (by decide) (fun x4 h4 => cle32 h4 rfl (fun z => by omega) (fun _ => ⟨gZ_of (by decide), k1 (by omega) (by omega)⟩))))
theorem q_param {Qn : gH → Prop} {Qx : String → gH → Prop} {v : Int32} (R : D h A N zz C P) (K : KS S N zz C P) (I : SI S) (kx : v.toInt < 0 ∨ S 38 0 3 ≤ v.toInt → Qx "java/lang/IndexOutOfBoundsException" h) (k0 : ∀ p : Nat, v.toInt = (p : Int) → (p : Int) < S 38 0 3 → p < 8 → Qn h) : vX11_requireParameter t0 Qn Qx h (A 0 0) v := by
  have i0 := I.np
  unfold vX11_requireParameter
  exact g_mdl R (nn_i (wio R a40 rfl (by decide) (q_hasp R K I (fun y z => yes0 (k0 v.toInt.toNat (by omega) (by omega) (by omega))) (fun y => no0 (kx y)))))
/-! the machine's numbers -/
theorem m_nr {K : Int32 → Prop} {j s : Nat} (hj : j = 23 ∨ j = 24) (R : D h A N zz C P) (KK : KS S N zz C P) (e : P j 0 0 = some (14, s + 1)) (hs : (s : Int) < S 38 0 19) (k0 : ∀ x : Int32, x.toInt = (s : Int) → K x) : gr h (A j 0) 11 0 (fun r => nn r (fun a => gi h a 10 0 K)) := by
  have n0 := KK.nn
  have st := KK.st s (by omega)
  have e0 : dK j 0 = some (11, 2) := by rcases hj with rfl | rfl <;> rfl
  exact ygr R (k21 (by decide) j (by omega)) e0 e (nn_i (ygi R (st_in KK hs) rfl st.1 k0))
theorem q_state {Qn : Int32 → gH → Prop} {Qx : String → gH → Prop} (Z : CQ h A N zz S 0 tq C0 P0 C P M) (J : MI S tb M) (kx : S 38 0 19 = 0 → Qx "java/lang/IllegalStateException" h) (k0 : 0 < S 38 0 19 → ∀ x : Int32, x.toInt = M 12 → Qn x h) : vX11_state t0 Qn Qx h (A 0 0) := by
  obtain ⟨R, K, JC, F, G⟩ := Z
  have jm := J.sa
  unfold vX11_state
  refine i00 R (q_states R K kx (fun z => g_mac R (nn_i (m_src (by decide) R (nn_i ?_)))))
  exact m_nr (Or.inl rfl) R K (JC.sa z) (by omega) (fun x hx => k0 z x (by omega))
theorem q_target {Qn : Int32 → gH → Prop} (Z : CQ h A N zz S 0 tq C0 P0 C P M) (J : MI S tb M) (k0 : ∀ x : Int32, x.toInt = (if M 8 = 1 then M 16 else -1) → Qn x h) : vX11_target t0 Qn h (A 0 0) := by
  obtain ⟨R, K, JC, F, G⟩ := Z
  have jm := J.mi
  have am : ac N 21 0 := show 0 < 4 by decide
  unfold vX11_target vX11_target_b27
  refine g_mac R (nn_i ?_)
  by_cases h8 : M 8 = 1
  · rw [if_pos h8] at k0
    have b := J.sb h8
    refine ygr R am rfl (JC.mx h8).1 ⟨(fun z => by cases z), fun a _ => g_mac R (nn_i (m_tgt (by decide) R (nn_i ?_)))⟩
    exact m_nr (Or.inr rfl) R K (JC.sb h8).1 (by omega) (fun x hx => k0 x (by omega))
  · rw [if_neg h8] at k0
    exact ygn R am rfl (JC.mi (by omega)) ⟨fun _ => k0 (-1) (by decide), fun a z => by cases z⟩
theorem q_transition {Qn : Int32 → gH → Prop} (Z : CQ h A N zz S 0 tq C0 P0 C P M) (J : MI S tb M) (k0 : ∀ x : Int32, x.toInt = (if M 8 = 1 then M 9 else -1) → Qn x h) : vX11_transition t0 Qn h (A 0 0) := by
  obtain ⟨R, K, JC, F, G⟩ := Z
  have jm := J.mi
  have am : ac N 21 0 := show 0 < 4 by decide
  unfold vX11_transition vX11_transition_b24
  refine g_mac R (nn_i ?_)
  by_cases h8 : M 8 = 1
  · rw [if_pos h8] at k0
    have b := J.xx h8
    have n0 := K.nn
    have tr := K.tr (M 9).toNat (by omega)
    refine ygr R am rfl (JC.mx h8).1 ⟨(fun z => by cases z), fun a _ => g_mac R (nn_i (ygr R am rfl (JC.mx h8).1 (nn_i (ygi R (tr_in K (by omega)) rfl tr.1 (fun x hx => k0 x (by omega))))))⟩
  · rw [if_neg h8] at k0
    exact ygn R am rfl (JC.mi (by omega)) ⟨fun _ => k0 (-1) (by decide), fun a z => by cases z⟩
theorem q_elapsed {Qn : Int32 → gH → Prop} (Z : CQ h A N zz S 0 tq C0 P0 C P M) (J : MI S tb M) (k0 : ∀ x : Int32, x.toInt = (if M 8 = 1 then M 10 else -1) → Qn x h) : vX11_elapsed t0 Qn h (A 0 0) := by
  obtain ⟨R, K, JC, F, G⟩ := Z
  have jm := J.mi
  have am : ac N 21 0 := show 0 < 4 by decide
  unfold vX11_elapsed vX11_elapsed_b21
  refine g_mac R (nn_i ?_)
  by_cases h8 : M 8 = 1
  · rw [if_pos h8] at k0
    exact ygr R am rfl (JC.mx h8).1 ⟨(fun z => by cases z), fun a _ => g_mac R (nn_i (ygi R am rfl (JC.mx h8).2 k0))⟩
  · rw [if_neg h8] at k0
    exact ygn R am rfl (JC.mi (by omega)) ⟨fun _ => k0 (-1) (by decide), fun a z => by cases z⟩
theorem q_isFrozen {Qn : Int32 → gH → Prop} (Z : CQ h A N zz S 0 tq C0 P0 C P M) (J : MI S tb M) (k0 : ∀ x : Int32, x.toInt = M 20 → Qn x h) : vX11_isFrozen t0 Qn h (A 0 0) := by
  obtain ⟨R, K, JC, F, G⟩ := Z
  have jm := J.fz
  unfold vX11_isFrozen
  exact g_mac R (nn_i (ygi R (show ac N 21 0 from (by decide : 0 < 4)) rfl JC.fz (fun x hx => ⟨gZ_of (by omega), k0 x hx⟩)))
theorem q_now {Qn : Int64 → gH → Prop} {j t : Nat} (hj : j = 23 ∨ j = 24) (R : D h A N zz C P) (e1 : C j 0 1 = M (t + 1)) (e2 : C j 0 2 = M (t + 2)) (hb : 0 ≤ M (t + 1) ∧ 0 ≤ M (t + 2) ∧ M (t + 2) ≤ 1000000 ∧ prg M t ≤ 4000000000000) (k0 : ∀ x : Int64, x.toInt = prg M t → Qn x h) : vX8_progressNow t0 Qn h (A j 0) := by
  have aj : ac N j 0 := k21 (by decide) j (by omega)
  have d1 : dK j 1 = some (11, 1) := by rcases hj with rfl | rfl <;> rfl
  have d2 : dK j 2 = some (11, 0) := by rcases hj with rfl | rfl <;> rfl
  have pe := prg_of M t
  unfold vX8_progressNow
  exact ygl R aj d1 e1 (fun x1 h1 => ygi R aj d2 e2 (fun x2 h2 => k0 _ ((addL_ti (mulL_ti h1 (vlL (by decide)) (by omega)) (wid_ti h2) (by omega)).trans pe.symm)))
theorem q_progress {Qn : Int64 → gH → Prop} {Qx : String → gH → Prop} {v : Int32} (Z : CQ h A N zz S 0 tq C0 P0 C P M) (J : MI S tb M) (hb : tb ≤ 100000) (kx : S 38 0 19 = 0 → Qx "java/lang/IllegalStateException" h) (k0 : 0 < S 38 0 19 → v.toInt = 0 → ∀ x : Int64, x.toInt = prg M 12 → Qn x h) (kn : 0 < S 38 0 19 → v.toInt ≠ 0 → M 8 = 0 → Qx "java/lang/IllegalStateException" h) (k1 : 0 < S 38 0 19 → v.toInt ≠ 0 → M 8 = 1 → ∀ x : Int64, x.toInt = prg M 16 → Qn x h) : vX11_progress t0 Qn Qx h (A 0 0) v := by
  obtain ⟨R, K, JC, F, G⟩ := Z
  have jm := J.mi
  have jt := J.tk
  have ca := J.ca
  have ta := JC.ta
  have am : ac N 21 0 := show 0 < 4 by decide
  unfold vX11_progress
  refine i00 R (q_states R K kx (fun z => cne32 rfl (vl (by decide)) (fun y => g_mac R (nn_i ?_)) (fun y => g_mac R (nn_i (m_src (by decide) R (nn_i (ioj (j := 23) (by decide) (by decide) R rfl (by decide) ?_)))))))
  · by_cases h8 : M 8 = 1
    · have cb := J.cb h8
      have sb := JC.sb h8
      refine ygr R am rfl (JC.mx h8).1 ⟨(fun z => by cases z), fun a _ => g_mac R (nn_i (m_tgt (by decide) R (nn_i (ioj (j := 24) (by decide) (by decide) R rfl (by decide) ?_))))⟩
      exact q_now (t := 16) (Or.inr rfl) R sb.2.1 sb.2.2.1 ⟨cb.1, cb.2.1, cb.2.2.1, by omega⟩ (k1 z y h8)
    · exact ygn R am rfl (JC.mi (by omega)) ⟨fun _ => kn z y (by omega), fun a q => by cases q⟩
  · exact q_now (t := 12) (Or.inl rfl) R ta.1 ta.2.1 ⟨ca.1, ca.2.1, ca.2.2.1, by omega⟩ (k0 z y)
theorem q_stateLength {Qn : Int32 → gH → Prop} {Qx : String → gH → Prop} {v : Int32} (Z : CQ h A N zz S 0 tq C0 P0 C P M) (I : SI S) (J : MI S tb M) (kx : v.toInt < 0 ∨ S 38 0 19 ≤ v.toInt → Qx "java/lang/IndexOutOfBoundsException" h) (k0 : 0 ≤ v.toInt → v.toInt < S 38 0 19 → ∀ (x : Int32) (h' : gH) (C' : dC), CQ h' A N zz S 0 tq C0 P0 C' P M → x.toInt = lenS S M v.toInt.toNat → Qn x h') : vX11_stateLength t0 Qn Qx h (A 0 0) v := by
  have R := Z.1
  unfold vX11_stateLength
  refine g_mac R (i00 R (q_state_ R Z.2.1 kx (fun s hv hs => nn_i (iom (by decide) R ?_))))
  have e : v.toInt.toNat = s := by omega
  rw [e] at k0
  exact c_length (by decide) Z I J.va hs (fun x h' C' Z' _ hx => k0 (by omega) (by omega) x h' C' Z' hx)
theorem q_partWeight {Qn : Int32 → gH → Prop} {Qx : String → gH → Prop} {v w : Int32} (Z : CQ h A N zz S 0 tq C0 P0 C P M) (I : SI S) (J : MI S tb M) (kx : (v.toInt < 0 ∨ S 38 0 19 ≤ v.toInt) ∨ (w.toInt < 0 ∨ S 38 0 8 ≤ w.toInt) → Qx "java/lang/IndexOutOfBoundsException" h) (k0 : 0 ≤ v.toInt → v.toInt < S 38 0 19 → 0 ≤ w.toInt → w.toInt < S 38 0 8 → ∀ (x : Int32) (h' : gH) (C' : dC), CQ h' A N zz S 0 tq C0 P0 C' P M → x.toInt = bw S M v.toInt.toNat 1000000 w.toInt.toNat → Qn x h') : vX11_partWeight t0 Qn Qx h (A 0 0) v w := by
  obtain ⟨R, K, JC, F, G⟩ := id Z
  have i8 := I.nc
  unfold vX11_partWeight
  refine i00 R (q_state_ R K (fun z => kx (Or.inl z)) (fun s hv hs => i00 R (q_clip R K (fun z => kx (Or.inr z)) (fun c hw hc => ?_))))
  have e : v.toInt.toNat = s := by omega
  have e2 : w.toInt.toNat = c := by omega
  rw [e, e2] at k0
  have n0 := K.nn
  have st := K.st s (by omega)
  have mo := I.mo s hs
  have mc := I.mc s hs
  have kc := K.cl c (by omega)
  refine g_mac R (nn_i (m_bld (by decide) R (nn_i (ygr R (st_in K hs) rfl st.2.1 (g_mac R (nn_i (m_val (by decide) R (nn_i (ioj (j := 36) (by decide) (by decide) R rfl (by decide) ?_)))))))))
  refine c_fill (by decide) I J.va R K JC.va (by omega) mc (vl (by decide)) (by decide) (fun h1 C1 R1 B1 e1 => ?_)
  have Z1 := Z.gar R1 (fun j i f hj => B1 j i f (by omega))
  have kc1 := Z1.2.1.cl c (by omega)
  refine g_mac R1 (nn_i (m_bld (by decide) R1 (nn_i (ygi R1 (cl_in Z1.2.1 hc) rfl kc1.1 (fun x19 h19 => nn_i (ioj (j := 36) (by decide) (by decide) R1 rfl (by decide) ?_))))))
  exact c_weight (by decide) R1 h19 (by omega) (e1 c (by omega)) (fun x hx => k0 (by omega) (by omega) (by omega) (by omega) x h1 C1 Z1 hx)
theorem q_fired {Qn : Int32 → gH → Prop} (Z : CQ h A N zz S 0 tq C0 P0 C P M) (k0 : ∀ x : Int32, x.toInt = M 288 → Qn x h) : vX11_fired t0 Qn h (A 0 0) := by
  obtain ⟨R, K, JC, F, G⟩ := Z
  unfold vX11_fired
  exact g_mac R (nn_i (m_log (by decide) R (nn_i (ygi R (show ac N 33 0 from (by decide : 0 < 4)) rfl JC.fi k0))))
end CS
