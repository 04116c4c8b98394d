/-! ===== the class: both tracks advanced ===== -/
section CA2
variable {h : gH} {A : dA} {N zz : Nat → Nat} {S C C0 : dC} {P P0 : dP} {t0 k : Nat} {tq tb : Int} {M : dM}
theorem c_synced {Qn : Int32 → gH → Prop} {s s' : Nat} (R : D h A N zz C P) (K : KS S N zz C P) (hs : (s : Int) < S 38 0 19) (hs' : (s' : Int) < S 38 0 19) (k1 : S 58 0 s ≠ 0 → S 58 0 s = S 58 0 s' → Qn 1 h) (k0 : ¬ (S 58 0 s ≠ 0 ∧ S 58 0 s = S 58 0 s') → Qn 0 h) : vX7_isSyncedWith t0 Qn h (A 14 (s + 1)) (some (A 14 (s' + 1))) := by
  have nn := K.nn
  have a := (K.st s (by omega)).2.2.2.2
  have b := (K.st s' (by omega)).2.2.2.2
  unfold vX7_isSyncedWith vX7_isSyncedWith_b22 vX7_isSyncedWith_b23
  refine ygi R (st_in K hs) rfl a (fun x1 h1 => ceq32 h1 (vl (by decide)) (fun z => ⟨gZ_of (by decide), k0 (fun y => y.1 z)⟩) (fun z => ?_))
  refine ygi R (st_in K hs) rfl a (fun x2 h2 => nn_i (ygi R (st_in K hs') rfl b (fun x4 h4 => ?_)))
  exact cne32 h2 h4 (fun y => ⟨gZ_of (by decide), k0 (fun q => y q.2)⟩) (fun y => ⟨gZ_of (by decide), k1 z y⟩)
theorem c_mixed {Qn : Int64 → gH → Prop} {v1 v2 : Int32} {p q : Int} (hk : k < 4) (Z : CQ h A N zz S k tq C0 P0 C P M) (I : SI S) (J : MI S tb M) (h8 : M 8 = 1) (h1 : v1.toInt = p) (h2 : v2.toInt = q) (hp : 1 ≤ p ∧ p ≤ 500) (hq : 1 ≤ q ∧ q ≤ 500) (k0 : ∀ x : Int64, x.toInt = mix S M p q → Qn x h) : vX3_mixed t0 Qn h (A 21 k) v1 v2 := by
  have jx := J.xx h8
  have je := J.el h8
  have sh := sh_in J h8
  have m := mix_in (S := S) (M := M) sh hp hq
  unfold vX3_mixed
  refine iom hk Z.1 (c_share hk Z I h8 jx (by omega) (by omega) (fun x2 hx => ⟨ne_ti ⟨vlL (by decide), by decide⟩, k0 _ ?_⟩))
  exact mixL (wid_ti hx) (wid_ti h1) (wid_ti h2) sh ⟨Int.mul_nonneg (by omega) (by omega), Int.le_trans m.2.2.2.1 (by omega)⟩ ⟨Int.mul_nonneg sh.1 (by omega), Int.le_trans m.2.2.2.2.2 (by omega)⟩
theorem c_common {Qn : Int64 → gH → Prop} (hk : k < 4) (Z : CQ h A N zz S k tq C0 P0 C P M) (I : SI S) (J : MI S tb M) (h8 : M 8 = 1) (k0 : ∀ (x : Int64) (h' : gH) (C' : dC), CQ h' A N zz S k tq C0 P0 C' P M → Kb C C' k → x.toInt = stB S M → Qn x h') : vX3_commonStep t0 Qn h (A 21 k) := by
  obtain ⟨R, K, JC, F, G⟩ := id Z
  have js := J.sa
  have j9 := J.sb h8
  have hns : 0 < S 38 0 19 := by omega
  have js2 := js.2.1 hns
  have nn := K.nn
  have sA := JC.sa hns
  have sB := (JC.sb h8).1
  have stA := K.st (M 12).toNat (by omega)
  have stB' := K.st (M 16).toNat (by omega)
  have a1 := I.sp (M 12).toNat (by omega)
  have a2 := I.sp (M 16).toNat (by omega)
  have b1 := lenS_in I M (s := (M 12).toNat) (by omega)
  have b2 := lenS_in I M (s := (M 16).toNat) (by omega)
  have sh := sh_in J h8
  have m1 := mix_in (S := S) (M := M) sh a1 a2
  have m2 := mix_in (S := S) (M := M) sh b1 b2
  have n1 : 0 ≤ mix S M (S 56 0 (M 12).toNat) (S 56 0 (M 16).toNat) ∧ mix S M (S 56 0 (M 12).toNat) (S 56 0 (M 16).toNat) ≤ 1000 := by have := m1.1; have := m1.2.1; omega
  have n2 : 1 ≤ mix S M (lenS S M (M 12).toNat) (lenS S M (M 16).toNat) ∧ mix S M (lenS S M (M 12).toNat) (lenS S M (M 16).toNat) ≤ 1000 := by have := m2.1; have := m2.2.1; omega
  have cA : (((M 12).toNat : Nat) : Int) < S 38 0 19 := by omega
  have cB : (((M 16).toNat : Nat) : Int) < S 38 0 19 := by omega
  have a23 : ac N 23 k := hk
  have a24 : ac N 24 k := hk
  unfold vX3_commonStep vX3_stepBy vX3_stepBy_b21
  refine m_src hk R (nn_i (ygr R a23 rfl sA (nn_i (ygi R (st_in K cA) rfl stA.2.2.1 (fun x5 h5 => ?_)))))
  refine m_tgt hk R (nn_i (ygr R a24 rfl sB (nn_i (ygi R (st_in K cB) rfl stB'.2.2.1 (fun x10 h10 => iom hk R ?_)))))
  refine c_mixed hk Z I J h8 h5 h10 (by omega) (by omega) (fun x12 h12 => ?_)
  refine m_src hk R (nn_i (ygr R a23 rfl sA (iom hk R ?_)))
  refine c_length hk Z I J.va cA (fun x17 h16 C16 Z16 B16 h17 => ?_)
  refine m_tgt hk Z16.1 (nn_i (ygr Z16.1 a24 rfl sB (iom hk Z16.1 ?_)))
  refine c_length hk Z16 I J.va cB (fun x22 h21 C21 Z21 B21 h22 => iom hk Z21.1 ?_)
  refine c_mixed hk Z21 I J h8 h17 h22 (by omega) (by omega) (fun x24 h24 => ?_)
  refine clt64 (vlL (by decide)) h24 (fun _ => ⟨ne_ti ⟨mulL_ti (vlL (by decide)) h24 (by omega), by omega⟩, k0 _ h21 C21 Z21 (fun j i f hj => (B21 j i f hj).trans (B16 j i f hj)) ?_⟩) (fun z => by omega)
  exact stepL h12 h24 n1 n2
/-- before and freshness of the tracks that were advanced -/
def befT (C : dC) (k : Nat) (M : dM) : Prop := (M 20 = 0 → C 23 k 4 = prg M 12 ∧ C 23 k 5 = M 15) ∧ C 24 k 4 = prg M 16 ∧ C 24 k 5 = M 19
theorem c_adv100 {Qn : gH → Prop} {M' : dM} {b : Int} (hk : k < 4) (Z : CQ h A N zz S k tq C0 P0 C P M') (I : SI S) (h8 : M' 8 = 1) (va : ∀ p : Nat, p < 8 → -100 ≤ M' p ∧ M' p ≤ 100) (tr : trI S M' 16 b) (hb : b ≤ 2000000000000) (k0 : ∀ (h' : gH) (C' : dC), CQ h' A N zz S k tq C0 P0 C' P (adv S M' 16 (stp S M' 16)) → (C' 23 k 4 = C 23 k 4 ∧ C' 23 k 5 = C 23 k 5) → C' 24 k 4 = prg M' 16 → C' 24 k 5 = M' 19 → Qn h') : vX3_advanceTracks_b100 t0 Qn h (A 21 k) := by
  obtain ⟨R, K, JC, F, G⟩ := id Z
  have sB := (JC.sb h8).1
  have s16 := stp_in I M' (t := 16) ⟨tr.1, tr.2.1⟩
  unfold vX3_advanceTracks_b100
  refine m_tgt hk R (m_tgt hk R (nn_i (ygr R (k21 hk 24 (by decide)) rfl sB (iom hk R ?_))))
  refine c_stepOf hk Z I va (a := 16) ⟨tr.1, tr.2.1⟩ (fun x6 h5 C5 Z5 B5 h6 => nn_i (ioj (j := 24) (by decide) hk Z5.1 rfl (by decide) ?_))
  exact c_advB hk Z5 I h8 tr hb h6 s16 (fun h' C' Z' f' d4 d5 => k0 h' C' Z' ⟨by rw [f' 23 k 4 (by omega), B5 23 k 4 (by omega)], by rw [f' 23 k 5 (by omega), B5 23 k 5 (by omega)]⟩ d4 d5)
theorem c_advanceTracks {Qn : gH → Prop} (hk : k < 4) (Z : CQ h A N zz S k tq C0 P0 C P M) (I : SI S) (J : MI S tb M) (hns : 0 < S 38 0 19) (hb : tb ≤ 100000)
  (k0 : M 8 = 0 → ∀ (h' : gH) (C' : dC), CQ h' A N zz S k tq C0 P0 C' P (adv S M 12 (stp S M 12)) → C' 23 k 4 = prg M 12 → C' 23 k 5 = M 15 → Qn h')
  (k1 : M 8 = 1 → ∀ (h' : gH) (C' : dC), CQ h' A N zz S k tq C0 P0 C' P (adB S M) → befT C' k M → Qn h') : vX3_advanceTracks t0 Qn h (A 21 k) := by
  obtain ⟨R, K, JC, F, G⟩ := id Z
  have t12 := MI_tr12 J hns
  have jt := J.tk
  have jm := J.mi
  have am : ac N 21 k := hk
  have a23 : ac N 23 k := hk
  have a24 : ac N 24 k := hk
  have v12 : 0 ≤ M 12 ∧ M 12 < S 38 0 19 := ⟨t12.1, t12.2.1⟩
  have s12 := stp_in I M (t := 12) v12
  have sA := JC.sa hns
  unfold vX3_advanceTracks
  by_cases h8 : M 8 = 0
  · have k0 := k0 h8
    refine ygn R am rfl (JC.mi h8) ⟨fun _ => ?_, fun a h => by cases h⟩
    refine m_src hk R (m_src hk R (nn_i (ygr R a23 rfl sA (iom hk R ?_))))
    refine c_stepOf hk Z I J.va (a := 12) v12 (fun x h' C' Z' B' hx => nn_i (ioj (j := 23) (by decide) hk Z'.1 rfl (by decide) ?_))
    exact c_advA hk Z' I hns t12 (by omega) hx s12 (fun h9 C9 Z9 f9 d4 d5 => k0 h9 C9 Z9 d4 d5)
  have h8 : M 8 = 1 := by omega
  have k1 := k1 h8
  have t16 := MI_tr16 J h8
  have j9 := J.sb h8
  have mx := JC.mx h8
  have sB := (JC.sb h8).1
  have sBv := stB_in I J h8
  have cA : (((M 12).toNat : Nat) : Int) < S 38 0 19 := by omega
  have cB : (((M 16).toNat : Nat) : Int) < S 38 0 19 := by omega
  refine ygr R am rfl mx.1 ⟨(fun z => by cases z), fun a2 _ => ?_⟩
  -- not in step
  have apart : ¬ syn S M → vX3_advanceTracks_b75 t0 Qn h (A 21 k) := fun hs => by
    have e : adB S M = adv S (adA S M) 16 (stp S (adA S M) 16) := by unfold adB; rw [if_neg hs]
    rw [e] at k1
    unfold vX3_advanceTracks_b75
    refine ygi R am rfl JC.fz (fun x1 h1 => cne32 h1 (vl (by decide)) (fun z => ?_) (fun z => ?_))
    · have ea : adA S M = M := by unfold adA; rw [if_neg z]
      rw [ea] at k1
      exact c_adv100 hk Z I h8 J.va t16 (by omega) (fun h' C' Z' q d4 d5 => k1 h' C' Z' ⟨fun y => absurd y z, d4, d5⟩)
    · have ea : adA S M = adv S M 12 (stp S M 12) := by unfold adA; rw [if_pos z]
      have u16 := tr_off (M' := adA S M) t16 fun f h1 h2 => adA_off (by omega)
      rw [ea] at k1 u16
      refine m_src hk R (m_src hk R (nn_i (ygr R a23 rfl sA (iom hk R ?_))))
      refine c_stepOf hk Z I J.va (a := 12) v12 (fun x h' C' Z' B' hx => nn_i (ioj (j := 23) (by decide) hk Z'.1 rfl (by decide) ?_))
      refine c_advA hk Z' I hns t12 (by omega) hx s12 (fun h9 C9 Z9 f9 d4 d5 => ?_)
      have o : ∀ f, f < 13 ∨ 16 ≤ f → adv S M 12 (stp S M 12) f = M f := fun f h => adv_off (by omega)
      have p16 : prg (adv S M 12 (stp S M 12)) 16 = prg M 16 := by rw [prg_of, prg_of, o 17 (by omega), o 18 (by omega)]
      exact c_adv100 hk Z9 I (by rw [o 8 (by omega)]; exact h8) (fun p hp => by rw [o p (by omega)]; exact J.va p hp) u16 (by omega) (fun h2 C2 Z2 q e4 e5 => k1 h2 C2 Z2 ⟨fun _ => ⟨by rw [q.1, d4], by rw [q.2, d5]⟩, by rw [e4, p16], by rw [e5, o 19 (by omega)]⟩)
  refine ygi R am rfl JC.fz (fun x11 h11 => cne32 h11 (vl (by decide)) (fun z => apart (fun y => z y.1)) (fun z => ?_))
  refine m_src hk R (nn_i (ygr R a23 rfl sA (m_tgt hk R (nn_i (ygr R a24 rfl sB (nn_i (wio R (st_in K cA) rfl (by decide) ?_)))))))
  refine c_synced R K cA cB (fun y1 y2 => ⟨fun q => absurd q (by decide), fun _ => iom hk R ?_⟩) (fun y => ⟨fun _ => apart (fun q => y ⟨q.2.1, q.2.2⟩), fun q => absurd rfl q⟩)
  have e : adB S M = adv S (adv S M 12 (stB S M)) 16 (stB S M) := by unfold adB; rw [if_pos ⟨z, y1, y2⟩]
  rw [e] at k1
  have o : ∀ f, f < 13 ∨ 16 ≤ f → adv S M 12 (stB S M) f = M f := fun f h => adv_off (by omega)
  have u16 := tr_off (M' := adv S M 12 (stB S M)) t16 fun f h1 h2 => o f (by omega)
  have p16 : prg (adv S M 12 (stB S M)) 16 = prg M 16 := by rw [prg_of, prg_of, o 17 (by omega), o 18 (by omega)]
  refine c_common hk Z I J h8 (fun x22 h21 C21 Z21 B21 h22 => ?_)
  refine m_src hk Z21.1 (nn_i (ioj (j := 23) (by decide) hk Z21.1 rfl (by decide) ?_))
  refine c_advA hk Z21 I hns t12 (by omega) h22 sBv (fun h25 C25 Z25 f25 d4 d5 => ?_)
  refine m_tgt hk Z25.1 (nn_i (ioj (j := 24) (by decide) hk Z25.1 rfl (by decide) ?_))
  exact c_advB hk Z25 I (by rw [o 8 (by omega)]; exact h8) u16 (by omega) h22 sBv (fun h28 C28 Z28 f28 e4 e5 => k1 h28 C28 Z28 ⟨fun _ => ⟨by rw [f28 23 k 4 (by omega), d4], by rw [f28 23 k 5 (by omega), d5]⟩, by rw [e4, p16], by rw [e5, o 19 (by omega)]⟩)
end CA2
