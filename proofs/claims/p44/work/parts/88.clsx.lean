/-! ===== the class: taking, second part ===== -/
theorem cpC_in (C : dC) {j i sp j' i' dp n f : Nat} (h : dp ≤ f ∧ f < dp + n) : cpC C j i sp j' i' dp n j' i' f = C j i (sp + (f - dp)) := if_pos ⟨rfl, rfl, h⟩
theorem cpC_ne (C : dC) {j i sp j' i' dp n j2 i2 f : Nat} (h : ¬ (j2 = j' ∧ i2 = i')) : cpC C j i sp j' i' dp n j2 i2 f = C j2 i2 f := if_neg fun z => h ⟨z.1, z.2.1⟩
section CX
variable {h : gH} {A : dA} {N zz : Nat → Nat} {S C C0 : dC} {P P0 : dP} {t0 k : Nat} {tq tb : Int} {M : dM}
theorem c_pcopy {Qn : gH → Prop} {sj k' : Nat} (hs : (sj = 25 ∧ k' ≠ k) ∨ sj = 29) (hk : k < 4) (hk' : k' < 4) (R : D h A N zz C P) (k0 : ∀ (h' : gH) (C' : dC), D h' A N zz C' P → (∀ j i f : Nat, ¬ (25 ≤ j ∧ j ≤ 28 ∧ i = k) → C' j i f = C j i f) → C' 25 k 3 = C sj k' 3 → (∀ f : Nat, f < 32 → C' 26 k f = C (sj + 1) k' f ∧ C' 27 k f = C (sj + 2) k' f ∧ C' 28 k f = C (sj + 3) k' f) → Qn h') : vX6_copyFrom t0 Qn h (A 25 k) (some (A sj k')) := by
  have a25 : ac N 25 k := hk
  have a26 : ac N 26 k := hk
  have a27 : ac N 27 k := hk
  have a28 : ac N 28 k := hk
  have as : ac N sj k' := k21 hk' sj (by omega)
  have a1 : ac N (sj + 1) k' := k21 hk' (sj + 1) (by omega)
  have a2 : ac N (sj + 2) k' := k21 hk' (sj + 2) (by omega)
  have a3 : ac N (sj + 3) k' := k21 hk' (sj + 3) (by omega)
  have e3 : dK sj 3 = some (9, 0) := by rcases hs with ⟨rfl, _⟩ | rfl <;> rfl
  have f0 : dK sj 0 = some (9, 2) := by rcases hs with ⟨rfl, _⟩ | rfl <;> rfl
  have f1 : dK sj 1 = some (9, 2) := by rcases hs with ⟨rfl, _⟩ | rfl <;> rfl
  have f2 : dK sj 2 = some (9, 2) := by rcases hs with ⟨rfl, _⟩ | rfl <;> rfl
  have d0 : dS sj k' 0 = some (sj + 1, k') := by rcases hs with ⟨rfl, _⟩ | rfl <;> rfl
  have d1 : dS sj k' 1 = some (sj + 2, k') := by rcases hs with ⟨rfl, _⟩ | rfl <;> rfl
  have d2 : dS sj k' 2 = some (sj + 3, k') := by rcases hs with ⟨rfl, _⟩ | rfl <;> rfl
  have o1 : dO (sj + 1) = none ∧ (dR (sj + 1)).1 = 0 ∧ dN zz (sj + 1) k' = 32 := by rcases hs with ⟨rfl, _⟩ | rfl <;> exact ⟨rfl, rfl, rfl⟩
  have o2 : dO (sj + 2) = none ∧ (dR (sj + 2)).1 = 0 ∧ dN zz (sj + 2) k' = 32 := by rcases hs with ⟨rfl, _⟩ | rfl <;> exact ⟨rfl, rfl, rfl⟩
  have o3 : dO (sj + 3) = none ∧ (dR (sj + 3)).1 = 0 ∧ dN zz (sj + 3) k' = 32 := by rcases hs with ⟨rfl, _⟩ | rfl <;> exact ⟨rfl, rfl, rfl⟩
  have z0 : (0 : Int32).toInt = ((0 : Nat) : Int) := by decide
  have z32 : (32 : Int32).toInt = ((32 : Nat) : Int) := by decide
  unfold vX6_copyFrom
  refine nn_i (ygi R as e3 rfl (fun x2 h2 => wpvI R a25 rfl h2 (fun h3 R3 => ?_)))
  refine wgrs R3 as f0 d0 (wgrs R3 a25 rfl (show dS 25 k 0 = some (26, k) from rfl) (nn_i (nn_i ?_)))
  refine R3.cpi a1 a26 o1.1 o1.2.1 rfl rfl z0 z0 z32 (by rw [o1.2.2]; decide) (show 0 + 32 ≤ 32 by decide) (fun h8 R8 => ?_)
  refine wgrs R8 as f1 d1 (wgrs R8 a25 rfl (show dS 25 k 1 = some (27, k) from rfl) (nn_i (nn_i ?_)))
  refine R8.cpi a2 a27 o2.1 o2.2.1 rfl rfl z0 z0 z32 (by rw [o2.2.2]; decide) (show 0 + 32 ≤ 32 by decide) (fun h13 R13 => ?_)
  refine wgrs R13 as f2 d2 (wgrs R13 a25 rfl (show dS 25 k 2 = some (28, k) from rfl) (nn_i (nn_i ?_)))
  refine R13.cpi a3 a28 o3.1 o3.2.1 rfl rfl z0 z0 z32 (by rw [o3.2.2]; decide) (show 0 + 32 ≤ 32 by decide) (fun h18 R18 => ?_)
  refine k0 h18 _ R18 (fun j i f hj => ?_) ?_ (fun f hf => ⟨?_, ?_, ?_⟩)
  · rw [cpC_ne _ (by omega), cpC_ne _ (by omega), cpC_ne _ (by omega), up3_off_ _ _ (by omega)]
  · rw [cpC_ne _ (by omega), cpC_ne _ (by omega), cpC_ne _ (by omega), up3_same]
  · rw [cpC_ne _ (by omega), cpC_ne _ (by omega), cpC_in _ ⟨Nat.zero_le f, by omega⟩, up3_off_ _ _ (by omega), show 0 + (f - 0) = f by omega]
  · rw [cpC_ne _ (by omega), cpC_in _ ⟨Nat.zero_le f, by omega⟩, cpC_ne _ (by omega), up3_off_ _ _ (by omega), show 0 + (f - 0) = f by omega]
  · rw [cpC_in _ ⟨Nat.zero_le f, by omega⟩, cpC_ne _ (by omega), cpC_ne _ (by omega), up3_off_ _ _ (by omega), show 0 + (f - 0) = f by omega]
theorem c_kind {Qn : Int32 → gH → Prop} {v : Int32} {p : Nat} (R : D h A N zz C P) (K : KS S N zz C P) (I : SI S) (hv : v.toInt = (p : Int)) (hp : (p : Int) < S 38 0 3) (k0 : ∀ x : Int32, x.toInt = S 42 0 p → Qn x h) : vX4_kindOf t0 Qn h (A 4 0) v := by
  have i0 := I.np
  have a5 : ac N 5 0 := ⟨Nat.one_pos, by decide⟩
  unfold vX4_kindOf vX4_kindOf_b30 vX4_kindOf_b31
  refine clt32 hv (vl (by decide)) (fun z => by omega) (fun _ => ygi R a40 rfl K.np (fun x1 h1 => cle32 h1 hv (fun z => by omega) (fun _ => ?_)))
  refine wgrs R a40 rfl (show dS 4 0 0 = some (5, 0) from rfl) (nn_i (yal R a5 (by decide) (n := 8) rfl (by decide) (fun x4 h4 => cle32 h4 hv (fun z => by omega) (fun _ => ?_))))
  exact wgrs R a40 rfl (show dS 4 0 0 = some (5, 0) from rfl) (nn_i (yli R a5 rfl hv (show p < 8 by omega) (K.kd p hp) k0))
theorem c_setv {Qn : gH → Prop} {v w : Int32} {p : Nat} {x : Int} (hk : k < 4) (R : D h A N zz C P) (hv : v.toInt = (p : Int)) (hp : p < 8) (hw : w.toInt = x) (k0 : ∀ h' : gH, D h' A N zz (up3 C 22 k p x) P → Qn h') : vX3_setValue t0 Qn h (A 21 k) v w := by
  have a22 : ac N 22 k := hk
  unfold vX3_setValue vX3_setValue_b20
  refine clt32 hv (vl (by decide)) (fun z => by omega) (fun _ => m_val hk R (nn_i (yal R a22 (by decide) (n := 8) rfl (by decide) (fun x3 h3 => cle32 h3 hv (fun z => by omega) (fun _ => ?_)))))
  exact m_val hk R (nn_i (wsi R a22 rfl hv (show p < 8 from hp) hw k0))
theorem CQ.setv {h' : gH} {p : Nat} {x : Int} (hm : M 21 ≤ 24) (hp : p < 8) (Z : CQ h A N zz S k tq C0 P0 C P M) (R' : D h' A N zz (up3 C 22 k p x) P) : CQ h' A N zz S k tq C0 P0 (up3 C 22 k p x) P (um M p x) := by
  obtain ⟨R, K, J, F, G⟩ := Z
  exact ⟨R', K.fr (fun j i f hj => up3_off_ _ _ (by omega)) (fun _ _ _ _ => rfl), J.val hm hp, F.up (mP_k (by decide)), G⟩
theorem c_clear {Qn : gH → Prop} {t : Nat} (hk : k < 4) (I : SI S) (ht : (t : Int) < S 38 0 21) (hm : M 21 ≤ 24) (Z : CQ h A N zz S k tq C0 P0 C P M) (k0 : ∀ (h' : gH) (C' : dC), CQ h' A N zz S k tq C0 P0 C' P (clr S t (cnN S t) M) → Qn h') : vX3_clearTriggers t0 Qn h (A 21 k) (some (A 15 (t + 1))) := by
  have ic := I.tc t ht
  have hn : ((cnN S t : Nat) : Int) = S 60 0 (17 * t + 7) := by unfold cnN; omega
  have lp : ∀ (m i : Nat) (h' : gH) (C' : dC) (v2 : Int32), CQ h' A N zz S k tq C0 P0 C' P (clr S t i M) → v2.toInt = (i : Int) → i + m = cnN S t → vX3_clearTriggers_b2 t0 Qn (m + 1) h' (A 21 k) (some (A 15 (t + 1))) v2 := by
    intro m
    induction m with
    | zero =>
      intro i h' C' v2 Z' h2 him
      have him : i = cnN S t := by omega
      subst him
      obtain ⟨R, K, J, F, G⟩ := id Z'
      have kn := K.nn
      have tr := K.tr t (by omega)
      show vX3_clearTriggers_b2_o t0 (vX3_clearTriggers_b2 t0 Qn 0) Qn _ _ _ _
      unfold vX3_clearTriggers_b2_o vX3_clearTriggers_b49
      exact nn_i (ygi R (tr_in K ht) rfl tr.2.2.2.2.2.2 (fun x hx => cle32 hx h2 (fun _ => k0 h' C' Z') (fun z => by omega)))
    | succ m ih =>
      intro i h' C' v2 Z' h2 him
      obtain ⟨R, K, J, F, G⟩ := id Z'
      have kn := K.nn
      have tr := K.tr t (by omega)
      have tc := K.tc t i (by omega) (by omega)
      have cp := cnP_in I ht (k := i) (by omega)
      have tp := I.tp t i ht (by omega)
      have cpe : cnP S t i = S 60 0 (17 * t + 8 + 3 * i) := rfl
      have a16 : ac N 16 (t + 1) := tr_in K ht
      have e : clr S t (i + 1) M = um (clr S t i M) (cnP S t i).toNat (if S 42 0 (cnP S t i).toNat = 2 then 0 else clr S t i M (cnP S t i).toNat) := rfl
      have c21 : clr S t i M 21 = M 21 := clr_off I ht M (by decide) i (by omega)
      have h21 : (v2 + 1).toInt = ((i + 1 : Nat) : Int) := ix_add h2 (ix_lit (by decide)) (by omega)
      show vX3_clearTriggers_b2_o t0 (vX3_clearTriggers_b2 t0 Qn (m + 1)) Qn _ _ _ _
      unfold vX3_clearTriggers_b2_o vX3_clearTriggers_b43
      refine nn_i (ygi R (tr_in K ht) rfl tr.2.2.2.2.2.2 (fun x hx => cle32 hx h2 (fun z => by omega) (fun _ => cle32 (vl (by decide)) h2 (fun z => by omega) (fun _ => ?_))))
      refine m_mod hk R (wgrs R (tr_in K ht) rfl (show dS 15 (t + 1) 8 = some (16, t + 1) from rfl) (nn_i (yli R a16 rfl h2 (show i < 3 by omega) tc.1 (fun x6 h6 => nn_i (wio R a40 rfl (by decide) ?_)))))
      refine c_kind R K I (p := (cnP S t i).toNat) (by omega) (by omega) (fun x9 h9 => cne32 h9 (vl (by decide)) (fun z => ?_) (fun z => ?_))
      · rw [if_neg z] at e
        have e2 : clr S t (i + 1) M = clr S t i M := by
          rw [e]
          funext f
          by_cases y : f = (cnP S t i).toNat
          · rw [y, um_s]
          · rw [um_n _ _ y]
        exact ih (i + 1) h' C' _ (by rw [e2]; exact Z') h21 (by omega)
      · rw [if_pos z] at e
        refine wgrs R (tr_in K ht) rfl (show dS 15 (t + 1) 8 = some (16, t + 1) from rfl) (nn_i (yli R a16 rfl h2 (show i < 3 by omega) tc.1 (fun x12 h12 => iom hk R ?_)))
        exact c_setv hk R (p := (cnP S t i).toNat) (by omega) (by omega) (vl (by decide)) (fun h13 R13 => ih (i + 1) h13 _ _ (by rw [e]; exact Z'.setv (by omega) (by omega) R13) h21 (by omega))
  unfold vX3_clearTriggers
  exact ⟨cnN S t + 1, lp (cnN S t) 0 h C 0 Z (by decide) (by omega)⟩
theorem c_phase {Qn : Int32 → gH → Prop} {t : Nat} (hk : k < 4) (Z : CQ h A N zz S k tq C0 P0 C P M) (I : SI S) (ht : (t : Int) < S 38 0 21) (h12 : 0 ≤ M 12 ∧ M 12 < S 38 0 19) (h14 : 0 ≤ M 14 ∧ M 14 ≤ 1000000) (h20 : M 20 = 0 ∨ M 20 = 1) (k0 : ∀ x : Int32, x.toInt = goP S t M 18 → Qn x h) : vX3_firstPhase t0 Qn h (A 21 k) (some (A 15 (t + 1))) := by
  obtain ⟨R, K, J, F, G⟩ := Z
  have kn := K.nn
  have tr := K.tr t (by omega)
  have tf := K.tf t (by omega)
  have its := I.ts t ht
  have itt := I.tt t ht
  have aT := tr_in K ht
  have am : ac N 21 k := hk
  have a23 : ac N 23 k := hk
  have sA := J.sa (by omega)
  have cA : (((M 12).toNat : Nat) : Int) < S 38 0 19 := by omega
  have cB : (((S 60 0 (17 * t + 1)).toNat : Nat) : Int) < S 38 0 19 := by omega
  have stB := K.st (S 60 0 (17 * t + 1)).toNat (by omega)
  have g18 : goB S t M 18 = S 60 0 (17 * t + 4) * 10000 := rfl
  have sy : syn S (goB S t M) ↔ (M 20 = 0 ∧ S 58 0 (M 12).toNat ≠ 0 ∧ S 58 0 (M 12).toNat = S 58 0 (S 60 0 (17 * t + 1)).toNat) := Iff.rfl
  unfold vX3_firstPhase vX3_firstPhase_b24 vX3_firstPhase_b65
  have out : ¬ syn S (goB S t M) → nn (some (A 15 (t + 1))) (fun a1 => gi h a1 12 5 (fun x2 => Qn (x2 * 10000) h)) := fun hn => by
    refine nn_i (ygi R aT rfl tr.2.2.2.1 (fun x2 h2 => k0 _ ?_))
    have e : goP S t M 18 = S 60 0 (17 * t + 4) * 10000 := by unfold goP; rw [if_neg hn]; exact g18
    rw [e]
    exact mul_ti h2 (vl (by decide)) (by omega)
  refine ygi R am rfl J.fz (fun x1 h1 => cne32 h1 (vl (by decide)) (fun z => out (fun y => z (sy.mp y).1)) (fun z => ?_))
  refine m_src hk R (nn_i (ygr R a23 rfl sA (nn_i (ygr R aT rfl tf.2 (nn_i (wio R (st_in K cA) rfl (by decide) ?_))))))
  refine c_synced R K cA cB (fun y1 y2 => yes0 ?_) (fun y => no0 (out (fun q => y ⟨(sy.mp q).2.1, (sy.mp q).2.2⟩)))
  have e : goP S t M 18 = if M 14 = 1000000 ∧ S 57 0 (S 60 0 (17 * t + 1)).toNat ≠ 0 then 999999 else M 14 := by
    unfold goP
    rw [if_pos (sy.mpr ⟨z, y1, y2⟩), um_s]
  rw [e] at k0
  refine ygr R aT rfl tf.2 (nn_i (ygi R (st_in K cB) rfl stB.2.2.2.1 (fun x12 h12' => ceq32 h12' (vl (by decide)) (fun q => ?_) (fun q => ?_))))
  · exact m_src hk R (nn_i (ygi R a23 rfl J.ta.2.1 (fun x15 h15 => k0 _ (by rw [if_neg fun w => w.2 q]; exact h15))))
  · unfold vJ9_min_7cf53 vJ9_min_7cf53_b10
    refine m_src hk R (nn_i (ygi R a23 rfl J.ta.2.1 (fun x18 h18 => clt32 (vl (by decide)) h18 (fun w => k0 _ ?_) (fun w => k0 _ ?_))))
    · rw [if_pos ⟨by omega, q⟩]; decide
    · rw [if_neg (by omega)]; exact h18
/-- the target begins, and the machine goes on with it -/
theorem c_take72 {Qn : gH → Prop} {t : Nat} (hk : k < 4) (Z : CQ h A N zz S k tq C0 P0 C P M) (I : SI S) (K0 : MA S tb M) (h8 : M 8 = 0 ∨ M 8 = 1) (ht : (t : Int) < S 38 0 21) (k0 : ∀ (h' : gH) (C' : dC) (P' : dP), CQ h' A N zz S k tq C0 P0 C' P' (goT S t M) → Qn h') : vX3_take_b72 t0 Qn h (A 21 k) (some (A 15 (t + 1))) := by
  obtain ⟨R, K, J, F, G⟩ := id Z
  have kn := K.nn
  have tr := K.tr t (by omega)
  have tf := K.tf t (by omega)
  have itt := I.tt t ht
  have aT := tr_in K ht
  have am : ac N 21 k := hk
  have kc := K0.ca
  have kf := K0.fm
  have ku := K0.cu
  have g18 := goP_18 I ht (M := M) ⟨kc.2.1, kc.2.2.1⟩
  have g16 : goP S t M 16 = S 60 0 (17 * t + 1) := goP_of S t M (by decide)
  have g17 : goP S t M 17 = 0 := goP_of S t M (by decide)
  have g19 : goP S t M 19 = 1 := goP_of S t M (by decide)
  have goff := fun {f : Nat} (h : f < 16 ∨ 20 ≤ f) => goP_off S t M h
  have aS : ac N 14 ((S 60 0 (17 * t + 1)).toNat + 1) := st_in K (by omega)
  unfold vX3_take_b72 vX3_take_b112
  refine m_tgt hk R (nn_i (ygr R aT rfl tf.2 (iom hk R ?_)))
  refine c_phase hk Z I ht K0.sa ⟨kc.2.1, kc.2.2.1⟩ K0.fz (fun x5 h5 => nn_i (ioj (j := 24) (by decide) hk R rfl (by decide) ?_))
  refine c_begin hk R aS h5 (fun h7 C7 R7 F7 c1 c2 c3 c4 c5 => ?_)
  have P7 : ∀ j i f : Nat, ¬ (j = 24 ∧ i = k ∧ f = 0) → up3 P 24 k 0 (some (14, (S 60 0 (17 * t + 1)).toNat + 1)) j i f = P j i f := fun j i f hj => up3_ne _ _ hj
  have P7s : up3 P 24 k 0 (some (14, (S 60 0 (17 * t + 1)).toNat + 1)) 24 k 0 = some (14, (S 60 0 (17 * t + 1)).toNat + 1) := up3_same _ _ _ _ _
  generalize up3 P 24 k 0 (some (14, (S 60 0 (17 * t + 1)).toNat + 1)) = P7' at *
  have tg : P7' 24 k 0 = some (14, (goP S t M 16).toNat + 1) ∧ C7 24 k 1 = goP S t M 17 ∧ C7 24 k 2 = goP S t M 18 ∧ C7 24 k 3 = goP S t M 19 := ⟨by rw [P7s, g16], by rw [c1, g17], c2, by rw [c3, g19]⟩
  have J7 : CP S k tq (goP S t M) C7 P7' := J.beg (by omega) F7 P7 (fun f h => goff h) tg ⟨Or.inr c3, Or.inr c5⟩
  have K7 : KS S N zz C7 P7' := K.fr (fun j i f hj => F7 j i f (by omega)) (fun j i f hj => P7 j i f (by omega))
  have Fm7 : Fm k C0 C7 := fun j i f hj => (F7 j i f fun z => hj (by rw [z.1, z.2.1]; exact mP_k (by decide))).trans (F j i f hj)
  have G7 : FmP k P0 P7' := fun j i f hj => (P7 j i f fun z => hj (by rw [z.1, z.2.1]; exact mP_k (by decide))).trans (G j i f hj)
  have tr7 := K7.tr t (by omega)
  have m21 : goP S t M 21 = M 21 := goff (by omega)
  refine ygi R7 (tr_in K7 ht) rfl tr7.2.1 (fun x8 h8' => cne32 h8' (vl (by decide)) (fun z => ?_) (fun z => iom hk R7 ?_))
  · have e : goT S t M = um (um (um (goP S t M) 8 1) 9 (t : Int)) 10 0 := by unfold goT; rw [if_neg (show ¬ durS S t = 0 from z)]
    rw [e] at k0
    refine ypvQ (o := some (15, t + 1)) R7 am rfl rfl (fun q hq => by cases hq; exact tr_in K7 ht) (fun h9 R9 => wpvI R9 am rfl (v := 0) (vl (by decide)) (fun h10 R10 => k0 h10 _ _ ⟨R10, K7.fr (fun j i f hj => up3_off_ _ _ (by omega)) (fun j i f hj => up3_ne _ _ (by omega)), ?_, Fm7.up (mP_k (by decide)), G7.up (mP_k (by decide))⟩))
    exact J7.cur (by omega) (fun j i f hj => up3_ne _ _ hj) (up3_same _ _ _ _ _) (fun j i f hj => up3_ne _ _ hj) (up3_same _ _ _ _ _) tg
  · have e : goT S t M = endM (goP S t M) := by unfold goT; rw [if_pos (show durS S t = 0 from z)]
    rw [e] at k0
    refine c_idle hk R7 (Or.inr c3) (Or.inr c5) (fun h11 C11 P11 R11 f1 f2 e5 f3 g1 g2 g3 => k0 h11 C11 P11 ⟨R11, K7.fr (fun j i f hj => f1 j i f (by omega) (by omega)) (fun j i f hj => g3 j i f (by omega) (by omega)), ?_, fun j i f hj => (f1 j i f (fun q => hj (by rw [q.1, q.2.1]; exact mP_k (by decide))) (fun q => hj (by rw [q.1, q.2.1]; exact mP_k (by decide)))).trans (Fm7 j i f hj), fun j i f hj => (g3 j i f (fun q => hj (by rw [q.1, q.2.1]; exact mP_k (by decide))) (fun q => hj (by rw [q.1, q.2.1]; exact mP_k (by decide)))).trans (G7 j i f hj)⟩)
    refine J7.idle f1 f2 f3 g1 g2 (fun f hf => ?_) rfl rfl rfl ⟨fun _ => tg.1, tg.2⟩
    rcases hf with hf | hf
    · exact endM_lo hf
    · exact endM_hi (by omega)
theorem c_take {Qn : gH → Prop} {t : Nat} {l : Int} (hk : k < 4) (Z : CQ h A N zz S k tq C0 P0 C P M) (I : SI S) (J0 : MI S tb M) (hns : 0 < S 38 0 19) (ht : (t : Int) < S 38 0 21) (hl : lst S M t = l) (hl2 : l = 1 ∨ l = 2) (k0 : ∀ (h' : gH) (C' : dC) (P' : dP), CQ h' A N zz S k tq C0 P0 C' P' (takM S (clr S t (cnN S t) M) t l) → Qn h') : vX3_take t0 Qn h (A 21 k) (some (A 15 (t + 1))) := by
  have J' := J0.clr I ht
  have e8 : clr S t (cnN S t) M 8 = M 8 := clr_off I ht M (by decide) _ (Nat.le_refl _)
  have e11 : clr S t (cnN S t) M 11 = M 11 := clr_off I ht M (by decide) _ (Nat.le_refl _)
  have j6 := J0.fm
  have j4 := J0.cu
  have rest : ∀ s0 : Int32, ((l = 2 ∧ s0 = 1) ∨ (l = 1 ∧ s0 = 0)) → vX3_take_b14 t0 Qn h (A 21 k) (some (A 15 (t + 1))) s0 := fun s0 hs => by
    unfold vX3_take_b14
    refine iom hk Z.1 (c_clear hk I ht (by omega) Z (fun h1 C1 Z1 => ?_))
    have cut : M 8 = 1 → M 11 < 2 := fun z => lst_cut (S := S) (t := t) z (by omega)
    generalize clr S t (cnN S t) M = M1 at *
    obtain ⟨R1, K1, JC, F1, G1⟩ := id Z1
    have am : ac N 21 k := hk
    have j1 := J'.mi
    by_cases h8 : M1 8 = 1
    · have te : takM S M1 t l = goT S t (frz S M1 l) := by unfold takM; rw [if_pos h8]
      rw [te] at k0
      have mx := JC.mx h8
      obtain ⟨q1, q2, q3⟩ := qpose_in I J' h8
      have h11 : M1 11 < 2 := by rw [e11]; exact cut (by omega)
      have KF := MA_frz0 I J' h8 h11
      have KL := MA_frz I J' h8 h11 l
      have kfm := KF.1.fm
      have kcu := KF.1.cu
      refine ygr R1 am rfl mx.1 ⟨(fun z => by cases z), fun a _ => iom hk R1 ?_⟩
      refine c_fillPose hk Z1 I J' hns (fun h4 C4 Z4 B4 p4 => ?_)
      obtain ⟨R4, K4, JC4, F4, G4⟩ := id Z4
      refine m_fzp hk R4 (m_pos hk R4 (nn_i (ioj (j := 25) (by decide) hk R4 rfl (by decide) ?_)))
      refine c_pcopy (sj := 29) (Or.inr rfl) hk hk R4 (fun h8' C8 R8 F8 e25 e26 => ?_)
      refine wpvI R8 am rfl (v := 1) (vl (by decide)) (fun h9 R9 => ?_)
      refine ygi R9 am rfl (v := M1 11) ((up3_ne _ _ (by omega)).trans ((F8 21 k 8 (by omega)).trans JC4.cu)) (fun x10 h10 => ?_)
      have j4' := J'.cu
      refine wpvI R9 am rfl (v := M1 11 + 1) (add_ti h10 (vl (by decide)) (by omega)) (fun h11' R11 => ?_)
      have c11 : ∀ j i f : Nat, ¬ (25 ≤ j ∧ j ≤ 28 ∧ i = k) → ¬ (j = 21 ∧ i = k ∧ (f = 6 ∨ f = 8)) → up3 (up3 C8 21 k 6 1) 21 k 8 (M1 11 + 1) j i f = C4 j i f := fun j i f a1 a2 => by rw [up3_ne _ _ (by omega), up3_ne _ _ (by omega)]; exact F8 j i f a1
      have J11 : CP S k tq (frz0 S M1) (up3 (up3 C8 21 k 6 1) 21 k 8 (M1 11 + 1)) P := JC4.frz (by omega) c11 ((up3_ne _ _ (by omega)).trans (up3_same _ _ _ _ _)) (up3_same _ _ _ _ _) ((up3_ne _ _ (by omega)).trans ((up3_ne _ _ (by omega)).trans (e25.trans p4.1))) (fun i hi => by
        obtain ⟨x1, x2, x3⟩ := e26 i (by omega)
        obtain ⟨y1, y2, y3⟩ := p4.2 i hi
        exact ⟨(up3_ne _ _ (by omega)).trans ((up3_ne _ _ (by omega)).trans (x1.trans y1)), (up3_ne _ _ (by omega)).trans ((up3_ne _ _ (by omega)).trans (x2.trans y2)), (up3_ne _ _ (by omega)).trans ((up3_ne _ _ (by omega)).trans (x3.trans y3))⟩)
      have Z11 : CQ h11' A N zz S k tq C0 P0 (up3 (up3 C8 21 k 6 1) 21 k 8 (M1 11 + 1)) P (frz0 S M1) := ⟨R11, K4.fr (fun j i f hj => c11 j i f (by omega) (by omega)) (fun _ _ _ _ => rfl), J11, fun j i f hj => (c11 j i f (fun z => hj (by rw [z.2.2]; exact mP_k (by omega))) (fun z => hj (by rw [z.1, z.2.1]; exact mP_k (by decide)))).trans (F4 j i f hj), G4⟩
      generalize up3 (up3 C8 21 k 6 1) 21 k 8 (M1 11 + 1) = C11 at *
      have f8 : frz0 S M1 8 = M1 8 := KF.2.1 8 (by decide) (by decide)
      rcases hs with ⟨rfl, rfl⟩ | ⟨rfl, rfl⟩
      · have el : frz S M1 2 = cpT (frz0 S M1) := by unfold frz; rw [if_pos rfl]
        rw [el] at k0 KL
        have bo := J11.bo
        refine yes1 (m_src hk R11 (m_tgt hk R11 (nn_i (ioj (j := 23) (by decide) hk R11 rfl (by decide) ?_))))
        refine c_tcopy (j := 23) (j' := 24) (Or.inl rfl) (Or.inr rfl) (by omega) hk hk R11 bo.2.2.1 bo.2.2.2 (fun h15 C15 R15 F15 E15 => ?_)
        have J15 := J11.cpt (by omega) (by rw [f8]; exact h8) F15 E15 (P' := up3 P 23 k 0 (P 24 k 0)) (fun j i f hj => up3_ne _ _ hj) (up3_same _ _ _ _ _)
        have Z15 : CQ h15 A N zz S k tq C0 P0 C15 (up3 P 23 k 0 (P 24 k 0)) (cpT (frz0 S M1)) := ⟨R15, Z11.2.1.fr (fun j i f hj => F15 j i f (by omega)) (fun j i f hj => up3_ne _ _ (by omega)), J15, fun j i f hj => (F15 j i f (fun z => hj (by rw [z.1, z.2.1]; exact mP_k (by decide)))).trans (Z11.2.2.2.1 j i f hj), Z11.2.2.2.2.up (mP_k (by decide))⟩
        exact c_take72 hk Z15 I KL (Or.inr (f8.trans h8)) ht k0
      · have el : frz S M1 1 = frz0 S M1 := by unfold frz; rw [if_neg (by decide)]
        rw [el] at k0 KL
        exact no1 (c_take72 hk Z11 I KL (Or.inr (f8.trans h8)) ht k0)
    · have te : takM S M1 t l = goT S t (idl M1) := by unfold takM; rw [if_neg h8]
      rw [te] at k0
      have h80 : M1 8 = 0 := by omega
      have jd := J'.id h80
      have ei : idl M1 = M1 := funext fun f => by
        unfold idl
        by_cases a : f = 21
        · rw [a, um_s]; exact jd.2.2.symm
        by_cases b : f = 20
        · rw [um_n _ _ a, b, um_s]; exact jd.2.1.symm
        by_cases c : f = 11
        · rw [um_n _ _ a, um_n _ _ b, c, um_s]; exact jd.1.symm
        · rw [um_n _ _ a, um_n _ _ b, um_n _ _ c]
      have KI := MA_idl J' hns h80
      rw [ei] at k0 KI
      refine ygn R1 am rfl (JC.mi h80) ⟨fun _ => ?_, fun a z => by cases z⟩
      exact c_take72 hk Z1 I KI (Or.inl h80) ht k0
  unfold vX3_take
  refine iom hk Z.1 (c_origin hk Z I J0 ht (fun x2 h2 => ?_))
  rw [hl] at h2
  refine cne32 h2 (vl (by decide)) (fun z => rest 0 (Or.inr ⟨by omega, rfl⟩)) (fun z => rest 1 (Or.inl ⟨z, rfl⟩))
end CX
