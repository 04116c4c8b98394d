/-! ===== the reference: what is asked of a running machine ===== -/
theorem tak_hi {S : dC} {tb : Int} {M : dM} (I : SI S) (J : MI S tb M) {f : Nat} (hf : 166 ≤ f) : tak S M f = M f := by
  unfold tak
  cases hp : pick S M with
  | none => rfl
  | some u =>
    obtain ⟨t, l⟩ := u
    obtain ⟨p1, p2, p3⟩ := pick_in hp
    have ht : (t : Int) < S 38 0 21 := by unfold nT at p1; omega
    have J' := J.clr I ht
    have e := clr_off I ht M (show 8 ≤ f by omega) (cnN S t) (Nat.le_refl _)
    show takM S (clr S t (cnN S t) M) t l f = M f
    rw [← e]
    generalize clr S t (cnN S t) M = M1 at *
    have j1 := J'.mi
    have go : ∀ M2 : dM, M2 f = M1 f → goT S t M2 f = M1 f := fun M2 h => by
      have g := goP_off S t M2 (f := f) (by omega)
      unfold goT
      split
      · rw [endM_hi (by omega), g, h]
      · rw [um_n _ _ (by omega), um_n _ _ (by omega), um_n _ _ (by omega), g, h]
    unfold takM
    refine go _ ?_
    split
    · rename_i h8
      obtain ⟨q1, q2, q3⟩ := qpose_in I J' h8
      have j4 := J'.cu
      have z : frz0 S M1 f = M1 f := by rw [frz0_of, if_neg (by omega), if_neg (by omega), if_neg (by omega), putQ_hi _ _ (by omega) hf]
      unfold frz
      split
      · rw [cpT_of, if_neg (by omega)]; exact z
      · exact z
    · unfold idl
      rw [um_n _ _ (by omega), um_n _ _ (by omega), um_n _ _ (by omega)]
theorem takN_hi {S : dC} {tb : Int} (I : SI S) (hns : 0 < S 38 0 19) {f : Nat} (hf : 166 ≤ f) : ∀ (n : Nat) (M : dM), MI S tb M → takN S n M f = M f
  | 0, _, _ => rfl
  | n + 1, M, J => (takN_hi I hns hf n (tak S M) (MI_tak I J hns)).trans (tak_hi I J hf)
theorem tkM_hi {S : dC} {tb : Int} {M : dM} (I : SI S) (J : MI S tb M) (hns : 0 < S 38 0 19) {f : Nat} (hf : f = 287 ∨ 288 < f) : tkM S M f = M f := by
  have j1 := J.mi
  unfold tkM
  split
  · rename_i h8
    have K := MI_adA I J hns h8
    unfold tkI
    rw [(evI_fir I (evI_of K.ev K.fi.1)).2.2 f (by omega), adv_off (by omega)]
  · rw [(evI_tkB I J).2.2 f (by omega), tkF_hi (by omega)]
theorem tck_hi {S : dC} {tb : Int} {M : dM} (I : SI S) (J : MI S tb M) (hns : 0 < S 38 0 19) {f : Nat} (hf : 288 < f) : tck S M f = M f := by
  have K := MI_takN I hns 4 _ (MI_287 J (M 287 + 1))
  show tkM S (takN S 4 (um M 287 (M 287 + 1))) f = M f
  rw [tkM_hi I K hns (by omega), takN_hi I hns (by omega) 4 _ (MI_287 J _), um_n _ _ (by omega)]
theorem tck_287 {S : dC} {tb : Int} {M : dM} (I : SI S) (J : MI S tb M) (hns : 0 < S 38 0 19) : tck S M 287 = M 287 + 1 := by
  have K := MI_takN I hns 4 _ (MI_287 J (M 287 + 1))
  show tkM S (takN S 4 (um M 287 (M 287 + 1))) 287 = _
  rw [tkM_hi I K hns (by omega), takN_hi I hns (by omega) 4 _ (MI_287 J _), um_s]
theorem tcks_hi {S : dC} (I : SI S) (hns : 0 < S 38 0 19) {f : Nat} (hf : 288 < f) : ∀ (n : Nat) (tb : Int) (M : dM), MI S tb M → tcks S n M f = M f
  | 0, _, _, _ => rfl
  | n + 1, tb, M, J => (tcks_hi I hns hf n (tb + 1) (tck S M) (MI_tck I J hns)).trans (tck_hi I J hns hf)
theorem tcks_287 {S : dC} (I : SI S) (hns : 0 < S 38 0 19) : ∀ (n : Nat) (tb : Int) (M : dM), MI S tb M → tcks S n M 287 = M 287 + n
  | 0, _, M, _ => by show M 287 = M 287 + ((0 : Nat) : Int); omega
  | n + 1, tb, M, J => by
    show tcks S n (tck S M) 287 = _
    rw [tcks_287 I hns n (tb + 1) (tck S M) (MI_tck I J hns), tck_287 I J hns]
    omega
/-- after how many ticks the machine is idle in a state -/
noncomputable def tto (S : dC) (s : Int) : Nat → Int → dM → Int
  | 0, _, _ => -1
  | m + 1, n, M => if M 8 = 0 ∧ M 12 = s then n else tto S s m (n + 1) (tck S M)
/-- what a call of the reference leaves behind -/
def Fw (C C' : dC) : Prop := ∀ j i f : Nat, ¬ gP j f → ¬ (j = 38 ∧ f = 25) → C' j i f = C j i f
def RX (h : gH) (A : dA) (N zz : Nat → Nat) (P : dP) (C C' : dC) (c : Int) (M : dM) : Prop := D h A N zz C' P ∧ St C C' ∧ C' 40 0 = M ∧ C' 38 0 25 = c ∧ Fw C C'
theorem gP_25 : ¬ gP 38 25 := by unfold gP; omega
section AK
variable {h : gH} {A : dA} {N zz : Nat → Nat} {C C1 : dC} {P : dP} {M : dM} {tb : Int}
theorem RX_of {h' : gH} {C' : dC} (Z : RQ h' A N zz P C (up3 C 38 0 25 0) C' M) : RX h' A N zz P C C' 0 M := by
  obtain ⟨R, E, fr, e⟩ := Z
  exact ⟨R, E, e, (fr 38 0 25 gP_25).trans (by simp only [up3, eq_self, asb, Nat.add_zero, Nat.zero_add, Nat.reduceEqDiff, false_and, and_false, and_true, true_and, if_true, if_false, ↓reduceIte]), fun j i f g n => (fr j i f g).trans (up3_ne C 0 fun z => n ⟨z.1, z.2.2⟩)⟩
theorem r_no {Qn : Int32 → gH → Prop} {h' : gH} {C' : dC} {v : Int32} {w : Int} (Z : RQ h' A N zz P C (up3 C 38 0 25 0) C' M) (hv : v.toInt = w) (k : ∀ (x : Int32) (h2 : gH) (C2 : dC), RX h2 A N zz P C C2 w M → Qn x h2) : vX12_fails Qn h' (A 38 0) v := by
  obtain ⟨R, E, fr, e⟩ := Z
  refine r_fails R hv (fun h2 R2 => k 0 h2 _ ⟨R2, fun j i f hs => ?_, ?_, by simp only [up3, eq_self, asb, Nat.add_zero, Nat.zero_add, Nat.reduceEqDiff, false_and, and_false, and_true, true_and, if_true, if_false, ↓reduceIte], fun j i f g n => ?_⟩)
  · rw [up3_ne C' w fun z => by rw [z.1, z.2.2] at hs; cases hs]; exact E j i f hs
  · rw [up3_off C' w (by omega)]; exact e
  · rw [up3_ne C' w fun z => n ⟨z.1, z.2.2⟩]; exact (fr j i f g).trans (up3_ne C 0 fun z => n ⟨z.1, z.2.2⟩)
theorem r_code {K : gH → Prop} (R : D h A N zz C P) (k : ∀ h1 : gH, RQ h1 A N zz P C (up3 C 38 0 25 0) (up3 C 38 0 25 0) (C 40 0) → K h1) : pv h (A 38 0) 15 25 (.int 0) K :=
  wpvI R ⟨Nat.one_pos, by decide⟩ rfl (vl (by decide)) (fun h1 R1 => k h1 ⟨R1, St.up rfl (St.rf C), Fr.rf _, up3_n40 C _ _ _ (by decide)⟩)
theorem rd38 {S C0 : dC} {h' : gH} {C' : dC} {K : Int32 → Prop} {f : Nat} (Z' : RQ h' A N zz P S C0 C' M) (hf : dK 38 f = some (15, 0)) (hs : sta 38 f = true) (k : ∀ y : Int32, y.toInt = S 38 0 f → K y) : gi h' (A 38 0) 15 f K := wgi Z'.1 ⟨Nat.one_pos, by decide⟩ hf (fun y hy => k y (hy.trans (Z'.2.1 38 0 f hs)))
theorem sC0 {f : Nat} (h : f ≠ 25) : up3 C 38 0 25 0 38 0 f = C 38 0 f := up3_ne C 0 fun z => h z.2.2
/-- a pair of goals over the answer of a small check -/
theorem yes0 {K1 K2 : Prop} (k : K1) : ((¬ (1 : Int32) = 0) → K1) ∧ ((1 : Int32) = 0 → K2) := ⟨fun _ => k, fun z => absurd z (by decide)⟩
theorem no0 {K1 K2 : Prop} (k : K2) : ((¬ (0 : Int32) = 0) → K1) ∧ ((0 : Int32) = 0 → K2) := ⟨fun z => absurd rfl z, fun _ => k⟩
theorem yes1 {K1 K2 : Prop} (k : K1) : ((1 : Int32) = 0 → K2) ∧ ((¬ (1 : Int32) = 0) → K1) := ⟨fun z => absurd z (by decide), fun _ => k⟩
theorem no1 {K1 K2 : Prop} (k : K2) : ((0 : Int32) = 0 → K2) ∧ ((¬ (0 : Int32) = 0) → K1) := ⟨fun _ => k, fun z => absurd rfl z⟩
theorem x_blocked {Qn : Int32 → gH → Prop} {v : Int32} (R : D h A N zz C P) (I : SI C) (J : MI C tb (C 40 0))
  (k1 : (v.toInt < 0 ∨ C 38 0 21 ≤ v.toInt) → ∀ (x : Int32) (h' : gH) (C' : dC), RX h' A N zz P C C' 1 (C 40 0) → Qn x h')
  (k0 : 0 ≤ v.toInt → v.toInt < C 38 0 21 → 0 < C 38 0 19 → ∀ (x : Int32) (h' : gH) (C' : dC), RX h' A N zz P C C' 0 (C 40 0) → x.toInt = blkS C (C 40 0) v.toInt.toNat → Qn x h') : vX12_blocked Qn h (A 38 0) v := by
  have i1 := I.nt
  have i2 := I.ns
  unfold vX12_blocked
  refine r_code R (fun h1 Z => io38 Z ?_)
  refine r_isTransition Z.1 (by rw [sC0 (by decide)]; exact i1) (fun a b => yes0 ?_) (fun a => no0 (io38 Z (r_no Z (vl (by decide)) (k1 (by rw [sC0 (by decide)] at a; exact a)))))
  rw [sC0 (by decide)] at b
  have hns : 0 < C 38 0 19 := by have := I.tt v.toInt.toNat (by omega); omega
  have k0 := k0 a b hns
  refine rd38 Z rfl rfl (fun x4 h4 => ?_)
  have e : v.toInt = ((v.toInt.toNat : Nat) : Int) := by omega
  refine cne32 h4 (vl (by decide)) (fun _ => io38 Z ?_) (fun z => by omega)
  refine r_listOf Z I J e (by omega) (fun x6 h6 => ?_)
  unfold vX12_blocked_b35 vX12_blocked_b50
  refine cne32 h6 (vl (by decide)) (fun c => io38 Z ?_) (fun c => ?_)
  · exact r_against Z I e h6 (by omega) (fun x2 h2 => k0 x2 h1 _ (RX_of Z) (by rw [h2]; unfold blkS; rw [if_neg c]))
  · exact k0 1 h1 _ (RX_of Z) (by unfold blkS; rw [if_pos c]; decide)
theorem x_stateLength {Qn : Int32 → gH → Prop} {v : Int32} (R : D h A N zz C P) (I : SI C) (J : MI C tb (C 40 0))
  (k1 : (v.toInt < 0 ∨ C 38 0 19 ≤ v.toInt) → ∀ (x : Int32) (h' : gH) (C' : dC), RX h' A N zz P C C' 1 (C 40 0) → Qn x h')
  (k0 : 0 ≤ v.toInt → v.toInt < C 38 0 19 → ∀ (x : Int32) (h' : gH) (C' : dC), RX h' A N zz P C C' 0 (C 40 0) → x.toInt = lenS C (C 40 0) v.toInt.toNat → Qn x h') : vX12_stateLength Qn h (A 38 0) v := by
  have i2 := I.ns
  unfold vX12_stateLength vX12_stateLength_b27
  refine r_code R (fun h1 Z => io38 Z ?_)
  refine r_isState Z.1 (by rw [sC0 (by decide)]; exact i2) (fun a b => yes1 ?_) (fun a => no1 (io38 Z (r_no Z (vl (by decide)) (k1 (by rw [sC0 (by decide)] at a; exact a)))))
  rw [sC0 (by decide)] at b
  have hl := lenS_in I (C 40 0) (s := v.toInt.toNat) (by omega)
  refine io38 Z (r_lengthOf Z I J.va (s := v.toInt.toNat) (by omega) (by omega) (fun x h' C' Z' hx => k0 a b _ h' C' (RX_of Z') (nar_ti hx (by omega))))
theorem x_partWeight {Qn : Int32 → gH → Prop} {v w : Int32} (R : D h A N zz C P) (I : SI C) (J : MI C tb (C 40 0))
  (k1 : (v.toInt < 0 ∨ C 38 0 19 ≤ v.toInt) ∨ (w.toInt < 0 ∨ C 38 0 8 ≤ w.toInt) → ∀ (x : Int32) (h' : gH) (C' : dC), RX h' A N zz P C C' 1 (C 40 0) → Qn x h')
  (k0 : 0 ≤ v.toInt → v.toInt < C 38 0 19 → 0 ≤ w.toInt → w.toInt < C 38 0 8 → ∀ (x : Int32) (h' : gH) (C' : dC), RX h' A N zz P C C' 0 (C 40 0) → x.toInt = bw C (C 40 0) v.toInt.toNat 1000000 w.toInt.toNat → Qn x h') : vX12_partWeight Qn h (A 38 0) v w := by
  have i2 := I.ns
  have i3 := I.nc
  have i4 := I.nn
  unfold vX12_partWeight vX12_partWeight_b21
  refine r_code R (fun h1 Z => io38 Z ?_)
  refine r_isState Z.1 (by rw [sC0 (by decide)]; exact i2) (fun a b => yes1 (io38 Z ?_)) (fun a => no1 (io38 Z (r_no Z (vl (by decide)) (k1 (Or.inl (by rw [sC0 (by decide)] at a; exact a))))))
  rw [sC0 (by decide)] at b
  refine r_isClip Z.1 (by rw [sC0 (by decide)]; exact i3) (fun a' b' => yes0 ?_) (fun a => no0 (io38 Z (r_no Z (vl (by decide)) (k1 (Or.inr (by rw [sC0 (by decide)] at a; exact a))))))
  rw [sC0 (by decide)] at b'
  have mo := I.mo v.toInt.toNat (by omega)
  have mc := I.mc v.toInt.toNat (by omega)
  have hw := bw_in I (C 40 0) (s := v.toInt.toNat) (w := 1000000) w.toInt.toNat (by omega) (by decide)
  refine wgrs Z.1 ⟨Nat.one_pos, by decide⟩ rfl rfl (nn_i ?_)
  refine wli Z.1 ⟨Nat.one_pos, by decide⟩ rfl (m := v.toInt.toNat) (by unfold isN; omega) (show v.toInt.toNat < 10 by omega) (fun x8 h8 => io38 Z ?_)
  have h8 : x8.toInt = C 55 0 v.toInt.toNat := h8.trans (Z.2.1 55 0 _ rfl)
  have hM := Z.2.2.2
  refine r_blends Z.1 Z.2.1 I (n := (C 55 0 v.toInt.toNat).toNat) (w := 1000000) (by omega) (vlL (by decide)) (by omega) mc (by decide) (by rw [hM]; exact J.va) (fun h' C' R' E' f' e' eb => ?_)
  rw [hM] at e' eb
  have Z' : RQ h' A N zz P C (up3 C 38 0 25 0) C' (C 40 0) := ⟨R', E', Fr.tr Z.2.2.1 f'.fr, e'⟩
  refine wgrs R' ⟨Nat.one_pos, by decide⟩ rfl rfl (nn_i ?_)
  refine wll R' ⟨Nat.one_pos, by decide⟩ rfl (m := w.toInt.toNat) (by unfold isN; omega) (show w.toInt.toNat < 12 by omega) (fun x12 h12 => ?_)
  have h12 : x12.toInt = bw C (C 40 0) v.toInt.toNat 1000000 w.toInt.toNat := h12.trans (eb _ (by omega))
  exact k0 a b a' b' _ h' C' (RX_of Z') (nar_ti h12 (by omega))
theorem x_poseSize {Qn : Int32 → gH → Prop} (R : D h A N zz C P) (I : SI C) (J : MI C tb (C 40 0))
  (k0 : ∀ (x : Int32) (h' : gH) (C' : dC), RX h' A N zz P C C' 0 (C 40 0) → x.toInt = ((qpose C (C 40 0)).1 : Int) → Qn x h') : vX12_poseSize Qn h (A 38 0) := by
  unfold vX12_poseSize
  refine r_code R (fun h1 Z => io38 Z (r_poses Z I J (fun h' C' Z' p sm => ?_)))
  exact wgi Z'.1 ⟨Nat.one_pos, by decide⟩ rfl (fun y hy => k0 y h' C' (RX_of Z') (hy.trans p.1))
theorem r_hasEntry {Qn : Int32 → gH → Prop} {v : Int32} (R : D h A N zz C P) (I : SI C) (J : MI C tb (C 40 0))
  (k1 : (v.toInt < 0 ∨ ((qpose C (C 40 0)).1 : Int) ≤ v.toInt) → ∀ (h' : gH) (C' : dC), RQ h' A N zz P C (up3 C 38 0 25 0) C' (C 40 0) → Qn 0 h')
  (k0 : 0 ≤ v.toInt → v.toInt < ((qpose C (C 40 0)).1 : Int) → ∀ (h' : gH) (C' : dC), RQ h' A N zz P C (up3 C 38 0 25 0) C' (C 40 0) → pzR C' (qpose C (C 40 0)) → qsm (qpose C (C 40 0)) 48 80000000 → Qn 1 h') : vX12_hasEntry Qn h (A 38 0) v := by
  unfold vX12_hasEntry
  refine r_code R (fun h1 Z => io38 Z (r_poses Z I J (fun h' C' Z' p sm => ?_)))
  have sm1 := sm.1
  refine wgi Z'.1 ⟨Nat.one_pos, by decide⟩ rfl (fun x3 hx => ?_)
  have hx := hx.trans p.1
  refine r_in (wid_ti rfl) (vlL (by decide)) (wid_ti (sub_ti hx (vl (by decide)) (by omega))) (fun a b => ⟨gZ_of (by decide), k0 a (by omega) h' C' Z' p sm⟩) (fun a => ⟨gZ_of (by decide), k1 (by omega) h' C' Z'⟩)
theorem x_poseClip {Qn : Int32 → gH → Prop} {v : Int32} (R : D h A N zz C P) (I : SI C) (J : MI C tb (C 40 0))
  (k1 : (v.toInt < 0 ∨ ((qpose C (C 40 0)).1 : Int) ≤ v.toInt) → ∀ (x : Int32) (h' : gH) (C' : dC), RX h' A N zz P C C' 1 (C 40 0) → Qn x h')
  (k0 : 0 ≤ v.toInt → v.toInt < ((qpose C (C 40 0)).1 : Int) → ∀ (x : Int32) (h' : gH) (C' : dC), RX h' A N zz P C C' 0 (C 40 0) → x.toInt = (qpose C (C 40 0)).2.1 v.toInt.toNat → Qn x h') : vX12_poseClip Qn h (A 38 0) v := by
  unfold vX12_poseClip vX12_poseClip_b22
  refine wio R ⟨Nat.one_pos, by decide⟩ rfl (by decide) (r_hasEntry R I J (fun a h' C' Z' => no1 (io38 Z' (r_no Z' (vl (by decide)) (k1 a)))) (fun a b h' C' Z' p sm => yes1 ?_))
  have sm1 := sm.1
  refine wgrs Z'.1 ⟨Nat.one_pos, by decide⟩ rfl rfl (nn_i ?_)
  exact wli Z'.1 ⟨Nat.one_pos, by decide⟩ rfl (m := v.toInt.toNat) (by unfold isN; omega) (show v.toInt.toNat < 72 by omega) (fun x7 h7 => k0 a b x7 h' C' (RX_of Z') (h7.trans (p.2 _ (by omega)).1))
theorem x_poseTime {Qn : Int32 → gH → Prop} {v : Int32} (R : D h A N zz C P) (I : SI C) (J : MI C tb (C 40 0))
  (k1 : (v.toInt < 0 ∨ ((qpose C (C 40 0)).1 : Int) ≤ v.toInt) → ∀ (x : Int32) (h' : gH) (C' : dC), RX h' A N zz P C C' 1 (C 40 0) → Qn x h')
  (k0 : 0 ≤ v.toInt → v.toInt < ((qpose C (C 40 0)).1 : Int) → ∀ (x : Int32) (h' : gH) (C' : dC), RX h' A N zz P C C' 0 (C 40 0) → x.toInt = (qpose C (C 40 0)).2.2.1 v.toInt.toNat → Qn x h') : vX12_poseTime Qn h (A 38 0) v := by
  unfold vX12_poseTime vX12_poseTime_b22
  refine wio R ⟨Nat.one_pos, by decide⟩ rfl (by decide) (r_hasEntry R I J (fun a h' C' Z' => no1 (io38 Z' (r_no Z' (vl (by decide)) (k1 a)))) (fun a b h' C' Z' p sm => yes1 ?_))
  have sm1 := sm.1
  refine wgrs Z'.1 ⟨Nat.one_pos, by decide⟩ rfl rfl (nn_i ?_)
  exact wli Z'.1 ⟨Nat.one_pos, by decide⟩ rfl (m := v.toInt.toNat) (by unfold isN; omega) (show v.toInt.toNat < 72 by omega) (fun x7 h7 => k0 a b x7 h' C' (RX_of Z') (h7.trans (p.2 _ (by omega)).2.1))
theorem x_poseWeight {Qn : Int32 → gH → Prop} {v : Int32} (R : D h A N zz C P) (I : SI C) (J : MI C tb (C 40 0))
  (k1 : (v.toInt < 0 ∨ ((qpose C (C 40 0)).1 : Int) ≤ v.toInt) → ∀ (x : Int32) (h' : gH) (C' : dC), RX h' A N zz P C C' 1 (C 40 0) → Qn x h')
  (k0 : 0 ≤ v.toInt → v.toInt < ((qpose C (C 40 0)).1 : Int) → ∀ (x : Int32) (h' : gH) (C' : dC), RX h' A N zz P C C' 0 (C 40 0) → x.toInt = (qpose C (C 40 0)).2.2.2 v.toInt.toNat → Qn x h') : vX12_poseWeight Qn h (A 38 0) v := by
  unfold vX12_poseWeight vX12_poseWeight_b23
  refine wio R ⟨Nat.one_pos, by decide⟩ rfl (by decide) (r_hasEntry R I J (fun a h' C' Z' => no1 (io38 Z' (r_no Z' (vl (by decide)) (k1 a)))) (fun a b h' C' Z' p sm => yes1 ?_))
  have sm1 := sm.1
  refine wgrs Z'.1 ⟨Nat.one_pos, by decide⟩ rfl rfl (nn_i ?_)
  refine wll Z'.1 ⟨Nat.one_pos, by decide⟩ rfl (m := v.toInt.toNat) (by unfold isN; omega) (show v.toInt.toNat < 72 by omega) (fun x7 h7 => ?_)
  have h7 := h7.trans (p.2 _ (by omega)).2.2
  have h8 := sm.2.2 v.toInt.toNat (by omega)
  have h9 := (sm.2.1 v.toInt.toNat (by omega)).2.2.2.2
  exact k0 a b _ h' C' (RX_of Z') (nar_ti h7 (by omega))
/-! ticks -/
theorem r_tick_loop {S C0 : dC} {Qn : Int32 → gH → Prop} {v1 v2 : Int32} {n : Nat} {had : Int} {Mf : dM} (I : SI S) (hns : 0 < S 38 0 19) (h1 : v1.toInt = (n : Int)) (h2 : v2.toInt = had) (hh : 0 ≤ had ∧ had ≤ 100000000) (k0 : ∀ (x : Int32) (h' : gH) (C' : dC), RQ h' A N zz P S C0 C' Mf → x.toInt = Mf 288 - had → Qn x h') :
  ∀ (m k : Nat) (h : gH) (C : dC) (M : dM) (tb : Int) (v3 : Int32), RQ h A N zz P S C0 C M → MI S tb M → tb + m ≤ 100000 → 0 ≤ M 287 → M 287 + m ≤ 1000000 → v3.toInt = (k : Int) → k + m = n → n ≤ 100 → Mf = tcks S m M → vX12_tick_b47 Qn (m + 1) h (A 38 0) v1 v2 v3 := by
  intro m
  induction m with
  | zero =>
    intro k h C M tb v3 Z J ht h287 h287' h3 hk hn hf
    have jf := J.fi
    have hf : Mf = M := hf
    rw [hf] at k0
    show vX12_tick_b47_o (vX12_tick_b47 Qn 0) Qn _ _ _ _ _; unfold vX12_tick_b47_o
    refine cle32 h1 h3 (fun _ => ?_) (fun z => absurd (by omega) z)
    exact rd40 Z (m := 288) (by decide) (by decide) (fun x hx => k0 _ h C Z (sub_ti hx h2 (by omega)))
  | succ m ih =>
    intro k h C M tb v3 Z J ht h287 h287' h3 hk hn hf
    show vX12_tick_b47_o (vX12_tick_b47 Qn (_ + 1)) Qn _ _ _ _ _; unfold vX12_tick_b47_o
    refine cle32 h1 h3 (fun z => absurd z (by omega)) (fun _ => io38 Z ?_)
    exact r_ticks Z I J hns (by omega) ⟨h287, by omega⟩ (fun h' C' Z' => ih (k + 1) h' C' (tck S M) (tb + 1) _ Z' (MI_tck I J hns) (by omega) (by rw [tck_287 I J hns]; omega) (by rw [tck_287 I J hns]; omega) (ix_add h3 (ix_lit (by decide)) (by omega)) (by omega) hn hf)
theorem x_tick {Qn : Int32 → gH → Prop} {v : Int32} (R : D h A N zz C P) (I : SI C) (J : MI C tb (C 40 0)) (hb : tb + 100 ≤ 100000) (h287 : 0 ≤ C 40 0 287 ∧ C 40 0 287 ≤ 900000)
  (k1 : (v.toInt < 1 ∨ 100 < v.toInt) → ∀ (x : Int32) (h' : gH) (C' : dC), RX h' A N zz P C C' 1 (C 40 0) → Qn x h')
  (k2 : 1 ≤ v.toInt → v.toInt ≤ 100 → C 38 0 19 = 0 → ∀ (x : Int32) (h' : gH) (C' : dC), RX h' A N zz P C C' 2 (C 40 0) → Qn x h')
  (k0 : 1 ≤ v.toInt → v.toInt ≤ 100 → 0 < C 38 0 19 → ∀ (x : Int32) (h' : gH) (C' : dC), RX h' A N zz P C C' 0 (tcks C v.toInt.toNat (C 40 0)) → x.toInt = tcks C v.toInt.toNat (C 40 0) 288 - C 40 0 288 → Qn x h') : vX12_tick Qn h (A 38 0) v := by
  have i2 := I.ns
  have jf := J.fi
  unfold vX12_tick
  refine r_code R (fun h1 Z => ?_)
  refine r_in (wid_ti rfl) (vlL (by decide)) (vlL (by decide)) (fun a b => yes0 ?_) (fun a => no0 (io38 Z (r_no Z (vl (by decide)) (k1 (by omega)))))
  refine rd38 Z rfl rfl (fun x4 h4 => ?_)
  refine cne32 h4 (vl (by decide)) (fun c => ?_) (fun c => io38 Z (r_no Z (vl (by decide)) (k2 a b c)))
  refine rd40 Z (m := 288) (by decide) (by decide) (fun x7 h7 => ?_)
  exact ⟨v.toInt.toNat + 1, r_tick_loop I (by omega) (n := v.toInt.toNat) (had := C 40 0 288) (Mf := tcks C v.toInt.toNat (C 40 0)) (by omega) h7 (by omega) (fun x h' C' Z' hx => k0 a b (by omega) x h' C' (RX_of Z') hx) v.toInt.toNat 0 h1 _ _ tb 0 Z J (by omega) h287.1 (by omega) (by decide) (by omega) (by omega) rfl⟩
/-! what is foretold -/
def cpy (M : dM) : dM := fun f => if 870 ≤ f ∧ f < 1160 then M (f - 870) else M f
theorem r_save {S C0 : dC} {Qn : gH → Prop} {a b : Int32} (Z : RQ h A N zz P S C0 C M) (ha : a.toInt = 0) (hb : b.toInt = 870) (k0 : ∀ (h' : gH) (C' : dC), RQ h' A N zz P S C0 C' (cpy M) → Qn h') : vX12_copies Qn h (A 38 0) a b := by
  obtain ⟨R, E, fr, rfl⟩ := Z
  refine r_copies R (s := 0) (d := 870) ha hb (by decide) (by decide) (by decide) (fun h8 C8 R8 e8 f8 => ?_)
  refine k0 h8 C8 ⟨R8, fun j i f hs => (f8 j i f (fun z => by rw [z.1] at hs; cases hs)).trans (E j i f hs), Fr.tr fr fun j i f hg => f8 j i f (fun z => hg (by unfold gP; omega)), funext fun f => ?_⟩
  unfold cpy
  by_cases z : 870 ≤ f ∧ f < 1160
  · rw [if_pos z]
    have := e8 (f - 870) (by omega)
    rw [show 870 + (f - 870) = f by omega, show 0 + (f - 870) = f - 870 by omega] at this
    exact this
  · rw [if_neg z]; exact f8 40 0 f (by omega)
theorem r_load {S C0 : dC} {Qn : gH → Prop} {a b : Int32} {M0 : dM} (Z : RQ h A N zz P S C0 C M) (ha : a.toInt = 870) (hb : b.toInt = 0) (hm : ∀ f, 289 ≤ f → M f = cpy M0 f) (h289 : M0 289 = cpy M0 289) (k0 : ∀ (h' : gH) (C' : dC), RQ h' A N zz P S C0 C' (cpy M0) → Qn h') : vX12_copies Qn h (A 38 0) a b := by
  obtain ⟨R, E, fr, rfl⟩ := Z
  refine r_copies R (s := 870) (d := 0) ha hb (by decide) (by decide) (by decide) (fun h8 C8 R8 e8 f8 => ?_)
  refine k0 h8 C8 ⟨R8, fun j i f hs => (f8 j i f (fun z => by rw [z.1] at hs; cases hs)).trans (E j i f hs), Fr.tr fr fun j i f hg => f8 j i f (fun z => hg (by unfold gP; omega)), funext fun f => ?_⟩
  by_cases z : f < 290
  · have := e8 f z
    rw [show 0 + f = f by omega] at this
    rw [this, hm _ (by omega)]
    unfold cpy
    rw [if_pos (by omega), if_neg (by omega), show 870 + f - 870 = f by omega]
  · rw [f8 40 0 f (by omega)]; exact hm f (by omega)
theorem MI_cpy {S : dC} (J : MI S tb M) : MI S tb (cpy M) := J.cong (fun f h1 h2 => by unfold cpy; rw [if_neg (by omega)]) (fun p hp => by have := J.va p hp; unfold cpy; rw [if_neg (by omega)]; exact this)
noncomputable def told (S : dC) (n : Nat) (M : dM) : Int := if tcks S n M 8 = 1 then tcks S n M 16 else tcks S n M 12
theorem r_foretell_loop {S C0 : dC} {Qn : Int32 → gH → Prop} {v1 : Int32} {n : Nat} {M0 Mf : dM} (I : SI S) (hns : 0 < S 38 0 19) (h1 : v1.toInt = (n : Int)) (k0 : ∀ (x : Int32) (h' : gH) (C' : dC), RQ h' A N zz P S C0 C' (cpy M0) → x.toInt = (if Mf 8 = 1 then Mf 16 else Mf 12) → Qn x h') :
  ∀ (m k : Nat) (h : gH) (C : dC) (M : dM) (tb : Int) (v2 : Int32), RQ h A N zz P S C0 C M → MI S tb M → tb + m ≤ 100000 → 0 ≤ M 287 → M 287 + m ≤ 1000000 → (∀ f, 289 ≤ f → M f = cpy M0 f) → v2.toInt = (k : Int) → k + m = n → n ≤ 100 → Mf = tcks S m M → vX12_foretell_b46 Qn (m + 1) h (A 38 0) v1 v2 := by
  intro m
  induction m with
  | zero =>
    intro k h C M tb v2 Z J ht h287 h287' hm h2 hk hn hf
    have hf : Mf = M := hf
    rw [hf] at k0
    have rest : ∀ s : Int32, s.toInt = (if M 8 = 1 then M 16 else M 12) → vX12_foretell_b89 Qn h (A 38 0) s := fun s hs => by
      unfold vX12_foretell_b89
      exact io38 Z (r_load Z (vl (by decide)) (vl (by decide)) hm rfl (fun h' C' Z' => k0 s h' C' Z' hs))
    show vX12_foretell_b46_o (vX12_foretell_b46 Qn 0) Qn _ _ _ _; unfold vX12_foretell_b46_o
    refine cle32 h1 h2 (fun _ => ?_) (fun z => absurd (by omega) z)
    refine rd40 Z (m := 8) (by decide) (by decide) (fun x hx => ?_)
    refine cne32 hx (vl (by decide)) (fun z => ?_) (fun z => ?_)
    · exact rd40 Z (m := 12) (by decide) (by decide) (fun x hx => rest x (by rw [if_neg z]; exact hx))
    · exact rd40 Z (m := 16) (by decide) (by decide) (fun x hx => rest x (by rw [if_pos z]; exact hx))
  | succ m ih =>
    intro k h C M tb v2 Z J ht h287 h287' hm h2 hk hn hf
    show vX12_foretell_b46_o (vX12_foretell_b46 Qn (_ + 1)) Qn _ _ _ _; unfold vX12_foretell_b46_o
    refine cle32 h1 h2 (fun z => absurd z (by omega)) (fun _ => io38 Z ?_)
    exact r_ticks Z I J hns (by omega) ⟨h287, by omega⟩ (fun h' C' Z' => ih (k + 1) h' C' (tck S M) (tb + 1) _ Z' (MI_tck I J hns) (by omega) (by rw [tck_287 I J hns]; omega) (by rw [tck_287 I J hns]; omega) (fun f hf => by rw [tck_hi I J hns (by omega)]; exact hm f hf) (ix_add h2 (ix_lit (by decide)) (by omega)) (by omega) hn hf)
theorem x_foretell {Qn : Int32 → gH → Prop} {v : Int32} (R : D h A N zz C P) (I : SI C) (J : MI C tb (C 40 0)) (hb : tb + 100 ≤ 100000) (h287 : 0 ≤ C 40 0 287 ∧ C 40 0 287 ≤ 900000)
  (k1 : (v.toInt < 1 ∨ 100 < v.toInt) → ∀ (x : Int32) (h' : gH) (C' : dC), RX h' A N zz P C C' 1 (C 40 0) → Qn x h')
  (k2 : 1 ≤ v.toInt → v.toInt ≤ 100 → C 38 0 19 = 0 → ∀ (x : Int32) (h' : gH) (C' : dC), RX h' A N zz P C C' 2 (C 40 0) → Qn x h')
  (k0 : 1 ≤ v.toInt → v.toInt ≤ 100 → 0 < C 38 0 19 → ∀ (x : Int32) (h' : gH) (C' : dC), RX h' A N zz P C C' 0 (cpy (C 40 0)) → x.toInt = told C v.toInt.toNat (cpy (C 40 0)) → Qn x h') : vX12_foretell Qn h (A 38 0) v := by
  have i2 := I.ns
  unfold vX12_foretell
  refine r_code R (fun h1 Z => ?_)
  refine r_in (wid_ti rfl) (vlL (by decide)) (vlL (by decide)) (fun a b => yes0 ?_) (fun a => no0 (io38 Z (r_no Z (vl (by decide)) (k1 (by omega)))))
  refine rd38 Z rfl rfl (fun x4 h4 => ?_)
  refine cne32 h4 (vl (by decide)) (fun c => io38 Z ?_) (fun c => io38 Z (r_no Z (vl (by decide)) (k2 a b c)))
  refine r_save Z (vl (by decide)) (vl (by decide)) (fun h' C' Z' => ?_)
  exact ⟨v.toInt.toNat + 1, r_foretell_loop I (by omega) (n := v.toInt.toNat) (M0 := C 40 0) (Mf := tcks C v.toInt.toNat (cpy (C 40 0))) (by omega) (fun x h' C' Z' hx => k0 a b (by omega) x h' C' (RX_of Z') hx) v.toInt.toNat 0 h' C' _ tb 0 Z' (MI_cpy J) (by omega) h287.1 (by have : cpy (C 40 0) 287 = C 40 0 287 := rfl; omega) (fun f hf => rfl) (by decide) (by omega) (by omega) rfl⟩
theorem r_ticksTo_loop {S C0 : dC} {Qn : Int32 → gH → Prop} {v1 : Int32} {s : Int} {M0 : dM} {ans : Int} (I : SI S) (hns : 0 < S 38 0 19) (h1 : v1.toInt = s) (k0 : ∀ (x : Int32) (h' : gH) (C' : dC), RQ h' A N zz P S C0 C' (cpy M0) → x.toInt = ans → Qn x h') :
  ∀ (m k : Nat) (h : gH) (C : dC) (M : dM) (tb : Int) (v2 : Int32), RQ h A N zz P S C0 C M → MI S tb M → tb + m ≤ 100000 → 0 ≤ M 287 → M 287 + m ≤ 1000000 → (∀ f, 289 ≤ f → M f = cpy M0 f) → v2.toInt = (k : Int) → k + m = 101 → ans = tto S s m (k : Int) M → vX12_ticksTo_b29 Qn (m + 1) h (A 38 0) v1 v2 := by
  -- behind the loop
  have fin : ∀ (k : Nat) (h : gH) (C : dC) (M : dM) (v2 : Int32), RQ h A N zz P S C0 C M → (∀ f, 289 ≤ f → M f = cpy M0 f) → v2.toInt = (k : Int) → (100 < k → ans = -1) → (k ≤ 100 → ans = (k : Int)) → vX12_ticksTo_b73 Qn h (A 38 0) v2 := fun k h C M v2 Z hm h2 a1 a2 => by
    unfold vX12_ticksTo_b73 vX12_ticksTo_b92
    refine io38 Z (r_load Z (vl (by decide)) (vl (by decide)) hm rfl (fun h' C' Z' => ?_))
    refine clt32 (vl (by decide)) h2 (fun z => k0 _ h' C' Z' ?_) (fun z => k0 _ h' C' Z' ?_)
    · rw [a1 (by omega)]; decide
    · rw [a2 (by omega)]; exact h2
  intro m
  induction m with
  | zero =>
    intro k h C M tb v2 Z J ht h287 h287' hm h2 hk ha
    have ha : ans = -1 := ha
    have f0 := fin k h C M v2 Z hm h2 (fun _ => ha) (fun z => by omega)
    show vX12_ticksTo_b29_o (vX12_ticksTo_b29 Qn 0) Qn _ _ _ _; unfold vX12_ticksTo_b29_o
    exact clt32 (vl (by decide)) h2 (fun _ => f0) (fun z => absurd (by omega) z)
  | succ m ih =>
    intro k h C M tb v2 Z J ht h287 h287' hm h2 hk ha
    have e : tto S s (m + 1) (k : Int) M = if M 8 = 0 ∧ M 12 = s then (k : Int) else tto S s m ((k : Int) + 1) (tck S M) := rfl
    rw [e] at ha
    have h21 : (v2 + 1).toInt = ((k + 1 : Nat) : Int) := ix_add h2 (ix_lit (by decide)) (by omega)
    have jm := J.mi
    have K := MI_tck I J hns
    have q := tck_287 I J hns
    have go : ¬ (M 8 = 0 ∧ M 12 = s) → vX12_ticksTo_b57 (vX12_ticksTo_b29 Qn (m + 1)) Qn h (A 38 0) v1 v2 := fun hn => by
      rw [if_neg hn] at ha
      unfold vX12_ticksTo_b57
      refine clt32 (vl (by decide)) h21 (fun z => ?_) (fun z => io38 Z ?_)
      · have hm0 : m = 0 := by omega
        subst hm0
        have ha : ans = -1 := ha
        show vX12_ticksTo_b29_o (vX12_ticksTo_b29 Qn 0) Qn _ _ _ _
        unfold vX12_ticksTo_b29_o
        exact clt32 (vl (by decide)) h21 (fun _ => fin (k + 1) h C M _ Z hm h21 (fun _ => ha) (fun y => by omega)) (fun y => absurd (by omega) y)
      · exact r_ticks Z I J hns (by omega) ⟨h287, by omega⟩ (fun h' C' Z' => ih (k + 1) h' C' (tck S M) (tb + 1) _ Z' K (by omega) (by omega) (by omega) (fun f hf => by rw [tck_hi I J hns (by omega)]; exact hm f hf) h21 (by omega) ha)
    show vX12_ticksTo_b29_o (vX12_ticksTo_b29 Qn (_ + 1)) Qn _ _ _ _; unfold vX12_ticksTo_b29_o
    refine clt32 (vl (by decide)) h2 (fun z => absurd z (by omega)) (fun _ => ?_)
    refine rd40 Z (m := 8) (by decide) (by decide) (fun x hx => ?_)
    refine ceq32 hx (vl (by decide)) (fun z => go (by omega)) (fun z => ?_)
    refine rd40 Z (m := 12) (by decide) (by decide) (fun x hx => ?_)
    refine ceq32 hx h1 (fun y => ?_) (fun y => go (by omega))
    rw [if_pos ⟨by omega, y⟩] at ha
    exact fin k h C M v2 Z hm h2 (fun y => by omega) (fun _ => ha)
theorem x_ticksTo {Qn : Int32 → gH → Prop} {v : Int32} (R : D h A N zz C P) (I : SI C) (J : MI C tb (C 40 0)) (hb : tb + 101 ≤ 100000) (h287 : 0 ≤ C 40 0 287 ∧ C 40 0 287 ≤ 900000)
  (k1 : (v.toInt < 0 ∨ C 38 0 19 ≤ v.toInt) → ∀ (x : Int32) (h' : gH) (C' : dC), RX h' A N zz P C C' 1 (C 40 0) → Qn x h')
  (k0 : 0 ≤ v.toInt → v.toInt < C 38 0 19 → ∀ (x : Int32) (h' : gH) (C' : dC), RX h' A N zz P C C' 0 (cpy (C 40 0)) → x.toInt = tto C v.toInt 101 0 (cpy (C 40 0)) → Qn x h') : vX12_ticksTo Qn h (A 38 0) v := by
  have i2 := I.ns
  unfold vX12_ticksTo
  refine r_code R (fun h1 Z => io38 Z ?_)
  refine r_isState Z.1 (by rw [sC0 (by decide)]; exact i2) (fun a b => yes0 (io38 Z ?_)) (fun a => no0 (io38 Z (r_no Z (vl (by decide)) (k1 (by rw [sC0 (by decide)] at a; exact a)))))
  rw [sC0 (by decide)] at b
  refine r_save Z (vl (by decide)) (vl (by decide)) (fun h' C' Z' => ?_)
  exact ⟨102, r_ticksTo_loop I (by omega) (M0 := C 40 0) rfl (fun x h' C' Z' hx => k0 a b x h' C' (RX_of Z') hx) 101 0 h' C' _ tb 0 Z' (MI_cpy J) (by omega) h287.1 (by have : cpy (C 40 0) 287 = C 40 0 287 := rfl; omega) (fun f hf => rfl) (by decide) (by decide) rfl⟩
end AK
