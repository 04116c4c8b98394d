/-! ===== the reference: what is asked of a running machine ===== -/
theorem tak_hi {S : dC} {tb : Int} {M : dM} (I : SI S) (J : MI S tb M) {f : Nat} (hf : 166 ≤ f) : tak S M f = M f := by
  unfold tak
  cases hp : pick S M with
  | none => rfl
  | some u =>
    obtain ⟨t, l⟩ := u
    obtain ⟨p1, p2, p3⟩ := pick_in hp
    have ht : (t : Int) < S 38 0 21 := by unfold nT at p1; omega
    have J' := J.clr I ht
    have e := clr_off I ht M (show 8 ≤ f by omega) (cnN S t) (Nat.le_refl _)
    show takM S (clr S t (cnN S t) M) t l f = M f
    rw [← e]
    generalize clr S t (cnN S t) M = M1 at *
    have j1 := J'.mi
    have go : ∀ M2 : dM, M2 f = M1 f → goT S t M2 f = M1 f := fun M2 h => by
      have g := goP_off S t M2 (f := f) (by omega)
      unfold goT
      split
      · rw [endM_hi (by omega), g, h]
      · rw [um_n _ _ (by omega), um_n _ _ (by omega), um_n _ _ (by omega), g, h]
    unfold takM
    refine go _ ?_
    split
    · rename_i h8
      obtain ⟨q1, q2, q3⟩ := qpose_in I J' h8
      have j4 := J'.cu
      have z : frz0 S M1 f = M1 f := by rw [frz0_of, if_neg (by omega), if_neg (by omega), if_neg (by omega), putQ_hi _ _ (by omega) hf]
      unfold frz
      split
      · rw [cpT_of, if_neg (by omega)]; exact z
      · exact z
    · unfold idl
      rw [um_n _ _ (by omega), um_n _ _ (by omega), um_n _ _ (by omega)]
theorem takN_hi {S : dC} {tb : Int} (I : SI S) (hns : 0 < S 38 0 19) {f : Nat} (hf : 166 ≤ f) : ∀ (n : Nat) (M : dM), MI S tb M → takN S n M f = M f
  | 0, _, _ => rfl
  | n + 1, M, J => (takN_hi I hns hf n (tak S M) (MI_tak I J hns)).trans (tak_hi I J hf)
theorem tkM_hi {S : dC} {tb : Int} {M : dM} (I : SI S) (J : MI S tb M) (hns : 0 < S 38 0 19) {f : Nat} (hf : f = 287 ∨ 288 < f) : tkM S M f = M f := by
  have j1 := J.mi
  unfold tkM
  split
  · rename_i h8
    have K := MI_adA I J hns h8
    unfold tkI
    rw [(evI_fir I (evI_of K.ev K.fi.1)).2.2 f (by omega), adv_off (by omega)]
  · rw [(evI_tkB I J).2.2 f (by omega), tkF_hi (by omega)]
theorem tck_hi {S : dC} {tb : Int} {M : dM} (I : SI S) (J : MI S tb M) (hns : 0 < S 38 0 19) {f : Nat} (hf : 288 < f) : tck S M f = M f := by
  have K := MI_takN I hns 4 _ (MI_287 J (M 287 + 1))
  show tkM S (takN S 4 (um M 287 (M 287 + 1))) f = M f
  rw [tkM_hi I K hns (by omega), takN_hi I hns (by omega) 4 _ (MI_287 J _), um_n _ _ (by omega)]
theorem tck_287 {S : dC} {tb : Int} {M : dM} (I : SI S) (J : MI S tb M) (hns : 0 < S 38 0 19) : tck S M 287 = M 287 + 1 := by
  have K := MI_takN I hns 4 _ (MI_287 J (M 287 + 1))
  show tkM S (takN S 4 (um M 287 (M 287 + 1))) 287 = _
  rw [tkM_hi I K hns (by omega), takN_hi I hns (by omega) 4 _ (MI_287 J _), um_s]
theorem tcks_hi {S : dC} (I : SI S) (hns : 0 < S 38 0 19) {f : Nat} (hf : 288 < f) : ∀ (n : Nat) (tb : Int) (M : dM), MI S tb M → tcks S n M f = M f
  | 0, _, _, _ => rfl
  | n + 1, tb, M, J => (tcks_hi I hns hf n (tb + 1) (tck S M) (MI_tck I J hns)).trans (tck_hi I J hns hf)
theorem tcks_287 {S : dC} (I : SI S) (hns : 0 < S 38 0 19) : ∀ (n : Nat) (tb : Int) (M : dM), MI S tb M → tcks S n M 287 = M 287 + n
  | 0, _, M, _ => by show M 287 = M 287 + ((0 : Nat) : Int); omega
  | n + 1, tb, M, J => by
    show tcks S n (tck S M) 287 = _
    rw [tcks_287 I hns n (tb + 1) (tck S M) (MI_tck I J hns), tck_287 I J hns]
    omega
/-- after how many ticks the machine is idle in a state -/
noncomputable def tto (S : dC) (s : Int) : Nat → Int → dM → Int
  | 0, _, _ => -1
  | m + 1, n, M => if M 8 = 0 ∧ M 12 = s then n else tto S s m (n + 1) (tck S M)
/-- what a call of the reference leaves behind -/
def Fw (C C' : dC) : Prop := ∀ j i f : Nat, ¬ gP j f → ¬ (j = 38 ∧ f = 25) → C' j i f = C j i f
def RX (h : gH) (A : dA) (N zz : Nat → Nat) (P : dP) (C C' : dC) (c : Int) (M : dM) : Prop := D h A N zz C' P ∧ St C C' ∧ C' 40 0 = M ∧ C' 38 0 25 = c ∧ Fw C C'
theorem gP_25 : ¬ gP 38 25 := by unfold gP; omega
section AK
variable {h : gH} {A : dA} {N zz : Nat → Nat} {C C1 : dC} {P : dP} {M : dM} {tb : Int}
theorem RX_of {h' : gH} {C' : dC} (Z : RQ h' A N zz P C (up3 C 38 0 25 0) C' M) : RX h' A N zz P C C' 0 M := by
  obtain ⟨R, E, fr, e⟩ := Z
  exact ⟨R, E, e, (fr 38 0 25 gP_25).trans (by simp only [up3, eq_self, asb, Nat.add_zero, Nat.zero_add, Nat.reduceEqDiff, false_and, and_false, and_true, true_and, if_true, if_false, ↓reduceIte]), fun j i f g n => (fr j i f g).trans (up3_ne C 0 fun z => n ⟨z.1, z.2.2⟩)⟩
theorem sC0 {f : Nat} (h : f ≠ 25) : up3 C 38 0 25 0 38 0 f = C 38 0 f := up3_ne C 0 fun z => h z.2.2
/-- a pair of goals over the answer of a small check -/
theorem yes0 {K1 K2 : Prop} (k : K1) : ((¬ (1 : Int32) = 0) → K1) ∧ ((1 : Int32) = 0 → K2) := ⟨fun _ => k, fun z => absurd z (by decide)⟩
theorem no0 {K1 K2 : Prop} (k : K2) : ((¬ (0 : Int32) = 0) → K1) ∧ ((0 : Int32) = 0 → K2) := ⟨fun z => absurd rfl z, fun _ => k⟩
theorem yes1 {K1 K2 : Prop} (k : K1) : ((1 : Int32) = 0 → K2) ∧ ((¬ (1 : Int32) = 0) → K1) := ⟨fun z => absurd z (by decide), fun _ => k⟩
theorem no1 {K1 K2 : Prop} (k : K2) : ((0 : Int32) = 0 → K2) ∧ ((¬ (0 : Int32) = 0) → K1) := ⟨fun _ => k, fun z => absurd rfl z⟩
/-! ticks -/
/-! what is foretold -/
def cpy (M : dM) : dM := fun f => if 870 ≤ f ∧ f < 1160 then M (f - 870) else M f
theorem MI_cpy {S : dC} (J : MI S tb M) : MI S tb (cpy M) := J.cong (fun f h1 h2 => by unfold cpy; rw [if_neg (by omega)]) (fun p hp => by have := J.va p hp; unfold cpy; rw [if_neg (by omega)]; exact this)
noncomputable def told (S : dC) (n : Nat) (M : dM) : Int := if tcks S n M 8 = 1 then tcks S n M 16 else tcks S n M 12
end AK
