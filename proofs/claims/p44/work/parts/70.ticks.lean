/-! ===== the reference: ticks ===== -/
theorem mix_in {S : dC} {M : dM} (hs : 0 ≤ shr S M ∧ shr S M ≤ 1000000) {a b lo hi : Int} (ha : lo ≤ a ∧ a ≤ hi) (hb : lo ≤ b ∧ b ≤ hi) : lo ≤ mix S M a b ∧ mix S M a b ≤ hi ∧ (1000000 - shr S M) * lo ≤ (1000000 - shr S M) * a ∧ (1000000 - shr S M) * a ≤ (1000000 - shr S M) * hi ∧ shr S M * lo ≤ shr S M * b ∧ shr S M * b ≤ shr S M * hi := by
  unfold mix
  generalize shr S M = s at *
  have h1 : (1000000 - s) * lo ≤ (1000000 - s) * a := Int.mul_le_mul_of_nonneg_left ha.1 (by omega)
  have h2 : (1000000 - s) * a ≤ (1000000 - s) * hi := Int.mul_le_mul_of_nonneg_left ha.2 (by omega)
  have h3 : s * lo ≤ s * b := Int.mul_le_mul_of_nonneg_left hb.1 hs.1
  have h4 : s * b ≤ s * hi := Int.mul_le_mul_of_nonneg_left hb.2 hs.1
  have h5 : (1000000 - s) * lo = 1000000 * lo - s * lo := Int.sub_mul _ _ _
  have h6 : (1000000 - s) * hi = 1000000 * hi - s * hi := Int.sub_mul _ _ _
  refine ⟨?_, ?_, h1, h2, h3, h4⟩
  · generalize (1000000 - s) * a = p at *
    generalize s * b = q at *
    generalize s * lo = u at *
    omega
  · generalize (1000000 - s) * a = p at *
    generalize s * b = q at *
    generalize s * hi = u at *
    omega
theorem sh_in {S : dC} {tb : Int} {M : dM} (J : MI S tb M) (h8 : M 8 = 1) : 0 ≤ shr S M ∧ shr S M ≤ 1000000 := by
  have j8 := J.el h8
  exact shr_in (by omega) (by omega)
theorem stB_in {S : dC} {tb : Int} {M : dM} (I : SI S) (J : MI S tb M) (h8 : M 8 = 1) : 0 ≤ stB S M ∧ stB S M ≤ 4000000 := by
  have j2 := J.sa
  have j9 := J.sb h8
  have hns : 0 < S 38 0 19 := by omega
  have j2' := j2.2.1 hns
  have a1 := I.sp (M 12).toNat (by omega)
  have a2 := I.sp (M 16).toNat (by omega)
  have b1 := lenS_in I M (s := (M 12).toNat) (by omega)
  have b2 := lenS_in I M (s := (M 16).toNat) (by omega)
  have sh := sh_in J h8
  have m1 := mix_in (S := S) (M := M) sh a1 a2
  have m2 := mix_in (S := S) (M := M) sh b1 b2
  unfold stB
  generalize mix S M (S 56 0 (M 12).toNat) (S 56 0 (M 16).toNat) = p at *
  generalize mix S M (lenS S M (M 12).toNat) (lenS S M (M 16).toNat) = q at *
  have m1 : 1 ≤ p ∧ p ≤ 400 := ⟨m1.1, m1.2.1⟩
  have m2 : 1 ≤ q ∧ q ≤ 500 := ⟨m2.1, m2.2.1⟩
  exact ⟨Int.ediv_nonneg (by omega) (by omega), Int.ediv_le_of_le_mul (by omega) (by omega)⟩
theorem adA_off {S : dC} {M : dM} {f : Nat} (h : f < 13 ∨ 16 ≤ f) : adA S M f = M f := by
  unfold adA
  split
  · exact adv_off (by omega)
  · rfl
theorem adB_off {S : dC} {M : dM} {f : Nat} (h : f < 13 ∨ f = 16 ∨ 20 ≤ f) : adB S M f = M f := by
  unfold adB
  split
  · rw [adv_off (by omega), adv_off (by omega)]
  · rw [adv_off (by omega), adA_off (by omega)]
theorem tr_adv {S : dC} {M : dM} {t : Nat} {x b : Int} (h : trI S M t b) (hx : 0 ≤ x ∧ x ≤ 4000000) (hb : 1000000 ≤ b) : trI S (adv S M t x) t (b + 4000000) := by
  obtain ⟨h1, h2, h3, h4, h5, h6, h7, h8⟩ := h
  obtain ⟨a1, a2, a3, a4, a5, a6, a7⟩ := adv_in (S := S) (M := M) (t := t) (x := x) (b := b) hx h3 ⟨h4, h5⟩ h6 hb h7
  exact ⟨by rw [a1]; exact h1, by rw [a1]; exact h2, a2, a3, a4, a5, by rw [a1]; exact a7, Or.inl a6⟩
theorem tr_off {S : dC} {M M' : dM} {t : Nat} {b : Int} (h : trI S M t b) (e : ∀ f, t ≤ f → f < t + 4 → M' f = M f) : trI S M' t b := by
  obtain ⟨h1, h2, h3, h4, h5, h6, h7, h8⟩ := h
  have e0 := e t (by omega) (by omega)
  have e1 := e (t + 1) (by omega) (by omega)
  have e2 := e (t + 2) (by omega) (by omega)
  have e3 := e (t + 3) (by omega) (by omega)
  unfold prg at h6
  unfold trI prg
  rw [e0, e1, e2, e3]
  exact ⟨h1, h2, h3, h4, h5, h6, h7, h8⟩
theorem tr_more {S : dC} {M : dM} {t : Nat} {b c : Int} (h : trI S M t b) (hc : b ≤ c) : trI S M t c := by
  obtain ⟨h1, h2, h3, h4, h5, h6, h7, h8⟩ := h
  exact ⟨h1, h2, h3, h4, h5, by omega, h7, h8⟩
theorem MI_tr12 {S : dC} {tb : Int} {M : dM} (J : MI S tb M) (hns : 0 < S 38 0 19) : trI S M 12 (4000000 * tb + 1000000) := by
  have j2 := J.sa
  have j3 := J.ca
  exact trI12 ⟨j2.1, j2.2.1 hns, j3.1, j3.2.1, j3.2.2.1, j3.2.2.2, J.la, J.fa⟩
theorem MI_tr16 {S : dC} {tb : Int} {M : dM} (J : MI S tb M) (h8 : M 8 = 1) : trI S M 16 (4000000 * tb + 1000000) := by
  have j2 := J.sb h8
  have j3 := J.cb h8
  exact trI16 ⟨j2.1, j2.2, j3.1, j3.2.1, j3.2.2.1, j3.2.2.2, J.lb h8, J.fb h8⟩
theorem adB_tr {S : dC} {tb : Int} {M : dM} (I : SI S) (J : MI S tb M) (h8 : M 8 = 1) : trI S (adB S M) 12 (4000000 * tb + 5000000) ∧ trI S (adB S M) 16 (4000000 * tb + 5000000) := by
  have j9 := J.sb h8
  have hns : 0 < S 38 0 19 := by omega
  have t12 := MI_tr12 J hns
  have t16 := MI_tr16 J h8
  have jt := J.tk
  have sB := stB_in I J h8
  unfold adB
  split
  · have u := tr_adv t12 sB (by omega)
    have v := tr_off (M' := adv S M 12 (stB S M)) t16 fun f h1 h2 => adv_off (by omega)
    have w := tr_adv v sB (by omega)
    exact ⟨tr_more (tr_off (M' := adv S (adv S M 12 (stB S M)) 16 (stB S M)) u fun f h1 h2 => adv_off (by omega)) (by omega), tr_more w (by omega)⟩
  · have s12 := stp_in I M (t := 12) ⟨t12.1, t12.2.1⟩
    have u : trI S (adA S M) 12 (4000000 * tb + 5000000) := by
      unfold adA
      split
      · exact tr_more (tr_adv t12 s12 (by omega)) (by omega)
      · exact tr_more t12 (by omega)
    have v := tr_off (M' := adA S M) t16 fun f h1 h2 => adA_off (by omega)
    have s16 := stp_in I (adA S M) (t := 16) ⟨v.1, v.2.1⟩
    have w := tr_adv v s16 (by omega)
    exact ⟨tr_off u fun f h1 h2 => adv_off (by omega), tr_more w (by omega)⟩
theorem endM_hi {M : dM} {f : Nat} (h : 22 ≤ f) : endM M f = M f := by
  unfold endM
  rw [um_n _ _ (by omega), um_n _ _ (by omega), um_n _ _ (by omega), um_n _ _ (by omega), cpT_of, if_neg (by omega)]
theorem endM_lo {M : dM} {f : Nat} (h : f < 8) : endM M f = M f := by
  unfold endM
  rw [um_n _ _ (by omega), um_n _ _ (by omega), um_n _ _ (by omega), um_n _ _ (by omega), cpT_of, if_neg (by omega)]
theorem tkE_off {S : dC} {M : dM} {f : Nat} (h : f < 10 ∨ 11 ≤ f ∧ f < 13 ∨ f = 16 ∨ 20 ≤ f) : tkE S M f = M f := by
  unfold tkE
  rw [um_n _ _ (by omega), adB_off (by omega)]
theorem tkE_10 (S : dC) (M : dM) : tkE S M 10 = M 10 + 1 := by
  unfold tkE
  rw [um_s, adB_off (by omega)]
theorem tkF_hi {S : dC} {M : dM} {f : Nat} (h : 166 ≤ f) : tkF S M f = M f := by
  unfold tkF
  split
  · rw [endM_hi (by omega), tkE_off (by omega)]
  · exact tkE_off (by omega)
theorem tkF_lo {S : dC} {M : dM} {f : Nat} (h : f < 8) : tkF S M f = M f := by
  unfold tkF
  split
  · rw [endM_lo (by omega), tkE_off (by omega)]
  · exact tkE_off (by omega)
theorem MI_tkF {S : dC} {tb : Int} {M : dM} (I : SI S) (J : MI S tb M) (h8 : M 8 = 1) : MI S (tb + 1) (tkF S M) := by
  obtain ⟨t12, t16⟩ := adB_tr I J h8
  have j1 := J.fi
  have j3 := J.tk
  have j8 := J.el h8
  have jx := J.xx h8
  have j4 := J.fm
  have j5 := J.cu
  have off := fun (f : Nat) (h : f < 10 ∨ 11 ≤ f ∧ f < 13 ∨ f = 16 ∨ 20 ≤ f) => tkE_off (S := S) (M := M) h
  have e10 := tkE_10 S M
  have u12 : trI S (tkE S M) 12 (4000000 * tb + 5000000) := tr_off t12 fun f h1 h2 => by unfold tkE; exact um_n _ _ (by omega)
  have u16 : trI S (tkE S M) 16 (4000000 * tb + 5000000) := tr_off t16 fun f h1 h2 => by unfold tkE; exact um_n _ _ (by omega)
  have va : ∀ p : Nat, p < 8 → -100 ≤ tkE S M p ∧ tkE S M p ≤ 100 := fun p hp => by rw [off p (by omega)]; exact J.va p hp
  unfold tkF
  generalize tkE S M = E at *
  split
  · refine MI_endM va (tr_more u16 (by omega)) ?_ ?_ (by omega)
    · rw [off 166 (by omega), off 288 (by omega)]; exact J.ev
    · rw [off 288 (by omega)]; omega
  · rename_i hd
    obtain ⟨a1, a2, a3, a4, a5, a6, a7, a8⟩ := u12
    obtain ⟨b1, b2, b3, b4, b5, b6, b7, b8⟩ := u16
    have hm : M 21 ≤ 24 := by omega
    have ee : ∀ f, 21 ≤ f → f < 166 → E f = M f := fun f h1 h2 => off f (by omega)
    have e8 := off 8 (by omega)
    have e9 := off 9 (by omega)
    have e11 := off 11 (by omega)
    have e20 := off 20 (by omega)
    have e21 := off 21 (by omega)
    have e166 := off 166 (by omega)
    have e288 := off 288 (by omega)
    exact ⟨va, Or.inr (e8.trans h8), by rw [e11]; exact J.cu, ⟨a1, fun _ => a2, fun z => by omega⟩, ⟨a3, a4, a5, by omega⟩, a7, a8, by rw [e20]; exact J.fz, fun z => by omega, fun _ => by rw [e9]; exact jx, fun _ => by rw [e9, e10]; rw [e10] at hd; omega, fun _ => ⟨b1, b2⟩, fun _ => ⟨b3, b4, b5, by omega⟩, fun _ => b7, fun _ => b8, by rw [e21, e11]; exact j4, fe_cong hm ee J.fe, fun z => by rw [fs_cong hm ee]; exact J.fs (by rw [← e20]; exact z), by rw [e166, e288]; exact J.ev, by rw [e288]; omega, by omega⟩
theorem evI_of {M : dM} (h : 0 ≤ M 166 ∧ M 166 ≤ 30 ∧ (M 288 ≤ 30 → M 166 = M 288) ∧ (30 ≤ M 288 → M 166 = 30)) (h2 : 0 ≤ M 288) : evI M 0 M := ⟨h, ⟨h2, by omega⟩, fun _ _ => rfl⟩
theorem evI_tkA {S : dC} {tb : Int} {M : dM} (I : SI S) (J : MI S tb M) : evI (tkF S M) 60 (tkA S M) := by
  have e : evI (tkF S M) 0 (tkF S M) := evI_of (by rw [tkF_hi (by omega), tkF_hi (f := 288) (by omega)]; exact J.ev) (by rw [tkF_hi (f := 288) (by omega)]; exact J.fi.1)
  unfold tkA
  split
  · exact evI_more (evI_fir I e) (by omega)
  · exact evI_more e (by omega)
theorem evI_tkB {S : dC} {tb : Int} {M : dM} (I : SI S) (J : MI S tb M) : evI (tkF S M) 120 (tkB S M) := by
  unfold tkB
  exact evI_more (evI_fir I (evI_tkA I J)) (by omega)
theorem MI_tkB {S : dC} {tb : Int} {M : dM} (I : SI S) (J : MI S tb M) (h8 : M 8 = 1) : MI S (tb + 1) (tkB S M) := by
  have j1 := J.fi
  exact MI_evI (MI_tkF I J h8) (evI_tkB I J) (by rw [tkF_hi (f := 288) (by omega)]; omega)
theorem MI_adA {S : dC} {tb : Int} {M : dM} (I : SI S) (J : MI S tb M) (hns : 0 < S 38 0 19) (h8 : M 8 = 0) : MI S (tb + 1) (adv S M 12 (stp S M 12)) := by
  have t12 := MI_tr12 J hns
  have s12 := stp_in I M (t := 12) ⟨t12.1, t12.2.1⟩
  have jt := J.tk
  have j1 := J.fi
  have j4 := J.fm
  have j5 := J.cu
  obtain ⟨a1, a2, a3, a4, a5, a6, a7, a8⟩ := tr_adv t12 s12 (by omega)
  have off : ∀ f, f < 13 ∨ 16 ≤ f → adv S M 12 (stp S M 12) f = M f := fun f h => adv_off (by omega)
  generalize adv S M 12 (stp S M 12) = E at *
  have hm : M 21 ≤ 24 := by omega
  have ee : ∀ f, 21 ≤ f → f < 166 → E f = M f := fun f h1 h2 => off f (by omega)
  have e8 := off 8 (by omega)
  have e11 := off 11 (by omega)
  have e20 := off 20 (by omega)
  have e21 := off 21 (by omega)
  have e166 := off 166 (by omega)
  have e288 := off 288 (by omega)
  have no : E 8 = 1 → False := fun z => by omega
  exact ⟨fun p hp => by rw [off p (by omega)]; exact J.va p hp, Or.inl (e8.trans h8), by rw [e11]; exact J.cu, ⟨a1, fun _ => a2, fun z => by omega⟩, ⟨a3, a4, a5, by omega⟩, a7, a8, by rw [e20]; exact J.fz, fun z => by rw [e11, e20, e21]; exact J.id h8, fun z => (no z).elim, fun z => (no z).elim, fun z => (no z).elim, fun z => (no z).elim, fun z => (no z).elim, fun z => (no z).elim, by rw [e21, e11]; exact j4, fe_cong hm ee J.fe, fun z => by rw [fs_cong hm ee]; exact J.fs (by rw [← e20]; exact z), by rw [e166, e288]; exact J.ev, by rw [e288]; omega, by omega⟩
theorem MI_tkI {S : dC} {tb : Int} {M : dM} (I : SI S) (J : MI S tb M) (hns : 0 < S 38 0 19) (h8 : M 8 = 0) : MI S (tb + 1) (tkI S M) := by
  have K := MI_adA I J hns h8
  have j1 := J.fi
  unfold tkI
  exact MI_evI K (evI_fir I (evI_of K.ev K.fi.1)) (by rw [adv_off (by omega)]; omega)
theorem MI_tkM {S : dC} {tb : Int} {M : dM} (I : SI S) (J : MI S tb M) (hns : 0 < S 38 0 19) : MI S (tb + 1) (tkM S M) := by
  have j1 := J.mi
  unfold tkM
  split
  · rename_i h8; exact MI_tkI I J hns h8
  · rename_i h8; exact MI_tkB I J (by omega)
noncomputable def takN (S : dC) : Nat → dM → dM
  | 0, M => M
  | n + 1, M => takN S n (tak S M)
theorem MI_takN {S : dC} {tb : Int} (I : SI S) (hns : 0 < S 38 0 19) : ∀ (n : Nat) (M : dM), MI S tb M → MI S tb (takN S n M)
  | 0, _, J => J
  | n + 1, M, J => MI_takN I hns n (tak S M) (MI_tak I J hns)
theorem MI_tck {S : dC} {tb : Int} {M : dM} (I : SI S) (J : MI S tb M) (hns : 0 < S 38 0 19) : MI S (tb + 1) (tck S M) := MI_tkM I (MI_takN I hns 4 _ (MI_287 J _)) hns
theorem MI_tcks {S : dC} (I : SI S) (hns : 0 < S 38 0 19) : ∀ (n : Nat) (tb : Int) (M : dM), MI S tb M → MI S (tb + n) (tcks S n M)
  | 0, tb, M, J => by rw [show tb + ((0 : Nat) : Int) = tb by omega]; exact J
  | n + 1, tb, M, J => by
    have := MI_tcks I hns n (tb + 1) (tck S M) (MI_tck I J hns)
    rw [show tb + ((n + 1 : Nat) : Int) = tb + 1 + n by omega]
    exact this
theorem mixL {x a b : Int64} {s p q : Int} (hx : x.toInt = s) (ha : a.toInt = p) (hb : b.toInt = q) (hs : 0 ≤ s ∧ s ≤ 1000000) (h1 : 0 ≤ (1000000 - s) * p ∧ (1000000 - s) * p ≤ 1000000000) (h2 : 0 ≤ s * q ∧ s * q ≤ 1000000000) : ((((1000000 - x) * a) + (x * b)) / 1000000).toInt = ((1000000 - s) * p + s * q) / 1000000 := by
  have c1 : -9223372036854775808 ≤ 1000000 - s ∧ 1000000 - s < 9223372036854775808 := by clear hx ha hb h1 h2; omega
  have c2 : -9223372036854775808 ≤ (1000000 - s) * p ∧ (1000000 - s) * p < 9223372036854775808 := by clear hx ha hb hs h2 c1; generalize (1000000 - s) * p = z at *; omega
  have c3 : -9223372036854775808 ≤ s * q ∧ s * q < 9223372036854775808 := by clear hx ha hb hs h1 c1 c2; generalize s * q = z at *; omega
  have c4 : -9223372036854775808 ≤ (1000000 - s) * p + s * q ∧ (1000000 - s) * p + s * q < 9223372036854775808 := by clear hx ha hb hs c1 c2 c3; generalize (1000000 - s) * p = z at *; generalize s * q = y at *; omega
  have c5 : 0 ≤ (1000000 - s) * p + s * q := by clear hx ha hb hs c1 c2 c3 c4; generalize (1000000 - s) * p = z at *; generalize s * q = y at *; omega
  exact divL_ti (addL_ti (mulL_ti (subL_ti (vlL (by decide)) hx c1) ha c2) (mulL_ti hx hb c3) c4) (vlL (by decide)) c5 (by decide)
theorem stepL {a b : Int64} {p q : Int} (ha : a.toInt = p) (hb : b.toInt = q) (h1 : 0 ≤ p ∧ p ≤ 1000) (h2 : 1 ≤ q ∧ q ≤ 1000) : ((1000000 * a) / (100 * b)).toInt = 1000000 * p / (100 * q) := by
  have c1 : -9223372036854775808 ≤ 1000000 * p ∧ 1000000 * p < 9223372036854775808 := by clear ha hb; omega
  have c2 : -9223372036854775808 ≤ 100 * q ∧ 100 * q < 9223372036854775808 := by clear ha hb; omega
  have c3 : 0 ≤ 1000000 * p := by clear ha hb; omega
  have c4 : 0 < 100 * q := by clear ha hb; omega
  exact divL_ti (mulL_ti (vlL (by decide)) ha c1) (mulL_ti (vlL (by decide)) hb c2) c3 c4
section TS
variable {h : gH} {A : dA} {N zz : Nat → Nat} {S C C0 : dC} {P : dP} {M : dM} {tb : Int}
end TS
