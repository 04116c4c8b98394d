/-! ===== the reference: taking a transition ===== -/
theorem fb_si_div {f : Nat → Int} {w b : Int} (hw : 0 ≤ w) (hb : 0 < b) : ∀ n : Nat, (∀ k, k < n → 0 ≤ f k) → fb_si (fun k => f k * w / b) n * b ≤ fb_si f n * w
  | 0, _ => by show (0 : Int) * b ≤ 0 * w; omega
  | n + 1, h => by
    have h1 := fb_si_div (f := f) hw hb n fun k hk => h k (by omega)
    have h2 : f n * w / b * b ≤ f n * w := Int.ediv_mul_le _ (by omega)
    rw [fb_si_succ, fb_si_succ, Int.add_mul, Int.add_mul]
    omega
theorem qmis_pos {M : dM} {w : Int} (hw : 0 ≤ w ∧ w ≤ 1000000) {n : Nat} (he : ∀ k : Nat, k < n → 0 < M (24 + 3 * k)) (hs : fb_si (fun k => M (24 + 3 * k)) n ≤ 1000000) : 0 ≤ qmis M w n := by
  have h1 := fb_si_div (f := fun k => M (24 + 3 * k)) (w := w) (b := 1000000) hw.1 (by decide) n fun k hk => by have := he k hk; omega
  have h2 : fb_si (fun k => M (24 + 3 * k)) n * w ≤ 1000000 * w := Int.mul_le_mul_of_nonneg_right hs hw.1
  unfold qmis
  replace h1 : fb_si (fun k => M (24 + 3 * k) * w / 1000000) n * 1000000 ≤ fb_si (fun k => M (24 + 3 * k)) n * w := h1
  omega
theorem qfw_in {tb : Int} {S : dC} {M : dM} (J : MI S tb M) (h20 : M 20 = 1) {w : Int} (hw : 0 ≤ w ∧ w ≤ 1000000) {k : Nat} (hk : (k : Int) < M 21) : 0 ≤ qfw M w k := by
  have j1 := J.fe k hk
  have j2 := fz_w j1.2.2.2.2 hw
  have j3 := J.fs h20
  have j4 := qmis_pos hw (n := (M 21).toNat) (fun j hj => (J.fe j (by omega)).2.2.2.2.1) j3
  unfold qfw
  split <;> omega
theorem qfw_sum (M : dM) (w : Int) : ∀ n : Nat, fb_si (qfw M w) (n + 1) = fb_si (fun k => M (24 + 3 * k) * w / 1000000) (n + 1) + qmis M w (M 21).toNat
  | 0 => by rw [fb_si_succ, fb_si_succ]; show (0 : Int) + qfw M w 0 = 0 + M (24 + 3 * 0) * w / 1000000 + qmis M w (M 21).toNat; unfold qfw; rw [if_pos rfl]; omega
  | n + 1 => by
    rw [fb_si_succ, qfw_sum M w n, fb_si_succ _ (n + 1)]
    have : qfw M w (n + 1) = M (24 + 3 * (n + 1)) * w / 1000000 := by unfold qfw; rw [if_neg (by omega)]; omega
    rw [this]
    omega
theorem qfrz_in {tb : Int} {S : dC} {M : dM} (J : MI S tb M) (h20 : M 20 = 1) {w : Int} (hw : 0 ≤ w ∧ w ≤ 1000000) : ∀ n : Nat, (n : Int) ≤ M 21 → qok (qfrz M w n q0) ∧ qsum (qfrz M w n q0) = fb_si (qfw M w) n ∧ (qfrz M w n q0).1 ≤ n
  | 0, _ => ⟨q0_ok, rfl, Nat.le_refl _⟩
  | n + 1, hn => by
    obtain ⟨a1, a2, a3⟩ := qfrz_in J h20 hw n (by omega)
    have b := qfw_in J h20 hw (k := n) (by omega)
    have e := J.fe n (by omega)
    unfold qfrz
    rw [fb_si_succ]
    split
    · exact ⟨a1, by omega, by omega⟩
    · have hm := qadd_many (qfrz M w n q0) (M (22 + 3 * n)) (M (23 + 3 * n)) (qfw M w n)
      exact ⟨qadd_ok a1 (by omega) (by omega) (by omega), by rw [qadd_sum, a2], by omega⟩
theorem qfrz_sum {tb : Int} {S : dC} {M : dM} (J : MI S tb M) (h20 : M 20 = 1) {w : Int} (hw : 0 ≤ w ∧ w ≤ 1000000) : qsum (qfrz M w (M 21).toNat q0) ≤ w := by
  have j6 := J.fm
  rw [(qfrz_in J h20 hw (M 21).toNat (by omega)).2.1]
  cases hn : (M 21).toNat with
  | zero => exact hw.1
  | succ n =>
    rw [qfw_sum, hn]
    unfold qmis
    omega
theorem bw_cnt {S : dC} (I : SI S) (M : dM) {s : Nat} {w : Int} (m : Nat) (hs : (s : Int) < S 38 0 19) : fb_ct (fun c => decide (bw S M s w c ≠ 0)) m ≤ 8 := bl_cnt I M 4 _ w m (by have := I.mo s hs; omega)
/-- what the present pose is like -/
theorem qpose_in {tb : Int} {S : dC} (I : SI S) {M : dM} (J : MI S tb M) (h8 : M 8 = 1) : qok (qpose S M) ∧ qsum (qpose S M) ≤ 1000000 ∧ ((qpose S M).1 : Int) ≤ 8 * (M 11 + 2) := by
  have i1 := I.ns
  have i0 := I.nc
  have j1 := J.mi
  have j2 := J.sa
  have j3 := J.ca
  have j4 := J.cu
  have j5 := J.fz
  have j6 := J.fm
  have j8 := J.el h8
  have j9 := J.sb h8
  have j10 := J.cb h8
  have sh := shr_in (S := S) (M := M) (by omega) (by omega)
  have hn : ((nC S : Nat) : Int) ≤ S 38 0 8 := by unfold nC; omega
  have c2 := bw_cnt I M (s := (M 16).toNat) (w := shr S M) (nC S) (by omega)
  have s2 := bw_sum I M (s := (M 16).toNat) (w := shr S M) (nC S) (by omega) sh.1
  unfold qpose
  rw [if_neg (by omega), if_neg (by omega)]
  split
  · rename_i h20
    have f1 := qfrz_in J h20 (w := 1000000 - shr S M) (by omega) (M 21).toNat (by omega)
    have f2 := qfrz_sum J h20 (w := 1000000 - shr S M) (by omega)
    have t1 := qtrk_in I M (t := 16) (w := shr S M) j9 (show 0 ≤ M 18 by omega) sh.1 f1.1 (nC S) hn
    generalize fb_ct (fun c => decide (bw S M (M 16).toNat (shr S M) c ≠ 0)) (nC S) = y at *
    refine ⟨t1.1, by rw [t1.2.1]; omega, ?_⟩
    have := t1.2.2.2
    have := f1.2.2
    omega
  · have c1 := bw_cnt I M (s := (M 12).toNat) (w := 1000000 - shr S M) (nC S) (by omega)
    have s1 := bw_sum I M (s := (M 12).toNat) (w := 1000000 - shr S M) (nC S) (by omega) (by omega)
    have t0 := qtrk_in I M (t := 12) (w := 1000000 - shr S M) (q := q0) ⟨j2.1, j2.2.1 (by omega)⟩ (show 0 ≤ M 14 by omega) (by omega) q0_ok (nC S) hn
    have t1 := qtrk_in I M (t := 16) (w := shr S M) j9 (show 0 ≤ M 18 by omega) sh.1 t0.1 (nC S) hn
    generalize fb_ct (fun c => decide (bw S M (M 16).toNat (shr S M) c ≠ 0)) (nC S) = y at *
    generalize fb_ct (fun c => decide (bw S M (M 12).toNat (1000000 - shr S M) c ≠ 0)) (nC S) = y1 at *
    have z0 : qsum q0 = 0 := rfl
    have z1 : q0.1 = 0 := rfl
    have e1 := t1.2.2.2
    have e2 := t0.2.2.2
    have e3 := t0.2.1
    refine ⟨t1.1, by rw [t1.2.1]; omega, ?_⟩
    omega
theorem qok_sum {q : dQ} (h : qok q) {k : Nat} (hk : k < q.1) : q.2.2.2 k ≤ qsum q := by
  have h1 : ∀ n : Nat, n ≤ q.1 → 0 ≤ fb_si q.2.2.2 n ∧ (k < n → q.2.2.2 k ≤ fb_si q.2.2.2 n) := fun n => by
    induction n with
    | zero => intro _; exact ⟨Int.le_refl _, fun z => absurd z (Nat.not_lt_zero k)⟩
    | succ n ih =>
      intro hn
      obtain ⟨a1, a2⟩ := ih (by omega)
      have a3 := (h n (by omega)).2.2.2.2
      rw [fb_si_succ]
      refine ⟨by omega, fun z => ?_⟩
      rcases Nat.lt_or_ge k n with y | y
      · have := a2 y; omega
      · have : k = n := by omega
        subst this
        omega
  exact (h1 q.1 (Nat.le_refl _)).2 hk
/-! machines that are alike but for some of their numbers -/
theorem MI.cong {tb : Int} {S : dC} {M M' : dM} (J : MI S tb M) (e : ∀ f, 8 ≤ f → f < 290 → M' f = M f) (hv : ∀ p : Nat, p < 8 → -100 ≤ M' p ∧ M' p ≤ 100) : MI S tb M' := by
  have j6 := J.fm
  have j4 := J.cu
  have p12 : prg M' 12 = prg M 12 := by unfold prg; rw [e 13 (by decide) (by decide), e 14 (by decide) (by decide)]
  have p16 : prg M' 16 = prg M 16 := by unfold prg; rw [e 17 (by decide) (by decide), e 18 (by decide) (by decide)]
  have sm : fb_si (fun k => M' (24 + 3 * k)) (M 21).toNat = fb_si (fun k => M (24 + 3 * k)) (M 21).toNat := fb_si_cong fun k hk => e _ (by omega) (by omega)
  have fe : ∀ k : Nat, (k : Int) < M 21 → 0 ≤ M' (22 + 3 * k) ∧ M' (22 + 3 * k) < 12 ∧ 0 ≤ M' (23 + 3 * k) ∧ M' (23 + 3 * k) < 500 ∧ 0 < M' (24 + 3 * k) ∧ M' (24 + 3 * k) ≤ 1000000 := fun k hk => by
    rw [e _ (by omega) (by omega), e (23 + 3 * k) (by omega) (by omega), e (24 + 3 * k) (by omega) (by omega)]; exact J.fe k hk
  unfold MI
  rw [p12, p16, e 8 (by decide) (by decide), e 9 (by decide) (by decide), e 10 (by decide) (by decide), e 11 (by decide) (by decide), e 12 (by decide) (by decide), e 13 (by decide) (by decide), e 14 (by decide) (by decide), e 15 (by decide) (by decide), e 16 (by decide) (by decide), e 17 (by decide) (by decide), e 18 (by decide) (by decide), e 19 (by decide) (by decide), e 20 (by decide) (by decide), e 21 (by decide) (by decide), e 166 (by decide) (by decide), e 288 (by decide) (by decide), sm]
  exact ⟨hv, J.mi, J.cu, J.sa, J.ca, J.la, J.fa, J.fz, J.id, J.xx, J.el, J.sb, J.cb, J.lb, J.fb, J.fm, fe, J.fs, J.ev, J.fi, J.tk⟩
theorem cnP_in {S : dC} (I : SI S) {t k : Nat} (ht : (t : Int) < S 38 0 21) (hk : k < cnN S t) : 0 ≤ cnP S t k ∧ cnP S t k < 8 := by
  have h1 := I.tp t k ht (by unfold cnN at hk; omega)
  have h2 := I.np
  unfold cnP
  omega
theorem clr_off {S : dC} (I : SI S) {t : Nat} (ht : (t : Int) < S 38 0 21) (M : dM) {f : Nat} (hf : 8 ≤ f) : ∀ k : Nat, k ≤ cnN S t → clr S t k M f = M f
  | 0, _ => rfl
  | k + 1, hk => by
    have h1 := cnP_in I ht (k := k) (by omega)
    unfold clr
    rw [um_n _ _ (by omega)]
    exact clr_off I ht M hf k (by omega)
theorem clr_va {S : dC} {t : Nat} {M : dM} (hV : ∀ p : Nat, p < 8 → -100 ≤ M p ∧ M p ≤ 100) : ∀ (k p : Nat), p < 8 → -100 ≤ clr S t k M p ∧ clr S t k M p ≤ 100
  | 0, p, hp => hV p hp
  | k + 1, p, hp => by
    have h1 := clr_va (S := S) (t := t) hV k p hp
    unfold clr
    unfold um
    split
    · split
      · omega
      · rename_i z _; rw [← z]; exact h1
    · exact h1
theorem MI.clr {tb : Int} {S : dC} {M : dM} (I : SI S) (J : MI S tb M) {t : Nat} (ht : (t : Int) < S 38 0 21) : MI S tb (clr S t (cnN S t) M) := J.cong (fun f h1 _ => clr_off I ht M h1 _ (Nat.le_refl _)) (fun p hp => clr_va J.va _ p hp)
section TA
variable {h : gH} {A : dA} {N zz : Nat → Nat} {S C C0 : dC} {P : dP} {M : dM}
theorem putQ_step (g : dQ) (M : dM) (k : Nat) : um (um (um (putQ (k, g.2) M) (22 + 3 * k) (g.2.1 k)) (22 + 3 * k + 1) (g.2.2.1 k)) (22 + 3 * k + 2) (g.2.2.2 k) = putQ (k + 1, g.2) M := funext fun f => by
  by_cases z0 : f = 22 + 3 * k + 2
  · rw [z0, um_s]
    unfold putQ
    rw [if_pos (by simp only []; omega), if_neg (by omega), if_neg (by omega), show (22 + 3 * k + 2 - 22) / 3 = k by omega]
  rw [um_n _ _ z0]
  by_cases z1 : f = 22 + 3 * k + 1
  · rw [z1, um_s]
    unfold putQ
    rw [if_pos (by simp only []; omega), if_neg (by omega), if_pos (by omega), show (22 + 3 * k + 1 - 22) / 3 = k by omega]
  rw [um_n _ _ z1]
  by_cases z2 : f = 22 + 3 * k
  · rw [z2, um_s]
    unfold putQ
    rw [if_pos (by simp only []; omega), if_pos (by omega), show (22 + 3 * k - 22) / 3 = k by omega]
  rw [um_n _ _ z2]
  show (if 22 ≤ f ∧ f < 22 + 3 * k then _ else M f) = (if 22 ≤ f ∧ f < 22 + 3 * (k + 1) then _ else M f)
  by_cases z : 22 ≤ f ∧ f < 22 + 3 * k
  · rw [if_pos z, if_pos (show 22 ≤ f ∧ f < 22 + 3 * (k + 1) by omega)]
  · rw [if_neg z, if_neg (show ¬ (22 ≤ f ∧ f < 22 + 3 * (k + 1)) by omega)]
theorem trkM_in (M : dM) (a : Nat) (s p : Int) (f : Nat) : trkM M a s p f = if f = a + 3 then 1 else if f = a + 2 then p else if f = a + 1 then 0 else if f = a then s else M f := rfl
theorem frz_12 {S : dC} {M : dM} {l : Int} (h12 : 0 ≤ M 12 ∧ M 12 < S 38 0 19) (h16 : 0 ≤ M 16 ∧ M 16 < S 38 0 19) : 0 ≤ frz S M l 12 ∧ frz S M l 12 < S 38 0 19 := by
  have e : ∀ f, f < 20 → f ≠ 11 → frz0 S M f = M f := fun f hf hn => by
    unfold frz0
    rw [um_n _ _ (by omega), um_n _ _ (by omega), um_n _ _ (by omega)]
    unfold putQ
    rw [if_neg (by omega)]
  unfold frz
  split
  · show 0 ≤ frz0 S M 16 ∧ frz0 S M 16 < _
    rw [e 16 (by decide) (by decide)]; exact h16
  · rw [e 12 (by decide) (by decide)]; exact h12
end TA
