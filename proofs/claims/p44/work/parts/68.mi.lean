/-! ===== machines keep what holds of them ===== -/
def MA (S : dC) (tb : Int) (M : dM) : Prop := (∀ p : Nat, p < 8 → -100 ≤ M p ∧ M p ≤ 100) ∧ (0 ≤ M 11 ∧ M 11 ≤ 2) ∧ (0 ≤ M 12 ∧ M 12 < S 38 0 19) ∧ (0 ≤ M 13 ∧ 0 ≤ M 14 ∧ M 14 ≤ 1000000 ∧ prg M 12 ≤ 4000000 * tb + 1000000) ∧ (S 57 0 (M 12).toNat = 0 → M 13 = 0) ∧ (M 15 = 0 ∨ M 15 = 1) ∧ (M 20 = 0 ∨ M 20 = 1) ∧ (0 ≤ M 21 ∧ M 21 ≤ 8 * (M 11 + 1)) ∧ (∀ k : Nat, (k : Int) < M 21 → 0 ≤ M (22 + 3 * k) ∧ M (22 + 3 * k) < 12 ∧ 0 ≤ M (23 + 3 * k) ∧ M (23 + 3 * k) < 500 ∧ 0 < M (24 + 3 * k) ∧ M (24 + 3 * k) ≤ 1000000) ∧ (M 20 = 1 → fb_si (fun k => M (24 + 3 * k)) (M 21).toNat ≤ 1000000) ∧ (0 ≤ M 166 ∧ M 166 ≤ 30 ∧ (M 288 ≤ 30 → M 166 = M 288) ∧ (30 ≤ M 288 → M 166 = 30)) ∧ (0 ≤ M 288 ∧ M 288 ≤ 120 * tb) ∧ (0 ≤ tb)
theorem MA.va {S : dC} {tb : Int} {M : dM} (I : MA S tb M) : ∀ p : Nat, p < 8 → -100 ≤ M p ∧ M p ≤ 100 := I.1
theorem MA.cu {S : dC} {tb : Int} {M : dM} (I : MA S tb M) : 0 ≤ M 11 ∧ M 11 ≤ 2 := I.2.1
theorem MA.sa {S : dC} {tb : Int} {M : dM} (I : MA S tb M) : 0 ≤ M 12 ∧ M 12 < S 38 0 19 := I.2.2.1
theorem MA.ca {S : dC} {tb : Int} {M : dM} (I : MA S tb M) : 0 ≤ M 13 ∧ 0 ≤ M 14 ∧ M 14 ≤ 1000000 ∧ prg M 12 ≤ 4000000 * tb + 1000000 := I.2.2.2.1
theorem MA.la {S : dC} {tb : Int} {M : dM} (I : MA S tb M) : S 57 0 (M 12).toNat = 0 → M 13 = 0 := I.2.2.2.2.1
theorem MA.fa {S : dC} {tb : Int} {M : dM} (I : MA S tb M) : M 15 = 0 ∨ M 15 = 1 := I.2.2.2.2.2.1
theorem MA.fz {S : dC} {tb : Int} {M : dM} (I : MA S tb M) : M 20 = 0 ∨ M 20 = 1 := I.2.2.2.2.2.2.1
theorem MA.fm {S : dC} {tb : Int} {M : dM} (I : MA S tb M) : 0 ≤ M 21 ∧ M 21 ≤ 8 * (M 11 + 1) := I.2.2.2.2.2.2.2.1
theorem MA.fe {S : dC} {tb : Int} {M : dM} (I : MA S tb M) : ∀ k : Nat, (k : Int) < M 21 → 0 ≤ M (22 + 3 * k) ∧ M (22 + 3 * k) < 12 ∧ 0 ≤ M (23 + 3 * k) ∧ M (23 + 3 * k) < 500 ∧ 0 < M (24 + 3 * k) ∧ M (24 + 3 * k) ≤ 1000000 := I.2.2.2.2.2.2.2.2.1
theorem MA.fs {S : dC} {tb : Int} {M : dM} (I : MA S tb M) : M 20 = 1 → fb_si (fun k => M (24 + 3 * k)) (M 21).toNat ≤ 1000000 := I.2.2.2.2.2.2.2.2.2.1
theorem MA.ev {S : dC} {tb : Int} {M : dM} (I : MA S tb M) : 0 ≤ M 166 ∧ M 166 ≤ 30 ∧ (M 288 ≤ 30 → M 166 = M 288) ∧ (30 ≤ M 288 → M 166 = 30) := I.2.2.2.2.2.2.2.2.2.2.1
theorem MA.fi {S : dC} {tb : Int} {M : dM} (I : MA S tb M) : 0 ≤ M 288 ∧ M 288 ≤ 120 * tb := I.2.2.2.2.2.2.2.2.2.2.2.1
theorem MA.tk {S : dC} {tb : Int} {M : dM} (I : MA S tb M) : 0 ≤ tb := I.2.2.2.2.2.2.2.2.2.2.2.2
theorem prg_of (M : dM) (t : Nat) : prg M t = M (t + 1) * 1000000 + M (t + 2) := rfl
/-- the frozen entries, where M' has them as M -/
theorem fe_cong {M M' : dM} (hm : M 21 ≤ 24) (e : ∀ f, 21 ≤ f → f < 166 → M' f = M f) (fe : ∀ k : Nat, (k : Int) < M 21 → 0 ≤ M (22 + 3 * k) ∧ M (22 + 3 * k) < 12 ∧ 0 ≤ M (23 + 3 * k) ∧ M (23 + 3 * k) < 500 ∧ 0 < M (24 + 3 * k) ∧ M (24 + 3 * k) ≤ 1000000) : ∀ k : Nat, (k : Int) < M' 21 → 0 ≤ M' (22 + 3 * k) ∧ M' (22 + 3 * k) < 12 ∧ 0 ≤ M' (23 + 3 * k) ∧ M' (23 + 3 * k) < 500 ∧ 0 < M' (24 + 3 * k) ∧ M' (24 + 3 * k) ≤ 1000000 := fun k hk => by
  rw [e 21 (by decide) (by decide)] at hk
  rw [e _ (by omega) (by omega), e (23 + 3 * k) (by omega) (by omega), e (24 + 3 * k) (by omega) (by omega)]; exact fe k hk
theorem fs_cong {M M' : dM} (hm : M 21 ≤ 24) (e : ∀ f, 21 ≤ f → f < 166 → M' f = M f) : fb_si (fun k => M' (24 + 3 * k)) (M' 21).toNat = fb_si (fun k => M (24 + 3 * k)) (M 21).toNat := by
  rw [e 21 (by decide) (by decide)]
  exact fb_si_cong fun k hk => e _ (by omega) (by omega)
theorem MA_idl {tb : Int} {S : dC} {M : dM} (J : MI S tb M) (hns : 0 < S 38 0 19) (h8 : M 8 = 0) : MA S tb (idl M) := by
  have j := J.id h8
  have j2 := J.sa
  have e : ∀ f, f ≠ 11 → f ≠ 20 → f ≠ 21 → idl M f = M f := fun f h1 h2 h3 => by unfold idl; rw [um_n _ _ h3, um_n _ _ h2, um_n _ _ h1]
  have e11 : idl M 11 = 0 := rfl
  have e20 : idl M 20 = 0 := rfl
  have e21 : idl M 21 = 0 := rfl
  have p12 : prg (idl M) 12 = prg M 12 := rfl
  refine ⟨fun p hp => by rw [e p (by omega) (by omega) (by omega)]; exact J.va p hp, by omega, ⟨j2.1, j2.2.1 hns⟩, J.ca, J.la, J.fa, Or.inl rfl, by omega, fun k hk => absurd hk (by omega), fun z => absurd (e20.symm.trans z) (by decide), J.ev, J.fi, J.tk⟩
theorem putQ_lo (q : dQ) (M : dM) {f : Nat} (h : f < 22) : putQ q M f = M f := if_neg (by omega)
theorem putQ_hi (q : dQ) (M : dM) {f : Nat} (hq : q.1 ≤ 48) (h : 166 ≤ f) : putQ q M f = M f := if_neg (by omega)
theorem putQ_c (q : dQ) (M : dM) {k : Nat} (h : k < q.1) : putQ q M (22 + 3 * k) = q.2.1 k := by
  unfold putQ
  rw [if_pos (by omega), if_pos (by omega), show (22 + 3 * k - 22) / 3 = k by omega]
theorem putQ_t (q : dQ) (M : dM) {k : Nat} (h : k < q.1) : putQ q M (23 + 3 * k) = q.2.2.1 k := by
  unfold putQ
  rw [if_pos (by omega), if_neg (by omega), if_pos (by omega), show (23 + 3 * k - 22) / 3 = k by omega]
theorem putQ_w (q : dQ) (M : dM) {k : Nat} (h : k < q.1) : putQ q M (24 + 3 * k) = q.2.2.2 k := by
  unfold putQ
  rw [if_pos (by omega), if_neg (by omega), if_neg (by omega), show (24 + 3 * k - 22) / 3 = k by omega]
theorem frz0_of (S : dC) (M : dM) (f : Nat) : frz0 S M f = if f = 11 then M 11 + 1 else if f = 20 then 1 else if f = 21 then ((qpose S M).1 : Int) else putQ (qpose S M) M f := rfl
theorem MA_frz0 {tb : Int} {S : dC} {M : dM} (I : SI S) (J : MI S tb M) (h8 : M 8 = 1) (h11 : M 11 < 2) : MA S tb (frz0 S M) ∧ (∀ f, f < 20 → f ≠ 11 → frz0 S M f = M f) ∧ frz0 S M 287 = M 287 := by
  obtain ⟨q1, q2, q3⟩ := qpose_in I J h8
  have j2 := J.sa
  have j4 := J.cu
  have hns : 0 < S 38 0 19 := by have := J.sb h8; omega
  have e : ∀ f, f < 20 → f ≠ 11 → frz0 S M f = M f := fun f hf hn => by rw [frz0_of, if_neg hn, if_neg (by omega), if_neg (by omega), putQ_lo _ _ (by omega)]
  have eh : ∀ f, 166 ≤ f → frz0 S M f = M f := fun f hf => by rw [frz0_of, if_neg (by omega), if_neg (by omega), if_neg (by omega), putQ_hi _ _ (by omega) hf]
  have e11 : frz0 S M 11 = M 11 + 1 := rfl
  have e20 : frz0 S M 20 = 1 := rfl
  have e21 : frz0 S M 21 = ((qpose S M).1 : Int) := rfl
  have ef : ∀ f, 22 ≤ f → frz0 S M f = putQ (qpose S M) M f := fun f hf => by rw [frz0_of, if_neg (by omega), if_neg (by omega), if_neg (by omega)]
  have p12 : prg (frz0 S M) 12 = prg M 12 := by rw [prg_of, prg_of, e 13 (by decide) (by decide), e 14 (by decide) (by decide)]
  refine ⟨⟨fun p hp => by rw [e p (by omega) (by omega)]; exact J.va p hp, by omega, by rw [e 12 (by decide) (by decide)]; exact ⟨j2.1, j2.2.1 hns⟩, by rw [p12, e 13 (by decide) (by decide), e 14 (by decide) (by decide)]; exact J.ca, by rw [e 12 (by decide) (by decide), e 13 (by decide) (by decide)]; exact J.la, by rw [e 15 (by decide) (by decide)]; exact J.fa, Or.inr rfl, by omega, fun k hk => ?_, fun _ => ?_, by rw [eh 166 (by decide), eh 288 (by decide)]; exact J.ev, by rw [eh 288 (by decide)]; exact J.fi, J.tk⟩, e, eh 287 (by decide)⟩
  · have hk' : k < (qpose S M).1 := by omega
    rw [ef _ (by omega), ef (23 + 3 * k) (by omega), ef (24 + 3 * k) (by omega), putQ_c _ _ hk', putQ_t _ _ hk', putQ_w _ _ hk']
    obtain ⟨a1, a2, a3, a4, a5⟩ := q1 k hk'
    have := qok_sum q1 hk'
    exact ⟨a1, a2, a3, a4, a5, by omega⟩
  · rw [e21, Int.toNat_natCast]
    rw [fb_si_cong (g := (qpose S M).2.2.2) fun k hk => by rw [ef _ (by omega), putQ_w _ _ hk]]
    exact q2
theorem cpT_of (M : dM) (f : Nat) : cpT M f = if 12 ≤ f ∧ f < 16 then M (f + 4) else M f := rfl
theorem MA_frz {tb : Int} {S : dC} {M : dM} (I : SI S) (J : MI S tb M) (h8 : M 8 = 1) (h11 : M 11 < 2) (l : Int) : MA S tb (frz S M l) := by
  obtain ⟨K, e, e287⟩ := MA_frz0 I J h8 h11
  unfold frz
  split
  · have j9 := J.sb h8
    have c : ∀ f, ¬ (12 ≤ f ∧ f < 16) → cpT (frz0 S M) f = frz0 S M f := fun f hf => by rw [cpT_of, if_neg hf]
    have d : ∀ f, 12 ≤ f → f < 16 → cpT (frz0 S M) f = M (f + 4) := fun f h1 h2 => by rw [cpT_of, if_pos ⟨h1, h2⟩, e _ (by omega) (by omega)]
    have p12 : prg (cpT (frz0 S M)) 12 = prg M 16 := by rw [prg_of, prg_of, d 13 (by decide) (by decide), d 14 (by decide) (by decide)]
    have hm : frz0 S M 21 ≤ 24 := by have := K.fm; have := K.cu; omega
    have ee : ∀ f, 21 ≤ f → f < 166 → cpT (frz0 S M) f = frz0 S M f := fun f h1 h2 => c f (by omega)
    refine ⟨fun p hp => by rw [c p (by omega)]; exact K.va p hp, by rw [c 11 (by omega)]; exact K.cu, by rw [d 12 (by decide) (by decide)]; exact j9, by rw [p12, d 13 (by decide) (by decide), d 14 (by decide) (by decide)]; exact J.cb h8, by rw [d 12 (by decide) (by decide), d 13 (by decide) (by decide)]; exact J.lb h8, by rw [d 15 (by decide) (by decide)]; exact J.fb h8, by rw [c 20 (by omega)]; exact K.fz, by rw [c 21 (by omega), c 11 (by omega)]; exact K.fm, fe_cong hm ee K.fe, fun z => by rw [fs_cong hm ee]; exact K.fs (by rw [← c 20 (by omega)]; exact z), by rw [c 166 (by omega), c 288 (by omega)]; exact K.ev, by rw [c 288 (by omega)]; exact K.fi, K.tk⟩
  · exact K
/-- what a track is like -/
def trI (S : dC) (M : dM) (t : Nat) (b : Int) : Prop := 0 ≤ M t ∧ M t < S 38 0 19 ∧ 0 ≤ M (t + 1) ∧ 0 ≤ M (t + 2) ∧ M (t + 2) ≤ 1000000 ∧ prg M t ≤ b ∧ (S 57 0 (M t).toNat = 0 → M (t + 1) = 0) ∧ (M (t + 3) = 0 ∨ M (t + 3) = 1)
theorem trI16 {S : dC} {M : dM} {b : Int} (h : 0 ≤ M 16 ∧ M 16 < S 38 0 19 ∧ 0 ≤ M 17 ∧ 0 ≤ M 18 ∧ M 18 ≤ 1000000 ∧ prg M 16 ≤ b ∧ (S 57 0 (M 16).toNat = 0 → M 17 = 0) ∧ (M 19 = 0 ∨ M 19 = 1)) : trI S M 16 b := h
theorem trI12 {S : dC} {M : dM} {b : Int} (h : 0 ≤ M 12 ∧ M 12 < S 38 0 19 ∧ 0 ≤ M 13 ∧ 0 ≤ M 14 ∧ M 14 ≤ 1000000 ∧ prg M 12 ≤ b ∧ (S 57 0 (M 12).toNat = 0 → M 13 = 0) ∧ (M 15 = 0 ∨ M 15 = 1)) : trI S M 12 b := h
/-- a machine that has just become idle, out of its target track -/
theorem MI_endM {tb : Int} {S : dC} {M : dM} (hva : ∀ p : Nat, p < 8 → -100 ≤ M p ∧ M p ≤ 100) (tr : trI S M 16 (4000000 * tb + 1000000)) (hev : 0 ≤ M 166 ∧ M 166 ≤ 30 ∧ (M 288 ≤ 30 → M 166 = M 288) ∧ (30 ≤ M 288 → M 166 = 30)) (hfi : 0 ≤ M 288 ∧ M 288 ≤ 120 * tb) (htk : 0 ≤ tb) : MI S tb (endM M) := by
  obtain ⟨t1, t2, t3, t4, t5, t6, t7, t8⟩ := tr
  have c : ∀ f, ¬ (12 ≤ f ∧ f < 16) → f ≠ 8 → f ≠ 11 → f ≠ 20 → f ≠ 21 → endM M f = M f := fun f hf a1 a2 a3 a4 => by unfold endM; rw [um_n _ _ a4, um_n _ _ a3, um_n _ _ a2, um_n _ _ a1, cpT_of, if_neg hf]
  have e8 : endM M 8 = 0 := rfl
  have e11 : endM M 11 = 0 := rfl
  have e20 : endM M 20 = 0 := rfl
  have e21 : endM M 21 = 0 := rfl
  have e12 : endM M 12 = M 16 := rfl
  have e13 : endM M 13 = M 17 := rfl
  have e14 : endM M 14 = M 18 := rfl
  have e15 : endM M 15 = M 19 := rfl
  have p12 : prg (endM M) 12 = prg M 16 := by rw [prg_of, prg_of, e13, e14]
  have no : endM M 8 = 1 → False := fun z => absurd (e8.symm.trans z) (by decide)
  refine ⟨fun p hp => by rw [c p (by omega) (by omega) (by omega) (by omega) (by omega)]; exact hva p hp, Or.inl rfl, by omega, by rw [e12]; exact ⟨t1, fun _ => t2, fun z => by omega⟩, by rw [p12, e13, e14]; exact ⟨t3, t4, t5, t6⟩, by rw [e12, e13]; exact t7, by rw [e15]; exact t8, Or.inl rfl, fun _ => ⟨rfl, rfl, rfl⟩, fun z => (no z).elim, fun z => (no z).elim, fun z => (no z).elim, fun z => (no z).elim, fun z => (no z).elim, fun z => (no z).elim, by omega, fun k hk => absurd hk (by omega), fun z => absurd (e20.symm.trans z) (by decide), ?_, ?_, ?_⟩
  · rw [c 166 (by omega) (by omega) (by omega) (by omega) (by omega), c 288 (by omega) (by omega) (by omega) (by omega) (by omega)]; exact hev
  · rw [c 288 (by omega) (by omega) (by omega) (by omega) (by omega)]; exact hfi
  · exact htk
theorem goB_of (S : dC) (t : Nat) (M : dM) (f : Nat) : goB S t M f = if f = 19 then 1 else if f = 18 then S 60 0 (17 * t + 4) * 10000 else if f = 17 then 0 else if f = 16 then S 60 0 (17 * t + 1) else M f := rfl
theorem goP_of (S : dC) (t : Nat) (M : dM) {f : Nat} (h : f ≠ 18) : goP S t M f = goB S t M f := by
  unfold goP
  split
  · exact um_n _ _ h
  · rfl
theorem goP_off (S : dC) (t : Nat) (M : dM) {f : Nat} (h : f < 16 ∨ 20 ≤ f) : goP S t M f = M f := by
  rw [goP_of S t M (by omega), goB_of, if_neg (by omega), if_neg (by omega), if_neg (by omega), if_neg (by omega)]
theorem goP_18 {S : dC} (I : SI S) {t : Nat} (ht : (t : Int) < S 38 0 21) {M : dM} (h14 : 0 ≤ M 14 ∧ M 14 ≤ 1000000) : 0 ≤ goP S t M 18 ∧ goP S t M 18 ≤ 1000000 := by
  have i4 := I.ts t ht
  unfold goP
  split
  · rw [um_s]; split <;> omega
  · rw [goB_of, if_neg (by decide), if_pos rfl]; omega
theorem MI_goT {tb : Int} {S : dC} (I : SI S) {M : dM} (K : MA S tb M) {t : Nat} (ht : (t : Int) < S 38 0 21) : MI S tb (goT S t M) := by
  have i2 := I.tt t ht
  have i3 := I.td t ht
  have k1 := K.sa
  have k2 := K.ca
  have k3 := K.cu
  have k4 := K.fm
  have k5 := K.tk
  have g := fun {f : Nat} (h : f < 16 ∨ 20 ≤ f) => goP_off S t M h
  have g16 : goP S t M 16 = S 60 0 (17 * t + 1) := goP_of S t M (by decide)
  have g17 : goP S t M 17 = 0 := goP_of S t M (by decide)
  have g18 := goP_18 I ht (M := M) ⟨k2.2.1, k2.2.2.1⟩
  have g19 : goP S t M 19 = 1 := goP_of S t M (by decide)
  have p16 : prg (goP S t M) 16 = goP S t M 18 := by show goP S t M 17 * 1000000 + goP S t M 18 = goP S t M 18; rw [g17]; omega
  unfold goT
  split
  · refine MI_endM (fun p hp => by rw [g (by omega)]; exact K.va p hp) (trI16 ⟨by omega, by omega, by omega, g18.1, g18.2, by rw [p16]; omega, fun _ => g17, Or.inr g19⟩) ?_ ?_ ?_
    · rw [g (by omega), g (by omega)]; exact K.ev
    · rw [g (by omega)]; exact K.fi
    · exact K.tk
  · rename_i hd
    unfold durS at hd
    have c : ∀ f, f ≠ 8 → f ≠ 9 → f ≠ 10 → um (um (um (goP S t M) 8 1) 9 (t : Int)) 10 0 f = goP S t M f := fun f a1 a2 a3 => by rw [um_n _ _ a3, um_n _ _ a2, um_n _ _ a1]
    generalize hG : um (um (um (goP S t M) 8 1) 9 (t : Int)) 10 0 = G at c ⊢
    have e8 : G 8 = 1 := by rw [← hG]; rfl
    have e9 : G 9 = (t : Int) := by rw [← hG]; rfl
    have e10 : G 10 = 0 := by rw [← hG]; rfl
    have d := fun {f : Nat} (h : f < 8 ∨ (11 ≤ f ∧ f < 16) ∨ 20 ≤ f) => (c f (by omega) (by omega) (by omega)).trans (g (f := f) (by omega))
    have q12 : prg G 12 = prg M 12 := by rw [prg_of, prg_of, d (by omega), d (by omega)]
    have q16 : prg G 16 = goP S t M 18 := by rw [prg_of, c 17 (by decide) (by decide) (by decide), c 18 (by decide) (by decide) (by decide), g17]; omega
    have hm : M 21 ≤ 24 := by omega
    have ee : ∀ f, 21 ≤ f → f < 166 → G f = M f := fun f h1 h2 => d (by omega)
    refine ⟨fun p hp => by rw [d (by omega)]; exact K.va p hp, Or.inr e8, by rw [d (by omega)]; exact K.cu, by rw [d (by omega)]; exact ⟨k1.1, fun _ => k1.2, fun z => by omega⟩, by rw [q12, d (f := 13) (by omega), d (f := 14) (by omega)]; exact K.ca, by rw [d (f := 12) (by omega), d (f := 13) (by omega)]; exact K.la, by rw [d (by omega)]; exact K.fa, by rw [d (by omega)]; exact K.fz, fun z => absurd (e8.symm.trans z) (by decide), fun _ => by rw [e9]; omega, fun _ => by rw [e9, e10, Int.toNat_natCast]; unfold durS; omega, fun _ => by rw [c 16 (by decide) (by decide) (by decide), g16]; exact i2, fun _ => by rw [q16, c 17 (by decide) (by decide) (by decide), c 18 (by decide) (by decide) (by decide), g17]; omega, fun _ _ => by rw [c 17 (by decide) (by decide) (by decide), g17], fun _ => by rw [c 19 (by decide) (by decide) (by decide), g19]; omega, by rw [d (f := 21) (by omega), d (f := 11) (by omega)]; exact K.fm, fe_cong hm ee K.fe, fun z => by rw [fs_cong hm ee]; exact K.fs (by rw [← d (f := 20) (by omega)]; exact z), by rw [d (f := 166) (by omega), d (f := 288) (by omega)]; exact K.ev, by rw [d (f := 288) (by omega)]; exact K.fi, K.tk⟩
theorem pick_in {S : dC} {M : dM} {t : Nat} {l : Int} (h : pick S M = some (t, l)) : t < nT S ∧ lst S M t = l ∧ (l = 1 ∨ l = 2) := by
  have hl : ls0 S M = 1 ∨ ls0 S M = 2 := by unfold ls0; split <;> omega
  unfold pick at h
  cases h1 : frs S M (ls0 S M) with
  | some u =>
    rw [h1] at h
    cases h
    exact ⟨(frs_in h1).1, (frs_in h1).2, hl⟩
  | none =>
    rw [h1] at h
    cases h2 : frs S M (3 - ls0 S M) with
    | some u =>
      rw [h2] at h
      cases h
      exact ⟨(frs_in h2).1, (frs_in h2).2, by omega⟩
    | none => rw [h2] at h; cases h
theorem lst_cut {S : dC} {M : dM} {t : Nat} (h8 : M 8 = 1) (h : lst S M t ≠ 0) : M 11 < 2 := by
  rcases Int.lt_or_le (M 11) 2 with z | z
  · exact z
  · exfalso
    apply h
    have hm : modS S M = 0 := by unfold modS; rw [if_neg (by omega)]
    unfold lst
    rw [if_neg (by omega), hm]
    rfl
theorem MI_tak {tb : Int} {S : dC} (I : SI S) {M : dM} (J : MI S tb M) (hns : 0 < S 38 0 19) : MI S tb (tak S M) := by
  unfold tak
  cases hp : pick S M with
  | none => exact J
  | some u =>
    obtain ⟨t, l⟩ := u
    obtain ⟨p1, p2, p3⟩ := pick_in hp
    have ht : (t : Int) < S 38 0 21 := by unfold nT at p1; omega
    have J' := J.clr I ht
    have e8 : clr S t (cnN S t) M 8 = M 8 := clr_off I ht M (by decide) _ (Nat.le_refl _)
    have e11 : clr S t (cnN S t) M 11 = M 11 := clr_off I ht M (by decide) _ (Nat.le_refl _)
    show MI S tb (takM S (clr S t (cnN S t) M) t l)
    unfold takM
    refine MI_goT I ?_ ht
    have j1 := J.mi
    split
    · rename_i h8
      exact MA_frz I J' h8 (by rw [e11]; exact lst_cut (S := S) (t := t) (by omega) (by rw [p2]; omega)) l
    · rename_i h8
      exact MA_idl J' hns (by omega)
theorem MI_287 {S : dC} {tb : Int} {M : dM} (J : MI S tb M) (v : Int) : MI S tb (um M 287 v) := by
  have e : ∀ f, f ≠ 287 → um M 287 v f = M f := fun f h => um_n _ _ h
  have q12 : prg (um M 287 v) 12 = prg M 12 := rfl
  have q16 : prg (um M 287 v) 16 = prg M 16 := rfl
  have j4 := J.fm
  have j5 := J.cu
  have hm : M 21 ≤ 24 := by omega
  have ee : ∀ f, 21 ≤ f → f < 166 → um M 287 v f = M f := fun f h1 h2 => e f (by omega)
  exact ⟨fun p hp => by rw [e p (by omega)]; exact J.va p hp, J.mi, J.cu, J.sa, by rw [q12]; exact J.ca, J.la, J.fa, J.fz, J.id, J.xx, J.el, J.sb, fun z => by rw [q16]; exact J.cb z, J.lb, J.fb, J.fm, fe_cong hm ee J.fe, fun z => by rw [fs_cong hm ee]; exact J.fs z, J.ev, J.fi, J.tk⟩
theorem MI_up {tb : Int} {S : dC} {tb tc : Int} {M : dM} (J : MI S tb M) (h : tb ≤ tc) : MI S tc M := by
  have j1 := J.ca
  have j2 := J.fi
  have j3 := J.tk
  exact ⟨J.va, J.mi, J.cu, J.sa, ⟨j1.1, j1.2.1, j1.2.2.1, by omega⟩, J.la, J.fa, J.fz, J.id, J.xx, J.el, J.sb, fun z => by have := J.cb z; exact ⟨this.1, this.2.1, this.2.2.1, by omega⟩, J.lb, J.fb, J.fm, J.fe, J.fs, J.ev, ⟨j2.1, by omega⟩, by omega⟩
/-! events -/
def evI (M0 : dM) (n : Int) (M : dM) : Prop := (0 ≤ M 166 ∧ M 166 ≤ 30 ∧ (M 288 ≤ 30 → M 166 = M 288) ∧ (30 ≤ M 288 → M 166 = 30)) ∧ (0 ≤ M 288 ∧ M 288 ≤ M0 288 + n) ∧ ∀ f : Nat, (f < 166 ∨ f = 287 ∨ 288 < f) → M f = M0 f
theorem nt0_of (M : dM) (tick id c s : Int) (f : Nat) : nt0 M tick id c s f = if f = 288 then M 288 + 1 else if f = 166 then M 166 + 1 else if f = 167 + 4 * (M 166).toNat + 3 then s else if f = 167 + 4 * (M 166).toNat + 2 then c else if f = 167 + 4 * (M 166).toNat + 1 then id else if f = 167 + 4 * (M 166).toNat then tick else M f := rfl
theorem ntS_in {M : dM} (h : 0 ≤ M 166 ∧ M 166 ≤ 30) : 0 ≤ ntS M 166 ∧ ntS M 166 ≤ 29 ∧ (M 166 = 30 → ntS M 166 = 29) ∧ (M 166 ≠ 30 → ntS M 166 = M 166) ∧ ∀ f : Nat, (f < 166 ∨ 283 ≤ f) → ntS M f = M f := by
  unfold ntS
  split
  · refine ⟨by rw [um_s]; omega, by rw [um_s]; omega, fun _ => um_s _ _ _, fun z => by omega, fun f hf => ?_⟩
    rw [um_n _ _ (by omega)]
    show (if 167 ≤ f ∧ f < 283 then M (f + 4) else M f) = M f
    rw [if_neg (by omega)]
  · exact ⟨h.1, by omega, fun z => by omega, fun _ => rfl, fun _ _ => rfl⟩
theorem evI_nt {M0 M : dM} {n tick id c s : Int} (h : evI M0 n M) : evI M0 (n + 1) (ntM M tick id c s) := by
  obtain ⟨⟨a1, a2, a3, a4⟩, ⟨a5, a6⟩, a7⟩ := h
  obtain ⟨b1, b2, b3, b4, b5⟩ := ntS_in ⟨a1, a2⟩
  have e288 : ntM M tick id c s 288 = M 288 + 1 := by
    show nt0 (ntS M) tick id c s 288 = _
    rw [nt0_of, if_pos rfl, b5 288 (by omega)]
  have e166 : ntM M tick id c s 166 = ntS M 166 + 1 := by
    show nt0 (ntS M) tick id c s 166 = _
    rw [nt0_of, if_neg (by decide), if_pos rfl]
  refine ⟨⟨by omega, by omega, fun z => by omega, fun z => by omega⟩, ⟨by omega, by omega⟩, fun f hf => ?_⟩
  show nt0 (ntS M) tick id c s f = _
  rw [nt0_of, if_neg (by omega), if_neg (by omega), if_neg (by omega), if_neg (by omega), if_neg (by omega), if_neg (by omega), b5 f (by omega)]
  exact a7 f hf
theorem evI_more {M0 M : dM} {n m : Int} (h : evI M0 n M) (hm : n ≤ m) : evI M0 m M := ⟨h.1, ⟨h.2.1.1, by have := h.2.1.2; omega⟩, h.2.2⟩
theorem evI_fiK {S : dC} {s c : Nat} {before fresh after tick n : Int} {M0 M : dM} (h : evI M0 n M) : ∀ k : Nat, evI M0 (n + k) (fiK S s before fresh after tick c k M)
  | 0 => by rw [show n + ((0 : Nat) : Int) = n by omega]; exact h
  | k + 1 => by
    have ih := evI_fiK (S := S) (s := s) (c := c) (before := before) (fresh := fresh) (after := after) (tick := tick) h k
    unfold fiK
    split
    · exact evI_more (evI_nt ih) (by omega)
    · exact evI_more ih (by omega)
theorem evI_fiC {S : dC} (I : SI S) {T : Nat → Int} {s : Nat} {before fresh after tick n : Int} {M0 M : dM} (h : evI M0 n M) : ∀ c : Nat, c ≤ 12 → evI M0 (n + 5 * c) (fiC S T s before fresh after tick c M)
  | 0, _ => by rw [show n + 5 * ((0 : Nat) : Int) = n by omega]; exact h
  | c + 1, hc => by
    have ih := evI_fiC I (T := T) (s := s) (before := before) (fresh := fresh) (after := after) (tick := tick) h c (by omega)
    have i1 := I.em c (by omega)
    unfold fiC
    split
    · exact evI_more (evI_fiK ih (S 45 0 c).toNat) (by omega)
    · exact evI_more ih (by omega)
theorem evI_fir {S : dC} (I : SI S) {s : Nat} {before fresh after share tick n : Int} {M0 M : dM} (h : evI M0 n M) : evI M0 (n + 60) (fir S s before fresh after share tick M) := by
  have i1 := I.nc
  have hn : nC S ≤ 12 := by unfold nC; omega
  exact evI_more (evI_fiC I h (nC S) hn) (by omega)
theorem evI_rf {tb : Int} {S : dC} {M : dM} (J : MI S tb M) : evI M 0 M := ⟨J.ev, ⟨J.fi.1, by omega⟩, fun _ _ => rfl⟩
/-- what holds of a machine does not speak of its events alone -/
theorem MI_evI {tb : Int} {S : dC} {M M' : dM} {n : Int} (J : MI S tb M) (h : evI M n M') (hn : M 288 + n ≤ 120 * tb) : MI S tb M' := by
  obtain ⟨a1, a2, a3⟩ := h
  have e := fun {f : Nat} (hf : f < 166 ∨ f = 287 ∨ 288 < f) => a3 f hf
  have q12 : prg M' 12 = prg M 12 := by rw [prg_of, prg_of, e (by omega), e (by omega)]
  have q16 : prg M' 16 = prg M 16 := by rw [prg_of, prg_of, e (by omega), e (by omega)]
  have j4 := J.fm
  have j5 := J.cu
  have hm : M 21 ≤ 24 := by omega
  have ee : ∀ f, 21 ≤ f → f < 166 → M' f = M f := fun f h1 h2 => e (by omega)
  have f1 := fe_cong hm ee J.fe
  have f2 := fs_cong hm ee
  unfold MI
  rw [f2]
  rw [q12, q16, e (f := 8) (by omega), e (f := 9) (by omega), e (f := 10) (by omega), e (f := 11) (by omega), e (f := 12) (by omega), e (f := 13) (by omega), e (f := 14) (by omega), e (f := 15) (by omega), e (f := 16) (by omega), e (f := 17) (by omega), e (f := 18) (by omega), e (f := 19) (by omega), e (f := 20) (by omega), e (f := 21) (by omega)]
  rw [e (f := 21) (by omega)] at f1
  exact ⟨fun p hp => by rw [e (by omega)]; exact J.va p hp, J.mi, J.cu, J.sa, J.ca, J.la, J.fa, J.fz, J.id, J.xx, J.el, J.sb, J.cb, J.lb, J.fb, J.fm, f1, J.fs, a1, ⟨a2.1, by omega⟩, J.tk⟩
