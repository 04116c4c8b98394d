/-! ===== frozen poses as ticks go on; ticks in parts; what is foretold ===== -/
theorem FZ.no {S : dC} {M : dM} (h : M 20 ≠ 1) : FZ S M := fun z => absurd z h
theorem FZ.cong {S : dC} {M M' : dM} (F : FZ S M) (hm : M 21 ≤ 24) (e : ∀ f : Nat, 20 ≤ f → f < 166 → M' f = M f) : FZ S M' := fun z => by
  rw [e 20 (by decide) (by decide)] at z
  obtain ⟨f1, f2⟩ := F z
  refine ⟨by rw [e 21 (by decide) (by decide)]; exact f1, fun k hk => ?_⟩
  rw [e 21 (by decide) (by decide)] at hk
  rw [e _ (by omega) (by omega), e (23 + 3 * k) (by omega) (by omega)]
  exact f2 k hk
theorem FZ_frz0 {tb : Int} {S : dC} (I : SI S) {M : dM} (J : MI S tb M) (F : FZ S M) (hns : 0 < S 38 0 19) : FZ S (frz0 S M) := fun _ => by
  obtain ⟨⟨q1, q2⟩, q3⟩ := qpose_fits I J F hns
  have e21 : frz0 S M 21 = ((qpose S M).1 : Int) := rfl
  have ef : ∀ f, 22 ≤ f → frz0 S M f = putQ (qpose S M) M f := fun f hf => by rw [frz0_of, if_neg (by omega), if_neg (by omega), if_neg (by omega)]
  have h1 : 1 ≤ (qpose S M).1 := by
    rcases Nat.eq_zero_or_pos (qpose S M).1 with z | z
    · unfold qsum at q3
      rw [z] at q3
      have q4 : (0 : Int) = 1000000 := q3
      exact absurd q4 (by decide)
    · exact z
  rw [e21]
  refine ⟨by omega, fun k hk => ?_⟩
  have hk : k < (qpose S M).1 := by omega
  rw [ef _ (by omega), ef (23 + 3 * k) (by omega), putQ_c _ _ hk, putQ_t _ _ hk]
  have := q2 k hk
  exact ⟨this.2.1, this.2.2.2.1⟩
theorem FZ_frz {tb : Int} {S : dC} (I : SI S) {M : dM} (J : MI S tb M) (F : FZ S M) (hns : 0 < S 38 0 19) (l : Int) : FZ S (frz S M l) := by
  have h := FZ_frz0 I J F hns
  unfold frz
  split
  · intro z
    have e : ∀ f : Nat, 16 ≤ f → cpT (frz0 S M) f = frz0 S M f := fun f hf => by rw [cpT_of, if_neg (by omega)]
    rw [e 20 (by decide)] at z
    obtain ⟨f1, f2⟩ := h z
    rw [e 21 (by decide)]
    refine ⟨f1, fun k hk => ?_⟩
    rw [e _ (by omega), e (23 + 3 * k) (by omega)]
    exact f2 k hk
  · exact h
theorem FZ_goT {S : dC} {t : Nat} {M : dM} (F : FZ S M) : FZ S (goT S t M) := by
  unfold goT
  split
  · exact FZ.no (show (0 : Int) ≠ 1 by decide)
  · have e : ∀ f : Nat, 20 ≤ f → (um (um (um (goP S t M) 8 1) 9 (t : Int)) 10 0) f = M f := fun f hf => by
      rw [um_n _ _ (by omega), um_n _ _ (by omega), um_n _ _ (by omega), goP_off S t M (by omega)]
    intro z
    rw [e 20 (by decide)] at z
    obtain ⟨f1, f2⟩ := F z
    rw [e 21 (by decide)]
    refine ⟨f1, fun k hk => ?_⟩
    rw [e _ (by omega), e (23 + 3 * k) (by omega)]
    exact f2 k hk
theorem FZ_tak {tb : Int} {S : dC} (I : SI S) {M : dM} (J : MI S tb M) (F : FZ S M) (hns : 0 < S 38 0 19) : FZ S (tak S M) := by
  unfold tak
  cases hp : pick S M with
  | none => exact F
  | some u =>
    obtain ⟨t, l⟩ := u
    obtain ⟨p1, p2, p3⟩ := pick_in hp
    have ht : (t : Int) < S 38 0 21 := by unfold nT at p1; omega
    have J' := J.clr I ht
    have j4 := J.cu
    have j6 := J.fm
    have F' : FZ S (clr S t (cnN S t) M) := F.cong (by omega) (fun f h1 h2 => clr_off I ht M (by omega) _ (Nat.le_refl _))
    show FZ S (takM S (clr S t (cnN S t) M) t l)
    unfold takM
    refine FZ_goT ?_
    split
    · exact FZ_frz I J' F' hns l
    · exact FZ.no (show (0 : Int) ≠ 1 by decide)
theorem ntM_lo (M : dM) (tick id c s : Int) {f : Nat} (h : f < 166) : ntM M tick id c s f = M f := by
  have e : ntS M f = M f := by
    unfold ntS
    split
    · rw [um_n _ _ (by omega), if_neg (by omega)]
    · rfl
  unfold ntM
  rw [nt0_of, if_neg (by omega), if_neg (by omega), if_neg (by omega), if_neg (by omega), if_neg (by omega), if_neg (by omega), e]
theorem fiK_lo {S : dC} {s c : Nat} {before fresh after tick : Int} {M : dM} {f : Nat} (h : f < 166) : ∀ k : Nat, fiK S s before fresh after tick c k M f = M f
  | 0 => rfl
  | k + 1 => by
    unfold fiK
    split
    · rw [ntM_lo _ _ _ _ _ h, fiK_lo h k]
    · exact fiK_lo h k
theorem fiC_lo {S : dC} {T : Nat → Int} {s : Nat} {before fresh after tick : Int} {M : dM} {f : Nat} (h : f < 166) : ∀ c : Nat, fiC S T s before fresh after tick c M f = M f
  | 0 => rfl
  | c + 1 => by
    unfold fiC
    split
    · rw [fiK_lo h, fiC_lo h c]
    · exact fiC_lo h c
theorem fir_lo {S : dC} {s : Nat} {before fresh after share tick : Int} {M : dM} {f : Nat} (h : f < 166) : fir S s before fresh after share tick M f = M f := fiC_lo h _
theorem FZ_tkM {tb : Int} {S : dC} {M : dM} (J : MI S tb M) (F : FZ S M) : FZ S (tkM S M) := by
  have j4 := J.cu
  have j6 := J.fm
  unfold tkM
  split
  · rename_i h8
    refine FZ.no ?_
    unfold tkI
    rw [fir_lo (by decide), adv_off (by decide)]
    have := (J.id h8).2.1
    omega
  · have h1 : FZ S (tkF S M) := by
      unfold tkF
      split
      · exact FZ.no (show (0 : Int) ≠ 1 by decide)
      · exact F.cong (by omega) (fun f h1 h2 => tkE_off (by omega))
    have h2 : ∀ f : Nat, f < 166 → tkB S M f = tkF S M f := fun f hf => by
      unfold tkB
      rw [fir_lo hf]
      unfold tkA
      split
      · rw [fir_lo hf]
      · rfl
    intro z
    rw [h2 20 (by decide)] at z
    obtain ⟨f1, f2⟩ := h1 z
    have hm : tkF S M 21 ≤ 24 := by
      unfold tkF
      split
      · show (0 : Int) ≤ 24; decide
      · rw [tkE_off (by decide)]; omega
    rw [h2 21 (by decide)]
    refine ⟨f1, fun k hk => ?_⟩
    rw [h2 _ (by omega), h2 (23 + 3 * k) (by omega)]
    exact f2 k hk
theorem FZ_tck {tb : Int} {S : dC} (I : SI S) {M : dM} (J : MI S tb M) (F : FZ S M) (hns : 0 < S 38 0 19) : FZ S (tck S M) := by
  have j4 := J.cu
  have j6 := J.fm
  have J0 := MI_287 J (M 287 + 1)
  have F0 : FZ S (um M 287 (M 287 + 1)) := F.cong (by omega) (fun f h1 h2 => um_n _ _ (by omega))
  have J1 := MI_tak I J0 hns
  have F1 := FZ_tak I J0 F0 hns
  have J2 := MI_tak I J1 hns
  have F2 := FZ_tak I J1 F1 hns
  have J3 := MI_tak I J2 hns
  have F3 := FZ_tak I J2 F2 hns
  exact FZ_tkM (MI_tak I J3 hns) (FZ_tak I J3 F3 hns)
theorem FZ_tcks {S : dC} (I : SI S) (hns : 0 < S 38 0 19) : ∀ (n : Nat) (tb : Int) (M : dM), MI S tb M → FZ S M → FZ S (tcks S n M)
  | 0, _, _, _, F => F
  | n + 1, tb, M, J, F => FZ_tcks I hns n (tb + 1) (tck S M) (MI_tck I J hns) (FZ_tck I J F hns)
theorem tcks_add (S : dC) (b : Nat) : ∀ (a : Nat) (M : dM), tcks S (a + b) M = tcks S b (tcks S a M)
  | 0, M => by rw [Nat.zero_add]; rfl
  | a + 1, M => by
    rw [show a + 1 + b = a + b + 1 by omega]
    exact tcks_add S b a (tck S M)
theorem tcks_one (S : dC) (a : Nat) (M : dM) : tcks S (a + 1) M = tck S (tcks S a M) := tcks_add S 1 a M
/-- idle in a state -/
def idS (M : dM) (s : Int) : Prop := M 8 = 0 ∧ M 12 = s
theorem tto_in (S : dC) (s : Int) : ∀ (m : Nat) (k : Int) (M : dM), (tto S s m k M = -1 ∧ ∀ i : Nat, i < m → ¬ idS (tcks S i M) s) ∨ (∃ i : Nat, i < m ∧ tto S s m k M = k + i ∧ idS (tcks S i M) s ∧ ∀ j : Nat, j < i → ¬ idS (tcks S j M) s)
  | 0, k, M => Or.inl ⟨rfl, fun i hi => absurd hi (Nat.not_lt_zero i)⟩
  | m + 1, k, M => by
    unfold tto
    by_cases z : M 8 = 0 ∧ M 12 = s
    · rw [if_pos z]
      exact Or.inr ⟨0, Nat.succ_pos m, (Int.add_zero k).symm, z, fun j hj => absurd hj (Nat.not_lt_zero j)⟩
    · rw [if_neg z]
      rcases tto_in S s m (k + 1) (tck S M) with ⟨a1, a2⟩ | ⟨i, a1, a2, a3, a4⟩
      · refine Or.inl ⟨a1, fun i hi => ?_⟩
        cases i with
        | zero => exact z
        | succ i => exact a2 i (Nat.lt_of_succ_lt_succ hi)
      · refine Or.inr ⟨i + 1, Nat.succ_lt_succ a1, ?_, a3, fun j hj => ?_⟩
        · rw [a2]
          clear a2 a4 a3
          omega
        · cases j with
          | zero => exact z
          | succ j => exact a4 j (Nat.lt_of_succ_lt_succ hj)
/-- what is foretold of the first time is so, as long as it has not come -/
theorem tto_fits {S : dC} {s : Int} {M : dM} {n : Nat} (hn : n < 101) (h : tto S s 101 0 M < 0 ∨ (n : Int) ≤ tto S s 101 0 M) : idS (tcks S n M) s ↔ tto S s 101 0 M = (n : Int) := by
  rcases tto_in S s 101 0 M with ⟨a1, a2⟩ | ⟨i, a1, a2, a3, a4⟩
  · rw [a1]
    exact ⟨fun z => absurd z (a2 n hn), fun z => absurd z (by omega)⟩
  · rw [a2] at h ⊢
    refine ⟨fun z => ?_, fun z => ?_⟩
    · rcases Nat.lt_or_ge n i with e | e
      · exact absurd z (a4 n e)
      · clear a2 a3 a4 z
        omega
    · have e : n = i := by clear a2 a3 a4; omega
      rw [e]
      exact a3
