/-! ===== the reference: lengths, steps, tracks ===== -/
/-- the state of a run: the table, what was added, what may have been written since C0, the machine's numbers -/
def RQ (h : gH) (A : dA) (N zz : Nat → Nat) (P : dP) (S C0 C : dC) (M : dM) : Prop := D h A N zz C P ∧ St S C ∧ Fr C0 C ∧ C 40 0 = M
theorem up3_n40 (C : dC) {j : Nat} (i f : Nat) (v : Int) (h : ¬ 40 = j) : up3 C j i f v 40 0 = C 40 0 := up3_off C v fun z => h z.1
def MI (S : dC) (tb : Int) (M : dM) : Prop := (∀ p : Nat, p < 8 → -100 ≤ M p ∧ M p ≤ 100) ∧ (M 8 = 0 ∨ M 8 = 1) ∧ (0 ≤ M 11 ∧ M 11 ≤ 2) ∧ (0 ≤ M 12 ∧ (0 < S 38 0 19 → M 12 < S 38 0 19) ∧ (S 38 0 19 = 0 → M 8 = 0 ∧ M 12 = 0)) ∧ (0 ≤ M 13 ∧ 0 ≤ M 14 ∧ M 14 ≤ 1000000 ∧ prg M 12 ≤ 4000000 * tb + 1000000) ∧ (S 57 0 (M 12).toNat = 0 → M 13 = 0) ∧ (M 15 = 0 ∨ M 15 = 1) ∧ (M 20 = 0 ∨ M 20 = 1) ∧ (M 8 = 0 → M 11 = 0 ∧ M 20 = 0 ∧ M 21 = 0) ∧ (M 8 = 1 → 0 ≤ M 9 ∧ M 9 < S 38 0 21) ∧ (M 8 = 1 → 0 ≤ M 10 ∧ M 10 < durS S (M 9).toNat) ∧ (M 8 = 1 → 0 ≤ M 16 ∧ M 16 < S 38 0 19) ∧ (M 8 = 1 → 0 ≤ M 17 ∧ 0 ≤ M 18 ∧ M 18 ≤ 1000000 ∧ prg M 16 ≤ 4000000 * tb + 1000000) ∧ (M 8 = 1 → S 57 0 (M 16).toNat = 0 → M 17 = 0) ∧ (M 8 = 1 → (M 19 = 0 ∨ M 19 = 1)) ∧ (0 ≤ M 21 ∧ M 21 ≤ 8 * (M 11 + 1)) ∧ (∀ k : Nat, (k : Int) < M 21 → 0 ≤ M (22 + 3 * k) ∧ M (22 + 3 * k) < 12 ∧ 0 ≤ M (23 + 3 * k) ∧ M (23 + 3 * k) < 500 ∧ 0 < M (24 + 3 * k) ∧ M (24 + 3 * k) ≤ 1000000) ∧ (M 20 = 1 → fb_si (fun k => M (24 + 3 * k)) (M 21).toNat ≤ 1000000) ∧ (0 ≤ M 166 ∧ M 166 ≤ 30 ∧ (M 288 ≤ 30 → M 166 = M 288) ∧ (30 ≤ M 288 → M 166 = 30)) ∧ (0 ≤ M 288 ∧ M 288 ≤ 120 * tb) ∧ (0 ≤ tb)
theorem MI.va {S : dC} {tb : Int} {M : dM} (I : MI S tb M) : ∀ p : Nat, p < 8 → -100 ≤ M p ∧ M p ≤ 100 := I.1
theorem MI.mi {S : dC} {tb : Int} {M : dM} (I : MI S tb M) : M 8 = 0 ∨ M 8 = 1 := I.2.1
theorem MI.cu {S : dC} {tb : Int} {M : dM} (I : MI S tb M) : 0 ≤ M 11 ∧ M 11 ≤ 2 := I.2.2.1
theorem MI.sa {S : dC} {tb : Int} {M : dM} (I : MI S tb M) : 0 ≤ M 12 ∧ (0 < S 38 0 19 → M 12 < S 38 0 19) ∧ (S 38 0 19 = 0 → M 8 = 0 ∧ M 12 = 0) := I.2.2.2.1
theorem MI.ca {S : dC} {tb : Int} {M : dM} (I : MI S tb M) : 0 ≤ M 13 ∧ 0 ≤ M 14 ∧ M 14 ≤ 1000000 ∧ prg M 12 ≤ 4000000 * tb + 1000000 := I.2.2.2.2.1
theorem MI.la {S : dC} {tb : Int} {M : dM} (I : MI S tb M) : S 57 0 (M 12).toNat = 0 → M 13 = 0 := I.2.2.2.2.2.1
theorem MI.fa {S : dC} {tb : Int} {M : dM} (I : MI S tb M) : M 15 = 0 ∨ M 15 = 1 := I.2.2.2.2.2.2.1
theorem MI.fz {S : dC} {tb : Int} {M : dM} (I : MI S tb M) : M 20 = 0 ∨ M 20 = 1 := I.2.2.2.2.2.2.2.1
theorem MI.id {S : dC} {tb : Int} {M : dM} (I : MI S tb M) : M 8 = 0 → M 11 = 0 ∧ M 20 = 0 ∧ M 21 = 0 := I.2.2.2.2.2.2.2.2.1
theorem MI.xx {S : dC} {tb : Int} {M : dM} (I : MI S tb M) : M 8 = 1 → 0 ≤ M 9 ∧ M 9 < S 38 0 21 := I.2.2.2.2.2.2.2.2.2.1
theorem MI.el {S : dC} {tb : Int} {M : dM} (I : MI S tb M) : M 8 = 1 → 0 ≤ M 10 ∧ M 10 < durS S (M 9).toNat := I.2.2.2.2.2.2.2.2.2.2.1
theorem MI.sb {S : dC} {tb : Int} {M : dM} (I : MI S tb M) : M 8 = 1 → 0 ≤ M 16 ∧ M 16 < S 38 0 19 := I.2.2.2.2.2.2.2.2.2.2.2.1
theorem MI.cb {S : dC} {tb : Int} {M : dM} (I : MI S tb M) : M 8 = 1 → 0 ≤ M 17 ∧ 0 ≤ M 18 ∧ M 18 ≤ 1000000 ∧ prg M 16 ≤ 4000000 * tb + 1000000 := I.2.2.2.2.2.2.2.2.2.2.2.2.1
theorem MI.lb {S : dC} {tb : Int} {M : dM} (I : MI S tb M) : M 8 = 1 → S 57 0 (M 16).toNat = 0 → M 17 = 0 := I.2.2.2.2.2.2.2.2.2.2.2.2.2.1
theorem MI.fb {S : dC} {tb : Int} {M : dM} (I : MI S tb M) : M 8 = 1 → (M 19 = 0 ∨ M 19 = 1) := I.2.2.2.2.2.2.2.2.2.2.2.2.2.2.1
theorem MI.fm {S : dC} {tb : Int} {M : dM} (I : MI S tb M) : 0 ≤ M 21 ∧ M 21 ≤ 8 * (M 11 + 1) := I.2.2.2.2.2.2.2.2.2.2.2.2.2.2.2.1
theorem MI.fe {S : dC} {tb : Int} {M : dM} (I : MI S tb M) : ∀ k : Nat, (k : Int) < M 21 → 0 ≤ M (22 + 3 * k) ∧ M (22 + 3 * k) < 12 ∧ 0 ≤ M (23 + 3 * k) ∧ M (23 + 3 * k) < 500 ∧ 0 < M (24 + 3 * k) ∧ M (24 + 3 * k) ≤ 1000000 := I.2.2.2.2.2.2.2.2.2.2.2.2.2.2.2.2.1
theorem MI.fs {S : dC} {tb : Int} {M : dM} (I : MI S tb M) : M 20 = 1 → fb_si (fun k => M (24 + 3 * k)) (M 21).toNat ≤ 1000000 := I.2.2.2.2.2.2.2.2.2.2.2.2.2.2.2.2.2.1
theorem MI.ev {S : dC} {tb : Int} {M : dM} (I : MI S tb M) : 0 ≤ M 166 ∧ M 166 ≤ 30 ∧ (M 288 ≤ 30 → M 166 = M 288) ∧ (30 ≤ M 288 → M 166 = 30) := I.2.2.2.2.2.2.2.2.2.2.2.2.2.2.2.2.2.2.1
theorem MI.fi {S : dC} {tb : Int} {M : dM} (I : MI S tb M) : 0 ≤ M 288 ∧ M 288 ≤ 120 * tb := I.2.2.2.2.2.2.2.2.2.2.2.2.2.2.2.2.2.2.2.1
theorem MI.tk {S : dC} {tb : Int} {M : dM} (I : MI S tb M) : 0 ≤ tb := I.2.2.2.2.2.2.2.2.2.2.2.2.2.2.2.2.2.2.2.2
theorem fb_si_pos {f : Nat → Int} : ∀ {n : Nat}, (∀ k, k < n → 0 ≤ f k) → 0 ≤ fb_si f n
  | 0, _ => Int.le_refl _
  | n + 1, h => by
    have h1 := fb_si_pos (f := f) (n := n) fun k hk => h k (by omega)
    have h2 := h n (by omega)
    rw [fb_si_succ]; omega
theorem fb_si_mulle {f g : Nat → Int} {b : Int} : ∀ {n : Nat}, (∀ k, k < n → 0 ≤ f k ∧ 0 ≤ g k ∧ g k ≤ b) → 0 ≤ fb_si (fun k => f k * g k) n ∧ fb_si (fun k => f k * g k) n ≤ b * fb_si f n
  | 0, _ => by show 0 ≤ (0 : Int) ∧ (0 : Int) ≤ b * 0; omega
  | n + 1, h => by
    have h1 := fb_si_mulle (f := f) (g := g) (b := b) (n := n) fun k hk => h k (by omega)
    obtain ⟨a1, a2, a3⟩ := h n (by omega)
    rw [fb_si_succ, fb_si_succ, Int.mul_add]
    have h2 := Int.mul_nonneg a1 a2
    have h3 : f n * g n ≤ b * f n := by rw [Int.mul_comm b]; exact Int.mul_le_mul_of_nonneg_left a3 a1
    omega
theorem bw_in {S : dC} (I : SI S) (M : dM) {s : Nat} {w : Int} (c : Nat) (hs : (s : Int) < S 38 0 19) (hw : 0 ≤ w) : 0 ≤ bw S M s w c ∧ bw S M s w c ≤ w := bl_in I M 4 _ w c (by have := I.mo s hs; omega) hw
theorem bw_sum {S : dC} (I : SI S) (M : dM) {s : Nat} {w : Int} (m : Nat) (hs : (s : Int) < S 38 0 19) (hw : 0 ≤ w) : fb_si (bw S M s w) m ≤ w := bl_sum I M 4 _ w m (by have := I.mo s hs; omega) hw
theorem lsum_in {S : dC} (I : SI S) (M : dM) {s n : Nat} (hs : (s : Int) < S 38 0 19) (hn : (n : Int) ≤ S 38 0 8) : 0 ≤ lsum S M s n ∧ lsum S M s n ≤ 500000000 := by
  unfold lsum
  have h1 := fb_si_mulle (f := fun c => bw S M s 1000000 c) (g := fun c => S 44 0 c) (b := 500) (n := n) fun k hk => by
    have := I.cl k (by omega)
    exact ⟨(bw_in I M k hs (by decide)).1, by omega, by omega⟩
  have h2 := bw_sum I M (s := s) (w := 1000000) n hs (by decide)
  have h3 : fb_si (fun c => bw S M s 1000000 c) n = fb_si (bw S M s 1000000) n := rfl
  omega
theorem lenS_in {S : dC} (I : SI S) (M : dM) {s : Nat} (hs : (s : Int) < S 38 0 19) : 1 ≤ lenS S M s ∧ lenS S M s ≤ 500 := by
  have h1 := lsum_in I M (n := nC S) hs (by have := I.nc; unfold nC; omega)
  unfold lenS
  split <;> omega
section L1
variable {h : gH} {A : dA} {N zz : Nat → Nat} {S C C0 : dC} {P : dP} {M : dM}
/-- the step of a track -/
theorem stp_in {S : dC} (I : SI S) (M : dM) {t : Nat} (h : 0 ≤ M t ∧ M t < S 38 0 19) : 0 ≤ stp S M t ∧ stp S M t ≤ 4000000 := by
  have h1 := lenS_in I M (s := (M t).toNat) (by omega)
  have h2 := I.sp (M t).toNat (by omega)
  unfold stp
  refine ⟨Int.ediv_nonneg (by omega) (by omega), ?_⟩
  exact Int.ediv_le_of_le_mul (by omega) (by omega)
/-- what an advance leaves -/
theorem adv_in {S : dC} {M : dM} {t : Nat} {x b : Int} (hx : 0 ≤ x ∧ x ≤ 4000000) (h1 : 0 ≤ M (t + 1)) (h2 : 0 ≤ M (t + 2) ∧ M (t + 2) ≤ 1000000) (hp : prg M t ≤ b) (hb : 1000000 ≤ b) (hl : S 57 0 (M t).toNat = 0 → M (t + 1) = 0) : adv S M t x t = M t ∧ 0 ≤ adv S M t x (t + 1) ∧ 0 ≤ adv S M t x (t + 2) ∧ adv S M t x (t + 2) ≤ 1000000 ∧ prg (adv S M t x) t ≤ b + 4000000 ∧ adv S M t x (t + 3) = 0 ∧ (S 57 0 (M t).toNat = 0 → adv S M t x (t + 1) = 0) := by
  unfold adv
  by_cases hz : S 57 0 (M t).toNat = 0
  · have h3 := hl hz
    rw [if_pos hz]
    unfold advN prg um
    simp only [show ¬ t = t + 3 by omega, show ¬ t = t + 2 by omega, show ¬ t + 1 = t + 3 by omega, show ¬ t + 1 = t + 2 by omega, show ¬ t + 2 = t + 3 by omega, if_true, if_false]
    refine ⟨True.intro, h1, ?_, ?_, ?_, True.intro, fun _ => h3⟩ <;> (split <;> omega)
  · rw [if_neg hz]
    have hprg : prg M t = M (t + 1) * 1000000 + M (t + 2) := rfl
    unfold advL um
    generalize prg M t = p at *
    simp only [show ¬ t = t + 3 by omega, show ¬ t = t + 2 by omega, show ¬ t = t + 1 by omega, show ¬ t + 1 = t + 3 by omega, show ¬ t + 1 = t + 2 by omega, show ¬ t + 2 = t + 3 by omega, if_true, if_false]
    have e : prg (fun f => if f = t + 3 then 0 else if f = t + 2 then (p + x) % 1000000 else if f = t + 1 then (p + x) / 1000000 else M f) t = p + x := by
      conv => lhs; unfold prg
      simp only [show ¬ t + 1 = t + 3 by omega, show ¬ t + 1 = t + 2 by omega, show ¬ t + 2 = t + 3 by omega, if_true, if_false]
      omega
    rw [e]
    have h4 : 0 ≤ p := by omega
    exact ⟨True.intro, by omega, by omega, by omega, by omega, True.intro, fun z => absurd z hz⟩
theorem adv_off {S : dC} {M : dM} {t f : Nat} {x : Int} (h : f ≠ t + 1 ∧ f ≠ t + 2 ∧ f ≠ t + 3) : adv S M t x f = M f := by
  unfold adv
  rw [um_n _ _ h.2.2]
  split
  · exact um_n _ _ h.2.1
  · unfold advL
    rw [um_n _ _ h.2.1, um_n _ _ h.1]
theorem shr_in {S : dC} {M : dM} (h : 0 ≤ M 10 ∧ M 10 ≤ durS S (M 9).toNat) (hd : 0 < durS S (M 9).toNat) : 0 ≤ shr S M ∧ shr S M ≤ 1000000 := by
  unfold shr
  exact ⟨Int.ediv_nonneg (by omega) (by omega), Int.ediv_le_of_le_mul hd (by omega)⟩
end L1
