/-! ===== poses as numbers ===== -/
theorem fk_in (q : dQ) (c t : Int) : ∀ m k, k ≤ fk q c t m k ∧ fk q c t m k ≤ k + m
  | 0, k => by unfold fk; omega
  | m + 1, k => by
    unfold fk
    split
    · have := fk_in q c t m (k + 1); omega
    · omega
theorem fk_succ (q : dQ) (c t : Int) (m k : Nat) : fk q c t (m + 1) k = if q.2.1 k < c ∨ (q.2.1 k = c ∧ q.2.2.1 k < t) then fk q c t m (k + 1) else k := rfl
theorem fk_le (q : dQ) (c t : Int) : fk q c t q.1 0 ≤ q.1 := by have := fk_in q c t q.1 0; omega
theorem insF_sum (g : Nat → Int) (k : Nat) (x : Int) : ∀ n, k ≤ n → fb_si (insF g k x) (n + 1) = fb_si g n + x
  | 0, h => by
    have : k = 0 := by omega
    subst this
    rw [fb_si_succ]
    show (0 : Int) + insF g 0 x 0 = 0 + x
    unfold insF
    simp
  | n + 1, h => by
    rw [fb_si_succ]
    by_cases z : k = n + 1
    · subst z
      rw [show insF g (n + 1) x (n + 1) = x by unfold insF; simp]
      rw [fb_si_cong (g := g) fun i hi => by unfold insF; rw [if_pos hi]]
    · rw [insF_sum g k x n (by omega), fb_si_succ, show insF g k x (n + 1) = g n by unfold insF; rw [if_neg (by omega), if_neg (by omega)]; rfl]
      omega
def qsum (q : dQ) : Int := fb_si q.2.2.2 q.1
theorem qadd_sum (q : dQ) (c t w : Int) : qsum (qadd q c t w) = qsum q + w := by
  have hk := fk_le q c t
  unfold qadd
  split
  · rename_i h
    unfold qsum
    have h1 := fb_si_upd q.2.2.2 (q.2.2.2 (fk q c t q.1 0) + w) h.1
    have h2 : (fun i => if i = fk q c t q.1 0 then q.2.2.2 i + w else q.2.2.2 i) = fun i => if i = fk q c t q.1 0 then q.2.2.2 (fk q c t q.1 0) + w else q.2.2.2 i := funext fun i => by split <;> simp_all
    show fb_si (fun i => if i = fk q c t q.1 0 then q.2.2.2 i + w else q.2.2.2 i) q.1 = _
    rw [h2, h1]
    omega
  · exact insF_sum _ _ _ _ hk
/-- entries as they must be -/
def qok (q : dQ) : Prop := ∀ i : Nat, i < q.1 → 0 ≤ q.2.1 i ∧ q.2.1 i < 12 ∧ 0 ≤ q.2.2.1 i ∧ q.2.2.1 i < 500 ∧ 0 < q.2.2.2 i
theorem q0_ok : qok q0 := fun i hi => absurd hi (Nat.not_lt_zero i)
theorem qadd_ok {q : dQ} {c t w : Int} (h : qok q) (hc : 0 ≤ c ∧ c < 12) (ht : 0 ≤ t ∧ t < 500) (hw : 0 < w) : qok (qadd q c t w) := by
  have hk := fk_le q c t
  intro i hi
  unfold qadd at hi ⊢
  split
  · rename_i z
    rw [if_pos z] at hi
    obtain ⟨a1, a2, a3, a4, a5⟩ := h i hi
    refine ⟨a1, a2, a3, a4, ?_⟩
    show 0 < if i = fk q c t q.1 0 then q.2.2.2 i + w else q.2.2.2 i
    split <;> omega
  · rename_i z
    rw [if_neg z] at hi
    replace hi : i < q.1 + 1 := hi
    show 0 ≤ insF q.2.1 _ c i ∧ insF q.2.1 _ c i < 12 ∧ 0 ≤ insF q.2.2.1 _ t i ∧ insF q.2.2.1 _ t i < 500 ∧ 0 < insF q.2.2.2 _ w i
    unfold insF
    by_cases z1 : i < fk q c t q.1 0
    · simp only [z1, if_true]; exact h i (by omega)
    · by_cases z2 : i = fk q c t q.1 0
      · simp only [z2, Nat.lt_irrefl, if_true, if_false]; omega
      · simp only [z1, z2, if_false]; exact h (i - 1) (by omega)
theorem qadd_many (q : dQ) (c t w : Int) : q.1 ≤ (qadd q c t w).1 ∧ (qadd q c t w).1 ≤ q.1 + 1 := by
  unfold qadd
  split
  · exact ⟨Nat.le_refl _, Nat.le_succ _⟩
  · exact ⟨Nat.le_succ _, Nat.le_refl _⟩
theorem tmS_in {S : dC} (I : SI S) (M : dM) {t c : Nat} (hc : (c : Int) < S 38 0 8) (hp : 0 ≤ M (t + 2)) : 0 ≤ tmS S M t c ∧ tmS S M t c < 500 ∧ tmS S M t c ≤ S 44 0 c - 1 := by
  have h1 := I.cl c hc
  have h2 : 0 ≤ M (t + 2) * S 44 0 c := Int.mul_nonneg hp (by omega)
  unfold tmS
  split <;> omega
/-- what a track adds to a pose -/
theorem qtrk_in {S : dC} (I : SI S) (M : dM) {t : Nat} {w : Int} {q : dQ} (hs : 0 ≤ M t ∧ M t < S 38 0 19) (hp : 0 ≤ M (t + 2)) (hw : 0 ≤ w) (hq : qok q) : ∀ n : Nat, (n : Int) ≤ S 38 0 8 → qok (qtrk S M t w n q) ∧ qsum (qtrk S M t w n q) = qsum q + fb_si (bw S M (M t).toNat w) n ∧ q.1 ≤ (qtrk S M t w n q).1 ∧ (qtrk S M t w n q).1 ≤ q.1 + fb_ct (fun c => decide (bw S M (M t).toNat w c ≠ 0)) n
  | 0, _ => ⟨hq, (Int.add_zero _).symm, Nat.le_refl _, Nat.le_refl _⟩
  | n + 1, hn => by
    obtain ⟨a1, a2, a3, a4⟩ := qtrk_in I M hs hp hw hq n (by omega)
    have i1 := I.nc
    have b := (bw_in I M (s := (M t).toNat) (w := w) n (by omega) hw).1
    unfold qtrk
    rw [fb_si_succ, fb_ct_succ]
    split
    · have : bw S M (M t).toNat w n = 0 := by omega
      rw [this]
      refine ⟨a1, by omega, a3, ?_⟩
      generalize fb_ct (fun c => decide (bw S M (M t).toNat w c ≠ 0)) n = y at *
      split <;> omega
    · have ht := tmS_in I M (t := t) (c := n) (by omega) hp
      have hm := qadd_many (qtrk S M t w n q) (n : Int) (tmS S M t n) (bw S M (M t).toNat w n)
      refine ⟨qadd_ok a1 (by omega) ⟨ht.1, ht.2.1⟩ (by omega), by rw [qadd_sum, a2]; omega, by omega, ?_⟩
      have hd : decide (bw S M (M t).toNat w n ≠ 0) = true := decide_eq_true (by omega)
      rw [hd, if_pos rfl]
      generalize fb_ct (fun c => decide (bw S M (M t).toNat w c ≠ 0)) n = y at *
      omega
theorem up3_n67 (C : dC) {j : Nat} (i f : Nat) (v : Int) (h : ¬ 67 = j) : up3 C j i f v 67 0 = C 67 0 := up3_off C v fun z => h z.1
section AE
variable {h : gH} {A : dA} {N zz : Nat → Nat} {S C C0 : dC} {P : dP} {M : dM}
/-- the columns of a pose while an entry is put in: below x as they were, above x moved up by one -/
def pzS (C : dC) (q : dQ) (x : Nat) : Prop := C 38 0 40 = (q.1 : Int) ∧ (∀ i : Nat, i < x → C 77 0 i = q.2.1 i ∧ C 78 0 i = q.2.2.1 i ∧ C 79 0 i = q.2.2.2 i) ∧ (∀ i : Nat, x < i → i ≤ q.1 → C 77 0 i = q.2.1 (i - 1) ∧ C 78 0 i = q.2.2.1 (i - 1) ∧ C 79 0 i = q.2.2.2 (i - 1))
end AE
/-! ===== the reference: its present pose ===== -/
section PO
variable {h : gH} {A : dA} {N zz : Nat → Nat} {S C C0 : dC} {P : dP} {M : dM}
/-- small poses: few entries, weights within bounds -/
def qsm (q : dQ) (n : Nat) (b : Int) : Prop := q.1 ≤ n ∧ qok q ∧ ∀ i : Nat, i < q.1 → q.2.2.2 i ≤ b
theorem qsm_add {q : dQ} {n : Nat} {b c t w : Int} (wb : Int) (h : qsm q n b) (hc : 0 ≤ c ∧ c < 12) (ht : 0 ≤ t ∧ t < 500) (hw : 0 < w ∧ w ≤ wb) (hb : 0 ≤ b) : qsm (qadd q c t w) (n + 1) (b + wb) := by
  have hm := qadd_many q c t w
  refine ⟨by have := h.1; omega, qadd_ok h.2.1 hc ht hw.1, fun i hi => ?_⟩
  unfold qadd at hi ⊢
  split
  · rename_i z
    rw [if_pos z] at hi
    have := h.2.2 i hi
    show (if i = fk q c t q.1 0 then q.2.2.2 i + w else q.2.2.2 i) ≤ _
    split <;> omega
  · rename_i z
    rw [if_neg z] at hi
    replace hi : i < q.1 + 1 := hi
    have hk := fk_le q c t
    show insF q.2.2.2 _ w i ≤ _
    unfold insF
    by_cases z1 : i < fk q c t q.1 0
    · simp only [z1, if_true]; have := h.2.2 i (by omega); omega
    · by_cases z2 : i = fk q c t q.1 0
      · simp only [z2, Nat.lt_irrefl, if_true, if_false]; omega
      · simp only [z1, z2, if_false]; have := h.2.2 (i - 1) (by omega); omega
theorem qsm_more {q : dQ} {n m : Nat} {b d : Int} (h : qsm q n b) (hn : n ≤ m) (hb : b ≤ d) : qsm q m d := ⟨by have := h.1; omega, h.2.1, fun i hi => by have := h.2.2 i hi; omega⟩
/-! frozen poses -/
theorem qmis_succ (M : dM) (w : Int) (n : Nat) : qmis M w (n + 1) = qmis M w n - M (24 + 3 * n) * w / 1000000 := by
  unfold qmis
  rw [fb_si_succ]
  omega
theorem fz_w {m w : Int} (hm : 0 < m ∧ m ≤ 1000000) (hw : 0 ≤ w ∧ w ≤ 1000000) : 0 ≤ m * w ∧ m * w ≤ 1000000000000 ∧ 0 ≤ m * w / 1000000 ∧ m * w / 1000000 ≤ w := by
  have h1 : 0 ≤ m * w := Int.mul_nonneg (by omega) hw.1
  have h2 : m * w ≤ 1000000 * w := Int.mul_le_mul_of_nonneg_right hm.2 hw.1
  omega
theorem qmis_lo {M : dM} {w : Int} (hw : 0 ≤ w ∧ w ≤ 1000000) : ∀ n : Nat, (∀ k : Nat, k < n → 0 < M (24 + 3 * k) ∧ M (24 + 3 * k) ≤ 1000000) → w - (n : Int) * 1000000 ≤ qmis M w n ∧ qmis M w n ≤ w
  | 0, _ => by show w - 0 * 1000000 ≤ w - 0 ∧ w - 0 ≤ w; omega
  | n + 1, h => by
    have h1 := qmis_lo hw n fun k hk => h k (by omega)
    have h2 := fz_w (h n (by omega)) hw
    rw [qmis_succ]
    omega
theorem qsm_0 : qsm q0 0 0 := ⟨Nat.le_refl _, q0_ok, fun i hi => absurd hi (Nat.not_lt_zero i)⟩
end PO
