/-! ===== blends: what the parts of a node are ===== -/
def isBel (S : dC) (n : Nat) (v : Int) (k : Nat) : Prop := (k : Int) < S 51 0 n ∧ S 53 0 (5 * n + k) ≤ v ∧ ∀ l : Nat, (l : Int) < S 51 0 n → S 53 0 (5 * n + l) ≤ v → S 53 0 (5 * n + l) ≤ S 53 0 (5 * n + k)
def isAbo (S : dC) (n : Nat) (v : Int) (k : Nat) : Prop := (k : Int) < S 51 0 n ∧ v ≤ S 53 0 (5 * n + k) ∧ ∀ l : Nat, (l : Int) < S 51 0 n → v ≤ S 53 0 (5 * n + l) → S 53 0 (5 * n + k) ≤ S 53 0 (5 * n + l)
noncomputable def belK (S : dC) (n : Nat) (v : Int) : Option Nat := (Classical.propDecidable (∃ k, isBel S n v k)).byCases (fun h => some (Classical.choose h)) (fun _ => none)
noncomputable def aboK (S : dC) (n : Nat) (v : Int) : Option Nat := (Classical.propDecidable (∃ k, isAbo S n v k)).byCases (fun h => some (Classical.choose h)) (fun _ => none)
theorem belK_of {S : dC} (I : SI S) {n : Nat} {v : Int} {k : Nat} (hn : (n : Int) < S 38 0 14) (h : isBel S n v k) : belK S n v = some k := by
  unfold belK
  cases hd : Classical.propDecidable (∃ k, isBel S n v k) with
  | isFalse z => exact absurd ⟨k, h⟩ z
  | isTrue z =>
    show some (Classical.choose z) = some k
    have h2 := Classical.choose_spec z
    generalize Classical.choose z = m at h2
    have e : S 53 0 (5 * n + m) = S 53 0 (5 * n + k) := by
      have q1 := h.2.2 m h2.1 h2.2.1
      have q2 := h2.2.2 k h.1 h.2.1
      omega
    rw [I.cd n m k hn h2.1 h.1 e]
theorem belK_no {S : dC} {n : Nat} {v : Int} (h : ∀ k : Nat, (k : Int) < S 51 0 n → v < S 53 0 (5 * n + k)) : belK S n v = none := by
  unfold belK
  cases hd : Classical.propDecidable (∃ k, isBel S n v k) with
  | isFalse z => rfl
  | isTrue z =>
    obtain ⟨k, h1, h2, h3⟩ := z
    have := h k h1
    omega
theorem aboK_of {S : dC} (I : SI S) {n : Nat} {v : Int} {k : Nat} (hn : (n : Int) < S 38 0 14) (h : isAbo S n v k) : aboK S n v = some k := by
  unfold aboK
  cases hd : Classical.propDecidable (∃ k, isAbo S n v k) with
  | isFalse z => exact absurd ⟨k, h⟩ z
  | isTrue z =>
    show some (Classical.choose z) = some k
    have h2 := Classical.choose_spec z
    generalize Classical.choose z = m at h2
    have e : S 53 0 (5 * n + m) = S 53 0 (5 * n + k) := by
      have q1 := h.2.2 m h2.1 h2.2.1
      have q2 := h2.2.2 k h.1 h.2.1
      omega
    rw [I.cd n m k hn h2.1 h.1 e]
theorem aboK_no {S : dC} {n : Nat} {v : Int} (h : ∀ k : Nat, (k : Int) < S 51 0 n → S 53 0 (5 * n + k) < v) : aboK S n v = none := by
  unfold aboK
  cases hd : Classical.propDecidable (∃ k, isAbo S n v k) with
  | isFalse z => rfl
  | isTrue z =>
    obtain ⟨k, h1, h2, h3⟩ := z
    have := h k h1
    omega
theorem belK_some {S : dC} {n : Nat} {v : Int} {k : Nat} (h : belK S n v = some k) : isBel S n v k := by
  unfold belK at h
  cases hd : Classical.propDecidable (∃ k, isBel S n v k) with
  | isFalse z => rw [hd] at h; cases h
  | isTrue z =>
    rw [hd] at h
    replace h : some (Classical.choose z) = some k := h
    cases h
    exact Classical.choose_spec z
theorem aboK_some {S : dC} {n : Nat} {v : Int} {k : Nat} (h : aboK S n v = some k) : isAbo S n v k := by
  unfold aboK at h
  cases hd : Classical.propDecidable (∃ k, isAbo S n v k) with
  | isFalse z => rw [hd] at h; cases h
  | isTrue z =>
    rw [hd] at h
    replace h : some (Classical.choose z) = some k := h
    cases h
    exact Classical.choose_spec z
/-- a child's node -/
def chN (S : dC) (n k : Nat) : Nat := (S 52 0 (5 * n + k)).toNat
/-- the weight of the upper of two children -/
def upW (S : dC) (n b a : Nat) (v w : Int) : Int := w * (v - S 53 0 (5 * n + b)) / (S 53 0 (5 * n + a) - S 53 0 (5 * n + b))
/-- the parts of a node's blend: how much of a clip -/
noncomputable def bl (S : dC) (V : Nat → Int) : Nat → Nat → Int → Nat → Int
  | 0, _, _, _ => 0
  | d + 1, n, w, c => if w ≤ 0 then 0 else if S 49 0 n ≠ -1 then (if (c : Int) = S 49 0 n then w else 0) else
    match belK S n (V (S 50 0 n).toNat), aboK S n (V (S 50 0 n).toNat) with
    | none, none => 0
    | none, some a => bl S V d (chN S n a) w c
    | some b, none => bl S V d (chN S n b) w c
    | some b, some a => if b = a then bl S V d (chN S n b) w c else bl S V d (chN S n a) (upW S n b a (V (S 50 0 n).toNat) w) c + bl S V d (chN S n b) (w - upW S n b a (V (S 50 0 n).toNat) w) c
theorem bl_z (S : dC) (V : Nat → Int) (d n : Nat) {w : Int} (c : Nat) (h : w ≤ 0) : bl S V d n w c = 0 := by
  cases d with
  | zero => rfl
  | succ d => unfold bl; rw [if_pos h]
/-- the upper weight stays within the weight -/
theorem upW_in {S : dC} {n b a : Nat} {v w : Int} (hw : 0 ≤ w) (hb : S 53 0 (5 * n + b) ≤ v) (ha : v ≤ S 53 0 (5 * n + a)) (hne : S 53 0 (5 * n + b) ≠ S 53 0 (5 * n + a)) : 0 ≤ upW S n b a v w ∧ upW S n b a v w ≤ w := by
  unfold upW
  have h1 : 0 < S 53 0 (5 * n + a) - S 53 0 (5 * n + b) := by omega
  refine ⟨Int.ediv_nonneg (Int.mul_nonneg hw (by omega)) (by omega), ?_⟩
  have h2 : w * (v - S 53 0 (5 * n + b)) ≤ w * (S 53 0 (5 * n + a) - S 53 0 (5 * n + b)) := Int.mul_le_mul_of_nonneg_left (by omega) hw
  have h3 := Int.ediv_le_ediv h1 h2
  rw [Int.mul_ediv_cancel _ (by omega)] at h3
  exact h3
/-- the pair of children between which the value lies -/
theorem bel_abo {S : dC} (I : SI S) {n : Nat} {v : Int} {a b : Nat} (hn : (n : Int) < S 38 0 14) (hb : belK S n v = some b) (ha : aboK S n v = some a) (hne : b ≠ a) : S 53 0 (5 * n + b) ≤ v ∧ v ≤ S 53 0 (5 * n + a) ∧ S 53 0 (5 * n + b) ≠ S 53 0 (5 * n + a) := by
  have h1 := belK_some hb
  have h2 := aboK_some ha
  exact ⟨h1.2.1, h2.2.1, fun z => hne (I.cd n b a hn h1.1 h2.1 z)⟩
theorem bl_in {S : dC} (I : SI S) (V : Nat → Int) : ∀ (d n : Nat) (w : Int) (c : Nat), (n : Int) < S 38 0 14 → 0 ≤ w → 0 ≤ bl S V d n w c ∧ bl S V d n w c ≤ w
  | 0, n, w, c, hn, hw => ⟨by unfold bl; omega, by unfold bl; omega⟩
  | d + 1, n, w, c, hn, hw => by
    have hc : ∀ k : Nat, (k : Int) < S 51 0 n → ((chN S n k : Nat) : Int) < S 38 0 14 := fun k hk => by
      have := I.cn n k hn hk
      unfold chN
      omega
    unfold bl
    split
    · omega
    split
    · split <;> omega
    split
    · omega
    · rename_i a h1 h2
      exact bl_in I V d _ w c (hc a (aboK_some h2).1) hw
    · rename_i b h1 h2
      exact bl_in I V d _ w c (hc b (belK_some h1).1) hw
    · rename_i b a h1 h2
      split
      · exact bl_in I V d _ w c (hc b (belK_some h1).1) hw
      · rename_i hne
        obtain ⟨q1, q2, q3⟩ := bel_abo I hn h1 h2 hne
        obtain ⟨r1, r2⟩ := upW_in hw q1 q2 q3
        have s1 := bl_in I V d (chN S n a) (upW S n b a (V (S 50 0 n).toNat) w) c (hc a (aboK_some h2).1) r1
        have s2 := bl_in I V d (chN S n b) (w - upW S n b a (V (S 50 0 n).toNat) w) c (hc b (belK_some h1).1) (by omega)
        omega
/-- the parts sum to no more than the weight -/
theorem bl_sum {S : dC} (I : SI S) (V : Nat → Int) : ∀ (d n : Nat) (w : Int) (m : Nat), (n : Int) < S 38 0 14 → 0 ≤ w → fb_si (fun c => bl S V d n w c) m ≤ w
  | 0, n, w, m, hn, hw => by
    have : fb_si (fun c => bl S V 0 n w c) m = 0 := by
      have h1 : (fun c : Nat => bl S V 0 n w c) = fun _ => 0 := rfl
      rw [h1]
      induction m with
      | zero => rfl
      | succ m ih => rw [fb_si_succ, ih]; rfl
    omega
  | d + 1, n, w, m, hn, hw => by
    have hc : ∀ k : Nat, (k : Int) < S 51 0 n → ((chN S n k : Nat) : Int) < S 38 0 14 := fun k hk => by
      have := I.cn n k hn hk
      unfold chN
      omega
    have z0 : ∀ m, fb_si (fun _ => (0 : Int)) m = 0 := fun m => by
      induction m with
      | zero => rfl
      | succ m ih => rw [fb_si_succ, ih]; rfl
    by_cases h0 : w ≤ 0
    · have h1 : (fun c : Nat => bl S V (d + 1) n w c) = fun _ => 0 := funext fun c => bl_z S V (d + 1) n c h0
      rw [h1, z0]
      exact hw
    by_cases h1 : S 49 0 n ≠ -1
    · have h2 : (fun c : Nat => bl S V (d + 1) n w c) = fun c : Nat => if (c : Int) = S 49 0 n then w else 0 := funext fun c => by
        unfold bl
        rw [if_neg h0, if_pos h1]
      rw [h2]
      have : ∀ m : Nat, fb_si (fun c : Nat => if (c : Int) = S 49 0 n then w else 0) m = if 0 ≤ S 49 0 n ∧ S 49 0 n < m then w else 0 := fun m => by
        induction m with
        | zero => rw [if_neg (by omega)]; rfl
        | succ m ih =>
          rw [fb_si_succ, ih]
          by_cases q : (m : Int) = S 49 0 n
          · rw [if_neg (by omega), if_pos q, if_pos (by omega)]; omega
          · rw [if_neg q]
            by_cases q2 : 0 ≤ S 49 0 n ∧ S 49 0 n < m
            · rw [if_pos q2, if_pos (by omega)]; omega
            · rw [if_neg q2, if_neg (by omega)]; omega
      rw [this]
      split <;> omega
    · have h2 : ∀ c : Nat, bl S V (d + 1) n w c = match belK S n (V (S 50 0 n).toNat), aboK S n (V (S 50 0 n).toNat) with
          | none, none => 0
          | none, some a => bl S V d (chN S n a) w c
          | some b, none => bl S V d (chN S n b) w c
          | some b, some a => if b = a then bl S V d (chN S n b) w c else bl S V d (chN S n a) (upW S n b a (V (S 50 0 n).toNat) w) c + bl S V d (chN S n b) (w - upW S n b a (V (S 50 0 n).toNat) w) c := fun c => by
        conv => lhs; unfold bl
        rw [if_neg h0, if_neg h1]
      have h3 := funext h2
      replace h3 : (fun c => bl S V (d + 1) n w c) = _ := h3
      rw [h3]
      cases hb : belK S n (V (S 50 0 n).toNat) with
      | none =>
        cases ha : aboK S n (V (S 50 0 n).toNat) with
        | none => simp only []; rw [z0]; exact hw
        | some a => exact bl_sum I V d _ w m (hc a (aboK_some ha).1) hw
      | some b =>
        cases ha : aboK S n (V (S 50 0 n).toNat) with
        | none => exact bl_sum I V d _ w m (hc b (belK_some hb).1) hw
        | some a =>
          simp only []
          by_cases hne : b = a
          · simp only [hne, if_true]
            exact bl_sum I V d _ w m (hc a (aboK_some ha).1) hw
          · simp only [hne, if_false]
            obtain ⟨q1, q2, q3⟩ := bel_abo I hn hb ha hne
            obtain ⟨r1, r2⟩ := upW_in hw q1 q2 q3
            rw [fb_si_add]
            have s1 : fb_si (bl S V d (chN S n a) (upW S n b a (V (S 50 0 n).toNat) w)) m ≤ _ := bl_sum I V d (chN S n a) (upW S n b a (V (S 50 0 n).toNat) w) m (hc a (aboK_some ha).1) r1
            have s2 : fb_si (bl S V d (chN S n b) (w - upW S n b a (V (S 50 0 n).toNat) w)) m ≤ _ := bl_sum I V d (chN S n b) (w - upW S n b a (V (S 50 0 n).toNat) w) m (hc b (belK_some hb).1) (by omega)
            omega
/-- enough fuel is enough -/
theorem bl_fuel {S : dC} {dp : Nat → Nat} (hd : ∀ n : Nat, (n : Int) < S 38 0 14 → 1 ≤ dp n ∧ dp n ≤ 4 ∧ ∀ k : Nat, (k : Int) < S 51 0 n → dp (S 52 0 (5 * n + k)).toNat < dp n) (I : SI S) (V : Nat → Int) : ∀ (k : Nat) (l n : Nat) (w : Int) (c : Nat), (n : Int) < S 38 0 14 → dp n ≤ k → dp n ≤ l → bl S V k n w c = bl S V l n w c
  | 0, l, n, w, c, hn, h1, h2 => by have := (hd n hn).1; omega
  | k + 1, 0, n, w, c, hn, h1, h2 => by have := (hd n hn).1; omega
  | k + 1, l + 1, n, w, c, hn, h1, h2 => by
    have hc : ∀ j : Nat, (j : Int) < S 51 0 n → ((chN S n j : Nat) : Int) < S 38 0 14 := fun j hj => by
      have := I.cn n j hn hj
      unfold chN
      omega
    have hx : ∀ (j : Nat) (w : Int), (j : Int) < S 51 0 n → bl S V k (chN S n j) w c = bl S V l (chN S n j) w c := fun j w hj => by
      have h3 := (hd n hn).2.2 j hj
      exact bl_fuel hd I V k l (chN S n j) w c (hc j hj) (by unfold chN; omega) (by unfold chN; omega)
    unfold bl
    split
    · rfl
    split
    · rfl
    cases hb : belK S n (V (S 50 0 n).toNat) with
    | none =>
      cases ha : aboK S n (V (S 50 0 n).toNat) with
      | none => rfl
      | some a => exact hx a w (aboK_some ha).1
    | some b =>
      cases ha : aboK S n (V (S 50 0 n).toNat) with
      | none => exact hx b w (belK_some hb).1
      | some a =>
        simp only []
        rw [hx b w (belK_some hb).1, hx a _ (aboK_some ha).1, hx b _ (belK_some hb).1]
theorem fb_ct_sum {p q r : Nat → Bool} : ∀ {n : Nat}, (∀ k, k < n → p k = true → q k = true ∨ r k = true) → fb_ct p n ≤ fb_ct q n + fb_ct r n
  | 0, _ => Nat.zero_le _
  | n + 1, h => by
    have h1 := fb_ct_sum (p := p) (q := q) (r := r) (n := n) (fun k hk => h k (Nat.lt_succ_of_lt hk))
    rw [fb_ct_succ, fb_ct_succ, fb_ct_succ]
    have h2 := h n (Nat.lt_succ_self n)
    cases hp : p n
    · simp only [Bool.false_eq_true, if_false]; omega
    · rcases h2 hp with z | z
      · rw [z]; simp only [if_true]; omega
      · rw [z]; simp only [if_true]; omega
def bB : Nat → Nat
  | 0 => 0
  | d + 1 => 2 ^ d
theorem bB_two (d : Nat) : bB d + bB d ≤ bB (d + 1) ∧ 1 ≤ bB (d + 1) := by
  cases d with
  | zero => exact ⟨by decide, by decide⟩
  | succ d =>
    show 2 ^ d + 2 ^ d ≤ 2 ^ (d + 1) ∧ 1 ≤ 2 ^ (d + 1)
    have h1 := Nat.one_le_two_pow (n := d)
    have h2 : 2 ^ (d + 1) = 2 ^ d * 2 := Nat.pow_succ 2 d
    omega
/-- how many parts there are -/
theorem bl_cnt {S : dC} (I : SI S) (V : Nat → Int) : ∀ (d n : Nat) (w : Int) (m : Nat), (n : Int) < S 38 0 14 → fb_ct (fun c => decide (bl S V d n w c ≠ 0)) m ≤ bB d
  | 0, n, w, m, hn => by
    rw [show fb_ct (fun c => decide (bl S V 0 n w c ≠ 0)) m = 0 from fb_ct_zero.mpr fun k _ => by unfold bl; rfl]
    exact Nat.zero_le _
  | d + 1, n, w, m, hn => by
    have hc : ∀ k : Nat, (k : Int) < S 51 0 n → ((chN S n k : Nat) : Int) < S 38 0 14 := fun k hk => by
      have := I.cn n k hn hk
      unfold chN
      omega
    obtain ⟨h21, h22⟩ := bB_two d
    by_cases h0 : w ≤ 0
    · rw [show fb_ct (fun c => decide (bl S V (d + 1) n w c ≠ 0)) m = 0 from fb_ct_zero.mpr fun k _ => by rw [bl_z S V (d + 1) n k h0]; rfl]
      exact Nat.zero_le _
    by_cases h1 : S 49 0 n ≠ -1
    · refine Nat.le_trans ?_ h22
      have h2 : ∀ m, fb_ct (fun c => decide (bl S V (d + 1) n w c ≠ 0)) m ≤ if 0 ≤ S 49 0 n ∧ S 49 0 n < m then 1 else 0 := fun m => by
        induction m with
        | zero => rw [if_neg (by omega)]; exact Nat.le_refl _
        | succ m ih =>
          rw [fb_ct_succ]
          have e : bl S V (d + 1) n w m = if (m : Int) = S 49 0 n then w else 0 := by
            unfold bl
            rw [if_neg h0, if_pos h1]
          rw [e]
          generalize fb_ct (fun c => decide (bl S V (d + 1) n w c ≠ 0)) m = y at ih ⊢
          by_cases q : (m : Int) = S 49 0 n
          · rw [if_neg (by omega)] at ih
            rw [if_pos q, if_pos (show 0 ≤ S 49 0 n ∧ S 49 0 n < ((m + 1 : Nat) : Int) by omega)]
            split <;> omega
          · rw [if_neg q, show decide ((0 : Int) ≠ 0) = false from rfl, if_neg (show ¬ (false = true) by decide)]
            by_cases q2 : 0 ≤ S 49 0 n ∧ S 49 0 n < m
            · rw [if_pos q2] at ih; rw [if_pos (show 0 ≤ S 49 0 n ∧ S 49 0 n < ((m + 1 : Nat) : Int) by omega)]; omega
            · rw [if_neg q2] at ih; rw [if_neg (show ¬ (0 ≤ S 49 0 n ∧ S 49 0 n < ((m + 1 : Nat) : Int)) by omega)]; omega
      refine Nat.le_trans (h2 m) ?_
      split <;> omega
    · have h2 : ∀ c : Nat, bl S V (d + 1) n w c = match belK S n (V (S 50 0 n).toNat), aboK S n (V (S 50 0 n).toNat) with
          | none, none => 0
          | none, some a => bl S V d (chN S n a) w c
          | some b, none => bl S V d (chN S n b) w c
          | some b, some a => if b = a then bl S V d (chN S n b) w c else bl S V d (chN S n a) (upW S n b a (V (S 50 0 n).toNat) w) c + bl S V d (chN S n b) (w - upW S n b a (V (S 50 0 n).toNat) w) c := fun c => by
        conv => lhs; unfold bl
        rw [if_neg h0, if_neg h1]
      cases hb : belK S n (V (S 50 0 n).toNat) with
      | none =>
        cases ha : aboK S n (V (S 50 0 n).toNat) with
        | none =>
          rw [show fb_ct (fun c => decide (bl S V (d + 1) n w c ≠ 0)) m = 0 from fb_ct_zero.mpr fun k _ => by rw [h2 k, hb, ha]; rfl]
          exact Nat.zero_le _
        | some a =>
          have h3 : (fun c => decide (bl S V (d + 1) n w c ≠ 0)) = fun c => decide (bl S V d (chN S n a) w c ≠ 0) := funext fun c => by rw [h2 c, hb, ha]
          rw [h3]
          exact Nat.le_trans (bl_cnt I V d _ w m (hc a (aboK_some ha).1)) (by omega)
      | some b =>
        cases ha : aboK S n (V (S 50 0 n).toNat) with
        | none =>
          have h3 : (fun c => decide (bl S V (d + 1) n w c ≠ 0)) = fun c => decide (bl S V d (chN S n b) w c ≠ 0) := funext fun c => by rw [h2 c, hb, ha]
          rw [h3]
          exact Nat.le_trans (bl_cnt I V d _ w m (hc b (belK_some hb).1)) (by omega)
        | some a =>
          by_cases hne : b = a
          · have h3 : (fun c => decide (bl S V (d + 1) n w c ≠ 0)) = fun c => decide (bl S V d (chN S n b) w c ≠ 0) := funext fun c => by rw [h2 c, hb, ha]; simp only [hne, if_true]
            rw [h3]
            exact Nat.le_trans (bl_cnt I V d _ w m (hc b (belK_some hb).1)) (by omega)
          · have s1 := bl_cnt I V d (chN S n a) (upW S n b a (V (S 50 0 n).toNat) w) m (hc a (aboK_some ha).1)
            have s2 := bl_cnt I V d (chN S n b) (w - upW S n b a (V (S 50 0 n).toNat) w) m (hc b (belK_some hb).1)
            refine Nat.le_trans (fb_ct_sum (q := fun c => decide (bl S V d (chN S n a) (upW S n b a (V (S 50 0 n).toNat) w) c ≠ 0)) (r := fun c => decide (bl S V d (chN S n b) (w - upW S n b a (V (S 50 0 n).toNat) w) c ≠ 0)) fun k _ hk => ?_) (by omega)
            simp only [decide_eq_true_eq] at hk ⊢
            rw [h2 k, hb, ha] at hk
            simp only [hne, if_false] at hk
            omega
