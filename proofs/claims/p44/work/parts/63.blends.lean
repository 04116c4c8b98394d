/-! ===== the reference: the stack of open nodes ===== -/
/-- what is open: nodes that are complete, with weights -/
def opN (C : dC) (i : Nat) : Nat := (C 68 0 i).toNat
def openI (S C : dC) (o : Nat) : Prop := ∀ i : Nat, i < o → 0 ≤ C 68 0 i ∧ C 68 0 i < S 38 0 14 ∧ 0 ≤ C 69 0 i ∧ C 69 0 i ≤ 1000000 ∧ (S 49 0 (opN C i) ≠ -1 ∨ 0 < S 51 0 (opN C i))
noncomputable def opSum (S C : dC) (V : Nat → Int) (c o : Nat) : Int := fb_si (fun i => bl S V 4 (opN C i) (C 69 0 i) c) o
/-- a power of two, left alone by reckoning -/
def p2 (n : Nat) : Nat := 2 ^ n
def opMea (dp : Nat → Nat) (C : dC) (o : Nat) : Nat := fb_sm (fun i => p2 (dp (opN C i)) - 1) o
theorem opSum_succ (S C : dC) (V : Nat → Int) (c o : Nat) : opSum S C V c (o + 1) = opSum S C V c o + bl S V 4 (opN C o) (C 69 0 o) c := fb_si_succ _ _
theorem opMea_succ (dp : Nat → Nat) (C : dC) (o : Nat) : opMea dp C (o + 1) = opMea dp C o + (p2 (dp (opN C o)) - 1) := fb_sm_succ _ _
theorem opSum_cong {S C C1 : dC} {V : Nat → Int} {c o : Nat} (h : ∀ i, i < o → C1 68 0 i = C 68 0 i ∧ C1 69 0 i = C 69 0 i) : opSum S C1 V c o = opSum S C V c o := fb_si_cong fun i hi => by unfold opN; rw [(h i hi).1, (h i hi).2]
theorem opMea_cong {dp : Nat → Nat} {C C1 : dC} {o : Nat} (h : ∀ i, i < o → C1 68 0 i = C 68 0 i) : opMea dp C1 o = opMea dp C o := fb_sm_cong fun i hi => by unfold opN; rw [h i hi]
theorem openI_cong {S C C1 : dC} {o : Nat} (I : openI S C o) (h : ∀ i, i < o → C1 68 0 i = C 68 0 i ∧ C1 69 0 i = C 69 0 i) : openI S C1 o := fun i hi => by
  have := I i hi
  unfold opN at *
  rw [(h i hi).1, (h i hi).2]
  exact this
theorem openI_more {S C : dC} {o : Nat} (I : openI S C o) (h : 0 ≤ C 68 0 o ∧ C 68 0 o < S 38 0 14 ∧ 0 ≤ C 69 0 o ∧ C 69 0 o ≤ 1000000 ∧ (S 49 0 (opN C o) ≠ -1 ∨ 0 < S 51 0 (opN C o))) : openI S C (o + 1) := fun i hi => by
  rcases Nat.lt_or_ge i o with z | z
  · exact I i z
  · rw [show i = o by omega]; exact h
theorem opSum_pos {S C : dC} (I : SI S) (V : Nat → Int) (c : Nat) : ∀ o : Nat, openI S C o → 0 ≤ opSum S C V c o
  | 0, _ => Int.le_refl _
  | o + 1, H => by
    rw [opSum_succ]
    have h1 := opSum_pos I V c o fun i hi => H i (by omega)
    obtain ⟨a1, a2, a3, a4, a5⟩ := H o (by omega)
    have h2 := (bl_in I V 4 (opN C o) (C 69 0 o) c (by unfold opN; omega) a3).1
    omega
theorem pow_pos2 (d : Nat) (h : 1 ≤ d) : 2 ≤ p2 d := Nat.pow_le_pow_right (show 0 < 2 by decide) h
theorem opMea_le {S C : dC} {dp : Nat → Nat} (hd : ∀ n : Nat, (n : Int) < S 38 0 14 → 1 ≤ dp n ∧ dp n ≤ 4 ∧ ∀ k : Nat, (k : Int) < S 51 0 n → dp (S 52 0 (5 * n + k)).toNat < dp n) : ∀ o : Nat, openI S C o → o ≤ opMea dp C o
  | 0, _ => Nat.le_refl _
  | o + 1, H => by
    rw [opMea_succ]
    have h1 := opMea_le hd o fun i hi => H i (by omega)
    obtain ⟨a1, a2, a3, a4, a5⟩ := H o (by omega)
    have h2 := pow_pos2 _ (hd (opN C o) (by unfold opN; omega)).1
    omega
theorem pow_two2 {a b : Nat} (h : a < b) : p2 a + p2 a ≤ p2 b := by
  have h1 : 2 ^ (a + 1) ≤ p2 b := Nat.pow_le_pow_right (show 0 < 2 by decide) (show a + 1 ≤ b from h)
  have h2 : 2 ^ (a + 1) = p2 a * 2 := Nat.pow_succ 2 a
  rw [h2] at h1
  clear h2
  omega
theorem mea_a {a b m p : Nat} (hme : b = a + (p - 1)) (hp : 2 ≤ p) (hm : b ≤ m + 1) : a ≤ m := by omega
theorem mea_o {o b m : Nat} (e : o + 1 ≤ b) (hm : b ≤ m + 1) (h16 : m + 1 < 16) : o < 16 := by omega
theorem mea_1 {a b m p q : Nat} (hme : b = a + (p - 1)) (hm : b ≤ m + 1) (h : q + q ≤ p) (hq : 2 ≤ q) : a + (q - 1) ≤ m := by omega
theorem mea_2 {a b m p q r : Nat} (hme : b = a + (p - 1)) (hm : b ≤ m + 1) (h : q + q ≤ p) (h' : r + r ≤ p) (hq : 2 ≤ q) (hr : 2 ≤ r) : a + (q - 1) + (r - 1) ≤ m := by omega
theorem bl_clip {S : dC} (V : Nat → Int) {n : Nat} {w : Int} (h0 : 0 < w) (h1 : S 49 0 n ≠ -1) (d c : Nat) : bl S V (d + 1) n w c = if (c : Int) = S 49 0 n then w else 0 := by
  unfold bl
  rw [if_neg (by omega), if_pos h1]
/-- what a blend may write -/
def Fb (C0 C : dC) : Prop := ∀ j i f : Nat, ¬ (67 ≤ j ∧ j ≤ 69) → C j i f = C0 j i f
theorem Fb.rf (C : dC) : Fb C C := fun _ _ _ _ => rfl
theorem Fb.up {C0 C : dC} {j i f : Nat} {v : Int} (hg : 67 ≤ j ∧ j ≤ 69) (a : Fb C0 C) : Fb C0 (up3 C j i f v) := fun j' i' f' h => by
  rw [up3_ne C v fun z => h (by rw [z.1]; exact hg)]
  exact a j' i' f' h
theorem Fb.fr {C0 C : dC} (a : Fb C0 C) : Fr C0 C := fun j i f h => a j i f fun z => h (by unfold gP; omega)
section BS
variable {h : gH} {A : dA} {N zz : Nat → Nat} {S C C0 : dC} {P : dP}
end BS
