/-! ===== the reference: depths, children ===== -/
/-- there is a number, said so that it is left alone -/
def exN (p : Nat → Prop) : Prop := ∃ l, p l
/-- depths of the nodes below n, if node ln had the child nd too -/
def dInv (C : dC) (ln nd : Nat) (n : Nat) (d : Nat → Int) : Prop := ∀ j : Nat, j < n → 1 ≤ d j ∧ d j ≤ (j : Int) + 1 ∧ (∀ k : Nat, (k : Int) < C 51 0 j → d (C 52 0 (5 * j + k)).toNat + 1 ≤ d j) ∧ (j = ln → d nd + 1 ≤ d j) ∧ (d j = 1 ∨ exN (fun k => (k : Int) < C 51 0 j ∧ d j = d (C 52 0 (5 * j + k)).toNat + 1) ∨ (j = ln ∧ d j = d nd + 1))
def mInv (n : Nat) (d : Nat → Int) (m : Int) : Prop := 0 ≤ m ∧ m ≤ 21 ∧ (∀ j : Nat, j < n → d j ≤ m) ∧ (m = 0 ∨ exN fun j => j < n ∧ d j = m)
/-- what is known of node n's depth after k children -/
def pInv (C : dC) (n k : Nat) (d : Nat → Int) : Prop := 1 ≤ d n ∧ d n ≤ (n : Int) + 1 ∧ (∀ l : Nat, l < k → d (C 52 0 (5 * n + l)).toNat + 1 ≤ d n) ∧ (d n = 1 ∨ exN fun l => l < k ∧ d n = d (C 52 0 (5 * n + l)).toNat + 1)
theorem dInv_step {C : dC} {ln nd n k : Nat} {d d1 : Nat → Int} (I : dInv C ln nd n d) (hk : (k : Int) = C 51 0 n) (hc : ∀ l : Nat, l < k → (C 52 0 (5 * n + l)).toNat < n) (hcn : ∀ j l : Nat, j < n → (l : Int) < C 51 0 j → (C 52 0 (5 * j + l)).toNat < j) (hnd : nd < ln) (hsame : ∀ j, j < n → d1 j = d j)
    (p1 : 1 ≤ d1 n) (p2 : d1 n ≤ (n : Int) + 1) (p3 : ∀ l : Nat, l < k → d (C 52 0 (5 * n + l)).toNat + 1 ≤ d1 n) (p4 : n = ln → d nd + 1 ≤ d1 n) (p5 : d1 n = 1 ∨ exN (fun l => l < k ∧ d1 n = d (C 52 0 (5 * n + l)).toNat + 1) ∨ (n = ln ∧ d1 n = d nd + 1)) : dInv C ln nd (n + 1) d1 := by
  intro j hj
  rcases Nat.lt_or_ge j n with z | z
  · obtain ⟨a1, a2, a3, a4, a5⟩ := I j z
    refine ⟨by rw [hsame j z]; exact a1, by rw [hsame j z]; exact a2, fun l hl => ?_, fun e => ?_, ?_⟩
    · rw [hsame j z, hsame _ (Nat.lt_trans (hcn j l z hl) z)]; exact a3 l hl
    · rw [hsame j z, hsame _ (by omega)]; exact a4 e
    · rw [hsame j z]
      rcases a5 with a5 | ⟨l, hl, a5⟩ | ⟨e, a5⟩
      · exact Or.inl a5
      · exact Or.inr (Or.inl ⟨l, hl, by rw [hsame _ (Nat.lt_trans (hcn j l z hl) z)]; exact a5⟩)
      · exact Or.inr (Or.inr ⟨e, by rw [hsame _ (by omega)]; exact a5⟩)
  · have e : j = n := by omega
    subst e
    refine ⟨p1, p2, fun l hl => ?_, fun e => ?_, ?_⟩
    · rw [hsame _ (hc l (by omega))]; exact p3 l (by omega)
    · rw [hsame _ (by omega)]; exact p4 e
    · rcases p5 with p5 | ⟨l, hl, p5⟩ | ⟨e, p5⟩
      · exact Or.inl p5
      · exact Or.inr (Or.inl ⟨l, by omega, by rw [hsame _ (hc l hl)]; exact p5⟩)
      · exact Or.inr (Or.inr ⟨e, by rw [hsame nd (by omega)]; exact p5⟩)
theorem dInv_congr {C : dC} {ln nd n : Nat} {d d1 : Nat → Int} (I : dInv C ln nd n d) (hcn : ∀ j l : Nat, j < n → (l : Int) < C 51 0 j → (C 52 0 (5 * j + l)).toNat < j) (hnd : nd < ln) (hsame : ∀ j, j < n → d1 j = d j) : dInv C ln nd n d1 := by
  intro j z
  obtain ⟨a1, a2, a3, a4, a5⟩ := I j z
  refine ⟨by rw [hsame j z]; exact a1, by rw [hsame j z]; exact a2, fun l hl => ?_, fun e => ?_, ?_⟩
  · rw [hsame j z, hsame _ (Nat.lt_trans (hcn j l z hl) z)]; exact a3 l hl
  · rw [hsame j z, hsame _ (by omega)]; exact a4 e
  · rw [hsame j z]
    rcases a5 with a5 | ⟨l, hl, a5⟩ | ⟨e, a5⟩
    · exact Or.inl a5
    · exact Or.inr (Or.inl ⟨l, hl, by rw [hsame _ (Nat.lt_trans (hcn j l z hl) z)]; exact a5⟩)
    · exact Or.inr (Or.inr ⟨e, by rw [hsame _ (by omega)]; exact a5⟩)
theorem mInv_congr {n : Nat} {d d1 : Nat → Int} {m : Int} (I : mInv n d m) (hsame : ∀ j, j < n → d1 j = d j) : mInv n d1 m := by
  obtain ⟨a1, a2, a3, a4⟩ := I
  refine ⟨a1, a2, fun j hj => by rw [hsame j hj]; exact a3 j hj, ?_⟩
  rcases a4 with a4 | ⟨j, hj, a4⟩
  · exact Or.inl a4
  · exact Or.inr ⟨j, hj, by rw [hsame j hj]; exact a4⟩
theorem mInv_step {n : Nat} {d d1 : Nat → Int} {m m1 : Int} (I : mInv n d m) (hsame : ∀ j, j < n → d1 j = d j) (hn : n < 20) (hd : 1 ≤ d1 n ∧ d1 n ≤ (n : Int) + 1) (hm : (d1 n ≤ m ∧ m1 = m) ∨ (m < d1 n ∧ m1 = d1 n)) : mInv (n + 1) d1 m1 := by
  obtain ⟨a1, a2, a3, a4⟩ := I
  refine ⟨by omega, by omega, fun j hj => ?_, ?_⟩
  · rcases Nat.lt_or_ge j n with z | z
    · have := a3 j z
      rw [hsame j z]; omega
    · have e : j = n := by omega
      subst e
      omega
  · rcases hm with ⟨h1, h2⟩ | ⟨h1, h2⟩
    · rcases a4 with a4 | ⟨j, hj, a4⟩
      · exact Or.inl (by omega)
      · exact Or.inr ⟨j, by omega, by rw [hsame j hj, h2]; exact a4⟩
    · exact Or.inr ⟨n, by omega, h2.symm⟩
/-- depths are the same, however reckoned -/
theorem dInv_one {C : dC} {ln nd n : Nat} {d e : Nat → Int} (hcn : ∀ j l : Nat, j < n → (l : Int) < C 51 0 j → (C 52 0 (5 * j + l)).toNat < j) (hnd : nd < ln) (I : dInv C ln nd n d) (J : dInv C ln nd n e) : ∀ j, j < n → d j = e j := by
  intro j
  induction j using Nat.strongRecOn with
  | ind j ih =>
    intro hj
    obtain ⟨a1, a2, a3, a4, a5⟩ := I j hj
    obtain ⟨b1, b2, b3, b4, b5⟩ := J j hj
    have k1 : d j ≤ e j := by
      rcases a5 with a5 | ⟨l, hl, a5⟩ | ⟨q, a5⟩
      · omega
      · have h1 := hcn j l hj hl
        have h2 := b3 l hl
        rw [← ih _ h1 (by omega)] at h2
        omega
      · have h2 := b4 q
        rw [← ih nd (by omega) (by omega)] at h2
        omega
    have k2 : e j ≤ d j := by
      rcases b5 with b5 | ⟨l, hl, b5⟩ | ⟨q, b5⟩
      · omega
      · have h1 := hcn j l hj hl
        have h2 := a3 l hl
        rw [ih _ h1 (by omega)] at h2
        omega
      · have h2 := a4 q
        rw [ih nd (by omega) (by omega)] at h2
        omega
    omega
section R8
variable {h : gH} {A : dA} {N zz : Nat → Nat} {S C C0 : dC} {P : dP}
end R8
