/-! ===== the heap as a table: kind j, number i, column f; addresses A, ints C, references P ===== -/
abbrev dC : Type := Nat → Nat → Nat → Int
abbrev dP : Type := Nat → Nat → Nat → Option (Nat × Nat)
abbrev dA : Type := Nat → Nat → Nat
def dad (A : dA) (q : Nat × Nat) : Nat := A q.1 q.2
def up2 {α : Type} (A : Nat → Nat → α) (j i : Nat) (a : α) : Nat → Nat → α := fun j' i' => if j' = j ∧ i' = i then a else A j' i'
def up3 {α : Type} (C : Nat → Nat → Nat → α) (j i f : Nat) (v : α) : Nat → Nat → Nat → α := fun j' i' f' => if j' = j ∧ i' = i ∧ f' = f then v else C j' i' f'
/-- kinds that are objects: the class' number, its fields' kinds (0 int, 1 long, 2 reference) -/
def dO : Nat → Option (Nat × List Nat)
  | 0 => some (14, [2, 2, 2, 2, 2, 2, 2])
  | 4 => some (7, [2, 0, 2, 2, 2, 2, 0, 2])
  | 6 => some (2, [0, 2, 0])
  | 9 => some (4, [0, 0, 2, 2, 0])
  | 12 => some (8, [2, 0, 2, 2, 0])
  | 14 => some (10, [0, 2, 0, 0, 0])
  | 15 => some (12, [0, 2, 2, 0, 0, 0, 0, 0, 2, 2, 2, 0])
  | 19 => some (13, [2, 2, 0, 0, 2])
  | 21 => some (6, [2, 2, 2, 2, 2, 0, 0, 2, 0, 0, 2, 2, 2])
  | 23 => some (11, [2, 1, 0, 0, 1, 0])
  | 24 => some (11, [2, 1, 0, 0, 1, 0])
  | 25 => some (9, [2, 2, 2, 0])
  | 29 => some (9, [2, 2, 2, 0])
  | 33 => some (5, [2, 0])
  | 36 => some (3, [2])
  | 38 => some (15, [2, 2, 2, 0, 2, 2, 2, 2, 0, 2, 2, 2, 2, 2, 0, 2, 2, 2, 2, 0, 2, 0, 0, 2, 0, 0, 2, 2, 2, 2, 0, 0, 0, 0, 0, 0, 0, 2, 2, 2, 0, 2])
  | _ => none
/-- kinds that are arrays: the array's kind (0 int, 1 long, 2 boolean, 3 Object, 4 int[], 5 Machine), its length -/
def dR : Nat → Nat × Nat
  | 1 => (5, 2)
  | 2 => (2, 2)
  | 3 => (0, 10)
  | 5 => (0, 8)
  | 7 => (3, 0)
  | 8 => (3, 0)
  | 10 => (0, 5)
  | 11 => (0, 5)
  | 13 => (0, 5)
  | 16 => (0, 3)
  | 17 => (0, 3)
  | 18 => (0, 3)
  | 20 => (0, 150)
  | 22 => (0, 8)
  | 26 => (0, 32)
  | 27 => (0, 32)
  | 28 => (0, 32)
  | 30 => (0, 32)
  | 31 => (0, 32)
  | 32 => (0, 32)
  | 34 => (4, 4)
  | 35 => (0, 30)
  | 37 => (0, 12)
  | 40 => (0, 1160)
  | 41 => (2, 2)
  | 42 => (0, 8)
  | 44 => (0, 12)
  | 45 => (0, 12)
  | 46 => (0, 60)
  | 47 => (0, 60)
  | 49 => (0, 20)
  | 50 => (0, 20)
  | 51 => (0, 20)
  | 52 => (0, 100)
  | 53 => (0, 100)
  | 55 => (0, 10)
  | 56 => (0, 10)
  | 57 => (2, 10)
  | 58 => (0, 10)
  | 60 => (0, 408)
  | 63 => (0, 150)
  | 66 => (0, 20)
  | 67 => (1, 12)
  | 68 => (0, 32)
  | 69 => (1, 32)
  | 77 => (0, 72)
  | 78 => (0, 72)
  | 79 => (1, 72)
  | 81 => (0, 10)
  | 90 => (0, 48)
  | _ => (9, 0)
def dN (zz : Nat → Nat) (j i : Nat) : Nat := if j = 7 then zz i else (dR j).2
/-- references that never change -/
def dS (j i f : Nat) : Option (Nat × Nat) := match j with
  | 0 => match f with
    | 0 => some (4, 0)
    | 1 => some (19, 0)
    | 2 => some (21, 0)
    | 3 => some (21, 3)
    | 4 => some (1, 0)
    | 5 => some (2, 0)
    | 6 => some (3, 0)
    | _ => none
  | 1 => match f with
    | 0 => some (21, 1)
    | 1 => some (21, 2)
    | _ => none
  | 4 => match f with
    | 0 => some (5, 0)
    | 2 => some (6, 0)
    | 3 => some (6, 1)
    | 4 => some (6, 2)
    | 5 => some (6, 3)
    | 7 => some (14, 0)
    | _ => none
  | 9 => match f with
    | 2 => some (10, i)
    | 3 => some (11, i)
    | _ => none
  | 12 => match f with
    | 2 => some (6, i + 4)
    | 3 => some (13, i)
    | _ => none
  | 15 => match f with
    | 8 => some (16, i)
    | 9 => some (17, i)
    | 10 => some (18, i)
    | _ => none
  | 19 => match f with
    | 0 => some (4, 0)
    | 1 => some (20, 0)
    | 4 => some (15, 0)
    | _ => none
  | 21 => match f with
    | 0 => some (4, 0)
    | 1 => some (22, i)
    | 2 => some (23, i)
    | 3 => some (24, i)
    | 7 => some (25, i)
    | 10 => some (33, i)
    | 11 => some (36, i)
    | 12 => some (29, i)
    | _ => none
  | 25 => match f with
    | 0 => some (26, i)
    | 1 => some (27, i)
    | 2 => some (28, i)
    | _ => none
  | 29 => match f with
    | 0 => some (30, i)
    | 1 => some (31, i)
    | 2 => some (32, i)
    | _ => none
  | 33 => match f with
    | 0 => some (34, i)
    | _ => none
  | 34 => if f < 4 then some (35, 4 * i + f) else none
  | 36 => match f with
    | 0 => some (37, i)
    | _ => none
  | 38 => match f with
    | 0 => some (40, 0)
    | 1 => some (41, 0)
    | 2 => some (42, 0)
    | 4 => some (44, 0)
    | 5 => some (45, 0)
    | 6 => some (46, 0)
    | 7 => some (47, 0)
    | 9 => some (49, 0)
    | 10 => some (50, 0)
    | 11 => some (51, 0)
    | 12 => some (52, 0)
    | 13 => some (53, 0)
    | 15 => some (55, 0)
    | 16 => some (56, 0)
    | 17 => some (57, 0)
    | 18 => some (58, 0)
    | 20 => some (60, 0)
    | 23 => some (63, 0)
    | 26 => some (66, 0)
    | 27 => some (67, 0)
    | 28 => some (68, 0)
    | 29 => some (69, 0)
    | 37 => some (77, 0)
    | 38 => some (78, 0)
    | 39 => some (79, 0)
    | 41 => some (81, 0)
    | _ => none
  | _ => none
def dV (A : dA) (k : Nat) (c : Int) (p : Option (Nat × Nat)) (v : Value) : Prop := match k with
  | 0 => ∃ x : Int32, v = .int x ∧ x.toInt = c
  | 1 => ∃ x : Int64, v = .long x ∧ x.toInt = c
  | _ => v = va_rf (p.map (dad A))
/-- an object's fields -/
def dF (A : dA) (ks : List Nat) (c : Nat → Int) (p : Nat → Option (Nat × Nat)) (fs : List Value) : Prop := fs.length = ks.length ∧ ∀ f k, ks[f]? = some k → ∃ v, fs[f]? = some v ∧ dV A k (c f) (p f) v
/-- an array's contents -/
def dE (A : dA) (kt n : Nat) (c : Nat → Int) (p : Nat → Option (Nat × Nat)) (e : va_E) : Prop := match kt with
  | 0 => ∃ g : Nat → Int32, e = .inl (0, n, .inl g) ∧ ∀ x, (g x).toInt = c x
  | 1 => ∃ g : Nat → Int64, e = .inl (1, n, .inr (.inl g)) ∧ ∀ x, (g x).toInt = c x
  | 2 => ∃ g : Nat → Int32, e = .inl (2, n, .inl g) ∧ ∀ x, (g x).toInt = c x
  | 3 => e = .inl (3, n, .inr (.inr (.inr (.inr (fun x => (p x).map (dad A))))))
  | 4 => e = .inl (4, n, .inr (.inr (.inr (.inr (fun x => (p x).map (dad A))))))
  | 5 => e = .inl (5, n, .inr (.inr (.inr (.inr (fun x => (p x).map (dad A))))))
  | _ => False
def dCell (A : dA) (n j : Nat) (c : Nat → Int) (p : Nat → Option (Nat × Nat)) (e : va_E) : Prop := match dO j with
  | some (ci, ks) => ∃ fs : List Value, e = .inr (ci, fs) ∧ dF A ks c p fs
  | none => dE A (dR j).1 n c p e
/-- a column that holds references -/
def dRc (j f : Nat) : Prop := match dO j with
  | some (_, ks) => ks[f]? = some 2
  | none => 3 ≤ (dR j).1
/-- the heap h holds the table: the roles of act, each at its own address, references among them -/
def HR (h : gH) (A : dA) (act : Nat → Nat → Prop) (zz : Nat → Nat) (C : dC) (P : dP) : Prop :=
  (∀ j i, act j i → ∃ e, h (A j i) = some e ∧ dCell A (dN zz j i) j (C j i) (P j i) e) ∧
  (∀ j i j' i', act j i → act j' i' → A j i = A j' i' → j = j' ∧ i = i') ∧
  (∀ j i f q, act j i → dRc j f → P j i f = some q → act q.1 q.2)
section HRS
variable {h : gH} {A : dA} {act : Nat → Nat → Prop} {zz : Nat → Nat} {C : dC} {P : dP} {j i f ci a : Nat} {ks : List Nat}
theorem up2_same {α : Type} (A : Nat → Nat → α) (j i : Nat) (a : α) : up2 A j i a j i = a := if_pos ⟨rfl, rfl⟩
theorem up2_ne {α : Type} (A : Nat → Nat → α) {j i j' i' : Nat} (a : α) (hn : ¬ (j' = j ∧ i' = i)) : up2 A j i a j' i' = A j' i' := if_neg hn
theorem up3_same {α : Type} (C : Nat → Nat → Nat → α) (j i f : Nat) (v : α) : up3 C j i f v j i f = v := if_pos ⟨rfl, rfl, rfl⟩
theorem up3_ne {α : Type} (C : Nat → Nat → Nat → α) {j i j' i' f f' : Nat} (v : α) (hn : ¬ (j' = j ∧ i' = i ∧ f' = f)) : up3 C j i f v j' i' f' = C j' i' f' := if_neg hn
theorem up3_off {α : Type} (C : Nat → Nat → Nat → α) {j i j' i' f : Nat} (v : α) (hn : ¬ (j' = j ∧ i' = i)) : up3 C j i f v j' i' = C j' i' := funext fun f' => if_neg fun z => hn ⟨z.1, z.2.1⟩
theorem up3_on {α : Type} (C : Nat → Nat → Nat → α) (j i f : Nat) (v : α) : up3 C j i f v j i = fun f' => if f' = f then v else C j i f' := funext fun f' => by unfold up3; simp
theorem HR.cell (R : HR h A act zz C P) (ha : act j i) : ∃ e, h (A j i) = some e ∧ dCell A (dN zz j i) j (C j i) (P j i) e := R.1 j i ha
theorem HR.obj (R : HR h A act zz C P) (ha : act j i) (ho : dO j = some (ci, ks)) : ∃ fs : List Value, h (A j i) = some (.inr (ci, fs)) ∧ dF A ks (C j i) (P j i) fs := by
  obtain ⟨e, h1, h2⟩ := R.1 j i ha
  unfold dCell at h2
  rw [ho] at h2
  obtain ⟨fs, rfl, h3⟩ := h2
  exact ⟨fs, h1, h3⟩
theorem HR.arr (R : HR h A act zz C P) (ha : act j i) (ho : dO j = none) : ∃ e, h (A j i) = some e ∧ dE A (dR j).1 (dN zz j i) (C j i) (P j i) e := by
  obtain ⟨e, h1, h2⟩ := R.1 j i ha
  unfold dCell at h2
  rw [ho] at h2
  exact ⟨e, h1, h2⟩
/-- a cell is written -/
theorem HR.put {C1 : dC} {P1 : dP} {e : va_E} (R : HR h A act zz C P) (ha : act j i) (he : dCell A (dN zz j i) j (C1 j i) (P1 j i) e) (hC : ∀ j' i', ¬ (j' = j ∧ i' = i) → C1 j' i' = C j' i') (hP : ∀ j' i', ¬ (j' = j ∧ i' = i) → P1 j' i' = P j' i') (hq : ∀ f q, dRc j f → P1 j i f = some q → act q.1 q.2) : HR (va_up h (A j i) (some e)) A act zz C1 P1 := by
  refine ⟨fun j' i' ha' => ?_, R.2.1, fun j' i' f q ha' hr hp => ?_⟩
  · by_cases hn : j' = j ∧ i' = i
    · obtain ⟨rfl, rfl⟩ := hn
      exact ⟨e, by simp [va_up], he⟩
    · obtain ⟨e', h1, h2⟩ := R.1 j' i' ha'
      refine ⟨e', ?_, by rw [hC j' i' hn, hP j' i' hn]; exact h2⟩
      have hne : A j' i' ≠ A j i := fun z => hn (R.2.1 j' i' j i ha' ha z)
      simp [va_up, hne, h1]
  · by_cases hn : j' = j ∧ i' = i
    · obtain ⟨rfl, rfl⟩ := hn
      exact hq f q hr hp
    · rw [hP j' i' hn] at hp
      exact R.2.2 j' i' f q ha' hr hp
theorem dF.get {c : Nat → Int} {p : Nat → Option (Nat × Nat)} {fs : List Value} {k : Nat} (F : dF A ks c p fs) (hk : ks[f]? = some k) : ∃ v, fs[f]? = some v ∧ dV A k (c f) (p f) v := F.2 f k hk
theorem dF.len {c : Nat → Int} {p : Nat → Option (Nat × Nat)} {fs : List Value} {k : Nat} (F : dF A ks c p fs) (hk : ks[f]? = some k) : f < fs.length := by
  rw [F.1]
  exact (List.getElem?_eq_some_iff.mp hk).1
theorem dF.set {c : Nat → Int} {p : Nat → Option (Nat × Nat)} {fs : List Value} {k : Nat} {v : Value} {c1 : Nat → Int} {p1 : Nat → Option (Nat × Nat)} (F : dF A ks c p fs) (hk : ks[f]? = some k) (hv : dV A k (c1 f) (p1 f) v) (hc : ∀ g, g ≠ f → c1 g = c g) (hp : ∀ g, g ≠ f → p1 g = p g) : dF A ks c1 p1 (fs.set f v) := by
  refine ⟨by rw [List.length_set]; exact F.1, fun g k' hk' => ?_⟩
  by_cases hg : g = f
  · subst hg
    rw [hk] at hk'
    cases hk'
    exact ⟨v, by rw [List.getElem?_set_self (F.len hk)], hv⟩
  · obtain ⟨w, h1, h2⟩ := F.2 g k' hk'
    exact ⟨w, by rw [List.getElem?_set_ne (Ne.symm hg)]; exact h1, by rw [hc g hg, hp g hg]; exact h2⟩
/-! reading -/
theorem HR.gi {K : Int32 → Prop} (R : HR h A act zz C P) (ha : act j i) (ho : dO j = some (ci, ks)) (hk : ks[f]? = some 0) (k : ∀ x : Int32, x.toInt = C j i f → K x) : gi h (A j i) ci f K := by
  obtain ⟨fs, h1, F⟩ := R.obj ha ho
  obtain ⟨v, h2, x, rfl, h3⟩ := F.get hk
  exact ⟨fs, x, h1, h2, k x h3⟩
theorem HR.gl {K : Int64 → Prop} (R : HR h A act zz C P) (ha : act j i) (ho : dO j = some (ci, ks)) (hk : ks[f]? = some 1) (k : ∀ x : Int64, x.toInt = C j i f → K x) : gl h (A j i) ci f K := by
  obtain ⟨fs, h1, F⟩ := R.obj ha ho
  obtain ⟨v, h2, x, rfl, h3⟩ := F.get hk
  exact ⟨fs, x, h1, h2, k x h3⟩
theorem HR.gr {K : Option Nat → Prop} (R : HR h A act zz C P) (ha : act j i) (ho : dO j = some (ci, ks)) (hk : ks[f]? = some 2) (k : K ((P j i f).map (dad A))) : gr h (A j i) ci f K := by
  obtain ⟨fs, h1, F⟩ := R.obj ha ho
  obtain ⟨v, h2, h3⟩ := F.get hk
  exact ⟨fs, (P j i f).map (dad A), h1, by rw [h2, h3], k⟩
theorem HR.io {K : Prop} (R : HR h A act zz C P) (ha : act j i) (ho : dO j = some (ci, ks)) (k : K) : io h (A j i) ci K := by
  obtain ⟨fs, h1, F⟩ := R.obj ha ho
  exact ⟨fs, h1, k⟩
theorem nn_i {K : Nat → Prop} (k : K a) : nn (some a) K := ⟨a, rfl, k⟩
theorem dvin {x : Int32} {n m : Nat} (hx : x.toInt = (m : Int)) (hm : m < n) : vp_in x n := by
  intro z
  rcases z with z | z
  · rw [Int32.lt_iff_toInt_lt, hx, Int32.toInt_zero] at z
    omega
  · have : x.toNatClampNeg = m := by rw [← Int32.toNat_toInt, hx]; rfl
    omega
theorem dclamp {x : Int32} {m : Nat} (hx : x.toInt = (m : Int)) : x.toNatClampNeg = m := by rw [← Int32.toNat_toInt, hx]; rfl
theorem HR.li {K : Int32 → Prop} {x : Int32} {m : Nat} (R : HR h A act zz C P) (ha : act j i) (ho : dO j = none) (hr : (dR j).1 = 0) (hx : x.toInt = (m : Int)) (hm : m < dN zz j i) (k : ∀ y : Int32, y.toInt = C j i m → K y) : li h (A j i) x K := by
  obtain ⟨e, h1, h2⟩ := R.arr ha ho
  rw [hr] at h2
  obtain ⟨g, rfl, h3⟩ := h2
  exact ⟨_, g, h1, dvin hx hm, k _ (by rw [dclamp hx, h3])⟩
theorem HR.lz {K : Int32 → Prop} {x : Int32} {m : Nat} (R : HR h A act zz C P) (ha : act j i) (ho : dO j = none) (hr : (dR j).1 = 2) (hx : x.toInt = (m : Int)) (hm : m < dN zz j i) (k : ∀ y : Int32, y.toInt = C j i m → K y) : lz h (A j i) x K := by
  obtain ⟨e, h1, h2⟩ := R.arr ha ho
  rw [hr] at h2
  obtain ⟨g, rfl, h3⟩ := h2
  exact ⟨_, g, h1, dvin hx hm, k _ (by rw [dclamp hx, h3])⟩
theorem HR.ll {K : Int64 → Prop} {x : Int32} {m : Nat} (R : HR h A act zz C P) (ha : act j i) (ho : dO j = none) (hr : (dR j).1 = 1) (hx : x.toInt = (m : Int)) (hm : m < dN zz j i) (k : ∀ y : Int64, y.toInt = C j i m → K y) : ll h (A j i) x K := by
  obtain ⟨e, h1, h2⟩ := R.arr ha ho
  rw [hr] at h2
  obtain ⟨g, rfl, h3⟩ := h2
  exact ⟨_, g, h1, dvin hx hm, k _ (by rw [dclamp hx, h3])⟩
theorem HR.lq {K : Option Nat → Prop} {x : Int32} {m kt : Nat} (R : HR h A act zz C P) (ha : act j i) (ho : dO j = none) (hr : (dR j).1 = kt) (h3 : kt = 3 ∨ kt = 4 ∨ kt = 5) (hx : x.toInt = (m : Int)) (hm : m < dN zz j i) (k : K ((P j i m).map (dad A))) : lq h kt (A j i) x K := by
  obtain ⟨e, h1, h2⟩ := R.arr ha ho
  rw [hr] at h2
  rcases h3 with rfl | rfl | rfl <;> exact ⟨_, _, by rw [h1, h2], dvin hx hm, by rw [dclamp hx]; exact k⟩
theorem HR.al {K : Int32 → Prop} {n : Nat} (R : HR h A act zz C P) (ha : act j i) (ho : dO j = none) (hr : (dR j).1 < 6) (hn : dN zz j i = n) (hn2 : n < 2147483648) (k : ∀ y : Int32, y.toInt = (n : Int) → K y) : al h (A j i) K := by
  obtain ⟨e, h1, h2⟩ := R.arr ha ho
  have hk : K (Int32.ofNat n) := k _ (Int32.toInt_ofNat_of_lt (by omega))
  subst hn
  generalize (dR j).1 = kt at hr h2
  have h3 : kt = 0 ∨ kt = 1 ∨ kt = 2 ∨ kt = 3 ∨ kt = 4 ∨ kt = 5 := by omega
  rcases h3 with rfl | rfl | rfl | rfl | rfl | rfl
  · obtain ⟨g, rfl, h3⟩ := h2
    exact ⟨0, _, h1, by omega, hk⟩
  · obtain ⟨g, rfl, h3⟩ := h2
    exact ⟨1, _, h1, by omega, hk⟩
  · obtain ⟨g, rfl, h3⟩ := h2
    exact ⟨2, _, h1, by omega, hk⟩
  · exact ⟨3, _, by rw [h1, h2], by omega, hk⟩
  · exact ⟨4, _, by rw [h1, h2], by omega, hk⟩
  · exact ⟨5, _, by rw [h1, h2], by omega, hk⟩
theorem dRc_O {k : Nat} (ho : dO j = some (ci, ks)) (hk : ks[f]? = some k) (h2 : k ≠ 2) : ¬ dRc j f := fun z => by
  unfold dRc at z
  rw [ho] at z
  exact h2 (Option.some.inj (hk.symm.trans z))
/-! writing -/
theorem HR.pvI {K : gH → Prop} {x : Int32} {v : Int} (R : HR h A act zz C P) (ha : act j i) (ho : dO j = some (ci, ks)) (hk : ks[f]? = some 0) (hx : x.toInt = v) (k : ∀ h' : gH, HR h' A act zz (up3 C j i f v) P → K h') : pv h (A j i) ci f (.int x) K := by
  obtain ⟨fs, h1, F⟩ := R.obj ha ho
  refine ⟨fs, h1, F.len hk, k _ (R.put ha ?_ (fun j' i' hn => up3_off C v hn) (fun _ _ _ => rfl) (fun f q hr hp => R.2.2 j i f q ha hr hp))⟩
  unfold dCell
  rw [ho]
  exact ⟨_, rfl, F.set hk ⟨x, rfl, by rw [up3_same]; exact hx⟩ (fun g hg => up3_ne C v fun z => hg z.2.2) (fun _ _ => rfl)⟩
theorem HR.pvL {K : gH → Prop} {x : Int64} {v : Int} (R : HR h A act zz C P) (ha : act j i) (ho : dO j = some (ci, ks)) (hk : ks[f]? = some 1) (hx : x.toInt = v) (k : ∀ h' : gH, HR h' A act zz (up3 C j i f v) P → K h') : pv h (A j i) ci f (.long x) K := by
  obtain ⟨fs, h1, F⟩ := R.obj ha ho
  refine ⟨fs, h1, F.len hk, k _ (R.put ha ?_ (fun j' i' hn => up3_off C v hn) (fun _ _ _ => rfl) (fun f q hr hp => R.2.2 j i f q ha hr hp))⟩
  unfold dCell
  rw [ho]
  exact ⟨_, rfl, F.set hk ⟨x, rfl, by rw [up3_same]; exact hx⟩ (fun g hg => up3_ne C v fun z => hg z.2.2) (fun _ _ => rfl)⟩
theorem HR.pvQ {K : gH → Prop} {o : Option (Nat × Nat)} (R : HR h A act zz C P) (ha : act j i) (ho : dO j = some (ci, ks)) (hk : ks[f]? = some 2) (hq : ∀ q, o = some q → act q.1 q.2) (k : ∀ h' : gH, HR h' A act zz C (up3 P j i f o) → K h') : pv h (A j i) ci f (va_rf (o.map (dad A))) K := by
  obtain ⟨fs, h1, F⟩ := R.obj ha ho
  refine ⟨fs, h1, F.len hk, k _ (R.put ha ?_ (fun _ _ _ => rfl) (fun j' i' hn => up3_off P o hn) (fun g q hr hp => ?_))⟩
  · unfold dCell
    rw [ho]
    exact ⟨_, rfl, F.set hk (by rw [up3_same]; exact rfl) (fun _ _ => rfl) (fun g hg => up3_ne P o fun z => hg z.2.2)⟩
  · by_cases hg : g = f
    · subst hg
      rw [up3_same] at hp
      exact hq q hp
    · rw [up3_ne P o fun z => hg z.2.2] at hp
      exact R.2.2 j i g q ha hr hp
theorem HR.si {K : gH → Prop} {x y : Int32} {m : Nat} {v : Int} (R : HR h A act zz C P) (ha : act j i) (ho : dO j = none) (hr : (dR j).1 = 0) (hx : x.toInt = (m : Int)) (hm : m < dN zz j i) (hy : y.toInt = v) (k : ∀ h' : gH, HR h' A act zz (up3 C j i m v) P → K h') : si h (A j i) x y K := by
  obtain ⟨e, h1, h2⟩ := R.arr ha ho
  rw [hr] at h2
  obtain ⟨g, rfl, h3⟩ := h2
  refine ⟨_, g, h1, dvin hx hm, k _ (R.put ha ?_ (fun j' i' hn => up3_off C v hn) (fun _ _ _ => rfl) (fun f q hr hp => R.2.2 j i f q ha hr hp))⟩
  unfold dCell
  rw [ho]
  show dE A (dR j).1 _ _ _ _
  rw [hr]
  refine ⟨_, rfl, fun z => ?_⟩
  rw [dclamp hx, up3_on]
  show (upd g m y z).toInt = if z = m then v else C j i z
  unfold upd
  split
  · exact hy
  · exact h3 z
theorem nar_bool {y : Int32} (hb : y.toInt = 0 ∨ y.toInt = 1) : vp_nar .boolean y = y := by
  have : y = 0 ∨ y = 1 := hb.elim (fun z => Or.inl (Int32.toInt.inj z)) (fun z => Or.inr (Int32.toInt.inj z))
  rcases this with rfl | rfl <;> rfl
theorem HR.sz {K : gH → Prop} {x y : Int32} {m : Nat} {v : Int} (R : HR h A act zz C P) (ha : act j i) (ho : dO j = none) (hr : (dR j).1 = 2) (hx : x.toInt = (m : Int)) (hm : m < dN zz j i) (hy : y.toInt = v) (hv : v = 0 ∨ v = 1) (k : ∀ h' : gH, HR h' A act zz (up3 C j i m v) P → K h') : sz h (A j i) x y K := by
  obtain ⟨e, h1, h2⟩ := R.arr ha ho
  rw [hr] at h2
  obtain ⟨g, rfl, h3⟩ := h2
  refine ⟨_, g, h1, dvin hx hm, k _ (R.put ha ?_ (fun j' i' hn => up3_off C v hn) (fun _ _ _ => rfl) (fun f q hr hp => R.2.2 j i f q ha hr hp))⟩
  unfold dCell
  rw [ho]
  show dE A (dR j).1 _ _ _ _
  rw [hr]
  refine ⟨_, rfl, fun z => ?_⟩
  rw [dclamp hx, up3_on, nar_bool (by rw [hy]; exact hv)]
  show (upd g m y z).toInt = if z = m then v else C j i z
  unfold upd
  split
  · exact hy
  · exact h3 z
theorem HR.sl {K : gH → Prop} {x : Int32} {y : Int64} {m : Nat} {v : Int} (R : HR h A act zz C P) (ha : act j i) (ho : dO j = none) (hr : (dR j).1 = 1) (hx : x.toInt = (m : Int)) (hm : m < dN zz j i) (hy : y.toInt = v) (k : ∀ h' : gH, HR h' A act zz (up3 C j i m v) P → K h') : sl h (A j i) x y K := by
  obtain ⟨e, h1, h2⟩ := R.arr ha ho
  rw [hr] at h2
  obtain ⟨g, rfl, h3⟩ := h2
  refine ⟨_, g, h1, dvin hx hm, k _ (R.put ha ?_ (fun j' i' hn => up3_off C v hn) (fun _ _ _ => rfl) (fun f q hr hp => R.2.2 j i f q ha hr hp))⟩
  unfold dCell
  rw [ho]
  show dE A (dR j).1 _ _ _ _
  rw [hr]
  refine ⟨_, rfl, fun z => ?_⟩
  rw [dclamp hx, up3_on]
  show (vp_updL g m y z).toInt = if z = m then v else C j i z
  unfold vp_updL
  split
  · exact hy
  · exact h3 z
theorem HR.sq {K : gH → Prop} {x : Int32} {m j' i' kt : Nat} (R : HR h A act zz C P) (ha : act j i) (ho : dO j = none) (hr : (dR j).1 = kt) (hkt : kt = 3 ∧ (j' = 9 ∨ j' = 12 ∨ j' = 14 ∨ j' = 15) ∨ kt = 5 ∧ j' = 21) (hx : x.toInt = (m : Int)) (hm : m < dN zz j i) (ha' : act j' i') (k : ∀ h' : gH, HR h' A act zz C (up3 P j i m (some (j', i'))) → K h') : sq h kt (A j i) x (A j' i') K := by
  obtain ⟨e, h1, h2⟩ := R.arr ha ho
  have hO : kt = 3 ∧ gOb h (A j' i') ∨ kt = 5 ∧ ∃ fs, h (A j' i') = some (.inr (6, fs)) := by
    rcases hkt with ⟨rfl, z⟩ | ⟨rfl, rfl⟩
    · left
      refine ⟨rfl, ?_⟩
      rcases z with rfl | rfl | rfl | rfl
      · obtain ⟨fs, q, -⟩ := R.obj ha' (ci := 4) rfl
        exact ⟨_, fs, q, by omega⟩
      · obtain ⟨fs, q, -⟩ := R.obj ha' (ci := 8) rfl
        exact ⟨_, fs, q, by omega⟩
      · obtain ⟨fs, q, -⟩ := R.obj ha' (ci := 10) rfl
        exact ⟨_, fs, q, by omega⟩
      · obtain ⟨fs, q, -⟩ := R.obj ha' (ci := 12) rfl
        exact ⟨_, fs, q, by omega⟩
    · right
      obtain ⟨fs, q, -⟩ := R.obj ha' (ci := 6) rfl
      exact ⟨rfl, fs, q⟩
  have hput : ∀ e1 : va_E, dE A kt (dN zz j i) (C j i) (up3 P j i m (some (j', i')) j i) e1 → HR (va_up h (A j i) (some e1)) A act zz C (up3 P j i m (some (j', i'))) := fun e1 he1 => R.put ha (by unfold dCell; rw [ho]; show dE A (dR j).1 _ _ _ _; rw [hr]; exact he1) (fun _ _ _ => rfl) (fun j' i' hn => up3_off P _ hn) (fun g q hr hp => by
    by_cases hg : g = m
    · subst hg
      rw [up3_same] at hp
      cases hp
      exact ha'
    · rw [up3_ne P _ fun z => hg z.2.2] at hp
      exact R.2.2 j i g q ha hr hp)
  have hfn : va_up (fun x => (P j i x).map (dad A)) m (some (A j' i')) = fun x => (up3 P j i m (some (j', i')) j i x).map (dad A) := funext fun z => by
    rw [up3_on]
    show va_up _ m _ z = Option.map (dad A) (if z = m then some (j', i') else P j i z)
    unfold va_up
    split <;> rfl
  rw [hr] at h2
  have h3 : kt = 3 ∨ kt = 5 := by omega
  rcases h3 with rfl | rfl
  · refine ⟨_, _, by rw [h1, h2], dvin hx hm, hO, k _ ?_⟩
    rw [dclamp hx, hfn]
    exact hput _ rfl
  · refine ⟨_, _, by rw [h1, h2], dvin hx hm, hO, k _ ?_⟩
    rw [dclamp hx, hfn]
    exact hput _ rfl
/-- a new cell takes a role that was free -/
theorem HR.nw {K : Nat → gH → Prop} {c0 : va_E} {C1 : dC} {P1 : dP} {zz1 : Nat → Nat} (J I : Nat) (R : HR h A act zz C P) (hn : ¬ act J I)
    (he : ∀ A1 : dA, dCell A1 (dN zz1 J I) J (C1 J I) (P1 J I) c0) (hs : ∀ j i, ¬ (j = J ∧ i = I) → dN zz1 j i = dN zz j i)
    (hC : ∀ j i, ¬ (j = J ∧ i = I) → C1 j i = C j i) (hP : ∀ j i, ¬ (j = J ∧ i = I) → P1 j i = P j i) (hq : ∀ f q, P1 J I f = some q → False)
    (k : ∀ (A1 : dA) (h' : gH), (∀ j i, ¬ (j = J ∧ i = I) → A1 j i = A j i) → HR h' A1 (fun j i => act j i ∨ (j = J ∧ i = I)) zz1 C1 P1 → K (A1 J I) h') : nw h c0 K := by
  intro q hqn
  have := k (up2 A J I q) (va_up h q (some c0)) (fun j i z => up2_ne A q z) ?_
  · rw [up2_same] at this
    exact this
  have hact : ∀ j i, act j i → ¬ (j = J ∧ i = I) := fun j i ha z => by
    obtain ⟨rfl, rfl⟩ := z
    exact hn ha
  have hAq : ∀ j i, act j i → A j i ≠ q := fun j i ha z => by
    obtain ⟨e, h1, -⟩ := R.1 j i ha
    rw [z, hqn] at h1
    cases h1
  refine ⟨fun j i ha => ?_, fun j i j' i' ha ha' z => ?_, fun j i f q' ha hr hp => ?_⟩
  · by_cases hj : j = J ∧ i = I
    · obtain ⟨rfl, rfl⟩ := hj
      exact ⟨c0, by rw [up2_same]; simp [va_up], he _⟩
    · have ha := ha.resolve_right hj
      obtain ⟨e, h1, h2⟩ := R.1 j i ha
      refine ⟨e, by rw [up2_ne A q hj]; simp [va_up, hAq j i ha, h1], ?_⟩
      rw [hs j i hj, hC j i hj, hP j i hj]
      have hm : ∀ f, dRc j f → (P j i f).map (dad (up2 A J I q)) = (P j i f).map (dad A) := fun f hr => by
        cases hp : P j i f with
        | none => rfl
        | some r =>
          have := R.2.2 j i f r ha hr hp
          show some (up2 A J I q r.1 r.2) = some (A r.1 r.2)
          rw [up2_ne A q (hact _ _ this)]
      unfold dCell at h2 ⊢
      cases ho : dO j with
      | some o =>
        rw [ho] at h2
        obtain ⟨fs, rfl, F⟩ := h2
        refine ⟨fs, rfl, F.1, fun f k hk => ?_⟩
        obtain ⟨v, h3, h4⟩ := F.2 f k hk
        refine ⟨v, h3, ?_⟩
        match k, hk, h4 with
        | 0, _, h4 => exact h4
        | 1, _, h4 => exact h4
        | 2, hk, h4 =>
          show v = _
          rw [hm f (by unfold dRc; rw [ho]; exact hk)]
          exact h4
        | k + 3, hk, h4 =>
          exact absurd hk (by
            have : ∀ o' : Nat × List Nat, dO j = some o' → ∀ f : Nat, o'.2[f]? ≠ some (k + 3) := by
              intro o' ho' f hk
              have hmem := List.mem_of_getElem? hk
              unfold dO at ho'
              split at ho' <;> first | (cases ho'; simp at hmem; done) | (cases ho'; simp at hmem; omega) | cases ho'
            exact this o ho f)
      | none =>
        rw [ho] at h2
        have hm3 : 3 ≤ (dR j).1 → (fun x => (P j i x).map (dad (up2 A J I q))) = fun x => (P j i x).map (dad A) := fun h3 => funext fun x => hm x (by unfold dRc; rw [ho]; exact h3)
        show dE _ (dR j).1 _ _ _ _
        replace h2 : dE A (dR j).1 (dN zz j i) (C j i) (P j i) e := h2
        generalize (dR j).1 = kt at h2 hm3
        match kt, h2, hm3 with
        | 0, h2, _ => exact h2
        | 1, h2, _ => exact h2
        | 2, h2, _ => exact h2
        | 3, h2, hm3 => show e = _; rw [hm3 (by omega)]; exact h2
        | 4, h2, hm3 => show e = _; rw [hm3 (by omega)]; exact h2
        | 5, h2, hm3 => show e = _; rw [hm3 (by omega)]; exact h2
        | kt + 6, h2, _ => exact h2
  · by_cases hj : j = J ∧ i = I
    · by_cases hj' : j' = J ∧ i' = I
      · exact ⟨hj.1.trans hj'.1.symm, hj.2.trans hj'.2.symm⟩
      · rw [hj.1, hj.2, up2_same, up2_ne A q hj'] at z
        exact absurd z.symm (hAq _ _ (ha'.resolve_right hj'))
    · by_cases hj' : j' = J ∧ i' = I
      · rw [hj'.1, hj'.2, up2_same, up2_ne A q hj] at z
        exact absurd z (hAq _ _ (ha.resolve_right hj))
      · rw [up2_ne A q hj, up2_ne A q hj'] at z
        exact R.2.1 _ _ _ _ (ha.resolve_right hj) (ha'.resolve_right hj') z
  · by_cases hj : j = J ∧ i = I
    · obtain ⟨rfl, rfl⟩ := hj
      exact (hq f q' hp).elim
    · rw [hP j i hj] at hp
      exact Or.inl (R.2.2 j i f q' (ha.resolve_right hj) hr hp)
/-- fewer roles -/
theorem HR.sub {act1 : Nat → Nat → Prop} (R : HR h A act zz C P) (hs : ∀ j i, act1 j i → act j i) (hq : ∀ j i f q, act1 j i → dRc j f → P j i f = some q → act1 q.1 q.2) : HR h A act1 zz C P :=
  ⟨fun j i ha => R.1 j i (hs j i ha), fun j i j' i' ha ha' z => R.2.1 j i j' i' (hs j i ha) (hs j' i' ha') z, hq⟩
end HRS
