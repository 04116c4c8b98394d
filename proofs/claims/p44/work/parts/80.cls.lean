/-! ===== the class: what was added, as the reference has it ===== -/
def hiS (S : dC) : dC := fun j i f => if sta j f = true then S j i f else 0
def loC (C : dC) : dC := fun j i f => if j < 21 then C j i f else 0
def loP (P : dP) : dP := fun j i f => if j < 21 then P j i f else none
def KS0 (S : dC) (N zz : Nat → Nat) (C : dC) (P : dP)  : Prop := (C 4 0 1 = S 38 0 3) ∧ (∀ p : Nat, (p : Int) < S 38 0 3 → C 5 0 p = S 42 0 p) ∧ (C 4 0 6 = S 38 0 22) ∧ (C 6 0 2 = S 38 0 8 ∧ C 6 1 2 = S 38 0 14 ∧ C 6 2 2 = S 38 0 19 ∧ C 6 3 2 = S 38 0 21) ∧ (∀ n : Nat, n < N 1 → C 6 (n + 5) 2 = S 51 0 n) ∧ ((N 0 : Int) = S 38 0 8 ∧ (N 1 : Int) = S 38 0 14 ∧ (N 2 : Int) = S 38 0 19 ∧ (N 3 : Int) = S 38 0 21) ∧ (∀ i : Nat, i < N 1 + 5 → (C 6 i 2 = 0 ∧ P 6 i 1 = some (8, 0)) ∨ exN (fun a => P 6 i 1 = some (7, a) ∧ a < N 4 ∧ 0 ≤ C 6 i 2 ∧ C 6 i 2 ≤ zz a ∧ 0 < zz a ∧ zz a ≤ 40)) ∧ (∀ i i' a : Nat, i < N 1 + 5 → i' < N 1 + 5 → P 6 i 1 = some (7, a) → P 6 i' 1 = some (7, a) → i = i') ∧ (∀ a c : Nat, P 6 0 1 = some (7, a) → c < N 0 → P 7 a c = some (9, c + 1)) ∧ (∀ a n : Nat, P 6 1 1 = some (7, a) → n < N 1 → P 7 a n = some (12, n + 1)) ∧ (∀ a s : Nat, P 6 2 1 = some (7, a) → s < N 2 → P 7 a s = some (14, s + 1)) ∧ (∀ a t : Nat, P 6 3 1 = some (7, a) → t < N 3 → P 7 a t = some (15, t + 1)) ∧ (∃ sg : Nat → Nat → Nat, ∀ n : Nat, n < N 1 → (∀ i : Nat, (i : Int) < S 51 0 n → ((sg n i : Nat) : Int) < S 51 0 n ∧ (∀ a : Nat, P 6 (n + 5) 1 = some (7, a) → P 7 a i = some (12, (S 52 0 (5 * n + sg n i)).toNat + 1)) ∧ C 13 (n + 1) i = S 53 0 (5 * n + sg n i)) ∧ (∀ k : Nat, (k : Int) < S 51 0 n → ∃ i : Nat, (i : Int) < S 51 0 n ∧ sg n i = k)) ∧ (∀ n i : Nat, n < N 1 → (i : Int) + 1 < S 51 0 n → C 13 (n + 1) i < C 13 (n + 1) (i + 1)) ∧ (∀ n : Nat, n < N 1 → (S 49 0 n = -1 → P 12 (n + 1) 0 = none ∧ C 12 (n + 1) 1 = S 50 0 n) ∧ (S 49 0 n ≠ -1 → P 12 (n + 1) 0 = some (9, (S 49 0 n).toNat + 1))) ∧ (∀ c : Nat, c < N 0 → C 9 (c + 1) 0 = (c : Int) ∧ C 9 (c + 1) 1 = S 44 0 c ∧ C 9 (c + 1) 4 = S 45 0 c) ∧ (∀ c k : Nat, c < N 0 → (k : Int) < S 45 0 c → C 10 (c + 1) k = S 46 0 (5 * c + k) ∧ C 11 (c + 1) k = S 47 0 (5 * c + k)) ∧ (∀ s : Nat, s < N 2 → C 14 (s + 1) 0 = (s : Int) ∧ P 14 (s + 1) 1 = some (12, (S 55 0 s).toNat + 1) ∧ C 14 (s + 1) 2 = S 56 0 s ∧ C 14 (s + 1) 3 = S 57 0 s ∧ C 14 (s + 1) 4 = S 58 0 s) ∧ (∀ t : Nat, t < N 3 → P 15 (t + 1) 1 = (if S 60 0 (17 * t) = -1 then none else some (14, (S 60 0 (17 * t)).toNat + 1)) ∧ P 15 (t + 1) 2 = some (14, (S 60 0 (17 * t + 1)).toNat + 1)) ∧ (∀ t : Nat, t < N 3 → C 15 (t + 1) 0 = (t : Int) ∧ C 15 (t + 1) 3 = S 60 0 (17 * t + 2) ∧ C 15 (t + 1) 4 = S 60 0 (17 * t + 3) ∧ C 15 (t + 1) 5 = S 60 0 (17 * t + 4) ∧ C 15 (t + 1) 6 = S 60 0 (17 * t + 5) ∧ C 15 (t + 1) 7 = S 60 0 (17 * t + 6) ∧ C 15 (t + 1) 11 = S 60 0 (17 * t + 7)) ∧ (∀ t k : Nat, t < N 3 → (k : Int) < S 60 0 (17 * t + 7) → C 16 (t + 1) k = S 60 0 (17 * t + 8 + 3 * k) ∧ C 17 (t + 1) k = S 60 0 (17 * t + 8 + 3 * k + 1) ∧ C 18 (t + 1) k = S 60 0 (17 * t + 8 + 3 * k + 2)) ∧ (C 19 0 2 = S 38 0 24 ∧ ∀ i : Nat, (i : Int) < S 38 0 24 → C 20 0 i = S 63 0 i)
def KS (S : dC) (N zz : Nat → Nat) (C : dC) (P : dP)  : Prop := KS0  (hiS S) N zz (loC C) (loP P)
theorem KS.np {S : dC} {N zz : Nat → Nat} {C : dC} {P : dP}  (I : KS S N zz C P) : C 4 0 1 = S 38 0 3 := I.1
theorem KS.kd {S : dC} {N zz : Nat → Nat} {C : dC} {P : dP}  (I : KS S N zz C P) : ∀ p : Nat, (p : Int) < S 38 0 3 → C 5 0 p = S 42 0 p := I.2.1
theorem KS.th {S : dC} {N zz : Nat → Nat} {C : dC} {P : dP}  (I : KS S N zz C P) : C 4 0 6 = S 38 0 22 := I.2.2.1
theorem KS.sz {S : dC} {N zz : Nat → Nat} {C : dC} {P : dP}  (I : KS S N zz C P) : C 6 0 2 = S 38 0 8 ∧ C 6 1 2 = S 38 0 14 ∧ C 6 2 2 = S 38 0 19 ∧ C 6 3 2 = S 38 0 21 := I.2.2.2.1
theorem KS.szc {S : dC} {N zz : Nat → Nat} {C : dC} {P : dP}  (I : KS S N zz C P) : ∀ n : Nat, n < N 1 → C 6 (n + 5) 2 = S 51 0 n := I.2.2.2.2.1
theorem KS.nn {S : dC} {N zz : Nat → Nat} {C : dC} {P : dP}  (I : KS S N zz C P) : (N 0 : Int) = S 38 0 8 ∧ (N 1 : Int) = S 38 0 14 ∧ (N 2 : Int) = S 38 0 19 ∧ (N 3 : Int) = S 38 0 21 := I.2.2.2.2.2.1
theorem KS.ar {S : dC} {N zz : Nat → Nat} {C : dC} {P : dP}  (I : KS S N zz C P) : ∀ i : Nat, i < N 1 + 5 → (C 6 i 2 = 0 ∧ P 6 i 1 = some (8, 0)) ∨ exN (fun a => P 6 i 1 = some (7, a) ∧ a < N 4 ∧ 0 ≤ C 6 i 2 ∧ C 6 i 2 ≤ zz a ∧ 0 < zz a ∧ zz a ≤ 40) := I.2.2.2.2.2.2.1
theorem KS.aa {S : dC} {N zz : Nat → Nat} {C : dC} {P : dP}  (I : KS S N zz C P) : ∀ i i' a : Nat, i < N 1 + 5 → i' < N 1 + 5 → P 6 i 1 = some (7, a) → P 6 i' 1 = some (7, a) → i = i' := I.2.2.2.2.2.2.2.1
theorem KS.e0 {S : dC} {N zz : Nat → Nat} {C : dC} {P : dP}  (I : KS S N zz C P) : ∀ a c : Nat, P 6 0 1 = some (7, a) → c < N 0 → P 7 a c = some (9, c + 1) := I.2.2.2.2.2.2.2.2.1
theorem KS.e1 {S : dC} {N zz : Nat → Nat} {C : dC} {P : dP}  (I : KS S N zz C P) : ∀ a n : Nat, P 6 1 1 = some (7, a) → n < N 1 → P 7 a n = some (12, n + 1) := I.2.2.2.2.2.2.2.2.2.1
theorem KS.e2 {S : dC} {N zz : Nat → Nat} {C : dC} {P : dP}  (I : KS S N zz C P) : ∀ a s : Nat, P 6 2 1 = some (7, a) → s < N 2 → P 7 a s = some (14, s + 1) := I.2.2.2.2.2.2.2.2.2.2.1
theorem KS.e3 {S : dC} {N zz : Nat → Nat} {C : dC} {P : dP}  (I : KS S N zz C P) : ∀ a t : Nat, P 6 3 1 = some (7, a) → t < N 3 → P 7 a t = some (15, t + 1) := I.2.2.2.2.2.2.2.2.2.2.2.1
theorem KS.ch {S : dC} {N zz : Nat → Nat} {C : dC} {P : dP}  (I : KS S N zz C P) : ∃ sg : Nat → Nat → Nat, ∀ n : Nat, n < N 1 → (∀ i : Nat, (i : Int) < S 51 0 n → ((sg n i : Nat) : Int) < S 51 0 n ∧ (∀ a : Nat, P 6 (n + 5) 1 = some (7, a) → P 7 a i = some (12, (S 52 0 (5 * n + sg n i)).toNat + 1)) ∧ C 13 (n + 1) i = S 53 0 (5 * n + sg n i)) ∧ (∀ k : Nat, (k : Int) < S 51 0 n → ∃ i : Nat, (i : Int) < S 51 0 n ∧ sg n i = k) := I.2.2.2.2.2.2.2.2.2.2.2.2.1
theorem KS.so {S : dC} {N zz : Nat → Nat} {C : dC} {P : dP}  (I : KS S N zz C P) : ∀ n i : Nat, n < N 1 → (i : Int) + 1 < S 51 0 n → C 13 (n + 1) i < C 13 (n + 1) (i + 1) := I.2.2.2.2.2.2.2.2.2.2.2.2.2.1
theorem KS.nd {S : dC} {N zz : Nat → Nat} {C : dC} {P : dP}  (I : KS S N zz C P) : ∀ n : Nat, n < N 1 → (S 49 0 n = -1 → P 12 (n + 1) 0 = none ∧ C 12 (n + 1) 1 = S 50 0 n) ∧ (S 49 0 n ≠ -1 → P 12 (n + 1) 0 = some (9, (S 49 0 n).toNat + 1)) := I.2.2.2.2.2.2.2.2.2.2.2.2.2.2.1
theorem KS.cl {S : dC} {N zz : Nat → Nat} {C : dC} {P : dP}  (I : KS S N zz C P) : ∀ c : Nat, c < N 0 → C 9 (c + 1) 0 = (c : Int) ∧ C 9 (c + 1) 1 = S 44 0 c ∧ C 9 (c + 1) 4 = S 45 0 c := I.2.2.2.2.2.2.2.2.2.2.2.2.2.2.2.1
theorem KS.ce {S : dC} {N zz : Nat → Nat} {C : dC} {P : dP}  (I : KS S N zz C P) : ∀ c k : Nat, c < N 0 → (k : Int) < S 45 0 c → C 10 (c + 1) k = S 46 0 (5 * c + k) ∧ C 11 (c + 1) k = S 47 0 (5 * c + k) := I.2.2.2.2.2.2.2.2.2.2.2.2.2.2.2.2.1
theorem KS.st {S : dC} {N zz : Nat → Nat} {C : dC} {P : dP}  (I : KS S N zz C P) : ∀ s : Nat, s < N 2 → C 14 (s + 1) 0 = (s : Int) ∧ P 14 (s + 1) 1 = some (12, (S 55 0 s).toNat + 1) ∧ C 14 (s + 1) 2 = S 56 0 s ∧ C 14 (s + 1) 3 = S 57 0 s ∧ C 14 (s + 1) 4 = S 58 0 s := I.2.2.2.2.2.2.2.2.2.2.2.2.2.2.2.2.2.1
theorem KS.tf {S : dC} {N zz : Nat → Nat} {C : dC} {P : dP}  (I : KS S N zz C P) : ∀ t : Nat, t < N 3 → P 15 (t + 1) 1 = (if S 60 0 (17 * t) = -1 then none else some (14, (S 60 0 (17 * t)).toNat + 1)) ∧ P 15 (t + 1) 2 = some (14, (S 60 0 (17 * t + 1)).toNat + 1) := I.2.2.2.2.2.2.2.2.2.2.2.2.2.2.2.2.2.2.1
theorem KS.tr {S : dC} {N zz : Nat → Nat} {C : dC} {P : dP}  (I : KS S N zz C P) : ∀ t : Nat, t < N 3 → C 15 (t + 1) 0 = (t : Int) ∧ C 15 (t + 1) 3 = S 60 0 (17 * t + 2) ∧ C 15 (t + 1) 4 = S 60 0 (17 * t + 3) ∧ C 15 (t + 1) 5 = S 60 0 (17 * t + 4) ∧ C 15 (t + 1) 6 = S 60 0 (17 * t + 5) ∧ C 15 (t + 1) 7 = S 60 0 (17 * t + 6) ∧ C 15 (t + 1) 11 = S 60 0 (17 * t + 7) := I.2.2.2.2.2.2.2.2.2.2.2.2.2.2.2.2.2.2.2.1
theorem KS.tc {S : dC} {N zz : Nat → Nat} {C : dC} {P : dP}  (I : KS S N zz C P) : ∀ t k : Nat, t < N 3 → (k : Int) < S 60 0 (17 * t + 7) → C 16 (t + 1) k = S 60 0 (17 * t + 8 + 3 * k) ∧ C 17 (t + 1) k = S 60 0 (17 * t + 8 + 3 * k + 1) ∧ C 18 (t + 1) k = S 60 0 (17 * t + 8 + 3 * k + 2) := I.2.2.2.2.2.2.2.2.2.2.2.2.2.2.2.2.2.2.2.2.1
theorem KS.tx {S : dC} {N zz : Nat → Nat} {C : dC} {P : dP}  (I : KS S N zz C P) : C 19 0 2 = S 38 0 24 ∧ ∀ i : Nat, (i : Int) < S 38 0 24 → C 20 0 i = S 63 0 i := I.2.2.2.2.2.2.2.2.2.2.2.2.2.2.2.2.2.2.2.2.2
theorem KS.fr {S : dC} {N zz : Nat → Nat} {C C' : dC} {P P' : dP} (K : KS S N zz C P) (hC : ∀ j i f : Nat, j < 21 → C' j i f = C j i f) (hP : ∀ j i f : Nat, j < 21 → P' j i f = P j i f) : KS S N zz C' P' := by
  have e1 : loC C' = loC C := funext fun j => funext fun i => funext fun f => by
    unfold loC
    by_cases z : j < 21
    · rw [if_pos z, if_pos z, hC j i f z]
    · rw [if_neg z, if_neg z]
  have e2 : loP P' = loP P := funext fun j => funext fun i => funext fun f => by
    unfold loP
    by_cases z : j < 21
    · rw [if_pos z, if_pos z, hP j i f z]
    · rw [if_neg z, if_neg z]
  unfold KS
  rw [e1, e2]
  exact K
theorem KS.st_ {S S' : dC} {N zz : Nat → Nat} {C : dC} {P : dP} (K : KS S N zz C P) (E : St S S') : KS S' N zz C P := by
  have e1 : hiS S' = hiS S := funext fun j => funext fun i => funext fun f => by
    unfold hiS
    by_cases z : sta j f = true
    · rw [if_pos z, if_pos z, E j i f z]
    · rw [if_neg z, if_neg z]
  unfold KS
  rw [e1]
  exact K
/-! a machine of the class, and its slice of numbers -/
def CP (S : dC) (k : Nat) (tq : Int) (M : dM) (C : dC) (P : dP) : Prop := (∀ p : Nat, p < 8 → C 22 k p = M p) ∧ (C 21 k 8 = M 11) ∧ (C 21 k 9 = tq) ∧ (C 33 k 1 = M 288) ∧ (C 21 k 6 = M 20) ∧ (M 8 = 0 → P 21 k 4 = none) ∧ (M 8 = 1 → P 21 k 4 = some (15, (M 9).toNat + 1) ∧ C 21 k 5 = M 10) ∧ (0 < S 38 0 19 → P 23 k 0 = some (14, (M 12).toNat + 1)) ∧ (C 23 k 1 = M 13 ∧ C 23 k 2 = M 14 ∧ (0 < S 38 0 19 → C 23 k 3 = M 15)) ∧ (M 8 = 1 → P 24 k 0 = some (14, (M 16).toNat + 1) ∧ C 24 k 1 = M 17 ∧ C 24 k 2 = M 18 ∧ C 24 k 3 = M 19) ∧ (M 20 = 1 → C 25 k 3 = M 21 ∧ ∀ i : Nat, (i : Int) < M 21 → C 26 k i = M (22 + 3 * i) ∧ C 27 k i = M (23 + 3 * i) ∧ C 28 k i = M (24 + 3 * i)) ∧ (∀ e w : Nat, (e : Int) < M 166 → w < 4 → C 35 (4 * k + w) (((M 288 - M 166).toNat + e) % 30) = M (167 + 4 * e + w)) ∧ ((C 23 k 3 = 0 ∨ C 23 k 3 = 1) ∧ (C 23 k 5 = 0 ∨ C 23 k 5 = 1) ∧ (C 24 k 3 = 0 ∨ C 24 k 3 = 1) ∧ (C 24 k 5 = 0 ∨ C 24 k 5 = 1))
theorem CP.va {S : dC} {k : Nat} {tq : Int} {M : dM} {C : dC} {P : dP} (I : CP S k tq M C P) : ∀ p : Nat, p < 8 → C 22 k p = M p := I.1
theorem CP.cu {S : dC} {k : Nat} {tq : Int} {M : dM} {C : dC} {P : dP} (I : CP S k tq M C P) : C 21 k 8 = M 11 := I.2.1
theorem CP.tk {S : dC} {k : Nat} {tq : Int} {M : dM} {C : dC} {P : dP} (I : CP S k tq M C P) : C 21 k 9 = tq := I.2.2.1
theorem CP.fi {S : dC} {k : Nat} {tq : Int} {M : dM} {C : dC} {P : dP} (I : CP S k tq M C P) : C 33 k 1 = M 288 := I.2.2.2.1
theorem CP.fz {S : dC} {k : Nat} {tq : Int} {M : dM} {C : dC} {P : dP} (I : CP S k tq M C P) : C 21 k 6 = M 20 := I.2.2.2.2.1
theorem CP.mi {S : dC} {k : Nat} {tq : Int} {M : dM} {C : dC} {P : dP} (I : CP S k tq M C P) : M 8 = 0 → P 21 k 4 = none := I.2.2.2.2.2.1
theorem CP.mx {S : dC} {k : Nat} {tq : Int} {M : dM} {C : dC} {P : dP} (I : CP S k tq M C P) : M 8 = 1 → P 21 k 4 = some (15, (M 9).toNat + 1) ∧ C 21 k 5 = M 10 := I.2.2.2.2.2.2.1
theorem CP.sa {S : dC} {k : Nat} {tq : Int} {M : dM} {C : dC} {P : dP} (I : CP S k tq M C P) : 0 < S 38 0 19 → P 23 k 0 = some (14, (M 12).toNat + 1) := I.2.2.2.2.2.2.2.1
theorem CP.ta {S : dC} {k : Nat} {tq : Int} {M : dM} {C : dC} {P : dP} (I : CP S k tq M C P) : C 23 k 1 = M 13 ∧ C 23 k 2 = M 14 ∧ (0 < S 38 0 19 → C 23 k 3 = M 15) := I.2.2.2.2.2.2.2.2.1
theorem CP.sb {S : dC} {k : Nat} {tq : Int} {M : dM} {C : dC} {P : dP} (I : CP S k tq M C P) : M 8 = 1 → P 24 k 0 = some (14, (M 16).toNat + 1) ∧ C 24 k 1 = M 17 ∧ C 24 k 2 = M 18 ∧ C 24 k 3 = M 19 := I.2.2.2.2.2.2.2.2.2.1
theorem CP.fr {S : dC} {k : Nat} {tq : Int} {M : dM} {C : dC} {P : dP} (I : CP S k tq M C P) : M 20 = 1 → C 25 k 3 = M 21 ∧ ∀ i : Nat, (i : Int) < M 21 → C 26 k i = M (22 + 3 * i) ∧ C 27 k i = M (23 + 3 * i) ∧ C 28 k i = M (24 + 3 * i) := I.2.2.2.2.2.2.2.2.2.2.1
theorem CP.ev {S : dC} {k : Nat} {tq : Int} {M : dM} {C : dC} {P : dP} (I : CP S k tq M C P) : ∀ e w : Nat, (e : Int) < M 166 → w < 4 → C 35 (4 * k + w) (((M 288 - M 166).toNat + e) % 30) = M (167 + 4 * e + w) := I.2.2.2.2.2.2.2.2.2.2.2.1
theorem CP.bo {S : dC} {k : Nat} {tq : Int} {M : dM} {C : dC} {P : dP} (I : CP S k tq M C P) : (C 23 k 3 = 0 ∨ C 23 k 3 = 1) ∧ (C 23 k 5 = 0 ∨ C 23 k 5 = 1) ∧ (C 24 k 3 = 0 ∨ C 24 k 3 = 1) ∧ (C 24 k 5 = 0 ∨ C 24 k 5 = 1) := I.2.2.2.2.2.2.2.2.2.2.2.2
section CL
variable {h : gH} {A : dA} {N zz : Nat → Nat} {S C : dC} {P : dP} {t0 : Nat}
theorem ac14 {k : Nat} {j : Nat} (hj : 21 ≤ j ∧ j ≤ 37 ∧ j ≠ 35) (hk : k < 4) : ac N j k := by
  have : j = 21 ∨ j = 22 ∨ j = 23 ∨ j = 24 ∨ j = 25 ∨ j = 26 ∨ j = 27 ∨ j = 28 ∨ j = 29 ∨ j = 30 ∨ j = 31 ∨ j = 32 ∨ j = 33 ∨ j = 34 ∨ j = 36 ∨ j = 37 := by omega
  rcases this with z | z | z | z | z | z | z | z | z | z | z | z | z | z | z | z <;> subst z <;> exact hk
/-- rows said of columns, with what is read there -/
theorem ygi {K : Int32 → Prop} {j i f ci : Nat} {v : Int} (R : D h A N zz C P) (ha : ac N j i) (ho : dK j f = some (ci, 0)) (e : C j i f = v) (k : ∀ x : Int32, x.toInt = v → K x) : gi h (A j i) ci f K := wgi R ha ho (fun x hx => k x (hx.trans e))
theorem ygl {K : Int64 → Prop} {j i f ci : Nat} {v : Int} (R : D h A N zz C P) (ha : ac N j i) (ho : dK j f = some (ci, 1)) (e : C j i f = v) (k : ∀ x : Int64, x.toInt = v → K x) : gl h (A j i) ci f K := wgl R ha ho (fun x hx => k x (hx.trans e))
theorem yli {K : Int32 → Prop} {x : Int32} {j i m : Nat} {v : Int} (R : D h A N zz C P) (ha : ac N j i) (ho : dK2 j = 0) (hx : x.toInt = (m : Int)) (hm : m < dN zz j i) (e : C j i m = v) (k : ∀ y : Int32, y.toInt = v → K y) : li h (A j i) x K := wli R ha ho hx hm (fun y hy => k y (hy.trans e))
theorem ygr {K : Option Nat → Prop} {j i f ci j' i' : Nat} (R : D h A N zz C P) (ha : ac N j i) (ho : dK j f = some (ci, 2)) (e : P j i f = some (j', i')) (k : K (some (A j' i'))) : gr h (A j i) ci f K := by
  obtain ⟨ks, h1, h2⟩ := dK_of ho
  exact R.grp ha h1 h2 e k
theorem ygn {K : Option Nat → Prop} {j i f ci : Nat} (R : D h A N zz C P) (ha : ac N j i) (ho : dK j f = some (ci, 2)) (e : P j i f = none) (k : K none) : gr h (A j i) ci f K := by
  obtain ⟨ks, h1, h2⟩ := dK_of ho
  exact R.grn ha h1 h2 e k
theorem yal {K : Int32 → Prop} {j i n : Nat} (R : D h A N zz C P) (ha : ac N j i) (ho : dK2 j < 6) (hn : dN zz j i = n) (hn2 : n < 2147483648) (k : ∀ y : Int32, y.toInt = (n : Int) → K y) : al h (A j i) K := R.al ha (dK2_of rfl (by omega)).1 (by rw [(dK2_of rfl (by omega)).2]; exact ho) hn hn2 k
theorem ysize {Qn : Int32 → gH → Prop} {i : Nat} (R : D h A N zz C P) (hi : i < N 1 + 5) (k : ∀ x : Int32, x.toInt = C 6 i 2 → Qn x h) : vJx4a65c_size_8abf5 t0 Qn h (A 6 i) := wgi R hi rfl k
theorem yempty {Qn : Int32 → gH → Prop} {i : Nat} (R : D h A N zz C P) (hi : i < N 1 + 5) (k1 : C 6 i 2 = 0 → Qn 1 h) (k0 : C 6 i 2 ≠ 0 → Qn 0 h) : vJx4a65c_isEmpty_aae02 t0 Qn h (A 6 i) := by
  unfold vJx4a65c_isEmpty_aae02 vJx4a65c_isEmpty_aae02_b12
  refine wgi R hi rfl (fun x hx => ?_)
  exact cne32 hx (vl (by decide)) (fun c => ⟨gZ_of (by decide), k0 c⟩) (fun c => ⟨gZ_of (by decide), k1 c⟩)
/-- an element of a list -/
theorem yget {Qn : Option Nat → gH → Prop} {v : Int32} {i m j' i' : Nat} (R : D h A N zz C P) (K : KS S N zz C P) (hi : i < N 1 + 5) (hv : v.toInt = (m : Int)) (hm : (m : Int) < C 6 i 2) (he : ∀ a : Nat, P 6 i 1 = some (7, a) → P 7 a m = some (j', i')) (k : Qn (some (A j' i')) h) : vJx4a65c_get_915e3 t0 Qn h (A 6 i) v := by
  unfold vJx4a65c_get_915e3 vJ15_checkIndex_7cf53 vJ3_checkIndex_8e157 vJx4a65c_elementData_915e3
  refine wgi R hi rfl (fun x hx => ?_)
  refine clt32 hv (vl (by decide)) (fun z => by omega) (fun _ => ?_)
  refine clt32 hv hx (fun _ => ?_) (fun z => by omega)
  rcases K.ar i hi with ⟨z, _⟩ | ⟨a, a1, a2, a3, a4, a5, a6⟩
  · omega
  · refine wio R hi rfl (by decide) (ygr R hi rfl a1 (nn_i ?_))
    exact R.lqp (j := 7) (i := a) a2 rfl rfl (Or.inl rfl) hv (show m < zz a by omega) (he a a1) k
end CL
