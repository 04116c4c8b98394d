/-! ===== places and values ===== -/
theorem ix_lit {n : Nat} (h : n < 2147483648) : (OfNat.ofNat n : Int32).toInt = ((OfNat.ofNat n : Nat) : Int) := lit_ti h
theorem vl {n : Nat} (h : n < 2147483648) : (OfNat.ofNat n : Int32).toInt = (OfNat.ofNat n : Int) := lit_ti h
theorem vlL {n : Nat} (h : n < 2147483648) : (OfNat.ofNat n : Int64).toInt = (OfNat.ofNat n : Int) := litL_ti h
theorem ix_add {a b : Int32} {x y : Nat} (ha : a.toInt = (x : Int)) (hb : b.toInt = (y : Int)) (h : x + y < 2147483648) : (a + b).toInt = ((x + y : Nat) : Int) := (add_ti ha hb (by omega)).trans (by omega)
theorem ix_sub {a b : Int32} {x y : Nat} (ha : a.toInt = (x : Int)) (hb : b.toInt = (y : Int)) (h : y ≤ x) : (a - b).toInt = ((x - y : Nat) : Int) := (sub_ti ha hb (by have := fb_rng a; omega)).trans (by omega)
theorem ix_dec {a : Int32} {x : Nat} (ha : a.toInt = (x : Int)) (h : 1 ≤ x) : (a + -1).toInt = ((x - 1 : Nat) : Int) := (add_ti ha (neg_ti (vl (by decide)) (by omega)) (by have := fb_rng a; omega)).trans (by omega)
theorem ix_mul {a b : Int32} {x y : Nat} (ha : a.toInt = (x : Int)) (hb : b.toInt = (y : Int)) (h : x * y < 2147483648) : (a * b).toInt = ((x * y : Nat) : Int) := (mul_ti ha hb (by rw [← Int.natCast_mul]; omega)).trans (by rw [← Int.natCast_mul])
theorem ix_nn {a : Int32} {y : Int} (ha : a.toInt = y) (h : 0 ≤ y) : a.toInt = ((y.toNat : Nat) : Int) := by rw [ha]; omega
/-- columns that a run of ticks leaves as they are -/
def sta (j f : Nat) : Bool := match j with
  | 38 => f == 3 || f == 8 || f == 14 || f == 19 || f == 21 || f == 22 || f == 24
  | 42 => true
  | 44 => true
  | 45 => true
  | 46 => true
  | 47 => true
  | 49 => true
  | 50 => true
  | 51 => true
  | 52 => true
  | 53 => true
  | 55 => true
  | 56 => true
  | 57 => true
  | 58 => true
  | 60 => true
  | 63 => true
  | 4 => true
  | 5 => true
  | 6 => true
  | 9 => true
  | 10 => true
  | 11 => true
  | 12 => f != 4
  | 13 => true
  | 14 => true
  | 15 => true
  | 16 => true
  | 17 => true
  | 18 => true
  | 20 => true
  | _ => false
def St (S C : dC) : Prop := ∀ j i f, sta j f = true → C j i f = S j i f
theorem ne_ti {a : Int64} {x : Int} (h : a.toInt = x ∧ x ≠ 0) : ¬ a = 0 := fun z => h.2 (by rw [← h.1, z]; decide)
theorem negL_ti {a : Int64} {x : Int} (ha : a.toInt = x) (h : -9223372036854775807 ≤ x ∧ x ≤ 9223372036854775807) : (-a).toInt = -x := by
  rw [Int64.toInt_neg, ha]
  exact fb_bmodL (by omega) (by omega)
theorem St.up {S C : dC} {j i f : Nat} {v : Int} (hs : sta j f = false) (E : St S C) : St S (up3 C j i f v) := fun j' i' f' h => by
  rw [up3_ne C v fun z => by rw [z.1, z.2.2, hs] at h; cases h]
  exact E j' i' f' h
theorem St.rf (S : dC) : St S S := fun _ _ _ _ => rfl
section WS
variable {h : gH} {A : dA} {N zz : Nat → Nat} {S C : dC} {P : dP} {j i f ci : Nat} {ks : List Nat}
theorem D_giS {K : Int32 → Prop} (R : D h A N zz C P) (E : St S C) (ha : ac N j i) (ho : dO j = some (ci, ks)) (hk : ks[f]? = some 0) (hs : sta j f = true) (k : ∀ x : Int32, x.toInt = S j i f → K x) : gi h (A j i) ci f K := R.gi ha ho hk fun x hx => k x (hx.trans (E j i f hs))
theorem D_liS {K : Int32 → Prop} {x : Int32} {m : Nat} (R : D h A N zz C P) (E : St S C) (ha : ac N j i) (ho : dO j = none) (hr : (dR j).1 = 0) (hs : sta j m = true) (hx : x.toInt = (m : Int)) (hm : m < dN zz j i) (k : ∀ y : Int32, y.toInt = S j i m → K y) : li h (A j i) x K := R.li ha ho hr hx hm fun x hx => k x (hx.trans (E j i m hs))
theorem D_lzS {K : Int32 → Prop} {x : Int32} {m : Nat} (R : D h A N zz C P) (E : St S C) (ha : ac N j i) (ho : dO j = none) (hr : (dR j).1 = 2) (hs : sta j m = true) (hx : x.toInt = (m : Int)) (hm : m < dN zz j i) (k : ∀ y : Int32, y.toInt = S j i m → K y) : lz h (A j i) x K := R.lz ha ho hr hx hm fun x hx => k x (hx.trans (E j i m hs))
end WS
