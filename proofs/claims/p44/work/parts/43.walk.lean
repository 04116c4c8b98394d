/-! ===== places and values ===== -/
theorem asb (x b : Nat) : x + (b + 1) - 1 = x + b := rfl
theorem ix_lit {n : Nat} (h : n < 2147483648) : (OfNat.ofNat n : Int32).toInt = ((OfNat.ofNat n : Nat) : Int) := lit_ti h
theorem vl {n : Nat} (h : n < 2147483648) : (OfNat.ofNat n : Int32).toInt = (OfNat.ofNat n : Int) := lit_ti h
theorem vlL {n : Nat} (h : n < 2147483648) : (OfNat.ofNat n : Int64).toInt = (OfNat.ofNat n : Int) := litL_ti h
theorem ix_add {a b : Int32} {x y : Nat} (ha : a.toInt = (x : Int)) (hb : b.toInt = (y : Int)) (h : x + y < 2147483648) : (a + b).toInt = ((x + y : Nat) : Int) := (add_ti ha hb (by omega)).trans (by omega)
theorem ix_z {a : Int32} {x : Nat} (ha : a.toInt = (x : Int)) : (0 + a).toInt = (x : Int) := by rw [Int32.zero_add]; exact ha
theorem ix_z2 {a : Int32} {x : Nat} (ha : a.toInt = (x : Int)) : (a + 0).toInt = (x : Int) := by rw [Int32.add_zero]; exact ha
theorem ix_sub {a b : Int32} {x y : Nat} (ha : a.toInt = (x : Int)) (hb : b.toInt = (y : Int)) (h : y ≤ x) : (a - b).toInt = ((x - y : Nat) : Int) := (sub_ti ha hb (by have := fb_rng a; omega)).trans (by omega)
theorem ix_dec {a : Int32} {x : Nat} (ha : a.toInt = (x : Int)) (h : 1 ≤ x) : (a + -1).toInt = ((x - 1 : Nat) : Int) := (add_ti ha (neg_ti (vl (by decide)) (by omega)) (by have := fb_rng a; omega)).trans (by omega)
theorem ix_mul {a b : Int32} {x y : Nat} (ha : a.toInt = (x : Int)) (hb : b.toInt = (y : Int)) (h : x * y < 2147483648) : (a * b).toInt = ((x * y : Nat) : Int) := (mul_ti ha hb (by rw [← Int.natCast_mul]; omega)).trans (by rw [← Int.natCast_mul])
theorem ix_nn {a : Int32} {y : Int} (ha : a.toInt = y) (h : 0 ≤ y) : a.toInt = ((y.toNat : Nat) : Int) := by rw [ha]; omega
/-- columns that a run of ticks leaves as they are -/
def sta (j f : Nat) : Bool := match j with
  | 38 => f == 3 || f == 8 || f == 14 || f == 19 || f == 21 || f == 22 || f == 24
  | 42 => true
  | 44 => true
  | 45 => true
  | 46 => true
  | 47 => true
  | 49 => true
  | 50 => true
  | 51 => true
  | 52 => true
  | 53 => true
  | 55 => true
  | 56 => true
  | 57 => true
  | 58 => true
  | 60 => true
  | 63 => true
  | 4 => true
  | 5 => true
  | 6 => true
  | 9 => true
  | 10 => true
  | 11 => true
  | 12 => f != 4
  | 13 => true
  | 14 => true
  | 15 => true
  | 16 => true
  | 17 => true
  | 18 => true
  | 20 => true
  | _ => false
def St (S C : dC) : Prop := ∀ j i f, sta j f = true → C j i f = S j i f
theorem ne_ti {a : Int64} {x : Int} (h : a.toInt = x ∧ x ≠ 0) : ¬ a = 0 := fun z => h.2 (by rw [← h.1, z]; decide)
theorem negL_ti {a : Int64} {x : Int} (ha : a.toInt = x) (h : -9223372036854775807 ≤ x ∧ x ≤ 9223372036854775807) : (-a).toInt = -x := by
  rw [Int64.toInt_neg, ha]
  exact fb_bmodL (by omega) (by omega)
theorem St.up {S C : dC} {j i f : Nat} {v : Int} (hs : sta j f = false) (E : St S C) : St S (up3 C j i f v) := fun j' i' f' h => by
  rw [up3_ne C v fun z => by rw [z.1, z.2.2, hs] at h; cases h]
  exact E j' i' f' h
theorem St.rf (S : dC) : St S S := fun _ _ _ _ => rfl
section WS
variable {h : gH} {A : dA} {N zz : Nat → Nat} {S C : dC} {P : dP} {j i f ci : Nat} {ks : List Nat}
theorem D_giS {K : Int32 → Prop} (R : D h A N zz C P) (E : St S C) (ha : ac N j i) (ho : dO j = some (ci, ks)) (hk : ks[f]? = some 0) (hs : sta j f = true) (k : ∀ x : Int32, x.toInt = S j i f → K x) : gi h (A j i) ci f K := R.gi ha ho hk fun x hx => k x (hx.trans (E j i f hs))
theorem D_liS {K : Int32 → Prop} {x : Int32} {m : Nat} (R : D h A N zz C P) (E : St S C) (ha : ac N j i) (ho : dO j = none) (hr : (dR j).1 = 0) (hs : sta j m = true) (hx : x.toInt = (m : Int)) (hm : m < dN zz j i) (k : ∀ y : Int32, y.toInt = S j i m → K y) : li h (A j i) x K := R.li ha ho hr hx hm fun x hx => k x (hx.trans (E j i m hs))
theorem D_lzS {K : Int32 → Prop} {x : Int32} {m : Nat} (R : D h A N zz C P) (E : St S C) (ha : ac N j i) (ho : dO j = none) (hr : (dR j).1 = 2) (hs : sta j m = true) (hx : x.toInt = (m : Int)) (hm : m < dN zz j i) (k : ∀ y : Int32, y.toInt = S j i m → K y) : lz h (A j i) x K := R.lz ha ho hr hx hm fun x hx => k x (hx.trans (E j i m hs))
end WS
/-! ===== the same rows, each side goal with a head of its own ===== -/
def isN (x : Int32) (m : Nat) : Prop := x.toInt = (m : Int)
def isV (x : Int32) (v : Int) : Prop := x.toInt = v
def isW (x : Int64) (v : Int) : Prop := x.toInt = v
def isB (v : Int) : Prop := v = 0 ∨ v = 1
def le31 (x : Int) : Prop := -2147483648 ≤ x ∧ x < 2147483648
def le63 (x : Int) : Prop := -9223372036854775808 ≤ x ∧ x < 9223372036854775808
def lt31 (x : Nat) : Prop := x < 2147483648
def dNlt (zz : Nat → Nat) (j i m : Nat) : Prop := m < dN zz j i
def nLe (y x : Nat) : Prop := y ≤ x
def pos0 (x : Int) : Prop := 0 ≤ x
def posn (x : Int) : Prop := 0 < x
/-- an object's column: its class, its kind -/
def dK (j f : Nat) : Option (Nat × Nat) := match dO j with
  | some (ci, ks) => match ks[f]? with
    | some k => some (ci, k)
    | none => none
  | none => none
/-- a kind that is an array -/
def dK2 (j : Nat) : Nat := match dO j with
  | some _ => 99
  | none => (dR j).1
def dK1 (j : Nat) : Nat := match dO j with
  | some (ci, _) => ci
  | none => 99
theorem dK_of {j f ci k : Nat} (h : dK j f = some (ci, k)) : ∃ ks : List Nat, dO j = some (ci, ks) ∧ ks[f]? = some k := by
  unfold dK at h
  cases ho : dO j with
  | none => rw [ho] at h; cases h
  | some o =>
    obtain ⟨c, ks⟩ := o
    rw [ho] at h
    cases hk : ks[f]? with
    | none => simp only [hk] at h; cases h
    | some k' =>
      simp only [hk] at h
      cases h
      exact ⟨ks, rfl, hk⟩
theorem dK2_of {j kt : Nat} (h : dK2 j = kt) (hk : kt < 99) : dO j = none ∧ (dR j).1 = kt := by
  unfold dK2 at h
  cases ho : dO j with
  | none => rw [ho] at h; exact ⟨rfl, h⟩
  | some o => rw [ho] at h; replace h : 99 = kt := h; omega
section WS2
variable {h : gH} {A : dA} {N zz : Nat → Nat} {S C : dC} {P : dP} {j i f ci : Nat}
theorem isN_h {a : Int32} {x : Nat} (h : a.toInt = (x : Int)) : isN a x := h
theorem isN_nn {a : Int32} {y : Int} (ha : a.toInt = y) (h : 0 ≤ y) : isN a y.toNat := ix_nn ha h
theorem isN_lit {n : Nat} (h : n < 2147483648) : isN (OfNat.ofNat n : Int32) (OfNat.ofNat n) := ix_lit h
theorem isN_add {a b : Int32} {x y : Nat} (ha : isN a x) (hb : isN b y) (h : lt31 (x + y)) : isN (a + b) (x + y) := ix_add ha hb h
theorem isN_sub {a b : Int32} {x y : Nat} (ha : isN a x) (hb : isN b y) (h : nLe y x) : isN (a - b) (x - y) := ix_sub ha hb h
theorem isN_dec {a : Int32} {x : Nat} (ha : isN a x) (h : nLe 1 x) : isN (a + -1) (x - 1) := ix_dec ha h
theorem isN_mul {a b : Int32} {x y : Nat} (ha : isN a x) (hb : isN b y) (h : lt31 (x * y)) : isN (a * b) (x * y) := ix_mul ha hb h
theorem isN_z {a : Int32} {x : Nat} (ha : isN a x) : isN (0 + a) x := ix_z ha
theorem isN_z2 {a : Int32} {x : Nat} (ha : isN a x) : isN (a + 0) x := ix_z2 ha
theorem isV_h {a : Int32} {x : Int} (h : a.toInt = x) : isV a x := h
theorem isV_r (a : Int32) : isV a a.toInt := rfl
theorem isV_lit {n : Nat} (h : n < 2147483648) : isV (OfNat.ofNat n : Int32) (OfNat.ofNat n : Int) := vl h
theorem isV_add {a b : Int32} {x y : Int} (ha : isV a x) (hb : isV b y) (h : le31 (x + y)) : isV (a + b) (x + y) := add_ti ha hb h
theorem isV_sub {a b : Int32} {x y : Int} (ha : isV a x) (hb : isV b y) (h : le31 (x - y)) : isV (a - b) (x - y) := sub_ti ha hb h
theorem isV_mul {a b : Int32} {x y : Int} (ha : isV a x) (hb : isV b y) (h : le31 (x * y)) : isV (a * b) (x * y) := mul_ti ha hb h
theorem isV_neg {a : Int32} {x : Int} (ha : isV a x) (h : le31 (x - 1) ∧ le31 (x + 1)) : isV (-a) (-x) := neg_ti ha (by have : -2147483648 ≤ x - 1 := h.1.1; omega)
theorem isV_nar {a : Int64} {x : Int} (ha : isW a x) (h : le31 x) : isV (Int64.toInt32 a) x := nar_ti ha h
theorem isW_h {a : Int64} {x : Int} (h : a.toInt = x) : isW a x := h
theorem isW_r (a : Int64) : isW a a.toInt := rfl
theorem isW_lit {n : Nat} (h : n < 2147483648) : isW (OfNat.ofNat n : Int64) (OfNat.ofNat n : Int) := vlL h
theorem isW_add {a b : Int64} {x y : Int} (ha : isW a x) (hb : isW b y) (h : le63 (x + y)) : isW (a + b) (x + y) := addL_ti ha hb h
theorem isW_sub {a b : Int64} {x y : Int} (ha : isW a x) (hb : isW b y) (h : le63 (x - y)) : isW (a - b) (x - y) := subL_ti ha hb h
theorem isW_mul {a b : Int64} {x y : Int} (ha : isW a x) (hb : isW b y) (h : le63 (x * y)) : isW (a * b) (x * y) := mulL_ti ha hb h
theorem isW_neg {a : Int64} {x : Int} (ha : isW a x) (h : le63 (x - 1) ∧ le63 (x + 1)) : isW (-a) (-x) := negL_ti ha (by have : -9223372036854775808 ≤ x - 1 := h.1.1; have : x + 1 < 9223372036854775808 := h.2.2; omega)
theorem isW_wid {a : Int32} {x : Int} (ha : isV a x) : isW (Int32.toInt64 a) x := wid_ti ha
theorem isW_div {a b : Int64} {x y : Int} (ha : isW a x) (hb : isW b y) (h : pos0 x) (h2 : posn y) : isW (a / b) (x / y) := divL_ti ha hb h h2
theorem wio {K : Prop} (R : D h A N zz C P) (ha : ac N j i) (ho : dK1 j = ci) (hc : ci < 99) (k : K) : io h (A j i) ci K := by
  unfold dK1 at ho
  cases hj : dO j with
  | none => rw [hj] at ho; replace ho : 99 = ci := ho; omega
  | some o =>
    obtain ⟨c, ks⟩ := o
    rw [hj] at ho
    cases ho
    exact R.io ha hj k
theorem wgi {K : Int32 → Prop} (R : D h A N zz C P) (ha : ac N j i) (ho : dK j f = some (ci, 0)) (k : ∀ x : Int32, x.toInt = C j i f → K x) : gi h (A j i) ci f K := by
  obtain ⟨ks, h1, h2⟩ := dK_of ho
  exact R.gi ha h1 h2 k
theorem wgl {K : Int64 → Prop} (R : D h A N zz C P) (ha : ac N j i) (ho : dK j f = some (ci, 1)) (k : ∀ x : Int64, x.toInt = C j i f → K x) : gl h (A j i) ci f K := by
  obtain ⟨ks, h1, h2⟩ := dK_of ho
  exact R.gl ha h1 h2 k
theorem wgrs {K : Option Nat → Prop} {j' i' : Nat} (R : D h A N zz C P) (ha : ac N j i) (ho : dK j f = some (ci, 2)) (hs : dS j i f = some (j', i')) (k : K (some (A j' i'))) : gr h (A j i) ci f K := by
  obtain ⟨ks, h1, h2⟩ := dK_of ho
  exact R.grs ha h1 h2 hs k
theorem wli {K : Int32 → Prop} {x : Int32} {m : Nat} (R : D h A N zz C P) (ha : ac N j i) (ho : dK2 j = 0) (hx : isN x m) (hm : dNlt zz j i m) (k : ∀ y : Int32, y.toInt = C j i m → K y) : li h (A j i) x K := R.li ha (dK2_of ho (by decide)).1 (dK2_of ho (by decide)).2 hx hm k
theorem wlz {K : Int32 → Prop} {x : Int32} {m : Nat} (R : D h A N zz C P) (ha : ac N j i) (ho : dK2 j = 2) (hx : isN x m) (hm : dNlt zz j i m) (k : ∀ y : Int32, y.toInt = C j i m → K y) : lz h (A j i) x K := R.lz ha (dK2_of ho (by decide)).1 (dK2_of ho (by decide)).2 hx hm k
theorem wll {K : Int64 → Prop} {x : Int32} {m : Nat} (R : D h A N zz C P) (ha : ac N j i) (ho : dK2 j = 1) (hx : isN x m) (hm : dNlt zz j i m) (k : ∀ y : Int64, y.toInt = C j i m → K y) : ll h (A j i) x K := R.ll ha (dK2_of ho (by decide)).1 (dK2_of ho (by decide)).2 hx hm k
theorem wpvI {K : gH → Prop} {x : Int32} {v : Int} (R : D h A N zz C P) (ha : ac N j i) (ho : dK j f = some (ci, 0)) (hx : isV x v) (k : ∀ h' : gH, D h' A N zz (up3 C j i f v) P → K h') : pv h (A j i) ci f (.int x) K := by
  obtain ⟨ks, h1, h2⟩ := dK_of ho
  exact R.pvI ha h1 h2 hx k
theorem wpvL {K : gH → Prop} {x : Int64} {v : Int} (R : D h A N zz C P) (ha : ac N j i) (ho : dK j f = some (ci, 1)) (hx : isW x v) (k : ∀ h' : gH, D h' A N zz (up3 C j i f v) P → K h') : pv h (A j i) ci f (.long x) K := by
  obtain ⟨ks, h1, h2⟩ := dK_of ho
  exact R.pvL ha h1 h2 hx k
theorem wsi {K : gH → Prop} {x y : Int32} {m : Nat} {v : Int} (R : D h A N zz C P) (ha : ac N j i) (ho : dK2 j = 0) (hx : isN x m) (hm : dNlt zz j i m) (hy : isV y v) (k : ∀ h' : gH, D h' A N zz (up3 C j i m v) P → K h') : si h (A j i) x y K := R.si ha (dK2_of ho (by decide)).1 (dK2_of ho (by decide)).2 hx hm hy k
theorem wsz {K : gH → Prop} {x y : Int32} {m : Nat} {v : Int} (R : D h A N zz C P) (ha : ac N j i) (ho : dK2 j = 2) (hx : isN x m) (hm : dNlt zz j i m) (hy : isV y v) (hv : isB v) (k : ∀ h' : gH, D h' A N zz (up3 C j i m v) P → K h') : sz h (A j i) x y K := R.sz ha (dK2_of ho (by decide)).1 (dK2_of ho (by decide)).2 hx hm hy hv k
theorem wsl {K : gH → Prop} {x : Int32} {y : Int64} {m : Nat} {v : Int} (R : D h A N zz C P) (ha : ac N j i) (ho : dK2 j = 1) (hx : isN x m) (hm : dNlt zz j i m) (hy : isW y v) (k : ∀ h' : gH, D h' A N zz (up3 C j i m v) P → K h') : sl h (A j i) x y K := R.sl ha (dK2_of ho (by decide)).1 (dK2_of ho (by decide)).2 hx hm hy k
theorem st_at {x : Int32} (E : St S C) (hx : x.toInt = C j i f) (hs : sta j f = true) : x.toInt = S j i f := hx.trans (E j i f hs)
theorem wdiv {a : Int64} {x : Int} {K : Prop} (ha : isW a x) (hx : posn x) (k : K) : ¬ a = 0 ∧ K := ⟨ne_ti ⟨ha, by have : 0 < x := hx; omega⟩, k⟩
end WS2
theorem D_rngA {h : gH} {A : dA} {N zz : Nat → Nat} {C : dC} {P : dP} {j i : Nat} (R : D h A N zz C P) (ha : ac N j i) (ho : dK2 j = 0) (m : Nat) : -2147483648 ≤ C j i m ∧ C j i m < 2147483648 := by
  obtain ⟨e, h1, h2⟩ := R.1.arr ha (dK2_of ho (by decide)).1
  rw [(dK2_of ho (by decide)).2] at h2
  obtain ⟨g, -, h3⟩ := h2
  rw [← h3 m]
  exact fb_rng _
