/-! ===== the roles that there are: N 0 clips, N 1 nodes, N 2 states, N 3 transitions, N 4 arrays of lists ===== -/
def ac (N : Nat → Nat) (j i : Nat) : Prop := match j with
  | 6 => i < N 1 + 5
  | 7 => i < N 4
  | 9 => i < N 0 + 1
  | 10 => i < N 0 + 1
  | 11 => i < N 0 + 1
  | 12 => i < N 1 + 1
  | 13 => i < N 1 + 1
  | 14 => i < N 2 + 1
  | 15 => i < N 3 + 1
  | 16 => i < N 3 + 1
  | 17 => i < N 3 + 1
  | 18 => i < N 3 + 1
  | 21 => i < 4
  | 22 => i < 4
  | 23 => i < 4
  | 24 => i < 4
  | 25 => i < 4
  | 26 => i < 4
  | 27 => i < 4
  | 28 => i < 4
  | 29 => i < 4
  | 30 => i < 4
  | 31 => i < 4
  | 32 => i < 4
  | 33 => i < 4
  | 34 => i < 4
  | 35 => i < 16
  | 36 => i < 4
  | 37 => i < 4
  | _ => i < 1 ∧ ((j < 38 ∨ j = 90) ∧ (dO j ≠ none ∨ (dR j).1 < 6))
/-- references that never change are as they are -/
def Sp (act : Nat → Nat → Prop) (P : dP) : Prop := ∀ j i f q, act j i → dS j i f = some q → P j i f = some q
def D (h : gH) (A : dA) (N : Nat → Nat) (zz : Nat → Nat) (C : dC) (P : dP) : Prop := HR h A (ac N) zz C P ∧ Sp (ac N) P
section DS
variable {h : gH} {A : dA} {N zz : Nat → Nat} {C : dC} {P : dP} {j i f ci : Nat} {ks : List Nat}
theorem Sp.up {act : Nat → Nat → Prop} {o : Option (Nat × Nat)} (S : Sp act P) (hs : dS j i f = none) : Sp act (up3 P j i f o) := fun j' i' f' q ha hq => by
  by_cases hn : j' = j ∧ i' = i ∧ f' = f
  · obtain ⟨rfl, rfl, rfl⟩ := hn
    rw [hs] at hq
    cases hq
  · rw [up3_ne P o hn]
    exact S j' i' f' q ha hq
theorem nn_p {K : Nat → Prop} {o : Option (Nat × Nat)} {j' i' : Nat} (hp : o = some (j', i')) (k : K (A j' i')) : nn (o.map (dad A)) K := ⟨A j' i', by rw [hp]; rfl, k⟩

theorem D.gi {K : Int32 → Prop} (R : D h A N zz C P) (ha : ac N j i) (ho : dO j = some (ci, ks)) (hk : ks[f]? = some 0) (k : ∀ x : Int32, x.toInt = C j i f → K x) : gi h (A j i) ci f K := R.1.gi ha ho hk k
theorem D.gl {K : Int64 → Prop} (R : D h A N zz C P) (ha : ac N j i) (ho : dO j = some (ci, ks)) (hk : ks[f]? = some 1) (k : ∀ x : Int64, x.toInt = C j i f → K x) : gl h (A j i) ci f K := R.1.gl ha ho hk k
theorem D.grm {K : Option Nat → Prop} (R : D h A N zz C P) (ha : ac N j i) (ho : dO j = some (ci, ks)) (hk : ks[f]? = some 2) (k : K ((P j i f).map (dad A))) : gr h (A j i) ci f K := R.1.gr ha ho hk k
theorem D.io {K : Prop} (R : D h A N zz C P) (ha : ac N j i) (ho : dO j = some (ci, ks)) (k : K) : io h (A j i) ci K := R.1.io ha ho k
theorem D.li {K : Int32 → Prop} {x : Int32} {m : Nat} (R : D h A N zz C P) (ha : ac N j i) (ho : dO j = none) (hr : (dR j).1 = 0) (hx : x.toInt = (m : Int)) (hm : m < dN zz j i) (k : ∀ y : Int32, y.toInt = C j i m → K y) : li h (A j i) x K := R.1.li ha ho hr hx hm k
theorem D.lz {K : Int32 → Prop} {x : Int32} {m : Nat} (R : D h A N zz C P) (ha : ac N j i) (ho : dO j = none) (hr : (dR j).1 = 2) (hx : x.toInt = (m : Int)) (hm : m < dN zz j i) (k : ∀ y : Int32, y.toInt = C j i m → K y) : lz h (A j i) x K := R.1.lz ha ho hr hx hm k
theorem D.ll {K : Int64 → Prop} {x : Int32} {m : Nat} (R : D h A N zz C P) (ha : ac N j i) (ho : dO j = none) (hr : (dR j).1 = 1) (hx : x.toInt = (m : Int)) (hm : m < dN zz j i) (k : ∀ y : Int64, y.toInt = C j i m → K y) : ll h (A j i) x K := R.1.ll ha ho hr hx hm k
theorem D.lqm {K : Option Nat → Prop} {x : Int32} {m kt : Nat} (R : D h A N zz C P) (ha : ac N j i) (ho : dO j = none) (hr : (dR j).1 = kt) (h3 : kt = 3 ∨ kt = 4 ∨ kt = 5) (hx : x.toInt = (m : Int)) (hm : m < dN zz j i) (k : K ((P j i m).map (dad A))) : lq h kt (A j i) x K := R.1.lq ha ho hr h3 hx hm k
theorem D.al {K : Int32 → Prop} {n : Nat} (R : D h A N zz C P) (ha : ac N j i) (ho : dO j = none) (hr : (dR j).1 < 6) (hn : dN zz j i = n) (hn2 : n < 2147483648) (k : ∀ y : Int32, y.toInt = (n : Int) → K y) : al h (A j i) K := R.1.al ha ho hr hn hn2 k
theorem D.grs {K : Option Nat → Prop} {j' i' : Nat} (R : D h A N zz C P) (ha : ac N j i) (ho : dO j = some (ci, ks)) (hk : ks[f]? = some 2) (hs : dS j i f = some (j', i')) (k : K (some (A j' i'))) : gr h (A j i) ci f K := R.1.gr ha ho hk (by rw [R.2 j i f _ ha hs]; exact k)
theorem D.grp {K : Option Nat → Prop} {j' i' : Nat} (R : D h A N zz C P) (ha : ac N j i) (ho : dO j = some (ci, ks)) (hk : ks[f]? = some 2) (hp : P j i f = some (j', i')) (k : K (some (A j' i'))) : gr h (A j i) ci f K := R.1.gr ha ho hk (by rw [hp]; exact k)
theorem D.grn {K : Option Nat → Prop} (R : D h A N zz C P) (ha : ac N j i) (ho : dO j = some (ci, ks)) (hk : ks[f]? = some 2) (hp : P j i f = none) (k : K none) : gr h (A j i) ci f K := R.1.gr ha ho hk (by rw [hp]; exact k)
theorem D.lqs {K : Option Nat → Prop} {x : Int32} {m kt j' i' : Nat} (R : D h A N zz C P) (ha : ac N j i) (ho : dO j = none) (hr : (dR j).1 = kt) (h3 : kt = 3 ∨ kt = 4 ∨ kt = 5) (hx : x.toInt = (m : Int)) (hm : m < dN zz j i) (hs : dS j i m = some (j', i')) (k : K (some (A j' i'))) : lq h kt (A j i) x K := R.1.lq ha ho hr h3 hx hm (by rw [R.2 j i m _ ha hs]; exact k)
theorem D.lqp {K : Option Nat → Prop} {x : Int32} {m kt j' i' : Nat} (R : D h A N zz C P) (ha : ac N j i) (ho : dO j = none) (hr : (dR j).1 = kt) (h3 : kt = 3 ∨ kt = 4 ∨ kt = 5) (hx : x.toInt = (m : Int)) (hm : m < dN zz j i) (hp : P j i m = some (j', i')) (k : K (some (A j' i'))) : lq h kt (A j i) x K := R.1.lq ha ho hr h3 hx hm (by rw [hp]; exact k)
theorem D.pvI {K : gH → Prop} {x : Int32} {v : Int} (R : D h A N zz C P) (ha : ac N j i) (ho : dO j = some (ci, ks)) (hk : ks[f]? = some 0) (hx : x.toInt = v) (k : ∀ h' : gH, D h' A N zz (up3 C j i f v) P → K h') : pv h (A j i) ci f (.int x) K := R.1.pvI ha ho hk hx fun h' R' => k h' ⟨R', R.2⟩
theorem D.pvL {K : gH → Prop} {x : Int64} {v : Int} (R : D h A N zz C P) (ha : ac N j i) (ho : dO j = some (ci, ks)) (hk : ks[f]? = some 1) (hx : x.toInt = v) (k : ∀ h' : gH, D h' A N zz (up3 C j i f v) P → K h') : pv h (A j i) ci f (.long x) K := R.1.pvL ha ho hk hx fun h' R' => k h' ⟨R', R.2⟩
theorem D.si {K : gH → Prop} {x y : Int32} {m : Nat} {v : Int} (R : D h A N zz C P) (ha : ac N j i) (ho : dO j = none) (hr : (dR j).1 = 0) (hx : x.toInt = (m : Int)) (hm : m < dN zz j i) (hy : y.toInt = v) (k : ∀ h' : gH, D h' A N zz (up3 C j i m v) P → K h') : si h (A j i) x y K := R.1.si ha ho hr hx hm hy fun h' R' => k h' ⟨R', R.2⟩
theorem D.sz {K : gH → Prop} {x y : Int32} {m : Nat} {v : Int} (R : D h A N zz C P) (ha : ac N j i) (ho : dO j = none) (hr : (dR j).1 = 2) (hx : x.toInt = (m : Int)) (hm : m < dN zz j i) (hy : y.toInt = v) (hv : v = 0 ∨ v = 1) (k : ∀ h' : gH, D h' A N zz (up3 C j i m v) P → K h') : sz h (A j i) x y K := R.1.sz ha ho hr hx hm hy hv fun h' R' => k h' ⟨R', R.2⟩
theorem D.sl {K : gH → Prop} {x : Int32} {y : Int64} {m : Nat} {v : Int} (R : D h A N zz C P) (ha : ac N j i) (ho : dO j = none) (hr : (dR j).1 = 1) (hx : x.toInt = (m : Int)) (hm : m < dN zz j i) (hy : y.toInt = v) (k : ∀ h' : gH, D h' A N zz (up3 C j i m v) P → K h') : sl h (A j i) x y K := R.1.sl ha ho hr hx hm hy fun h' R' => k h' ⟨R', R.2⟩
theorem D.pvQ {K : gH → Prop} {o : Option (Nat × Nat)} (R : D h A N zz C P) (ha : ac N j i) (ho : dO j = some (ci, ks)) (hk : ks[f]? = some 2) (hs : dS j i f = none) (hq : ∀ q, o = some q → ac N q.1 q.2) (k : ∀ h' : gH, D h' A N zz C (up3 P j i f o) → K h') : pv h (A j i) ci f (va_rf (o.map (dad A))) K := R.1.pvQ ha ho hk hq fun h' R' => k h' ⟨R', R.2.up hs⟩
theorem D.pvR {K : gH → Prop} {j' i' : Nat} (R : D h A N zz C P) (ha : ac N j i) (ho : dO j = some (ci, ks)) (hk : ks[f]? = some 2) (hs : dS j i f = none) (hq : ac N j' i') (k : ∀ h' : gH, D h' A N zz C (up3 P j i f (some (j', i'))) → K h') : pv h (A j i) ci f (.ref (A j' i')) K := R.pvQ (o := some (j', i')) ha ho hk hs (fun q z => by cases z; exact hq) k
theorem D.pvS {K : gH → Prop} {j' i' : Nat} (R : D h A N zz C P) (ha : ac N j i) (ho : dO j = some (ci, ks)) (hk : ks[f]? = some 2) (hs : dS j i f = none) (hq : ac N j' i') (k : ∀ h' : gH, D h' A N zz C (up3 P j i f (some (j', i'))) → K h') : pv h (A j i) ci f (va_rf (some (A j' i'))) K := R.pvQ (o := some (j', i')) ha ho hk hs (fun q z => by cases z; exact hq) k
theorem D.pvN {K : gH → Prop} (R : D h A N zz C P) (ha : ac N j i) (ho : dO j = some (ci, ks)) (hk : ks[f]? = some 2) (hs : dS j i f = none) (k : ∀ h' : gH, D h' A N zz C (up3 P j i f none) → K h') : pv h (A j i) ci f (va_rf none) K := R.pvQ (o := none) ha ho hk hs (fun q z => by cases z) k
theorem D.sq {K : gH → Prop} {x : Int32} {m j' i' kt : Nat} (R : D h A N zz C P) (ha : ac N j i) (ho : dO j = none) (hr : (dR j).1 = kt) (hkt : kt = 3 ∧ (j' = 9 ∨ j' = 12 ∨ j' = 14 ∨ j' = 15) ∨ kt = 5 ∧ j' = 21) (hx : x.toInt = (m : Int)) (hm : m < dN zz j i) (hs : dS j i m = none) (ha' : ac N j' i') (k : ∀ h' : gH, D h' A N zz C (up3 P j i m (some (j', i'))) → K h') : sq h kt (A j i) x (A j' i') K := R.1.sq ha ho hr hkt hx hm ha' fun h' R' => k h' ⟨R', R.2.up hs⟩
/-- two roles at one address are one -/
theorem D.inj (R : D h A N zz C P) {j' i' : Nat} (ha : ac N j i) (ha' : ac N j' i') : A j i = A j' i' ↔ j = j' ∧ i = i' := ⟨R.1.2.1 j i j' i' ha ha', fun z => by rw [z.1, z.2]⟩
theorem map_eq_iff (R : D h A N zz C P) {o o' : Option (Nat × Nat)} (ho : ∀ q, o = some q → ac N q.1 q.2) (ho' : ∀ q, o' = some q → ac N q.1 q.2) : o.map (dad A) = o'.map (dad A) ↔ o = o' := by
  refine ⟨fun z => ?_, fun z => by rw [z]⟩
  cases o with
  | none =>
    cases o' with
    | none => rfl
    | some q' => cases z
  | some q =>
    cases o' with
    | none => cases z
    | some q' =>
      have z1 : A q.1 q.2 = A q'.1 q'.2 := Option.some.inj z
      obtain ⟨e1, e2⟩ := (R.inj (ho q rfl) (ho' q' rfl)).mp z1
      rw [show q = q' from Prod.ext e1 e2]
theorem D.cl (R : D h A N zz C P) {q : Nat × Nat} (ha : ac N j i) (hr : dRc j f) (hp : P j i f = some q) : ac N q.1 q.2 := R.1.2.2 j i f q ha hr hp
/-- a row copied into another -/
def cpC (C : dC) (j i sp j' i' dp n : Nat) : dC := fun j2 i2 f => if j2 = j' ∧ i2 = i' ∧ dp ≤ f ∧ f < dp + n then C j i (sp + (f - dp)) else C j2 i2 f
theorem D.cpi {K : gH → Prop} {j' i' sp dp n : Nat} {x y z : Int32} (R : D h A N zz C P) (ha : ac N j i) (ha' : ac N j' i') (ho : dO j = none) (hr : (dR j).1 = 0) (ho' : dO j' = none) (hr' : (dR j').1 = 0) (hx : x.toInt = (sp : Int)) (hy : y.toInt = (dp : Int)) (hz : z.toInt = (n : Int)) (h1 : sp + n ≤ dN zz j i) (h2 : dp + n ≤ dN zz j' i') (k : ∀ h' : gH, D h' A N zz (cpC C j i sp j' i' dp n) P → K h') : cpi h (A j i) x (A j' i') y z K := by
  obtain ⟨e, q1, q2⟩ := R.1.arr ha ho
  obtain ⟨e', q1', q2'⟩ := R.1.arr ha' ho'
  rw [hr] at q2
  rw [hr'] at q2'
  obtain ⟨g, rfl, q3⟩ := q2
  obtain ⟨g', rfl, q3'⟩ := q2'
  have nn9 : ∀ (w : Int32) (m : Nat), w.toInt = (m : Int) → ¬ w < 0 := fun w m hw c => by
    rw [Int32.lt_iff_toInt_lt, hw, Int32.toInt_zero] at c
    omega
  refine ⟨_, _, g, g', q1, q1', nn9 _ _ hx, nn9 _ _ hy, nn9 _ _ hz, by rw [dclamp hx, dclamp hz]; exact h1, by rw [dclamp hy, dclamp hz]; exact h2, k _ ⟨R.1.put ha' ?_ (fun j2 i2 hn => funext fun f => if_neg fun z => hn ⟨z.1, z.2.1⟩) (fun _ _ _ => rfl) (fun f q hr hp => R.1.2.2 j' i' f q ha' hr hp), R.2⟩⟩
  unfold dCell
  rw [ho']
  show dE A (dR j').1 _ _ _ _
  rw [hr']
  refine ⟨_, rfl, fun w => ?_⟩
  rw [dclamp hx, dclamp hy, dclamp hz]
  unfold va_cpy cpC
  simp only [true_and]
  split
  · exact q3 _
  · exact q3' _
/-- references of a row copied into another -/
theorem D.cpq {K : gH → Prop} {i' sp dp n : Nat} {x y z : Int32} (R : D h A N zz C P) (ha : ac N 7 i) (ha' : ac N 7 i') (hx : x.toInt = (sp : Int)) (hy : y.toInt = (dp : Int)) (hz : z.toInt = (n : Int)) (h1 : sp + n ≤ zz i) (h2 : dp + n ≤ zz i') (h3 : 0 < zz i) (h4 : 0 < zz i') (ht : ∀ f q, f < n → P 7 i (sp + f) = some q → q.1 = 9 ∨ q.1 = 12 ∨ q.1 = 14 ∨ q.1 = 15) (k : ∀ h' : gH, D h' A N zz C (fun j2 i2 f => if j2 = 7 ∧ i2 = i' ∧ dp ≤ f ∧ f < dp + n then P 7 i (sp + (f - dp)) else P j2 i2 f) → K h') : cpq h (A 7 i) x (A 7 i') y z K := by
  obtain ⟨e, q1, q2⟩ := R.1.arr ha rfl
  obtain ⟨e', q1', q2'⟩ := R.1.arr ha' rfl
  replace q2 : e = .inl (3, zz i, .inr (.inr (.inr (.inr (fun x => (P 7 i x).map (dad A)))))) := q2
  replace q2' : e' = .inl (3, zz i', .inr (.inr (.inr (.inr (fun x => (P 7 i' x).map (dad A)))))) := q2'
  have nn9 : ∀ (w : Int32) (m : Nat), w.toInt = (m : Int) → ¬ w < 0 := fun w m hw c => by
    rw [Int32.lt_iff_toInt_lt, hw, Int32.toInt_zero] at c
    omega
  have rc7 : ∀ f, dRc 7 f := fun f => by show 3 ≤ 3; omega
  refine ⟨_, _, _, _, by rw [q1, q2], by rw [q1', q2'], h3, h4, nn9 _ _ hx, nn9 _ _ hy, nn9 _ _ hz, by rw [dclamp hx, dclamp hz]; exact h1, by rw [dclamp hy, dclamp hz]; exact h2, fun a9 ha9 y9 hy9 => ?_, k _ ⟨R.1.put ha' ?_ (fun _ _ _ => rfl) (fun j2 i2 hn => funext fun f => if_neg fun z => hn ⟨z.1, z.2.1⟩) (fun f q hr hp => ?_), fun j2 i2 f q ha2 hq2 => ?_⟩⟩
  · rw [dclamp hz] at ha9
    rw [dclamp hx] at hy9
    cases hp : P 7 i (sp + a9) with
    | none => rw [hp] at hy9; cases hy9
    | some q =>
      rw [hp] at hy9
      replace hy9 : some (A q.1 q.2) = some y9 := hy9
      cases hy9
      have hq := R.1.2.2 7 i _ q ha (rc7 _) hp
      obtain ⟨a, b⟩ := q
      rcases ht a9 _ ha9 hp with t | t | t | t
      all_goals (replace t : a = _ := t; subst t)
      · obtain ⟨fs, q, -⟩ := R.1.obj hq (ci := 4) rfl
        exact ⟨_, fs, q, by omega⟩
      · obtain ⟨fs, q, -⟩ := R.1.obj hq (ci := 8) rfl
        exact ⟨_, fs, q, by omega⟩
      · obtain ⟨fs, q, -⟩ := R.1.obj hq (ci := 10) rfl
        exact ⟨_, fs, q, by omega⟩
      · obtain ⟨fs, q, -⟩ := R.1.obj hq (ci := 12) rfl
        exact ⟨_, fs, q, by omega⟩
  · rw [dclamp hx, dclamp hy, dclamp hz]
    show (_ : va_E) = _
    unfold va_cpy
    refine congrArg (fun z => (Sum.inl (3, zz i', Sum.inr (Sum.inr (Sum.inr (Sum.inr z)))) : va_E)) (funext fun w => ?_)
    simp only [true_and]
    split <;> rfl
  · replace hp : (if 7 = 7 ∧ i' = i' ∧ dp ≤ f ∧ f < dp + n then P 7 i (sp + (f - dp)) else P 7 i' f) = some q := hp
    split at hp
    · exact R.1.2.2 7 i _ q ha (rc7 _) hp
    · exact R.1.2.2 7 i' _ q ha' (rc7 _) hp
  · have h5 := R.2 j2 i2 f q ha2 hq2
    show (if _ then _ else _) = _
    rw [if_neg fun z => by
      rw [z.1] at hq2
      cases hq2]
    exact h5
end DS
