/-! ===== a list grows ===== -/
section LG
variable {h : gH} {A : dA} {N zz : Nat → Nat} {S C : dC} {P : dP} {t0 i n a j' i' : Nat}
theorem c_b11 {Qn : gH → Prop} {v3 : Int32} (R : D h A N zz C P) (hi : i < N 1 + 5) (ha : a < N 4) (hn : v3.toInt = (n : Int)) (hz : n < zz a) (hb : n < 1000) (he : ac N j' i') (hj : j' = 9 ∨ j' = 12 ∨ j' = 14 ∨ j' = 15) (k0 : ∀ h' : gH, D h' A N zz (up3 C 6 i 2 ((n : Int) + 1)) (up3 P 7 a n (some (j', i'))) → Qn h') : vJx4a65c_add_72be8_b11 t0 Qn h (A 6 i) (some (A j' i')) (some (A 7 a)) v3 := by
  unfold vJx4a65c_add_72be8_b11
  refine nn_i (nn_i ?_)
  refine R.sq (j := 7) (i := a) ha rfl rfl (Or.inl ⟨rfl, hj⟩) hn (show n < zz a from hz) rfl he (fun h3 R3 => ?_)
  exact wpvI R3 (show ac N 6 i from hi) rfl (v := (n : Int) + 1) (add_ti hn (vl (by decide)) (by omega)) (fun h4 R4 => k0 h4 R4)
theorem tnc {v : Int32} {L : Nat} (h : v.toInt = (L : Int)) : Int32.toNatClampNeg v = L := by
  show v.toInt.toNat = L
  omega
theorem c_copyOf {Qn : Option Nat → gH → Prop} {v : Int32} {L : Nat} (R : D h A N zz C P) (ha : a < N 4) (hv : v.toInt = (L : Int)) (hz : zz a = n) (h0 : 0 < n) (hL : n < L ∧ L ≤ 64) (ty : ∀ f q, f < n → P 7 a f = some q → q.1 = 9 ∨ q.1 = 12 ∨ q.1 = 14 ∨ q.1 = 15) (k0 : ∀ (A1 : dA) (h' : gH) (P1 : dP), (∀ j i, ac N j i → A1 j i = A j i) → D h' A1 (upN N 4) (zzA N zz L) C P1 → (∀ j x f : Nat, ¬ (j = 7 ∧ x = N 4) → P1 j x f = P j x f) → (∀ f, f < n → P1 7 (N 4) f = P 7 a f) → Qn (some (A1 7 (N 4))) h') : vJ7_copyOf_1904c t0 Qn h (some (A 7 a)) v := by
  unfold vJ7_copyOf_1904c vJ7_copyOf_6403c vJ7_copyOf_6403c_b24
  obtain ⟨e, q1, q2⟩ := R.1.arr (j := 7) (i := a) ha rfl
  replace q2 : e = .inl (3, zz a, .inr (.inr (.inr (.inr (fun x => (P 7 a x).map (dad A)))))) := q2
  have hneg : ¬ v < 0 := fun z => by
    have z2 : v.toInt < (0 : Int32).toInt := (fa_lt v 0).mp z
    rw [show (0 : Int32).toInt = 0 by decide] at z2
    omega
  refine nn_i ⟨⟨_, _, by rw [q1, q2]⟩, hneg, by rw [tnc hv]; exact hL.2, ?_⟩
  rw [tnc hv]
  refine d_nwA R (fun A1 h2 eA R2 => ?_)
  have ha1 : ac (upN N 4) 7 a := show a < N 4 + 1 by omega
  have hn1 : ac (upN N 4) 7 (N 4) := show N 4 < N 4 + 1 by omega
  have z1 : zzA N zz L a = n := (if_neg (by omega)).trans hz
  have z2 : zzA N zz L (N 4) = L := if_pos rfl
  rw [← eA 7 a ha]
  refine nn_i (yal R2 ha1 (by decide) (n := n) (show zzA N zz L a = n from z1) (by omega) (fun x2 h2 => ?_))
  unfold vJ9_min_7cf53 vJ9_min_7cf53_b10
  refine clt32 hv h2 (fun z => by omega) (fun _ => nn_i ?_)
  refine R2.cpq (i := a) (i' := N 4) (n := n) (sp := 0) (dp := 0) ha1 hn1 (by decide) (by decide) h2 (by rw [z1]; omega) (by rw [z2]; omega) (by rw [z1]; exact h0) (by rw [z2]; omega) (fun f q hf hq => ?_) (fun h6 R6 => ?_)
  · rw [nP_off P (by omega), show 0 + f = f by omega] at hq
    exact ty f q hf hq
  · refine k0 A1 h6 _ eA R6 (fun j x f hj => ?_) (fun f hf => ?_)
    · show (if j = 7 ∧ x = N 4 ∧ 0 ≤ f ∧ f < 0 + n then nP P 7 (N 4) 7 a (0 + (f - 0)) else nP P 7 (N 4) j x f) = P j x f
      rw [if_neg (by omega), nP_off P hj]
    · show (if 7 = 7 ∧ N 4 = N 4 ∧ 0 ≤ f ∧ f < 0 + n then nP P 7 (N 4) 7 a (0 + (f - 0)) else nP P 7 (N 4) 7 (N 4) f) = P 7 a f
      rw [if_pos ⟨rfl, rfl, Nat.zero_le f, by omega⟩, nP_off P (by omega), show 0 + (f - 0) = f by omega]
theorem c_grow {Qn : Option Nat → gH → Prop} (R : D h A N zz C P) (ht : A 8 0 = t0) (hi : i < N 1 + 5) (hC : C 6 i 2 = (n : Int)) (hn : n ≤ 24) (full : (P 6 i 1 = some (8, 0) ∧ n = 0) ∨ (P 6 i 1 = some (7, a) ∧ a < N 4 ∧ zz a = n ∧ 0 < n)) (ty : ∀ f q, f < n → P 7 a f = some q → q.1 = 9 ∨ q.1 = 12 ∨ q.1 = 14 ∨ q.1 = 15) (k0 : ∀ (A1 : dA) (h' : gH) (P1 : dP) (L : Nat), (∀ j i, ac N j i → A1 j i = A j i) → n < L → L ≤ 40 → D h' A1 (upN N 4) (zzA N zz L) C P1 → P1 6 i 1 = some (7, N 4) → (∀ j x f : Nat, ¬ (j = 7 ∧ x = N 4) → ¬ (j = 6 ∧ x = i ∧ f = 1) → P1 j x f = P j x f) → (0 < n → ∀ f, f < n → P1 7 (N 4) f = P 7 a f) → Qn (some (A1 7 (N 4))) h') : vJx4a65c_grow_d5877 t0 Qn h (A 6 i) := by
  have a6 : ac N 6 i := hi
  have a8 : ac N 8 0 := ⟨Nat.one_pos, by decide⟩
  have hn1 : ac (upN N 4) 7 (N 4) := show N 4 < N 4 + 1 by omega
  have a61 : ac (upN N 4) 6 i := show i < N 1 + 5 from hi
  unfold vJx4a65c_grow_d5877
  refine ygi R a6 rfl hC (fun x1 h1 => wio R a6 rfl (by decide) ?_)
  have h11 : (x1 + 1).toInt = ((n + 1 : Nat) : Int) := (add_ti h1 (vl (by decide)) (by omega)).trans (by omega)
  generalize x1 + 1 = w at *
  unfold vJx4a65c_grow_92f84
  rcases full with ⟨p, z⟩ | ⟨p, ha, z, z0⟩
  · subst z
    refine ygr R a6 rfl p (nn_i (yal R a8 (by decide) (n := 0) rfl (by decide) (fun x3 h3 => clt32 (vl (by decide)) h3 (fun y => by omega) (fun _ => ygr R a6 rfl p ⟨fun _ => ?_, fun y => absurd (by rw [ht]) y⟩))))
    unfold vJ9_max_7cf53 vJ9_max_7cf53_b10
    have h10 : (10 : Int32).toInt = ((10 : Nat) : Int) := by decide
    refine clt32 h10 h11 (fun y => absurd y (by omega)) (fun y => ?_)
    · refine ⟨by decide, by decide, ?_⟩
      rw [tnc h10]
      refine d_nwA R (fun A1 h2 eA R2 => ?_)
      rw [← eA 6 i a6]
      have q2 : va_rf ((some (7, N 4)).map (dad A1)) = .ref (A1 7 (N 4)) := rfl
      rw [← q2]
      refine ypvQ (o := some (7, N 4)) R2 a61 rfl rfl (fun q hq => by cases hq; exact hn1) (fun h9 R9 => ?_)
      refine k0 A1 h9 _ 10 eA (by decide) (by decide) R9 (up3_same _ _ _ _ _) (fun j x f u1 u2 => ?_) (fun u => by omega)
      rw [up3_ne _ _ u2, nP_off P u1]
  · refine ygr R a6 rfl p (nn_i (yal R (show ac N 7 a from ha) (by decide) (n := n) z (by omega) (fun x3 h3 => clt32 (vl (by decide)) h3 (fun y => ?_) (fun y => by omega))))
    unfold vJx4a65c_grow_92f84_b20
    refine c_newLen h3 ((sub_ti h11 h3 (by omega)).trans (by omega)) ⟨z0, by omega⟩ (fun x L hx l1 l2 l3 => ygr R a6 rfl p ?_)
    refine c_copyOf R ha hx z z0 ⟨l1, by omega⟩ ty (fun A1 h4 P1 eA R4 g1 g2 => ?_)
    rw [← eA 6 i a6]
    refine ypvQ (o := some (7, N 4)) R4 a61 rfl rfl (fun q hq => by cases hq; exact hn1) (fun h9 R9 => ?_)
    refine k0 A1 h9 _ L eA l1 (by omega) R9 (up3_same _ _ _ _ _) (fun j x f u1 u2 => ?_) (fun _ f hf => ?_)
    · rw [up3_ne _ _ u2, g1 j x f u1]
    · rw [up3_ne _ _ (by omega), g2 f hf]
end LG
