/-! ===== the class: what is set in place ===== -/
section CZ
variable {h : gH} {A : dA} {N zz : Nat → Nat} {S S' C C0 : dC} {P P0 : dP} {t0 k : Nat} {tq tb : Int} {M : dM}
/-- the class' model looks only at the reference's rows of number 0 -/
theorem KS.s0 (K : KS S N zz C P) (e : ∀ j f : Nat, sta j f = true → S' j 0 f = S j 0 f) : KS S' N zz C P := by
  have K1 : KS (fun j _ f => S j 0 f) N zz C P := by
    unfold KS KS0 at *
    exact K
  have K2 : KS (fun j _ f => S' j 0 f) N zz C P := K1.st_ (fun j i f hj => e j f hj)
  unfold KS KS0 at *
  exact K2
theorem KS.thr {w : Int} (K : KS S N zz C P) (e : S' 38 0 22 = w) (f : ∀ j f : Nat, sta j f = true → ¬ (j = 38 ∧ f = 22) → S' j 0 f = S j 0 f) : KS S' N zz (up3 C 4 0 6 w) P := by
  have K1 : KS (up3 S 38 0 22 w) N zz (up3 C 4 0 6 w) P := by
    unfold KS KS0 at *
    exact ⟨K.1, K.2.1, rfl, K.2.2.2⟩
  exact K1.s0 (fun j g hj => by
    by_cases z : j = 38 ∧ g = 22
    · rw [z.1, z.2, e, up3_same]
    · rw [up3_ne _ _ (by omega), f j g hj z])
theorem a19 : ac N 19 0 := ⟨Nat.one_pos, by decide⟩
theorem a20 : ac N 20 0 := ⟨Nat.one_pos, by decide⟩
theorem g_byt {K : Option Nat → Prop} (R : D h A N zz C P) (k0 : K (some (A 20 0))) : gr h (A 19 0) 13 1 K := wgrs R a19 rfl (show dS 19 0 1 = some (20, 0) from rfl) k0
theorem KS.typ {n : Nat} {w : Int} (K : KS S N zz C P) (hn : S 38 0 24 = (n : Int)) (e : S' 38 0 24 = (n : Int) + 1) (e2 : S' 63 0 n = w) (f : ∀ j f : Nat, sta j f = true → ¬ (j = 38 ∧ f = 24) → ¬ (j = 63 ∧ f = n) → S' j 0 f = S j 0 f) : KS S' N zz (up3 (up3 C 20 0 n w) 19 0 2 ((n : Int) + 1)) P := by
  have K1 : KS (up3 (up3 S 63 0 n w) 38 0 24 ((n : Int) + 1)) N zz (up3 (up3 C 20 0 n w) 19 0 2 ((n : Int) + 1)) P := by
    have tx := K.tx.2
    unfold KS KS0 at *
    refine ⟨K.1, K.2.1, K.2.2.1, K.2.2.2.1, K.2.2.2.2.1, K.2.2.2.2.2.1, K.2.2.2.2.2.2.1, K.2.2.2.2.2.2.2.1, K.2.2.2.2.2.2.2.2.1, K.2.2.2.2.2.2.2.2.2.1, K.2.2.2.2.2.2.2.2.2.2.1, K.2.2.2.2.2.2.2.2.2.2.2.1, K.2.2.2.2.2.2.2.2.2.2.2.2.1, K.2.2.2.2.2.2.2.2.2.2.2.2.2.1, K.2.2.2.2.2.2.2.2.2.2.2.2.2.2.1, K.2.2.2.2.2.2.2.2.2.2.2.2.2.2.2.1, K.2.2.2.2.2.2.2.2.2.2.2.2.2.2.2.2.1, K.2.2.2.2.2.2.2.2.2.2.2.2.2.2.2.2.2.1, K.2.2.2.2.2.2.2.2.2.2.2.2.2.2.2.2.2.2.1, K.2.2.2.2.2.2.2.2.2.2.2.2.2.2.2.2.2.2.2.1, K.2.2.2.2.2.2.2.2.2.2.2.2.2.2.2.2.2.2.2.2.1, rfl, fun i hi => ?_⟩
    have hi : (i : Int) < (n : Int) + 1 := hi
    show up3 (up3 C 20 0 n w) 19 0 2 ((n : Int) + 1) 20 0 i = up3 (up3 S 63 0 n w) 38 0 24 ((n : Int) + 1) 63 0 i
    have a1 : up3 (up3 C 20 0 n w) 19 0 2 ((n : Int) + 1) 20 0 i = up3 C 20 0 n w 20 0 i := up3_ne _ _ (by omega)
    have a2 : up3 (up3 S 63 0 n w) 38 0 24 ((n : Int) + 1) 63 0 i = up3 S 63 0 n w 63 0 i := up3_ne _ _ (by omega)
    rw [a1, a2]
    by_cases z : i = n
    · rw [z, up3_same, up3_same]
    · exact (up3_ne C w (by omega)).trans ((tx i (by omega)).trans (up3_ne S w (by omega)).symm)
  exact K1.s0 (fun j g hj => by
    by_cases z : j = 38 ∧ g = 24
    · rw [z.1, z.2, e, up3_same]
    · by_cases y : j = 63 ∧ g = n
      · rw [y.1, y.2, e2, up3_ne _ _ (by omega), up3_same]
      · rw [up3_ne _ _ (by omega), up3_ne _ _ (by omega), f j g hj z y])
theorem KS.clt (K : KS S N zz C P) (e : S' 38 0 24 = 0) (f : ∀ j f : Nat, sta j f = true → ¬ (j = 38 ∧ f = 24) → S' j 0 f = S j 0 f) : KS S' N zz (up3 C 19 0 2 0) P := by
  have K1 : KS (up3 S 38 0 24 0) N zz (up3 C 19 0 2 0) P := by
    unfold KS KS0 at *
    refine ⟨K.1, K.2.1, K.2.2.1, K.2.2.2.1, K.2.2.2.2.1, K.2.2.2.2.2.1, K.2.2.2.2.2.2.1, K.2.2.2.2.2.2.2.1, K.2.2.2.2.2.2.2.2.1, K.2.2.2.2.2.2.2.2.2.1, K.2.2.2.2.2.2.2.2.2.2.1, K.2.2.2.2.2.2.2.2.2.2.2.1, K.2.2.2.2.2.2.2.2.2.2.2.2.1, K.2.2.2.2.2.2.2.2.2.2.2.2.2.1, K.2.2.2.2.2.2.2.2.2.2.2.2.2.2.1, K.2.2.2.2.2.2.2.2.2.2.2.2.2.2.2.1, K.2.2.2.2.2.2.2.2.2.2.2.2.2.2.2.2.1, K.2.2.2.2.2.2.2.2.2.2.2.2.2.2.2.2.2.1, K.2.2.2.2.2.2.2.2.2.2.2.2.2.2.2.2.2.2.1, K.2.2.2.2.2.2.2.2.2.2.2.2.2.2.2.2.2.2.2.1, K.2.2.2.2.2.2.2.2.2.2.2.2.2.2.2.2.2.2.2.2.1, rfl, fun i hi => ?_⟩
    have hi : (i : Int) < 0 := hi
    omega
  exact K1.s0 (fun j g hj => by
    by_cases z : j = 38 ∧ g = 24
    · rw [z.1, z.2, e, up3_same]
    · rw [up3_ne _ _ (by omega), f j g hj z])
theorem q_addParameter {Qn : Int32 → gH → Prop} {Qx : String → gH → Prop} {v : Int32} {n : Nat} (R : D h A N zz C P) (K : KS S N zz C P) (hn : S 38 0 3 = (n : Int)) (kx : v.toInt < 0 ∨ 2 < v.toInt → Qx "java/lang/IllegalArgumentException" h) (ky : 0 ≤ v.toInt → v.toInt ≤ 2 → 8 ≤ n → Qx "java/lang/IllegalStateException" h) (k0 : 0 ≤ v.toInt → v.toInt ≤ 2 → n < 8 → ∀ (x : Int32) (h' : gH), D h' A N zz (up3 (up3 C 5 0 n v.toInt) 4 0 1 ((n : Int) + 1)) P → x.toInt = (n : Int) → Qn x h') : vX11_addParameter t0 Qn Qx h (A 0 0) v := by
  have a5 : ac N 5 0 := ⟨Nat.one_pos, by decide⟩
  have tx := K.np
  rw [hn] at tx
  have kin : ∀ {h : gH} {C : dC} {K : Option Nat → Prop}, D h A N zz C P → K (some (A 5 0)) → gr h (A 4 0) 7 0 K := fun R kk => wgrs R a40 rfl (show dS 4 0 0 = some (5, 0) from rfl) kk
  unfold vX11_addParameter vX11_addParameter_b9
  refine clt32 rfl (vl (by decide)) (fun z => kx (Or.inl z)) (fun z => cle32 rfl (vl (by decide)) (fun y => ?_) (fun y => kx (Or.inr (by omega))))
  refine g_mdl R (nn_i (ygi R a40 rfl tx (fun x3 h3 => g_mdl R (nn_i (kin R (nn_i (yal R a5 (by decide) (n := 8) rfl (by decide) (fun x8 h8 => clt32 h3 h8 (fun q => ?_) (fun q => ky (by omega) y (by omega))))))))))
  have hn : n < 8 := by omega
  refine g_mdl R (nn_i (kin R (g_mdl R (nn_i (ygi R a40 rfl tx (fun x14 h14 => nn_i (wsi R a5 rfl h14 (show n < 8 from hn) (rfl : v.toInt = v.toInt) (fun h16 R16 => ?_))))))))
  refine g_mdl R16 (nn_i (ygi R16 a40 rfl (v := (n : Int)) ((up3_ne _ _ (by omega)).trans tx) (fun x19 h19 => wpvI R16 a40 rfl (v := (n : Int) + 1) (add_ti h19 (vl (by decide)) (by omega)) (fun h20 R20 => ?_))))
  exact g_mdl R20 (nn_i (ygi R20 a40 rfl (up3_same _ _ _ _ _) (fun x hx => k0 (by omega) y hn _ h20 R20 ((sub_ti hx (vl (by decide)) (by omega)).trans (by omega)))))
theorem KS.apa {n : Nat} {w : Int} (K : KS S N zz C P) (hn : S 38 0 3 = (n : Int)) (e : S' 38 0 3 = (n : Int) + 1) (e2 : S' 42 0 n = w) (f : ∀ j f : Nat, sta j f = true → ¬ (j = 38 ∧ f = 3) → ¬ (j = 42 ∧ f = n) → S' j 0 f = S j 0 f) : KS S' N zz (up3 (up3 C 5 0 n w) 4 0 1 ((n : Int) + 1)) P := by
  have K1 : KS (up3 (up3 S 42 0 n w) 38 0 3 ((n : Int) + 1)) N zz (up3 (up3 C 5 0 n w) 4 0 1 ((n : Int) + 1)) P := by
    have kd := K.kd
    unfold KS KS0 at *
    refine ⟨rfl, fun i hi => ?_, K.2.2⟩
    have hi : (i : Int) < (n : Int) + 1 := hi
    show up3 (up3 C 5 0 n w) 4 0 1 ((n : Int) + 1) 5 0 i = up3 (up3 S 42 0 n w) 38 0 3 ((n : Int) + 1) 42 0 i
    have a1 : up3 (up3 C 5 0 n w) 4 0 1 ((n : Int) + 1) 5 0 i = up3 C 5 0 n w 5 0 i := up3_ne _ _ (by omega)
    have a2 : up3 (up3 S 42 0 n w) 38 0 3 ((n : Int) + 1) 42 0 i = up3 S 42 0 n w 42 0 i := up3_ne _ _ (by omega)
    rw [a1, a2]
    by_cases z : i = n
    · rw [z, up3_same, up3_same]
    · exact (up3_ne C w (by omega)).trans ((kd i (by omega)).trans (up3_ne S w (by omega)).symm)
  exact K1.s0 (fun j g hj => by
    by_cases z : j = 38 ∧ g = 3
    · rw [z.1, z.2, e, up3_same]
    · by_cases y : j = 42 ∧ g = n
      · rw [y.1, y.2, e2, up3_ne _ _ (by omega), up3_same]
      · rw [up3_ne _ _ (by omega), up3_ne _ _ (by omega), f j g hj z y])
end CZ
