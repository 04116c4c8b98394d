/-! ===== the class: steps ===== -/
section CST
variable {h : gH} {A : dA} {N zz : Nat → Nat} {S C C0 : dC} {P : dP} {t0 f0 : Nat}
theorem a30 : ac N 3 0 := ⟨Nat.one_pos, by decide⟩
theorem c_dist {Qn : Int32 → gH → Prop} {s : Nat} (R : D h A N zz C P) (K : KS S N zz C P) (hs : (s : Int) < S 38 0 19) (h10 : s < 10) (k0 : ∀ x : Int32, x.toInt = C 3 0 s → Qn x h) : vX11_distanceOf t0 Qn h (A 0 0) (some (A 14 (s + 1))) := by
  have as := st_in K hs
  have n0 := K.nn
  have e := (K.st s (by omega)).1
  unfold vX11_distanceOf vX11_distanceOf_b31 vX11_distanceOf_b32
  refine nn_i (ygi R as rfl e (fun x2 h2 => clt32 h2 (vl (by decide)) (fun z => by omega) (fun _ => ygi R as rfl e (fun x3 h3 => g_dis R (nn_i (yal R a30 (by decide) (n := 10) rfl (by decide) (fun x6 h6 => cle32 h6 h3 (fun z => by omega) (fun _ => ?_))))))))
  exact g_dis R (ygi R as rfl e (fun x8 h8 => nn_i (yli R a30 rfl h8 (show s < 10 from h10) rfl k0)))
theorem c_setd {Qn : gH → Prop} {s : Nat} {v : Int32} {w : Int} (R : D h A N zz C P) (K : KS S N zz C P) (hs : (s : Int) < S 38 0 19) (h10 : s < 10) (hv : v.toInt = w) (k0 : ∀ h' : gH, D h' A N zz (up3 C 3 0 s w) P → Qn h') : vX11_setDistance t0 Qn h (A 0 0) (some (A 14 (s + 1))) v := by
  have as := st_in K hs
  have n0 := K.nn
  have e := (K.st s (by omega)).1
  unfold vX11_setDistance vX11_setDistance_b29
  refine nn_i (ygi R as rfl e (fun x2 h2 => clt32 h2 (vl (by decide)) (fun z => by omega) (fun _ => ygi R as rfl e (fun x3 h3 => g_dis R (nn_i (yal R a30 (by decide) (n := 10) rfl (by decide) (fun x6 h6 => cle32 h6 h3 (fun z => by omega) (fun _ => ?_))))))))
  exact g_dis R (ygi R as rfl e (fun x8 h8 => nn_i (wsi R a30 rfl h8 (show s < 10 from h10) hv k0)))
/-- distances up to d are known -/
def Bd (S : dC) (f d : Nat) (g : Nat → Int) : Prop := ∀ s : Nat, (s : Int) < S 38 0 19 → (g s = -1 ∧ ¬ rs S f d s) ∨ ∃ v : Nat, v ≤ d ∧ g s = (v : Int) ∧ lsD S f s v
def Wd (S : dC) (f d i : Nat) (g : Nat → Int) : Prop := ∀ s : Nat, (s : Int) < S 38 0 19 → (g s = -1 ∧ ¬ rs S f d s ∧ ∀ t a : Nat, t < i → (a : Int) < S 38 0 19 → lsD S f a d → ¬ edg S t a s) ∨ ∃ v : Nat, v ≤ d + 1 ∧ g s = (v : Int) ∧ lsD S f s v
theorem Wd_0 {d : Nat} {g : Nat → Int} (B : Bd S f0 d g) : Wd S f0 d 0 g := fun s hs => by
  rcases B s hs with ⟨b1, b2⟩ | ⟨v, b1, b2, b3⟩
  · exact Or.inl ⟨b1, b2, fun t a ht => by omega⟩
  · exact Or.inr ⟨v, by omega, b2, b3⟩
theorem Wd_n {d i : Nat} {g : Nat → Int} (hi : (i : Int) = S 38 0 21) (W : Wd S f0 d i g) : Bd S f0 (d + 1) g := fun s hs => by
  rcases W s hs with ⟨b1, b2, b3⟩ | b
  · refine Or.inl ⟨b1, fun z => ?_⟩
    rcases z with z | ⟨t, a, ha, z, e⟩
    · exact b2 z
    · obtain ⟨v, hv, l⟩ := rs_least z
      by_cases y : v = d
      · rw [y] at l
        exact b3 t a (by have := e.1; omega) ha l e
      · exact b2 (rs_mono (show rs S f0 (v + 1) s from Or.inr ⟨t, a, ha, l.1, e⟩) (by omega))
  · exact Or.inr b
theorem Wd_set {d i b : Nat} {g g1 : Nat → Int} (W : Wd S f0 d i g) (hb : S 60 0 (17 * i + 1) = (b : Int)) (hbs : (b : Int) < S 38 0 19) (hg : g b = -1) (hr : rs S f0 (d + 1) b) (g1b : g1 b = (d : Int) + 1) (same : ∀ s, s ≠ b → g1 s = g s) : Wd S f0 d (i + 1) g1 := fun s hs => by
  by_cases z : s = b
  · rw [z]
    refine Or.inr ⟨d + 1, Nat.le_refl _, by rw [g1b]; omega, hr, fun u hu y => ?_⟩
    rcases W b hbs with ⟨b1, b2, b3⟩ | ⟨v, b1, b2, b3⟩
    · exact b2 (rs_mono y (by omega))
    · omega
  · rw [same s z]
    rcases W s hs with ⟨b1, b2, b3⟩ | y
    · refine Or.inl ⟨b1, b2, fun t a ht ha l e => ?_⟩
      by_cases y : t = i
      · rw [y] at e
        have := e.2.2
        omega
      · exact b3 t a (by omega) ha l e
    · exact Or.inr y
theorem Wd_no {d i : Nat} {g : Nat → Int} (W : Wd S f0 d i g) (hno : ∀ a b : Nat, edg S i a b → (a : Int) < S 38 0 19 → (b : Int) < S 38 0 19 → g b = -1 → g a ≠ (d : Int)) : Wd S f0 d (i + 1) g := fun s hs => by
  rcases W s hs with ⟨b1, b2, b3⟩ | y
  · refine Or.inl ⟨b1, b2, fun t a ht ha l e => ?_⟩
    by_cases y : t = i
    · rw [y] at e
      have q := hno a s e ha hs b1
      rcases W a ha with ⟨c1, c2, c3⟩ | ⟨v, c1, c2, c3⟩
      · exact c2 l.1
      · have := lsD_one c3 l
        rw [this] at c2
        exact q c2
    · exact b3 t a (by omega) ha l e
  · exact Or.inr y
theorem KS.di {C' : dC} (K : KS S N zz C P) (fr : ∀ j i f : Nat, ¬ (j = 3) → C' j i f = C j i f) : KS S N zz C' P := by
  have e : (fun j i f => if j = 3 then 0 else C' j i f : dC) = (fun j i f => if j = 3 then 0 else C j i f : dC) := funext fun j => funext fun i => funext fun f => by
    by_cases z : j = 3
    · rw [if_pos z, if_pos z]
    · rw [if_neg z, if_neg z, fr j i f z]
  have K1 : KS S N zz (fun j i f => if j = 3 then 0 else C j i f : dC) P := by
    unfold KS KS0 at *
    exact K
  rw [← e] at K1
  unfold KS KS0 at *
  exact K1
theorem c_spread {Qn : gH → Prop} {v1 : Int32} {d : Nat} (R : D h A N zz C P) (K : KS S N zz C P) (I : SI S) (hf : (f0 : Int) < S 38 0 19) (hd : d < 10) (h1 : v1.toInt = (d : Int)) (B : Bd S f0 d (C 3 0)) (k0 : ∀ (h' : gH) (C' : dC), D h' A N zz C' P → Bd S f0 (d + 1) (C' 3 0) → (∀ j i f : Nat, ¬ (j = 3) → C' j i f = C j i f) → Qn h') : vX11_spreadFrom t0 Qn h (A 0 0) v1 := by
  have n0 := K.nn
  have i1 := I.nt
  have i2 := I.ns
  have i3 : 3 < N 1 + 5 := by omega
  have h11 : (v1 + 1).toInt = (d : Int) + 1 := add_ti h1 (vl (by decide)) (by omega)
  have lp : ∀ (m i : Nat) (h : gH) (C1 : dC) (v2 : Int32), D h A N zz C1 P → v2.toInt = (i : Int) → ((i + m : Nat) : Int) = S 38 0 21 → Wd S f0 d i (C1 3 0) → (∀ j i f : Nat, ¬ (j = 3) → C1 j i f = C j i f) → vX11_spreadFrom_b2 t0 Qn (m + 1) h (A 0 0) v1 v2 := by
    intro m
    induction m with
    | zero =>
      intro i h C1 v2 R1 h2 hm W fr
      have K1 : KS S N zz C1 P := K.di fr
      have sz := K1.sz
      show vX11_spreadFrom_b2_o t0 (vX11_spreadFrom_b2 t0 Qn 0) Qn _ _ _ _
      unfold vX11_spreadFrom_b2_o
      exact g_mdl R1 (nn_i (m_trs R1 (nn_i (wio R1 (j := 6) (i := 3) i3 rfl (by decide) (ysize R1 i3 (fun x6 h6 => cle32 h6 h2 (fun _ => k0 h C1 R1 (Wd_n (by omega) W) fr) (fun z => by omega)))))))
    | succ m ih =>
      intro i h C1 v2 R1 h2 hm W fr
      have K1 : KS S N zz C1 P := K.di fr
      have sz := K1.sz
      have hi : (i : Int) < S 38 0 21 := by omega
      have at_ := tr_in K1 hi
      have tt := I.tt i hi
      have tf := I.tf i hi
      obtain ⟨kf, kt⟩ := K1.tf i (by omega)
      obtain ⟨b, hb⟩ : ∃ b : Nat, S 60 0 (17 * i + 1) = (b : Int) := ⟨(S 60 0 (17 * i + 1)).toNat, by omega⟩
      rw [show (S 60 0 (17 * i + 1)).toNat = b by omega] at kt
      have hbs : (b : Int) < S 38 0 19 := by omega
      have h21 : (v2 + 1).toInt = ((i + 1 : Nat) : Int) := ix_add h2 (ix_lit (by decide)) (by omega)
      show vX11_spreadFrom_b2_o t0 (vX11_spreadFrom_b2 t0 Qn (m + 1)) Qn _ _ _ _
      unfold vX11_spreadFrom_b2_o
      refine g_mdl R1 (nn_i (m_trs R1 (nn_i (wio R1 (j := 6) (i := 3) i3 rfl (by decide) (ysize R1 i3 (fun x6 h6 => cle32 h6 h2 (fun z => by omega) (fun _ => ?_)))))))
      refine g_mdl R1 (nn_i (m_trs R1 (nn_i (wio R1 (j := 6) (i := 3) i3 rfl (by decide) (yget R1 K1 i3 h2 (by omega) (fun a ha => K1.e3 a i ha (by omega)) (nn_i (wio R1 at_ rfl (by decide) (ygr R1 at_ rfl kt (i00 R1 (c_dist R1 K1 hbs (by omega) (fun x16 h16 => ?_)))))))))))
      have skip : (∀ a b : Nat, edg S i a b → (a : Int) < S 38 0 19 → (b : Int) < S 38 0 19 → C1 3 0 b = -1 → C1 3 0 a ≠ (d : Int)) → vX11_spreadFrom_b97 t0 (vX11_spreadFrom_b2 t0 Qn (m + 1)) Qn h (A 0 0) v1 v2 := fun z => by
        unfold vX11_spreadFrom_b97
        exact ih (i + 1) h C1 (v2 + 1) R1 h21 (by omega) (Wd_no W z) fr
      have set_ : C1 3 0 b = -1 → rs S f0 (d + 1) b → vX11_spreadFrom_b74 t0 (vX11_spreadFrom_b2 t0 Qn (m + 1)) Qn h (A 0 0) v1 v2 (some (A 15 (i + 1))) 1 1 := fun z y => by
        unfold vX11_spreadFrom_b74 vX11_spreadFrom_b97
        refine yes1 (yes1 (nn_i (ygr R1 at_ rfl kt (i00 R1 (c_setd R1 K1 hbs (by omega) h11 (fun h3 R3 => ?_))))))
        refine ih (i + 1) h3 _ (v2 + 1) R3 h21 (by omega) (Wd_set W hb hbs z y (up3_same _ _ _ _ _) (fun s hs => up3_ne _ _ (by omega))) (fun j i f hj => ?_)
        rw [up3_ne _ _ (by omega)]
        exact fr j i f hj
      refine cne32 h16 (show (-1 : Int32).toInt = -1 by decide) (fun z => ?_) (fun z => ?_)
      · -- reached before
        have hno : ∀ a b : Nat, edg S i a b → (a : Int) < S 38 0 19 → (b : Int) < S 38 0 19 → C1 3 0 b = -1 → C1 3 0 a ≠ (d : Int) := fun a b' e _ _ q => by
          have : b' = b := by have := e.2.2; omega
          rw [this] at q
          exact absurd q z
        unfold vX11_spreadFrom_b48 vX11_spreadFrom_b69 vX11_spreadFrom_b74
        by_cases y : S 60 0 (17 * i) = -1
        · rw [if_pos y] at kf
          exact nn_i (ygn R1 at_ rfl kf ⟨fun _ => no1 (skip hno), fun a q => by cases q⟩)
        · rw [if_neg y] at kf
          refine nn_i (ygr R1 at_ rfl kf ⟨fun q => (by cases q), fun a _ => ygr R1 at_ rfl kf (i00 R1 (c_dist R1 K1 (by omega) (by omega) (fun x6 h6 => ⟨fun _ => no1 (skip hno), fun _ => no1 (skip hno)⟩)))⟩)
      · unfold vX11_spreadFrom_b48 vX11_spreadFrom_b69
        by_cases y : S 60 0 (17 * i) = -1
        · rw [if_pos y] at kf
          exact nn_i (ygn R1 at_ rfl kf ⟨fun _ => set_ z (Or.inr ⟨i, f0, hf, rs_mono (n := 0) rfl (Nat.zero_le d), hi, Or.inl y, hb⟩), fun a q => by cases q⟩)
        · rw [if_neg y] at kf
          obtain ⟨a0, ha0⟩ : ∃ a : Nat, S 60 0 (17 * i) = (a : Int) := ⟨(S 60 0 (17 * i)).toNat, by omega⟩
          rw [show (S 60 0 (17 * i)).toNat = a0 by omega] at kf
          refine nn_i (ygr R1 at_ rfl kf ⟨fun q => (by cases q), fun a _ => ygr R1 at_ rfl kf (i00 R1 (c_dist R1 K1 (s := a0) (by omega) (by omega) (fun x6 h6 => cne32 h6 h1 (fun q => ?_) (fun q => ?_))))⟩)
          · unfold vX11_spreadFrom_b74
            refine yes1 (no1 (skip (fun a b' e _ _ _ => ?_)))
            have : a = a0 := by rcases e.2.1 with u | u <;> omega
            rw [this]
            exact q
          · refine set_ z (Or.inr ⟨i, a0, by omega, ?_, hi, Or.inr ha0, hb⟩)
            rcases W a0 (by omega) with ⟨c1, c2, c3⟩ | ⟨v, c1, c2, c3⟩
            · omega
            · exact rs_mono c3.1 (by omega)
  unfold vX11_spreadFrom
  exact ⟨(S 38 0 21).toNat + 1, lp (S 38 0 21).toNat 0 h C 0 R (by decide) (by omega) (Wd_0 B) (fun _ _ _ _ => rfl)⟩
theorem q_steps {Qn : Int32 → gH → Prop} {Qx : String → gH → Prop} {v1 v2 : Int32} (R : D h A N zz C P) (K : KS S N zz C P) (I : SI S) (kx : (v1.toInt < 0 ∨ S 38 0 19 ≤ v1.toInt) ∨ (v2.toInt < 0 ∨ S 38 0 19 ≤ v2.toInt) → Qx "java/lang/IndexOutOfBoundsException" h) (k0 : 0 ≤ v1.toInt → v1.toInt < S 38 0 19 → 0 ≤ v2.toInt → v2.toInt < S 38 0 19 → ∀ (x : Int32) (h' : gH) (C' : dC), D h' A N zz C' P → (∀ j i f : Nat, ¬ (j = 3) → C' j i f = C j i f) → isD S v1.toInt.toNat v2.toInt.toNat x.toInt → Qn x h') : vX11_steps t0 Qn Qx h (A 0 0) v1 v2 := by
  have i2 := I.ns
  unfold vX11_steps
  refine i00 R (q_state_ R K (fun y => kx (Or.inl y)) (fun a hv1 ha => i00 R (q_state_ R K (fun y => kx (Or.inr y)) (fun b hv2 hb => ?_))))
  have e1 : v1.toInt.toNat = a := by omega
  have e2 : v2.toInt.toNat = b := by omega
  rw [e1, e2] at k0
  have k0 := k0 (by omega) (by omega) (by omega) (by omega)
  -- the rounds
  have lq : ∀ (m d : Nat) (h : gH) (C1 : dC) (v5 : Int32), D h A N zz C1 P → v5.toInt = (d : Int) → d + m = 10 → Bd S a d (C1 3 0) → (∀ j i f : Nat, ¬ (j = 3) → C1 j i f = C j i f) → vX11_steps_b49 t0 Qn Qx (m + 1) h (A 0 0) (some (A 14 (b + 1))) v5 := by
    intro m
    induction m with
    | zero =>
      intro d h C1 v5 R1 h5 hm B fr
      have K1 : KS S N zz C1 P := K.di fr
      show vX11_steps_b49_o t0 (vX11_steps_b49 t0 Qn Qx 0) Qn Qx _ _ _ _
      unfold vX11_steps_b49_o
      refine cle32 (vl (by decide)) h5 (fun _ => i00 R1 (c_dist R1 K1 hb (by omega) (fun x hx => k0 x h C1 R1 fr ?_))) (fun z => by omega)
      rcases B b hb with ⟨b1, b2⟩ | ⟨v, b1, b2, b3⟩
      · refine Or.inl ⟨by omega, fun n z => b2 ?_⟩
        obtain ⟨v, _, l⟩ := rs_least z
        have := lsD_lt hb l
        exact rs_mono l.1 (by omega)
      · exact Or.inr ⟨v, by omega, b3⟩
    | succ m ih =>
      intro d h C1 v5 R1 h5 hm B fr
      have K1 : KS S N zz C1 P := K.di fr
      show vX11_steps_b49_o t0 (vX11_steps_b49 t0 Qn Qx (m + 1)) Qn Qx _ _ _ _
      unfold vX11_steps_b49_o
      refine cle32 (vl (by decide)) h5 (fun z => by omega) (fun _ => i00 R1 (c_spread R1 K1 I ha (by omega) h5 B (fun h3 C3 R3 B3 f3 => ?_)))
      exact ih (d + 1) h3 C3 (v5 + 1) R3 (ix_add h5 (ix_lit (by decide)) (by omega)) (by omega) B3 (fun j i f hj => (f3 j i f hj).trans (fr j i f hj))
  -- the beginning
  have lp : ∀ (m i : Nat) (h : gH) (C1 : dC) (v5 : Int32), D h A N zz C1 P → v5.toInt = (i : Int) → i + m = 10 → (∀ s : Nat, s < i → C1 3 0 s = -1) → (∀ j i f : Nat, ¬ (j = 3) → C1 j i f = C j i f) → vX11_steps_b16 t0 Qn Qx (m + 1) h (A 0 0) (some (A 14 (a + 1))) (some (A 14 (b + 1))) v5 := by
    intro m
    induction m with
    | zero =>
      intro i h C1 v5 R1 h5 hm z1 fr
      have K1 : KS S N zz C1 P := K.di fr
      show vX11_steps_b16_o t0 (vX11_steps_b16 t0 Qn Qx 0) Qn Qx _ _ _ _ _
      unfold vX11_steps_b16_o
      refine g_dis R1 (nn_i (yal R1 a30 (by decide) (n := 10) rfl (by decide) (fun x3 h3 => cle32 h3 h5 (fun _ => i00 R1 (c_setd R1 K1 ha (by omega) (vl (by decide) : (0 : Int32).toInt = 0) (fun h4 R4 => ⟨11, ?_⟩))) (fun z => by omega))))
      refine lq 10 0 h4 _ 0 R4 (by decide) rfl (fun s hs => ?_) (fun j i f hj => ?_)
      · by_cases z : s = a
        · rw [z]
          exact Or.inr ⟨0, Nat.le_refl 0, up3_same _ _ _ _ _, rfl, fun u hu => absurd hu (Nat.not_lt_zero u)⟩
        · exact Or.inl ⟨(up3_ne _ _ (by omega)).trans (z1 s (by omega)), z⟩
      · rw [up3_ne _ _ (by omega)]
        exact fr j i f hj
    | succ m ih =>
      intro i h C1 v5 R1 h5 hm z1 fr
      show vX11_steps_b16_o t0 (vX11_steps_b16 t0 Qn Qx (m + 1)) Qn Qx _ _ _ _ _
      unfold vX11_steps_b16_o
      refine g_dis R1 (nn_i (yal R1 a30 (by decide) (n := 10) rfl (by decide) (fun x3 h3 => cle32 h3 h5 (fun z => by omega) (fun _ => g_dis R1 (nn_i (wsi R1 a30 rfl h5 (show i < 10 by omega) (show (-1 : Int32).toInt = -1 by decide) (fun h7 R7 => ?_)))))))
      refine ih (i + 1) h7 _ (v5 + 1) R7 (ix_add h5 (ix_lit (by decide)) (by omega)) (by omega) (fun s hs => ?_) (fun j i f hj => ?_)
      · by_cases z : s = i
        · rw [z]; exact up3_same _ _ _ _ _
        · rw [up3_ne _ _ (by omega)]; exact z1 s (by omega)
      · rw [up3_ne _ _ (by omega)]
        exact fr j i f hj
  exact ⟨11, lp 10 0 h C 0 R (by decide) rfl (fun s hs => by omega) (fun _ _ _ _ => rfl)⟩
end CST
