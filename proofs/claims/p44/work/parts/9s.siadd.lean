/-! ===== what holds of what was added, kept by each adding call ===== -/
section SA
variable {S S' : dC} {n : Nat} {w : Int}
theorem SI.apa  (I : SI S) (hn : S 38 0 3 = (n : Int)) (h8 : n < 8) (e : S' 38 0 3 = (n : Int) + 1) (e2 : S' 42 0 n = w) (hw : 0 ≤ w ∧ w ≤ 2) (s : ∀ j f : Nat, sta j f = true → ¬ (j = 38 ∧ f = 3 ∨ j = 42 ∧ f = n) → S' j 0 f = S j 0 f) : SI S' := by
  have r_np : 0 ≤ S' 38 0 3 ∧ S' 38 0 3 ≤ 8 := by rw [e]; omega
  have r_kd : ∀ p : Nat, p < 8 → 0 ≤ S' 42 0 p ∧ S' 42 0 p ≤ 2 := fun p hp => by
    by_cases z : p = n
    · rw [z, e2]; exact hw
    rw [s 42 p rfl (by omega)]; exact I.kd p hp
  have r_nc : 0 ≤ S' 38 0 8 ∧ S' 38 0 8 ≤ 12 := by rw [s 38 8 rfl (by omega)]; exact I.nc
  have r_cl : ∀ c : Nat, (c : Int) < S' 38 0 8 → 1 ≤ S' 44 0 c ∧ S' 44 0 c ≤ 500 := fun c hc => by
    rw [s 38 8 rfl (by omega)] at hc
    rw [s 44 c rfl (by omega)]; exact I.cl c hc
  have r_em : ∀ c : Nat, c < 12 → 0 ≤ S' 45 0 c ∧ S' 45 0 c ≤ 5 := fun c hc => by
    rw [s 45 c rfl (by omega)]; exact I.em c hc
  have r_et : ∀ c k : Nat, (c : Int) < S' 38 0 8 → (k : Int) < S' 45 0 c → 0 ≤ S' 46 0 (5 * c + k) ∧ S' 46 0 (5 * c + k) < S' 44 0 c := fun c k hc hk => by
    rw [s 38 8 rfl (by omega)] at hc
    rw [s 45 c rfl (by omega)] at hk
    have em := I.em c (by have := I.nc; omega)
    rw [s 46 (5 * c + k) rfl (by omega), s 44 c rfl (by omega)]; exact I.et c k hc hk
  have r_nn : 0 ≤ S' 38 0 14 ∧ S' 38 0 14 ≤ 20 := by rw [s 38 14 rfl (by omega)]; exact I.nn
  have r_ncl : ∀ m : Nat, (m : Int) < S' 38 0 14 → -1 ≤ S' 49 0 m ∧ S' 49 0 m < S' 38 0 8 := fun m hm => by
    rw [s 38 14 rfl (by omega)] at hm
    rw [s 49 m rfl (by omega), s 38 8 rfl (by omega)]; exact I.ncl m hm
  have r_npr : ∀ m : Nat, (m : Int) < S' 38 0 14 → S' 49 0 m = -1 → 0 ≤ S' 50 0 m ∧ S' 50 0 m < 8 := fun m hm h1 => by
    rw [s 38 14 rfl (by omega)] at hm
    rw [s 49 m rfl (by omega)] at h1
    rw [s 50 m rfl (by omega)]; exact I.npr m hm h1
  have r_cm : ∀ m : Nat, m < 20 → 0 ≤ S' 51 0 m ∧ S' 51 0 m ≤ 5 := fun m hm => by
    rw [s 51 m rfl (by omega)]; exact I.cm m hm
  have r_cmz : ∀ m : Nat, m < 20 → (S' 38 0 14 ≤ m ∨ S' 49 0 m ≠ -1) → S' 51 0 m = 0 := fun m hm h1 => by
    rw [s 38 14 rfl (by omega), s 49 m rfl (by omega)] at h1
    rw [s 51 m rfl (by omega)]; exact I.cmz m hm h1
  have r_cn : ∀ m k : Nat, (m : Int) < S' 38 0 14 → (k : Int) < S' 51 0 m → 0 ≤ S' 52 0 (5 * m + k) ∧ S' 52 0 (5 * m + k) < m := fun m k hm hk => by
    rw [s 38 14 rfl (by omega)] at hm
    rw [s 51 m rfl (by omega)] at hk
    have cm := I.cm m (by have := I.nn; omega)
    rw [s 52 (5 * m + k) rfl (by omega)]; exact I.cn m k hm hk
  have r_ca : ∀ m k : Nat, (m : Int) < S' 38 0 14 → (k : Int) < S' 51 0 m → -100 ≤ S' 53 0 (5 * m + k) ∧ S' 53 0 (5 * m + k) ≤ 100 := fun m k hm hk => by
    rw [s 38 14 rfl (by omega)] at hm
    rw [s 51 m rfl (by omega)] at hk
    have cm := I.cm m (by have := I.nn; omega)
    rw [s 53 (5 * m + k) rfl (by omega)]; exact I.ca m k hm hk
  have r_cd : ∀ m k l : Nat, (m : Int) < S' 38 0 14 → (k : Int) < S' 51 0 m → (l : Int) < S' 51 0 m → S' 53 0 (5 * m + k) = S' 53 0 (5 * m + l) → k = l := fun m k l hm hk hl h1 => by
    rw [s 38 14 rfl (by omega)] at hm
    rw [s 51 m rfl (by omega)] at hk hl
    have cm := I.cm m (by have := I.nn; omega)
    rw [s 53 (5 * m + k) rfl (by omega), s 53 (5 * m + l) rfl (by omega)] at h1; exact I.cd m k l hm hk hl h1
  have r_cc : ∀ m k : Nat, (m : Int) < S' 38 0 14 → (k : Int) < S' 51 0 m → S' 49 0 (S' 52 0 (5 * m + k)).toNat ≠ -1 ∨ 0 < S' 51 0 (S' 52 0 (5 * m + k)).toNat := fun m k hm hk => by
    rw [s 38 14 rfl (by omega)] at hm
    rw [s 51 m rfl (by omega)] at hk
    have cm := I.cm m (by have := I.nn; omega)
    have cn := I.cn m k hm hk
    rw [s 52 (5 * m + k) rfl (by omega), s 49 _ rfl (by omega), s 51 _ rfl (by omega)]; exact I.cc m k hm hk
  have r_dp : ∃ d : Nat → Nat, ∀ m : Nat, (m : Int) < S' 38 0 14 → 1 ≤ d m ∧ d m ≤ 4 ∧ ∀ k : Nat, (k : Int) < S' 51 0 m → d (S' 52 0 (5 * m + k)).toNat < d m := by
    obtain ⟨d, h⟩ := I.dp
    refine ⟨d, fun m hm => ?_⟩
    rw [s 38 14 rfl (by omega)] at hm
    have cm := I.cm m (by have := I.nn; omega)
    obtain ⟨h1, h2, h3⟩ := h m hm
    refine ⟨h1, h2, fun k hk => ?_⟩
    rw [s 51 m rfl (by omega)] at hk
    rw [s 52 (5 * m + k) rfl (by omega)]; exact h3 k hk
  have r_ns : 0 ≤ S' 38 0 19 ∧ S' 38 0 19 ≤ 10 := by rw [s 38 19 rfl (by omega)]; exact I.ns
  have r_mo : ∀ x : Nat, (x : Int) < S' 38 0 19 → 0 ≤ S' 55 0 x ∧ S' 55 0 x < S' 38 0 14 := fun x hx => by
    rw [s 38 19 rfl (by omega)] at hx
    rw [s 55 x rfl (by omega), s 38 14 rfl (by omega)]; exact I.mo x hx
  have r_mc : ∀ x : Nat, (x : Int) < S' 38 0 19 → S' 49 0 (S' 55 0 x).toNat ≠ -1 ∨ 0 < S' 51 0 (S' 55 0 x).toNat := fun x hx => by
    rw [s 38 19 rfl (by omega)] at hx
    have mo := I.mo x hx
    rw [s 55 x rfl (by omega), s 49 _ rfl (by omega), s 51 _ rfl (by omega)]; exact I.mc x hx
  have r_sp : ∀ x : Nat, (x : Int) < S' 38 0 19 → 1 ≤ S' 56 0 x ∧ S' 56 0 x ≤ 400 := fun x hx => by
    rw [s 38 19 rfl (by omega)] at hx
    rw [s 56 x rfl (by omega)]; exact I.sp x hx
  have r_lo : ∀ x : Nat, x < 10 → S' 57 0 x = 0 ∨ S' 57 0 x = 1 := fun x hx => by
    rw [s 57 x rfl (by omega)]; exact I.lo x hx
  have r_gr : ∀ x : Nat, x < 10 → 0 ≤ S' 58 0 x ∧ S' 58 0 x ≤ 3 := fun x hx => by
    rw [s 58 x rfl (by omega)]; exact I.gr x hx
  have r_nt : 0 ≤ S' 38 0 21 ∧ S' 38 0 21 ≤ 24 := by rw [s 38 21 rfl (by omega)]; exact I.nt
  have r_tf : ∀ t : Nat, (t : Int) < S' 38 0 21 → -1 ≤ S' 60 0 (17 * t) ∧ S' 60 0 (17 * t) < S' 38 0 19 := fun t ht => by
    rw [s 38 21 rfl (by omega)] at ht
    rw [s 60 (17 * t) rfl (by omega), s 38 19 rfl (by omega)]; exact I.tf t ht
  have r_tt : ∀ t : Nat, (t : Int) < S' 38 0 21 → 0 ≤ S' 60 0 (17 * t + 1) ∧ S' 60 0 (17 * t + 1) < S' 38 0 19 := fun t ht => by
    rw [s 38 21 rfl (by omega)] at ht
    rw [s 60 (17 * t + 1) rfl (by omega), s 38 19 rfl (by omega)]; exact I.tt t ht
  have r_td : ∀ t : Nat, (t : Int) < S' 38 0 21 → 0 ≤ S' 60 0 (17 * t + 2) ∧ S' 60 0 (17 * t + 2) ≤ 60 := fun t ht => by
    rw [s 38 21 rfl (by omega)] at ht
    rw [s 60 (17 * t + 2) rfl (by omega)]; exact I.td t ht
  have r_te : ∀ t : Nat, (t : Int) < S' 38 0 21 → -1 ≤ S' 60 0 (17 * t + 3) ∧ S' 60 0 (17 * t + 3) ≤ 300 := fun t ht => by
    rw [s 38 21 rfl (by omega)] at ht
    rw [s 60 (17 * t + 3) rfl (by omega)]; exact I.te t ht
  have r_tea : ∀ t : Nat, (t : Int) < S' 38 0 21 → S' 60 0 (17 * t) = -1 → S' 60 0 (17 * t + 3) = -1 := fun t ht h1 => by
    rw [s 38 21 rfl (by omega)] at ht
    rw [s 60 (17 * t) rfl (by omega)] at h1
    rw [s 60 (17 * t + 3) rfl (by omega)]; exact I.tea t ht h1
  have r_ts : ∀ t : Nat, (t : Int) < S' 38 0 21 → 0 ≤ S' 60 0 (17 * t + 4) ∧ S' 60 0 (17 * t + 4) ≤ 99 := fun t ht => by
    rw [s 38 21 rfl (by omega)] at ht
    rw [s 60 (17 * t + 4) rfl (by omega)]; exact I.ts t ht
  have r_tm : ∀ t : Nat, (t : Int) < S' 38 0 21 → 0 ≤ S' 60 0 (17 * t + 5) ∧ S' 60 0 (17 * t + 5) ≤ 4 := fun t ht => by
    rw [s 38 21 rfl (by omega)] at ht
    rw [s 60 (17 * t + 5) rfl (by omega)]; exact I.tm t ht
  have r_tor : ∀ t : Nat, (t : Int) < S' 38 0 21 → S' 60 0 (17 * t + 6) = 0 ∨ S' 60 0 (17 * t + 6) = 1 := fun t ht => by
    rw [s 38 21 rfl (by omega)] at ht
    rw [s 60 (17 * t + 6) rfl (by omega)]; exact I.tor t ht
  have r_tc : ∀ t : Nat, (t : Int) < S' 38 0 21 → 0 ≤ S' 60 0 (17 * t + 7) ∧ S' 60 0 (17 * t + 7) ≤ 3 := fun t ht => by
    rw [s 38 21 rfl (by omega)] at ht
    rw [s 60 (17 * t + 7) rfl (by omega)]; exact I.tc t ht
  have r_tp : ∀ t k : Nat, (t : Int) < S' 38 0 21 → (k : Int) < S' 60 0 (17 * t + 7) → 0 ≤ S' 60 0 (17 * t + 8 + 3 * k) ∧ S' 60 0 (17 * t + 8 + 3 * k) < S' 38 0 3 := fun t k ht hk => by
    rw [s 38 21 rfl (by omega)] at ht
    rw [s 60 (17 * t + 7) rfl (by omega)] at hk
    have tc := I.tc t ht
    rw [s 60 (17 * t + 8 + 3 * k) rfl (by omega), e]
    have q := I.tp t k ht hk
    omega
  have r_to_ : ∀ t k : Nat, (t : Int) < S' 38 0 21 → (k : Int) < S' 60 0 (17 * t + 7) → 0 ≤ S' 60 0 (17 * t + 8 + 3 * k + 1) ∧ S' 60 0 (17 * t + 8 + 3 * k + 1) ≤ 3 := fun t k ht hk => by
    rw [s 38 21 rfl (by omega)] at ht
    rw [s 60 (17 * t + 7) rfl (by omega)] at hk
    have tc := I.tc t ht
    rw [s 60 (17 * t + 8 + 3 * k + 1) rfl (by omega)]; exact I.to_ t k ht hk
  have r_th : 0 ≤ S' 38 0 22 ∧ S' 38 0 22 ≤ 100 := by rw [s 38 22 rfl (by omega)]; exact I.th
  have r_tl : 0 ≤ S' 38 0 24 ∧ S' 38 0 24 ≤ 150 := by rw [s 38 24 rfl (by omega)]; exact I.tl
  have r_tx : ∀ i : Nat, i < 150 → 0 ≤ S' 63 0 i ∧ S' 63 0 i ≤ 255 := fun i hi => by
    rw [s 63 i rfl (by omega)]; exact I.tx i hi
  exact ⟨r_np, r_kd, r_nc, r_cl, r_em, r_et, r_nn, r_ncl, r_npr, r_cm, r_cmz, r_cn, r_ca, r_cd, r_cc, r_dp, r_ns, r_mo, r_mc, r_sp, r_lo, r_gr, r_nt, r_tf, r_tt, r_td, r_te, r_tea, r_ts, r_tm, r_tor, r_tc, r_tp, r_to_, r_th, r_tl, r_tx⟩
theorem SI.acl  (I : SI S) (hn : S 38 0 8 = (n : Int)) (h12 : n < 12) (z45 : S 45 0 n = 0) (e : S' 38 0 8 = (n : Int) + 1) (e2 : S' 44 0 n = w) (hw : 1 ≤ w ∧ w ≤ 500) (s : ∀ j f : Nat, sta j f = true → ¬ (j = 38 ∧ f = 8 ∨ j = 44 ∧ f = n) → S' j 0 f = S j 0 f) : SI S' := by
  have r_np : 0 ≤ S' 38 0 3 ∧ S' 38 0 3 ≤ 8 := by rw [s 38 3 rfl (by omega)]; exact I.np
  have r_kd : ∀ p : Nat, p < 8 → 0 ≤ S' 42 0 p ∧ S' 42 0 p ≤ 2 := fun p hp => by
    rw [s 42 p rfl (by omega)]; exact I.kd p hp
  have r_nc : 0 ≤ S' 38 0 8 ∧ S' 38 0 8 ≤ 12 := by rw [e]; omega
  have r_cl : ∀ c : Nat, (c : Int) < S' 38 0 8 → 1 ≤ S' 44 0 c ∧ S' 44 0 c ≤ 500 := fun c hc => by
    by_cases z : c = n
    · rw [z, e2]; exact hw
    · rw [s 44 c rfl (by omega)]; exact I.cl c (by omega)
  have r_em : ∀ c : Nat, c < 12 → 0 ≤ S' 45 0 c ∧ S' 45 0 c ≤ 5 := fun c hc => by
    rw [s 45 c rfl (by omega)]; exact I.em c hc
  have r_et : ∀ c k : Nat, (c : Int) < S' 38 0 8 → (k : Int) < S' 45 0 c → 0 ≤ S' 46 0 (5 * c + k) ∧ S' 46 0 (5 * c + k) < S' 44 0 c := fun c k hc hk => by
    rw [s 45 c rfl (by omega)] at hk
    by_cases z : c = n
    · rw [z, z45] at hk; omega
    · have em := I.em c (by omega)
      rw [s 46 (5 * c + k) rfl (by omega), s 44 c rfl (by omega)]; exact I.et c k (by omega) hk
  have r_nn : 0 ≤ S' 38 0 14 ∧ S' 38 0 14 ≤ 20 := by rw [s 38 14 rfl (by omega)]; exact I.nn
  have r_ncl : ∀ m : Nat, (m : Int) < S' 38 0 14 → -1 ≤ S' 49 0 m ∧ S' 49 0 m < S' 38 0 8 := fun m hm => by
    rw [s 38 14 rfl (by omega)] at hm
    rw [s 49 m rfl (by omega), e]
    have q := I.ncl m hm
    omega
  have r_npr : ∀ m : Nat, (m : Int) < S' 38 0 14 → S' 49 0 m = -1 → 0 ≤ S' 50 0 m ∧ S' 50 0 m < 8 := fun m hm h1 => by
    rw [s 38 14 rfl (by omega)] at hm
    rw [s 49 m rfl (by omega)] at h1
    rw [s 50 m rfl (by omega)]; exact I.npr m hm h1
  have r_cm : ∀ m : Nat, m < 20 → 0 ≤ S' 51 0 m ∧ S' 51 0 m ≤ 5 := fun m hm => by
    rw [s 51 m rfl (by omega)]; exact I.cm m hm
  have r_cmz : ∀ m : Nat, m < 20 → (S' 38 0 14 ≤ m ∨ S' 49 0 m ≠ -1) → S' 51 0 m = 0 := fun m hm h1 => by
    rw [s 38 14 rfl (by omega), s 49 m rfl (by omega)] at h1
    rw [s 51 m rfl (by omega)]; exact I.cmz m hm h1
  have r_cn : ∀ m k : Nat, (m : Int) < S' 38 0 14 → (k : Int) < S' 51 0 m → 0 ≤ S' 52 0 (5 * m + k) ∧ S' 52 0 (5 * m + k) < m := fun m k hm hk => by
    rw [s 38 14 rfl (by omega)] at hm
    rw [s 51 m rfl (by omega)] at hk
    have cm := I.cm m (by have := I.nn; omega)
    rw [s 52 (5 * m + k) rfl (by omega)]; exact I.cn m k hm hk
  have r_ca : ∀ m k : Nat, (m : Int) < S' 38 0 14 → (k : Int) < S' 51 0 m → -100 ≤ S' 53 0 (5 * m + k) ∧ S' 53 0 (5 * m + k) ≤ 100 := fun m k hm hk => by
    rw [s 38 14 rfl (by omega)] at hm
    rw [s 51 m rfl (by omega)] at hk
    have cm := I.cm m (by have := I.nn; omega)
    rw [s 53 (5 * m + k) rfl (by omega)]; exact I.ca m k hm hk
  have r_cd : ∀ m k l : Nat, (m : Int) < S' 38 0 14 → (k : Int) < S' 51 0 m → (l : Int) < S' 51 0 m → S' 53 0 (5 * m + k) = S' 53 0 (5 * m + l) → k = l := fun m k l hm hk hl h1 => by
    rw [s 38 14 rfl (by omega)] at hm
    rw [s 51 m rfl (by omega)] at hk hl
    have cm := I.cm m (by have := I.nn; omega)
    rw [s 53 (5 * m + k) rfl (by omega), s 53 (5 * m + l) rfl (by omega)] at h1; exact I.cd m k l hm hk hl h1
  have r_cc : ∀ m k : Nat, (m : Int) < S' 38 0 14 → (k : Int) < S' 51 0 m → S' 49 0 (S' 52 0 (5 * m + k)).toNat ≠ -1 ∨ 0 < S' 51 0 (S' 52 0 (5 * m + k)).toNat := fun m k hm hk => by
    rw [s 38 14 rfl (by omega)] at hm
    rw [s 51 m rfl (by omega)] at hk
    have cm := I.cm m (by have := I.nn; omega)
    have cn := I.cn m k hm hk
    rw [s 52 (5 * m + k) rfl (by omega), s 49 _ rfl (by omega), s 51 _ rfl (by omega)]; exact I.cc m k hm hk
  have r_dp : ∃ d : Nat → Nat, ∀ m : Nat, (m : Int) < S' 38 0 14 → 1 ≤ d m ∧ d m ≤ 4 ∧ ∀ k : Nat, (k : Int) < S' 51 0 m → d (S' 52 0 (5 * m + k)).toNat < d m := by
    obtain ⟨d, h⟩ := I.dp
    refine ⟨d, fun m hm => ?_⟩
    rw [s 38 14 rfl (by omega)] at hm
    have cm := I.cm m (by have := I.nn; omega)
    obtain ⟨h1, h2, h3⟩ := h m hm
    refine ⟨h1, h2, fun k hk => ?_⟩
    rw [s 51 m rfl (by omega)] at hk
    rw [s 52 (5 * m + k) rfl (by omega)]; exact h3 k hk
  have r_ns : 0 ≤ S' 38 0 19 ∧ S' 38 0 19 ≤ 10 := by rw [s 38 19 rfl (by omega)]; exact I.ns
  have r_mo : ∀ x : Nat, (x : Int) < S' 38 0 19 → 0 ≤ S' 55 0 x ∧ S' 55 0 x < S' 38 0 14 := fun x hx => by
    rw [s 38 19 rfl (by omega)] at hx
    rw [s 55 x rfl (by omega), s 38 14 rfl (by omega)]; exact I.mo x hx
  have r_mc : ∀ x : Nat, (x : Int) < S' 38 0 19 → S' 49 0 (S' 55 0 x).toNat ≠ -1 ∨ 0 < S' 51 0 (S' 55 0 x).toNat := fun x hx => by
    rw [s 38 19 rfl (by omega)] at hx
    have mo := I.mo x hx
    rw [s 55 x rfl (by omega), s 49 _ rfl (by omega), s 51 _ rfl (by omega)]; exact I.mc x hx
  have r_sp : ∀ x : Nat, (x : Int) < S' 38 0 19 → 1 ≤ S' 56 0 x ∧ S' 56 0 x ≤ 400 := fun x hx => by
    rw [s 38 19 rfl (by omega)] at hx
    rw [s 56 x rfl (by omega)]; exact I.sp x hx
  have r_lo : ∀ x : Nat, x < 10 → S' 57 0 x = 0 ∨ S' 57 0 x = 1 := fun x hx => by
    rw [s 57 x rfl (by omega)]; exact I.lo x hx
  have r_gr : ∀ x : Nat, x < 10 → 0 ≤ S' 58 0 x ∧ S' 58 0 x ≤ 3 := fun x hx => by
    rw [s 58 x rfl (by omega)]; exact I.gr x hx
  have r_nt : 0 ≤ S' 38 0 21 ∧ S' 38 0 21 ≤ 24 := by rw [s 38 21 rfl (by omega)]; exact I.nt
  have r_tf : ∀ t : Nat, (t : Int) < S' 38 0 21 → -1 ≤ S' 60 0 (17 * t) ∧ S' 60 0 (17 * t) < S' 38 0 19 := fun t ht => by
    rw [s 38 21 rfl (by omega)] at ht
    rw [s 60 (17 * t) rfl (by omega), s 38 19 rfl (by omega)]; exact I.tf t ht
  have r_tt : ∀ t : Nat, (t : Int) < S' 38 0 21 → 0 ≤ S' 60 0 (17 * t + 1) ∧ S' 60 0 (17 * t + 1) < S' 38 0 19 := fun t ht => by
    rw [s 38 21 rfl (by omega)] at ht
    rw [s 60 (17 * t + 1) rfl (by omega), s 38 19 rfl (by omega)]; exact I.tt t ht
  have r_td : ∀ t : Nat, (t : Int) < S' 38 0 21 → 0 ≤ S' 60 0 (17 * t + 2) ∧ S' 60 0 (17 * t + 2) ≤ 60 := fun t ht => by
    rw [s 38 21 rfl (by omega)] at ht
    rw [s 60 (17 * t + 2) rfl (by omega)]; exact I.td t ht
  have r_te : ∀ t : Nat, (t : Int) < S' 38 0 21 → -1 ≤ S' 60 0 (17 * t + 3) ∧ S' 60 0 (17 * t + 3) ≤ 300 := fun t ht => by
    rw [s 38 21 rfl (by omega)] at ht
    rw [s 60 (17 * t + 3) rfl (by omega)]; exact I.te t ht
  have r_tea : ∀ t : Nat, (t : Int) < S' 38 0 21 → S' 60 0 (17 * t) = -1 → S' 60 0 (17 * t + 3) = -1 := fun t ht h1 => by
    rw [s 38 21 rfl (by omega)] at ht
    rw [s 60 (17 * t) rfl (by omega)] at h1
    rw [s 60 (17 * t + 3) rfl (by omega)]; exact I.tea t ht h1
  have r_ts : ∀ t : Nat, (t : Int) < S' 38 0 21 → 0 ≤ S' 60 0 (17 * t + 4) ∧ S' 60 0 (17 * t + 4) ≤ 99 := fun t ht => by
    rw [s 38 21 rfl (by omega)] at ht
    rw [s 60 (17 * t + 4) rfl (by omega)]; exact I.ts t ht
  have r_tm : ∀ t : Nat, (t : Int) < S' 38 0 21 → 0 ≤ S' 60 0 (17 * t + 5) ∧ S' 60 0 (17 * t + 5) ≤ 4 := fun t ht => by
    rw [s 38 21 rfl (by omega)] at ht
    rw [s 60 (17 * t + 5) rfl (by omega)]; exact I.tm t ht
  have r_tor : ∀ t : Nat, (t : Int) < S' 38 0 21 → S' 60 0 (17 * t + 6) = 0 ∨ S' 60 0 (17 * t + 6) = 1 := fun t ht => by
    rw [s 38 21 rfl (by omega)] at ht
    rw [s 60 (17 * t + 6) rfl (by omega)]; exact I.tor t ht
  have r_tc : ∀ t : Nat, (t : Int) < S' 38 0 21 → 0 ≤ S' 60 0 (17 * t + 7) ∧ S' 60 0 (17 * t + 7) ≤ 3 := fun t ht => by
    rw [s 38 21 rfl (by omega)] at ht
    rw [s 60 (17 * t + 7) rfl (by omega)]; exact I.tc t ht
  have r_tp : ∀ t k : Nat, (t : Int) < S' 38 0 21 → (k : Int) < S' 60 0 (17 * t + 7) → 0 ≤ S' 60 0 (17 * t + 8 + 3 * k) ∧ S' 60 0 (17 * t + 8 + 3 * k) < S' 38 0 3 := fun t k ht hk => by
    rw [s 38 21 rfl (by omega)] at ht
    rw [s 60 (17 * t + 7) rfl (by omega)] at hk
    have tc := I.tc t ht
    rw [s 60 (17 * t + 8 + 3 * k) rfl (by omega), s 38 3 rfl (by omega)]; exact I.tp t k ht hk
  have r_to_ : ∀ t k : Nat, (t : Int) < S' 38 0 21 → (k : Int) < S' 60 0 (17 * t + 7) → 0 ≤ S' 60 0 (17 * t + 8 + 3 * k + 1) ∧ S' 60 0 (17 * t + 8 + 3 * k + 1) ≤ 3 := fun t k ht hk => by
    rw [s 38 21 rfl (by omega)] at ht
    rw [s 60 (17 * t + 7) rfl (by omega)] at hk
    have tc := I.tc t ht
    rw [s 60 (17 * t + 8 + 3 * k + 1) rfl (by omega)]; exact I.to_ t k ht hk
  have r_th : 0 ≤ S' 38 0 22 ∧ S' 38 0 22 ≤ 100 := by rw [s 38 22 rfl (by omega)]; exact I.th
  have r_tl : 0 ≤ S' 38 0 24 ∧ S' 38 0 24 ≤ 150 := by rw [s 38 24 rfl (by omega)]; exact I.tl
  have r_tx : ∀ i : Nat, i < 150 → 0 ≤ S' 63 0 i ∧ S' 63 0 i ≤ 255 := fun i hi => by
    rw [s 63 i rfl (by omega)]; exact I.tx i hi
  exact ⟨r_np, r_kd, r_nc, r_cl, r_em, r_et, r_nn, r_ncl, r_npr, r_cm, r_cmz, r_cn, r_ca, r_cd, r_cc, r_dp, r_ns, r_mo, r_mc, r_sp, r_lo, r_gr, r_nt, r_tf, r_tt, r_td, r_te, r_tea, r_ts, r_tm, r_tor, r_tc, r_tp, r_to_, r_th, r_tl, r_tx⟩
theorem SI.aev {c : Nat} (I : SI S) (hc0 : (c : Int) < S 38 0 8) (hn : S 45 0 c = (n : Int)) (h5 : n < 5) (e : S' 45 0 c = (n : Int) + 1) (e2 : ∀ k : Nat, k < n + 1 → 0 ≤ S' 46 0 (5 * c + k) ∧ S' 46 0 (5 * c + k) < S 44 0 c) (s : ∀ j f : Nat, sta j f = true → ¬ (j = 45 ∧ f = c ∨ (j = 46 ∨ j = 47) ∧ 5 * c ≤ f ∧ f < 5 * c + 5) → S' j 0 f = S j 0 f) : SI S' := by
  have r_np : 0 ≤ S' 38 0 3 ∧ S' 38 0 3 ≤ 8 := by rw [s 38 3 rfl (by omega)]; exact I.np
  have r_kd : ∀ p : Nat, p < 8 → 0 ≤ S' 42 0 p ∧ S' 42 0 p ≤ 2 := fun p hp => by
    rw [s 42 p rfl (by omega)]; exact I.kd p hp
  have r_nc : 0 ≤ S' 38 0 8 ∧ S' 38 0 8 ≤ 12 := by rw [s 38 8 rfl (by omega)]; exact I.nc
  have r_cl : ∀ c : Nat, (c : Int) < S' 38 0 8 → 1 ≤ S' 44 0 c ∧ S' 44 0 c ≤ 500 := fun c hc => by
    rw [s 38 8 rfl (by omega)] at hc
    rw [s 44 c rfl (by omega)]; exact I.cl c hc
  have r_em : ∀ c : Nat, c < 12 → 0 ≤ S' 45 0 c ∧ S' 45 0 c ≤ 5 := fun m hm => by
    by_cases z : m = c
    · rw [z, e]; omega
    rw [s 45 m rfl (by omega)]; exact I.em m hm
  have r_et : ∀ c k : Nat, (c : Int) < S' 38 0 8 → (k : Int) < S' 45 0 c → 0 ≤ S' 46 0 (5 * c + k) ∧ S' 46 0 (5 * c + k) < S' 44 0 c := fun m k hm hk => by
    rw [s 38 8 rfl (by omega)] at hm
    by_cases z : m = c
    · rw [z, e] at hk
      rw [z, s 44 c rfl (by omega)]
      exact e2 k (by omega)
    rw [s 45 m rfl (by omega)] at hk
    have em := I.em m (by have := I.nc; omega)
    rw [s 46 (5 * m + k) rfl (by omega), s 44 m rfl (by omega)]; exact I.et m k hm hk
  have r_nn : 0 ≤ S' 38 0 14 ∧ S' 38 0 14 ≤ 20 := by rw [s 38 14 rfl (by omega)]; exact I.nn
  have r_ncl : ∀ m : Nat, (m : Int) < S' 38 0 14 → -1 ≤ S' 49 0 m ∧ S' 49 0 m < S' 38 0 8 := fun m hm => by
    rw [s 38 14 rfl (by omega)] at hm
    rw [s 49 m rfl (by omega), s 38 8 rfl (by omega)]; exact I.ncl m hm
  have r_npr : ∀ m : Nat, (m : Int) < S' 38 0 14 → S' 49 0 m = -1 → 0 ≤ S' 50 0 m ∧ S' 50 0 m < 8 := fun m hm h1 => by
    rw [s 38 14 rfl (by omega)] at hm
    rw [s 49 m rfl (by omega)] at h1
    rw [s 50 m rfl (by omega)]; exact I.npr m hm h1
  have r_cm : ∀ m : Nat, m < 20 → 0 ≤ S' 51 0 m ∧ S' 51 0 m ≤ 5 := fun m hm => by
    rw [s 51 m rfl (by omega)]; exact I.cm m hm
  have r_cmz : ∀ m : Nat, m < 20 → (S' 38 0 14 ≤ m ∨ S' 49 0 m ≠ -1) → S' 51 0 m = 0 := fun m hm h1 => by
    rw [s 38 14 rfl (by omega), s 49 m rfl (by omega)] at h1
    rw [s 51 m rfl (by omega)]; exact I.cmz m hm h1
  have r_cn : ∀ m k : Nat, (m : Int) < S' 38 0 14 → (k : Int) < S' 51 0 m → 0 ≤ S' 52 0 (5 * m + k) ∧ S' 52 0 (5 * m + k) < m := fun m k hm hk => by
    rw [s 38 14 rfl (by omega)] at hm
    rw [s 51 m rfl (by omega)] at hk
    have cm := I.cm m (by have := I.nn; omega)
    rw [s 52 (5 * m + k) rfl (by omega)]; exact I.cn m k hm hk
  have r_ca : ∀ m k : Nat, (m : Int) < S' 38 0 14 → (k : Int) < S' 51 0 m → -100 ≤ S' 53 0 (5 * m + k) ∧ S' 53 0 (5 * m + k) ≤ 100 := fun m k hm hk => by
    rw [s 38 14 rfl (by omega)] at hm
    rw [s 51 m rfl (by omega)] at hk
    have cm := I.cm m (by have := I.nn; omega)
    rw [s 53 (5 * m + k) rfl (by omega)]; exact I.ca m k hm hk
  have r_cd : ∀ m k l : Nat, (m : Int) < S' 38 0 14 → (k : Int) < S' 51 0 m → (l : Int) < S' 51 0 m → S' 53 0 (5 * m + k) = S' 53 0 (5 * m + l) → k = l := fun m k l hm hk hl h1 => by
    rw [s 38 14 rfl (by omega)] at hm
    rw [s 51 m rfl (by omega)] at hk hl
    have cm := I.cm m (by have := I.nn; omega)
    rw [s 53 (5 * m + k) rfl (by omega), s 53 (5 * m + l) rfl (by omega)] at h1; exact I.cd m k l hm hk hl h1
  have r_cc : ∀ m k : Nat, (m : Int) < S' 38 0 14 → (k : Int) < S' 51 0 m → S' 49 0 (S' 52 0 (5 * m + k)).toNat ≠ -1 ∨ 0 < S' 51 0 (S' 52 0 (5 * m + k)).toNat := fun m k hm hk => by
    rw [s 38 14 rfl (by omega)] at hm
    rw [s 51 m rfl (by omega)] at hk
    have cm := I.cm m (by have := I.nn; omega)
    have cn := I.cn m k hm hk
    rw [s 52 (5 * m + k) rfl (by omega), s 49 _ rfl (by omega), s 51 _ rfl (by omega)]; exact I.cc m k hm hk
  have r_dp : ∃ d : Nat → Nat, ∀ m : Nat, (m : Int) < S' 38 0 14 → 1 ≤ d m ∧ d m ≤ 4 ∧ ∀ k : Nat, (k : Int) < S' 51 0 m → d (S' 52 0 (5 * m + k)).toNat < d m := by
    obtain ⟨d, h⟩ := I.dp
    refine ⟨d, fun m hm => ?_⟩
    rw [s 38 14 rfl (by omega)] at hm
    have cm := I.cm m (by have := I.nn; omega)
    obtain ⟨h1, h2, h3⟩ := h m hm
    refine ⟨h1, h2, fun k hk => ?_⟩
    rw [s 51 m rfl (by omega)] at hk
    rw [s 52 (5 * m + k) rfl (by omega)]; exact h3 k hk
  have r_ns : 0 ≤ S' 38 0 19 ∧ S' 38 0 19 ≤ 10 := by rw [s 38 19 rfl (by omega)]; exact I.ns
  have r_mo : ∀ x : Nat, (x : Int) < S' 38 0 19 → 0 ≤ S' 55 0 x ∧ S' 55 0 x < S' 38 0 14 := fun x hx => by
    rw [s 38 19 rfl (by omega)] at hx
    rw [s 55 x rfl (by omega), s 38 14 rfl (by omega)]; exact I.mo x hx
  have r_mc : ∀ x : Nat, (x : Int) < S' 38 0 19 → S' 49 0 (S' 55 0 x).toNat ≠ -1 ∨ 0 < S' 51 0 (S' 55 0 x).toNat := fun x hx => by
    rw [s 38 19 rfl (by omega)] at hx
    have mo := I.mo x hx
    rw [s 55 x rfl (by omega), s 49 _ rfl (by omega), s 51 _ rfl (by omega)]; exact I.mc x hx
  have r_sp : ∀ x : Nat, (x : Int) < S' 38 0 19 → 1 ≤ S' 56 0 x ∧ S' 56 0 x ≤ 400 := fun x hx => by
    rw [s 38 19 rfl (by omega)] at hx
    rw [s 56 x rfl (by omega)]; exact I.sp x hx
  have r_lo : ∀ x : Nat, x < 10 → S' 57 0 x = 0 ∨ S' 57 0 x = 1 := fun x hx => by
    rw [s 57 x rfl (by omega)]; exact I.lo x hx
  have r_gr : ∀ x : Nat, x < 10 → 0 ≤ S' 58 0 x ∧ S' 58 0 x ≤ 3 := fun x hx => by
    rw [s 58 x rfl (by omega)]; exact I.gr x hx
  have r_nt : 0 ≤ S' 38 0 21 ∧ S' 38 0 21 ≤ 24 := by rw [s 38 21 rfl (by omega)]; exact I.nt
  have r_tf : ∀ t : Nat, (t : Int) < S' 38 0 21 → -1 ≤ S' 60 0 (17 * t) ∧ S' 60 0 (17 * t) < S' 38 0 19 := fun t ht => by
    rw [s 38 21 rfl (by omega)] at ht
    rw [s 60 (17 * t) rfl (by omega), s 38 19 rfl (by omega)]; exact I.tf t ht
  have r_tt : ∀ t : Nat, (t : Int) < S' 38 0 21 → 0 ≤ S' 60 0 (17 * t + 1) ∧ S' 60 0 (17 * t + 1) < S' 38 0 19 := fun t ht => by
    rw [s 38 21 rfl (by omega)] at ht
    rw [s 60 (17 * t + 1) rfl (by omega), s 38 19 rfl (by omega)]; exact I.tt t ht
  have r_td : ∀ t : Nat, (t : Int) < S' 38 0 21 → 0 ≤ S' 60 0 (17 * t + 2) ∧ S' 60 0 (17 * t + 2) ≤ 60 := fun t ht => by
    rw [s 38 21 rfl (by omega)] at ht
    rw [s 60 (17 * t + 2) rfl (by omega)]; exact I.td t ht
  have r_te : ∀ t : Nat, (t : Int) < S' 38 0 21 → -1 ≤ S' 60 0 (17 * t + 3) ∧ S' 60 0 (17 * t + 3) ≤ 300 := fun t ht => by
    rw [s 38 21 rfl (by omega)] at ht
    rw [s 60 (17 * t + 3) rfl (by omega)]; exact I.te t ht
  have r_tea : ∀ t : Nat, (t : Int) < S' 38 0 21 → S' 60 0 (17 * t) = -1 → S' 60 0 (17 * t + 3) = -1 := fun t ht h1 => by
    rw [s 38 21 rfl (by omega)] at ht
    rw [s 60 (17 * t) rfl (by omega)] at h1
    rw [s 60 (17 * t + 3) rfl (by omega)]; exact I.tea t ht h1
  have r_ts : ∀ t : Nat, (t : Int) < S' 38 0 21 → 0 ≤ S' 60 0 (17 * t + 4) ∧ S' 60 0 (17 * t + 4) ≤ 99 := fun t ht => by
    rw [s 38 21 rfl (by omega)] at ht
    rw [s 60 (17 * t + 4) rfl (by omega)]; exact I.ts t ht
  have r_tm : ∀ t : Nat, (t : Int) < S' 38 0 21 → 0 ≤ S' 60 0 (17 * t + 5) ∧ S' 60 0 (17 * t + 5) ≤ 4 := fun t ht => by
    rw [s 38 21 rfl (by omega)] at ht
    rw [s 60 (17 * t + 5) rfl (by omega)]; exact I.tm t ht
  have r_tor : ∀ t : Nat, (t : Int) < S' 38 0 21 → S' 60 0 (17 * t + 6) = 0 ∨ S' 60 0 (17 * t + 6) = 1 := fun t ht => by
    rw [s 38 21 rfl (by omega)] at ht
    rw [s 60 (17 * t + 6) rfl (by omega)]; exact I.tor t ht
  have r_tc : ∀ t : Nat, (t : Int) < S' 38 0 21 → 0 ≤ S' 60 0 (17 * t + 7) ∧ S' 60 0 (17 * t + 7) ≤ 3 := fun t ht => by
    rw [s 38 21 rfl (by omega)] at ht
    rw [s 60 (17 * t + 7) rfl (by omega)]; exact I.tc t ht
  have r_tp : ∀ t k : Nat, (t : Int) < S' 38 0 21 → (k : Int) < S' 60 0 (17 * t + 7) → 0 ≤ S' 60 0 (17 * t + 8 + 3 * k) ∧ S' 60 0 (17 * t + 8 + 3 * k) < S' 38 0 3 := fun t k ht hk => by
    rw [s 38 21 rfl (by omega)] at ht
    rw [s 60 (17 * t + 7) rfl (by omega)] at hk
    have tc := I.tc t ht
    rw [s 60 (17 * t + 8 + 3 * k) rfl (by omega), s 38 3 rfl (by omega)]; exact I.tp t k ht hk
  have r_to_ : ∀ t k : Nat, (t : Int) < S' 38 0 21 → (k : Int) < S' 60 0 (17 * t + 7) → 0 ≤ S' 60 0 (17 * t + 8 + 3 * k + 1) ∧ S' 60 0 (17 * t + 8 + 3 * k + 1) ≤ 3 := fun t k ht hk => by
    rw [s 38 21 rfl (by omega)] at ht
    rw [s 60 (17 * t + 7) rfl (by omega)] at hk
    have tc := I.tc t ht
    rw [s 60 (17 * t + 8 + 3 * k + 1) rfl (by omega)]; exact I.to_ t k ht hk
  have r_th : 0 ≤ S' 38 0 22 ∧ S' 38 0 22 ≤ 100 := by rw [s 38 22 rfl (by omega)]; exact I.th
  have r_tl : 0 ≤ S' 38 0 24 ∧ S' 38 0 24 ≤ 150 := by rw [s 38 24 rfl (by omega)]; exact I.tl
  have r_tx : ∀ i : Nat, i < 150 → 0 ≤ S' 63 0 i ∧ S' 63 0 i ≤ 255 := fun i hi => by
    rw [s 63 i rfl (by omega)]; exact I.tx i hi
  exact ⟨r_np, r_kd, r_nc, r_cl, r_em, r_et, r_nn, r_ncl, r_npr, r_cm, r_cmz, r_cn, r_ca, r_cd, r_cc, r_dp, r_ns, r_mo, r_mc, r_sp, r_lo, r_gr, r_nt, r_tf, r_tt, r_td, r_te, r_tea, r_ts, r_tm, r_tor, r_tc, r_tp, r_to_, r_th, r_tl, r_tx⟩
theorem SI.ano  (I : SI S) (hn : S 38 0 14 = (n : Int)) (h20 : n < 20) (e : S' 38 0 14 = (n : Int) + 1) (e2 : -1 ≤ S' 49 0 n ∧ S' 49 0 n < S 38 0 8) (e3 : S' 49 0 n = -1 → 0 ≤ S' 50 0 n ∧ S' 50 0 n < 8) (s : ∀ j f : Nat, sta j f = true → ¬ (j = 38 ∧ f = 14 ∨ j = 49 ∧ f = n ∨ j = 50 ∧ f = n) → S' j 0 f = S j 0 f) : SI S' := by
  have z51 : S 51 0 n = 0 := I.cmz n h20 (Or.inl (by omega))
  have r_np : 0 ≤ S' 38 0 3 ∧ S' 38 0 3 ≤ 8 := by rw [s 38 3 rfl (by omega)]; exact I.np
  have r_kd : ∀ p : Nat, p < 8 → 0 ≤ S' 42 0 p ∧ S' 42 0 p ≤ 2 := fun p hp => by
    rw [s 42 p rfl (by omega)]; exact I.kd p hp
  have r_nc : 0 ≤ S' 38 0 8 ∧ S' 38 0 8 ≤ 12 := by rw [s 38 8 rfl (by omega)]; exact I.nc
  have r_cl : ∀ c : Nat, (c : Int) < S' 38 0 8 → 1 ≤ S' 44 0 c ∧ S' 44 0 c ≤ 500 := fun c hc => by
    rw [s 38 8 rfl (by omega)] at hc
    rw [s 44 c rfl (by omega)]; exact I.cl c hc
  have r_em : ∀ c : Nat, c < 12 → 0 ≤ S' 45 0 c ∧ S' 45 0 c ≤ 5 := fun c hc => by
    rw [s 45 c rfl (by omega)]; exact I.em c hc
  have r_et : ∀ c k : Nat, (c : Int) < S' 38 0 8 → (k : Int) < S' 45 0 c → 0 ≤ S' 46 0 (5 * c + k) ∧ S' 46 0 (5 * c + k) < S' 44 0 c := fun c k hc hk => by
    rw [s 38 8 rfl (by omega)] at hc
    rw [s 45 c rfl (by omega)] at hk
    have em := I.em c (by have := I.nc; omega)
    rw [s 46 (5 * c + k) rfl (by omega), s 44 c rfl (by omega)]; exact I.et c k hc hk
  have r_nn : 0 ≤ S' 38 0 14 ∧ S' 38 0 14 ≤ 20 := by rw [e]; omega
  have r_ncl : ∀ m : Nat, (m : Int) < S' 38 0 14 → -1 ≤ S' 49 0 m ∧ S' 49 0 m < S' 38 0 8 := fun m hm => by
    rw [s 38 8 rfl (by omega)]
    by_cases z : m = n
    · rw [z]; exact e2
    · rw [s 49 m rfl (by omega)]; exact I.ncl m (by omega)
  have r_npr : ∀ m : Nat, (m : Int) < S' 38 0 14 → S' 49 0 m = -1 → 0 ≤ S' 50 0 m ∧ S' 50 0 m < 8 := fun m hm h1 => by
    by_cases z : m = n
    · rw [z] at h1 ⊢; exact e3 h1
    · rw [s 49 m rfl (by omega)] at h1
      rw [s 50 m rfl (by omega)]; exact I.npr m (by omega) h1
  have r_cm : ∀ m : Nat, m < 20 → 0 ≤ S' 51 0 m ∧ S' 51 0 m ≤ 5 := fun m hm => by
    rw [s 51 m rfl (by omega)]; exact I.cm m hm
  have r_cmz : ∀ m : Nat, m < 20 → (S' 38 0 14 ≤ m ∨ S' 49 0 m ≠ -1) → S' 51 0 m = 0 := fun m hm h1 => by
    rw [s 51 m rfl (by omega)]
    by_cases z : m = n
    · rw [z]; exact z51
    · rw [s 49 m rfl (by omega)] at h1
      exact I.cmz m hm (by omega)
  have r_cn : ∀ m k : Nat, (m : Int) < S' 38 0 14 → (k : Int) < S' 51 0 m → 0 ≤ S' 52 0 (5 * m + k) ∧ S' 52 0 (5 * m + k) < m := fun m k hm hk => by
    by_cases z : m = n
    · rw [z, s 51 n rfl (by omega), z51] at hk
      omega
    rw [s 51 m rfl (by omega)] at hk
    have cm := I.cm m (by omega)
    rw [s 52 (5 * m + k) rfl (by omega)]; exact I.cn m k (by omega) hk
  have r_ca : ∀ m k : Nat, (m : Int) < S' 38 0 14 → (k : Int) < S' 51 0 m → -100 ≤ S' 53 0 (5 * m + k) ∧ S' 53 0 (5 * m + k) ≤ 100 := fun m k hm hk => by
    by_cases z : m = n
    · rw [z, s 51 n rfl (by omega), z51] at hk
      omega
    rw [s 51 m rfl (by omega)] at hk
    have cm := I.cm m (by omega)
    rw [s 53 (5 * m + k) rfl (by omega)]; exact I.ca m k (by omega) hk
  have r_cd : ∀ m k l : Nat, (m : Int) < S' 38 0 14 → (k : Int) < S' 51 0 m → (l : Int) < S' 51 0 m → S' 53 0 (5 * m + k) = S' 53 0 (5 * m + l) → k = l := fun m k l hm hk hl h1 => by
    by_cases z : m = n
    · rw [z, s 51 n rfl (by omega), z51] at hk
      omega
    rw [s 51 m rfl (by omega)] at hk hl
    have cm := I.cm m (by omega)
    rw [s 53 (5 * m + k) rfl (by omega), s 53 (5 * m + l) rfl (by omega)] at h1; exact I.cd m k l (by omega) hk hl h1
  have r_cc : ∀ m k : Nat, (m : Int) < S' 38 0 14 → (k : Int) < S' 51 0 m → S' 49 0 (S' 52 0 (5 * m + k)).toNat ≠ -1 ∨ 0 < S' 51 0 (S' 52 0 (5 * m + k)).toNat := fun m k hm hk => by
    by_cases z : m = n
    · rw [z, s 51 n rfl (by omega), z51] at hk
      omega
    rw [s 51 m rfl (by omega)] at hk
    have cm := I.cm m (by omega)
    have cn := I.cn m k (by omega) hk
    rw [s 52 (5 * m + k) rfl (by omega), s 49 _ rfl (by omega), s 51 _ rfl (by omega)]; exact I.cc m k (by omega) hk
  have r_dp : ∃ d : Nat → Nat, ∀ m : Nat, (m : Int) < S' 38 0 14 → 1 ≤ d m ∧ d m ≤ 4 ∧ ∀ k : Nat, (k : Int) < S' 51 0 m → d (S' 52 0 (5 * m + k)).toNat < d m := by
    obtain ⟨d, h⟩ := I.dp
    obtain ⟨d', hA, hB⟩ : ∃ d' : Nat → Nat, d' n = 1 ∧ ∀ m, m ≠ n → d' m = d m := ⟨fun m => if m = n then 1 else d m, if_pos rfl, fun m z => if_neg z⟩
    refine ⟨d', fun m hm => ?_⟩
    by_cases z : m = n
    · rw [z, hA]
      refine ⟨Nat.le_refl 1, by decide, fun k hk => ?_⟩
      rw [s 51 n rfl (by omega), z51] at hk
      omega
    · obtain ⟨h1, h2, h3⟩ := h m (by omega)
      rw [hB m z]
      refine ⟨h1, h2, fun k hk => ?_⟩
      rw [s 51 m rfl (by omega)] at hk
      have cn := I.cn m k (by omega) hk
      rw [s 52 (5 * m + k) rfl (by omega), hB _ (by omega)]
      exact h3 k hk
  have r_ns : 0 ≤ S' 38 0 19 ∧ S' 38 0 19 ≤ 10 := by rw [s 38 19 rfl (by omega)]; exact I.ns
  have r_mo : ∀ x : Nat, (x : Int) < S' 38 0 19 → 0 ≤ S' 55 0 x ∧ S' 55 0 x < S' 38 0 14 := fun x hx => by
    rw [s 38 19 rfl (by omega)] at hx
    rw [s 55 x rfl (by omega), e]
    have q := I.mo x hx
    omega
  have r_mc : ∀ x : Nat, (x : Int) < S' 38 0 19 → S' 49 0 (S' 55 0 x).toNat ≠ -1 ∨ 0 < S' 51 0 (S' 55 0 x).toNat := fun x hx => by
    rw [s 38 19 rfl (by omega)] at hx
    have mo := I.mo x hx
    rw [s 55 x rfl (by omega), s 49 _ rfl (by omega), s 51 _ rfl (by omega)]; exact I.mc x hx
  have r_sp : ∀ x : Nat, (x : Int) < S' 38 0 19 → 1 ≤ S' 56 0 x ∧ S' 56 0 x ≤ 400 := fun x hx => by
    rw [s 38 19 rfl (by omega)] at hx
    rw [s 56 x rfl (by omega)]; exact I.sp x hx
  have r_lo : ∀ x : Nat, x < 10 → S' 57 0 x = 0 ∨ S' 57 0 x = 1 := fun x hx => by
    rw [s 57 x rfl (by omega)]; exact I.lo x hx
  have r_gr : ∀ x : Nat, x < 10 → 0 ≤ S' 58 0 x ∧ S' 58 0 x ≤ 3 := fun x hx => by
    rw [s 58 x rfl (by omega)]; exact I.gr x hx
  have r_nt : 0 ≤ S' 38 0 21 ∧ S' 38 0 21 ≤ 24 := by rw [s 38 21 rfl (by omega)]; exact I.nt
  have r_tf : ∀ t : Nat, (t : Int) < S' 38 0 21 → -1 ≤ S' 60 0 (17 * t) ∧ S' 60 0 (17 * t) < S' 38 0 19 := fun t ht => by
    rw [s 38 21 rfl (by omega)] at ht
    rw [s 60 (17 * t) rfl (by omega), s 38 19 rfl (by omega)]; exact I.tf t ht
  have r_tt : ∀ t : Nat, (t : Int) < S' 38 0 21 → 0 ≤ S' 60 0 (17 * t + 1) ∧ S' 60 0 (17 * t + 1) < S' 38 0 19 := fun t ht => by
    rw [s 38 21 rfl (by omega)] at ht
    rw [s 60 (17 * t + 1) rfl (by omega), s 38 19 rfl (by omega)]; exact I.tt t ht
  have r_td : ∀ t : Nat, (t : Int) < S' 38 0 21 → 0 ≤ S' 60 0 (17 * t + 2) ∧ S' 60 0 (17 * t + 2) ≤ 60 := fun t ht => by
    rw [s 38 21 rfl (by omega)] at ht
    rw [s 60 (17 * t + 2) rfl (by omega)]; exact I.td t ht
  have r_te : ∀ t : Nat, (t : Int) < S' 38 0 21 → -1 ≤ S' 60 0 (17 * t + 3) ∧ S' 60 0 (17 * t + 3) ≤ 300 := fun t ht => by
    rw [s 38 21 rfl (by omega)] at ht
    rw [s 60 (17 * t + 3) rfl (by omega)]; exact I.te t ht
  have r_tea : ∀ t : Nat, (t : Int) < S' 38 0 21 → S' 60 0 (17 * t) = -1 → S' 60 0 (17 * t + 3) = -1 := fun t ht h1 => by
    rw [s 38 21 rfl (by omega)] at ht
    rw [s 60 (17 * t) rfl (by omega)] at h1
    rw [s 60 (17 * t + 3) rfl (by omega)]; exact I.tea t ht h1
  have r_ts : ∀ t : Nat, (t : Int) < S' 38 0 21 → 0 ≤ S' 60 0 (17 * t + 4) ∧ S' 60 0 (17 * t + 4) ≤ 99 := fun t ht => by
    rw [s 38 21 rfl (by omega)] at ht
    rw [s 60 (17 * t + 4) rfl (by omega)]; exact I.ts t ht
  have r_tm : ∀ t : Nat, (t : Int) < S' 38 0 21 → 0 ≤ S' 60 0 (17 * t + 5) ∧ S' 60 0 (17 * t + 5) ≤ 4 := fun t ht => by
    rw [s 38 21 rfl (by omega)] at ht
    rw [s 60 (17 * t + 5) rfl (by omega)]; exact I.tm t ht
  have r_tor : ∀ t : Nat, (t : Int) < S' 38 0 21 → S' 60 0 (17 * t + 6) = 0 ∨ S' 60 0 (17 * t + 6) = 1 := fun t ht => by
    rw [s 38 21 rfl (by omega)] at ht
    rw [s 60 (17 * t + 6) rfl (by omega)]; exact I.tor t ht
  have r_tc : ∀ t : Nat, (t : Int) < S' 38 0 21 → 0 ≤ S' 60 0 (17 * t + 7) ∧ S' 60 0 (17 * t + 7) ≤ 3 := fun t ht => by
    rw [s 38 21 rfl (by omega)] at ht
    rw [s 60 (17 * t + 7) rfl (by omega)]; exact I.tc t ht
  have r_tp : ∀ t k : Nat, (t : Int) < S' 38 0 21 → (k : Int) < S' 60 0 (17 * t + 7) → 0 ≤ S' 60 0 (17 * t + 8 + 3 * k) ∧ S' 60 0 (17 * t + 8 + 3 * k) < S' 38 0 3 := fun t k ht hk => by
    rw [s 38 21 rfl (by omega)] at ht
    rw [s 60 (17 * t + 7) rfl (by omega)] at hk
    have tc := I.tc t ht
    rw [s 60 (17 * t + 8 + 3 * k) rfl (by omega), s 38 3 rfl (by omega)]; exact I.tp t k ht hk
  have r_to_ : ∀ t k : Nat, (t : Int) < S' 38 0 21 → (k : Int) < S' 60 0 (17 * t + 7) → 0 ≤ S' 60 0 (17 * t + 8 + 3 * k + 1) ∧ S' 60 0 (17 * t + 8 + 3 * k + 1) ≤ 3 := fun t k ht hk => by
    rw [s 38 21 rfl (by omega)] at ht
    rw [s 60 (17 * t + 7) rfl (by omega)] at hk
    have tc := I.tc t ht
    rw [s 60 (17 * t + 8 + 3 * k + 1) rfl (by omega)]; exact I.to_ t k ht hk
  have r_th : 0 ≤ S' 38 0 22 ∧ S' 38 0 22 ≤ 100 := by rw [s 38 22 rfl (by omega)]; exact I.th
  have r_tl : 0 ≤ S' 38 0 24 ∧ S' 38 0 24 ≤ 150 := by rw [s 38 24 rfl (by omega)]; exact I.tl
  have r_tx : ∀ i : Nat, i < 150 → 0 ≤ S' 63 0 i ∧ S' 63 0 i ≤ 255 := fun i hi => by
    rw [s 63 i rfl (by omega)]; exact I.tx i hi
  exact ⟨r_np, r_kd, r_nc, r_cl, r_em, r_et, r_nn, r_ncl, r_npr, r_cm, r_cmz, r_cn, r_ca, r_cd, r_cc, r_dp, r_ns, r_mo, r_mc, r_sp, r_lo, r_gr, r_nt, r_tf, r_tt, r_td, r_te, r_tea, r_ts, r_tm, r_tor, r_tc, r_tp, r_to_, r_th, r_tl, r_tx⟩
theorem SI.ach {ln nd kk : Nat} {pp : Int} (I : SI S) (hln : (ln : Int) < S 38 0 14) (hnd : nd < ln) (il : S 49 0 ln = -1) (hk0 : S 51 0 ln = (kk : Int)) (h5 : kk < 5) (np : ∀ q : Nat, q < kk → S 53 0 (5 * ln + q) ≠ pp) (hp : -100 ≤ pp ∧ pp ≤ 100) (cp : S 49 0 nd ≠ -1 ∨ 0 < S 51 0 nd) (fl : flat S ln nd) (s51 : S' 51 0 ln = (kk : Int) + 1) (s52 : S' 52 0 (5 * ln + kk) = (nd : Int)) (s53 : S' 53 0 (5 * ln + kk) = pp) (s : ∀ j f : Nat, sta j f = true → ¬ (j = 51 ∧ f = ln ∨ (j = 52 ∨ j = 53) ∧ f = 5 * ln + kk) → S' j 0 f = S j 0 f) : SI S' := by
  have r_np : 0 ≤ S' 38 0 3 ∧ S' 38 0 3 ≤ 8 := by rw [s 38 3 rfl (by omega)]; exact I.np
  have r_kd : ∀ p : Nat, p < 8 → 0 ≤ S' 42 0 p ∧ S' 42 0 p ≤ 2 := fun p hp => by
    rw [s 42 p rfl (by omega)]; exact I.kd p hp
  have r_nc : 0 ≤ S' 38 0 8 ∧ S' 38 0 8 ≤ 12 := by rw [s 38 8 rfl (by omega)]; exact I.nc
  have r_cl : ∀ c : Nat, (c : Int) < S' 38 0 8 → 1 ≤ S' 44 0 c ∧ S' 44 0 c ≤ 500 := fun c hc => by
    rw [s 38 8 rfl (by omega)] at hc
    rw [s 44 c rfl (by omega)]; exact I.cl c hc
  have r_em : ∀ c : Nat, c < 12 → 0 ≤ S' 45 0 c ∧ S' 45 0 c ≤ 5 := fun c hc => by
    rw [s 45 c rfl (by omega)]; exact I.em c hc
  have r_et : ∀ c k : Nat, (c : Int) < S' 38 0 8 → (k : Int) < S' 45 0 c → 0 ≤ S' 46 0 (5 * c + k) ∧ S' 46 0 (5 * c + k) < S' 44 0 c := fun c k hc hk => by
    rw [s 38 8 rfl (by omega)] at hc
    rw [s 45 c rfl (by omega)] at hk
    have em := I.em c (by have := I.nc; omega)
    rw [s 46 (5 * c + k) rfl (by omega), s 44 c rfl (by omega)]; exact I.et c k hc hk
  have r_nn : 0 ≤ S' 38 0 14 ∧ S' 38 0 14 ≤ 20 := by rw [s 38 14 rfl (by omega)]; exact I.nn
  have r_ncl : ∀ m : Nat, (m : Int) < S' 38 0 14 → -1 ≤ S' 49 0 m ∧ S' 49 0 m < S' 38 0 8 := fun m hm => by
    rw [s 38 14 rfl (by omega)] at hm
    rw [s 49 m rfl (by omega), s 38 8 rfl (by omega)]; exact I.ncl m hm
  have r_npr : ∀ m : Nat, (m : Int) < S' 38 0 14 → S' 49 0 m = -1 → 0 ≤ S' 50 0 m ∧ S' 50 0 m < 8 := fun m hm h1 => by
    rw [s 38 14 rfl (by omega)] at hm
    rw [s 49 m rfl (by omega)] at h1
    rw [s 50 m rfl (by omega)]; exact I.npr m hm h1
  have r_cm : ∀ m : Nat, m < 20 → 0 ≤ S' 51 0 m ∧ S' 51 0 m ≤ 5 := fun m hm => by
    by_cases z : m = ln
    · rw [z, s51]; omega
    rw [s 51 m rfl (by omega)]; exact I.cm m hm
  have r_cmz : ∀ m : Nat, m < 20 → (S' 38 0 14 ≤ m ∨ S' 49 0 m ≠ -1) → S' 51 0 m = 0 := fun m hm h1 => by
    by_cases z : m = ln
    · rw [z, s 38 14 rfl (by omega), s 49 ln rfl (by omega)] at h1
      omega
    rw [s 38 14 rfl (by omega), s 49 m rfl (by omega)] at h1
    rw [s 51 m rfl (by omega)]; exact I.cmz m hm h1
  have r_cn : ∀ m k : Nat, (m : Int) < S' 38 0 14 → (k : Int) < S' 51 0 m → 0 ≤ S' 52 0 (5 * m + k) ∧ S' 52 0 (5 * m + k) < m := fun m k hm hk => by
    by_cases z : m = ln
    · rw [z, s51] at hk
      rw [z]
      by_cases y : k = kk
      · rw [y, s52]; omega
      · rw [s 52 (5 * ln + k) rfl (by omega)]; exact I.cn ln k hln (by omega)
    rw [s 38 14 rfl (by omega)] at hm
    rw [s 51 m rfl (by omega)] at hk
    have cm := I.cm m (by have := I.nn; omega)
    rw [s 52 (5 * m + k) rfl (by omega)]; exact I.cn m k hm hk
  have r_ca : ∀ m k : Nat, (m : Int) < S' 38 0 14 → (k : Int) < S' 51 0 m → -100 ≤ S' 53 0 (5 * m + k) ∧ S' 53 0 (5 * m + k) ≤ 100 := fun m k hm hk => by
    by_cases z : m = ln
    · rw [z, s51] at hk
      rw [z]
      by_cases y : k = kk
      · rw [y, s53]; exact hp
      · rw [s 53 (5 * ln + k) rfl (by omega)]; exact I.ca ln k hln (by omega)
    rw [s 38 14 rfl (by omega)] at hm
    rw [s 51 m rfl (by omega)] at hk
    have cm := I.cm m (by have := I.nn; omega)
    rw [s 53 (5 * m + k) rfl (by omega)]; exact I.ca m k hm hk
  have r_cd : ∀ m k l : Nat, (m : Int) < S' 38 0 14 → (k : Int) < S' 51 0 m → (l : Int) < S' 51 0 m → S' 53 0 (5 * m + k) = S' 53 0 (5 * m + l) → k = l := fun m k l hm hk hl h1 => by
    by_cases z : m = ln
    · rw [z, s51] at hk hl
      rw [z] at h1
      by_cases y : k = kk
      · by_cases x : l = kk
        · omega
        · rw [y, s53, s 53 (5 * ln + l) rfl (by omega)] at h1
          exact absurd h1.symm (np l (by omega))
      · rw [s 53 (5 * ln + k) rfl (by omega)] at h1
        by_cases x : l = kk
        · rw [x, s53] at h1
          exact absurd h1 (np k (by omega))
        · rw [s 53 (5 * ln + l) rfl (by omega)] at h1
          exact I.cd ln k l hln (by omega) (by omega) h1
    rw [s 38 14 rfl (by omega)] at hm
    rw [s 51 m rfl (by omega)] at hk hl
    have cm := I.cm m (by have := I.nn; omega)
    rw [s 53 (5 * m + k) rfl (by omega), s 53 (5 * m + l) rfl (by omega)] at h1; exact I.cd m k l hm hk hl h1
  have r_cc : ∀ m k : Nat, (m : Int) < S' 38 0 14 → (k : Int) < S' 51 0 m → S' 49 0 (S' 52 0 (5 * m + k)).toNat ≠ -1 ∨ 0 < S' 51 0 (S' 52 0 (5 * m + k)).toNat := fun m k hm hk => by
    rw [s 38 14 rfl (by omega)] at hm
    have fin : ∀ x : Nat, (S 49 0 x ≠ -1 ∨ 0 < S 51 0 x) → S' 49 0 x ≠ -1 ∨ 0 < S' 51 0 x := fun x hx => by
      rw [s 49 x rfl (by omega)]
      by_cases u : x = ln
      · rw [u, s51]; exact Or.inr (by omega)
      · rw [s 51 x rfl (by omega)]; exact hx
    by_cases z : m = ln
    · rw [z, s51] at hk
      rw [z]
      by_cases y : k = kk
      · rw [y, s52]; exact fin _ cp
      · rw [s 52 (5 * ln + k) rfl (by omega)]; exact fin _ (I.cc ln k hln (by omega))
    rw [s 51 m rfl (by omega)] at hk
    have cm := I.cm m (by have := I.nn; omega)
    rw [s 52 (5 * m + k) rfl (by omega)]; exact fin _ (I.cc m k hm hk)
  have r_dp : ∃ d : Nat → Nat, ∀ m : Nat, (m : Int) < S' 38 0 14 → 1 ≤ d m ∧ d m ≤ 4 ∧ ∀ k : Nat, (k : Int) < S' 51 0 m → d (S' 52 0 (5 * m + k)).toNat < d m := by
    obtain ⟨d, di, dl⟩ := fl
    refine ⟨fun m => (d m).toNat, fun m hm => ?_⟩
    rw [s 38 14 rfl (by omega)] at hm
    have hm2 : m < (S 38 0 14).toNat := by omega
    obtain ⟨a1, a2, a3, a4, a5⟩ := di m hm2
    have dm := dl m hm2
    have cm := I.cm m (by have := I.nn; omega)
    refine ⟨(by show 1 ≤ (d m).toNat; omega), (by show (d m).toNat ≤ 4; omega), fun k hk => ?_⟩
    show (d (S' 52 0 (5 * m + k)).toNat).toNat < (d m).toNat
    have fin : ∀ x : Int, 0 ≤ x → x < m → d x.toNat + 1 ≤ d m → (d x.toNat).toNat < (d m).toNat := fun x h1 h2 h3 => by
      have := (di x.toNat (by omega)).1
      omega
    by_cases z : m = ln
    · rw [z, s51] at hk
      by_cases y : k = kk
      · rw [y, z, s52]
        have h9 := a4 z
        have h8 := fin (nd : Int) (by omega) (by omega) h9
        rw [z] at h8
        exact h8
      · rw [z, s 52 (5 * ln + k) rfl (by omega)]
        have cn := I.cn ln k hln (by omega)
        have h9 := a3 k (by rw [z]; omega)
        rw [z] at h9 fin
        exact fin _ (by omega) (by omega) h9
    · rw [s 51 m rfl (by omega)] at hk
      rw [s 52 (5 * m + k) rfl (by omega)]
      have cn := I.cn m k hm hk
      exact fin _ (by omega) (by omega) (a3 k hk)
  have r_ns : 0 ≤ S' 38 0 19 ∧ S' 38 0 19 ≤ 10 := by rw [s 38 19 rfl (by omega)]; exact I.ns
  have r_mo : ∀ x : Nat, (x : Int) < S' 38 0 19 → 0 ≤ S' 55 0 x ∧ S' 55 0 x < S' 38 0 14 := fun x hx => by
    rw [s 38 19 rfl (by omega)] at hx
    rw [s 55 x rfl (by omega), s 38 14 rfl (by omega)]; exact I.mo x hx
  have r_mc : ∀ x : Nat, (x : Int) < S' 38 0 19 → S' 49 0 (S' 55 0 x).toNat ≠ -1 ∨ 0 < S' 51 0 (S' 55 0 x).toNat := fun x hx => by
    rw [s 38 19 rfl (by omega)] at hx
    have mo := I.mo x hx
    have mc := I.mc x hx
    rw [s 55 x rfl (by omega), s 49 _ rfl (by omega)]
    by_cases u : (S 55 0 x).toNat = ln
    · rw [u, s51]; exact Or.inr (by omega)
    · rw [s 51 _ rfl (by omega)]; exact mc
  have r_sp : ∀ x : Nat, (x : Int) < S' 38 0 19 → 1 ≤ S' 56 0 x ∧ S' 56 0 x ≤ 400 := fun x hx => by
    rw [s 38 19 rfl (by omega)] at hx
    rw [s 56 x rfl (by omega)]; exact I.sp x hx
  have r_lo : ∀ x : Nat, x < 10 → S' 57 0 x = 0 ∨ S' 57 0 x = 1 := fun x hx => by
    rw [s 57 x rfl (by omega)]; exact I.lo x hx
  have r_gr : ∀ x : Nat, x < 10 → 0 ≤ S' 58 0 x ∧ S' 58 0 x ≤ 3 := fun x hx => by
    rw [s 58 x rfl (by omega)]; exact I.gr x hx
  have r_nt : 0 ≤ S' 38 0 21 ∧ S' 38 0 21 ≤ 24 := by rw [s 38 21 rfl (by omega)]; exact I.nt
  have r_tf : ∀ t : Nat, (t : Int) < S' 38 0 21 → -1 ≤ S' 60 0 (17 * t) ∧ S' 60 0 (17 * t) < S' 38 0 19 := fun t ht => by
    rw [s 38 21 rfl (by omega)] at ht
    rw [s 60 (17 * t) rfl (by omega), s 38 19 rfl (by omega)]; exact I.tf t ht
  have r_tt : ∀ t : Nat, (t : Int) < S' 38 0 21 → 0 ≤ S' 60 0 (17 * t + 1) ∧ S' 60 0 (17 * t + 1) < S' 38 0 19 := fun t ht => by
    rw [s 38 21 rfl (by omega)] at ht
    rw [s 60 (17 * t + 1) rfl (by omega), s 38 19 rfl (by omega)]; exact I.tt t ht
  have r_td : ∀ t : Nat, (t : Int) < S' 38 0 21 → 0 ≤ S' 60 0 (17 * t + 2) ∧ S' 60 0 (17 * t + 2) ≤ 60 := fun t ht => by
    rw [s 38 21 rfl (by omega)] at ht
    rw [s 60 (17 * t + 2) rfl (by omega)]; exact I.td t ht
  have r_te : ∀ t : Nat, (t : Int) < S' 38 0 21 → -1 ≤ S' 60 0 (17 * t + 3) ∧ S' 60 0 (17 * t + 3) ≤ 300 := fun t ht => by
    rw [s 38 21 rfl (by omega)] at ht
    rw [s 60 (17 * t + 3) rfl (by omega)]; exact I.te t ht
  have r_tea : ∀ t : Nat, (t : Int) < S' 38 0 21 → S' 60 0 (17 * t) = -1 → S' 60 0 (17 * t + 3) = -1 := fun t ht h1 => by
    rw [s 38 21 rfl (by omega)] at ht
    rw [s 60 (17 * t) rfl (by omega)] at h1
    rw [s 60 (17 * t + 3) rfl (by omega)]; exact I.tea t ht h1
  have r_ts : ∀ t : Nat, (t : Int) < S' 38 0 21 → 0 ≤ S' 60 0 (17 * t + 4) ∧ S' 60 0 (17 * t + 4) ≤ 99 := fun t ht => by
    rw [s 38 21 rfl (by omega)] at ht
    rw [s 60 (17 * t + 4) rfl (by omega)]; exact I.ts t ht
  have r_tm : ∀ t : Nat, (t : Int) < S' 38 0 21 → 0 ≤ S' 60 0 (17 * t + 5) ∧ S' 60 0 (17 * t + 5) ≤ 4 := fun t ht => by
    rw [s 38 21 rfl (by omega)] at ht
    rw [s 60 (17 * t + 5) rfl (by omega)]; exact I.tm t ht
  have r_tor : ∀ t : Nat, (t : Int) < S' 38 0 21 → S' 60 0 (17 * t + 6) = 0 ∨ S' 60 0 (17 * t + 6) = 1 := fun t ht => by
    rw [s 38 21 rfl (by omega)] at ht
    rw [s 60 (17 * t + 6) rfl (by omega)]; exact I.tor t ht
  have r_tc : ∀ t : Nat, (t : Int) < S' 38 0 21 → 0 ≤ S' 60 0 (17 * t + 7) ∧ S' 60 0 (17 * t + 7) ≤ 3 := fun t ht => by
    rw [s 38 21 rfl (by omega)] at ht
    rw [s 60 (17 * t + 7) rfl (by omega)]; exact I.tc t ht
  have r_tp : ∀ t k : Nat, (t : Int) < S' 38 0 21 → (k : Int) < S' 60 0 (17 * t + 7) → 0 ≤ S' 60 0 (17 * t + 8 + 3 * k) ∧ S' 60 0 (17 * t + 8 + 3 * k) < S' 38 0 3 := fun t k ht hk => by
    rw [s 38 21 rfl (by omega)] at ht
    rw [s 60 (17 * t + 7) rfl (by omega)] at hk
    have tc := I.tc t ht
    rw [s 60 (17 * t + 8 + 3 * k) rfl (by omega), s 38 3 rfl (by omega)]; exact I.tp t k ht hk
  have r_to_ : ∀ t k : Nat, (t : Int) < S' 38 0 21 → (k : Int) < S' 60 0 (17 * t + 7) → 0 ≤ S' 60 0 (17 * t + 8 + 3 * k + 1) ∧ S' 60 0 (17 * t + 8 + 3 * k + 1) ≤ 3 := fun t k ht hk => by
    rw [s 38 21 rfl (by omega)] at ht
    rw [s 60 (17 * t + 7) rfl (by omega)] at hk
    have tc := I.tc t ht
    rw [s 60 (17 * t + 8 + 3 * k + 1) rfl (by omega)]; exact I.to_ t k ht hk
  have r_th : 0 ≤ S' 38 0 22 ∧ S' 38 0 22 ≤ 100 := by rw [s 38 22 rfl (by omega)]; exact I.th
  have r_tl : 0 ≤ S' 38 0 24 ∧ S' 38 0 24 ≤ 150 := by rw [s 38 24 rfl (by omega)]; exact I.tl
  have r_tx : ∀ i : Nat, i < 150 → 0 ≤ S' 63 0 i ∧ S' 63 0 i ≤ 255 := fun i hi => by
    rw [s 63 i rfl (by omega)]; exact I.tx i hi
  exact ⟨r_np, r_kd, r_nc, r_cl, r_em, r_et, r_nn, r_ncl, r_npr, r_cm, r_cmz, r_cn, r_ca, r_cd, r_cc, r_dp, r_ns, r_mo, r_mc, r_sp, r_lo, r_gr, r_nt, r_tf, r_tt, r_td, r_te, r_tea, r_ts, r_tm, r_tor, r_tc, r_tp, r_to_, r_th, r_tl, r_tx⟩
theorem SI.ast  (I : SI S) (hn : S 38 0 19 = (n : Int)) (h10 : n < 10) (e : S' 38 0 19 = (n : Int) + 1) (e1 : 0 ≤ S' 55 0 n ∧ S' 55 0 n < S 38 0 14) (e2 : S 49 0 (S' 55 0 n).toNat ≠ -1 ∨ 0 < S 51 0 (S' 55 0 n).toNat) (e3 : 1 ≤ S' 56 0 n ∧ S' 56 0 n ≤ 400) (e4 : S' 57 0 n = 0 ∨ S' 57 0 n = 1) (e5 : 0 ≤ S' 58 0 n ∧ S' 58 0 n ≤ 3) (s : ∀ j f : Nat, sta j f = true → ¬ (j = 38 ∧ f = 19 ∨ 55 ≤ j ∧ j ≤ 58 ∧ f = n) → S' j 0 f = S j 0 f) : SI S' := by
  have r_np : 0 ≤ S' 38 0 3 ∧ S' 38 0 3 ≤ 8 := by rw [s 38 3 rfl (by omega)]; exact I.np
  have r_kd : ∀ p : Nat, p < 8 → 0 ≤ S' 42 0 p ∧ S' 42 0 p ≤ 2 := fun p hp => by
    rw [s 42 p rfl (by omega)]; exact I.kd p hp
  have r_nc : 0 ≤ S' 38 0 8 ∧ S' 38 0 8 ≤ 12 := by rw [s 38 8 rfl (by omega)]; exact I.nc
  have r_cl : ∀ c : Nat, (c : Int) < S' 38 0 8 → 1 ≤ S' 44 0 c ∧ S' 44 0 c ≤ 500 := fun c hc => by
    rw [s 38 8 rfl (by omega)] at hc
    rw [s 44 c rfl (by omega)]; exact I.cl c hc
  have r_em : ∀ c : Nat, c < 12 → 0 ≤ S' 45 0 c ∧ S' 45 0 c ≤ 5 := fun c hc => by
    rw [s 45 c rfl (by omega)]; exact I.em c hc
  have r_et : ∀ c k : Nat, (c : Int) < S' 38 0 8 → (k : Int) < S' 45 0 c → 0 ≤ S' 46 0 (5 * c + k) ∧ S' 46 0 (5 * c + k) < S' 44 0 c := fun c k hc hk => by
    rw [s 38 8 rfl (by omega)] at hc
    rw [s 45 c rfl (by omega)] at hk
    have em := I.em c (by have := I.nc; omega)
    rw [s 46 (5 * c + k) rfl (by omega), s 44 c rfl (by omega)]; exact I.et c k hc hk
  have r_nn : 0 ≤ S' 38 0 14 ∧ S' 38 0 14 ≤ 20 := by rw [s 38 14 rfl (by omega)]; exact I.nn
  have r_ncl : ∀ m : Nat, (m : Int) < S' 38 0 14 → -1 ≤ S' 49 0 m ∧ S' 49 0 m < S' 38 0 8 := fun m hm => by
    rw [s 38 14 rfl (by omega)] at hm
    rw [s 49 m rfl (by omega), s 38 8 rfl (by omega)]; exact I.ncl m hm
  have r_npr : ∀ m : Nat, (m : Int) < S' 38 0 14 → S' 49 0 m = -1 → 0 ≤ S' 50 0 m ∧ S' 50 0 m < 8 := fun m hm h1 => by
    rw [s 38 14 rfl (by omega)] at hm
    rw [s 49 m rfl (by omega)] at h1
    rw [s 50 m rfl (by omega)]; exact I.npr m hm h1
  have r_cm : ∀ m : Nat, m < 20 → 0 ≤ S' 51 0 m ∧ S' 51 0 m ≤ 5 := fun m hm => by
    rw [s 51 m rfl (by omega)]; exact I.cm m hm
  have r_cmz : ∀ m : Nat, m < 20 → (S' 38 0 14 ≤ m ∨ S' 49 0 m ≠ -1) → S' 51 0 m = 0 := fun m hm h1 => by
    rw [s 38 14 rfl (by omega), s 49 m rfl (by omega)] at h1
    rw [s 51 m rfl (by omega)]; exact I.cmz m hm h1
  have r_cn : ∀ m k : Nat, (m : Int) < S' 38 0 14 → (k : Int) < S' 51 0 m → 0 ≤ S' 52 0 (5 * m + k) ∧ S' 52 0 (5 * m + k) < m := fun m k hm hk => by
    rw [s 38 14 rfl (by omega)] at hm
    rw [s 51 m rfl (by omega)] at hk
    have cm := I.cm m (by have := I.nn; omega)
    rw [s 52 (5 * m + k) rfl (by omega)]; exact I.cn m k hm hk
  have r_ca : ∀ m k : Nat, (m : Int) < S' 38 0 14 → (k : Int) < S' 51 0 m → -100 ≤ S' 53 0 (5 * m + k) ∧ S' 53 0 (5 * m + k) ≤ 100 := fun m k hm hk => by
    rw [s 38 14 rfl (by omega)] at hm
    rw [s 51 m rfl (by omega)] at hk
    have cm := I.cm m (by have := I.nn; omega)
    rw [s 53 (5 * m + k) rfl (by omega)]; exact I.ca m k hm hk
  have r_cd : ∀ m k l : Nat, (m : Int) < S' 38 0 14 → (k : Int) < S' 51 0 m → (l : Int) < S' 51 0 m → S' 53 0 (5 * m + k) = S' 53 0 (5 * m + l) → k = l := fun m k l hm hk hl h1 => by
    rw [s 38 14 rfl (by omega)] at hm
    rw [s 51 m rfl (by omega)] at hk hl
    have cm := I.cm m (by have := I.nn; omega)
    rw [s 53 (5 * m + k) rfl (by omega), s 53 (5 * m + l) rfl (by omega)] at h1; exact I.cd m k l hm hk hl h1
  have r_cc : ∀ m k : Nat, (m : Int) < S' 38 0 14 → (k : Int) < S' 51 0 m → S' 49 0 (S' 52 0 (5 * m + k)).toNat ≠ -1 ∨ 0 < S' 51 0 (S' 52 0 (5 * m + k)).toNat := fun m k hm hk => by
    rw [s 38 14 rfl (by omega)] at hm
    rw [s 51 m rfl (by omega)] at hk
    have cm := I.cm m (by have := I.nn; omega)
    have cn := I.cn m k hm hk
    rw [s 52 (5 * m + k) rfl (by omega), s 49 _ rfl (by omega), s 51 _ rfl (by omega)]; exact I.cc m k hm hk
  have r_dp : ∃ d : Nat → Nat, ∀ m : Nat, (m : Int) < S' 38 0 14 → 1 ≤ d m ∧ d m ≤ 4 ∧ ∀ k : Nat, (k : Int) < S' 51 0 m → d (S' 52 0 (5 * m + k)).toNat < d m := by
    obtain ⟨d, h⟩ := I.dp
    refine ⟨d, fun m hm => ?_⟩
    rw [s 38 14 rfl (by omega)] at hm
    have cm := I.cm m (by have := I.nn; omega)
    obtain ⟨h1, h2, h3⟩ := h m hm
    refine ⟨h1, h2, fun k hk => ?_⟩
    rw [s 51 m rfl (by omega)] at hk
    rw [s 52 (5 * m + k) rfl (by omega)]; exact h3 k hk
  have r_ns : 0 ≤ S' 38 0 19 ∧ S' 38 0 19 ≤ 10 := by rw [e]; omega
  have r_mo : ∀ x : Nat, (x : Int) < S' 38 0 19 → 0 ≤ S' 55 0 x ∧ S' 55 0 x < S' 38 0 14 := fun x hx => by
    rw [s 38 14 rfl (by omega)]
    by_cases z : x = n
    · rw [z]; exact e1
    rw [s 55 x rfl (by omega)]; exact I.mo x (by omega)
  have r_mc : ∀ x : Nat, (x : Int) < S' 38 0 19 → S' 49 0 (S' 55 0 x).toNat ≠ -1 ∨ 0 < S' 51 0 (S' 55 0 x).toNat := fun x hx => by
    rw [s 49 _ rfl (by omega), s 51 _ rfl (by omega)]
    by_cases z : x = n
    · rw [z]; exact e2
    rw [s 55 x rfl (by omega)]; exact I.mc x (by omega)
  have r_sp : ∀ x : Nat, (x : Int) < S' 38 0 19 → 1 ≤ S' 56 0 x ∧ S' 56 0 x ≤ 400 := fun x hx => by
    by_cases z : x = n
    · rw [z]; exact e3
    rw [s 56 x rfl (by omega)]; exact I.sp x (by omega)
  have r_lo : ∀ x : Nat, x < 10 → S' 57 0 x = 0 ∨ S' 57 0 x = 1 := fun x hx => by
    by_cases z : x = n
    · rw [z]; exact e4
    rw [s 57 x rfl (by omega)]; exact I.lo x hx
  have r_gr : ∀ x : Nat, x < 10 → 0 ≤ S' 58 0 x ∧ S' 58 0 x ≤ 3 := fun x hx => by
    by_cases z : x = n
    · rw [z]; exact e5
    rw [s 58 x rfl (by omega)]; exact I.gr x hx
  have r_nt : 0 ≤ S' 38 0 21 ∧ S' 38 0 21 ≤ 24 := by rw [s 38 21 rfl (by omega)]; exact I.nt
  have r_tf : ∀ t : Nat, (t : Int) < S' 38 0 21 → -1 ≤ S' 60 0 (17 * t) ∧ S' 60 0 (17 * t) < S' 38 0 19 := fun t ht => by
    rw [s 38 21 rfl (by omega)] at ht
    rw [s 60 (17 * t) rfl (by omega), e]
    have q := I.tf t ht
    omega
  have r_tt : ∀ t : Nat, (t : Int) < S' 38 0 21 → 0 ≤ S' 60 0 (17 * t + 1) ∧ S' 60 0 (17 * t + 1) < S' 38 0 19 := fun t ht => by
    rw [s 38 21 rfl (by omega)] at ht
    rw [s 60 (17 * t + 1) rfl (by omega), e]
    have q := I.tt t ht
    omega
  have r_td : ∀ t : Nat, (t : Int) < S' 38 0 21 → 0 ≤ S' 60 0 (17 * t + 2) ∧ S' 60 0 (17 * t + 2) ≤ 60 := fun t ht => by
    rw [s 38 21 rfl (by omega)] at ht
    rw [s 60 (17 * t + 2) rfl (by omega)]; exact I.td t ht
  have r_te : ∀ t : Nat, (t : Int) < S' 38 0 21 → -1 ≤ S' 60 0 (17 * t + 3) ∧ S' 60 0 (17 * t + 3) ≤ 300 := fun t ht => by
    rw [s 38 21 rfl (by omega)] at ht
    rw [s 60 (17 * t + 3) rfl (by omega)]; exact I.te t ht
  have r_tea : ∀ t : Nat, (t : Int) < S' 38 0 21 → S' 60 0 (17 * t) = -1 → S' 60 0 (17 * t + 3) = -1 := fun t ht h1 => by
    rw [s 38 21 rfl (by omega)] at ht
    rw [s 60 (17 * t) rfl (by omega)] at h1
    rw [s 60 (17 * t + 3) rfl (by omega)]; exact I.tea t ht h1
  have r_ts : ∀ t : Nat, (t : Int) < S' 38 0 21 → 0 ≤ S' 60 0 (17 * t + 4) ∧ S' 60 0 (17 * t + 4) ≤ 99 := fun t ht => by
    rw [s 38 21 rfl (by omega)] at ht
    rw [s 60 (17 * t + 4) rfl (by omega)]; exact I.ts t ht
  have r_tm : ∀ t : Nat, (t : Int) < S' 38 0 21 → 0 ≤ S' 60 0 (17 * t + 5) ∧ S' 60 0 (17 * t + 5) ≤ 4 := fun t ht => by
    rw [s 38 21 rfl (by omega)] at ht
    rw [s 60 (17 * t + 5) rfl (by omega)]; exact I.tm t ht
  have r_tor : ∀ t : Nat, (t : Int) < S' 38 0 21 → S' 60 0 (17 * t + 6) = 0 ∨ S' 60 0 (17 * t + 6) = 1 := fun t ht => by
    rw [s 38 21 rfl (by omega)] at ht
    rw [s 60 (17 * t + 6) rfl (by omega)]; exact I.tor t ht
  have r_tc : ∀ t : Nat, (t : Int) < S' 38 0 21 → 0 ≤ S' 60 0 (17 * t + 7) ∧ S' 60 0 (17 * t + 7) ≤ 3 := fun t ht => by
    rw [s 38 21 rfl (by omega)] at ht
    rw [s 60 (17 * t + 7) rfl (by omega)]; exact I.tc t ht
  have r_tp : ∀ t k : Nat, (t : Int) < S' 38 0 21 → (k : Int) < S' 60 0 (17 * t + 7) → 0 ≤ S' 60 0 (17 * t + 8 + 3 * k) ∧ S' 60 0 (17 * t + 8 + 3 * k) < S' 38 0 3 := fun t k ht hk => by
    rw [s 38 21 rfl (by omega)] at ht
    rw [s 60 (17 * t + 7) rfl (by omega)] at hk
    have tc := I.tc t ht
    rw [s 60 (17 * t + 8 + 3 * k) rfl (by omega), s 38 3 rfl (by omega)]; exact I.tp t k ht hk
  have r_to_ : ∀ t k : Nat, (t : Int) < S' 38 0 21 → (k : Int) < S' 60 0 (17 * t + 7) → 0 ≤ S' 60 0 (17 * t + 8 + 3 * k + 1) ∧ S' 60 0 (17 * t + 8 + 3 * k + 1) ≤ 3 := fun t k ht hk => by
    rw [s 38 21 rfl (by omega)] at ht
    rw [s 60 (17 * t + 7) rfl (by omega)] at hk
    have tc := I.tc t ht
    rw [s 60 (17 * t + 8 + 3 * k + 1) rfl (by omega)]; exact I.to_ t k ht hk
  have r_th : 0 ≤ S' 38 0 22 ∧ S' 38 0 22 ≤ 100 := by rw [s 38 22 rfl (by omega)]; exact I.th
  have r_tl : 0 ≤ S' 38 0 24 ∧ S' 38 0 24 ≤ 150 := by rw [s 38 24 rfl (by omega)]; exact I.tl
  have r_tx : ∀ i : Nat, i < 150 → 0 ≤ S' 63 0 i ∧ S' 63 0 i ≤ 255 := fun i hi => by
    rw [s 63 i rfl (by omega)]; exact I.tx i hi
  exact ⟨r_np, r_kd, r_nc, r_cl, r_em, r_et, r_nn, r_ncl, r_npr, r_cm, r_cmz, r_cn, r_ca, r_cd, r_cc, r_dp, r_ns, r_mo, r_mc, r_sp, r_lo, r_gr, r_nt, r_tf, r_tt, r_td, r_te, r_tea, r_ts, r_tm, r_tor, r_tc, r_tp, r_to_, r_th, r_tl, r_tx⟩
/-- a record of a transition is in order -/
def TRk (S S' : dC) (n : Nat) : Prop := (-1 ≤ S' 60 0 (17 * n) ∧ S' 60 0 (17 * n) < S 38 0 19) ∧ (0 ≤ S' 60 0 (17 * n + 1) ∧ S' 60 0 (17 * n + 1) < S 38 0 19) ∧ (0 ≤ S' 60 0 (17 * n + 2) ∧ S' 60 0 (17 * n + 2) ≤ 60) ∧ (-1 ≤ S' 60 0 (17 * n + 3) ∧ S' 60 0 (17 * n + 3) ≤ 300) ∧ (S' 60 0 (17 * n) = -1 → S' 60 0 (17 * n + 3) = -1) ∧ (0 ≤ S' 60 0 (17 * n + 4) ∧ S' 60 0 (17 * n + 4) ≤ 99) ∧ (0 ≤ S' 60 0 (17 * n + 5) ∧ S' 60 0 (17 * n + 5) ≤ 4) ∧ (S' 60 0 (17 * n + 6) = 0 ∨ S' 60 0 (17 * n + 6) = 1) ∧ (0 ≤ S' 60 0 (17 * n + 7) ∧ S' 60 0 (17 * n + 7) ≤ 3) ∧ (∀ k : Nat, (k : Int) < S' 60 0 (17 * n + 7) → 0 ≤ S' 60 0 (17 * n + 8 + 3 * k) ∧ S' 60 0 (17 * n + 8 + 3 * k) < S 38 0 3) ∧ (∀ k : Nat, (k : Int) < S' 60 0 (17 * n + 7) → 0 ≤ S' 60 0 (17 * n + 8 + 3 * k + 1) ∧ S' 60 0 (17 * n + 8 + 3 * k + 1) ≤ 3)
theorem SI.rec_ (I : SI S) (hn : (n : Int) < S 38 0 21) : TRk S S n := ⟨I.tf n hn, I.tt n hn, I.td n hn, I.te n hn, I.tea n hn, I.ts n hn, I.tm n hn, I.tor n hn, I.tc n hn, fun k => I.tp n k hn, fun k => I.to_ n k hn⟩
theorem SI.tra  (I : SI S) (hle : ∀ t : Nat, (t : Int) < S' 38 0 21 → t ≠ n → (t : Int) < S 38 0 21) (hnt : 0 ≤ S' 38 0 21 ∧ S' 38 0 21 ≤ 24) (r : TRk S S' n) (s : ∀ j f : Nat, sta j f = true → ¬ (j = 38 ∧ f = 21 ∨ j = 60 ∧ 17 * n ≤ f ∧ f < 17 * n + 17) → S' j 0 f = S j 0 f) : SI S' := by
  obtain ⟨r0, r1, r2, r3, r4, r5, r6, r7, r8, r9, r10⟩ := r
  have r_np : 0 ≤ S' 38 0 3 ∧ S' 38 0 3 ≤ 8 := by rw [s 38 3 rfl (by omega)]; exact I.np
  have r_kd : ∀ p : Nat, p < 8 → 0 ≤ S' 42 0 p ∧ S' 42 0 p ≤ 2 := fun p hp => by
    rw [s 42 p rfl (by omega)]; exact I.kd p hp
  have r_nc : 0 ≤ S' 38 0 8 ∧ S' 38 0 8 ≤ 12 := by rw [s 38 8 rfl (by omega)]; exact I.nc
  have r_cl : ∀ c : Nat, (c : Int) < S' 38 0 8 → 1 ≤ S' 44 0 c ∧ S' 44 0 c ≤ 500 := fun c hc => by
    rw [s 38 8 rfl (by omega)] at hc
    rw [s 44 c rfl (by omega)]; exact I.cl c hc
  have r_em : ∀ c : Nat, c < 12 → 0 ≤ S' 45 0 c ∧ S' 45 0 c ≤ 5 := fun c hc => by
    rw [s 45 c rfl (by omega)]; exact I.em c hc
  have r_et : ∀ c k : Nat, (c : Int) < S' 38 0 8 → (k : Int) < S' 45 0 c → 0 ≤ S' 46 0 (5 * c + k) ∧ S' 46 0 (5 * c + k) < S' 44 0 c := fun c k hc hk => by
    rw [s 38 8 rfl (by omega)] at hc
    rw [s 45 c rfl (by omega)] at hk
    have em := I.em c (by have := I.nc; omega)
    rw [s 46 (5 * c + k) rfl (by omega), s 44 c rfl (by omega)]; exact I.et c k hc hk
  have r_nn : 0 ≤ S' 38 0 14 ∧ S' 38 0 14 ≤ 20 := by rw [s 38 14 rfl (by omega)]; exact I.nn
  have r_ncl : ∀ m : Nat, (m : Int) < S' 38 0 14 → -1 ≤ S' 49 0 m ∧ S' 49 0 m < S' 38 0 8 := fun m hm => by
    rw [s 38 14 rfl (by omega)] at hm
    rw [s 49 m rfl (by omega), s 38 8 rfl (by omega)]; exact I.ncl m hm
  have r_npr : ∀ m : Nat, (m : Int) < S' 38 0 14 → S' 49 0 m = -1 → 0 ≤ S' 50 0 m ∧ S' 50 0 m < 8 := fun m hm h1 => by
    rw [s 38 14 rfl (by omega)] at hm
    rw [s 49 m rfl (by omega)] at h1
    rw [s 50 m rfl (by omega)]; exact I.npr m hm h1
  have r_cm : ∀ m : Nat, m < 20 → 0 ≤ S' 51 0 m ∧ S' 51 0 m ≤ 5 := fun m hm => by
    rw [s 51 m rfl (by omega)]; exact I.cm m hm
  have r_cmz : ∀ m : Nat, m < 20 → (S' 38 0 14 ≤ m ∨ S' 49 0 m ≠ -1) → S' 51 0 m = 0 := fun m hm h1 => by
    rw [s 38 14 rfl (by omega), s 49 m rfl (by omega)] at h1
    rw [s 51 m rfl (by omega)]; exact I.cmz m hm h1
  have r_cn : ∀ m k : Nat, (m : Int) < S' 38 0 14 → (k : Int) < S' 51 0 m → 0 ≤ S' 52 0 (5 * m + k) ∧ S' 52 0 (5 * m + k) < m := fun m k hm hk => by
    rw [s 38 14 rfl (by omega)] at hm
    rw [s 51 m rfl (by omega)] at hk
    have cm := I.cm m (by have := I.nn; omega)
    rw [s 52 (5 * m + k) rfl (by omega)]; exact I.cn m k hm hk
  have r_ca : ∀ m k : Nat, (m : Int) < S' 38 0 14 → (k : Int) < S' 51 0 m → -100 ≤ S' 53 0 (5 * m + k) ∧ S' 53 0 (5 * m + k) ≤ 100 := fun m k hm hk => by
    rw [s 38 14 rfl (by omega)] at hm
    rw [s 51 m rfl (by omega)] at hk
    have cm := I.cm m (by have := I.nn; omega)
    rw [s 53 (5 * m + k) rfl (by omega)]; exact I.ca m k hm hk
  have r_cd : ∀ m k l : Nat, (m : Int) < S' 38 0 14 → (k : Int) < S' 51 0 m → (l : Int) < S' 51 0 m → S' 53 0 (5 * m + k) = S' 53 0 (5 * m + l) → k = l := fun m k l hm hk hl h1 => by
    rw [s 38 14 rfl (by omega)] at hm
    rw [s 51 m rfl (by omega)] at hk hl
    have cm := I.cm m (by have := I.nn; omega)
    rw [s 53 (5 * m + k) rfl (by omega), s 53 (5 * m + l) rfl (by omega)] at h1; exact I.cd m k l hm hk hl h1
  have r_cc : ∀ m k : Nat, (m : Int) < S' 38 0 14 → (k : Int) < S' 51 0 m → S' 49 0 (S' 52 0 (5 * m + k)).toNat ≠ -1 ∨ 0 < S' 51 0 (S' 52 0 (5 * m + k)).toNat := fun m k hm hk => by
    rw [s 38 14 rfl (by omega)] at hm
    rw [s 51 m rfl (by omega)] at hk
    have cm := I.cm m (by have := I.nn; omega)
    have cn := I.cn m k hm hk
    rw [s 52 (5 * m + k) rfl (by omega), s 49 _ rfl (by omega), s 51 _ rfl (by omega)]; exact I.cc m k hm hk
  have r_dp : ∃ d : Nat → Nat, ∀ m : Nat, (m : Int) < S' 38 0 14 → 1 ≤ d m ∧ d m ≤ 4 ∧ ∀ k : Nat, (k : Int) < S' 51 0 m → d (S' 52 0 (5 * m + k)).toNat < d m := by
    obtain ⟨d, h⟩ := I.dp
    refine ⟨d, fun m hm => ?_⟩
    rw [s 38 14 rfl (by omega)] at hm
    have cm := I.cm m (by have := I.nn; omega)
    obtain ⟨h1, h2, h3⟩ := h m hm
    refine ⟨h1, h2, fun k hk => ?_⟩
    rw [s 51 m rfl (by omega)] at hk
    rw [s 52 (5 * m + k) rfl (by omega)]; exact h3 k hk
  have r_ns : 0 ≤ S' 38 0 19 ∧ S' 38 0 19 ≤ 10 := by rw [s 38 19 rfl (by omega)]; exact I.ns
  have r_mo : ∀ x : Nat, (x : Int) < S' 38 0 19 → 0 ≤ S' 55 0 x ∧ S' 55 0 x < S' 38 0 14 := fun x hx => by
    rw [s 38 19 rfl (by omega)] at hx
    rw [s 55 x rfl (by omega), s 38 14 rfl (by omega)]; exact I.mo x hx
  have r_mc : ∀ x : Nat, (x : Int) < S' 38 0 19 → S' 49 0 (S' 55 0 x).toNat ≠ -1 ∨ 0 < S' 51 0 (S' 55 0 x).toNat := fun x hx => by
    rw [s 38 19 rfl (by omega)] at hx
    have mo := I.mo x hx
    rw [s 55 x rfl (by omega), s 49 _ rfl (by omega), s 51 _ rfl (by omega)]; exact I.mc x hx
  have r_sp : ∀ x : Nat, (x : Int) < S' 38 0 19 → 1 ≤ S' 56 0 x ∧ S' 56 0 x ≤ 400 := fun x hx => by
    rw [s 38 19 rfl (by omega)] at hx
    rw [s 56 x rfl (by omega)]; exact I.sp x hx
  have r_lo : ∀ x : Nat, x < 10 → S' 57 0 x = 0 ∨ S' 57 0 x = 1 := fun x hx => by
    rw [s 57 x rfl (by omega)]; exact I.lo x hx
  have r_gr : ∀ x : Nat, x < 10 → 0 ≤ S' 58 0 x ∧ S' 58 0 x ≤ 3 := fun x hx => by
    rw [s 58 x rfl (by omega)]; exact I.gr x hx
  have r_nt : 0 ≤ S' 38 0 21 ∧ S' 38 0 21 ≤ 24 := hnt
  have r_tf : ∀ t : Nat, (t : Int) < S' 38 0 21 → -1 ≤ S' 60 0 (17 * t) ∧ S' 60 0 (17 * t) < S' 38 0 19 := fun t ht => by
    by_cases z : t = n
    · rw [z]
      rw [s 38 19 rfl (by omega)]; exact r0
    replace ht := hle t ht z
    rw [s 60 (17 * t) rfl (by omega), s 38 19 rfl (by omega)]; exact I.tf t ht
  have r_tt : ∀ t : Nat, (t : Int) < S' 38 0 21 → 0 ≤ S' 60 0 (17 * t + 1) ∧ S' 60 0 (17 * t + 1) < S' 38 0 19 := fun t ht => by
    by_cases z : t = n
    · rw [z]
      rw [s 38 19 rfl (by omega)]; exact r1
    replace ht := hle t ht z
    rw [s 60 (17 * t + 1) rfl (by omega), s 38 19 rfl (by omega)]; exact I.tt t ht
  have r_td : ∀ t : Nat, (t : Int) < S' 38 0 21 → 0 ≤ S' 60 0 (17 * t + 2) ∧ S' 60 0 (17 * t + 2) ≤ 60 := fun t ht => by
    by_cases z : t = n
    · rw [z]
      exact r2
    replace ht := hle t ht z
    rw [s 60 (17 * t + 2) rfl (by omega)]; exact I.td t ht
  have r_te : ∀ t : Nat, (t : Int) < S' 38 0 21 → -1 ≤ S' 60 0 (17 * t + 3) ∧ S' 60 0 (17 * t + 3) ≤ 300 := fun t ht => by
    by_cases z : t = n
    · rw [z]
      exact r3
    replace ht := hle t ht z
    rw [s 60 (17 * t + 3) rfl (by omega)]; exact I.te t ht
  have r_tea : ∀ t : Nat, (t : Int) < S' 38 0 21 → S' 60 0 (17 * t) = -1 → S' 60 0 (17 * t + 3) = -1 := fun t ht h1 => by
    by_cases z : t = n
    · rw [z] at h1 ⊢
      exact r4 h1
    replace ht := hle t ht z
    rw [s 60 (17 * t) rfl (by omega)] at h1
    rw [s 60 (17 * t + 3) rfl (by omega)]; exact I.tea t ht h1
  have r_ts : ∀ t : Nat, (t : Int) < S' 38 0 21 → 0 ≤ S' 60 0 (17 * t + 4) ∧ S' 60 0 (17 * t + 4) ≤ 99 := fun t ht => by
    by_cases z : t = n
    · rw [z]
      exact r5
    replace ht := hle t ht z
    rw [s 60 (17 * t + 4) rfl (by omega)]; exact I.ts t ht
  have r_tm : ∀ t : Nat, (t : Int) < S' 38 0 21 → 0 ≤ S' 60 0 (17 * t + 5) ∧ S' 60 0 (17 * t + 5) ≤ 4 := fun t ht => by
    by_cases z : t = n
    · rw [z]
      exact r6
    replace ht := hle t ht z
    rw [s 60 (17 * t + 5) rfl (by omega)]; exact I.tm t ht
  have r_tor : ∀ t : Nat, (t : Int) < S' 38 0 21 → S' 60 0 (17 * t + 6) = 0 ∨ S' 60 0 (17 * t + 6) = 1 := fun t ht => by
    by_cases z : t = n
    · rw [z]
      exact r7
    replace ht := hle t ht z
    rw [s 60 (17 * t + 6) rfl (by omega)]; exact I.tor t ht
  have r_tc : ∀ t : Nat, (t : Int) < S' 38 0 21 → 0 ≤ S' 60 0 (17 * t + 7) ∧ S' 60 0 (17 * t + 7) ≤ 3 := fun t ht => by
    by_cases z : t = n
    · rw [z]
      exact r8
    replace ht := hle t ht z
    rw [s 60 (17 * t + 7) rfl (by omega)]; exact I.tc t ht
  have r_tp : ∀ t k : Nat, (t : Int) < S' 38 0 21 → (k : Int) < S' 60 0 (17 * t + 7) → 0 ≤ S' 60 0 (17 * t + 8 + 3 * k) ∧ S' 60 0 (17 * t + 8 + 3 * k) < S' 38 0 3 := fun t k ht hk => by
    by_cases z : t = n
    · rw [z] at hk ⊢
      rw [s 38 3 rfl (by omega)]; exact r9 k hk
    replace ht := hle t ht z
    rw [s 60 (17 * t + 7) rfl (by omega)] at hk
    have tc := I.tc t ht
    rw [s 60 (17 * t + 8 + 3 * k) rfl (by omega), s 38 3 rfl (by omega)]; exact I.tp t k ht hk
  have r_to_ : ∀ t k : Nat, (t : Int) < S' 38 0 21 → (k : Int) < S' 60 0 (17 * t + 7) → 0 ≤ S' 60 0 (17 * t + 8 + 3 * k + 1) ∧ S' 60 0 (17 * t + 8 + 3 * k + 1) ≤ 3 := fun t k ht hk => by
    by_cases z : t = n
    · rw [z] at hk ⊢
      exact r10 k hk
    replace ht := hle t ht z
    rw [s 60 (17 * t + 7) rfl (by omega)] at hk
    have tc := I.tc t ht
    rw [s 60 (17 * t + 8 + 3 * k + 1) rfl (by omega)]; exact I.to_ t k ht hk
  have r_th : 0 ≤ S' 38 0 22 ∧ S' 38 0 22 ≤ 100 := by rw [s 38 22 rfl (by omega)]; exact I.th
  have r_tl : 0 ≤ S' 38 0 24 ∧ S' 38 0 24 ≤ 150 := by rw [s 38 24 rfl (by omega)]; exact I.tl
  have r_tx : ∀ i : Nat, i < 150 → 0 ≤ S' 63 0 i ∧ S' 63 0 i ≤ 255 := fun i hi => by
    rw [s 63 i rfl (by omega)]; exact I.tx i hi
  exact ⟨r_np, r_kd, r_nc, r_cl, r_em, r_et, r_nn, r_ncl, r_npr, r_cm, r_cmz, r_cn, r_ca, r_cd, r_cc, r_dp, r_ns, r_mo, r_mc, r_sp, r_lo, r_gr, r_nt, r_tf, r_tt, r_td, r_te, r_tea, r_ts, r_tm, r_tor, r_tc, r_tp, r_to_, r_th, r_tl, r_tx⟩
theorem SI.thr  (I : SI S) (e : 0 ≤ S' 38 0 22 ∧ S' 38 0 22 ≤ 100) (s : ∀ j f : Nat, sta j f = true → ¬ (j = 38 ∧ f = 22) → S' j 0 f = S j 0 f) : SI S' := by
  have r_np : 0 ≤ S' 38 0 3 ∧ S' 38 0 3 ≤ 8 := by rw [s 38 3 rfl (by omega)]; exact I.np
  have r_kd : ∀ p : Nat, p < 8 → 0 ≤ S' 42 0 p ∧ S' 42 0 p ≤ 2 := fun p hp => by
    rw [s 42 p rfl (by omega)]; exact I.kd p hp
  have r_nc : 0 ≤ S' 38 0 8 ∧ S' 38 0 8 ≤ 12 := by rw [s 38 8 rfl (by omega)]; exact I.nc
  have r_cl : ∀ c : Nat, (c : Int) < S' 38 0 8 → 1 ≤ S' 44 0 c ∧ S' 44 0 c ≤ 500 := fun c hc => by
    rw [s 38 8 rfl (by omega)] at hc
    rw [s 44 c rfl (by omega)]; exact I.cl c hc
  have r_em : ∀ c : Nat, c < 12 → 0 ≤ S' 45 0 c ∧ S' 45 0 c ≤ 5 := fun c hc => by
    rw [s 45 c rfl (by omega)]; exact I.em c hc
  have r_et : ∀ c k : Nat, (c : Int) < S' 38 0 8 → (k : Int) < S' 45 0 c → 0 ≤ S' 46 0 (5 * c + k) ∧ S' 46 0 (5 * c + k) < S' 44 0 c := fun c k hc hk => by
    rw [s 38 8 rfl (by omega)] at hc
    rw [s 45 c rfl (by omega)] at hk
    have em := I.em c (by have := I.nc; omega)
    rw [s 46 (5 * c + k) rfl (by omega), s 44 c rfl (by omega)]; exact I.et c k hc hk
  have r_nn : 0 ≤ S' 38 0 14 ∧ S' 38 0 14 ≤ 20 := by rw [s 38 14 rfl (by omega)]; exact I.nn
  have r_ncl : ∀ m : Nat, (m : Int) < S' 38 0 14 → -1 ≤ S' 49 0 m ∧ S' 49 0 m < S' 38 0 8 := fun m hm => by
    rw [s 38 14 rfl (by omega)] at hm
    rw [s 49 m rfl (by omega), s 38 8 rfl (by omega)]; exact I.ncl m hm
  have r_npr : ∀ m : Nat, (m : Int) < S' 38 0 14 → S' 49 0 m = -1 → 0 ≤ S' 50 0 m ∧ S' 50 0 m < 8 := fun m hm h1 => by
    rw [s 38 14 rfl (by omega)] at hm
    rw [s 49 m rfl (by omega)] at h1
    rw [s 50 m rfl (by omega)]; exact I.npr m hm h1
  have r_cm : ∀ m : Nat, m < 20 → 0 ≤ S' 51 0 m ∧ S' 51 0 m ≤ 5 := fun m hm => by
    rw [s 51 m rfl (by omega)]; exact I.cm m hm
  have r_cmz : ∀ m : Nat, m < 20 → (S' 38 0 14 ≤ m ∨ S' 49 0 m ≠ -1) → S' 51 0 m = 0 := fun m hm h1 => by
    rw [s 38 14 rfl (by omega), s 49 m rfl (by omega)] at h1
    rw [s 51 m rfl (by omega)]; exact I.cmz m hm h1
  have r_cn : ∀ m k : Nat, (m : Int) < S' 38 0 14 → (k : Int) < S' 51 0 m → 0 ≤ S' 52 0 (5 * m + k) ∧ S' 52 0 (5 * m + k) < m := fun m k hm hk => by
    rw [s 38 14 rfl (by omega)] at hm
    rw [s 51 m rfl (by omega)] at hk
    have cm := I.cm m (by have := I.nn; omega)
    rw [s 52 (5 * m + k) rfl (by omega)]; exact I.cn m k hm hk
  have r_ca : ∀ m k : Nat, (m : Int) < S' 38 0 14 → (k : Int) < S' 51 0 m → -100 ≤ S' 53 0 (5 * m + k) ∧ S' 53 0 (5 * m + k) ≤ 100 := fun m k hm hk => by
    rw [s 38 14 rfl (by omega)] at hm
    rw [s 51 m rfl (by omega)] at hk
    have cm := I.cm m (by have := I.nn; omega)
    rw [s 53 (5 * m + k) rfl (by omega)]; exact I.ca m k hm hk
  have r_cd : ∀ m k l : Nat, (m : Int) < S' 38 0 14 → (k : Int) < S' 51 0 m → (l : Int) < S' 51 0 m → S' 53 0 (5 * m + k) = S' 53 0 (5 * m + l) → k = l := fun m k l hm hk hl h1 => by
    rw [s 38 14 rfl (by omega)] at hm
    rw [s 51 m rfl (by omega)] at hk hl
    have cm := I.cm m (by have := I.nn; omega)
    rw [s 53 (5 * m + k) rfl (by omega), s 53 (5 * m + l) rfl (by omega)] at h1; exact I.cd m k l hm hk hl h1
  have r_cc : ∀ m k : Nat, (m : Int) < S' 38 0 14 → (k : Int) < S' 51 0 m → S' 49 0 (S' 52 0 (5 * m + k)).toNat ≠ -1 ∨ 0 < S' 51 0 (S' 52 0 (5 * m + k)).toNat := fun m k hm hk => by
    rw [s 38 14 rfl (by omega)] at hm
    rw [s 51 m rfl (by omega)] at hk
    have cm := I.cm m (by have := I.nn; omega)
    have cn := I.cn m k hm hk
    rw [s 52 (5 * m + k) rfl (by omega), s 49 _ rfl (by omega), s 51 _ rfl (by omega)]; exact I.cc m k hm hk
  have r_dp : ∃ d : Nat → Nat, ∀ m : Nat, (m : Int) < S' 38 0 14 → 1 ≤ d m ∧ d m ≤ 4 ∧ ∀ k : Nat, (k : Int) < S' 51 0 m → d (S' 52 0 (5 * m + k)).toNat < d m := by
    obtain ⟨d, h⟩ := I.dp
    refine ⟨d, fun m hm => ?_⟩
    rw [s 38 14 rfl (by omega)] at hm
    have cm := I.cm m (by have := I.nn; omega)
    obtain ⟨h1, h2, h3⟩ := h m hm
    refine ⟨h1, h2, fun k hk => ?_⟩
    rw [s 51 m rfl (by omega)] at hk
    rw [s 52 (5 * m + k) rfl (by omega)]; exact h3 k hk
  have r_ns : 0 ≤ S' 38 0 19 ∧ S' 38 0 19 ≤ 10 := by rw [s 38 19 rfl (by omega)]; exact I.ns
  have r_mo : ∀ x : Nat, (x : Int) < S' 38 0 19 → 0 ≤ S' 55 0 x ∧ S' 55 0 x < S' 38 0 14 := fun x hx => by
    rw [s 38 19 rfl (by omega)] at hx
    rw [s 55 x rfl (by omega), s 38 14 rfl (by omega)]; exact I.mo x hx
  have r_mc : ∀ x : Nat, (x : Int) < S' 38 0 19 → S' 49 0 (S' 55 0 x).toNat ≠ -1 ∨ 0 < S' 51 0 (S' 55 0 x).toNat := fun x hx => by
    rw [s 38 19 rfl (by omega)] at hx
    have mo := I.mo x hx
    rw [s 55 x rfl (by omega), s 49 _ rfl (by omega), s 51 _ rfl (by omega)]; exact I.mc x hx
  have r_sp : ∀ x : Nat, (x : Int) < S' 38 0 19 → 1 ≤ S' 56 0 x ∧ S' 56 0 x ≤ 400 := fun x hx => by
    rw [s 38 19 rfl (by omega)] at hx
    rw [s 56 x rfl (by omega)]; exact I.sp x hx
  have r_lo : ∀ x : Nat, x < 10 → S' 57 0 x = 0 ∨ S' 57 0 x = 1 := fun x hx => by
    rw [s 57 x rfl (by omega)]; exact I.lo x hx
  have r_gr : ∀ x : Nat, x < 10 → 0 ≤ S' 58 0 x ∧ S' 58 0 x ≤ 3 := fun x hx => by
    rw [s 58 x rfl (by omega)]; exact I.gr x hx
  have r_nt : 0 ≤ S' 38 0 21 ∧ S' 38 0 21 ≤ 24 := by rw [s 38 21 rfl (by omega)]; exact I.nt
  have r_tf : ∀ t : Nat, (t : Int) < S' 38 0 21 → -1 ≤ S' 60 0 (17 * t) ∧ S' 60 0 (17 * t) < S' 38 0 19 := fun t ht => by
    rw [s 38 21 rfl (by omega)] at ht
    rw [s 60 (17 * t) rfl (by omega), s 38 19 rfl (by omega)]; exact I.tf t ht
  have r_tt : ∀ t : Nat, (t : Int) < S' 38 0 21 → 0 ≤ S' 60 0 (17 * t + 1) ∧ S' 60 0 (17 * t + 1) < S' 38 0 19 := fun t ht => by
    rw [s 38 21 rfl (by omega)] at ht
    rw [s 60 (17 * t + 1) rfl (by omega), s 38 19 rfl (by omega)]; exact I.tt t ht
  have r_td : ∀ t : Nat, (t : Int) < S' 38 0 21 → 0 ≤ S' 60 0 (17 * t + 2) ∧ S' 60 0 (17 * t + 2) ≤ 60 := fun t ht => by
    rw [s 38 21 rfl (by omega)] at ht
    rw [s 60 (17 * t + 2) rfl (by omega)]; exact I.td t ht
  have r_te : ∀ t : Nat, (t : Int) < S' 38 0 21 → -1 ≤ S' 60 0 (17 * t + 3) ∧ S' 60 0 (17 * t + 3) ≤ 300 := fun t ht => by
    rw [s 38 21 rfl (by omega)] at ht
    rw [s 60 (17 * t + 3) rfl (by omega)]; exact I.te t ht
  have r_tea : ∀ t : Nat, (t : Int) < S' 38 0 21 → S' 60 0 (17 * t) = -1 → S' 60 0 (17 * t + 3) = -1 := fun t ht h1 => by
    rw [s 38 21 rfl (by omega)] at ht
    rw [s 60 (17 * t) rfl (by omega)] at h1
    rw [s 60 (17 * t + 3) rfl (by omega)]; exact I.tea t ht h1
  have r_ts : ∀ t : Nat, (t : Int) < S' 38 0 21 → 0 ≤ S' 60 0 (17 * t + 4) ∧ S' 60 0 (17 * t + 4) ≤ 99 := fun t ht => by
    rw [s 38 21 rfl (by omega)] at ht
    rw [s 60 (17 * t + 4) rfl (by omega)]; exact I.ts t ht
  have r_tm : ∀ t : Nat, (t : Int) < S' 38 0 21 → 0 ≤ S' 60 0 (17 * t + 5) ∧ S' 60 0 (17 * t + 5) ≤ 4 := fun t ht => by
    rw [s 38 21 rfl (by omega)] at ht
    rw [s 60 (17 * t + 5) rfl (by omega)]; exact I.tm t ht
  have r_tor : ∀ t : Nat, (t : Int) < S' 38 0 21 → S' 60 0 (17 * t + 6) = 0 ∨ S' 60 0 (17 * t + 6) = 1 := fun t ht => by
    rw [s 38 21 rfl (by omega)] at ht
    rw [s 60 (17 * t + 6) rfl (by omega)]; exact I.tor t ht
  have r_tc : ∀ t : Nat, (t : Int) < S' 38 0 21 → 0 ≤ S' 60 0 (17 * t + 7) ∧ S' 60 0 (17 * t + 7) ≤ 3 := fun t ht => by
    rw [s 38 21 rfl (by omega)] at ht
    rw [s 60 (17 * t + 7) rfl (by omega)]; exact I.tc t ht
  have r_tp : ∀ t k : Nat, (t : Int) < S' 38 0 21 → (k : Int) < S' 60 0 (17 * t + 7) → 0 ≤ S' 60 0 (17 * t + 8 + 3 * k) ∧ S' 60 0 (17 * t + 8 + 3 * k) < S' 38 0 3 := fun t k ht hk => by
    rw [s 38 21 rfl (by omega)] at ht
    rw [s 60 (17 * t + 7) rfl (by omega)] at hk
    have tc := I.tc t ht
    rw [s 60 (17 * t + 8 + 3 * k) rfl (by omega), s 38 3 rfl (by omega)]; exact I.tp t k ht hk
  have r_to_ : ∀ t k : Nat, (t : Int) < S' 38 0 21 → (k : Int) < S' 60 0 (17 * t + 7) → 0 ≤ S' 60 0 (17 * t + 8 + 3 * k + 1) ∧ S' 60 0 (17 * t + 8 + 3 * k + 1) ≤ 3 := fun t k ht hk => by
    rw [s 38 21 rfl (by omega)] at ht
    rw [s 60 (17 * t + 7) rfl (by omega)] at hk
    have tc := I.tc t ht
    rw [s 60 (17 * t + 8 + 3 * k + 1) rfl (by omega)]; exact I.to_ t k ht hk
  have r_th : 0 ≤ S' 38 0 22 ∧ S' 38 0 22 ≤ 100 := e
  have r_tl : 0 ≤ S' 38 0 24 ∧ S' 38 0 24 ≤ 150 := by rw [s 38 24 rfl (by omega)]; exact I.tl
  have r_tx : ∀ i : Nat, i < 150 → 0 ≤ S' 63 0 i ∧ S' 63 0 i ≤ 255 := fun i hi => by
    rw [s 63 i rfl (by omega)]; exact I.tx i hi
  exact ⟨r_np, r_kd, r_nc, r_cl, r_em, r_et, r_nn, r_ncl, r_npr, r_cm, r_cmz, r_cn, r_ca, r_cd, r_cc, r_dp, r_ns, r_mo, r_mc, r_sp, r_lo, r_gr, r_nt, r_tf, r_tt, r_td, r_te, r_tea, r_ts, r_tm, r_tor, r_tc, r_tp, r_to_, r_th, r_tl, r_tx⟩
theorem SI.typ  (I : SI S) (hn : S 38 0 24 = (n : Int)) (h150 : n < 150) (e : S' 38 0 24 = (n : Int) + 1) (e2 : 0 ≤ S' 63 0 n ∧ S' 63 0 n ≤ 255) (s : ∀ j f : Nat, sta j f = true → ¬ (j = 38 ∧ f = 24 ∨ j = 63 ∧ f = n) → S' j 0 f = S j 0 f) : SI S' := by
  have r_np : 0 ≤ S' 38 0 3 ∧ S' 38 0 3 ≤ 8 := by rw [s 38 3 rfl (by omega)]; exact I.np
  have r_kd : ∀ p : Nat, p < 8 → 0 ≤ S' 42 0 p ∧ S' 42 0 p ≤ 2 := fun p hp => by
    rw [s 42 p rfl (by omega)]; exact I.kd p hp
  have r_nc : 0 ≤ S' 38 0 8 ∧ S' 38 0 8 ≤ 12 := by rw [s 38 8 rfl (by omega)]; exact I.nc
  have r_cl : ∀ c : Nat, (c : Int) < S' 38 0 8 → 1 ≤ S' 44 0 c ∧ S' 44 0 c ≤ 500 := fun c hc => by
    rw [s 38 8 rfl (by omega)] at hc
    rw [s 44 c rfl (by omega)]; exact I.cl c hc
  have r_em : ∀ c : Nat, c < 12 → 0 ≤ S' 45 0 c ∧ S' 45 0 c ≤ 5 := fun c hc => by
    rw [s 45 c rfl (by omega)]; exact I.em c hc
  have r_et : ∀ c k : Nat, (c : Int) < S' 38 0 8 → (k : Int) < S' 45 0 c → 0 ≤ S' 46 0 (5 * c + k) ∧ S' 46 0 (5 * c + k) < S' 44 0 c := fun c k hc hk => by
    rw [s 38 8 rfl (by omega)] at hc
    rw [s 45 c rfl (by omega)] at hk
    have em := I.em c (by have := I.nc; omega)
    rw [s 46 (5 * c + k) rfl (by omega), s 44 c rfl (by omega)]; exact I.et c k hc hk
  have r_nn : 0 ≤ S' 38 0 14 ∧ S' 38 0 14 ≤ 20 := by rw [s 38 14 rfl (by omega)]; exact I.nn
  have r_ncl : ∀ m : Nat, (m : Int) < S' 38 0 14 → -1 ≤ S' 49 0 m ∧ S' 49 0 m < S' 38 0 8 := fun m hm => by
    rw [s 38 14 rfl (by omega)] at hm
    rw [s 49 m rfl (by omega), s 38 8 rfl (by omega)]; exact I.ncl m hm
  have r_npr : ∀ m : Nat, (m : Int) < S' 38 0 14 → S' 49 0 m = -1 → 0 ≤ S' 50 0 m ∧ S' 50 0 m < 8 := fun m hm h1 => by
    rw [s 38 14 rfl (by omega)] at hm
    rw [s 49 m rfl (by omega)] at h1
    rw [s 50 m rfl (by omega)]; exact I.npr m hm h1
  have r_cm : ∀ m : Nat, m < 20 → 0 ≤ S' 51 0 m ∧ S' 51 0 m ≤ 5 := fun m hm => by
    rw [s 51 m rfl (by omega)]; exact I.cm m hm
  have r_cmz : ∀ m : Nat, m < 20 → (S' 38 0 14 ≤ m ∨ S' 49 0 m ≠ -1) → S' 51 0 m = 0 := fun m hm h1 => by
    rw [s 38 14 rfl (by omega), s 49 m rfl (by omega)] at h1
    rw [s 51 m rfl (by omega)]; exact I.cmz m hm h1
  have r_cn : ∀ m k : Nat, (m : Int) < S' 38 0 14 → (k : Int) < S' 51 0 m → 0 ≤ S' 52 0 (5 * m + k) ∧ S' 52 0 (5 * m + k) < m := fun m k hm hk => by
    rw [s 38 14 rfl (by omega)] at hm
    rw [s 51 m rfl (by omega)] at hk
    have cm := I.cm m (by have := I.nn; omega)
    rw [s 52 (5 * m + k) rfl (by omega)]; exact I.cn m k hm hk
  have r_ca : ∀ m k : Nat, (m : Int) < S' 38 0 14 → (k : Int) < S' 51 0 m → -100 ≤ S' 53 0 (5 * m + k) ∧ S' 53 0 (5 * m + k) ≤ 100 := fun m k hm hk => by
    rw [s 38 14 rfl (by omega)] at hm
    rw [s 51 m rfl (by omega)] at hk
    have cm := I.cm m (by have := I.nn; omega)
    rw [s 53 (5 * m + k) rfl (by omega)]; exact I.ca m k hm hk
  have r_cd : ∀ m k l : Nat, (m : Int) < S' 38 0 14 → (k : Int) < S' 51 0 m → (l : Int) < S' 51 0 m → S' 53 0 (5 * m + k) = S' 53 0 (5 * m + l) → k = l := fun m k l hm hk hl h1 => by
    rw [s 38 14 rfl (by omega)] at hm
    rw [s 51 m rfl (by omega)] at hk hl
    have cm := I.cm m (by have := I.nn; omega)
    rw [s 53 (5 * m + k) rfl (by omega), s 53 (5 * m + l) rfl (by omega)] at h1; exact I.cd m k l hm hk hl h1
  have r_cc : ∀ m k : Nat, (m : Int) < S' 38 0 14 → (k : Int) < S' 51 0 m → S' 49 0 (S' 52 0 (5 * m + k)).toNat ≠ -1 ∨ 0 < S' 51 0 (S' 52 0 (5 * m + k)).toNat := fun m k hm hk => by
    rw [s 38 14 rfl (by omega)] at hm
    rw [s 51 m rfl (by omega)] at hk
    have cm := I.cm m (by have := I.nn; omega)
    have cn := I.cn m k hm hk
    rw [s 52 (5 * m + k) rfl (by omega), s 49 _ rfl (by omega), s 51 _ rfl (by omega)]; exact I.cc m k hm hk
  have r_dp : ∃ d : Nat → Nat, ∀ m : Nat, (m : Int) < S' 38 0 14 → 1 ≤ d m ∧ d m ≤ 4 ∧ ∀ k : Nat, (k : Int) < S' 51 0 m → d (S' 52 0 (5 * m + k)).toNat < d m := by
    obtain ⟨d, h⟩ := I.dp
    refine ⟨d, fun m hm => ?_⟩
    rw [s 38 14 rfl (by omega)] at hm
    have cm := I.cm m (by have := I.nn; omega)
    obtain ⟨h1, h2, h3⟩ := h m hm
    refine ⟨h1, h2, fun k hk => ?_⟩
    rw [s 51 m rfl (by omega)] at hk
    rw [s 52 (5 * m + k) rfl (by omega)]; exact h3 k hk
  have r_ns : 0 ≤ S' 38 0 19 ∧ S' 38 0 19 ≤ 10 := by rw [s 38 19 rfl (by omega)]; exact I.ns
  have r_mo : ∀ x : Nat, (x : Int) < S' 38 0 19 → 0 ≤ S' 55 0 x ∧ S' 55 0 x < S' 38 0 14 := fun x hx => by
    rw [s 38 19 rfl (by omega)] at hx
    rw [s 55 x rfl (by omega), s 38 14 rfl (by omega)]; exact I.mo x hx
  have r_mc : ∀ x : Nat, (x : Int) < S' 38 0 19 → S' 49 0 (S' 55 0 x).toNat ≠ -1 ∨ 0 < S' 51 0 (S' 55 0 x).toNat := fun x hx => by
    rw [s 38 19 rfl (by omega)] at hx
    have mo := I.mo x hx
    rw [s 55 x rfl (by omega), s 49 _ rfl (by omega), s 51 _ rfl (by omega)]; exact I.mc x hx
  have r_sp : ∀ x : Nat, (x : Int) < S' 38 0 19 → 1 ≤ S' 56 0 x ∧ S' 56 0 x ≤ 400 := fun x hx => by
    rw [s 38 19 rfl (by omega)] at hx
    rw [s 56 x rfl (by omega)]; exact I.sp x hx
  have r_lo : ∀ x : Nat, x < 10 → S' 57 0 x = 0 ∨ S' 57 0 x = 1 := fun x hx => by
    rw [s 57 x rfl (by omega)]; exact I.lo x hx
  have r_gr : ∀ x : Nat, x < 10 → 0 ≤ S' 58 0 x ∧ S' 58 0 x ≤ 3 := fun x hx => by
    rw [s 58 x rfl (by omega)]; exact I.gr x hx
  have r_nt : 0 ≤ S' 38 0 21 ∧ S' 38 0 21 ≤ 24 := by rw [s 38 21 rfl (by omega)]; exact I.nt
  have r_tf : ∀ t : Nat, (t : Int) < S' 38 0 21 → -1 ≤ S' 60 0 (17 * t) ∧ S' 60 0 (17 * t) < S' 38 0 19 := fun t ht => by
    rw [s 38 21 rfl (by omega)] at ht
    rw [s 60 (17 * t) rfl (by omega), s 38 19 rfl (by omega)]; exact I.tf t ht
  have r_tt : ∀ t : Nat, (t : Int) < S' 38 0 21 → 0 ≤ S' 60 0 (17 * t + 1) ∧ S' 60 0 (17 * t + 1) < S' 38 0 19 := fun t ht => by
    rw [s 38 21 rfl (by omega)] at ht
    rw [s 60 (17 * t + 1) rfl (by omega), s 38 19 rfl (by omega)]; exact I.tt t ht
  have r_td : ∀ t : Nat, (t : Int) < S' 38 0 21 → 0 ≤ S' 60 0 (17 * t + 2) ∧ S' 60 0 (17 * t + 2) ≤ 60 := fun t ht => by
    rw [s 38 21 rfl (by omega)] at ht
    rw [s 60 (17 * t + 2) rfl (by omega)]; exact I.td t ht
  have r_te : ∀ t : Nat, (t : Int) < S' 38 0 21 → -1 ≤ S' 60 0 (17 * t + 3) ∧ S' 60 0 (17 * t + 3) ≤ 300 := fun t ht => by
    rw [s 38 21 rfl (by omega)] at ht
    rw [s 60 (17 * t + 3) rfl (by omega)]; exact I.te t ht
  have r_tea : ∀ t : Nat, (t : Int) < S' 38 0 21 → S' 60 0 (17 * t) = -1 → S' 60 0 (17 * t + 3) = -1 := fun t ht h1 => by
    rw [s 38 21 rfl (by omega)] at ht
    rw [s 60 (17 * t) rfl (by omega)] at h1
    rw [s 60 (17 * t + 3) rfl (by omega)]; exact I.tea t ht h1
  have r_ts : ∀ t : Nat, (t : Int) < S' 38 0 21 → 0 ≤ S' 60 0 (17 * t + 4) ∧ S' 60 0 (17 * t + 4) ≤ 99 := fun t ht => by
    rw [s 38 21 rfl (by omega)] at ht
    rw [s 60 (17 * t + 4) rfl (by omega)]; exact I.ts t ht
  have r_tm : ∀ t : Nat, (t : Int) < S' 38 0 21 → 0 ≤ S' 60 0 (17 * t + 5) ∧ S' 60 0 (17 * t + 5) ≤ 4 := fun t ht => by
    rw [s 38 21 rfl (by omega)] at ht
    rw [s 60 (17 * t + 5) rfl (by omega)]; exact I.tm t ht
  have r_tor : ∀ t : Nat, (t : Int) < S' 38 0 21 → S' 60 0 (17 * t + 6) = 0 ∨ S' 60 0 (17 * t + 6) = 1 := fun t ht => by
    rw [s 38 21 rfl (by omega)] at ht
    rw [s 60 (17 * t + 6) rfl (by omega)]; exact I.tor t ht
  have r_tc : ∀ t : Nat, (t : Int) < S' 38 0 21 → 0 ≤ S' 60 0 (17 * t + 7) ∧ S' 60 0 (17 * t + 7) ≤ 3 := fun t ht => by
    rw [s 38 21 rfl (by omega)] at ht
    rw [s 60 (17 * t + 7) rfl (by omega)]; exact I.tc t ht
  have r_tp : ∀ t k : Nat, (t : Int) < S' 38 0 21 → (k : Int) < S' 60 0 (17 * t + 7) → 0 ≤ S' 60 0 (17 * t + 8 + 3 * k) ∧ S' 60 0 (17 * t + 8 + 3 * k) < S' 38 0 3 := fun t k ht hk => by
    rw [s 38 21 rfl (by omega)] at ht
    rw [s 60 (17 * t + 7) rfl (by omega)] at hk
    have tc := I.tc t ht
    rw [s 60 (17 * t + 8 + 3 * k) rfl (by omega), s 38 3 rfl (by omega)]; exact I.tp t k ht hk
  have r_to_ : ∀ t k : Nat, (t : Int) < S' 38 0 21 → (k : Int) < S' 60 0 (17 * t + 7) → 0 ≤ S' 60 0 (17 * t + 8 + 3 * k + 1) ∧ S' 60 0 (17 * t + 8 + 3 * k + 1) ≤ 3 := fun t k ht hk => by
    rw [s 38 21 rfl (by omega)] at ht
    rw [s 60 (17 * t + 7) rfl (by omega)] at hk
    have tc := I.tc t ht
    rw [s 60 (17 * t + 8 + 3 * k + 1) rfl (by omega)]; exact I.to_ t k ht hk
  have r_th : 0 ≤ S' 38 0 22 ∧ S' 38 0 22 ≤ 100 := by rw [s 38 22 rfl (by omega)]; exact I.th
  have r_tl : 0 ≤ S' 38 0 24 ∧ S' 38 0 24 ≤ 150 := by rw [e]; omega
  have r_tx : ∀ i : Nat, i < 150 → 0 ≤ S' 63 0 i ∧ S' 63 0 i ≤ 255 := fun i hi => by
    by_cases z : i = n
    · rw [z]; exact e2
    rw [s 63 i rfl (by omega)]; exact I.tx i hi
  exact ⟨r_np, r_kd, r_nc, r_cl, r_em, r_et, r_nn, r_ncl, r_npr, r_cm, r_cmz, r_cn, r_ca, r_cd, r_cc, r_dp, r_ns, r_mo, r_mc, r_sp, r_lo, r_gr, r_nt, r_tf, r_tt, r_td, r_te, r_tea, r_ts, r_tm, r_tor, r_tc, r_tp, r_to_, r_th, r_tl, r_tx⟩
theorem SI.clt  (I : SI S) (e : S' 38 0 24 = 0) (s : ∀ j f : Nat, sta j f = true → ¬ (j = 38 ∧ f = 24) → S' j 0 f = S j 0 f) : SI S' := by
  have r_np : 0 ≤ S' 38 0 3 ∧ S' 38 0 3 ≤ 8 := by rw [s 38 3 rfl (by omega)]; exact I.np
  have r_kd : ∀ p : Nat, p < 8 → 0 ≤ S' 42 0 p ∧ S' 42 0 p ≤ 2 := fun p hp => by
    rw [s 42 p rfl (by omega)]; exact I.kd p hp
  have r_nc : 0 ≤ S' 38 0 8 ∧ S' 38 0 8 ≤ 12 := by rw [s 38 8 rfl (by omega)]; exact I.nc
  have r_cl : ∀ c : Nat, (c : Int) < S' 38 0 8 → 1 ≤ S' 44 0 c ∧ S' 44 0 c ≤ 500 := fun c hc => by
    rw [s 38 8 rfl (by omega)] at hc
    rw [s 44 c rfl (by omega)]; exact I.cl c hc
  have r_em : ∀ c : Nat, c < 12 → 0 ≤ S' 45 0 c ∧ S' 45 0 c ≤ 5 := fun c hc => by
    rw [s 45 c rfl (by omega)]; exact I.em c hc
  have r_et : ∀ c k : Nat, (c : Int) < S' 38 0 8 → (k : Int) < S' 45 0 c → 0 ≤ S' 46 0 (5 * c + k) ∧ S' 46 0 (5 * c + k) < S' 44 0 c := fun c k hc hk => by
    rw [s 38 8 rfl (by omega)] at hc
    rw [s 45 c rfl (by omega)] at hk
    have em := I.em c (by have := I.nc; omega)
    rw [s 46 (5 * c + k) rfl (by omega), s 44 c rfl (by omega)]; exact I.et c k hc hk
  have r_nn : 0 ≤ S' 38 0 14 ∧ S' 38 0 14 ≤ 20 := by rw [s 38 14 rfl (by omega)]; exact I.nn
  have r_ncl : ∀ m : Nat, (m : Int) < S' 38 0 14 → -1 ≤ S' 49 0 m ∧ S' 49 0 m < S' 38 0 8 := fun m hm => by
    rw [s 38 14 rfl (by omega)] at hm
    rw [s 49 m rfl (by omega), s 38 8 rfl (by omega)]; exact I.ncl m hm
  have r_npr : ∀ m : Nat, (m : Int) < S' 38 0 14 → S' 49 0 m = -1 → 0 ≤ S' 50 0 m ∧ S' 50 0 m < 8 := fun m hm h1 => by
    rw [s 38 14 rfl (by omega)] at hm
    rw [s 49 m rfl (by omega)] at h1
    rw [s 50 m rfl (by omega)]; exact I.npr m hm h1
  have r_cm : ∀ m : Nat, m < 20 → 0 ≤ S' 51 0 m ∧ S' 51 0 m ≤ 5 := fun m hm => by
    rw [s 51 m rfl (by omega)]; exact I.cm m hm
  have r_cmz : ∀ m : Nat, m < 20 → (S' 38 0 14 ≤ m ∨ S' 49 0 m ≠ -1) → S' 51 0 m = 0 := fun m hm h1 => by
    rw [s 38 14 rfl (by omega), s 49 m rfl (by omega)] at h1
    rw [s 51 m rfl (by omega)]; exact I.cmz m hm h1
  have r_cn : ∀ m k : Nat, (m : Int) < S' 38 0 14 → (k : Int) < S' 51 0 m → 0 ≤ S' 52 0 (5 * m + k) ∧ S' 52 0 (5 * m + k) < m := fun m k hm hk => by
    rw [s 38 14 rfl (by omega)] at hm
    rw [s 51 m rfl (by omega)] at hk
    have cm := I.cm m (by have := I.nn; omega)
    rw [s 52 (5 * m + k) rfl (by omega)]; exact I.cn m k hm hk
  have r_ca : ∀ m k : Nat, (m : Int) < S' 38 0 14 → (k : Int) < S' 51 0 m → -100 ≤ S' 53 0 (5 * m + k) ∧ S' 53 0 (5 * m + k) ≤ 100 := fun m k hm hk => by
    rw [s 38 14 rfl (by omega)] at hm
    rw [s 51 m rfl (by omega)] at hk
    have cm := I.cm m (by have := I.nn; omega)
    rw [s 53 (5 * m + k) rfl (by omega)]; exact I.ca m k hm hk
  have r_cd : ∀ m k l : Nat, (m : Int) < S' 38 0 14 → (k : Int) < S' 51 0 m → (l : Int) < S' 51 0 m → S' 53 0 (5 * m + k) = S' 53 0 (5 * m + l) → k = l := fun m k l hm hk hl h1 => by
    rw [s 38 14 rfl (by omega)] at hm
    rw [s 51 m rfl (by omega)] at hk hl
    have cm := I.cm m (by have := I.nn; omega)
    rw [s 53 (5 * m + k) rfl (by omega), s 53 (5 * m + l) rfl (by omega)] at h1; exact I.cd m k l hm hk hl h1
  have r_cc : ∀ m k : Nat, (m : Int) < S' 38 0 14 → (k : Int) < S' 51 0 m → S' 49 0 (S' 52 0 (5 * m + k)).toNat ≠ -1 ∨ 0 < S' 51 0 (S' 52 0 (5 * m + k)).toNat := fun m k hm hk => by
    rw [s 38 14 rfl (by omega)] at hm
    rw [s 51 m rfl (by omega)] at hk
    have cm := I.cm m (by have := I.nn; omega)
    have cn := I.cn m k hm hk
    rw [s 52 (5 * m + k) rfl (by omega), s 49 _ rfl (by omega), s 51 _ rfl (by omega)]; exact I.cc m k hm hk
  have r_dp : ∃ d : Nat → Nat, ∀ m : Nat, (m : Int) < S' 38 0 14 → 1 ≤ d m ∧ d m ≤ 4 ∧ ∀ k : Nat, (k : Int) < S' 51 0 m → d (S' 52 0 (5 * m + k)).toNat < d m := by
    obtain ⟨d, h⟩ := I.dp
    refine ⟨d, fun m hm => ?_⟩
    rw [s 38 14 rfl (by omega)] at hm
    have cm := I.cm m (by have := I.nn; omega)
    obtain ⟨h1, h2, h3⟩ := h m hm
    refine ⟨h1, h2, fun k hk => ?_⟩
    rw [s 51 m rfl (by omega)] at hk
    rw [s 52 (5 * m + k) rfl (by omega)]; exact h3 k hk
  have r_ns : 0 ≤ S' 38 0 19 ∧ S' 38 0 19 ≤ 10 := by rw [s 38 19 rfl (by omega)]; exact I.ns
  have r_mo : ∀ x : Nat, (x : Int) < S' 38 0 19 → 0 ≤ S' 55 0 x ∧ S' 55 0 x < S' 38 0 14 := fun x hx => by
    rw [s 38 19 rfl (by omega)] at hx
    rw [s 55 x rfl (by omega), s 38 14 rfl (by omega)]; exact I.mo x hx
  have r_mc : ∀ x : Nat, (x : Int) < S' 38 0 19 → S' 49 0 (S' 55 0 x).toNat ≠ -1 ∨ 0 < S' 51 0 (S' 55 0 x).toNat := fun x hx => by
    rw [s 38 19 rfl (by omega)] at hx
    have mo := I.mo x hx
    rw [s 55 x rfl (by omega), s 49 _ rfl (by omega), s 51 _ rfl (by omega)]; exact I.mc x hx
  have r_sp : ∀ x : Nat, (x : Int) < S' 38 0 19 → 1 ≤ S' 56 0 x ∧ S' 56 0 x ≤ 400 := fun x hx => by
    rw [s 38 19 rfl (by omega)] at hx
    rw [s 56 x rfl (by omega)]; exact I.sp x hx
  have r_lo : ∀ x : Nat, x < 10 → S' 57 0 x = 0 ∨ S' 57 0 x = 1 := fun x hx => by
    rw [s 57 x rfl (by omega)]; exact I.lo x hx
  have r_gr : ∀ x : Nat, x < 10 → 0 ≤ S' 58 0 x ∧ S' 58 0 x ≤ 3 := fun x hx => by
    rw [s 58 x rfl (by omega)]; exact I.gr x hx
  have r_nt : 0 ≤ S' 38 0 21 ∧ S' 38 0 21 ≤ 24 := by rw [s 38 21 rfl (by omega)]; exact I.nt
  have r_tf : ∀ t : Nat, (t : Int) < S' 38 0 21 → -1 ≤ S' 60 0 (17 * t) ∧ S' 60 0 (17 * t) < S' 38 0 19 := fun t ht => by
    rw [s 38 21 rfl (by omega)] at ht
    rw [s 60 (17 * t) rfl (by omega), s 38 19 rfl (by omega)]; exact I.tf t ht
  have r_tt : ∀ t : Nat, (t : Int) < S' 38 0 21 → 0 ≤ S' 60 0 (17 * t + 1) ∧ S' 60 0 (17 * t + 1) < S' 38 0 19 := fun t ht => by
    rw [s 38 21 rfl (by omega)] at ht
    rw [s 60 (17 * t + 1) rfl (by omega), s 38 19 rfl (by omega)]; exact I.tt t ht
  have r_td : ∀ t : Nat, (t : Int) < S' 38 0 21 → 0 ≤ S' 60 0 (17 * t + 2) ∧ S' 60 0 (17 * t + 2) ≤ 60 := fun t ht => by
    rw [s 38 21 rfl (by omega)] at ht
    rw [s 60 (17 * t + 2) rfl (by omega)]; exact I.td t ht
  have r_te : ∀ t : Nat, (t : Int) < S' 38 0 21 → -1 ≤ S' 60 0 (17 * t + 3) ∧ S' 60 0 (17 * t + 3) ≤ 300 := fun t ht => by
    rw [s 38 21 rfl (by omega)] at ht
    rw [s 60 (17 * t + 3) rfl (by omega)]; exact I.te t ht
  have r_tea : ∀ t : Nat, (t : Int) < S' 38 0 21 → S' 60 0 (17 * t) = -1 → S' 60 0 (17 * t + 3) = -1 := fun t ht h1 => by
    rw [s 38 21 rfl (by omega)] at ht
    rw [s 60 (17 * t) rfl (by omega)] at h1
    rw [s 60 (17 * t + 3) rfl (by omega)]; exact I.tea t ht h1
  have r_ts : ∀ t : Nat, (t : Int) < S' 38 0 21 → 0 ≤ S' 60 0 (17 * t + 4) ∧ S' 60 0 (17 * t + 4) ≤ 99 := fun t ht => by
    rw [s 38 21 rfl (by omega)] at ht
    rw [s 60 (17 * t + 4) rfl (by omega)]; exact I.ts t ht
  have r_tm : ∀ t : Nat, (t : Int) < S' 38 0 21 → 0 ≤ S' 60 0 (17 * t + 5) ∧ S' 60 0 (17 * t + 5) ≤ 4 := fun t ht => by
    rw [s 38 21 rfl (by omega)] at ht
    rw [s 60 (17 * t + 5) rfl (by omega)]; exact I.tm t ht
  have r_tor : ∀ t : Nat, (t : Int) < S' 38 0 21 → S' 60 0 (17 * t + 6) = 0 ∨ S' 60 0 (17 * t + 6) = 1 := fun t ht => by
    rw [s 38 21 rfl (by omega)] at ht
    rw [s 60 (17 * t + 6) rfl (by omega)]; exact I.tor t ht
  have r_tc : ∀ t : Nat, (t : Int) < S' 38 0 21 → 0 ≤ S' 60 0 (17 * t + 7) ∧ S' 60 0 (17 * t + 7) ≤ 3 := fun t ht => by
    rw [s 38 21 rfl (by omega)] at ht
    rw [s 60 (17 * t + 7) rfl (by omega)]; exact I.tc t ht
  have r_tp : ∀ t k : Nat, (t : Int) < S' 38 0 21 → (k : Int) < S' 60 0 (17 * t + 7) → 0 ≤ S' 60 0 (17 * t + 8 + 3 * k) ∧ S' 60 0 (17 * t + 8 + 3 * k) < S' 38 0 3 := fun t k ht hk => by
    rw [s 38 21 rfl (by omega)] at ht
    rw [s 60 (17 * t + 7) rfl (by omega)] at hk
    have tc := I.tc t ht
    rw [s 60 (17 * t + 8 + 3 * k) rfl (by omega), s 38 3 rfl (by omega)]; exact I.tp t k ht hk
  have r_to_ : ∀ t k : Nat, (t : Int) < S' 38 0 21 → (k : Int) < S' 60 0 (17 * t + 7) → 0 ≤ S' 60 0 (17 * t + 8 + 3 * k + 1) ∧ S' 60 0 (17 * t + 8 + 3 * k + 1) ≤ 3 := fun t k ht hk => by
    rw [s 38 21 rfl (by omega)] at ht
    rw [s 60 (17 * t + 7) rfl (by omega)] at hk
    have tc := I.tc t ht
    rw [s 60 (17 * t + 8 + 3 * k + 1) rfl (by omega)]; exact I.to_ t k ht hk
  have r_th : 0 ≤ S' 38 0 22 ∧ S' 38 0 22 ≤ 100 := by rw [s 38 22 rfl (by omega)]; exact I.th
  have r_tl : 0 ≤ S' 38 0 24 ∧ S' 38 0 24 ≤ 150 := by rw [e]; decide
  have r_tx : ∀ i : Nat, i < 150 → 0 ≤ S' 63 0 i ∧ S' 63 0 i ≤ 255 := fun i hi => by
    rw [s 63 i rfl (by omega)]; exact I.tx i hi
  exact ⟨r_np, r_kd, r_nc, r_cl, r_em, r_et, r_nn, r_ncl, r_npr, r_cm, r_cmz, r_cn, r_ca, r_cd, r_cc, r_dp, r_ns, r_mo, r_mc, r_sp, r_lo, r_gr, r_nt, r_tf, r_tt, r_td, r_te, r_tea, r_ts, r_tm, r_tor, r_tc, r_tp, r_to_, r_th, r_tl, r_tx⟩
end SA
