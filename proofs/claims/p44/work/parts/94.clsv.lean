/-! ===== the class: images, counts, values, reset ===== -/
section CV
variable {h : gH} {A : dA} {N zz : Nat → Nat} {S C C0 : dC} {P P0 : dP} {t0 k : Nat} {tq tb : Int} {M : dM}
theorem m_tks {K : Int32 → Prop} (hk : k < 4) (R : D h A N zz C P) (J : CP S k tq M C P) (k0 : ∀ x : Int32, x.toInt = tq → K x) : gi h (A 21 k) 6 9 K := ygi R (show ac N 21 k from hk) rfl J.tk k0
theorem KS.c2 {s : Nat} {v : Int} (K : KS S N zz C P) : KS S N zz (up3 C 2 0 s v) P := by
  unfold KS KS0 at *
  exact K
theorem q_keep {Qn : Int32 → gH → Prop} {Qx : String → gH → Prop} {v : Int32} (R : D h A N zz C P) (K : KS S N zz C P) (JC : CP S 0 tq M C P) (hm : M 21 ≤ 24) (h20 : M 20 = 0 ∨ M 20 = 1) (kx : v.toInt < 0 ∨ 2 ≤ v.toInt → Qx "java/lang/IllegalArgumentException" h) (ky : 0 ≤ v.toInt → v.toInt < 2 → S 38 0 19 = 0 → Qx "java/lang/IllegalStateException" h) (k0 : 0 ≤ v.toInt → v.toInt < 2 → 0 < S 38 0 19 → ∀ (x : Int32) (h' : gH) (C' : dC) (P' : dP), D h' A N zz C' P' → KS S N zz C' P' → CP S (v.toInt.toNat + 1) tq M C' P' → (∀ j i f : Nat, ¬ mP (v.toInt.toNat + 1) j i → ¬ (j = 2 ∧ i = 0 ∧ f = v.toInt.toNat) → C' j i f = C j i f) → FmP (v.toInt.toNat + 1) P P' → C' 2 0 v.toInt.toNat = 1 → x.toInt = tq → Qn x h') : vX11_keep t0 Qn Qx h (A 0 0) v := by
  unfold vX11_keep
  refine i00 R (q_slot kx (fun s hv hs => i00 R (q_states R K (ky (by omega) (by omega)) (fun c => ?_))))
  have k0 := k0 (by omega) (by omega) c
  have e : v.toInt.toNat = s := by omega
  rw [e] at k0
  have a1 : ac N 1 0 := ⟨Nat.one_pos, by decide⟩
  have a2 : ac N 2 0 := ⟨Nat.one_pos, by decide⟩
  have ds : dS 1 0 s = some (21, s + 1) := by
    have : s = 0 ∨ s = 1 := by omega
    rcases this with rfl | rfl <;> rfl
  refine g_img R (nn_i (R.lqs (j := 1) a1 rfl rfl (Or.inr (Or.inr rfl)) hv (show s < 2 from hs) ds (g_mac R (nn_i (iom (by omega) R ?_)))))
  refine c_mcopy (k := s + 1) (k' := 0) (by omega) (by decide) (by omega) R K JC hm h20 (fun h8 C8 P8 Z8 => ?_)
  refine g_kpt Z8.1 (nn_i (wsz Z8.1 a2 rfl (m := s) (v := 1) hv (show s < 2 from hs) (vl (by decide)) (Or.inr rfl) (fun h11 R11 => ?_)))
  have J8 : CP S 0 tq M C8 P8 := JC.keep (fun j i f hj => Z8.2.2.2.1 j i f (fun z => by
    obtain ⟨z1, z2, z3, z4⟩ := z
    by_cases q : j = 35
    · have := z3 q; omega
    · have := z4 q; omega)) (fun j f hj => Z8.2.2.2.2 j 0 f (fun z => by have := z.2.2.2 (by omega); omega))
  have J11 : CP S 0 tq M (up3 C8 2 0 s 1) P8 := J8.keep (fun j i f hj => up3_ne _ _ (by omega)) (fun _ _ _ => rfl)
  refine g_mac R11 (nn_i (m_tks (by decide) R11 J11 (fun x hx => k0 x h11 _ P8 R11 (Z8.2.1.c2 (s := s)) (Z8.2.2.1.keep (fun j i f hj => up3_ne _ _ (by omega)) (fun _ _ _ => rfl)) (fun j i f h1 h2 => (up3_ne _ _ (by omega)).trans (Z8.2.2.2.1 j i f h1)) Z8.2.2.2.2 (up3_same _ _ _ _ _) hx)))
theorem q_restore {Qn : Int32 → gH → Prop} {Qx : String → gH → Prop} {v : Int32} {tqs : Nat → Int} {Ms : Nat → dM} (R : D h A N zz C P) (K : KS S N zz C P) (hb : ∀ s : Nat, s < 2 → C 2 0 s = 0 ∨ C 2 0 s = 1) (JC : ∀ s : Nat, s < 2 → C 2 0 s = 1 → CP S (s + 1) (tqs s) (Ms s) C P ∧ Ms s 21 ≤ 24 ∧ (Ms s 20 = 0 ∨ Ms s 20 = 1)) (kx : v.toInt < 0 ∨ 2 ≤ v.toInt → Qx "java/lang/IllegalArgumentException" h) (ky : 0 ≤ v.toInt → v.toInt < 2 → C 2 0 v.toInt.toNat = 0 → Qx "java/lang/IllegalStateException" h) (k0 : 0 ≤ v.toInt → v.toInt < 2 → C 2 0 v.toInt.toNat = 1 → ∀ (x : Int32) (h' : gH) (C' : dC) (P' : dP), CQ h' A N zz S 0 (tqs v.toInt.toNat) C P C' P' (Ms v.toInt.toNat) → x.toInt = tqs v.toInt.toNat → Qn x h') : vX11_restore t0 Qn Qx h (A 0 0) v := by
  unfold vX11_restore
  refine i00 R (q_slot kx (fun s hv hs => ?_))
  have ky := ky (by omega) (by omega)
  have k0 := k0 (by omega) (by omega)
  have e : v.toInt.toNat = s := by omega
  rw [e] at k0 ky
  have a1 : ac N 1 0 := ⟨Nat.one_pos, by decide⟩
  have a2 : ac N 2 0 := ⟨Nat.one_pos, by decide⟩
  have ds : dS 1 0 s = some (21, s + 1) := by
    have : s = 0 ∨ s = 1 := by omega
    rcases this with rfl | rfl <;> rfl
  have hb := hb s hs
  refine g_kpt R (nn_i (wlz R a2 rfl (m := s) hv (show s < 2 from hs) (fun x4 h4 => cne32 h4 (vl (by decide)) (fun z => ?_) (fun z => ky z))))
  obtain ⟨J, hm, h20⟩ := JC s hs (by omega)
  refine g_mac R (g_img R (nn_i (R.lqs (j := 1) a1 rfl rfl (Or.inr (Or.inr rfl)) hv (show s < 2 from hs) ds (nn_i (iom (by decide) R ?_)))))
  refine c_mcopy (k := 0) (k' := s + 1) (by decide) (by omega) (by omega) R K J hm h20 (fun h8 C8 P8 Z8 => ?_)
  exact g_mac Z8.1 (nn_i (m_tks (by decide) Z8.1 Z8.2.2.1 (fun x hx => k0 (by omega) x h8 C8 P8 Z8 hx)))
theorem q_count {Qn : Int32 → gH → Prop} {Qx : String → gH → Prop} {v : Int32} (Z : CQ h A N zz S 0 tq C0 P0 C P M) (J : MI S tb M) (kx : v.toInt < 0 ∨ 7 < v.toInt → Qx "java/lang/IllegalArgumentException" h) (k0 : 0 ≤ v.toInt → v.toInt ≤ 7 → ∀ x : Int32, x.toInt = (if v.toInt = 0 then S 38 0 3 else if v.toInt = 1 then S 38 0 8 else if v.toInt = 2 then S 38 0 14 else if v.toInt = 3 then S 38 0 19 else if v.toInt = 4 then S 38 0 21 else if v.toInt = 5 then tq else if v.toInt = 6 then M 166 else S 38 0 24) → Qn x h) : vX11_count t0 Qn Qx h (A 0 0) v := by
  obtain ⟨R, K, JC, F, G⟩ := Z
  have sz := K.sz
  have tx := K.tx
  unfold vX11_count
  have sze : ∀ {i : Nat} {K1 : Prop}, i < 5 → (K1 → io h (A 6 i) 2 K1) := fun hi kk => wio R (j := 6) (show _ < N 1 + 5 by omega) rfl (by decide) kk
  refine ⟨fun z => g_mdl R (nn_i (ygi R a40 rfl K.np (fun x hx => k0 (by omega) (by omega) x (by rw [if_pos z]; exact hx)))), fun z => g_mdl R (nn_i (m_cls R (nn_i (sze (by decide) (ysize R (show 0 < N 1 + 5 by omega) (fun x hx => k0 (by omega) (by omega) x (by rw [z]; exact hx.trans sz.1))))))), fun z => g_mdl R (nn_i (m_nds R (nn_i (sze (by decide) (ysize R (show 1 < N 1 + 5 by omega) (fun x hx => k0 (by omega) (by omega) x (by rw [z]; exact hx.trans sz.2.1))))))), fun z => g_mdl R (nn_i (m_sts R (nn_i (sze (by decide) (ysize R (show 2 < N 1 + 5 by omega) (fun x hx => k0 (by omega) (by omega) x (by rw [z]; exact hx.trans sz.2.2.1))))))), fun z => g_mdl R (nn_i (m_trs R (nn_i (sze (by decide) (ysize R (show 3 < N 1 + 5 by omega) (fun x hx => k0 (by omega) (by omega) x (by rw [z]; exact hx.trans sz.2.2.2))))))), fun z => g_mac R (nn_i (m_tks (by decide) R JC (fun x hx => k0 (by omega) (by omega) x (by rw [z]; exact hx)))), fun z => g_mac R (nn_i (m_log (by decide) R (nn_i (ioj (j := 33) (by decide) (by decide) R rfl (by decide) (c_kept (by decide) R JC J.ev (fun x hx => k0 (by omega) (by omega) x (by rw [z]; exact hx))))))), fun z => g_txt R (nn_i (ygi R ⟨Nat.one_pos, by decide⟩ rfl tx.1 (fun x hx => k0 (by omega) (by omega) x (by rw [z]; exact hx)))), fun z => kx z⟩
end CV
