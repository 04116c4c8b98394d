/-! ===== the class: events ===== -/
theorem xor_pos {a b : Int32} (ha : 0 ≤ a.toInt) (hb : 0 ≤ b.toInt) : 0 ≤ (a ^^^ b).toInt := by
  have ha' : ¬ a < 0 := fun z => by
    have z2 : a.toInt < (0 : Int32).toInt := (fa_lt a 0).mp z
    rw [show (0 : Int32).toInt = 0 by decide] at z2
    exact absurd ha (Int.not_le.mpr z2)
  have hb' : ¬ b < 0 := fun z => by
    have z2 : b.toInt < (0 : Int32).toInt := (fa_lt b 0).mp z
    rw [show (0 : Int32).toInt = 0 by decide] at z2
    exact absurd hb (Int.not_le.mpr z2)
  obtain ⟨x, hx, rfl⟩ := nI_of ha'
  obtain ⟨y, hy, rfl⟩ := nI_of hb'
  rw [fb_xorI, nI_toInt (Nat.xor_lt_two_pow hx hy)]
  exact Int.natCast_nonneg _
theorem fir_zero {S : dC} (I : SI S) {s : Nat} {before fresh after tick : Int} {M : dM} : fir S s before fresh after 0 tick M = M := by
  unfold fir
  have : ∀ n : Nat, fiC S (bw S M s 0) s before fresh after tick n M = M := fun n => by
    induction n with
    | zero => rfl
    | succ n ih =>
      unfold fiC
      have e : bw S M s 0 n = 0 := bl_z S M 4 _ n (Int.le_refl 0)
      rw [if_neg fun z => by have := z.1; omega]
      exact ih
  exact this _
theorem crs_reach {z before fresh after again : Int} (hz : 0 ≤ z ∧ z < 1000000) (hb : 0 ≤ before) (hf : fresh = 0 ∨ fresh = 1) {last : Int} (hl : last = if again = 0 then z else after - (after - z) % 1000000) : crs z before fresh after again ↔ (z ≤ after ∧ (before < last ∨ (fresh ≠ 0 ∧ last = before))) := by
  unfold crs lea cyc
  by_cases ha : again = 0
  · rw [if_pos ha] at hl
    rcases hf with h | h
    · rw [if_pos h, if_neg (fun q => q.1 ha)]
      omega
    · rw [if_neg (by omega), if_neg (fun q => q.1 ha)]
      omega
  · rw [if_neg ha] at hl
    rcases hf with h | h
    · rw [if_pos h]
      by_cases q : z < before + 1
      · rw [if_pos ⟨ha, q⟩]; omega
      · rw [if_neg (fun y => q y.2)]; omega
    · rw [if_neg (show ¬ fresh = 0 by omega)]
      by_cases q : z < before
      · rw [if_pos ⟨ha, q⟩]; omega
      · rw [if_neg (fun y => q y.2)]; omega
/-- what firing may write -/
def Kl (C C' : dC) (k : Nat) : Prop := ∀ j i f : Nat, ¬ ((j = 33 ∧ i = k) ∨ (j = 35 ∧ 4 * k ≤ i ∧ i < 4 * k + 4)) → C' j i f = C j i f
theorem Kl.tr {C C1 C2 : dC} {k : Nat} (a : Kl C C1 k) (b : Kl C1 C2 k) : Kl C C2 k := fun j i f h => (b j i f h).trans (a j i f h)
theorem Kl.rf (C : dC) (k : Nat) : Kl C C k := fun _ _ _ _ => rfl
/-- what a track's firing may write: the blend's weights too -/
def Kf (C C' : dC) (k : Nat) : Prop := ∀ j i f : Nat, ¬ ((j = 33 ∧ i = k) ∨ (j = 35 ∧ 4 * k ≤ i ∧ i < 4 * k + 4) ∨ (j = 37 ∧ i = k)) → C' j i f = C j i f
theorem Kf.tr {C C1 C2 : dC} {k : Nat} (a : Kf C C1 k) (b : Kf C1 C2 k) : Kf C C2 k := fun j i f h => (b j i f h).trans (a j i f h)
theorem Kf.rf (C : dC) (k : Nat) : Kf C C k := fun _ _ _ _ => rfl
theorem Kl.w {C C' : dC} {k : Nat} (a : Kl C C' k) : Kf C C' k := fun j i f h => a j i f (fun z => h (z.elim Or.inl (fun y => Or.inr (Or.inl y))))
theorem CP.log {S : dC} {k : Nat} {tq : Int} {M : dM} {C C' : dC} {P : dP} (J : CP S k tq M C P) (hm : M 21 ≤ 24) {tick id c s : Int} (ev : 0 ≤ M 166 ∧ M 166 ≤ 30 ∧ (M 288 ≤ 30 → M 166 = M 288) ∧ (30 ≤ M 288 → M 166 = 30)) (hf : 0 ≤ M 288) (f : Kl C C' k) (e33 : C' 33 k 1 = M 288 + 1) (e35 : ∀ w g : Nat, w < 4 → C' 35 (4 * k + w) g = if (g : Int) = M 288 % 30 then (if w = 0 then tick else if w = 1 then id else if w = 2 then c else s) else C 35 (4 * k + w) g) : CP S k tq (ntM M tick id c s) C' P := by
  obtain ⟨b1, b2, b3, b4, b5⟩ := ntS_in ⟨ev.1, ev.2.1⟩
  have n288 : ntM M tick id c s 288 = M 288 + 1 := by
    show nt0 (ntS M) tick id c s 288 = _
    rw [nt0_of, if_pos rfl, b5 288 (by omega)]
  have n166 : ntM M tick id c s 166 = ntS M 166 + 1 := by
    show nt0 (ntS M) tick id c s 166 = _
    rw [nt0_of, if_neg (by decide), if_pos rfl]
  have eM : ∀ f, f < 166 → ntM M tick id c s f = M f := fun f hf => by
    show nt0 (ntS M) tick id c s f = _
    rw [nt0_of, if_neg (by omega), if_neg (by omega), if_neg (by omega), if_neg (by omega), if_neg (by omega), if_neg (by omega), b5 f (by omega)]
  -- an entry of the new list
  have en : ∀ e w : Nat, w < 4 → (e : Int) < ntM M tick id c s 166 → ntM M tick id c s (167 + 4 * e + w) = if (e : Int) = ntS M 166 then (if w = 0 then tick else if w = 1 then id else if w = 2 then c else s) else ntS M (167 + 4 * e + w) := fun e w hw he => by
    rw [n166] at he
    show nt0 (ntS M) tick id c s (167 + 4 * e + w) = _
    rw [nt0_of, if_neg (by omega), if_neg (by omega)]
    by_cases z : (e : Int) = ntS M 166
    · rw [if_pos z]
      have ez : (ntS M 166).toNat = e := by omega
      rw [ez]
      have : w = 0 ∨ w = 1 ∨ w = 2 ∨ w = 3 := by omega
      rcases this with rfl | rfl | rfl | rfl
      · rw [if_neg (by omega), if_neg (by omega), if_neg (by omega), if_pos (by omega), if_pos rfl]
      · rw [if_neg (by omega), if_neg (by omega), if_pos (by omega), if_neg (by omega), if_pos rfl]
      · rw [if_neg (by omega), if_pos (by omega), if_neg (by omega), if_neg (by omega), if_pos rfl]
      · rw [if_pos (by omega), if_neg (by omega), if_neg (by omega), if_neg (by omega)]
    · rw [if_neg z, if_neg (by omega), if_neg (by omega), if_neg (by omega), if_neg (by omega)]
  have c' := fun (j i g : Nat) (h : j ≠ 33 ∧ j ≠ 35 ∧ j ≠ 37) => f j i g (by omega)
  refine ⟨fun p hp => by rw [c' 22 k p (by omega), eM p (by omega)]; exact J.va p hp, by rw [c' 21 k 8 (by omega), eM 11 (by omega)]; exact J.cu, by rw [c' 21 k 9 (by omega)]; exact J.tk, by rw [n288]; exact e33, by rw [c' 21 k 6 (by omega), eM 20 (by omega)]; exact J.fz, by rw [eM 8 (by omega)]; exact J.mi, by rw [eM 8 (by omega), eM 9 (by omega), eM 10 (by omega), c' 21 k 5 (by omega)]; exact J.mx, by rw [eM 12 (by omega)]; exact J.sa, by rw [eM 13 (by omega), eM 14 (by omega), eM 15 (by omega), c' 23 k 1 (by omega), c' 23 k 2 (by omega), c' 23 k 3 (by omega)]; exact J.ta, by rw [eM 8 (by omega), eM 16 (by omega), eM 17 (by omega), eM 18 (by omega), eM 19 (by omega), c' 24 k 1 (by omega), c' 24 k 2 (by omega), c' 24 k 3 (by omega)]; exact J.sb, J.frs (fun f h => eM f (by omega)) (fun j i f h => c' j i f (by omega)) hm, fun e w h1 h2 => ?_, by rw [c' 23 k 3 (by omega), c' 23 k 5 (by omega), c' 24 k 3 (by omega), c' 24 k 5 (by omega)]; exact J.bo⟩
  have hn := en e w h2 h1
  rw [n166] at h1
  rw [hn, n166, n288, e35 w _ h2]
  by_cases z : M 166 = 30
  · have s29 := b3 z
    rw [s29]
    by_cases y : (e : Int) = 29
    · rw [if_pos y, if_pos (by omega)]
    · rw [if_neg y, if_neg (by omega)]
      have := J.ev (e + 1) w (by omega) h2
      have em : ntS M (167 + 4 * e + w) = M (167 + 4 * (e + 1) + w) := by
        unfold ntS
        rw [if_pos z, um_n _ _ (by omega)]
        show (if 167 ≤ 167 + 4 * e + w ∧ 167 + 4 * e + w < 283 then M (167 + 4 * e + w + 4) else M (167 + 4 * e + w)) = _
        rw [if_pos (by omega), show 167 + 4 * e + w + 4 = 167 + 4 * (e + 1) + w by omega]
      rw [em, ← this]
      exact congrArg _ (by omega)
  · have s := b4 z
    rw [s]
    have m1 : M 166 = M 288 := ev.2.2.1 (by omega)
    by_cases y : (e : Int) = M 166
    · rw [if_pos y, if_pos (by omega)]
    · rw [if_neg y, if_neg (by omega)]
      have := J.ev e w (by omega) h2
      have em : ntS M (167 + 4 * e + w) = M (167 + 4 * e + w) := by
        unfold ntS
        rw [if_neg z]
      rw [em, ← this]
      exact congrArg _ (by omega)
section CF
variable {h : gH} {A : dA} {N zz : Nat → Nat} {S C C0 : dC} {P P0 : dP} {t0 k : Nat} {tq tb : Int} {M : dM}
theorem c_place {Qn : Int32 → gH → Prop} {v : Int32} {x : Int} (hv : v.toInt = x) (hx : 0 ≤ x) (k0 : ∀ y : Int32, y.toInt = x % 30 → Qn y h) : vX2_placeOf t0 Qn h v := by
  have h30 : (30 : Int32).toInt = 30 := by decide
  have xp : 0 ≤ (v ^^^ 30).toInt := xor_pos (by rw [hv]; exact hx) (by rw [h30]; decide)
  have rg := fb_rng v
  rw [hv] at rg
  have dv : (v / 30).toInt = x / 30 := div_ti hv h30 hx (by decide)
  have b1 : -2147483648 ≤ x / 30 * 30 ∧ x / 30 * 30 < 2147483648 := by clear dv hv; omega
  have b2 : -2147483648 ≤ x - x / 30 * 30 ∧ x - x / 30 * 30 < 2147483648 := by clear dv hv; omega
  have b3 : x - x / 30 * 30 = x % 30 := by clear dv hv; omega
  unfold vX2_placeOf vJ9_floorMod_7cf53 vJ9_floorMod_7cf53_b18
  refine ⟨fun z => absurd z (by decide), fun _ => k0 _ ((sub_ti hv (mul_ti dv h30 b1) b2).trans b3), fun z => absurd ((fa_le _ _).mpr ?_) z⟩
  rw [show (0 : Int32).toInt = 0 by decide]
  exact xp
theorem l_props {K : Option Nat → Prop} (hk : k < 4) (R : D h A N zz C P) (k0 : K (some (A 34 k))) : gr h (A 33 k) 5 0 K := wgrs R (j := 33) hk rfl (show dS 33 k 0 = some (34, k) from rfl) k0
theorem l_row {K : Option Nat → Prop} {v : Int32} {w : Nat} (hk : k < 4) (R : D h A N zz C P) (hv : v.toInt = (w : Int)) (hw : w < 4) (k0 : K (some (A 35 (4 * k + w)))) : lq h 4 (A 34 k) v K := R.lqs (j := 34) hk rfl rfl (Or.inr (Or.inl rfl)) hv (show w < 4 from hw) (show (if w < 4 then some (35, 4 * k + w) else none) = _ from if_pos hw) k0
theorem c_append {Qn : gH → Prop} {v1 v2 v3 v4 : Int32} {tick id c s : Int} (hk : k < 4) (Z : CQ h A N zz S k tq C0 P0 C P M) (hm : M 21 ≤ 24) (ev : 0 ≤ M 166 ∧ M 166 ≤ 30 ∧ (M 288 ≤ 30 → M 166 = M 288) ∧ (30 ≤ M 288 → M 166 = 30)) (hf : 0 ≤ M 288 ∧ M 288 ≤ 1000000000) (h1 : v1.toInt = tick) (h2 : v2.toInt = id) (h3 : v3.toInt = c) (h4 : v4.toInt = s) (k0 : ∀ (h' : gH) (C' : dC), CQ h' A N zz S k tq C0 P0 C' P (ntM M tick id c s) → Kl C C' k → Qn h') : vX2_append t0 Qn h (A 33 k) v1 v2 v3 v4 := by
  obtain ⟨R, K, J, F, G⟩ := Z
  have a33 : ac N 33 k := hk
  have a35 : ∀ w, w < 4 → ac N 35 (4 * k + w) := fun w hw => show 4 * k + w < 16 by omega
  have pb : 0 ≤ M 288 % 30 ∧ M 288 % 30 < 30 := by omega
  have pe : ∀ x3 : Int32, x3.toInt = M 288 % 30 → x3.toInt = (((M 288 % 30).toNat : Nat) : Int) := fun x3 h => by rw [h]; omega
  have hp : (M 288 % 30).toNat < 30 := by omega
  unfold vX2_append
  refine ygi R a33 rfl J.fi (fun x1 hx1 => c_place hx1 hf.1 (fun x3 hx3 => ?_))
  have hx3 := pe x3 hx3
  refine l_props hk R (nn_i (l_row hk R (w := 0) (by decide) (by decide) (nn_i (wsi R (a35 0 (by decide)) rfl hx3 (show _ < 30 from hp) h1 (fun h8 R8 => ?_)))))
  refine l_props hk R8 (nn_i (l_row hk R8 (w := 1) (by decide) (by decide) (nn_i (wsi R8 (a35 1 (by decide)) rfl hx3 (show _ < 30 from hp) h2 (fun h13 R13 => ?_)))))
  refine l_props hk R13 (nn_i (l_row hk R13 (w := 2) (by decide) (by decide) (nn_i (wsi R13 (a35 2 (by decide)) rfl hx3 (show _ < 30 from hp) h3 (fun h18 R18 => ?_)))))
  refine l_props hk R18 (nn_i (l_row hk R18 (w := 3) (by decide) (by decide) (nn_i (wsi R18 (a35 3 (by decide)) rfl hx3 (show _ < 30 from hp) h4 (fun h23 R23 => ?_)))))
  refine ygi R23 a33 rfl (v := M 288) (by rw [up3_ne _ _ (by omega), up3_ne _ _ (by omega), up3_ne _ _ (by omega), up3_ne _ _ (by omega)]; exact J.fi) (fun x24 h24 => ?_)
  refine wpvI R23 a33 rfl (v := M 288 + 1) (add_ti h24 (vl (by decide)) (by omega)) (fun h25 R25 => ?_)
  generalize hpn : (M 288 % 30).toNat = p at *
  have kf : Kl C (up3 (up3 (up3 (up3 (up3 C 35 (4 * k + 0) p tick) 35 (4 * k + 1) p id) 35 (4 * k + 2) p c) 35 (4 * k + 3) p s) 33 k 1 (M 288 + 1)) k := fun j i f hj => by rw [up3_ne _ _ (by omega), up3_ne _ _ (by omega), up3_ne _ _ (by omega), up3_ne _ _ (by omega), up3_ne _ _ (by omega)]
  refine k0 h25 _ ⟨R25, K.fr (fun j i f hj => kf j i f (by omega)) (fun _ _ _ _ => rfl), J.log hm ev hf.1 kf (up3_same _ _ _ _ _) (fun w g hw => ?_), fun j i f hj => (kf j i f (fun z => hj (by unfold mP; omega))).trans (F j i f hj), G⟩ kf
  rw [up3_ne _ _ (by omega)]
  have : w = 0 ∨ w = 1 ∨ w = 2 ∨ w = 3 := by omega
  by_cases gz : (g : Int) = M 288 % 30
  · have gp : g = p := by omega
    rw [if_pos gz, gp]
    rcases this with rfl | rfl | rfl | rfl
    · rw [up3_ne _ _ (by omega), up3_ne _ _ (by omega), up3_ne _ _ (by omega), up3_same, if_pos rfl]
    · rw [up3_ne _ _ (by omega), up3_ne _ _ (by omega), up3_same, if_neg (by decide), if_pos rfl]
    · rw [up3_ne _ _ (by omega), up3_same, if_neg (by decide), if_neg (by decide), if_pos rfl]
    · rw [up3_same, if_neg (by decide), if_neg (by decide), if_neg (by decide)]
  · rw [if_neg gz, up3_ne _ _ (by omega), up3_ne _ _ (by omega), up3_ne _ _ (by omega), up3_ne _ _ (by omega)]
/-- a track as firing sees it -/
def trF (C : dC) (P : dP) (j k s : Nat) (before fresh after : Int) : Prop := P j k 0 = some (14, s + 1) ∧ (0 ≤ C j k 1 ∧ C j k 1 ≤ 1000000000) ∧ (0 ≤ C j k 2 ∧ C j k 2 ≤ 1000000) ∧ after = C j k 1 * 1000000 + C j k 2 ∧ C j k 4 = before ∧ C j k 5 = fresh
theorem trF.kf {C C' : dC} {P : dP} {j k s : Nat} {before fresh after : Int} (t : trF C P j k s before fresh after) (hj : j = 23 ∨ j = 24) (f : Kf C C' k) : trF C' P j k s before fresh after := by
  obtain ⟨t1, t2, t3, t4, t5, t6⟩ := t
  unfold trF
  rw [f j k 1 (by omega), f j k 2 (by omega), f j k 4 (by omega), f j k 5 (by omega)]
  exact ⟨t1, t2, t3, t4, t5, t6⟩
theorem c_reached {Qn : Int32 → gH → Prop} {v1 : Int64} {j s : Nat} {z before fresh after : Int} (hj : j = 23 ∨ j = 24) (hk : k < 4) (R : D h A N zz C P) (K : KS S N zz C P) (I : SI S) (hs : (s : Int) < S 38 0 19) (t : trF C P j k s before fresh after) (hb : 0 ≤ before) (hf : fresh = 0 ∨ fresh = 1) (h1 : v1.toInt = z) (hz : 0 ≤ z ∧ z < 1000000) (k1 : crs z before fresh after (S 57 0 s) → Qn 1 h) (k0 : ¬ crs z before fresh after (S 57 0 s) → Qn 0 h) : vX8_hasReached t0 Qn h (A j k) v1 := by
  obtain ⟨t1, t2, t3, t4, t5, t6⟩ := t
  have kn := K.nn
  have st := K.st s (by omega)
  have aj : ac N j k := k21 hk j (by omega)
  have e0 : dK j 0 = some (11, 2) := by rcases hj with rfl | rfl <;> rfl
  have e4 : dK j 4 = some (11, 1) := by rcases hj with rfl | rfl <;> rfl
  have e5 : dK j 5 = some (11, 0) := by rcases hj with rfl | rfl <;> rfl
  have e11 : dK1 j = 11 := by rcases hj with rfl | rfl <;> rfl
  have ab : 0 ≤ after ∧ after ≤ 2000000000000000 := by omega
  have b36 : ∀ (s0 : Int64) (last : Int), s0.toInt = last → (last = if S 57 0 s = 0 then z else after - (after - z) % 1000000) → z ≤ after → vX8_hasReached_b36 t0 Qn h (A j k) s0 := fun s0 last h0 hl hza => by
    have cr := crs_reach (z := z) (before := before) (fresh := fresh) (after := after) (again := S 57 0 s) hz hb hf hl
    clear hl t2 t3 t4
    unfold vX8_hasReached_b36 vX8_hasReached_b65 vX8_hasReached_b69 vX8_hasReached_b70
    refine ygl R aj e4 t5 (fun x1 hx1 => clt64 hx1 h0 (fun y => ⟨gZ_of (by decide), k1 (cr.mpr ⟨hza, Or.inl y⟩)⟩) (fun y => ?_))
    refine ygi R aj e5 t6 (fun x2 hx2 => ceq32 hx2 (vl (by decide)) (fun w => ⟨gZ_of (by decide), k0 (fun q => ?_)⟩) (fun w => ?_))
    · rcases (cr.mp q).2 with q | q
      · exact y q
      · exact q.1 w
    · refine ygl R aj e4 t5 (fun x3 hx3 => cne64 h0 hx3 (fun u => ⟨gZ_of (by decide), k0 (fun q => ?_)⟩) (fun u => ⟨gZ_of (by decide), k1 (cr.mpr ⟨hza, Or.inr ⟨w, u⟩⟩)⟩))
      rcases (cr.mp q).2 with q | q
      · exact y q
      · exact u q.2
  have no : ¬ z ≤ after → ¬ crs z before fresh after (S 57 0 s) := fun y q => y ((crs_reach hz hb hf rfl).mp q).1
  have bd1 : -9223372036854775808 ≤ after - z ∧ after - z < 9223372036854775808 := by clear t4; omega
  have bd2 : z ≤ after → 0 ≤ after - z := fun _ => by omega
  have bd3 : z ≤ after → -9223372036854775808 ≤ (after - z) / 1000000 * 1000000 ∧ (after - z) / 1000000 * 1000000 < 9223372036854775808 := fun _ => by clear t4; omega
  have bd4 : z ≤ after → -9223372036854775808 ≤ after - z - (after - z) / 1000000 * 1000000 ∧ after - z - (after - z) / 1000000 * 1000000 < 9223372036854775808 := fun _ => by clear t4; omega
  have bd5 : z ≤ after → -9223372036854775808 ≤ after - (after - z - (after - z) / 1000000 * 1000000) ∧ after - (after - z - (after - z) / 1000000 * 1000000) < 9223372036854775808 := fun _ => by clear t4; omega
  have bd6 : after - (after - z - (after - z) / 1000000 * 1000000) = after - (after - z) % 1000000 := by clear t4; omega
  unfold vX8_hasReached
  refine wio R aj e11 (by decide) (c_prog hj hk R rfl rfl t2 t3 (fun x2 hx2 => ?_))
  rw [← t4] at hx2
  refine cle64 h1 hx2 (fun y => ?_) (fun y => k0 (no y))
  refine ygr R aj e0 t1 (nn_i (ygi R (st_in K hs) rfl st.2.2.2.1 (fun x5 hx5 => ceq32 hx5 (vl (by decide)) (fun w => ?_) (fun w => ?_))))
  · exact b36 v1 z h1 (by rw [if_pos w]) y
  · refine ⟨ne_ti ⟨vlL (by decide), by decide⟩, b36 _ _ ?_ (if_neg w).symm y⟩
    exact (subL_ti hx2 (subL_ti (subL_ti hx2 h1 bd1) (mulL_ti (divL_ti (subL_ti hx2 h1 bd1) (vlL (by decide)) (bd2 y) (by decide)) (vlL (by decide)) (bd3 y)) (bd4 y)) (bd5 y)).trans bd6
theorem c_fireClip {Qn : gH → Prop} {j s c : Nat} {before fresh after n : Int} {M0 : dM} (hj : j = 23 ∨ j = 24) (hk : k < 4) (I : SI S) (hs : (s : Int) < S 38 0 19) (hc : (c : Int) < S 38 0 8) (Z : CQ h A N zz S k tq C0 P0 C P M) (t : trF C P j k s before fresh after) (hb : 0 ≤ before) (hf : fresh = 0 ∨ fresh = 1) (hm : M 21 ≤ 24) (hev : evI M0 n M) (hn : M0 288 + n + 5 ≤ 1000000000) (hm0 : M0 21 ≤ 24) (k0 : ∀ (h' : gH) (C' : dC), CQ h' A N zz S k tq C0 P0 C' P (fiK S s before fresh after tq c (S 45 0 c).toNat M) → Kl C C' k → Qn h') : vX3_fireClip t0 Qn h (A 21 k) (some (A j k)) (some (A 9 (c + 1))) := by
  have i0 := I.nc
  have i2 := I.em c (by omega)
  have i5 := I.cl c hc
  have e0 : dK j 0 = some (11, 2) := by rcases hj with rfl | rfl <;> rfl
  have e11 : dK1 j = 11 := by rcases hj with rfl | rfl <;> rfl
  have aj : ac N j k := k21 hk j (by omega)
  have am : ac N 21 k := hk
  have lp : ∀ (m i : Nat) (h' : gH) (C' : dC) (v3 : Int32), CQ h' A N zz S k tq C0 P0 C' P (fiK S s before fresh after tq c i M) → Kl C C' k → v3.toInt = (i : Int) → i + m = (S 45 0 c).toNat → vX3_fireClip_b10 t0 Qn (m + 1) h' (A 21 k) (some (A j k)) (some (A 9 (c + 1))) v3 := by
    intro m
    induction m with
    | zero =>
      intro i h' C' v3 Z' f' h3 him
      have him : i = (S 45 0 c).toNat := by omega
      subst him
      have K := Z'.2.1
      have kn := K.nn
      have kc := K.cl c (by omega)
      show vX3_fireClip_b10_o t0 (vX3_fireClip_b10 t0 Qn 0) Qn _ _ _ _ _
      unfold vX3_fireClip_b10_o vX3_fireClip_b85
      exact nn_i (ygi Z'.1 (cl_in K hc) rfl kc.2.2 (fun x hx => cle32 hx h3 (fun _ => k0 h' C' Z' f') (fun z => by omega)))
    | succ m ih =>
      intro i h' C' v3 Z' f' h3 him
      obtain ⟨R, K, J, F, G⟩ := id Z'
      have kn := K.nn
      have kc := K.cl c (by omega)
      have ke := K.ce c i (by omega) (by omega)
      have et := I.et c i hc (by omega)
      have st := K.st s (by omega)
      have tf := t.kf hj f'.w
      have ev := evI_fiK (S := S) (s := s) (c := c) (before := before) (fresh := fresh) (after := after) (tick := tq) hev i
      have e : fiK S s before fresh after tq c (i + 1) M = if crs (zOf S c i) before fresh after (S 57 0 s) then ntM (fiK S s before fresh after tq c i M) tq (S 47 0 (5 * c + i)) c s else fiK S s before fresh after tq c i M := rfl
      have h31 : (v3 + 1).toInt = ((i + 1 : Nat) : Int) := ix_add h3 (ix_lit (by decide)) (by omega)
      have hz : 0 ≤ zOf S c i ∧ zOf S c i < 1000000 := by
        unfold zOf
        exact ⟨Int.ediv_nonneg (by omega) (by omega), Int.ediv_lt_of_lt_mul (by omega) (by omega)⟩
      have m21 : fiK S s before fresh after tq c i M 21 = M0 21 := ev.2.2 21 (by omega)
      have a10 : ac N 10 (c + 1) := cl_in K hc
      have a11 : ac N 11 (c + 1) := cl_in K hc
      have zz0 : zOf S c i = S 46 0 (5 * c + i) * 1000000 / S 44 0 c := rfl
      have ih := fun h C => ih (i + 1) h C (v3 + 1)
      rw [e] at ih
      show vX3_fireClip_b10_o t0 (vX3_fireClip_b10 t0 Qn (m + 1)) Qn _ _ _ _ _
      unfold vX3_fireClip_b10_o vX3_fireClip_b79
      refine nn_i (ygi R (cl_in K hc) rfl kc.2.2 (fun x hx => cle32 hx h3 (fun z => by omega) (fun _ => cle32 (vl (by decide)) h3 (fun z => by omega) (fun _ => ?_))))
      refine wgrs R (cl_in K hc) rfl (show dS 9 (c + 1) 2 = some (10, c + 1) from rfl) (nn_i (yli R a10 rfl h3 (show i < 5 by omega) ke.1 (fun x5 h5 => ?_)))
      refine ygi R (cl_in K hc) rfl kc.2.1 (fun x6 h6 => ⟨ne_ti ⟨wid_ti h6, by omega⟩, nn_i (wio R aj e11 (by decide) ?_)⟩)
      refine c_reached hj hk R K I hs tf hb hf (z := zOf S c i) (divL_ti (mulL_ti (wid_ti h5) (vlL (by decide)) (by omega)) (wid_ti h6) (by omega) (by omega)) hz (fun q => ?_) (fun q => ?_)
      · rw [if_pos q] at ih
        refine ⟨fun z => absurd z (by decide), fun _ => m_log hk R (ygi R am rfl J.tk (fun x11 h11 => ?_))⟩
        refine wgrs R (cl_in K hc) rfl (show dS 9 (c + 1) 3 = some (11, c + 1) from rfl) (nn_i (yli R a11 rfl h3 (show i < 5 by omega) ke.2 (fun x14 h14 => ?_)))
        refine ygi R (cl_in K hc) rfl kc.1 (fun x15 h15 => ygr R aj e0 tf.1 (nn_i (ygi R (st_in K hs) rfl st.1 (fun x18 h18 => nn_i (ioj (j := 33) (by decide) hk R rfl (by decide) ?_)))))
        exact c_append hk Z' (by omega) ev.1 (by have := ev.2.1; omega) h11 h14 h15 h18 (fun h20 C20 Z20 f20 => ih h20 C20 Z20 (f'.tr f20) h31 (by omega))
      · rw [if_neg q] at ih
        exact ⟨fun _ => ih h' C' Z' f' h31 (by omega), fun z => absurd rfl z⟩
  have K := Z.2.1
  have kn := K.nn
  have kc := K.cl c (by omega)
  unfold vX3_fireClip
  refine nn_i (ygi Z.1 (cl_in K hc) rfl kc.2.1 (fun x2 h2 => clt32 (vl (by decide)) h2 (fun _ => ?_) (fun z => by omega)))
  exact ⟨(S 45 0 c).toNat + 1, lp (S 45 0 c).toNat 0 h C 0 Z (Kl.rf C k) (by decide) (by omega)⟩
theorem c_fireTrack {Qn : gH → Prop} {v2 : Int32} {j s : Nat} {before fresh after share n : Int} {M0 : dM} (hj : j = 23 ∨ j = 24) (hk : k < 4) (I : SI S) (hs : (s : Int) < S 38 0 19) (Z : CQ h A N zz S k tq C0 P0 C P M) (hVb : ∀ p : Nat, p < 8 → -100 ≤ M p ∧ M p ≤ 100) (t : trF C P j k s before fresh after) (hb : 0 ≤ before) (hf : fresh = 0 ∨ fresh = 1) (h2 : v2.toInt = share) (hw : 0 ≤ share ∧ share ≤ 1000000) (hev : evI M0 n M) (hn : M0 288 + n + 100 ≤ 1000000000) (hm0 : M0 21 ≤ 24) (k0 : ∀ (h' : gH) (C' : dC), CQ h' A N zz S k tq C0 P0 C' P (fir S s before fresh after share tq M) → Kf C C' k → Qn h') : vX3_fireTrack t0 Qn h (A 21 k) (some (A j k)) v2 := by
  obtain ⟨R, K, J, F, G⟩ := id Z
  have kn := K.nn
  have i0 := I.nc
  have ith := I.th
  have mo := I.mo s hs
  have mc := I.mc s hs
  have st := K.st s (by omega)
  have e0 : dK j 0 = some (11, 2) := by rcases hj with rfl | rfl <;> rfl
  have aj : ac N j k := k21 hk j (by omega)
  have am : ac N 21 k := hk
  have hnc : ((nC S : Nat) : Int) = S 38 0 8 := by unfold nC; omega
  unfold vX3_fireTrack
  refine m_bld hk R (nn_i (ygr R aj e0 t.1 (nn_i (ygr R (st_in K hs) rfl st.2.1 (m_val hk R (nn_i (ioj (j := 36) (by decide) hk R rfl (by decide) ?_)))))))
  refine c_fill hk I hVb R K J.va (by omega) mc h2 hw (fun h1 C1 R1 B1 e1 => ?_)
  have Z1 := Z.gar R1 (fun j i f hj => B1 j i f (by omega))
  have f1 : Kf C C1 k := fun j i f hj => B1 j i f (by omega)
  have lp : ∀ (m c : Nat) (h' : gH) (C' : dC) (v3 : Int32), CQ h' A N zz S k tq C0 P0 C' P (fiC S (bw S M s share) s before fresh after tq c M) → Kl C1 C' k → (∀ c : Nat, c < 12 → C' 37 k c = bw S M s share c) → v3.toInt = (c : Int) → c + m = nC S → vX3_fireTrack_b21 t0 Qn (m + 1) h' (A 21 k) (some (A j k)) v3 := by
    intro m
    induction m with
    | zero =>
      intro c h' C' v3 Z' f' e' h3 hm
      have hm : c = nC S := by omega
      subst hm
      have sz' := Z'.2.1.sz
      have R' := Z'.1
      show vX3_fireTrack_b21_o t0 (vX3_fireTrack_b21 t0 Qn 0) Qn _ _ _ _
      unfold vX3_fireTrack_b21_o
      refine m_mod hk R' (nn_i (m_cls R' (nn_i (wio R' (j := 6) (i := 0) (Nat.zero_lt_succ _) rfl (by decide) (ysize R' (Nat.zero_lt_succ _) (fun x6 h6 => ?_))))))
      exact cle32 h6 h3 (fun _ => k0 h' C' Z' (f1.tr f'.w)) (fun z => by omega)
    | succ m ih =>
      intro c h' C' v3 Z' f' e' h3 hm
      obtain ⟨R', K', J', F', G'⟩ := id Z'
      have sz' := K'.sz
      have kn' := K'.nn
      have b := bw_in I M (s := s) (w := share) c hs hw.1
      have e : fiC S (bw S M s share) s before fresh after tq (c + 1) M = if hrd S (bw S M s share c) then fiK S s before fresh after tq c (S 45 0 c).toNat (fiC S (bw S M s share) s before fresh after tq c M) else fiC S (bw S M s share) s before fresh after tq c M := rfl
      have ev := evI_fiC I (T := bw S M s share) (s := s) (before := before) (fresh := fresh) (after := after) (tick := tq) hev c (by omega)
      have h31 : (v3 + 1).toInt = ((c + 1 : Nat) : Int) := ix_add h3 (ix_lit (by decide)) (by omega)
      have ih := fun h C => ih (c + 1) h C (v3 + 1)
      rw [e] at ih
      have m21 : fiC S (bw S M s share) s before fresh after tq c M 21 = M0 21 := ev.2.2 21 (by omega)
      have cc : (c : Int) < S 38 0 8 := by omega
      have skip : ¬ hrd S (bw S M s share c) → vX3_fireTrack_b94 t0 (vX3_fireTrack_b21 t0 Qn (m + 1)) Qn h' (A 21 k) (some (A j k)) v3 := fun q => by
        rw [if_neg q] at ih
        unfold vX3_fireTrack_b94
        exact ih h' C' Z' f' e' h31 (by omega)
      show vX3_fireTrack_b21_o t0 (vX3_fireTrack_b21 t0 Qn (m + 1)) Qn _ _ _ _
      unfold vX3_fireTrack_b21_o
      refine m_mod hk R' (nn_i (m_cls R' (nn_i (wio R' (j := 6) (i := 0) (Nat.zero_lt_succ _) rfl (by decide) (ysize R' (Nat.zero_lt_succ _) (fun x6 h6 => ?_))))))
      refine cle32 h6 h3 (fun z => by omega) (fun _ => m_bld hk R' (nn_i (ioj (j := 36) (by decide) hk R' rfl (by decide) ?_)))
      refine c_weight hk R' h3 (by omega) (e' c (by omega)) (fun x10 h10 => ?_)
      refine ceq64 (wid_ti h10) (vlL (by decide)) (fun z => skip (fun q => by have := q.1; omega)) (fun z => m_mod hk R' (nn_i (ygi R' a40 rfl K'.th (fun x13 h13 => ?_))))
      refine clt64 (mulL_ti (wid_ti h10) (vlL (by decide)) (by omega)) (mulL_ti (wid_ti h13) (vlL (by decide)) (by omega)) (fun y => skip (fun q => by have := q.2; omega)) (fun y => m_mod hk R' (nn_i (m_cls R' (nn_i (wio R' (j := 6) (i := 0) (Nat.zero_lt_succ _) rfl (by decide) ?_)))))
      rw [if_pos ⟨by omega, by omega⟩] at ih
      refine yget R' K' (Nat.zero_lt_succ _) h3 (by omega) (fun a ha => K'.e0 a c ha (by omega)) (nn_i (wio R' (cl_in K' cc) rfl (by decide) (iom hk R' ?_)))
      unfold vX3_fireTrack_b94
      refine c_fireClip hj hk I hs cc Z' (t.kf hj (f1.tr f'.w)) hb hf (by omega) ev (by omega) hm0 (fun h21 C21 Z21 f21 => ih h21 C21 Z21 (f'.tr f21) (fun c hc => ?_) h31 (by omega))
      exact (f21 37 k c (by omega)).trans (e' c hc)
  exact ⟨nC S + 1, lp (nC S) 0 h1 C1 0 Z1 (Kl.rf C1 k) e1 (by decide) (by omega)⟩
end CF
