/-! ===== calls that add, over the world of a machine at its start ===== -/
theorem MI_rs0 {S : dC} : MI S 0 rsM :=
  ⟨fun p hp => by have e : rsM p = 0 := if_neg (by omega); rw [e]; decide, Or.inl rfl, by decide, ⟨by decide, fun z => z, fun z => ⟨rfl, rfl⟩⟩, by decide, fun _ => rfl, Or.inr rfl, Or.inl rfl, fun _ => ⟨rfl, rfl, rfl⟩, fun z => absurd z (by decide), fun z => absurd z (by decide), fun z => absurd z (by decide), fun z => absurd z (by decide), fun z => absurd z (by decide), fun z => absurd z (by decide), by decide, fun k hk => by have hk : (k : Int) < 0 := hk; exfalso; omega, fun z => absurd z (by decide), by decide, by decide, by decide⟩
def WB (t0 x ea : Nat) (S : dC) (E : Nat → Int) (h : gH) : Prop := WD t0 x ea S rsM (fun _ => none) E h
theorem CP.nsx {S S' : dC} {k : Nat} {tq : Int} {M : dM} {C : dC} {P : dP} (J : CP S k tq M C P) (h : 0 < S' 38 0 19 → 0 < S 38 0 19) : CP S' k tq M C P := ⟨J.va, J.cu, J.tk, J.fi, J.fz, J.mi, J.mx, fun z => J.sa (h z), ⟨J.ta.1, J.ta.2.1, fun z => J.ta.2.2 (h z)⟩, J.sb, J.fr, J.ev, J.bo⟩
theorem a80x {N : Nat → Nat} : ac N 8 0 := ⟨Nat.one_pos, by decide⟩
theorem a90x {N : Nat → Nat} : ac N 90 0 := ⟨Nat.one_pos, by decide⟩
section ADX
variable {h h' : gH} {A A1 : dA} {N zz N1 zz1 : Nat → Nat} {S S' C C1 : dC} {P P1 : dP} {E : Nat → Int} {t0 x ea : Nat}
variable {Qn : Int32 → gH → Prop} {Qx : String → gH → Prop} {v w u : Int32}
theorem WB.add (a : A 8 0 = t0 ∧ A 0 0 = x ∧ A 90 0 = ea) (e : ∀ f, C 90 0 f = E f) (sl : ∀ s : Nat, s < 2 → IMG S s none C P) (J : CP S 0 (rsM 287) rsM C P) (eA : ∀ j i, ac N j i → A1 j i = A j i) (R1 : D h' A1 N1 zz1 C1 P1) (K1 : KS S' N1 zz1 C1 P1) (f1 : ∀ j i f : Nat, 21 ≤ j → C1 j i f = C j i f) (p1 : ∀ j i f : Nat, 21 ≤ j → P1 j i f = P j i f) (f2 : ∀ s, C1 2 0 s = C 2 0 s) (hn : S' 38 0 19 = S 38 0 19) : WB t0 x ea S' E h' :=
  ⟨A1, N1, zz1, C1, P1, ⟨(eA 8 0 a80x).trans a.1, (eA 0 0 a00).trans a.2.1, (eA 90 0 a90x).trans a.2.2⟩, R1, K1, (J.nsx (fun z => by rw [← hn]; exact z)).keep (fun j i f z => f1 j i f (by omega)) (fun j f z => p1 j 0 f (by omega)), fun f => (f1 90 0 f (by decide)).trans (e f), fun s hs => (f2 s).trans (sl s hs)⟩
theorem w_apar (W : WB t0 x ea S E h) (I : SI S) {n : Nat} (hn : S 38 0 3 = (n : Int)) (h8 : n < 8) (hv : 0 ≤ v.toInt ∧ v.toInt ≤ 2) (k0 : ∀ (y : Int32) (h' : gH) (S' : dC), SI S' → S' 38 0 3 = (n : Int) + 1 → S' 42 0 n = v.toInt → (∀ j f : Nat, ¬ (j = 38 ∧ f = 3 ∨ j = 42 ∧ f = n) → S' j 0 f = S j 0 f) → WB t0 x ea S' E h' → Qn y h') : io h x 14 (vX11_addParameter t0 Qn Qx h x v) := by
  obtain ⟨A, N, zz, C, P, a, R, K, J, e, sl⟩ := W
  rw [← a.1, ← a.2.1]
  refine wio R a00 rfl (by decide) (q_addParameter R K hn (fun z => by exfalso; omega) (fun _ _ z => by exfalso; omega) (fun _ _ _ y h1 R1 hy => ?_))
  have e1 : (up3 (up3 S 42 0 n v.toInt) 38 0 3 ((n : Int) + 1)) 38 0 3 = (n : Int) + 1 := up3_same _ _ _ _ _
  have e2 : (up3 (up3 S 42 0 n v.toInt) 38 0 3 ((n : Int) + 1)) 42 0 n = v.toInt := (up3_ne _ _ (by omega)).trans (up3_same _ _ _ _ _)
  have fS : ∀ j f : Nat, ¬ (j = 38 ∧ f = 3 ∨ j = 42 ∧ f = n) → (up3 (up3 S 42 0 n v.toInt) 38 0 3 ((n : Int) + 1)) j 0 f = S j 0 f := fun j f z => (up3_ne _ _ (by omega)).trans (up3_ne _ _ (by omega))
  exact k0 y h1 _ (SI.apa I hn h8 e1 e2 hv (fun j f _ z => fS j f z)) e1 e2 fS (WB.add (N := N) a e sl J (fun _ _ _ => rfl) R1 (KS.apa K hn e1 e2 (fun j f _ z1 z2 => fS j f (fun y => y.elim z1 z2))) (fun j i f z => (up3_ne _ _ (by omega)).trans (up3_ne _ _ (by omega))) (fun _ _ _ _ => rfl) (fun s => (up3_ne _ _ (by omega)).trans (up3_ne _ _ (by omega))) (fS 38 19 (by omega)))
theorem w_aclip (W : WB t0 x ea S E h) (I : SI S) {n : Nat} (hn : S 38 0 8 = (n : Int)) (h12 : n < 12) (z45 : S 45 0 n = 0) (hv : 1 ≤ v.toInt ∧ v.toInt ≤ 500) (k0 : ∀ (y : Int32) (h' : gH) (S' : dC), SI S' → S' 38 0 8 = (n : Int) + 1 → S' 44 0 n = v.toInt → (∀ j f : Nat, ¬ (j = 38 ∧ f = 8 ∨ j = 44 ∧ f = n) → S' j 0 f = S j 0 f) → WB t0 x ea S' E h' → Qn y h') : io h x 14 (vX11_addClip t0 Qn Qx h x v) := by
  obtain ⟨A, N, zz, C, P, a, R, K, J, e, sl⟩ := W
  rw [← a.1, ← a.2.1]
  refine wio R a00 rfl (by decide) (q_addClip R K rfl hn (fun z => by exfalso; omega) (fun _ _ z => by exfalso; omega) (fun _ _ _ y A1 h1 N1 zz1 C1 P1 a1 eA R1 fN f4 fz fC c6 c9 p6 ha or p7 el fP hy => ?_))
  have e1 : (up3 (up3 S 44 0 n v.toInt) 38 0 8 ((n : Int) + 1)) 38 0 8 = (n : Int) + 1 := up3_same _ _ _ _ _
  have e2 : (up3 (up3 S 44 0 n v.toInt) 38 0 8 ((n : Int) + 1)) 44 0 n = v.toInt := (up3_ne _ _ (by omega)).trans (up3_same _ _ _ _ _)
  have fS : ∀ j f : Nat, ¬ (j = 38 ∧ f = 8 ∨ j = 44 ∧ f = n) → (up3 (up3 S 44 0 n v.toInt) 38 0 8 ((n : Int) + 1)) j 0 f = S j 0 f := fun j f z => (up3_ne _ _ (by omega)).trans (up3_ne _ _ (by omega))
  exact k0 y h1 _ (SI.acl I hn h12 z45 e1 e2 hv (fun j f _ z => fS j f z)) e1 e2 fS (WB.add a e sl J eA R1 (KS.acl (len := v.toInt) K hn z45 fN f4 fz fC c6 c9 p6 ha or p7 el fP e1 e2 (fun j f _ z1 z2 => fS j f (fun y => y.elim z1 z2))) (fun j i f z => fC j i f (by omega) (by omega)) (fun j i f z => fP j i f (by omega) (by omega) (by omega)) (fun s => fC 2 0 s (by omega) (by omega)) (fS 38 19 (by omega)))
/-- an event more -/
def evS (S : dC) (c m : Nat) (t d : Int) : dC := fun j i f => if j = 45 ∧ f = c then (m : Int) + 1 else
  if j = 46 ∧ 5 * c ≤ f ∧ f < 5 * c + m + 1 then insF (fun w => S 46 0 (5 * c + w)) (insK (fun w => S 46 0 (5 * c + w)) t m) t (f - 5 * c) else
  if j = 47 ∧ 5 * c ≤ f ∧ f < 5 * c + m + 1 then insF (fun w => S 47 0 (5 * c + w)) (insK (fun w => S 46 0 (5 * c + w)) t m) d (f - 5 * c) else S j i f
theorem insF_allx {p : Int → Prop} {g : Nat → Int} {k m : Nat} {v : Int} (hg : ∀ w, w < m → p (g w)) (hv : p v) (hk : k ≤ m) : ∀ w, w < m + 1 → p (insF g k v w) := fun w hw => by
  unfold insF
  split
  · exact hg w (by omega)
  · split
    · exact hv
    · exact hg (w - 1) (by omega)
theorem w_aevent (W : WB t0 x ea S E h) (I : SI S) {c m : Nat} (hc : v.toInt = (c : Int)) (hcl : (c : Int) < S 38 0 8) (hm : S 45 0 c = (m : Int)) (h5 : m < 5) (hw : 0 ≤ w.toInt ∧ w.toInt < S 44 0 c) (hu : 0 ≤ u.toInt ∧ u.toInt ≤ 99) (k0 : ∀ (y : Int32) (h' : gH) (S' : dC), SI S' → S' 45 0 c = (m : Int) + 1 → (∀ j f : Nat, ¬ (j = 45 ∧ f = c ∨ (j = 46 ∨ j = 47)) → S' j 0 f = S j 0 f) → WB t0 x ea S' E h' → Qn y h') : io h x 14 (vX11_addEvent t0 Qn Qx h x v w u) := by
  obtain ⟨A, N, zz, C, P, a, R, K, J, e, sl⟩ := W
  rw [← a.1, ← a.2.1]
  have ec : v.toInt.toNat = c := by rw [hc]; rfl
  have n0 : (((N 0 : Nat) : Int)) = S 38 0 8 := K.nn.1
  have nc := I.nc
  refine wio R a00 rfl (by decide) (q_addEvent R K I (fun z => by exfalso; omega) (fun _ _ z => ?_) (fun _ _ _ _ _ _ z => ?_) (fun _ _ _ _ _ _ _ y h1 C1 R1 fC e4 wv hy => ?_))
  · rw [ec] at z; exfalso; omega
  · rw [ec] at z; exfalso; omega
  · rw [ec] at fC e4 wv
    rw [hm] at e4 wv
    rw [Int.toNat_natCast] at wv
    have e1 : evS S c m w.toInt u.toInt 45 0 c = (m : Int) + 1 := if_pos ⟨rfl, rfl⟩
    have s46 : ∀ q : Nat, q < m + 1 → evS S c m w.toInt u.toInt 46 0 (5 * c + q) = insF (fun w => S 46 0 (5 * c + w)) (insK (fun w => S 46 0 (5 * c + w)) w.toInt m) w.toInt q := fun q hq => by
      unfold evS
      rw [if_neg (by omega), if_pos (by omega), Nat.add_sub_cancel_left]
    have s47 : ∀ q : Nat, q < m + 1 → evS S c m w.toInt u.toInt 47 0 (5 * c + q) = insF (fun w => S 47 0 (5 * c + w)) (insK (fun w => S 46 0 (5 * c + w)) w.toInt m) u.toInt q := fun q hq => by
      unfold evS
      rw [if_neg (by omega), if_neg (by omega), if_pos (by omega), Nat.add_sub_cancel_left]
    have fS : ∀ j f : Nat, ¬ (j = 45 ∧ f = c) → ¬ ((j = 46 ∨ j = 47) ∧ 5 * c ≤ f ∧ f < 5 * c + m + 1) → evS S c m w.toInt u.toInt j 0 f = S j 0 f := fun j f z1 z2 => by
      unfold evS
      rw [if_neg z1, if_neg (by omega), if_neg (by omega)]
    have S46 : ∀ k : Nat, k < m + 1 → 0 ≤ evS S c m w.toInt u.toInt 46 0 (5 * c + k) ∧ evS S c m w.toInt u.toInt 46 0 (5 * c + k) < S 44 0 c := fun k hk => by
      rw [s46 k hk]
      exact insF_allx (p := fun v => 0 ≤ v ∧ v < S 44 0 c) (fun w hw => I.et c w hcl (by omega)) hw (insK_le _ _ _) k hk
    exact k0 y h1 _ (SI.aev I hcl hm h5 e1 S46 (fun j f _ z => fS j f (by omega) (by omega))) e1 (fun j f z => fS j f (by omega) (by omega)) (WB.add (N := N) a e sl J (fun _ _ _ => rfl) R1 (KS.eve (t := w.toInt) (d := u.toInt) K (by omega) hm h5 (fun c' z => (I.em c' (by omega)).2) fC e4 wv (fun j f _ z1 z2 => fS j f z1 z2) e1 s46 s47) (fun j i f z => fC j i f (by omega) (by omega)) (fun _ _ _ _ => rfl) (fun s => fC 2 0 s (by omega) (by omega)) (fS 38 19 (by omega) (by omega)))
theorem w_aclipn (W : WB t0 x ea S E h) (I : SI S) {n : Nat} (hn : S 38 0 14 = (n : Int)) (h20 : n < 20) (hv : 0 ≤ v.toInt ∧ v.toInt < S 38 0 8) (k0 : ∀ (y : Int32) (h' : gH) (S' : dC), SI S' → S' 38 0 14 = (n : Int) + 1 → S' 49 0 n = v.toInt → (∀ j f : Nat, ¬ (j = 38 ∧ f = 14 ∨ j = 49 ∧ f = n) → S' j 0 f = S j 0 f) → WB t0 x ea S' E h' → Qn y h') : io h x 14 (vX11_addClipNode t0 Qn Qx h x v) := by
  obtain ⟨A, N, zz, C, P, a, R, K, J, e, sl⟩ := W
  rw [← a.1, ← a.2.1]
  have z51 : S 51 0 n = 0 := I.cmz n (by omega) (Or.inl (by omega))
  refine wio R a00 rfl (by decide) (q_addClipNode R K rfl hn (fun z => by exfalso; omega) (fun _ _ z => by exfalso; omega) (fun _ _ _ y A1 h1 N1 zz1 C1 P1 a1 R1 G hy => ?_))
  obtain ⟨eA, fN, fC, fP, L, c6, p6, q12, c121, c124⟩ := G
  have e1 : (up3 (up3 S 49 0 n v.toInt) 38 0 14 ((n : Int) + 1)) 38 0 14 = (n : Int) + 1 := up3_same _ _ _ _ _
  have e2 : (up3 (up3 S 49 0 n v.toInt) 38 0 14 ((n : Int) + 1)) 49 0 n = v.toInt := (up3_ne _ _ (by omega)).trans (up3_same _ _ _ _ _)
  have fS : ∀ j f : Nat, ¬ (j = 38 ∧ f = 14 ∨ j = 49 ∧ f = n) → (up3 (up3 S 49 0 n v.toInt) 38 0 14 ((n : Int) + 1)) j 0 f = S j 0 f := fun j f z => (up3_ne _ _ (by omega)).trans (up3_ne _ _ (by omega))
  exact k0 y h1 _ (SI.ano I hn h20 e1 (by rw [e2]; omega) (fun z => by rw [e2] at z; omega) (fun j f _ z => fS j f (by omega))) e1 e2 fS (WB.add a e sl J eA R1 (KS.ano K I hn z51 fN fC c6 p6 L fP e1 ⟨fun z => by rw [e2] at z; omega, fun _ => by rw [e2]; exact q12⟩ (fun j f _ z => fS j f (by omega))) (fun j i f z => fC j i f (by omega)) (fun j i f z => fP j i f (by omega)) (fun s => fC 2 0 s (by omega)) (fS 38 19 (by omega)))
theorem w_aline (W : WB t0 x ea S E h) (I : SI S) {n : Nat} (hn : S 38 0 14 = (n : Int)) (h20 : n < 20) (hv : 0 ≤ v.toInt ∧ v.toInt < S 38 0 3) (hk : S 42 0 v.toInt.toNat = 0) (k0 : ∀ (y : Int32) (h' : gH) (S' : dC), SI S' → S' 38 0 14 = (n : Int) + 1 → S' 49 0 n = -1 → (∀ j f : Nat, ¬ (j = 38 ∧ f = 14 ∨ j = 49 ∧ f = n ∨ j = 50 ∧ f = n) → S' j 0 f = S j 0 f) → WB t0 x ea S' E h' → Qn y h') : io h x 14 (vX11_addLine t0 Qn Qx h x v) := by
  obtain ⟨A, N, zz, C, P, a, R, K, J, e, sl⟩ := W
  rw [← a.1, ← a.2.1]
  have z51 : S 51 0 n = 0 := I.cmz n (by omega) (Or.inl (by omega))
  have i3 := I.np
  have i8 := I.nc
  refine wio R a00 rfl (by decide) (q_addLine R K I rfl hn (fun z => by exfalso; omega) (fun _ _ z => by exfalso; omega) (fun _ _ _ _ y A1 h1 N1 zz1 C1 P1 a1 R1 G hy => ?_))
  obtain ⟨eA, fN, fC, fP, L, c6, p6, q12, c121, c124⟩ := G
  have e1 : (up3 (up3 (up3 S 50 0 n v.toInt) 49 0 n (-1)) 38 0 14 ((n : Int) + 1)) 38 0 14 = (n : Int) + 1 := up3_same _ _ _ _ _
  have e2 : (up3 (up3 (up3 S 50 0 n v.toInt) 49 0 n (-1)) 38 0 14 ((n : Int) + 1)) 49 0 n = -1 := (up3_ne _ _ (by omega)).trans (up3_same _ _ _ _ _)
  have e3 : (up3 (up3 (up3 S 50 0 n v.toInt) 49 0 n (-1)) 38 0 14 ((n : Int) + 1)) 50 0 n = v.toInt := (up3_ne _ _ (by omega)).trans ((up3_ne _ _ (by omega)).trans (up3_same _ _ _ _ _))
  have fS : ∀ j f : Nat, ¬ (j = 38 ∧ f = 14 ∨ j = 49 ∧ f = n ∨ j = 50 ∧ f = n) → (up3 (up3 (up3 S 50 0 n v.toInt) 49 0 n (-1)) 38 0 14 ((n : Int) + 1)) j 0 f = S j 0 f := fun j f z => (up3_ne _ _ (by omega)).trans ((up3_ne _ _ (by omega)).trans (up3_ne _ _ (by omega)))
  exact k0 y h1 _ (SI.ano I hn h20 e1 (by rw [e2]; omega) (fun _ => by rw [e3]; omega) (fun j f _ z => fS j f z)) e1 e2 fS (WB.add a e sl J eA R1 (KS.ano K I hn z51 fN fC c6 p6 L fP e1 ⟨fun _ => ⟨q12, by rw [e3]; exact c121⟩, fun z => absurd e2 z⟩ (fun j f _ z => fS j f z)) (fun j i f z => fC j i f (by omega)) (fun j i f z => fP j i f (by omega)) (fun s => fC 2 0 s (by omega)) (fS 38 19 (by omega)))
theorem deep_flat {ln nd : Nat} (I : SI S) (hnd : nd < ln) (a : deep S ln nd) (b : flat S ln nd) : False := by
  obtain ⟨d, d1, n, hn, d2⟩ := a
  obtain ⟨e, e1, e2⟩ := b
  have i1 := I.nn
  have := dInv_one (fun j l hj hl => by have := I.cn j l (by omega) hl; omega) hnd d1 e1 n hn
  have := e2 n hn
  omega
theorem w_achild (W : WB t0 x ea S E h) (I : SI S) {ln nd k : Nat} (hv : v.toInt = (ln : Int)) (hln : (ln : Int) < S 38 0 14) (hw : w.toInt = (nd : Int)) (hnd : nd < ln) (il : S 49 0 ln = -1) (hk : S 51 0 ln = (k : Int)) (h5 : k < 5) (np : ∀ q : Nat, q < k → S 53 0 (5 * ln + q) ≠ u.toInt) (hu : -100 ≤ u.toInt ∧ u.toInt ≤ 100) (cp : S 49 0 nd ≠ -1 ∨ 0 < S 51 0 nd) (nde : ¬ deep S ln nd) (k0 : ∀ (y : Int32) (h' : gH) (S' : dC), SI S' → S' 51 0 ln = (k : Int) + 1 → S' 52 0 (5 * ln + k) = (nd : Int) → S' 53 0 (5 * ln + k) = u.toInt → (∀ j f : Nat, ¬ (j = 51 ∧ f = ln ∨ (j = 52 ∨ j = 53) ∧ f = 5 * ln + k) → S' j 0 f = S j 0 f) → WB t0 x ea S' E h' → Qn y h') : io h x 14 (vX11_addChild t0 Qn Qx h x v w u) := by
  obtain ⟨A, N, zz, C, P, a, R, K, J, e, sl⟩ := W
  rw [← a.1, ← a.2.1]
  have e1 : v.toInt.toNat = ln := by rw [hv]; rfl
  have e2 : w.toInt.toNat = nd := by rw [hw]; rfl
  refine wio R a00 rfl (by decide) (q_addChild R K I rfl (fun z => by exfalso; omega) (fun _ _ _ _ z => ?_) (fun _ _ _ _ _ _ _ z _ _ _ _ => ?_) (fun _ _ _ _ _ _ _ _ _ _ fl y A1 h1 N1 zz1 C1 P1 a1 pl R1 G hy => ?_))
  · rw [e1] at z; exfalso; omega
  · exfalso
    rw [e1, e2] at z
    rcases z with z | ⟨q, z, z'⟩ | z | z
    · omega
    · exact np q (by omega) z'
    · omega
    · exact nde z
  · rw [e1, e2] at fl G
    rw [hk, Int.toNat_natCast] at G
    have G0 := G
    obtain ⟨eA, fN, fC, fP, L, -⟩ := G
    have b1 : (up3 (up3 (up3 S 53 0 (5 * ln + k) u.toInt) 52 0 (5 * ln + k) (nd : Int)) 51 0 ln ((k : Int) + 1)) 51 0 ln = (k : Int) + 1 := up3_same _ _ _ _ _
    have b2 : (up3 (up3 (up3 S 53 0 (5 * ln + k) u.toInt) 52 0 (5 * ln + k) (nd : Int)) 51 0 ln ((k : Int) + 1)) 52 0 (5 * ln + k) = (nd : Int) := (up3_ne _ _ (by omega)).trans (up3_same _ _ _ _ _)
    have b3 : (up3 (up3 (up3 S 53 0 (5 * ln + k) u.toInt) 52 0 (5 * ln + k) (nd : Int)) 51 0 ln ((k : Int) + 1)) 53 0 (5 * ln + k) = u.toInt := (up3_ne _ _ (by omega)).trans ((up3_ne _ _ (by omega)).trans (up3_same _ _ _ _ _))
    have fS : ∀ j f : Nat, ¬ (j = 51 ∧ f = ln ∨ (j = 52 ∨ j = 53) ∧ f = 5 * ln + k) → (up3 (up3 (up3 S 53 0 (5 * ln + k) u.toInt) 52 0 (5 * ln + k) (nd : Int)) 51 0 ln ((k : Int) + 1)) j 0 f = S j 0 f := fun j f z => (up3_ne _ _ (by omega)).trans ((up3_ne _ _ (by omega)).trans (up3_ne _ _ (by omega)))
    exact k0 y h1 _ (SI.ach I hln hnd il hk h5 np hu cp fl b1 b2 b3 (fun j f _ z => fS j f z)) b1 b2 b3 fS (WB.add a e sl J eA R1 (KS.ach K I hln hk h5 np G0 b1 b2 b3 (fun j f _ z => fS j f z)) (fun j i f z => fC j i f (by omega)) (fun j i f z => fP j i f (by omega)) (fun s => fC 2 0 s (by omega)) (fS 38 19 (by omega)))
theorem w_astate {w3 w4 : Int32} (W : WB t0 x ea S E h) (I : SI S) {n m : Nat} (hn : S 38 0 19 = (n : Int)) (h10 : n < 10) (hv : v.toInt = (m : Int)) (hm : (m : Int) < S 38 0 14) (cp : S 49 0 m ≠ -1 ∨ 0 < S 51 0 m) (hw : 1 ≤ w.toInt ∧ w.toInt ≤ 400) (h3 : w3.toInt = 0 ∨ w3.toInt = 1) (h4 : 0 ≤ w4.toInt ∧ w4.toInt ≤ 3) (k0 : ∀ (y : Int32) (h' : gH) (S' : dC), SI S' → S' 38 0 19 = (n : Int) + 1 → (∀ j f : Nat, ¬ (j = 38 ∧ f = 19 ∨ 55 ≤ j ∧ j ≤ 58) → S' j 0 f = S j 0 f) → WB t0 x ea S' E h' → Qn y h') : io h x 14 (vX11_addState t0 Qn Qx h x v w w3 w4) := by
  obtain ⟨A, N, zz, C, P, a, R, K, J, e, sl⟩ := W
  rw [← a.1, ← a.2.1]
  have e1 : v.toInt.toNat = m := by rw [hv]; rfl
  refine wio R a00 rfl (by decide) (q_addState R K rfl hn (by omega) h3 (fun z => by exfalso; omega) (fun _ _ z => by exfalso; omega) (fun _ _ _ _ _ _ z => ?_) (fun _ _ _ _ _ _ _ _ y A1 h1 N1 zz1 C1 P1 a1 R1 G Q0 Q1 hy => ?_))
  · rw [e1] at z; exfalso; omega
  · rw [e1] at G
    obtain ⟨eA, fN, fC, fP, L, q0, q1, q2, q3, q4⟩ := G
    have fS : ∀ j f : Nat, ¬ (j = 38 ∧ f = 19 ∨ 55 ≤ j ∧ j ≤ 58 ∧ f = n) → (up3 (up3 (up3 (up3 (up3 S 58 0 n w4.toInt) 57 0 n w3.toInt) 56 0 n w.toInt) 55 0 n (m : Int)) 38 0 19 ((n : Int) + 1)) j 0 f = S j 0 f := fun j f z => (up3_ne _ _ (by omega)).trans ((up3_ne _ _ (by omega)).trans ((up3_ne _ _ (by omega)).trans ((up3_ne _ _ (by omega)).trans (up3_ne _ _ (by omega)))))
    have b0 : (up3 (up3 (up3 (up3 (up3 S 58 0 n w4.toInt) 57 0 n w3.toInt) 56 0 n w.toInt) 55 0 n (m : Int)) 38 0 19 ((n : Int) + 1)) 38 0 19 = (n : Int) + 1 := up3_same _ _ _ _ _
    have b1 : (up3 (up3 (up3 (up3 (up3 S 58 0 n w4.toInt) 57 0 n w3.toInt) 56 0 n w.toInt) 55 0 n (m : Int)) 38 0 19 ((n : Int) + 1)) 55 0 n = (m : Int) := (up3_ne _ _ (by omega)).trans (up3_same _ _ _ _ _)
    have b2 : (up3 (up3 (up3 (up3 (up3 S 58 0 n w4.toInt) 57 0 n w3.toInt) 56 0 n w.toInt) 55 0 n (m : Int)) 38 0 19 ((n : Int) + 1)) 56 0 n = w.toInt := (up3_ne _ _ (by omega)).trans ((up3_ne _ _ (by omega)).trans (up3_same _ _ _ _ _))
    have b3 : (up3 (up3 (up3 (up3 (up3 S 58 0 n w4.toInt) 57 0 n w3.toInt) 56 0 n w.toInt) 55 0 n (m : Int)) 38 0 19 ((n : Int) + 1)) 57 0 n = w3.toInt := (up3_ne _ _ (by omega)).trans ((up3_ne _ _ (by omega)).trans ((up3_ne _ _ (by omega)).trans (up3_same _ _ _ _ _)))
    have b4 : (up3 (up3 (up3 (up3 (up3 S 58 0 n w4.toInt) 57 0 n w3.toInt) 56 0 n w.toInt) 55 0 n (m : Int)) 38 0 19 ((n : Int) + 1)) 58 0 n = w4.toInt := (up3_ne _ _ (by omega)).trans ((up3_ne _ _ (by omega)).trans ((up3_ne _ _ (by omega)).trans ((up3_ne _ _ (by omega)).trans (up3_same _ _ _ _ _))))
    generalize (up3 (up3 (up3 (up3 (up3 S 58 0 n w4.toInt) 57 0 n w3.toInt) 56 0 n w.toInt) 55 0 n (m : Int)) 38 0 19 ((n : Int) + 1)) = S' at fS b0 b1 b2 b3 b4
    have S3 : SI S' := SI.ast I hn h10 b0 (by rw [b1]; omega) (by rw [b1]; exact cp) (by rw [b2]; exact hw) (by rw [b3]; exact h3) (by rw [b4]; exact h4) (fun j f _ z => fS j f z)
    have K3 : KS S' N1 zz1 C1 P1 := KS.ast K I hn fN fC L fP b0 ⟨q0, by rw [b1]; exact q1, q2.trans b2.symm, q3.trans b3.symm, q4.trans b4.symm⟩ (fun j f _ z => fS j f z)
    have f2 : ∀ s, C1 2 0 s = C 2 0 s := fun s => fC 2 0 s (by omega) (by omega)
    refine k0 y h1 S' S3 b0 (fun j f z => fS j f (by omega)) ?_
    by_cases z0 : n = 0
    · obtain ⟨B1, B2_, ⟨B3a, B3b, B3c, B3d, B3e, B3f⟩, ⟨B4a, B4b⟩, B5, B6⟩ := Q1 z0
      have c3 : CP S' 0 (rsM 287) rsM C1 P1 := by
        refine ⟨fun p hp => ?_, B4b, ?_, ?_, B4a, fun _ => B6, fun y => absurd y (by decide), fun _ => B5, ⟨B3a, B3b, fun _ => B3c⟩, fun y => absurd y (by decide), fun y => absurd y (by decide), fun e w he hw => ?_, Or.inr B3c, Or.inr B3d, Or.inr B3e, Or.inr B3f⟩
        · rw [B1 22 0 p (by omega) (by omega) (by omega)]; exact J.va p hp
        · rw [B1 21 0 9 (by omega) (by omega) (by omega)]; exact J.tk
        · rw [B1 33 0 1 (by omega) (by omega) (by omega)]; exact J.fi
        · have he : (e : Int) < 0 := he
          exfalso; omega
      exact ⟨A1, N1, zz1, C1, P1, ⟨(eA 8 0 a80x).trans a.1, (eA 0 0 a00).trans a.2.1, (eA 90 0 a90x).trans a.2.2⟩, R1, K3, c3, fun f => (B1 90 0 f (by decide) (by omega) (by omega)).trans (e f), fun s hs => (f2 s).trans (sl s hs)⟩
    · exact ⟨A1, N1, zz1, C1, P1, ⟨(eA 8 0 a80x).trans a.1, (eA 0 0 a00).trans a.2.1, (eA 90 0 a90x).trans a.2.2⟩, R1, K3, (J.nsx (fun _ => by omega)).keep (fun j i f z => (Q0 z0 j i f (by omega)).1) (fun j f z => (Q0 z0 j 0 f (by omega)).2), fun f => (Q0 z0 90 0 f (by decide)).1.trans (e f), fun s hs => (f2 s).trans (sl s hs)⟩
/-- the numbers of a transition, each by its place -/
def trS (S : dC) (n : Nat) (g : Nat → Int) : dC := fun j i f => if j = 60 ∧ 17 * n ≤ f ∧ f < 17 * n + 17 then g (f - 17 * n) else S j i f
theorem trS_at (S : dC) (n : Nat) (g : Nat → Int) {k : Nat} (hk : k < 17) : trS S n g 60 0 (17 * n + k) = g k := by
  unfold trS
  rw [if_pos (by omega), Nat.add_sub_cancel_left]
theorem trS_n (S : dC) (n : Nat) (g : Nat → Int) {j f : Nat} (h : ¬ (j = 60 ∧ 17 * n ≤ f ∧ f < 17 * n + 17)) : trS S n g j 0 f = S j 0 f := if_neg h
theorem w_atrans (W : WB t0 x ea S E h) (I : SI S) {n : Nat} (hn : S 38 0 21 = (n : Int)) (h24 : n < 24) (hv : -1 ≤ v.toInt ∧ v.toInt < S 38 0 19) (hw : 0 ≤ w.toInt ∧ w.toInt < S 38 0 19) (hu : 0 ≤ u.toInt ∧ u.toInt ≤ 60) (k0 : ∀ (y : Int32) (h' : gH) (S' : dC), SI S' → S' 38 0 21 = (n : Int) + 1 → S' 60 0 (17 * n) = v.toInt → S' 60 0 (17 * n + 2) = u.toInt → S' 60 0 (17 * n + 7) = 0 → (∀ j f : Nat, ¬ (j = 38 ∧ f = 21 ∨ j = 60 ∧ 17 * n ≤ f ∧ f < 17 * n + 17) → S' j 0 f = S j 0 f) → WB t0 x ea S' E h' → Qn y h') : io h x 14 (vX11_addTransition t0 Qn Qx h x v w u) := by
  obtain ⟨A, N, zz, C, P, a, R, K, J, e, sl⟩ := W
  rw [← a.1, ← a.2.1]
  refine wio R a00 rfl (by decide) (q_addTransition R K rfl hn (fun z => by exfalso; omega) (fun _ _ _ _ z => by exfalso; omega) (fun _ _ _ _ _ _ z => by exfalso; omega) (fun _ _ _ _ _ _ _ y A1 h1 N1 zz1 C1 P1 a1 R1 G B hy => ?_))
  obtain ⟨eA, fN, fC, fP, L, c0⟩ := G
  obtain ⟨⟨q1, q2⟩, q3, q4, q5, q6, q7, q11⟩ := B
  have g0 : ∀ k : Nat, k < 17 → (up3 (trS S n (fun k => if k = 0 then v.toInt else if k = 1 then w.toInt else if k = 2 then u.toInt else if k = 3 then -1 else 0)) 38 0 21 ((n : Int) + 1)) 60 0 (17 * n + k) = (if k = 0 then v.toInt else if k = 1 then w.toInt else if k = 2 then u.toInt else if k = 3 then -1 else 0) := fun k hk => (up3_ne _ _ (by omega)).trans (trS_at S n _ hk)
  have b5 : (up3 (trS S n (fun k => if k = 0 then v.toInt else if k = 1 then w.toInt else if k = 2 then u.toInt else if k = 3 then -1 else 0)) 38 0 21 ((n : Int) + 1)) 38 0 21 = (n : Int) + 1 := up3_same _ _ _ _ _
  have fS : ∀ j f : Nat, ¬ (j = 38 ∧ f = 21 ∨ j = 60 ∧ 17 * n ≤ f ∧ f < 17 * n + 17) → (up3 (trS S n (fun k => if k = 0 then v.toInt else if k = 1 then w.toInt else if k = 2 then u.toInt else if k = 3 then -1 else 0)) 38 0 21 ((n : Int) + 1)) j 0 f = S j 0 f := fun j f z => (up3_ne _ _ (by omega)).trans (trS_n S n _ (by omega))
  generalize (up3 (trS S n (fun k => if k = 0 then v.toInt else if k = 1 then w.toInt else if k = 2 then u.toInt else if k = 3 then -1 else 0)) 38 0 21 ((n : Int) + 1)) = S' at g0 b5 fS
  have e0 : S' 60 0 (17 * n) = v.toInt := g0 0 (by decide)
  have e1 : S' 60 0 (17 * n + 1) = w.toInt := g0 1 (by decide)
  have e2 : S' 60 0 (17 * n + 2) = u.toInt := g0 2 (by decide)
  have e3 : S' 60 0 (17 * n + 3) = -1 := g0 3 (by decide)
  have e4 : S' 60 0 (17 * n + 4) = 0 := g0 4 (by decide)
  have e5 : S' 60 0 (17 * n + 5) = 0 := g0 5 (by decide)
  have e6 : S' 60 0 (17 * n + 6) = 0 := g0 6 (by decide)
  have e7 : S' 60 0 (17 * n + 7) = 0 := g0 7 (by decide)
  have T3 : TRk S S' n := ⟨by rw [e0]; omega, by rw [e1]; omega, by rw [e2]; omega, by rw [e3]; omega, fun _ => e3, by rw [e4]; omega, by rw [e5]; omega, Or.inl e6, by rw [e7]; omega, fun k hk => by rw [e7] at hk; omega, fun k hk => by rw [e7] at hk; omega⟩
  exact k0 y h1 S' (SI.tra (n := n) I (fun t' z1 z2 => by rw [b5] at z1; omega) (by rw [b5]; omega) T3 (fun j f _ z => fS j f z)) b5 e0 e2 e7 fS (WB.add a e sl J eA R1 (KS.atr K I hn fN fC L fP b5 ⟨by rw [e0]; exact q1, by rw [e1]; exact q2⟩ ⟨c0, q3.trans e2.symm, q4.trans e3.symm, q5.trans e4.symm, q6.trans e5.symm, q7.trans e6.symm, q11.trans e7.symm⟩ (fun k hk => by rw [e7] at hk; omega) (fun j f _ z => fS j f z)) (fun j i f z => fC j i f (by omega)) (fun j i f z => fP j i f (by omega)) (fun s => fC 2 0 s (by omega)) (fS 38 19 (by omega)))
/-- a transition's numbers change: what the tables hold then -/
theorem KS.trx {t : Nat} (K : KS S N zz C P) (I : SI S) (ht : (t : Int) < S 38 0 21) (fS : ∀ j f : Nat, ¬ (j = 60 ∧ t60 t f) → S' j 0 f = S j 0 f) (fC : ∀ j i f : Nat, ¬ ((15 ≤ j ∧ j ≤ 18) ∧ i = t + 1) → C1 j i f = C j i f) (h1 : C1 15 (t + 1) 0 = C 15 (t + 1) 0 ∧ C1 15 (t + 1) 3 = C 15 (t + 1) 3 ∧ C1 15 (t + 1) 4 = S' 60 0 (17 * t + 3) ∧ C1 15 (t + 1) 5 = S' 60 0 (17 * t + 4) ∧ C1 15 (t + 1) 6 = S' 60 0 (17 * t + 5) ∧ C1 15 (t + 1) 7 = S' 60 0 (17 * t + 6) ∧ C1 15 (t + 1) 11 = S' 60 0 (17 * t + 7)) (h2 : ∀ k : Nat, (k : Int) < S' 60 0 (17 * t + 7) → C1 16 (t + 1) k = S' 60 0 (17 * t + 8 + 3 * k) ∧ C1 17 (t + 1) k = S' 60 0 (17 * t + 8 + 3 * k + 1) ∧ C1 18 (t + 1) k = S' 60 0 (17 * t + 8 + 3 * k + 2)) : KS S' N zz C1 P := by
  have n3 : (((N 3 : Nat) : Int)) = S 38 0 21 := K.nn.2.2.2
  have kt := K.tr t (by omega)
  refine KS.trn (t := t) K (by omega) (fun j f _ z => fS j f z) fC ⟨h1.1.trans kt.1, h1.2.1.trans (kt.2.1.trans (fS 60 _ (by unfold t60; omega)).symm), h1.2.2⟩ h2 (fun t' z => (I.tc t' (by omega)).2)
theorem w_stime (W : WB t0 x ea S E h) (I : SI S) {t : Nat} (hv : v.toInt = (t : Int)) (ht : (t : Int) < S 38 0 21) (hw : -1 ≤ w.toInt ∧ w.toInt ≤ 300) (hu : 0 ≤ u.toInt ∧ u.toInt ≤ 99) (he : w.toInt = -1 ∨ S 60 0 (17 * t) ≠ -1) (k0 : ∀ (y : Int32) (h' : gH) (S' : dC), SI S' → (∀ j f : Nat, ¬ (j = 60 ∧ (f = 17 * t + 3 ∨ f = 17 * t + 4)) → S' j 0 f = S j 0 f) → WB t0 x ea S' E h' → Qn y h') : io h x 14 (vX11_setTiming t0 Qn Qx h x v w u) := by
  obtain ⟨A, N, zz, C, P, a, R, K, J, e, sl⟩ := W
  rw [← a.1, ← a.2.1]
  have et : v.toInt.toNat = t := by rw [hv]; rfl
  have n3 : (((N 3 : Nat) : Int)) = S 38 0 21 := K.nn.2.2.2
  have i1 := I.nt
  refine wio R a00 rfl (by decide) (q_setTiming R K (fun z => by exfalso; omega) (fun _ _ z => by exfalso; omega) (fun _ _ _ _ _ _ z1 z2 => ?_) (fun _ _ _ _ _ _ _ y h1 R1 hy => ?_))
  · rw [et] at z2; exfalso; omega
  · rw [et] at R1
    have a1 : (up3 (up3 S 60 0 (17 * t + 3) w.toInt) 60 0 (17 * t + 4) u.toInt) 60 0 (17 * t + 3) = w.toInt := (up3_ne _ _ (by omega)).trans (up3_same _ _ _ _ _)
    have a2 : (up3 (up3 S 60 0 (17 * t + 3) w.toInt) 60 0 (17 * t + 4) u.toInt) 60 0 (17 * t + 4) = u.toInt := up3_same _ _ _ _ _
    have fS : ∀ j f : Nat, ¬ (j = 60 ∧ (f = 17 * t + 3 ∨ f = 17 * t + 4)) → (up3 (up3 S 60 0 (17 * t + 3) w.toInt) 60 0 (17 * t + 4) u.toInt) j 0 f = S j 0 f := fun j f z => (up3_ne _ _ (by omega)).trans (up3_ne _ _ (by omega))
    generalize (up3 (up3 S 60 0 (17 * t + 3) w.toInt) 60 0 (17 * t + 4) u.toInt) = S' at a1 a2 fS
    obtain ⟨r1, r2, r3, r4, r5, r6, r7, r8, r9, r10, r11⟩ := I.rec_ ht
    have e0 := fS 60 (17 * t) (by omega)
    have e1 := fS 60 (17 * t + 1) (by omega)
    have e2 := fS 60 (17 * t + 2) (by omega)
    have e5 := fS 60 (17 * t + 5) (by omega)
    have e6 := fS 60 (17 * t + 6) (by omega)
    have e7 := fS 60 (17 * t + 7) (by omega)
    have n21 := fS 38 21 (by omega)
    have T3 : TRk S S' t := ⟨by rw [e0]; exact r1, by rw [e1]; exact r2, by rw [e2]; exact r3, by rw [a1]; exact hw, fun z => by rw [a1]; rw [e0] at z; omega, by rw [a2]; exact hu, by rw [e5]; exact r7, by rw [e6]; exact r8, by rw [e7]; exact r9, fun k hk => by rw [e7] at hk; rw [fS 60 (17 * t + 8 + 3 * k) (by omega)]; exact r10 k hk, fun k hk => by rw [e7] at hk; rw [fS 60 (17 * t + 8 + 3 * k + 1) (by omega)]; exact r11 k hk⟩
    have kt := K.tr t (by omega)
    have kc := K.tc t
    refine k0 y h1 S' (SI.tra (n := t) I (fun t' z1 _ => by rw [n21] at z1; exact z1) (by rw [n21]; exact i1) T3 (fun j f _ z => fS j f (by omega))) fS (WB.add (N := N) a e sl J (fun _ _ _ => rfl) R1 (KS.trx K I ht (fun j f z => fS j f (by unfold t60 at z; omega)) (fun j i f z => by rw [up3_ne _ _ (by omega), up3_ne _ _ (by omega)]) ⟨by rw [up3_ne _ _ (by omega), up3_ne _ _ (by omega)], by rw [up3_ne _ _ (by omega), up3_ne _ _ (by omega)], by rw [up3_ne _ _ (by omega), up3_same]; exact a1.symm, by rw [up3_same]; exact a2.symm, by rw [up3_ne _ _ (by omega), up3_ne _ _ (by omega), e5]; exact kt.2.2.2.2.1, by rw [up3_ne _ _ (by omega), up3_ne _ _ (by omega), e6]; exact kt.2.2.2.2.2.1, by rw [up3_ne _ _ (by omega), up3_ne _ _ (by omega), e7]; exact kt.2.2.2.2.2.2⟩ (fun k hk => ?_)) (fun j i f z => by rw [up3_ne _ _ (by omega), up3_ne _ _ (by omega)]) (fun _ _ _ _ => rfl) (fun s => by rw [up3_ne _ _ (by omega), up3_ne _ _ (by omega)]) (fS 38 19 (by omega)))
    rw [e7] at hk
    rw [fS 60 (17 * t + 8 + 3 * k) (by omega), fS 60 (17 * t + 8 + 3 * k + 1) (by omega), fS 60 (17 * t + 8 + 3 * k + 2) (by omega), up3_ne _ _ (by omega), up3_ne _ _ (by omega), up3_ne _ _ (by omega), up3_ne _ _ (by omega), up3_ne _ _ (by omega), up3_ne _ _ (by omega)]
    exact kc k (by omega) hk
theorem w_sintr (W : WB t0 x ea S E h) (I : SI S) {t : Nat} (hv : v.toInt = (t : Int)) (ht : (t : Int) < S 38 0 21) (hw : 0 ≤ w.toInt ∧ w.toInt ≤ 4) (hu : u.toInt = 0 ∨ u.toInt = 1) (k0 : ∀ (y : Int32) (h' : gH) (S' : dC), SI S' → (∀ j f : Nat, ¬ (j = 60 ∧ (f = 17 * t + 5 ∨ f = 17 * t + 6)) → S' j 0 f = S j 0 f) → WB t0 x ea S' E h' → Qn y h') : io h x 14 (vX11_setInterruption t0 Qn Qx h x v w u) := by
  obtain ⟨A, N, zz, C, P, a, R, K, J, e, sl⟩ := W
  rw [← a.1, ← a.2.1]
  have et : v.toInt.toNat = t := by rw [hv]; rfl
  have n3 : (((N 3 : Nat) : Int)) = S 38 0 21 := K.nn.2.2.2
  have i1 := I.nt
  refine wio R a00 rfl (by decide) (q_setInterruption R K hu (fun z => by exfalso; omega) (fun _ _ z => by exfalso; omega) (fun _ _ _ _ y h1 R1 hy => ?_))
  rw [et] at R1
  have a1 : (up3 (up3 S 60 0 (17 * t + 5) w.toInt) 60 0 (17 * t + 6) u.toInt) 60 0 (17 * t + 5) = w.toInt := (up3_ne _ _ (by omega)).trans (up3_same _ _ _ _ _)
  have a2 : (up3 (up3 S 60 0 (17 * t + 5) w.toInt) 60 0 (17 * t + 6) u.toInt) 60 0 (17 * t + 6) = u.toInt := up3_same _ _ _ _ _
  have fS : ∀ j f : Nat, ¬ (j = 60 ∧ (f = 17 * t + 5 ∨ f = 17 * t + 6)) → (up3 (up3 S 60 0 (17 * t + 5) w.toInt) 60 0 (17 * t + 6) u.toInt) j 0 f = S j 0 f := fun j f z => (up3_ne _ _ (by omega)).trans (up3_ne _ _ (by omega))
  generalize (up3 (up3 S 60 0 (17 * t + 5) w.toInt) 60 0 (17 * t + 6) u.toInt) = S' at a1 a2 fS
  obtain ⟨r1, r2, r3, r4, r5, r6, r7, r8, r9, r10, r11⟩ := I.rec_ ht
  have e0 := fS 60 (17 * t) (by omega)
  have e1 := fS 60 (17 * t + 1) (by omega)
  have e2 := fS 60 (17 * t + 2) (by omega)
  have e3 := fS 60 (17 * t + 3) (by omega)
  have e4 := fS 60 (17 * t + 4) (by omega)
  have e7 := fS 60 (17 * t + 7) (by omega)
  have n21 := fS 38 21 (by omega)
  have T3 : TRk S S' t := ⟨by rw [e0]; exact r1, by rw [e1]; exact r2, by rw [e2]; exact r3, by rw [e3]; exact r4, by rw [e0, e3]; exact r5, by rw [e4]; exact r6, by rw [a1]; exact hw, by rw [a2]; exact hu, by rw [e7]; exact r9, fun k hk => by rw [e7] at hk; rw [fS 60 (17 * t + 8 + 3 * k) (by omega)]; exact r10 k hk, fun k hk => by rw [e7] at hk; rw [fS 60 (17 * t + 8 + 3 * k + 1) (by omega)]; exact r11 k hk⟩
  have kt := K.tr t (by omega)
  have kc := K.tc t
  refine k0 y h1 S' (SI.tra (n := t) I (fun t' z1 _ => by rw [n21] at z1; exact z1) (by rw [n21]; exact i1) T3 (fun j f _ z => fS j f (by omega))) fS (WB.add (N := N) a e sl J (fun _ _ _ => rfl) R1 (KS.trx K I ht (fun j f z => fS j f (by unfold t60 at z; omega)) (fun j i f z => by rw [up3_ne _ _ (by omega), up3_ne _ _ (by omega)]) ⟨by rw [up3_ne _ _ (by omega), up3_ne _ _ (by omega)], by rw [up3_ne _ _ (by omega), up3_ne _ _ (by omega)], by rw [up3_ne _ _ (by omega), up3_ne _ _ (by omega), e3]; exact kt.2.2.1, by rw [up3_ne _ _ (by omega), up3_ne _ _ (by omega), e4]; exact kt.2.2.2.1, by rw [up3_ne _ _ (by omega), up3_same]; exact a1.symm, by rw [up3_same]; exact a2.symm, by rw [up3_ne _ _ (by omega), up3_ne _ _ (by omega), e7]; exact kt.2.2.2.2.2.2⟩ (fun k hk => ?_)) (fun j i f z => by rw [up3_ne _ _ (by omega), up3_ne _ _ (by omega)]) (fun _ _ _ _ => rfl) (fun s => by rw [up3_ne _ _ (by omega), up3_ne _ _ (by omega)]) (fS 38 19 (by omega)))
  rw [e7] at hk
  rw [fS 60 (17 * t + 8 + 3 * k) (by omega), fS 60 (17 * t + 8 + 3 * k + 1) (by omega), fS 60 (17 * t + 8 + 3 * k + 2) (by omega), up3_ne _ _ (by omega), up3_ne _ _ (by omega), up3_ne _ _ (by omega), up3_ne _ _ (by omega), up3_ne _ _ (by omega), up3_ne _ _ (by omega)]
  exact kc k (by omega) hk
/-- the first condition of a transition -/
theorem w_acond {w4 : Int32} (W : WB t0 x ea S E h) (I : SI S) {t p : Nat} (hv : v.toInt = (t : Int)) (ht : (t : Int) < S 38 0 21) (hw : w.toInt = (p : Int)) (hp : (p : Int) < S 38 0 3) (hc : cnd (S 42 0 p) u.toInt w4.toInt) (ho : 0 ≤ u.toInt ∧ u.toInt ≤ 3) (hz : S 60 0 (17 * t + 7) = 0) (k0 : ∀ (y : Int32) (h' : gH) (S' : dC), SI S' → (∀ j f : Nat, ¬ (j = 60 ∧ 17 * t + 7 ≤ f ∧ f < 17 * t + 11) → S' j 0 f = S j 0 f) → WB t0 x ea S' E h' → Qn y h') : io h x 14 (vX11_addCondition t0 Qn Qx h x v w u w4) := by
  obtain ⟨A, N, zz, C, P, a, R, K, J, e, sl⟩ := W
  rw [← a.1, ← a.2.1]
  have et : v.toInt.toNat = t := by rw [hv]; rfl
  have ep : w.toInt.toNat = p := by rw [hw]; rfl
  have n3 : (((N 3 : Nat) : Int)) = S 38 0 21 := K.nn.2.2.2
  have i1 := I.nt
  refine wio R a00 rfl (by decide) (q_addCondition R K I (fun z => by exfalso; omega) (fun _ _ _ _ z => ?_) (fun _ _ _ _ _ z => ?_) (fun _ _ _ _ _ _ y h1 R1 hy => ?_))
  · rw [ep] at z; exact absurd hc z
  · rw [et, hz] at z; exfalso; omega
  · rw [et, hz] at R1
    have R1 : D h1 A N zz (up3 (up3 (up3 (up3 C 16 (t + 1) 0 w.toInt) 17 (t + 1) 0 u.toInt) 18 (t + 1) 0 w4.toInt) 15 (t + 1) 11 1) P := R1
    have fS : ∀ j f : Nat, ¬ (j = 60 ∧ 17 * t + 7 ≤ f ∧ f < 17 * t + 11) → (up3 (up3 (up3 (up3 S 60 0 (17 * t + 8) w.toInt) 60 0 (17 * t + 9) u.toInt) 60 0 (17 * t + 10) w4.toInt) 60 0 (17 * t + 7) 1) j 0 f = S j 0 f := fun j f z => (up3_ne _ _ (by omega)).trans ((up3_ne _ _ (by omega)).trans ((up3_ne _ _ (by omega)).trans (up3_ne _ _ (by omega))))
    have e7 : (up3 (up3 (up3 (up3 S 60 0 (17 * t + 8) w.toInt) 60 0 (17 * t + 9) u.toInt) 60 0 (17 * t + 10) w4.toInt) 60 0 (17 * t + 7) 1) 60 0 (17 * t + 7) = 1 := up3_same _ _ _ _ _
    have d0 : (up3 (up3 (up3 (up3 S 60 0 (17 * t + 8) w.toInt) 60 0 (17 * t + 9) u.toInt) 60 0 (17 * t + 10) w4.toInt) 60 0 (17 * t + 7) 1) 60 0 (17 * t + 8) = w.toInt := (up3_ne _ _ (by omega)).trans ((up3_ne _ _ (by omega)).trans ((up3_ne _ _ (by omega)).trans (up3_same _ _ _ _ _)))
    have d1 : (up3 (up3 (up3 (up3 S 60 0 (17 * t + 8) w.toInt) 60 0 (17 * t + 9) u.toInt) 60 0 (17 * t + 10) w4.toInt) 60 0 (17 * t + 7) 1) 60 0 (17 * t + 9) = u.toInt := (up3_ne _ _ (by omega)).trans ((up3_ne _ _ (by omega)).trans (up3_same _ _ _ _ _))
    have d2 : (up3 (up3 (up3 (up3 S 60 0 (17 * t + 8) w.toInt) 60 0 (17 * t + 9) u.toInt) 60 0 (17 * t + 10) w4.toInt) 60 0 (17 * t + 7) 1) 60 0 (17 * t + 10) = w4.toInt := (up3_ne _ _ (by omega)).trans (up3_same _ _ _ _ _)
    generalize (up3 (up3 (up3 (up3 S 60 0 (17 * t + 8) w.toInt) 60 0 (17 * t + 9) u.toInt) 60 0 (17 * t + 10) w4.toInt) 60 0 (17 * t + 7) 1) = S' at fS e7 d0 d1 d2
    obtain ⟨r1, r2, r3, r4, r5, r6, r7, r8, r9, r10, r11⟩ := I.rec_ ht
    have e0 := fS 60 (17 * t) (by omega)
    have e1 := fS 60 (17 * t + 1) (by omega)
    have e2 := fS 60 (17 * t + 2) (by omega)
    have e3 := fS 60 (17 * t + 3) (by omega)
    have e4 := fS 60 (17 * t + 4) (by omega)
    have e5 := fS 60 (17 * t + 5) (by omega)
    have e6 := fS 60 (17 * t + 6) (by omega)
    have n21 := fS 38 21 (by omega)
    have T3 : TRk S S' t := by
      refine ⟨by rw [e0]; exact r1, by rw [e1]; exact r2, by rw [e2]; exact r3, by rw [e3]; exact r4, by rw [e0, e3]; exact r5, by rw [e4]; exact r6, by rw [e5]; exact r7, by rw [e6]; exact r8, by rw [e7]; omega, fun k hk => ?_, fun k hk => ?_⟩
      · rw [e7] at hk
        have z : k = 0 := by omega
        subst z
        rw [show 17 * t + 8 + 3 * 0 = 17 * t + 8 from rfl, d0]
        omega
      · rw [e7] at hk
        have z : k = 0 := by omega
        subst z
        rw [show 17 * t + 8 + 3 * 0 + 1 = 17 * t + 9 from rfl, d1]
        exact ho
    have kt := K.tr t (by omega)
    refine k0 y h1 S' (SI.tra (n := t) I (fun t' z1 _ => by rw [n21] at z1; exact z1) (by rw [n21]; exact i1) T3 (fun j f _ z => fS j f (by omega))) fS (WB.add (N := N) a e sl J (fun _ _ _ => rfl) R1 (KS.trx K I ht (fun j f z => fS j f (by unfold t60 at z; omega)) (fun j i f z => by rw [up3_ne _ _ (by omega), up3_ne _ _ (by omega), up3_ne _ _ (by omega), up3_ne _ _ (by omega)]) ⟨?_, ?_, ?_, ?_, ?_, ?_, ?_⟩ (fun k hk => ?_)) (fun j i f z => by rw [up3_ne _ _ (by omega), up3_ne _ _ (by omega), up3_ne _ _ (by omega), up3_ne _ _ (by omega)]) (fun _ _ _ _ => rfl) (fun s => by rw [up3_ne _ _ (by omega), up3_ne _ _ (by omega), up3_ne _ _ (by omega), up3_ne _ _ (by omega)]) (fS 38 19 (by omega)))
    · rw [up3_ne _ _ (by omega), up3_ne _ _ (by omega), up3_ne _ _ (by omega), up3_ne _ _ (by omega)]
    · rw [up3_ne _ _ (by omega), up3_ne _ _ (by omega), up3_ne _ _ (by omega), up3_ne _ _ (by omega)]
    · rw [up3_ne _ _ (by omega), up3_ne _ _ (by omega), up3_ne _ _ (by omega), up3_ne _ _ (by omega), e3]; exact kt.2.2.1
    · rw [up3_ne _ _ (by omega), up3_ne _ _ (by omega), up3_ne _ _ (by omega), up3_ne _ _ (by omega), e4]; exact kt.2.2.2.1
    · rw [up3_ne _ _ (by omega), up3_ne _ _ (by omega), up3_ne _ _ (by omega), up3_ne _ _ (by omega), e5]; exact kt.2.2.2.2.1
    · rw [up3_ne _ _ (by omega), up3_ne _ _ (by omega), up3_ne _ _ (by omega), up3_ne _ _ (by omega), e6]; exact kt.2.2.2.2.2.1
    · rw [up3_same, e7]
    · rw [e7] at hk
      have z : k = 0 := by omega
      subst z
      refine ⟨?_, ?_, ?_⟩
      · rw [up3_ne _ _ (by omega), up3_ne _ _ (by omega), up3_ne _ _ (by omega), up3_same]; exact d0.symm
      · rw [up3_ne _ _ (by omega), up3_ne _ _ (by omega), up3_same]; exact d1.symm
      · rw [up3_ne _ _ (by omega), up3_same]; exact d2.symm
end ADX
