/-! ===== the law's loop, for whatever holds at its head ===== -/
def gStep (t0 x mm o : Nat) (h : gH) (K : gH → Prop) : Prop := (∀ p1 : Int32, vLc0 t0 K h x mm o p1) ∧ (∀ p1 p2 : Int32, vLc1 t0 K h x mm o p1 p2) ∧ (∀ p1 : Int32, vLc2 t0 K h x mm o p1) ∧ (∀ p1 : Int32, vLc3 t0 K h x mm o p1) ∧ (∀ p1 p2 p3 : Int32, vLc4 t0 K h x mm o p1 p2 p3) ∧ (∀ p1 : Int32, vLc5 t0 K h x mm o p1) ∧ (∀ p1 : Int32, vLc6 t0 K h x mm o p1) ∧ (∀ p1 p2 p3 : Int32, vLc7 t0 K h x mm o p1 p2 p3) ∧ (∀ p1 p2 p3 p4 : Int32, vLc8 t0 K h x mm o p1 p2 p3 p4) ∧ (∀ p1 p2 p3 : Int32, vLc9 t0 K h x mm o p1 p2 p3) ∧ (∀ p1 p2 p3 : Int32, vLc10 t0 K h x mm o p1 p2 p3) ∧ (∀ p1 p2 p3 : Int32, vLc11 t0 K h x mm o p1 p2 p3) ∧ (∀ p1 p2 p3 p4 : Int32, vLc12 t0 K h x mm o p1 p2 p3 p4) ∧ (∀ p1 : Int32, vLc13 t0 K h x mm o p1) ∧ (∀ p1 : Int32, vLc14 t0 K h x mm o p1) ∧ (vLc15 t0 K h x mm o) ∧ (vLc16 t0 K h x mm o) ∧ (vLc17 t0 K h x mm o) ∧ (∀ p1 : Int32, vLc18 t0 K h x mm o p1) ∧ (vLc19 t0 K h x mm o) ∧ (vLc20 t0 K h x mm o) ∧ (vLc21 t0 K h x mm o) ∧ (vLc22 t0 K h x mm o) ∧ (vLc23 t0 K h x mm o) ∧ (vLc24 t0 K h x mm o) ∧ (∀ p1 : Int32, vLc25 t0 K h x mm o p1) ∧ (∀ p1 : Int32, vLc26 t0 K h x mm o p1) ∧ (∀ p1 p2 : Int32, vLc27 t0 K h x mm o p1 p2) ∧ (∀ p1 : Int32, vLc28 t0 K h x mm o p1) ∧ (vLc29 t0 K h x mm o) ∧ (∀ p1 : Int32, vLc30 t0 K h x mm o p1) ∧ (∀ p1 : Int32, vLc31 t0 K h x mm o p1) ∧ (∀ p1 : Int32, vLc32 t0 K h x mm o p1) ∧ (vLc33 t0 K h x mm o) ∧ (∀ p1 p2 : Int32, vLc34 t0 K h x mm o p1 p2) ∧ (∀ p1 : Int32, vLc35 t0 K h x mm o p1) ∧ (∀ p1 : Int32, vLc36 t0 K h x mm o p1) ∧ (∀ p1 p2 : Int32, vLc37 t0 K h x mm o p1 p2) ∧ (∀ p1 : Int32, vLc38 t0 K h x mm o p1) ∧ (∀ p1 : Int32, vLc39 t0 K h x mm o p1) ∧ (∀ p1 : Int32, vLc40 t0 K h x mm o p1)
set_option maxRecDepth 100000 in
set_option maxHeartbeats 4000000 in
theorem law_loop {p : Program} {l : Launch} {e : Env} {s : State} {m : MethodId} {below : List Frame} {meth : Method} {c : Code} {G : gG} {b L x mm o : Nat} {xs : Nat → Int32} {Iv : Nat → gH → Prop} (X : gC p l s m #[Value.ref b] meth c G (fun q => s.heap.size ≤ q) cL_law 8 (some .boolean) RL) (hNc : gNc s) (hX : va_X b L xs s s.heap) (hbl : b < s.heap.size) (hL : L ≤ 2560) (hst : ∀ (j : Nat) (h : gH), j < 512 → Iv j h → gStep G.2.2.1 x mm o h (Iv (j + 1))) (hid : ∀ (j : Nat) (h : gH), j < 512 → Iv j h → Iv (j + 1) h) : ∀ (d j : Nat) (v4 : Int32) (h : gH), j + d = 513 → j ≤ 512 → v4.toInt = 5 * (j : Int) → Iv j h → V p l e room_1 s m #[Value.ref b] below meth c (lw_Z below #[Value.ref b] s) G (fun q => s.heap.size ≤ q) 8 h (400 + 300 * j) (6000 + 5000 * j) 23 [(0, .ref b), (1, .ref x), (2, .ref mm), (3, .ref o), (4, .int v4)] [] := by
  have hbA : ¬ (fun q : Nat => s.heap.size ≤ q) b := Nat.not_le.mpr hbl
  have hRf : 64 ≤ room_1.frames := by decide
  have hRl : 2000 ≤ room_1.locals := by decide
  have hRc : room_1.cells = 601024 := rfl
  have hRs : room_1.slots = 7293034 := rfl
  intro d
  induction d with
  | zero =>
    intro j v4 h h1 h2
    exact absurd h1 (by omega)
  | succ d ih =>
    intro j v4 h hd hj h4 I
    refine V_iload X dL_law_23 4 rfl ?_
    refine V_aloadr_n X dL_law_25 0 rfl ?_
    refine V_slen (L := L) (xs := xs) X hX hbl hbA dL_law_26 ?_
    refine V_iconst (y := 5) X dL_law_27 (by decide) ?_
    refine V_isub X dL_law_28 ?_
    have eL : (Int32.ofNat L).toInt = (L : Int) := Int32.toInt_ofNat_of_lt (by omega)
    have e5 : (Int32.ofNat L - 5).toInt = (L : Int) - 5 := sub_ti eL (vl (by decide)) (by clear eL h4; omega)
    refine V_icmp_gt (tgt := 2394) X dL_law_29 (by decide) (fun z => ?_) (fun z => ?_)
    · refine V_iconst (y := 1) X dL_law_2394 (by decide) ?_
      intro H locs ls hw hS hv
      refine va_forget (fun q hq => hS.2.2 q hq) ?_
      refine W.widen (k := 601024) (n := 7293034) (by clear e5 eL h4; omega) (by clear e5 eL h4; omega) ?_
      exact lw_ret X.1 X.2.1 X.2.2.2.2.2.2.2.2.2.2 X.2.2.2.2.2.2.2.1 dL_law_2395
    · rw [Int32.lt_iff_toInt_lt, e5, h4] at z
      clear e5 eL
      have hj5 : 5 * j + 5 ≤ L := by clear h4; omega
      clear z
      have hv0 : vp_in v4 L := dvin (m := 5 * j) (h4.trans (by omega)) (by omega)
      have hvc : ∀ (y : Int32) (c : Nat), y.toInt = (c : Int) → c ≤ 4 → vp_in (v4 + y) L := fun y c hy hc => dvin (m := 5 * j + c) ((add_ti h4 hy (by clear h4 hy; omega)).trans (by omega)) (by omega)
      refine V_aloadr_n X dL_law_32 0 rfl ?_
      refine V_iload X dL_law_33 4 rfl ?_
      refine V_sld (L := L) (xs := xs) X hX hbl hbA hv0 dL_law_35 ?_
      refine V_bipush (y := 63) X dL_law_36 (by decide) ?_
      refine V_iand X dL_law_38 ?_
      have hi1 : vp_in (v4 + 1) L := hvc 1 1 (by decide) (by decide)
      have hi2 : vp_in (v4 + 2) L := hvc 2 2 (by decide) (by decide)
      have hi3 : vp_in (v4 + 3) L := hvc 3 3 (by decide) (by decide)
      have hi4 : vp_in (v4 + 4) L := hvc 4 4 (by decide) (by decide)
      clear hvc hv0
      have hk : 400 + 300 * j + 300 ≤ room_1.cells := by rw [hRc]; clear h4; omega
      have hn : 6000 + 5000 * j + 5000 ≤ room_1.slots := by rw [hRs]; clear h4; omega
      have h45 : (v4 + 5).toInt = 5 * ((j + 1 : Nat) : Int) := (add_ti h4 (vl (by decide)) (by clear h4; omega)).trans (by omega)
      have kk : ∀ h' : gH, Iv (j + 1) h' → V p l e room_1 s m #[Value.ref b] below meth c (lw_Z below #[Value.ref b] s) G (fun q => s.heap.size ≤ q) 8 h' (400 + 300 * j + 300) (6000 + 5000 * j + 5000) 2388 [(0, .ref b), (1, .ref x), (2, .ref mm), (3, .ref o), (4, .int v4)] [] := fun h' I' => by
        refine V_iinc (y := v4 + 5) X dL_law_2388 4 rfl (by rfl) (by decide) rfl ?_
        refine V_goto (tgt := 23) X dL_law_2391 (by decide) ?_
        have := ih (j + 1) (v4 + 5) h' (by clear h45 h4; omega) (by clear h45 h4; omega) h45 I'
        rw [show 400 + 300 * (j + 1) = 400 + 300 * j + 300 by clear h45 h4; omega, show 6000 + 5000 * (j + 1) = 6000 + 5000 * j + 5000 by clear h45 h4; omega] at this
        exact V.sub [1, 2, 3, 4, 0] rfl this
      have hj2 : j < 512 := by clear h45 h4; omega
      have W9 := hst j h hj2 I
      clear h45 h4 ih
      generalize (xs v4.toNatClampNeg &&& 63 : Int32) = y at *
      rcases (show y.toInt = 0 ∨ y.toInt = 1 ∨ y.toInt = 2 ∨ y.toInt = 3 ∨ y.toInt = 4 ∨ y.toInt = 5 ∨ y.toInt = 6 ∨ y.toInt = 7 ∨ y.toInt = 8 ∨ y.toInt = 9 ∨ y.toInt = 10 ∨ y.toInt = 11 ∨ y.toInt = 12 ∨ y.toInt = 13 ∨ y.toInt = 14 ∨ y.toInt = 15 ∨ y.toInt = 16 ∨ y.toInt = 17 ∨ y.toInt = 18 ∨ y.toInt = 19 ∨ y.toInt = 20 ∨ y.toInt = 21 ∨ y.toInt = 22 ∨ y.toInt = 23 ∨ y.toInt = 24 ∨ y.toInt = 25 ∨ y.toInt = 26 ∨ y.toInt = 27 ∨ y.toInt = 28 ∨ y.toInt = 29 ∨ y.toInt = 30 ∨ y.toInt = 31 ∨ y.toInt = 32 ∨ y.toInt = 33 ∨ y.toInt = 34 ∨ y.toInt = 35 ∨ y.toInt = 36 ∨ y.toInt = 37 ∨ y.toInt = 38 ∨ y.toInt = 39 ∨ y.toInt = 40 ∨ (y.toInt < 0 ∨ 40 < y.toInt) by omega) with z | z | z | z | z | z | z | z | z | z | z | z | z | z | z | z | z | z | z | z | z | z | z | z | z | z | z | z | z | z | z | z | z | z | z | z | z | z | z | z | z | z
      · refine V_tableIn (tgt := 216) X dL_law_39 (by omega) (by omega) (by rw [z]; rfl) (by decide) ?_
        exact tLc0 (L := L) (xs := xs) X hNc hX hbl hbA hRf hRl hk hn hi1 rfl (W9.1 _) kk
      · refine V_tableIn (tgt := 272) X dL_law_39 (by omega) (by omega) (by rw [z]; rfl) (by decide) ?_
        exact tLc1 (L := L) (xs := xs) X hNc hX hbl hbA hRf hRl hk hn hi1 rfl hi2 rfl (W9.2.1 _ _) kk
      · refine V_tableIn (tgt := 340) X dL_law_39 (by omega) (by omega) (by rw [z]; rfl) (by decide) ?_
        exact tLc2 (L := L) (xs := xs) X hNc hX hbl hbA hRf hRl hk hn hi1 rfl (W9.2.2.1 _) kk
      · refine V_tableIn (tgt := 396) X dL_law_39 (by omega) (by omega) (by rw [z]; rfl) (by decide) ?_
        exact tLc3 (L := L) (xs := xs) X hNc hX hbl hbA hRf hRl hk hn hi1 rfl (W9.2.2.2.1 _) kk
      · refine V_tableIn (tgt := 452) X dL_law_39 (by omega) (by omega) (by rw [z]; rfl) (by decide) ?_
        exact tLc4 (L := L) (xs := xs) X hNc hX hbl hbA hRf hRl hk hn hi1 rfl hi2 rfl hi3 rfl (W9.2.2.2.2.1 _ _ _) kk
      · refine V_tableIn (tgt := 532) X dL_law_39 (by omega) (by omega) (by rw [z]; rfl) (by decide) ?_
        exact tLc5 (L := L) (xs := xs) X hNc hX hbl hbA hRf hRl hk hn hi1 rfl (W9.2.2.2.2.2.1 _) kk
      · refine V_tableIn (tgt := 588) X dL_law_39 (by omega) (by omega) (by rw [z]; rfl) (by decide) ?_
        exact tLc6 (L := L) (xs := xs) X hNc hX hbl hbA hRf hRl hk hn hi1 rfl (W9.2.2.2.2.2.2.1 _) kk
      · refine V_tableIn (tgt := 644) X dL_law_39 (by omega) (by omega) (by rw [z]; rfl) (by decide) ?_
        exact tLc7 (L := L) (xs := xs) X hNc hX hbl hbA hRf hRl hk hn hi1 rfl hi2 rfl hi3 rfl (W9.2.2.2.2.2.2.2.1 _ _ _) kk
      · refine V_tableIn (tgt := 724) X dL_law_39 (by omega) (by omega) (by rw [z]; rfl) (by decide) ?_
        exact tLc8 (L := L) (xs := xs) X hNc hX hbl hbA hRf hRl hk hn hi1 rfl hi2 rfl hi3 rfl hi4 rfl (W9.2.2.2.2.2.2.2.2.1 _ _ _ _) kk
      · refine V_tableIn (tgt := 832) X dL_law_39 (by omega) (by omega) (by rw [z]; rfl) (by decide) ?_
        exact tLc9 (L := L) (xs := xs) X hNc hX hbl hbA hRf hRl hk hn hi1 rfl hi2 rfl hi3 rfl (W9.2.2.2.2.2.2.2.2.2.1 _ _ _) kk
      · refine V_tableIn (tgt := 912) X dL_law_39 (by omega) (by omega) (by rw [z]; rfl) (by decide) ?_
        exact tLc10 (L := L) (xs := xs) X hNc hX hbl hbA hRf hRl hk hn hi1 rfl hi2 rfl hi3 rfl (W9.2.2.2.2.2.2.2.2.2.2.1 _ _ _) kk
      · refine V_tableIn (tgt := 992) X dL_law_39 (by omega) (by omega) (by rw [z]; rfl) (by decide) ?_
        exact tLc11 (L := L) (xs := xs) X hNc hX hbl hbA hRf hRl hk hn hi1 rfl hi2 rfl hi3 rfl (W9.2.2.2.2.2.2.2.2.2.2.2.1 _ _ _) kk
      · refine V_tableIn (tgt := 1088) X dL_law_39 (by omega) (by omega) (by rw [z]; rfl) (by decide) ?_
        exact tLc12 (L := L) (xs := xs) X hNc hX hbl hbA hRf hRl hk hn hi1 rfl hi2 rfl hi3 rfl hi4 rfl (W9.2.2.2.2.2.2.2.2.2.2.2.2.1 _ _ _ _) kk
      · refine V_tableIn (tgt := 1180) X dL_law_39 (by omega) (by omega) (by rw [z]; rfl) (by decide) ?_
        exact tLc13 (L := L) (xs := xs) X hNc hX hbl hbA hRf hRl hk hn hi1 rfl (W9.2.2.2.2.2.2.2.2.2.2.2.2.2.1 _) kk
      · refine V_tableIn (tgt := 1236) X dL_law_39 (by omega) (by omega) (by rw [z]; rfl) (by decide) ?_
        exact tLc14 (L := L) (xs := xs) X hNc hX hbl hbA hRf hRl hk hn hi1 rfl (W9.2.2.2.2.2.2.2.2.2.2.2.2.2.2.1 _) kk
      · refine V_tableIn (tgt := 1292) X dL_law_39 (by omega) (by omega) (by rw [z]; rfl) (by decide) ?_
        exact tLc15 (L := L) (xs := xs) X hNc hX hbl hbA hRf hRl hk hn (W9.2.2.2.2.2.2.2.2.2.2.2.2.2.2.2.1) kk
      · refine V_tableIn (tgt := 1305) X dL_law_39 (by omega) (by omega) (by rw [z]; rfl) (by decide) ?_
        exact tLc16 (L := L) (xs := xs) X hNc hX hbl hbA hRf hRl hk hn (W9.2.2.2.2.2.2.2.2.2.2.2.2.2.2.2.2.1) kk
      · refine V_tableIn (tgt := 1318) X dL_law_39 (by omega) (by omega) (by rw [z]; rfl) (by decide) ?_
        exact tLc17 (L := L) (xs := xs) X hNc hX hbl hbA hRf hRl hk hn (W9.2.2.2.2.2.2.2.2.2.2.2.2.2.2.2.2.2.1) kk
      · refine V_tableIn (tgt := 1362) X dL_law_39 (by omega) (by omega) (by rw [z]; rfl) (by decide) ?_
        exact tLc18 (L := L) (xs := xs) X hNc hX hbl hbA hRf hRl hk hn hi1 rfl (W9.2.2.2.2.2.2.2.2.2.2.2.2.2.2.2.2.2.2.1 _) kk
      · refine V_tableIn (tgt := 1418) X dL_law_39 (by omega) (by omega) (by rw [z]; rfl) (by decide) ?_
        exact tLc19 (L := L) (xs := xs) X hNc hX hbl hbA hRf hRl hk hn (W9.2.2.2.2.2.2.2.2.2.2.2.2.2.2.2.2.2.2.2.1) kk
      · refine V_tableIn (tgt := 1431) X dL_law_39 (by omega) (by omega) (by rw [z]; rfl) (by decide) ?_
        exact tLc20 (L := L) (xs := xs) X hNc hX hbl hbA hRf hRl hk hn (W9.2.2.2.2.2.2.2.2.2.2.2.2.2.2.2.2.2.2.2.2.1) kk
      · refine V_tableIn (tgt := 1475) X dL_law_39 (by omega) (by omega) (by rw [z]; rfl) (by decide) ?_
        exact tLc21 (L := L) (xs := xs) X hNc hX hbl hbA hRf hRl hk hn (W9.2.2.2.2.2.2.2.2.2.2.2.2.2.2.2.2.2.2.2.2.2.1) kk
      · refine V_tableIn (tgt := 1488) X dL_law_39 (by omega) (by omega) (by rw [z]; rfl) (by decide) ?_
        exact tLc22 (L := L) (xs := xs) X hNc hX hbl hbA hRf hRl hk hn (W9.2.2.2.2.2.2.2.2.2.2.2.2.2.2.2.2.2.2.2.2.2.2.1) kk
      · refine V_tableIn (tgt := 1501) X dL_law_39 (by omega) (by omega) (by rw [z]; rfl) (by decide) ?_
        exact tLc23 (L := L) (xs := xs) X hNc hX hbl hbA hRf hRl hk hn (W9.2.2.2.2.2.2.2.2.2.2.2.2.2.2.2.2.2.2.2.2.2.2.2.1) kk
      · refine V_tableIn (tgt := 1514) X dL_law_39 (by omega) (by omega) (by rw [z]; rfl) (by decide) ?_
        exact tLc24 (L := L) (xs := xs) X hNc hX hbl hbA hRf hRl hk hn (W9.2.2.2.2.2.2.2.2.2.2.2.2.2.2.2.2.2.2.2.2.2.2.2.2.1) kk
      · refine V_tableIn (tgt := 1527) X dL_law_39 (by omega) (by omega) (by rw [z]; rfl) (by decide) ?_
        exact tLc25 (L := L) (xs := xs) X hNc hX hbl hbA hRf hRl hk hn hi1 rfl (W9.2.2.2.2.2.2.2.2.2.2.2.2.2.2.2.2.2.2.2.2.2.2.2.2.2.1 _) kk
      · refine V_tableIn (tgt := 1598) X dL_law_39 (by omega) (by omega) (by rw [z]; rfl) (by decide) ?_
        exact tLc26 (L := L) (xs := xs) X hNc hX hbl hbA hRf hRl hk hn hi1 rfl (W9.2.2.2.2.2.2.2.2.2.2.2.2.2.2.2.2.2.2.2.2.2.2.2.2.2.2.1 _) kk
      · refine V_tableIn (tgt := 1654) X dL_law_39 (by omega) (by omega) (by rw [z]; rfl) (by decide) ?_
        exact tLc27 (L := L) (xs := xs) X hNc hX hbl hbA hRf hRl hk hn hi1 rfl hi2 rfl (W9.2.2.2.2.2.2.2.2.2.2.2.2.2.2.2.2.2.2.2.2.2.2.2.2.2.2.2.1 _ _) kk
      · refine V_tableIn (tgt := 1722) X dL_law_39 (by omega) (by omega) (by rw [z]; rfl) (by decide) ?_
        exact tLc28 (L := L) (xs := xs) X hNc hX hbl hbA hRf hRl hk hn hi1 rfl (W9.2.2.2.2.2.2.2.2.2.2.2.2.2.2.2.2.2.2.2.2.2.2.2.2.2.2.2.2.1 _) kk
      · refine V_tableIn (tgt := 1778) X dL_law_39 (by omega) (by omega) (by rw [z]; rfl) (by decide) ?_
        exact tLc29 (L := L) (xs := xs) X hNc hX hbl hbA hRf hRl hk hn (W9.2.2.2.2.2.2.2.2.2.2.2.2.2.2.2.2.2.2.2.2.2.2.2.2.2.2.2.2.2.1) kk
      · refine V_tableIn (tgt := 1791) X dL_law_39 (by omega) (by omega) (by rw [z]; rfl) (by decide) ?_
        exact tLc30 (L := L) (xs := xs) X hNc hX hbl hbA hRf hRl hk hn hi1 rfl (W9.2.2.2.2.2.2.2.2.2.2.2.2.2.2.2.2.2.2.2.2.2.2.2.2.2.2.2.2.2.2.1 _) kk
      · refine V_tableIn (tgt := 1847) X dL_law_39 (by omega) (by omega) (by rw [z]; rfl) (by decide) ?_
        exact tLc31 (L := L) (xs := xs) X hNc hX hbl hbA hRf hRl hk hn hi1 rfl (W9.2.2.2.2.2.2.2.2.2.2.2.2.2.2.2.2.2.2.2.2.2.2.2.2.2.2.2.2.2.2.2.1 _) kk
      · refine V_tableIn (tgt := 1903) X dL_law_39 (by omega) (by omega) (by rw [z]; rfl) (by decide) ?_
        exact tLc32 (L := L) (xs := xs) X hNc hX hbl hbA hRf hRl hk hn hi1 rfl (W9.2.2.2.2.2.2.2.2.2.2.2.2.2.2.2.2.2.2.2.2.2.2.2.2.2.2.2.2.2.2.2.2.1 _) kk
      · refine V_tableIn (tgt := 1959) X dL_law_39 (by omega) (by omega) (by rw [z]; rfl) (by decide) ?_
        exact tLc33 (L := L) (xs := xs) X hNc hX hbl hbA hRf hRl hk hn (W9.2.2.2.2.2.2.2.2.2.2.2.2.2.2.2.2.2.2.2.2.2.2.2.2.2.2.2.2.2.2.2.2.2.1) kk
      · refine V_tableIn (tgt := 1972) X dL_law_39 (by omega) (by omega) (by rw [z]; rfl) (by decide) ?_
        exact tLc34 (L := L) (xs := xs) X hNc hX hbl hbA hRf hRl hk hn hi1 rfl hi2 rfl (W9.2.2.2.2.2.2.2.2.2.2.2.2.2.2.2.2.2.2.2.2.2.2.2.2.2.2.2.2.2.2.2.2.2.2.1 _ _) kk
      · refine V_tableIn (tgt := 2040) X dL_law_39 (by omega) (by omega) (by rw [z]; rfl) (by decide) ?_
        exact tLc35 (L := L) (xs := xs) X hNc hX hbl hbA hRf hRl hk hn hi1 rfl (W9.2.2.2.2.2.2.2.2.2.2.2.2.2.2.2.2.2.2.2.2.2.2.2.2.2.2.2.2.2.2.2.2.2.2.2.1 _) kk
      · refine V_tableIn (tgt := 2096) X dL_law_39 (by omega) (by omega) (by rw [z]; rfl) (by decide) ?_
        exact tLc36 (L := L) (xs := xs) X hNc hX hbl hbA hRf hRl hk hn hi1 rfl (W9.2.2.2.2.2.2.2.2.2.2.2.2.2.2.2.2.2.2.2.2.2.2.2.2.2.2.2.2.2.2.2.2.2.2.2.2.1 _) kk
      · refine V_tableIn (tgt := 2152) X dL_law_39 (by omega) (by omega) (by rw [z]; rfl) (by decide) ?_
        exact tLc37 (L := L) (xs := xs) X hNc hX hbl hbA hRf hRl hk hn hi1 rfl hi2 rfl (W9.2.2.2.2.2.2.2.2.2.2.2.2.2.2.2.2.2.2.2.2.2.2.2.2.2.2.2.2.2.2.2.2.2.2.2.2.2.1 _ _) kk
      · refine V_tableIn (tgt := 2220) X dL_law_39 (by omega) (by omega) (by rw [z]; rfl) (by decide) ?_
        exact tLc38 (L := L) (xs := xs) X hNc hX hbl hbA hRf hRl hk hn hi1 rfl (W9.2.2.2.2.2.2.2.2.2.2.2.2.2.2.2.2.2.2.2.2.2.2.2.2.2.2.2.2.2.2.2.2.2.2.2.2.2.2.1 _) kk
      · refine V_tableIn (tgt := 2276) X dL_law_39 (by omega) (by omega) (by rw [z]; rfl) (by decide) ?_
        exact tLc39 (L := L) (xs := xs) X hNc hX hbl hbA hRf hRl hk hn hi1 rfl (W9.2.2.2.2.2.2.2.2.2.2.2.2.2.2.2.2.2.2.2.2.2.2.2.2.2.2.2.2.2.2.2.2.2.2.2.2.2.2.2.1 _) kk
      · refine V_tableIn (tgt := 2332) X dL_law_39 (by omega) (by omega) (by rw [z]; rfl) (by decide) ?_
        exact tLc40 (L := L) (xs := xs) X hNc hX hbl hbA hRf hRl hk hn hi1 rfl (W9.2.2.2.2.2.2.2.2.2.2.2.2.2.2.2.2.2.2.2.2.2.2.2.2.2.2.2.2.2.2.2.2.2.2.2.2.2.2.2.2 _) kk
      · refine V_tableOut (tgt := 2388) X dL_law_39 z (by decide) ?_
        exact V.widen (by omega) (by omega) (kk h (hid j h hj2 I))
