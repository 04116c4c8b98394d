/-! java/lang/Math.min(II)I -/
abbrev rmJ9_min_7cf53 : Room := { frames := 0, cells := 0, slots := 0, locals := 0 }
def vJ9_min_7cf53_b10 (t0 : Nat)  (Qn : Int32 → gH → Prop) (h : gH) (s0 : Int32) : Prop := Qn s0 h
set_option maxRecDepth 100000 in
set_option maxHeartbeats 4000000 in
theorem tJ9_min_7cf53_b10 {p : Program} {l : Launch} {e : Env} {s : State} {m : MethodId} {args : Array Value} {below : List Frame} {meth : Method} {c : Code} {G : gG} {A : Nat → Prop} {Qn : Int32 → gH → Prop} (X : gC p l s m args meth c G A cJ9_min_7cf53 2 (some FieldType.int) RJ9)   {h : gH} {s0 : Int32} (w : vJ9_min_7cf53_b10 G.2.2.1  Qn h s0) : V p l e rmJ9_min_7cf53 s m args below meth c (MQ below (va_Qi Qn (gB G A) A) args s rmJ9_min_7cf53.cells rmJ9_min_7cf53.slots A) G A 2 h 0 0 10 [] [.int s0] := by
  exact V_iret X rfl dJ9_min_7cf53_10 (Nat.le_of_ble_eq_true rfl) (Nat.le_of_ble_eq_true rfl) w
def vJ9_min_7cf53 (t0 : Nat)  (Qn : Int32 → gH → Prop) (h : gH) (v0 : Int32) (v1 : Int32) : Prop := ((v1 < (v0 : Int32)) → (vJ9_min_7cf53_b10 t0  Qn h v1)) ∧ ((¬ v1 < (v0 : Int32)) → (vJ9_min_7cf53_b10 t0  Qn h v0))
set_option maxRecDepth 100000 in
set_option maxHeartbeats 4000000 in
theorem tJ9_min_7cf53 {p : Program} {l : Launch} {e : Env} {s : State} {m : MethodId} {args : Array Value} {below : List Frame} {meth : Method} {c : Code} {G : gG} {A : Nat → Prop} {Qn : Int32 → gH → Prop} (X : gC p l s m args meth c G A cJ9_min_7cf53 2 (some FieldType.int) RJ9)   {h : gH} {v0 : Int32} {v1 : Int32} (w : vJ9_min_7cf53 G.2.2.1  Qn h v0 v1) : V p l e rmJ9_min_7cf53 s m args below meth c (MQ below (va_Qi Qn (gB G A) A) args s rmJ9_min_7cf53.cells rmJ9_min_7cf53.slots A) G A 2 h 0 0 0 [(0, .int v0), (1, .int v1)] [] := by
  refine V_iload_n X dJ9_min_7cf53_0 0 rfl ?_
  refine V_iload_n X dJ9_min_7cf53_1 1 rfl ?_
  obtain ⟨w1, w2⟩ := w
  refine V_icmp_gt (tgt := 9) X dJ9_min_7cf53_2 (by decide) (fun z => ?_) (fun z => ?_)
  · replace w := w1 z
    clear w1 w2
    refine V_iload_n X dJ9_min_7cf53_9 1 rfl ?_
    exact V.sub [] rfl (tJ9_min_7cf53_b10 X  w)
  · replace w := w2 z
    clear w1 w2
    refine V_iload_n X dJ9_min_7cf53_5 0 rfl ?_
    refine V_goto (tgt := 10) X dJ9_min_7cf53_6 (by decide) ?_
    exact V.sub [] rfl (tJ9_min_7cf53_b10 X  w)
theorem cJ9_min_7cf53_ok {l : Launch} {G : gG} {h : gH} (hls : l.stackTraces = false) {Qn : Int32 → gH → Prop} {v0 : Int32} {v1 : Int32} (w : vJ9_min_7cf53 G.2.2.1 Qn h v0 v1) : gMi l yJ9_min_7cf53 cJ9_min_7cf53 2 (some FieldType.int) rmJ9_min_7cf53 rmJ9_min_7cf53.cells rmJ9_min_7cf53.slots G h [.int v0, .int v1] Qn := by
  exact gMi.ofF (by decide +kernel) hls (Nat.le_of_ble_eq_true rfl) rfl rfl (fun p e s m below meth c A X hnm => tJ9_min_7cf53 X w)
/-! AnimationController$EventLog.kept()I -/
abbrev rmX2_kept : Room := { frames := 1, cells := 0, slots := 0, locals := 21 }
def vX2_kept (t0 : Nat)  (Qn : Int32 → gH → Prop) (h : gH) (v0 : Nat) : Prop := gi h v0 5 1 (fun x1 => vJ9_min_7cf53 t0 (fun x3 h2 => Qn x3 h2) h x1 30)
set_option maxRecDepth 100000 in
set_option maxHeartbeats 4000000 in
theorem tX2_kept {p : Program} {l : Launch} {e : Env} {s : State} {m : MethodId} {args : Array Value} {below : List Frame} {meth : Method} {c : Code} {G : gG} {A : Nat → Prop} {Qn : Int32 → gH → Prop} (X : gC p l s m args meth c G A cX2_kept 1 (some FieldType.int) RX2)   {h : gH} {v0 : Nat} (w : vX2_kept G.2.2.1  Qn h v0) : V p l e rmX2_kept s m args below meth c (MQ below (va_Qi Qn (gB G A) A) args s rmX2_kept.cells rmX2_kept.slots A) G A 1 h 0 0 0 [(0, .ref v0)] [] := by
  refine V_aloadr_n X dX2_kept_0 0 rfl ?_
  obtain ⟨fs, x1, hh, hv, w⟩ := w
  refine V_get X flX2_16 dX2_kept_1 hh hv ?_
  refine V_bipush (y := 30) X dX2_kept_4 (by decide) ?_
  refine V_callSi (As := [.int x1, .int 30]) (rest := []) (k1 := 0) (n1 := 0) X (cJ9_min_7cf53_ok X.2.2.2.2.2.2.2.2.1 w) lkX2_24 dX2_kept_6 ⟨Nat.le_of_ble_eq_true rfl, Nat.le_of_ble_eq_true rfl⟩ rfl (Nat.le_of_ble_eq_true rfl) ⟨Nat.le_of_ble_eq_true rfl, Nat.le_of_ble_eq_true rfl⟩ (Nat.le_of_ble_eq_true rfl) (Nat.le_of_ble_eq_true rfl) (fun x3 h2 w9 => ?_)
  replace w := w9
  clear w9
  exact V_iret X rfl dX2_kept_9 (Nat.le_of_ble_eq_true rfl) (Nat.le_of_ble_eq_true rfl) w
theorem cX2_kept_ok {l : Launch} {G : gG} {h : gH} (hls : l.stackTraces = false) {Qn : Int32 → gH → Prop} {v0 : Nat} (w : vX2_kept G.2.2.1 Qn h v0) : gMi l yX2_kept cX2_kept 1 (some FieldType.int) rmX2_kept rmX2_kept.cells rmX2_kept.slots G h [.ref v0] Qn := by
  exact gMi.of (by decide +kernel) hls (Nat.le_of_ble_eq_true rfl) rfl rfl (fun p e s m below meth c A X hnm => tX2_kept X w)
/-! AnimationController$EventLog.propertyOf(II)I -/
abbrev rmX2_propertyOf : Room := { frames := 2, cells := 0, slots := 0, locals := 42 }
def vX2_propertyOf_b21 (t0 : Nat)  (Qn : Int32 → gH → Prop) (h : gH)  : Prop := Qn (-1) h
set_option maxRecDepth 100000 in
set_option maxHeartbeats 4000000 in
theorem tX2_propertyOf_b21 {p : Program} {l : Launch} {e : Env} {s : State} {m : MethodId} {args : Array Value} {below : List Frame} {meth : Method} {c : Code} {G : gG} {A : Nat → Prop} {Qn : Int32 → gH → Prop} (X : gC p l s m args meth c G A cX2_propertyOf 3 (some FieldType.int) RX2)   {h : gH}  (w : vX2_propertyOf_b21 G.2.2.1  Qn h ) : V p l e rmX2_propertyOf s m args below meth c (MQ below (va_Qi Qn (gB G A) A) args s rmX2_propertyOf.cells rmX2_propertyOf.slots A) G A 3 h 0 0 21 [] [] := by
  refine V_iconst (y := (-1)) X dX2_propertyOf_21 (by decide) ?_
  exact V_iret X rfl dX2_propertyOf_22 (Nat.le_of_ble_eq_true rfl) (Nat.le_of_ble_eq_true rfl) w
def vX2_propertyOf (t0 : Nat)  (Qn : Int32 → gH → Prop) (h : gH) (v0 : Nat) (v1 : Int32) (v2 : Int32) : Prop := (((v1 : Int32) < 0) → (vX2_propertyOf_b21 t0  Qn h )) ∧ ((¬ (v1 : Int32) < 0) → (io h v0 5 (vX2_kept t0 (fun x2 h1 => ((x2 ≤ (v1 : Int32)) → (vX2_propertyOf_b21 t0  Qn h1 )) ∧ ((¬ x2 ≤ (v1 : Int32)) → ((((v2 : Int32) < 0) → (vX2_propertyOf_b21 t0  Qn h1 )) ∧ ((¬ (v2 : Int32) < 0) → ((((v2 : Int32) < 4) → (gr h1 v0 5 0 (fun r3 => nn r3 (fun a4 => lq h1 4 a4 v2 (fun r5 => gi h1 v0 5 1 (fun x6 => io h1 v0 5 (vX2_kept t0 (fun x8 h7 => vX2_placeOf t0 (fun x10 h9 => nn r5 (fun a11 => li h9 a11 x10 (fun x12 => Qn x12 h9))) h7 ((x6 - x8) + v1)) h1 v0 ))))))) ∧ ((¬ (v2 : Int32) < 4) → (vX2_propertyOf_b21 t0  Qn h1 ))))))) h v0 )))
set_option maxRecDepth 100000 in
set_option maxHeartbeats 4000000 in
theorem tX2_propertyOf {p : Program} {l : Launch} {e : Env} {s : State} {m : MethodId} {args : Array Value} {below : List Frame} {meth : Method} {c : Code} {G : gG} {A : Nat → Prop} {Qn : Int32 → gH → Prop} (X : gC p l s m args meth c G A cX2_propertyOf 3 (some FieldType.int) RX2)   {h : gH} {v0 : Nat} {v1 : Int32} {v2 : Int32} (w : vX2_propertyOf G.2.2.1  Qn h v0 v1 v2) : V p l e rmX2_propertyOf s m args below meth c (MQ below (va_Qi Qn (gB G A) A) args s rmX2_propertyOf.cells rmX2_propertyOf.slots A) G A 3 h 0 0 0 [(0, .ref v0), (1, .int v1), (2, .int v2)] [] := by
  refine V_iload_n X dX2_propertyOf_0 1 rfl ?_
  obtain ⟨w1, w2⟩ := w
  refine V_if_lt (tgt := 21) X dX2_propertyOf_1 (by decide) (fun z => ?_) (fun z => ?_)
  · replace w := w1 z
    clear w1 w2
    exact V.sub [] rfl (tX2_propertyOf_b21 X  w)
  · replace w := w2 z
    clear w1 w2
    refine V_iload_n X dX2_propertyOf_4 1 rfl ?_
    refine V_aloadr_n X dX2_propertyOf_5 0 rfl ?_
    obtain ⟨fs, hh, w⟩ := w
    refine V_callVi (As := []) (rest := [.int v1]) (k1 := 0) (n1 := 0) X (cX2_kept_ok X.2.2.2.2.2.2.2.2.1 w) lkX2_30 hh (q9 := (RX2, TX2, 2)) rfl rfl dX2_propertyOf_6 ⟨Nat.le_of_ble_eq_true rfl, Nat.le_of_ble_eq_true rfl⟩ rfl (Nat.le_of_ble_eq_true rfl) ⟨Nat.le_of_ble_eq_true rfl, Nat.le_of_ble_eq_true rfl⟩ (Nat.le_of_ble_eq_true rfl) (Nat.le_of_ble_eq_true rfl) (fun x2 h1 w9 => ?_)
    replace w := w9
    clear w9
    obtain ⟨w1, w2⟩ := w
    refine V_icmp_ge (tgt := 21) X dX2_propertyOf_9 (by decide) (fun z => ?_) (fun z => ?_)
    · replace w := w1 z
      clear w1 w2
      exact V.sub [] rfl (tX2_propertyOf_b21 X  w)
    · replace w := w2 z
      clear w1 w2
      refine V_iload_n X dX2_propertyOf_12 2 rfl ?_
      obtain ⟨w1, w2⟩ := w
      refine V_if_lt (tgt := 21) X dX2_propertyOf_13 (by decide) (fun z => ?_) (fun z => ?_)
      · replace w := w1 z
        clear w1 w2
        exact V.sub [] rfl (tX2_propertyOf_b21 X  w)
      · replace w := w2 z
        clear w1 w2
        refine V_iload_n X dX2_propertyOf_16 2 rfl ?_
        refine V_iconst (y := 4) X dX2_propertyOf_17 (by decide) ?_
        obtain ⟨w1, w2⟩ := w
        refine V_icmp_lt (tgt := 23) X dX2_propertyOf_18 (by decide) (fun z => ?_) (fun z => ?_)
        · replace w := w1 z
          clear w1 w2
          refine V_aloadr_n X dX2_propertyOf_23 0 rfl ?_
          obtain ⟨fs, r3, hh, hv, w⟩ := w
          refine V_get X flX2_13 dX2_propertyOf_24 hh hv ?_
          refine V_iload_n X dX2_propertyOf_27 2 rfl ?_
          obtain ⟨a4, rfl, w⟩ := w
          obtain ⟨N9, g9, hh, hi, w⟩ := w
          refine V_aald4 X dX2_propertyOf_28 hh hi ?_
          generalize g9 _ = r5 at w ⊢
          refine V_aloadr_n X dX2_propertyOf_29 0 rfl ?_
          obtain ⟨fs, x6, hh, hv, w⟩ := w
          refine V_get X flX2_16 dX2_propertyOf_30 hh hv ?_
          refine V_aloadr_n X dX2_propertyOf_33 0 rfl ?_
          obtain ⟨fs, hh, w⟩ := w
          refine V_callVi (As := []) (rest := [.int x6, va_rf r5]) (k1 := 0) (n1 := 0) X (cX2_kept_ok X.2.2.2.2.2.2.2.2.1 w) lkX2_30 hh (q9 := (RX2, TX2, 2)) rfl rfl dX2_propertyOf_34 ⟨Nat.le_of_ble_eq_true rfl, Nat.le_of_ble_eq_true rfl⟩ rfl (va_len _ 4 (Nat.le_of_ble_eq_true rfl)) ⟨Nat.le_of_ble_eq_true rfl, Nat.le_of_ble_eq_true rfl⟩ (Nat.le_of_ble_eq_true rfl) (Nat.le_of_ble_eq_true rfl) (fun x8 h7 w9 => ?_)
          replace w := w9
          clear w9
          refine V_isub X dX2_propertyOf_37 ?_
          refine V_iload_n X dX2_propertyOf_38 1 rfl ?_
          refine V_iadd X dX2_propertyOf_39 ?_
          refine V_callSi (As := [.int ((x6 - x8) + v1)]) (rest := [va_rf r5]) (k1 := 0) (n1 := 0) X (cX2_placeOf_ok X.2.2.2.2.2.2.2.2.1 w) lkX2_20 dX2_propertyOf_40 ⟨Nat.le_of_ble_eq_true rfl, Nat.le_of_ble_eq_true rfl⟩ rfl (va_len _ 4 (Nat.le_of_ble_eq_true rfl)) ⟨Nat.le_of_ble_eq_true rfl, Nat.le_of_ble_eq_true rfl⟩ (Nat.le_of_ble_eq_true rfl) (Nat.le_of_ble_eq_true rfl) (fun x10 h9 w9 => ?_)
          replace w := w9
          clear w9
          obtain ⟨a11, rfl, w⟩ := w
          obtain ⟨N9, g9, hh, hi, w⟩ := w
          refine V_iald X dX2_propertyOf_43 hh hi ?_
          generalize g9 _ = x12 at w ⊢
          exact V_iret X rfl dX2_propertyOf_44 (Nat.le_of_ble_eq_true rfl) (Nat.le_of_ble_eq_true rfl) w
        · replace w := w2 z
          clear w1 w2
          exact V.sub [] rfl (tX2_propertyOf_b21 X  w)
theorem cX2_propertyOf_ok {l : Launch} {G : gG} {h : gH} (hls : l.stackTraces = false) {Qn : Int32 → gH → Prop} {v0 : Nat} {v1 : Int32} {v2 : Int32} (w : vX2_propertyOf G.2.2.1 Qn h v0 v1 v2) : gMi l yX2_propertyOf cX2_propertyOf 3 (some FieldType.int) rmX2_propertyOf rmX2_propertyOf.cells rmX2_propertyOf.slots G h [.ref v0, .int v1, .int v2] Qn := by
  exact gMi.of (by decide +kernel) hls (Nat.le_of_ble_eq_true rfl) rfl rfl (fun p e s m below meth c A X hnm => tX2_propertyOf X w)
/-! AnimationController$EventLog.copyFrom(LAnimationController$EventLog;)V -/
abbrev rmX2_copyFrom : Room := { frames := 1, cells := 0, slots := 0, locals := 60 }
def vX2_copyFrom_b10_o (t0 : Nat) (k10 : gH → Nat → Option Nat → Int32 → Prop) (Qn : gH → Prop) (h : gH) (v0 : Nat) (v1 : Option Nat) (v2 : Int32) : Prop := ((4 ≤ (v2 : Int32)) → (Qn h)) ∧ ((¬ 4 ≤ (v2 : Int32)) → (nn v1 (fun a1 => gr h a1 5 0 (fun r2 => nn r2 (fun a3 => lq h 4 a3 v2 (fun r4 => gr h v0 5 0 (fun r5 => nn r5 (fun a6 => lq h 4 a6 v2 (fun r7 => nn r4 (fun a8 => nn r7 (fun a9 => cpi h a8 0 a9 0 30 (fun h10 => k10 h10 v0 (some a1) (v2 + 1)))))))))))))
set_option maxRecDepth 100000 in
set_option maxHeartbeats 4000000 in
theorem tX2_copyFrom_b10_o {p : Program} {l : Launch} {e : Env} {s : State} {m : MethodId} {args : Array Value} {below : List Frame} {meth : Method} {c : Code} {G : gG} {A : Nat → Prop} {Qn : gH → Prop} (X : gC p l s m args meth c G A cX2_copyFrom 3 none RX2) {k10 : gH → Nat → Option Nat → Int32 → Prop} (H10 : ∀ (h : gH) (v0 : Nat) (v1 : Option Nat) (v2 : Int32), k10 h v0 v1 v2 → V p l e rmX2_copyFrom s m args below meth c (MQ below (va_Qv Qn (gB G A) A) args s rmX2_copyFrom.cells rmX2_copyFrom.slots A) G A 3 h 0 0 10 [(0, .ref v0), (1, va_rf v1), (2, .int v2)] []) {h : gH} {v0 : Nat} {v1 : Option Nat} {v2 : Int32} (w : vX2_copyFrom_b10_o G.2.2.1 k10 Qn h v0 v1 v2) : V p l e rmX2_copyFrom s m args below meth c (MQ below (va_Qv Qn (gB G A) A) args s rmX2_copyFrom.cells rmX2_copyFrom.slots A) G A 3 h 0 0 10 [(0, .ref v0), (1, va_rf v1), (2, .int v2)] [] := by
  refine V_iload_n X dX2_copyFrom_10 2 rfl ?_
  refine V_iconst (y := 4) X dX2_copyFrom_11 (by decide) ?_
  obtain ⟨w1, w2⟩ := w
  refine V_icmp_ge (tgt := 40) X dX2_copyFrom_12 (by decide) (fun z => ?_) (fun z => ?_)
  · replace w := w1 z
    clear w1 w2
    exact V_vret X rfl dX2_copyFrom_40 (Nat.le_of_ble_eq_true rfl) (Nat.le_of_ble_eq_true rfl) w
  · replace w := w2 z
    clear w1 w2
    refine V_aload_n X dX2_copyFrom_15 1 rfl ?_
    obtain ⟨a1, rfl, w⟩ := w
    obtain ⟨fs, r2, hh, hv, w⟩ := w
    refine V_get X flX2_13 dX2_copyFrom_16 hh hv ?_
    refine V_iload_n X dX2_copyFrom_19 2 rfl ?_
    obtain ⟨a3, rfl, w⟩ := w
    obtain ⟨N9, g9, hh, hi, w⟩ := w
    refine V_aald4 X dX2_copyFrom_20 hh hi ?_
    generalize g9 _ = r4 at w ⊢
    refine V_iconst (y := 0) X dX2_copyFrom_21 (by decide) ?_
    refine V_aloadr_n X dX2_copyFrom_22 0 rfl ?_
    obtain ⟨fs, r5, hh, hv, w⟩ := w
    refine V_get X flX2_13 dX2_copyFrom_23 hh hv ?_
    refine V_iload_n X dX2_copyFrom_26 2 rfl ?_
    obtain ⟨a6, rfl, w⟩ := w
    obtain ⟨N9, g9, hh, hi, w⟩ := w
    refine V_aald4 X dX2_copyFrom_27 hh hi ?_
    generalize g9 _ = r7 at w ⊢
    refine V_iconst (y := 0) X dX2_copyFrom_28 (by decide) ?_
    refine V_bipush (y := 30) X dX2_copyFrom_29 (by decide) ?_
    obtain ⟨a8, rfl, w⟩ := w
    obtain ⟨a9, rfl, w⟩ := w
    obtain ⟨Na, Nb, f9, g9, hh, hb9, y3, y4, y5, y6, y7, w⟩ := w
    refine V_cpi X acX2_34 hh hb9 y3 y4 y5 y6 y7 (Nat.le_of_ble_eq_true rfl) (Nat.le_trans (Nat.add_le_add_right (va_len _ 4 (Nat.le_of_ble_eq_true rfl)) _) (by decide +kernel)) dX2_copyFrom_31 ?_
    generalize va_up _ _ _ = h10 at w ⊢
    refine V_iinc (y := (v2 + 1)) X dX2_copyFrom_34 2 rfl (by first | rfl | (congr 1)) (by decide) rfl ?_
    refine V_goto (tgt := 10) X dX2_copyFrom_37 (by decide) ?_
    exact V.sub [1, 2, 0] rfl (H10 _ _ _ _ w)
def vX2_copyFrom_b10 (t0 : Nat)  (Qn : gH → Prop) (n : Nat) : gH → Nat → Option Nat → Int32 → Prop := Nat.rec (motive := fun _ => gH → Nat → Option Nat → Int32 → Prop) (fun _ _ _ _ => False) (fun _ k10 => vX2_copyFrom_b10_o t0 k10 Qn) n
theorem tX2_copyFrom_b10 {p : Program} {l : Launch} {e : Env} {s : State} {m : MethodId} {args : Array Value} {below : List Frame} {meth : Method} {c : Code} {G : gG} {A : Nat → Prop} {Qn : gH → Prop} (X : gC p l s m args meth c G A cX2_copyFrom 3 none RX2)   : ∀ (n : Nat) (h : gH) (v0 : Nat) (v1 : Option Nat) (v2 : Int32) (w : vX2_copyFrom_b10 G.2.2.1  Qn n h v0 v1 v2), V p l e rmX2_copyFrom s m args below meth c (MQ below (va_Qv Qn (gB G A) A) args s rmX2_copyFrom.cells rmX2_copyFrom.slots A) G A 3 h 0 0 10 [(0, .ref v0), (1, va_rf v1), (2, .int v2)] [] := by
  intro n
  induction n with
  | zero => intro h v0 v1 v2 w; exact False.elim w
  | succ n ih => intro h v0 v1 v2 w; exact tX2_copyFrom_b10_o X ih w
def vX2_copyFrom (t0 : Nat)  (Qn : gH → Prop) (h : gH) (v0 : Nat) (v1 : Option Nat) : Prop := nn v1 (fun a1 => gi h a1 5 1 (fun x2 => pv h v0 5 1 (.int x2) (fun h3 => ∃ n : Nat, vX2_copyFrom_b10 t0  Qn n h3 v0 (some a1) 0)))
set_option maxRecDepth 100000 in
set_option maxHeartbeats 4000000 in
theorem tX2_copyFrom {p : Program} {l : Launch} {e : Env} {s : State} {m : MethodId} {args : Array Value} {below : List Frame} {meth : Method} {c : Code} {G : gG} {A : Nat → Prop} {Qn : gH → Prop} (X : gC p l s m args meth c G A cX2_copyFrom 3 none RX2)   {h : gH} {v0 : Nat} {v1 : Option Nat} (w : vX2_copyFrom G.2.2.1  Qn h v0 v1) : V p l e rmX2_copyFrom s m args below meth c (MQ below (va_Qv Qn (gB G A) A) args s rmX2_copyFrom.cells rmX2_copyFrom.slots A) G A 3 h 0 0 0 [(0, .ref v0), (1, va_rf v1)] [] := by
  refine V_aloadr_n X dX2_copyFrom_0 0 rfl ?_
  refine V_aload_n X dX2_copyFrom_1 1 rfl ?_
  obtain ⟨a1, rfl, w⟩ := w
  obtain ⟨fs, x2, hh, hv, w⟩ := w
  refine V_get X flX2_16 dX2_copyFrom_2 hh hv ?_
  obtain ⟨fs, hh, hv, w⟩ := w
  refine V_put X flX2_16 dX2_copyFrom_5 hh hv rfl rfl ?_
  generalize va_up _ _ _ = h3 at w ⊢
  refine V_iconst (y := 0) X dX2_copyFrom_8 (by decide) ?_
  refine V_istore_n (i0 := 2) X dX2_copyFrom_9 rfl (by decide) rfl ?_
  obtain ⟨n9, w⟩ := w
  exact V.sub [1, 2, 0] rfl (tX2_copyFrom_b10 X  n9 _ _ _ _ w)
theorem cX2_copyFrom_ok {l : Launch} {G : gG} {h : gH} (hls : l.stackTraces = false) {Qn : gH → Prop} {v0 : Nat} {v1 : Option Nat} (w : vX2_copyFrom G.2.2.1 Qn h v0 v1) : gMv l yX2_copyFrom cX2_copyFrom 3 none rmX2_copyFrom rmX2_copyFrom.cells rmX2_copyFrom.slots G h [.ref v0, va_rf v1] Qn := by
  cases v1 <;>
  exact gMv.of (by decide +kernel) hls (Nat.le_of_ble_eq_true rfl) rfl rfl (fun p e s m below meth c A X hnm => tX2_copyFrom X w)
/-! AnimationController$Pose.<init>()V -/
abbrev rmX6_init : Room := { frames := 1, cells := 3, slots := 96, locals := 20 }
def vX6_init (t0 : Nat)  (Qn : gH → Prop) (h : gH) (v0 : Nat) : Prop := nw h (.inl (0, 32, .inl (fun _ => 0))) (fun q1 h2 => pv h2 v0 9 0 (.ref q1) (fun h3 => nw h3 (.inl (0, 32, .inl (fun _ => 0))) (fun q4 h5 => pv h5 v0 9 1 (.ref q4) (fun h6 => nw h6 (.inl (0, 32, .inl (fun _ => 0))) (fun q7 h8 => pv h8 v0 9 2 (.ref q7) (fun h9 => Qn h9))))))
set_option maxRecDepth 100000 in
set_option maxHeartbeats 4000000 in
theorem tX6_init {p : Program} {l : Launch} {e : Env} {s : State} {m : MethodId} {args : Array Value} {below : List Frame} {meth : Method} {c : Code} {G : gG} {A : Nat → Prop} {Qn : gH → Prop} (X : gC p l s m args meth c G A cX6_init 1 none RX6) (hin : meth.name = "<init>")   {h : gH} {v0 : Nat} (w : vX6_init G.2.2.1  Qn h v0) : V p l e rmX6_init s m args below meth c (MQ below (va_Qv Qn (gB G A) A) args s rmX6_init.cells rmX6_init.slots A) G A 1 h 0 0 0 [(0, .ref v0)] [] := by
  refine V_aloadr_n X dX6_init_0 0 rfl ?_
  refine V_objInit X kw_294 kw_41 kw_42 dX6_init_1 (Nat.le_of_ble_eq_true rfl) (Nat.le_of_ble_eq_true rfl) ?_
  refine V_aloadr_n X dX6_init_4 0 rfl ?_
  refine V_bipush (y := 32) X dX6_init_5 (by decide) ?_
  refine V_newa_int (N := 32) (k1 := 1) (n1 := 32) X kw_75 dX6_init_7 (by decide) (by decide) (Nat.le_of_ble_eq_true rfl) ⟨Nat.le_of_ble_eq_true rfl, Nat.le_of_ble_eq_true rfl⟩ (Nat.le_of_ble_eq_true rfl) (Nat.le_of_ble_eq_true rfl) (fun q1 hq => ?_)
  replace w := w q1 hq
  generalize va_up _ _ _ = h2 at w ⊢
  obtain ⟨fs, hh, hv, w⟩ := w
  refine V_putF X hin flX6_9 dX6_init_9 hh hv rfl rfl ?_
  generalize va_up _ _ _ = h3 at w ⊢
  refine V_aloadr_n X dX6_init_12 0 rfl ?_
  refine V_bipush (y := 32) X dX6_init_13 (by decide) ?_
  refine V_newa_int (N := 32) (k1 := 2) (n1 := 64) X kw_75 dX6_init_15 (by decide) (by decide) (Nat.le_of_ble_eq_true rfl) ⟨Nat.le_of_ble_eq_true rfl, Nat.le_of_ble_eq_true rfl⟩ (Nat.le_of_ble_eq_true rfl) (Nat.le_of_ble_eq_true rfl) (fun q4 hq => ?_)
  replace w := w q4 hq
  generalize va_up _ _ _ = h5 at w ⊢
  obtain ⟨fs, hh, hv, w⟩ := w
  refine V_putF X hin flX6_15 dX6_init_17 hh hv rfl rfl ?_
  generalize va_up _ _ _ = h6 at w ⊢
  refine V_aloadr_n X dX6_init_20 0 rfl ?_
  refine V_bipush (y := 32) X dX6_init_21 (by decide) ?_
  refine V_newa_int (N := 32) (k1 := 3) (n1 := 96) X kw_75 dX6_init_23 (by decide) (by decide) (Nat.le_of_ble_eq_true rfl) ⟨Nat.le_of_ble_eq_true rfl, Nat.le_of_ble_eq_true rfl⟩ (Nat.le_of_ble_eq_true rfl) (Nat.le_of_ble_eq_true rfl) (fun q7 hq => ?_)
  replace w := w q7 hq
  generalize va_up _ _ _ = h8 at w ⊢
  obtain ⟨fs, hh, hv, w⟩ := w
  refine V_putF X hin flX6_18 dX6_init_25 hh hv rfl rfl ?_
  generalize va_up _ _ _ = h9 at w ⊢
  exact V_vret X rfl dX6_init_28 (Nat.le_of_ble_eq_true rfl) (Nat.le_of_ble_eq_true rfl) w
theorem cX6_init_ok {l : Launch} {G : gG} {h : gH} (hls : l.stackTraces = false) {Qn : gH → Prop} {v0 : Nat} (w : vX6_init G.2.2.1 Qn h v0) : gMv l yX6_init cX6_init 1 none rmX6_init rmX6_init.cells rmX6_init.slots G h [.ref v0] Qn := by
  exact gMv.of (by decide +kernel) hls (Nat.le_of_ble_eq_true rfl) rfl rfl (fun p e s m below meth c A X hnm => tX6_init X hnm w)
/-! AnimationController$Track.<init>(LAnimationController$State;)V -/
abbrev rmX8_init : Room := { frames := 1, cells := 0, slots := 0, locals := 20 }
def vX8_init (t0 : Nat)  (Qn : gH → Prop) (h : gH) (v0 : Nat) (v1 : Option Nat) : Prop := pv h v0 11 3 (.int 1) (fun h1 => pv h1 v0 11 5 (.int 1) (fun h2 => pv h2 v0 11 0 (va_rf v1) (fun h3 => Qn h3)))
set_option maxRecDepth 100000 in
set_option maxHeartbeats 4000000 in
theorem tX8_init {p : Program} {l : Launch} {e : Env} {s : State} {m : MethodId} {args : Array Value} {below : List Frame} {meth : Method} {c : Code} {G : gG} {A : Nat → Prop} {Qn : gH → Prop} (X : gC p l s m args meth c G A cX8_init 2 none RX8) (hin : meth.name = "<init>")   {h : gH} {v0 : Nat} {v1 : Option Nat} (w : vX8_init G.2.2.1  Qn h v0 v1) : V p l e rmX8_init s m args below meth c (MQ below (va_Qv Qn (gB G A) A) args s rmX8_init.cells rmX8_init.slots A) G A 2 h 0 0 0 [(0, .ref v0), (1, va_rf v1)] [] := by
  refine V_aloadr_n X dX8_init_0 0 rfl ?_
  refine V_objInit X kw_345 kw_41 kw_42 dX8_init_1 (Nat.le_of_ble_eq_true rfl) (Nat.le_of_ble_eq_true rfl) ?_
  refine V_aloadr_n X dX8_init_4 0 rfl ?_
  refine V_iconst (y := 1) X dX8_init_5 (by decide) ?_
  obtain ⟨fs, hh, hv, w⟩ := w
  refine V_put X flX8_9 dX8_init_6 hh hv rfl rfl ?_
  generalize va_up _ _ _ = h1 at w ⊢
  refine V_aloadr_n X dX8_init_9 0 rfl ?_
  refine V_iconst (y := 1) X dX8_init_10 (by decide) ?_
  obtain ⟨fs, hh, hv, w⟩ := w
  refine V_put X flX8_15 dX8_init_11 hh hv rfl rfl ?_
  generalize va_up _ _ _ = h2 at w ⊢
  refine V_aloadr_n X dX8_init_14 0 rfl ?_
  refine V_aload_n X dX8_init_15 1 rfl ?_
  obtain ⟨fs, hh, hv, w⟩ := w
  refine V_put X flX8_18 dX8_init_16 hh hv (by cases v1 <;> rfl) (by cases v1 <;> rfl) ?_
  generalize va_up _ _ _ = h3 at w ⊢
  exact V_vret X rfl dX8_init_19 (Nat.le_of_ble_eq_true rfl) (Nat.le_of_ble_eq_true rfl) w
theorem cX8_init_ok {l : Launch} {G : gG} {h : gH} (hls : l.stackTraces = false) {Qn : gH → Prop} {v0 : Nat} {v1 : Option Nat} (w : vX8_init G.2.2.1 Qn h v0 v1) : gMv l yX8_init cX8_init 2 none rmX8_init rmX8_init.cells rmX8_init.slots G h [.ref v0, va_rf v1] Qn := by
  cases v1 <;>
  exact gMv.of (by decide +kernel) hls (Nat.le_of_ble_eq_true rfl) rfl rfl (fun p e s m below meth c A X hnm => tX8_init X hnm w)
/-! AnimationController$Machine.<init>(LAnimationController$Model;)V -/
abbrev rmX3_init : Room := { frames := 2, cells := 19, slots := 359, locals := 41 }
def vX3_init (t0 : Nat)  (Qn : gH → Prop) (h : gH) (v0 : Nat) (v1 : Option Nat) : Prop := nw h (.inl (0, 8, .inl (fun _ => 0))) (fun q1 h2 => pv h2 v0 6 1 (.ref q1) (fun h3 => nw h3 (.inr (9, [.null, .null, .null, .int 0])) (fun q4 h5 => vX6_init t0 (fun h6 => pv h6 v0 6 7 (.ref q4) (fun h7 => nw h7 (.inr (5, [.null, .int 0])) (fun q8 h9 => vX2_init t0 (fun h10 => pv h10 v0 6 10 (.ref q8) (fun h11 => nw h11 (.inr (3, [.null])) (fun q12 h13 => vX0_init t0 (fun h14 => pv h14 v0 6 11 (.ref q12) (fun h15 => nw h15 (.inr (9, [.null, .null, .null, .int 0])) (fun q16 h17 => vX6_init t0 (fun h18 => pv h18 v0 6 12 (.ref q16) (fun h19 => pv h19 v0 6 0 (va_rf v1) (fun h20 => nw h20 (.inr (11, [.null, .long 0, .int 0, .int 0, .long 0, .int 0])) (fun q21 h22 => nn v1 (fun a23 => gr h22 a23 7 7 (fun r24 => vX8_init t0 (fun h25 => pv h25 v0 6 2 (.ref q21) (fun h26 => nw h26 (.inr (11, [.null, .long 0, .int 0, .int 0, .long 0, .int 0])) (fun q27 h28 => gr h28 a23 7 7 (fun r29 => vX8_init t0 (fun h30 => pv h30 v0 6 3 (.ref q27) (fun h31 => Qn h31)) h28 q27 r29)))) h22 q21 r24)))))) h17 q16 ))) h13 q12 ))) h9 q8 ))) h5 q4 )))
set_option maxRecDepth 100000 in
set_option maxHeartbeats 4000000 in
theorem tX3_init {p : Program} {l : Launch} {e : Env} {s : State} {m : MethodId} {args : Array Value} {below : List Frame} {meth : Method} {c : Code} {G : gG} {A : Nat → Prop} {Qn : gH → Prop} (X : gC p l s m args meth c G A cX3_init 2 none RX3) (hin : meth.name = "<init>")   {h : gH} {v0 : Nat} {v1 : Option Nat} (w : vX3_init G.2.2.1  Qn h v0 v1) : V p l e rmX3_init s m args below meth c (MQ below (va_Qv Qn (gB G A) A) args s rmX3_init.cells rmX3_init.slots A) G A 2 h 0 0 0 [(0, .ref v0), (1, va_rf v1)] [] := by
  refine V_aloadr_n X dX3_init_0 0 rfl ?_
  refine V_objInit X kw_288 kw_41 kw_42 dX3_init_1 (Nat.le_of_ble_eq_true rfl) (Nat.le_of_ble_eq_true rfl) ?_
  refine V_aloadr_n X dX3_init_4 0 rfl ?_
  refine V_bipush (y := 8) X dX3_init_5 (by decide) ?_
  refine V_newa_int (N := 8) (k1 := 1) (n1 := 8) X kw_75 dX3_init_7 (by decide) (by decide) (Nat.le_of_ble_eq_true rfl) ⟨Nat.le_of_ble_eq_true rfl, Nat.le_of_ble_eq_true rfl⟩ (Nat.le_of_ble_eq_true rfl) (Nat.le_of_ble_eq_true rfl) (fun q1 hq => ?_)
  replace w := w q1 hq
  generalize va_up _ _ _ = h2 at w ⊢
  obtain ⟨fs, hh, hv, w⟩ := w
  refine V_putF X hin flX3_9 dX3_init_9 hh hv rfl rfl ?_
  generalize va_up _ _ _ = h3 at w ⊢
  refine V_aloadr_n X dX3_init_12 0 rfl ?_
  refine V_new (k1 := 2) (n1 := 12) X nwX3_15 dX3_init_13 ⟨(Nat.le_of_ble_eq_true rfl), (Nat.le_of_ble_eq_true rfl)⟩ (Nat.le_of_ble_eq_true rfl) (Nat.le_of_ble_eq_true rfl) (fun q4 hq => ?_)
  replace w := w q4 hq
  generalize va_up _ _ _ = h5 at w ⊢
  refine V_dup X dX3_init_16 rfl ?_
  refine V_callIN (As := []) (rest := [.ref q4, .ref v0]) (k1 := 5) (n1 := 108) X (cX6_init_ok X.2.2.2.2.2.2.2.2.1 w) lkX3_17 dX3_init_17 ⟨Nat.le_of_ble_eq_true rfl, Nat.le_of_ble_eq_true rfl⟩ rfl (Nat.le_of_ble_eq_true rfl) ⟨Nat.le_of_ble_eq_true rfl, Nat.le_of_ble_eq_true rfl⟩ (Nat.le_of_ble_eq_true rfl) (Nat.le_of_ble_eq_true rfl) (fun h6 w9 => ?_)
  replace w := w9
  clear w9
  obtain ⟨fs, hh, hv, w⟩ := w
  refine V_putF X hin flX3_18 dX3_init_20 hh hv rfl rfl ?_
  generalize va_up _ _ _ = h7 at w ⊢
  refine V_aloadr_n X dX3_init_23 0 rfl ?_
  refine V_new (k1 := 6) (n1 := 110) X nwX3_22 dX3_init_24 ⟨(Nat.le_of_ble_eq_true rfl), (Nat.le_of_ble_eq_true rfl)⟩ (Nat.le_of_ble_eq_true rfl) (Nat.le_of_ble_eq_true rfl) (fun q8 hq => ?_)
  replace w := w q8 hq
  generalize va_up _ _ _ = h9 at w ⊢
  refine V_dup X dX3_init_27 rfl ?_
  refine V_callIN (As := []) (rest := [.ref q8, .ref v0]) (k1 := 11) (n1 := 234) X (cX2_init_ok X.2.2.2.2.2.2.2.2.1 w) lkX3_24 dX3_init_28 ⟨Nat.le_of_ble_eq_true rfl, Nat.le_of_ble_eq_true rfl⟩ rfl (Nat.le_of_ble_eq_true rfl) ⟨Nat.le_of_ble_eq_true rfl, Nat.le_of_ble_eq_true rfl⟩ (Nat.le_of_ble_eq_true rfl) (Nat.le_of_ble_eq_true rfl) (fun h10 w9 => ?_)
  replace w := w9
  clear w9
  obtain ⟨fs, hh, hv, w⟩ := w
  refine V_putF X hin flX3_25 dX3_init_31 hh hv rfl rfl ?_
  generalize va_up _ _ _ = h11 at w ⊢
  refine V_aloadr_n X dX3_init_34 0 rfl ?_
  refine V_new (k1 := 12) (n1 := 235) X nwX3_29 dX3_init_35 ⟨(Nat.le_of_ble_eq_true rfl), (Nat.le_of_ble_eq_true rfl)⟩ (Nat.le_of_ble_eq_true rfl) (Nat.le_of_ble_eq_true rfl) (fun q12 hq => ?_)
  replace w := w q12 hq
  generalize va_up _ _ _ = h13 at w ⊢
  refine V_dup X dX3_init_38 rfl ?_
  refine V_callIN (As := []) (rest := [.ref q12, .ref v0]) (k1 := 13) (n1 := 247) X (cX0_init_ok X.2.2.2.2.2.2.2.2.1 w) lkX3_31 dX3_init_39 ⟨Nat.le_of_ble_eq_true rfl, Nat.le_of_ble_eq_true rfl⟩ rfl (Nat.le_of_ble_eq_true rfl) ⟨Nat.le_of_ble_eq_true rfl, Nat.le_of_ble_eq_true rfl⟩ (Nat.le_of_ble_eq_true rfl) (Nat.le_of_ble_eq_true rfl) (fun h14 w9 => ?_)
  replace w := w9
  clear w9
  obtain ⟨fs, hh, hv, w⟩ := w
  refine V_putF X hin flX3_32 dX3_init_42 hh hv rfl rfl ?_
  generalize va_up _ _ _ = h15 at w ⊢
  refine V_aloadr_n X dX3_init_45 0 rfl ?_
  refine V_new (k1 := 14) (n1 := 251) X nwX3_15 dX3_init_46 ⟨(Nat.le_of_ble_eq_true rfl), (Nat.le_of_ble_eq_true rfl)⟩ (Nat.le_of_ble_eq_true rfl) (Nat.le_of_ble_eq_true rfl) (fun q16 hq => ?_)
  replace w := w q16 hq
  generalize va_up _ _ _ = h17 at w ⊢
  refine V_dup X dX3_init_49 rfl ?_
  refine V_callIN (As := []) (rest := [.ref q16, .ref v0]) (k1 := 17) (n1 := 347) X (cX6_init_ok X.2.2.2.2.2.2.2.2.1 w) lkX3_17 dX3_init_50 ⟨Nat.le_of_ble_eq_true rfl, Nat.le_of_ble_eq_true rfl⟩ rfl (Nat.le_of_ble_eq_true rfl) ⟨Nat.le_of_ble_eq_true rfl, Nat.le_of_ble_eq_true rfl⟩ (Nat.le_of_ble_eq_true rfl) (Nat.le_of_ble_eq_true rfl) (fun h18 w9 => ?_)
  replace w := w9
  clear w9
  obtain ⟨fs, hh, hv, w⟩ := w
  refine V_putF X hin flX3_36 dX3_init_53 hh hv rfl rfl ?_
  generalize va_up _ _ _ = h19 at w ⊢
  refine V_aloadr_n X dX3_init_56 0 rfl ?_
  refine V_aload_n X dX3_init_57 1 rfl ?_
  obtain ⟨fs, hh, hv, w⟩ := w
  refine V_putF X hin flX3_39 dX3_init_58 hh hv (by cases v1 <;> rfl) (by cases v1 <;> rfl) ?_
  generalize va_up _ _ _ = h20 at w ⊢
  refine V_aloadr_n X dX3_init_61 0 rfl ?_
  refine V_new (k1 := 18) (n1 := 353) X nwX3_43 dX3_init_62 ⟨(Nat.le_of_ble_eq_true rfl), (Nat.le_of_ble_eq_true rfl)⟩ (Nat.le_of_ble_eq_true rfl) (Nat.le_of_ble_eq_true rfl) (fun q21 hq => ?_)
  replace w := w q21 hq
  generalize va_up _ _ _ = h22 at w ⊢
  refine V_dup X dX3_init_65 rfl ?_
  refine V_aload_n X dX3_init_66 1 rfl ?_
  obtain ⟨a23, rfl, w⟩ := w
  obtain ⟨fs, r24, hh, hv, w⟩ := w
  refine V_get3 X frX3_45 dX3_init_67 hh hv ?_
  refine V_callI (As := [va_rf r24]) (rest := [.ref q21, .ref v0]) (k1 := 18) (n1 := 353) X (cX8_init_ok X.2.2.2.2.2.2.2.2.1 w) lkX3_51 dX3_init_70 ⟨Nat.le_of_ble_eq_true rfl, Nat.le_of_ble_eq_true rfl⟩ rfl (Nat.le_of_ble_eq_true rfl) ⟨Nat.le_of_ble_eq_true rfl, Nat.le_of_ble_eq_true rfl⟩ (Nat.le_of_ble_eq_true rfl) (Nat.le_of_ble_eq_true rfl) (fun h25 w9 => ?_)
  replace w := w9
  clear w9
  obtain ⟨fs, hh, hv, w⟩ := w
  refine V_putF X hin flX3_54 dX3_init_73 hh hv rfl rfl ?_
  generalize va_up _ _ _ = h26 at w ⊢
  refine V_aloadr_n X dX3_init_76 0 rfl ?_
  refine V_new (k1 := 19) (n1 := 359) X nwX3_43 dX3_init_77 ⟨(Nat.le_of_ble_eq_true rfl), (Nat.le_of_ble_eq_true rfl)⟩ (Nat.le_of_ble_eq_true rfl) (Nat.le_of_ble_eq_true rfl) (fun q27 hq => ?_)
  replace w := w q27 hq
  generalize va_up _ _ _ = h28 at w ⊢
  refine V_dup X dX3_init_80 rfl ?_
  refine V_aloadr_n X dX3_init_81 1 rfl ?_
  obtain ⟨fs, r29, hh, hv, w⟩ := w
  refine V_get3 X frX3_45 dX3_init_82 hh hv ?_
  refine V_callI (As := [va_rf r29]) (rest := [.ref q27, .ref v0]) (k1 := 19) (n1 := 359) X (cX8_init_ok X.2.2.2.2.2.2.2.2.1 w) lkX3_51 dX3_init_85 ⟨Nat.le_of_ble_eq_true rfl, Nat.le_of_ble_eq_true rfl⟩ rfl (Nat.le_of_ble_eq_true rfl) ⟨Nat.le_of_ble_eq_true rfl, Nat.le_of_ble_eq_true rfl⟩ (Nat.le_of_ble_eq_true rfl) (Nat.le_of_ble_eq_true rfl) (fun h30 w9 => ?_)
  replace w := w9
  clear w9
  obtain ⟨fs, hh, hv, w⟩ := w
  refine V_putF X hin flX3_58 dX3_init_88 hh hv rfl rfl ?_
  generalize va_up _ _ _ = h31 at w ⊢
  exact V_vret X rfl dX3_init_91 (Nat.le_of_ble_eq_true rfl) (Nat.le_of_ble_eq_true rfl) w
theorem cX3_init_ok {l : Launch} {G : gG} {h : gH} (hls : l.stackTraces = false) {Qn : gH → Prop} {v0 : Nat} {v1 : Option Nat} (w : vX3_init G.2.2.1 Qn h v0 v1) : gMv l yX3_init cX3_init 2 none rmX3_init rmX3_init.cells rmX3_init.slots G h [.ref v0, va_rf v1] Qn := by
  cases v1 <;>
  exact gMv.of (by decide +kernel) hls (Nat.le_of_ble_eq_true rfl) rfl rfl (fun p e s m below meth c A X hnm => tX3_init X hnm w)
/-! AnimationController$Track.copyFrom(LAnimationController$Track;)V -/
abbrev rmX8_copyFrom : Room := { frames := 0, cells := 0, slots := 0, locals := 0 }
def vX8_copyFrom (t0 : Nat)  (Qn : gH → Prop) (h : gH) (v0 : Nat) (v1 : Option Nat) : Prop := nn v1 (fun a1 => gr h a1 11 0 (fun r2 => pv h v0 11 0 (va_rf r2) (fun h3 => gl h3 a1 11 1 (fun x4 => pv h3 v0 11 1 (.long x4) (fun h5 => gi h5 a1 11 2 (fun x6 => pv h5 v0 11 2 (.int x6) (fun h7 => gi h7 a1 11 3 (fun x8 => gZ x8 ∧ (pv h7 v0 11 3 (.int x8) (fun h9 => gl h9 a1 11 4 (fun x10 => pv h9 v0 11 4 (.long x10) (fun h11 => gi h11 a1 11 5 (fun x12 => gZ x12 ∧ (pv h11 v0 11 5 (.int x12) (fun h13 => Qn h13)))))))))))))))
set_option maxRecDepth 100000 in
set_option maxHeartbeats 4000000 in
theorem tX8_copyFrom {p : Program} {l : Launch} {e : Env} {s : State} {m : MethodId} {args : Array Value} {below : List Frame} {meth : Method} {c : Code} {G : gG} {A : Nat → Prop} {Qn : gH → Prop} (X : gC p l s m args meth c G A cX8_copyFrom 2 none RX8)   {h : gH} {v0 : Nat} {v1 : Option Nat} (w : vX8_copyFrom G.2.2.1  Qn h v0 v1) : V p l e rmX8_copyFrom s m args below meth c (MQ below (va_Qv Qn (gB G A) A) args s rmX8_copyFrom.cells rmX8_copyFrom.slots A) G A 2 h 0 0 0 [(0, .ref v0), (1, va_rf v1)] [] := by
  refine V_aloadr_n X dX8_copyFrom_0 0 rfl ?_
  refine V_aload_n X dX8_copyFrom_1 1 rfl ?_
  obtain ⟨a1, rfl, w⟩ := w
  obtain ⟨fs, r2, hh, hv, w⟩ := w
  refine V_get X flX8_18 dX8_copyFrom_2 hh hv ?_
  obtain ⟨fs, hh, hv, w⟩ := w
  refine V_put X flX8_18 dX8_copyFrom_5 hh hv (by cases r2 <;> rfl) (by cases r2 <;> rfl) ?_
  generalize va_up _ _ _ = h3 at w ⊢
  refine V_aloadr_n X dX8_copyFrom_8 0 rfl ?_
  refine V_aloadr_n X dX8_copyFrom_9 1 rfl ?_
  obtain ⟨fs, x4, hh, hv, w⟩ := w
  refine V_get X flX8_22 dX8_copyFrom_10 hh hv ?_
  obtain ⟨fs, hh, hv, w⟩ := w
  refine V_put X flX8_22 dX8_copyFrom_13 hh hv rfl rfl ?_
  generalize va_up _ _ _ = h5 at w ⊢
  refine V_aloadr_n X dX8_copyFrom_16 0 rfl ?_
  refine V_aloadr_n X dX8_copyFrom_17 1 rfl ?_
  obtain ⟨fs, x6, hh, hv, w⟩ := w
  refine V_get X flX8_26 dX8_copyFrom_18 hh hv ?_
  obtain ⟨fs, hh, hv, w⟩ := w
  refine V_put X flX8_26 dX8_copyFrom_21 hh hv rfl rfl ?_
  generalize va_up _ _ _ = h7 at w ⊢
  refine V_aloadr_n X dX8_copyFrom_24 0 rfl ?_
  refine V_aloadr_n X dX8_copyFrom_25 1 rfl ?_
  obtain ⟨fs, x8, hh, hv, w⟩ := w
  refine V_get X flX8_9 dX8_copyFrom_26 hh hv ?_
  obtain ⟨hz, w⟩ := w
  obtain ⟨fs, hh, hv, w⟩ := w
  refine V_put X flX8_9 dX8_copyFrom_29 hh hv hz.1 hz.2 ?_
  generalize va_up _ _ _ = h9 at w ⊢
  refine V_aloadr_n X dX8_copyFrom_32 0 rfl ?_
  refine V_aloadr_n X dX8_copyFrom_33 1 rfl ?_
  obtain ⟨fs, x10, hh, hv, w⟩ := w
  refine V_get X flX8_30 dX8_copyFrom_34 hh hv ?_
  obtain ⟨fs, hh, hv, w⟩ := w
  refine V_put X flX8_30 dX8_copyFrom_37 hh hv rfl rfl ?_
  generalize va_up _ _ _ = h11 at w ⊢
  refine V_aloadr_n X dX8_copyFrom_40 0 rfl ?_
  refine V_aloadr_n X dX8_copyFrom_41 1 rfl ?_
  obtain ⟨fs, x12, hh, hv, w⟩ := w
  refine V_get X flX8_15 dX8_copyFrom_42 hh hv ?_
  obtain ⟨hz, w⟩ := w
  obtain ⟨fs, hh, hv, w⟩ := w
  refine V_put X flX8_15 dX8_copyFrom_45 hh hv hz.1 hz.2 ?_
  generalize va_up _ _ _ = h13 at w ⊢
  exact V_vret X rfl dX8_copyFrom_48 (Nat.le_of_ble_eq_true rfl) (Nat.le_of_ble_eq_true rfl) w
theorem cX8_copyFrom_ok {l : Launch} {G : gG} {h : gH} (hls : l.stackTraces = false) {Qn : gH → Prop} {v0 : Nat} {v1 : Option Nat} (w : vX8_copyFrom G.2.2.1 Qn h v0 v1) : gMv l yX8_copyFrom cX8_copyFrom 2 none rmX8_copyFrom rmX8_copyFrom.cells rmX8_copyFrom.slots G h [.ref v0, va_rf v1] Qn := by
  cases v1 <;>
  exact gMv.of (by decide +kernel) hls (Nat.le_of_ble_eq_true rfl) rfl rfl (fun p e s m below meth c A X hnm => tX8_copyFrom X w)
/-! AnimationController$Pose.copyFrom(LAnimationController$Pose;)V -/
abbrev rmX6_copyFrom : Room := { frames := 1, cells := 0, slots := 0, locals := 60 }
def vX6_copyFrom (t0 : Nat)  (Qn : gH → Prop) (h : gH) (v0 : Nat) (v1 : Option Nat) : Prop := nn v1 (fun a1 => gi h a1 9 3 (fun x2 => pv h v0 9 3 (.int x2) (fun h3 => gr h3 a1 9 0 (fun r4 => gr h3 v0 9 0 (fun r5 => nn r4 (fun a6 => nn r5 (fun a7 => cpi h3 a6 0 a7 0 32 (fun h8 => gr h8 a1 9 1 (fun r9 => gr h8 v0 9 1 (fun r10 => nn r9 (fun a11 => nn r10 (fun a12 => cpi h8 a11 0 a12 0 32 (fun h13 => gr h13 a1 9 2 (fun r14 => gr h13 v0 9 2 (fun r15 => nn r14 (fun a16 => nn r15 (fun a17 => cpi h13 a16 0 a17 0 32 (fun h18 => Qn h18))))))))))))))))))
set_option maxRecDepth 100000 in
set_option maxHeartbeats 4000000 in
theorem tX6_copyFrom {p : Program} {l : Launch} {e : Env} {s : State} {m : MethodId} {args : Array Value} {below : List Frame} {meth : Method} {c : Code} {G : gG} {A : Nat → Prop} {Qn : gH → Prop} (X : gC p l s m args meth c G A cX6_copyFrom 2 none RX6)   {h : gH} {v0 : Nat} {v1 : Option Nat} (w : vX6_copyFrom G.2.2.1  Qn h v0 v1) : V p l e rmX6_copyFrom s m args below meth c (MQ below (va_Qv Qn (gB G A) A) args s rmX6_copyFrom.cells rmX6_copyFrom.slots A) G A 2 h 0 0 0 [(0, .ref v0), (1, va_rf v1)] [] := by
  refine V_aloadr_n X dX6_copyFrom_0 0 rfl ?_
  refine V_aload_n X dX6_copyFrom_1 1 rfl ?_
  obtain ⟨a1, rfl, w⟩ := w
  obtain ⟨fs, x2, hh, hv, w⟩ := w
  refine V_get X flX6_21 dX6_copyFrom_2 hh hv ?_
  obtain ⟨fs, hh, hv, w⟩ := w
  refine V_put X flX6_21 dX6_copyFrom_5 hh hv rfl rfl ?_
  generalize va_up _ _ _ = h3 at w ⊢
  refine V_aloadr_n X dX6_copyFrom_8 1 rfl ?_
  obtain ⟨fs, r4, hh, hv, w⟩ := w
  refine V_get X flX6_9 dX6_copyFrom_9 hh hv ?_
  refine V_iconst (y := 0) X dX6_copyFrom_12 (by decide) ?_
  refine V_aloadr_n X dX6_copyFrom_13 0 rfl ?_
  obtain ⟨fs, r5, hh, hv, w⟩ := w
  refine V_get X flX6_9 dX6_copyFrom_14 hh hv ?_
  refine V_iconst (y := 0) X dX6_copyFrom_17 (by decide) ?_
  refine V_bipush (y := 32) X dX6_copyFrom_18 (by decide) ?_
  obtain ⟨a6, rfl, w⟩ := w
  obtain ⟨a7, rfl, w⟩ := w
  obtain ⟨Na, Nb, f9, g9, hh, hb9, y3, y4, y5, y6, y7, w⟩ := w
  refine V_cpi X acX6_25 hh hb9 y3 y4 y5 y6 y7 (Nat.le_of_ble_eq_true rfl) (Nat.le_trans (Nat.add_le_add_right (va_len _ 4 (Nat.le_of_ble_eq_true rfl)) _) (by decide +kernel)) dX6_copyFrom_20 ?_
  generalize va_up _ _ _ = h8 at w ⊢
  refine V_aloadr_n X dX6_copyFrom_23 1 rfl ?_
  obtain ⟨fs, r9, hh, hv, w⟩ := w
  refine V_get X flX6_15 dX6_copyFrom_24 hh hv ?_
  refine V_iconst (y := 0) X dX6_copyFrom_27 (by decide) ?_
  refine V_aloadr_n X dX6_copyFrom_28 0 rfl ?_
  obtain ⟨fs, r10, hh, hv, w⟩ := w
  refine V_get X flX6_15 dX6_copyFrom_29 hh hv ?_
  refine V_iconst (y := 0) X dX6_copyFrom_32 (by decide) ?_
  refine V_bipush (y := 32) X dX6_copyFrom_33 (by decide) ?_
  obtain ⟨a11, rfl, w⟩ := w
  obtain ⟨a12, rfl, w⟩ := w
  obtain ⟨Na, Nb, f9, g9, hh, hb9, y3, y4, y5, y6, y7, w⟩ := w
  refine V_cpi X acX6_25 hh hb9 y3 y4 y5 y6 y7 (Nat.le_of_ble_eq_true rfl) (Nat.le_trans (Nat.add_le_add_right (va_len _ 4 (Nat.le_of_ble_eq_true rfl)) _) (by decide +kernel)) dX6_copyFrom_35 ?_
  generalize va_up _ _ _ = h13 at w ⊢
  refine V_aloadr_n X dX6_copyFrom_38 1 rfl ?_
  obtain ⟨fs, r14, hh, hv, w⟩ := w
  refine V_get X flX6_18 dX6_copyFrom_39 hh hv ?_
  refine V_iconst (y := 0) X dX6_copyFrom_42 (by decide) ?_
  refine V_aloadr_n X dX6_copyFrom_43 0 rfl ?_
  obtain ⟨fs, r15, hh, hv, w⟩ := w
  refine V_get X flX6_18 dX6_copyFrom_44 hh hv ?_
  refine V_iconst (y := 0) X dX6_copyFrom_47 (by decide) ?_
  refine V_bipush (y := 32) X dX6_copyFrom_48 (by decide) ?_
  obtain ⟨a16, rfl, w⟩ := w
  obtain ⟨a17, rfl, w⟩ := w
  obtain ⟨Na, Nb, f9, g9, hh, hb9, y3, y4, y5, y6, y7, w⟩ := w
  refine V_cpi X acX6_25 hh hb9 y3 y4 y5 y6 y7 (Nat.le_of_ble_eq_true rfl) (Nat.le_trans (Nat.add_le_add_right (va_len _ 4 (Nat.le_of_ble_eq_true rfl)) _) (by decide +kernel)) dX6_copyFrom_50 ?_
  generalize va_up _ _ _ = h18 at w ⊢
  exact V_vret X rfl dX6_copyFrom_53 (Nat.le_of_ble_eq_true rfl) (Nat.le_of_ble_eq_true rfl) w
theorem cX6_copyFrom_ok {l : Launch} {G : gG} {h : gH} (hls : l.stackTraces = false) {Qn : gH → Prop} {v0 : Nat} {v1 : Option Nat} (w : vX6_copyFrom G.2.2.1 Qn h v0 v1) : gMv l yX6_copyFrom cX6_copyFrom 2 none rmX6_copyFrom rmX6_copyFrom.cells rmX6_copyFrom.slots G h [.ref v0, va_rf v1] Qn := by
  cases v1 <;>
  exact gMv.of (by decide +kernel) hls (Nat.le_of_ble_eq_true rfl) rfl rfl (fun p e s m below meth c A X hnm => tX6_copyFrom X w)
/-! AnimationController$Machine.copyFrom(LAnimationController$Machine;)V -/
abbrev rmX3_copyFrom : Room := { frames := 2, cells := 0, slots := 0, locals := 82 }
def vX3_copyFrom (t0 : Nat)  (Qn : gH → Prop) (h : gH) (v0 : Nat) (v1 : Option Nat) : Prop := nn v1 (fun a1 => gr h a1 6 1 (fun r2 => gr h v0 6 1 (fun r3 => nn r2 (fun a4 => nn r3 (fun a5 => cpi h a4 0 a5 0 8 (fun h6 => gr h6 v0 6 2 (fun r7 => gr h6 a1 6 2 (fun r8 => nn r7 (fun a9 => io h6 a9 11 (vX8_copyFrom t0 (fun h10 => gr h10 v0 6 3 (fun r11 => gr h10 a1 6 3 (fun r12 => nn r11 (fun a13 => io h10 a13 11 (vX8_copyFrom t0 (fun h14 => gr h14 a1 6 4 (fun r15 => pv h14 v0 6 4 (va_rf r15) (fun h16 => gi h16 a1 6 5 (fun x17 => pv h16 v0 6 5 (.int x17) (fun h18 => gi h18 a1 6 6 (fun x19 => gZ x19 ∧ (pv h18 v0 6 6 (.int x19) (fun h20 => gr h20 v0 6 7 (fun r21 => gr h20 a1 6 7 (fun r22 => nn r21 (fun a23 => io h20 a23 9 (vX6_copyFrom t0 (fun h24 => gi h24 a1 6 8 (fun x25 => pv h24 v0 6 8 (.int x25) (fun h26 => gi h26 a1 6 9 (fun x27 => pv h26 v0 6 9 (.int x27) (fun h28 => gr h28 v0 6 10 (fun r29 => gr h28 a1 6 10 (fun r30 => nn r29 (fun a31 => io h28 a31 5 (vX2_copyFrom t0 (fun h32 => Qn h32) h28 a31 r30))))))))) h20 a23 r22)))))))))))) h10 a13 r12))))) h6 a9 r8))))))))))
set_option maxRecDepth 100000 in
set_option maxHeartbeats 4000000 in
theorem tX3_copyFrom {p : Program} {l : Launch} {e : Env} {s : State} {m : MethodId} {args : Array Value} {below : List Frame} {meth : Method} {c : Code} {G : gG} {A : Nat → Prop} {Qn : gH → Prop} (X : gC p l s m args meth c G A cX3_copyFrom 2 none RX3)   {h : gH} {v0 : Nat} {v1 : Option Nat} (w : vX3_copyFrom G.2.2.1  Qn h v0 v1) : V p l e rmX3_copyFrom s m args below meth c (MQ below (va_Qv Qn (gB G A) A) args s rmX3_copyFrom.cells rmX3_copyFrom.slots A) G A 2 h 0 0 0 [(0, .ref v0), (1, va_rf v1)] [] := by
  refine V_aload_n X dX3_copyFrom_0 1 rfl ?_
  obtain ⟨a1, rfl, w⟩ := w
  obtain ⟨fs, r2, hh, hv, w⟩ := w
  refine V_get X flX3_9 dX3_copyFrom_1 hh hv ?_
  refine V_iconst (y := 0) X dX3_copyFrom_4 (by decide) ?_
  refine V_aloadr_n X dX3_copyFrom_5 0 rfl ?_
  obtain ⟨fs, r3, hh, hv, w⟩ := w
  refine V_get X flX3_9 dX3_copyFrom_6 hh hv ?_
  refine V_iconst (y := 0) X dX3_copyFrom_9 (by decide) ?_
  refine V_bipush (y := 8) X dX3_copyFrom_10 (by decide) ?_
  obtain ⟨a4, rfl, w⟩ := w
  obtain ⟨a5, rfl, w⟩ := w
  obtain ⟨Na, Nb, f9, g9, hh, hb9, y3, y4, y5, y6, y7, w⟩ := w
  refine V_cpi X acX3_61 hh hb9 y3 y4 y5 y6 y7 (Nat.le_of_ble_eq_true rfl) (Nat.le_trans (Nat.add_le_add_right (va_len _ 4 (Nat.le_of_ble_eq_true rfl)) _) (by decide +kernel)) dX3_copyFrom_12 ?_
  generalize va_up _ _ _ = h6 at w ⊢
  refine V_aloadr_n X dX3_copyFrom_15 0 rfl ?_
  obtain ⟨fs, r7, hh, hv, w⟩ := w
  refine V_get X flX3_54 dX3_copyFrom_16 hh hv ?_
  refine V_aloadr_n X dX3_copyFrom_19 1 rfl ?_
  obtain ⟨fs, r8, hh, hv, w⟩ := w
  refine V_get X flX3_54 dX3_copyFrom_20 hh hv ?_
  obtain ⟨a9, rfl, w⟩ := w
  obtain ⟨fs, hh, w⟩ := w
  refine V_callVv (As := [va_rf r8]) (rest := []) (k1 := 0) (n1 := 0) X (cX8_copyFrom_ok X.2.2.2.2.2.2.2.2.1 w) lkX3_67 hh (q9 := (RX8, TX8, 6)) rfl rfl dX3_copyFrom_23 ⟨Nat.le_of_ble_eq_true rfl, Nat.le_of_ble_eq_true rfl⟩ rfl (Nat.le_of_ble_eq_true rfl) ⟨Nat.le_of_ble_eq_true rfl, Nat.le_of_ble_eq_true rfl⟩ (Nat.le_of_ble_eq_true rfl) (Nat.le_of_ble_eq_true rfl) (fun h10 w9 => ?_)
  replace w := w9
  clear w9
  refine V_aloadr_n X dX3_copyFrom_26 0 rfl ?_
  obtain ⟨fs, r11, hh, hv, w⟩ := w
  refine V_get X flX3_58 dX3_copyFrom_27 hh hv ?_
  refine V_aloadr_n X dX3_copyFrom_30 1 rfl ?_
  obtain ⟨fs, r12, hh, hv, w⟩ := w
  refine V_get X flX3_58 dX3_copyFrom_31 hh hv ?_
  obtain ⟨a13, rfl, w⟩ := w
  obtain ⟨fs, hh, w⟩ := w
  refine V_callVv (As := [va_rf r12]) (rest := []) (k1 := 0) (n1 := 0) X (cX8_copyFrom_ok X.2.2.2.2.2.2.2.2.1 w) lkX3_67 hh (q9 := (RX8, TX8, 6)) rfl rfl dX3_copyFrom_34 ⟨Nat.le_of_ble_eq_true rfl, Nat.le_of_ble_eq_true rfl⟩ rfl (Nat.le_of_ble_eq_true rfl) ⟨Nat.le_of_ble_eq_true rfl, Nat.le_of_ble_eq_true rfl⟩ (Nat.le_of_ble_eq_true rfl) (Nat.le_of_ble_eq_true rfl) (fun h14 w9 => ?_)
  replace w := w9
  clear w9
  refine V_aloadr_n X dX3_copyFrom_37 0 rfl ?_
  refine V_aloadr_n X dX3_copyFrom_38 1 rfl ?_
  obtain ⟨fs, r15, hh, hv, w⟩ := w
  refine V_get X flX3_71 dX3_copyFrom_39 hh hv ?_
  obtain ⟨fs, hh, hv, w⟩ := w
  refine V_put X flX3_71 dX3_copyFrom_42 hh hv (by cases r15 <;> rfl) (by cases r15 <;> rfl) ?_
  generalize va_up _ _ _ = h16 at w ⊢
  refine V_aloadr_n X dX3_copyFrom_45 0 rfl ?_
  refine V_aloadr_n X dX3_copyFrom_46 1 rfl ?_
  obtain ⟨fs, x17, hh, hv, w⟩ := w
  refine V_get X flX3_75 dX3_copyFrom_47 hh hv ?_
  obtain ⟨fs, hh, hv, w⟩ := w
  refine V_put X flX3_75 dX3_copyFrom_50 hh hv rfl rfl ?_
  generalize va_up _ _ _ = h18 at w ⊢
  refine V_aloadr_n X dX3_copyFrom_53 0 rfl ?_
  refine V_aloadr_n X dX3_copyFrom_54 1 rfl ?_
  obtain ⟨fs, x19, hh, hv, w⟩ := w
  refine V_get X flX3_79 dX3_copyFrom_55 hh hv ?_
  obtain ⟨hz, w⟩ := w
  obtain ⟨fs, hh, hv, w⟩ := w
  refine V_put X flX3_79 dX3_copyFrom_58 hh hv hz.1 hz.2 ?_
  generalize va_up _ _ _ = h20 at w ⊢
  refine V_aloadr_n X dX3_copyFrom_61 0 rfl ?_
  obtain ⟨fs, r21, hh, hv, w⟩ := w
  refine V_get X flX3_18 dX3_copyFrom_62 hh hv ?_
  refine V_aloadr_n X dX3_copyFrom_65 1 rfl ?_
  obtain ⟨fs, r22, hh, hv, w⟩ := w
  refine V_get X flX3_18 dX3_copyFrom_66 hh hv ?_
  obtain ⟨a23, rfl, w⟩ := w
  obtain ⟨fs, hh, w⟩ := w
  refine V_callVv (As := [va_rf r22]) (rest := []) (k1 := 0) (n1 := 0) X (cX6_copyFrom_ok X.2.2.2.2.2.2.2.2.1 w) lkX3_83 hh (q9 := (RX6, TX6, 4)) rfl rfl dX3_copyFrom_69 ⟨Nat.le_of_ble_eq_true rfl, Nat.le_of_ble_eq_true rfl⟩ rfl (Nat.le_of_ble_eq_true rfl) ⟨Nat.le_of_ble_eq_true rfl, Nat.le_of_ble_eq_true rfl⟩ (Nat.le_of_ble_eq_true rfl) (Nat.le_of_ble_eq_true rfl) (fun h24 w9 => ?_)
  replace w := w9
  clear w9
  refine V_aloadr_n X dX3_copyFrom_72 0 rfl ?_
  refine V_aloadr_n X dX3_copyFrom_73 1 rfl ?_
  obtain ⟨fs, x25, hh, hv, w⟩ := w
  refine V_get X flX3_86 dX3_copyFrom_74 hh hv ?_
  obtain ⟨fs, hh, hv, w⟩ := w
  refine V_put X flX3_86 dX3_copyFrom_77 hh hv rfl rfl ?_
  generalize va_up _ _ _ = h26 at w ⊢
  refine V_aloadr_n X dX3_copyFrom_80 0 rfl ?_
  refine V_aloadr_n X dX3_copyFrom_81 1 rfl ?_
  obtain ⟨fs, x27, hh, hv, w⟩ := w
  refine V_get X flX3_89 dX3_copyFrom_82 hh hv ?_
  obtain ⟨fs, hh, hv, w⟩ := w
  refine V_put X flX3_89 dX3_copyFrom_85 hh hv rfl rfl ?_
  generalize va_up _ _ _ = h28 at w ⊢
  refine V_aloadr_n X dX3_copyFrom_88 0 rfl ?_
  obtain ⟨fs, r29, hh, hv, w⟩ := w
  refine V_get X flX3_25 dX3_copyFrom_89 hh hv ?_
  refine V_aloadr_n X dX3_copyFrom_92 1 rfl ?_
  obtain ⟨fs, r30, hh, hv, w⟩ := w
  refine V_get X flX3_25 dX3_copyFrom_93 hh hv ?_
  obtain ⟨a31, rfl, w⟩ := w
  obtain ⟨fs, hh, w⟩ := w
  refine V_callVv (As := [va_rf r30]) (rest := []) (k1 := 0) (n1 := 0) X (cX2_copyFrom_ok X.2.2.2.2.2.2.2.2.1 w) lkX3_92 hh (q9 := (RX2, TX2, 2)) rfl rfl dX3_copyFrom_96 ⟨Nat.le_of_ble_eq_true rfl, Nat.le_of_ble_eq_true rfl⟩ rfl (Nat.le_of_ble_eq_true rfl) ⟨Nat.le_of_ble_eq_true rfl, Nat.le_of_ble_eq_true rfl⟩ (Nat.le_of_ble_eq_true rfl) (Nat.le_of_ble_eq_true rfl) (fun h32 w9 => ?_)
  replace w := w9
  clear w9
  exact V_vret X rfl dX3_copyFrom_99 (Nat.le_of_ble_eq_true rfl) (Nat.le_of_ble_eq_true rfl) w
theorem cX3_copyFrom_ok {l : Launch} {G : gG} {h : gH} (hls : l.stackTraces = false) {Qn : gH → Prop} {v0 : Nat} {v1 : Option Nat} (w : vX3_copyFrom G.2.2.1 Qn h v0 v1) : gMv l yX3_copyFrom cX3_copyFrom 2 none rmX3_copyFrom rmX3_copyFrom.cells rmX3_copyFrom.slots G h [.ref v0, va_rf v1] Qn := by
  cases v1 <;>
  exact gMv.of (by decide +kernel) hls (Nat.le_of_ble_eq_true rfl) rfl rfl (fun p e s m below meth c A X hnm => tX3_copyFrom X w)
/-! AnimationController$Track.begin(LAnimationController$State;I)V -/
abbrev rmX8_begin : Room := { frames := 0, cells := 0, slots := 0, locals := 0 }
def vX8_begin (t0 : Nat)  (Qn : gH → Prop) (h : gH) (v0 : Nat) (v1 : Option Nat) (v2 : Int32) : Prop := pv h v0 11 0 (va_rf v1) (fun h1 => pv h1 v0 11 1 (.long 0) (fun h2 => pv h2 v0 11 2 (.int v2) (fun h3 => pv h3 v0 11 3 (.int 1) (fun h4 => pv h4 v0 11 4 (.long (Int32.toInt64 v2)) (fun h5 => pv h5 v0 11 5 (.int 1) (fun h6 => Qn h6))))))
set_option maxRecDepth 100000 in
set_option maxHeartbeats 4000000 in
theorem tX8_begin {p : Program} {l : Launch} {e : Env} {s : State} {m : MethodId} {args : Array Value} {below : List Frame} {meth : Method} {c : Code} {G : gG} {A : Nat → Prop} {Qn : gH → Prop} (X : gC p l s m args meth c G A cX8_begin 3 none RX8)   {h : gH} {v0 : Nat} {v1 : Option Nat} {v2 : Int32} (w : vX8_begin G.2.2.1  Qn h v0 v1 v2) : V p l e rmX8_begin s m args below meth c (MQ below (va_Qv Qn (gB G A) A) args s rmX8_begin.cells rmX8_begin.slots A) G A 3 h 0 0 0 [(0, .ref v0), (1, va_rf v1), (2, .int v2)] [] := by
  refine V_aloadr_n X dX8_begin_0 0 rfl ?_
  refine V_aload_n X dX8_begin_1 1 rfl ?_
  obtain ⟨fs, hh, hv, w⟩ := w
  refine V_put X flX8_18 dX8_begin_2 hh hv (by cases v1 <;> rfl) (by cases v1 <;> rfl) ?_
  generalize va_up _ _ _ = h1 at w ⊢
  refine V_aloadr_n X dX8_begin_5 0 rfl ?_
  refine V_lconst (y := 0) X dX8_begin_6 (by decide) ?_
  obtain ⟨fs, hh, hv, w⟩ := w
  refine V_put X flX8_22 dX8_begin_7 hh hv rfl rfl ?_
  generalize va_up _ _ _ = h2 at w ⊢
  refine V_aloadr_n X dX8_begin_10 0 rfl ?_
  refine V_iload_n X dX8_begin_11 2 rfl ?_
  obtain ⟨fs, hh, hv, w⟩ := w
  refine V_put X flX8_26 dX8_begin_12 hh hv rfl rfl ?_
  generalize va_up _ _ _ = h3 at w ⊢
  refine V_aloadr_n X dX8_begin_15 0 rfl ?_
  refine V_iconst (y := 1) X dX8_begin_16 (by decide) ?_
  obtain ⟨fs, hh, hv, w⟩ := w
  refine V_put X flX8_9 dX8_begin_17 hh hv rfl rfl ?_
  generalize va_up _ _ _ = h4 at w ⊢
  refine V_aloadr_n X dX8_begin_20 0 rfl ?_
  refine V_iload_n X dX8_begin_21 2 rfl ?_
  refine V_i2l X dX8_begin_22 ?_
  obtain ⟨fs, hh, hv, w⟩ := w
  refine V_put X flX8_30 dX8_begin_23 hh hv rfl rfl ?_
  generalize va_up _ _ _ = h5 at w ⊢
  refine V_aloadr_n X dX8_begin_26 0 rfl ?_
  refine V_iconst (y := 1) X dX8_begin_27 (by decide) ?_
  obtain ⟨fs, hh, hv, w⟩ := w
  refine V_put X flX8_15 dX8_begin_28 hh hv rfl rfl ?_
  generalize va_up _ _ _ = h6 at w ⊢
  exact V_vret X rfl dX8_begin_31 (Nat.le_of_ble_eq_true rfl) (Nat.le_of_ble_eq_true rfl) w
theorem cX8_begin_ok {l : Launch} {G : gG} {h : gH} (hls : l.stackTraces = false) {Qn : gH → Prop} {v0 : Nat} {v1 : Option Nat} {v2 : Int32} (w : vX8_begin G.2.2.1 Qn h v0 v1 v2) : gMv l yX8_begin cX8_begin 3 none rmX8_begin rmX8_begin.cells rmX8_begin.slots G h [.ref v0, va_rf v1, .int v2] Qn := by
  cases v1 <;>
  exact gMv.of (by decide +kernel) hls (Nat.le_of_ble_eq_true rfl) rfl rfl (fun p e s m below meth c A X hnm => tX8_begin X w)
/-! AnimationController$Machine.becomeIdle()V -/
abbrev rmX3_becomeIdle : Room := { frames := 1, cells := 0, slots := 0, locals := 21 }
def vX3_becomeIdle (t0 : Nat)  (Qn : gH → Prop) (h : gH) (v0 : Nat) : Prop := gr h v0 6 2 (fun r1 => gr h v0 6 3 (fun r2 => nn r1 (fun a3 => io h a3 11 (vX8_copyFrom t0 (fun h4 => pv h4 v0 6 4 (va_rf (none : Option Nat)) (fun h5 => pv h5 v0 6 5 (.int 0) (fun h6 => pv h6 v0 6 6 (.int 0) (fun h7 => pv h7 v0 6 8 (.int 0) (fun h8 => Qn h8))))) h a3 r2))))
set_option maxRecDepth 100000 in
set_option maxHeartbeats 4000000 in
theorem tX3_becomeIdle {p : Program} {l : Launch} {e : Env} {s : State} {m : MethodId} {args : Array Value} {below : List Frame} {meth : Method} {c : Code} {G : gG} {A : Nat → Prop} {Qn : gH → Prop} (X : gC p l s m args meth c G A cX3_becomeIdle 1 none RX3)   {h : gH} {v0 : Nat} (w : vX3_becomeIdle G.2.2.1  Qn h v0) : V p l e rmX3_becomeIdle s m args below meth c (MQ below (va_Qv Qn (gB G A) A) args s rmX3_becomeIdle.cells rmX3_becomeIdle.slots A) G A 1 h 0 0 0 [(0, .ref v0)] [] := by
  refine V_aloadr_n X dX3_becomeIdle_0 0 rfl ?_
  obtain ⟨fs, r1, hh, hv, w⟩ := w
  refine V_get X flX3_54 dX3_becomeIdle_1 hh hv ?_
  refine V_aloadr_n X dX3_becomeIdle_4 0 rfl ?_
  obtain ⟨fs, r2, hh, hv, w⟩ := w
  refine V_get X flX3_58 dX3_becomeIdle_5 hh hv ?_
  obtain ⟨a3, rfl, w⟩ := w
  obtain ⟨fs, hh, w⟩ := w
  refine V_callVv (As := [va_rf r2]) (rest := []) (k1 := 0) (n1 := 0) X (cX8_copyFrom_ok X.2.2.2.2.2.2.2.2.1 w) lkX3_67 hh (q9 := (RX8, TX8, 6)) rfl rfl dX3_becomeIdle_8 ⟨Nat.le_of_ble_eq_true rfl, Nat.le_of_ble_eq_true rfl⟩ rfl (Nat.le_of_ble_eq_true rfl) ⟨Nat.le_of_ble_eq_true rfl, Nat.le_of_ble_eq_true rfl⟩ (Nat.le_of_ble_eq_true rfl) (Nat.le_of_ble_eq_true rfl) (fun h4 w9 => ?_)
  replace w := w9
  clear w9
  refine V_aloadr_n X dX3_becomeIdle_11 0 rfl ?_
  refine V_null X dX3_becomeIdle_12 ?_
  obtain ⟨fs, hh, hv, w⟩ := w
  refine V_put X flX3_71 dX3_becomeIdle_13 hh hv (by cases (none : Option Nat) <;> rfl) (by cases (none : Option Nat) <;> rfl) ?_
  generalize va_up _ _ _ = h5 at w ⊢
  refine V_aloadr_n X dX3_becomeIdle_16 0 rfl ?_
  refine V_iconst (y := 0) X dX3_becomeIdle_17 (by decide) ?_
  obtain ⟨fs, hh, hv, w⟩ := w
  refine V_put X flX3_75 dX3_becomeIdle_18 hh hv rfl rfl ?_
  generalize va_up _ _ _ = h6 at w ⊢
  refine V_aloadr_n X dX3_becomeIdle_21 0 rfl ?_
  refine V_iconst (y := 0) X dX3_becomeIdle_22 (by decide) ?_
  obtain ⟨fs, hh, hv, w⟩ := w
  refine V_put X flX3_79 dX3_becomeIdle_23 hh hv rfl rfl ?_
  generalize va_up _ _ _ = h7 at w ⊢
  refine V_aloadr_n X dX3_becomeIdle_26 0 rfl ?_
  refine V_iconst (y := 0) X dX3_becomeIdle_27 (by decide) ?_
  obtain ⟨fs, hh, hv, w⟩ := w
  refine V_put X flX3_86 dX3_becomeIdle_28 hh hv rfl rfl ?_
  generalize va_up _ _ _ = h8 at w ⊢
  exact V_vret X rfl dX3_becomeIdle_31 (Nat.le_of_ble_eq_true rfl) (Nat.le_of_ble_eq_true rfl) w
theorem cX3_becomeIdle_ok {l : Launch} {G : gG} {h : gH} (hls : l.stackTraces = false) {Qn : gH → Prop} {v0 : Nat} (w : vX3_becomeIdle G.2.2.1 Qn h v0) : gMv l yX3_becomeIdle cX3_becomeIdle 1 none rmX3_becomeIdle rmX3_becomeIdle.cells rmX3_becomeIdle.slots G h [.ref v0] Qn := by
  exact gMv.of (by decide +kernel) hls (Nat.le_of_ble_eq_true rfl) rfl rfl (fun p e s m below meth c A X hnm => tX3_becomeIdle X w)
/-! AnimationController$Machine.beginIn(LAnimationController$State;)V -/
abbrev rmX3_beginIn : Room := { frames := 2, cells := 0, slots := 0, locals := 41 }
def vX3_beginIn (t0 : Nat)  (Qn : gH → Prop) (h : gH) (v0 : Nat) (v1 : Option Nat) : Prop := gr h v0 6 3 (fun r1 => nn r1 (fun a2 => io h a2 11 (vX8_begin t0 (fun h3 => io h3 v0 6 (vX3_becomeIdle t0 (fun h4 => Qn h4) h3 v0 )) h a2 v1 0)))
set_option maxRecDepth 100000 in
set_option maxHeartbeats 4000000 in
theorem tX3_beginIn {p : Program} {l : Launch} {e : Env} {s : State} {m : MethodId} {args : Array Value} {below : List Frame} {meth : Method} {c : Code} {G : gG} {A : Nat → Prop} {Qn : gH → Prop} (X : gC p l s m args meth c G A cX3_beginIn 2 none RX3)   {h : gH} {v0 : Nat} {v1 : Option Nat} (w : vX3_beginIn G.2.2.1  Qn h v0 v1) : V p l e rmX3_beginIn s m args below meth c (MQ below (va_Qv Qn (gB G A) A) args s rmX3_beginIn.cells rmX3_beginIn.slots A) G A 2 h 0 0 0 [(0, .ref v0), (1, va_rf v1)] [] := by
  refine V_aloadr_n X dX3_beginIn_0 0 rfl ?_
  obtain ⟨fs, r1, hh, hv, w⟩ := w
  refine V_get X flX3_58 dX3_beginIn_1 hh hv ?_
  refine V_aload_n X dX3_beginIn_4 1 rfl ?_
  refine V_iconst (y := 0) X dX3_beginIn_5 (by decide) ?_
  obtain ⟨a2, rfl, w⟩ := w
  obtain ⟨fs, hh, w⟩ := w
  refine V_callVv (As := [va_rf v1, .int 0]) (rest := []) (k1 := 0) (n1 := 0) X (cX8_begin_ok X.2.2.2.2.2.2.2.2.1 w) lkX3_95 hh (q9 := (RX8, TX8, 6)) rfl rfl dX3_beginIn_6 ⟨Nat.le_of_ble_eq_true rfl, Nat.le_of_ble_eq_true rfl⟩ rfl (Nat.le_of_ble_eq_true rfl) ⟨Nat.le_of_ble_eq_true rfl, Nat.le_of_ble_eq_true rfl⟩ (Nat.le_of_ble_eq_true rfl) (Nat.le_of_ble_eq_true rfl) (fun h3 w9 => ?_)
  replace w := w9
  clear w9
  refine V_aloadr_n X dX3_beginIn_9 0 rfl ?_
  obtain ⟨fs, hh, w⟩ := w
  refine V_callVv (As := []) (rest := []) (k1 := 0) (n1 := 0) X (cX3_becomeIdle_ok X.2.2.2.2.2.2.2.2.1 w) lkX3_99 hh (q9 := (RX3, TX3, 13)) rfl rfl dX3_beginIn_10 ⟨Nat.le_of_ble_eq_true rfl, Nat.le_of_ble_eq_true rfl⟩ rfl (Nat.le_of_ble_eq_true rfl) ⟨Nat.le_of_ble_eq_true rfl, Nat.le_of_ble_eq_true rfl⟩ (Nat.le_of_ble_eq_true rfl) (Nat.le_of_ble_eq_true rfl) (fun h4 w9 => ?_)
  replace w := w9
  clear w9
  exact V_vret X rfl dX3_beginIn_13 (Nat.le_of_ble_eq_true rfl) (Nat.le_of_ble_eq_true rfl) w
theorem cX3_beginIn_ok {l : Launch} {G : gG} {h : gH} (hls : l.stackTraces = false) {Qn : gH → Prop} {v0 : Nat} {v1 : Option Nat} (w : vX3_beginIn G.2.2.1 Qn h v0 v1) : gMv l yX3_beginIn cX3_beginIn 2 none rmX3_beginIn rmX3_beginIn.cells rmX3_beginIn.slots G h [.ref v0, va_rf v1] Qn := by
  cases v1 <;>
  exact gMv.of (by decide +kernel) hls (Nat.le_of_ble_eq_true rfl) rfl rfl (fun p e s m below meth c A X hnm => tX3_beginIn X w)
/-! AnimationController$Machine.forget()V -/
abbrev rmX3_forget : Room := { frames := 0, cells := 0, slots := 0, locals := 0 }
def vX3_forget_b2_o (t0 : Nat) (k2 : gH → Nat → Int32 → Prop) (Qn : gH → Prop) (h : gH) (v0 : Nat) (v1 : Int32) : Prop := gr h v0 6 1 (fun r1 => nn r1 (fun a2 => al h a2 (fun x3 => ((x3 ≤ (v1 : Int32)) → (pv h v0 6 9 (.int 0) (fun h4 => gr h4 v0 6 10 (fun r5 => nn r5 (fun a6 => pv h4 a6 5 1 (.int 0) (fun h7 => Qn h7)))))) ∧ ((¬ x3 ≤ (v1 : Int32)) → (gr h v0 6 1 (fun r8 => nn r8 (fun a9 => si h a9 v1 0 (fun h10 => k2 h10 v0 (v1 + 1)))))))))
set_option maxRecDepth 100000 in
set_option maxHeartbeats 4000000 in
theorem tX3_forget_b2_o {p : Program} {l : Launch} {e : Env} {s : State} {m : MethodId} {args : Array Value} {below : List Frame} {meth : Method} {c : Code} {G : gG} {A : Nat → Prop} {Qn : gH → Prop} (X : gC p l s m args meth c G A cX3_forget 2 none RX3) {k2 : gH → Nat → Int32 → Prop} (H2 : ∀ (h : gH) (v0 : Nat) (v1 : Int32), k2 h v0 v1 → V p l e rmX3_forget s m args below meth c (MQ below (va_Qv Qn (gB G A) A) args s rmX3_forget.cells rmX3_forget.slots A) G A 2 h 0 0 2 [(0, .ref v0), (1, .int v1)] []) {h : gH} {v0 : Nat} {v1 : Int32} (w : vX3_forget_b2_o G.2.2.1 k2 Qn h v0 v1) : V p l e rmX3_forget s m args below meth c (MQ below (va_Qv Qn (gB G A) A) args s rmX3_forget.cells rmX3_forget.slots A) G A 2 h 0 0 2 [(0, .ref v0), (1, .int v1)] [] := by
  refine V_iload_n X dX3_forget_2 1 rfl ?_
  refine V_aloadr_n X dX3_forget_3 0 rfl ?_
  obtain ⟨fs, r1, hh, hv, w⟩ := w
  refine V_get X flX3_9 dX3_forget_4 hh hv ?_
  obtain ⟨a2, rfl, w⟩ := w
  obtain ⟨kt9, x9, hh, hk9, w⟩ := w
  refine V_alen X dX3_forget_7 hh hk9 ?_
  generalize Int32.ofNat _ = x3 at w ⊢
  obtain ⟨w1, w2⟩ := w
  refine V_icmp_ge (tgt := 24) X dX3_forget_8 (by decide) (fun z => ?_) (fun z => ?_)
  · replace w := w1 z
    clear w1 w2
    refine V_aloadr_n X dX3_forget_24 0 rfl ?_
    refine V_iconst (y := 0) X dX3_forget_25 (by decide) ?_
    obtain ⟨fs, hh, hv, w⟩ := w
    refine V_put X flX3_89 dX3_forget_26 hh hv rfl rfl ?_
    generalize va_up _ _ _ = h4 at w ⊢
    refine V_aloadr_n X dX3_forget_29 0 rfl ?_
    obtain ⟨fs, r5, hh, hv, w⟩ := w
    refine V_get X flX3_25 dX3_forget_30 hh hv ?_
    refine V_iconst (y := 0) X dX3_forget_33 (by decide) ?_
    obtain ⟨a6, rfl, w⟩ := w
    obtain ⟨fs, hh, hv, w⟩ := w
    refine V_put X flX3_102 dX3_forget_34 hh hv rfl rfl ?_
    generalize va_up _ _ _ = h7 at w ⊢
    exact V_vret X rfl dX3_forget_37 (Nat.le_of_ble_eq_true rfl) (Nat.le_of_ble_eq_true rfl) w
  · replace w := w2 z
    clear w1 w2
    refine V_aloadr_n X dX3_forget_11 0 rfl ?_
    obtain ⟨fs, r8, hh, hv, w⟩ := w
    refine V_get X flX3_9 dX3_forget_12 hh hv ?_
    refine V_iload_n X dX3_forget_15 1 rfl ?_
    refine V_iconst (y := 0) X dX3_forget_16 (by decide) ?_
    obtain ⟨a9, rfl, w⟩ := w
    obtain ⟨N9, g9, hh, hi, w⟩ := w
    refine V_iast X dX3_forget_17 hh hi ?_
    generalize va_up _ _ _ = h10 at w ⊢
    refine V_iinc (y := (v1 + 1)) X dX3_forget_18 1 rfl (by first | rfl | (congr 1)) (by decide) rfl ?_
    refine V_goto (tgt := 2) X dX3_forget_21 (by decide) ?_
    exact V.sub [1, 0] rfl (H2 _ _ _ w)
def vX3_forget_b2 (t0 : Nat)  (Qn : gH → Prop) (n : Nat) : gH → Nat → Int32 → Prop := Nat.rec (motive := fun _ => gH → Nat → Int32 → Prop) (fun _ _ _ => False) (fun _ k2 => vX3_forget_b2_o t0 k2 Qn) n
theorem tX3_forget_b2 {p : Program} {l : Launch} {e : Env} {s : State} {m : MethodId} {args : Array Value} {below : List Frame} {meth : Method} {c : Code} {G : gG} {A : Nat → Prop} {Qn : gH → Prop} (X : gC p l s m args meth c G A cX3_forget 2 none RX3)   : ∀ (n : Nat) (h : gH) (v0 : Nat) (v1 : Int32) (w : vX3_forget_b2 G.2.2.1  Qn n h v0 v1), V p l e rmX3_forget s m args below meth c (MQ below (va_Qv Qn (gB G A) A) args s rmX3_forget.cells rmX3_forget.slots A) G A 2 h 0 0 2 [(0, .ref v0), (1, .int v1)] [] := by
  intro n
  induction n with
  | zero => intro h v0 v1 w; exact False.elim w
  | succ n ih => intro h v0 v1 w; exact tX3_forget_b2_o X ih w
def vX3_forget (t0 : Nat)  (Qn : gH → Prop) (h : gH) (v0 : Nat) : Prop := ∃ n : Nat, vX3_forget_b2 t0  Qn n h v0 0
set_option maxRecDepth 100000 in
set_option maxHeartbeats 4000000 in
theorem tX3_forget {p : Program} {l : Launch} {e : Env} {s : State} {m : MethodId} {args : Array Value} {below : List Frame} {meth : Method} {c : Code} {G : gG} {A : Nat → Prop} {Qn : gH → Prop} (X : gC p l s m args meth c G A cX3_forget 2 none RX3)   {h : gH} {v0 : Nat} (w : vX3_forget G.2.2.1  Qn h v0) : V p l e rmX3_forget s m args below meth c (MQ below (va_Qv Qn (gB G A) A) args s rmX3_forget.cells rmX3_forget.slots A) G A 2 h 0 0 0 [(0, .ref v0)] [] := by
  refine V_iconst (y := 0) X dX3_forget_0 (by decide) ?_
  refine V_istore_n (i0 := 1) X dX3_forget_1 rfl (by decide) rfl ?_
  obtain ⟨n9, w⟩ := w
  exact V.sub [1, 0] rfl (tX3_forget_b2 X  n9 _ _ _ w)
theorem cX3_forget_ok {l : Launch} {G : gG} {h : gH} (hls : l.stackTraces = false) {Qn : gH → Prop} {v0 : Nat} (w : vX3_forget G.2.2.1 Qn h v0) : gMv l yX3_forget cX3_forget 2 none rmX3_forget rmX3_forget.cells rmX3_forget.slots G h [.ref v0] Qn := by
  exact gMv.of (by decide +kernel) hls (Nat.le_of_ble_eq_true rfl) rfl rfl (fun p e s m below meth c A X hnm => tX3_forget X w)
/-! AnimationController$Machine.valueOf(I)I -/
abbrev rmX3_valueOf : Room := { frames := 0, cells := 0, slots := 0, locals := 0 }
def vX3_valueOf_b23 (t0 : Nat)  (Qn : Int32 → gH → Prop) (h : gH) (s0 : Int32) : Prop := Qn s0 h
set_option maxRecDepth 100000 in
set_option maxHeartbeats 4000000 in
theorem tX3_valueOf_b23 {p : Program} {l : Launch} {e : Env} {s : State} {m : MethodId} {args : Array Value} {below : List Frame} {meth : Method} {c : Code} {G : gG} {A : Nat → Prop} {Qn : Int32 → gH → Prop} (X : gC p l s m args meth c G A cX3_valueOf 2 (some FieldType.int) RX3)   {h : gH} {s0 : Int32} (w : vX3_valueOf_b23 G.2.2.1  Qn h s0) : V p l e rmX3_valueOf s m args below meth c (MQ below (va_Qi Qn (gB G A) A) args s rmX3_valueOf.cells rmX3_valueOf.slots A) G A 2 h 0 0 23 [] [.int s0] := by
  exact V_iret X rfl dX3_valueOf_23 (Nat.le_of_ble_eq_true rfl) (Nat.le_of_ble_eq_true rfl) w
def vX3_valueOf_b22 (t0 : Nat)  (Qn : Int32 → gH → Prop) (h : gH)  : Prop := vX3_valueOf_b23 t0  Qn h 0
set_option maxRecDepth 100000 in
set_option maxHeartbeats 4000000 in
theorem tX3_valueOf_b22 {p : Program} {l : Launch} {e : Env} {s : State} {m : MethodId} {args : Array Value} {below : List Frame} {meth : Method} {c : Code} {G : gG} {A : Nat → Prop} {Qn : Int32 → gH → Prop} (X : gC p l s m args meth c G A cX3_valueOf 2 (some FieldType.int) RX3)   {h : gH}  (w : vX3_valueOf_b22 G.2.2.1  Qn h ) : V p l e rmX3_valueOf s m args below meth c (MQ below (va_Qi Qn (gB G A) A) args s rmX3_valueOf.cells rmX3_valueOf.slots A) G A 2 h 0 0 22 [] [] := by
  refine V_iconst (y := 0) X dX3_valueOf_22 (by decide) ?_
  exact V.sub [] rfl (tX3_valueOf_b23 X  w)
def vX3_valueOf (t0 : Nat)  (Qn : Int32 → gH → Prop) (h : gH) (v0 : Nat) (v1 : Int32) : Prop := (((v1 : Int32) < 0) → (vX3_valueOf_b22 t0  Qn h )) ∧ ((¬ (v1 : Int32) < 0) → (gr h v0 6 1 (fun r1 => nn r1 (fun a2 => al h a2 (fun x3 => ((x3 ≤ (v1 : Int32)) → (vX3_valueOf_b22 t0  Qn h )) ∧ ((¬ x3 ≤ (v1 : Int32)) → (gr h v0 6 1 (fun r4 => nn r4 (fun a5 => li h a5 v1 (fun x6 => vX3_valueOf_b23 t0  Qn h x6))))))))))
set_option maxRecDepth 100000 in
set_option maxHeartbeats 4000000 in
theorem tX3_valueOf {p : Program} {l : Launch} {e : Env} {s : State} {m : MethodId} {args : Array Value} {below : List Frame} {meth : Method} {c : Code} {G : gG} {A : Nat → Prop} {Qn : Int32 → gH → Prop} (X : gC p l s m args meth c G A cX3_valueOf 2 (some FieldType.int) RX3)   {h : gH} {v0 : Nat} {v1 : Int32} (w : vX3_valueOf G.2.2.1  Qn h v0 v1) : V p l e rmX3_valueOf s m args below meth c (MQ below (va_Qi Qn (gB G A) A) args s rmX3_valueOf.cells rmX3_valueOf.slots A) G A 2 h 0 0 0 [(0, .ref v0), (1, .int v1)] [] := by
  refine V_iload_n X dX3_valueOf_0 1 rfl ?_
  obtain ⟨w1, w2⟩ := w
  refine V_if_lt (tgt := 22) X dX3_valueOf_1 (by decide) (fun z => ?_) (fun z => ?_)
  · replace w := w1 z
    clear w1 w2
    exact V.sub [] rfl (tX3_valueOf_b22 X  w)
  · replace w := w2 z
    clear w1 w2
    refine V_iload_n X dX3_valueOf_4 1 rfl ?_
    refine V_aloadr_n X dX3_valueOf_5 0 rfl ?_
    obtain ⟨fs, r1, hh, hv, w⟩ := w
    refine V_get X flX3_9 dX3_valueOf_6 hh hv ?_
    obtain ⟨a2, rfl, w⟩ := w
    obtain ⟨kt9, x9, hh, hk9, w⟩ := w
    refine V_alen X dX3_valueOf_9 hh hk9 ?_
    generalize Int32.ofNat _ = x3 at w ⊢
    obtain ⟨w1, w2⟩ := w
    refine V_icmp_ge (tgt := 22) X dX3_valueOf_10 (by decide) (fun z => ?_) (fun z => ?_)
    · replace w := w1 z
      clear w1 w2
      exact V.sub [] rfl (tX3_valueOf_b22 X  w)
    · replace w := w2 z
      clear w1 w2
      refine V_aloadr_n X dX3_valueOf_13 0 rfl ?_
      obtain ⟨fs, r4, hh, hv, w⟩ := w
      refine V_get X flX3_9 dX3_valueOf_14 hh hv ?_
      refine V_iload_n X dX3_valueOf_17 1 rfl ?_
      obtain ⟨a5, rfl, w⟩ := w
      obtain ⟨N9, g9, hh, hi, w⟩ := w
      refine V_iald X dX3_valueOf_18 hh hi ?_
      generalize g9 _ = x6 at w ⊢
      refine V_goto (tgt := 23) X dX3_valueOf_19 (by decide) ?_
      exact V.sub [] rfl (tX3_valueOf_b23 X  w)
theorem cX3_valueOf_ok {l : Launch} {G : gG} {h : gH} (hls : l.stackTraces = false) {Qn : Int32 → gH → Prop} {v0 : Nat} {v1 : Int32} (w : vX3_valueOf G.2.2.1 Qn h v0 v1) : gMi l yX3_valueOf cX3_valueOf 2 (some FieldType.int) rmX3_valueOf rmX3_valueOf.cells rmX3_valueOf.slots G h [.ref v0, .int v1] Qn := by
  exact gMi.of (by decide +kernel) hls (Nat.le_of_ble_eq_true rfl) rfl rfl (fun p e s m below meth c A X hnm => tX3_valueOf X w)
/-! AnimationController$Machine.setValue(II)V -/
abbrev rmX3_setValue : Room := { frames := 0, cells := 0, slots := 0, locals := 0 }
def vX3_setValue_b20 (t0 : Nat)  (Qn : gH → Prop) (h : gH)  : Prop := Qn h
set_option maxRecDepth 100000 in
set_option maxHeartbeats 4000000 in
theorem tX3_setValue_b20 {p : Program} {l : Launch} {e : Env} {s : State} {m : MethodId} {args : Array Value} {below : List Frame} {meth : Method} {c : Code} {G : gG} {A : Nat → Prop} {Qn : gH → Prop} (X : gC p l s m args meth c G A cX3_setValue 3 none RX3)   {h : gH}  (w : vX3_setValue_b20 G.2.2.1  Qn h ) : V p l e rmX3_setValue s m args below meth c (MQ below (va_Qv Qn (gB G A) A) args s rmX3_setValue.cells rmX3_setValue.slots A) G A 3 h 0 0 20 [] [] := by
  exact V_vret X rfl dX3_setValue_20 (Nat.le_of_ble_eq_true rfl) (Nat.le_of_ble_eq_true rfl) w
def vX3_setValue (t0 : Nat)  (Qn : gH → Prop) (h : gH) (v0 : Nat) (v1 : Int32) (v2 : Int32) : Prop := (((v1 : Int32) < 0) → (vX3_setValue_b20 t0  Qn h )) ∧ ((¬ (v1 : Int32) < 0) → (gr h v0 6 1 (fun r1 => nn r1 (fun a2 => al h a2 (fun x3 => ((x3 ≤ (v1 : Int32)) → (vX3_setValue_b20 t0  Qn h )) ∧ ((¬ x3 ≤ (v1 : Int32)) → (gr h v0 6 1 (fun r4 => nn r4 (fun a5 => si h a5 v1 v2 (fun h6 => vX3_setValue_b20 t0  Qn h6 ))))))))))
set_option maxRecDepth 100000 in
set_option maxHeartbeats 4000000 in
theorem tX3_setValue {p : Program} {l : Launch} {e : Env} {s : State} {m : MethodId} {args : Array Value} {below : List Frame} {meth : Method} {c : Code} {G : gG} {A : Nat → Prop} {Qn : gH → Prop} (X : gC p l s m args meth c G A cX3_setValue 3 none RX3)   {h : gH} {v0 : Nat} {v1 : Int32} {v2 : Int32} (w : vX3_setValue G.2.2.1  Qn h v0 v1 v2) : V p l e rmX3_setValue s m args below meth c (MQ below (va_Qv Qn (gB G A) A) args s rmX3_setValue.cells rmX3_setValue.slots A) G A 3 h 0 0 0 [(0, .ref v0), (1, .int v1), (2, .int v2)] [] := by
  refine V_iload_n X dX3_setValue_0 1 rfl ?_
  obtain ⟨w1, w2⟩ := w
  refine V_if_lt (tgt := 20) X dX3_setValue_1 (by decide) (fun z => ?_) (fun z => ?_)
  · replace w := w1 z
    clear w1 w2
    exact V.sub [] rfl (tX3_setValue_b20 X  w)
  · replace w := w2 z
    clear w1 w2
    refine V_iload_n X dX3_setValue_4 1 rfl ?_
    refine V_aloadr_n X dX3_setValue_5 0 rfl ?_
    obtain ⟨fs, r1, hh, hv, w⟩ := w
    refine V_get X flX3_9 dX3_setValue_6 hh hv ?_
    obtain ⟨a2, rfl, w⟩ := w
    obtain ⟨kt9, x9, hh, hk9, w⟩ := w
    refine V_alen X dX3_setValue_9 hh hk9 ?_
    generalize Int32.ofNat _ = x3 at w ⊢
    obtain ⟨w1, w2⟩ := w
    refine V_icmp_ge (tgt := 20) X dX3_setValue_10 (by decide) (fun z => ?_) (fun z => ?_)
    · replace w := w1 z
      clear w1 w2
      exact V.sub [] rfl (tX3_setValue_b20 X  w)
    · replace w := w2 z
      clear w1 w2
      refine V_aloadr_n X dX3_setValue_13 0 rfl ?_
      obtain ⟨fs, r4, hh, hv, w⟩ := w
      refine V_get X flX3_9 dX3_setValue_14 hh hv ?_
      refine V_iload_n X dX3_setValue_17 1 rfl ?_
      refine V_iload_n X dX3_setValue_18 2 rfl ?_
      obtain ⟨a5, rfl, w⟩ := w
      obtain ⟨N9, g9, hh, hi, w⟩ := w
      refine V_iast X dX3_setValue_19 hh hi ?_
      generalize va_up _ _ _ = h6 at w ⊢
      exact V.sub [] rfl (tX3_setValue_b20 X  w)
theorem cX3_setValue_ok {l : Launch} {G : gG} {h : gH} (hls : l.stackTraces = false) {Qn : gH → Prop} {v0 : Nat} {v1 : Int32} {v2 : Int32} (w : vX3_setValue G.2.2.1 Qn h v0 v1 v2) : gMv l yX3_setValue cX3_setValue 3 none rmX3_setValue rmX3_setValue.cells rmX3_setValue.slots G h [.ref v0, .int v1, .int v2] Qn := by
  exact gMv.of (by decide +kernel) hls (Nat.le_of_ble_eq_true rfl) rfl rfl (fun p e s m below meth c A X hnm => tX3_setValue X w)
/-! java/lang/Math.max(JJ)J -/
abbrev rmJ9_max_f86c9 : Room := { frames := 0, cells := 0, slots := 0, locals := 0 }
def vJ9_max_f86c9_b11 (t0 : Nat)  (Qn : Int64 → gH → Prop) (h : gH) (s0 : Int64) : Prop := Qn s0 h
set_option maxRecDepth 100000 in
set_option maxHeartbeats 4000000 in
theorem tJ9_max_f86c9_b11 {p : Program} {l : Launch} {e : Env} {s : State} {m : MethodId} {args : Array Value} {below : List Frame} {meth : Method} {c : Code} {G : gG} {A : Nat → Prop} {Qn : Int64 → gH → Prop} (X : gC p l s m args meth c G A cJ9_max_f86c9 4 (some FieldType.long) RJ9)   {h : gH} {s0 : Int64} (w : vJ9_max_f86c9_b11 G.2.2.1  Qn h s0) : V p l e rmJ9_max_f86c9 s m args below meth c (MQ below (va_Ql Qn (gB G A) A) args s rmJ9_max_f86c9.cells rmJ9_max_f86c9.slots A) G A 4 h 0 0 11 [] [.long s0] := by
  exact V_lret X rfl dJ9_max_f86c9_11 (Nat.le_of_ble_eq_true rfl) (Nat.le_of_ble_eq_true rfl) w
def vJ9_max_f86c9 (t0 : Nat)  (Qn : Int64 → gH → Prop) (h : gH) (v0 : Int64) (v2 : Int64) : Prop := (((v0 : Int64) < v2) → (vJ9_max_f86c9_b11 t0  Qn h v2)) ∧ ((¬ (v0 : Int64) < v2) → (vJ9_max_f86c9_b11 t0  Qn h v0))
set_option maxRecDepth 100000 in
set_option maxHeartbeats 4000000 in
theorem tJ9_max_f86c9 {p : Program} {l : Launch} {e : Env} {s : State} {m : MethodId} {args : Array Value} {below : List Frame} {meth : Method} {c : Code} {G : gG} {A : Nat → Prop} {Qn : Int64 → gH → Prop} (X : gC p l s m args meth c G A cJ9_max_f86c9 4 (some FieldType.long) RJ9)   {h : gH} {v0 : Int64} {v2 : Int64} (w : vJ9_max_f86c9 G.2.2.1  Qn h v0 v2) : V p l e rmJ9_max_f86c9 s m args below meth c (MQ below (va_Ql Qn (gB G A) A) args s rmJ9_max_f86c9.cells rmJ9_max_f86c9.slots A) G A 4 h 0 0 0 [(0, .long v0), (2, .long v2)] [] := by
  refine V_lload_n X dJ9_max_f86c9_0 0 rfl ?_
  refine V_lload_n X dJ9_max_f86c9_1 1 rfl ?_
  refine V_lcmp X dJ9_max_f86c9_2 ?_
  obtain ⟨w1, w2⟩ := w
  refine V_if_lt (tgt := 10) X dJ9_max_f86c9_3 (by decide) (fun z => ?_) (fun z => ?_)
  · replace w := w1 ((lg_cmp_lt _ _).mp z)
    clear w1 w2
    refine V_lload_n X dJ9_max_f86c9_10 1 rfl ?_
    exact V.sub [] rfl (tJ9_max_f86c9_b11 X  w)
  · replace w := w2 (fun z9 => z ((lg_cmp_lt _ _).mpr z9))
    clear w1 w2
    refine V_lload_n X dJ9_max_f86c9_6 0 rfl ?_
    refine V_goto (tgt := 11) X dJ9_max_f86c9_7 (by decide) ?_
    exact V.sub [] rfl (tJ9_max_f86c9_b11 X  w)
theorem cJ9_max_f86c9_ok {l : Launch} {G : gG} {h : gH} (hls : l.stackTraces = false) {Qn : Int64 → gH → Prop} {v0 : Int64} {v2 : Int64} (w : vJ9_max_f86c9 G.2.2.1 Qn h v0 v2) : gMl l yJ9_max_f86c9 cJ9_max_f86c9 4 (some FieldType.long) rmJ9_max_f86c9 rmJ9_max_f86c9.cells rmJ9_max_f86c9.slots G h [.long v0, .long v2] Qn := by
  exact gMl.ofF (by decide +kernel) hls (Nat.le_of_ble_eq_true rfl) rfl rfl (fun p e s m below meth c A X hnm => tJ9_max_f86c9 X w)
/-! AnimationController$Machine.lengthOf(LAnimationController$State;)I -/
abbrev rmX3_lengthOf : Room := { frames := 9, cells := 0, slots := 0, locals := 233 }
def vX3_lengthOf_b22_o (t0 : Nat) (k22 : gH → Nat → Int64 → Int32 → Prop) (Qn : Int32 → gH → Prop) (h : gH) (v0 : Nat) (v2 : Int64) (v4 : Int32) : Prop := gr h v0 6 0 (fun r1 => nn r1 (fun a2 => gr h a2 7 2 (fun r3 => nn r3 (fun a4 => io h a4 2 (vJx4a65c_size_8abf5 t0 (fun x6 h5 => ((x6 ≤ (v4 : Int32)) → (¬ (1000000 : Int64) = 0 ∧ (vJ9_max_f86c9 t0 (fun x8 h7 => Qn (Int64.toInt32 x8) h7) h5 (v2 / 1000000) 1))) ∧ ((¬ x6 ≤ (v4 : Int32)) → (gr h5 v0 6 11 (fun r9 => nn r9 (fun a10 => io h5 a10 3 (vX0_weightOf t0 (fun x12 h11 => gr h11 v0 6 0 (fun r13 => nn r13 (fun a14 => gr h11 a14 7 2 (fun r15 => nn r15 (fun a16 => io h11 a16 2 (vJx4a65c_get_915e3 t0 (fun r18 h17 => nn r18 (fun a19 => io h17 a19 4 (gi h17 a19 4 1 (fun x20 => k22 h17 v0 (v2 + ((Int32.toInt64 x12) * (Int32.toInt64 x20))) (v4 + 1))))) h11 a16 v4)))))) h5 a10 v4)))))) h a4 )))))
set_option maxRecDepth 100000 in
set_option maxHeartbeats 4000000 in
theorem tX3_lengthOf_b22_o {p : Program} {l : Launch} {e : Env} {s : State} {m : MethodId} {args : Array Value} {below : List Frame} {meth : Method} {c : Code} {G : gG} {A : Nat → Prop} {Qn : Int32 → gH → Prop} (X : gC p l s m args meth c G A cX3_lengthOf 5 (some FieldType.int) RX3) {k22 : gH → Nat → Int64 → Int32 → Prop} (H22 : ∀ (h : gH) (v0 : Nat) (v2 : Int64) (v4 : Int32), k22 h v0 v2 v4 → V p l e rmX3_lengthOf s m args below meth c (MQ below (va_Qi Qn (gB G A) A) args s rmX3_lengthOf.cells rmX3_lengthOf.slots A) G A 5 h 0 0 22 [(0, .ref v0), (2, .long v2), (4, .int v4)] []) {h : gH} {v0 : Nat} {v2 : Int64} {v4 : Int32} (w : vX3_lengthOf_b22_o G.2.2.1 k22 Qn h v0 v2 v4) : V p l e rmX3_lengthOf s m args below meth c (MQ below (va_Qi Qn (gB G A) A) args s rmX3_lengthOf.cells rmX3_lengthOf.slots A) G A 5 h 0 0 22 [(0, .ref v0), (2, .long v2), (4, .int v4)] [] := by
  refine V_iload X dX3_lengthOf_22 2 rfl ?_
  refine V_aloadr_n X dX3_lengthOf_24 0 rfl ?_
  obtain ⟨fs, r1, hh, hv, w⟩ := w
  refine V_get X flX3_39 dX3_lengthOf_25 hh hv ?_
  obtain ⟨a2, rfl, w⟩ := w
  obtain ⟨fs, r3, hh, hv, w⟩ := w
  refine V_get3 X frX3_116 dX3_lengthOf_28 hh hv ?_
  obtain ⟨a4, rfl, w⟩ := w
  obtain ⟨fs, hh, w⟩ := w
  refine V_callVi (As := []) (rest := [.int v4]) (k1 := 0) (n1 := 0) X (cJx4a65c_size_8abf5_ok X.2.2.2.2.2.2.2.2.1 w) lkX3_120 hh (q9 := (RJx4a65c, TJx4a65c, 3)) rfl rfl dX3_lengthOf_31 ⟨Nat.le_of_ble_eq_true rfl, Nat.le_of_ble_eq_true rfl⟩ rfl (Nat.le_of_ble_eq_true rfl) ⟨Nat.le_of_ble_eq_true rfl, Nat.le_of_ble_eq_true rfl⟩ (Nat.le_of_ble_eq_true rfl) (Nat.le_of_ble_eq_true rfl) (fun x6 h5 w9 => ?_)
  replace w := w9
  clear w9
  obtain ⟨w1, w2⟩ := w
  refine V_icmp_ge (tgt := 76) X dX3_lengthOf_34 (by decide) (fun z => ?_) (fun z => ?_)
  · replace w := w1 z
    clear w1 w2
    refine V_lload_n X dX3_lengthOf_76 1 rfl ?_
    refine V_ldc2 (y := 1000000) X dX3_lengthOf_77 kw_677 ?_
    obtain ⟨z0, w⟩ := w
    refine V_ldiv X dX3_lengthOf_80 z0 ?_
    refine V_lconst (y := 1) X dX3_lengthOf_81 (by decide) ?_
    refine V_callSl (As := [.long (v2 / 1000000), .long 1]) (rest := []) (k1 := 0) (n1 := 0) X (cJ9_max_f86c9_ok X.2.2.2.2.2.2.2.2.1 w) lkX3_141 dX3_lengthOf_82 ⟨Nat.le_of_ble_eq_true rfl, Nat.le_of_ble_eq_true rfl⟩ rfl (Nat.le_of_ble_eq_true rfl) ⟨Nat.le_of_ble_eq_true rfl, Nat.le_of_ble_eq_true rfl⟩ (Nat.le_of_ble_eq_true rfl) (Nat.le_of_ble_eq_true rfl) (fun x8 h7 w9 => ?_)
    replace w := w9
    clear w9
    refine V_l2i X dX3_lengthOf_85 ?_
    exact V_iret X rfl dX3_lengthOf_86 (Nat.le_of_ble_eq_true rfl) (Nat.le_of_ble_eq_true rfl) w
  · replace w := w2 z
    clear w1 w2
    refine V_lload_n X dX3_lengthOf_37 1 rfl ?_
    refine V_aloadr_n X dX3_lengthOf_38 0 rfl ?_
    obtain ⟨fs, r9, hh, hv, w⟩ := w
    refine V_get X flX3_32 dX3_lengthOf_39 hh hv ?_
    refine V_iload X dX3_lengthOf_42 2 rfl ?_
    obtain ⟨a10, rfl, w⟩ := w
    obtain ⟨fs, hh, w⟩ := w
    refine V_callVi (As := [.int v4]) (rest := [.long v2]) (k1 := 0) (n1 := 0) X (cX0_weightOf_ok X.2.2.2.2.2.2.2.2.1 w) lkX3_126 hh (q9 := (RX0, TX0, 1)) rfl rfl dX3_lengthOf_44 ⟨Nat.le_of_ble_eq_true rfl, Nat.le_of_ble_eq_true rfl⟩ rfl (Nat.le_of_ble_eq_true rfl) ⟨Nat.le_of_ble_eq_true rfl, Nat.le_of_ble_eq_true rfl⟩ (Nat.le_of_ble_eq_true rfl) (Nat.le_of_ble_eq_true rfl) (fun x12 h11 w9 => ?_)
    replace w := w9
    clear w9
    refine V_i2l X dX3_lengthOf_47 ?_
    refine V_aloadr_n X dX3_lengthOf_48 0 rfl ?_
    obtain ⟨fs, r13, hh, hv, w⟩ := w
    refine V_get X flX3_39 dX3_lengthOf_49 hh hv ?_
    obtain ⟨a14, rfl, w⟩ := w
    obtain ⟨fs, r15, hh, hv, w⟩ := w
    refine V_get3 X frX3_116 dX3_lengthOf_52 hh hv ?_
    refine V_iload X dX3_lengthOf_55 2 rfl ?_
    obtain ⟨a16, rfl, w⟩ := w
    obtain ⟨fs, hh, w⟩ := w
    refine V_callVq (As := [.int v4]) (rest := [.long (Int32.toInt64 x12), .long v2]) (k1 := 0) (n1 := 0) X (cJx4a65c_get_915e3_ok X.2.2.2.2.2.2.2.2.1 w) lkX3_130 hh (q9 := (RJx4a65c, TJx4a65c, 3)) rfl rfl dX3_lengthOf_57 ⟨Nat.le_of_ble_eq_true rfl, Nat.le_of_ble_eq_true rfl⟩ rfl (Nat.le_of_ble_eq_true rfl) ⟨Nat.le_of_ble_eq_true rfl, Nat.le_of_ble_eq_true rfl⟩ (Nat.le_of_ble_eq_true rfl) (Nat.le_of_ble_eq_true rfl) (fun r18 h17 w9 => ?_)
    replace w := w9
    clear w9
    obtain ⟨a19, rfl, w⟩ := w
    obtain ⟨fs, hh, w⟩ := w
    refine V_cast (q9 := (RX1, TX1, 5)) X kw_676 rfl rfl hh dX3_lengthOf_60 ?_
    obtain ⟨fs, x20, hh, hv, w⟩ := w
    refine V_get3 X frX3_136 dX3_lengthOf_63 hh hv ?_
    refine V_i2l X dX3_lengthOf_66 ?_
    refine V_lmul X dX3_lengthOf_67 ?_
    refine V_ladd X dX3_lengthOf_68 ?_
    refine V_lstore_n (i0 := 2) X dX3_lengthOf_69 rfl (by decide) rfl ?_
    refine V_iinc (y := (v4 + 1)) X dX3_lengthOf_70 2 rfl (by first | rfl | (congr 1)) (by decide) rfl ?_
    refine V_goto (tgt := 22) X dX3_lengthOf_73 (by decide) ?_
    exact V.sub [2, 1, 0] rfl (H22 _ _ _ _ w)
def vX3_lengthOf_b22 (t0 : Nat)  (Qn : Int32 → gH → Prop) (n : Nat) : gH → Nat → Int64 → Int32 → Prop := Nat.rec (motive := fun _ => gH → Nat → Int64 → Int32 → Prop) (fun _ _ _ _ => False) (fun _ k22 => vX3_lengthOf_b22_o t0 k22 Qn) n
theorem tX3_lengthOf_b22 {p : Program} {l : Launch} {e : Env} {s : State} {m : MethodId} {args : Array Value} {below : List Frame} {meth : Method} {c : Code} {G : gG} {A : Nat → Prop} {Qn : Int32 → gH → Prop} (X : gC p l s m args meth c G A cX3_lengthOf 5 (some FieldType.int) RX3)   : ∀ (n : Nat) (h : gH) (v0 : Nat) (v2 : Int64) (v4 : Int32) (w : vX3_lengthOf_b22 G.2.2.1  Qn n h v0 v2 v4), V p l e rmX3_lengthOf s m args below meth c (MQ below (va_Qi Qn (gB G A) A) args s rmX3_lengthOf.cells rmX3_lengthOf.slots A) G A 5 h 0 0 22 [(0, .ref v0), (2, .long v2), (4, .int v4)] [] := by
  intro n
  induction n with
  | zero => intro h v0 v2 v4 w; exact False.elim w
  | succ n ih => intro h v0 v2 v4 w; exact tX3_lengthOf_b22_o X ih w
def vX3_lengthOf (t0 : Nat)  (Qn : Int32 → gH → Prop) (h : gH) (v0 : Nat) (v1 : Option Nat) : Prop := gr h v0 6 11 (fun r1 => nn v1 (fun a2 => gr h a2 10 1 (fun r3 => gr h v0 6 1 (fun r4 => nn r1 (fun a5 => io h a5 3 (vX0_fill t0 (fun h6 => ∃ n : Nat, vX3_lengthOf_b22 t0  Qn n h6 v0 0 0) h a5 r3 1000000 r4))))))
set_option maxRecDepth 100000 in
set_option maxHeartbeats 4000000 in
theorem tX3_lengthOf {p : Program} {l : Launch} {e : Env} {s : State} {m : MethodId} {args : Array Value} {below : List Frame} {meth : Method} {c : Code} {G : gG} {A : Nat → Prop} {Qn : Int32 → gH → Prop} (X : gC p l s m args meth c G A cX3_lengthOf 5 (some FieldType.int) RX3)   {h : gH} {v0 : Nat} {v1 : Option Nat} (w : vX3_lengthOf G.2.2.1  Qn h v0 v1) : V p l e rmX3_lengthOf s m args below meth c (MQ below (va_Qi Qn (gB G A) A) args s rmX3_lengthOf.cells rmX3_lengthOf.slots A) G A 5 h 0 0 0 [(0, .ref v0), (1, va_rf v1)] [] := by
  refine V_aloadr_n X dX3_lengthOf_0 0 rfl ?_
  obtain ⟨fs, r1, hh, hv, w⟩ := w
  refine V_get X flX3_32 dX3_lengthOf_1 hh hv ?_
  refine V_aload_n X dX3_lengthOf_4 1 rfl ?_
  obtain ⟨a2, rfl, w⟩ := w
  obtain ⟨fs, r3, hh, hv, w⟩ := w
  refine V_get3 X frX3_105 dX3_lengthOf_5 hh hv ?_
  refine V_ldc (y := 1000000) X dX3_lengthOf_8 kw_651 ?_
  refine V_aloadr_n X dX3_lengthOf_10 0 rfl ?_
  obtain ⟨fs, r4, hh, hv, w⟩ := w
  refine V_get X flX3_9 dX3_lengthOf_11 hh hv ?_
  obtain ⟨a5, rfl, w⟩ := w
  obtain ⟨fs, hh, w⟩ := w
  refine V_callVv (As := [va_rf r3, .int 1000000, va_rf r4]) (rest := []) (k1 := 0) (n1 := 0) X (cX0_fill_ok X.2.2.2.2.2.2.2.2.1 w) lkX3_112 hh (q9 := (RX0, TX0, 1)) rfl rfl dX3_lengthOf_14 ⟨Nat.le_of_ble_eq_true rfl, Nat.le_of_ble_eq_true rfl⟩ rfl (Nat.le_of_ble_eq_true rfl) ⟨Nat.le_of_ble_eq_true rfl, Nat.le_of_ble_eq_true rfl⟩ (Nat.le_of_ble_eq_true rfl) (Nat.le_of_ble_eq_true rfl) (fun h6 w9 => ?_)
  replace w := w9
  clear w9
  refine V_lconst (y := 0) X dX3_lengthOf_17 (by decide) ?_
  refine V_lstore_n (i0 := 2) X dX3_lengthOf_18 rfl (by decide) rfl ?_
  refine V_iconst (y := 0) X dX3_lengthOf_19 (by decide) ?_
  refine V_istore X dX3_lengthOf_20 (by decide) rfl ?_
  obtain ⟨n9, w⟩ := w
  exact V.sub [2, 1, 0] rfl (tX3_lengthOf_b22 X  n9 _ _ _ _ w)
theorem cX3_lengthOf_ok {l : Launch} {G : gG} {h : gH} (hls : l.stackTraces = false) {Qn : Int32 → gH → Prop} {v0 : Nat} {v1 : Option Nat} (w : vX3_lengthOf G.2.2.1 Qn h v0 v1) : gMi l yX3_lengthOf cX3_lengthOf 5 (some FieldType.int) rmX3_lengthOf rmX3_lengthOf.cells rmX3_lengthOf.slots G h [.ref v0, va_rf v1] Qn := by
  cases v1 <;>
  exact gMi.of (by decide +kernel) hls (Nat.le_of_ble_eq_true rfl) rfl rfl (fun p e s m below meth c A X hnm => tX3_lengthOf X w)
/-! AnimationController$Transition.isListed(LAnimationController$State;LAnimationController$State;)Z -/
abbrev rmX9_isListed : Room := { frames := 0, cells := 0, slots := 0, locals := 0 }
def vX9_isListed_b36 (t0 : Nat)  (Qn : Int32 → gH → Prop) (h : gH) (s0 : Int32) : Prop := gZ s0 ∧ Qn s0 h
set_option maxRecDepth 100000 in
set_option maxHeartbeats 4000000 in
theorem tX9_isListed_b36 {p : Program} {l : Launch} {e : Env} {s : State} {m : MethodId} {args : Array Value} {below : List Frame} {meth : Method} {c : Code} {G : gG} {A : Nat → Prop} {Qn : Int32 → gH → Prop} (X : gC p l s m args meth c G A cX9_isListed 3 (some FieldType.boolean) RX9)   {h : gH} {s0 : Int32} (w : vX9_isListed_b36 G.2.2.1  Qn h s0) : V p l e rmX9_isListed s m args below meth c (MQ below (va_Qi Qn (gB G A) A) args s rmX9_isListed.cells rmX9_isListed.slots A) G A 3 h 0 0 36 [] [.int s0] := by
  obtain ⟨hz, w⟩ := w
  exact V_zret X rfl hz.1 dX9_isListed_36 (Nat.le_of_ble_eq_true rfl) (Nat.le_of_ble_eq_true rfl) w
def vX9_isListed (t0 : Nat)  (Qn : Int32 → gH → Prop) (h : gH) (v0 : Nat) (v1 : Option Nat) (v2 : Option Nat) : Prop := gr h v0 12 1 (fun r1 => ((r1) = none → (gr h v0 12 2 (fun r3 => ((r3 = v2) → (vX9_isListed_b36 t0  Qn h 0)) ∧ ((¬ r3 = v2) → (vX9_isListed_b36 t0  Qn h 1))))) ∧ (∀ a2 : Nat, (r1) = some a2 → (gr h v0 12 1 (fun r4 => ((¬ r4 = v1) → (vX9_isListed_b36 t0  Qn h 0)) ∧ ((r4 = v1) → (vX9_isListed_b36 t0  Qn h 1))))))
set_option maxRecDepth 100000 in
set_option maxHeartbeats 4000000 in
theorem tX9_isListed {p : Program} {l : Launch} {e : Env} {s : State} {m : MethodId} {args : Array Value} {below : List Frame} {meth : Method} {c : Code} {G : gG} {A : Nat → Prop} {Qn : Int32 → gH → Prop} (X : gC p l s m args meth c G A cX9_isListed 3 (some FieldType.boolean) RX9)   {h : gH} {v0 : Nat} {v1 : Option Nat} {v2 : Option Nat} (w : vX9_isListed G.2.2.1  Qn h v0 v1 v2) : V p l e rmX9_isListed s m args below meth c (MQ below (va_Qi Qn (gB G A) A) args s rmX9_isListed.cells rmX9_isListed.slots A) G A 3 h 0 0 0 [(0, .ref v0), (1, va_rf v1), (2, va_rf v2)] [] := by
  refine V_aloadr_n X dX9_isListed_0 0 rfl ?_
  obtain ⟨fs, r1, hh, hv, w⟩ := w
  refine V_get X flX9_32 dX9_isListed_1 hh hv ?_
  obtain ⟨w1, w2⟩ := w
  refine V_ifnonnull (tgt := 23) X dX9_isListed_4 (by decide) (fun a2 z => ?_) (fun z => ?_)
  · replace w := w2 a2 z
    clear w1 w2
    subst z
    refine V_aloadr_n X dX9_isListed_23 0 rfl ?_
    obtain ⟨fs, r4, hh, hv, w⟩ := w
    refine V_get X flX9_32 dX9_isListed_24 hh hv ?_
    refine V_aload_n X dX9_isListed_27 1 rfl ?_
    obtain ⟨w1, w2⟩ := w
    refine V_acmp_ne r4 v1 (tgt := 35) X dX9_isListed_28 (by decide) (fun z => ?_) (fun z => ?_)
    · replace w := w1 z
      clear w1 w2
      refine V_iconst (y := 0) X dX9_isListed_35 (by decide) ?_
      exact V.sub [] rfl (tX9_isListed_b36 X  w)
    · replace w := w2 z
      clear w1 w2
      refine V_iconst (y := 1) X dX9_isListed_31 (by decide) ?_
      refine V_goto (tgt := 36) X dX9_isListed_32 (by decide) ?_
      exact V.sub [] rfl (tX9_isListed_b36 X  w)
  · replace w := w1 z
    clear w1 w2
    subst z
    refine V_aloadr_n X dX9_isListed_7 0 rfl ?_
    obtain ⟨fs, r3, hh, hv, w⟩ := w
    refine V_get X flX9_28 dX9_isListed_8 hh hv ?_
    refine V_aload_n X dX9_isListed_11 2 rfl ?_
    obtain ⟨w1, w2⟩ := w
    refine V_acmp_eq r3 v2 (tgt := 19) X dX9_isListed_12 (by decide) (fun z => ?_) (fun z => ?_)
    · replace w := w1 z
      clear w1 w2
      refine V_iconst (y := 0) X dX9_isListed_19 (by decide) ?_
      refine V_goto (tgt := 36) X dX9_isListed_20 (by decide) ?_
      exact V.sub [] rfl (tX9_isListed_b36 X  w)
    · replace w := w2 z
      clear w1 w2
      refine V_iconst (y := 1) X dX9_isListed_15 (by decide) ?_
      refine V_goto (tgt := 36) X dX9_isListed_16 (by decide) ?_
      exact V.sub [] rfl (tX9_isListed_b36 X  w)
theorem cX9_isListed_ok {l : Launch} {G : gG} {h : gH} (hls : l.stackTraces = false) {Qn : Int32 → gH → Prop} {v0 : Nat} {v1 : Option Nat} {v2 : Option Nat} (w : vX9_isListed G.2.2.1 Qn h v0 v1 v2) : gMi l yX9_isListed cX9_isListed 3 (some FieldType.boolean) rmX9_isListed rmX9_isListed.cells rmX9_isListed.slots G h [.ref v0, va_rf v1, va_rf v2] Qn := by
  cases v1 <;>
  cases v2 <;>
  exact gMi.of (by decide +kernel) hls (Nat.le_of_ble_eq_true rfl) rfl rfl (fun p e s m below meth c A X hnm => tX9_isListed X w)
/-! AnimationController$Machine.originOf(LAnimationController$Transition;)I -/
abbrev rmX3_originOf : Room := { frames := 1, cells := 0, slots := 0, locals := 22 }
def vX3_originOf_b50 (t0 : Nat)  (Qn : Int32 → gH → Prop) (h : gH)  : Prop := Qn 0 h
set_option maxRecDepth 100000 in
set_option maxHeartbeats 4000000 in
theorem tX3_originOf_b50 {p : Program} {l : Launch} {e : Env} {s : State} {m : MethodId} {args : Array Value} {below : List Frame} {meth : Method} {c : Code} {G : gG} {A : Nat → Prop} {Qn : Int32 → gH → Prop} (X : gC p l s m args meth c G A cX3_originOf 5 (some FieldType.int) RX3)   {h : gH}  (w : vX3_originOf_b50 G.2.2.1  Qn h ) : V p l e rmX3_originOf s m args below meth c (MQ below (va_Qi Qn (gB G A) A) args s rmX3_originOf.cells rmX3_originOf.slots A) G A 5 h 0 0 50 [] [] := by
  refine V_iconst (y := 0) X dX3_originOf_50 (by decide) ?_
  exact V_iret X rfl dX3_originOf_51 (Nat.le_of_ble_eq_true rfl) (Nat.le_of_ble_eq_true rfl) w
def vX3_originOf_b181 (t0 : Nat)  (Qn : Int32 → gH → Prop) (h : gH) (s0 : Int32) : Prop := Qn s0 h
set_option maxRecDepth 100000 in
set_option maxHeartbeats 4000000 in
theorem tX3_originOf_b181 {p : Program} {l : Launch} {e : Env} {s : State} {m : MethodId} {args : Array Value} {below : List Frame} {meth : Method} {c : Code} {G : gG} {A : Nat → Prop} {Qn : Int32 → gH → Prop} (X : gC p l s m args meth c G A cX3_originOf 5 (some FieldType.int) RX3)   {h : gH} {s0 : Int32} (w : vX3_originOf_b181 G.2.2.1  Qn h s0) : V p l e rmX3_originOf s m args below meth c (MQ below (va_Qi Qn (gB G A) A) args s rmX3_originOf.cells rmX3_originOf.slots A) G A 5 h 0 0 181 [] [.int s0] := by
  exact V_iret X rfl dX3_originOf_181 (Nat.le_of_ble_eq_true rfl) (Nat.le_of_ble_eq_true rfl) w
def vX3_originOf_b192 (t0 : Nat)  (Qn : Int32 → gH → Prop) (h : gH) (s0 : Int32) : Prop := Qn s0 h
set_option maxRecDepth 100000 in
set_option maxHeartbeats 4000000 in
theorem tX3_originOf_b192 {p : Program} {l : Launch} {e : Env} {s : State} {m : MethodId} {args : Array Value} {below : List Frame} {meth : Method} {c : Code} {G : gG} {A : Nat → Prop} {Qn : Int32 → gH → Prop} (X : gC p l s m args meth c G A cX3_originOf 5 (some FieldType.int) RX3)   {h : gH} {s0 : Int32} (w : vX3_originOf_b192 G.2.2.1  Qn h s0) : V p l e rmX3_originOf s m args below meth c (MQ below (va_Qi Qn (gB G A) A) args s rmX3_originOf.cells rmX3_originOf.slots A) G A 5 h 0 0 192 [] [.int s0] := by
  exact V_iret X rfl dX3_originOf_192 (Nat.le_of_ble_eq_true rfl) (Nat.le_of_ble_eq_true rfl) w
def vX3_originOf_b211 (t0 : Nat)  (Qn : Int32 → gH → Prop) (h : gH) (s0 : Int32) : Prop := Qn s0 h
set_option maxRecDepth 100000 in
set_option maxHeartbeats 4000000 in
theorem tX3_originOf_b211 {p : Program} {l : Launch} {e : Env} {s : State} {m : MethodId} {args : Array Value} {below : List Frame} {meth : Method} {c : Code} {G : gG} {A : Nat → Prop} {Qn : Int32 → gH → Prop} (X : gC p l s m args meth c G A cX3_originOf 5 (some FieldType.int) RX3)   {h : gH} {s0 : Int32} (w : vX3_originOf_b211 G.2.2.1  Qn h s0) : V p l e rmX3_originOf s m args below meth c (MQ below (va_Qi Qn (gB G A) A) args s rmX3_originOf.cells rmX3_originOf.slots A) G A 5 h 0 0 211 [] [.int s0] := by
  exact V_iret X rfl dX3_originOf_211 (Nat.le_of_ble_eq_true rfl) (Nat.le_of_ble_eq_true rfl) w
def vX3_originOf_b230 (t0 : Nat)  (Qn : Int32 → gH → Prop) (h : gH) (s0 : Int32) : Prop := Qn s0 h
set_option maxRecDepth 100000 in
set_option maxHeartbeats 4000000 in
theorem tX3_originOf_b230 {p : Program} {l : Launch} {e : Env} {s : State} {m : MethodId} {args : Array Value} {below : List Frame} {meth : Method} {c : Code} {G : gG} {A : Nat → Prop} {Qn : Int32 → gH → Prop} (X : gC p l s m args meth c G A cX3_originOf 5 (some FieldType.int) RX3)   {h : gH} {s0 : Int32} (w : vX3_originOf_b230 G.2.2.1  Qn h s0) : V p l e rmX3_originOf s m args below meth c (MQ below (va_Qi Qn (gB G A) A) args s rmX3_originOf.cells rmX3_originOf.slots A) G A 5 h 0 0 230 [] [.int s0] := by
  exact V_iret X rfl dX3_originOf_230 (Nat.le_of_ble_eq_true rfl) (Nat.le_of_ble_eq_true rfl) w
def vX3_originOf_b112 (t0 : Nat)  (Qn : Int32 → gH → Prop) (h : gH) (v0 : Nat) (v1 : Option Nat) (s0 : Int32) : Prop := gr h v0 6 3 (fun r1 => nn r1 (fun a2 => gr h a2 11 0 (fun r3 => gr h v0 6 3 (fun r4 => nn r4 (fun a5 => gr h a5 11 0 (fun r6 => nn v1 (fun a7 => io h a7 12 (vX9_isListed t0 (fun x9 h8 => gr h8 v0 6 4 (fun r10 => nn r10 (fun a11 => gi h8 a11 12 6 (fun x12 => ((x12 : Int32).toInt = 1 → ((((s0 : Int32) = 0) → (vX3_originOf_b181 t0  Qn h8 0)) ∧ ((¬ (s0 : Int32) = 0) → (vX3_originOf_b181 t0  Qn h8 1)))) ∧ ((x12 : Int32).toInt = 2 → ((((x9 : Int32) = 0) → (vX3_originOf_b192 t0  Qn h8 0)) ∧ ((¬ (x9 : Int32) = 0) → (vX3_originOf_b192 t0  Qn h8 2)))) ∧ ((x12 : Int32).toInt = 3 → ((((s0 : Int32) = 0) → ((((x9 : Int32) = 0) → (vX3_originOf_b211 t0  Qn h8 0)) ∧ ((¬ (x9 : Int32) = 0) → (vX3_originOf_b211 t0  Qn h8 2)))) ∧ ((¬ (s0 : Int32) = 0) → (vX3_originOf_b211 t0  Qn h8 1)))) ∧ ((x12 : Int32).toInt = 4 → ((((x9 : Int32) = 0) → ((((s0 : Int32) = 0) → (vX3_originOf_b230 t0  Qn h8 0)) ∧ ((¬ (s0 : Int32) = 0) → (vX3_originOf_b230 t0  Qn h8 1)))) ∧ ((¬ (x9 : Int32) = 0) → (vX3_originOf_b230 t0  Qn h8 2)))) ∧ (((x12 : Int32).toInt < 1 ∨ 4 < (x12 : Int32).toInt) → (Qn 0 h8)))))) h a7 r3 r6))))))))
set_option maxRecDepth 100000 in
set_option maxHeartbeats 4000000 in
theorem tX3_originOf_b112 {p : Program} {l : Launch} {e : Env} {s : State} {m : MethodId} {args : Array Value} {below : List Frame} {meth : Method} {c : Code} {G : gG} {A : Nat → Prop} {Qn : Int32 → gH → Prop} (X : gC p l s m args meth c G A cX3_originOf 5 (some FieldType.int) RX3)   {h : gH} {v0 : Nat} {v1 : Option Nat} {s0 : Int32} (w : vX3_originOf_b112 G.2.2.1  Qn h v0 v1 s0) : V p l e rmX3_originOf s m args below meth c (MQ below (va_Qi Qn (gB G A) A) args s rmX3_originOf.cells rmX3_originOf.slots A) G A 5 h 0 0 112 [(0, .ref v0), (1, va_rf v1)] [.int s0] := by
  refine V_istore_n (i0 := 3) X dX3_originOf_112 rfl (by decide) rfl ?_
  refine V_aload_n X dX3_originOf_113 2 rfl ?_
  refine V_aloadr_n X dX3_originOf_114 1 rfl ?_
  obtain ⟨fs, r1, hh, hv, w⟩ := w
  refine V_get X flX3_58 dX3_originOf_115 hh hv ?_
  obtain ⟨a2, rfl, w⟩ := w
  obtain ⟨fs, r3, hh, hv, w⟩ := w
  refine V_get X flX3_187 dX3_originOf_118 hh hv ?_
  refine V_aloadr_n X dX3_originOf_121 1 rfl ?_
  obtain ⟨fs, r4, hh, hv, w⟩ := w
  refine V_get X flX3_58 dX3_originOf_122 hh hv ?_
  obtain ⟨a5, rfl, w⟩ := w
  obtain ⟨fs, r6, hh, hv, w⟩ := w
  refine V_get X flX3_187 dX3_originOf_125 hh hv ?_
  obtain ⟨a7, rfl, w⟩ := w
  obtain ⟨fs, hh, w⟩ := w
  refine V_callVi (As := [va_rf r3, va_rf r6]) (rest := []) (k1 := 0) (n1 := 0) X (cX9_isListed_ok X.2.2.2.2.2.2.2.2.1 w) lkX3_190 hh (q9 := (RX9, TX9, 12)) rfl rfl dX3_originOf_128 ⟨Nat.le_of_ble_eq_true rfl, Nat.le_of_ble_eq_true rfl⟩ rfl (Nat.le_of_ble_eq_true rfl) ⟨Nat.le_of_ble_eq_true rfl, Nat.le_of_ble_eq_true rfl⟩ (Nat.le_of_ble_eq_true rfl) (Nat.le_of_ble_eq_true rfl) (fun x9 h8 w9 => ?_)
  replace w := w9
  clear w9
  refine V_istore X dX3_originOf_131 (by decide) rfl ?_
  refine V_aloadr_n X dX3_originOf_133 2 rfl ?_
  obtain ⟨fs, r10, hh, hv, w⟩ := w
  refine V_get X flX3_71 dX3_originOf_134 hh hv ?_
  obtain ⟨a11, rfl, w⟩ := w
  obtain ⟨fs, x12, hh, hv, w⟩ := w
  refine V_get X flX3_166 dX3_originOf_137 hh hv ?_
  obtain ⟨w0, w1, w2, w3, w4⟩ := w
  rcases (show (x12 : Int32).toInt = 1 ∨ (x12 : Int32).toInt = 2 ∨ (x12 : Int32).toInt = 3 ∨ (x12 : Int32).toInt = 4 ∨ ((x12 : Int32).toInt < 1 ∨ 4 < (x12 : Int32).toInt) by omega) with z | z | z | z | z
  · refine V_tableIn (tgt := 172) X dX3_originOf_140 (by omega) (by omega) (by rw [z]; rfl) (by decide) ?_
    replace w := w0 z
    clear w0 w1 w2 w3 w4
    refine V_iload_n X dX3_originOf_172 1 rfl ?_
    obtain ⟨w1, w2⟩ := w
    refine V_if_eq (tgt := 180) X dX3_originOf_173 (by decide) (fun z => ?_) (fun z => ?_)
    · replace w := w1 z
      clear w1 w2
      refine V_iconst (y := 0) X dX3_originOf_180 (by decide) ?_
      exact V.sub [] rfl (tX3_originOf_b181 X  w)
    · replace w := w2 z
      clear w1 w2
      refine V_iconst (y := 1) X dX3_originOf_176 (by decide) ?_
      refine V_goto (tgt := 181) X dX3_originOf_177 (by decide) ?_
      exact V.sub [] rfl (tX3_originOf_b181 X  w)
  · refine V_tableIn (tgt := 182) X dX3_originOf_140 (by omega) (by omega) (by rw [z]; rfl) (by decide) ?_
    replace w := w1 z
    clear w0 w1 w2 w3 w4
    refine V_iload X dX3_originOf_182 0 rfl ?_
    obtain ⟨w1, w2⟩ := w
    refine V_if_eq (tgt := 191) X dX3_originOf_184 (by decide) (fun z => ?_) (fun z => ?_)
    · replace w := w1 z
      clear w1 w2
      refine V_iconst (y := 0) X dX3_originOf_191 (by decide) ?_
      exact V.sub [] rfl (tX3_originOf_b192 X  w)
    · replace w := w2 z
      clear w1 w2
      refine V_iconst (y := 2) X dX3_originOf_187 (by decide) ?_
      refine V_goto (tgt := 192) X dX3_originOf_188 (by decide) ?_
      exact V.sub [] rfl (tX3_originOf_b192 X  w)
  · refine V_tableIn (tgt := 193) X dX3_originOf_140 (by omega) (by omega) (by rw [z]; rfl) (by decide) ?_
    replace w := w2 z
    clear w0 w1 w2 w3 w4
    refine V_iload_n X dX3_originOf_193 1 rfl ?_
    obtain ⟨w1, w2⟩ := w
    refine V_if_eq (tgt := 201) X dX3_originOf_194 (by decide) (fun z => ?_) (fun z => ?_)
    · replace w := w1 z
      clear w1 w2
      refine V_iload X dX3_originOf_201 0 rfl ?_
      obtain ⟨w1, w2⟩ := w
      refine V_if_eq (tgt := 210) X dX3_originOf_203 (by decide) (fun z => ?_) (fun z => ?_)
      · replace w := w1 z
        clear w1 w2
        refine V_iconst (y := 0) X dX3_originOf_210 (by decide) ?_
        exact V.sub [] rfl (tX3_originOf_b211 X  w)
      · replace w := w2 z
        clear w1 w2
        refine V_iconst (y := 2) X dX3_originOf_206 (by decide) ?_
        refine V_goto (tgt := 211) X dX3_originOf_207 (by decide) ?_
        exact V.sub [] rfl (tX3_originOf_b211 X  w)
    · replace w := w2 z
      clear w1 w2
      refine V_iconst (y := 1) X dX3_originOf_197 (by decide) ?_
      refine V_goto (tgt := 211) X dX3_originOf_198 (by decide) ?_
      exact V.sub [] rfl (tX3_originOf_b211 X  w)
  · refine V_tableIn (tgt := 212) X dX3_originOf_140 (by omega) (by omega) (by rw [z]; rfl) (by decide) ?_
    replace w := w3 z
    clear w0 w1 w2 w3 w4
    refine V_iload X dX3_originOf_212 0 rfl ?_
    obtain ⟨w1, w2⟩ := w
    refine V_if_eq (tgt := 221) X dX3_originOf_214 (by decide) (fun z => ?_) (fun z => ?_)
    · replace w := w1 z
      clear w1 w2
      refine V_iload_n X dX3_originOf_221 1 rfl ?_
      obtain ⟨w1, w2⟩ := w
      refine V_if_eq (tgt := 229) X dX3_originOf_222 (by decide) (fun z => ?_) (fun z => ?_)
      · replace w := w1 z
        clear w1 w2
        refine V_iconst (y := 0) X dX3_originOf_229 (by decide) ?_
        exact V.sub [] rfl (tX3_originOf_b230 X  w)
      · replace w := w2 z
        clear w1 w2
        refine V_iconst (y := 1) X dX3_originOf_225 (by decide) ?_
        refine V_goto (tgt := 230) X dX3_originOf_226 (by decide) ?_
        exact V.sub [] rfl (tX3_originOf_b230 X  w)
    · replace w := w2 z
      clear w1 w2
      refine V_iconst (y := 2) X dX3_originOf_217 (by decide) ?_
      refine V_goto (tgt := 230) X dX3_originOf_218 (by decide) ?_
      exact V.sub [] rfl (tX3_originOf_b230 X  w)
  · refine V_tableOut (tgt := 231) X dX3_originOf_140 z (by decide) ?_
    replace w := w4 z
    clear w0 w1 w2 w3 w4
    refine V_iconst (y := 0) X dX3_originOf_231 (by decide) ?_
    exact V_iret X rfl dX3_originOf_232 (Nat.le_of_ble_eq_true rfl) (Nat.le_of_ble_eq_true rfl) w
def vX3_originOf_b111 (t0 : Nat)  (Qn : Int32 → gH → Prop) (h : gH) (v0 : Nat) (v1 : Option Nat) : Prop := vX3_originOf_b112 t0  Qn h v0 v1 0
set_option maxRecDepth 100000 in
set_option maxHeartbeats 4000000 in
theorem tX3_originOf_b111 {p : Program} {l : Launch} {e : Env} {s : State} {m : MethodId} {args : Array Value} {below : List Frame} {meth : Method} {c : Code} {G : gG} {A : Nat → Prop} {Qn : Int32 → gH → Prop} (X : gC p l s m args meth c G A cX3_originOf 5 (some FieldType.int) RX3)   {h : gH} {v0 : Nat} {v1 : Option Nat} (w : vX3_originOf_b111 G.2.2.1  Qn h v0 v1) : V p l e rmX3_originOf s m args below meth c (MQ below (va_Qi Qn (gB G A) A) args s rmX3_originOf.cells rmX3_originOf.slots A) G A 5 h 0 0 111 [(0, .ref v0), (1, va_rf v1)] [] := by
  refine V_iconst (y := 0) X dX3_originOf_111 (by decide) ?_
  exact V.sub [0, 1] rfl (tX3_originOf_b112 X  w)
def vX3_originOf_b81 (t0 : Nat)  (Qn : Int32 → gH → Prop) (h : gH) (v0 : Nat) (v1 : Option Nat) (s0 : Int32) : Prop := ((¬ (s0 : Int32) = 0) → (vX3_originOf_b111 t0  Qn h v0 v1)) ∧ (((s0 : Int32) = 0) → (gr h v0 6 2 (fun r1 => nn r1 (fun a2 => gr h a2 11 0 (fun r3 => gr h v0 6 3 (fun r4 => nn r4 (fun a5 => gr h a5 11 0 (fun r6 => nn v1 (fun a7 => io h a7 12 (vX9_isListed t0 (fun x9 h8 => (((x9 : Int32) = 0) → (vX3_originOf_b111 t0  Qn h8 v0 (some a7))) ∧ ((¬ (x9 : Int32) = 0) → (vX3_originOf_b112 t0  Qn h8 v0 (some a7) 1))) h a7 r3 r6))))))))))
set_option maxRecDepth 100000 in
set_option maxHeartbeats 4000000 in
theorem tX3_originOf_b81 {p : Program} {l : Launch} {e : Env} {s : State} {m : MethodId} {args : Array Value} {below : List Frame} {meth : Method} {c : Code} {G : gG} {A : Nat → Prop} {Qn : Int32 → gH → Prop} (X : gC p l s m args meth c G A cX3_originOf 5 (some FieldType.int) RX3)   {h : gH} {v0 : Nat} {v1 : Option Nat} {s0 : Int32} (w : vX3_originOf_b81 G.2.2.1  Qn h v0 v1 s0) : V p l e rmX3_originOf s m args below meth c (MQ below (va_Qi Qn (gB G A) A) args s rmX3_originOf.cells rmX3_originOf.slots A) G A 5 h 0 0 81 [(0, .ref v0), (1, va_rf v1)] [.int s0] := by
  refine V_istore_n (i0 := 2) X dX3_originOf_81 rfl (by decide) (by simp [va_cat1] <;> rfl) ?_
  refine V_iload_n X dX3_originOf_82 0 rfl ?_
  obtain ⟨w1, w2⟩ := w
  refine V_if_ne (tgt := 111) X dX3_originOf_83 (by decide) (fun z => ?_) (fun z => ?_)
  · replace w := w1 z
    clear w1 w2
    exact V.sub [1, 2] rfl (tX3_originOf_b111 X  w)
  · replace w := w2 z
    clear w1 w2
    refine V_aload_n X dX3_originOf_86 2 rfl ?_
    refine V_aloadr_n X dX3_originOf_87 1 rfl ?_
    obtain ⟨fs, r1, hh, hv, w⟩ := w
    refine V_get X flX3_54 dX3_originOf_88 hh hv ?_
    obtain ⟨a2, rfl, w⟩ := w
    obtain ⟨fs, r3, hh, hv, w⟩ := w
    refine V_get X flX3_187 dX3_originOf_91 hh hv ?_
    refine V_aloadr_n X dX3_originOf_94 1 rfl ?_
    obtain ⟨fs, r4, hh, hv, w⟩ := w
    refine V_get X flX3_58 dX3_originOf_95 hh hv ?_
    obtain ⟨a5, rfl, w⟩ := w
    obtain ⟨fs, r6, hh, hv, w⟩ := w
    refine V_get X flX3_187 dX3_originOf_98 hh hv ?_
    obtain ⟨a7, rfl, w⟩ := w
    obtain ⟨fs, hh, w⟩ := w
    refine V_callVi (As := [va_rf r3, va_rf r6]) (rest := []) (k1 := 0) (n1 := 0) X (cX9_isListed_ok X.2.2.2.2.2.2.2.2.1 w) lkX3_190 hh (q9 := (RX9, TX9, 12)) rfl rfl dX3_originOf_101 ⟨Nat.le_of_ble_eq_true rfl, Nat.le_of_ble_eq_true rfl⟩ rfl (Nat.le_of_ble_eq_true rfl) ⟨Nat.le_of_ble_eq_true rfl, Nat.le_of_ble_eq_true rfl⟩ (Nat.le_of_ble_eq_true rfl) (Nat.le_of_ble_eq_true rfl) (fun x9 h8 w9 => ?_)
    replace w := w9
    clear w9
    obtain ⟨w1, w2⟩ := w
    refine V_if_eq (tgt := 111) X dX3_originOf_104 (by decide) (fun z => ?_) (fun z => ?_)
    · replace w := w1 z
      clear w1 w2
      exact V.sub [1, 2] rfl (tX3_originOf_b111 X  w)
    · replace w := w2 z
      clear w1 w2
      refine V_iconst (y := 1) X dX3_originOf_107 (by decide) ?_
      refine V_goto (tgt := 112) X dX3_originOf_108 (by decide) ?_
      exact V.sub [1, 2] rfl (tX3_originOf_b112 X  w)
def vX3_originOf_b80 (t0 : Nat)  (Qn : Int32 → gH → Prop) (h : gH) (v0 : Nat) (v1 : Option Nat) : Prop := vX3_originOf_b81 t0  Qn h v0 v1 0
set_option maxRecDepth 100000 in
set_option maxHeartbeats 4000000 in
theorem tX3_originOf_b80 {p : Program} {l : Launch} {e : Env} {s : State} {m : MethodId} {args : Array Value} {below : List Frame} {meth : Method} {c : Code} {G : gG} {A : Nat → Prop} {Qn : Int32 → gH → Prop} (X : gC p l s m args meth c G A cX3_originOf 5 (some FieldType.int) RX3)   {h : gH} {v0 : Nat} {v1 : Option Nat} (w : vX3_originOf_b80 G.2.2.1  Qn h v0 v1) : V p l e rmX3_originOf s m args below meth c (MQ below (va_Qi Qn (gB G A) A) args s rmX3_originOf.cells rmX3_originOf.slots A) G A 5 h 0 0 80 [(0, .ref v0), (1, va_rf v1)] [] := by
  refine V_iconst (y := 0) X dX3_originOf_80 (by decide) ?_
  exact V.sub [0, 1] rfl (tX3_originOf_b81 X  w)
def vX3_originOf_b33 (t0 : Nat)  (Qn : Int32 → gH → Prop) (h : gH) (s0 : Int32) : Prop := Qn s0 h
set_option maxRecDepth 100000 in
set_option maxHeartbeats 4000000 in
theorem tX3_originOf_b33 {p : Program} {l : Launch} {e : Env} {s : State} {m : MethodId} {args : Array Value} {below : List Frame} {meth : Method} {c : Code} {G : gG} {A : Nat → Prop} {Qn : Int32 → gH → Prop} (X : gC p l s m args meth c G A cX3_originOf 5 (some FieldType.int) RX3)   {h : gH} {s0 : Int32} (w : vX3_originOf_b33 G.2.2.1  Qn h s0) : V p l e rmX3_originOf s m args below meth c (MQ below (va_Qi Qn (gB G A) A) args s rmX3_originOf.cells rmX3_originOf.slots A) G A 5 h 0 0 33 [] [.int s0] := by
  exact V_iret X rfl dX3_originOf_33 (Nat.le_of_ble_eq_true rfl) (Nat.le_of_ble_eq_true rfl) w
def vX3_originOf (t0 : Nat)  (Qn : Int32 → gH → Prop) (h : gH) (v0 : Nat) (v1 : Option Nat) : Prop := gr h v0 6 4 (fun r1 => ((r1) = none → (gr h v0 6 2 (fun r3 => nn r3 (fun a4 => gr h a4 11 0 (fun r5 => gr h v0 6 2 (fun r6 => nn r6 (fun a7 => gr h a7 11 0 (fun r8 => nn v1 (fun a9 => io h a9 12 (vX9_isListed t0 (fun x11 h10 => (((x11 : Int32) = 0) → (vX3_originOf_b33 t0  Qn h10 0)) ∧ ((¬ (x11 : Int32) = 0) → (vX3_originOf_b33 t0  Qn h10 1))) h a9 r5 r8)))))))))) ∧ (∀ a2 : Nat, (r1) = some a2 → (gi h v0 6 8 (fun x12 => ((2 ≤ (x12 : Int32)) → (vX3_originOf_b50 t0  Qn h )) ∧ ((¬ 2 ≤ (x12 : Int32)) → (gr h v0 6 4 (fun r13 => ((¬ v1 = r13) → (gr h v0 6 4 (fun r14 => nn r14 (fun a15 => gi h a15 12 7 (fun x16 => (((x16 : Int32) = 0) → (vX3_originOf_b80 t0  Qn h v0 v1)) ∧ ((¬ (x16 : Int32) = 0) → (nn v1 (fun a17 => gi h a17 12 0 (fun x18 => gr h v0 6 4 (fun r19 => nn r19 (fun a20 => gi h a20 12 0 (fun x21 => (((x18 : Int32) ≤ x21) → (vX3_originOf_b80 t0  Qn h v0 (some a17))) ∧ ((¬ (x18 : Int32) ≤ x21) → (vX3_originOf_b81 t0  Qn h v0 (some a17) 1)))))))))))))) ∧ ((v1 = r13) → (vX3_originOf_b50 t0  Qn h )))))))))
set_option maxRecDepth 100000 in
set_option maxHeartbeats 4000000 in
theorem tX3_originOf {p : Program} {l : Launch} {e : Env} {s : State} {m : MethodId} {args : Array Value} {below : List Frame} {meth : Method} {c : Code} {G : gG} {A : Nat → Prop} {Qn : Int32 → gH → Prop} (X : gC p l s m args meth c G A cX3_originOf 5 (some FieldType.int) RX3)   {h : gH} {v0 : Nat} {v1 : Option Nat} (w : vX3_originOf G.2.2.1  Qn h v0 v1) : V p l e rmX3_originOf s m args below meth c (MQ below (va_Qi Qn (gB G A) A) args s rmX3_originOf.cells rmX3_originOf.slots A) G A 5 h 0 0 0 [(0, .ref v0), (1, va_rf v1)] [] := by
  refine V_aloadr_n X dX3_originOf_0 0 rfl ?_
  obtain ⟨fs, r1, hh, hv, w⟩ := w
  refine V_get X flX3_71 dX3_originOf_1 hh hv ?_
  obtain ⟨w1, w2⟩ := w
  refine V_ifnonnull (tgt := 34) X dX3_originOf_4 (by decide) (fun a2 z => ?_) (fun z => ?_)
  · replace w := w2 a2 z
    clear w1 w2
    subst z
    refine V_aloadr_n X dX3_originOf_34 0 rfl ?_
    obtain ⟨fs, x12, hh, hv, w⟩ := w
    refine V_get X flX3_86 dX3_originOf_35 hh hv ?_
    refine V_iconst (y := 2) X dX3_originOf_38 (by decide) ?_
    obtain ⟨w1, w2⟩ := w
    refine V_icmp_ge (tgt := 50) X dX3_originOf_39 (by decide) (fun z => ?_) (fun z => ?_)
    · replace w := w1 z
      clear w1 w2
      exact V.sub [] rfl (tX3_originOf_b50 X  w)
    · replace w := w2 z
      clear w1 w2
      refine V_aload_n X dX3_originOf_42 1 rfl ?_
      refine V_aloadr_n X dX3_originOf_43 0 rfl ?_
      obtain ⟨fs, r13, hh, hv, w⟩ := w
      refine V_get X flX3_71 dX3_originOf_44 hh hv ?_
      obtain ⟨w1, w2⟩ := w
      refine V_acmp_ne v1 r13 (tgt := 52) X dX3_originOf_47 (by decide) (fun z => ?_) (fun z => ?_)
      · replace w := w1 z
        clear w1 w2
        refine V_aloadr_n X dX3_originOf_52 0 rfl ?_
        obtain ⟨fs, r14, hh, hv, w⟩ := w
        refine V_get X flX3_71 dX3_originOf_53 hh hv ?_
        obtain ⟨a15, rfl, w⟩ := w
        obtain ⟨fs, x16, hh, hv, w⟩ := w
        refine V_get X flX3_194 dX3_originOf_56 hh hv ?_
        obtain ⟨w1, w2⟩ := w
        refine V_if_eq (tgt := 80) X dX3_originOf_59 (by decide) (fun z => ?_) (fun z => ?_)
        · replace w := w1 z
          clear w1 w2
          exact V.sub [0, 1] rfl (tX3_originOf_b80 X  w)
        · replace w := w2 z
          clear w1 w2
          refine V_aload_n X dX3_originOf_62 1 rfl ?_
          obtain ⟨a17, rfl, w⟩ := w
          obtain ⟨fs, x18, hh, hv, w⟩ := w
          refine V_get3 X frX3_197 dX3_originOf_63 hh hv ?_
          refine V_aloadr_n X dX3_originOf_66 0 rfl ?_
          obtain ⟨fs, r19, hh, hv, w⟩ := w
          refine V_get X flX3_71 dX3_originOf_67 hh hv ?_
          obtain ⟨a20, rfl, w⟩ := w
          obtain ⟨fs, x21, hh, hv, w⟩ := w
          refine V_get3 X frX3_197 dX3_originOf_70 hh hv ?_
          obtain ⟨w1, w2⟩ := w
          refine V_icmp_le (tgt := 80) X dX3_originOf_73 (by decide) (fun z => ?_) (fun z => ?_)
          · replace w := w1 z
            clear w1 w2
            exact V.sub [0, 1] rfl (tX3_originOf_b80 X  w)
          · replace w := w2 z
            clear w1 w2
            refine V_iconst (y := 1) X dX3_originOf_76 (by decide) ?_
            refine V_goto (tgt := 81) X dX3_originOf_77 (by decide) ?_
            exact V.sub [0, 1] rfl (tX3_originOf_b81 X  w)
      · replace w := w2 z
        clear w1 w2
        exact V.sub [] rfl (tX3_originOf_b50 X  w)
  · replace w := w1 z
    clear w1 w2
    subst z
    refine V_aload_n X dX3_originOf_7 1 rfl ?_
    refine V_aloadr_n X dX3_originOf_8 0 rfl ?_
    obtain ⟨fs, r3, hh, hv, w⟩ := w
    refine V_get X flX3_54 dX3_originOf_9 hh hv ?_
    obtain ⟨a4, rfl, w⟩ := w
    obtain ⟨fs, r5, hh, hv, w⟩ := w
    refine V_get X flX3_187 dX3_originOf_12 hh hv ?_
    refine V_aloadr_n X dX3_originOf_15 0 rfl ?_
    obtain ⟨fs, r6, hh, hv, w⟩ := w
    refine V_get X flX3_54 dX3_originOf_16 hh hv ?_
    obtain ⟨a7, rfl, w⟩ := w
    obtain ⟨fs, r8, hh, hv, w⟩ := w
    refine V_get X flX3_187 dX3_originOf_19 hh hv ?_
    obtain ⟨a9, rfl, w⟩ := w
    obtain ⟨fs, hh, w⟩ := w
    refine V_callVi (As := [va_rf r5, va_rf r8]) (rest := []) (k1 := 0) (n1 := 0) X (cX9_isListed_ok X.2.2.2.2.2.2.2.2.1 w) lkX3_190 hh (q9 := (RX9, TX9, 12)) rfl rfl dX3_originOf_22 ⟨Nat.le_of_ble_eq_true rfl, Nat.le_of_ble_eq_true rfl⟩ rfl (Nat.le_of_ble_eq_true rfl) ⟨Nat.le_of_ble_eq_true rfl, Nat.le_of_ble_eq_true rfl⟩ (Nat.le_of_ble_eq_true rfl) (Nat.le_of_ble_eq_true rfl) (fun x11 h10 w9 => ?_)
    replace w := w9
    clear w9
    obtain ⟨w1, w2⟩ := w
    refine V_if_eq (tgt := 32) X dX3_originOf_25 (by decide) (fun z => ?_) (fun z => ?_)
    · replace w := w1 z
      clear w1 w2
      refine V_iconst (y := 0) X dX3_originOf_32 (by decide) ?_
      exact V.sub [] rfl (tX3_originOf_b33 X  w)
    · replace w := w2 z
      clear w1 w2
      refine V_iconst (y := 1) X dX3_originOf_28 (by decide) ?_
      refine V_goto (tgt := 33) X dX3_originOf_29 (by decide) ?_
      exact V.sub [] rfl (tX3_originOf_b33 X  w)
theorem cX3_originOf_ok {l : Launch} {G : gG} {h : gH} (hls : l.stackTraces = false) {Qn : Int32 → gH → Prop} {v0 : Nat} {v1 : Option Nat} (w : vX3_originOf G.2.2.1 Qn h v0 v1) : gMi l yX3_originOf cX3_originOf 5 (some FieldType.int) rmX3_originOf rmX3_originOf.cells rmX3_originOf.slots G h [.ref v0, va_rf v1] Qn := by
  cases v1 <;>
  exact gMi.of (by decide +kernel) hls (Nat.le_of_ble_eq_true rfl) rfl rfl (fun p e s m below meth c A X hnm => tX3_originOf X w)
/-! AnimationController$Track.progressNow()J -/
abbrev rmX8_progressNow : Room := { frames := 0, cells := 0, slots := 0, locals := 0 }
def vX8_progressNow (t0 : Nat)  (Qn : Int64 → gH → Prop) (h : gH) (v0 : Nat) : Prop := gl h v0 11 1 (fun x1 => gi h v0 11 2 (fun x2 => Qn ((x1 * 1000000) + (Int32.toInt64 x2)) h))
set_option maxRecDepth 100000 in
set_option maxHeartbeats 4000000 in
theorem tX8_progressNow {p : Program} {l : Launch} {e : Env} {s : State} {m : MethodId} {args : Array Value} {below : List Frame} {meth : Method} {c : Code} {G : gG} {A : Nat → Prop} {Qn : Int64 → gH → Prop} (X : gC p l s m args meth c G A cX8_progressNow 1 (some FieldType.long) RX8)   {h : gH} {v0 : Nat} (w : vX8_progressNow G.2.2.1  Qn h v0) : V p l e rmX8_progressNow s m args below meth c (MQ below (va_Ql Qn (gB G A) A) args s rmX8_progressNow.cells rmX8_progressNow.slots A) G A 1 h 0 0 0 [(0, .ref v0)] [] := by
  refine V_aloadr_n X dX8_progressNow_0 0 rfl ?_
  obtain ⟨fs, x1, hh, hv, w⟩ := w
  refine V_get X flX8_22 dX8_progressNow_1 hh hv ?_
  refine V_ldc2 (y := 1000000) X dX8_progressNow_4 kw_637 ?_
  refine V_lmul X dX8_progressNow_7 ?_
  refine V_aloadr_n X dX8_progressNow_8 0 rfl ?_
  obtain ⟨fs, x2, hh, hv, w⟩ := w
  refine V_get X flX8_26 dX8_progressNow_9 hh hv ?_
  refine V_i2l X dX8_progressNow_12 ?_
  refine V_ladd X dX8_progressNow_13 ?_
  exact V_lret X rfl dX8_progressNow_14 (Nat.le_of_ble_eq_true rfl) (Nat.le_of_ble_eq_true rfl) w
theorem cX8_progressNow_ok {l : Launch} {G : gG} {h : gH} (hls : l.stackTraces = false) {Qn : Int64 → gH → Prop} {v0 : Nat} (w : vX8_progressNow G.2.2.1 Qn h v0) : gMl l yX8_progressNow cX8_progressNow 1 (some FieldType.long) rmX8_progressNow rmX8_progressNow.cells rmX8_progressNow.slots G h [.ref v0] Qn := by
  exact gMl.of (by decide +kernel) hls (Nat.le_of_ble_eq_true rfl) rfl rfl (fun p e s m below meth c A X hnm => tX8_progressNow X w)
/-! AnimationController$Transition.holds(II)Z -/
abbrev rmX9_holds : Room := { frames := 0, cells := 0, slots := 0, locals := 0 }
def vX9_holds_b17 (t0 : Nat)  (Qn : Int32 → gH → Prop) (h : gH)  : Prop := Qn 0 h
set_option maxRecDepth 100000 in
set_option maxHeartbeats 4000000 in
theorem tX9_holds_b17 {p : Program} {l : Launch} {e : Env} {s : State} {m : MethodId} {args : Array Value} {below : List Frame} {meth : Method} {c : Code} {G : gG} {A : Nat → Prop} {Qn : Int32 → gH → Prop} (X : gC p l s m args meth c G A cX9_holds 4 (some FieldType.boolean) RX9)   {h : gH}  (w : vX9_holds_b17 G.2.2.1  Qn h ) : V p l e rmX9_holds s m args below meth c (MQ below (va_Qi Qn (gB G A) A) args s rmX9_holds.cells rmX9_holds.slots A) G A 4 h 0 0 17 [] [] := by
  refine V_iconst (y := 0) X dX9_holds_17 (by decide) ?_
  exact V_zret X rfl rfl dX9_holds_18 (Nat.le_of_ble_eq_true rfl) (Nat.le_of_ble_eq_true rfl) w
def vX9_holds_b70 (t0 : Nat)  (Qn : Int32 → gH → Prop) (h : gH) (s0 : Int32) : Prop := gZ s0 ∧ Qn s0 h
set_option maxRecDepth 100000 in
set_option maxHeartbeats 4000000 in
theorem tX9_holds_b70 {p : Program} {l : Launch} {e : Env} {s : State} {m : MethodId} {args : Array Value} {below : List Frame} {meth : Method} {c : Code} {G : gG} {A : Nat → Prop} {Qn : Int32 → gH → Prop} (X : gC p l s m args meth c G A cX9_holds 4 (some FieldType.boolean) RX9)   {h : gH} {s0 : Int32} (w : vX9_holds_b70 G.2.2.1  Qn h s0) : V p l e rmX9_holds s m args below meth c (MQ below (va_Qi Qn (gB G A) A) args s rmX9_holds.cells rmX9_holds.slots A) G A 4 h 0 0 70 [] [.int s0] := by
  obtain ⟨hz, w⟩ := w
  exact V_zret X rfl hz.1 dX9_holds_70 (Nat.le_of_ble_eq_true rfl) (Nat.le_of_ble_eq_true rfl) w
def vX9_holds_b81 (t0 : Nat)  (Qn : Int32 → gH → Prop) (h : gH) (s0 : Int32) : Prop := gZ s0 ∧ Qn s0 h
set_option maxRecDepth 100000 in
set_option maxHeartbeats 4000000 in
theorem tX9_holds_b81 {p : Program} {l : Launch} {e : Env} {s : State} {m : MethodId} {args : Array Value} {below : List Frame} {meth : Method} {c : Code} {G : gG} {A : Nat → Prop} {Qn : Int32 → gH → Prop} (X : gC p l s m args meth c G A cX9_holds 4 (some FieldType.boolean) RX9)   {h : gH} {s0 : Int32} (w : vX9_holds_b81 G.2.2.1  Qn h s0) : V p l e rmX9_holds s m args below meth c (MQ below (va_Qi Qn (gB G A) A) args s rmX9_holds.cells rmX9_holds.slots A) G A 4 h 0 0 81 [] [.int s0] := by
  obtain ⟨hz, w⟩ := w
  exact V_zret X rfl hz.1 dX9_holds_81 (Nat.le_of_ble_eq_true rfl) (Nat.le_of_ble_eq_true rfl) w
def vX9_holds_b92 (t0 : Nat)  (Qn : Int32 → gH → Prop) (h : gH) (s0 : Int32) : Prop := gZ s0 ∧ Qn s0 h
set_option maxRecDepth 100000 in
set_option maxHeartbeats 4000000 in
theorem tX9_holds_b92 {p : Program} {l : Launch} {e : Env} {s : State} {m : MethodId} {args : Array Value} {below : List Frame} {meth : Method} {c : Code} {G : gG} {A : Nat → Prop} {Qn : Int32 → gH → Prop} (X : gC p l s m args meth c G A cX9_holds 4 (some FieldType.boolean) RX9)   {h : gH} {s0 : Int32} (w : vX9_holds_b92 G.2.2.1  Qn h s0) : V p l e rmX9_holds s m args below meth c (MQ below (va_Qi Qn (gB G A) A) args s rmX9_holds.cells rmX9_holds.slots A) G A 4 h 0 0 92 [] [.int s0] := by
  obtain ⟨hz, w⟩ := w
  exact V_zret X rfl hz.1 dX9_holds_92 (Nat.le_of_ble_eq_true rfl) (Nat.le_of_ble_eq_true rfl) w
def vX9_holds_b103 (t0 : Nat)  (Qn : Int32 → gH → Prop) (h : gH) (s0 : Int32) : Prop := gZ s0 ∧ Qn s0 h
set_option maxRecDepth 100000 in
set_option maxHeartbeats 4000000 in
theorem tX9_holds_b103 {p : Program} {l : Launch} {e : Env} {s : State} {m : MethodId} {args : Array Value} {below : List Frame} {meth : Method} {c : Code} {G : gG} {A : Nat → Prop} {Qn : Int32 → gH → Prop} (X : gC p l s m args meth c G A cX9_holds 4 (some FieldType.boolean) RX9)   {h : gH} {s0 : Int32} (w : vX9_holds_b103 G.2.2.1  Qn h s0) : V p l e rmX9_holds s m args below meth c (MQ below (va_Qi Qn (gB G A) A) args s rmX9_holds.cells rmX9_holds.slots A) G A 4 h 0 0 103 [] [.int s0] := by
  obtain ⟨hz, w⟩ := w
  exact V_zret X rfl hz.1 dX9_holds_103 (Nat.le_of_ble_eq_true rfl) (Nat.le_of_ble_eq_true rfl) w
def vX9_holds (t0 : Nat)  (Qn : Int32 → gH → Prop) (h : gH) (v0 : Nat) (v1 : Int32) (v2 : Int32) : Prop := (((v1 : Int32) < 0) → (vX9_holds_b17 t0  Qn h )) ∧ ((¬ (v1 : Int32) < 0) → (gi h v0 12 11 (fun x1 => ((x1 ≤ (v1 : Int32)) → (vX9_holds_b17 t0  Qn h )) ∧ ((¬ x1 ≤ (v1 : Int32)) → ((((v1 : Int32) < 3) → (gr h v0 12 10 (fun r2 => nn r2 (fun a3 => li h a3 v1 (fun x4 => gr h v0 12 9 (fun r5 => nn r5 (fun a6 => li h a6 v1 (fun x7 => ((x7 : Int32).toInt = 0 → ((((v2 : Int32) ≤ x4) → (vX9_holds_b70 t0  Qn h 0)) ∧ ((¬ (v2 : Int32) ≤ x4) → (vX9_holds_b70 t0  Qn h 1)))) ∧ ((x7 : Int32).toInt = 1 → (((x4 ≤ (v2 : Int32)) → (vX9_holds_b81 t0  Qn h 0)) ∧ ((¬ x4 ≤ (v2 : Int32)) → (vX9_holds_b81 t0  Qn h 1)))) ∧ ((x7 : Int32).toInt = 2 → (((¬ (v2 : Int32) = x4) → (vX9_holds_b92 t0  Qn h 0)) ∧ (((v2 : Int32) = x4) → (vX9_holds_b92 t0  Qn h 1)))) ∧ (((x7 : Int32).toInt < 0 ∨ 2 < (x7 : Int32).toInt) → ((((v2 : Int32) = x4) → (vX9_holds_b103 t0  Qn h 0)) ∧ ((¬ (v2 : Int32) = x4) → (vX9_holds_b103 t0  Qn h 1)))))))))))) ∧ ((¬ (v1 : Int32) < 3) → (vX9_holds_b17 t0  Qn h )))))))
set_option maxRecDepth 100000 in
set_option maxHeartbeats 4000000 in
theorem tX9_holds {p : Program} {l : Launch} {e : Env} {s : State} {m : MethodId} {args : Array Value} {below : List Frame} {meth : Method} {c : Code} {G : gG} {A : Nat → Prop} {Qn : Int32 → gH → Prop} (X : gC p l s m args meth c G A cX9_holds 4 (some FieldType.boolean) RX9)   {h : gH} {v0 : Nat} {v1 : Int32} {v2 : Int32} (w : vX9_holds G.2.2.1  Qn h v0 v1 v2) : V p l e rmX9_holds s m args below meth c (MQ below (va_Qi Qn (gB G A) A) args s rmX9_holds.cells rmX9_holds.slots A) G A 4 h 0 0 0 [(0, .ref v0), (1, .int v1), (2, .int v2)] [] := by
  refine V_iload_n X dX9_holds_0 1 rfl ?_
  obtain ⟨w1, w2⟩ := w
  refine V_if_lt (tgt := 17) X dX9_holds_1 (by decide) (fun z => ?_) (fun z => ?_)
  · replace w := w1 z
    clear w1 w2
    exact V.sub [] rfl (tX9_holds_b17 X  w)
  · replace w := w2 z
    clear w1 w2
    refine V_iload_n X dX9_holds_4 1 rfl ?_
    refine V_aloadr_n X dX9_holds_5 0 rfl ?_
    obtain ⟨fs, x1, hh, hv, w⟩ := w
    refine V_get X flX9_48 dX9_holds_6 hh hv ?_
    obtain ⟨w1, w2⟩ := w
    refine V_icmp_ge (tgt := 17) X dX9_holds_9 (by decide) (fun z => ?_) (fun z => ?_)
    · replace w := w1 z
      clear w1 w2
      exact V.sub [] rfl (tX9_holds_b17 X  w)
    · replace w := w2 z
      clear w1 w2
      refine V_iload_n X dX9_holds_12 1 rfl ?_
      refine V_iconst (y := 3) X dX9_holds_13 (by decide) ?_
      obtain ⟨w1, w2⟩ := w
      refine V_icmp_lt (tgt := 19) X dX9_holds_14 (by decide) (fun z => ?_) (fun z => ?_)
      · replace w := w1 z
        clear w1 w2
        refine V_aloadr_n X dX9_holds_19 0 rfl ?_
        obtain ⟨fs, r2, hh, hv, w⟩ := w
        refine V_get X flX9_22 dX9_holds_20 hh hv ?_
        refine V_iload_n X dX9_holds_23 1 rfl ?_
        obtain ⟨a3, rfl, w⟩ := w
        obtain ⟨N9, g9, hh, hi, w⟩ := w
        refine V_iald X dX9_holds_24 hh hi ?_
        generalize g9 _ = x4 at w ⊢
        refine V_istore_n (i0 := 3) X dX9_holds_25 rfl (by decide) rfl ?_
        refine V_aloadr_n X dX9_holds_26 1 rfl ?_
        obtain ⟨fs, r5, hh, hv, w⟩ := w
        refine V_get X flX9_19 dX9_holds_27 hh hv ?_
        refine V_iload_n X dX9_holds_30 2 rfl ?_
        obtain ⟨a6, rfl, w⟩ := w
        obtain ⟨N9, g9, hh, hi, w⟩ := w
        refine V_iald X dX9_holds_31 hh hi ?_
        generalize g9 _ = x7 at w ⊢
        obtain ⟨w0, w1, w2, w3⟩ := w
        rcases (show (x7 : Int32).toInt = 0 ∨ (x7 : Int32).toInt = 1 ∨ (x7 : Int32).toInt = 2 ∨ ((x7 : Int32).toInt < 0 ∨ 2 < (x7 : Int32).toInt) by omega) with z | z | z | z
        · refine V_tableIn (tgt := 60) X dX9_holds_32 (by omega) (by omega) (by rw [z]; rfl) (by decide) ?_
          replace w := w0 z
          clear w0 w1 w2 w3
          refine V_iload_n X dX9_holds_60 3 rfl ?_
          refine V_iload_n X dX9_holds_61 0 rfl ?_
          obtain ⟨w1, w2⟩ := w
          refine V_icmp_le (tgt := 69) X dX9_holds_62 (by decide) (fun z => ?_) (fun z => ?_)
          · replace w := w1 z
            clear w1 w2
            refine V_iconst (y := 0) X dX9_holds_69 (by decide) ?_
            exact V.sub [] rfl (tX9_holds_b70 X  w)
          · replace w := w2 z
            clear w1 w2
            refine V_iconst (y := 1) X dX9_holds_65 (by decide) ?_
            refine V_goto (tgt := 70) X dX9_holds_66 (by decide) ?_
            exact V.sub [] rfl (tX9_holds_b70 X  w)
        · refine V_tableIn (tgt := 71) X dX9_holds_32 (by omega) (by omega) (by rw [z]; rfl) (by decide) ?_
          replace w := w1 z
          clear w0 w1 w2 w3
          refine V_iload_n X dX9_holds_71 3 rfl ?_
          refine V_iload_n X dX9_holds_72 0 rfl ?_
          obtain ⟨w1, w2⟩ := w
          refine V_icmp_ge (tgt := 80) X dX9_holds_73 (by decide) (fun z => ?_) (fun z => ?_)
          · replace w := w1 z
            clear w1 w2
            refine V_iconst (y := 0) X dX9_holds_80 (by decide) ?_
            exact V.sub [] rfl (tX9_holds_b81 X  w)
          · replace w := w2 z
            clear w1 w2
            refine V_iconst (y := 1) X dX9_holds_76 (by decide) ?_
            refine V_goto (tgt := 81) X dX9_holds_77 (by decide) ?_
            exact V.sub [] rfl (tX9_holds_b81 X  w)
        · refine V_tableIn (tgt := 82) X dX9_holds_32 (by omega) (by omega) (by rw [z]; rfl) (by decide) ?_
          replace w := w2 z
          clear w0 w1 w2 w3
          refine V_iload_n X dX9_holds_82 3 rfl ?_
          refine V_iload_n X dX9_holds_83 0 rfl ?_
          obtain ⟨w1, w2⟩ := w
          refine V_icmp_ne (tgt := 91) X dX9_holds_84 (by decide) (fun z => ?_) (fun z => ?_)
          · replace w := w1 z
            clear w1 w2
            refine V_iconst (y := 0) X dX9_holds_91 (by decide) ?_
            exact V.sub [] rfl (tX9_holds_b92 X  w)
          · replace w := w2 z
            clear w1 w2
            refine V_iconst (y := 1) X dX9_holds_87 (by decide) ?_
            refine V_goto (tgt := 92) X dX9_holds_88 (by decide) ?_
            exact V.sub [] rfl (tX9_holds_b92 X  w)
        · refine V_tableOut (tgt := 93) X dX9_holds_32 z (by decide) ?_
          replace w := w3 z
          clear w0 w1 w2 w3
          refine V_iload_n X dX9_holds_93 3 rfl ?_
          refine V_iload_n X dX9_holds_94 0 rfl ?_
          obtain ⟨w1, w2⟩ := w
          refine V_icmp_eq (tgt := 102) X dX9_holds_95 (by decide) (fun z => ?_) (fun z => ?_)
          · replace w := w1 z
            clear w1 w2
            refine V_iconst (y := 0) X dX9_holds_102 (by decide) ?_
            exact V.sub [] rfl (tX9_holds_b103 X  w)
          · replace w := w2 z
            clear w1 w2
            refine V_iconst (y := 1) X dX9_holds_98 (by decide) ?_
            refine V_goto (tgt := 103) X dX9_holds_99 (by decide) ?_
            exact V.sub [] rfl (tX9_holds_b103 X  w)
      · replace w := w2 z
        clear w1 w2
        exact V.sub [] rfl (tX9_holds_b17 X  w)
theorem cX9_holds_ok {l : Launch} {G : gG} {h : gH} (hls : l.stackTraces = false) {Qn : Int32 → gH → Prop} {v0 : Nat} {v1 : Int32} {v2 : Int32} (w : vX9_holds G.2.2.1 Qn h v0 v1 v2) : gMi l yX9_holds cX9_holds 4 (some FieldType.boolean) rmX9_holds rmX9_holds.cells rmX9_holds.slots G h [.ref v0, .int v1, .int v2] Qn := by
  exact gMi.of (by decide +kernel) hls (Nat.le_of_ble_eq_true rfl) rfl rfl (fun p e s m below meth c A X hnm => tX9_holds X w)
/-! AnimationController$Machine.obstacleFrom(ILAnimationController$Transition;)I -/
abbrev rmX3_obstacleFrom : Room := { frames := 1, cells := 0, slots := 0, locals := 23 }
def vX3_obstacleFrom_b99 (t0 : Nat)  (Qn : Int32 → gH → Prop) (h : gH)  : Prop := Qn 0 h
set_option maxRecDepth 100000 in
set_option maxHeartbeats 4000000 in
theorem tX3_obstacleFrom_b99 {p : Program} {l : Launch} {e : Env} {s : State} {m : MethodId} {args : Array Value} {below : List Frame} {meth : Method} {c : Code} {G : gG} {A : Nat → Prop} {Qn : Int32 → gH → Prop} (X : gC p l s m args meth c G A cX3_obstacleFrom 5 (some FieldType.int) RX3)   {h : gH}  (w : vX3_obstacleFrom_b99 G.2.2.1  Qn h ) : V p l e rmX3_obstacleFrom s m args below meth c (MQ below (va_Qi Qn (gB G A) A) args s rmX3_obstacleFrom.cells rmX3_obstacleFrom.slots A) G A 5 h 0 0 99 [] [] := by
  refine V_iconst (y := 0) X dX3_obstacleFrom_99 (by decide) ?_
  exact V_iret X rfl dX3_obstacleFrom_100 (Nat.le_of_ble_eq_true rfl) (Nat.le_of_ble_eq_true rfl) w
def vX3_obstacleFrom_b53_o (t0 : Nat) (k53 : gH → Nat → Option Nat → Int32 → Prop) (Qn : Int32 → gH → Prop) (h : gH) (v0 : Nat) (v2 : Option Nat) (v4 : Int32) : Prop := nn v2 (fun a1 => gi h a1 12 11 (fun x2 => ((x2 ≤ (v4 : Int32)) → (vX3_obstacleFrom_b99 t0  Qn h )) ∧ ((¬ x2 ≤ (v4 : Int32)) → (((3 ≤ (v4 : Int32)) → (vX3_obstacleFrom_b99 t0  Qn h )) ∧ ((¬ 3 ≤ (v4 : Int32)) → (gr h a1 12 8 (fun r3 => nn r3 (fun a4 => li h a4 v4 (fun x5 => io h v0 6 (vX3_valueOf t0 (fun x7 h6 => io h6 a1 12 (vX9_holds t0 (fun x9 h8 => ((¬ (x9 : Int32) = 0) → (k53 h8 v0 (some a1) (v4 + 1))) ∧ (((x9 : Int32) = 0) → (Qn (3 + v4) h8))) h6 a1 v4 x7)) h v0 x5))))))))))
set_option maxRecDepth 100000 in
set_option maxHeartbeats 4000000 in
theorem tX3_obstacleFrom_b53_o {p : Program} {l : Launch} {e : Env} {s : State} {m : MethodId} {args : Array Value} {below : List Frame} {meth : Method} {c : Code} {G : gG} {A : Nat → Prop} {Qn : Int32 → gH → Prop} (X : gC p l s m args meth c G A cX3_obstacleFrom 5 (some FieldType.int) RX3) {k53 : gH → Nat → Option Nat → Int32 → Prop} (H53 : ∀ (h : gH) (v0 : Nat) (v2 : Option Nat) (v4 : Int32), k53 h v0 v2 v4 → V p l e rmX3_obstacleFrom s m args below meth c (MQ below (va_Qi Qn (gB G A) A) args s rmX3_obstacleFrom.cells rmX3_obstacleFrom.slots A) G A 5 h 0 0 53 [(0, .ref v0), (2, va_rf v2), (4, .int v4)] []) {h : gH} {v0 : Nat} {v2 : Option Nat} {v4 : Int32} (w : vX3_obstacleFrom_b53_o G.2.2.1 k53 Qn h v0 v2 v4) : V p l e rmX3_obstacleFrom s m args below meth c (MQ below (va_Qi Qn (gB G A) A) args s rmX3_obstacleFrom.cells rmX3_obstacleFrom.slots A) G A 5 h 0 0 53 [(0, .ref v0), (2, va_rf v2), (4, .int v4)] [] := by
  refine V_iload X dX3_obstacleFrom_53 2 rfl ?_
  refine V_aload_n X dX3_obstacleFrom_55 1 rfl ?_
  obtain ⟨a1, rfl, w⟩ := w
  obtain ⟨fs, x2, hh, hv, w⟩ := w
  refine V_get X flX3_209 dX3_obstacleFrom_56 hh hv ?_
  obtain ⟨w1, w2⟩ := w
  refine V_icmp_ge (tgt := 99) X dX3_obstacleFrom_59 (by decide) (fun z => ?_) (fun z => ?_)
  · replace w := w1 z
    clear w1 w2
    exact V.sub [] rfl (tX3_obstacleFrom_b99 X  w)
  · replace w := w2 z
    clear w1 w2
    refine V_iload X dX3_obstacleFrom_62 2 rfl ?_
    refine V_iconst (y := 3) X dX3_obstacleFrom_64 (by decide) ?_
    obtain ⟨w1, w2⟩ := w
    refine V_icmp_ge (tgt := 99) X dX3_obstacleFrom_65 (by decide) (fun z => ?_) (fun z => ?_)
    · replace w := w1 z
      clear w1 w2
      exact V.sub [] rfl (tX3_obstacleFrom_b99 X  w)
    · replace w := w2 z
      clear w1 w2
      refine V_aloadr_n X dX3_obstacleFrom_68 1 rfl ?_
      refine V_iload X dX3_obstacleFrom_69 2 rfl ?_
      refine V_aloadr_n X dX3_obstacleFrom_71 0 rfl ?_
      refine V_aloadr_n X dX3_obstacleFrom_72 1 rfl ?_
      obtain ⟨fs, r3, hh, hv, w⟩ := w
      refine V_get3 X frX3_212 dX3_obstacleFrom_73 hh hv ?_
      refine V_iload X dX3_obstacleFrom_76 2 rfl ?_
      obtain ⟨a4, rfl, w⟩ := w
      obtain ⟨N9, g9, hh, hi, w⟩ := w
      refine V_iald X dX3_obstacleFrom_78 hh hi ?_
      generalize g9 _ = x5 at w ⊢
      obtain ⟨fs, hh, w⟩ := w
      refine V_callVi (As := [.int x5]) (rest := [.int v4, .ref a1]) (k1 := 0) (n1 := 0) X (cX3_valueOf_ok X.2.2.2.2.2.2.2.2.1 w) lkX3_215 hh (q9 := (RX3, TX3, 13)) rfl rfl dX3_obstacleFrom_79 ⟨Nat.le_of_ble_eq_true rfl, Nat.le_of_ble_eq_true rfl⟩ rfl (Nat.le_of_ble_eq_true rfl) ⟨Nat.le_of_ble_eq_true rfl, Nat.le_of_ble_eq_true rfl⟩ (Nat.le_of_ble_eq_true rfl) (Nat.le_of_ble_eq_true rfl) (fun x7 h6 w9 => ?_)
      replace w := w9
      clear w9
      obtain ⟨fs, hh, w⟩ := w
      refine V_callVi (As := [.int v4, .int x7]) (rest := []) (k1 := 0) (n1 := 0) X (cX9_holds_ok X.2.2.2.2.2.2.2.2.1 w) lkX3_218 hh (q9 := (RX9, TX9, 12)) rfl rfl dX3_obstacleFrom_82 ⟨Nat.le_of_ble_eq_true rfl, Nat.le_of_ble_eq_true rfl⟩ rfl (Nat.le_of_ble_eq_true rfl) ⟨Nat.le_of_ble_eq_true rfl, Nat.le_of_ble_eq_true rfl⟩ (Nat.le_of_ble_eq_true rfl) (Nat.le_of_ble_eq_true rfl) (fun x9 h8 w9 => ?_)
      replace w := w9
      clear w9
      obtain ⟨w1, w2⟩ := w
      refine V_if_ne (tgt := 93) X dX3_obstacleFrom_85 (by decide) (fun z => ?_) (fun z => ?_)
      · replace w := w1 z
        clear w1 w2
        refine V_iinc (y := (v4 + 1)) X dX3_obstacleFrom_93 2 rfl (by first | rfl | (congr 1)) (by decide) rfl ?_
        refine V_goto (tgt := 53) X dX3_obstacleFrom_96 (by decide) ?_
        exact V.sub [1, 2, 0] rfl (H53 _ _ _ _ w)
      · replace w := w2 z
        clear w1 w2
        refine V_iconst (y := 3) X dX3_obstacleFrom_88 (by decide) ?_
        refine V_iload X dX3_obstacleFrom_89 2 rfl ?_
        refine V_iadd X dX3_obstacleFrom_91 ?_
        exact V_iret X rfl dX3_obstacleFrom_92 (Nat.le_of_ble_eq_true rfl) (Nat.le_of_ble_eq_true rfl) w
def vX3_obstacleFrom_b53 (t0 : Nat)  (Qn : Int32 → gH → Prop) (n : Nat) : gH → Nat → Option Nat → Int32 → Prop := Nat.rec (motive := fun _ => gH → Nat → Option Nat → Int32 → Prop) (fun _ _ _ _ => False) (fun _ k53 => vX3_obstacleFrom_b53_o t0 k53 Qn) n
theorem tX3_obstacleFrom_b53 {p : Program} {l : Launch} {e : Env} {s : State} {m : MethodId} {args : Array Value} {below : List Frame} {meth : Method} {c : Code} {G : gG} {A : Nat → Prop} {Qn : Int32 → gH → Prop} (X : gC p l s m args meth c G A cX3_obstacleFrom 5 (some FieldType.int) RX3)   : ∀ (n : Nat) (h : gH) (v0 : Nat) (v2 : Option Nat) (v4 : Int32) (w : vX3_obstacleFrom_b53 G.2.2.1  Qn n h v0 v2 v4), V p l e rmX3_obstacleFrom s m args below meth c (MQ below (va_Qi Qn (gB G A) A) args s rmX3_obstacleFrom.cells rmX3_obstacleFrom.slots A) G A 5 h 0 0 53 [(0, .ref v0), (2, va_rf v2), (4, .int v4)] [] := by
  intro n
  induction n with
  | zero => intro h v0 v2 v4 w; exact False.elim w
  | succ n ih => intro h v0 v2 v4 w; exact tX3_obstacleFrom_b53_o X ih w
def vX3_obstacleFrom_b50 (t0 : Nat)  (Qn : Int32 → gH → Prop) (h : gH) (v0 : Nat) (v2 : Option Nat) : Prop := ∃ n : Nat, vX3_obstacleFrom_b53 t0  Qn n h v0 v2 0
set_option maxRecDepth 100000 in
set_option maxHeartbeats 4000000 in
theorem tX3_obstacleFrom_b50 {p : Program} {l : Launch} {e : Env} {s : State} {m : MethodId} {args : Array Value} {below : List Frame} {meth : Method} {c : Code} {G : gG} {A : Nat → Prop} {Qn : Int32 → gH → Prop} (X : gC p l s m args meth c G A cX3_obstacleFrom 5 (some FieldType.int) RX3)   {h : gH} {v0 : Nat} {v2 : Option Nat} (w : vX3_obstacleFrom_b50 G.2.2.1  Qn h v0 v2) : V p l e rmX3_obstacleFrom s m args below meth c (MQ below (va_Qi Qn (gB G A) A) args s rmX3_obstacleFrom.cells rmX3_obstacleFrom.slots A) G A 5 h 0 0 50 [(0, .ref v0), (2, va_rf v2)] [] := by
  refine V_iconst (y := 0) X dX3_obstacleFrom_50 (by decide) ?_
  refine V_istore X dX3_obstacleFrom_51 (by decide) rfl ?_
  obtain ⟨n9, w⟩ := w
  exact V.sub [1, 2, 0] rfl (tX3_obstacleFrom_b53 X  n9 _ _ _ _ w)
def vX3_obstacleFrom_b22 (t0 : Nat)  (Qn : Int32 → gH → Prop) (h : gH) (v0 : Nat) (v2 : Option Nat) (s0 : Option Nat) : Prop := nn v2 (fun a1 => gi h a1 12 4 (fun x2 => (((x2 : Int32) = (-1)) → (vX3_obstacleFrom_b50 t0  Qn h v0 (some a1))) ∧ ((¬ (x2 : Int32) = (-1)) → (nn s0 (fun a3 => io h a3 11 (vX8_progressNow t0 (fun x5 h4 => gi h4 a1 12 4 (fun x6 => ((((Int32.toInt64 x6) * 10000) ≤ (x5 : Int64)) → (vX3_obstacleFrom_b50 t0  Qn h4 v0 (some a1))) ∧ ((¬ ((Int32.toInt64 x6) * 10000) ≤ (x5 : Int64)) → (Qn 2 h4)))) h a3 ))))))
set_option maxRecDepth 100000 in
set_option maxHeartbeats 4000000 in
theorem tX3_obstacleFrom_b22 {p : Program} {l : Launch} {e : Env} {s : State} {m : MethodId} {args : Array Value} {below : List Frame} {meth : Method} {c : Code} {G : gG} {A : Nat → Prop} {Qn : Int32 → gH → Prop} (X : gC p l s m args meth c G A cX3_obstacleFrom 5 (some FieldType.int) RX3)   {h : gH} {v0 : Nat} {v2 : Option Nat} {s0 : Option Nat} (w : vX3_obstacleFrom_b22 G.2.2.1  Qn h v0 v2 s0) : V p l e rmX3_obstacleFrom s m args below meth c (MQ below (va_Qi Qn (gB G A) A) args s rmX3_obstacleFrom.cells rmX3_obstacleFrom.slots A) G A 5 h 0 0 22 [(0, .ref v0), (2, va_rf v2)] [va_rf s0] := by
  refine V_astoreq_n (i0 := 3) X dX3_obstacleFrom_22 rfl (by decide) (by simp [va_cat1] <;> rfl) ?_
  refine V_aload_n X dX3_obstacleFrom_23 2 rfl ?_
  obtain ⟨a1, rfl, w⟩ := w
  obtain ⟨fs, x2, hh, hv, w⟩ := w
  refine V_get X flX3_200 dX3_obstacleFrom_24 hh hv ?_
  refine V_iconst (y := (-1)) X dX3_obstacleFrom_27 (by decide) ?_
  obtain ⟨w1, w2⟩ := w
  refine V_icmp_eq (tgt := 50) X dX3_obstacleFrom_28 (by decide) (fun z => ?_) (fun z => ?_)
  · replace w := w1 z
    clear w1 w2
    exact V.sub [1, 2] rfl (tX3_obstacleFrom_b50 X  w)
  · replace w := w2 z
    clear w1 w2
    refine V_aload_n X dX3_obstacleFrom_31 0 rfl ?_
    obtain ⟨a3, rfl, w⟩ := w
    obtain ⟨fs, hh, w⟩ := w
    refine V_callVl (As := []) (rest := []) (k1 := 0) (n1 := 0) X (cX8_progressNow_ok X.2.2.2.2.2.2.2.2.1 w) lkX3_203 hh (q9 := (RX8, TX8, 6)) rfl rfl dX3_obstacleFrom_32 ⟨Nat.le_of_ble_eq_true rfl, Nat.le_of_ble_eq_true rfl⟩ rfl (Nat.le_of_ble_eq_true rfl) ⟨Nat.le_of_ble_eq_true rfl, Nat.le_of_ble_eq_true rfl⟩ (Nat.le_of_ble_eq_true rfl) (Nat.le_of_ble_eq_true rfl) (fun x5 h4 w9 => ?_)
    replace w := w9
    clear w9
    refine V_aloadr_n X dX3_obstacleFrom_35 2 rfl ?_
    obtain ⟨fs, x6, hh, hv, w⟩ := w
    refine V_get X flX3_200 dX3_obstacleFrom_36 hh hv ?_
    refine V_i2l X dX3_obstacleFrom_39 ?_
    refine V_ldc2 (y := 10000) X dX3_obstacleFrom_40 kw_759 ?_
    refine V_lmul X dX3_obstacleFrom_43 ?_
    refine V_lcmp X dX3_obstacleFrom_44 ?_
    obtain ⟨w1, w2⟩ := w
    refine V_if_ge (tgt := 50) X dX3_obstacleFrom_45 (by decide) (fun z => ?_) (fun z => ?_)
    · replace w := w1 ((lg_cmp_ge _ _).mp z)
      clear w1 w2
      exact V.sub [1, 2] rfl (tX3_obstacleFrom_b50 X  w)
    · replace w := w2 (fun z9 => z ((lg_cmp_ge _ _).mpr z9))
      clear w1 w2
      refine V_iconst (y := 2) X dX3_obstacleFrom_48 (by decide) ?_
      exact V_iret X rfl dX3_obstacleFrom_49 (Nat.le_of_ble_eq_true rfl) (Nat.le_of_ble_eq_true rfl) w
def vX3_obstacleFrom (t0 : Nat)  (Qn : Int32 → gH → Prop) (h : gH) (v0 : Nat) (v1 : Int32) (v2 : Option Nat) : Prop := ((¬ (v1 : Int32) = 0) → (((¬ (v1 : Int32) = 2) → (gr h v0 6 2 (fun r1 => vX3_obstacleFrom_b22 t0  Qn h v0 v2 r1))) ∧ (((v1 : Int32) = 2) → (gr h v0 6 3 (fun r2 => vX3_obstacleFrom_b22 t0  Qn h v0 v2 r2))))) ∧ (((v1 : Int32) = 0) → (Qn 1 h))
set_option maxRecDepth 100000 in
set_option maxHeartbeats 4000000 in
theorem tX3_obstacleFrom {p : Program} {l : Launch} {e : Env} {s : State} {m : MethodId} {args : Array Value} {below : List Frame} {meth : Method} {c : Code} {G : gG} {A : Nat → Prop} {Qn : Int32 → gH → Prop} (X : gC p l s m args meth c G A cX3_obstacleFrom 5 (some FieldType.int) RX3)   {h : gH} {v0 : Nat} {v1 : Int32} {v2 : Option Nat} (w : vX3_obstacleFrom G.2.2.1  Qn h v0 v1 v2) : V p l e rmX3_obstacleFrom s m args below meth c (MQ below (va_Qi Qn (gB G A) A) args s rmX3_obstacleFrom.cells rmX3_obstacleFrom.slots A) G A 5 h 0 0 0 [(0, .ref v0), (1, .int v1), (2, va_rf v2)] [] := by
  refine V_iload_n X dX3_obstacleFrom_0 1 rfl ?_
  obtain ⟨w1, w2⟩ := w
  refine V_if_ne (tgt := 6) X dX3_obstacleFrom_1 (by decide) (fun z => ?_) (fun z => ?_)
  · replace w := w1 z
    clear w1 w2
    refine V_iload_n X dX3_obstacleFrom_6 1 rfl ?_
    refine V_iconst (y := 2) X dX3_obstacleFrom_7 (by decide) ?_
    obtain ⟨w1, w2⟩ := w
    refine V_icmp_ne (tgt := 18) X dX3_obstacleFrom_8 (by decide) (fun z => ?_) (fun z => ?_)
    · replace w := w1 z
      clear w1 w2
      refine V_aloadr_n X dX3_obstacleFrom_18 0 rfl ?_
      obtain ⟨fs, r1, hh, hv, w⟩ := w
      refine V_get X flX3_54 dX3_obstacleFrom_19 hh hv ?_
      exact V.sub [0, 2] rfl (tX3_obstacleFrom_b22 X  w)
    · replace w := w2 z
      clear w1 w2
      refine V_aloadr_n X dX3_obstacleFrom_11 0 rfl ?_
      obtain ⟨fs, r2, hh, hv, w⟩ := w
      refine V_get X flX3_58 dX3_obstacleFrom_12 hh hv ?_
      refine V_goto (tgt := 22) X dX3_obstacleFrom_15 (by decide) ?_
      exact V.sub [0, 2] rfl (tX3_obstacleFrom_b22 X  w)
  · replace w := w2 z
    clear w1 w2
    refine V_iconst (y := 1) X dX3_obstacleFrom_4 (by decide) ?_
    exact V_iret X rfl dX3_obstacleFrom_5 (Nat.le_of_ble_eq_true rfl) (Nat.le_of_ble_eq_true rfl) w
theorem cX3_obstacleFrom_ok {l : Launch} {G : gG} {h : gH} (hls : l.stackTraces = false) {Qn : Int32 → gH → Prop} {v0 : Nat} {v1 : Int32} {v2 : Option Nat} (w : vX3_obstacleFrom G.2.2.1 Qn h v0 v1 v2) : gMi l yX3_obstacleFrom cX3_obstacleFrom 5 (some FieldType.int) rmX3_obstacleFrom rmX3_obstacleFrom.cells rmX3_obstacleFrom.slots G h [.ref v0, .int v1, va_rf v2] Qn := by
  cases v2 <;>
  exact gMi.of (by decide +kernel) hls (Nat.le_of_ble_eq_true rfl) rfl rfl (fun p e s m below meth c A X hnm => tX3_obstacleFrom X w)
/-! AnimationController$Machine.firstPossibleOf(I)LAnimationController$Transition; -/
abbrev rmX3_firstPossibleOf : Room := { frames := 3, cells := 0, slots := 0, locals := 64 }
def vX3_firstPossibleOf_b88 (t0 : Nat) (k4 : gH → Nat → Int32 → Option Nat → Int32 → Prop) (Qn : Option Nat → gH → Prop) (h : gH) (v0 : Nat) (v1 : Int32) (v2 : Option Nat) (v3 : Int32) : Prop := k4 h v0 v1 v2 (v3 + 1)
set_option maxRecDepth 100000 in
set_option maxHeartbeats 4000000 in
theorem tX3_firstPossibleOf_b88 {p : Program} {l : Launch} {e : Env} {s : State} {m : MethodId} {args : Array Value} {below : List Frame} {meth : Method} {c : Code} {G : gG} {A : Nat → Prop} {Qn : Option Nat → gH → Prop} (X : gC p l s m args meth c G A cX3_firstPossibleOf 6 (some (FieldType.object "AnimationController$Transition")) RX3) {k4 : gH → Nat → Int32 → Option Nat → Int32 → Prop} (H4 : ∀ (h : gH) (v0 : Nat) (v1 : Int32) (v2 : Option Nat) (v3 : Int32), k4 h v0 v1 v2 v3 → V p l e rmX3_firstPossibleOf s m args below meth c (MQ below (va_Qq Qn (gB G A) A) args s rmX3_firstPossibleOf.cells rmX3_firstPossibleOf.slots A) G A 6 h 0 0 4 [(0, .ref v0), (1, .int v1), (2, va_rf v2), (3, .int v3)] []) {h : gH} {v0 : Nat} {v1 : Int32} {v2 : Option Nat} {v3 : Int32} (w : vX3_firstPossibleOf_b88 G.2.2.1 k4 Qn h v0 v1 v2 v3) : V p l e rmX3_firstPossibleOf s m args below meth c (MQ below (va_Qq Qn (gB G A) A) args s rmX3_firstPossibleOf.cells rmX3_firstPossibleOf.slots A) G A 6 h 0 0 88 [(0, .ref v0), (1, .int v1), (2, va_rf v2), (3, .int v3)] [] := by
  refine V_iinc (y := (v3 + 1)) X dX3_firstPossibleOf_88 3 rfl (by first | rfl | (congr 1)) (by decide) (by simp [va_cat1] <;> rfl) ?_
  refine V_goto (tgt := 4) X dX3_firstPossibleOf_91 (by decide) ?_
  exact V.sub [1, 2, 3, 0] rfl (H4 _ _ _ _ _ w)
def vX3_firstPossibleOf_b58 (t0 : Nat) (k4 : gH → Nat → Int32 → Option Nat → Int32 → Prop) (Qn : Option Nat → gH → Prop) (h : gH) (v0 : Nat) (v1 : Int32) (v2 : Option Nat) (v3 : Int32) (v4 : Option Nat) (s0 : Int32) : Prop := (((s0 : Int32) = 0) → (vX3_firstPossibleOf_b88 t0 k4 Qn h v0 v1 v2 v3)) ∧ ((¬ (s0 : Int32) = 0) → (io h v0 6 (vX3_originOf t0 (fun x2 h1 => ((¬ (x2 : Int32) = v1) → (vX3_firstPossibleOf_b88 t0 k4 Qn h1 v0 v1 v2 v3)) ∧ (((x2 : Int32) = v1) → (io h1 v0 6 (vX3_obstacleFrom t0 (fun x4 h3 => ((¬ (x4 : Int32) = 0) → (vX3_firstPossibleOf_b88 t0 k4 Qn h3 v0 v1 v2 v3)) ∧ (((x4 : Int32) = 0) → (vX3_firstPossibleOf_b88 t0 k4 Qn h3 v0 v1 v4 v3))) h1 v0 v1 v4)))) h v0 v4)))
set_option maxRecDepth 100000 in
set_option maxHeartbeats 4000000 in
theorem tX3_firstPossibleOf_b58 {p : Program} {l : Launch} {e : Env} {s : State} {m : MethodId} {args : Array Value} {below : List Frame} {meth : Method} {c : Code} {G : gG} {A : Nat → Prop} {Qn : Option Nat → gH → Prop} (X : gC p l s m args meth c G A cX3_firstPossibleOf 6 (some (FieldType.object "AnimationController$Transition")) RX3) {k4 : gH → Nat → Int32 → Option Nat → Int32 → Prop} (H4 : ∀ (h : gH) (v0 : Nat) (v1 : Int32) (v2 : Option Nat) (v3 : Int32), k4 h v0 v1 v2 v3 → V p l e rmX3_firstPossibleOf s m args below meth c (MQ below (va_Qq Qn (gB G A) A) args s rmX3_firstPossibleOf.cells rmX3_firstPossibleOf.slots A) G A 6 h 0 0 4 [(0, .ref v0), (1, .int v1), (2, va_rf v2), (3, .int v3)] []) {h : gH} {v0 : Nat} {v1 : Int32} {v2 : Option Nat} {v3 : Int32} {v4 : Option Nat} {s0 : Int32} (w : vX3_firstPossibleOf_b58 G.2.2.1 k4 Qn h v0 v1 v2 v3 v4 s0) : V p l e rmX3_firstPossibleOf s m args below meth c (MQ below (va_Qq Qn (gB G A) A) args s rmX3_firstPossibleOf.cells rmX3_firstPossibleOf.slots A) G A 6 h 0 0 58 [(0, .ref v0), (1, .int v1), (2, va_rf v2), (3, .int v3), (4, va_rf v4)] [.int s0] := by
  refine V_istore X dX3_firstPossibleOf_58 (by decide) (by simp [va_cat1] <;> rfl) ?_
  refine V_iload X dX3_firstPossibleOf_60 0 rfl ?_
  obtain ⟨w1, w2⟩ := w
  refine V_if_eq (tgt := 88) X dX3_firstPossibleOf_62 (by decide) (fun z => ?_) (fun z => ?_)
  · replace w := w1 z
    clear w1 w2
    exact V.sub [1, 2, 3, 4] rfl (tX3_firstPossibleOf_b88 X H4 w)
  · replace w := w2 z
    clear w1 w2
    refine V_aloadr_n X dX3_firstPossibleOf_65 1 rfl ?_
    refine V_aload X dX3_firstPossibleOf_66 5 rfl ?_
    obtain ⟨fs, hh, w⟩ := w
    refine V_callVi (As := [va_rf v4]) (rest := []) (k1 := 0) (n1 := 0) X (cX3_originOf_ok X.2.2.2.2.2.2.2.2.1 w) lkX3_179 hh (q9 := (RX3, TX3, 13)) rfl rfl dX3_firstPossibleOf_68 ⟨Nat.le_of_ble_eq_true rfl, Nat.le_of_ble_eq_true rfl⟩ rfl (Nat.le_of_ble_eq_true rfl) ⟨Nat.le_of_ble_eq_true rfl, Nat.le_of_ble_eq_true rfl⟩ (Nat.le_of_ble_eq_true rfl) (Nat.le_of_ble_eq_true rfl) (fun x2 h1 w9 => ?_)
    replace w := w9
    clear w9
    refine V_iload_n X dX3_firstPossibleOf_71 2 rfl ?_
    obtain ⟨w1, w2⟩ := w
    refine V_icmp_ne (tgt := 88) X dX3_firstPossibleOf_72 (by decide) (fun z => ?_) (fun z => ?_)
    · replace w := w1 z
      clear w1 w2
      exact V.sub [1, 2, 3, 4] rfl (tX3_firstPossibleOf_b88 X H4 w)
    · replace w := w2 z
      clear w1 w2
      refine V_aloadr_n X dX3_firstPossibleOf_75 1 rfl ?_
      refine V_iload_n X dX3_firstPossibleOf_76 2 rfl ?_
      refine V_aload X dX3_firstPossibleOf_77 5 rfl ?_
      obtain ⟨fs, hh, w⟩ := w
      refine V_callVi (As := [.int v1, va_rf v4]) (rest := []) (k1 := 0) (n1 := 0) X (cX3_obstacleFrom_ok X.2.2.2.2.2.2.2.2.1 w) lkX3_183 hh (q9 := (RX3, TX3, 13)) rfl rfl dX3_firstPossibleOf_79 ⟨Nat.le_of_ble_eq_true rfl, Nat.le_of_ble_eq_true rfl⟩ rfl (Nat.le_of_ble_eq_true rfl) ⟨Nat.le_of_ble_eq_true rfl, Nat.le_of_ble_eq_true rfl⟩ (Nat.le_of_ble_eq_true rfl) (Nat.le_of_ble_eq_true rfl) (fun x4 h3 w9 => ?_)
      replace w := w9
      clear w9
      obtain ⟨w1, w2⟩ := w
      refine V_if_ne (tgt := 88) X dX3_firstPossibleOf_82 (by decide) (fun z => ?_) (fun z => ?_)
      · replace w := w1 z
        clear w1 w2
        exact V.sub [1, 2, 3, 4] rfl (tX3_firstPossibleOf_b88 X H4 w)
      · replace w := w2 z
        clear w1 w2
        refine V_aload X dX3_firstPossibleOf_85 5 rfl ?_
        refine V_astoreq_n (i0 := 2) X dX3_firstPossibleOf_87 rfl (by decide) rfl ?_
        exact V.sub [2, 3, 0, 4] rfl (tX3_firstPossibleOf_b88 X H4 w)
def vX3_firstPossibleOf_b53 (t0 : Nat) (k4 : gH → Nat → Int32 → Option Nat → Int32 → Prop) (Qn : Option Nat → gH → Prop) (h : gH) (v0 : Nat) (v1 : Int32) (v2 : Option Nat) (v3 : Int32) (v4 : Option Nat) : Prop := vX3_firstPossibleOf_b58 t0 k4 Qn h v0 v1 v2 v3 v4 1
set_option maxRecDepth 100000 in
set_option maxHeartbeats 4000000 in
theorem tX3_firstPossibleOf_b53 {p : Program} {l : Launch} {e : Env} {s : State} {m : MethodId} {args : Array Value} {below : List Frame} {meth : Method} {c : Code} {G : gG} {A : Nat → Prop} {Qn : Option Nat → gH → Prop} (X : gC p l s m args meth c G A cX3_firstPossibleOf 6 (some (FieldType.object "AnimationController$Transition")) RX3) {k4 : gH → Nat → Int32 → Option Nat → Int32 → Prop} (H4 : ∀ (h : gH) (v0 : Nat) (v1 : Int32) (v2 : Option Nat) (v3 : Int32), k4 h v0 v1 v2 v3 → V p l e rmX3_firstPossibleOf s m args below meth c (MQ below (va_Qq Qn (gB G A) A) args s rmX3_firstPossibleOf.cells rmX3_firstPossibleOf.slots A) G A 6 h 0 0 4 [(0, .ref v0), (1, .int v1), (2, va_rf v2), (3, .int v3)] []) {h : gH} {v0 : Nat} {v1 : Int32} {v2 : Option Nat} {v3 : Int32} {v4 : Option Nat} (w : vX3_firstPossibleOf_b53 G.2.2.1 k4 Qn h v0 v1 v2 v3 v4) : V p l e rmX3_firstPossibleOf s m args below meth c (MQ below (va_Qq Qn (gB G A) A) args s rmX3_firstPossibleOf.cells rmX3_firstPossibleOf.slots A) G A 6 h 0 0 53 [(0, .ref v0), (1, .int v1), (2, va_rf v2), (3, .int v3), (4, va_rf v4)] [] := by
  refine V_iconst (y := 1) X dX3_firstPossibleOf_53 (by decide) ?_
  refine V_goto (tgt := 58) X dX3_firstPossibleOf_54 (by decide) ?_
  exact V.sub [0, 1, 2, 3, 4] rfl (tX3_firstPossibleOf_b58 X H4 w)
def vX3_firstPossibleOf_b57 (t0 : Nat) (k4 : gH → Nat → Int32 → Option Nat → Int32 → Prop) (Qn : Option Nat → gH → Prop) (h : gH) (v0 : Nat) (v1 : Int32) (v2 : Option Nat) (v3 : Int32) (v4 : Option Nat) : Prop := vX3_firstPossibleOf_b58 t0 k4 Qn h v0 v1 v2 v3 v4 0
set_option maxRecDepth 100000 in
set_option maxHeartbeats 4000000 in
theorem tX3_firstPossibleOf_b57 {p : Program} {l : Launch} {e : Env} {s : State} {m : MethodId} {args : Array Value} {below : List Frame} {meth : Method} {c : Code} {G : gG} {A : Nat → Prop} {Qn : Option Nat → gH → Prop} (X : gC p l s m args meth c G A cX3_firstPossibleOf 6 (some (FieldType.object "AnimationController$Transition")) RX3) {k4 : gH → Nat → Int32 → Option Nat → Int32 → Prop} (H4 : ∀ (h : gH) (v0 : Nat) (v1 : Int32) (v2 : Option Nat) (v3 : Int32), k4 h v0 v1 v2 v3 → V p l e rmX3_firstPossibleOf s m args below meth c (MQ below (va_Qq Qn (gB G A) A) args s rmX3_firstPossibleOf.cells rmX3_firstPossibleOf.slots A) G A 6 h 0 0 4 [(0, .ref v0), (1, .int v1), (2, va_rf v2), (3, .int v3)] []) {h : gH} {v0 : Nat} {v1 : Int32} {v2 : Option Nat} {v3 : Int32} {v4 : Option Nat} (w : vX3_firstPossibleOf_b57 G.2.2.1 k4 Qn h v0 v1 v2 v3 v4) : V p l e rmX3_firstPossibleOf s m args below meth c (MQ below (va_Qq Qn (gB G A) A) args s rmX3_firstPossibleOf.cells rmX3_firstPossibleOf.slots A) G A 6 h 0 0 57 [(0, .ref v0), (1, .int v1), (2, va_rf v2), (3, .int v3), (4, va_rf v4)] [] := by
  refine V_iconst (y := 0) X dX3_firstPossibleOf_57 (by decide) ?_
  exact V.sub [0, 1, 2, 3, 4] rfl (tX3_firstPossibleOf_b58 X H4 w)
def vX3_firstPossibleOf_b4_o (t0 : Nat) (k4 : gH → Nat → Int32 → Option Nat → Int32 → Prop) (Qn : Option Nat → gH → Prop) (h : gH) (v0 : Nat) (v1 : Int32) (v2 : Option Nat) (v3 : Int32) : Prop := gr h v0 6 0 (fun r1 => nn r1 (fun a2 => gr h a2 7 5 (fun r3 => nn r3 (fun a4 => io h a4 2 (vJx4a65c_size_8abf5 t0 (fun x6 h5 => ((x6 ≤ (v3 : Int32)) → (Qn v2 h5)) ∧ ((¬ x6 ≤ (v3 : Int32)) → (gr h5 v0 6 0 (fun r7 => nn r7 (fun a8 => gr h5 a8 7 5 (fun r9 => nn r9 (fun a10 => io h5 a10 2 (vJx4a65c_get_915e3 t0 (fun r12 h11 => nn r12 (fun a13 => io h11 a13 12 (((v2) = none → (vX3_firstPossibleOf_b53 t0 k4 Qn h11 v0 v1 (none : Option Nat) v3 (some a13))) ∧ (∀ a14 : Nat, (v2) = some a14 → (gr h11 a13 12 1 (fun r15 => ((r15) = none → (gr h11 a14 12 1 (fun r17 => ((r17) = none → (vX3_firstPossibleOf_b57 t0 k4 Qn h11 v0 v1 (some a14) v3 (some a13))) ∧ (∀ a18 : Nat, (r17) = some a18 → (vX3_firstPossibleOf_b53 t0 k4 Qn h11 v0 v1 (some a14) v3 (some a13)))))) ∧ (∀ a16 : Nat, (r15) = some a16 → (vX3_firstPossibleOf_b57 t0 k4 Qn h11 v0 v1 (some a14) v3 (some a13))))))))) h5 a10 v3)))))))) h a4 )))))
set_option maxRecDepth 100000 in
set_option maxHeartbeats 4000000 in
theorem tX3_firstPossibleOf_b4_o {p : Program} {l : Launch} {e : Env} {s : State} {m : MethodId} {args : Array Value} {below : List Frame} {meth : Method} {c : Code} {G : gG} {A : Nat → Prop} {Qn : Option Nat → gH → Prop} (X : gC p l s m args meth c G A cX3_firstPossibleOf 6 (some (FieldType.object "AnimationController$Transition")) RX3) {k4 : gH → Nat → Int32 → Option Nat → Int32 → Prop} (H4 : ∀ (h : gH) (v0 : Nat) (v1 : Int32) (v2 : Option Nat) (v3 : Int32), k4 h v0 v1 v2 v3 → V p l e rmX3_firstPossibleOf s m args below meth c (MQ below (va_Qq Qn (gB G A) A) args s rmX3_firstPossibleOf.cells rmX3_firstPossibleOf.slots A) G A 6 h 0 0 4 [(0, .ref v0), (1, .int v1), (2, va_rf v2), (3, .int v3)] []) {h : gH} {v0 : Nat} {v1 : Int32} {v2 : Option Nat} {v3 : Int32} (w : vX3_firstPossibleOf_b4_o G.2.2.1 k4 Qn h v0 v1 v2 v3) : V p l e rmX3_firstPossibleOf s m args below meth c (MQ below (va_Qq Qn (gB G A) A) args s rmX3_firstPossibleOf.cells rmX3_firstPossibleOf.slots A) G A 6 h 0 0 4 [(0, .ref v0), (1, .int v1), (2, va_rf v2), (3, .int v3)] [] := by
  refine V_iload_n X dX3_firstPossibleOf_4 3 rfl ?_
  refine V_aloadr_n X dX3_firstPossibleOf_5 0 rfl ?_
  obtain ⟨fs, r1, hh, hv, w⟩ := w
  refine V_get X flX3_39 dX3_firstPossibleOf_6 hh hv ?_
  obtain ⟨a2, rfl, w⟩ := w
  obtain ⟨fs, r3, hh, hv, w⟩ := w
  refine V_get3 X frX3_173 dX3_firstPossibleOf_9 hh hv ?_
  obtain ⟨a4, rfl, w⟩ := w
  obtain ⟨fs, hh, w⟩ := w
  refine V_callVi (As := []) (rest := [.int v3]) (k1 := 0) (n1 := 0) X (cJx4a65c_size_8abf5_ok X.2.2.2.2.2.2.2.2.1 w) lkX3_120 hh (q9 := (RJx4a65c, TJx4a65c, 3)) rfl rfl dX3_firstPossibleOf_12 ⟨Nat.le_of_ble_eq_true rfl, Nat.le_of_ble_eq_true rfl⟩ rfl (Nat.le_of_ble_eq_true rfl) ⟨Nat.le_of_ble_eq_true rfl, Nat.le_of_ble_eq_true rfl⟩ (Nat.le_of_ble_eq_true rfl) (Nat.le_of_ble_eq_true rfl) (fun x6 h5 w9 => ?_)
  replace w := w9
  clear w9
  obtain ⟨w1, w2⟩ := w
  refine V_icmp_ge (tgt := 94) X dX3_firstPossibleOf_15 (by decide) (fun z => ?_) (fun z => ?_)
  · replace w := w1 z
    clear w1 w2
    refine V_aload_n X dX3_firstPossibleOf_94 2 rfl ?_
    exact V_aret (x := v2) X rfl (Or.inl ⟨_, rfl⟩) dX3_firstPossibleOf_95 (Nat.le_of_ble_eq_true rfl) (Nat.le_of_ble_eq_true rfl) w
  · replace w := w2 z
    clear w1 w2
    refine V_aloadr_n X dX3_firstPossibleOf_18 0 rfl ?_
    obtain ⟨fs, r7, hh, hv, w⟩ := w
    refine V_get X flX3_39 dX3_firstPossibleOf_19 hh hv ?_
    obtain ⟨a8, rfl, w⟩ := w
    obtain ⟨fs, r9, hh, hv, w⟩ := w
    refine V_get3 X frX3_173 dX3_firstPossibleOf_22 hh hv ?_
    refine V_iload_n X dX3_firstPossibleOf_25 3 rfl ?_
    obtain ⟨a10, rfl, w⟩ := w
    obtain ⟨fs, hh, w⟩ := w
    refine V_callVq (As := [.int v3]) (rest := []) (k1 := 0) (n1 := 0) X (cJx4a65c_get_915e3_ok X.2.2.2.2.2.2.2.2.1 w) lkX3_130 hh (q9 := (RJx4a65c, TJx4a65c, 3)) rfl rfl dX3_firstPossibleOf_26 ⟨Nat.le_of_ble_eq_true rfl, Nat.le_of_ble_eq_true rfl⟩ rfl (Nat.le_of_ble_eq_true rfl) ⟨Nat.le_of_ble_eq_true rfl, Nat.le_of_ble_eq_true rfl⟩ (Nat.le_of_ble_eq_true rfl) (Nat.le_of_ble_eq_true rfl) (fun r12 h11 w9 => ?_)
    replace w := w9
    clear w9
    obtain ⟨a13, rfl, w⟩ := w
    obtain ⟨fs, hh, w⟩ := w
    refine V_cast (q9 := (RX9, TX9, 12)) X kw_745 rfl rfl hh dX3_firstPossibleOf_29 ?_
    refine V_astore X dX3_firstPossibleOf_32 (by decide) rfl ?_
    refine V_aload_n X dX3_firstPossibleOf_34 3 rfl ?_
    obtain ⟨w1, w2⟩ := w
    refine V_ifnull (tgt := 53) X dX3_firstPossibleOf_35 (by decide) (fun z => ?_) (fun a14 z => ?_)
    · replace w := w1 z
      clear w1 w2
      subst z
      exact V.sub [1, 2, 3, 4, 0] rfl (tX3_firstPossibleOf_b53 X H4 w)
    · replace w := w2 a14 z
      clear w1 w2
      subst z
      refine V_aloadr X dX3_firstPossibleOf_38 0 rfl ?_
      obtain ⟨fs, r15, hh, hv, w⟩ := w
      refine V_get X flX3_176 dX3_firstPossibleOf_40 hh hv ?_
      obtain ⟨w1, w2⟩ := w
      refine V_ifnonnull (tgt := 57) X dX3_firstPossibleOf_43 (by decide) (fun a16 z => ?_) (fun z => ?_)
      · replace w := w2 a16 z
        clear w1 w2
        subst z
        exact V.sub [1, 2, 3, 4, 0] rfl (tX3_firstPossibleOf_b57 X H4 w)
      · replace w := w1 z
        clear w1 w2
        subst z
        refine V_aloadr_n X dX3_firstPossibleOf_46 3 rfl ?_
        obtain ⟨fs, r17, hh, hv, w⟩ := w
        refine V_get X flX3_176 dX3_firstPossibleOf_47 hh hv ?_
        obtain ⟨w1, w2⟩ := w
        refine V_ifnull (tgt := 57) X dX3_firstPossibleOf_50 (by decide) (fun z => ?_) (fun a18 z => ?_)
        · replace w := w1 z
          clear w1 w2
          subst z
          exact V.sub [1, 2, 3, 4, 0] rfl (tX3_firstPossibleOf_b57 X H4 w)
        · replace w := w2 a18 z
          clear w1 w2
          subst z
          exact V.sub [1, 2, 3, 4, 0] rfl (tX3_firstPossibleOf_b53 X H4 w)
def vX3_firstPossibleOf_b4 (t0 : Nat)  (Qn : Option Nat → gH → Prop) (n : Nat) : gH → Nat → Int32 → Option Nat → Int32 → Prop := Nat.rec (motive := fun _ => gH → Nat → Int32 → Option Nat → Int32 → Prop) (fun _ _ _ _ _ => False) (fun _ k4 => vX3_firstPossibleOf_b4_o t0 k4 Qn) n
theorem tX3_firstPossibleOf_b4 {p : Program} {l : Launch} {e : Env} {s : State} {m : MethodId} {args : Array Value} {below : List Frame} {meth : Method} {c : Code} {G : gG} {A : Nat → Prop} {Qn : Option Nat → gH → Prop} (X : gC p l s m args meth c G A cX3_firstPossibleOf 6 (some (FieldType.object "AnimationController$Transition")) RX3)   : ∀ (n : Nat) (h : gH) (v0 : Nat) (v1 : Int32) (v2 : Option Nat) (v3 : Int32) (w : vX3_firstPossibleOf_b4 G.2.2.1  Qn n h v0 v1 v2 v3), V p l e rmX3_firstPossibleOf s m args below meth c (MQ below (va_Qq Qn (gB G A) A) args s rmX3_firstPossibleOf.cells rmX3_firstPossibleOf.slots A) G A 6 h 0 0 4 [(0, .ref v0), (1, .int v1), (2, va_rf v2), (3, .int v3)] [] := by
  intro n
  induction n with
  | zero => intro h v0 v1 v2 v3 w; exact False.elim w
  | succ n ih => intro h v0 v1 v2 v3 w; exact tX3_firstPossibleOf_b4_o X ih w
def vX3_firstPossibleOf (t0 : Nat)  (Qn : Option Nat → gH → Prop) (h : gH) (v0 : Nat) (v1 : Int32) : Prop := ∃ n : Nat, vX3_firstPossibleOf_b4 t0  Qn n h v0 v1 (none : Option Nat) 0
set_option maxRecDepth 100000 in
set_option maxHeartbeats 4000000 in
theorem tX3_firstPossibleOf {p : Program} {l : Launch} {e : Env} {s : State} {m : MethodId} {args : Array Value} {below : List Frame} {meth : Method} {c : Code} {G : gG} {A : Nat → Prop} {Qn : Option Nat → gH → Prop} (X : gC p l s m args meth c G A cX3_firstPossibleOf 6 (some (FieldType.object "AnimationController$Transition")) RX3)   {h : gH} {v0 : Nat} {v1 : Int32} (w : vX3_firstPossibleOf G.2.2.1  Qn h v0 v1) : V p l e rmX3_firstPossibleOf s m args below meth c (MQ below (va_Qq Qn (gB G A) A) args s rmX3_firstPossibleOf.cells rmX3_firstPossibleOf.slots A) G A 6 h 0 0 0 [(0, .ref v0), (1, .int v1)] [] := by
  refine V_null X dX3_firstPossibleOf_0 ?_
  refine V_astoreq_n (i0 := 2) X dX3_firstPossibleOf_1 rfl (by decide) rfl ?_
  refine V_iconst (y := 0) X dX3_firstPossibleOf_2 (by decide) ?_
  refine V_istore_n (i0 := 3) X dX3_firstPossibleOf_3 rfl (by decide) (by simp [va_cat1] <;> rfl) ?_
  obtain ⟨n9, w⟩ := w
  exact V.sub [2, 3, 1, 0] rfl (tX3_firstPossibleOf_b4 X  n9 _ _ _ _ _ w)
theorem cX3_firstPossibleOf_ok {l : Launch} {G : gG} {h : gH} (hls : l.stackTraces = false) {Qn : Option Nat → gH → Prop} {v0 : Nat} {v1 : Int32} (w : vX3_firstPossibleOf G.2.2.1 Qn h v0 v1) : gMq l yX3_firstPossibleOf cX3_firstPossibleOf 6 (some (FieldType.object "AnimationController$Transition")) rmX3_firstPossibleOf rmX3_firstPossibleOf.cells rmX3_firstPossibleOf.slots G h [.ref v0, .int v1] Qn := by
  exact gMq.of (by decide +kernel) hls (Nat.le_of_ble_eq_true rfl) rfl rfl (fun p e s m below meth c A X hnm => tX3_firstPossibleOf X w)
/-! AnimationController$Machine.firstPossible()LAnimationController$Transition; -/
abbrev rmX3_firstPossible : Room := { frames := 4, cells := 0, slots := 0, locals := 89 }
def vX3_firstPossible_b74 (t0 : Nat)  (Qn : Option Nat → gH → Prop) (h : gH) (v2 : Option Nat) : Prop := Qn v2 h
set_option maxRecDepth 100000 in
set_option maxHeartbeats 4000000 in
theorem tX3_firstPossible_b74 {p : Program} {l : Launch} {e : Env} {s : State} {m : MethodId} {args : Array Value} {below : List Frame} {meth : Method} {c : Code} {G : gG} {A : Nat → Prop} {Qn : Option Nat → gH → Prop} (X : gC p l s m args meth c G A cX3_firstPossible 3 (some (FieldType.object "AnimationController$Transition")) RX3)   {h : gH} {v2 : Option Nat} (w : vX3_firstPossible_b74 G.2.2.1  Qn h v2) : V p l e rmX3_firstPossible s m args below meth c (MQ below (va_Qq Qn (gB G A) A) args s rmX3_firstPossible.cells rmX3_firstPossible.slots A) G A 3 h 0 0 74 [(2, va_rf v2)] [] := by
  refine V_aload_n X dX3_firstPossible_74 0 rfl ?_
  exact V_aret (x := v2) X rfl (Or.inl ⟨_, rfl⟩) dX3_firstPossible_75 (Nat.le_of_ble_eq_true rfl) (Nat.le_of_ble_eq_true rfl) w
def vX3_firstPossible_b70 (t0 : Nat)  (Qn : Option Nat → gH → Prop) (h : gH) (s0 : Int32) (s1 : Nat) : Prop := io h s1 6 (vX3_firstPossibleOf t0 (fun r2 h1 => vX3_firstPossible_b74 t0  Qn h1 r2) h s1 s0)
set_option maxRecDepth 100000 in
set_option maxHeartbeats 4000000 in
theorem tX3_firstPossible_b70 {p : Program} {l : Launch} {e : Env} {s : State} {m : MethodId} {args : Array Value} {below : List Frame} {meth : Method} {c : Code} {G : gG} {A : Nat → Prop} {Qn : Option Nat → gH → Prop} (X : gC p l s m args meth c G A cX3_firstPossible 3 (some (FieldType.object "AnimationController$Transition")) RX3)   {h : gH} {s0 : Int32} {s1 : Nat} (w : vX3_firstPossible_b70 G.2.2.1  Qn h s0 s1) : V p l e rmX3_firstPossible s m args below meth c (MQ below (va_Qq Qn (gB G A) A) args s rmX3_firstPossible.cells rmX3_firstPossible.slots A) G A 3 h 0 0 70 [] [.int s0, .ref s1] := by
  obtain ⟨fs, hh, w⟩ := w
  refine V_callVq (As := [.int s0]) (rest := []) (k1 := 0) (n1 := 0) X (cX3_firstPossibleOf_ok X.2.2.2.2.2.2.2.2.1 w) lkX3_169 hh (q9 := (RX3, TX3, 13)) rfl rfl dX3_firstPossible_70 ⟨Nat.le_of_ble_eq_true rfl, Nat.le_of_ble_eq_true rfl⟩ rfl (Nat.le_of_ble_eq_true rfl) ⟨Nat.le_of_ble_eq_true rfl, Nat.le_of_ble_eq_true rfl⟩ (Nat.le_of_ble_eq_true rfl) (Nat.le_of_ble_eq_true rfl) (fun r2 h1 w9 => ?_)
  replace w := w9
  clear w9
  refine V_astoreq_n (i0 := 2) X dX3_firstPossible_73 rfl (by decide) rfl ?_
  exact V.sub [0] rfl (tX3_firstPossible_b74 X  w)
def vX3_firstPossible_b45 (t0 : Nat)  (Qn : Option Nat → gH → Prop) (h : gH) (v0 : Nat) (v1 : Int32) (s0 : Int32) (s1 : Nat) : Prop := io h s1 6 (vX3_firstPossibleOf t0 (fun r2 h1 => ((r2) = none → (gr h1 v0 6 4 (fun r4 => ((r4) = none → (vX3_firstPossible_b74 t0  Qn h1 (none : Option Nat))) ∧ (∀ a5 : Nat, (r4) = some a5 → ((((v1 : Int32) = 0) → (vX3_firstPossible_b70 t0  Qn h1 2 v0)) ∧ ((¬ (v1 : Int32) = 0) → (vX3_firstPossible_b70 t0  Qn h1 1 v0))))))) ∧ (∀ a3 : Nat, (r2) = some a3 → (vX3_firstPossible_b74 t0  Qn h1 (some a3)))) h s1 s0)
set_option maxRecDepth 100000 in
set_option maxHeartbeats 4000000 in
theorem tX3_firstPossible_b45 {p : Program} {l : Launch} {e : Env} {s : State} {m : MethodId} {args : Array Value} {below : List Frame} {meth : Method} {c : Code} {G : gG} {A : Nat → Prop} {Qn : Option Nat → gH → Prop} (X : gC p l s m args meth c G A cX3_firstPossible 3 (some (FieldType.object "AnimationController$Transition")) RX3)   {h : gH} {v0 : Nat} {v1 : Int32} {s0 : Int32} {s1 : Nat} (w : vX3_firstPossible_b45 G.2.2.1  Qn h v0 v1 s0 s1) : V p l e rmX3_firstPossible s m args below meth c (MQ below (va_Qq Qn (gB G A) A) args s rmX3_firstPossible.cells rmX3_firstPossible.slots A) G A 3 h 0 0 45 [(0, .ref v0), (1, .int v1)] [.int s0, .ref s1] := by
  obtain ⟨fs, hh, w⟩ := w
  refine V_callVq (As := [.int s0]) (rest := []) (k1 := 0) (n1 := 0) X (cX3_firstPossibleOf_ok X.2.2.2.2.2.2.2.2.1 w) lkX3_169 hh (q9 := (RX3, TX3, 13)) rfl rfl dX3_firstPossible_45 ⟨Nat.le_of_ble_eq_true rfl, Nat.le_of_ble_eq_true rfl⟩ rfl (Nat.le_of_ble_eq_true rfl) ⟨Nat.le_of_ble_eq_true rfl, Nat.le_of_ble_eq_true rfl⟩ (Nat.le_of_ble_eq_true rfl) (Nat.le_of_ble_eq_true rfl) (fun r2 h1 w9 => ?_)
  replace w := w9
  clear w9
  refine V_astoreq_n (i0 := 2) X dX3_firstPossible_48 rfl (by decide) rfl ?_
  refine V_aload_n X dX3_firstPossible_49 0 rfl ?_
  obtain ⟨w1, w2⟩ := w
  refine V_ifnonnull (tgt := 74) X dX3_firstPossible_50 (by decide) (fun a3 z => ?_) (fun z => ?_)
  · replace w := w2 a3 z
    clear w1 w2
    subst z
    exact V.sub [0] rfl (tX3_firstPossible_b74 X  w)
  · replace w := w1 z
    clear w1 w2
    subst z
    refine V_aloadr_n X dX3_firstPossible_53 1 rfl ?_
    obtain ⟨fs, r4, hh, hv, w⟩ := w
    refine V_get X flX3_71 dX3_firstPossible_54 hh hv ?_
    obtain ⟨w1, w2⟩ := w
    refine V_ifnull (tgt := 74) X dX3_firstPossible_57 (by decide) (fun z => ?_) (fun a5 z => ?_)
    · replace w := w1 z
      clear w1 w2
      subst z
      exact V.sub [0] rfl (tX3_firstPossible_b74 X  w)
    · replace w := w2 a5 z
      clear w1 w2
      subst z
      refine V_aloadr_n X dX3_firstPossible_60 1 rfl ?_
      refine V_iload_n X dX3_firstPossible_61 2 rfl ?_
      obtain ⟨w1, w2⟩ := w
      refine V_if_eq (tgt := 69) X dX3_firstPossible_62 (by decide) (fun z => ?_) (fun z => ?_)
      · replace w := w1 z
        clear w1 w2
        refine V_iconst (y := 2) X dX3_firstPossible_69 (by decide) ?_
        exact V.sub [] rfl (tX3_firstPossible_b70 X  w)
      · replace w := w2 z
        clear w1 w2
        refine V_iconst (y := 1) X dX3_firstPossible_65 (by decide) ?_
        refine V_goto (tgt := 70) X dX3_firstPossible_66 (by decide) ?_
        exact V.sub [] rfl (tX3_firstPossible_b70 X  w)
def vX3_firstPossible_b34 (t0 : Nat)  (Qn : Option Nat → gH → Prop) (h : gH) (v0 : Nat) (s0 : Int32) : Prop := (((s0 : Int32) = 0) → (vX3_firstPossible_b45 t0  Qn h v0 s0 1 v0)) ∧ ((¬ (s0 : Int32) = 0) → (vX3_firstPossible_b45 t0  Qn h v0 s0 2 v0))
set_option maxRecDepth 100000 in
set_option maxHeartbeats 4000000 in
theorem tX3_firstPossible_b34 {p : Program} {l : Launch} {e : Env} {s : State} {m : MethodId} {args : Array Value} {below : List Frame} {meth : Method} {c : Code} {G : gG} {A : Nat → Prop} {Qn : Option Nat → gH → Prop} (X : gC p l s m args meth c G A cX3_firstPossible 3 (some (FieldType.object "AnimationController$Transition")) RX3)   {h : gH} {v0 : Nat} {s0 : Int32} (w : vX3_firstPossible_b34 G.2.2.1  Qn h v0 s0) : V p l e rmX3_firstPossible s m args below meth c (MQ below (va_Qq Qn (gB G A) A) args s rmX3_firstPossible.cells rmX3_firstPossible.slots A) G A 3 h 0 0 34 [(0, .ref v0)] [.int s0] := by
  refine V_istore_n (i0 := 1) X dX3_firstPossible_34 rfl (by decide) rfl ?_
  refine V_aloadr_n X dX3_firstPossible_35 1 rfl ?_
  refine V_iload_n X dX3_firstPossible_36 0 rfl ?_
  obtain ⟨w1, w2⟩ := w
  refine V_if_eq (tgt := 44) X dX3_firstPossible_37 (by decide) (fun z => ?_) (fun z => ?_)
  · replace w := w1 z
    clear w1 w2
    refine V_iconst (y := 1) X dX3_firstPossible_44 (by decide) ?_
    exact V.sub [1, 0] rfl (tX3_firstPossible_b45 X  w)
  · replace w := w2 z
    clear w1 w2
    refine V_iconst (y := 2) X dX3_firstPossible_40 (by decide) ?_
    refine V_goto (tgt := 45) X dX3_firstPossible_41 (by decide) ?_
    exact V.sub [1, 0] rfl (tX3_firstPossible_b45 X  w)
def vX3_firstPossible_b33 (t0 : Nat)  (Qn : Option Nat → gH → Prop) (h : gH) (v0 : Nat) : Prop := vX3_firstPossible_b34 t0  Qn h v0 0
set_option maxRecDepth 100000 in
set_option maxHeartbeats 4000000 in
theorem tX3_firstPossible_b33 {p : Program} {l : Launch} {e : Env} {s : State} {m : MethodId} {args : Array Value} {below : List Frame} {meth : Method} {c : Code} {G : gG} {A : Nat → Prop} {Qn : Option Nat → gH → Prop} (X : gC p l s m args meth c G A cX3_firstPossible 3 (some (FieldType.object "AnimationController$Transition")) RX3)   {h : gH} {v0 : Nat} (w : vX3_firstPossible_b33 G.2.2.1  Qn h v0) : V p l e rmX3_firstPossible s m args below meth c (MQ below (va_Qq Qn (gB G A) A) args s rmX3_firstPossible.cells rmX3_firstPossible.slots A) G A 3 h 0 0 33 [(0, .ref v0)] [] := by
  refine V_iconst (y := 0) X dX3_firstPossible_33 (by decide) ?_
  exact V.sub [0] rfl (tX3_firstPossible_b34 X  w)
def vX3_firstPossible_b29 (t0 : Nat)  (Qn : Option Nat → gH → Prop) (h : gH) (v0 : Nat) : Prop := vX3_firstPossible_b34 t0  Qn h v0 1
set_option maxRecDepth 100000 in
set_option maxHeartbeats 4000000 in
theorem tX3_firstPossible_b29 {p : Program} {l : Launch} {e : Env} {s : State} {m : MethodId} {args : Array Value} {below : List Frame} {meth : Method} {c : Code} {G : gG} {A : Nat → Prop} {Qn : Option Nat → gH → Prop} (X : gC p l s m args meth c G A cX3_firstPossible 3 (some (FieldType.object "AnimationController$Transition")) RX3)   {h : gH} {v0 : Nat} (w : vX3_firstPossible_b29 G.2.2.1  Qn h v0) : V p l e rmX3_firstPossible s m args below meth c (MQ below (va_Qq Qn (gB G A) A) args s rmX3_firstPossible.cells rmX3_firstPossible.slots A) G A 3 h 0 0 29 [(0, .ref v0)] [] := by
  refine V_iconst (y := 1) X dX3_firstPossible_29 (by decide) ?_
  refine V_goto (tgt := 34) X dX3_firstPossible_30 (by decide) ?_
  exact V.sub [0] rfl (tX3_firstPossible_b34 X  w)
def vX3_firstPossible (t0 : Nat)  (Qn : Option Nat → gH → Prop) (h : gH) (v0 : Nat) : Prop := gr h v0 6 4 (fun r1 => ((r1) = none → (vX3_firstPossible_b33 t0  Qn h v0)) ∧ (∀ a2 : Nat, (r1) = some a2 → (gr h v0 6 4 (fun r3 => nn r3 (fun a4 => gi h a4 12 6 (fun x5 => (((x5 : Int32) = 2) → (vX3_firstPossible_b29 t0  Qn h v0)) ∧ ((¬ (x5 : Int32) = 2) → (gr h v0 6 4 (fun r6 => nn r6 (fun a7 => gi h a7 12 6 (fun x8 => ((¬ (x8 : Int32) = 4) → (vX3_firstPossible_b33 t0  Qn h v0)) ∧ (((x8 : Int32) = 4) → (vX3_firstPossible_b29 t0  Qn h v0)))))))))))))
set_option maxRecDepth 100000 in
set_option maxHeartbeats 4000000 in
theorem tX3_firstPossible {p : Program} {l : Launch} {e : Env} {s : State} {m : MethodId} {args : Array Value} {below : List Frame} {meth : Method} {c : Code} {G : gG} {A : Nat → Prop} {Qn : Option Nat → gH → Prop} (X : gC p l s m args meth c G A cX3_firstPossible 3 (some (FieldType.object "AnimationController$Transition")) RX3)   {h : gH} {v0 : Nat} (w : vX3_firstPossible G.2.2.1  Qn h v0) : V p l e rmX3_firstPossible s m args below meth c (MQ below (va_Qq Qn (gB G A) A) args s rmX3_firstPossible.cells rmX3_firstPossible.slots A) G A 3 h 0 0 0 [(0, .ref v0)] [] := by
  refine V_aloadr_n X dX3_firstPossible_0 0 rfl ?_
  obtain ⟨fs, r1, hh, hv, w⟩ := w
  refine V_get X flX3_71 dX3_firstPossible_1 hh hv ?_
  obtain ⟨w1, w2⟩ := w
  refine V_ifnull (tgt := 33) X dX3_firstPossible_4 (by decide) (fun z => ?_) (fun a2 z => ?_)
  · replace w := w1 z
    clear w1 w2
    subst z
    exact V.sub [0] rfl (tX3_firstPossible_b33 X  w)
  · replace w := w2 a2 z
    clear w1 w2
    subst z
    refine V_aloadr_n X dX3_firstPossible_7 0 rfl ?_
    obtain ⟨fs, r3, hh, hv, w⟩ := w
    refine V_get X flX3_71 dX3_firstPossible_8 hh hv ?_
    obtain ⟨a4, rfl, w⟩ := w
    obtain ⟨fs, x5, hh, hv, w⟩ := w
    refine V_get X flX3_166 dX3_firstPossible_11 hh hv ?_
    refine V_iconst (y := 2) X dX3_firstPossible_14 (by decide) ?_
    obtain ⟨w1, w2⟩ := w
    refine V_icmp_eq (tgt := 29) X dX3_firstPossible_15 (by decide) (fun z => ?_) (fun z => ?_)
    · replace w := w1 z
      clear w1 w2
      exact V.sub [0] rfl (tX3_firstPossible_b29 X  w)
    · replace w := w2 z
      clear w1 w2
      refine V_aloadr_n X dX3_firstPossible_18 0 rfl ?_
      obtain ⟨fs, r6, hh, hv, w⟩ := w
      refine V_get X flX3_71 dX3_firstPossible_19 hh hv ?_
      obtain ⟨a7, rfl, w⟩ := w
      obtain ⟨fs, x8, hh, hv, w⟩ := w
      refine V_get X flX3_166 dX3_firstPossible_22 hh hv ?_
      refine V_iconst (y := 4) X dX3_firstPossible_25 (by decide) ?_
      obtain ⟨w1, w2⟩ := w
      refine V_icmp_ne (tgt := 33) X dX3_firstPossible_26 (by decide) (fun z => ?_) (fun z => ?_)
      · replace w := w1 z
        clear w1 w2
        exact V.sub [0] rfl (tX3_firstPossible_b33 X  w)
      · replace w := w2 z
        clear w1 w2
        exact V.sub [0] rfl (tX3_firstPossible_b29 X  w)
theorem cX3_firstPossible_ok {l : Launch} {G : gG} {h : gH} (hls : l.stackTraces = false) {Qn : Option Nat → gH → Prop} {v0 : Nat} (w : vX3_firstPossible G.2.2.1 Qn h v0) : gMq l yX3_firstPossible cX3_firstPossible 3 (some (FieldType.object "AnimationController$Transition")) rmX3_firstPossible rmX3_firstPossible.cells rmX3_firstPossible.slots G h [.ref v0] Qn := by
  exact gMq.of (by decide +kernel) hls (Nat.le_of_ble_eq_true rfl) rfl rfl (fun p e s m below meth c A X hnm => tX3_firstPossible X w)
/-! AnimationController$Model.kindOf(I)I -/
abbrev rmX4_kindOf : Room := { frames := 0, cells := 0, slots := 0, locals := 0 }
def vX4_kindOf_b31 (t0 : Nat)  (Qn : Int32 → gH → Prop) (h : gH) (s0 : Int32) : Prop := Qn s0 h
set_option maxRecDepth 100000 in
set_option maxHeartbeats 4000000 in
theorem tX4_kindOf_b31 {p : Program} {l : Launch} {e : Env} {s : State} {m : MethodId} {args : Array Value} {below : List Frame} {meth : Method} {c : Code} {G : gG} {A : Nat → Prop} {Qn : Int32 → gH → Prop} (X : gC p l s m args meth c G A cX4_kindOf 2 (some FieldType.int) RX4)   {h : gH} {s0 : Int32} (w : vX4_kindOf_b31 G.2.2.1  Qn h s0) : V p l e rmX4_kindOf s m args below meth c (MQ below (va_Qi Qn (gB G A) A) args s rmX4_kindOf.cells rmX4_kindOf.slots A) G A 2 h 0 0 31 [] [.int s0] := by
  exact V_iret X rfl dX4_kindOf_31 (Nat.le_of_ble_eq_true rfl) (Nat.le_of_ble_eq_true rfl) w
def vX4_kindOf_b30 (t0 : Nat)  (Qn : Int32 → gH → Prop) (h : gH)  : Prop := vX4_kindOf_b31 t0  Qn h (-1)
set_option maxRecDepth 100000 in
set_option maxHeartbeats 4000000 in
theorem tX4_kindOf_b30 {p : Program} {l : Launch} {e : Env} {s : State} {m : MethodId} {args : Array Value} {below : List Frame} {meth : Method} {c : Code} {G : gG} {A : Nat → Prop} {Qn : Int32 → gH → Prop} (X : gC p l s m args meth c G A cX4_kindOf 2 (some FieldType.int) RX4)   {h : gH}  (w : vX4_kindOf_b30 G.2.2.1  Qn h ) : V p l e rmX4_kindOf s m args below meth c (MQ below (va_Qi Qn (gB G A) A) args s rmX4_kindOf.cells rmX4_kindOf.slots A) G A 2 h 0 0 30 [] [] := by
  refine V_iconst (y := (-1)) X dX4_kindOf_30 (by decide) ?_
  exact V.sub [] rfl (tX4_kindOf_b31 X  w)
def vX4_kindOf (t0 : Nat)  (Qn : Int32 → gH → Prop) (h : gH) (v0 : Nat) (v1 : Int32) : Prop := (((v1 : Int32) < 0) → (vX4_kindOf_b30 t0  Qn h )) ∧ ((¬ (v1 : Int32) < 0) → (gi h v0 7 1 (fun x1 => ((x1 ≤ (v1 : Int32)) → (vX4_kindOf_b30 t0  Qn h )) ∧ ((¬ x1 ≤ (v1 : Int32)) → (gr h v0 7 0 (fun r2 => nn r2 (fun a3 => al h a3 (fun x4 => ((x4 ≤ (v1 : Int32)) → (vX4_kindOf_b30 t0  Qn h )) ∧ ((¬ x4 ≤ (v1 : Int32)) → (gr h v0 7 0 (fun r5 => nn r5 (fun a6 => li h a6 v1 (fun x7 => vX4_kindOf_b31 t0  Qn h x7)))))))))))))
set_option maxRecDepth 100000 in
set_option maxHeartbeats 4000000 in
theorem tX4_kindOf {p : Program} {l : Launch} {e : Env} {s : State} {m : MethodId} {args : Array Value} {below : List Frame} {meth : Method} {c : Code} {G : gG} {A : Nat → Prop} {Qn : Int32 → gH → Prop} (X : gC p l s m args meth c G A cX4_kindOf 2 (some FieldType.int) RX4)   {h : gH} {v0 : Nat} {v1 : Int32} (w : vX4_kindOf G.2.2.1  Qn h v0 v1) : V p l e rmX4_kindOf s m args below meth c (MQ below (va_Qi Qn (gB G A) A) args s rmX4_kindOf.cells rmX4_kindOf.slots A) G A 2 h 0 0 0 [(0, .ref v0), (1, .int v1)] [] := by
  refine V_iload_n X dX4_kindOf_0 1 rfl ?_
  obtain ⟨w1, w2⟩ := w
  refine V_if_lt (tgt := 30) X dX4_kindOf_1 (by decide) (fun z => ?_) (fun z => ?_)
  · replace w := w1 z
    clear w1 w2
    exact V.sub [] rfl (tX4_kindOf_b30 X  w)
  · replace w := w2 z
    clear w1 w2
    refine V_iload_n X dX4_kindOf_4 1 rfl ?_
    refine V_aloadr_n X dX4_kindOf_5 0 rfl ?_
    obtain ⟨fs, x1, hh, hv, w⟩ := w
    refine V_get X flX4_54 dX4_kindOf_6 hh hv ?_
    obtain ⟨w1, w2⟩ := w
    refine V_icmp_ge (tgt := 30) X dX4_kindOf_9 (by decide) (fun z => ?_) (fun z => ?_)
    · replace w := w1 z
      clear w1 w2
      exact V.sub [] rfl (tX4_kindOf_b30 X  w)
    · replace w := w2 z
      clear w1 w2
      refine V_iload_n X dX4_kindOf_12 1 rfl ?_
      refine V_aloadr_n X dX4_kindOf_13 0 rfl ?_
      obtain ⟨fs, r2, hh, hv, w⟩ := w
      refine V_get X flX4_9 dX4_kindOf_14 hh hv ?_
      obtain ⟨a3, rfl, w⟩ := w
      obtain ⟨kt9, x9, hh, hk9, w⟩ := w
      refine V_alen X dX4_kindOf_17 hh hk9 ?_
      generalize Int32.ofNat _ = x4 at w ⊢
      obtain ⟨w1, w2⟩ := w
      refine V_icmp_ge (tgt := 30) X dX4_kindOf_18 (by decide) (fun z => ?_) (fun z => ?_)
      · replace w := w1 z
        clear w1 w2
        exact V.sub [] rfl (tX4_kindOf_b30 X  w)
      · replace w := w2 z
        clear w1 w2
        refine V_aloadr_n X dX4_kindOf_21 0 rfl ?_
        obtain ⟨fs, r5, hh, hv, w⟩ := w
        refine V_get X flX4_9 dX4_kindOf_22 hh hv ?_
        refine V_iload_n X dX4_kindOf_25 1 rfl ?_
        obtain ⟨a6, rfl, w⟩ := w
        obtain ⟨N9, g9, hh, hi, w⟩ := w
        refine V_iald X dX4_kindOf_26 hh hi ?_
        generalize g9 _ = x7 at w ⊢
        refine V_goto (tgt := 31) X dX4_kindOf_27 (by decide) ?_
        exact V.sub [] rfl (tX4_kindOf_b31 X  w)
theorem cX4_kindOf_ok {l : Launch} {G : gG} {h : gH} (hls : l.stackTraces = false) {Qn : Int32 → gH → Prop} {v0 : Nat} {v1 : Int32} (w : vX4_kindOf G.2.2.1 Qn h v0 v1) : gMi l yX4_kindOf cX4_kindOf 2 (some FieldType.int) rmX4_kindOf rmX4_kindOf.cells rmX4_kindOf.slots G h [.ref v0, .int v1] Qn := by
  exact gMi.of (by decide +kernel) hls (Nat.le_of_ble_eq_true rfl) rfl rfl (fun p e s m below meth c A X hnm => tX4_kindOf X w)
/-! AnimationController$Machine.clearTriggers(LAnimationController$Transition;)V -/
abbrev rmX3_clearTriggers : Room := { frames := 1, cells := 0, slots := 0, locals := 22 }
def vX3_clearTriggers_b49 (t0 : Nat)  (Qn : gH → Prop) (h : gH)  : Prop := Qn h
set_option maxRecDepth 100000 in
set_option maxHeartbeats 4000000 in
theorem tX3_clearTriggers_b49 {p : Program} {l : Launch} {e : Env} {s : State} {m : MethodId} {args : Array Value} {below : List Frame} {meth : Method} {c : Code} {G : gG} {A : Nat → Prop} {Qn : gH → Prop} (X : gC p l s m args meth c G A cX3_clearTriggers 3 none RX3)   {h : gH}  (w : vX3_clearTriggers_b49 G.2.2.1  Qn h ) : V p l e rmX3_clearTriggers s m args below meth c (MQ below (va_Qv Qn (gB G A) A) args s rmX3_clearTriggers.cells rmX3_clearTriggers.slots A) G A 3 h 0 0 49 [] [] := by
  exact V_vret X rfl dX3_clearTriggers_49 (Nat.le_of_ble_eq_true rfl) (Nat.le_of_ble_eq_true rfl) w
def vX3_clearTriggers_b43 (t0 : Nat) (k2 : gH → Nat → Option Nat → Int32 → Prop) (Qn : gH → Prop) (h : gH) (v0 : Nat) (v1 : Option Nat) (v2 : Int32) : Prop := k2 h v0 v1 (v2 + 1)
set_option maxRecDepth 100000 in
set_option maxHeartbeats 4000000 in
theorem tX3_clearTriggers_b43 {p : Program} {l : Launch} {e : Env} {s : State} {m : MethodId} {args : Array Value} {below : List Frame} {meth : Method} {c : Code} {G : gG} {A : Nat → Prop} {Qn : gH → Prop} (X : gC p l s m args meth c G A cX3_clearTriggers 3 none RX3) {k2 : gH → Nat → Option Nat → Int32 → Prop} (H2 : ∀ (h : gH) (v0 : Nat) (v1 : Option Nat) (v2 : Int32), k2 h v0 v1 v2 → V p l e rmX3_clearTriggers s m args below meth c (MQ below (va_Qv Qn (gB G A) A) args s rmX3_clearTriggers.cells rmX3_clearTriggers.slots A) G A 3 h 0 0 2 [(0, .ref v0), (1, va_rf v1), (2, .int v2)] []) {h : gH} {v0 : Nat} {v1 : Option Nat} {v2 : Int32} (w : vX3_clearTriggers_b43 G.2.2.1 k2 Qn h v0 v1 v2) : V p l e rmX3_clearTriggers s m args below meth c (MQ below (va_Qv Qn (gB G A) A) args s rmX3_clearTriggers.cells rmX3_clearTriggers.slots A) G A 3 h 0 0 43 [(0, .ref v0), (1, va_rf v1), (2, .int v2)] [] := by
  refine V_iinc (y := (v2 + 1)) X dX3_clearTriggers_43 2 rfl (by first | rfl | (congr 1)) (by decide) (by simp [va_cat1] <;> rfl) ?_
  refine V_goto (tgt := 2) X dX3_clearTriggers_46 (by decide) ?_
  exact V.sub [1, 2, 0] rfl (H2 _ _ _ _ w)
def vX3_clearTriggers_b2_o (t0 : Nat) (k2 : gH → Nat → Option Nat → Int32 → Prop) (Qn : gH → Prop) (h : gH) (v0 : Nat) (v1 : Option Nat) (v2 : Int32) : Prop := nn v1 (fun a1 => gi h a1 12 11 (fun x2 => ((x2 ≤ (v2 : Int32)) → (vX3_clearTriggers_b49 t0  Qn h )) ∧ ((¬ x2 ≤ (v2 : Int32)) → (((3 ≤ (v2 : Int32)) → (vX3_clearTriggers_b49 t0  Qn h )) ∧ ((¬ 3 ≤ (v2 : Int32)) → (gr h v0 6 0 (fun r3 => gr h a1 12 8 (fun r4 => nn r4 (fun a5 => li h a5 v2 (fun x6 => nn r3 (fun a7 => io h a7 7 (vX4_kindOf t0 (fun x9 h8 => ((¬ (x9 : Int32) = 2) → (vX3_clearTriggers_b43 t0 k2 Qn h8 v0 (some a1) v2)) ∧ (((x9 : Int32) = 2) → (gr h8 a1 12 8 (fun r10 => nn r10 (fun a11 => li h8 a11 v2 (fun x12 => io h8 v0 6 (vX3_setValue t0 (fun h13 => vX3_clearTriggers_b43 t0 k2 Qn h13 v0 (some a1) v2) h8 v0 x12 0))))))) h a7 x6))))))))))))
set_option maxRecDepth 100000 in
set_option maxHeartbeats 4000000 in
theorem tX3_clearTriggers_b2_o {p : Program} {l : Launch} {e : Env} {s : State} {m : MethodId} {args : Array Value} {below : List Frame} {meth : Method} {c : Code} {G : gG} {A : Nat → Prop} {Qn : gH → Prop} (X : gC p l s m args meth c G A cX3_clearTriggers 3 none RX3) {k2 : gH → Nat → Option Nat → Int32 → Prop} (H2 : ∀ (h : gH) (v0 : Nat) (v1 : Option Nat) (v2 : Int32), k2 h v0 v1 v2 → V p l e rmX3_clearTriggers s m args below meth c (MQ below (va_Qv Qn (gB G A) A) args s rmX3_clearTriggers.cells rmX3_clearTriggers.slots A) G A 3 h 0 0 2 [(0, .ref v0), (1, va_rf v1), (2, .int v2)] []) {h : gH} {v0 : Nat} {v1 : Option Nat} {v2 : Int32} (w : vX3_clearTriggers_b2_o G.2.2.1 k2 Qn h v0 v1 v2) : V p l e rmX3_clearTriggers s m args below meth c (MQ below (va_Qv Qn (gB G A) A) args s rmX3_clearTriggers.cells rmX3_clearTriggers.slots A) G A 3 h 0 0 2 [(0, .ref v0), (1, va_rf v1), (2, .int v2)] [] := by
  refine V_iload_n X dX3_clearTriggers_2 2 rfl ?_
  refine V_aload_n X dX3_clearTriggers_3 1 rfl ?_
  obtain ⟨a1, rfl, w⟩ := w
  obtain ⟨fs, x2, hh, hv, w⟩ := w
  refine V_get X flX3_209 dX3_clearTriggers_4 hh hv ?_
  obtain ⟨w1, w2⟩ := w
  refine V_icmp_ge (tgt := 49) X dX3_clearTriggers_7 (by decide) (fun z => ?_) (fun z => ?_)
  · replace w := w1 z
    clear w1 w2
    exact V.sub [] rfl (tX3_clearTriggers_b49 X  w)
  · replace w := w2 z
    clear w1 w2
    refine V_iload_n X dX3_clearTriggers_10 2 rfl ?_
    refine V_iconst (y := 3) X dX3_clearTriggers_11 (by decide) ?_
    obtain ⟨w1, w2⟩ := w
    refine V_icmp_ge (tgt := 49) X dX3_clearTriggers_12 (by decide) (fun z => ?_) (fun z => ?_)
    · replace w := w1 z
      clear w1 w2
      exact V.sub [] rfl (tX3_clearTriggers_b49 X  w)
    · replace w := w2 z
      clear w1 w2
      refine V_aloadr_n X dX3_clearTriggers_15 0 rfl ?_
      obtain ⟨fs, r3, hh, hv, w⟩ := w
      refine V_get X flX3_39 dX3_clearTriggers_16 hh hv ?_
      refine V_aloadr_n X dX3_clearTriggers_19 1 rfl ?_
      obtain ⟨fs, r4, hh, hv, w⟩ := w
      refine V_get3 X frX3_212 dX3_clearTriggers_20 hh hv ?_
      refine V_iload_n X dX3_clearTriggers_23 2 rfl ?_
      obtain ⟨a5, rfl, w⟩ := w
      obtain ⟨N9, g9, hh, hi, w⟩ := w
      refine V_iald X dX3_clearTriggers_24 hh hi ?_
      generalize g9 _ = x6 at w ⊢
      obtain ⟨a7, rfl, w⟩ := w
      obtain ⟨fs, hh, w⟩ := w
      refine V_callVi (As := [.int x6]) (rest := []) (k1 := 0) (n1 := 0) X (cX4_kindOf_ok X.2.2.2.2.2.2.2.2.1 w) lkX3_234 hh (q9 := (RX4, TX4, 8)) rfl rfl dX3_clearTriggers_25 ⟨Nat.le_of_ble_eq_true rfl, Nat.le_of_ble_eq_true rfl⟩ rfl (Nat.le_of_ble_eq_true rfl) ⟨Nat.le_of_ble_eq_true rfl, Nat.le_of_ble_eq_true rfl⟩ (Nat.le_of_ble_eq_true rfl) (Nat.le_of_ble_eq_true rfl) (fun x9 h8 w9 => ?_)
      replace w := w9
      clear w9
      refine V_iconst (y := 2) X dX3_clearTriggers_28 (by decide) ?_
      obtain ⟨w1, w2⟩ := w
      refine V_icmp_ne (tgt := 43) X dX3_clearTriggers_29 (by decide) (fun z => ?_) (fun z => ?_)
      · replace w := w1 z
        clear w1 w2
        exact V.sub [0, 1, 2] rfl (tX3_clearTriggers_b43 X H2 w)
      · replace w := w2 z
        clear w1 w2
        refine V_aloadr_n X dX3_clearTriggers_32 0 rfl ?_
        refine V_aloadr_n X dX3_clearTriggers_33 1 rfl ?_
        obtain ⟨fs, r10, hh, hv, w⟩ := w
        refine V_get3 X frX3_212 dX3_clearTriggers_34 hh hv ?_
        refine V_iload_n X dX3_clearTriggers_37 2 rfl ?_
        obtain ⟨a11, rfl, w⟩ := w
        obtain ⟨N9, g9, hh, hi, w⟩ := w
        refine V_iald X dX3_clearTriggers_38 hh hi ?_
        generalize g9 _ = x12 at w ⊢
        refine V_iconst (y := 0) X dX3_clearTriggers_39 (by decide) ?_
        obtain ⟨fs, hh, w⟩ := w
        refine V_callVv (As := [.int x12, .int 0]) (rest := []) (k1 := 0) (n1 := 0) X (cX3_setValue_ok X.2.2.2.2.2.2.2.2.1 w) lkX3_237 hh (q9 := (RX3, TX3, 13)) rfl rfl dX3_clearTriggers_40 ⟨Nat.le_of_ble_eq_true rfl, Nat.le_of_ble_eq_true rfl⟩ rfl (Nat.le_of_ble_eq_true rfl) ⟨Nat.le_of_ble_eq_true rfl, Nat.le_of_ble_eq_true rfl⟩ (Nat.le_of_ble_eq_true rfl) (Nat.le_of_ble_eq_true rfl) (fun h13 w9 => ?_)
        replace w := w9
        clear w9
        exact V.sub [0, 1, 2] rfl (tX3_clearTriggers_b43 X H2 w)
def vX3_clearTriggers_b2 (t0 : Nat)  (Qn : gH → Prop) (n : Nat) : gH → Nat → Option Nat → Int32 → Prop := Nat.rec (motive := fun _ => gH → Nat → Option Nat → Int32 → Prop) (fun _ _ _ _ => False) (fun _ k2 => vX3_clearTriggers_b2_o t0 k2 Qn) n
theorem tX3_clearTriggers_b2 {p : Program} {l : Launch} {e : Env} {s : State} {m : MethodId} {args : Array Value} {below : List Frame} {meth : Method} {c : Code} {G : gG} {A : Nat → Prop} {Qn : gH → Prop} (X : gC p l s m args meth c G A cX3_clearTriggers 3 none RX3)   : ∀ (n : Nat) (h : gH) (v0 : Nat) (v1 : Option Nat) (v2 : Int32) (w : vX3_clearTriggers_b2 G.2.2.1  Qn n h v0 v1 v2), V p l e rmX3_clearTriggers s m args below meth c (MQ below (va_Qv Qn (gB G A) A) args s rmX3_clearTriggers.cells rmX3_clearTriggers.slots A) G A 3 h 0 0 2 [(0, .ref v0), (1, va_rf v1), (2, .int v2)] [] := by
  intro n
  induction n with
  | zero => intro h v0 v1 v2 w; exact False.elim w
  | succ n ih => intro h v0 v1 v2 w; exact tX3_clearTriggers_b2_o X ih w
def vX3_clearTriggers (t0 : Nat)  (Qn : gH → Prop) (h : gH) (v0 : Nat) (v1 : Option Nat) : Prop := ∃ n : Nat, vX3_clearTriggers_b2 t0  Qn n h v0 v1 0
set_option maxRecDepth 100000 in
set_option maxHeartbeats 4000000 in
theorem tX3_clearTriggers {p : Program} {l : Launch} {e : Env} {s : State} {m : MethodId} {args : Array Value} {below : List Frame} {meth : Method} {c : Code} {G : gG} {A : Nat → Prop} {Qn : gH → Prop} (X : gC p l s m args meth c G A cX3_clearTriggers 3 none RX3)   {h : gH} {v0 : Nat} {v1 : Option Nat} (w : vX3_clearTriggers G.2.2.1  Qn h v0 v1) : V p l e rmX3_clearTriggers s m args below meth c (MQ below (va_Qv Qn (gB G A) A) args s rmX3_clearTriggers.cells rmX3_clearTriggers.slots A) G A 3 h 0 0 0 [(0, .ref v0), (1, va_rf v1)] [] := by
  refine V_iconst (y := 0) X dX3_clearTriggers_0 (by decide) ?_
  refine V_istore_n (i0 := 2) X dX3_clearTriggers_1 rfl (by decide) (by simp [va_cat1] <;> rfl) ?_
  obtain ⟨n9, w⟩ := w
  exact V.sub [1, 2, 0] rfl (tX3_clearTriggers_b2 X  n9 _ _ _ _ w)
theorem cX3_clearTriggers_ok {l : Launch} {G : gG} {h : gH} (hls : l.stackTraces = false) {Qn : gH → Prop} {v0 : Nat} {v1 : Option Nat} (w : vX3_clearTriggers G.2.2.1 Qn h v0 v1) : gMv l yX3_clearTriggers cX3_clearTriggers 3 none rmX3_clearTriggers rmX3_clearTriggers.cells rmX3_clearTriggers.slots G h [.ref v0, va_rf v1] Qn := by
  cases v1 <;>
  exact gMv.of (by decide +kernel) hls (Nat.le_of_ble_eq_true rfl) rfl rfl (fun p e s m below meth c A X hnm => tX3_clearTriggers X w)
/-! java/lang/Math.min(JJ)J -/
abbrev rmJ9_min_f86c9 : Room := { frames := 0, cells := 0, slots := 0, locals := 0 }
def vJ9_min_f86c9_b11 (t0 : Nat)  (Qn : Int64 → gH → Prop) (h : gH) (s0 : Int64) : Prop := Qn s0 h
set_option maxRecDepth 100000 in
set_option maxHeartbeats 4000000 in
theorem tJ9_min_f86c9_b11 {p : Program} {l : Launch} {e : Env} {s : State} {m : MethodId} {args : Array Value} {below : List Frame} {meth : Method} {c : Code} {G : gG} {A : Nat → Prop} {Qn : Int64 → gH → Prop} (X : gC p l s m args meth c G A cJ9_min_f86c9 4 (some FieldType.long) RJ9)   {h : gH} {s0 : Int64} (w : vJ9_min_f86c9_b11 G.2.2.1  Qn h s0) : V p l e rmJ9_min_f86c9 s m args below meth c (MQ below (va_Ql Qn (gB G A) A) args s rmJ9_min_f86c9.cells rmJ9_min_f86c9.slots A) G A 4 h 0 0 11 [] [.long s0] := by
  exact V_lret X rfl dJ9_min_f86c9_11 (Nat.le_of_ble_eq_true rfl) (Nat.le_of_ble_eq_true rfl) w
def vJ9_min_f86c9 (t0 : Nat)  (Qn : Int64 → gH → Prop) (h : gH) (v0 : Int64) (v2 : Int64) : Prop := ((v2 < (v0 : Int64)) → (vJ9_min_f86c9_b11 t0  Qn h v2)) ∧ ((¬ v2 < (v0 : Int64)) → (vJ9_min_f86c9_b11 t0  Qn h v0))
set_option maxRecDepth 100000 in
set_option maxHeartbeats 4000000 in
theorem tJ9_min_f86c9 {p : Program} {l : Launch} {e : Env} {s : State} {m : MethodId} {args : Array Value} {below : List Frame} {meth : Method} {c : Code} {G : gG} {A : Nat → Prop} {Qn : Int64 → gH → Prop} (X : gC p l s m args meth c G A cJ9_min_f86c9 4 (some FieldType.long) RJ9)   {h : gH} {v0 : Int64} {v2 : Int64} (w : vJ9_min_f86c9 G.2.2.1  Qn h v0 v2) : V p l e rmJ9_min_f86c9 s m args below meth c (MQ below (va_Ql Qn (gB G A) A) args s rmJ9_min_f86c9.cells rmJ9_min_f86c9.slots A) G A 4 h 0 0 0 [(0, .long v0), (2, .long v2)] [] := by
  refine V_lload_n X dJ9_min_f86c9_0 0 rfl ?_
  refine V_lload_n X dJ9_min_f86c9_1 1 rfl ?_
  refine V_lcmp X dJ9_min_f86c9_2 ?_
  obtain ⟨w1, w2⟩ := w
  refine V_if_gt (tgt := 10) X dJ9_min_f86c9_3 (by decide) (fun z => ?_) (fun z => ?_)
  · replace w := w1 ((lg_cmp_gt _ _).mp z)
    clear w1 w2
    refine V_lload_n X dJ9_min_f86c9_10 1 rfl ?_
    exact V.sub [] rfl (tJ9_min_f86c9_b11 X  w)
  · replace w := w2 (fun z9 => z ((lg_cmp_gt _ _).mpr z9))
    clear w1 w2
    refine V_lload_n X dJ9_min_f86c9_6 0 rfl ?_
    refine V_goto (tgt := 11) X dJ9_min_f86c9_7 (by decide) ?_
    exact V.sub [] rfl (tJ9_min_f86c9_b11 X  w)
theorem cJ9_min_f86c9_ok {l : Launch} {G : gG} {h : gH} (hls : l.stackTraces = false) {Qn : Int64 → gH → Prop} {v0 : Int64} {v2 : Int64} (w : vJ9_min_f86c9 G.2.2.1 Qn h v0 v2) : gMl l yJ9_min_f86c9 cJ9_min_f86c9 4 (some FieldType.long) rmJ9_min_f86c9 rmJ9_min_f86c9.cells rmJ9_min_f86c9.slots G h [.long v0, .long v2] Qn := by
  exact gMl.ofF (by decide +kernel) hls (Nat.le_of_ble_eq_true rfl) rfl rfl (fun p e s m below meth c A X hnm => tJ9_min_f86c9 X w)
/-! AnimationController$Pose.isBefore(III)Z -/
abbrev rmX6_isBefore : Room := { frames := 0, cells := 0, slots := 0, locals := 0 }
def vX6_isBefore_b10 (t0 : Nat)  (Qn : Int32 → gH → Prop) (h : gH)  : Prop := Qn 0 h
set_option maxRecDepth 100000 in
set_option maxHeartbeats 4000000 in
theorem tX6_isBefore_b10 {p : Program} {l : Launch} {e : Env} {s : State} {m : MethodId} {args : Array Value} {below : List Frame} {meth : Method} {c : Code} {G : gG} {A : Nat → Prop} {Qn : Int32 → gH → Prop} (X : gC p l s m args meth c G A cX6_isBefore 4 (some FieldType.boolean) RX6)   {h : gH}  (w : vX6_isBefore_b10 G.2.2.1  Qn h ) : V p l e rmX6_isBefore s m args below meth c (MQ below (va_Qi Qn (gB G A) A) args s rmX6_isBefore.cells rmX6_isBefore.slots A) G A 4 h 0 0 10 [] [] := by
  refine V_iconst (y := 0) X dX6_isBefore_10 (by decide) ?_
  exact V_zret X rfl rfl dX6_isBefore_11 (Nat.le_of_ble_eq_true rfl) (Nat.le_of_ble_eq_true rfl) w
def vX6_isBefore_b47 (t0 : Nat)  (Qn : Int32 → gH → Prop) (h : gH) (s0 : Int32) : Prop := gZ s0 ∧ Qn s0 h
set_option maxRecDepth 100000 in
set_option maxHeartbeats 4000000 in
theorem tX6_isBefore_b47 {p : Program} {l : Launch} {e : Env} {s : State} {m : MethodId} {args : Array Value} {below : List Frame} {meth : Method} {c : Code} {G : gG} {A : Nat → Prop} {Qn : Int32 → gH → Prop} (X : gC p l s m args meth c G A cX6_isBefore 4 (some FieldType.boolean) RX6)   {h : gH} {s0 : Int32} (w : vX6_isBefore_b47 G.2.2.1  Qn h s0) : V p l e rmX6_isBefore s m args below meth c (MQ below (va_Qi Qn (gB G A) A) args s rmX6_isBefore.cells rmX6_isBefore.slots A) G A 4 h 0 0 47 [] [.int s0] := by
  obtain ⟨hz, w⟩ := w
  exact V_zret X rfl hz.1 dX6_isBefore_47 (Nat.le_of_ble_eq_true rfl) (Nat.le_of_ble_eq_true rfl) w
def vX6_isBefore_b42 (t0 : Nat)  (Qn : Int32 → gH → Prop) (h : gH)  : Prop := vX6_isBefore_b47 t0  Qn h 1
set_option maxRecDepth 100000 in
set_option maxHeartbeats 4000000 in
theorem tX6_isBefore_b42 {p : Program} {l : Launch} {e : Env} {s : State} {m : MethodId} {args : Array Value} {below : List Frame} {meth : Method} {c : Code} {G : gG} {A : Nat → Prop} {Qn : Int32 → gH → Prop} (X : gC p l s m args meth c G A cX6_isBefore 4 (some FieldType.boolean) RX6)   {h : gH}  (w : vX6_isBefore_b42 G.2.2.1  Qn h ) : V p l e rmX6_isBefore s m args below meth c (MQ below (va_Qi Qn (gB G A) A) args s rmX6_isBefore.cells rmX6_isBefore.slots A) G A 4 h 0 0 42 [] [] := by
  refine V_iconst (y := 1) X dX6_isBefore_42 (by decide) ?_
  refine V_goto (tgt := 47) X dX6_isBefore_43 (by decide) ?_
  exact V.sub [] rfl (tX6_isBefore_b47 X  w)
def vX6_isBefore_b46 (t0 : Nat)  (Qn : Int32 → gH → Prop) (h : gH)  : Prop := vX6_isBefore_b47 t0  Qn h 0
set_option maxRecDepth 100000 in
set_option maxHeartbeats 4000000 in
theorem tX6_isBefore_b46 {p : Program} {l : Launch} {e : Env} {s : State} {m : MethodId} {args : Array Value} {below : List Frame} {meth : Method} {c : Code} {G : gG} {A : Nat → Prop} {Qn : Int32 → gH → Prop} (X : gC p l s m args meth c G A cX6_isBefore 4 (some FieldType.boolean) RX6)   {h : gH}  (w : vX6_isBefore_b46 G.2.2.1  Qn h ) : V p l e rmX6_isBefore s m args below meth c (MQ below (va_Qi Qn (gB G A) A) args s rmX6_isBefore.cells rmX6_isBefore.slots A) G A 4 h 0 0 46 [] [] := by
  refine V_iconst (y := 0) X dX6_isBefore_46 (by decide) ?_
  exact V.sub [] rfl (tX6_isBefore_b47 X  w)
def vX6_isBefore (t0 : Nat)  (Qn : Int32 → gH → Prop) (h : gH) (v0 : Nat) (v1 : Int32) (v2 : Int32) (v3 : Int32) : Prop := (((v1 : Int32) < 0) → (vX6_isBefore_b10 t0  Qn h )) ∧ ((¬ (v1 : Int32) < 0) → ((((v1 : Int32) < 32) → (gr h v0 9 0 (fun r1 => nn r1 (fun a2 => li h a2 v1 (fun x3 => (((x3 : Int32) < v2) → (vX6_isBefore_b42 t0  Qn h )) ∧ ((¬ (x3 : Int32) < v2) → (gr h v0 9 0 (fun r4 => nn r4 (fun a5 => li h a5 v1 (fun x6 => ((¬ (x6 : Int32) = v2) → (vX6_isBefore_b46 t0  Qn h )) ∧ (((x6 : Int32) = v2) → (gr h v0 9 1 (fun r7 => nn r7 (fun a8 => li h a8 v1 (fun x9 => ((v3 ≤ (x9 : Int32)) → (vX6_isBefore_b46 t0  Qn h )) ∧ ((¬ v3 ≤ (x9 : Int32)) → (vX6_isBefore_b42 t0  Qn h ))))))))))))))))) ∧ ((¬ (v1 : Int32) < 32) → (vX6_isBefore_b10 t0  Qn h ))))
set_option maxRecDepth 100000 in
set_option maxHeartbeats 4000000 in
theorem tX6_isBefore {p : Program} {l : Launch} {e : Env} {s : State} {m : MethodId} {args : Array Value} {below : List Frame} {meth : Method} {c : Code} {G : gG} {A : Nat → Prop} {Qn : Int32 → gH → Prop} (X : gC p l s m args meth c G A cX6_isBefore 4 (some FieldType.boolean) RX6)   {h : gH} {v0 : Nat} {v1 : Int32} {v2 : Int32} {v3 : Int32} (w : vX6_isBefore G.2.2.1  Qn h v0 v1 v2 v3) : V p l e rmX6_isBefore s m args below meth c (MQ below (va_Qi Qn (gB G A) A) args s rmX6_isBefore.cells rmX6_isBefore.slots A) G A 4 h 0 0 0 [(0, .ref v0), (1, .int v1), (2, .int v2), (3, .int v3)] [] := by
  refine V_iload_n X dX6_isBefore_0 1 rfl ?_
  obtain ⟨w1, w2⟩ := w
  refine V_if_lt (tgt := 10) X dX6_isBefore_1 (by decide) (fun z => ?_) (fun z => ?_)
  · replace w := w1 z
    clear w1 w2
    exact V.sub [] rfl (tX6_isBefore_b10 X  w)
  · replace w := w2 z
    clear w1 w2
    refine V_iload_n X dX6_isBefore_4 1 rfl ?_
    refine V_bipush (y := 32) X dX6_isBefore_5 (by decide) ?_
    obtain ⟨w1, w2⟩ := w
    refine V_icmp_lt (tgt := 12) X dX6_isBefore_7 (by decide) (fun z => ?_) (fun z => ?_)
    · replace w := w1 z
      clear w1 w2
      refine V_aloadr_n X dX6_isBefore_12 0 rfl ?_
      obtain ⟨fs, r1, hh, hv, w⟩ := w
      refine V_get X flX6_9 dX6_isBefore_13 hh hv ?_
      refine V_iload_n X dX6_isBefore_16 1 rfl ?_
      obtain ⟨a2, rfl, w⟩ := w
      obtain ⟨N9, g9, hh, hi, w⟩ := w
      refine V_iald X dX6_isBefore_17 hh hi ?_
      generalize g9 _ = x3 at w ⊢
      refine V_iload_n X dX6_isBefore_18 2 rfl ?_
      obtain ⟨w1, w2⟩ := w
      refine V_icmp_lt (tgt := 42) X dX6_isBefore_19 (by decide) (fun z => ?_) (fun z => ?_)
      · replace w := w1 z
        clear w1 w2
        exact V.sub [] rfl (tX6_isBefore_b42 X  w)
      · replace w := w2 z
        clear w1 w2
        refine V_aloadr_n X dX6_isBefore_22 0 rfl ?_
        obtain ⟨fs, r4, hh, hv, w⟩ := w
        refine V_get X flX6_9 dX6_isBefore_23 hh hv ?_
        refine V_iload_n X dX6_isBefore_26 1 rfl ?_
        obtain ⟨a5, rfl, w⟩ := w
        obtain ⟨N9, g9, hh, hi, w⟩ := w
        refine V_iald X dX6_isBefore_27 hh hi ?_
        generalize g9 _ = x6 at w ⊢
        refine V_iload_n X dX6_isBefore_28 2 rfl ?_
        obtain ⟨w1, w2⟩ := w
        refine V_icmp_ne (tgt := 46) X dX6_isBefore_29 (by decide) (fun z => ?_) (fun z => ?_)
        · replace w := w1 z
          clear w1 w2
          exact V.sub [] rfl (tX6_isBefore_b46 X  w)
        · replace w := w2 z
          clear w1 w2
          refine V_aloadr_n X dX6_isBefore_32 0 rfl ?_
          obtain ⟨fs, r7, hh, hv, w⟩ := w
          refine V_get X flX6_15 dX6_isBefore_33 hh hv ?_
          refine V_iload_n X dX6_isBefore_36 1 rfl ?_
          obtain ⟨a8, rfl, w⟩ := w
          obtain ⟨N9, g9, hh, hi, w⟩ := w
          refine V_iald X dX6_isBefore_37 hh hi ?_
          generalize g9 _ = x9 at w ⊢
          refine V_iload_n X dX6_isBefore_38 3 rfl ?_
          obtain ⟨w1, w2⟩ := w
          refine V_icmp_ge (tgt := 46) X dX6_isBefore_39 (by decide) (fun z => ?_) (fun z => ?_)
          · replace w := w1 z
            clear w1 w2
            exact V.sub [] rfl (tX6_isBefore_b46 X  w)
          · replace w := w2 z
            clear w1 w2
            exact V.sub [] rfl (tX6_isBefore_b42 X  w)
    · replace w := w2 z
      clear w1 w2
      exact V.sub [] rfl (tX6_isBefore_b10 X  w)
theorem cX6_isBefore_ok {l : Launch} {G : gG} {h : gH} (hls : l.stackTraces = false) {Qn : Int32 → gH → Prop} {v0 : Nat} {v1 : Int32} {v2 : Int32} {v3 : Int32} (w : vX6_isBefore G.2.2.1 Qn h v0 v1 v2 v3) : gMi l yX6_isBefore cX6_isBefore 4 (some FieldType.boolean) rmX6_isBefore rmX6_isBefore.cells rmX6_isBefore.slots G h [.ref v0, .int v1, .int v2, .int v3] Qn := by
  exact gMi.of (by decide +kernel) hls (Nat.le_of_ble_eq_true rfl) rfl rfl (fun p e s m below meth c A X hnm => tX6_isBefore X w)
/-! AnimationController$Pose.addEntry(III)V -/
abbrev rmX6_addEntry : Room := { frames := 1, cells := 0, slots := 0, locals := 23 }
def vX6_addEntry_b47 (t0 : Nat)  (Qn : gH → Prop) (h : gH)  : Prop := Qn h
set_option maxRecDepth 100000 in
set_option maxHeartbeats 4000000 in
theorem tX6_addEntry_b47 {p : Program} {l : Launch} {e : Env} {s : State} {m : MethodId} {args : Array Value} {below : List Frame} {meth : Method} {c : Code} {G : gG} {A : Nat → Prop} {Qn : gH → Prop} (X : gC p l s m args meth c G A cX6_addEntry 6 none RX6)   {h : gH}  (w : vX6_addEntry_b47 G.2.2.1  Qn h ) : V p l e rmX6_addEntry s m args below meth c (MQ below (va_Qv Qn (gB G A) A) args s rmX6_addEntry.cells rmX6_addEntry.slots A) G A 6 h 0 0 47 [] [] := by
  exact V_vret X rfl dX6_addEntry_47 (Nat.le_of_ble_eq_true rfl) (Nat.le_of_ble_eq_true rfl) w
def vX6_addEntry_b107_o (t0 : Nat) (k107 : gH → Nat → Int32 → Int32 → Int32 → Int32 → Int32 → Prop) (Qn : gH → Prop) (h : gH) (v0 : Nat) (v1 : Int32) (v2 : Int32) (v3 : Int32) (v4 : Int32) (v5 : Int32) : Prop := (((v5 : Int32) ≤ v4) → (gr h v0 9 0 (fun r1 => nn r1 (fun a2 => si h a2 v4 v1 (fun h3 => gr h3 v0 9 1 (fun r4 => nn r4 (fun a5 => si h3 a5 v4 v2 (fun h6 => gr h6 v0 9 2 (fun r7 => nn r7 (fun a8 => si h6 a8 v4 v3 (fun h9 => gi h9 v0 9 3 (fun x10 => pv h9 v0 9 3 (.int (x10 + 1)) (fun h11 => Qn h11))))))))))))) ∧ ((¬ (v5 : Int32) ≤ v4) → (gr h v0 9 0 (fun r12 => gr h v0 9 0 (fun r13 => nn r13 (fun a14 => li h a14 (v5 - 1) (fun x15 => nn r12 (fun a16 => si h a16 v5 x15 (fun h17 => gr h17 v0 9 1 (fun r18 => gr h17 v0 9 1 (fun r19 => nn r19 (fun a20 => li h17 a20 (v5 - 1) (fun x21 => nn r18 (fun a22 => si h17 a22 v5 x21 (fun h23 => gr h23 v0 9 2 (fun r24 => gr h23 v0 9 2 (fun r25 => nn r25 (fun a26 => li h23 a26 (v5 - 1) (fun x27 => nn r24 (fun a28 => si h23 a28 v5 x27 (fun h29 => k107 h29 v0 v1 v2 v3 v4 (v5 + (-1))))))))))))))))))))))
set_option maxRecDepth 100000 in
set_option maxHeartbeats 4000000 in
theorem tX6_addEntry_b107_o {p : Program} {l : Launch} {e : Env} {s : State} {m : MethodId} {args : Array Value} {below : List Frame} {meth : Method} {c : Code} {G : gG} {A : Nat → Prop} {Qn : gH → Prop} (X : gC p l s m args meth c G A cX6_addEntry 6 none RX6) {k107 : gH → Nat → Int32 → Int32 → Int32 → Int32 → Int32 → Prop} (H107 : ∀ (h : gH) (v0 : Nat) (v1 : Int32) (v2 : Int32) (v3 : Int32) (v4 : Int32) (v5 : Int32), k107 h v0 v1 v2 v3 v4 v5 → V p l e rmX6_addEntry s m args below meth c (MQ below (va_Qv Qn (gB G A) A) args s rmX6_addEntry.cells rmX6_addEntry.slots A) G A 6 h 0 0 107 [(0, .ref v0), (1, .int v1), (2, .int v2), (3, .int v3), (4, .int v4), (5, .int v5)] []) {h : gH} {v0 : Nat} {v1 : Int32} {v2 : Int32} {v3 : Int32} {v4 : Int32} {v5 : Int32} (w : vX6_addEntry_b107_o G.2.2.1 k107 Qn h v0 v1 v2 v3 v4 v5) : V p l e rmX6_addEntry s m args below meth c (MQ below (va_Qv Qn (gB G A) A) args s rmX6_addEntry.cells rmX6_addEntry.slots A) G A 6 h 0 0 107 [(0, .ref v0), (1, .int v1), (2, .int v2), (3, .int v3), (4, .int v4), (5, .int v5)] [] := by
  refine V_iload X dX6_addEntry_107 5 rfl ?_
  refine V_iload X dX6_addEntry_109 4 rfl ?_
  obtain ⟨w1, w2⟩ := w
  refine V_icmp_le (tgt := 168) X dX6_addEntry_111 (by decide) (fun z => ?_) (fun z => ?_)
  · replace w := w1 z
    clear w1 w2
    refine V_aloadr_n X dX6_addEntry_168 0 rfl ?_
    obtain ⟨fs, r1, hh, hv, w⟩ := w
    refine V_get X flX6_9 dX6_addEntry_169 hh hv ?_
    refine V_iload X dX6_addEntry_172 4 rfl ?_
    refine V_iload_n X dX6_addEntry_174 1 rfl ?_
    obtain ⟨a2, rfl, w⟩ := w
    obtain ⟨N9, g9, hh, hi, w⟩ := w
    refine V_iast X dX6_addEntry_175 hh hi ?_
    generalize va_up _ _ _ = h3 at w ⊢
    refine V_aloadr_n X dX6_addEntry_176 0 rfl ?_
    obtain ⟨fs, r4, hh, hv, w⟩ := w
    refine V_get X flX6_15 dX6_addEntry_177 hh hv ?_
    refine V_iload X dX6_addEntry_180 4 rfl ?_
    refine V_iload_n X dX6_addEntry_182 2 rfl ?_
    obtain ⟨a5, rfl, w⟩ := w
    obtain ⟨N9, g9, hh, hi, w⟩ := w
    refine V_iast X dX6_addEntry_183 hh hi ?_
    generalize va_up _ _ _ = h6 at w ⊢
    refine V_aloadr_n X dX6_addEntry_184 0 rfl ?_
    obtain ⟨fs, r7, hh, hv, w⟩ := w
    refine V_get X flX6_18 dX6_addEntry_185 hh hv ?_
    refine V_iload X dX6_addEntry_188 4 rfl ?_
    refine V_iload_n X dX6_addEntry_190 3 rfl ?_
    obtain ⟨a8, rfl, w⟩ := w
    obtain ⟨N9, g9, hh, hi, w⟩ := w
    refine V_iast X dX6_addEntry_191 hh hi ?_
    generalize va_up _ _ _ = h9 at w ⊢
    refine V_aloadr_n X dX6_addEntry_192 0 rfl ?_
    refine V_dup X dX6_addEntry_193 rfl ?_
    obtain ⟨fs, x10, hh, hv, w⟩ := w
    refine V_get X flX6_21 dX6_addEntry_194 hh hv ?_
    refine V_iconst (y := 1) X dX6_addEntry_197 (by decide) ?_
    refine V_iadd X dX6_addEntry_198 ?_
    obtain ⟨fs, hh, hv, w⟩ := w
    refine V_put X flX6_21 dX6_addEntry_199 hh hv rfl rfl ?_
    generalize va_up _ _ _ = h11 at w ⊢
    exact V_vret X rfl dX6_addEntry_202 (Nat.le_of_ble_eq_true rfl) (Nat.le_of_ble_eq_true rfl) w
  · replace w := w2 z
    clear w1 w2
    refine V_aloadr_n X dX6_addEntry_114 0 rfl ?_
    obtain ⟨fs, r12, hh, hv, w⟩ := w
    refine V_get X flX6_9 dX6_addEntry_115 hh hv ?_
    refine V_iload X dX6_addEntry_118 5 rfl ?_
    refine V_aloadr_n X dX6_addEntry_120 0 rfl ?_
    obtain ⟨fs, r13, hh, hv, w⟩ := w
    refine V_get X flX6_9 dX6_addEntry_121 hh hv ?_
    refine V_iload X dX6_addEntry_124 5 rfl ?_
    refine V_iconst (y := 1) X dX6_addEntry_126 (by decide) ?_
    refine V_isub X dX6_addEntry_127 ?_
    obtain ⟨a14, rfl, w⟩ := w
    obtain ⟨N9, g9, hh, hi, w⟩ := w
    refine V_iald X dX6_addEntry_128 hh hi ?_
    generalize g9 _ = x15 at w ⊢
    obtain ⟨a16, rfl, w⟩ := w
    obtain ⟨N9, g9, hh, hi, w⟩ := w
    refine V_iast X dX6_addEntry_129 hh hi ?_
    generalize va_up _ _ _ = h17 at w ⊢
    refine V_aloadr_n X dX6_addEntry_130 0 rfl ?_
    obtain ⟨fs, r18, hh, hv, w⟩ := w
    refine V_get X flX6_15 dX6_addEntry_131 hh hv ?_
    refine V_iload X dX6_addEntry_134 5 rfl ?_
    refine V_aloadr_n X dX6_addEntry_136 0 rfl ?_
    obtain ⟨fs, r19, hh, hv, w⟩ := w
    refine V_get X flX6_15 dX6_addEntry_137 hh hv ?_
    refine V_iload X dX6_addEntry_140 5 rfl ?_
    refine V_iconst (y := 1) X dX6_addEntry_142 (by decide) ?_
    refine V_isub X dX6_addEntry_143 ?_
    obtain ⟨a20, rfl, w⟩ := w
    obtain ⟨N9, g9, hh, hi, w⟩ := w
    refine V_iald X dX6_addEntry_144 hh hi ?_
    generalize g9 _ = x21 at w ⊢
    obtain ⟨a22, rfl, w⟩ := w
    obtain ⟨N9, g9, hh, hi, w⟩ := w
    refine V_iast X dX6_addEntry_145 hh hi ?_
    generalize va_up _ _ _ = h23 at w ⊢
    refine V_aloadr_n X dX6_addEntry_146 0 rfl ?_
    obtain ⟨fs, r24, hh, hv, w⟩ := w
    refine V_get X flX6_18 dX6_addEntry_147 hh hv ?_
    refine V_iload X dX6_addEntry_150 5 rfl ?_
    refine V_aloadr_n X dX6_addEntry_152 0 rfl ?_
    obtain ⟨fs, r25, hh, hv, w⟩ := w
    refine V_get X flX6_18 dX6_addEntry_153 hh hv ?_
    refine V_iload X dX6_addEntry_156 5 rfl ?_
    refine V_iconst (y := 1) X dX6_addEntry_158 (by decide) ?_
    refine V_isub X dX6_addEntry_159 ?_
    obtain ⟨a26, rfl, w⟩ := w
    obtain ⟨N9, g9, hh, hi, w⟩ := w
    refine V_iald X dX6_addEntry_160 hh hi ?_
    generalize g9 _ = x27 at w ⊢
    obtain ⟨a28, rfl, w⟩ := w
    obtain ⟨N9, g9, hh, hi, w⟩ := w
    refine V_iast X dX6_addEntry_161 hh hi ?_
    generalize va_up _ _ _ = h29 at w ⊢
    refine V_iinc (y := (v5 + (-1))) X dX6_addEntry_162 5 rfl (by first | rfl | (congr 1)) (by decide) rfl ?_
    refine V_goto (tgt := 107) X dX6_addEntry_165 (by decide) ?_
    exact V.sub [1, 2, 3, 4, 5, 0] rfl (H107 _ _ _ _ _ _ _ w)
def vX6_addEntry_b107 (t0 : Nat)  (Qn : gH → Prop) (n : Nat) : gH → Nat → Int32 → Int32 → Int32 → Int32 → Int32 → Prop := Nat.rec (motive := fun _ => gH → Nat → Int32 → Int32 → Int32 → Int32 → Int32 → Prop) (fun _ _ _ _ _ _ _ => False) (fun _ k107 => vX6_addEntry_b107_o t0 k107 Qn) n
theorem tX6_addEntry_b107 {p : Program} {l : Launch} {e : Env} {s : State} {m : MethodId} {args : Array Value} {below : List Frame} {meth : Method} {c : Code} {G : gG} {A : Nat → Prop} {Qn : gH → Prop} (X : gC p l s m args meth c G A cX6_addEntry 6 none RX6)   : ∀ (n : Nat) (h : gH) (v0 : Nat) (v1 : Int32) (v2 : Int32) (v3 : Int32) (v4 : Int32) (v5 : Int32) (w : vX6_addEntry_b107 G.2.2.1  Qn n h v0 v1 v2 v3 v4 v5), V p l e rmX6_addEntry s m args below meth c (MQ below (va_Qv Qn (gB G A) A) args s rmX6_addEntry.cells rmX6_addEntry.slots A) G A 6 h 0 0 107 [(0, .ref v0), (1, .int v1), (2, .int v2), (3, .int v3), (4, .int v4), (5, .int v5)] [] := by
  intro n
  induction n with
  | zero => intro h v0 v1 v2 v3 v4 v5 w; exact False.elim w
  | succ n ih => intro h v0 v1 v2 v3 v4 v5 w; exact tX6_addEntry_b107_o X ih w
def vX6_addEntry_b91 (t0 : Nat)  (Qn : gH → Prop) (h : gH) (v0 : Nat) (v1 : Int32) (v2 : Int32) (v3 : Int32) (v4 : Int32) : Prop := gi h v0 9 3 (fun x1 => (((x1 : Int32) < 32) → (gi h v0 9 3 (fun x2 => ∃ n : Nat, vX6_addEntry_b107 t0  Qn n h v0 v1 v2 v3 v4 x2))) ∧ ((¬ (x1 : Int32) < 32) → (Qn h)))
set_option maxRecDepth 100000 in
set_option maxHeartbeats 4000000 in
theorem tX6_addEntry_b91 {p : Program} {l : Launch} {e : Env} {s : State} {m : MethodId} {args : Array Value} {below : List Frame} {meth : Method} {c : Code} {G : gG} {A : Nat → Prop} {Qn : gH → Prop} (X : gC p l s m args meth c G A cX6_addEntry 6 none RX6)   {h : gH} {v0 : Nat} {v1 : Int32} {v2 : Int32} {v3 : Int32} {v4 : Int32} (w : vX6_addEntry_b91 G.2.2.1  Qn h v0 v1 v2 v3 v4) : V p l e rmX6_addEntry s m args below meth c (MQ below (va_Qv Qn (gB G A) A) args s rmX6_addEntry.cells rmX6_addEntry.slots A) G A 6 h 0 0 91 [(0, .ref v0), (1, .int v1), (2, .int v2), (3, .int v3), (4, .int v4)] [] := by
  refine V_aloadr_n X dX6_addEntry_91 0 rfl ?_
  obtain ⟨fs, x1, hh, hv, w⟩ := w
  refine V_get X flX6_21 dX6_addEntry_92 hh hv ?_
  refine V_bipush (y := 32) X dX6_addEntry_95 (by decide) ?_
  obtain ⟨w1, w2⟩ := w
  refine V_icmp_lt (tgt := 101) X dX6_addEntry_97 (by decide) (fun z => ?_) (fun z => ?_)
  · replace w := w1 z
    clear w1 w2
    refine V_aloadr_n X dX6_addEntry_101 0 rfl ?_
    obtain ⟨fs, x2, hh, hv, w⟩ := w
    refine V_get X flX6_21 dX6_addEntry_102 hh hv ?_
    refine V_istore X dX6_addEntry_105 (by decide) rfl ?_
    obtain ⟨n9, w⟩ := w
    exact V.sub [1, 2, 3, 4, 5, 0] rfl (tX6_addEntry_b107 X  n9 _ _ _ _ _ _ _ w)
  · replace w := w2 z
    clear w1 w2
    exact V_vret X rfl dX6_addEntry_100 (Nat.le_of_ble_eq_true rfl) (Nat.le_of_ble_eq_true rfl) w
def vX6_addEntry_b36 (t0 : Nat)  (Qn : gH → Prop) (h : gH) (v0 : Nat) (v1 : Int32) (v2 : Int32) (v3 : Int32) (v4 : Int32) : Prop := (((v3 : Int32) = 0) → (vX6_addEntry_b47 t0  Qn h )) ∧ ((¬ (v3 : Int32) = 0) → ((((v4 : Int32) < 32) → (gi h v0 9 3 (fun x1 => ((x1 ≤ (v4 : Int32)) → (vX6_addEntry_b91 t0  Qn h v0 v1 v2 v3 v4)) ∧ ((¬ x1 ≤ (v4 : Int32)) → (gr h v0 9 0 (fun r2 => nn r2 (fun a3 => li h a3 v4 (fun x4 => ((¬ (x4 : Int32) = v1) → (vX6_addEntry_b91 t0  Qn h v0 v1 v2 v3 v4)) ∧ (((x4 : Int32) = v1) → (gr h v0 9 1 (fun r5 => nn r5 (fun a6 => li h a6 v4 (fun x7 => ((¬ (x7 : Int32) = v2) → (vX6_addEntry_b91 t0  Qn h v0 v1 v2 v3 v4)) ∧ (((x7 : Int32) = v2) → (gr h v0 9 2 (fun r8 => nn r8 (fun a9 => li h a9 v4 (fun x10 => si h a9 v4 (x10 + v3) (fun h11 => Qn h11))))))))))))))))))) ∧ ((¬ (v4 : Int32) < 32) → (vX6_addEntry_b47 t0  Qn h ))))
set_option maxRecDepth 100000 in
set_option maxHeartbeats 4000000 in
theorem tX6_addEntry_b36 {p : Program} {l : Launch} {e : Env} {s : State} {m : MethodId} {args : Array Value} {below : List Frame} {meth : Method} {c : Code} {G : gG} {A : Nat → Prop} {Qn : gH → Prop} (X : gC p l s m args meth c G A cX6_addEntry 6 none RX6)   {h : gH} {v0 : Nat} {v1 : Int32} {v2 : Int32} {v3 : Int32} {v4 : Int32} (w : vX6_addEntry_b36 G.2.2.1  Qn h v0 v1 v2 v3 v4) : V p l e rmX6_addEntry s m args below meth c (MQ below (va_Qv Qn (gB G A) A) args s rmX6_addEntry.cells rmX6_addEntry.slots A) G A 6 h 0 0 36 [(0, .ref v0), (1, .int v1), (2, .int v2), (3, .int v3), (4, .int v4)] [] := by
  refine V_iload_n X dX6_addEntry_36 3 rfl ?_
  obtain ⟨w1, w2⟩ := w
  refine V_if_eq (tgt := 47) X dX6_addEntry_37 (by decide) (fun z => ?_) (fun z => ?_)
  · replace w := w1 z
    clear w1 w2
    exact V.sub [] rfl (tX6_addEntry_b47 X  w)
  · replace w := w2 z
    clear w1 w2
    refine V_iload X dX6_addEntry_40 4 rfl ?_
    refine V_bipush (y := 32) X dX6_addEntry_42 (by decide) ?_
    obtain ⟨w1, w2⟩ := w
    refine V_icmp_lt (tgt := 48) X dX6_addEntry_44 (by decide) (fun z => ?_) (fun z => ?_)
    · replace w := w1 z
      clear w1 w2
      refine V_iload X dX6_addEntry_48 4 rfl ?_
      refine V_aloadr_n X dX6_addEntry_50 0 rfl ?_
      obtain ⟨fs, x1, hh, hv, w⟩ := w
      refine V_get X flX6_21 dX6_addEntry_51 hh hv ?_
      obtain ⟨w1, w2⟩ := w
      refine V_icmp_ge (tgt := 91) X dX6_addEntry_54 (by decide) (fun z => ?_) (fun z => ?_)
      · replace w := w1 z
        clear w1 w2
        exact V.sub [0, 1, 2, 3, 4] rfl (tX6_addEntry_b91 X  w)
      · replace w := w2 z
        clear w1 w2
        refine V_aloadr_n X dX6_addEntry_57 0 rfl ?_
        obtain ⟨fs, r2, hh, hv, w⟩ := w
        refine V_get X flX6_9 dX6_addEntry_58 hh hv ?_
        refine V_iload X dX6_addEntry_61 4 rfl ?_
        obtain ⟨a3, rfl, w⟩ := w
        obtain ⟨N9, g9, hh, hi, w⟩ := w
        refine V_iald X dX6_addEntry_63 hh hi ?_
        generalize g9 _ = x4 at w ⊢
        refine V_iload_n X dX6_addEntry_64 1 rfl ?_
        obtain ⟨w1, w2⟩ := w
        refine V_icmp_ne (tgt := 91) X dX6_addEntry_65 (by decide) (fun z => ?_) (fun z => ?_)
        · replace w := w1 z
          clear w1 w2
          exact V.sub [0, 1, 2, 3, 4] rfl (tX6_addEntry_b91 X  w)
        · replace w := w2 z
          clear w1 w2
          refine V_aloadr_n X dX6_addEntry_68 0 rfl ?_
          obtain ⟨fs, r5, hh, hv, w⟩ := w
          refine V_get X flX6_15 dX6_addEntry_69 hh hv ?_
          refine V_iload X dX6_addEntry_72 4 rfl ?_
          obtain ⟨a6, rfl, w⟩ := w
          obtain ⟨N9, g9, hh, hi, w⟩ := w
          refine V_iald X dX6_addEntry_74 hh hi ?_
          generalize g9 _ = x7 at w ⊢
          refine V_iload_n X dX6_addEntry_75 2 rfl ?_
          obtain ⟨w1, w2⟩ := w
          refine V_icmp_ne (tgt := 91) X dX6_addEntry_76 (by decide) (fun z => ?_) (fun z => ?_)
          · replace w := w1 z
            clear w1 w2
            exact V.sub [0, 1, 2, 3, 4] rfl (tX6_addEntry_b91 X  w)
          · replace w := w2 z
            clear w1 w2
            refine V_aloadr_n X dX6_addEntry_79 0 rfl ?_
            obtain ⟨fs, r8, hh, hv, w⟩ := w
            refine V_get X flX6_18 dX6_addEntry_80 hh hv ?_
            refine V_iload X dX6_addEntry_83 4 rfl ?_
            refine V_dup2 X dX6_addEntry_85 rfl (va_cat1 _) ?_
            obtain ⟨a9, rfl, w⟩ := w
            obtain ⟨N9, g9, hh, hi, w⟩ := w
            refine V_iald X dX6_addEntry_86 hh hi ?_
            generalize g9 _ = x10 at w ⊢
            refine V_iload_n X dX6_addEntry_87 3 rfl ?_
            refine V_iadd X dX6_addEntry_88 ?_
            obtain ⟨N9, g9, hh, hi, w⟩ := w
            refine V_iast X dX6_addEntry_89 hh hi ?_
            generalize va_up _ _ _ = h11 at w ⊢
            exact V_vret X rfl dX6_addEntry_90 (Nat.le_of_ble_eq_true rfl) (Nat.le_of_ble_eq_true rfl) w
    · replace w := w2 z
      clear w1 w2
      exact V.sub [] rfl (tX6_addEntry_b47 X  w)
def vX6_addEntry_b3_o (t0 : Nat) (k3 : gH → Nat → Int32 → Int32 → Int32 → Int32 → Prop) (Qn : gH → Prop) (h : gH) (v0 : Nat) (v1 : Int32) (v2 : Int32) (v3 : Int32) (v4 : Int32) : Prop := gi h v0 9 3 (fun x1 => ((x1 ≤ (v4 : Int32)) → (vX6_addEntry_b36 t0  Qn h v0 v1 v2 v3 v4)) ∧ ((¬ x1 ≤ (v4 : Int32)) → (((32 ≤ (v4 : Int32)) → (vX6_addEntry_b36 t0  Qn h v0 v1 v2 v3 v4)) ∧ ((¬ 32 ≤ (v4 : Int32)) → (io h v0 9 (vX6_isBefore t0 (fun x3 h2 => (((x3 : Int32) = 0) → (vX6_addEntry_b36 t0  Qn h2 v0 v1 v2 v3 v4)) ∧ ((¬ (x3 : Int32) = 0) → (k3 h2 v0 v1 v2 v3 (v4 + 1)))) h v0 v4 v1 v2))))))
set_option maxRecDepth 100000 in
set_option maxHeartbeats 4000000 in
theorem tX6_addEntry_b3_o {p : Program} {l : Launch} {e : Env} {s : State} {m : MethodId} {args : Array Value} {below : List Frame} {meth : Method} {c : Code} {G : gG} {A : Nat → Prop} {Qn : gH → Prop} (X : gC p l s m args meth c G A cX6_addEntry 6 none RX6) {k3 : gH → Nat → Int32 → Int32 → Int32 → Int32 → Prop} (H3 : ∀ (h : gH) (v0 : Nat) (v1 : Int32) (v2 : Int32) (v3 : Int32) (v4 : Int32), k3 h v0 v1 v2 v3 v4 → V p l e rmX6_addEntry s m args below meth c (MQ below (va_Qv Qn (gB G A) A) args s rmX6_addEntry.cells rmX6_addEntry.slots A) G A 6 h 0 0 3 [(0, .ref v0), (1, .int v1), (2, .int v2), (3, .int v3), (4, .int v4)] []) {h : gH} {v0 : Nat} {v1 : Int32} {v2 : Int32} {v3 : Int32} {v4 : Int32} (w : vX6_addEntry_b3_o G.2.2.1 k3 Qn h v0 v1 v2 v3 v4) : V p l e rmX6_addEntry s m args below meth c (MQ below (va_Qv Qn (gB G A) A) args s rmX6_addEntry.cells rmX6_addEntry.slots A) G A 6 h 0 0 3 [(0, .ref v0), (1, .int v1), (2, .int v2), (3, .int v3), (4, .int v4)] [] := by
  refine V_iload X dX6_addEntry_3 4 rfl ?_
  refine V_aloadr_n X dX6_addEntry_5 0 rfl ?_
  obtain ⟨fs, x1, hh, hv, w⟩ := w
  refine V_get X flX6_21 dX6_addEntry_6 hh hv ?_
  obtain ⟨w1, w2⟩ := w
  refine V_icmp_ge (tgt := 36) X dX6_addEntry_9 (by decide) (fun z => ?_) (fun z => ?_)
  · replace w := w1 z
    clear w1 w2
    exact V.sub [0, 1, 2, 3, 4] rfl (tX6_addEntry_b36 X  w)
  · replace w := w2 z
    clear w1 w2
    refine V_iload X dX6_addEntry_12 4 rfl ?_
    refine V_bipush (y := 32) X dX6_addEntry_14 (by decide) ?_
    obtain ⟨w1, w2⟩ := w
    refine V_icmp_ge (tgt := 36) X dX6_addEntry_16 (by decide) (fun z => ?_) (fun z => ?_)
    · replace w := w1 z
      clear w1 w2
      exact V.sub [0, 1, 2, 3, 4] rfl (tX6_addEntry_b36 X  w)
    · replace w := w2 z
      clear w1 w2
      refine V_aloadr_n X dX6_addEntry_19 0 rfl ?_
      refine V_iload X dX6_addEntry_20 4 rfl ?_
      refine V_iload_n X dX6_addEntry_22 1 rfl ?_
      refine V_iload_n X dX6_addEntry_23 2 rfl ?_
      obtain ⟨fs, hh, w⟩ := w
      refine V_callVi (As := [.int v4, .int v1, .int v2]) (rest := []) (k1 := 0) (n1 := 0) X (cX6_isBefore_ok X.2.2.2.2.2.2.2.2.1 w) lkX6_31 hh (q9 := (RX6, TX6, 4)) rfl rfl dX6_addEntry_24 ⟨Nat.le_of_ble_eq_true rfl, Nat.le_of_ble_eq_true rfl⟩ rfl (Nat.le_of_ble_eq_true rfl) ⟨Nat.le_of_ble_eq_true rfl, Nat.le_of_ble_eq_true rfl⟩ (Nat.le_of_ble_eq_true rfl) (Nat.le_of_ble_eq_true rfl) (fun x3 h2 w9 => ?_)
      replace w := w9
      clear w9
      obtain ⟨w1, w2⟩ := w
      refine V_if_eq (tgt := 36) X dX6_addEntry_27 (by decide) (fun z => ?_) (fun z => ?_)
      · replace w := w1 z
        clear w1 w2
        exact V.sub [0, 1, 2, 3, 4] rfl (tX6_addEntry_b36 X  w)
      · replace w := w2 z
        clear w1 w2
        refine V_iinc (y := (v4 + 1)) X dX6_addEntry_30 4 rfl (by first | rfl | (congr 1)) (by decide) rfl ?_
        refine V_goto (tgt := 3) X dX6_addEntry_33 (by decide) ?_
        exact V.sub [1, 2, 3, 4, 0] rfl (H3 _ _ _ _ _ _ w)
def vX6_addEntry_b3 (t0 : Nat)  (Qn : gH → Prop) (n : Nat) : gH → Nat → Int32 → Int32 → Int32 → Int32 → Prop := Nat.rec (motive := fun _ => gH → Nat → Int32 → Int32 → Int32 → Int32 → Prop) (fun _ _ _ _ _ _ => False) (fun _ k3 => vX6_addEntry_b3_o t0 k3 Qn) n
theorem tX6_addEntry_b3 {p : Program} {l : Launch} {e : Env} {s : State} {m : MethodId} {args : Array Value} {below : List Frame} {meth : Method} {c : Code} {G : gG} {A : Nat → Prop} {Qn : gH → Prop} (X : gC p l s m args meth c G A cX6_addEntry 6 none RX6)   : ∀ (n : Nat) (h : gH) (v0 : Nat) (v1 : Int32) (v2 : Int32) (v3 : Int32) (v4 : Int32) (w : vX6_addEntry_b3 G.2.2.1  Qn n h v0 v1 v2 v3 v4), V p l e rmX6_addEntry s m args below meth c (MQ below (va_Qv Qn (gB G A) A) args s rmX6_addEntry.cells rmX6_addEntry.slots A) G A 6 h 0 0 3 [(0, .ref v0), (1, .int v1), (2, .int v2), (3, .int v3), (4, .int v4)] [] := by
  intro n
  induction n with
  | zero => intro h v0 v1 v2 v3 v4 w; exact False.elim w
  | succ n ih => intro h v0 v1 v2 v3 v4 w; exact tX6_addEntry_b3_o X ih w
def vX6_addEntry (t0 : Nat)  (Qn : gH → Prop) (h : gH) (v0 : Nat) (v1 : Int32) (v2 : Int32) (v3 : Int32) : Prop := ∃ n : Nat, vX6_addEntry_b3 t0  Qn n h v0 v1 v2 v3 0
set_option maxRecDepth 100000 in
set_option maxHeartbeats 4000000 in
theorem tX6_addEntry {p : Program} {l : Launch} {e : Env} {s : State} {m : MethodId} {args : Array Value} {below : List Frame} {meth : Method} {c : Code} {G : gG} {A : Nat → Prop} {Qn : gH → Prop} (X : gC p l s m args meth c G A cX6_addEntry 6 none RX6)   {h : gH} {v0 : Nat} {v1 : Int32} {v2 : Int32} {v3 : Int32} (w : vX6_addEntry G.2.2.1  Qn h v0 v1 v2 v3) : V p l e rmX6_addEntry s m args below meth c (MQ below (va_Qv Qn (gB G A) A) args s rmX6_addEntry.cells rmX6_addEntry.slots A) G A 6 h 0 0 0 [(0, .ref v0), (1, .int v1), (2, .int v2), (3, .int v3)] [] := by
  refine V_iconst (y := 0) X dX6_addEntry_0 (by decide) ?_
  refine V_istore X dX6_addEntry_1 (by decide) rfl ?_
  obtain ⟨n9, w⟩ := w
  exact V.sub [1, 2, 3, 4, 0] rfl (tX6_addEntry_b3 X  n9 _ _ _ _ _ _ w)
theorem cX6_addEntry_ok {l : Launch} {G : gG} {h : gH} (hls : l.stackTraces = false) {Qn : gH → Prop} {v0 : Nat} {v1 : Int32} {v2 : Int32} {v3 : Int32} (w : vX6_addEntry G.2.2.1 Qn h v0 v1 v2 v3) : gMv l yX6_addEntry cX6_addEntry 6 none rmX6_addEntry rmX6_addEntry.cells rmX6_addEntry.slots G h [.ref v0, .int v1, .int v2, .int v3] Qn := by
  exact gMv.of (by decide +kernel) hls (Nat.le_of_ble_eq_true rfl) rfl rfl (fun p e s m below meth c A X hnm => tX6_addEntry X w)
