/-! AnimationControllerModel.isState(I)Z -/
abbrev rmX12_isState : Room := { frames := 1, cells := 0, slots := 0, locals := 25 }
def vX12_isState  (Qn : Int32 → gH → Prop) (h : gH) (v0 : Nat) (v1 : Int32) : Prop := gi h v0 15 19 (fun x1 => vX12_in (fun x3 h2 => gZ x3 ∧ Qn x3 h2) h (Int32.toInt64 v1) 0 (Int32.toInt64 (x1 - 1)))
set_option maxRecDepth 100000 in
set_option maxHeartbeats 4000000 in
theorem tX12_isState {p : Program} {l : Launch} {e : Env} {s : State} {m : MethodId} {args : Array Value} {below : List Frame} {meth : Method} {c : Code} {G : gG} {A : Nat → Prop} {Qn : Int32 → gH → Prop} (X : gC p l s m args meth c G A cX12_isState 2 (some FieldType.boolean) RX12)   {h : gH} {v0 : Nat} {v1 : Int32} (w : vX12_isState  Qn h v0 v1) : V p l e rmX12_isState s m args below meth c (MQ below (va_Qi Qn (gB G A) A) args s rmX12_isState.cells rmX12_isState.slots A) G A 2 h 0 0 0 [(0, .ref v0), (1, .int v1)] [] := by
  refine V_iload_n X dX12_isState_0 1 rfl ?_
  refine V_i2l X dX12_isState_1 ?_
  refine V_lconst (y := 0) X dX12_isState_2 (by decide) ?_
  refine V_aloadr_n X dX12_isState_3 0 rfl ?_
  obtain ⟨fs, x1, hh, hv, w⟩ := w
  refine V_get X flX12_145 dX12_isState_4 hh hv ?_
  refine V_iconst (y := 1) X dX12_isState_7 (by decide) ?_
  refine V_isub X dX12_isState_8 ?_
  refine V_i2l X dX12_isState_9 ?_
  refine V_callSi (As := [.long (Int32.toInt64 v1), .long 0, .long (Int32.toInt64 (x1 - 1))]) (rest := []) (k1 := 0) (n1 := 0) X (cX12_in_ok X.2.2.2.2.2.2.2.2.1 w) lkX12_99 dX12_isState_10 ⟨Nat.le_of_ble_eq_true rfl, Nat.le_of_ble_eq_true rfl⟩ rfl (Nat.le_of_ble_eq_true rfl) ⟨Nat.le_of_ble_eq_true rfl, Nat.le_of_ble_eq_true rfl⟩ (Nat.le_of_ble_eq_true rfl) (Nat.le_of_ble_eq_true rfl) (fun x3 h2 w9 => ?_)
  replace w := w9
  clear w9
  obtain ⟨hz, w⟩ := w
  exact V_zret X rfl hz.1 dX12_isState_13 (Nat.le_of_ble_eq_true rfl) (Nat.le_of_ble_eq_true rfl) w
theorem cX12_isState_ok {l : Launch} {G : gG} {h : gH} (hls : l.stackTraces = false) {Qn : Int32 → gH → Prop} {v0 : Nat} {v1 : Int32} (w : vX12_isState Qn h v0 v1) : gMi l yX12_isState cX12_isState 2 (some FieldType.boolean) rmX12_isState rmX12_isState.cells rmX12_isState.slots G h [.ref v0, .int v1] Qn := by
  exact gMi.of (by decide +kernel) hls (Nat.le_of_ble_eq_true rfl) rfl rfl (fun p e s m below meth c A X hnm => tX12_isState X w)
/-! AnimationControllerModel.track(III)V -/
abbrev rmX12_track : Room := { frames := 0, cells := 0, slots := 0, locals := 0 }
def vX12_track  (Qn : gH → Prop) (h : gH) (v0 : Nat) (v1 : Int32) (v2 : Int32) (v3 : Int32) : Prop := gr h v0 15 0 (fun r1 => nn r1 (fun a2 => si h a2 (v1 + 0) v2 (fun h3 => gr h3 v0 15 0 (fun r4 => nn r4 (fun a5 => si h3 a5 (v1 + 1) 0 (fun h6 => gr h6 v0 15 0 (fun r7 => nn r7 (fun a8 => si h6 a8 (v1 + 2) v3 (fun h9 => gr h9 v0 15 0 (fun r10 => nn r10 (fun a11 => si h9 a11 (v1 + 3) 1 (fun h12 => Qn h12))))))))))))
set_option maxRecDepth 100000 in
set_option maxHeartbeats 4000000 in
theorem tX12_track {p : Program} {l : Launch} {e : Env} {s : State} {m : MethodId} {args : Array Value} {below : List Frame} {meth : Method} {c : Code} {G : gG} {A : Nat → Prop} {Qn : gH → Prop} (X : gC p l s m args meth c G A cX12_track 4 none RX12)   {h : gH} {v0 : Nat} {v1 : Int32} {v2 : Int32} {v3 : Int32} (w : vX12_track  Qn h v0 v1 v2 v3) : V p l e rmX12_track s m args below meth c (MQ below (va_Qv Qn (gB G A) A) args s rmX12_track.cells rmX12_track.slots A) G A 4 h 0 0 0 [(0, .ref v0), (1, .int v1), (2, .int v2), (3, .int v3)] [] := by
  refine V_aloadr_n X dX12_track_0 0 rfl ?_
  obtain ⟨fs, r1, hh, hv, w⟩ := w
  refine V_get X flX12_7 dX12_track_1 hh hv ?_
  refine V_iload_n X dX12_track_4 1 rfl ?_
  refine V_iconst (y := 0) X dX12_track_5 (by decide) ?_
  refine V_iadd X dX12_track_6 ?_
  refine V_iload_n X dX12_track_7 2 rfl ?_
  obtain ⟨a2, rfl, w⟩ := w
  obtain ⟨N9, g9, hh, hi, w⟩ := w
  refine V_iast X dX12_track_8 hh hi ?_
  generalize va_up _ _ _ = h3 at w ⊢
  refine V_aloadr_n X dX12_track_9 0 rfl ?_
  obtain ⟨fs, r4, hh, hv, w⟩ := w
  refine V_get X flX12_7 dX12_track_10 hh hv ?_
  refine V_iload_n X dX12_track_13 1 rfl ?_
  refine V_iconst (y := 1) X dX12_track_14 (by decide) ?_
  refine V_iadd X dX12_track_15 ?_
  refine V_iconst (y := 0) X dX12_track_16 (by decide) ?_
  obtain ⟨a5, rfl, w⟩ := w
  obtain ⟨N9, g9, hh, hi, w⟩ := w
  refine V_iast X dX12_track_17 hh hi ?_
  generalize va_up _ _ _ = h6 at w ⊢
  refine V_aloadr_n X dX12_track_18 0 rfl ?_
  obtain ⟨fs, r7, hh, hv, w⟩ := w
  refine V_get X flX12_7 dX12_track_19 hh hv ?_
  refine V_iload_n X dX12_track_22 1 rfl ?_
  refine V_iconst (y := 2) X dX12_track_23 (by decide) ?_
  refine V_iadd X dX12_track_24 ?_
  refine V_iload_n X dX12_track_25 3 rfl ?_
  obtain ⟨a8, rfl, w⟩ := w
  obtain ⟨N9, g9, hh, hi, w⟩ := w
  refine V_iast X dX12_track_26 hh hi ?_
  generalize va_up _ _ _ = h9 at w ⊢
  refine V_aloadr_n X dX12_track_27 0 rfl ?_
  obtain ⟨fs, r10, hh, hv, w⟩ := w
  refine V_get X flX12_7 dX12_track_28 hh hv ?_
  refine V_iload_n X dX12_track_31 1 rfl ?_
  refine V_iconst (y := 3) X dX12_track_32 (by decide) ?_
  refine V_iadd X dX12_track_33 ?_
  refine V_iconst (y := 1) X dX12_track_34 (by decide) ?_
  obtain ⟨a11, rfl, w⟩ := w
  obtain ⟨N9, g9, hh, hi, w⟩ := w
  refine V_iast X dX12_track_35 hh hi ?_
  generalize va_up _ _ _ = h12 at w ⊢
  exact V_vret X rfl dX12_track_36 (Nat.le_of_ble_eq_true rfl) (Nat.le_of_ble_eq_true rfl) w
theorem cX12_track_ok {l : Launch} {G : gG} {h : gH} (hls : l.stackTraces = false) {Qn : gH → Prop} {v0 : Nat} {v1 : Int32} {v2 : Int32} {v3 : Int32} (w : vX12_track Qn h v0 v1 v2 v3) : gMv l yX12_track cX12_track 4 none rmX12_track rmX12_track.cells rmX12_track.slots G h [.ref v0, .int v1, .int v2, .int v3] Qn := by
  exact gMv.of (by decide +kernel) hls (Nat.le_of_ble_eq_true rfl) rfl rfl (fun p e s m below meth c A X hnm => tX12_track X w)
/-! AnimationControllerModel.begins()V -/
abbrev rmX12_begins : Room := { frames := 1, cells := 0, slots := 0, locals := 23 }
def vX12_begins  (Qn : gH → Prop) (h : gH) (v0 : Nat) : Prop := gr h v0 15 0 (fun r1 => nn r1 (fun a2 => si h a2 8 0 (fun h3 => gr h3 v0 15 0 (fun r4 => nn r4 (fun a5 => si h3 a5 11 0 (fun h6 => gr h6 v0 15 0 (fun r7 => nn r7 (fun a8 => si h6 a8 20 0 (fun h9 => gr h9 v0 15 0 (fun r10 => nn r10 (fun a11 => si h9 a11 21 0 (fun h12 => io h12 v0 15 (vX12_track (fun h13 => Qn h13) h12 v0 12 0 0)))))))))))))
set_option maxRecDepth 100000 in
set_option maxHeartbeats 4000000 in
theorem tX12_begins {p : Program} {l : Launch} {e : Env} {s : State} {m : MethodId} {args : Array Value} {below : List Frame} {meth : Method} {c : Code} {G : gG} {A : Nat → Prop} {Qn : gH → Prop} (X : gC p l s m args meth c G A cX12_begins 1 none RX12)   {h : gH} {v0 : Nat} (w : vX12_begins  Qn h v0) : V p l e rmX12_begins s m args below meth c (MQ below (va_Qv Qn (gB G A) A) args s rmX12_begins.cells rmX12_begins.slots A) G A 1 h 0 0 0 [(0, .ref v0)] [] := by
  refine V_aloadr_n X dX12_begins_0 0 rfl ?_
  obtain ⟨fs, r1, hh, hv, w⟩ := w
  refine V_get X flX12_7 dX12_begins_1 hh hv ?_
  refine V_bipush (y := 8) X dX12_begins_4 (by decide) ?_
  refine V_iconst (y := 0) X dX12_begins_6 (by decide) ?_
  obtain ⟨a2, rfl, w⟩ := w
  obtain ⟨N9, g9, hh, hi, w⟩ := w
  refine V_iast X dX12_begins_7 hh hi ?_
  generalize va_up _ _ _ = h3 at w ⊢
  refine V_aloadr_n X dX12_begins_8 0 rfl ?_
  obtain ⟨fs, r4, hh, hv, w⟩ := w
  refine V_get X flX12_7 dX12_begins_9 hh hv ?_
  refine V_bipush (y := 11) X dX12_begins_12 (by decide) ?_
  refine V_iconst (y := 0) X dX12_begins_14 (by decide) ?_
  obtain ⟨a5, rfl, w⟩ := w
  obtain ⟨N9, g9, hh, hi, w⟩ := w
  refine V_iast X dX12_begins_15 hh hi ?_
  generalize va_up _ _ _ = h6 at w ⊢
  refine V_aloadr_n X dX12_begins_16 0 rfl ?_
  obtain ⟨fs, r7, hh, hv, w⟩ := w
  refine V_get X flX12_7 dX12_begins_17 hh hv ?_
  refine V_bipush (y := 20) X dX12_begins_20 (by decide) ?_
  refine V_iconst (y := 0) X dX12_begins_22 (by decide) ?_
  obtain ⟨a8, rfl, w⟩ := w
  obtain ⟨N9, g9, hh, hi, w⟩ := w
  refine V_iast X dX12_begins_23 hh hi ?_
  generalize va_up _ _ _ = h9 at w ⊢
  refine V_aloadr_n X dX12_begins_24 0 rfl ?_
  obtain ⟨fs, r10, hh, hv, w⟩ := w
  refine V_get X flX12_7 dX12_begins_25 hh hv ?_
  refine V_bipush (y := 21) X dX12_begins_28 (by decide) ?_
  refine V_iconst (y := 0) X dX12_begins_30 (by decide) ?_
  obtain ⟨a11, rfl, w⟩ := w
  obtain ⟨N9, g9, hh, hi, w⟩ := w
  refine V_iast X dX12_begins_31 hh hi ?_
  generalize va_up _ _ _ = h12 at w ⊢
  refine V_aloadr_n X dX12_begins_32 0 rfl ?_
  refine V_bipush (y := 12) X dX12_begins_33 (by decide) ?_
  refine V_iconst (y := 0) X dX12_begins_35 (by decide) ?_
  refine V_iconst (y := 0) X dX12_begins_36 (by decide) ?_
  obtain ⟨fs, hh, w⟩ := w
  refine V_callVv (As := [.int 12, .int 0, .int 0]) (rest := []) (k1 := 0) (n1 := 0) X (cX12_track_ok X.2.2.2.2.2.2.2.2.1 w) lkX12_155 hh (q9 := (RX12, TX12, 42)) rfl rfl dX12_begins_37 ⟨Nat.le_of_ble_eq_true rfl, Nat.le_of_ble_eq_true rfl⟩ rfl (Nat.le_of_ble_eq_true rfl) ⟨Nat.le_of_ble_eq_true rfl, Nat.le_of_ble_eq_true rfl⟩ (Nat.le_of_ble_eq_true rfl) (Nat.le_of_ble_eq_true rfl) (fun h13 w9 => ?_)
  replace w := w9
  clear w9
  exact V_vret X rfl dX12_begins_40 (Nat.le_of_ble_eq_true rfl) (Nat.le_of_ble_eq_true rfl) w
theorem cX12_begins_ok {l : Launch} {G : gG} {h : gH} (hls : l.stackTraces = false) {Qn : gH → Prop} {v0 : Nat} (w : vX12_begins Qn h v0) : gMv l yX12_begins cX12_begins 1 none rmX12_begins rmX12_begins.cells rmX12_begins.slots G h [.ref v0] Qn := by
  exact gMv.of (by decide +kernel) hls (Nat.le_of_ble_eq_true rfl) rfl rfl (fun p e s m below meth c A X hnm => tX12_begins X w)
/-! AnimationControllerModel.addState(IIZI)I -/
abbrev rmX12_addState : Room := { frames := 2, cells := 0, slots := 0, locals := 46 }
def vX12_addState_b44  (Qn : Int32 → gH → Prop) (h : gH) (v0 : Nat) : Prop := io h v0 15 (vX12_fails (fun x2 h1 => Qn x2 h1) h v0 2)
set_option maxRecDepth 100000 in
set_option maxHeartbeats 4000000 in
theorem tX12_addState_b44 {p : Program} {l : Launch} {e : Env} {s : State} {m : MethodId} {args : Array Value} {below : List Frame} {meth : Method} {c : Code} {G : gG} {A : Nat → Prop} {Qn : Int32 → gH → Prop} (X : gC p l s m args meth c G A cX12_addState 5 (some FieldType.int) RX12)   {h : gH} {v0 : Nat} (w : vX12_addState_b44  Qn h v0) : V p l e rmX12_addState s m args below meth c (MQ below (va_Qi Qn (gB G A) A) args s rmX12_addState.cells rmX12_addState.slots A) G A 5 h 0 0 44 [(0, .ref v0)] [] := by
  refine V_aloadr_n X dX12_addState_44 0 rfl ?_
  refine V_iconst (y := 2) X dX12_addState_45 (by decide) ?_
  obtain ⟨fs, hh, w⟩ := w
  refine V_callVi (As := [.int 2]) (rest := []) (k1 := 0) (n1 := 0) X (cX12_fails_ok X.2.2.2.2.2.2.2.2.1 w) lkX12_103 hh (q9 := (RX12, TX12, 42)) rfl rfl dX12_addState_46 ⟨Nat.le_of_ble_eq_true rfl, Nat.le_of_ble_eq_true rfl⟩ rfl (Nat.le_of_ble_eq_true rfl) ⟨Nat.le_of_ble_eq_true rfl, Nat.le_of_ble_eq_true rfl⟩ (Nat.le_of_ble_eq_true rfl) (Nat.le_of_ble_eq_true rfl) (fun x2 h1 w9 => ?_)
  replace w := w9
  clear w9
  exact V_iret X rfl dX12_addState_49 (Nat.le_of_ble_eq_true rfl) (Nat.le_of_ble_eq_true rfl) w
def vX12_addState_b67  (Qn : Int32 → gH → Prop) (h : gH) (v0 : Nat) : Prop := io h v0 15 (vX12_fails (fun x2 h1 => Qn x2 h1) h v0 3)
set_option maxRecDepth 100000 in
set_option maxHeartbeats 4000000 in
theorem tX12_addState_b67 {p : Program} {l : Launch} {e : Env} {s : State} {m : MethodId} {args : Array Value} {below : List Frame} {meth : Method} {c : Code} {G : gG} {A : Nat → Prop} {Qn : Int32 → gH → Prop} (X : gC p l s m args meth c G A cX12_addState 5 (some FieldType.int) RX12)   {h : gH} {v0 : Nat} (w : vX12_addState_b67  Qn h v0) : V p l e rmX12_addState s m args below meth c (MQ below (va_Qi Qn (gB G A) A) args s rmX12_addState.cells rmX12_addState.slots A) G A 5 h 0 0 67 [(0, .ref v0)] [] := by
  refine V_aloadr_n X dX12_addState_67 0 rfl ?_
  refine V_iconst (y := 3) X dX12_addState_68 (by decide) ?_
  obtain ⟨fs, hh, w⟩ := w
  refine V_callVi (As := [.int 3]) (rest := []) (k1 := 0) (n1 := 0) X (cX12_fails_ok X.2.2.2.2.2.2.2.2.1 w) lkX12_103 hh (q9 := (RX12, TX12, 42)) rfl rfl dX12_addState_69 ⟨Nat.le_of_ble_eq_true rfl, Nat.le_of_ble_eq_true rfl⟩ rfl (Nat.le_of_ble_eq_true rfl) ⟨Nat.le_of_ble_eq_true rfl, Nat.le_of_ble_eq_true rfl⟩ (Nat.le_of_ble_eq_true rfl) (Nat.le_of_ble_eq_true rfl) (fun x2 h1 w9 => ?_)
  replace w := w9
  clear w9
  exact V_iret X rfl dX12_addState_72 (Nat.le_of_ble_eq_true rfl) (Nat.le_of_ble_eq_true rfl) w
def vX12_addState_b136  (Qn : Int32 → gH → Prop) (h : gH) (v0 : Nat) : Prop := gi h v0 15 19 (fun x1 => Qn (x1 - 1) h)
set_option maxRecDepth 100000 in
set_option maxHeartbeats 4000000 in
theorem tX12_addState_b136 {p : Program} {l : Launch} {e : Env} {s : State} {m : MethodId} {args : Array Value} {below : List Frame} {meth : Method} {c : Code} {G : gG} {A : Nat → Prop} {Qn : Int32 → gH → Prop} (X : gC p l s m args meth c G A cX12_addState 5 (some FieldType.int) RX12)   {h : gH} {v0 : Nat} (w : vX12_addState_b136  Qn h v0) : V p l e rmX12_addState s m args below meth c (MQ below (va_Qi Qn (gB G A) A) args s rmX12_addState.cells rmX12_addState.slots A) G A 5 h 0 0 136 [(0, .ref v0)] [] := by
  refine V_aloadr_n X dX12_addState_136 0 rfl ?_
  obtain ⟨fs, x1, hh, hv, w⟩ := w
  refine V_get X flX12_145 dX12_addState_137 hh hv ?_
  refine V_iconst (y := 1) X dX12_addState_140 (by decide) ?_
  refine V_isub X dX12_addState_141 ?_
  exact V_iret X rfl dX12_addState_142 (Nat.le_of_ble_eq_true rfl) (Nat.le_of_ble_eq_true rfl) w
def vX12_addState  (Qn : Int32 → gH → Prop) (h : gH) (v0 : Nat) (v1 : Int32) (v2 : Int32) (v3 : Int32) (v4 : Int32) : Prop := pv h v0 15 25 (.int 0) (fun h1 => io h1 v0 15 (vX12_isNode (fun x3 h2 => ((¬ (x3 : Int32) = 0) → (vX12_in (fun x5 h4 => (((x5 : Int32) = 0) → (vX12_addState_b44  Qn h4 v0)) ∧ ((¬ (x5 : Int32) = 0) → (vX12_in (fun x7 h6 => ((¬ (x7 : Int32) = 0) → (io h6 v0 15 (vX12_isComplete (fun x9 h8 => (((x9 : Int32) = 0) → (vX12_addState_b67  Qn h8 v0)) ∧ ((¬ (x9 : Int32) = 0) → (gi h8 v0 15 19 (fun x10 => ((¬ (x10 : Int32) = 10) → (gr h8 v0 15 15 (fun r11 => gi h8 v0 15 19 (fun x12 => nn r11 (fun a13 => si h8 a13 x12 v1 (fun h14 => gr h14 v0 15 16 (fun r15 => gi h14 v0 15 19 (fun x16 => nn r15 (fun a17 => si h14 a17 x16 v2 (fun h18 => gr h18 v0 15 17 (fun r19 => gi h18 v0 15 19 (fun x20 => nn r19 (fun a21 => sz h18 a21 x20 v3 (fun h22 => gr h22 v0 15 18 (fun r23 => gi h22 v0 15 19 (fun x24 => nn r23 (fun a25 => si h22 a25 x24 v4 (fun h26 => gi h26 v0 15 19 (fun x27 => pv h26 v0 15 19 (.int (x27 + 1)) (fun h28 => gi h28 v0 15 19 (fun x29 => ((¬ (x29 : Int32) = 1) → (vX12_addState_b136  Qn h28 v0)) ∧ (((x29 : Int32) = 1) → (io h28 v0 15 (vX12_begins (fun h30 => vX12_addState_b136  Qn h30 v0) h28 v0 )))))))))))))))))))))))) ∧ (((x10 : Int32) = 10) → (vX12_addState_b67  Qn h8 v0)))))) h6 v0 v1))) ∧ (((x7 : Int32) = 0) → (vX12_addState_b44  Qn h6 v0))) h4 (Int32.toInt64 v4) 0 3))) h2 (Int32.toInt64 v2) 1 400)) ∧ (((x3 : Int32) = 0) → (io h2 v0 15 (vX12_fails (fun x32 h31 => Qn x32 h31) h2 v0 1)))) h1 v0 v1))
set_option maxRecDepth 100000 in
set_option maxHeartbeats 4000000 in
theorem tX12_addState {p : Program} {l : Launch} {e : Env} {s : State} {m : MethodId} {args : Array Value} {below : List Frame} {meth : Method} {c : Code} {G : gG} {A : Nat → Prop} {Qn : Int32 → gH → Prop} (X : gC p l s m args meth c G A cX12_addState 5 (some FieldType.int) RX12)   {h : gH} {v0 : Nat} {v1 : Int32} {v2 : Int32} {v3 : Int32} {v4 : Int32} (w : vX12_addState  Qn h v0 v1 v2 v3 v4) : V p l e rmX12_addState s m args below meth c (MQ below (va_Qi Qn (gB G A) A) args s rmX12_addState.cells rmX12_addState.slots A) G A 5 h 0 0 0 [(0, .ref v0), (1, .int v1), (2, .int v2), (3, .int v3), (4, .int v4)] [] := by
  refine V_aloadr_n X dX12_addState_0 0 rfl ?_
  refine V_iconst (y := 0) X dX12_addState_1 (by decide) ?_
  obtain ⟨fs, hh, hv, w⟩ := w
  refine V_put X flX12_94 dX12_addState_2 hh hv rfl rfl ?_
  generalize va_up _ _ _ = h1 at w ⊢
  refine V_aloadr_n X dX12_addState_5 0 rfl ?_
  refine V_iload_n X dX12_addState_6 1 rfl ?_
  obtain ⟨fs, hh, w⟩ := w
  refine V_callVi (As := [.int v1]) (rest := []) (k1 := 0) (n1 := 0) X (cX12_isNode_ok X.2.2.2.2.2.2.2.2.1 w) lkX12_131 hh (q9 := (RX12, TX12, 42)) rfl rfl dX12_addState_7 ⟨Nat.le_of_ble_eq_true rfl, Nat.le_of_ble_eq_true rfl⟩ rfl (Nat.le_of_ble_eq_true rfl) ⟨Nat.le_of_ble_eq_true rfl, Nat.le_of_ble_eq_true rfl⟩ (Nat.le_of_ble_eq_true rfl) (Nat.le_of_ble_eq_true rfl) (fun x3 h2 w9 => ?_)
  replace w := w9
  clear w9
  obtain ⟨w1, w2⟩ := w
  refine V_if_ne (tgt := 19) X dX12_addState_10 (by decide) (fun z => ?_) (fun z => ?_)
  · replace w := w1 z
    clear w1 w2
    refine V_iload_n X dX12_addState_19 2 rfl ?_
    refine V_i2l X dX12_addState_20 ?_
    refine V_lconst (y := 1) X dX12_addState_21 (by decide) ?_
    refine V_ldc2 (y := 400) X dX12_addState_22 kw_1809 ?_
    refine V_callSi (As := [.long (Int32.toInt64 v2), .long 1, .long 400]) (rest := []) (k1 := 0) (n1 := 0) X (cX12_in_ok X.2.2.2.2.2.2.2.2.1 w) lkX12_99 dX12_addState_25 ⟨Nat.le_of_ble_eq_true rfl, Nat.le_of_ble_eq_true rfl⟩ rfl (Nat.le_of_ble_eq_true rfl) ⟨Nat.le_of_ble_eq_true rfl, Nat.le_of_ble_eq_true rfl⟩ (Nat.le_of_ble_eq_true rfl) (Nat.le_of_ble_eq_true rfl) (fun x5 h4 w9 => ?_)
    replace w := w9
    clear w9
    obtain ⟨w1, w2⟩ := w
    refine V_if_eq (tgt := 44) X dX12_addState_28 (by decide) (fun z => ?_) (fun z => ?_)
    · replace w := w1 z
      clear w1 w2
      exact V.sub [0] rfl (tX12_addState_b44 X  w)
    · replace w := w2 z
      clear w1 w2
      refine V_iload X dX12_addState_31 4 rfl ?_
      refine V_i2l X dX12_addState_33 ?_
      refine V_lconst (y := 0) X dX12_addState_34 (by decide) ?_
      refine V_ldc2 (y := 3) X dX12_addState_35 kw_1810 ?_
      refine V_callSi (As := [.long (Int32.toInt64 v4), .long 0, .long 3]) (rest := []) (k1 := 0) (n1 := 0) X (cX12_in_ok X.2.2.2.2.2.2.2.2.1 w) lkX12_99 dX12_addState_38 ⟨Nat.le_of_ble_eq_true rfl, Nat.le_of_ble_eq_true rfl⟩ rfl (Nat.le_of_ble_eq_true rfl) ⟨Nat.le_of_ble_eq_true rfl, Nat.le_of_ble_eq_true rfl⟩ (Nat.le_of_ble_eq_true rfl) (Nat.le_of_ble_eq_true rfl) (fun x7 h6 w9 => ?_)
      replace w := w9
      clear w9
      obtain ⟨w1, w2⟩ := w
      refine V_if_ne (tgt := 50) X dX12_addState_41 (by decide) (fun z => ?_) (fun z => ?_)
      · replace w := w1 z
        clear w1 w2
        refine V_aloadr_n X dX12_addState_50 0 rfl ?_
        refine V_iload_n X dX12_addState_51 1 rfl ?_
        obtain ⟨fs, hh, w⟩ := w
        refine V_callVi (As := [.int v1]) (rest := []) (k1 := 0) (n1 := 0) X (cX12_isComplete_ok X.2.2.2.2.2.2.2.2.1 w) lkX12_134 hh (q9 := (RX12, TX12, 42)) rfl rfl dX12_addState_52 ⟨Nat.le_of_ble_eq_true rfl, Nat.le_of_ble_eq_true rfl⟩ rfl (Nat.le_of_ble_eq_true rfl) ⟨Nat.le_of_ble_eq_true rfl, Nat.le_of_ble_eq_true rfl⟩ (Nat.le_of_ble_eq_true rfl) (Nat.le_of_ble_eq_true rfl) (fun x9 h8 w9 => ?_)
        replace w := w9
        clear w9
        obtain ⟨w1, w2⟩ := w
        refine V_if_eq (tgt := 67) X dX12_addState_55 (by decide) (fun z => ?_) (fun z => ?_)
        · replace w := w1 z
          clear w1 w2
          exact V.sub [0] rfl (tX12_addState_b67 X  w)
        · replace w := w2 z
          clear w1 w2
          refine V_aloadr_n X dX12_addState_58 0 rfl ?_
          obtain ⟨fs, x10, hh, hv, w⟩ := w
          refine V_get X flX12_145 dX12_addState_59 hh hv ?_
          refine V_bipush (y := 10) X dX12_addState_62 (by decide) ?_
          obtain ⟨w1, w2⟩ := w
          refine V_icmp_ne (tgt := 73) X dX12_addState_64 (by decide) (fun z => ?_) (fun z => ?_)
          · replace w := w1 z
            clear w1 w2
            refine V_aloadr_n X dX12_addState_73 0 rfl ?_
            obtain ⟨fs, r11, hh, hv, w⟩ := w
            refine V_get X flX12_47 dX12_addState_74 hh hv ?_
            refine V_aloadr_n X dX12_addState_77 0 rfl ?_
            obtain ⟨fs, x12, hh, hv, w⟩ := w
            refine V_get X flX12_145 dX12_addState_78 hh hv ?_
            refine V_iload_n X dX12_addState_81 1 rfl ?_
            obtain ⟨a13, rfl, w⟩ := w
            obtain ⟨N9, g9, hh, hi, w⟩ := w
            refine V_iast X dX12_addState_82 hh hi ?_
            generalize va_up _ _ _ = h14 at w ⊢
            refine V_aloadr_n X dX12_addState_83 0 rfl ?_
            obtain ⟨fs, r15, hh, hv, w⟩ := w
            refine V_get X flX12_50 dX12_addState_84 hh hv ?_
            refine V_aloadr_n X dX12_addState_87 0 rfl ?_
            obtain ⟨fs, x16, hh, hv, w⟩ := w
            refine V_get X flX12_145 dX12_addState_88 hh hv ?_
            refine V_iload_n X dX12_addState_91 2 rfl ?_
            obtain ⟨a17, rfl, w⟩ := w
            obtain ⟨N9, g9, hh, hi, w⟩ := w
            refine V_iast X dX12_addState_92 hh hi ?_
            generalize va_up _ _ _ = h18 at w ⊢
            refine V_aloadr_n X dX12_addState_93 0 rfl ?_
            obtain ⟨fs, r19, hh, hv, w⟩ := w
            refine V_get X flX12_53 dX12_addState_94 hh hv ?_
            refine V_aloadr_n X dX12_addState_97 0 rfl ?_
            obtain ⟨fs, x20, hh, hv, w⟩ := w
            refine V_get X flX12_145 dX12_addState_98 hh hv ?_
            refine V_iload_n X dX12_addState_101 3 rfl ?_
            obtain ⟨a21, rfl, w⟩ := w
            obtain ⟨N9, g9, hh, hi, w⟩ := w
            refine V_zast X dX12_addState_102 hh hi ?_
            generalize va_up _ _ _ = h22 at w ⊢
            refine V_aloadr_n X dX12_addState_103 0 rfl ?_
            obtain ⟨fs, r23, hh, hv, w⟩ := w
            refine V_get X flX12_56 dX12_addState_104 hh hv ?_
            refine V_aloadr_n X dX12_addState_107 0 rfl ?_
            obtain ⟨fs, x24, hh, hv, w⟩ := w
            refine V_get X flX12_145 dX12_addState_108 hh hv ?_
            refine V_iload X dX12_addState_111 4 rfl ?_
            obtain ⟨a25, rfl, w⟩ := w
            obtain ⟨N9, g9, hh, hi, w⟩ := w
            refine V_iast X dX12_addState_113 hh hi ?_
            generalize va_up _ _ _ = h26 at w ⊢
            refine V_aloadr_n X dX12_addState_114 0 rfl ?_
            refine V_dup X dX12_addState_115 rfl ?_
            obtain ⟨fs, x27, hh, hv, w⟩ := w
            refine V_get X flX12_145 dX12_addState_116 hh hv ?_
            refine V_iconst (y := 1) X dX12_addState_119 (by decide) ?_
            refine V_iadd X dX12_addState_120 ?_
            obtain ⟨fs, hh, hv, w⟩ := w
            refine V_put X flX12_145 dX12_addState_121 hh hv rfl rfl ?_
            generalize va_up _ _ _ = h28 at w ⊢
            refine V_aloadr_n X dX12_addState_124 0 rfl ?_
            obtain ⟨fs, x29, hh, hv, w⟩ := w
            refine V_get X flX12_145 dX12_addState_125 hh hv ?_
            refine V_iconst (y := 1) X dX12_addState_128 (by decide) ?_
            obtain ⟨w1, w2⟩ := w
            refine V_icmp_ne (tgt := 136) X dX12_addState_129 (by decide) (fun z => ?_) (fun z => ?_)
            · replace w := w1 z
              clear w1 w2
              exact V.sub [0] rfl (tX12_addState_b136 X  w)
            · replace w := w2 z
              clear w1 w2
              refine V_aloadr_n X dX12_addState_132 0 rfl ?_
              obtain ⟨fs, hh, w⟩ := w
              refine V_callVv (As := []) (rest := []) (k1 := 0) (n1 := 0) X (cX12_begins_ok X.2.2.2.2.2.2.2.2.1 w) lkX12_152 hh (q9 := (RX12, TX12, 42)) rfl rfl dX12_addState_133 ⟨Nat.le_of_ble_eq_true rfl, Nat.le_of_ble_eq_true rfl⟩ rfl (Nat.le_of_ble_eq_true rfl) ⟨Nat.le_of_ble_eq_true rfl, Nat.le_of_ble_eq_true rfl⟩ (Nat.le_of_ble_eq_true rfl) (Nat.le_of_ble_eq_true rfl) (fun h30 w9 => ?_)
              replace w := w9
              clear w9
              exact V.sub [0] rfl (tX12_addState_b136 X  w)
          · replace w := w2 z
            clear w1 w2
            exact V.sub [0] rfl (tX12_addState_b67 X  w)
      · replace w := w2 z
        clear w1 w2
        exact V.sub [0] rfl (tX12_addState_b44 X  w)
  · replace w := w2 z
    clear w1 w2
    refine V_aloadr_n X dX12_addState_13 0 rfl ?_
    refine V_iconst (y := 1) X dX12_addState_14 (by decide) ?_
    obtain ⟨fs, hh, w⟩ := w
    refine V_callVi (As := [.int 1]) (rest := []) (k1 := 0) (n1 := 0) X (cX12_fails_ok X.2.2.2.2.2.2.2.2.1 w) lkX12_103 hh (q9 := (RX12, TX12, 42)) rfl rfl dX12_addState_15 ⟨Nat.le_of_ble_eq_true rfl, Nat.le_of_ble_eq_true rfl⟩ rfl (Nat.le_of_ble_eq_true rfl) ⟨Nat.le_of_ble_eq_true rfl, Nat.le_of_ble_eq_true rfl⟩ (Nat.le_of_ble_eq_true rfl) (Nat.le_of_ble_eq_true rfl) (fun x32 h31 w9 => ?_)
    replace w := w9
    clear w9
    exact V_iret X rfl dX12_addState_18 (Nat.le_of_ble_eq_true rfl) (Nat.le_of_ble_eq_true rfl) w
theorem cX12_addState_ok {l : Launch} {G : gG} {h : gH} (hls : l.stackTraces = false) {Qn : Int32 → gH → Prop} {v0 : Nat} {v1 : Int32} {v2 : Int32} {v3 : Int32} {v4 : Int32} (w : vX12_addState Qn h v0 v1 v2 v3 v4) : gMi l yX12_addState cX12_addState 5 (some FieldType.int) rmX12_addState rmX12_addState.cells rmX12_addState.slots G h [.ref v0, .int v1, .int v2, .int v3, .int v4] Qn := by
  exact gMi.of (by decide +kernel) hls (Nat.le_of_ble_eq_true rfl) rfl rfl (fun p e s m below meth c A X hnm => tX12_addState X w)
/-! AnimationControllerModel.of(II)I -/
abbrev rmX12_of : Room := { frames := 0, cells := 0, slots := 0, locals := 0 }
def vX12_of  (Qn : Int32 → gH → Prop) (h : gH) (v0 : Nat) (v1 : Int32) (v2 : Int32) : Prop := gr h v0 15 20 (fun r1 => nn r1 (fun a2 => li h a2 ((17 * v1) + v2) (fun x3 => Qn x3 h)))
set_option maxRecDepth 100000 in
set_option maxHeartbeats 4000000 in
theorem tX12_of {p : Program} {l : Launch} {e : Env} {s : State} {m : MethodId} {args : Array Value} {below : List Frame} {meth : Method} {c : Code} {G : gG} {A : Nat → Prop} {Qn : Int32 → gH → Prop} (X : gC p l s m args meth c G A cX12_of 3 (some FieldType.int) RX12)   {h : gH} {v0 : Nat} {v1 : Int32} {v2 : Int32} (w : vX12_of  Qn h v0 v1 v2) : V p l e rmX12_of s m args below meth c (MQ below (va_Qi Qn (gB G A) A) args s rmX12_of.cells rmX12_of.slots A) G A 3 h 0 0 0 [(0, .ref v0), (1, .int v1), (2, .int v2)] [] := by
  refine V_aloadr_n X dX12_of_0 0 rfl ?_
  obtain ⟨fs, r1, hh, hv, w⟩ := w
  refine V_get X flX12_59 dX12_of_1 hh hv ?_
  refine V_bipush (y := 17) X dX12_of_4 (by decide) ?_
  refine V_iload_n X dX12_of_6 1 rfl ?_
  refine V_imul X dX12_of_7 ?_
  refine V_iload_n X dX12_of_8 2 rfl ?_
  refine V_iadd X dX12_of_9 ?_
  obtain ⟨a2, rfl, w⟩ := w
  obtain ⟨N9, g9, hh, hi, w⟩ := w
  refine V_iald X dX12_of_10 hh hi ?_
  generalize g9 _ = x3 at w ⊢
  exact V_iret X rfl dX12_of_11 (Nat.le_of_ble_eq_true rfl) (Nat.le_of_ble_eq_true rfl) w
theorem cX12_of_ok {l : Launch} {G : gG} {h : gH} (hls : l.stackTraces = false) {Qn : Int32 → gH → Prop} {v0 : Nat} {v1 : Int32} {v2 : Int32} (w : vX12_of Qn h v0 v1 v2) : gMi l yX12_of cX12_of 3 (some FieldType.int) rmX12_of rmX12_of.cells rmX12_of.slots G h [.ref v0, .int v1, .int v2] Qn := by
  exact gMi.of (by decide +kernel) hls (Nat.le_of_ble_eq_true rfl) rfl rfl (fun p e s m below meth c A X hnm => tX12_of X w)
/-! AnimationControllerModel.newTransition(III)V -/
abbrev rmX12_newTransition : Room := { frames := 0, cells := 0, slots := 0, locals := 0 }
def vX12_newTransition_b12_o (k12 : gH → Nat → Int32 → Int32 → Int32 → Int32 → Int32 → Prop) (Qn : gH → Prop) (h : gH) (v0 : Nat) (v1 : Int32) (v2 : Int32) (v3 : Int32) (v4 : Int32) (v5 : Int32) : Prop := ((17 ≤ (v5 : Int32)) → (gr h v0 15 20 (fun r1 => nn r1 (fun a2 => si h a2 (v4 + 0) v1 (fun h3 => gr h3 v0 15 20 (fun r4 => nn r4 (fun a5 => si h3 a5 (v4 + 1) v2 (fun h6 => gr h6 v0 15 20 (fun r7 => nn r7 (fun a8 => si h6 a8 (v4 + 2) v3 (fun h9 => gr h9 v0 15 20 (fun r10 => nn r10 (fun a11 => si h9 a11 (v4 + 3) (-1) (fun h12 => gi h12 v0 15 21 (fun x13 => pv h12 v0 15 21 (.int (x13 + 1)) (fun h14 => Qn h14)))))))))))))))) ∧ ((¬ 17 ≤ (v5 : Int32)) → (gr h v0 15 20 (fun r15 => nn r15 (fun a16 => si h a16 (v4 + v5) 0 (fun h17 => k12 h17 v0 v1 v2 v3 v4 (v5 + 1))))))
set_option maxRecDepth 100000 in
set_option maxHeartbeats 4000000 in
theorem tX12_newTransition_b12_o {p : Program} {l : Launch} {e : Env} {s : State} {m : MethodId} {args : Array Value} {below : List Frame} {meth : Method} {c : Code} {G : gG} {A : Nat → Prop} {Qn : gH → Prop} (X : gC p l s m args meth c G A cX12_newTransition 6 none RX12) {k12 : gH → Nat → Int32 → Int32 → Int32 → Int32 → Int32 → Prop} (H12 : ∀ (h : gH) (v0 : Nat) (v1 : Int32) (v2 : Int32) (v3 : Int32) (v4 : Int32) (v5 : Int32), k12 h v0 v1 v2 v3 v4 v5 → V p l e rmX12_newTransition s m args below meth c (MQ below (va_Qv Qn (gB G A) A) args s rmX12_newTransition.cells rmX12_newTransition.slots A) G A 6 h 0 0 12 [(0, .ref v0), (1, .int v1), (2, .int v2), (3, .int v3), (4, .int v4), (5, .int v5)] []) {h : gH} {v0 : Nat} {v1 : Int32} {v2 : Int32} {v3 : Int32} {v4 : Int32} {v5 : Int32} (w : vX12_newTransition_b12_o k12 Qn h v0 v1 v2 v3 v4 v5) : V p l e rmX12_newTransition s m args below meth c (MQ below (va_Qv Qn (gB G A) A) args s rmX12_newTransition.cells rmX12_newTransition.slots A) G A 6 h 0 0 12 [(0, .ref v0), (1, .int v1), (2, .int v2), (3, .int v3), (4, .int v4), (5, .int v5)] [] := by
  refine V_iload X dX12_newTransition_12 5 rfl ?_
  refine V_bipush (y := 17) X dX12_newTransition_14 (by decide) ?_
  obtain ⟨w1, w2⟩ := w
  refine V_icmp_ge (tgt := 36) X dX12_newTransition_16 (by decide) (fun z => ?_) (fun z => ?_)
  · replace w := w1 z
    clear w1 w2
    refine V_aloadr_n X dX12_newTransition_36 0 rfl ?_
    obtain ⟨fs, r1, hh, hv, w⟩ := w
    refine V_get X flX12_59 dX12_newTransition_37 hh hv ?_
    refine V_iload X dX12_newTransition_40 4 rfl ?_
    refine V_iconst (y := 0) X dX12_newTransition_42 (by decide) ?_
    refine V_iadd X dX12_newTransition_43 ?_
    refine V_iload_n X dX12_newTransition_44 1 rfl ?_
    obtain ⟨a2, rfl, w⟩ := w
    obtain ⟨N9, g9, hh, hi, w⟩ := w
    refine V_iast X dX12_newTransition_45 hh hi ?_
    generalize va_up _ _ _ = h3 at w ⊢
    refine V_aloadr_n X dX12_newTransition_46 0 rfl ?_
    obtain ⟨fs, r4, hh, hv, w⟩ := w
    refine V_get X flX12_59 dX12_newTransition_47 hh hv ?_
    refine V_iload X dX12_newTransition_50 4 rfl ?_
    refine V_iconst (y := 1) X dX12_newTransition_52 (by decide) ?_
    refine V_iadd X dX12_newTransition_53 ?_
    refine V_iload_n X dX12_newTransition_54 2 rfl ?_
    obtain ⟨a5, rfl, w⟩ := w
    obtain ⟨N9, g9, hh, hi, w⟩ := w
    refine V_iast X dX12_newTransition_55 hh hi ?_
    generalize va_up _ _ _ = h6 at w ⊢
    refine V_aloadr_n X dX12_newTransition_56 0 rfl ?_
    obtain ⟨fs, r7, hh, hv, w⟩ := w
    refine V_get X flX12_59 dX12_newTransition_57 hh hv ?_
    refine V_iload X dX12_newTransition_60 4 rfl ?_
    refine V_iconst (y := 2) X dX12_newTransition_62 (by decide) ?_
    refine V_iadd X dX12_newTransition_63 ?_
    refine V_iload_n X dX12_newTransition_64 3 rfl ?_
    obtain ⟨a8, rfl, w⟩ := w
    obtain ⟨N9, g9, hh, hi, w⟩ := w
    refine V_iast X dX12_newTransition_65 hh hi ?_
    generalize va_up _ _ _ = h9 at w ⊢
    refine V_aloadr_n X dX12_newTransition_66 0 rfl ?_
    obtain ⟨fs, r10, hh, hv, w⟩ := w
    refine V_get X flX12_59 dX12_newTransition_67 hh hv ?_
    refine V_iload X dX12_newTransition_70 4 rfl ?_
    refine V_iconst (y := 3) X dX12_newTransition_72 (by decide) ?_
    refine V_iadd X dX12_newTransition_73 ?_
    refine V_iconst (y := (-1)) X dX12_newTransition_74 (by decide) ?_
    obtain ⟨a11, rfl, w⟩ := w
    obtain ⟨N9, g9, hh, hi, w⟩ := w
    refine V_iast X dX12_newTransition_75 hh hi ?_
    generalize va_up _ _ _ = h12 at w ⊢
    refine V_aloadr_n X dX12_newTransition_76 0 rfl ?_
    refine V_dup X dX12_newTransition_77 rfl ?_
    obtain ⟨fs, x13, hh, hv, w⟩ := w
    refine V_get X flX12_159 dX12_newTransition_78 hh hv ?_
    refine V_iconst (y := 1) X dX12_newTransition_81 (by decide) ?_
    refine V_iadd X dX12_newTransition_82 ?_
    obtain ⟨fs, hh, hv, w⟩ := w
    refine V_put X flX12_159 dX12_newTransition_83 hh hv rfl rfl ?_
    generalize va_up _ _ _ = h14 at w ⊢
    exact V_vret X rfl dX12_newTransition_86 (Nat.le_of_ble_eq_true rfl) (Nat.le_of_ble_eq_true rfl) w
  · replace w := w2 z
    clear w1 w2
    refine V_aloadr_n X dX12_newTransition_19 0 rfl ?_
    obtain ⟨fs, r15, hh, hv, w⟩ := w
    refine V_get X flX12_59 dX12_newTransition_20 hh hv ?_
    refine V_iload X dX12_newTransition_23 4 rfl ?_
    refine V_iload X dX12_newTransition_25 5 rfl ?_
    refine V_iadd X dX12_newTransition_27 ?_
    refine V_iconst (y := 0) X dX12_newTransition_28 (by decide) ?_
    obtain ⟨a16, rfl, w⟩ := w
    obtain ⟨N9, g9, hh, hi, w⟩ := w
    refine V_iast X dX12_newTransition_29 hh hi ?_
    generalize va_up _ _ _ = h17 at w ⊢
    refine V_iinc (y := (v5 + 1)) X dX12_newTransition_30 5 rfl (by first | rfl | (congr 1)) (by decide) rfl ?_
    refine V_goto (tgt := 12) X dX12_newTransition_33 (by decide) ?_
    exact V.sub [1, 2, 3, 4, 5, 0] rfl (H12 _ _ _ _ _ _ _ w)
def vX12_newTransition_b12  (Qn : gH → Prop) (n : Nat) : gH → Nat → Int32 → Int32 → Int32 → Int32 → Int32 → Prop := Nat.rec (motive := fun _ => gH → Nat → Int32 → Int32 → Int32 → Int32 → Int32 → Prop) (fun _ _ _ _ _ _ _ => False) (fun _ k12 => vX12_newTransition_b12_o k12 Qn) n
theorem tX12_newTransition_b12 {p : Program} {l : Launch} {e : Env} {s : State} {m : MethodId} {args : Array Value} {below : List Frame} {meth : Method} {c : Code} {G : gG} {A : Nat → Prop} {Qn : gH → Prop} (X : gC p l s m args meth c G A cX12_newTransition 6 none RX12)   : ∀ (n : Nat) (h : gH) (v0 : Nat) (v1 : Int32) (v2 : Int32) (v3 : Int32) (v4 : Int32) (v5 : Int32) (w : vX12_newTransition_b12  Qn n h v0 v1 v2 v3 v4 v5), V p l e rmX12_newTransition s m args below meth c (MQ below (va_Qv Qn (gB G A) A) args s rmX12_newTransition.cells rmX12_newTransition.slots A) G A 6 h 0 0 12 [(0, .ref v0), (1, .int v1), (2, .int v2), (3, .int v3), (4, .int v4), (5, .int v5)] [] := by
  intro n
  induction n with
  | zero => intro h v0 v1 v2 v3 v4 v5 w; exact False.elim w
  | succ n ih => intro h v0 v1 v2 v3 v4 v5 w; exact tX12_newTransition_b12_o X ih w
def vX12_newTransition  (Qn : gH → Prop) (h : gH) (v0 : Nat) (v1 : Int32) (v2 : Int32) (v3 : Int32) : Prop := gi h v0 15 21 (fun x1 => ∃ n : Nat, vX12_newTransition_b12  Qn n h v0 v1 v2 v3 (17 * x1) 0)
set_option maxRecDepth 100000 in
set_option maxHeartbeats 4000000 in
theorem tX12_newTransition {p : Program} {l : Launch} {e : Env} {s : State} {m : MethodId} {args : Array Value} {below : List Frame} {meth : Method} {c : Code} {G : gG} {A : Nat → Prop} {Qn : gH → Prop} (X : gC p l s m args meth c G A cX12_newTransition 6 none RX12)   {h : gH} {v0 : Nat} {v1 : Int32} {v2 : Int32} {v3 : Int32} (w : vX12_newTransition  Qn h v0 v1 v2 v3) : V p l e rmX12_newTransition s m args below meth c (MQ below (va_Qv Qn (gB G A) A) args s rmX12_newTransition.cells rmX12_newTransition.slots A) G A 6 h 0 0 0 [(0, .ref v0), (1, .int v1), (2, .int v2), (3, .int v3)] [] := by
  refine V_bipush (y := 17) X dX12_newTransition_0 (by decide) ?_
  refine V_aloadr_n X dX12_newTransition_2 0 rfl ?_
  obtain ⟨fs, x1, hh, hv, w⟩ := w
  refine V_get X flX12_159 dX12_newTransition_3 hh hv ?_
  refine V_imul X dX12_newTransition_6 ?_
  refine V_istore X dX12_newTransition_7 (by decide) rfl ?_
  refine V_iconst (y := 0) X dX12_newTransition_9 (by decide) ?_
  refine V_istore X dX12_newTransition_10 (by decide) rfl ?_
  obtain ⟨n9, w⟩ := w
  exact V.sub [2, 3, 4, 5, 1, 0] rfl (tX12_newTransition_b12 X  n9 _ _ _ _ _ _ _ w)
theorem cX12_newTransition_ok {l : Launch} {G : gG} {h : gH} (hls : l.stackTraces = false) {Qn : gH → Prop} {v0 : Nat} {v1 : Int32} {v2 : Int32} {v3 : Int32} (w : vX12_newTransition Qn h v0 v1 v2 v3) : gMv l yX12_newTransition cX12_newTransition 6 none rmX12_newTransition rmX12_newTransition.cells rmX12_newTransition.slots G h [.ref v0, .int v1, .int v2, .int v3] Qn := by
  exact gMv.of (by decide +kernel) hls (Nat.le_of_ble_eq_true rfl) rfl rfl (fun p e s m below meth c A X hnm => tX12_newTransition X w)
/-! AnimationControllerModel.addTransition(III)I -/
abbrev rmX12_addTransition : Room := { frames := 2, cells := 0, slots := 0, locals := 46 }
def vX12_addTransition_b26  (Qn : Int32 → gH → Prop) (h : gH) (v0 : Nat) : Prop := io h v0 15 (vX12_fails (fun x2 h1 => Qn x2 h1) h v0 1)
set_option maxRecDepth 100000 in
set_option maxHeartbeats 4000000 in
theorem tX12_addTransition_b26 {p : Program} {l : Launch} {e : Env} {s : State} {m : MethodId} {args : Array Value} {below : List Frame} {meth : Method} {c : Code} {G : gG} {A : Nat → Prop} {Qn : Int32 → gH → Prop} (X : gC p l s m args meth c G A cX12_addTransition 4 (some FieldType.int) RX12)   {h : gH} {v0 : Nat} (w : vX12_addTransition_b26  Qn h v0) : V p l e rmX12_addTransition s m args below meth c (MQ below (va_Qi Qn (gB G A) A) args s rmX12_addTransition.cells rmX12_addTransition.slots A) G A 4 h 0 0 26 [(0, .ref v0)] [] := by
  refine V_aloadr_n X dX12_addTransition_26 0 rfl ?_
  refine V_iconst (y := 1) X dX12_addTransition_27 (by decide) ?_
  obtain ⟨fs, hh, w⟩ := w
  refine V_callVi (As := [.int 1]) (rest := []) (k1 := 0) (n1 := 0) X (cX12_fails_ok X.2.2.2.2.2.2.2.2.1 w) lkX12_103 hh (q9 := (RX12, TX12, 42)) rfl rfl dX12_addTransition_28 ⟨Nat.le_of_ble_eq_true rfl, Nat.le_of_ble_eq_true rfl⟩ rfl (Nat.le_of_ble_eq_true rfl) ⟨Nat.le_of_ble_eq_true rfl, Nat.le_of_ble_eq_true rfl⟩ (Nat.le_of_ble_eq_true rfl) (Nat.le_of_ble_eq_true rfl) (fun x2 h1 w9 => ?_)
  replace w := w9
  clear w9
  exact V_iret X rfl dX12_addTransition_31 (Nat.le_of_ble_eq_true rfl) (Nat.le_of_ble_eq_true rfl) w
def vX12_addTransition_b18  (Qn : Int32 → gH → Prop) (h : gH) (v0 : Nat) (v1 : Int32) (v2 : Int32) (v3 : Int32) : Prop := io h v0 15 (vX12_isState (fun x2 h1 => ((¬ (x2 : Int32) = 0) → (vX12_in (fun x4 h3 => ((¬ (x4 : Int32) = 0) → (gi h3 v0 15 21 (fun x5 => ((¬ (x5 : Int32) = 24) → (io h3 v0 15 (vX12_newTransition (fun h6 => gi h6 v0 15 21 (fun x7 => Qn (x7 - 1) h6)) h3 v0 v1 v2 v3))) ∧ (((x5 : Int32) = 24) → (io h3 v0 15 (vX12_fails (fun x9 h8 => Qn x9 h8) h3 v0 3)))))) ∧ (((x4 : Int32) = 0) → (io h3 v0 15 (vX12_fails (fun x11 h10 => Qn x11 h10) h3 v0 2)))) h1 (Int32.toInt64 v3) 0 60)) ∧ (((x2 : Int32) = 0) → (vX12_addTransition_b26  Qn h1 v0))) h v0 v2)
set_option maxRecDepth 100000 in
set_option maxHeartbeats 4000000 in
theorem tX12_addTransition_b18 {p : Program} {l : Launch} {e : Env} {s : State} {m : MethodId} {args : Array Value} {below : List Frame} {meth : Method} {c : Code} {G : gG} {A : Nat → Prop} {Qn : Int32 → gH → Prop} (X : gC p l s m args meth c G A cX12_addTransition 4 (some FieldType.int) RX12)   {h : gH} {v0 : Nat} {v1 : Int32} {v2 : Int32} {v3 : Int32} (w : vX12_addTransition_b18  Qn h v0 v1 v2 v3) : V p l e rmX12_addTransition s m args below meth c (MQ below (va_Qi Qn (gB G A) A) args s rmX12_addTransition.cells rmX12_addTransition.slots A) G A 4 h 0 0 18 [(0, .ref v0), (1, .int v1), (2, .int v2), (3, .int v3)] [] := by
  refine V_aloadr_n X dX12_addTransition_18 0 rfl ?_
  refine V_iload_n X dX12_addTransition_19 2 rfl ?_
  obtain ⟨fs, hh, w⟩ := w
  refine V_callVi (As := [.int v2]) (rest := []) (k1 := 0) (n1 := 0) X (cX12_isState_ok X.2.2.2.2.2.2.2.2.1 w) lkX12_162 hh (q9 := (RX12, TX12, 42)) rfl rfl dX12_addTransition_20 ⟨Nat.le_of_ble_eq_true rfl, Nat.le_of_ble_eq_true rfl⟩ rfl (Nat.le_of_ble_eq_true rfl) ⟨Nat.le_of_ble_eq_true rfl, Nat.le_of_ble_eq_true rfl⟩ (Nat.le_of_ble_eq_true rfl) (Nat.le_of_ble_eq_true rfl) (fun x2 h1 w9 => ?_)
  replace w := w9
  clear w9
  obtain ⟨w1, w2⟩ := w
  refine V_if_ne (tgt := 32) X dX12_addTransition_23 (by decide) (fun z => ?_) (fun z => ?_)
  · replace w := w1 z
    clear w1 w2
    refine V_iload_n X dX12_addTransition_32 3 rfl ?_
    refine V_i2l X dX12_addTransition_33 ?_
    refine V_lconst (y := 0) X dX12_addTransition_34 (by decide) ?_
    refine V_ldc2 (y := 60) X dX12_addTransition_35 kw_1827 ?_
    refine V_callSi (As := [.long (Int32.toInt64 v3), .long 0, .long 60]) (rest := []) (k1 := 0) (n1 := 0) X (cX12_in_ok X.2.2.2.2.2.2.2.2.1 w) lkX12_99 dX12_addTransition_38 ⟨Nat.le_of_ble_eq_true rfl, Nat.le_of_ble_eq_true rfl⟩ rfl (Nat.le_of_ble_eq_true rfl) ⟨Nat.le_of_ble_eq_true rfl, Nat.le_of_ble_eq_true rfl⟩ (Nat.le_of_ble_eq_true rfl) (Nat.le_of_ble_eq_true rfl) (fun x4 h3 w9 => ?_)
    replace w := w9
    clear w9
    obtain ⟨w1, w2⟩ := w
    refine V_if_ne (tgt := 50) X dX12_addTransition_41 (by decide) (fun z => ?_) (fun z => ?_)
    · replace w := w1 z
      clear w1 w2
      refine V_aloadr_n X dX12_addTransition_50 0 rfl ?_
      obtain ⟨fs, x5, hh, hv, w⟩ := w
      refine V_get X flX12_159 dX12_addTransition_51 hh hv ?_
      refine V_bipush (y := 24) X dX12_addTransition_54 (by decide) ?_
      obtain ⟨w1, w2⟩ := w
      refine V_icmp_ne (tgt := 65) X dX12_addTransition_56 (by decide) (fun z => ?_) (fun z => ?_)
      · replace w := w1 z
        clear w1 w2
        refine V_aloadr_n X dX12_addTransition_65 0 rfl ?_
        refine V_iload_n X dX12_addTransition_66 1 rfl ?_
        refine V_iload_n X dX12_addTransition_67 2 rfl ?_
        refine V_iload_n X dX12_addTransition_68 3 rfl ?_
        obtain ⟨fs, hh, w⟩ := w
        refine V_callVv (As := [.int v1, .int v2, .int v3]) (rest := []) (k1 := 0) (n1 := 0) X (cX12_newTransition_ok X.2.2.2.2.2.2.2.2.1 w) lkX12_167 hh (q9 := (RX12, TX12, 42)) rfl rfl dX12_addTransition_69 ⟨Nat.le_of_ble_eq_true rfl, Nat.le_of_ble_eq_true rfl⟩ rfl (Nat.le_of_ble_eq_true rfl) ⟨Nat.le_of_ble_eq_true rfl, Nat.le_of_ble_eq_true rfl⟩ (Nat.le_of_ble_eq_true rfl) (Nat.le_of_ble_eq_true rfl) (fun h6 w9 => ?_)
        replace w := w9
        clear w9
        refine V_aloadr_n X dX12_addTransition_72 0 rfl ?_
        obtain ⟨fs, x7, hh, hv, w⟩ := w
        refine V_get X flX12_159 dX12_addTransition_73 hh hv ?_
        refine V_iconst (y := 1) X dX12_addTransition_76 (by decide) ?_
        refine V_isub X dX12_addTransition_77 ?_
        exact V_iret X rfl dX12_addTransition_78 (Nat.le_of_ble_eq_true rfl) (Nat.le_of_ble_eq_true rfl) w
      · replace w := w2 z
        clear w1 w2
        refine V_aloadr_n X dX12_addTransition_59 0 rfl ?_
        refine V_iconst (y := 3) X dX12_addTransition_60 (by decide) ?_
        obtain ⟨fs, hh, w⟩ := w
        refine V_callVi (As := [.int 3]) (rest := []) (k1 := 0) (n1 := 0) X (cX12_fails_ok X.2.2.2.2.2.2.2.2.1 w) lkX12_103 hh (q9 := (RX12, TX12, 42)) rfl rfl dX12_addTransition_61 ⟨Nat.le_of_ble_eq_true rfl, Nat.le_of_ble_eq_true rfl⟩ rfl (Nat.le_of_ble_eq_true rfl) ⟨Nat.le_of_ble_eq_true rfl, Nat.le_of_ble_eq_true rfl⟩ (Nat.le_of_ble_eq_true rfl) (Nat.le_of_ble_eq_true rfl) (fun x9 h8 w9 => ?_)
        replace w := w9
        clear w9
        exact V_iret X rfl dX12_addTransition_64 (Nat.le_of_ble_eq_true rfl) (Nat.le_of_ble_eq_true rfl) w
    · replace w := w2 z
      clear w1 w2
      refine V_aloadr_n X dX12_addTransition_44 0 rfl ?_
      refine V_iconst (y := 2) X dX12_addTransition_45 (by decide) ?_
      obtain ⟨fs, hh, w⟩ := w
      refine V_callVi (As := [.int 2]) (rest := []) (k1 := 0) (n1 := 0) X (cX12_fails_ok X.2.2.2.2.2.2.2.2.1 w) lkX12_103 hh (q9 := (RX12, TX12, 42)) rfl rfl dX12_addTransition_46 ⟨Nat.le_of_ble_eq_true rfl, Nat.le_of_ble_eq_true rfl⟩ rfl (Nat.le_of_ble_eq_true rfl) ⟨Nat.le_of_ble_eq_true rfl, Nat.le_of_ble_eq_true rfl⟩ (Nat.le_of_ble_eq_true rfl) (Nat.le_of_ble_eq_true rfl) (fun x11 h10 w9 => ?_)
      replace w := w9
      clear w9
      exact V_iret X rfl dX12_addTransition_49 (Nat.le_of_ble_eq_true rfl) (Nat.le_of_ble_eq_true rfl) w
  · replace w := w2 z
    clear w1 w2
    exact V.sub [0] rfl (tX12_addTransition_b26 X  w)
def vX12_addTransition  (Qn : Int32 → gH → Prop) (h : gH) (v0 : Nat) (v1 : Int32) (v2 : Int32) (v3 : Int32) : Prop := pv h v0 15 25 (.int 0) (fun h1 => (((v1 : Int32) = (-1)) → (vX12_addTransition_b18  Qn h1 v0 v1 v2 v3)) ∧ ((¬ (v1 : Int32) = (-1)) → (io h1 v0 15 (vX12_isState (fun x3 h2 => (((x3 : Int32) = 0) → (vX12_addTransition_b26  Qn h2 v0)) ∧ ((¬ (x3 : Int32) = 0) → (vX12_addTransition_b18  Qn h2 v0 v1 v2 v3))) h1 v0 v1))))
set_option maxRecDepth 100000 in
set_option maxHeartbeats 4000000 in
theorem tX12_addTransition {p : Program} {l : Launch} {e : Env} {s : State} {m : MethodId} {args : Array Value} {below : List Frame} {meth : Method} {c : Code} {G : gG} {A : Nat → Prop} {Qn : Int32 → gH → Prop} (X : gC p l s m args meth c G A cX12_addTransition 4 (some FieldType.int) RX12)   {h : gH} {v0 : Nat} {v1 : Int32} {v2 : Int32} {v3 : Int32} (w : vX12_addTransition  Qn h v0 v1 v2 v3) : V p l e rmX12_addTransition s m args below meth c (MQ below (va_Qi Qn (gB G A) A) args s rmX12_addTransition.cells rmX12_addTransition.slots A) G A 4 h 0 0 0 [(0, .ref v0), (1, .int v1), (2, .int v2), (3, .int v3)] [] := by
  refine V_aloadr_n X dX12_addTransition_0 0 rfl ?_
  refine V_iconst (y := 0) X dX12_addTransition_1 (by decide) ?_
  obtain ⟨fs, hh, hv, w⟩ := w
  refine V_put X flX12_94 dX12_addTransition_2 hh hv rfl rfl ?_
  generalize va_up _ _ _ = h1 at w ⊢
  refine V_iload_n X dX12_addTransition_5 1 rfl ?_
  refine V_iconst (y := (-1)) X dX12_addTransition_6 (by decide) ?_
  obtain ⟨w1, w2⟩ := w
  refine V_icmp_eq (tgt := 18) X dX12_addTransition_7 (by decide) (fun z => ?_) (fun z => ?_)
  · replace w := w1 z
    clear w1 w2
    exact V.sub [0, 1, 2, 3] rfl (tX12_addTransition_b18 X  w)
  · replace w := w2 z
    clear w1 w2
    refine V_aloadr_n X dX12_addTransition_10 0 rfl ?_
    refine V_iload_n X dX12_addTransition_11 1 rfl ?_
    obtain ⟨fs, hh, w⟩ := w
    refine V_callVi (As := [.int v1]) (rest := []) (k1 := 0) (n1 := 0) X (cX12_isState_ok X.2.2.2.2.2.2.2.2.1 w) lkX12_162 hh (q9 := (RX12, TX12, 42)) rfl rfl dX12_addTransition_12 ⟨Nat.le_of_ble_eq_true rfl, Nat.le_of_ble_eq_true rfl⟩ rfl (Nat.le_of_ble_eq_true rfl) ⟨Nat.le_of_ble_eq_true rfl, Nat.le_of_ble_eq_true rfl⟩ (Nat.le_of_ble_eq_true rfl) (Nat.le_of_ble_eq_true rfl) (fun x3 h2 w9 => ?_)
    replace w := w9
    clear w9
    obtain ⟨w1, w2⟩ := w
    refine V_if_eq (tgt := 26) X dX12_addTransition_15 (by decide) (fun z => ?_) (fun z => ?_)
    · replace w := w1 z
      clear w1 w2
      exact V.sub [0] rfl (tX12_addTransition_b26 X  w)
    · replace w := w2 z
      clear w1 w2
      exact V.sub [0, 1, 2, 3] rfl (tX12_addTransition_b18 X  w)
theorem cX12_addTransition_ok {l : Launch} {G : gG} {h : gH} (hls : l.stackTraces = false) {Qn : Int32 → gH → Prop} {v0 : Nat} {v1 : Int32} {v2 : Int32} {v3 : Int32} (w : vX12_addTransition Qn h v0 v1 v2 v3) : gMi l yX12_addTransition cX12_addTransition 4 (some FieldType.int) rmX12_addTransition rmX12_addTransition.cells rmX12_addTransition.slots G h [.ref v0, .int v1, .int v2, .int v3] Qn := by
  exact gMi.of (by decide +kernel) hls (Nat.le_of_ble_eq_true rfl) rfl rfl (fun p e s m below meth c A X hnm => tX12_addTransition X w)
/-! AnimationControllerModel.isTransition(I)Z -/
abbrev rmX12_isTransition : Room := { frames := 1, cells := 0, slots := 0, locals := 25 }
def vX12_isTransition  (Qn : Int32 → gH → Prop) (h : gH) (v0 : Nat) (v1 : Int32) : Prop := gi h v0 15 21 (fun x1 => vX12_in (fun x3 h2 => gZ x3 ∧ Qn x3 h2) h (Int32.toInt64 v1) 0 (Int32.toInt64 (x1 - 1)))
set_option maxRecDepth 100000 in
set_option maxHeartbeats 4000000 in
theorem tX12_isTransition {p : Program} {l : Launch} {e : Env} {s : State} {m : MethodId} {args : Array Value} {below : List Frame} {meth : Method} {c : Code} {G : gG} {A : Nat → Prop} {Qn : Int32 → gH → Prop} (X : gC p l s m args meth c G A cX12_isTransition 2 (some FieldType.boolean) RX12)   {h : gH} {v0 : Nat} {v1 : Int32} (w : vX12_isTransition  Qn h v0 v1) : V p l e rmX12_isTransition s m args below meth c (MQ below (va_Qi Qn (gB G A) A) args s rmX12_isTransition.cells rmX12_isTransition.slots A) G A 2 h 0 0 0 [(0, .ref v0), (1, .int v1)] [] := by
  refine V_iload_n X dX12_isTransition_0 1 rfl ?_
  refine V_i2l X dX12_isTransition_1 ?_
  refine V_lconst (y := 0) X dX12_isTransition_2 (by decide) ?_
  refine V_aloadr_n X dX12_isTransition_3 0 rfl ?_
  obtain ⟨fs, x1, hh, hv, w⟩ := w
  refine V_get X flX12_159 dX12_isTransition_4 hh hv ?_
  refine V_iconst (y := 1) X dX12_isTransition_7 (by decide) ?_
  refine V_isub X dX12_isTransition_8 ?_
  refine V_i2l X dX12_isTransition_9 ?_
  refine V_callSi (As := [.long (Int32.toInt64 v1), .long 0, .long (Int32.toInt64 (x1 - 1))]) (rest := []) (k1 := 0) (n1 := 0) X (cX12_in_ok X.2.2.2.2.2.2.2.2.1 w) lkX12_99 dX12_isTransition_10 ⟨Nat.le_of_ble_eq_true rfl, Nat.le_of_ble_eq_true rfl⟩ rfl (Nat.le_of_ble_eq_true rfl) ⟨Nat.le_of_ble_eq_true rfl, Nat.le_of_ble_eq_true rfl⟩ (Nat.le_of_ble_eq_true rfl) (Nat.le_of_ble_eq_true rfl) (fun x3 h2 w9 => ?_)
  replace w := w9
  clear w9
  obtain ⟨hz, w⟩ := w
  exact V_zret X rfl hz.1 dX12_isTransition_13 (Nat.le_of_ble_eq_true rfl) (Nat.le_of_ble_eq_true rfl) w
theorem cX12_isTransition_ok {l : Launch} {G : gG} {h : gH} (hls : l.stackTraces = false) {Qn : Int32 → gH → Prop} {v0 : Nat} {v1 : Int32} (w : vX12_isTransition Qn h v0 v1) : gMi l yX12_isTransition cX12_isTransition 2 (some FieldType.boolean) rmX12_isTransition rmX12_isTransition.cells rmX12_isTransition.slots G h [.ref v0, .int v1] Qn := by
  exact gMi.of (by decide +kernel) hls (Nat.le_of_ble_eq_true rfl) rfl rfl (fun p e s m below meth c A X hnm => tX12_isTransition X w)
/-! AnimationControllerModel.setTiming(III)I -/
abbrev rmX12_setTiming : Room := { frames := 2, cells := 0, slots := 0, locals := 46 }
def vX12_setTiming_b45  (Qn : Int32 → gH → Prop) (h : gH) (v0 : Nat) : Prop := io h v0 15 (vX12_fails (fun x2 h1 => Qn x2 h1) h v0 2)
set_option maxRecDepth 100000 in
set_option maxHeartbeats 4000000 in
theorem tX12_setTiming_b45 {p : Program} {l : Launch} {e : Env} {s : State} {m : MethodId} {args : Array Value} {below : List Frame} {meth : Method} {c : Code} {G : gG} {A : Nat → Prop} {Qn : Int32 → gH → Prop} (X : gC p l s m args meth c G A cX12_setTiming 5 (some FieldType.int) RX12)   {h : gH} {v0 : Nat} (w : vX12_setTiming_b45  Qn h v0) : V p l e rmX12_setTiming s m args below meth c (MQ below (va_Qi Qn (gB G A) A) args s rmX12_setTiming.cells rmX12_setTiming.slots A) G A 5 h 0 0 45 [(0, .ref v0)] [] := by
  refine V_aloadr_n X dX12_setTiming_45 0 rfl ?_
  refine V_iconst (y := 2) X dX12_setTiming_46 (by decide) ?_
  obtain ⟨fs, hh, w⟩ := w
  refine V_callVi (As := [.int 2]) (rest := []) (k1 := 0) (n1 := 0) X (cX12_fails_ok X.2.2.2.2.2.2.2.2.1 w) lkX12_103 hh (q9 := (RX12, TX12, 42)) rfl rfl dX12_setTiming_47 ⟨Nat.le_of_ble_eq_true rfl, Nat.le_of_ble_eq_true rfl⟩ rfl (Nat.le_of_ble_eq_true rfl) ⟨Nat.le_of_ble_eq_true rfl, Nat.le_of_ble_eq_true rfl⟩ (Nat.le_of_ble_eq_true rfl) (Nat.le_of_ble_eq_true rfl) (fun x2 h1 w9 => ?_)
  replace w := w9
  clear w9
  exact V_iret X rfl dX12_setTiming_50 (Nat.le_of_ble_eq_true rfl) (Nat.le_of_ble_eq_true rfl) w
def vX12_setTiming_b72  (Qn : Int32 → gH → Prop) (h : gH) (v0 : Nat) (v1 : Int32) (v2 : Int32) (v3 : Int32) : Prop := io h v0 15 (vX12_of (fun x2 h1 => gr h1 v0 15 20 (fun r3 => nn r3 (fun a4 => si h1 a4 ((17 * v1) + 3) v2 (fun h5 => gr h5 v0 15 20 (fun r6 => nn r6 (fun a7 => si h5 a7 ((17 * v1) + 4) v3 (fun h8 => Qn x2 h8))))))) h v0 v1 3)
set_option maxRecDepth 100000 in
set_option maxHeartbeats 4000000 in
theorem tX12_setTiming_b72 {p : Program} {l : Launch} {e : Env} {s : State} {m : MethodId} {args : Array Value} {below : List Frame} {meth : Method} {c : Code} {G : gG} {A : Nat → Prop} {Qn : Int32 → gH → Prop} (X : gC p l s m args meth c G A cX12_setTiming 5 (some FieldType.int) RX12)   {h : gH} {v0 : Nat} {v1 : Int32} {v2 : Int32} {v3 : Int32} (w : vX12_setTiming_b72  Qn h v0 v1 v2 v3) : V p l e rmX12_setTiming s m args below meth c (MQ below (va_Qi Qn (gB G A) A) args s rmX12_setTiming.cells rmX12_setTiming.slots A) G A 5 h 0 0 72 [(0, .ref v0), (1, .int v1), (2, .int v2), (3, .int v3)] [] := by
  refine V_aloadr_n X dX12_setTiming_72 0 rfl ?_
  refine V_iload_n X dX12_setTiming_73 1 rfl ?_
  refine V_iconst (y := 3) X dX12_setTiming_74 (by decide) ?_
  obtain ⟨fs, hh, w⟩ := w
  refine V_callVi (As := [.int v1, .int 3]) (rest := []) (k1 := 0) (n1 := 0) X (cX12_of_ok X.2.2.2.2.2.2.2.2.1 w) lkX12_177 hh (q9 := (RX12, TX12, 42)) rfl rfl dX12_setTiming_75 ⟨Nat.le_of_ble_eq_true rfl, Nat.le_of_ble_eq_true rfl⟩ rfl (Nat.le_of_ble_eq_true rfl) ⟨Nat.le_of_ble_eq_true rfl, Nat.le_of_ble_eq_true rfl⟩ (Nat.le_of_ble_eq_true rfl) (Nat.le_of_ble_eq_true rfl) (fun x2 h1 w9 => ?_)
  replace w := w9
  clear w9
  refine V_istore X dX12_setTiming_78 (by decide) rfl ?_
  refine V_aloadr_n X dX12_setTiming_80 1 rfl ?_
  obtain ⟨fs, r3, hh, hv, w⟩ := w
  refine V_get X flX12_59 dX12_setTiming_81 hh hv ?_
  refine V_bipush (y := 17) X dX12_setTiming_84 (by decide) ?_
  refine V_iload_n X dX12_setTiming_86 2 rfl ?_
  refine V_imul X dX12_setTiming_87 ?_
  refine V_iconst (y := 3) X dX12_setTiming_88 (by decide) ?_
  refine V_iadd X dX12_setTiming_89 ?_
  refine V_iload_n X dX12_setTiming_90 3 rfl ?_
  obtain ⟨a4, rfl, w⟩ := w
  obtain ⟨N9, g9, hh, hi, w⟩ := w
  refine V_iast X dX12_setTiming_91 hh hi ?_
  generalize va_up _ _ _ = h5 at w ⊢
  refine V_aloadr_n X dX12_setTiming_92 1 rfl ?_
  obtain ⟨fs, r6, hh, hv, w⟩ := w
  refine V_get X flX12_59 dX12_setTiming_93 hh hv ?_
  refine V_bipush (y := 17) X dX12_setTiming_96 (by decide) ?_
  refine V_iload_n X dX12_setTiming_98 2 rfl ?_
  refine V_imul X dX12_setTiming_99 ?_
  refine V_iconst (y := 4) X dX12_setTiming_100 (by decide) ?_
  refine V_iadd X dX12_setTiming_101 ?_
  refine V_iload_n X dX12_setTiming_102 4 rfl ?_
  obtain ⟨a7, rfl, w⟩ := w
  obtain ⟨N9, g9, hh, hi, w⟩ := w
  refine V_iast X dX12_setTiming_103 hh hi ?_
  generalize va_up _ _ _ = h8 at w ⊢
  refine V_iload X dX12_setTiming_104 0 rfl ?_
  exact V_iret X rfl dX12_setTiming_106 (Nat.le_of_ble_eq_true rfl) (Nat.le_of_ble_eq_true rfl) w
def vX12_setTiming  (Qn : Int32 → gH → Prop) (h : gH) (v0 : Nat) (v1 : Int32) (v2 : Int32) (v3 : Int32) : Prop := pv h v0 15 25 (.int 0) (fun h1 => io h1 v0 15 (vX12_isTransition (fun x3 h2 => ((¬ (x3 : Int32) = 0) → (vX12_in (fun x5 h4 => (((x5 : Int32) = 0) → (vX12_setTiming_b45  Qn h4 v0)) ∧ ((¬ (x5 : Int32) = 0) → (vX12_in (fun x7 h6 => ((¬ (x7 : Int32) = 0) → ((((v2 : Int32) = (-1)) → (vX12_setTiming_b72  Qn h6 v0 v1 v2 v3)) ∧ ((¬ (v2 : Int32) = (-1)) → (io h6 v0 15 (vX12_of (fun x9 h8 => ((¬ (x9 : Int32) = (-1)) → (vX12_setTiming_b72  Qn h8 v0 v1 v2 v3)) ∧ (((x9 : Int32) = (-1)) → (io h8 v0 15 (vX12_fails (fun x11 h10 => Qn x11 h10) h8 v0 3)))) h6 v0 v1 0))))) ∧ (((x7 : Int32) = 0) → (vX12_setTiming_b45  Qn h6 v0))) h4 (Int32.toInt64 v3) 0 99))) h2 (Int32.toInt64 v2) (-1) 300)) ∧ (((x3 : Int32) = 0) → (io h2 v0 15 (vX12_fails (fun x13 h12 => Qn x13 h12) h2 v0 1)))) h1 v0 v1))
set_option maxRecDepth 100000 in
set_option maxHeartbeats 4000000 in
theorem tX12_setTiming {p : Program} {l : Launch} {e : Env} {s : State} {m : MethodId} {args : Array Value} {below : List Frame} {meth : Method} {c : Code} {G : gG} {A : Nat → Prop} {Qn : Int32 → gH → Prop} (X : gC p l s m args meth c G A cX12_setTiming 5 (some FieldType.int) RX12)   {h : gH} {v0 : Nat} {v1 : Int32} {v2 : Int32} {v3 : Int32} (w : vX12_setTiming  Qn h v0 v1 v2 v3) : V p l e rmX12_setTiming s m args below meth c (MQ below (va_Qi Qn (gB G A) A) args s rmX12_setTiming.cells rmX12_setTiming.slots A) G A 5 h 0 0 0 [(0, .ref v0), (1, .int v1), (2, .int v2), (3, .int v3)] [] := by
  refine V_aloadr_n X dX12_setTiming_0 0 rfl ?_
  refine V_iconst (y := 0) X dX12_setTiming_1 (by decide) ?_
  obtain ⟨fs, hh, hv, w⟩ := w
  refine V_put X flX12_94 dX12_setTiming_2 hh hv rfl rfl ?_
  generalize va_up _ _ _ = h1 at w ⊢
  refine V_aloadr_n X dX12_setTiming_5 0 rfl ?_
  refine V_iload_n X dX12_setTiming_6 1 rfl ?_
  obtain ⟨fs, hh, w⟩ := w
  refine V_callVi (As := [.int v1]) (rest := []) (k1 := 0) (n1 := 0) X (cX12_isTransition_ok X.2.2.2.2.2.2.2.2.1 w) lkX12_170 hh (q9 := (RX12, TX12, 42)) rfl rfl dX12_setTiming_7 ⟨Nat.le_of_ble_eq_true rfl, Nat.le_of_ble_eq_true rfl⟩ rfl (Nat.le_of_ble_eq_true rfl) ⟨Nat.le_of_ble_eq_true rfl, Nat.le_of_ble_eq_true rfl⟩ (Nat.le_of_ble_eq_true rfl) (Nat.le_of_ble_eq_true rfl) (fun x3 h2 w9 => ?_)
  replace w := w9
  clear w9
  obtain ⟨w1, w2⟩ := w
  refine V_if_ne (tgt := 19) X dX12_setTiming_10 (by decide) (fun z => ?_) (fun z => ?_)
  · replace w := w1 z
    clear w1 w2
    refine V_iload_n X dX12_setTiming_19 2 rfl ?_
    refine V_i2l X dX12_setTiming_20 ?_
    refine V_ldc2 (y := (-1)) X dX12_setTiming_21 kw_1840 ?_
    refine V_ldc2 (y := 300) X dX12_setTiming_24 kw_1841 ?_
    refine V_callSi (As := [.long (Int32.toInt64 v2), .long (-1), .long 300]) (rest := []) (k1 := 0) (n1 := 0) X (cX12_in_ok X.2.2.2.2.2.2.2.2.1 w) lkX12_99 dX12_setTiming_27 ⟨Nat.le_of_ble_eq_true rfl, Nat.le_of_ble_eq_true rfl⟩ rfl (Nat.le_of_ble_eq_true rfl) ⟨Nat.le_of_ble_eq_true rfl, Nat.le_of_ble_eq_true rfl⟩ (Nat.le_of_ble_eq_true rfl) (Nat.le_of_ble_eq_true rfl) (fun x5 h4 w9 => ?_)
    replace w := w9
    clear w9
    obtain ⟨w1, w2⟩ := w
    refine V_if_eq (tgt := 45) X dX12_setTiming_30 (by decide) (fun z => ?_) (fun z => ?_)
    · replace w := w1 z
      clear w1 w2
      exact V.sub [0] rfl (tX12_setTiming_b45 X  w)
    · replace w := w2 z
      clear w1 w2
      refine V_iload_n X dX12_setTiming_33 3 rfl ?_
      refine V_i2l X dX12_setTiming_34 ?_
      refine V_lconst (y := 0) X dX12_setTiming_35 (by decide) ?_
      refine V_ldc2 (y := 99) X dX12_setTiming_36 kw_1780 ?_
      refine V_callSi (As := [.long (Int32.toInt64 v3), .long 0, .long 99]) (rest := []) (k1 := 0) (n1 := 0) X (cX12_in_ok X.2.2.2.2.2.2.2.2.1 w) lkX12_99 dX12_setTiming_39 ⟨Nat.le_of_ble_eq_true rfl, Nat.le_of_ble_eq_true rfl⟩ rfl (Nat.le_of_ble_eq_true rfl) ⟨Nat.le_of_ble_eq_true rfl, Nat.le_of_ble_eq_true rfl⟩ (Nat.le_of_ble_eq_true rfl) (Nat.le_of_ble_eq_true rfl) (fun x7 h6 w9 => ?_)
      replace w := w9
      clear w9
      obtain ⟨w1, w2⟩ := w
      refine V_if_ne (tgt := 51) X dX12_setTiming_42 (by decide) (fun z => ?_) (fun z => ?_)
      · replace w := w1 z
        clear w1 w2
        refine V_iload_n X dX12_setTiming_51 2 rfl ?_
        refine V_iconst (y := (-1)) X dX12_setTiming_52 (by decide) ?_
        obtain ⟨w1, w2⟩ := w
        refine V_icmp_eq (tgt := 72) X dX12_setTiming_53 (by decide) (fun z => ?_) (fun z => ?_)
        · replace w := w1 z
          clear w1 w2
          exact V.sub [0, 1, 2, 3] rfl (tX12_setTiming_b72 X  w)
        · replace w := w2 z
          clear w1 w2
          refine V_aloadr_n X dX12_setTiming_56 0 rfl ?_
          refine V_iload_n X dX12_setTiming_57 1 rfl ?_
          refine V_iconst (y := 0) X dX12_setTiming_58 (by decide) ?_
          obtain ⟨fs, hh, w⟩ := w
          refine V_callVi (As := [.int v1, .int 0]) (rest := []) (k1 := 0) (n1 := 0) X (cX12_of_ok X.2.2.2.2.2.2.2.2.1 w) lkX12_177 hh (q9 := (RX12, TX12, 42)) rfl rfl dX12_setTiming_59 ⟨Nat.le_of_ble_eq_true rfl, Nat.le_of_ble_eq_true rfl⟩ rfl (Nat.le_of_ble_eq_true rfl) ⟨Nat.le_of_ble_eq_true rfl, Nat.le_of_ble_eq_true rfl⟩ (Nat.le_of_ble_eq_true rfl) (Nat.le_of_ble_eq_true rfl) (fun x9 h8 w9 => ?_)
          replace w := w9
          clear w9
          refine V_iconst (y := (-1)) X dX12_setTiming_62 (by decide) ?_
          obtain ⟨w1, w2⟩ := w
          refine V_icmp_ne (tgt := 72) X dX12_setTiming_63 (by decide) (fun z => ?_) (fun z => ?_)
          · replace w := w1 z
            clear w1 w2
            exact V.sub [0, 1, 2, 3] rfl (tX12_setTiming_b72 X  w)
          · replace w := w2 z
            clear w1 w2
            refine V_aloadr_n X dX12_setTiming_66 0 rfl ?_
            refine V_iconst (y := 3) X dX12_setTiming_67 (by decide) ?_
            obtain ⟨fs, hh, w⟩ := w
            refine V_callVi (As := [.int 3]) (rest := []) (k1 := 0) (n1 := 0) X (cX12_fails_ok X.2.2.2.2.2.2.2.2.1 w) lkX12_103 hh (q9 := (RX12, TX12, 42)) rfl rfl dX12_setTiming_68 ⟨Nat.le_of_ble_eq_true rfl, Nat.le_of_ble_eq_true rfl⟩ rfl (Nat.le_of_ble_eq_true rfl) ⟨Nat.le_of_ble_eq_true rfl, Nat.le_of_ble_eq_true rfl⟩ (Nat.le_of_ble_eq_true rfl) (Nat.le_of_ble_eq_true rfl) (fun x11 h10 w9 => ?_)
            replace w := w9
            clear w9
            exact V_iret X rfl dX12_setTiming_71 (Nat.le_of_ble_eq_true rfl) (Nat.le_of_ble_eq_true rfl) w
      · replace w := w2 z
        clear w1 w2
        exact V.sub [0] rfl (tX12_setTiming_b45 X  w)
  · replace w := w2 z
    clear w1 w2
    refine V_aloadr_n X dX12_setTiming_13 0 rfl ?_
    refine V_iconst (y := 1) X dX12_setTiming_14 (by decide) ?_
    obtain ⟨fs, hh, w⟩ := w
    refine V_callVi (As := [.int 1]) (rest := []) (k1 := 0) (n1 := 0) X (cX12_fails_ok X.2.2.2.2.2.2.2.2.1 w) lkX12_103 hh (q9 := (RX12, TX12, 42)) rfl rfl dX12_setTiming_15 ⟨Nat.le_of_ble_eq_true rfl, Nat.le_of_ble_eq_true rfl⟩ rfl (Nat.le_of_ble_eq_true rfl) ⟨Nat.le_of_ble_eq_true rfl, Nat.le_of_ble_eq_true rfl⟩ (Nat.le_of_ble_eq_true rfl) (Nat.le_of_ble_eq_true rfl) (fun x13 h12 w9 => ?_)
    replace w := w9
    clear w9
    exact V_iret X rfl dX12_setTiming_18 (Nat.le_of_ble_eq_true rfl) (Nat.le_of_ble_eq_true rfl) w
theorem cX12_setTiming_ok {l : Launch} {G : gG} {h : gH} (hls : l.stackTraces = false) {Qn : Int32 → gH → Prop} {v0 : Nat} {v1 : Int32} {v2 : Int32} {v3 : Int32} (w : vX12_setTiming Qn h v0 v1 v2 v3) : gMi l yX12_setTiming cX12_setTiming 5 (some FieldType.int) rmX12_setTiming rmX12_setTiming.cells rmX12_setTiming.slots G h [.ref v0, .int v1, .int v2, .int v3] Qn := by
  exact gMi.of (by decide +kernel) hls (Nat.le_of_ble_eq_true rfl) rfl rfl (fun p e s m below meth c A X hnm => tX12_setTiming X w)
/-! AnimationControllerModel.setInterruption(IIZ)I -/
abbrev rmX12_setInterruption : Room := { frames := 2, cells := 0, slots := 0, locals := 46 }
def vX12_setInterruption_b77  (Qn : Int32 → gH → Prop) (h : gH) (v4 : Int32) (s0 : Int32) (s1 : Int32) (s2 : Option Nat) : Prop := nn s2 (fun a1 => si h a1 s1 s0 (fun h2 => Qn v4 h2))
set_option maxRecDepth 100000 in
set_option maxHeartbeats 4000000 in
theorem tX12_setInterruption_b77 {p : Program} {l : Launch} {e : Env} {s : State} {m : MethodId} {args : Array Value} {below : List Frame} {meth : Method} {c : Code} {G : gG} {A : Nat → Prop} {Qn : Int32 → gH → Prop} (X : gC p l s m args meth c G A cX12_setInterruption 5 (some FieldType.int) RX12)   {h : gH} {v4 : Int32} {s0 : Int32} {s1 : Int32} {s2 : Option Nat} (w : vX12_setInterruption_b77  Qn h v4 s0 s1 s2) : V p l e rmX12_setInterruption s m args below meth c (MQ below (va_Qi Qn (gB G A) A) args s rmX12_setInterruption.cells rmX12_setInterruption.slots A) G A 5 h 0 0 77 [(4, .int v4)] [.int s0, .int s1, va_rf s2] := by
  obtain ⟨a1, rfl, w⟩ := w
  obtain ⟨N9, g9, hh, hi, w⟩ := w
  refine V_iast X dX12_setInterruption_77 hh hi ?_
  generalize va_up _ _ _ = h2 at w ⊢
  refine V_iload X dX12_setInterruption_78 0 rfl ?_
  exact V_iret X rfl dX12_setInterruption_80 (Nat.le_of_ble_eq_true rfl) (Nat.le_of_ble_eq_true rfl) w
def vX12_setInterruption  (Qn : Int32 → gH → Prop) (h : gH) (v0 : Nat) (v1 : Int32) (v2 : Int32) (v3 : Int32) : Prop := pv h v0 15 25 (.int 0) (fun h1 => io h1 v0 15 (vX12_isTransition (fun x3 h2 => ((¬ (x3 : Int32) = 0) → (vX12_in (fun x5 h4 => ((¬ (x5 : Int32) = 0) → (io h4 v0 15 (vX12_of (fun x7 h6 => gr h6 v0 15 20 (fun r8 => nn r8 (fun a9 => si h6 a9 ((17 * v1) + 5) v2 (fun h10 => gr h10 v0 15 20 (fun r11 => (((v3 : Int32) = 0) → (vX12_setInterruption_b77  Qn h10 x7 0 ((17 * v1) + 6) r11)) ∧ ((¬ (v3 : Int32) = 0) → (vX12_setInterruption_b77  Qn h10 x7 1 ((17 * v1) + 6) r11))))))) h4 v0 v1 5))) ∧ (((x5 : Int32) = 0) → (io h4 v0 15 (vX12_fails (fun x13 h12 => Qn x13 h12) h4 v0 2)))) h2 (Int32.toInt64 v2) 0 4)) ∧ (((x3 : Int32) = 0) → (io h2 v0 15 (vX12_fails (fun x15 h14 => Qn x15 h14) h2 v0 1)))) h1 v0 v1))
set_option maxRecDepth 100000 in
set_option maxHeartbeats 4000000 in
theorem tX12_setInterruption {p : Program} {l : Launch} {e : Env} {s : State} {m : MethodId} {args : Array Value} {below : List Frame} {meth : Method} {c : Code} {G : gG} {A : Nat → Prop} {Qn : Int32 → gH → Prop} (X : gC p l s m args meth c G A cX12_setInterruption 5 (some FieldType.int) RX12)   {h : gH} {v0 : Nat} {v1 : Int32} {v2 : Int32} {v3 : Int32} (w : vX12_setInterruption  Qn h v0 v1 v2 v3) : V p l e rmX12_setInterruption s m args below meth c (MQ below (va_Qi Qn (gB G A) A) args s rmX12_setInterruption.cells rmX12_setInterruption.slots A) G A 5 h 0 0 0 [(0, .ref v0), (1, .int v1), (2, .int v2), (3, .int v3)] [] := by
  refine V_aloadr_n X dX12_setInterruption_0 0 rfl ?_
  refine V_iconst (y := 0) X dX12_setInterruption_1 (by decide) ?_
  obtain ⟨fs, hh, hv, w⟩ := w
  refine V_put X flX12_94 dX12_setInterruption_2 hh hv rfl rfl ?_
  generalize va_up _ _ _ = h1 at w ⊢
  refine V_aloadr_n X dX12_setInterruption_5 0 rfl ?_
  refine V_iload_n X dX12_setInterruption_6 1 rfl ?_
  obtain ⟨fs, hh, w⟩ := w
  refine V_callVi (As := [.int v1]) (rest := []) (k1 := 0) (n1 := 0) X (cX12_isTransition_ok X.2.2.2.2.2.2.2.2.1 w) lkX12_170 hh (q9 := (RX12, TX12, 42)) rfl rfl dX12_setInterruption_7 ⟨Nat.le_of_ble_eq_true rfl, Nat.le_of_ble_eq_true rfl⟩ rfl (Nat.le_of_ble_eq_true rfl) ⟨Nat.le_of_ble_eq_true rfl, Nat.le_of_ble_eq_true rfl⟩ (Nat.le_of_ble_eq_true rfl) (Nat.le_of_ble_eq_true rfl) (fun x3 h2 w9 => ?_)
  replace w := w9
  clear w9
  obtain ⟨w1, w2⟩ := w
  refine V_if_ne (tgt := 19) X dX12_setInterruption_10 (by decide) (fun z => ?_) (fun z => ?_)
  · replace w := w1 z
    clear w1 w2
    refine V_iload_n X dX12_setInterruption_19 2 rfl ?_
    refine V_i2l X dX12_setInterruption_20 ?_
    refine V_lconst (y := 0) X dX12_setInterruption_21 (by decide) ?_
    refine V_ldc2 (y := 4) X dX12_setInterruption_22 kw_1850 ?_
    refine V_callSi (As := [.long (Int32.toInt64 v2), .long 0, .long 4]) (rest := []) (k1 := 0) (n1 := 0) X (cX12_in_ok X.2.2.2.2.2.2.2.2.1 w) lkX12_99 dX12_setInterruption_25 ⟨Nat.le_of_ble_eq_true rfl, Nat.le_of_ble_eq_true rfl⟩ rfl (Nat.le_of_ble_eq_true rfl) ⟨Nat.le_of_ble_eq_true rfl, Nat.le_of_ble_eq_true rfl⟩ (Nat.le_of_ble_eq_true rfl) (Nat.le_of_ble_eq_true rfl) (fun x5 h4 w9 => ?_)
    replace w := w9
    clear w9
    obtain ⟨w1, w2⟩ := w
    refine V_if_ne (tgt := 37) X dX12_setInterruption_28 (by decide) (fun z => ?_) (fun z => ?_)
    · replace w := w1 z
      clear w1 w2
      refine V_aloadr_n X dX12_setInterruption_37 0 rfl ?_
      refine V_iload_n X dX12_setInterruption_38 1 rfl ?_
      refine V_iconst (y := 5) X dX12_setInterruption_39 (by decide) ?_
      obtain ⟨fs, hh, w⟩ := w
      refine V_callVi (As := [.int v1, .int 5]) (rest := []) (k1 := 0) (n1 := 0) X (cX12_of_ok X.2.2.2.2.2.2.2.2.1 w) lkX12_177 hh (q9 := (RX12, TX12, 42)) rfl rfl dX12_setInterruption_40 ⟨Nat.le_of_ble_eq_true rfl, Nat.le_of_ble_eq_true rfl⟩ rfl (Nat.le_of_ble_eq_true rfl) ⟨Nat.le_of_ble_eq_true rfl, Nat.le_of_ble_eq_true rfl⟩ (Nat.le_of_ble_eq_true rfl) (Nat.le_of_ble_eq_true rfl) (fun x7 h6 w9 => ?_)
      replace w := w9
      clear w9
      refine V_istore X dX12_setInterruption_43 (by decide) rfl ?_
      refine V_aloadr_n X dX12_setInterruption_45 1 rfl ?_
      obtain ⟨fs, r8, hh, hv, w⟩ := w
      refine V_get X flX12_59 dX12_setInterruption_46 hh hv ?_
      refine V_bipush (y := 17) X dX12_setInterruption_49 (by decide) ?_
      refine V_iload_n X dX12_setInterruption_51 2 rfl ?_
      refine V_imul X dX12_setInterruption_52 ?_
      refine V_iconst (y := 5) X dX12_setInterruption_53 (by decide) ?_
      refine V_iadd X dX12_setInterruption_54 ?_
      refine V_iload_n X dX12_setInterruption_55 3 rfl ?_
      obtain ⟨a9, rfl, w⟩ := w
      obtain ⟨N9, g9, hh, hi, w⟩ := w
      refine V_iast X dX12_setInterruption_56 hh hi ?_
      generalize va_up _ _ _ = h10 at w ⊢
      refine V_aloadr_n X dX12_setInterruption_57 1 rfl ?_
      obtain ⟨fs, r11, hh, hv, w⟩ := w
      refine V_get X flX12_59 dX12_setInterruption_58 hh hv ?_
      refine V_bipush (y := 17) X dX12_setInterruption_61 (by decide) ?_
      refine V_iload_n X dX12_setInterruption_63 2 rfl ?_
      refine V_imul X dX12_setInterruption_64 ?_
      refine V_bipush (y := 6) X dX12_setInterruption_65 (by decide) ?_
      refine V_iadd X dX12_setInterruption_67 ?_
      refine V_iload_n X dX12_setInterruption_68 4 rfl ?_
      obtain ⟨w1, w2⟩ := w
      refine V_if_eq (tgt := 76) X dX12_setInterruption_69 (by decide) (fun z => ?_) (fun z => ?_)
      · replace w := w1 z
        clear w1 w2
        refine V_iconst (y := 0) X dX12_setInterruption_76 (by decide) ?_
        exact V.sub [0] rfl (tX12_setInterruption_b77 X  w)
      · replace w := w2 z
        clear w1 w2
        refine V_iconst (y := 1) X dX12_setInterruption_72 (by decide) ?_
        refine V_goto (tgt := 77) X dX12_setInterruption_73 (by decide) ?_
        exact V.sub [0] rfl (tX12_setInterruption_b77 X  w)
    · replace w := w2 z
      clear w1 w2
      refine V_aloadr_n X dX12_setInterruption_31 0 rfl ?_
      refine V_iconst (y := 2) X dX12_setInterruption_32 (by decide) ?_
      obtain ⟨fs, hh, w⟩ := w
      refine V_callVi (As := [.int 2]) (rest := []) (k1 := 0) (n1 := 0) X (cX12_fails_ok X.2.2.2.2.2.2.2.2.1 w) lkX12_103 hh (q9 := (RX12, TX12, 42)) rfl rfl dX12_setInterruption_33 ⟨Nat.le_of_ble_eq_true rfl, Nat.le_of_ble_eq_true rfl⟩ rfl (Nat.le_of_ble_eq_true rfl) ⟨Nat.le_of_ble_eq_true rfl, Nat.le_of_ble_eq_true rfl⟩ (Nat.le_of_ble_eq_true rfl) (Nat.le_of_ble_eq_true rfl) (fun x13 h12 w9 => ?_)
      replace w := w9
      clear w9
      exact V_iret X rfl dX12_setInterruption_36 (Nat.le_of_ble_eq_true rfl) (Nat.le_of_ble_eq_true rfl) w
  · replace w := w2 z
    clear w1 w2
    refine V_aloadr_n X dX12_setInterruption_13 0 rfl ?_
    refine V_iconst (y := 1) X dX12_setInterruption_14 (by decide) ?_
    obtain ⟨fs, hh, w⟩ := w
    refine V_callVi (As := [.int 1]) (rest := []) (k1 := 0) (n1 := 0) X (cX12_fails_ok X.2.2.2.2.2.2.2.2.1 w) lkX12_103 hh (q9 := (RX12, TX12, 42)) rfl rfl dX12_setInterruption_15 ⟨Nat.le_of_ble_eq_true rfl, Nat.le_of_ble_eq_true rfl⟩ rfl (Nat.le_of_ble_eq_true rfl) ⟨Nat.le_of_ble_eq_true rfl, Nat.le_of_ble_eq_true rfl⟩ (Nat.le_of_ble_eq_true rfl) (Nat.le_of_ble_eq_true rfl) (fun x15 h14 w9 => ?_)
    replace w := w9
    clear w9
    exact V_iret X rfl dX12_setInterruption_18 (Nat.le_of_ble_eq_true rfl) (Nat.le_of_ble_eq_true rfl) w
theorem cX12_setInterruption_ok {l : Launch} {G : gG} {h : gH} (hls : l.stackTraces = false) {Qn : Int32 → gH → Prop} {v0 : Nat} {v1 : Int32} {v2 : Int32} {v3 : Int32} (w : vX12_setInterruption Qn h v0 v1 v2 v3) : gMi l yX12_setInterruption cX12_setInterruption 5 (some FieldType.int) rmX12_setInterruption rmX12_setInterruption.cells rmX12_setInterruption.slots G h [.ref v0, .int v1, .int v2, .int v3] Qn := by
  exact gMi.of (by decide +kernel) hls (Nat.le_of_ble_eq_true rfl) rfl rfl (fun p e s m below meth c A X hnm => tX12_setInterruption X w)
/-! AnimationControllerModel.condition(IIII)V -/
abbrev rmX12_condition : Room := { frames := 1, cells := 0, slots := 0, locals := 22 }
def vX12_condition  (Qn : gH → Prop) (h : gH) (v0 : Nat) (v1 : Int32) (v2 : Int32) (v3 : Int32) (v4 : Int32) : Prop := io h v0 15 (vX12_of (fun x2 h1 => gr h1 v0 15 20 (fun r3 => nn r3 (fun a4 => si h1 a4 (((17 * v1) + 8) + (3 * x2)) v2 (fun h5 => gr h5 v0 15 20 (fun r6 => nn r6 (fun a7 => si h5 a7 ((((17 * v1) + 8) + (3 * x2)) + 1) v3 (fun h8 => gr h8 v0 15 20 (fun r9 => nn r9 (fun a10 => si h8 a10 ((((17 * v1) + 8) + (3 * x2)) + 2) v4 (fun h11 => gr h11 v0 15 20 (fun r12 => nn r12 (fun a13 => li h11 a13 ((17 * v1) + 7) (fun x14 => si h11 a13 ((17 * v1) + 7) (x14 + 1) (fun h15 => Qn h15)))))))))))))) h v0 v1 7)
set_option maxRecDepth 100000 in
set_option maxHeartbeats 4000000 in
theorem tX12_condition {p : Program} {l : Launch} {e : Env} {s : State} {m : MethodId} {args : Array Value} {below : List Frame} {meth : Method} {c : Code} {G : gG} {A : Nat → Prop} {Qn : gH → Prop} (X : gC p l s m args meth c G A cX12_condition 6 none RX12)   {h : gH} {v0 : Nat} {v1 : Int32} {v2 : Int32} {v3 : Int32} {v4 : Int32} (w : vX12_condition  Qn h v0 v1 v2 v3 v4) : V p l e rmX12_condition s m args below meth c (MQ below (va_Qv Qn (gB G A) A) args s rmX12_condition.cells rmX12_condition.slots A) G A 6 h 0 0 0 [(0, .ref v0), (1, .int v1), (2, .int v2), (3, .int v3), (4, .int v4)] [] := by
  refine V_bipush (y := 17) X dX12_condition_0 (by decide) ?_
  refine V_iload_n X dX12_condition_2 1 rfl ?_
  refine V_imul X dX12_condition_3 ?_
  refine V_bipush (y := 8) X dX12_condition_4 (by decide) ?_
  refine V_iadd X dX12_condition_6 ?_
  refine V_iconst (y := 3) X dX12_condition_7 (by decide) ?_
  refine V_aloadr_n X dX12_condition_8 0 rfl ?_
  refine V_iload_n X dX12_condition_9 1 rfl ?_
  refine V_bipush (y := 7) X dX12_condition_10 (by decide) ?_
  obtain ⟨fs, hh, w⟩ := w
  refine V_callVi (As := [.int v1, .int 7]) (rest := [.int 3, .int ((17 * v1) + 8)]) (k1 := 0) (n1 := 0) X (cX12_of_ok X.2.2.2.2.2.2.2.2.1 w) lkX12_177 hh (q9 := (RX12, TX12, 42)) rfl rfl dX12_condition_12 ⟨Nat.le_of_ble_eq_true rfl, Nat.le_of_ble_eq_true rfl⟩ rfl (Nat.le_of_ble_eq_true rfl) ⟨Nat.le_of_ble_eq_true rfl, Nat.le_of_ble_eq_true rfl⟩ (Nat.le_of_ble_eq_true rfl) (Nat.le_of_ble_eq_true rfl) (fun x2 h1 w9 => ?_)
  replace w := w9
  clear w9
  refine V_imul X dX12_condition_15 ?_
  refine V_iadd X dX12_condition_16 ?_
  refine V_istore X dX12_condition_17 (by decide) rfl ?_
  refine V_aloadr_n X dX12_condition_19 1 rfl ?_
  obtain ⟨fs, r3, hh, hv, w⟩ := w
  refine V_get X flX12_59 dX12_condition_20 hh hv ?_
  refine V_iload X dX12_condition_23 0 rfl ?_
  refine V_iload_n X dX12_condition_25 3 rfl ?_
  obtain ⟨a4, rfl, w⟩ := w
  obtain ⟨N9, g9, hh, hi, w⟩ := w
  refine V_iast X dX12_condition_26 hh hi ?_
  generalize va_up _ _ _ = h5 at w ⊢
  refine V_aloadr_n X dX12_condition_27 1 rfl ?_
  obtain ⟨fs, r6, hh, hv, w⟩ := w
  refine V_get X flX12_59 dX12_condition_28 hh hv ?_
  refine V_iload X dX12_condition_31 0 rfl ?_
  refine V_iconst (y := 1) X dX12_condition_33 (by decide) ?_
  refine V_iadd X dX12_condition_34 ?_
  refine V_iload_n X dX12_condition_35 4 rfl ?_
  obtain ⟨a7, rfl, w⟩ := w
  obtain ⟨N9, g9, hh, hi, w⟩ := w
  refine V_iast X dX12_condition_36 hh hi ?_
  generalize va_up _ _ _ = h8 at w ⊢
  refine V_aloadr_n X dX12_condition_37 1 rfl ?_
  obtain ⟨fs, r9, hh, hv, w⟩ := w
  refine V_get X flX12_59 dX12_condition_38 hh hv ?_
  refine V_iload X dX12_condition_41 0 rfl ?_
  refine V_iconst (y := 2) X dX12_condition_43 (by decide) ?_
  refine V_iadd X dX12_condition_44 ?_
  refine V_iload X dX12_condition_45 5 rfl ?_
  obtain ⟨a10, rfl, w⟩ := w
  obtain ⟨N9, g9, hh, hi, w⟩ := w
  refine V_iast X dX12_condition_47 hh hi ?_
  generalize va_up _ _ _ = h11 at w ⊢
  refine V_aloadr_n X dX12_condition_48 1 rfl ?_
  obtain ⟨fs, r12, hh, hv, w⟩ := w
  refine V_get X flX12_59 dX12_condition_49 hh hv ?_
  refine V_bipush (y := 17) X dX12_condition_52 (by decide) ?_
  refine V_iload_n X dX12_condition_54 2 rfl ?_
  refine V_imul X dX12_condition_55 ?_
  refine V_bipush (y := 7) X dX12_condition_56 (by decide) ?_
  refine V_iadd X dX12_condition_58 ?_
  refine V_dup2 X dX12_condition_59 rfl (va_cat1 _) ?_
  obtain ⟨a13, rfl, w⟩ := w
  obtain ⟨N9, g9, hh, hi, w⟩ := w
  refine V_iald X dX12_condition_60 hh hi ?_
  generalize g9 _ = x14 at w ⊢
  refine V_iconst (y := 1) X dX12_condition_61 (by decide) ?_
  refine V_iadd X dX12_condition_62 ?_
  obtain ⟨N9, g9, hh, hi, w⟩ := w
  refine V_iast X dX12_condition_63 hh hi ?_
  generalize va_up _ _ _ = h15 at w ⊢
  exact V_vret X rfl dX12_condition_64 (Nat.le_of_ble_eq_true rfl) (Nat.le_of_ble_eq_true rfl) w
theorem cX12_condition_ok {l : Launch} {G : gG} {h : gH} (hls : l.stackTraces = false) {Qn : gH → Prop} {v0 : Nat} {v1 : Int32} {v2 : Int32} {v3 : Int32} {v4 : Int32} (w : vX12_condition Qn h v0 v1 v2 v3 v4) : gMv l yX12_condition cX12_condition 6 none rmX12_condition rmX12_condition.cells rmX12_condition.slots G h [.ref v0, .int v1, .int v2, .int v3, .int v4] Qn := by
  exact gMv.of (by decide +kernel) hls (Nat.le_of_ble_eq_true rfl) rfl rfl (fun p e s m below meth c A X hnm => tX12_condition X w)
/-! AnimationControllerModel.addCondition(IIII)I -/
abbrev rmX12_addCondition : Room := { frames := 2, cells := 0, slots := 0, locals := 47 }
def vX12_addCondition_b21  (Qn : Int32 → gH → Prop) (h : gH) (v0 : Nat) : Prop := io h v0 15 (vX12_fails (fun x2 h1 => Qn x2 h1) h v0 1)
set_option maxRecDepth 100000 in
set_option maxHeartbeats 4000000 in
theorem tX12_addCondition_b21 {p : Program} {l : Launch} {e : Env} {s : State} {m : MethodId} {args : Array Value} {below : List Frame} {meth : Method} {c : Code} {G : gG} {A : Nat → Prop} {Qn : Int32 → gH → Prop} (X : gC p l s m args meth c G A cX12_addCondition 7 (some FieldType.int) RX12)   {h : gH} {v0 : Nat} (w : vX12_addCondition_b21  Qn h v0) : V p l e rmX12_addCondition s m args below meth c (MQ below (va_Qi Qn (gB G A) A) args s rmX12_addCondition.cells rmX12_addCondition.slots A) G A 7 h 0 0 21 [(0, .ref v0)] [] := by
  refine V_aloadr_n X dX12_addCondition_21 0 rfl ?_
  refine V_iconst (y := 1) X dX12_addCondition_22 (by decide) ?_
  obtain ⟨fs, hh, w⟩ := w
  refine V_callVi (As := [.int 1]) (rest := []) (k1 := 0) (n1 := 0) X (cX12_fails_ok X.2.2.2.2.2.2.2.2.1 w) lkX12_103 hh (q9 := (RX12, TX12, 42)) rfl rfl dX12_addCondition_23 ⟨Nat.le_of_ble_eq_true rfl, Nat.le_of_ble_eq_true rfl⟩ rfl (Nat.le_of_ble_eq_true rfl) ⟨Nat.le_of_ble_eq_true rfl, Nat.le_of_ble_eq_true rfl⟩ (Nat.le_of_ble_eq_true rfl) (Nat.le_of_ble_eq_true rfl) (fun x2 h1 w9 => ?_)
  replace w := w9
  clear w9
  exact V_iret X rfl dX12_addCondition_26 (Nat.le_of_ble_eq_true rfl) (Nat.le_of_ble_eq_true rfl) w
def vX12_addCondition_b106  (Qn : Int32 → gH → Prop) (h : gH) (v0 : Nat) (v1 : Int32) (v2 : Int32) (v3 : Int32) (v4 : Int32) (s0 : Int32) : Prop := ((¬ (s0 : Int32) = 0) → (io h v0 15 (vX12_of (fun x2 h1 => ((¬ (x2 : Int32) = 3) → (io h1 v0 15 (vX12_condition (fun h3 => io h3 v0 15 (vX12_of (fun x5 h4 => Qn x5 h4) h3 v0 v1 7)) h1 v0 v1 v2 v3 v4))) ∧ (((x2 : Int32) = 3) → (io h1 v0 15 (vX12_fails (fun x7 h6 => Qn x7 h6) h1 v0 3)))) h v0 v1 7))) ∧ (((s0 : Int32) = 0) → (io h v0 15 (vX12_fails (fun x9 h8 => Qn x9 h8) h v0 2)))
set_option maxRecDepth 100000 in
set_option maxHeartbeats 4000000 in
theorem tX12_addCondition_b106 {p : Program} {l : Launch} {e : Env} {s : State} {m : MethodId} {args : Array Value} {below : List Frame} {meth : Method} {c : Code} {G : gG} {A : Nat → Prop} {Qn : Int32 → gH → Prop} (X : gC p l s m args meth c G A cX12_addCondition 7 (some FieldType.int) RX12)   {h : gH} {v0 : Nat} {v1 : Int32} {v2 : Int32} {v3 : Int32} {v4 : Int32} {s0 : Int32} (w : vX12_addCondition_b106  Qn h v0 v1 v2 v3 v4 s0) : V p l e rmX12_addCondition s m args below meth c (MQ below (va_Qi Qn (gB G A) A) args s rmX12_addCondition.cells rmX12_addCondition.slots A) G A 7 h 0 0 106 [(0, .ref v0), (1, .int v1), (2, .int v2), (3, .int v3), (4, .int v4)] [.int s0] := by
  refine V_istore X dX12_addCondition_106 (by decide) rfl ?_
  refine V_iload X dX12_addCondition_108 0 rfl ?_
  obtain ⟨w1, w2⟩ := w
  refine V_if_ne (tgt := 119) X dX12_addCondition_110 (by decide) (fun z => ?_) (fun z => ?_)
  · replace w := w1 z
    clear w1 w2
    refine V_aloadr_n X dX12_addCondition_119 1 rfl ?_
    refine V_iload_n X dX12_addCondition_120 2 rfl ?_
    refine V_bipush (y := 7) X dX12_addCondition_121 (by decide) ?_
    obtain ⟨fs, hh, w⟩ := w
    refine V_callVi (As := [.int v1, .int 7]) (rest := []) (k1 := 0) (n1 := 0) X (cX12_of_ok X.2.2.2.2.2.2.2.2.1 w) lkX12_177 hh (q9 := (RX12, TX12, 42)) rfl rfl dX12_addCondition_123 ⟨Nat.le_of_ble_eq_true rfl, Nat.le_of_ble_eq_true rfl⟩ rfl (Nat.le_of_ble_eq_true rfl) ⟨Nat.le_of_ble_eq_true rfl, Nat.le_of_ble_eq_true rfl⟩ (Nat.le_of_ble_eq_true rfl) (Nat.le_of_ble_eq_true rfl) (fun x2 h1 w9 => ?_)
    replace w := w9
    clear w9
    refine V_iconst (y := 3) X dX12_addCondition_126 (by decide) ?_
    obtain ⟨w1, w2⟩ := w
    refine V_icmp_ne (tgt := 136) X dX12_addCondition_127 (by decide) (fun z => ?_) (fun z => ?_)
    · replace w := w1 z
      clear w1 w2
      refine V_aloadr_n X dX12_addCondition_136 1 rfl ?_
      refine V_iload_n X dX12_addCondition_137 2 rfl ?_
      refine V_iload_n X dX12_addCondition_138 3 rfl ?_
      refine V_iload_n X dX12_addCondition_139 4 rfl ?_
      refine V_iload X dX12_addCondition_140 5 rfl ?_
      obtain ⟨fs, hh, w⟩ := w
      refine V_callVv (As := [.int v1, .int v2, .int v3, .int v4]) (rest := []) (k1 := 0) (n1 := 0) X (cX12_condition_ok X.2.2.2.2.2.2.2.2.1 w) lkX12_182 hh (q9 := (RX12, TX12, 42)) rfl rfl dX12_addCondition_142 ⟨Nat.le_of_ble_eq_true rfl, Nat.le_of_ble_eq_true rfl⟩ rfl (Nat.le_of_ble_eq_true rfl) ⟨Nat.le_of_ble_eq_true rfl, Nat.le_of_ble_eq_true rfl⟩ (Nat.le_of_ble_eq_true rfl) (Nat.le_of_ble_eq_true rfl) (fun h3 w9 => ?_)
      replace w := w9
      clear w9
      refine V_aloadr_n X dX12_addCondition_145 1 rfl ?_
      refine V_iload_n X dX12_addCondition_146 2 rfl ?_
      refine V_bipush (y := 7) X dX12_addCondition_147 (by decide) ?_
      obtain ⟨fs, hh, w⟩ := w
      refine V_callVi (As := [.int v1, .int 7]) (rest := []) (k1 := 0) (n1 := 0) X (cX12_of_ok X.2.2.2.2.2.2.2.2.1 w) lkX12_177 hh (q9 := (RX12, TX12, 42)) rfl rfl dX12_addCondition_149 ⟨Nat.le_of_ble_eq_true rfl, Nat.le_of_ble_eq_true rfl⟩ rfl (Nat.le_of_ble_eq_true rfl) ⟨Nat.le_of_ble_eq_true rfl, Nat.le_of_ble_eq_true rfl⟩ (Nat.le_of_ble_eq_true rfl) (Nat.le_of_ble_eq_true rfl) (fun x5 h4 w9 => ?_)
      replace w := w9
      clear w9
      exact V_iret X rfl dX12_addCondition_152 (Nat.le_of_ble_eq_true rfl) (Nat.le_of_ble_eq_true rfl) w
    · replace w := w2 z
      clear w1 w2
      refine V_aloadr_n X dX12_addCondition_130 1 rfl ?_
      refine V_iconst (y := 3) X dX12_addCondition_131 (by decide) ?_
      obtain ⟨fs, hh, w⟩ := w
      refine V_callVi (As := [.int 3]) (rest := []) (k1 := 0) (n1 := 0) X (cX12_fails_ok X.2.2.2.2.2.2.2.2.1 w) lkX12_103 hh (q9 := (RX12, TX12, 42)) rfl rfl dX12_addCondition_132 ⟨Nat.le_of_ble_eq_true rfl, Nat.le_of_ble_eq_true rfl⟩ rfl (Nat.le_of_ble_eq_true rfl) ⟨Nat.le_of_ble_eq_true rfl, Nat.le_of_ble_eq_true rfl⟩ (Nat.le_of_ble_eq_true rfl) (Nat.le_of_ble_eq_true rfl) (fun x7 h6 w9 => ?_)
      replace w := w9
      clear w9
      exact V_iret X rfl dX12_addCondition_135 (Nat.le_of_ble_eq_true rfl) (Nat.le_of_ble_eq_true rfl) w
  · replace w := w2 z
    clear w1 w2
    refine V_aloadr_n X dX12_addCondition_113 1 rfl ?_
    refine V_iconst (y := 2) X dX12_addCondition_114 (by decide) ?_
    obtain ⟨fs, hh, w⟩ := w
    refine V_callVi (As := [.int 2]) (rest := []) (k1 := 0) (n1 := 0) X (cX12_fails_ok X.2.2.2.2.2.2.2.2.1 w) lkX12_103 hh (q9 := (RX12, TX12, 42)) rfl rfl dX12_addCondition_115 ⟨Nat.le_of_ble_eq_true rfl, Nat.le_of_ble_eq_true rfl⟩ rfl (Nat.le_of_ble_eq_true rfl) ⟨Nat.le_of_ble_eq_true rfl, Nat.le_of_ble_eq_true rfl⟩ (Nat.le_of_ble_eq_true rfl) (Nat.le_of_ble_eq_true rfl) (fun x9 h8 w9 => ?_)
    replace w := w9
    clear w9
    exact V_iret X rfl dX12_addCondition_118 (Nat.le_of_ble_eq_true rfl) (Nat.le_of_ble_eq_true rfl) w
def vX12_addCondition_b105  (Qn : Int32 → gH → Prop) (h : gH) (v0 : Nat) (v1 : Int32) (v2 : Int32) (v3 : Int32) (v4 : Int32) : Prop := vX12_addCondition_b106  Qn h v0 v1 v2 v3 v4 0
set_option maxRecDepth 100000 in
set_option maxHeartbeats 4000000 in
theorem tX12_addCondition_b105 {p : Program} {l : Launch} {e : Env} {s : State} {m : MethodId} {args : Array Value} {below : List Frame} {meth : Method} {c : Code} {G : gG} {A : Nat → Prop} {Qn : Int32 → gH → Prop} (X : gC p l s m args meth c G A cX12_addCondition 7 (some FieldType.int) RX12)   {h : gH} {v0 : Nat} {v1 : Int32} {v2 : Int32} {v3 : Int32} {v4 : Int32} (w : vX12_addCondition_b105  Qn h v0 v1 v2 v3 v4) : V p l e rmX12_addCondition s m args below meth c (MQ below (va_Qi Qn (gB G A) A) args s rmX12_addCondition.cells rmX12_addCondition.slots A) G A 7 h 0 0 105 [(0, .ref v0), (1, .int v1), (2, .int v2), (3, .int v3), (4, .int v4)] [] := by
  refine V_iconst (y := 0) X dX12_addCondition_105 (by decide) ?_
  exact V.sub [0, 1, 2, 3, 4] rfl (tX12_addCondition_b106 X  w)
def vX12_addCondition_b94  (Qn : Int32 → gH → Prop) (h : gH) (v0 : Nat) (v1 : Int32) (v2 : Int32) (v3 : Int32) (v4 : Int32) (s0 : Int64) (s1 : Int64) : Prop := vX12_in (fun x2 h1 => (((x2 : Int32) = 0) → (vX12_addCondition_b105  Qn h1 v0 v1 v2 v3 v4)) ∧ ((¬ (x2 : Int32) = 0) → (vX12_addCondition_b106  Qn h1 v0 v1 v2 v3 v4 1))) h s1 s0 1
set_option maxRecDepth 100000 in
set_option maxHeartbeats 4000000 in
theorem tX12_addCondition_b94 {p : Program} {l : Launch} {e : Env} {s : State} {m : MethodId} {args : Array Value} {below : List Frame} {meth : Method} {c : Code} {G : gG} {A : Nat → Prop} {Qn : Int32 → gH → Prop} (X : gC p l s m args meth c G A cX12_addCondition 7 (some FieldType.int) RX12)   {h : gH} {v0 : Nat} {v1 : Int32} {v2 : Int32} {v3 : Int32} {v4 : Int32} {s0 : Int64} {s1 : Int64} (w : vX12_addCondition_b94  Qn h v0 v1 v2 v3 v4 s0 s1) : V p l e rmX12_addCondition s m args below meth c (MQ below (va_Qi Qn (gB G A) A) args s rmX12_addCondition.cells rmX12_addCondition.slots A) G A 7 h 0 0 94 [(0, .ref v0), (1, .int v1), (2, .int v2), (3, .int v3), (4, .int v4)] [.long s0, .long s1] := by
  refine V_lconst (y := 1) X dX12_addCondition_94 (by decide) ?_
  refine V_callSi (As := [.long s1, .long s0, .long 1]) (rest := []) (k1 := 0) (n1 := 0) X (cX12_in_ok X.2.2.2.2.2.2.2.2.1 w) lkX12_99 dX12_addCondition_95 ⟨Nat.le_of_ble_eq_true rfl, Nat.le_of_ble_eq_true rfl⟩ rfl (Nat.le_of_ble_eq_true rfl) ⟨Nat.le_of_ble_eq_true rfl, Nat.le_of_ble_eq_true rfl⟩ (Nat.le_of_ble_eq_true rfl) (Nat.le_of_ble_eq_true rfl) (fun x2 h1 w9 => ?_)
  replace w := w9
  clear w9
  obtain ⟨w1, w2⟩ := w
  refine V_if_eq (tgt := 105) X dX12_addCondition_98 (by decide) (fun z => ?_) (fun z => ?_)
  · replace w := w1 z
    clear w1 w2
    exact V.sub [0, 1, 2, 3, 4] rfl (tX12_addCondition_b105 X  w)
  · replace w := w2 z
    clear w1 w2
    refine V_iconst (y := 1) X dX12_addCondition_101 (by decide) ?_
    refine V_goto (tgt := 106) X dX12_addCondition_102 (by decide) ?_
    exact V.sub [0, 1, 2, 3, 4] rfl (tX12_addCondition_b106 X  w)
def vX12_addCondition_b71  (Qn : Int32 → gH → Prop) (h : gH) (v0 : Nat) (v1 : Int32) (v2 : Int32) (v3 : Int32) (v4 : Int32) : Prop := vX12_addCondition_b106  Qn h v0 v1 v2 v3 v4 0
set_option maxRecDepth 100000 in
set_option maxHeartbeats 4000000 in
theorem tX12_addCondition_b71 {p : Program} {l : Launch} {e : Env} {s : State} {m : MethodId} {args : Array Value} {below : List Frame} {meth : Method} {c : Code} {G : gG} {A : Nat → Prop} {Qn : Int32 → gH → Prop} (X : gC p l s m args meth c G A cX12_addCondition 7 (some FieldType.int) RX12)   {h : gH} {v0 : Nat} {v1 : Int32} {v2 : Int32} {v3 : Int32} {v4 : Int32} (w : vX12_addCondition_b71  Qn h v0 v1 v2 v3 v4) : V p l e rmX12_addCondition s m args below meth c (MQ below (va_Qi Qn (gB G A) A) args s rmX12_addCondition.cells rmX12_addCondition.slots A) G A 7 h 0 0 71 [(0, .ref v0), (1, .int v1), (2, .int v2), (3, .int v3), (4, .int v4)] [] := by
  refine V_iconst (y := 0) X dX12_addCondition_71 (by decide) ?_
  refine V_goto (tgt := 106) X dX12_addCondition_72 (by decide) ?_
  exact V.sub [0, 1, 2, 3, 4] rfl (tX12_addCondition_b106 X  w)
def vX12_addCondition  (Qn : Int32 → gH → Prop) (h : gH) (v0 : Nat) (v1 : Int32) (v2 : Int32) (v3 : Int32) (v4 : Int32) : Prop := pv h v0 15 25 (.int 0) (fun h1 => io h1 v0 15 (vX12_isTransition (fun x3 h2 => (((x3 : Int32) = 0) → (vX12_addCondition_b21  Qn h2 v0)) ∧ ((¬ (x3 : Int32) = 0) → (io h2 v0 15 (vX12_isParameter (fun x5 h4 => ((¬ (x5 : Int32) = 0) → (gr h4 v0 15 2 (fun r6 => nn r6 (fun a7 => li h4 a7 v2 (fun x8 => ((¬ (x8 : Int32) = 0) → (((¬ (v3 : Int32) = 2) → (vX12_addCondition_b105  Qn h4 v0 v1 v2 v3 v4)) ∧ (((v3 : Int32) = 2) → (((¬ (x8 : Int32) = 1) → (vX12_addCondition_b94  Qn h4 v0 v1 v2 v3 v4 1 (Int32.toInt64 v4))) ∧ (((x8 : Int32) = 1) → (vX12_addCondition_b94  Qn h4 v0 v1 v2 v3 v4 0 (Int32.toInt64 v4))))))) ∧ (((x8 : Int32) = 0) → (vX12_in (fun x10 h9 => (((x10 : Int32) = 0) → (vX12_addCondition_b71  Qn h9 v0 v1 v2 v3 v4)) ∧ ((¬ (x10 : Int32) = 0) → (vX12_in (fun x12 h11 => (((x12 : Int32) = 0) → (vX12_addCondition_b71  Qn h11 v0 v1 v2 v3 v4)) ∧ ((¬ (x12 : Int32) = 0) → (vX12_addCondition_b106  Qn h11 v0 v1 v2 v3 v4 1))) h9 (Int32.toInt64 v4) (-100) 100))) h4 (Int32.toInt64 v3) 0 3))))))) ∧ (((x5 : Int32) = 0) → (vX12_addCondition_b21  Qn h4 v0))) h2 v0 v2)))) h1 v0 v1))
set_option maxRecDepth 100000 in
set_option maxHeartbeats 4000000 in
theorem tX12_addCondition {p : Program} {l : Launch} {e : Env} {s : State} {m : MethodId} {args : Array Value} {below : List Frame} {meth : Method} {c : Code} {G : gG} {A : Nat → Prop} {Qn : Int32 → gH → Prop} (X : gC p l s m args meth c G A cX12_addCondition 7 (some FieldType.int) RX12)   {h : gH} {v0 : Nat} {v1 : Int32} {v2 : Int32} {v3 : Int32} {v4 : Int32} (w : vX12_addCondition  Qn h v0 v1 v2 v3 v4) : V p l e rmX12_addCondition s m args below meth c (MQ below (va_Qi Qn (gB G A) A) args s rmX12_addCondition.cells rmX12_addCondition.slots A) G A 7 h 0 0 0 [(0, .ref v0), (1, .int v1), (2, .int v2), (3, .int v3), (4, .int v4)] [] := by
  refine V_aloadr_n X dX12_addCondition_0 0 rfl ?_
  refine V_iconst (y := 0) X dX12_addCondition_1 (by decide) ?_
  obtain ⟨fs, hh, hv, w⟩ := w
  refine V_put X flX12_94 dX12_addCondition_2 hh hv rfl rfl ?_
  generalize va_up _ _ _ = h1 at w ⊢
  refine V_aloadr_n X dX12_addCondition_5 0 rfl ?_
  refine V_iload_n X dX12_addCondition_6 1 rfl ?_
  obtain ⟨fs, hh, w⟩ := w
  refine V_callVi (As := [.int v1]) (rest := []) (k1 := 0) (n1 := 0) X (cX12_isTransition_ok X.2.2.2.2.2.2.2.2.1 w) lkX12_170 hh (q9 := (RX12, TX12, 42)) rfl rfl dX12_addCondition_7 ⟨Nat.le_of_ble_eq_true rfl, Nat.le_of_ble_eq_true rfl⟩ rfl (Nat.le_of_ble_eq_true rfl) ⟨Nat.le_of_ble_eq_true rfl, Nat.le_of_ble_eq_true rfl⟩ (Nat.le_of_ble_eq_true rfl) (Nat.le_of_ble_eq_true rfl) (fun x3 h2 w9 => ?_)
  replace w := w9
  clear w9
  obtain ⟨w1, w2⟩ := w
  refine V_if_eq (tgt := 21) X dX12_addCondition_10 (by decide) (fun z => ?_) (fun z => ?_)
  · replace w := w1 z
    clear w1 w2
    exact V.sub [0] rfl (tX12_addCondition_b21 X  w)
  · replace w := w2 z
    clear w1 w2
    refine V_aloadr_n X dX12_addCondition_13 0 rfl ?_
    refine V_iload_n X dX12_addCondition_14 2 rfl ?_
    obtain ⟨fs, hh, w⟩ := w
    refine V_callVi (As := [.int v2]) (rest := []) (k1 := 0) (n1 := 0) X (cX12_isParameter_ok X.2.2.2.2.2.2.2.2.1 w) lkX12_110 hh (q9 := (RX12, TX12, 42)) rfl rfl dX12_addCondition_15 ⟨Nat.le_of_ble_eq_true rfl, Nat.le_of_ble_eq_true rfl⟩ rfl (Nat.le_of_ble_eq_true rfl) ⟨Nat.le_of_ble_eq_true rfl, Nat.le_of_ble_eq_true rfl⟩ (Nat.le_of_ble_eq_true rfl) (Nat.le_of_ble_eq_true rfl) (fun x5 h4 w9 => ?_)
    replace w := w9
    clear w9
    obtain ⟨w1, w2⟩ := w
    refine V_if_ne (tgt := 27) X dX12_addCondition_18 (by decide) (fun z => ?_) (fun z => ?_)
    · replace w := w1 z
      clear w1 w2
      refine V_aloadr_n X dX12_addCondition_27 0 rfl ?_
      obtain ⟨fs, r6, hh, hv, w⟩ := w
      refine V_get X flX12_17 dX12_addCondition_28 hh hv ?_
      refine V_iload_n X dX12_addCondition_31 2 rfl ?_
      obtain ⟨a7, rfl, w⟩ := w
      obtain ⟨N9, g9, hh, hi, w⟩ := w
      refine V_iald X dX12_addCondition_32 hh hi ?_
      generalize g9 _ = x8 at w ⊢
      refine V_istore X dX12_addCondition_33 (by decide) rfl ?_
      refine V_iload X dX12_addCondition_35 0 rfl ?_
      obtain ⟨w1, w2⟩ := w
      refine V_if_ne (tgt := 75) X dX12_addCondition_37 (by decide) (fun z => ?_) (fun z => ?_)
      · replace w := w1 z
        clear w1 w2
        refine V_iload_n X dX12_addCondition_75 4 rfl ?_
        refine V_iconst (y := 2) X dX12_addCondition_76 (by decide) ?_
        obtain ⟨w1, w2⟩ := w
        refine V_icmp_ne (tgt := 105) X dX12_addCondition_77 (by decide) (fun z => ?_) (fun z => ?_)
        · replace w := w1 z
          clear w1 w2
          exact V.sub [1, 2, 3, 4, 5] rfl (tX12_addCondition_b105 X  w)
        · replace w := w2 z
          clear w1 w2
          refine V_iload X dX12_addCondition_80 5 rfl ?_
          refine V_i2l X dX12_addCondition_82 ?_
          refine V_iload X dX12_addCondition_83 0 rfl ?_
          refine V_iconst (y := 1) X dX12_addCondition_85 (by decide) ?_
          obtain ⟨w1, w2⟩ := w
          refine V_icmp_ne (tgt := 93) X dX12_addCondition_86 (by decide) (fun z => ?_) (fun z => ?_)
          · replace w := w1 z
            clear w1 w2
            refine V_lconst (y := 1) X dX12_addCondition_93 (by decide) ?_
            exact V.sub [1, 2, 3, 4, 5] rfl (tX12_addCondition_b94 X  w)
          · replace w := w2 z
            clear w1 w2
            refine V_lconst (y := 0) X dX12_addCondition_89 (by decide) ?_
            refine V_goto (tgt := 94) X dX12_addCondition_90 (by decide) ?_
            exact V.sub [1, 2, 3, 4, 5] rfl (tX12_addCondition_b94 X  w)
      · replace w := w2 z
        clear w1 w2
        refine V_iload_n X dX12_addCondition_40 4 rfl ?_
        refine V_i2l X dX12_addCondition_41 ?_
        refine V_lconst (y := 0) X dX12_addCondition_42 (by decide) ?_
        refine V_ldc2 (y := 3) X dX12_addCondition_43 kw_1810 ?_
        refine V_callSi (As := [.long (Int32.toInt64 v3), .long 0, .long 3]) (rest := []) (k1 := 0) (n1 := 0) X (cX12_in_ok X.2.2.2.2.2.2.2.2.1 w) lkX12_99 dX12_addCondition_46 ⟨Nat.le_of_ble_eq_true rfl, Nat.le_of_ble_eq_true rfl⟩ rfl (Nat.le_of_ble_eq_true rfl) ⟨Nat.le_of_ble_eq_true rfl, Nat.le_of_ble_eq_true rfl⟩ (Nat.le_of_ble_eq_true rfl) (Nat.le_of_ble_eq_true rfl) (fun x10 h9 w9 => ?_)
        replace w := w9
        clear w9
        obtain ⟨w1, w2⟩ := w
        refine V_if_eq (tgt := 71) X dX12_addCondition_49 (by decide) (fun z => ?_) (fun z => ?_)
        · replace w := w1 z
          clear w1 w2
          exact V.sub [1, 2, 3, 4, 5] rfl (tX12_addCondition_b71 X  w)
        · replace w := w2 z
          clear w1 w2
          refine V_iload X dX12_addCondition_52 5 rfl ?_
          refine V_i2l X dX12_addCondition_54 ?_
          refine V_ldc2 (y := (-100)) X dX12_addCondition_55 kw_1761 ?_
          refine V_ldc2 (y := 100) X dX12_addCondition_58 kw_1762 ?_
          refine V_callSi (As := [.long (Int32.toInt64 v4), .long (-100), .long 100]) (rest := []) (k1 := 0) (n1 := 0) X (cX12_in_ok X.2.2.2.2.2.2.2.2.1 w) lkX12_99 dX12_addCondition_61 ⟨Nat.le_of_ble_eq_true rfl, Nat.le_of_ble_eq_true rfl⟩ rfl (Nat.le_of_ble_eq_true rfl) ⟨Nat.le_of_ble_eq_true rfl, Nat.le_of_ble_eq_true rfl⟩ (Nat.le_of_ble_eq_true rfl) (Nat.le_of_ble_eq_true rfl) (fun x12 h11 w9 => ?_)
          replace w := w9
          clear w9
          obtain ⟨w1, w2⟩ := w
          refine V_if_eq (tgt := 71) X dX12_addCondition_64 (by decide) (fun z => ?_) (fun z => ?_)
          · replace w := w1 z
            clear w1 w2
            exact V.sub [1, 2, 3, 4, 5] rfl (tX12_addCondition_b71 X  w)
          · replace w := w2 z
            clear w1 w2
            refine V_iconst (y := 1) X dX12_addCondition_67 (by decide) ?_
            refine V_goto (tgt := 106) X dX12_addCondition_68 (by decide) ?_
            exact V.sub [1, 2, 3, 4, 5] rfl (tX12_addCondition_b106 X  w)
    · replace w := w2 z
      clear w1 w2
      exact V.sub [0] rfl (tX12_addCondition_b21 X  w)
theorem cX12_addCondition_ok {l : Launch} {G : gG} {h : gH} (hls : l.stackTraces = false) {Qn : Int32 → gH → Prop} {v0 : Nat} {v1 : Int32} {v2 : Int32} {v3 : Int32} {v4 : Int32} (w : vX12_addCondition Qn h v0 v1 v2 v3 v4) : gMi l yX12_addCondition cX12_addCondition 7 (some FieldType.int) rmX12_addCondition rmX12_addCondition.cells rmX12_addCondition.slots G h [.ref v0, .int v1, .int v2, .int v3, .int v4] Qn := by
  exact gMi.of (by decide +kernel) hls (Nat.le_of_ble_eq_true rfl) rfl rfl (fun p e s m below meth c A X hnm => tX12_addCondition X w)
/-! AnimationControllerModel.setThreshold(I)I -/
abbrev rmX12_setThreshold : Room := { frames := 1, cells := 0, slots := 0, locals := 25 }
def vX12_setThreshold  (Qn : Int32 → gH → Prop) (h : gH) (v0 : Nat) (v1 : Int32) : Prop := pv h v0 15 25 (.int 0) (fun h1 => vX12_in (fun x3 h2 => ((¬ (x3 : Int32) = 0) → (gi h2 v0 15 22 (fun x4 => pv h2 v0 15 22 (.int v1) (fun h5 => Qn x4 h5)))) ∧ (((x3 : Int32) = 0) → (io h2 v0 15 (vX12_fails (fun x7 h6 => Qn x7 h6) h2 v0 1)))) h1 (Int32.toInt64 v1) 0 100)
set_option maxRecDepth 100000 in
set_option maxHeartbeats 4000000 in
theorem tX12_setThreshold {p : Program} {l : Launch} {e : Env} {s : State} {m : MethodId} {args : Array Value} {below : List Frame} {meth : Method} {c : Code} {G : gG} {A : Nat → Prop} {Qn : Int32 → gH → Prop} (X : gC p l s m args meth c G A cX12_setThreshold 3 (some FieldType.int) RX12)   {h : gH} {v0 : Nat} {v1 : Int32} (w : vX12_setThreshold  Qn h v0 v1) : V p l e rmX12_setThreshold s m args below meth c (MQ below (va_Qi Qn (gB G A) A) args s rmX12_setThreshold.cells rmX12_setThreshold.slots A) G A 3 h 0 0 0 [(0, .ref v0), (1, .int v1)] [] := by
  refine V_aloadr_n X dX12_setThreshold_0 0 rfl ?_
  refine V_iconst (y := 0) X dX12_setThreshold_1 (by decide) ?_
  obtain ⟨fs, hh, hv, w⟩ := w
  refine V_put X flX12_94 dX12_setThreshold_2 hh hv rfl rfl ?_
  generalize va_up _ _ _ = h1 at w ⊢
  refine V_iload_n X dX12_setThreshold_5 1 rfl ?_
  refine V_i2l X dX12_setThreshold_6 ?_
  refine V_lconst (y := 0) X dX12_setThreshold_7 (by decide) ?_
  refine V_ldc2 (y := 100) X dX12_setThreshold_8 kw_1762 ?_
  refine V_callSi (As := [.long (Int32.toInt64 v1), .long 0, .long 100]) (rest := []) (k1 := 0) (n1 := 0) X (cX12_in_ok X.2.2.2.2.2.2.2.2.1 w) lkX12_99 dX12_setThreshold_11 ⟨Nat.le_of_ble_eq_true rfl, Nat.le_of_ble_eq_true rfl⟩ rfl (Nat.le_of_ble_eq_true rfl) ⟨Nat.le_of_ble_eq_true rfl, Nat.le_of_ble_eq_true rfl⟩ (Nat.le_of_ble_eq_true rfl) (Nat.le_of_ble_eq_true rfl) (fun x3 h2 w9 => ?_)
  replace w := w9
  clear w9
  obtain ⟨w1, w2⟩ := w
  refine V_if_ne (tgt := 23) X dX12_setThreshold_14 (by decide) (fun z => ?_) (fun z => ?_)
  · replace w := w1 z
    clear w1 w2
    refine V_aloadr_n X dX12_setThreshold_23 0 rfl ?_
    obtain ⟨fs, x4, hh, hv, w⟩ := w
    refine V_get X flX12_62 dX12_setThreshold_24 hh hv ?_
    refine V_istore_n X dX12_setThreshold_27 rfl (by decide) rfl ?_
    refine V_aloadr_n X dX12_setThreshold_28 1 rfl ?_
    refine V_iload_n X dX12_setThreshold_29 2 rfl ?_
    obtain ⟨fs, hh, hv, w⟩ := w
    refine V_put X flX12_62 dX12_setThreshold_30 hh hv rfl rfl ?_
    generalize va_up _ _ _ = h5 at w ⊢
    refine V_iload_n X dX12_setThreshold_33 0 rfl ?_
    exact V_iret X rfl dX12_setThreshold_34 (Nat.le_of_ble_eq_true rfl) (Nat.le_of_ble_eq_true rfl) w
  · replace w := w2 z
    clear w1 w2
    refine V_aloadr_n X dX12_setThreshold_17 0 rfl ?_
    refine V_iconst (y := 1) X dX12_setThreshold_18 (by decide) ?_
    obtain ⟨fs, hh, w⟩ := w
    refine V_callVi (As := [.int 1]) (rest := []) (k1 := 0) (n1 := 0) X (cX12_fails_ok X.2.2.2.2.2.2.2.2.1 w) lkX12_103 hh (q9 := (RX12, TX12, 42)) rfl rfl dX12_setThreshold_19 ⟨Nat.le_of_ble_eq_true rfl, Nat.le_of_ble_eq_true rfl⟩ rfl (Nat.le_of_ble_eq_true rfl) ⟨Nat.le_of_ble_eq_true rfl, Nat.le_of_ble_eq_true rfl⟩ (Nat.le_of_ble_eq_true rfl) (Nat.le_of_ble_eq_true rfl) (fun x7 h6 w9 => ?_)
    replace w := w9
    clear w9
    exact V_iret X rfl dX12_setThreshold_22 (Nat.le_of_ble_eq_true rfl) (Nat.le_of_ble_eq_true rfl) w
theorem cX12_setThreshold_ok {l : Launch} {G : gG} {h : gH} (hls : l.stackTraces = false) {Qn : Int32 → gH → Prop} {v0 : Nat} {v1 : Int32} (w : vX12_setThreshold Qn h v0 v1) : gMi l yX12_setThreshold cX12_setThreshold 3 (some FieldType.int) rmX12_setThreshold rmX12_setThreshold.cells rmX12_setThreshold.slots G h [.ref v0, .int v1] Qn := by
  exact gMi.of (by decide +kernel) hls (Nat.le_of_ble_eq_true rfl) rfl rfl (fun p e s m below meth c A X hnm => tX12_setThreshold X w)
/-! AnimationControllerModel.type(I)I -/
abbrev rmX12_type : Room := { frames := 1, cells := 0, slots := 0, locals := 25 }
def vX12_type  (Qn : Int32 → gH → Prop) (h : gH) (v0 : Nat) (v1 : Int32) : Prop := pv h v0 15 25 (.int 0) (fun h1 => vX12_in (fun x3 h2 => ((¬ (x3 : Int32) = 0) → (gi h2 v0 15 24 (fun x4 => ((¬ (x4 : Int32) = 150) → (gr h2 v0 15 23 (fun r5 => gi h2 v0 15 24 (fun x6 => nn r5 (fun a7 => si h2 a7 x6 v1 (fun h8 => gi h8 v0 15 24 (fun x9 => pv h8 v0 15 24 (.int (x9 + 1)) (fun h10 => gi h10 v0 15 24 (fun x11 => Qn x11 h10))))))))) ∧ (((x4 : Int32) = 150) → (io h2 v0 15 (vX12_fails (fun x13 h12 => Qn x13 h12) h2 v0 2)))))) ∧ (((x3 : Int32) = 0) → (io h2 v0 15 (vX12_fails (fun x15 h14 => Qn x15 h14) h2 v0 1)))) h1 (Int32.toInt64 v1) 0 255)
set_option maxRecDepth 100000 in
set_option maxHeartbeats 4000000 in
theorem tX12_type {p : Program} {l : Launch} {e : Env} {s : State} {m : MethodId} {args : Array Value} {below : List Frame} {meth : Method} {c : Code} {G : gG} {A : Nat → Prop} {Qn : Int32 → gH → Prop} (X : gC p l s m args meth c G A cX12_type 2 (some FieldType.int) RX12)   {h : gH} {v0 : Nat} {v1 : Int32} (w : vX12_type  Qn h v0 v1) : V p l e rmX12_type s m args below meth c (MQ below (va_Qi Qn (gB G A) A) args s rmX12_type.cells rmX12_type.slots A) G A 2 h 0 0 0 [(0, .ref v0), (1, .int v1)] [] := by
  refine V_aloadr_n X dX12_type_0 0 rfl ?_
  refine V_iconst (y := 0) X dX12_type_1 (by decide) ?_
  obtain ⟨fs, hh, hv, w⟩ := w
  refine V_put X flX12_94 dX12_type_2 hh hv rfl rfl ?_
  generalize va_up _ _ _ = h1 at w ⊢
  refine V_iload_n X dX12_type_5 1 rfl ?_
  refine V_i2l X dX12_type_6 ?_
  refine V_lconst (y := 0) X dX12_type_7 (by decide) ?_
  refine V_ldc2 (y := 255) X dX12_type_8 kw_1867 ?_
  refine V_callSi (As := [.long (Int32.toInt64 v1), .long 0, .long 255]) (rest := []) (k1 := 0) (n1 := 0) X (cX12_in_ok X.2.2.2.2.2.2.2.2.1 w) lkX12_99 dX12_type_11 ⟨Nat.le_of_ble_eq_true rfl, Nat.le_of_ble_eq_true rfl⟩ rfl (Nat.le_of_ble_eq_true rfl) ⟨Nat.le_of_ble_eq_true rfl, Nat.le_of_ble_eq_true rfl⟩ (Nat.le_of_ble_eq_true rfl) (Nat.le_of_ble_eq_true rfl) (fun x3 h2 w9 => ?_)
  replace w := w9
  clear w9
  obtain ⟨w1, w2⟩ := w
  refine V_if_ne (tgt := 23) X dX12_type_14 (by decide) (fun z => ?_) (fun z => ?_)
  · replace w := w1 z
    clear w1 w2
    refine V_aloadr_n X dX12_type_23 0 rfl ?_
    obtain ⟨fs, x4, hh, hv, w⟩ := w
    refine V_get X flX12_188 dX12_type_24 hh hv ?_
    refine V_sipush (y := 150) X dX12_type_27 (by decide) ?_
    obtain ⟨w1, w2⟩ := w
    refine V_icmp_ne (tgt := 39) X dX12_type_30 (by decide) (fun z => ?_) (fun z => ?_)
    · replace w := w1 z
      clear w1 w2
      refine V_aloadr_n X dX12_type_39 0 rfl ?_
      obtain ⟨fs, r5, hh, hv, w⟩ := w
      refine V_get X flX12_66 dX12_type_40 hh hv ?_
      refine V_aloadr_n X dX12_type_43 0 rfl ?_
      obtain ⟨fs, x6, hh, hv, w⟩ := w
      refine V_get X flX12_188 dX12_type_44 hh hv ?_
      refine V_iload_n X dX12_type_47 1 rfl ?_
      obtain ⟨a7, rfl, w⟩ := w
      obtain ⟨N9, g9, hh, hi, w⟩ := w
      refine V_iast X dX12_type_48 hh hi ?_
      generalize va_up _ _ _ = h8 at w ⊢
      refine V_aloadr_n X dX12_type_49 0 rfl ?_
      refine V_dup X dX12_type_50 rfl ?_
      obtain ⟨fs, x9, hh, hv, w⟩ := w
      refine V_get X flX12_188 dX12_type_51 hh hv ?_
      refine V_iconst (y := 1) X dX12_type_54 (by decide) ?_
      refine V_iadd X dX12_type_55 ?_
      obtain ⟨fs, hh, hv, w⟩ := w
      refine V_put X flX12_188 dX12_type_56 hh hv rfl rfl ?_
      generalize va_up _ _ _ = h10 at w ⊢
      refine V_aloadr_n X dX12_type_59 0 rfl ?_
      obtain ⟨fs, x11, hh, hv, w⟩ := w
      refine V_get X flX12_188 dX12_type_60 hh hv ?_
      exact V_iret X rfl dX12_type_63 (Nat.le_of_ble_eq_true rfl) (Nat.le_of_ble_eq_true rfl) w
    · replace w := w2 z
      clear w1 w2
      refine V_aloadr_n X dX12_type_33 0 rfl ?_
      refine V_iconst (y := 2) X dX12_type_34 (by decide) ?_
      obtain ⟨fs, hh, w⟩ := w
      refine V_callVi (As := [.int 2]) (rest := []) (k1 := 0) (n1 := 0) X (cX12_fails_ok X.2.2.2.2.2.2.2.2.1 w) lkX12_103 hh (q9 := (RX12, TX12, 42)) rfl rfl dX12_type_35 ⟨Nat.le_of_ble_eq_true rfl, Nat.le_of_ble_eq_true rfl⟩ rfl (Nat.le_of_ble_eq_true rfl) ⟨Nat.le_of_ble_eq_true rfl, Nat.le_of_ble_eq_true rfl⟩ (Nat.le_of_ble_eq_true rfl) (Nat.le_of_ble_eq_true rfl) (fun x13 h12 w9 => ?_)
      replace w := w9
      clear w9
      exact V_iret X rfl dX12_type_38 (Nat.le_of_ble_eq_true rfl) (Nat.le_of_ble_eq_true rfl) w
  · replace w := w2 z
    clear w1 w2
    refine V_aloadr_n X dX12_type_17 0 rfl ?_
    refine V_iconst (y := 1) X dX12_type_18 (by decide) ?_
    obtain ⟨fs, hh, w⟩ := w
    refine V_callVi (As := [.int 1]) (rest := []) (k1 := 0) (n1 := 0) X (cX12_fails_ok X.2.2.2.2.2.2.2.2.1 w) lkX12_103 hh (q9 := (RX12, TX12, 42)) rfl rfl dX12_type_19 ⟨Nat.le_of_ble_eq_true rfl, Nat.le_of_ble_eq_true rfl⟩ rfl (Nat.le_of_ble_eq_true rfl) ⟨Nat.le_of_ble_eq_true rfl, Nat.le_of_ble_eq_true rfl⟩ (Nat.le_of_ble_eq_true rfl) (Nat.le_of_ble_eq_true rfl) (fun x15 h14 w9 => ?_)
    replace w := w9
    clear w9
    exact V_iret X rfl dX12_type_22 (Nat.le_of_ble_eq_true rfl) (Nat.le_of_ble_eq_true rfl) w
theorem cX12_type_ok {l : Launch} {G : gG} {h : gH} (hls : l.stackTraces = false) {Qn : Int32 → gH → Prop} {v0 : Nat} {v1 : Int32} (w : vX12_type Qn h v0 v1) : gMi l yX12_type cX12_type 2 (some FieldType.int) rmX12_type rmX12_type.cells rmX12_type.slots G h [.ref v0, .int v1] Qn := by
  exact gMi.of (by decide +kernel) hls (Nat.le_of_ble_eq_true rfl) rfl rfl (fun p e s m below meth c A X hnm => tX12_type X w)
/-! AnimationControllerModel.clearText()I -/
abbrev rmX12_clearText : Room := { frames := 0, cells := 0, slots := 0, locals := 0 }
def vX12_clearText  (Qn : Int32 → gH → Prop) (h : gH) (v0 : Nat) : Prop := pv h v0 15 25 (.int 0) (fun h1 => gi h1 v0 15 24 (fun x2 => pv h1 v0 15 24 (.int 0) (fun h3 => Qn x2 h3)))
set_option maxRecDepth 100000 in
set_option maxHeartbeats 4000000 in
theorem tX12_clearText {p : Program} {l : Launch} {e : Env} {s : State} {m : MethodId} {args : Array Value} {below : List Frame} {meth : Method} {c : Code} {G : gG} {A : Nat → Prop} {Qn : Int32 → gH → Prop} (X : gC p l s m args meth c G A cX12_clearText 2 (some FieldType.int) RX12)   {h : gH} {v0 : Nat} (w : vX12_clearText  Qn h v0) : V p l e rmX12_clearText s m args below meth c (MQ below (va_Qi Qn (gB G A) A) args s rmX12_clearText.cells rmX12_clearText.slots A) G A 2 h 0 0 0 [(0, .ref v0)] [] := by
  refine V_aloadr_n X dX12_clearText_0 0 rfl ?_
  refine V_iconst (y := 0) X dX12_clearText_1 (by decide) ?_
  obtain ⟨fs, hh, hv, w⟩ := w
  refine V_put X flX12_94 dX12_clearText_2 hh hv rfl rfl ?_
  generalize va_up _ _ _ = h1 at w ⊢
  refine V_aloadr_n X dX12_clearText_5 0 rfl ?_
  obtain ⟨fs, x2, hh, hv, w⟩ := w
  refine V_get X flX12_188 dX12_clearText_6 hh hv ?_
  refine V_istore_n X dX12_clearText_9 rfl (by decide) rfl ?_
  refine V_aloadr_n X dX12_clearText_10 1 rfl ?_
  refine V_iconst (y := 0) X dX12_clearText_11 (by decide) ?_
  obtain ⟨fs, hh, hv, w⟩ := w
  refine V_put X flX12_188 dX12_clearText_12 hh hv rfl rfl ?_
  generalize va_up _ _ _ = h3 at w ⊢
  refine V_iload_n X dX12_clearText_15 0 rfl ?_
  exact V_iret X rfl dX12_clearText_16 (Nat.le_of_ble_eq_true rfl) (Nat.le_of_ble_eq_true rfl) w
theorem cX12_clearText_ok {l : Launch} {G : gG} {h : gH} (hls : l.stackTraces = false) {Qn : Int32 → gH → Prop} {v0 : Nat} (w : vX12_clearText Qn h v0) : gMi l yX12_clearText cX12_clearText 2 (some FieldType.int) rmX12_clearText rmX12_clearText.cells rmX12_clearText.slots G h [.ref v0] Qn := by
  exact gMi.of (by decide +kernel) hls (Nat.le_of_ble_eq_true rfl) rfl rfl (fun p e s m below meth c A X hnm => tX12_clearText X w)
/-! AnimationControllerModel.skips()V -/
abbrev rmX12_skips : Room := { frames := 0, cells := 0, slots := 0, locals := 0 }
def vX12_skips_b38  (Qn : gH → Prop) (h : gH)  : Prop := Qn h
set_option maxRecDepth 100000 in
set_option maxHeartbeats 4000000 in
theorem tX12_skips_b38 {p : Program} {l : Launch} {e : Env} {s : State} {m : MethodId} {args : Array Value} {below : List Frame} {meth : Method} {c : Code} {G : gG} {A : Nat → Prop} {Qn : gH → Prop} (X : gC p l s m args meth c G A cX12_skips 1 none RX12)   {h : gH}  (w : vX12_skips_b38  Qn h ) : V p l e rmX12_skips s m args below meth c (MQ below (va_Qv Qn (gB G A) A) args s rmX12_skips.cells rmX12_skips.slots A) G A 1 h 0 0 38 [] [] := by
  exact V_vret X rfl dX12_skips_38 (Nat.le_of_ble_eq_true rfl) (Nat.le_of_ble_eq_true rfl) w
def vX12_skips_b0_o (k0 : gH → Nat → Prop) (Qn : gH → Prop) (h : gH) (v0 : Nat) : Prop := gi h v0 15 30 (fun x1 => gi h v0 15 24 (fun x2 => ((x2 ≤ (x1 : Int32)) → (vX12_skips_b38  Qn h )) ∧ ((¬ x2 ≤ (x1 : Int32)) → (gr h v0 15 23 (fun r3 => gi h v0 15 30 (fun x4 => nn r3 (fun a5 => li h a5 x4 (fun x6 => ((¬ (x6 : Int32) = 32) → (vX12_skips_b38  Qn h )) ∧ (((x6 : Int32) = 32) → (gi h v0 15 30 (fun x7 => pv h v0 15 30 (.int (x7 + 1)) (fun h8 => k0 h8 v0))))))))))))
set_option maxRecDepth 100000 in
set_option maxHeartbeats 4000000 in
theorem tX12_skips_b0_o {p : Program} {l : Launch} {e : Env} {s : State} {m : MethodId} {args : Array Value} {below : List Frame} {meth : Method} {c : Code} {G : gG} {A : Nat → Prop} {Qn : gH → Prop} (X : gC p l s m args meth c G A cX12_skips 1 none RX12) {k0 : gH → Nat → Prop} (H0 : ∀ (h : gH) (v0 : Nat), k0 h v0 → V p l e rmX12_skips s m args below meth c (MQ below (va_Qv Qn (gB G A) A) args s rmX12_skips.cells rmX12_skips.slots A) G A 1 h 0 0 0 [(0, .ref v0)] []) {h : gH} {v0 : Nat} (w : vX12_skips_b0_o k0 Qn h v0) : V p l e rmX12_skips s m args below meth c (MQ below (va_Qv Qn (gB G A) A) args s rmX12_skips.cells rmX12_skips.slots A) G A 1 h 0 0 0 [(0, .ref v0)] [] := by
  refine V_aloadr_n X dX12_skips_0 0 rfl ?_
  obtain ⟨fs, x1, hh, hv, w⟩ := w
  refine V_get X flX12_191 dX12_skips_1 hh hv ?_
  refine V_aloadr_n X dX12_skips_4 0 rfl ?_
  obtain ⟨fs, x2, hh, hv, w⟩ := w
  refine V_get X flX12_188 dX12_skips_5 hh hv ?_
  obtain ⟨w1, w2⟩ := w
  refine V_icmp_ge (tgt := 38) X dX12_skips_8 (by decide) (fun z => ?_) (fun z => ?_)
  · replace w := w1 z
    clear w1 w2
    exact V.sub [] rfl (tX12_skips_b38 X  w)
  · replace w := w2 z
    clear w1 w2
    refine V_aloadr_n X dX12_skips_11 0 rfl ?_
    obtain ⟨fs, r3, hh, hv, w⟩ := w
    refine V_get X flX12_66 dX12_skips_12 hh hv ?_
    refine V_aloadr_n X dX12_skips_15 0 rfl ?_
    obtain ⟨fs, x4, hh, hv, w⟩ := w
    refine V_get X flX12_191 dX12_skips_16 hh hv ?_
    obtain ⟨a5, rfl, w⟩ := w
    obtain ⟨N9, g9, hh, hi, w⟩ := w
    refine V_iald X dX12_skips_19 hh hi ?_
    generalize g9 _ = x6 at w ⊢
    refine V_bipush (y := 32) X dX12_skips_20 (by decide) ?_
    obtain ⟨w1, w2⟩ := w
    refine V_icmp_ne (tgt := 38) X dX12_skips_22 (by decide) (fun z => ?_) (fun z => ?_)
    · replace w := w1 z
      clear w1 w2
      exact V.sub [] rfl (tX12_skips_b38 X  w)
    · replace w := w2 z
      clear w1 w2
      refine V_aloadr_n X dX12_skips_25 0 rfl ?_
      refine V_dup X dX12_skips_26 rfl ?_
      obtain ⟨fs, x7, hh, hv, w⟩ := w
      refine V_get X flX12_191 dX12_skips_27 hh hv ?_
      refine V_iconst (y := 1) X dX12_skips_30 (by decide) ?_
      refine V_iadd X dX12_skips_31 ?_
      obtain ⟨fs, hh, hv, w⟩ := w
      refine V_put X flX12_191 dX12_skips_32 hh hv rfl rfl ?_
      generalize va_up _ _ _ = h8 at w ⊢
      refine V_goto (tgt := 0) X dX12_skips_35 (by decide) ?_
      exact V.sub [0] rfl (H0 _ _ w)
def vX12_skips_b0  (Qn : gH → Prop) (n : Nat) : gH → Nat → Prop := Nat.rec (motive := fun _ => gH → Nat → Prop) (fun _ _ => False) (fun _ k0 => vX12_skips_b0_o k0 Qn) n
theorem tX12_skips_b0 {p : Program} {l : Launch} {e : Env} {s : State} {m : MethodId} {args : Array Value} {below : List Frame} {meth : Method} {c : Code} {G : gG} {A : Nat → Prop} {Qn : gH → Prop} (X : gC p l s m args meth c G A cX12_skips 1 none RX12)   : ∀ (n : Nat) (h : gH) (v0 : Nat) (w : vX12_skips_b0  Qn n h v0), V p l e rmX12_skips s m args below meth c (MQ below (va_Qv Qn (gB G A) A) args s rmX12_skips.cells rmX12_skips.slots A) G A 1 h 0 0 0 [(0, .ref v0)] [] := by
  intro n
  induction n with
  | zero => intro h v0 w; exact False.elim w
  | succ n ih => intro h v0 w; exact tX12_skips_b0_o X ih w
def vX12_skips  (Qn : gH → Prop) (h : gH) (v0 : Nat) : Prop := gi h v0 15 30 (fun x1 => gi h v0 15 24 (fun x2 => ((x2 ≤ (x1 : Int32)) → (vX12_skips_b38  Qn h )) ∧ ((¬ x2 ≤ (x1 : Int32)) → (gr h v0 15 23 (fun r3 => gi h v0 15 30 (fun x4 => nn r3 (fun a5 => li h a5 x4 (fun x6 => ((¬ (x6 : Int32) = 32) → (vX12_skips_b38  Qn h )) ∧ (((x6 : Int32) = 32) → (gi h v0 15 30 (fun x7 => pv h v0 15 30 (.int (x7 + 1)) (fun h8 => ∃ n : Nat, vX12_skips_b0  Qn n h8 v0))))))))))))
set_option maxRecDepth 100000 in
set_option maxHeartbeats 4000000 in
theorem tX12_skips {p : Program} {l : Launch} {e : Env} {s : State} {m : MethodId} {args : Array Value} {below : List Frame} {meth : Method} {c : Code} {G : gG} {A : Nat → Prop} {Qn : gH → Prop} (X : gC p l s m args meth c G A cX12_skips 1 none RX12)   {h : gH} {v0 : Nat} (w : vX12_skips  Qn h v0) : V p l e rmX12_skips s m args below meth c (MQ below (va_Qv Qn (gB G A) A) args s rmX12_skips.cells rmX12_skips.slots A) G A 1 h 0 0 0 [(0, .ref v0)] [] := by
  refine V_aloadr_n X dX12_skips_0 0 rfl ?_
  obtain ⟨fs, x1, hh, hv, w⟩ := w
  refine V_get X flX12_191 dX12_skips_1 hh hv ?_
  refine V_aloadr_n X dX12_skips_4 0 rfl ?_
  obtain ⟨fs, x2, hh, hv, w⟩ := w
  refine V_get X flX12_188 dX12_skips_5 hh hv ?_
  obtain ⟨w1, w2⟩ := w
  refine V_icmp_ge (tgt := 38) X dX12_skips_8 (by decide) (fun z => ?_) (fun z => ?_)
  · replace w := w1 z
    clear w1 w2
    exact V.sub [] rfl (tX12_skips_b38 X  w)
  · replace w := w2 z
    clear w1 w2
    refine V_aloadr_n X dX12_skips_11 0 rfl ?_
    obtain ⟨fs, r3, hh, hv, w⟩ := w
    refine V_get X flX12_66 dX12_skips_12 hh hv ?_
    refine V_aloadr_n X dX12_skips_15 0 rfl ?_
    obtain ⟨fs, x4, hh, hv, w⟩ := w
    refine V_get X flX12_191 dX12_skips_16 hh hv ?_
    obtain ⟨a5, rfl, w⟩ := w
    obtain ⟨N9, g9, hh, hi, w⟩ := w
    refine V_iald X dX12_skips_19 hh hi ?_
    generalize g9 _ = x6 at w ⊢
    refine V_bipush (y := 32) X dX12_skips_20 (by decide) ?_
    obtain ⟨w1, w2⟩ := w
    refine V_icmp_ne (tgt := 38) X dX12_skips_22 (by decide) (fun z => ?_) (fun z => ?_)
    · replace w := w1 z
      clear w1 w2
      exact V.sub [] rfl (tX12_skips_b38 X  w)
    · replace w := w2 z
      clear w1 w2
      refine V_aloadr_n X dX12_skips_25 0 rfl ?_
      refine V_dup X dX12_skips_26 rfl ?_
      obtain ⟨fs, x7, hh, hv, w⟩ := w
      refine V_get X flX12_191 dX12_skips_27 hh hv ?_
      refine V_iconst (y := 1) X dX12_skips_30 (by decide) ?_
      refine V_iadd X dX12_skips_31 ?_
      obtain ⟨fs, hh, hv, w⟩ := w
      refine V_put X flX12_191 dX12_skips_32 hh hv rfl rfl ?_
      generalize va_up _ _ _ = h8 at w ⊢
      refine V_goto (tgt := 0) X dX12_skips_35 (by decide) ?_
      obtain ⟨n9, w⟩ := w
      exact V.sub [0] rfl (tX12_skips_b0 X  n9 _ _ w)
theorem cX12_skips_ok {l : Launch} {G : gG} {h : gH} (hls : l.stackTraces = false) {Qn : gH → Prop} {v0 : Nat} (w : vX12_skips Qn h v0) : gMv l yX12_skips cX12_skips 1 none rmX12_skips rmX12_skips.cells rmX12_skips.slots G h [.ref v0] Qn := by
  exact gMv.of (by decide +kernel) hls (Nat.le_of_ble_eq_true rfl) rfl rfl (fun p e s m below meth c A X hnm => tX12_skips X w)
/-! AnimationControllerModel.here(I)Z -/
abbrev rmX12_here : Room := { frames := 0, cells := 0, slots := 0, locals := 0 }
def vX12_here_b29  (Qn : Int32 → gH → Prop) (h : gH) (s0 : Int32) : Prop := gZ s0 ∧ Qn s0 h
set_option maxRecDepth 100000 in
set_option maxHeartbeats 4000000 in
theorem tX12_here_b29 {p : Program} {l : Launch} {e : Env} {s : State} {m : MethodId} {args : Array Value} {below : List Frame} {meth : Method} {c : Code} {G : gG} {A : Nat → Prop} {Qn : Int32 → gH → Prop} (X : gC p l s m args meth c G A cX12_here 2 (some FieldType.boolean) RX12)   {h : gH} {s0 : Int32} (w : vX12_here_b29  Qn h s0) : V p l e rmX12_here s m args below meth c (MQ below (va_Qi Qn (gB G A) A) args s rmX12_here.cells rmX12_here.slots A) G A 2 h 0 0 29 [] [.int s0] := by
  obtain ⟨hz, w⟩ := w
  exact V_zret X rfl hz.1 dX12_here_29 (Nat.le_of_ble_eq_true rfl) (Nat.le_of_ble_eq_true rfl) w
def vX12_here_b28  (Qn : Int32 → gH → Prop) (h : gH)  : Prop := vX12_here_b29  Qn h 0
set_option maxRecDepth 100000 in
set_option maxHeartbeats 4000000 in
theorem tX12_here_b28 {p : Program} {l : Launch} {e : Env} {s : State} {m : MethodId} {args : Array Value} {below : List Frame} {meth : Method} {c : Code} {G : gG} {A : Nat → Prop} {Qn : Int32 → gH → Prop} (X : gC p l s m args meth c G A cX12_here 2 (some FieldType.boolean) RX12)   {h : gH}  (w : vX12_here_b28  Qn h ) : V p l e rmX12_here s m args below meth c (MQ below (va_Qi Qn (gB G A) A) args s rmX12_here.cells rmX12_here.slots A) G A 2 h 0 0 28 [] [] := by
  refine V_iconst (y := 0) X dX12_here_28 (by decide) ?_
  exact V.sub [] rfl (tX12_here_b29 X  w)
def vX12_here  (Qn : Int32 → gH → Prop) (h : gH) (v0 : Nat) (v1 : Int32) : Prop := gi h v0 15 30 (fun x1 => gi h v0 15 24 (fun x2 => ((x2 ≤ (x1 : Int32)) → (vX12_here_b28  Qn h )) ∧ ((¬ x2 ≤ (x1 : Int32)) → (gr h v0 15 23 (fun r3 => gi h v0 15 30 (fun x4 => nn r3 (fun a5 => li h a5 x4 (fun x6 => ((¬ (x6 : Int32) = v1) → (vX12_here_b28  Qn h )) ∧ (((x6 : Int32) = v1) → (vX12_here_b29  Qn h 1))))))))))
set_option maxRecDepth 100000 in
set_option maxHeartbeats 4000000 in
theorem tX12_here {p : Program} {l : Launch} {e : Env} {s : State} {m : MethodId} {args : Array Value} {below : List Frame} {meth : Method} {c : Code} {G : gG} {A : Nat → Prop} {Qn : Int32 → gH → Prop} (X : gC p l s m args meth c G A cX12_here 2 (some FieldType.boolean) RX12)   {h : gH} {v0 : Nat} {v1 : Int32} (w : vX12_here  Qn h v0 v1) : V p l e rmX12_here s m args below meth c (MQ below (va_Qi Qn (gB G A) A) args s rmX12_here.cells rmX12_here.slots A) G A 2 h 0 0 0 [(0, .ref v0), (1, .int v1)] [] := by
  refine V_aloadr_n X dX12_here_0 0 rfl ?_
  obtain ⟨fs, x1, hh, hv, w⟩ := w
  refine V_get X flX12_191 dX12_here_1 hh hv ?_
  refine V_aloadr_n X dX12_here_4 0 rfl ?_
  obtain ⟨fs, x2, hh, hv, w⟩ := w
  refine V_get X flX12_188 dX12_here_5 hh hv ?_
  obtain ⟨w1, w2⟩ := w
  refine V_icmp_ge (tgt := 28) X dX12_here_8 (by decide) (fun z => ?_) (fun z => ?_)
  · replace w := w1 z
    clear w1 w2
    exact V.sub [] rfl (tX12_here_b28 X  w)
  · replace w := w2 z
    clear w1 w2
    refine V_aloadr_n X dX12_here_11 0 rfl ?_
    obtain ⟨fs, r3, hh, hv, w⟩ := w
    refine V_get X flX12_66 dX12_here_12 hh hv ?_
    refine V_aloadr_n X dX12_here_15 0 rfl ?_
    obtain ⟨fs, x4, hh, hv, w⟩ := w
    refine V_get X flX12_191 dX12_here_16 hh hv ?_
    obtain ⟨a5, rfl, w⟩ := w
    obtain ⟨N9, g9, hh, hi, w⟩ := w
    refine V_iald X dX12_here_19 hh hi ?_
    generalize g9 _ = x6 at w ⊢
    refine V_iload_n X dX12_here_20 1 rfl ?_
    obtain ⟨w1, w2⟩ := w
    refine V_icmp_ne (tgt := 28) X dX12_here_21 (by decide) (fun z => ?_) (fun z => ?_)
    · replace w := w1 z
      clear w1 w2
      exact V.sub [] rfl (tX12_here_b28 X  w)
    · replace w := w2 z
      clear w1 w2
      refine V_iconst (y := 1) X dX12_here_24 (by decide) ?_
      refine V_goto (tgt := 29) X dX12_here_25 (by decide) ?_
      exact V.sub [] rfl (tX12_here_b29 X  w)
theorem cX12_here_ok {l : Launch} {G : gG} {h : gH} (hls : l.stackTraces = false) {Qn : Int32 → gH → Prop} {v0 : Nat} {v1 : Int32} (w : vX12_here Qn h v0 v1) : gMi l yX12_here cX12_here 2 (some FieldType.boolean) rmX12_here rmX12_here.cells rmX12_here.slots G h [.ref v0, .int v1] Qn := by
  exact gMi.of (by decide +kernel) hls (Nat.le_of_ble_eq_true rfl) rfl rfl (fun p e s m below meth c A X hnm => tX12_here X w)
/-! AnimationControllerModel.reads(I)V -/
abbrev rmX12_reads : Room := { frames := 1, cells := 0, slots := 0, locals := 21 }
def vX12_reads_b45  (Qn : gH → Prop) (h : gH) (s0 : Int32) (s1 : Int32) (s2 : Nat) : Prop := pv h s2 15 30 (.int (s1 + s0)) (fun h1 => Qn h1)
set_option maxRecDepth 100000 in
set_option maxHeartbeats 4000000 in
theorem tX12_reads_b45 {p : Program} {l : Launch} {e : Env} {s : State} {m : MethodId} {args : Array Value} {below : List Frame} {meth : Method} {c : Code} {G : gG} {A : Nat → Prop} {Qn : gH → Prop} (X : gC p l s m args meth c G A cX12_reads 2 none RX12)   {h : gH} {s0 : Int32} {s1 : Int32} {s2 : Nat} (w : vX12_reads_b45  Qn h s0 s1 s2) : V p l e rmX12_reads s m args below meth c (MQ below (va_Qv Qn (gB G A) A) args s rmX12_reads.cells rmX12_reads.slots A) G A 2 h 0 0 45 [] [.int s0, .int s1, .ref s2] := by
  refine V_iadd X dX12_reads_45 ?_
  obtain ⟨fs, hh, hv, w⟩ := w
  refine V_put X flX12_191 dX12_reads_46 hh hv rfl rfl ?_
  generalize va_up _ _ _ = h1 at w ⊢
  exact V_vret X rfl dX12_reads_49 (Nat.le_of_ble_eq_true rfl) (Nat.le_of_ble_eq_true rfl) w
def vX12_reads_b25  (Qn : gH → Prop) (h : gH) (v0 : Nat) (s0 : Int32) (s1 : Nat) : Prop := gZ s0 ∧ (pv h s1 15 31 (.int s0) (fun h1 => gi h1 v0 15 30 (fun x2 => gi h1 v0 15 31 (fun x3 => (((x3 : Int32) = 0) → (vX12_reads_b45  Qn h1 0 x2 v0)) ∧ ((¬ (x3 : Int32) = 0) → (vX12_reads_b45  Qn h1 1 x2 v0))))))
set_option maxRecDepth 100000 in
set_option maxHeartbeats 4000000 in
theorem tX12_reads_b25 {p : Program} {l : Launch} {e : Env} {s : State} {m : MethodId} {args : Array Value} {below : List Frame} {meth : Method} {c : Code} {G : gG} {A : Nat → Prop} {Qn : gH → Prop} (X : gC p l s m args meth c G A cX12_reads 2 none RX12)   {h : gH} {v0 : Nat} {s0 : Int32} {s1 : Nat} (w : vX12_reads_b25  Qn h v0 s0 s1) : V p l e rmX12_reads s m args below meth c (MQ below (va_Qv Qn (gB G A) A) args s rmX12_reads.cells rmX12_reads.slots A) G A 2 h 0 0 25 [(0, .ref v0)] [.int s0, .ref s1] := by
  obtain ⟨hz, w⟩ := w
  obtain ⟨fs, hh, hv, w⟩ := w
  refine V_put X flX12_197 dX12_reads_25 hh hv hz.1 hz.2 ?_
  generalize va_up _ _ _ = h1 at w ⊢
  refine V_aloadr_n X dX12_reads_28 0 rfl ?_
  refine V_dup X dX12_reads_29 rfl ?_
  obtain ⟨fs, x2, hh, hv, w⟩ := w
  refine V_get X flX12_191 dX12_reads_30 hh hv ?_
  refine V_aloadr_n X dX12_reads_33 0 rfl ?_
  obtain ⟨fs, x3, hh, hv, w⟩ := w
  refine V_get X flX12_197 dX12_reads_34 hh hv ?_
  obtain ⟨w1, w2⟩ := w
  refine V_if_eq (tgt := 44) X dX12_reads_37 (by decide) (fun z => ?_) (fun z => ?_)
  · replace w := w1 z
    clear w1 w2
    refine V_iconst (y := 0) X dX12_reads_44 (by decide) ?_
    exact V.sub [] rfl (tX12_reads_b45 X  w)
  · replace w := w2 z
    clear w1 w2
    refine V_iconst (y := 1) X dX12_reads_40 (by decide) ?_
    refine V_goto (tgt := 45) X dX12_reads_41 (by decide) ?_
    exact V.sub [] rfl (tX12_reads_b45 X  w)
def vX12_reads_b24  (Qn : gH → Prop) (h : gH) (v0 : Nat) (s0 : Nat) : Prop := vX12_reads_b25  Qn h v0 0 s0
set_option maxRecDepth 100000 in
set_option maxHeartbeats 4000000 in
theorem tX12_reads_b24 {p : Program} {l : Launch} {e : Env} {s : State} {m : MethodId} {args : Array Value} {below : List Frame} {meth : Method} {c : Code} {G : gG} {A : Nat → Prop} {Qn : gH → Prop} (X : gC p l s m args meth c G A cX12_reads 2 none RX12)   {h : gH} {v0 : Nat} {s0 : Nat} (w : vX12_reads_b24  Qn h v0 s0) : V p l e rmX12_reads s m args below meth c (MQ below (va_Qv Qn (gB G A) A) args s rmX12_reads.cells rmX12_reads.slots A) G A 2 h 0 0 24 [(0, .ref v0)] [.ref s0] := by
  refine V_iconst (y := 0) X dX12_reads_24 (by decide) ?_
  exact V.sub [0] rfl (tX12_reads_b25 X  w)
def vX12_reads  (Qn : gH → Prop) (h : gH) (v0 : Nat) (v1 : Int32) : Prop := io h v0 15 (vX12_skips (fun h1 => gi h1 v0 15 31 (fun x2 => (((x2 : Int32) = 0) → (vX12_reads_b24  Qn h1 v0 v0)) ∧ ((¬ (x2 : Int32) = 0) → (io h1 v0 15 (vX12_here (fun x4 h3 => (((x4 : Int32) = 0) → (vX12_reads_b24  Qn h3 v0 v0)) ∧ ((¬ (x4 : Int32) = 0) → (vX12_reads_b25  Qn h3 v0 1 v0))) h1 v0 v1))))) h v0 )
set_option maxRecDepth 100000 in
set_option maxHeartbeats 4000000 in
theorem tX12_reads {p : Program} {l : Launch} {e : Env} {s : State} {m : MethodId} {args : Array Value} {below : List Frame} {meth : Method} {c : Code} {G : gG} {A : Nat → Prop} {Qn : gH → Prop} (X : gC p l s m args meth c G A cX12_reads 2 none RX12)   {h : gH} {v0 : Nat} {v1 : Int32} (w : vX12_reads  Qn h v0 v1) : V p l e rmX12_reads s m args below meth c (MQ below (va_Qv Qn (gB G A) A) args s rmX12_reads.cells rmX12_reads.slots A) G A 2 h 0 0 0 [(0, .ref v0), (1, .int v1)] [] := by
  refine V_aloadr_n X dX12_reads_0 0 rfl ?_
  obtain ⟨fs, hh, w⟩ := w
  refine V_callVv (As := []) (rest := []) (k1 := 0) (n1 := 0) X (cX12_skips_ok X.2.2.2.2.2.2.2.2.1 w) lkX12_194 hh (q9 := (RX12, TX12, 42)) rfl rfl dX12_reads_1 ⟨Nat.le_of_ble_eq_true rfl, Nat.le_of_ble_eq_true rfl⟩ rfl (Nat.le_of_ble_eq_true rfl) ⟨Nat.le_of_ble_eq_true rfl, Nat.le_of_ble_eq_true rfl⟩ (Nat.le_of_ble_eq_true rfl) (Nat.le_of_ble_eq_true rfl) (fun h1 w9 => ?_)
  replace w := w9
  clear w9
  refine V_aloadr_n X dX12_reads_4 0 rfl ?_
  refine V_aloadr_n X dX12_reads_5 0 rfl ?_
  obtain ⟨fs, x2, hh, hv, w⟩ := w
  refine V_get X flX12_197 dX12_reads_6 hh hv ?_
  obtain ⟨w1, w2⟩ := w
  refine V_if_eq (tgt := 24) X dX12_reads_9 (by decide) (fun z => ?_) (fun z => ?_)
  · replace w := w1 z
    clear w1 w2
    exact V.sub [0] rfl (tX12_reads_b24 X  w)
  · replace w := w2 z
    clear w1 w2
    refine V_aloadr_n X dX12_reads_12 0 rfl ?_
    refine V_iload_n X dX12_reads_13 1 rfl ?_
    obtain ⟨fs, hh, w⟩ := w
    refine V_callVi (As := [.int v1]) (rest := [.ref v0]) (k1 := 0) (n1 := 0) X (cX12_here_ok X.2.2.2.2.2.2.2.2.1 w) lkX12_201 hh (q9 := (RX12, TX12, 42)) rfl rfl dX12_reads_14 ⟨Nat.le_of_ble_eq_true rfl, Nat.le_of_ble_eq_true rfl⟩ rfl (Nat.le_of_ble_eq_true rfl) ⟨Nat.le_of_ble_eq_true rfl, Nat.le_of_ble_eq_true rfl⟩ (Nat.le_of_ble_eq_true rfl) (Nat.le_of_ble_eq_true rfl) (fun x4 h3 w9 => ?_)
    replace w := w9
    clear w9
    obtain ⟨w1, w2⟩ := w
    refine V_if_eq (tgt := 24) X dX12_reads_17 (by decide) (fun z => ?_) (fun z => ?_)
    · replace w := w1 z
      clear w1 w2
      exact V.sub [0] rfl (tX12_reads_b24 X  w)
    · replace w := w2 z
      clear w1 w2
      refine V_iconst (y := 1) X dX12_reads_20 (by decide) ?_
      refine V_goto (tgt := 25) X dX12_reads_21 (by decide) ?_
      exact V.sub [0] rfl (tX12_reads_b25 X  w)
theorem cX12_reads_ok {l : Launch} {G : gG} {h : gH} (hls : l.stackTraces = false) {Qn : gH → Prop} {v0 : Nat} {v1 : Int32} (w : vX12_reads Qn h v0 v1) : gMv l yX12_reads cX12_reads 2 none rmX12_reads rmX12_reads.cells rmX12_reads.slots G h [.ref v0, .int v1] Qn := by
  exact gMv.of (by decide +kernel) hls (Nat.le_of_ble_eq_true rfl) rfl rfl (fun p e s m below meth c A X hnm => tX12_reads X w)
/-! AnimationControllerModel.readsNumber(I)V -/
abbrev rmX12_readsNumber : Room := { frames := 1, cells := 0, slots := 0, locals := 25 }
def vX12_readsNumber_b145  (Qn : gH → Prop) (h : gH) (v0 : Nat) (v3 : Int32) (s0 : Int32) (s1 : Nat) : Prop := pv h s1 15 30 (.int s0) (fun h1 => pv h1 v0 15 33 (.int v3) (fun h2 => Qn h2))
set_option maxRecDepth 100000 in
set_option maxHeartbeats 4000000 in
theorem tX12_readsNumber_b145 {p : Program} {l : Launch} {e : Env} {s : State} {m : MethodId} {args : Array Value} {below : List Frame} {meth : Method} {c : Code} {G : gG} {A : Nat → Prop} {Qn : gH → Prop} (X : gC p l s m args meth c G A cX12_readsNumber 5 none RX12)   {h : gH} {v0 : Nat} {v3 : Int32} {s0 : Int32} {s1 : Nat} (w : vX12_readsNumber_b145  Qn h v0 v3 s0 s1) : V p l e rmX12_readsNumber s m args below meth c (MQ below (va_Qv Qn (gB G A) A) args s rmX12_readsNumber.cells rmX12_readsNumber.slots A) G A 5 h 0 0 145 [(0, .ref v0), (3, .int v3)] [.int s0, .ref s1] := by
  obtain ⟨fs, hh, hv, w⟩ := w
  refine V_put X flX12_191 dX12_readsNumber_145 hh hv rfl rfl ?_
  generalize va_up _ _ _ = h1 at w ⊢
  refine V_aloadr_n X dX12_readsNumber_148 0 rfl ?_
  refine V_iload_n X dX12_readsNumber_149 1 rfl ?_
  obtain ⟨fs, hh, hv, w⟩ := w
  refine V_put X flX12_208 dX12_readsNumber_150 hh hv rfl rfl ?_
  generalize va_up _ _ _ = h2 at w ⊢
  exact V_vret X rfl dX12_readsNumber_153 (Nat.le_of_ble_eq_true rfl) (Nat.le_of_ble_eq_true rfl) w
def vX12_readsNumber_b126  (Qn : gH → Prop) (h : gH) (v0 : Nat) (v2 : Int32) (v3 : Int32) (v4 : Int32) (s0 : Int32) (s1 : Nat) : Prop := gZ s0 ∧ (pv h s1 15 31 (.int s0) (fun h1 => gi h1 v0 15 31 (fun x2 => (((x2 : Int32) = 0) → (vX12_readsNumber_b145  Qn h1 v0 v3 v2 v0)) ∧ ((¬ (x2 : Int32) = 0) → (vX12_readsNumber_b145  Qn h1 v0 v3 (v2 + v4) v0)))))
set_option maxRecDepth 100000 in
set_option maxHeartbeats 4000000 in
theorem tX12_readsNumber_b126 {p : Program} {l : Launch} {e : Env} {s : State} {m : MethodId} {args : Array Value} {below : List Frame} {meth : Method} {c : Code} {G : gG} {A : Nat → Prop} {Qn : gH → Prop} (X : gC p l s m args meth c G A cX12_readsNumber 5 none RX12)   {h : gH} {v0 : Nat} {v2 : Int32} {v3 : Int32} {v4 : Int32} {s0 : Int32} {s1 : Nat} (w : vX12_readsNumber_b126  Qn h v0 v2 v3 v4 s0 s1) : V p l e rmX12_readsNumber s m args below meth c (MQ below (va_Qv Qn (gB G A) A) args s rmX12_readsNumber.cells rmX12_readsNumber.slots A) G A 5 h 0 0 126 [(0, .ref v0), (2, .int v2), (3, .int v3), (4, .int v4)] [.int s0, .ref s1] := by
  obtain ⟨hz, w⟩ := w
  obtain ⟨fs, hh, hv, w⟩ := w
  refine V_put X flX12_197 dX12_readsNumber_126 hh hv hz.1 hz.2 ?_
  generalize va_up _ _ _ = h1 at w ⊢
  refine V_aloadr_n X dX12_readsNumber_129 0 rfl ?_
  refine V_aloadr_n X dX12_readsNumber_130 0 rfl ?_
  obtain ⟨fs, x2, hh, hv, w⟩ := w
  refine V_get X flX12_197 dX12_readsNumber_131 hh hv ?_
  obtain ⟨w1, w2⟩ := w
  refine V_if_eq (tgt := 144) X dX12_readsNumber_134 (by decide) (fun z => ?_) (fun z => ?_)
  · replace w := w1 z
    clear w1 w2
    refine V_iload_n X dX12_readsNumber_144 1 rfl ?_
    exact V.sub [0, 2] rfl (tX12_readsNumber_b145 X  w)
  · replace w := w2 z
    clear w1 w2
    refine V_iload_n X dX12_readsNumber_137 1 rfl ?_
    refine V_iload X dX12_readsNumber_138 3 rfl ?_
    refine V_iadd X dX12_readsNumber_140 ?_
    refine V_goto (tgt := 145) X dX12_readsNumber_141 (by decide) ?_
    exact V.sub [0, 2] rfl (tX12_readsNumber_b145 X  w)
def vX12_readsNumber_b125  (Qn : gH → Prop) (h : gH) (v0 : Nat) (v2 : Int32) (v3 : Int32) (v4 : Int32) (s0 : Nat) : Prop := vX12_readsNumber_b126  Qn h v0 v2 v3 v4 0 s0
set_option maxRecDepth 100000 in
set_option maxHeartbeats 4000000 in
theorem tX12_readsNumber_b125 {p : Program} {l : Launch} {e : Env} {s : State} {m : MethodId} {args : Array Value} {below : List Frame} {meth : Method} {c : Code} {G : gG} {A : Nat → Prop} {Qn : gH → Prop} (X : gC p l s m args meth c G A cX12_readsNumber 5 none RX12)   {h : gH} {v0 : Nat} {v2 : Int32} {v3 : Int32} {v4 : Int32} {s0 : Nat} (w : vX12_readsNumber_b125  Qn h v0 v2 v3 v4 s0) : V p l e rmX12_readsNumber s m args below meth c (MQ below (va_Qv Qn (gB G A) A) args s rmX12_readsNumber.cells rmX12_readsNumber.slots A) G A 5 h 0 0 125 [(0, .ref v0), (2, .int v2), (3, .int v3), (4, .int v4)] [.ref s0] := by
  refine V_iconst (y := 0) X dX12_readsNumber_125 (by decide) ?_
  exact V.sub [0, 1, 2, 3] rfl (tX12_readsNumber_b126 X  w)
def vX12_readsNumber_b97  (Qn : gH → Prop) (h : gH) (v0 : Nat) (v1 : Int32) (v2 : Int32) (v3 : Int32) (v4 : Int32) : Prop := gi h v0 15 31 (fun x1 => (((x1 : Int32) = 0) → (vX12_readsNumber_b125  Qn h v0 v2 v3 v4 v0)) ∧ ((¬ (x1 : Int32) = 0) → ((((v4 : Int32) ≤ 0) → (vX12_readsNumber_b125  Qn h v0 v2 v3 v4 v0)) ∧ ((¬ (v4 : Int32) ≤ 0) → (((3 < (v4 : Int32)) → (vX12_readsNumber_b125  Qn h v0 v2 v3 v4 v0)) ∧ ((¬ 3 < (v4 : Int32)) → (((v1 < (v3 : Int32)) → (vX12_readsNumber_b125  Qn h v0 v2 v3 v4 v0)) ∧ ((¬ v1 < (v3 : Int32)) → (vX12_readsNumber_b126  Qn h v0 v2 v3 v4 1 v0)))))))))
set_option maxRecDepth 100000 in
set_option maxHeartbeats 4000000 in
theorem tX12_readsNumber_b97 {p : Program} {l : Launch} {e : Env} {s : State} {m : MethodId} {args : Array Value} {below : List Frame} {meth : Method} {c : Code} {G : gG} {A : Nat → Prop} {Qn : gH → Prop} (X : gC p l s m args meth c G A cX12_readsNumber 5 none RX12)   {h : gH} {v0 : Nat} {v1 : Int32} {v2 : Int32} {v3 : Int32} {v4 : Int32} (w : vX12_readsNumber_b97  Qn h v0 v1 v2 v3 v4) : V p l e rmX12_readsNumber s m args below meth c (MQ below (va_Qv Qn (gB G A) A) args s rmX12_readsNumber.cells rmX12_readsNumber.slots A) G A 5 h 0 0 97 [(0, .ref v0), (1, .int v1), (2, .int v2), (3, .int v3), (4, .int v4)] [] := by
  refine V_aloadr_n X dX12_readsNumber_97 0 rfl ?_
  refine V_aloadr_n X dX12_readsNumber_98 0 rfl ?_
  obtain ⟨fs, x1, hh, hv, w⟩ := w
  refine V_get X flX12_197 dX12_readsNumber_99 hh hv ?_
  obtain ⟨w1, w2⟩ := w
  refine V_if_eq (tgt := 125) X dX12_readsNumber_102 (by decide) (fun z => ?_) (fun z => ?_)
  · replace w := w1 z
    clear w1 w2
    exact V.sub [0, 2, 3, 4] rfl (tX12_readsNumber_b125 X  w)
  · replace w := w2 z
    clear w1 w2
    refine V_iload X dX12_readsNumber_105 4 rfl ?_
    obtain ⟨w1, w2⟩ := w
    refine V_if_le (tgt := 125) X dX12_readsNumber_107 (by decide) (fun z => ?_) (fun z => ?_)
    · replace w := w1 z
      clear w1 w2
      exact V.sub [0, 2, 3, 4] rfl (tX12_readsNumber_b125 X  w)
    · replace w := w2 z
      clear w1 w2
      refine V_iload X dX12_readsNumber_110 4 rfl ?_
      refine V_iconst (y := 3) X dX12_readsNumber_112 (by decide) ?_
      obtain ⟨w1, w2⟩ := w
      refine V_icmp_gt (tgt := 125) X dX12_readsNumber_113 (by decide) (fun z => ?_) (fun z => ?_)
      · replace w := w1 z
        clear w1 w2
        exact V.sub [0, 2, 3, 4] rfl (tX12_readsNumber_b125 X  w)
      · replace w := w2 z
        clear w1 w2
        refine V_iload_n X dX12_readsNumber_116 3 rfl ?_
        refine V_iload_n X dX12_readsNumber_117 1 rfl ?_
        obtain ⟨w1, w2⟩ := w
        refine V_icmp_gt (tgt := 125) X dX12_readsNumber_118 (by decide) (fun z => ?_) (fun z => ?_)
        · replace w := w1 z
          clear w1 w2
          exact V.sub [0, 2, 3, 4] rfl (tX12_readsNumber_b125 X  w)
        · replace w := w2 z
          clear w1 w2
          refine V_iconst (y := 1) X dX12_readsNumber_121 (by decide) ?_
          refine V_goto (tgt := 126) X dX12_readsNumber_122 (by decide) ?_
          exact V.sub [0, 2, 3, 4] rfl (tX12_readsNumber_b126 X  w)
def vX12_readsNumber_b90 (k14 : gH → Nat → Int32 → Int32 → Int32 → Int32 → Prop) (Qn : gH → Prop) (h : gH) (v0 : Nat) (v1 : Int32) (v2 : Int32) (v4 : Int32) (s0 : Int32) : Prop := k14 h v0 v1 v2 s0 (v4 + 1)
set_option maxRecDepth 100000 in
set_option maxHeartbeats 4000000 in
theorem tX12_readsNumber_b90 {p : Program} {l : Launch} {e : Env} {s : State} {m : MethodId} {args : Array Value} {below : List Frame} {meth : Method} {c : Code} {G : gG} {A : Nat → Prop} {Qn : gH → Prop} (X : gC p l s m args meth c G A cX12_readsNumber 5 none RX12) {k14 : gH → Nat → Int32 → Int32 → Int32 → Int32 → Prop} (H14 : ∀ (h : gH) (v0 : Nat) (v1 : Int32) (v2 : Int32) (v3 : Int32) (v4 : Int32), k14 h v0 v1 v2 v3 v4 → V p l e rmX12_readsNumber s m args below meth c (MQ below (va_Qv Qn (gB G A) A) args s rmX12_readsNumber.cells rmX12_readsNumber.slots A) G A 5 h 0 0 14 [(0, .ref v0), (1, .int v1), (2, .int v2), (3, .int v3), (4, .int v4)] []) {h : gH} {v0 : Nat} {v1 : Int32} {v2 : Int32} {v4 : Int32} {s0 : Int32} (w : vX12_readsNumber_b90 k14 Qn h v0 v1 v2 v4 s0) : V p l e rmX12_readsNumber s m args below meth c (MQ below (va_Qv Qn (gB G A) A) args s rmX12_readsNumber.cells rmX12_readsNumber.slots A) G A 5 h 0 0 90 [(0, .ref v0), (1, .int v1), (2, .int v2), (4, .int v4)] [.int s0] := by
  refine V_istore_n X dX12_readsNumber_90 rfl (by decide) rfl ?_
  refine V_iinc (y := (v4 + 1)) X dX12_readsNumber_91 4 rfl (by first | rfl | (congr 1)) (by decide) rfl ?_
  refine V_goto (tgt := 14) X dX12_readsNumber_94 (by decide) ?_
  exact V.sub [2, 3, 4, 1, 0] rfl (H14 _ _ _ _ _ _ w)
def vX12_readsNumber_b14_o (k14 : gH → Nat → Int32 → Int32 → Int32 → Int32 → Prop) (Qn : gH → Prop) (h : gH) (v0 : Nat) (v1 : Int32) (v2 : Int32) (v3 : Int32) (v4 : Int32) : Prop := gi h v0 15 31 (fun x1 => (((x1 : Int32) = 0) → (vX12_readsNumber_b97  Qn h v0 v1 v2 v3 v4)) ∧ ((¬ (x1 : Int32) = 0) → (gi h v0 15 30 (fun x2 => gi h v0 15 24 (fun x3 => ((x3 ≤ ((x2 + v4) : Int32)) → (vX12_readsNumber_b97  Qn h v0 v1 v2 v3 v4)) ∧ ((¬ x3 ≤ ((x2 + v4) : Int32)) → (gr h v0 15 23 (fun r4 => gi h v0 15 30 (fun x5 => nn r4 (fun a6 => li h a6 (x5 + v4) (fun x7 => vX12_in (fun x9 h8 => (((x9 : Int32) = 0) → (vX12_readsNumber_b97  Qn h8 v0 v1 v2 v3 v4)) ∧ ((¬ (x9 : Int32) = 0) → (((4 ≤ (v4 : Int32)) → (vX12_readsNumber_b90 k14 Qn h8 v0 v1 v2 v4 v3)) ∧ ((¬ 4 ≤ (v4 : Int32)) → (gr h8 v0 15 23 (fun r10 => gi h8 v0 15 30 (fun x11 => nn r10 (fun a12 => li h8 a12 (x11 + v4) (fun x13 => vX12_readsNumber_b90 k14 Qn h8 v0 v1 v2 v4 (((10 * v3) + x13) - 48)))))))))) h (Int32.toInt64 x7) 48 57)))))))))))
set_option maxRecDepth 100000 in
set_option maxHeartbeats 4000000 in
theorem tX12_readsNumber_b14_o {p : Program} {l : Launch} {e : Env} {s : State} {m : MethodId} {args : Array Value} {below : List Frame} {meth : Method} {c : Code} {G : gG} {A : Nat → Prop} {Qn : gH → Prop} (X : gC p l s m args meth c G A cX12_readsNumber 5 none RX12) {k14 : gH → Nat → Int32 → Int32 → Int32 → Int32 → Prop} (H14 : ∀ (h : gH) (v0 : Nat) (v1 : Int32) (v2 : Int32) (v3 : Int32) (v4 : Int32), k14 h v0 v1 v2 v3 v4 → V p l e rmX12_readsNumber s m args below meth c (MQ below (va_Qv Qn (gB G A) A) args s rmX12_readsNumber.cells rmX12_readsNumber.slots A) G A 5 h 0 0 14 [(0, .ref v0), (1, .int v1), (2, .int v2), (3, .int v3), (4, .int v4)] []) {h : gH} {v0 : Nat} {v1 : Int32} {v2 : Int32} {v3 : Int32} {v4 : Int32} (w : vX12_readsNumber_b14_o k14 Qn h v0 v1 v2 v3 v4) : V p l e rmX12_readsNumber s m args below meth c (MQ below (va_Qv Qn (gB G A) A) args s rmX12_readsNumber.cells rmX12_readsNumber.slots A) G A 5 h 0 0 14 [(0, .ref v0), (1, .int v1), (2, .int v2), (3, .int v3), (4, .int v4)] [] := by
  refine V_aloadr_n X dX12_readsNumber_14 0 rfl ?_
  obtain ⟨fs, x1, hh, hv, w⟩ := w
  refine V_get X flX12_197 dX12_readsNumber_15 hh hv ?_
  obtain ⟨w1, w2⟩ := w
  refine V_if_eq (tgt := 97) X dX12_readsNumber_18 (by decide) (fun z => ?_) (fun z => ?_)
  · replace w := w1 z
    clear w1 w2
    exact V.sub [0, 1, 2, 3, 4] rfl (tX12_readsNumber_b97 X  w)
  · replace w := w2 z
    clear w1 w2
    refine V_aloadr_n X dX12_readsNumber_21 0 rfl ?_
    obtain ⟨fs, x2, hh, hv, w⟩ := w
    refine V_get X flX12_191 dX12_readsNumber_22 hh hv ?_
    refine V_iload X dX12_readsNumber_25 4 rfl ?_
    refine V_iadd X dX12_readsNumber_27 ?_
    refine V_aloadr_n X dX12_readsNumber_28 0 rfl ?_
    obtain ⟨fs, x3, hh, hv, w⟩ := w
    refine V_get X flX12_188 dX12_readsNumber_29 hh hv ?_
    obtain ⟨w1, w2⟩ := w
    refine V_icmp_ge (tgt := 97) X dX12_readsNumber_32 (by decide) (fun z => ?_) (fun z => ?_)
    · replace w := w1 z
      clear w1 w2
      exact V.sub [0, 1, 2, 3, 4] rfl (tX12_readsNumber_b97 X  w)
    · replace w := w2 z
      clear w1 w2
      refine V_aloadr_n X dX12_readsNumber_35 0 rfl ?_
      obtain ⟨fs, r4, hh, hv, w⟩ := w
      refine V_get X flX12_66 dX12_readsNumber_36 hh hv ?_
      refine V_aloadr_n X dX12_readsNumber_39 0 rfl ?_
      obtain ⟨fs, x5, hh, hv, w⟩ := w
      refine V_get X flX12_191 dX12_readsNumber_40 hh hv ?_
      refine V_iload X dX12_readsNumber_43 4 rfl ?_
      refine V_iadd X dX12_readsNumber_45 ?_
      obtain ⟨a6, rfl, w⟩ := w
      obtain ⟨N9, g9, hh, hi, w⟩ := w
      refine V_iald X dX12_readsNumber_46 hh hi ?_
      generalize g9 _ = x7 at w ⊢
      refine V_i2l X dX12_readsNumber_47 ?_
      refine V_ldc2 (y := 48) X dX12_readsNumber_48 kw_1904 ?_
      refine V_ldc2 (y := 57) X dX12_readsNumber_51 kw_1905 ?_
      refine V_callSi (As := [.long (Int32.toInt64 x7), .long 48, .long 57]) (rest := []) (k1 := 0) (n1 := 0) X (cX12_in_ok X.2.2.2.2.2.2.2.2.1 w) lkX12_99 dX12_readsNumber_54 ⟨Nat.le_of_ble_eq_true rfl, Nat.le_of_ble_eq_true rfl⟩ rfl (Nat.le_of_ble_eq_true rfl) ⟨Nat.le_of_ble_eq_true rfl, Nat.le_of_ble_eq_true rfl⟩ (Nat.le_of_ble_eq_true rfl) (Nat.le_of_ble_eq_true rfl) (fun x9 h8 w9 => ?_)
      replace w := w9
      clear w9
      obtain ⟨w1, w2⟩ := w
      refine V_if_eq (tgt := 97) X dX12_readsNumber_57 (by decide) (fun z => ?_) (fun z => ?_)
      · replace w := w1 z
        clear w1 w2
        exact V.sub [0, 1, 2, 3, 4] rfl (tX12_readsNumber_b97 X  w)
      · replace w := w2 z
        clear w1 w2
        refine V_iload X dX12_readsNumber_60 4 rfl ?_
        refine V_iconst (y := 4) X dX12_readsNumber_62 (by decide) ?_
        obtain ⟨w1, w2⟩ := w
        refine V_icmp_ge (tgt := 89) X dX12_readsNumber_63 (by decide) (fun z => ?_) (fun z => ?_)
        · replace w := w1 z
          clear w1 w2
          refine V_iload_n X dX12_readsNumber_89 3 rfl ?_
          exact V.sub [0, 1, 2, 4] rfl (tX12_readsNumber_b90 X H14 w)
        · replace w := w2 z
          clear w1 w2
          refine V_bipush (y := 10) X dX12_readsNumber_66 (by decide) ?_
          refine V_iload_n X dX12_readsNumber_68 3 rfl ?_
          refine V_imul X dX12_readsNumber_69 ?_
          refine V_aloadr_n X dX12_readsNumber_70 0 rfl ?_
          obtain ⟨fs, r10, hh, hv, w⟩ := w
          refine V_get X flX12_66 dX12_readsNumber_71 hh hv ?_
          refine V_aloadr_n X dX12_readsNumber_74 0 rfl ?_
          obtain ⟨fs, x11, hh, hv, w⟩ := w
          refine V_get X flX12_191 dX12_readsNumber_75 hh hv ?_
          refine V_iload X dX12_readsNumber_78 4 rfl ?_
          refine V_iadd X dX12_readsNumber_80 ?_
          obtain ⟨a12, rfl, w⟩ := w
          obtain ⟨N9, g9, hh, hi, w⟩ := w
          refine V_iald X dX12_readsNumber_81 hh hi ?_
          generalize g9 _ = x13 at w ⊢
          refine V_iadd X dX12_readsNumber_82 ?_
          refine V_bipush (y := 48) X dX12_readsNumber_83 (by decide) ?_
          refine V_isub X dX12_readsNumber_85 ?_
          refine V_goto (tgt := 90) X dX12_readsNumber_86 (by decide) ?_
          exact V.sub [0, 1, 2, 4] rfl (tX12_readsNumber_b90 X H14 w)
def vX12_readsNumber_b14  (Qn : gH → Prop) (n : Nat) : gH → Nat → Int32 → Int32 → Int32 → Int32 → Prop := Nat.rec (motive := fun _ => gH → Nat → Int32 → Int32 → Int32 → Int32 → Prop) (fun _ _ _ _ _ _ => False) (fun _ k14 => vX12_readsNumber_b14_o k14 Qn) n
theorem tX12_readsNumber_b14 {p : Program} {l : Launch} {e : Env} {s : State} {m : MethodId} {args : Array Value} {below : List Frame} {meth : Method} {c : Code} {G : gG} {A : Nat → Prop} {Qn : gH → Prop} (X : gC p l s m args meth c G A cX12_readsNumber 5 none RX12)   : ∀ (n : Nat) (h : gH) (v0 : Nat) (v1 : Int32) (v2 : Int32) (v3 : Int32) (v4 : Int32) (w : vX12_readsNumber_b14  Qn n h v0 v1 v2 v3 v4), V p l e rmX12_readsNumber s m args below meth c (MQ below (va_Qv Qn (gB G A) A) args s rmX12_readsNumber.cells rmX12_readsNumber.slots A) G A 5 h 0 0 14 [(0, .ref v0), (1, .int v1), (2, .int v2), (3, .int v3), (4, .int v4)] [] := by
  intro n
  induction n with
  | zero => intro h v0 v1 v2 v3 v4 w; exact False.elim w
  | succ n ih => intro h v0 v1 v2 v3 v4 w; exact tX12_readsNumber_b14_o X ih w
def vX12_readsNumber  (Qn : gH → Prop) (h : gH) (v0 : Nat) (v1 : Int32) : Prop := io h v0 15 (vX12_skips (fun h1 => gi h1 v0 15 30 (fun x2 => ∃ n : Nat, vX12_readsNumber_b14  Qn n h1 v0 v1 x2 0 0)) h v0 )
set_option maxRecDepth 100000 in
set_option maxHeartbeats 4000000 in
theorem tX12_readsNumber {p : Program} {l : Launch} {e : Env} {s : State} {m : MethodId} {args : Array Value} {below : List Frame} {meth : Method} {c : Code} {G : gG} {A : Nat → Prop} {Qn : gH → Prop} (X : gC p l s m args meth c G A cX12_readsNumber 5 none RX12)   {h : gH} {v0 : Nat} {v1 : Int32} (w : vX12_readsNumber  Qn h v0 v1) : V p l e rmX12_readsNumber s m args below meth c (MQ below (va_Qv Qn (gB G A) A) args s rmX12_readsNumber.cells rmX12_readsNumber.slots A) G A 5 h 0 0 0 [(0, .ref v0), (1, .int v1)] [] := by
  refine V_aloadr_n X dX12_readsNumber_0 0 rfl ?_
  obtain ⟨fs, hh, w⟩ := w
  refine V_callVv (As := []) (rest := []) (k1 := 0) (n1 := 0) X (cX12_skips_ok X.2.2.2.2.2.2.2.2.1 w) lkX12_194 hh (q9 := (RX12, TX12, 42)) rfl rfl dX12_readsNumber_1 ⟨Nat.le_of_ble_eq_true rfl, Nat.le_of_ble_eq_true rfl⟩ rfl (Nat.le_of_ble_eq_true rfl) ⟨Nat.le_of_ble_eq_true rfl, Nat.le_of_ble_eq_true rfl⟩ (Nat.le_of_ble_eq_true rfl) (Nat.le_of_ble_eq_true rfl) (fun h1 w9 => ?_)
  replace w := w9
  clear w9
  refine V_aloadr_n X dX12_readsNumber_4 0 rfl ?_
  obtain ⟨fs, x2, hh, hv, w⟩ := w
  refine V_get X flX12_191 dX12_readsNumber_5 hh hv ?_
  refine V_istore_n X dX12_readsNumber_8 rfl (by decide) rfl ?_
  refine V_iconst (y := 0) X dX12_readsNumber_9 (by decide) ?_
  refine V_istore_n X dX12_readsNumber_10 rfl (by decide) rfl ?_
  refine V_iconst (y := 0) X dX12_readsNumber_11 (by decide) ?_
  refine V_istore X dX12_readsNumber_12 (by decide) rfl ?_
  obtain ⟨n9, w⟩ := w
  exact V.sub [3, 4, 2, 1, 0] rfl (tX12_readsNumber_b14 X  n9 _ _ _ _ _ _ w)
theorem cX12_readsNumber_ok {l : Launch} {G : gG} {h : gH} (hls : l.stackTraces = false) {Qn : gH → Prop} {v0 : Nat} {v1 : Int32} (w : vX12_readsNumber Qn h v0 v1) : gMv l yX12_readsNumber cX12_readsNumber 5 none rmX12_readsNumber rmX12_readsNumber.cells rmX12_readsNumber.slots G h [.ref v0, .int v1] Qn := by
  exact gMv.of (by decide +kernel) hls (Nat.le_of_ble_eq_true rfl) rfl rfl (fun p e s m below meth c A X hnm => tX12_readsNumber X w)
/-! AnimationControllerModel.readsState(Z)I -/
abbrev rmX12_readsState : Room := { frames := 2, cells := 0, slots := 0, locals := 46 }
def vX12_readsState_b115  (Qn : Int32 → gH → Prop) (h : gH) (v2 : Int32) (s0 : Int32) (s1 : Int32) (s2 : Nat) : Prop := pv h s2 15 30 (.int (s1 + s0)) (fun h1 => Qn v2 h1)
set_option maxRecDepth 100000 in
set_option maxHeartbeats 4000000 in
theorem tX12_readsState_b115 {p : Program} {l : Launch} {e : Env} {s : State} {m : MethodId} {args : Array Value} {below : List Frame} {meth : Method} {c : Code} {G : gG} {A : Nat → Prop} {Qn : Int32 → gH → Prop} (X : gC p l s m args meth c G A cX12_readsState 3 (some FieldType.int) RX12)   {h : gH} {v2 : Int32} {s0 : Int32} {s1 : Int32} {s2 : Nat} (w : vX12_readsState_b115  Qn h v2 s0 s1 s2) : V p l e rmX12_readsState s m args below meth c (MQ below (va_Qi Qn (gB G A) A) args s rmX12_readsState.cells rmX12_readsState.slots A) G A 3 h 0 0 115 [(2, .int v2)] [.int s0, .int s1, .ref s2] := by
  refine V_iadd X dX12_readsState_115 ?_
  obtain ⟨fs, hh, hv, w⟩ := w
  refine V_put X flX12_191 dX12_readsState_116 hh hv rfl rfl ?_
  generalize va_up _ _ _ = h1 at w ⊢
  refine V_iload_n X dX12_readsState_119 0 rfl ?_
  exact V_iret X rfl dX12_readsState_120 (Nat.le_of_ble_eq_true rfl) (Nat.le_of_ble_eq_true rfl) w
def vX12_readsState_b95  (Qn : Int32 → gH → Prop) (h : gH) (v0 : Nat) (v2 : Int32) (s0 : Int32) (s1 : Nat) : Prop := gZ s0 ∧ (pv h s1 15 31 (.int s0) (fun h1 => gi h1 v0 15 30 (fun x2 => gi h1 v0 15 31 (fun x3 => (((x3 : Int32) = 0) → (vX12_readsState_b115  Qn h1 v2 0 x2 v0)) ∧ ((¬ (x3 : Int32) = 0) → (vX12_readsState_b115  Qn h1 v2 1 x2 v0))))))
set_option maxRecDepth 100000 in
set_option maxHeartbeats 4000000 in
theorem tX12_readsState_b95 {p : Program} {l : Launch} {e : Env} {s : State} {m : MethodId} {args : Array Value} {below : List Frame} {meth : Method} {c : Code} {G : gG} {A : Nat → Prop} {Qn : Int32 → gH → Prop} (X : gC p l s m args meth c G A cX12_readsState 3 (some FieldType.int) RX12)   {h : gH} {v0 : Nat} {v2 : Int32} {s0 : Int32} {s1 : Nat} (w : vX12_readsState_b95  Qn h v0 v2 s0 s1) : V p l e rmX12_readsState s m args below meth c (MQ below (va_Qi Qn (gB G A) A) args s rmX12_readsState.cells rmX12_readsState.slots A) G A 3 h 0 0 95 [(0, .ref v0), (2, .int v2)] [.int s0, .ref s1] := by
  obtain ⟨hz, w⟩ := w
  obtain ⟨fs, hh, hv, w⟩ := w
  refine V_put X flX12_197 dX12_readsState_95 hh hv hz.1 hz.2 ?_
  generalize va_up _ _ _ = h1 at w ⊢
  refine V_aloadr_n X dX12_readsState_98 0 rfl ?_
  refine V_dup X dX12_readsState_99 rfl ?_
  obtain ⟨fs, x2, hh, hv, w⟩ := w
  refine V_get X flX12_191 dX12_readsState_100 hh hv ?_
  refine V_aloadr_n X dX12_readsState_103 0 rfl ?_
  obtain ⟨fs, x3, hh, hv, w⟩ := w
  refine V_get X flX12_197 dX12_readsState_104 hh hv ?_
  obtain ⟨w1, w2⟩ := w
  refine V_if_eq (tgt := 114) X dX12_readsState_107 (by decide) (fun z => ?_) (fun z => ?_)
  · replace w := w1 z
    clear w1 w2
    refine V_iconst (y := 0) X dX12_readsState_114 (by decide) ?_
    exact V.sub [1] rfl (tX12_readsState_b115 X  w)
  · replace w := w2 z
    clear w1 w2
    refine V_iconst (y := 1) X dX12_readsState_110 (by decide) ?_
    refine V_goto (tgt := 115) X dX12_readsState_111 (by decide) ?_
    exact V.sub [1] rfl (tX12_readsState_b115 X  w)
def vX12_readsState_b94  (Qn : Int32 → gH → Prop) (h : gH) (v0 : Nat) (v2 : Int32) (s0 : Nat) : Prop := vX12_readsState_b95  Qn h v0 v2 0 s0
set_option maxRecDepth 100000 in
set_option maxHeartbeats 4000000 in
theorem tX12_readsState_b94 {p : Program} {l : Launch} {e : Env} {s : State} {m : MethodId} {args : Array Value} {below : List Frame} {meth : Method} {c : Code} {G : gG} {A : Nat → Prop} {Qn : Int32 → gH → Prop} (X : gC p l s m args meth c G A cX12_readsState 3 (some FieldType.int) RX12)   {h : gH} {v0 : Nat} {v2 : Int32} {s0 : Nat} (w : vX12_readsState_b94  Qn h v0 v2 s0) : V p l e rmX12_readsState s m args below meth c (MQ below (va_Qi Qn (gB G A) A) args s rmX12_readsState.cells rmX12_readsState.slots A) G A 3 h 0 0 94 [(0, .ref v0), (2, .int v2)] [.ref s0] := by
  refine V_iconst (y := 0) X dX12_readsState_94 (by decide) ?_
  exact V.sub [0, 1] rfl (tX12_readsState_b95 X  w)
def vX12_readsState_b90  (Qn : Int32 → gH → Prop) (h : gH) (v0 : Nat) (v2 : Int32) (s0 : Nat) : Prop := vX12_readsState_b95  Qn h v0 v2 1 s0
set_option maxRecDepth 100000 in
set_option maxHeartbeats 4000000 in
theorem tX12_readsState_b90 {p : Program} {l : Launch} {e : Env} {s : State} {m : MethodId} {args : Array Value} {below : List Frame} {meth : Method} {c : Code} {G : gG} {A : Nat → Prop} {Qn : Int32 → gH → Prop} (X : gC p l s m args meth c G A cX12_readsState 3 (some FieldType.int) RX12)   {h : gH} {v0 : Nat} {v2 : Int32} {s0 : Nat} (w : vX12_readsState_b90  Qn h v0 v2 s0) : V p l e rmX12_readsState s m args below meth c (MQ below (va_Qi Qn (gB G A) A) args s rmX12_readsState.cells rmX12_readsState.slots A) G A 3 h 0 0 90 [(0, .ref v0), (2, .int v2)] [.ref s0] := by
  refine V_iconst (y := 1) X dX12_readsState_90 (by decide) ?_
  refine V_goto (tgt := 95) X dX12_readsState_91 (by decide) ?_
  exact V.sub [0, 1] rfl (tX12_readsState_b95 X  w)
def vX12_readsState_b82  (Qn : Int32 → gH → Prop) (h : gH) (v0 : Nat) (v2 : Int32) (s0 : Nat) : Prop := io h v0 15 (vX12_isState (fun x2 h1 => (((x2 : Int32) = 0) → (vX12_readsState_b94  Qn h1 v0 v2 s0)) ∧ ((¬ (x2 : Int32) = 0) → (vX12_readsState_b90  Qn h1 v0 v2 s0))) h v0 v2)
set_option maxRecDepth 100000 in
set_option maxHeartbeats 4000000 in
theorem tX12_readsState_b82 {p : Program} {l : Launch} {e : Env} {s : State} {m : MethodId} {args : Array Value} {below : List Frame} {meth : Method} {c : Code} {G : gG} {A : Nat → Prop} {Qn : Int32 → gH → Prop} (X : gC p l s m args meth c G A cX12_readsState 3 (some FieldType.int) RX12)   {h : gH} {v0 : Nat} {v2 : Int32} {s0 : Nat} (w : vX12_readsState_b82  Qn h v0 v2 s0) : V p l e rmX12_readsState s m args below meth c (MQ below (va_Qi Qn (gB G A) A) args s rmX12_readsState.cells rmX12_readsState.slots A) G A 3 h 0 0 82 [(0, .ref v0), (2, .int v2)] [.ref s0] := by
  refine V_aloadr_n X dX12_readsState_82 0 rfl ?_
  refine V_iload_n X dX12_readsState_83 1 rfl ?_
  obtain ⟨fs, hh, w⟩ := w
  refine V_callVi (As := [.int v2]) (rest := [.ref s0]) (k1 := 0) (n1 := 0) X (cX12_isState_ok X.2.2.2.2.2.2.2.2.1 w) lkX12_162 hh (q9 := (RX12, TX12, 42)) rfl rfl dX12_readsState_84 ⟨Nat.le_of_ble_eq_true rfl, Nat.le_of_ble_eq_true rfl⟩ rfl (Nat.le_of_ble_eq_true rfl) ⟨Nat.le_of_ble_eq_true rfl, Nat.le_of_ble_eq_true rfl⟩ (Nat.le_of_ble_eq_true rfl) (Nat.le_of_ble_eq_true rfl) (fun x2 h1 w9 => ?_)
  replace w := w9
  clear w9
  obtain ⟨w1, w2⟩ := w
  refine V_if_eq (tgt := 94) X dX12_readsState_87 (by decide) (fun z => ?_) (fun z => ?_)
  · replace w := w1 z
    clear w1 w2
    exact V.sub [0, 1] rfl (tX12_readsState_b94 X  w)
  · replace w := w2 z
    clear w1 w2
    exact V.sub [0, 1] rfl (tX12_readsState_b90 X  w)
def vX12_readsState_b49  (Qn : Int32 → gH → Prop) (h : gH) (v0 : Nat) (v1 : Int32) (s0 : Int32) : Prop := gi h v0 15 31 (fun x1 => (((x1 : Int32) = 0) → (vX12_readsState_b94  Qn h v0 s0 v0)) ∧ ((¬ (x1 : Int32) = 0) → (gi h v0 15 30 (fun x2 => gi h v0 15 24 (fun x3 => ((x3 ≤ (x2 : Int32)) → (vX12_readsState_b94  Qn h v0 s0 v0)) ∧ ((¬ x3 ≤ (x2 : Int32)) → ((((v1 : Int32) = 0) → (vX12_readsState_b82  Qn h v0 s0 v0)) ∧ ((¬ (v1 : Int32) = 0) → (io h v0 15 (vX12_here (fun x5 h4 => ((¬ (x5 : Int32) = 0) → (vX12_readsState_b90  Qn h4 v0 s0 v0)) ∧ (((x5 : Int32) = 0) → (vX12_readsState_b82  Qn h4 v0 s0 v0))) h v0 42))))))))))
set_option maxRecDepth 100000 in
set_option maxHeartbeats 4000000 in
theorem tX12_readsState_b49 {p : Program} {l : Launch} {e : Env} {s : State} {m : MethodId} {args : Array Value} {below : List Frame} {meth : Method} {c : Code} {G : gG} {A : Nat → Prop} {Qn : Int32 → gH → Prop} (X : gC p l s m args meth c G A cX12_readsState 3 (some FieldType.int) RX12)   {h : gH} {v0 : Nat} {v1 : Int32} {s0 : Int32} (w : vX12_readsState_b49  Qn h v0 v1 s0) : V p l e rmX12_readsState s m args below meth c (MQ below (va_Qi Qn (gB G A) A) args s rmX12_readsState.cells rmX12_readsState.slots A) G A 3 h 0 0 49 [(0, .ref v0), (1, .int v1)] [.int s0] := by
  refine V_istore_n X dX12_readsState_49 rfl (by decide) rfl ?_
  refine V_aloadr_n X dX12_readsState_50 1 rfl ?_
  refine V_aloadr_n X dX12_readsState_51 1 rfl ?_
  obtain ⟨fs, x1, hh, hv, w⟩ := w
  refine V_get X flX12_197 dX12_readsState_52 hh hv ?_
  obtain ⟨w1, w2⟩ := w
  refine V_if_eq (tgt := 94) X dX12_readsState_55 (by decide) (fun z => ?_) (fun z => ?_)
  · replace w := w1 z
    clear w1 w2
    exact V.sub [1, 0] rfl (tX12_readsState_b94 X  w)
  · replace w := w2 z
    clear w1 w2
    refine V_aloadr_n X dX12_readsState_58 1 rfl ?_
    obtain ⟨fs, x2, hh, hv, w⟩ := w
    refine V_get X flX12_191 dX12_readsState_59 hh hv ?_
    refine V_aloadr_n X dX12_readsState_62 1 rfl ?_
    obtain ⟨fs, x3, hh, hv, w⟩ := w
    refine V_get X flX12_188 dX12_readsState_63 hh hv ?_
    obtain ⟨w1, w2⟩ := w
    refine V_icmp_ge (tgt := 94) X dX12_readsState_66 (by decide) (fun z => ?_) (fun z => ?_)
    · replace w := w1 z
      clear w1 w2
      exact V.sub [1, 0] rfl (tX12_readsState_b94 X  w)
    · replace w := w2 z
      clear w1 w2
      refine V_iload_n X dX12_readsState_69 2 rfl ?_
      obtain ⟨w1, w2⟩ := w
      refine V_if_eq (tgt := 82) X dX12_readsState_70 (by decide) (fun z => ?_) (fun z => ?_)
      · replace w := w1 z
        clear w1 w2
        exact V.sub [1, 0] rfl (tX12_readsState_b82 X  w)
      · replace w := w2 z
        clear w1 w2
        refine V_aloadr_n X dX12_readsState_73 1 rfl ?_
        refine V_bipush (y := 42) X dX12_readsState_74 (by decide) ?_
        obtain ⟨fs, hh, w⟩ := w
        refine V_callVi (As := [.int 42]) (rest := [.ref v0]) (k1 := 0) (n1 := 0) X (cX12_here_ok X.2.2.2.2.2.2.2.2.1 w) lkX12_201 hh (q9 := (RX12, TX12, 42)) rfl rfl dX12_readsState_76 ⟨Nat.le_of_ble_eq_true rfl, Nat.le_of_ble_eq_true rfl⟩ rfl (Nat.le_of_ble_eq_true rfl) ⟨Nat.le_of_ble_eq_true rfl, Nat.le_of_ble_eq_true rfl⟩ (Nat.le_of_ble_eq_true rfl) (Nat.le_of_ble_eq_true rfl) (fun x5 h4 w9 => ?_)
        replace w := w9
        clear w9
        obtain ⟨w1, w2⟩ := w
        refine V_if_ne (tgt := 90) X dX12_readsState_79 (by decide) (fun z => ?_) (fun z => ?_)
        · replace w := w1 z
          clear w1 w2
          exact V.sub [1, 0] rfl (tX12_readsState_b90 X  w)
        · replace w := w2 z
          clear w1 w2
          exact V.sub [1, 0] rfl (tX12_readsState_b82 X  w)
def vX12_readsState_b21  (Qn : Int32 → gH → Prop) (h : gH) (v0 : Nat) (v1 : Int32) : Prop := gi h v0 15 30 (fun x1 => gi h v0 15 24 (fun x2 => ((x2 ≤ (x1 : Int32)) → (vX12_readsState_b49  Qn h v0 v1 99)) ∧ ((¬ x2 ≤ (x1 : Int32)) → (gr h v0 15 23 (fun r3 => gi h v0 15 30 (fun x4 => nn r3 (fun a5 => li h a5 x4 (fun x6 => vX12_readsState_b49  Qn h v0 v1 (x6 - 65)))))))))
set_option maxRecDepth 100000 in
set_option maxHeartbeats 4000000 in
theorem tX12_readsState_b21 {p : Program} {l : Launch} {e : Env} {s : State} {m : MethodId} {args : Array Value} {below : List Frame} {meth : Method} {c : Code} {G : gG} {A : Nat → Prop} {Qn : Int32 → gH → Prop} (X : gC p l s m args meth c G A cX12_readsState 3 (some FieldType.int) RX12)   {h : gH} {v0 : Nat} {v1 : Int32} (w : vX12_readsState_b21  Qn h v0 v1) : V p l e rmX12_readsState s m args below meth c (MQ below (va_Qi Qn (gB G A) A) args s rmX12_readsState.cells rmX12_readsState.slots A) G A 3 h 0 0 21 [(0, .ref v0), (1, .int v1)] [] := by
  refine V_aloadr_n X dX12_readsState_21 0 rfl ?_
  obtain ⟨fs, x1, hh, hv, w⟩ := w
  refine V_get X flX12_191 dX12_readsState_22 hh hv ?_
  refine V_aloadr_n X dX12_readsState_25 0 rfl ?_
  obtain ⟨fs, x2, hh, hv, w⟩ := w
  refine V_get X flX12_188 dX12_readsState_26 hh hv ?_
  obtain ⟨w1, w2⟩ := w
  refine V_icmp_ge (tgt := 47) X dX12_readsState_29 (by decide) (fun z => ?_) (fun z => ?_)
  · replace w := w1 z
    clear w1 w2
    refine V_bipush (y := 99) X dX12_readsState_47 (by decide) ?_
    exact V.sub [0, 1] rfl (tX12_readsState_b49 X  w)
  · replace w := w2 z
    clear w1 w2
    refine V_aloadr_n X dX12_readsState_32 0 rfl ?_
    obtain ⟨fs, r3, hh, hv, w⟩ := w
    refine V_get X flX12_66 dX12_readsState_33 hh hv ?_
    refine V_aloadr_n X dX12_readsState_36 0 rfl ?_
    obtain ⟨fs, x4, hh, hv, w⟩ := w
    refine V_get X flX12_191 dX12_readsState_37 hh hv ?_
    obtain ⟨a5, rfl, w⟩ := w
    obtain ⟨N9, g9, hh, hi, w⟩ := w
    refine V_iald X dX12_readsState_40 hh hi ?_
    generalize g9 _ = x6 at w ⊢
    refine V_bipush (y := 65) X dX12_readsState_41 (by decide) ?_
    refine V_isub X dX12_readsState_43 ?_
    refine V_goto (tgt := 49) X dX12_readsState_44 (by decide) ?_
    exact V.sub [0, 1] rfl (tX12_readsState_b49 X  w)
def vX12_readsState  (Qn : Int32 → gH → Prop) (h : gH) (v0 : Nat) (v1 : Int32) : Prop := io h v0 15 (vX12_skips (fun h1 => (((v1 : Int32) = 0) → (vX12_readsState_b21  Qn h1 v0 v1)) ∧ ((¬ (v1 : Int32) = 0) → (io h1 v0 15 (vX12_here (fun x3 h2 => (((x3 : Int32) = 0) → (vX12_readsState_b21  Qn h2 v0 v1)) ∧ ((¬ (x3 : Int32) = 0) → (vX12_readsState_b49  Qn h2 v0 v1 (-1)))) h1 v0 42)))) h v0 )
set_option maxRecDepth 100000 in
set_option maxHeartbeats 4000000 in
theorem tX12_readsState {p : Program} {l : Launch} {e : Env} {s : State} {m : MethodId} {args : Array Value} {below : List Frame} {meth : Method} {c : Code} {G : gG} {A : Nat → Prop} {Qn : Int32 → gH → Prop} (X : gC p l s m args meth c G A cX12_readsState 3 (some FieldType.int) RX12)   {h : gH} {v0 : Nat} {v1 : Int32} (w : vX12_readsState  Qn h v0 v1) : V p l e rmX12_readsState s m args below meth c (MQ below (va_Qi Qn (gB G A) A) args s rmX12_readsState.cells rmX12_readsState.slots A) G A 3 h 0 0 0 [(0, .ref v0), (1, .int v1)] [] := by
  refine V_aloadr_n X dX12_readsState_0 0 rfl ?_
  obtain ⟨fs, hh, w⟩ := w
  refine V_callVv (As := []) (rest := []) (k1 := 0) (n1 := 0) X (cX12_skips_ok X.2.2.2.2.2.2.2.2.1 w) lkX12_194 hh (q9 := (RX12, TX12, 42)) rfl rfl dX12_readsState_1 ⟨Nat.le_of_ble_eq_true rfl, Nat.le_of_ble_eq_true rfl⟩ rfl (Nat.le_of_ble_eq_true rfl) ⟨Nat.le_of_ble_eq_true rfl, Nat.le_of_ble_eq_true rfl⟩ (Nat.le_of_ble_eq_true rfl) (Nat.le_of_ble_eq_true rfl) (fun h1 w9 => ?_)
  replace w := w9
  clear w9
  refine V_iload_n X dX12_readsState_4 1 rfl ?_
  obtain ⟨w1, w2⟩ := w
  refine V_if_eq (tgt := 21) X dX12_readsState_5 (by decide) (fun z => ?_) (fun z => ?_)
  · replace w := w1 z
    clear w1 w2
    exact V.sub [0, 1] rfl (tX12_readsState_b21 X  w)
  · replace w := w2 z
    clear w1 w2
    refine V_aloadr_n X dX12_readsState_8 0 rfl ?_
    refine V_bipush (y := 42) X dX12_readsState_9 (by decide) ?_
    obtain ⟨fs, hh, w⟩ := w
    refine V_callVi (As := [.int 42]) (rest := []) (k1 := 0) (n1 := 0) X (cX12_here_ok X.2.2.2.2.2.2.2.2.1 w) lkX12_201 hh (q9 := (RX12, TX12, 42)) rfl rfl dX12_readsState_11 ⟨Nat.le_of_ble_eq_true rfl, Nat.le_of_ble_eq_true rfl⟩ rfl (Nat.le_of_ble_eq_true rfl) ⟨Nat.le_of_ble_eq_true rfl, Nat.le_of_ble_eq_true rfl⟩ (Nat.le_of_ble_eq_true rfl) (Nat.le_of_ble_eq_true rfl) (fun x3 h2 w9 => ?_)
    replace w := w9
    clear w9
    obtain ⟨w1, w2⟩ := w
    refine V_if_eq (tgt := 21) X dX12_readsState_14 (by decide) (fun z => ?_) (fun z => ?_)
    · replace w := w1 z
      clear w1 w2
      exact V.sub [0, 1] rfl (tX12_readsState_b21 X  w)
    · replace w := w2 z
      clear w1 w2
      refine V_iconst (y := (-1)) X dX12_readsState_17 (by decide) ?_
      refine V_goto (tgt := 49) X dX12_readsState_18 (by decide) ?_
      exact V.sub [0, 1] rfl (tX12_readsState_b49 X  w)
theorem cX12_readsState_ok {l : Launch} {G : gG} {h : gH} (hls : l.stackTraces = false) {Qn : Int32 → gH → Prop} {v0 : Nat} {v1 : Int32} (w : vX12_readsState Qn h v0 v1) : gMi l yX12_readsState cX12_readsState 3 (some FieldType.int) rmX12_readsState rmX12_readsState.cells rmX12_readsState.slots G h [.ref v0, .int v1] Qn := by
  exact gMi.of (by decide +kernel) hls (Nat.le_of_ble_eq_true rfl) rfl rfl (fun p e s m below meth c A X hnm => tX12_readsState X w)
/-! AnimationControllerModel.readsCondition()V -/
abbrev rmX12_readsCondition : Room := { frames := 2, cells := 0, slots := 0, locals := 49 }
def vX12_readsCondition_b325  (Qn : gH → Prop) (h : gH)  : Prop := Qn h
set_option maxRecDepth 100000 in
set_option maxHeartbeats 4000000 in
theorem tX12_readsCondition_b325 {p : Program} {l : Launch} {e : Env} {s : State} {m : MethodId} {args : Array Value} {below : List Frame} {meth : Method} {c : Code} {G : gG} {A : Nat → Prop} {Qn : gH → Prop} (X : gC p l s m args meth c G A cX12_readsCondition 6 none RX12)   {h : gH}  (w : vX12_readsCondition_b325  Qn h ) : V p l e rmX12_readsCondition s m args below meth c (MQ below (va_Qv Qn (gB G A) A) args s rmX12_readsCondition.cells rmX12_readsCondition.slots A) G A 6 h 0 0 325 [] [] := by
  exact V_vret X rfl dX12_readsCondition_325 (Nat.le_of_ble_eq_true rfl) (Nat.le_of_ble_eq_true rfl) w
def vX12_readsCondition_b297  (Qn : gH → Prop) (h : gH) (v0 : Nat) (v2 : Int32) (v3 : Int32) (v4 : Int32) : Prop := gi h v0 15 31 (fun x1 => (((x1 : Int32) = 0) → (vX12_readsCondition_b325  Qn h )) ∧ ((¬ (x1 : Int32) = 0) → (gi h v0 15 32 (fun x2 => (((x2 : Int32) = 0) → (vX12_readsCondition_b325  Qn h )) ∧ ((¬ (x2 : Int32) = 0) → (gi h v0 15 21 (fun x3 => io h v0 15 (vX12_condition (fun h4 => vX12_readsCondition_b325  Qn h4 ) h v0 (x3 - 1) v2 v3 v4))))))))
set_option maxRecDepth 100000 in
set_option maxHeartbeats 4000000 in
theorem tX12_readsCondition_b297 {p : Program} {l : Launch} {e : Env} {s : State} {m : MethodId} {args : Array Value} {below : List Frame} {meth : Method} {c : Code} {G : gG} {A : Nat → Prop} {Qn : gH → Prop} (X : gC p l s m args meth c G A cX12_readsCondition 6 none RX12)   {h : gH} {v0 : Nat} {v2 : Int32} {v3 : Int32} {v4 : Int32} (w : vX12_readsCondition_b297  Qn h v0 v2 v3 v4) : V p l e rmX12_readsCondition s m args below meth c (MQ below (va_Qv Qn (gB G A) A) args s rmX12_readsCondition.cells rmX12_readsCondition.slots A) G A 6 h 0 0 297 [(0, .ref v0), (2, .int v2), (3, .int v3), (4, .int v4)] [] := by
  refine V_aloadr_n X dX12_readsCondition_297 0 rfl ?_
  obtain ⟨fs, x1, hh, hv, w⟩ := w
  refine V_get X flX12_197 dX12_readsCondition_298 hh hv ?_
  obtain ⟨w1, w2⟩ := w
  refine V_if_eq (tgt := 325) X dX12_readsCondition_301 (by decide) (fun z => ?_) (fun z => ?_)
  · replace w := w1 z
    clear w1 w2
    exact V.sub [] rfl (tX12_readsCondition_b325 X  w)
  · replace w := w2 z
    clear w1 w2
    refine V_aloadr_n X dX12_readsCondition_304 0 rfl ?_
    obtain ⟨fs, x2, hh, hv, w⟩ := w
    refine V_get X flX12_211 dX12_readsCondition_305 hh hv ?_
    obtain ⟨w1, w2⟩ := w
    refine V_if_eq (tgt := 325) X dX12_readsCondition_308 (by decide) (fun z => ?_) (fun z => ?_)
    · replace w := w1 z
      clear w1 w2
      exact V.sub [] rfl (tX12_readsCondition_b325 X  w)
    · replace w := w2 z
      clear w1 w2
      refine V_aloadr_n X dX12_readsCondition_311 0 rfl ?_
      refine V_aloadr_n X dX12_readsCondition_312 0 rfl ?_
      obtain ⟨fs, x3, hh, hv, w⟩ := w
      refine V_get X flX12_159 dX12_readsCondition_313 hh hv ?_
      refine V_iconst (y := 1) X dX12_readsCondition_316 (by decide) ?_
      refine V_isub X dX12_readsCondition_317 ?_
      refine V_iload_n X dX12_readsCondition_318 1 rfl ?_
      refine V_iload_n X dX12_readsCondition_319 2 rfl ?_
      refine V_iload X dX12_readsCondition_320 3 rfl ?_
      obtain ⟨fs, hh, w⟩ := w
      refine V_callVv (As := [.int (x3 - 1), .int v2, .int v3, .int v4]) (rest := []) (k1 := 0) (n1 := 0) X (cX12_condition_ok X.2.2.2.2.2.2.2.2.1 w) lkX12_182 hh (q9 := (RX12, TX12, 42)) rfl rfl dX12_readsCondition_322 ⟨Nat.le_of_ble_eq_true rfl, Nat.le_of_ble_eq_true rfl⟩ rfl (Nat.le_of_ble_eq_true rfl) ⟨Nat.le_of_ble_eq_true rfl, Nat.le_of_ble_eq_true rfl⟩ (Nat.le_of_ble_eq_true rfl) (Nat.le_of_ble_eq_true rfl) (fun h4 w9 => ?_)
      replace w := w9
      clear w9
      exact V.sub [] rfl (tX12_readsCondition_b325 X  w)
def vX12_readsCondition_b295  (Qn : gH → Prop) (h : gH) (v0 : Nat) (v2 : Int32) (v3 : Int32) (s0 : Int32) : Prop := vX12_readsCondition_b297  Qn h v0 v2 v3 s0
set_option maxRecDepth 100000 in
set_option maxHeartbeats 4000000 in
theorem tX12_readsCondition_b295 {p : Program} {l : Launch} {e : Env} {s : State} {m : MethodId} {args : Array Value} {below : List Frame} {meth : Method} {c : Code} {G : gG} {A : Nat → Prop} {Qn : gH → Prop} (X : gC p l s m args meth c G A cX12_readsCondition 6 none RX12)   {h : gH} {v0 : Nat} {v2 : Int32} {v3 : Int32} {s0 : Int32} (w : vX12_readsCondition_b295  Qn h v0 v2 v3 s0) : V p l e rmX12_readsCondition s m args below meth c (MQ below (va_Qv Qn (gB G A) A) args s rmX12_readsCondition.cells rmX12_readsCondition.slots A) G A 6 h 0 0 295 [(0, .ref v0), (2, .int v2), (3, .int v3)] [.int s0] := by
  refine V_istore X dX12_readsCondition_295 (by decide) rfl ?_
  exact V.sub [1, 2, 3, 0] rfl (tX12_readsCondition_b297 X  w)
def vX12_readsCondition_b268  (Qn : gH → Prop) (h : gH) (v0 : Nat) (v2 : Int32) (v3 : Int32) (v5 : Int32) (s0 : Int32) (s1 : Int32) (s2 : Nat) : Prop := pv h s2 15 30 (.int (s1 + s0)) (fun h1 => io h1 v0 15 (vX12_readsNumber (fun h2 => (((v5 : Int32) = 0) → (gi h2 v0 15 33 (fun x3 => vX12_readsCondition_b295  Qn h2 v0 v2 v3 x3))) ∧ ((¬ (v5 : Int32) = 0) → (gi h2 v0 15 33 (fun x4 => vX12_readsCondition_b295  Qn h2 v0 v2 v3 (-x4))))) h1 v0 100))
set_option maxRecDepth 100000 in
set_option maxHeartbeats 4000000 in
theorem tX12_readsCondition_b268 {p : Program} {l : Launch} {e : Env} {s : State} {m : MethodId} {args : Array Value} {below : List Frame} {meth : Method} {c : Code} {G : gG} {A : Nat → Prop} {Qn : gH → Prop} (X : gC p l s m args meth c G A cX12_readsCondition 6 none RX12)   {h : gH} {v0 : Nat} {v2 : Int32} {v3 : Int32} {v5 : Int32} {s0 : Int32} {s1 : Int32} {s2 : Nat} (w : vX12_readsCondition_b268  Qn h v0 v2 v3 v5 s0 s1 s2) : V p l e rmX12_readsCondition s m args below meth c (MQ below (va_Qv Qn (gB G A) A) args s rmX12_readsCondition.cells rmX12_readsCondition.slots A) G A 6 h 0 0 268 [(0, .ref v0), (2, .int v2), (3, .int v3), (5, .int v5)] [.int s0, .int s1, .ref s2] := by
  refine V_iadd X dX12_readsCondition_268 ?_
  obtain ⟨fs, hh, hv, w⟩ := w
  refine V_put X flX12_191 dX12_readsCondition_269 hh hv rfl rfl ?_
  generalize va_up _ _ _ = h1 at w ⊢
  refine V_aloadr_n X dX12_readsCondition_272 0 rfl ?_
  refine V_bipush (y := 100) X dX12_readsCondition_273 (by decide) ?_
  obtain ⟨fs, hh, w⟩ := w
  refine V_callVv (As := [.int 100]) (rest := []) (k1 := 0) (n1 := 0) X (cX12_readsNumber_ok X.2.2.2.2.2.2.2.2.1 w) lkX12_225 hh (q9 := (RX12, TX12, 42)) rfl rfl dX12_readsCondition_275 ⟨Nat.le_of_ble_eq_true rfl, Nat.le_of_ble_eq_true rfl⟩ rfl (Nat.le_of_ble_eq_true rfl) ⟨Nat.le_of_ble_eq_true rfl, Nat.le_of_ble_eq_true rfl⟩ (Nat.le_of_ble_eq_true rfl) (Nat.le_of_ble_eq_true rfl) (fun h2 w9 => ?_)
  replace w := w9
  clear w9
  refine V_iload X dX12_readsCondition_278 3 rfl ?_
  obtain ⟨w1, w2⟩ := w
  refine V_if_eq (tgt := 291) X dX12_readsCondition_280 (by decide) (fun z => ?_) (fun z => ?_)
  · replace w := w1 z
    clear w1 w2
    refine V_aloadr_n X dX12_readsCondition_291 0 rfl ?_
    obtain ⟨fs, x3, hh, hv, w⟩ := w
    refine V_get X flX12_208 dX12_readsCondition_292 hh hv ?_
    exact V.sub [0, 1, 2] rfl (tX12_readsCondition_b295 X  w)
  · replace w := w2 z
    clear w1 w2
    refine V_aloadr_n X dX12_readsCondition_283 0 rfl ?_
    obtain ⟨fs, x4, hh, hv, w⟩ := w
    refine V_get X flX12_208 dX12_readsCondition_284 hh hv ?_
    refine V_ineg X dX12_readsCondition_287 ?_
    refine V_goto (tgt := 295) X dX12_readsCondition_288 (by decide) ?_
    exact V.sub [0, 1, 2] rfl (tX12_readsCondition_b295 X  w)
def vX12_readsCondition_b251  (Qn : gH → Prop) (h : gH) (v0 : Nat) (v2 : Int32) (v3 : Int32) (s0 : Int32) : Prop := gi h v0 15 30 (fun x1 => (((s0 : Int32) = 0) → (vX12_readsCondition_b268  Qn h v0 v2 v3 s0 0 x1 v0)) ∧ ((¬ (s0 : Int32) = 0) → (vX12_readsCondition_b268  Qn h v0 v2 v3 s0 1 x1 v0)))
set_option maxRecDepth 100000 in
set_option maxHeartbeats 4000000 in
theorem tX12_readsCondition_b251 {p : Program} {l : Launch} {e : Env} {s : State} {m : MethodId} {args : Array Value} {below : List Frame} {meth : Method} {c : Code} {G : gG} {A : Nat → Prop} {Qn : gH → Prop} (X : gC p l s m args meth c G A cX12_readsCondition 6 none RX12)   {h : gH} {v0 : Nat} {v2 : Int32} {v3 : Int32} {s0 : Int32} (w : vX12_readsCondition_b251  Qn h v0 v2 v3 s0) : V p l e rmX12_readsCondition s m args below meth c (MQ below (va_Qv Qn (gB G A) A) args s rmX12_readsCondition.cells rmX12_readsCondition.slots A) G A 6 h 0 0 251 [(0, .ref v0), (2, .int v2), (3, .int v3)] [.int s0] := by
  refine V_istore X dX12_readsCondition_251 (by decide) rfl ?_
  refine V_aloadr_n X dX12_readsCondition_253 1 rfl ?_
  refine V_dup X dX12_readsCondition_254 rfl ?_
  obtain ⟨fs, x1, hh, hv, w⟩ := w
  refine V_get X flX12_191 dX12_readsCondition_255 hh hv ?_
  refine V_iload X dX12_readsCondition_258 0 rfl ?_
  obtain ⟨w1, w2⟩ := w
  refine V_if_eq (tgt := 267) X dX12_readsCondition_260 (by decide) (fun z => ?_) (fun z => ?_)
  · replace w := w1 z
    clear w1 w2
    refine V_iconst (y := 0) X dX12_readsCondition_267 (by decide) ?_
    exact V.sub [1, 2, 3, 0] rfl (tX12_readsCondition_b268 X  w)
  · replace w := w2 z
    clear w1 w2
    refine V_iconst (y := 1) X dX12_readsCondition_263 (by decide) ?_
    refine V_goto (tgt := 268) X dX12_readsCondition_264 (by decide) ?_
    exact V.sub [1, 2, 3, 0] rfl (tX12_readsCondition_b268 X  w)
def vX12_readsCondition_b250  (Qn : gH → Prop) (h : gH) (v0 : Nat) (v2 : Int32) (v3 : Int32) : Prop := vX12_readsCondition_b251  Qn h v0 v2 v3 0
set_option maxRecDepth 100000 in
set_option maxHeartbeats 4000000 in
theorem tX12_readsCondition_b250 {p : Program} {l : Launch} {e : Env} {s : State} {m : MethodId} {args : Array Value} {below : List Frame} {meth : Method} {c : Code} {G : gG} {A : Nat → Prop} {Qn : gH → Prop} (X : gC p l s m args meth c G A cX12_readsCondition 6 none RX12)   {h : gH} {v0 : Nat} {v2 : Int32} {v3 : Int32} (w : vX12_readsCondition_b250  Qn h v0 v2 v3) : V p l e rmX12_readsCondition s m args below meth c (MQ below (va_Qv Qn (gB G A) A) args s rmX12_readsCondition.cells rmX12_readsCondition.slots A) G A 6 h 0 0 250 [(0, .ref v0), (2, .int v2), (3, .int v3)] [] := by
  refine V_iconst (y := 0) X dX12_readsCondition_250 (by decide) ?_
  exact V.sub [0, 1, 2] rfl (tX12_readsCondition_b251 X  w)
def vX12_readsCondition_b222  (Qn : gH → Prop) (h : gH) (v0 : Nat) (v2 : Int32) (v3 : Int32) (s0 : Int32) (s1 : Int32) (s2 : Nat) : Prop := pv h s2 15 30 (.int (s1 + s0)) (fun h1 => io h1 v0 15 (vX12_skips (fun h2 => gi h2 v0 15 31 (fun x3 => (((x3 : Int32) = 0) → (vX12_readsCondition_b250  Qn h2 v0 v2 v3)) ∧ ((¬ (x3 : Int32) = 0) → (io h2 v0 15 (vX12_here (fun x5 h4 => (((x5 : Int32) = 0) → (vX12_readsCondition_b250  Qn h4 v0 v2 v3)) ∧ ((¬ (x5 : Int32) = 0) → (vX12_readsCondition_b251  Qn h4 v0 v2 v3 1))) h2 v0 45))))) h1 v0 ))
set_option maxRecDepth 100000 in
set_option maxHeartbeats 4000000 in
theorem tX12_readsCondition_b222 {p : Program} {l : Launch} {e : Env} {s : State} {m : MethodId} {args : Array Value} {below : List Frame} {meth : Method} {c : Code} {G : gG} {A : Nat → Prop} {Qn : gH → Prop} (X : gC p l s m args meth c G A cX12_readsCondition 6 none RX12)   {h : gH} {v0 : Nat} {v2 : Int32} {v3 : Int32} {s0 : Int32} {s1 : Int32} {s2 : Nat} (w : vX12_readsCondition_b222  Qn h v0 v2 v3 s0 s1 s2) : V p l e rmX12_readsCondition s m args below meth c (MQ below (va_Qv Qn (gB G A) A) args s rmX12_readsCondition.cells rmX12_readsCondition.slots A) G A 6 h 0 0 222 [(0, .ref v0), (2, .int v2), (3, .int v3)] [.int s0, .int s1, .ref s2] := by
  refine V_iadd X dX12_readsCondition_222 ?_
  obtain ⟨fs, hh, hv, w⟩ := w
  refine V_put X flX12_191 dX12_readsCondition_223 hh hv rfl rfl ?_
  generalize va_up _ _ _ = h1 at w ⊢
  refine V_aloadr_n X dX12_readsCondition_226 0 rfl ?_
  obtain ⟨fs, hh, w⟩ := w
  refine V_callVv (As := []) (rest := []) (k1 := 0) (n1 := 0) X (cX12_skips_ok X.2.2.2.2.2.2.2.2.1 w) lkX12_194 hh (q9 := (RX12, TX12, 42)) rfl rfl dX12_readsCondition_227 ⟨Nat.le_of_ble_eq_true rfl, Nat.le_of_ble_eq_true rfl⟩ rfl (Nat.le_of_ble_eq_true rfl) ⟨Nat.le_of_ble_eq_true rfl, Nat.le_of_ble_eq_true rfl⟩ (Nat.le_of_ble_eq_true rfl) (Nat.le_of_ble_eq_true rfl) (fun h2 w9 => ?_)
  replace w := w9
  clear w9
  refine V_aloadr_n X dX12_readsCondition_230 0 rfl ?_
  obtain ⟨fs, x3, hh, hv, w⟩ := w
  refine V_get X flX12_197 dX12_readsCondition_231 hh hv ?_
  obtain ⟨w1, w2⟩ := w
  refine V_if_eq (tgt := 250) X dX12_readsCondition_234 (by decide) (fun z => ?_) (fun z => ?_)
  · replace w := w1 z
    clear w1 w2
    exact V.sub [0, 1, 2] rfl (tX12_readsCondition_b250 X  w)
  · replace w := w2 z
    clear w1 w2
    refine V_aloadr_n X dX12_readsCondition_237 0 rfl ?_
    refine V_bipush (y := 45) X dX12_readsCondition_238 (by decide) ?_
    obtain ⟨fs, hh, w⟩ := w
    refine V_callVi (As := [.int 45]) (rest := []) (k1 := 0) (n1 := 0) X (cX12_here_ok X.2.2.2.2.2.2.2.2.1 w) lkX12_201 hh (q9 := (RX12, TX12, 42)) rfl rfl dX12_readsCondition_240 ⟨Nat.le_of_ble_eq_true rfl, Nat.le_of_ble_eq_true rfl⟩ rfl (Nat.le_of_ble_eq_true rfl) ⟨Nat.le_of_ble_eq_true rfl, Nat.le_of_ble_eq_true rfl⟩ (Nat.le_of_ble_eq_true rfl) (Nat.le_of_ble_eq_true rfl) (fun x5 h4 w9 => ?_)
    replace w := w9
    clear w9
    obtain ⟨w1, w2⟩ := w
    refine V_if_eq (tgt := 250) X dX12_readsCondition_243 (by decide) (fun z => ?_) (fun z => ?_)
    · replace w := w1 z
      clear w1 w2
      exact V.sub [0, 1, 2] rfl (tX12_readsCondition_b250 X  w)
    · replace w := w2 z
      clear w1 w2
      refine V_iconst (y := 1) X dX12_readsCondition_246 (by decide) ?_
      refine V_goto (tgt := 251) X dX12_readsCondition_247 (by decide) ?_
      exact V.sub [0, 1, 2] rfl (tX12_readsCondition_b251 X  w)
def vX12_readsCondition_b202  (Qn : gH → Prop) (h : gH) (v0 : Nat) (v2 : Int32) (v3 : Int32) (s0 : Int32) (s1 : Nat) : Prop := gZ s0 ∧ (pv h s1 15 31 (.int s0) (fun h1 => gi h1 v0 15 30 (fun x2 => gi h1 v0 15 31 (fun x3 => (((x3 : Int32) = 0) → (vX12_readsCondition_b222  Qn h1 v0 v2 v3 0 x2 v0)) ∧ ((¬ (x3 : Int32) = 0) → (vX12_readsCondition_b222  Qn h1 v0 v2 v3 1 x2 v0))))))
set_option maxRecDepth 100000 in
set_option maxHeartbeats 4000000 in
theorem tX12_readsCondition_b202 {p : Program} {l : Launch} {e : Env} {s : State} {m : MethodId} {args : Array Value} {below : List Frame} {meth : Method} {c : Code} {G : gG} {A : Nat → Prop} {Qn : gH → Prop} (X : gC p l s m args meth c G A cX12_readsCondition 6 none RX12)   {h : gH} {v0 : Nat} {v2 : Int32} {v3 : Int32} {s0 : Int32} {s1 : Nat} (w : vX12_readsCondition_b202  Qn h v0 v2 v3 s0 s1) : V p l e rmX12_readsCondition s m args below meth c (MQ below (va_Qv Qn (gB G A) A) args s rmX12_readsCondition.cells rmX12_readsCondition.slots A) G A 6 h 0 0 202 [(0, .ref v0), (2, .int v2), (3, .int v3)] [.int s0, .ref s1] := by
  obtain ⟨hz, w⟩ := w
  obtain ⟨fs, hh, hv, w⟩ := w
  refine V_put X flX12_197 dX12_readsCondition_202 hh hv hz.1 hz.2 ?_
  generalize va_up _ _ _ = h1 at w ⊢
  refine V_aloadr_n X dX12_readsCondition_205 0 rfl ?_
  refine V_dup X dX12_readsCondition_206 rfl ?_
  obtain ⟨fs, x2, hh, hv, w⟩ := w
  refine V_get X flX12_191 dX12_readsCondition_207 hh hv ?_
  refine V_aloadr_n X dX12_readsCondition_210 0 rfl ?_
  obtain ⟨fs, x3, hh, hv, w⟩ := w
  refine V_get X flX12_197 dX12_readsCondition_211 hh hv ?_
  obtain ⟨w1, w2⟩ := w
  refine V_if_eq (tgt := 221) X dX12_readsCondition_214 (by decide) (fun z => ?_) (fun z => ?_)
  · replace w := w1 z
    clear w1 w2
    refine V_iconst (y := 0) X dX12_readsCondition_221 (by decide) ?_
    exact V.sub [0, 1, 2] rfl (tX12_readsCondition_b222 X  w)
  · replace w := w2 z
    clear w1 w2
    refine V_iconst (y := 1) X dX12_readsCondition_217 (by decide) ?_
    refine V_goto (tgt := 222) X dX12_readsCondition_218 (by decide) ?_
    exact V.sub [0, 1, 2] rfl (tX12_readsCondition_b222 X  w)
def vX12_readsCondition_b190  (Qn : gH → Prop) (h : gH) (v0 : Nat) (v2 : Int32) (s0 : Int32) : Prop := ((4 ≤ (s0 : Int32)) → (vX12_readsCondition_b202  Qn h v0 v2 s0 0 v0)) ∧ ((¬ 4 ≤ (s0 : Int32)) → (vX12_readsCondition_b202  Qn h v0 v2 s0 1 v0))
set_option maxRecDepth 100000 in
set_option maxHeartbeats 4000000 in
theorem tX12_readsCondition_b190 {p : Program} {l : Launch} {e : Env} {s : State} {m : MethodId} {args : Array Value} {below : List Frame} {meth : Method} {c : Code} {G : gG} {A : Nat → Prop} {Qn : gH → Prop} (X : gC p l s m args meth c G A cX12_readsCondition 6 none RX12)   {h : gH} {v0 : Nat} {v2 : Int32} {s0 : Int32} (w : vX12_readsCondition_b190  Qn h v0 v2 s0) : V p l e rmX12_readsCondition s m args below meth c (MQ below (va_Qv Qn (gB G A) A) args s rmX12_readsCondition.cells rmX12_readsCondition.slots A) G A 6 h 0 0 190 [(0, .ref v0), (2, .int v2)] [.int s0] := by
  refine V_istore_n X dX12_readsCondition_190 rfl (by decide) rfl ?_
  refine V_aloadr_n X dX12_readsCondition_191 1 rfl ?_
  refine V_iload_n X dX12_readsCondition_192 0 rfl ?_
  refine V_iconst (y := 4) X dX12_readsCondition_193 (by decide) ?_
  obtain ⟨w1, w2⟩ := w
  refine V_icmp_ge (tgt := 201) X dX12_readsCondition_194 (by decide) (fun z => ?_) (fun z => ?_)
  · replace w := w1 z
    clear w1 w2
    refine V_iconst (y := 0) X dX12_readsCondition_201 (by decide) ?_
    exact V.sub [1, 2, 0] rfl (tX12_readsCondition_b202 X  w)
  · replace w := w2 z
    clear w1 w2
    refine V_iconst (y := 1) X dX12_readsCondition_197 (by decide) ?_
    refine V_goto (tgt := 202) X dX12_readsCondition_198 (by decide) ?_
    exact V.sub [1, 2, 0] rfl (tX12_readsCondition_b202 X  w)
def vX12_readsCondition_b122  (Qn : gH → Prop) (h : gH) (v0 : Nat) (v2 : Int32) (v3 : Int32) (s0 : Int32) : Prop := gr h v0 15 2 (fun r1 => nn r1 (fun a2 => li h a2 v2 (fun x3 => ((¬ (x3 : Int32) = 0) → (vX12_readsCondition_b297  Qn h v0 v2 v3 s0)) ∧ (((x3 : Int32) = 0) → (io h v0 15 (vX12_skips (fun h4 => io h4 v0 15 (vX12_here (fun x6 h5 => (((x6 : Int32) = 0) → (io h5 v0 15 (vX12_here (fun x8 h7 => (((x8 : Int32) = 0) → (io h7 v0 15 (vX12_here (fun x10 h9 => (((x10 : Int32) = 0) → (io h9 v0 15 (vX12_here (fun x12 h11 => (((x12 : Int32) = 0) → (vX12_readsCondition_b190  Qn h11 v0 v2 4)) ∧ ((¬ (x12 : Int32) = 0) → (vX12_readsCondition_b190  Qn h11 v0 v2 3))) h9 v0 35))) ∧ ((¬ (x10 : Int32) = 0) → (vX12_readsCondition_b190  Qn h9 v0 v2 2))) h7 v0 61))) ∧ ((¬ (x8 : Int32) = 0) → (vX12_readsCondition_b190  Qn h7 v0 v2 1))) h5 v0 60))) ∧ ((¬ (x6 : Int32) = 0) → (vX12_readsCondition_b190  Qn h5 v0 v2 0))) h4 v0 62)) h v0 ))))))
set_option maxRecDepth 100000 in
set_option maxHeartbeats 4000000 in
theorem tX12_readsCondition_b122 {p : Program} {l : Launch} {e : Env} {s : State} {m : MethodId} {args : Array Value} {below : List Frame} {meth : Method} {c : Code} {G : gG} {A : Nat → Prop} {Qn : gH → Prop} (X : gC p l s m args meth c G A cX12_readsCondition 6 none RX12)   {h : gH} {v0 : Nat} {v2 : Int32} {v3 : Int32} {s0 : Int32} (w : vX12_readsCondition_b122  Qn h v0 v2 v3 s0) : V p l e rmX12_readsCondition s m args below meth c (MQ below (va_Qv Qn (gB G A) A) args s rmX12_readsCondition.cells rmX12_readsCondition.slots A) G A 6 h 0 0 122 [(0, .ref v0), (2, .int v2), (3, .int v3)] [.int s0] := by
  refine V_istore X dX12_readsCondition_122 (by decide) rfl ?_
  refine V_aloadr_n X dX12_readsCondition_124 1 rfl ?_
  obtain ⟨fs, r1, hh, hv, w⟩ := w
  refine V_get X flX12_17 dX12_readsCondition_125 hh hv ?_
  refine V_iload_n X dX12_readsCondition_128 2 rfl ?_
  obtain ⟨a2, rfl, w⟩ := w
  obtain ⟨N9, g9, hh, hi, w⟩ := w
  refine V_iald X dX12_readsCondition_129 hh hi ?_
  generalize g9 _ = x3 at w ⊢
  obtain ⟨w1, w2⟩ := w
  refine V_if_ne (tgt := 297) X dX12_readsCondition_130 (by decide) (fun z => ?_) (fun z => ?_)
  · replace w := w1 z
    clear w1 w2
    exact V.sub [1, 2, 3, 0] rfl (tX12_readsCondition_b297 X  w)
  · replace w := w2 z
    clear w1 w2
    refine V_aloadr_n X dX12_readsCondition_133 1 rfl ?_
    obtain ⟨fs, hh, w⟩ := w
    refine V_callVv (As := []) (rest := []) (k1 := 0) (n1 := 0) X (cX12_skips_ok X.2.2.2.2.2.2.2.2.1 w) lkX12_194 hh (q9 := (RX12, TX12, 42)) rfl rfl dX12_readsCondition_134 ⟨Nat.le_of_ble_eq_true rfl, Nat.le_of_ble_eq_true rfl⟩ rfl (Nat.le_of_ble_eq_true rfl) ⟨Nat.le_of_ble_eq_true rfl, Nat.le_of_ble_eq_true rfl⟩ (Nat.le_of_ble_eq_true rfl) (Nat.le_of_ble_eq_true rfl) (fun h4 w9 => ?_)
    replace w := w9
    clear w9
    refine V_aloadr_n X dX12_readsCondition_137 1 rfl ?_
    refine V_bipush (y := 62) X dX12_readsCondition_138 (by decide) ?_
    obtain ⟨fs, hh, w⟩ := w
    refine V_callVi (As := [.int 62]) (rest := []) (k1 := 0) (n1 := 0) X (cX12_here_ok X.2.2.2.2.2.2.2.2.1 w) lkX12_201 hh (q9 := (RX12, TX12, 42)) rfl rfl dX12_readsCondition_140 ⟨Nat.le_of_ble_eq_true rfl, Nat.le_of_ble_eq_true rfl⟩ rfl (Nat.le_of_ble_eq_true rfl) ⟨Nat.le_of_ble_eq_true rfl, Nat.le_of_ble_eq_true rfl⟩ (Nat.le_of_ble_eq_true rfl) (Nat.le_of_ble_eq_true rfl) (fun x6 h5 w9 => ?_)
    replace w := w9
    clear w9
    obtain ⟨w1, w2⟩ := w
    refine V_if_eq (tgt := 150) X dX12_readsCondition_143 (by decide) (fun z => ?_) (fun z => ?_)
    · replace w := w1 z
      clear w1 w2
      refine V_aloadr_n X dX12_readsCondition_150 1 rfl ?_
      refine V_bipush (y := 60) X dX12_readsCondition_151 (by decide) ?_
      obtain ⟨fs, hh, w⟩ := w
      refine V_callVi (As := [.int 60]) (rest := []) (k1 := 0) (n1 := 0) X (cX12_here_ok X.2.2.2.2.2.2.2.2.1 w) lkX12_201 hh (q9 := (RX12, TX12, 42)) rfl rfl dX12_readsCondition_153 ⟨Nat.le_of_ble_eq_true rfl, Nat.le_of_ble_eq_true rfl⟩ rfl (Nat.le_of_ble_eq_true rfl) ⟨Nat.le_of_ble_eq_true rfl, Nat.le_of_ble_eq_true rfl⟩ (Nat.le_of_ble_eq_true rfl) (Nat.le_of_ble_eq_true rfl) (fun x8 h7 w9 => ?_)
      replace w := w9
      clear w9
      obtain ⟨w1, w2⟩ := w
      refine V_if_eq (tgt := 163) X dX12_readsCondition_156 (by decide) (fun z => ?_) (fun z => ?_)
      · replace w := w1 z
        clear w1 w2
        refine V_aloadr_n X dX12_readsCondition_163 1 rfl ?_
        refine V_bipush (y := 61) X dX12_readsCondition_164 (by decide) ?_
        obtain ⟨fs, hh, w⟩ := w
        refine V_callVi (As := [.int 61]) (rest := []) (k1 := 0) (n1 := 0) X (cX12_here_ok X.2.2.2.2.2.2.2.2.1 w) lkX12_201 hh (q9 := (RX12, TX12, 42)) rfl rfl dX12_readsCondition_166 ⟨Nat.le_of_ble_eq_true rfl, Nat.le_of_ble_eq_true rfl⟩ rfl (Nat.le_of_ble_eq_true rfl) ⟨Nat.le_of_ble_eq_true rfl, Nat.le_of_ble_eq_true rfl⟩ (Nat.le_of_ble_eq_true rfl) (Nat.le_of_ble_eq_true rfl) (fun x10 h9 w9 => ?_)
        replace w := w9
        clear w9
        obtain ⟨w1, w2⟩ := w
        refine V_if_eq (tgt := 176) X dX12_readsCondition_169 (by decide) (fun z => ?_) (fun z => ?_)
        · replace w := w1 z
          clear w1 w2
          refine V_aloadr_n X dX12_readsCondition_176 1 rfl ?_
          refine V_bipush (y := 35) X dX12_readsCondition_177 (by decide) ?_
          obtain ⟨fs, hh, w⟩ := w
          refine V_callVi (As := [.int 35]) (rest := []) (k1 := 0) (n1 := 0) X (cX12_here_ok X.2.2.2.2.2.2.2.2.1 w) lkX12_201 hh (q9 := (RX12, TX12, 42)) rfl rfl dX12_readsCondition_179 ⟨Nat.le_of_ble_eq_true rfl, Nat.le_of_ble_eq_true rfl⟩ rfl (Nat.le_of_ble_eq_true rfl) ⟨Nat.le_of_ble_eq_true rfl, Nat.le_of_ble_eq_true rfl⟩ (Nat.le_of_ble_eq_true rfl) (Nat.le_of_ble_eq_true rfl) (fun x12 h11 w9 => ?_)
          replace w := w9
          clear w9
          obtain ⟨w1, w2⟩ := w
          refine V_if_eq (tgt := 189) X dX12_readsCondition_182 (by decide) (fun z => ?_) (fun z => ?_)
          · replace w := w1 z
            clear w1 w2
            refine V_iconst (y := 4) X dX12_readsCondition_189 (by decide) ?_
            exact V.sub [1, 2] rfl (tX12_readsCondition_b190 X  w)
          · replace w := w2 z
            clear w1 w2
            refine V_iconst (y := 3) X dX12_readsCondition_185 (by decide) ?_
            refine V_goto (tgt := 190) X dX12_readsCondition_186 (by decide) ?_
            exact V.sub [1, 2] rfl (tX12_readsCondition_b190 X  w)
        · replace w := w2 z
          clear w1 w2
          refine V_iconst (y := 2) X dX12_readsCondition_172 (by decide) ?_
          refine V_goto (tgt := 190) X dX12_readsCondition_173 (by decide) ?_
          exact V.sub [1, 2] rfl (tX12_readsCondition_b190 X  w)
      · replace w := w2 z
        clear w1 w2
        refine V_iconst (y := 1) X dX12_readsCondition_159 (by decide) ?_
        refine V_goto (tgt := 190) X dX12_readsCondition_160 (by decide) ?_
        exact V.sub [1, 2] rfl (tX12_readsCondition_b190 X  w)
    · replace w := w2 z
      clear w1 w2
      refine V_iconst (y := 0) X dX12_readsCondition_146 (by decide) ?_
      refine V_goto (tgt := 190) X dX12_readsCondition_147 (by decide) ?_
      exact V.sub [1, 2] rfl (tX12_readsCondition_b190 X  w)
def vX12_readsCondition_b90  (Qn : gH → Prop) (h : gH) (v0 : Nat) (v1 : Int32) (v2 : Int32) (s0 : Int32) (s1 : Nat) : Prop := gZ s0 ∧ (pv h s1 15 31 (.int s0) (fun h1 => gi h1 v0 15 31 (fun x2 => ((¬ (x2 : Int32) = 0) → (gi h1 v0 15 30 (fun x3 => pv h1 v0 15 30 (.int (x3 + 1)) (fun h4 => (((v1 : Int32) = 0) → (vX12_readsCondition_b122  Qn h4 v0 v2 2 1)) ∧ ((¬ (v1 : Int32) = 0) → (vX12_readsCondition_b122  Qn h4 v0 v2 2 0)))))) ∧ (((x2 : Int32) = 0) → (Qn h1)))))
set_option maxRecDepth 100000 in
set_option maxHeartbeats 4000000 in
theorem tX12_readsCondition_b90 {p : Program} {l : Launch} {e : Env} {s : State} {m : MethodId} {args : Array Value} {below : List Frame} {meth : Method} {c : Code} {G : gG} {A : Nat → Prop} {Qn : gH → Prop} (X : gC p l s m args meth c G A cX12_readsCondition 6 none RX12)   {h : gH} {v0 : Nat} {v1 : Int32} {v2 : Int32} {s0 : Int32} {s1 : Nat} (w : vX12_readsCondition_b90  Qn h v0 v1 v2 s0 s1) : V p l e rmX12_readsCondition s m args below meth c (MQ below (va_Qv Qn (gB G A) A) args s rmX12_readsCondition.cells rmX12_readsCondition.slots A) G A 6 h 0 0 90 [(0, .ref v0), (1, .int v1), (2, .int v2)] [.int s0, .ref s1] := by
  obtain ⟨hz, w⟩ := w
  obtain ⟨fs, hh, hv, w⟩ := w
  refine V_put X flX12_197 dX12_readsCondition_90 hh hv hz.1 hz.2 ?_
  generalize va_up _ _ _ = h1 at w ⊢
  refine V_aloadr_n X dX12_readsCondition_93 0 rfl ?_
  obtain ⟨fs, x2, hh, hv, w⟩ := w
  refine V_get X flX12_197 dX12_readsCondition_94 hh hv ?_
  obtain ⟨w1, w2⟩ := w
  refine V_if_ne (tgt := 101) X dX12_readsCondition_97 (by decide) (fun z => ?_) (fun z => ?_)
  · replace w := w1 z
    clear w1 w2
    refine V_aloadr_n X dX12_readsCondition_101 0 rfl ?_
    refine V_dup X dX12_readsCondition_102 rfl ?_
    obtain ⟨fs, x3, hh, hv, w⟩ := w
    refine V_get X flX12_191 dX12_readsCondition_103 hh hv ?_
    refine V_iconst (y := 1) X dX12_readsCondition_106 (by decide) ?_
    refine V_iadd X dX12_readsCondition_107 ?_
    obtain ⟨fs, hh, hv, w⟩ := w
    refine V_put X flX12_191 dX12_readsCondition_108 hh hv rfl rfl ?_
    generalize va_up _ _ _ = h4 at w ⊢
    refine V_iconst (y := 2) X dX12_readsCondition_111 (by decide) ?_
    refine V_istore_n X dX12_readsCondition_112 rfl (by decide) rfl ?_
    refine V_iload_n X dX12_readsCondition_113 2 rfl ?_
    obtain ⟨w1, w2⟩ := w
    refine V_if_eq (tgt := 121) X dX12_readsCondition_114 (by decide) (fun z => ?_) (fun z => ?_)
    · replace w := w1 z
      clear w1 w2
      refine V_iconst (y := 1) X dX12_readsCondition_121 (by decide) ?_
      exact V.sub [1, 3, 0] rfl (tX12_readsCondition_b122 X  w)
    · replace w := w2 z
      clear w1 w2
      refine V_iconst (y := 0) X dX12_readsCondition_117 (by decide) ?_
      refine V_goto (tgt := 122) X dX12_readsCondition_118 (by decide) ?_
      exact V.sub [1, 3, 0] rfl (tX12_readsCondition_b122 X  w)
  · replace w := w2 z
    clear w1 w2
    exact V_vret X rfl dX12_readsCondition_100 (Nat.le_of_ble_eq_true rfl) (Nat.le_of_ble_eq_true rfl) w
def vX12_readsCondition_b89  (Qn : gH → Prop) (h : gH) (v0 : Nat) (v1 : Int32) (v2 : Int32) (s0 : Nat) : Prop := vX12_readsCondition_b90  Qn h v0 v1 v2 0 s0
set_option maxRecDepth 100000 in
set_option maxHeartbeats 4000000 in
theorem tX12_readsCondition_b89 {p : Program} {l : Launch} {e : Env} {s : State} {m : MethodId} {args : Array Value} {below : List Frame} {meth : Method} {c : Code} {G : gG} {A : Nat → Prop} {Qn : gH → Prop} (X : gC p l s m args meth c G A cX12_readsCondition 6 none RX12)   {h : gH} {v0 : Nat} {v1 : Int32} {v2 : Int32} {s0 : Nat} (w : vX12_readsCondition_b89  Qn h v0 v1 v2 s0) : V p l e rmX12_readsCondition s m args below meth c (MQ below (va_Qv Qn (gB G A) A) args s rmX12_readsCondition.cells rmX12_readsCondition.slots A) G A 6 h 0 0 89 [(0, .ref v0), (1, .int v1), (2, .int v2)] [.ref s0] := by
  refine V_iconst (y := 0) X dX12_readsCondition_89 (by decide) ?_
  exact V.sub [0, 1, 2] rfl (tX12_readsCondition_b90 X  w)
def vX12_readsCondition_b85  (Qn : gH → Prop) (h : gH) (v0 : Nat) (v1 : Int32) (v2 : Int32) (s0 : Nat) : Prop := vX12_readsCondition_b90  Qn h v0 v1 v2 1 s0
set_option maxRecDepth 100000 in
set_option maxHeartbeats 4000000 in
theorem tX12_readsCondition_b85 {p : Program} {l : Launch} {e : Env} {s : State} {m : MethodId} {args : Array Value} {below : List Frame} {meth : Method} {c : Code} {G : gG} {A : Nat → Prop} {Qn : gH → Prop} (X : gC p l s m args meth c G A cX12_readsCondition 6 none RX12)   {h : gH} {v0 : Nat} {v1 : Int32} {v2 : Int32} {s0 : Nat} (w : vX12_readsCondition_b85  Qn h v0 v1 v2 s0) : V p l e rmX12_readsCondition s m args below meth c (MQ below (va_Qv Qn (gB G A) A) args s rmX12_readsCondition.cells rmX12_readsCondition.slots A) G A 6 h 0 0 85 [(0, .ref v0), (1, .int v1), (2, .int v2)] [.ref s0] := by
  refine V_iconst (y := 1) X dX12_readsCondition_85 (by decide) ?_
  refine V_goto (tgt := 90) X dX12_readsCondition_86 (by decide) ?_
  exact V.sub [0, 1, 2] rfl (tX12_readsCondition_b90 X  w)
def vX12_readsCondition_b61  (Qn : gH → Prop) (h : gH) (v0 : Nat) (v1 : Int32) (s0 : Int32) : Prop := io h v0 15 (vX12_isParameter (fun x2 h1 => (((x2 : Int32) = 0) → (vX12_readsCondition_b89  Qn h1 v0 v1 s0 v0)) ∧ ((¬ (x2 : Int32) = 0) → ((((v1 : Int32) = 0) → (vX12_readsCondition_b85  Qn h1 v0 v1 s0 v0)) ∧ ((¬ (v1 : Int32) = 0) → (gr h1 v0 15 2 (fun r3 => nn r3 (fun a4 => li h1 a4 s0 (fun x5 => ((¬ (x5 : Int32) = 1) → (vX12_readsCondition_b89  Qn h1 v0 v1 s0 v0)) ∧ (((x5 : Int32) = 1) → (vX12_readsCondition_b85  Qn h1 v0 v1 s0 v0)))))))))) h v0 s0)
set_option maxRecDepth 100000 in
set_option maxHeartbeats 4000000 in
theorem tX12_readsCondition_b61 {p : Program} {l : Launch} {e : Env} {s : State} {m : MethodId} {args : Array Value} {below : List Frame} {meth : Method} {c : Code} {G : gG} {A : Nat → Prop} {Qn : gH → Prop} (X : gC p l s m args meth c G A cX12_readsCondition 6 none RX12)   {h : gH} {v0 : Nat} {v1 : Int32} {s0 : Int32} (w : vX12_readsCondition_b61  Qn h v0 v1 s0) : V p l e rmX12_readsCondition s m args below meth c (MQ below (va_Qv Qn (gB G A) A) args s rmX12_readsCondition.cells rmX12_readsCondition.slots A) G A 6 h 0 0 61 [(0, .ref v0), (1, .int v1)] [.int s0] := by
  refine V_istore_n X dX12_readsCondition_61 rfl (by decide) rfl ?_
  refine V_aloadr_n X dX12_readsCondition_62 1 rfl ?_
  refine V_aloadr_n X dX12_readsCondition_63 1 rfl ?_
  refine V_iload_n X dX12_readsCondition_64 0 rfl ?_
  obtain ⟨fs, hh, w⟩ := w
  refine V_callVi (As := [.int s0]) (rest := [.ref v0]) (k1 := 0) (n1 := 0) X (cX12_isParameter_ok X.2.2.2.2.2.2.2.2.1 w) lkX12_110 hh (q9 := (RX12, TX12, 42)) rfl rfl dX12_readsCondition_65 ⟨Nat.le_of_ble_eq_true rfl, Nat.le_of_ble_eq_true rfl⟩ rfl (Nat.le_of_ble_eq_true rfl) ⟨Nat.le_of_ble_eq_true rfl, Nat.le_of_ble_eq_true rfl⟩ (Nat.le_of_ble_eq_true rfl) (Nat.le_of_ble_eq_true rfl) (fun x2 h1 w9 => ?_)
  replace w := w9
  clear w9
  obtain ⟨w1, w2⟩ := w
  refine V_if_eq (tgt := 89) X dX12_readsCondition_68 (by decide) (fun z => ?_) (fun z => ?_)
  · replace w := w1 z
    clear w1 w2
    exact V.sub [1, 2, 0] rfl (tX12_readsCondition_b89 X  w)
  · replace w := w2 z
    clear w1 w2
    refine V_iload_n X dX12_readsCondition_71 2 rfl ?_
    obtain ⟨w1, w2⟩ := w
    refine V_if_eq (tgt := 85) X dX12_readsCondition_72 (by decide) (fun z => ?_) (fun z => ?_)
    · replace w := w1 z
      clear w1 w2
      exact V.sub [1, 2, 0] rfl (tX12_readsCondition_b85 X  w)
    · replace w := w2 z
      clear w1 w2
      refine V_aloadr_n X dX12_readsCondition_75 1 rfl ?_
      obtain ⟨fs, r3, hh, hv, w⟩ := w
      refine V_get X flX12_17 dX12_readsCondition_76 hh hv ?_
      refine V_iload_n X dX12_readsCondition_79 0 rfl ?_
      obtain ⟨a4, rfl, w⟩ := w
      obtain ⟨N9, g9, hh, hi, w⟩ := w
      refine V_iald X dX12_readsCondition_80 hh hi ?_
      generalize g9 _ = x5 at w ⊢
      refine V_iconst (y := 1) X dX12_readsCondition_81 (by decide) ?_
      obtain ⟨w1, w2⟩ := w
      refine V_icmp_ne (tgt := 89) X dX12_readsCondition_82 (by decide) (fun z => ?_) (fun z => ?_)
      · replace w := w1 z
        clear w1 w2
        exact V.sub [1, 2, 0] rfl (tX12_readsCondition_b89 X  w)
      · replace w := w2 z
        clear w1 w2
        exact V.sub [1, 2, 0] rfl (tX12_readsCondition_b85 X  w)
def vX12_readsCondition_b25  (Qn : gH → Prop) (h : gH) (v0 : Nat) (v1 : Int32) (s0 : Int32) (s1 : Int32) (s2 : Nat) : Prop := pv h s2 15 30 (.int (s1 + s0)) (fun h1 => io h1 v0 15 (vX12_skips (fun h2 => gi h2 v0 15 30 (fun x3 => gi h2 v0 15 24 (fun x4 => ((x4 ≤ (x3 : Int32)) → (vX12_readsCondition_b61  Qn h2 v0 v1 99)) ∧ ((¬ x4 ≤ (x3 : Int32)) → (gr h2 v0 15 23 (fun r5 => gi h2 v0 15 30 (fun x6 => nn r5 (fun a7 => li h2 a7 x6 (fun x8 => vX12_readsCondition_b61  Qn h2 v0 v1 (x8 - 97)))))))))) h1 v0 ))
set_option maxRecDepth 100000 in
set_option maxHeartbeats 4000000 in
theorem tX12_readsCondition_b25 {p : Program} {l : Launch} {e : Env} {s : State} {m : MethodId} {args : Array Value} {below : List Frame} {meth : Method} {c : Code} {G : gG} {A : Nat → Prop} {Qn : gH → Prop} (X : gC p l s m args meth c G A cX12_readsCondition 6 none RX12)   {h : gH} {v0 : Nat} {v1 : Int32} {s0 : Int32} {s1 : Int32} {s2 : Nat} (w : vX12_readsCondition_b25  Qn h v0 v1 s0 s1 s2) : V p l e rmX12_readsCondition s m args below meth c (MQ below (va_Qv Qn (gB G A) A) args s rmX12_readsCondition.cells rmX12_readsCondition.slots A) G A 6 h 0 0 25 [(0, .ref v0), (1, .int v1)] [.int s0, .int s1, .ref s2] := by
  refine V_iadd X dX12_readsCondition_25 ?_
  obtain ⟨fs, hh, hv, w⟩ := w
  refine V_put X flX12_191 dX12_readsCondition_26 hh hv rfl rfl ?_
  generalize va_up _ _ _ = h1 at w ⊢
  refine V_aloadr_n X dX12_readsCondition_29 0 rfl ?_
  obtain ⟨fs, hh, w⟩ := w
  refine V_callVv (As := []) (rest := []) (k1 := 0) (n1 := 0) X (cX12_skips_ok X.2.2.2.2.2.2.2.2.1 w) lkX12_194 hh (q9 := (RX12, TX12, 42)) rfl rfl dX12_readsCondition_30 ⟨Nat.le_of_ble_eq_true rfl, Nat.le_of_ble_eq_true rfl⟩ rfl (Nat.le_of_ble_eq_true rfl) ⟨Nat.le_of_ble_eq_true rfl, Nat.le_of_ble_eq_true rfl⟩ (Nat.le_of_ble_eq_true rfl) (Nat.le_of_ble_eq_true rfl) (fun h2 w9 => ?_)
  replace w := w9
  clear w9
  refine V_aloadr_n X dX12_readsCondition_33 0 rfl ?_
  obtain ⟨fs, x3, hh, hv, w⟩ := w
  refine V_get X flX12_191 dX12_readsCondition_34 hh hv ?_
  refine V_aloadr_n X dX12_readsCondition_37 0 rfl ?_
  obtain ⟨fs, x4, hh, hv, w⟩ := w
  refine V_get X flX12_188 dX12_readsCondition_38 hh hv ?_
  obtain ⟨w1, w2⟩ := w
  refine V_icmp_ge (tgt := 59) X dX12_readsCondition_41 (by decide) (fun z => ?_) (fun z => ?_)
  · replace w := w1 z
    clear w1 w2
    refine V_bipush (y := 99) X dX12_readsCondition_59 (by decide) ?_
    exact V.sub [0, 1] rfl (tX12_readsCondition_b61 X  w)
  · replace w := w2 z
    clear w1 w2
    refine V_aloadr_n X dX12_readsCondition_44 0 rfl ?_
    obtain ⟨fs, r5, hh, hv, w⟩ := w
    refine V_get X flX12_66 dX12_readsCondition_45 hh hv ?_
    refine V_aloadr_n X dX12_readsCondition_48 0 rfl ?_
    obtain ⟨fs, x6, hh, hv, w⟩ := w
    refine V_get X flX12_191 dX12_readsCondition_49 hh hv ?_
    obtain ⟨a7, rfl, w⟩ := w
    obtain ⟨N9, g9, hh, hi, w⟩ := w
    refine V_iald X dX12_readsCondition_52 hh hi ?_
    generalize g9 _ = x8 at w ⊢
    refine V_bipush (y := 97) X dX12_readsCondition_53 (by decide) ?_
    refine V_isub X dX12_readsCondition_55 ?_
    refine V_goto (tgt := 61) X dX12_readsCondition_56 (by decide) ?_
    exact V.sub [0, 1] rfl (tX12_readsCondition_b61 X  w)
def vX12_readsCondition  (Qn : gH → Prop) (h : gH) (v0 : Nat) : Prop := io h v0 15 (vX12_skips (fun h1 => io h1 v0 15 (vX12_here (fun x3 h2 => gi h2 v0 15 30 (fun x4 => (((x3 : Int32) = 0) → (vX12_readsCondition_b25  Qn h2 v0 x3 0 x4 v0)) ∧ ((¬ (x3 : Int32) = 0) → (vX12_readsCondition_b25  Qn h2 v0 x3 1 x4 v0)))) h1 v0 126)) h v0 )
set_option maxRecDepth 100000 in
set_option maxHeartbeats 4000000 in
theorem tX12_readsCondition {p : Program} {l : Launch} {e : Env} {s : State} {m : MethodId} {args : Array Value} {below : List Frame} {meth : Method} {c : Code} {G : gG} {A : Nat → Prop} {Qn : gH → Prop} (X : gC p l s m args meth c G A cX12_readsCondition 6 none RX12)   {h : gH} {v0 : Nat} (w : vX12_readsCondition  Qn h v0) : V p l e rmX12_readsCondition s m args below meth c (MQ below (va_Qv Qn (gB G A) A) args s rmX12_readsCondition.cells rmX12_readsCondition.slots A) G A 6 h 0 0 0 [(0, .ref v0)] [] := by
  refine V_aloadr_n X dX12_readsCondition_0 0 rfl ?_
  obtain ⟨fs, hh, w⟩ := w
  refine V_callVv (As := []) (rest := []) (k1 := 0) (n1 := 0) X (cX12_skips_ok X.2.2.2.2.2.2.2.2.1 w) lkX12_194 hh (q9 := (RX12, TX12, 42)) rfl rfl dX12_readsCondition_1 ⟨Nat.le_of_ble_eq_true rfl, Nat.le_of_ble_eq_true rfl⟩ rfl (Nat.le_of_ble_eq_true rfl) ⟨Nat.le_of_ble_eq_true rfl, Nat.le_of_ble_eq_true rfl⟩ (Nat.le_of_ble_eq_true rfl) (Nat.le_of_ble_eq_true rfl) (fun h1 w9 => ?_)
  replace w := w9
  clear w9
  refine V_aloadr_n X dX12_readsCondition_4 0 rfl ?_
  refine V_bipush (y := 126) X dX12_readsCondition_5 (by decide) ?_
  obtain ⟨fs, hh, w⟩ := w
  refine V_callVi (As := [.int 126]) (rest := []) (k1 := 0) (n1 := 0) X (cX12_here_ok X.2.2.2.2.2.2.2.2.1 w) lkX12_201 hh (q9 := (RX12, TX12, 42)) rfl rfl dX12_readsCondition_7 ⟨Nat.le_of_ble_eq_true rfl, Nat.le_of_ble_eq_true rfl⟩ rfl (Nat.le_of_ble_eq_true rfl) ⟨Nat.le_of_ble_eq_true rfl, Nat.le_of_ble_eq_true rfl⟩ (Nat.le_of_ble_eq_true rfl) (Nat.le_of_ble_eq_true rfl) (fun x3 h2 w9 => ?_)
  replace w := w9
  clear w9
  refine V_istore_n X dX12_readsCondition_10 rfl (by decide) rfl ?_
  refine V_aloadr_n X dX12_readsCondition_11 1 rfl ?_
  refine V_dup X dX12_readsCondition_12 rfl ?_
  obtain ⟨fs, x4, hh, hv, w⟩ := w
  refine V_get X flX12_191 dX12_readsCondition_13 hh hv ?_
  refine V_iload_n X dX12_readsCondition_16 0 rfl ?_
  obtain ⟨w1, w2⟩ := w
  refine V_if_eq (tgt := 24) X dX12_readsCondition_17 (by decide) (fun z => ?_) (fun z => ?_)
  · replace w := w1 z
    clear w1 w2
    refine V_iconst (y := 0) X dX12_readsCondition_24 (by decide) ?_
    exact V.sub [1, 0] rfl (tX12_readsCondition_b25 X  w)
  · replace w := w2 z
    clear w1 w2
    refine V_iconst (y := 1) X dX12_readsCondition_20 (by decide) ?_
    refine V_goto (tgt := 25) X dX12_readsCondition_21 (by decide) ?_
    exact V.sub [1, 0] rfl (tX12_readsCondition_b25 X  w)
theorem cX12_readsCondition_ok {l : Launch} {G : gG} {h : gH} (hls : l.stackTraces = false) {Qn : gH → Prop} {v0 : Nat} (w : vX12_readsCondition Qn h v0) : gMv l yX12_readsCondition cX12_readsCondition 6 none rmX12_readsCondition rmX12_readsCondition.cells rmX12_readsCondition.slots G h [.ref v0] Qn := by
  exact gMv.of (by decide +kernel) hls (Nat.le_of_ble_eq_true rfl) rfl rfl (fun p e s m below meth c A X hnm => tX12_readsCondition X w)
