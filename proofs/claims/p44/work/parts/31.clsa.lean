/-! AnimationController$Blend.<init>()V -/
abbrev rmX0_init : Room := { frames := 1, cells := 1, slots := 12, locals := 20 }
def vX0_init (t0 : Nat)  (Qn : gH → Prop) (h : gH) (v0 : Nat) : Prop := nw h (.inl (0, 12, .inl (fun _ => 0))) (fun q1 h2 => pv h2 v0 3 0 (.ref q1) (fun h3 => Qn h3))
set_option maxRecDepth 100000 in
set_option maxHeartbeats 4000000 in
theorem tX0_init {p : Program} {l : Launch} {e : Env} {s : State} {m : MethodId} {args : Array Value} {below : List Frame} {meth : Method} {c : Code} {G : gG} {A : Nat → Prop} {Qn : gH → Prop} (X : gC p l s m args meth c G A cX0_init 1 none RX0) (hin : meth.name = "<init>")   {h : gH} {v0 : Nat} (w : vX0_init G.2.2.1  Qn h v0) : V p l e rmX0_init s m args below meth c (MQ below (va_Qv Qn (gB G A) A) args s rmX0_init.cells rmX0_init.slots A) G A 1 h 0 0 0 [(0, .ref v0)] [] := by
  refine V_aloadr_n X dX0_init_0 0 rfl ?_
  refine V_objInit X kw_335 kw_41 kw_42 dX0_init_1 (Nat.le_of_ble_eq_true rfl) (Nat.le_of_ble_eq_true rfl) ?_
  refine V_aloadr_n X dX0_init_4 0 rfl ?_
  refine V_bipush (y := 12) X dX0_init_5 (by decide) ?_
  refine V_newa_int (N := 12) (k1 := 1) (n1 := 12) X kw_75 dX0_init_7 (by decide) (by decide) (Nat.le_of_ble_eq_true rfl) ⟨Nat.le_of_ble_eq_true rfl, Nat.le_of_ble_eq_true rfl⟩ (Nat.le_of_ble_eq_true rfl) (Nat.le_of_ble_eq_true rfl) (fun q1 hq => ?_)
  replace w := w q1 hq
  generalize va_up _ _ _ = h2 at w ⊢
  obtain ⟨fs, hh, hv, w⟩ := w
  refine V_putF X hin flX0_9 dX0_init_9 hh hv rfl rfl ?_
  generalize va_up _ _ _ = h3 at w ⊢
  exact V_vret X rfl dX0_init_12 (Nat.le_of_ble_eq_true rfl) (Nat.le_of_ble_eq_true rfl) w
theorem cX0_init_ok {l : Launch} {G : gG} {h : gH} (hls : l.stackTraces = false) {Qn : gH → Prop} {v0 : Nat} (w : vX0_init G.2.2.1 Qn h v0) : gMv l yX0_init cX0_init 1 none rmX0_init rmX0_init.cells rmX0_init.slots G h [.ref v0] Qn := by
  exact gMv.of (by decide +kernel) hls (Nat.le_of_ble_eq_true rfl) rfl rfl (fun p e s m below meth c A X hnm => tX0_init X hnm w)
/-! java/util/ArrayList.isEmpty()Z -/
abbrev rmJx4a65c_isEmpty_aae02 : Room := { frames := 0, cells := 0, slots := 0, locals := 0 }
def vJx4a65c_isEmpty_aae02_b12 (t0 : Nat)  (Qn : Int32 → gH → Prop) (h : gH) (s0 : Int32) : Prop := gZ s0 ∧ Qn s0 h
set_option maxRecDepth 100000 in
set_option maxHeartbeats 4000000 in
theorem tJx4a65c_isEmpty_aae02_b12 {p : Program} {l : Launch} {e : Env} {s : State} {m : MethodId} {args : Array Value} {below : List Frame} {meth : Method} {c : Code} {G : gG} {A : Nat → Prop} {Qn : Int32 → gH → Prop} (X : gC p l s m args meth c G A cJx4a65c_isEmpty_aae02 1 (some FieldType.boolean) RJx4a65c)   {h : gH} {s0 : Int32} (w : vJx4a65c_isEmpty_aae02_b12 G.2.2.1  Qn h s0) : V p l e rmJx4a65c_isEmpty_aae02 s m args below meth c (MQ below (va_Qi Qn (gB G A) A) args s rmJx4a65c_isEmpty_aae02.cells rmJx4a65c_isEmpty_aae02.slots A) G A 1 h 0 0 12 [] [.int s0] := by
  obtain ⟨hz, w⟩ := w
  exact V_zret X rfl hz.1 dJx4a65c_isEmpty_aae02_12 (Nat.le_of_ble_eq_true rfl) (Nat.le_of_ble_eq_true rfl) w
def vJx4a65c_isEmpty_aae02 (t0 : Nat)  (Qn : Int32 → gH → Prop) (h : gH) (v0 : Nat) : Prop := gi h v0 2 2 (fun x1 => ((¬ (x1 : Int32) = 0) → (vJx4a65c_isEmpty_aae02_b12 t0  Qn h 0)) ∧ (((x1 : Int32) = 0) → (vJx4a65c_isEmpty_aae02_b12 t0  Qn h 1)))
set_option maxRecDepth 100000 in
set_option maxHeartbeats 4000000 in
theorem tJx4a65c_isEmpty_aae02 {p : Program} {l : Launch} {e : Env} {s : State} {m : MethodId} {args : Array Value} {below : List Frame} {meth : Method} {c : Code} {G : gG} {A : Nat → Prop} {Qn : Int32 → gH → Prop} (X : gC p l s m args meth c G A cJx4a65c_isEmpty_aae02 1 (some FieldType.boolean) RJx4a65c)   {h : gH} {v0 : Nat} (w : vJx4a65c_isEmpty_aae02 G.2.2.1  Qn h v0) : V p l e rmJx4a65c_isEmpty_aae02 s m args below meth c (MQ below (va_Qi Qn (gB G A) A) args s rmJx4a65c_isEmpty_aae02.cells rmJx4a65c_isEmpty_aae02.slots A) G A 1 h 0 0 0 [(0, .ref v0)] [] := by
  refine V_aloadr_n X dJx4a65c_isEmpty_aae02_0 0 rfl ?_
  obtain ⟨fs, x1, hh, hv, w⟩ := w
  refine V_get X flJx4a65c_48 dJx4a65c_isEmpty_aae02_1 hh hv ?_
  obtain ⟨w1, w2⟩ := w
  refine V_if_ne (tgt := 11) X dJx4a65c_isEmpty_aae02_4 (by decide) (fun z => ?_) (fun z => ?_)
  · replace w := w1 z
    clear w1 w2
    refine V_iconst (y := 0) X dJx4a65c_isEmpty_aae02_11 (by decide) ?_
    exact V.sub [] rfl (tJx4a65c_isEmpty_aae02_b12 X  w)
  · replace w := w2 z
    clear w1 w2
    refine V_iconst (y := 1) X dJx4a65c_isEmpty_aae02_7 (by decide) ?_
    refine V_goto (tgt := 12) X dJx4a65c_isEmpty_aae02_8 (by decide) ?_
    exact V.sub [] rfl (tJx4a65c_isEmpty_aae02_b12 X  w)
theorem cJx4a65c_isEmpty_aae02_ok {l : Launch} {G : gG} {h : gH} (hls : l.stackTraces = false) {Qn : Int32 → gH → Prop} {v0 : Nat} (w : vJx4a65c_isEmpty_aae02 G.2.2.1 Qn h v0) : gMi l yJx4a65c_isEmpty_aae02 cJx4a65c_isEmpty_aae02 1 (some FieldType.boolean) rmJx4a65c_isEmpty_aae02 rmJx4a65c_isEmpty_aae02.cells rmJx4a65c_isEmpty_aae02.slots G h [.ref v0] Qn := by
  exact gMi.of (by decide +kernel) hls (Nat.le_of_ble_eq_true rfl) rfl rfl (fun p e s m below meth c A X hnm => tJx4a65c_isEmpty_aae02 X w)
/-! java/util/ArrayList.size()I -/
abbrev rmJx4a65c_size_8abf5 : Room := { frames := 0, cells := 0, slots := 0, locals := 0 }
def vJx4a65c_size_8abf5 (t0 : Nat)  (Qn : Int32 → gH → Prop) (h : gH) (v0 : Nat) : Prop := gi h v0 2 2 (fun x1 => Qn x1 h)
set_option maxRecDepth 100000 in
set_option maxHeartbeats 4000000 in
theorem tJx4a65c_size_8abf5 {p : Program} {l : Launch} {e : Env} {s : State} {m : MethodId} {args : Array Value} {below : List Frame} {meth : Method} {c : Code} {G : gG} {A : Nat → Prop} {Qn : Int32 → gH → Prop} (X : gC p l s m args meth c G A cJx4a65c_size_8abf5 1 (some FieldType.int) RJx4a65c)   {h : gH} {v0 : Nat} (w : vJx4a65c_size_8abf5 G.2.2.1  Qn h v0) : V p l e rmJx4a65c_size_8abf5 s m args below meth c (MQ below (va_Qi Qn (gB G A) A) args s rmJx4a65c_size_8abf5.cells rmJx4a65c_size_8abf5.slots A) G A 1 h 0 0 0 [(0, .ref v0)] [] := by
  refine V_aloadr_n X dJx4a65c_size_8abf5_0 0 rfl ?_
  obtain ⟨fs, x1, hh, hv, w⟩ := w
  refine V_get X flJx4a65c_48 dJx4a65c_size_8abf5_1 hh hv ?_
  exact V_iret X rfl dJx4a65c_size_8abf5_4 (Nat.le_of_ble_eq_true rfl) (Nat.le_of_ble_eq_true rfl) w
theorem cJx4a65c_size_8abf5_ok {l : Launch} {G : gG} {h : gH} (hls : l.stackTraces = false) {Qn : Int32 → gH → Prop} {v0 : Nat} (w : vJx4a65c_size_8abf5 G.2.2.1 Qn h v0) : gMi l yJx4a65c_size_8abf5 cJx4a65c_size_8abf5 1 (some FieldType.int) rmJx4a65c_size_8abf5 rmJx4a65c_size_8abf5.cells rmJx4a65c_size_8abf5.slots G h [.ref v0] Qn := by
  exact gMi.of (by decide +kernel) hls (Nat.le_of_ble_eq_true rfl) rfl rfl (fun p e s m below meth c A X hnm => tJx4a65c_size_8abf5 X w)
/-! AnimationController$Node.positionOf(I)I -/
abbrev rmX5_positionOf : Room := { frames := 0, cells := 0, slots := 0, locals := 0 }
def vX5_positionOf_b23 (t0 : Nat)  (Qn : Int32 → gH → Prop) (h : gH) (s0 : Int32) : Prop := Qn s0 h
set_option maxRecDepth 100000 in
set_option maxHeartbeats 4000000 in
theorem tX5_positionOf_b23 {p : Program} {l : Launch} {e : Env} {s : State} {m : MethodId} {args : Array Value} {below : List Frame} {meth : Method} {c : Code} {G : gG} {A : Nat → Prop} {Qn : Int32 → gH → Prop} (X : gC p l s m args meth c G A cX5_positionOf 2 (some FieldType.int) RX5)   {h : gH} {s0 : Int32} (w : vX5_positionOf_b23 G.2.2.1  Qn h s0) : V p l e rmX5_positionOf s m args below meth c (MQ below (va_Qi Qn (gB G A) A) args s rmX5_positionOf.cells rmX5_positionOf.slots A) G A 2 h 0 0 23 [] [.int s0] := by
  exact V_iret X rfl dX5_positionOf_23 (Nat.le_of_ble_eq_true rfl) (Nat.le_of_ble_eq_true rfl) w
def vX5_positionOf_b22 (t0 : Nat)  (Qn : Int32 → gH → Prop) (h : gH)  : Prop := vX5_positionOf_b23 t0  Qn h 0
set_option maxRecDepth 100000 in
set_option maxHeartbeats 4000000 in
theorem tX5_positionOf_b22 {p : Program} {l : Launch} {e : Env} {s : State} {m : MethodId} {args : Array Value} {below : List Frame} {meth : Method} {c : Code} {G : gG} {A : Nat → Prop} {Qn : Int32 → gH → Prop} (X : gC p l s m args meth c G A cX5_positionOf 2 (some FieldType.int) RX5)   {h : gH}  (w : vX5_positionOf_b22 G.2.2.1  Qn h ) : V p l e rmX5_positionOf s m args below meth c (MQ below (va_Qi Qn (gB G A) A) args s rmX5_positionOf.cells rmX5_positionOf.slots A) G A 2 h 0 0 22 [] [] := by
  refine V_iconst (y := 0) X dX5_positionOf_22 (by decide) ?_
  exact V.sub [] rfl (tX5_positionOf_b23 X  w)
def vX5_positionOf (t0 : Nat)  (Qn : Int32 → gH → Prop) (h : gH) (v0 : Nat) (v1 : Int32) : Prop := (((v1 : Int32) < 0) → (vX5_positionOf_b22 t0  Qn h )) ∧ ((¬ (v1 : Int32) < 0) → (gr h v0 8 3 (fun r1 => nn r1 (fun a2 => al h a2 (fun x3 => ((x3 ≤ (v1 : Int32)) → (vX5_positionOf_b22 t0  Qn h )) ∧ ((¬ x3 ≤ (v1 : Int32)) → (gr h v0 8 3 (fun r4 => nn r4 (fun a5 => li h a5 v1 (fun x6 => vX5_positionOf_b23 t0  Qn h x6))))))))))
set_option maxRecDepth 100000 in
set_option maxHeartbeats 4000000 in
theorem tX5_positionOf {p : Program} {l : Launch} {e : Env} {s : State} {m : MethodId} {args : Array Value} {below : List Frame} {meth : Method} {c : Code} {G : gG} {A : Nat → Prop} {Qn : Int32 → gH → Prop} (X : gC p l s m args meth c G A cX5_positionOf 2 (some FieldType.int) RX5)   {h : gH} {v0 : Nat} {v1 : Int32} (w : vX5_positionOf G.2.2.1  Qn h v0 v1) : V p l e rmX5_positionOf s m args below meth c (MQ below (va_Qi Qn (gB G A) A) args s rmX5_positionOf.cells rmX5_positionOf.slots A) G A 2 h 0 0 0 [(0, .ref v0), (1, .int v1)] [] := by
  refine V_iload_n X dX5_positionOf_0 1 rfl ?_
  obtain ⟨w1, w2⟩ := w
  refine V_if_lt (tgt := 22) X dX5_positionOf_1 (by decide) (fun z => ?_) (fun z => ?_)
  · replace w := w1 z
    clear w1 w2
    exact V.sub [] rfl (tX5_positionOf_b22 X  w)
  · replace w := w2 z
    clear w1 w2
    refine V_iload_n X dX5_positionOf_4 1 rfl ?_
    refine V_aloadr_n X dX5_positionOf_5 0 rfl ?_
    obtain ⟨fs, r1, hh, hv, w⟩ := w
    refine V_get X flX5_18 dX5_positionOf_6 hh hv ?_
    obtain ⟨a2, rfl, w⟩ := w
    obtain ⟨kt9, x9, hh, hk9, w⟩ := w
    refine V_alen X dX5_positionOf_9 hh hk9 ?_
    generalize Int32.ofNat _ = x3 at w ⊢
    obtain ⟨w1, w2⟩ := w
    refine V_icmp_ge (tgt := 22) X dX5_positionOf_10 (by decide) (fun z => ?_) (fun z => ?_)
    · replace w := w1 z
      clear w1 w2
      exact V.sub [] rfl (tX5_positionOf_b22 X  w)
    · replace w := w2 z
      clear w1 w2
      refine V_aloadr_n X dX5_positionOf_13 0 rfl ?_
      obtain ⟨fs, r4, hh, hv, w⟩ := w
      refine V_get X flX5_18 dX5_positionOf_14 hh hv ?_
      refine V_iload_n X dX5_positionOf_17 1 rfl ?_
      obtain ⟨a5, rfl, w⟩ := w
      obtain ⟨N9, g9, hh, hi, w⟩ := w
      refine V_iald X dX5_positionOf_18 hh hi ?_
      generalize g9 _ = x6 at w ⊢
      refine V_goto (tgt := 23) X dX5_positionOf_19 (by decide) ?_
      exact V.sub [] rfl (tX5_positionOf_b23 X  w)
theorem cX5_positionOf_ok {l : Launch} {G : gG} {h : gH} (hls : l.stackTraces = false) {Qn : Int32 → gH → Prop} {v0 : Nat} {v1 : Int32} (w : vX5_positionOf G.2.2.1 Qn h v0 v1) : gMi l yX5_positionOf cX5_positionOf 2 (some FieldType.int) rmX5_positionOf rmX5_positionOf.cells rmX5_positionOf.slots G h [.ref v0, .int v1] Qn := by
  exact gMi.of (by decide +kernel) hls (Nat.le_of_ble_eq_true rfl) rfl rfl (fun p e s m below meth c A X hnm => tX5_positionOf X w)
/-! jdk/internal/util/Preconditions.checkIndex(IILjava/util/function/BiFunction;)I -/
abbrev rmJ3_checkIndex_8e157 : Room := { frames := 0, cells := 0, slots := 0, locals := 0 }
def vJ3_checkIndex_8e157_b9 (t0 : Nat)  (Qn : Int32 → gH → Prop) (h : gH) (v0 : Int32) (v1 : Int32) (v2 : Option Nat) : Prop := False
set_option maxRecDepth 100000 in
set_option maxHeartbeats 4000000 in
theorem tJ3_checkIndex_8e157_b9 {p : Program} {l : Launch} {e : Env} {s : State} {m : MethodId} {args : Array Value} {below : List Frame} {meth : Method} {c : Code} {G : gG} {A : Nat → Prop} {Qn : Int32 → gH → Prop} (X : gC p l s m args meth c G A cJ3_checkIndex_8e157 3 (some FieldType.int) RJ3)   {h : gH} {v0 : Int32} {v1 : Int32} {v2 : Option Nat} (w : vJ3_checkIndex_8e157_b9 G.2.2.1  Qn h v0 v1 v2) : V p l e rmJ3_checkIndex_8e157 s m args below meth c (MQ below (va_Qi Qn (gB G A) A) args s rmJ3_checkIndex_8e157.cells rmJ3_checkIndex_8e157.slots A) G A 3 h 0 0 9 [(0, .int v0), (1, .int v1), (2, va_rf v2)] [] := by
  refine V_aload_n X dJ3_checkIndex_8e157_9 2 rfl ?_
  refine V_iload_n X dJ3_checkIndex_8e157_10 0 rfl ?_
  refine V_iload_n X dJ3_checkIndex_8e157_11 1 rfl ?_
  exact False.elim w
def vJ3_checkIndex_8e157 (t0 : Nat)  (Qn : Int32 → gH → Prop) (h : gH) (v0 : Int32) (v1 : Int32) (v2 : Option Nat) : Prop := (((v0 : Int32) < 0) → (vJ3_checkIndex_8e157_b9 t0  Qn h v0 v1 v2)) ∧ ((¬ (v0 : Int32) < 0) → ((((v0 : Int32) < v1) → (Qn v0 h)) ∧ ((¬ (v0 : Int32) < v1) → (vJ3_checkIndex_8e157_b9 t0  Qn h v0 v1 v2))))
set_option maxRecDepth 100000 in
set_option maxHeartbeats 4000000 in
theorem tJ3_checkIndex_8e157 {p : Program} {l : Launch} {e : Env} {s : State} {m : MethodId} {args : Array Value} {below : List Frame} {meth : Method} {c : Code} {G : gG} {A : Nat → Prop} {Qn : Int32 → gH → Prop} (X : gC p l s m args meth c G A cJ3_checkIndex_8e157 3 (some FieldType.int) RJ3)   {h : gH} {v0 : Int32} {v1 : Int32} {v2 : Option Nat} (w : vJ3_checkIndex_8e157 G.2.2.1  Qn h v0 v1 v2) : V p l e rmJ3_checkIndex_8e157 s m args below meth c (MQ below (va_Qi Qn (gB G A) A) args s rmJ3_checkIndex_8e157.cells rmJ3_checkIndex_8e157.slots A) G A 3 h 0 0 0 [(0, .int v0), (1, .int v1), (2, va_rf v2)] [] := by
  refine V_iload_n X dJ3_checkIndex_8e157_0 0 rfl ?_
  obtain ⟨w1, w2⟩ := w
  refine V_if_lt (tgt := 9) X dJ3_checkIndex_8e157_1 (by decide) (fun z => ?_) (fun z => ?_)
  · replace w := w1 z
    clear w1 w2
    exact V.sub [0, 1, 2] rfl (tJ3_checkIndex_8e157_b9 X  w)
  · replace w := w2 z
    clear w1 w2
    refine V_iload_n X dJ3_checkIndex_8e157_4 0 rfl ?_
    refine V_iload_n X dJ3_checkIndex_8e157_5 1 rfl ?_
    obtain ⟨w1, w2⟩ := w
    refine V_icmp_lt (tgt := 16) X dJ3_checkIndex_8e157_6 (by decide) (fun z => ?_) (fun z => ?_)
    · replace w := w1 z
      clear w1 w2
      refine V_iload_n X dJ3_checkIndex_8e157_16 0 rfl ?_
      exact V_iret X rfl dJ3_checkIndex_8e157_17 (Nat.le_of_ble_eq_true rfl) (Nat.le_of_ble_eq_true rfl) w
    · replace w := w2 z
      clear w1 w2
      exact V.sub [0, 1, 2] rfl (tJ3_checkIndex_8e157_b9 X  w)
theorem cJ3_checkIndex_8e157_ok {l : Launch} {G : gG} {h : gH} (hls : l.stackTraces = false) {Qn : Int32 → gH → Prop} {v0 : Int32} {v1 : Int32} {v2 : Option Nat} (w : vJ3_checkIndex_8e157 G.2.2.1 Qn h v0 v1 v2) : gMi l yJ3_checkIndex_8e157 cJ3_checkIndex_8e157 3 (some FieldType.int) rmJ3_checkIndex_8e157 rmJ3_checkIndex_8e157.cells rmJ3_checkIndex_8e157.slots G h [.int v0, .int v1, va_rf v2] Qn := by
  cases v2 <;>
  exact gMi.of (by decide +kernel) hls (Nat.le_of_ble_eq_true rfl) rfl rfl (fun p e s m below meth c A X hnm => tJ3_checkIndex_8e157 X w)
/-! java/util/Objects.checkIndex(II)I -/
abbrev rmJ15_checkIndex_7cf53 : Room := { frames := 1, cells := 0, slots := 0, locals := 22 }
def vJ15_checkIndex_7cf53 (t0 : Nat)  (Qn : Int32 → gH → Prop) (h : gH) (v0 : Int32) (v1 : Int32) : Prop := vJ3_checkIndex_8e157 t0 (fun x2 h1 => Qn x2 h1) h v0 v1 (none : Option Nat)
set_option maxRecDepth 100000 in
set_option maxHeartbeats 4000000 in
theorem tJ15_checkIndex_7cf53 {p : Program} {l : Launch} {e : Env} {s : State} {m : MethodId} {args : Array Value} {below : List Frame} {meth : Method} {c : Code} {G : gG} {A : Nat → Prop} {Qn : Int32 → gH → Prop} (X : gC p l s m args meth c G A cJ15_checkIndex_7cf53 2 (some FieldType.int) RJ15)   {h : gH} {v0 : Int32} {v1 : Int32} (w : vJ15_checkIndex_7cf53 G.2.2.1  Qn h v0 v1) : V p l e rmJ15_checkIndex_7cf53 s m args below meth c (MQ below (va_Qi Qn (gB G A) A) args s rmJ15_checkIndex_7cf53.cells rmJ15_checkIndex_7cf53.slots A) G A 2 h 0 0 0 [(0, .int v0), (1, .int v1)] [] := by
  refine V_iload_n X dJ15_checkIndex_7cf53_0 0 rfl ?_
  refine V_iload_n X dJ15_checkIndex_7cf53_1 1 rfl ?_
  refine V_null X dJ15_checkIndex_7cf53_2 ?_
  refine V_callSi (As := [.int v0, .int v1, va_rf (none : Option Nat)]) (rest := []) (k1 := 0) (n1 := 0) X (cJ3_checkIndex_8e157_ok X.2.2.2.2.2.2.2.2.1 w) lkJ15_105 dJ15_checkIndex_7cf53_3 ⟨Nat.le_of_ble_eq_true rfl, Nat.le_of_ble_eq_true rfl⟩ rfl (Nat.le_of_ble_eq_true rfl) ⟨Nat.le_of_ble_eq_true rfl, Nat.le_of_ble_eq_true rfl⟩ (Nat.le_of_ble_eq_true rfl) (Nat.le_of_ble_eq_true rfl) (fun x2 h1 w9 => ?_)
  replace w := w9
  clear w9
  exact V_iret X rfl dJ15_checkIndex_7cf53_6 (Nat.le_of_ble_eq_true rfl) (Nat.le_of_ble_eq_true rfl) w
theorem cJ15_checkIndex_7cf53_ok {l : Launch} {G : gG} {h : gH} (hls : l.stackTraces = false) {Qn : Int32 → gH → Prop} {v0 : Int32} {v1 : Int32} (w : vJ15_checkIndex_7cf53 G.2.2.1 Qn h v0 v1) : gMi l yJ15_checkIndex_7cf53 cJ15_checkIndex_7cf53 2 (some FieldType.int) rmJ15_checkIndex_7cf53 rmJ15_checkIndex_7cf53.cells rmJ15_checkIndex_7cf53.slots G h [.int v0, .int v1] Qn := by
  exact gMi.of (by decide +kernel) hls (Nat.le_of_ble_eq_true rfl) rfl rfl (fun p e s m below meth c A X hnm => tJ15_checkIndex_7cf53 X w)
/-! java/util/ArrayList.elementData(I)Ljava/lang/Object; -/
abbrev rmJx4a65c_elementData_915e3 : Room := { frames := 0, cells := 0, slots := 0, locals := 0 }
def vJx4a65c_elementData_915e3 (t0 : Nat)  (Qn : Option Nat → gH → Prop) (h : gH) (v0 : Nat) (v1 : Int32) : Prop := gr h v0 2 1 (fun r1 => nn r1 (fun a2 => lq h 3 a2 v1 (fun r3 => Qn r3 h)))
set_option maxRecDepth 100000 in
set_option maxHeartbeats 4000000 in
theorem tJx4a65c_elementData_915e3 {p : Program} {l : Launch} {e : Env} {s : State} {m : MethodId} {args : Array Value} {below : List Frame} {meth : Method} {c : Code} {G : gG} {A : Nat → Prop} {Qn : Option Nat → gH → Prop} (X : gC p l s m args meth c G A cJx4a65c_elementData_915e3 2 (some (FieldType.object "java/lang/Object")) RJx4a65c)   {h : gH} {v0 : Nat} {v1 : Int32} (w : vJx4a65c_elementData_915e3 G.2.2.1  Qn h v0 v1) : V p l e rmJx4a65c_elementData_915e3 s m args below meth c (MQ below (va_Qq Qn (gB G A) A) args s rmJx4a65c_elementData_915e3.cells rmJx4a65c_elementData_915e3.slots A) G A 2 h 0 0 0 [(0, .ref v0), (1, .int v1)] [] := by
  refine V_aloadr_n X dJx4a65c_elementData_915e3_0 0 rfl ?_
  obtain ⟨fs, r1, hh, hv, w⟩ := w
  refine V_get X flJx4a65c_9 dJx4a65c_elementData_915e3_1 hh hv ?_
  refine V_iload_n X dJx4a65c_elementData_915e3_4 1 rfl ?_
  obtain ⟨a2, rfl, w⟩ := w
  obtain ⟨N9, g9, hh, hi, w⟩ := w
  refine V_aald3 X dJx4a65c_elementData_915e3_5 hh hi ?_
  generalize g9 _ = r3 at w ⊢
  exact V_aret (x := r3) X rfl (Or.inl ⟨_, rfl⟩) dJx4a65c_elementData_915e3_6 (Nat.le_of_ble_eq_true rfl) (Nat.le_of_ble_eq_true rfl) w
theorem cJx4a65c_elementData_915e3_ok {l : Launch} {G : gG} {h : gH} (hls : l.stackTraces = false) {Qn : Option Nat → gH → Prop} {v0 : Nat} {v1 : Int32} (w : vJx4a65c_elementData_915e3 G.2.2.1 Qn h v0 v1) : gMq l yJx4a65c_elementData_915e3 cJx4a65c_elementData_915e3 2 (some (FieldType.object "java/lang/Object")) rmJx4a65c_elementData_915e3 rmJx4a65c_elementData_915e3.cells rmJx4a65c_elementData_915e3.slots G h [.ref v0, .int v1] Qn := by
  exact gMq.of (by decide +kernel) hls (Nat.le_of_ble_eq_true rfl) rfl rfl (fun p e s m below meth c A X hnm => tJx4a65c_elementData_915e3 X w)
/-! java/util/ArrayList.get(I)Ljava/lang/Object; -/
abbrev rmJx4a65c_get_915e3 : Room := { frames := 2, cells := 0, slots := 0, locals := 43 }
def vJx4a65c_get_915e3 (t0 : Nat)  (Qn : Option Nat → gH → Prop) (h : gH) (v0 : Nat) (v1 : Int32) : Prop := gi h v0 2 2 (fun x1 => vJ15_checkIndex_7cf53 t0 (fun x3 h2 => io h2 v0 2 (vJx4a65c_elementData_915e3 t0 (fun r5 h4 => Qn r5 h4) h2 v0 v1)) h v1 x1)
set_option maxRecDepth 100000 in
set_option maxHeartbeats 4000000 in
theorem tJx4a65c_get_915e3 {p : Program} {l : Launch} {e : Env} {s : State} {m : MethodId} {args : Array Value} {below : List Frame} {meth : Method} {c : Code} {G : gG} {A : Nat → Prop} {Qn : Option Nat → gH → Prop} (X : gC p l s m args meth c G A cJx4a65c_get_915e3 2 (some (FieldType.object "java/lang/Object")) RJx4a65c)   {h : gH} {v0 : Nat} {v1 : Int32} (w : vJx4a65c_get_915e3 G.2.2.1  Qn h v0 v1) : V p l e rmJx4a65c_get_915e3 s m args below meth c (MQ below (va_Qq Qn (gB G A) A) args s rmJx4a65c_get_915e3.cells rmJx4a65c_get_915e3.slots A) G A 2 h 0 0 0 [(0, .ref v0), (1, .int v1)] [] := by
  refine V_iload_n X dJx4a65c_get_915e3_0 1 rfl ?_
  refine V_aloadr_n X dJx4a65c_get_915e3_1 0 rfl ?_
  obtain ⟨fs, x1, hh, hv, w⟩ := w
  refine V_get X flJx4a65c_48 dJx4a65c_get_915e3_2 hh hv ?_
  refine V_callSi (As := [.int v1, .int x1]) (rest := []) (k1 := 0) (n1 := 0) X (cJ15_checkIndex_7cf53_ok X.2.2.2.2.2.2.2.2.1 w) lkJx4a65c_118 dJx4a65c_get_915e3_5 ⟨Nat.le_of_ble_eq_true rfl, Nat.le_of_ble_eq_true rfl⟩ rfl (Nat.le_of_ble_eq_true rfl) ⟨Nat.le_of_ble_eq_true rfl, Nat.le_of_ble_eq_true rfl⟩ (Nat.le_of_ble_eq_true rfl) (Nat.le_of_ble_eq_true rfl) (fun x3 h2 w9 => ?_)
  replace w := w9
  clear w9
  refine V_pop X dJx4a65c_get_915e3_8 rfl ?_
  refine V_aloadr_n X dJx4a65c_get_915e3_9 0 rfl ?_
  refine V_iload_n X dJx4a65c_get_915e3_10 1 rfl ?_
  obtain ⟨fs, hh, w⟩ := w
  refine V_callVq (As := [.int v1]) (rest := []) (k1 := 0) (n1 := 0) X (cJx4a65c_elementData_915e3_ok X.2.2.2.2.2.2.2.2.1 w) lkJx4a65c_123 hh (q9 := (RJx4a65c, TJx4a65c, 3)) rfl rfl dJx4a65c_get_915e3_11 ⟨Nat.le_of_ble_eq_true rfl, Nat.le_of_ble_eq_true rfl⟩ rfl (Nat.le_of_ble_eq_true rfl) ⟨Nat.le_of_ble_eq_true rfl, Nat.le_of_ble_eq_true rfl⟩ (Nat.le_of_ble_eq_true rfl) (Nat.le_of_ble_eq_true rfl) (fun r5 h4 w9 => ?_)
  replace w := w9
  clear w9
  exact V_aret (x := r5) X rfl (Or.inl ⟨_, rfl⟩) dJx4a65c_get_915e3_14 (Nat.le_of_ble_eq_true rfl) (Nat.le_of_ble_eq_true rfl) w
theorem cJx4a65c_get_915e3_ok {l : Launch} {G : gG} {h : gH} (hls : l.stackTraces = false) {Qn : Option Nat → gH → Prop} {v0 : Nat} {v1 : Int32} (w : vJx4a65c_get_915e3 G.2.2.1 Qn h v0 v1) : gMq l yJx4a65c_get_915e3 cJx4a65c_get_915e3 2 (some (FieldType.object "java/lang/Object")) rmJx4a65c_get_915e3 rmJx4a65c_get_915e3.cells rmJx4a65c_get_915e3.slots G h [.ref v0, .int v1] Qn := by
  exact gMq.of (by decide +kernel) hls (Nat.le_of_ble_eq_true rfl) rfl rfl (fun p e s m below meth c A X hnm => tJx4a65c_get_915e3 X w)
/-! AnimationController$Blend.addParts([ILAnimationController$Node;I[II)V -/
abbrev rmX0_addParts_r1 : Room := { frames := 3, cells := 0, slots := 0, locals := 64 }
def vX0_addParts_r1_b10 (t0 : Nat)  (Qn : gH → Prop) (h : gH)  : Prop := Qn h
set_option maxRecDepth 100000 in
set_option maxHeartbeats 4000000 in
theorem tX0_addParts_r1_b10 {p : Program} {l : Launch} {e : Env} {s : State} {m : MethodId} {args : Array Value} {below : List Frame} {meth : Method} {c : Code} {G : gG} {A : Nat → Prop} {Qn : gH → Prop} (X : gC p l s m args meth c G A cX0_addParts 10 none RX0)   {h : gH}  (w : vX0_addParts_r1_b10 G.2.2.1  Qn h ) : V p l e rmX0_addParts_r1 s m args below meth c (MQ below (va_Qv Qn (gB G A) A) args s rmX0_addParts_r1.cells rmX0_addParts_r1.slots A) G A 10 h 0 0 10 [] [] := by
  exact V_vret X rfl dX0_addParts_10 (Nat.le_of_ble_eq_true rfl) (Nat.le_of_ble_eq_true rfl) w
def vX0_addParts_r1_b74 (t0 : Nat)  (Qn : gH → Prop) (h : gH)  : Prop := Qn h
set_option maxRecDepth 100000 in
set_option maxHeartbeats 4000000 in
theorem tX0_addParts_r1_b74 {p : Program} {l : Launch} {e : Env} {s : State} {m : MethodId} {args : Array Value} {below : List Frame} {meth : Method} {c : Code} {G : gG} {A : Nat → Prop} {Qn : gH → Prop} (X : gC p l s m args meth c G A cX0_addParts 10 none RX0)   {h : gH}  (w : vX0_addParts_r1_b74 G.2.2.1  Qn h ) : V p l e rmX0_addParts_r1 s m args below meth c (MQ below (va_Qv Qn (gB G A) A) args s rmX0_addParts_r1.cells rmX0_addParts_r1.slots A) G A 10 h 0 0 74 [] [] := by
  exact V_vret X rfl dX0_addParts_74 (Nat.le_of_ble_eq_true rfl) (Nat.le_of_ble_eq_true rfl) w
def vX0_addParts_r1_b187 (t0 : Nat)  (Qn : gH → Prop) (h : gH) (v0 : Option Nat) (v1 : Option Nat) (v2 : Int32) (v3 : Option Nat) (v4 : Int32) (v6 : Int32) (v7 : Int32) (v9 : Int32) : Prop := nn v1 (fun a1 => gr h a1 8 2 (fun r2 => nn r2 (fun a3 => io h a3 2 (vJx4a65c_get_915e3 t0 (fun r5 h4 => nn r5 (fun a6 => io h4 a6 8 (False))) h a3 v6))))
set_option maxRecDepth 100000 in
set_option maxHeartbeats 4000000 in
theorem tX0_addParts_r1_b187 {p : Program} {l : Launch} {e : Env} {s : State} {m : MethodId} {args : Array Value} {below : List Frame} {meth : Method} {c : Code} {G : gG} {A : Nat → Prop} {Qn : gH → Prop} (X : gC p l s m args meth c G A cX0_addParts 10 none RX0)   {h : gH} {v0 : Option Nat} {v1 : Option Nat} {v2 : Int32} {v3 : Option Nat} {v4 : Int32} {v6 : Int32} {v7 : Int32} {v9 : Int32} (w : vX0_addParts_r1_b187 G.2.2.1  Qn h v0 v1 v2 v3 v4 v6 v7 v9) : V p l e rmX0_addParts_r1 s m args below meth c (MQ below (va_Qv Qn (gB G A) A) args s rmX0_addParts_r1.cells rmX0_addParts_r1.slots A) G A 10 h 0 0 187 [(0, va_rf v0), (1, va_rf v1), (2, .int v2), (3, va_rf v3), (4, .int v4), (6, .int v6), (7, .int v7), (9, .int v9)] [] := by
  refine V_aload_n X dX0_addParts_187 0 rfl ?_
  refine V_aload_n X dX0_addParts_188 1 rfl ?_
  obtain ⟨a1, rfl, w⟩ := w
  obtain ⟨fs, r2, hh, hv, w⟩ := w
  refine V_get3 X frX0_34 dX0_addParts_189 hh hv ?_
  refine V_iload X dX0_addParts_192 5 rfl ?_
  obtain ⟨a3, rfl, w⟩ := w
  obtain ⟨fs, hh, w⟩ := w
  refine V_callVq (As := [.int v6]) (rest := [va_rf v0]) (k1 := 0) (n1 := 0) X (cJx4a65c_get_915e3_ok X.2.2.2.2.2.2.2.2.1 w) lkX0_52 hh (q9 := (RJx4a65c, TJx4a65c, 3)) rfl rfl dX0_addParts_194 ⟨Nat.le_of_ble_eq_true rfl, Nat.le_of_ble_eq_true rfl⟩ rfl (va_len _ 4 (Nat.le_of_ble_eq_true rfl)) ⟨Nat.le_of_ble_eq_true rfl, Nat.le_of_ble_eq_true rfl⟩ (Nat.le_of_ble_eq_true rfl) (Nat.le_of_ble_eq_true rfl) (fun r5 h4 w9 => ?_)
  replace w := w9
  clear w9
  obtain ⟨a6, rfl, w⟩ := w
  obtain ⟨fs, hh, w⟩ := w
  refine V_cast (q9 := (RX5, TX5, 5)) X kw_673 rfl rfl hh dX0_addParts_197 ?_
  refine V_iload X dX0_addParts_200 7 rfl ?_
  refine V_aload_n X dX0_addParts_202 3 rfl ?_
  refine V_iload X dX0_addParts_203 4 rfl ?_
  refine V_iconst (y := 1) X dX0_addParts_205 (by decide) ?_
  refine V_iadd X dX0_addParts_206 ?_
  exact False.elim w
def vX0_addParts_r1_b142 (t0 : Nat)  (Qn : gH → Prop) (h : gH) (v0 : Option Nat) (v1 : Option Nat) (v2 : Int32) (v3 : Option Nat) (v4 : Int32) (v5 : Int32) (v6 : Int32) (s0 : Int32) : Prop := nn v1 (fun a1 => io h a1 8 (vX5_positionOf t0 (fun x3 h2 => io h2 a1 8 (vX5_positionOf t0 (fun x5 h4 => ((((x3 - x5) : Int32) ≤ 0) → (vX0_addParts_r1_b187 t0  Qn h4 v0 (some a1) v2 v3 v4 v6 s0 0)) ∧ ((¬ ((x3 - x5) : Int32) ≤ 0) → (io h4 a1 8 (vX5_positionOf t0 (fun x7 h6 => ¬ ((Int32.toInt64 (x3 - x5)) : Int64) = 0 ∧ (vX0_addParts_r1_b187 t0  Qn h6 v0 (some a1) v2 v3 v4 v6 s0 (Int64.toInt32 (((Int32.toInt64 v2) * (Int32.toInt64 (v5 - x7))) / (Int32.toInt64 (x3 - x5)))))) h4 a1 s0)))) h2 a1 s0)) h a1 v6))
set_option maxRecDepth 100000 in
set_option maxHeartbeats 4000000 in
theorem tX0_addParts_r1_b142 {p : Program} {l : Launch} {e : Env} {s : State} {m : MethodId} {args : Array Value} {below : List Frame} {meth : Method} {c : Code} {G : gG} {A : Nat → Prop} {Qn : gH → Prop} (X : gC p l s m args meth c G A cX0_addParts 10 none RX0)   {h : gH} {v0 : Option Nat} {v1 : Option Nat} {v2 : Int32} {v3 : Option Nat} {v4 : Int32} {v5 : Int32} {v6 : Int32} {s0 : Int32} (w : vX0_addParts_r1_b142 G.2.2.1  Qn h v0 v1 v2 v3 v4 v5 v6 s0) : V p l e rmX0_addParts_r1 s m args below meth c (MQ below (va_Qv Qn (gB G A) A) args s rmX0_addParts_r1.cells rmX0_addParts_r1.slots A) G A 10 h 0 0 142 [(0, va_rf v0), (1, va_rf v1), (2, .int v2), (3, va_rf v3), (4, .int v4), (5, .int v5), (6, .int v6)] [.int s0] := by
  refine V_istore X dX0_addParts_142 (by decide) rfl ?_
  refine V_aload_n X dX0_addParts_144 2 rfl ?_
  refine V_iload X dX0_addParts_145 7 rfl ?_
  obtain ⟨a1, rfl, w⟩ := w
  obtain ⟨fs, hh, w⟩ := w
  refine V_callVi (As := [.int v6]) (rest := []) (k1 := 0) (n1 := 0) X (cX5_positionOf_ok X.2.2.2.2.2.2.2.2.1 w) lkX0_48 hh (q9 := (RX5, TX5, 5)) rfl rfl dX0_addParts_147 ⟨Nat.le_of_ble_eq_true rfl, Nat.le_of_ble_eq_true rfl⟩ rfl (Nat.le_of_ble_eq_true rfl) ⟨Nat.le_of_ble_eq_true rfl, Nat.le_of_ble_eq_true rfl⟩ (Nat.le_of_ble_eq_true rfl) (Nat.le_of_ble_eq_true rfl) (fun x3 h2 w9 => ?_)
  replace w := w9
  clear w9
  refine V_aloadr_n X dX0_addParts_150 2 rfl ?_
  refine V_iload X dX0_addParts_151 0 rfl ?_
  obtain ⟨fs, hh, w⟩ := w
  refine V_callVi (As := [.int s0]) (rest := [.int x3]) (k1 := 0) (n1 := 0) X (cX5_positionOf_ok X.2.2.2.2.2.2.2.2.1 w) lkX0_48 hh (q9 := (RX5, TX5, 5)) rfl rfl dX0_addParts_153 ⟨Nat.le_of_ble_eq_true rfl, Nat.le_of_ble_eq_true rfl⟩ rfl (Nat.le_of_ble_eq_true rfl) ⟨Nat.le_of_ble_eq_true rfl, Nat.le_of_ble_eq_true rfl⟩ (Nat.le_of_ble_eq_true rfl) (Nat.le_of_ble_eq_true rfl) (fun x5 h4 w9 => ?_)
  replace w := w9
  clear w9
  refine V_isub X dX0_addParts_156 ?_
  refine V_istore X dX0_addParts_157 (by decide) rfl ?_
  refine V_iconst (y := 0) X dX0_addParts_159 (by decide) ?_
  refine V_istore X dX0_addParts_160 (by decide) rfl ?_
  refine V_iload X dX0_addParts_162 1 rfl ?_
  obtain ⟨w1, w2⟩ := w
  refine V_if_le (tgt := 187) X dX0_addParts_164 (by decide) (fun z => ?_) (fun z => ?_)
  · replace w := w1 z
    clear w1 w2
    exact V.sub [3, 4, 5, 6, 7, 9, 2, 0] rfl (tX0_addParts_r1_b187 X  w)
  · replace w := w2 z
    clear w1 w2
    refine V_iload_n X dX0_addParts_167 5 rfl ?_
    refine V_i2l X dX0_addParts_168 ?_
    refine V_iload X dX0_addParts_169 8 rfl ?_
    refine V_aloadr_n X dX0_addParts_171 4 rfl ?_
    refine V_iload X dX0_addParts_172 2 rfl ?_
    obtain ⟨fs, hh, w⟩ := w
    refine V_callVi (As := [.int s0]) (rest := [.int v5, .long (Int32.toInt64 v2)]) (k1 := 0) (n1 := 0) X (cX5_positionOf_ok X.2.2.2.2.2.2.2.2.1 w) lkX0_48 hh (q9 := (RX5, TX5, 5)) rfl rfl dX0_addParts_174 ⟨Nat.le_of_ble_eq_true rfl, Nat.le_of_ble_eq_true rfl⟩ rfl (Nat.le_of_ble_eq_true rfl) ⟨Nat.le_of_ble_eq_true rfl, Nat.le_of_ble_eq_true rfl⟩ (Nat.le_of_ble_eq_true rfl) (Nat.le_of_ble_eq_true rfl) (fun x7 h6 w9 => ?_)
    replace w := w9
    clear w9
    refine V_isub X dX0_addParts_177 ?_
    refine V_i2l X dX0_addParts_178 ?_
    refine V_lmul X dX0_addParts_179 ?_
    refine V_iload X dX0_addParts_180 1 rfl ?_
    refine V_i2l X dX0_addParts_182 ?_
    obtain ⟨z0, w⟩ := w
    refine V_ldiv X dX0_addParts_183 z0 ?_
    refine V_l2i X dX0_addParts_184 ?_
    refine V_istore X dX0_addParts_185 (by decide) rfl ?_
    exact V.sub [3, 4, 5, 6, 7, 9, 2, 0] rfl (tX0_addParts_r1_b187 X  w)
def vX0_addParts_r1_b140 (t0 : Nat)  (Qn : gH → Prop) (h : gH) (v0 : Option Nat) (v1 : Option Nat) (v2 : Int32) (v3 : Option Nat) (v4 : Int32) (v5 : Int32) (v6 : Int32) : Prop := vX0_addParts_r1_b142 t0  Qn h v0 v1 v2 v3 v4 v5 v6 v6
set_option maxRecDepth 100000 in
set_option maxHeartbeats 4000000 in
theorem tX0_addParts_r1_b140 {p : Program} {l : Launch} {e : Env} {s : State} {m : MethodId} {args : Array Value} {below : List Frame} {meth : Method} {c : Code} {G : gG} {A : Nat → Prop} {Qn : gH → Prop} (X : gC p l s m args meth c G A cX0_addParts 10 none RX0)   {h : gH} {v0 : Option Nat} {v1 : Option Nat} {v2 : Int32} {v3 : Option Nat} {v4 : Int32} {v5 : Int32} {v6 : Int32} (w : vX0_addParts_r1_b140 G.2.2.1  Qn h v0 v1 v2 v3 v4 v5 v6) : V p l e rmX0_addParts_r1 s m args below meth c (MQ below (va_Qv Qn (gB G A) A) args s rmX0_addParts_r1.cells rmX0_addParts_r1.slots A) G A 10 h 0 0 140 [(0, va_rf v0), (1, va_rf v1), (2, .int v2), (3, va_rf v3), (4, .int v4), (5, .int v5), (6, .int v6)] [] := by
  refine V_iload X dX0_addParts_140 6 rfl ?_
  exact V.sub [0, 1, 2, 3, 4, 5, 6] rfl (tX0_addParts_r1_b142 X  w)
def vX0_addParts_r1_b117 (t0 : Nat)  (Qn : gH → Prop) (h : gH) (v0 : Option Nat) (v1 : Option Nat) (v2 : Int32) (v3 : Option Nat) (v4 : Int32) (v5 : Int32) (v6 : Int32) : Prop := (((v6 : Int32) ≤ 0) → (vX0_addParts_r1_b140 t0  Qn h v0 v1 v2 v3 v4 v5 v6)) ∧ ((¬ (v6 : Int32) ≤ 0) → (nn v1 (fun a1 => io h a1 8 (vX5_positionOf t0 (fun x3 h2 => (((x3 : Int32) ≤ v5) → (vX0_addParts_r1_b140 t0  Qn h2 v0 (some a1) v2 v3 v4 v5 v6)) ∧ ((¬ (x3 : Int32) ≤ v5) → (vX0_addParts_r1_b142 t0  Qn h2 v0 (some a1) v2 v3 v4 v5 v6 (v6 - 1)))) h a1 v6))))
set_option maxRecDepth 100000 in
set_option maxHeartbeats 4000000 in
theorem tX0_addParts_r1_b117 {p : Program} {l : Launch} {e : Env} {s : State} {m : MethodId} {args : Array Value} {below : List Frame} {meth : Method} {c : Code} {G : gG} {A : Nat → Prop} {Qn : gH → Prop} (X : gC p l s m args meth c G A cX0_addParts 10 none RX0)   {h : gH} {v0 : Option Nat} {v1 : Option Nat} {v2 : Int32} {v3 : Option Nat} {v4 : Int32} {v5 : Int32} {v6 : Int32} (w : vX0_addParts_r1_b117 G.2.2.1  Qn h v0 v1 v2 v3 v4 v5 v6) : V p l e rmX0_addParts_r1 s m args below meth c (MQ below (va_Qv Qn (gB G A) A) args s rmX0_addParts_r1.cells rmX0_addParts_r1.slots A) G A 10 h 0 0 117 [(0, va_rf v0), (1, va_rf v1), (2, .int v2), (3, va_rf v3), (4, .int v4), (5, .int v5), (6, .int v6)] [] := by
  refine V_iload X dX0_addParts_117 6 rfl ?_
  obtain ⟨w1, w2⟩ := w
  refine V_if_le (tgt := 140) X dX0_addParts_119 (by decide) (fun z => ?_) (fun z => ?_)
  · replace w := w1 z
    clear w1 w2
    exact V.sub [0, 1, 2, 3, 4, 5, 6] rfl (tX0_addParts_r1_b140 X  w)
  · replace w := w2 z
    clear w1 w2
    refine V_aload_n X dX0_addParts_122 1 rfl ?_
    refine V_iload X dX0_addParts_123 6 rfl ?_
    obtain ⟨a1, rfl, w⟩ := w
    obtain ⟨fs, hh, w⟩ := w
    refine V_callVi (As := [.int v6]) (rest := []) (k1 := 0) (n1 := 0) X (cX5_positionOf_ok X.2.2.2.2.2.2.2.2.1 w) lkX0_48 hh (q9 := (RX5, TX5, 5)) rfl rfl dX0_addParts_125 ⟨Nat.le_of_ble_eq_true rfl, Nat.le_of_ble_eq_true rfl⟩ rfl (Nat.le_of_ble_eq_true rfl) ⟨Nat.le_of_ble_eq_true rfl, Nat.le_of_ble_eq_true rfl⟩ (Nat.le_of_ble_eq_true rfl) (Nat.le_of_ble_eq_true rfl) (fun x3 h2 w9 => ?_)
    replace w := w9
    clear w9
    refine V_iload X dX0_addParts_128 5 rfl ?_
    obtain ⟨w1, w2⟩ := w
    refine V_icmp_le (tgt := 140) X dX0_addParts_130 (by decide) (fun z => ?_) (fun z => ?_)
    · replace w := w1 z
      clear w1 w2
      exact V.sub [0, 1, 2, 3, 4, 5, 6] rfl (tX0_addParts_r1_b140 X  w)
    · replace w := w2 z
      clear w1 w2
      refine V_iload X dX0_addParts_133 6 rfl ?_
      refine V_iconst (y := 1) X dX0_addParts_135 (by decide) ?_
      refine V_isub X dX0_addParts_136 ?_
      refine V_goto (tgt := 142) X dX0_addParts_137 (by decide) ?_
      exact V.sub [0, 1, 2, 3, 4, 5, 6] rfl (tX0_addParts_r1_b142 X  w)
def vX0_addParts_r1_b86_o (t0 : Nat) (k86 : gH → Option Nat → Option Nat → Int32 → Option Nat → Int32 → Int32 → Int32 → Prop) (Qn : gH → Prop) (h : gH) (v0 : Option Nat) (v1 : Option Nat) (v2 : Int32) (v3 : Option Nat) (v4 : Int32) (v5 : Int32) (v6 : Int32) : Prop := nn v1 (fun a1 => gr h a1 8 2 (fun r2 => nn r2 (fun a3 => io h a3 2 (vJx4a65c_size_8abf5 t0 (fun x5 h4 => (((x5 - 1) ≤ (v6 : Int32)) → (vX0_addParts_r1_b117 t0  Qn h4 v0 (some a1) v2 v3 v4 v5 v6)) ∧ ((¬ (x5 - 1) ≤ (v6 : Int32)) → (io h4 a1 8 (vX5_positionOf t0 (fun x7 h6 => ((v5 ≤ (x7 : Int32)) → (vX0_addParts_r1_b117 t0  Qn h6 v0 (some a1) v2 v3 v4 v5 v6)) ∧ ((¬ v5 ≤ (x7 : Int32)) → (k86 h6 v0 (some a1) v2 v3 v4 v5 (v6 + 1)))) h4 a1 v6)))) h a3 ))))
set_option maxRecDepth 100000 in
set_option maxHeartbeats 4000000 in
theorem tX0_addParts_r1_b86_o {p : Program} {l : Launch} {e : Env} {s : State} {m : MethodId} {args : Array Value} {below : List Frame} {meth : Method} {c : Code} {G : gG} {A : Nat → Prop} {Qn : gH → Prop} (X : gC p l s m args meth c G A cX0_addParts 10 none RX0) {k86 : gH → Option Nat → Option Nat → Int32 → Option Nat → Int32 → Int32 → Int32 → Prop} (H86 : ∀ (h : gH) (v0 : Option Nat) (v1 : Option Nat) (v2 : Int32) (v3 : Option Nat) (v4 : Int32) (v5 : Int32) (v6 : Int32), k86 h v0 v1 v2 v3 v4 v5 v6 → V p l e rmX0_addParts_r1 s m args below meth c (MQ below (va_Qv Qn (gB G A) A) args s rmX0_addParts_r1.cells rmX0_addParts_r1.slots A) G A 10 h 0 0 86 [(0, va_rf v0), (1, va_rf v1), (2, .int v2), (3, va_rf v3), (4, .int v4), (5, .int v5), (6, .int v6)] []) {h : gH} {v0 : Option Nat} {v1 : Option Nat} {v2 : Int32} {v3 : Option Nat} {v4 : Int32} {v5 : Int32} {v6 : Int32} (w : vX0_addParts_r1_b86_o G.2.2.1 k86 Qn h v0 v1 v2 v3 v4 v5 v6) : V p l e rmX0_addParts_r1 s m args below meth c (MQ below (va_Qv Qn (gB G A) A) args s rmX0_addParts_r1.cells rmX0_addParts_r1.slots A) G A 10 h 0 0 86 [(0, va_rf v0), (1, va_rf v1), (2, .int v2), (3, va_rf v3), (4, .int v4), (5, .int v5), (6, .int v6)] [] := by
  refine V_iload X dX0_addParts_86 6 rfl ?_
  refine V_aload_n X dX0_addParts_88 1 rfl ?_
  obtain ⟨a1, rfl, w⟩ := w
  obtain ⟨fs, r2, hh, hv, w⟩ := w
  refine V_get3 X frX0_34 dX0_addParts_89 hh hv ?_
  obtain ⟨a3, rfl, w⟩ := w
  obtain ⟨fs, hh, w⟩ := w
  refine V_callVi (As := []) (rest := [.int v6]) (k1 := 0) (n1 := 0) X (cJx4a65c_size_8abf5_ok X.2.2.2.2.2.2.2.2.1 w) lkX0_44 hh (q9 := (RJx4a65c, TJx4a65c, 3)) rfl rfl dX0_addParts_92 ⟨Nat.le_of_ble_eq_true rfl, Nat.le_of_ble_eq_true rfl⟩ rfl (Nat.le_of_ble_eq_true rfl) ⟨Nat.le_of_ble_eq_true rfl, Nat.le_of_ble_eq_true rfl⟩ (Nat.le_of_ble_eq_true rfl) (Nat.le_of_ble_eq_true rfl) (fun x5 h4 w9 => ?_)
  replace w := w9
  clear w9
  refine V_iconst (y := 1) X dX0_addParts_95 (by decide) ?_
  refine V_isub X dX0_addParts_96 ?_
  obtain ⟨w1, w2⟩ := w
  refine V_icmp_ge (tgt := 117) X dX0_addParts_97 (by decide) (fun z => ?_) (fun z => ?_)
  · replace w := w1 z
    clear w1 w2
    exact V.sub [0, 1, 2, 3, 4, 5, 6] rfl (tX0_addParts_r1_b117 X  w)
  · replace w := w2 z
    clear w1 w2
    refine V_aloadr_n X dX0_addParts_100 1 rfl ?_
    refine V_iload X dX0_addParts_101 6 rfl ?_
    obtain ⟨fs, hh, w⟩ := w
    refine V_callVi (As := [.int v6]) (rest := []) (k1 := 0) (n1 := 0) X (cX5_positionOf_ok X.2.2.2.2.2.2.2.2.1 w) lkX0_48 hh (q9 := (RX5, TX5, 5)) rfl rfl dX0_addParts_103 ⟨Nat.le_of_ble_eq_true rfl, Nat.le_of_ble_eq_true rfl⟩ rfl (Nat.le_of_ble_eq_true rfl) ⟨Nat.le_of_ble_eq_true rfl, Nat.le_of_ble_eq_true rfl⟩ (Nat.le_of_ble_eq_true rfl) (Nat.le_of_ble_eq_true rfl) (fun x7 h6 w9 => ?_)
    replace w := w9
    clear w9
    refine V_iload X dX0_addParts_106 5 rfl ?_
    obtain ⟨w1, w2⟩ := w
    refine V_icmp_ge (tgt := 117) X dX0_addParts_108 (by decide) (fun z => ?_) (fun z => ?_)
    · replace w := w1 z
      clear w1 w2
      exact V.sub [0, 1, 2, 3, 4, 5, 6] rfl (tX0_addParts_r1_b117 X  w)
    · replace w := w2 z
      clear w1 w2
      refine V_iinc (y := (v6 + 1)) X dX0_addParts_111 6 rfl (by first | rfl | (congr 1)) (by decide) rfl ?_
      refine V_goto (tgt := 86) X dX0_addParts_114 (by decide) ?_
      exact V.sub [1, 2, 3, 4, 5, 6, 0] rfl (H86 _ _ _ _ _ _ _ _ w)
def vX0_addParts_r1_b86 (t0 : Nat)  (Qn : gH → Prop) (n : Nat) : gH → Option Nat → Option Nat → Int32 → Option Nat → Int32 → Int32 → Int32 → Prop := Nat.rec (motive := fun _ => gH → Option Nat → Option Nat → Int32 → Option Nat → Int32 → Int32 → Int32 → Prop) (fun _ _ _ _ _ _ _ _ => False) (fun _ k86 => vX0_addParts_r1_b86_o t0 k86 Qn) n
theorem tX0_addParts_r1_b86 {p : Program} {l : Launch} {e : Env} {s : State} {m : MethodId} {args : Array Value} {below : List Frame} {meth : Method} {c : Code} {G : gG} {A : Nat → Prop} {Qn : gH → Prop} (X : gC p l s m args meth c G A cX0_addParts 10 none RX0)   : ∀ (n : Nat) (h : gH) (v0 : Option Nat) (v1 : Option Nat) (v2 : Int32) (v3 : Option Nat) (v4 : Int32) (v5 : Int32) (v6 : Int32) (w : vX0_addParts_r1_b86 G.2.2.1  Qn n h v0 v1 v2 v3 v4 v5 v6), V p l e rmX0_addParts_r1 s m args below meth c (MQ below (va_Qv Qn (gB G A) A) args s rmX0_addParts_r1.cells rmX0_addParts_r1.slots A) G A 10 h 0 0 86 [(0, va_rf v0), (1, va_rf v1), (2, .int v2), (3, va_rf v3), (4, .int v4), (5, .int v5), (6, .int v6)] [] := by
  intro n
  induction n with
  | zero => intro h v0 v1 v2 v3 v4 v5 v6 w; exact False.elim w
  | succ n ih => intro h v0 v1 v2 v3 v4 v5 v6 w; exact tX0_addParts_r1_b86_o X ih w
def vX0_addParts_r1_b47 (t0 : Nat)  (Qn : gH → Prop) (h : gH)  : Prop := Qn h
set_option maxRecDepth 100000 in
set_option maxHeartbeats 4000000 in
theorem tX0_addParts_r1_b47 {p : Program} {l : Launch} {e : Env} {s : State} {m : MethodId} {args : Array Value} {below : List Frame} {meth : Method} {c : Code} {G : gG} {A : Nat → Prop} {Qn : gH → Prop} (X : gC p l s m args meth c G A cX0_addParts 10 none RX0)   {h : gH}  (w : vX0_addParts_r1_b47 G.2.2.1  Qn h ) : V p l e rmX0_addParts_r1 s m args below meth c (MQ below (va_Qv Qn (gB G A) A) args s rmX0_addParts_r1.cells rmX0_addParts_r1.slots A) G A 10 h 0 0 47 [] [] := by
  exact V_vret X rfl dX0_addParts_47 (Nat.le_of_ble_eq_true rfl) (Nat.le_of_ble_eq_true rfl) w
def vX0_addParts_r1 (t0 : Nat)  (Qn : gH → Prop) (h : gH) (v0 : Option Nat) (v1 : Option Nat) (v2 : Int32) (v3 : Option Nat) (v4 : Int32) : Prop := (((v2 : Int32) = 0) → (vX0_addParts_r1_b10 t0  Qn h )) ∧ ((¬ (v2 : Int32) = 0) → ((((v4 : Int32) ≤ 4) → (nn v1 (fun a1 => gr h a1 8 0 (fun r2 => ((r2) = none → (gi h a1 8 1 (fun x4 => (((x4 : Int32) < 0) → (vX0_addParts_r1_b74 t0  Qn h )) ∧ ((¬ (x4 : Int32) < 0) → (gi h a1 8 1 (fun x5 => nn v3 (fun a6 => al h a6 (fun x7 => ((x7 ≤ (x5 : Int32)) → (vX0_addParts_r1_b74 t0  Qn h )) ∧ ((¬ x7 ≤ (x5 : Int32)) → (gr h a1 8 2 (fun r8 => nn r8 (fun a9 => io h a9 2 (vJx4a65c_isEmpty_aae02 t0 (fun x11 h10 => (((x11 : Int32) = 0) → (gi h10 a1 8 1 (fun x12 => li h10 a6 x12 (fun x13 => ∃ n : Nat, vX0_addParts_r1_b86 t0  Qn n h10 v0 (some a1) v2 (some a6) v4 x13 0)))) ∧ ((¬ (x11 : Int32) = 0) → (vX0_addParts_r1_b74 t0  Qn h10 ))) h a9 ))))))))))))) ∧ (∀ a3 : Nat, (r2) = some a3 → (gr h a1 8 0 (fun r14 => nn r14 (fun a15 => gi h a15 4 0 (fun x16 => (((x16 : Int32) < 0) → (vX0_addParts_r1_b47 t0  Qn h )) ∧ ((¬ (x16 : Int32) < 0) → (nn v0 (fun a17 => al h a17 (fun x18 => ((x18 ≤ (x16 : Int32)) → (vX0_addParts_r1_b47 t0  Qn h )) ∧ ((¬ x18 ≤ (x16 : Int32)) → (li h a17 x16 (fun x19 => si h a17 x16 (x19 + v2) (fun h20 => vX0_addParts_r1_b47 t0  Qn h20 ))))))))))))))))) ∧ ((¬ (v4 : Int32) ≤ 4) → (vX0_addParts_r1_b10 t0  Qn h ))))
set_option maxRecDepth 100000 in
set_option maxHeartbeats 4000000 in
theorem tX0_addParts_r1 {p : Program} {l : Launch} {e : Env} {s : State} {m : MethodId} {args : Array Value} {below : List Frame} {meth : Method} {c : Code} {G : gG} {A : Nat → Prop} {Qn : gH → Prop} (X : gC p l s m args meth c G A cX0_addParts 10 none RX0)   {h : gH} {v0 : Option Nat} {v1 : Option Nat} {v2 : Int32} {v3 : Option Nat} {v4 : Int32} (w : vX0_addParts_r1 G.2.2.1  Qn h v0 v1 v2 v3 v4) : V p l e rmX0_addParts_r1 s m args below meth c (MQ below (va_Qv Qn (gB G A) A) args s rmX0_addParts_r1.cells rmX0_addParts_r1.slots A) G A 10 h 0 0 0 [(0, va_rf v0), (1, va_rf v1), (2, .int v2), (3, va_rf v3), (4, .int v4)] [] := by
  refine V_iload_n X dX0_addParts_0 2 rfl ?_
  obtain ⟨w1, w2⟩ := w
  refine V_if_eq (tgt := 10) X dX0_addParts_1 (by decide) (fun z => ?_) (fun z => ?_)
  · replace w := w1 z
    clear w1 w2
    exact V.sub [] rfl (tX0_addParts_r1_b10 X  w)
  · replace w := w2 z
    clear w1 w2
    refine V_iload X dX0_addParts_4 4 rfl ?_
    refine V_iconst (y := 4) X dX0_addParts_6 (by decide) ?_
    obtain ⟨w1, w2⟩ := w
    refine V_icmp_le (tgt := 11) X dX0_addParts_7 (by decide) (fun z => ?_) (fun z => ?_)
    · replace w := w1 z
      clear w1 w2
      refine V_aload_n X dX0_addParts_11 1 rfl ?_
      obtain ⟨a1, rfl, w⟩ := w
      obtain ⟨fs, r2, hh, hv, w⟩ := w
      refine V_get3 X frX0_19 dX0_addParts_12 hh hv ?_
      obtain ⟨w1, w2⟩ := w
      refine V_ifnull (tgt := 48) X dX0_addParts_15 (by decide) (fun z => ?_) (fun a3 z => ?_)
      · replace w := w1 z
        clear w1 w2
        subst z
        refine V_aloadr_n X dX0_addParts_48 1 rfl ?_
        obtain ⟨fs, x4, hh, hv, w⟩ := w
        refine V_get3 X frX0_31 dX0_addParts_49 hh hv ?_
        obtain ⟨w1, w2⟩ := w
        refine V_if_lt (tgt := 74) X dX0_addParts_52 (by decide) (fun z => ?_) (fun z => ?_)
        · replace w := w1 z
          clear w1 w2
          exact V.sub [] rfl (tX0_addParts_r1_b74 X  w)
        · replace w := w2 z
          clear w1 w2
          refine V_aloadr_n X dX0_addParts_55 1 rfl ?_
          obtain ⟨fs, x5, hh, hv, w⟩ := w
          refine V_get3 X frX0_31 dX0_addParts_56 hh hv ?_
          refine V_aload_n X dX0_addParts_59 3 rfl ?_
          obtain ⟨a6, rfl, w⟩ := w
          obtain ⟨kt9, x9, hh, hk9, w⟩ := w
          refine V_alen X dX0_addParts_60 hh hk9 ?_
          generalize Int32.ofNat _ = x7 at w ⊢
          obtain ⟨w1, w2⟩ := w
          refine V_icmp_ge (tgt := 74) X dX0_addParts_61 (by decide) (fun z => ?_) (fun z => ?_)
          · replace w := w1 z
            clear w1 w2
            exact V.sub [] rfl (tX0_addParts_r1_b74 X  w)
          · replace w := w2 z
            clear w1 w2
            refine V_aloadr_n X dX0_addParts_64 1 rfl ?_
            obtain ⟨fs, r8, hh, hv, w⟩ := w
            refine V_get3 X frX0_34 dX0_addParts_65 hh hv ?_
            obtain ⟨a9, rfl, w⟩ := w
            obtain ⟨fs, hh, w⟩ := w
            refine V_callVi (As := []) (rest := []) (k1 := 0) (n1 := 0) X (cJx4a65c_isEmpty_aae02_ok X.2.2.2.2.2.2.2.2.1 w) lkX0_38 hh (q9 := (RJx4a65c, TJx4a65c, 3)) rfl rfl dX0_addParts_68 ⟨Nat.le_of_ble_eq_true rfl, Nat.le_of_ble_eq_true rfl⟩ rfl (Nat.le_of_ble_eq_true rfl) ⟨Nat.le_of_ble_eq_true rfl, Nat.le_of_ble_eq_true rfl⟩ (Nat.le_of_ble_eq_true rfl) (Nat.le_of_ble_eq_true rfl) (fun x11 h10 w9 => ?_)
            replace w := w9
            clear w9
            obtain ⟨w1, w2⟩ := w
            refine V_if_eq (tgt := 75) X dX0_addParts_71 (by decide) (fun z => ?_) (fun z => ?_)
            · replace w := w1 z
              clear w1 w2
              refine V_aloadr_n X dX0_addParts_75 3 rfl ?_
              refine V_aloadr_n X dX0_addParts_76 1 rfl ?_
              obtain ⟨fs, x12, hh, hv, w⟩ := w
              refine V_get3 X frX0_31 dX0_addParts_77 hh hv ?_
              obtain ⟨N9, g9, hh, hi, w⟩ := w
              refine V_iald X dX0_addParts_80 hh hi ?_
              generalize g9 _ = x13 at w ⊢
              refine V_istore X dX0_addParts_81 (by decide) rfl ?_
              refine V_iconst (y := 0) X dX0_addParts_83 (by decide) ?_
              refine V_istore X dX0_addParts_84 (by decide) rfl ?_
              obtain ⟨n9, w⟩ := w
              exact V.sub [2, 3, 4, 5, 6, 1, 0] rfl (tX0_addParts_r1_b86 X  n9 _ _ _ _ _ _ _ _ w)
            · replace w := w2 z
              clear w1 w2
              exact V.sub [] rfl (tX0_addParts_r1_b74 X  w)
      · replace w := w2 a3 z
        clear w1 w2
        subst z
        refine V_aloadr_n X dX0_addParts_18 1 rfl ?_
        obtain ⟨fs, r14, hh, hv, w⟩ := w
        refine V_get3 X frX0_19 dX0_addParts_19 hh hv ?_
        obtain ⟨a15, rfl, w⟩ := w
        obtain ⟨fs, x16, hh, hv, w⟩ := w
        refine V_get3 X frX0_25 dX0_addParts_22 hh hv ?_
        refine V_istore X dX0_addParts_25 (by decide) rfl ?_
        refine V_iload X dX0_addParts_27 0 rfl ?_
        obtain ⟨w1, w2⟩ := w
        refine V_if_lt (tgt := 47) X dX0_addParts_29 (by decide) (fun z => ?_) (fun z => ?_)
        · replace w := w1 z
          clear w1 w2
          exact V.sub [] rfl (tX0_addParts_r1_b47 X  w)
        · replace w := w2 z
          clear w1 w2
          refine V_iload X dX0_addParts_32 0 rfl ?_
          refine V_aload_n X dX0_addParts_34 1 rfl ?_
          obtain ⟨a17, rfl, w⟩ := w
          obtain ⟨kt9, x9, hh, hk9, w⟩ := w
          refine V_alen X dX0_addParts_35 hh hk9 ?_
          generalize Int32.ofNat _ = x18 at w ⊢
          obtain ⟨w1, w2⟩ := w
          refine V_icmp_ge (tgt := 47) X dX0_addParts_36 (by decide) (fun z => ?_) (fun z => ?_)
          · replace w := w1 z
            clear w1 w2
            exact V.sub [] rfl (tX0_addParts_r1_b47 X  w)
          · replace w := w2 z
            clear w1 w2
            refine V_aloadr_n X dX0_addParts_39 1 rfl ?_
            refine V_iload X dX0_addParts_40 0 rfl ?_
            refine V_dup2 X dX0_addParts_42 rfl rfl ?_
            obtain ⟨N9, g9, hh, hi, w⟩ := w
            refine V_iald X dX0_addParts_43 hh hi ?_
            generalize g9 _ = x19 at w ⊢
            refine V_iload_n X dX0_addParts_44 3 rfl ?_
            refine V_iadd X dX0_addParts_45 ?_
            obtain ⟨N9, g9, hh, hi, w⟩ := w
            refine V_iast X dX0_addParts_46 hh hi ?_
            generalize va_up _ _ _ = h20 at w ⊢
            exact V.sub [] rfl (tX0_addParts_r1_b47 X  w)
    · replace w := w2 z
      clear w1 w2
      exact V.sub [] rfl (tX0_addParts_r1_b10 X  w)
theorem cX0_addParts_r1_ok {l : Launch} {G : gG} {h : gH} (hls : l.stackTraces = false) {Qn : gH → Prop} {v0 : Option Nat} {v1 : Option Nat} {v2 : Int32} {v3 : Option Nat} {v4 : Int32} (w : vX0_addParts_r1 G.2.2.1 Qn h v0 v1 v2 v3 v4) : gMv l yX0_addParts cX0_addParts 10 none rmX0_addParts_r1 rmX0_addParts_r1.cells rmX0_addParts_r1.slots G h [va_rf v0, va_rf v1, .int v2, va_rf v3, .int v4] Qn := by
  cases v0 <;>
  cases v1 <;>
  cases v3 <;>
  exact gMv.of (by decide +kernel) hls (Nat.le_of_ble_eq_true rfl) rfl rfl (fun p e s m below meth c A X hnm => tX0_addParts_r1 X w)
/-! AnimationController$Blend.addParts([ILAnimationController$Node;I[II)V -/
abbrev rmX0_addParts_r2 : Room := { frames := 4, cells := 0, slots := 0, locals := 93 }
def vX0_addParts_r2_b10 (t0 : Nat)  (Qn : gH → Prop) (h : gH)  : Prop := Qn h
set_option maxRecDepth 100000 in
set_option maxHeartbeats 4000000 in
theorem tX0_addParts_r2_b10 {p : Program} {l : Launch} {e : Env} {s : State} {m : MethodId} {args : Array Value} {below : List Frame} {meth : Method} {c : Code} {G : gG} {A : Nat → Prop} {Qn : gH → Prop} (X : gC p l s m args meth c G A cX0_addParts 10 none RX0)   {h : gH}  (w : vX0_addParts_r2_b10 G.2.2.1  Qn h ) : V p l e rmX0_addParts_r2 s m args below meth c (MQ below (va_Qv Qn (gB G A) A) args s rmX0_addParts_r2.cells rmX0_addParts_r2.slots A) G A 10 h 0 0 10 [] [] := by
  exact V_vret X rfl dX0_addParts_10 (Nat.le_of_ble_eq_true rfl) (Nat.le_of_ble_eq_true rfl) w
def vX0_addParts_r2_b74 (t0 : Nat)  (Qn : gH → Prop) (h : gH)  : Prop := Qn h
set_option maxRecDepth 100000 in
set_option maxHeartbeats 4000000 in
theorem tX0_addParts_r2_b74 {p : Program} {l : Launch} {e : Env} {s : State} {m : MethodId} {args : Array Value} {below : List Frame} {meth : Method} {c : Code} {G : gG} {A : Nat → Prop} {Qn : gH → Prop} (X : gC p l s m args meth c G A cX0_addParts 10 none RX0)   {h : gH}  (w : vX0_addParts_r2_b74 G.2.2.1  Qn h ) : V p l e rmX0_addParts_r2 s m args below meth c (MQ below (va_Qv Qn (gB G A) A) args s rmX0_addParts_r2.cells rmX0_addParts_r2.slots A) G A 10 h 0 0 74 [] [] := by
  exact V_vret X rfl dX0_addParts_74 (Nat.le_of_ble_eq_true rfl) (Nat.le_of_ble_eq_true rfl) w
def vX0_addParts_r2_b187 (t0 : Nat)  (Qn : gH → Prop) (h : gH) (v0 : Option Nat) (v1 : Option Nat) (v2 : Int32) (v3 : Option Nat) (v4 : Int32) (v6 : Int32) (v7 : Int32) (v9 : Int32) : Prop := nn v1 (fun a1 => gr h a1 8 2 (fun r2 => nn r2 (fun a3 => io h a3 2 (vJx4a65c_get_915e3 t0 (fun r5 h4 => nn r5 (fun a6 => io h4 a6 8 (vX0_addParts_r1 t0 (fun h7 => gr h7 a1 8 2 (fun r8 => nn r8 (fun a9 => io h7 a9 2 (vJx4a65c_get_915e3 t0 (fun r11 h10 => nn r11 (fun a12 => io h10 a12 8 (vX0_addParts_r1 t0 (fun h13 => Qn h13) h10 v0 (some a12) (v2 - v9) v3 (v4 + 1)))) h7 a9 v7)))) h4 v0 (some a6) v9 v3 (v4 + 1)))) h a3 v6))))
set_option maxRecDepth 100000 in
set_option maxHeartbeats 4000000 in
theorem tX0_addParts_r2_b187 {p : Program} {l : Launch} {e : Env} {s : State} {m : MethodId} {args : Array Value} {below : List Frame} {meth : Method} {c : Code} {G : gG} {A : Nat → Prop} {Qn : gH → Prop} (X : gC p l s m args meth c G A cX0_addParts 10 none RX0)   {h : gH} {v0 : Option Nat} {v1 : Option Nat} {v2 : Int32} {v3 : Option Nat} {v4 : Int32} {v6 : Int32} {v7 : Int32} {v9 : Int32} (w : vX0_addParts_r2_b187 G.2.2.1  Qn h v0 v1 v2 v3 v4 v6 v7 v9) : V p l e rmX0_addParts_r2 s m args below meth c (MQ below (va_Qv Qn (gB G A) A) args s rmX0_addParts_r2.cells rmX0_addParts_r2.slots A) G A 10 h 0 0 187 [(0, va_rf v0), (1, va_rf v1), (2, .int v2), (3, va_rf v3), (4, .int v4), (6, .int v6), (7, .int v7), (9, .int v9)] [] := by
  refine V_aload_n X dX0_addParts_187 0 rfl ?_
  refine V_aload_n X dX0_addParts_188 1 rfl ?_
  obtain ⟨a1, rfl, w⟩ := w
  obtain ⟨fs, r2, hh, hv, w⟩ := w
  refine V_get3 X frX0_34 dX0_addParts_189 hh hv ?_
  refine V_iload X dX0_addParts_192 5 rfl ?_
  obtain ⟨a3, rfl, w⟩ := w
  obtain ⟨fs, hh, w⟩ := w
  refine V_callVq (As := [.int v6]) (rest := [va_rf v0]) (k1 := 0) (n1 := 0) X (cJx4a65c_get_915e3_ok X.2.2.2.2.2.2.2.2.1 w) lkX0_52 hh (q9 := (RJx4a65c, TJx4a65c, 3)) rfl rfl dX0_addParts_194 ⟨Nat.le_of_ble_eq_true rfl, Nat.le_of_ble_eq_true rfl⟩ rfl (va_len _ 4 (Nat.le_of_ble_eq_true rfl)) ⟨Nat.le_of_ble_eq_true rfl, Nat.le_of_ble_eq_true rfl⟩ (Nat.le_of_ble_eq_true rfl) (Nat.le_of_ble_eq_true rfl) (fun r5 h4 w9 => ?_)
  replace w := w9
  clear w9
  obtain ⟨a6, rfl, w⟩ := w
  obtain ⟨fs, hh, w⟩ := w
  refine V_cast (q9 := (RX5, TX5, 5)) X kw_673 rfl rfl hh dX0_addParts_197 ?_
  refine V_iload X dX0_addParts_200 7 rfl ?_
  refine V_aload_n X dX0_addParts_202 3 rfl ?_
  refine V_iload X dX0_addParts_203 4 rfl ?_
  refine V_iconst (y := 1) X dX0_addParts_205 (by decide) ?_
  refine V_iadd X dX0_addParts_206 ?_
  refine V_callSv (As := [va_rf v0, .ref a6, .int v9, va_rf v3, .int (v4 + 1)]) (rest := []) (k1 := 0) (n1 := 0) X (cX0_addParts_r1_ok X.2.2.2.2.2.2.2.2.1 w) lkX0_15 dX0_addParts_207 ⟨Nat.le_of_ble_eq_true rfl, Nat.le_of_ble_eq_true rfl⟩ rfl (Nat.le_of_ble_eq_true rfl) ⟨Nat.le_of_ble_eq_true rfl, Nat.le_of_ble_eq_true rfl⟩ (Nat.le_of_ble_eq_true rfl) (Nat.le_of_ble_eq_true rfl) (fun h7 w9 => ?_)
  replace w := w9
  clear w9
  refine V_aload_n X dX0_addParts_210 0 rfl ?_
  refine V_aloadr_n X dX0_addParts_211 1 rfl ?_
  obtain ⟨fs, r8, hh, hv, w⟩ := w
  refine V_get3 X frX0_34 dX0_addParts_212 hh hv ?_
  refine V_iload X dX0_addParts_215 6 rfl ?_
  obtain ⟨a9, rfl, w⟩ := w
  obtain ⟨fs, hh, w⟩ := w
  refine V_callVq (As := [.int v7]) (rest := [va_rf v0]) (k1 := 0) (n1 := 0) X (cJx4a65c_get_915e3_ok X.2.2.2.2.2.2.2.2.1 w) lkX0_52 hh (q9 := (RJx4a65c, TJx4a65c, 3)) rfl rfl dX0_addParts_217 ⟨Nat.le_of_ble_eq_true rfl, Nat.le_of_ble_eq_true rfl⟩ rfl (va_len _ 4 (Nat.le_of_ble_eq_true rfl)) ⟨Nat.le_of_ble_eq_true rfl, Nat.le_of_ble_eq_true rfl⟩ (Nat.le_of_ble_eq_true rfl) (Nat.le_of_ble_eq_true rfl) (fun r11 h10 w9 => ?_)
  replace w := w9
  clear w9
  obtain ⟨a12, rfl, w⟩ := w
  obtain ⟨fs, hh, w⟩ := w
  refine V_cast (q9 := (RX5, TX5, 5)) X kw_673 rfl rfl hh dX0_addParts_220 ?_
  refine V_iload_n X dX0_addParts_223 2 rfl ?_
  refine V_iload X dX0_addParts_224 7 rfl ?_
  refine V_isub X dX0_addParts_226 ?_
  refine V_aload_n X dX0_addParts_227 3 rfl ?_
  refine V_iload X dX0_addParts_228 4 rfl ?_
  refine V_iconst (y := 1) X dX0_addParts_230 (by decide) ?_
  refine V_iadd X dX0_addParts_231 ?_
  refine V_callSv (As := [va_rf v0, .ref a12, .int (v2 - v9), va_rf v3, .int (v4 + 1)]) (rest := []) (k1 := 0) (n1 := 0) X (cX0_addParts_r1_ok X.2.2.2.2.2.2.2.2.1 w) lkX0_15 dX0_addParts_232 ⟨Nat.le_of_ble_eq_true rfl, Nat.le_of_ble_eq_true rfl⟩ rfl (Nat.le_of_ble_eq_true rfl) ⟨Nat.le_of_ble_eq_true rfl, Nat.le_of_ble_eq_true rfl⟩ (Nat.le_of_ble_eq_true rfl) (Nat.le_of_ble_eq_true rfl) (fun h13 w9 => ?_)
  replace w := w9
  clear w9
  exact V_vret X rfl dX0_addParts_235 (Nat.le_of_ble_eq_true rfl) (Nat.le_of_ble_eq_true rfl) w
def vX0_addParts_r2_b142 (t0 : Nat)  (Qn : gH → Prop) (h : gH) (v0 : Option Nat) (v1 : Option Nat) (v2 : Int32) (v3 : Option Nat) (v4 : Int32) (v5 : Int32) (v6 : Int32) (s0 : Int32) : Prop := nn v1 (fun a1 => io h a1 8 (vX5_positionOf t0 (fun x3 h2 => io h2 a1 8 (vX5_positionOf t0 (fun x5 h4 => ((((x3 - x5) : Int32) ≤ 0) → (vX0_addParts_r2_b187 t0  Qn h4 v0 (some a1) v2 v3 v4 v6 s0 0)) ∧ ((¬ ((x3 - x5) : Int32) ≤ 0) → (io h4 a1 8 (vX5_positionOf t0 (fun x7 h6 => ¬ ((Int32.toInt64 (x3 - x5)) : Int64) = 0 ∧ (vX0_addParts_r2_b187 t0  Qn h6 v0 (some a1) v2 v3 v4 v6 s0 (Int64.toInt32 (((Int32.toInt64 v2) * (Int32.toInt64 (v5 - x7))) / (Int32.toInt64 (x3 - x5)))))) h4 a1 s0)))) h2 a1 s0)) h a1 v6))
set_option maxRecDepth 100000 in
set_option maxHeartbeats 4000000 in
theorem tX0_addParts_r2_b142 {p : Program} {l : Launch} {e : Env} {s : State} {m : MethodId} {args : Array Value} {below : List Frame} {meth : Method} {c : Code} {G : gG} {A : Nat → Prop} {Qn : gH → Prop} (X : gC p l s m args meth c G A cX0_addParts 10 none RX0)   {h : gH} {v0 : Option Nat} {v1 : Option Nat} {v2 : Int32} {v3 : Option Nat} {v4 : Int32} {v5 : Int32} {v6 : Int32} {s0 : Int32} (w : vX0_addParts_r2_b142 G.2.2.1  Qn h v0 v1 v2 v3 v4 v5 v6 s0) : V p l e rmX0_addParts_r2 s m args below meth c (MQ below (va_Qv Qn (gB G A) A) args s rmX0_addParts_r2.cells rmX0_addParts_r2.slots A) G A 10 h 0 0 142 [(0, va_rf v0), (1, va_rf v1), (2, .int v2), (3, va_rf v3), (4, .int v4), (5, .int v5), (6, .int v6)] [.int s0] := by
  refine V_istore X dX0_addParts_142 (by decide) rfl ?_
  refine V_aload_n X dX0_addParts_144 2 rfl ?_
  refine V_iload X dX0_addParts_145 7 rfl ?_
  obtain ⟨a1, rfl, w⟩ := w
  obtain ⟨fs, hh, w⟩ := w
  refine V_callVi (As := [.int v6]) (rest := []) (k1 := 0) (n1 := 0) X (cX5_positionOf_ok X.2.2.2.2.2.2.2.2.1 w) lkX0_48 hh (q9 := (RX5, TX5, 5)) rfl rfl dX0_addParts_147 ⟨Nat.le_of_ble_eq_true rfl, Nat.le_of_ble_eq_true rfl⟩ rfl (Nat.le_of_ble_eq_true rfl) ⟨Nat.le_of_ble_eq_true rfl, Nat.le_of_ble_eq_true rfl⟩ (Nat.le_of_ble_eq_true rfl) (Nat.le_of_ble_eq_true rfl) (fun x3 h2 w9 => ?_)
  replace w := w9
  clear w9
  refine V_aloadr_n X dX0_addParts_150 2 rfl ?_
  refine V_iload X dX0_addParts_151 0 rfl ?_
  obtain ⟨fs, hh, w⟩ := w
  refine V_callVi (As := [.int s0]) (rest := [.int x3]) (k1 := 0) (n1 := 0) X (cX5_positionOf_ok X.2.2.2.2.2.2.2.2.1 w) lkX0_48 hh (q9 := (RX5, TX5, 5)) rfl rfl dX0_addParts_153 ⟨Nat.le_of_ble_eq_true rfl, Nat.le_of_ble_eq_true rfl⟩ rfl (Nat.le_of_ble_eq_true rfl) ⟨Nat.le_of_ble_eq_true rfl, Nat.le_of_ble_eq_true rfl⟩ (Nat.le_of_ble_eq_true rfl) (Nat.le_of_ble_eq_true rfl) (fun x5 h4 w9 => ?_)
  replace w := w9
  clear w9
  refine V_isub X dX0_addParts_156 ?_
  refine V_istore X dX0_addParts_157 (by decide) rfl ?_
  refine V_iconst (y := 0) X dX0_addParts_159 (by decide) ?_
  refine V_istore X dX0_addParts_160 (by decide) rfl ?_
  refine V_iload X dX0_addParts_162 1 rfl ?_
  obtain ⟨w1, w2⟩ := w
  refine V_if_le (tgt := 187) X dX0_addParts_164 (by decide) (fun z => ?_) (fun z => ?_)
  · replace w := w1 z
    clear w1 w2
    exact V.sub [3, 4, 5, 6, 7, 9, 2, 0] rfl (tX0_addParts_r2_b187 X  w)
  · replace w := w2 z
    clear w1 w2
    refine V_iload_n X dX0_addParts_167 5 rfl ?_
    refine V_i2l X dX0_addParts_168 ?_
    refine V_iload X dX0_addParts_169 8 rfl ?_
    refine V_aloadr_n X dX0_addParts_171 4 rfl ?_
    refine V_iload X dX0_addParts_172 2 rfl ?_
    obtain ⟨fs, hh, w⟩ := w
    refine V_callVi (As := [.int s0]) (rest := [.int v5, .long (Int32.toInt64 v2)]) (k1 := 0) (n1 := 0) X (cX5_positionOf_ok X.2.2.2.2.2.2.2.2.1 w) lkX0_48 hh (q9 := (RX5, TX5, 5)) rfl rfl dX0_addParts_174 ⟨Nat.le_of_ble_eq_true rfl, Nat.le_of_ble_eq_true rfl⟩ rfl (Nat.le_of_ble_eq_true rfl) ⟨Nat.le_of_ble_eq_true rfl, Nat.le_of_ble_eq_true rfl⟩ (Nat.le_of_ble_eq_true rfl) (Nat.le_of_ble_eq_true rfl) (fun x7 h6 w9 => ?_)
    replace w := w9
    clear w9
    refine V_isub X dX0_addParts_177 ?_
    refine V_i2l X dX0_addParts_178 ?_
    refine V_lmul X dX0_addParts_179 ?_
    refine V_iload X dX0_addParts_180 1 rfl ?_
    refine V_i2l X dX0_addParts_182 ?_
    obtain ⟨z0, w⟩ := w
    refine V_ldiv X dX0_addParts_183 z0 ?_
    refine V_l2i X dX0_addParts_184 ?_
    refine V_istore X dX0_addParts_185 (by decide) rfl ?_
    exact V.sub [3, 4, 5, 6, 7, 9, 2, 0] rfl (tX0_addParts_r2_b187 X  w)
def vX0_addParts_r2_b140 (t0 : Nat)  (Qn : gH → Prop) (h : gH) (v0 : Option Nat) (v1 : Option Nat) (v2 : Int32) (v3 : Option Nat) (v4 : Int32) (v5 : Int32) (v6 : Int32) : Prop := vX0_addParts_r2_b142 t0  Qn h v0 v1 v2 v3 v4 v5 v6 v6
set_option maxRecDepth 100000 in
set_option maxHeartbeats 4000000 in
theorem tX0_addParts_r2_b140 {p : Program} {l : Launch} {e : Env} {s : State} {m : MethodId} {args : Array Value} {below : List Frame} {meth : Method} {c : Code} {G : gG} {A : Nat → Prop} {Qn : gH → Prop} (X : gC p l s m args meth c G A cX0_addParts 10 none RX0)   {h : gH} {v0 : Option Nat} {v1 : Option Nat} {v2 : Int32} {v3 : Option Nat} {v4 : Int32} {v5 : Int32} {v6 : Int32} (w : vX0_addParts_r2_b140 G.2.2.1  Qn h v0 v1 v2 v3 v4 v5 v6) : V p l e rmX0_addParts_r2 s m args below meth c (MQ below (va_Qv Qn (gB G A) A) args s rmX0_addParts_r2.cells rmX0_addParts_r2.slots A) G A 10 h 0 0 140 [(0, va_rf v0), (1, va_rf v1), (2, .int v2), (3, va_rf v3), (4, .int v4), (5, .int v5), (6, .int v6)] [] := by
  refine V_iload X dX0_addParts_140 6 rfl ?_
  exact V.sub [0, 1, 2, 3, 4, 5, 6] rfl (tX0_addParts_r2_b142 X  w)
def vX0_addParts_r2_b117 (t0 : Nat)  (Qn : gH → Prop) (h : gH) (v0 : Option Nat) (v1 : Option Nat) (v2 : Int32) (v3 : Option Nat) (v4 : Int32) (v5 : Int32) (v6 : Int32) : Prop := (((v6 : Int32) ≤ 0) → (vX0_addParts_r2_b140 t0  Qn h v0 v1 v2 v3 v4 v5 v6)) ∧ ((¬ (v6 : Int32) ≤ 0) → (nn v1 (fun a1 => io h a1 8 (vX5_positionOf t0 (fun x3 h2 => (((x3 : Int32) ≤ v5) → (vX0_addParts_r2_b140 t0  Qn h2 v0 (some a1) v2 v3 v4 v5 v6)) ∧ ((¬ (x3 : Int32) ≤ v5) → (vX0_addParts_r2_b142 t0  Qn h2 v0 (some a1) v2 v3 v4 v5 v6 (v6 - 1)))) h a1 v6))))
set_option maxRecDepth 100000 in
set_option maxHeartbeats 4000000 in
theorem tX0_addParts_r2_b117 {p : Program} {l : Launch} {e : Env} {s : State} {m : MethodId} {args : Array Value} {below : List Frame} {meth : Method} {c : Code} {G : gG} {A : Nat → Prop} {Qn : gH → Prop} (X : gC p l s m args meth c G A cX0_addParts 10 none RX0)   {h : gH} {v0 : Option Nat} {v1 : Option Nat} {v2 : Int32} {v3 : Option Nat} {v4 : Int32} {v5 : Int32} {v6 : Int32} (w : vX0_addParts_r2_b117 G.2.2.1  Qn h v0 v1 v2 v3 v4 v5 v6) : V p l e rmX0_addParts_r2 s m args below meth c (MQ below (va_Qv Qn (gB G A) A) args s rmX0_addParts_r2.cells rmX0_addParts_r2.slots A) G A 10 h 0 0 117 [(0, va_rf v0), (1, va_rf v1), (2, .int v2), (3, va_rf v3), (4, .int v4), (5, .int v5), (6, .int v6)] [] := by
  refine V_iload X dX0_addParts_117 6 rfl ?_
  obtain ⟨w1, w2⟩ := w
  refine V_if_le (tgt := 140) X dX0_addParts_119 (by decide) (fun z => ?_) (fun z => ?_)
  · replace w := w1 z
    clear w1 w2
    exact V.sub [0, 1, 2, 3, 4, 5, 6] rfl (tX0_addParts_r2_b140 X  w)
  · replace w := w2 z
    clear w1 w2
    refine V_aload_n X dX0_addParts_122 1 rfl ?_
    refine V_iload X dX0_addParts_123 6 rfl ?_
    obtain ⟨a1, rfl, w⟩ := w
    obtain ⟨fs, hh, w⟩ := w
    refine V_callVi (As := [.int v6]) (rest := []) (k1 := 0) (n1 := 0) X (cX5_positionOf_ok X.2.2.2.2.2.2.2.2.1 w) lkX0_48 hh (q9 := (RX5, TX5, 5)) rfl rfl dX0_addParts_125 ⟨Nat.le_of_ble_eq_true rfl, Nat.le_of_ble_eq_true rfl⟩ rfl (Nat.le_of_ble_eq_true rfl) ⟨Nat.le_of_ble_eq_true rfl, Nat.le_of_ble_eq_true rfl⟩ (Nat.le_of_ble_eq_true rfl) (Nat.le_of_ble_eq_true rfl) (fun x3 h2 w9 => ?_)
    replace w := w9
    clear w9
    refine V_iload X dX0_addParts_128 5 rfl ?_
    obtain ⟨w1, w2⟩ := w
    refine V_icmp_le (tgt := 140) X dX0_addParts_130 (by decide) (fun z => ?_) (fun z => ?_)
    · replace w := w1 z
      clear w1 w2
      exact V.sub [0, 1, 2, 3, 4, 5, 6] rfl (tX0_addParts_r2_b140 X  w)
    · replace w := w2 z
      clear w1 w2
      refine V_iload X dX0_addParts_133 6 rfl ?_
      refine V_iconst (y := 1) X dX0_addParts_135 (by decide) ?_
      refine V_isub X dX0_addParts_136 ?_
      refine V_goto (tgt := 142) X dX0_addParts_137 (by decide) ?_
      exact V.sub [0, 1, 2, 3, 4, 5, 6] rfl (tX0_addParts_r2_b142 X  w)
def vX0_addParts_r2_b86_o (t0 : Nat) (k86 : gH → Option Nat → Option Nat → Int32 → Option Nat → Int32 → Int32 → Int32 → Prop) (Qn : gH → Prop) (h : gH) (v0 : Option Nat) (v1 : Option Nat) (v2 : Int32) (v3 : Option Nat) (v4 : Int32) (v5 : Int32) (v6 : Int32) : Prop := nn v1 (fun a1 => gr h a1 8 2 (fun r2 => nn r2 (fun a3 => io h a3 2 (vJx4a65c_size_8abf5 t0 (fun x5 h4 => (((x5 - 1) ≤ (v6 : Int32)) → (vX0_addParts_r2_b117 t0  Qn h4 v0 (some a1) v2 v3 v4 v5 v6)) ∧ ((¬ (x5 - 1) ≤ (v6 : Int32)) → (io h4 a1 8 (vX5_positionOf t0 (fun x7 h6 => ((v5 ≤ (x7 : Int32)) → (vX0_addParts_r2_b117 t0  Qn h6 v0 (some a1) v2 v3 v4 v5 v6)) ∧ ((¬ v5 ≤ (x7 : Int32)) → (k86 h6 v0 (some a1) v2 v3 v4 v5 (v6 + 1)))) h4 a1 v6)))) h a3 ))))
set_option maxRecDepth 100000 in
set_option maxHeartbeats 4000000 in
theorem tX0_addParts_r2_b86_o {p : Program} {l : Launch} {e : Env} {s : State} {m : MethodId} {args : Array Value} {below : List Frame} {meth : Method} {c : Code} {G : gG} {A : Nat → Prop} {Qn : gH → Prop} (X : gC p l s m args meth c G A cX0_addParts 10 none RX0) {k86 : gH → Option Nat → Option Nat → Int32 → Option Nat → Int32 → Int32 → Int32 → Prop} (H86 : ∀ (h : gH) (v0 : Option Nat) (v1 : Option Nat) (v2 : Int32) (v3 : Option Nat) (v4 : Int32) (v5 : Int32) (v6 : Int32), k86 h v0 v1 v2 v3 v4 v5 v6 → V p l e rmX0_addParts_r2 s m args below meth c (MQ below (va_Qv Qn (gB G A) A) args s rmX0_addParts_r2.cells rmX0_addParts_r2.slots A) G A 10 h 0 0 86 [(0, va_rf v0), (1, va_rf v1), (2, .int v2), (3, va_rf v3), (4, .int v4), (5, .int v5), (6, .int v6)] []) {h : gH} {v0 : Option Nat} {v1 : Option Nat} {v2 : Int32} {v3 : Option Nat} {v4 : Int32} {v5 : Int32} {v6 : Int32} (w : vX0_addParts_r2_b86_o G.2.2.1 k86 Qn h v0 v1 v2 v3 v4 v5 v6) : V p l e rmX0_addParts_r2 s m args below meth c (MQ below (va_Qv Qn (gB G A) A) args s rmX0_addParts_r2.cells rmX0_addParts_r2.slots A) G A 10 h 0 0 86 [(0, va_rf v0), (1, va_rf v1), (2, .int v2), (3, va_rf v3), (4, .int v4), (5, .int v5), (6, .int v6)] [] := by
  refine V_iload X dX0_addParts_86 6 rfl ?_
  refine V_aload_n X dX0_addParts_88 1 rfl ?_
  obtain ⟨a1, rfl, w⟩ := w
  obtain ⟨fs, r2, hh, hv, w⟩ := w
  refine V_get3 X frX0_34 dX0_addParts_89 hh hv ?_
  obtain ⟨a3, rfl, w⟩ := w
  obtain ⟨fs, hh, w⟩ := w
  refine V_callVi (As := []) (rest := [.int v6]) (k1 := 0) (n1 := 0) X (cJx4a65c_size_8abf5_ok X.2.2.2.2.2.2.2.2.1 w) lkX0_44 hh (q9 := (RJx4a65c, TJx4a65c, 3)) rfl rfl dX0_addParts_92 ⟨Nat.le_of_ble_eq_true rfl, Nat.le_of_ble_eq_true rfl⟩ rfl (Nat.le_of_ble_eq_true rfl) ⟨Nat.le_of_ble_eq_true rfl, Nat.le_of_ble_eq_true rfl⟩ (Nat.le_of_ble_eq_true rfl) (Nat.le_of_ble_eq_true rfl) (fun x5 h4 w9 => ?_)
  replace w := w9
  clear w9
  refine V_iconst (y := 1) X dX0_addParts_95 (by decide) ?_
  refine V_isub X dX0_addParts_96 ?_
  obtain ⟨w1, w2⟩ := w
  refine V_icmp_ge (tgt := 117) X dX0_addParts_97 (by decide) (fun z => ?_) (fun z => ?_)
  · replace w := w1 z
    clear w1 w2
    exact V.sub [0, 1, 2, 3, 4, 5, 6] rfl (tX0_addParts_r2_b117 X  w)
  · replace w := w2 z
    clear w1 w2
    refine V_aloadr_n X dX0_addParts_100 1 rfl ?_
    refine V_iload X dX0_addParts_101 6 rfl ?_
    obtain ⟨fs, hh, w⟩ := w
    refine V_callVi (As := [.int v6]) (rest := []) (k1 := 0) (n1 := 0) X (cX5_positionOf_ok X.2.2.2.2.2.2.2.2.1 w) lkX0_48 hh (q9 := (RX5, TX5, 5)) rfl rfl dX0_addParts_103 ⟨Nat.le_of_ble_eq_true rfl, Nat.le_of_ble_eq_true rfl⟩ rfl (Nat.le_of_ble_eq_true rfl) ⟨Nat.le_of_ble_eq_true rfl, Nat.le_of_ble_eq_true rfl⟩ (Nat.le_of_ble_eq_true rfl) (Nat.le_of_ble_eq_true rfl) (fun x7 h6 w9 => ?_)
    replace w := w9
    clear w9
    refine V_iload X dX0_addParts_106 5 rfl ?_
    obtain ⟨w1, w2⟩ := w
    refine V_icmp_ge (tgt := 117) X dX0_addParts_108 (by decide) (fun z => ?_) (fun z => ?_)
    · replace w := w1 z
      clear w1 w2
      exact V.sub [0, 1, 2, 3, 4, 5, 6] rfl (tX0_addParts_r2_b117 X  w)
    · replace w := w2 z
      clear w1 w2
      refine V_iinc (y := (v6 + 1)) X dX0_addParts_111 6 rfl (by first | rfl | (congr 1)) (by decide) rfl ?_
      refine V_goto (tgt := 86) X dX0_addParts_114 (by decide) ?_
      exact V.sub [1, 2, 3, 4, 5, 6, 0] rfl (H86 _ _ _ _ _ _ _ _ w)
def vX0_addParts_r2_b86 (t0 : Nat)  (Qn : gH → Prop) (n : Nat) : gH → Option Nat → Option Nat → Int32 → Option Nat → Int32 → Int32 → Int32 → Prop := Nat.rec (motive := fun _ => gH → Option Nat → Option Nat → Int32 → Option Nat → Int32 → Int32 → Int32 → Prop) (fun _ _ _ _ _ _ _ _ => False) (fun _ k86 => vX0_addParts_r2_b86_o t0 k86 Qn) n
theorem tX0_addParts_r2_b86 {p : Program} {l : Launch} {e : Env} {s : State} {m : MethodId} {args : Array Value} {below : List Frame} {meth : Method} {c : Code} {G : gG} {A : Nat → Prop} {Qn : gH → Prop} (X : gC p l s m args meth c G A cX0_addParts 10 none RX0)   : ∀ (n : Nat) (h : gH) (v0 : Option Nat) (v1 : Option Nat) (v2 : Int32) (v3 : Option Nat) (v4 : Int32) (v5 : Int32) (v6 : Int32) (w : vX0_addParts_r2_b86 G.2.2.1  Qn n h v0 v1 v2 v3 v4 v5 v6), V p l e rmX0_addParts_r2 s m args below meth c (MQ below (va_Qv Qn (gB G A) A) args s rmX0_addParts_r2.cells rmX0_addParts_r2.slots A) G A 10 h 0 0 86 [(0, va_rf v0), (1, va_rf v1), (2, .int v2), (3, va_rf v3), (4, .int v4), (5, .int v5), (6, .int v6)] [] := by
  intro n
  induction n with
  | zero => intro h v0 v1 v2 v3 v4 v5 v6 w; exact False.elim w
  | succ n ih => intro h v0 v1 v2 v3 v4 v5 v6 w; exact tX0_addParts_r2_b86_o X ih w
def vX0_addParts_r2_b47 (t0 : Nat)  (Qn : gH → Prop) (h : gH)  : Prop := Qn h
set_option maxRecDepth 100000 in
set_option maxHeartbeats 4000000 in
theorem tX0_addParts_r2_b47 {p : Program} {l : Launch} {e : Env} {s : State} {m : MethodId} {args : Array Value} {below : List Frame} {meth : Method} {c : Code} {G : gG} {A : Nat → Prop} {Qn : gH → Prop} (X : gC p l s m args meth c G A cX0_addParts 10 none RX0)   {h : gH}  (w : vX0_addParts_r2_b47 G.2.2.1  Qn h ) : V p l e rmX0_addParts_r2 s m args below meth c (MQ below (va_Qv Qn (gB G A) A) args s rmX0_addParts_r2.cells rmX0_addParts_r2.slots A) G A 10 h 0 0 47 [] [] := by
  exact V_vret X rfl dX0_addParts_47 (Nat.le_of_ble_eq_true rfl) (Nat.le_of_ble_eq_true rfl) w
def vX0_addParts_r2 (t0 : Nat)  (Qn : gH → Prop) (h : gH) (v0 : Option Nat) (v1 : Option Nat) (v2 : Int32) (v3 : Option Nat) (v4 : Int32) : Prop := (((v2 : Int32) = 0) → (vX0_addParts_r2_b10 t0  Qn h )) ∧ ((¬ (v2 : Int32) = 0) → ((((v4 : Int32) ≤ 4) → (nn v1 (fun a1 => gr h a1 8 0 (fun r2 => ((r2) = none → (gi h a1 8 1 (fun x4 => (((x4 : Int32) < 0) → (vX0_addParts_r2_b74 t0  Qn h )) ∧ ((¬ (x4 : Int32) < 0) → (gi h a1 8 1 (fun x5 => nn v3 (fun a6 => al h a6 (fun x7 => ((x7 ≤ (x5 : Int32)) → (vX0_addParts_r2_b74 t0  Qn h )) ∧ ((¬ x7 ≤ (x5 : Int32)) → (gr h a1 8 2 (fun r8 => nn r8 (fun a9 => io h a9 2 (vJx4a65c_isEmpty_aae02 t0 (fun x11 h10 => (((x11 : Int32) = 0) → (gi h10 a1 8 1 (fun x12 => li h10 a6 x12 (fun x13 => ∃ n : Nat, vX0_addParts_r2_b86 t0  Qn n h10 v0 (some a1) v2 (some a6) v4 x13 0)))) ∧ ((¬ (x11 : Int32) = 0) → (vX0_addParts_r2_b74 t0  Qn h10 ))) h a9 ))))))))))))) ∧ (∀ a3 : Nat, (r2) = some a3 → (gr h a1 8 0 (fun r14 => nn r14 (fun a15 => gi h a15 4 0 (fun x16 => (((x16 : Int32) < 0) → (vX0_addParts_r2_b47 t0  Qn h )) ∧ ((¬ (x16 : Int32) < 0) → (nn v0 (fun a17 => al h a17 (fun x18 => ((x18 ≤ (x16 : Int32)) → (vX0_addParts_r2_b47 t0  Qn h )) ∧ ((¬ x18 ≤ (x16 : Int32)) → (li h a17 x16 (fun x19 => si h a17 x16 (x19 + v2) (fun h20 => vX0_addParts_r2_b47 t0  Qn h20 ))))))))))))))))) ∧ ((¬ (v4 : Int32) ≤ 4) → (vX0_addParts_r2_b10 t0  Qn h ))))
set_option maxRecDepth 100000 in
set_option maxHeartbeats 4000000 in
theorem tX0_addParts_r2 {p : Program} {l : Launch} {e : Env} {s : State} {m : MethodId} {args : Array Value} {below : List Frame} {meth : Method} {c : Code} {G : gG} {A : Nat → Prop} {Qn : gH → Prop} (X : gC p l s m args meth c G A cX0_addParts 10 none RX0)   {h : gH} {v0 : Option Nat} {v1 : Option Nat} {v2 : Int32} {v3 : Option Nat} {v4 : Int32} (w : vX0_addParts_r2 G.2.2.1  Qn h v0 v1 v2 v3 v4) : V p l e rmX0_addParts_r2 s m args below meth c (MQ below (va_Qv Qn (gB G A) A) args s rmX0_addParts_r2.cells rmX0_addParts_r2.slots A) G A 10 h 0 0 0 [(0, va_rf v0), (1, va_rf v1), (2, .int v2), (3, va_rf v3), (4, .int v4)] [] := by
  refine V_iload_n X dX0_addParts_0 2 rfl ?_
  obtain ⟨w1, w2⟩ := w
  refine V_if_eq (tgt := 10) X dX0_addParts_1 (by decide) (fun z => ?_) (fun z => ?_)
  · replace w := w1 z
    clear w1 w2
    exact V.sub [] rfl (tX0_addParts_r2_b10 X  w)
  · replace w := w2 z
    clear w1 w2
    refine V_iload X dX0_addParts_4 4 rfl ?_
    refine V_iconst (y := 4) X dX0_addParts_6 (by decide) ?_
    obtain ⟨w1, w2⟩ := w
    refine V_icmp_le (tgt := 11) X dX0_addParts_7 (by decide) (fun z => ?_) (fun z => ?_)
    · replace w := w1 z
      clear w1 w2
      refine V_aload_n X dX0_addParts_11 1 rfl ?_
      obtain ⟨a1, rfl, w⟩ := w
      obtain ⟨fs, r2, hh, hv, w⟩ := w
      refine V_get3 X frX0_19 dX0_addParts_12 hh hv ?_
      obtain ⟨w1, w2⟩ := w
      refine V_ifnull (tgt := 48) X dX0_addParts_15 (by decide) (fun z => ?_) (fun a3 z => ?_)
      · replace w := w1 z
        clear w1 w2
        subst z
        refine V_aloadr_n X dX0_addParts_48 1 rfl ?_
        obtain ⟨fs, x4, hh, hv, w⟩ := w
        refine V_get3 X frX0_31 dX0_addParts_49 hh hv ?_
        obtain ⟨w1, w2⟩ := w
        refine V_if_lt (tgt := 74) X dX0_addParts_52 (by decide) (fun z => ?_) (fun z => ?_)
        · replace w := w1 z
          clear w1 w2
          exact V.sub [] rfl (tX0_addParts_r2_b74 X  w)
        · replace w := w2 z
          clear w1 w2
          refine V_aloadr_n X dX0_addParts_55 1 rfl ?_
          obtain ⟨fs, x5, hh, hv, w⟩ := w
          refine V_get3 X frX0_31 dX0_addParts_56 hh hv ?_
          refine V_aload_n X dX0_addParts_59 3 rfl ?_
          obtain ⟨a6, rfl, w⟩ := w
          obtain ⟨kt9, x9, hh, hk9, w⟩ := w
          refine V_alen X dX0_addParts_60 hh hk9 ?_
          generalize Int32.ofNat _ = x7 at w ⊢
          obtain ⟨w1, w2⟩ := w
          refine V_icmp_ge (tgt := 74) X dX0_addParts_61 (by decide) (fun z => ?_) (fun z => ?_)
          · replace w := w1 z
            clear w1 w2
            exact V.sub [] rfl (tX0_addParts_r2_b74 X  w)
          · replace w := w2 z
            clear w1 w2
            refine V_aloadr_n X dX0_addParts_64 1 rfl ?_
            obtain ⟨fs, r8, hh, hv, w⟩ := w
            refine V_get3 X frX0_34 dX0_addParts_65 hh hv ?_
            obtain ⟨a9, rfl, w⟩ := w
            obtain ⟨fs, hh, w⟩ := w
            refine V_callVi (As := []) (rest := []) (k1 := 0) (n1 := 0) X (cJx4a65c_isEmpty_aae02_ok X.2.2.2.2.2.2.2.2.1 w) lkX0_38 hh (q9 := (RJx4a65c, TJx4a65c, 3)) rfl rfl dX0_addParts_68 ⟨Nat.le_of_ble_eq_true rfl, Nat.le_of_ble_eq_true rfl⟩ rfl (Nat.le_of_ble_eq_true rfl) ⟨Nat.le_of_ble_eq_true rfl, Nat.le_of_ble_eq_true rfl⟩ (Nat.le_of_ble_eq_true rfl) (Nat.le_of_ble_eq_true rfl) (fun x11 h10 w9 => ?_)
            replace w := w9
            clear w9
            obtain ⟨w1, w2⟩ := w
            refine V_if_eq (tgt := 75) X dX0_addParts_71 (by decide) (fun z => ?_) (fun z => ?_)
            · replace w := w1 z
              clear w1 w2
              refine V_aloadr_n X dX0_addParts_75 3 rfl ?_
              refine V_aloadr_n X dX0_addParts_76 1 rfl ?_
              obtain ⟨fs, x12, hh, hv, w⟩ := w
              refine V_get3 X frX0_31 dX0_addParts_77 hh hv ?_
              obtain ⟨N9, g9, hh, hi, w⟩ := w
              refine V_iald X dX0_addParts_80 hh hi ?_
              generalize g9 _ = x13 at w ⊢
              refine V_istore X dX0_addParts_81 (by decide) rfl ?_
              refine V_iconst (y := 0) X dX0_addParts_83 (by decide) ?_
              refine V_istore X dX0_addParts_84 (by decide) rfl ?_
              obtain ⟨n9, w⟩ := w
              exact V.sub [2, 3, 4, 5, 6, 1, 0] rfl (tX0_addParts_r2_b86 X  n9 _ _ _ _ _ _ _ _ w)
            · replace w := w2 z
              clear w1 w2
              exact V.sub [] rfl (tX0_addParts_r2_b74 X  w)
      · replace w := w2 a3 z
        clear w1 w2
        subst z
        refine V_aloadr_n X dX0_addParts_18 1 rfl ?_
        obtain ⟨fs, r14, hh, hv, w⟩ := w
        refine V_get3 X frX0_19 dX0_addParts_19 hh hv ?_
        obtain ⟨a15, rfl, w⟩ := w
        obtain ⟨fs, x16, hh, hv, w⟩ := w
        refine V_get3 X frX0_25 dX0_addParts_22 hh hv ?_
        refine V_istore X dX0_addParts_25 (by decide) rfl ?_
        refine V_iload X dX0_addParts_27 0 rfl ?_
        obtain ⟨w1, w2⟩ := w
        refine V_if_lt (tgt := 47) X dX0_addParts_29 (by decide) (fun z => ?_) (fun z => ?_)
        · replace w := w1 z
          clear w1 w2
          exact V.sub [] rfl (tX0_addParts_r2_b47 X  w)
        · replace w := w2 z
          clear w1 w2
          refine V_iload X dX0_addParts_32 0 rfl ?_
          refine V_aload_n X dX0_addParts_34 1 rfl ?_
          obtain ⟨a17, rfl, w⟩ := w
          obtain ⟨kt9, x9, hh, hk9, w⟩ := w
          refine V_alen X dX0_addParts_35 hh hk9 ?_
          generalize Int32.ofNat _ = x18 at w ⊢
          obtain ⟨w1, w2⟩ := w
          refine V_icmp_ge (tgt := 47) X dX0_addParts_36 (by decide) (fun z => ?_) (fun z => ?_)
          · replace w := w1 z
            clear w1 w2
            exact V.sub [] rfl (tX0_addParts_r2_b47 X  w)
          · replace w := w2 z
            clear w1 w2
            refine V_aloadr_n X dX0_addParts_39 1 rfl ?_
            refine V_iload X dX0_addParts_40 0 rfl ?_
            refine V_dup2 X dX0_addParts_42 rfl rfl ?_
            obtain ⟨N9, g9, hh, hi, w⟩ := w
            refine V_iald X dX0_addParts_43 hh hi ?_
            generalize g9 _ = x19 at w ⊢
            refine V_iload_n X dX0_addParts_44 3 rfl ?_
            refine V_iadd X dX0_addParts_45 ?_
            obtain ⟨N9, g9, hh, hi, w⟩ := w
            refine V_iast X dX0_addParts_46 hh hi ?_
            generalize va_up _ _ _ = h20 at w ⊢
            exact V.sub [] rfl (tX0_addParts_r2_b47 X  w)
    · replace w := w2 z
      clear w1 w2
      exact V.sub [] rfl (tX0_addParts_r2_b10 X  w)
theorem cX0_addParts_r2_ok {l : Launch} {G : gG} {h : gH} (hls : l.stackTraces = false) {Qn : gH → Prop} {v0 : Option Nat} {v1 : Option Nat} {v2 : Int32} {v3 : Option Nat} {v4 : Int32} (w : vX0_addParts_r2 G.2.2.1 Qn h v0 v1 v2 v3 v4) : gMv l yX0_addParts cX0_addParts 10 none rmX0_addParts_r2 rmX0_addParts_r2.cells rmX0_addParts_r2.slots G h [va_rf v0, va_rf v1, .int v2, va_rf v3, .int v4] Qn := by
  cases v0 <;>
  cases v1 <;>
  cases v3 <;>
  exact gMv.of (by decide +kernel) hls (Nat.le_of_ble_eq_true rfl) rfl rfl (fun p e s m below meth c A X hnm => tX0_addParts_r2 X w)
/-! AnimationController$Blend.addParts([ILAnimationController$Node;I[II)V -/
abbrev rmX0_addParts_r3 : Room := { frames := 5, cells := 0, slots := 0, locals := 122 }
def vX0_addParts_r3_b10 (t0 : Nat)  (Qn : gH → Prop) (h : gH)  : Prop := Qn h
set_option maxRecDepth 100000 in
set_option maxHeartbeats 4000000 in
theorem tX0_addParts_r3_b10 {p : Program} {l : Launch} {e : Env} {s : State} {m : MethodId} {args : Array Value} {below : List Frame} {meth : Method} {c : Code} {G : gG} {A : Nat → Prop} {Qn : gH → Prop} (X : gC p l s m args meth c G A cX0_addParts 10 none RX0)   {h : gH}  (w : vX0_addParts_r3_b10 G.2.2.1  Qn h ) : V p l e rmX0_addParts_r3 s m args below meth c (MQ below (va_Qv Qn (gB G A) A) args s rmX0_addParts_r3.cells rmX0_addParts_r3.slots A) G A 10 h 0 0 10 [] [] := by
  exact V_vret X rfl dX0_addParts_10 (Nat.le_of_ble_eq_true rfl) (Nat.le_of_ble_eq_true rfl) w
def vX0_addParts_r3_b74 (t0 : Nat)  (Qn : gH → Prop) (h : gH)  : Prop := Qn h
set_option maxRecDepth 100000 in
set_option maxHeartbeats 4000000 in
theorem tX0_addParts_r3_b74 {p : Program} {l : Launch} {e : Env} {s : State} {m : MethodId} {args : Array Value} {below : List Frame} {meth : Method} {c : Code} {G : gG} {A : Nat → Prop} {Qn : gH → Prop} (X : gC p l s m args meth c G A cX0_addParts 10 none RX0)   {h : gH}  (w : vX0_addParts_r3_b74 G.2.2.1  Qn h ) : V p l e rmX0_addParts_r3 s m args below meth c (MQ below (va_Qv Qn (gB G A) A) args s rmX0_addParts_r3.cells rmX0_addParts_r3.slots A) G A 10 h 0 0 74 [] [] := by
  exact V_vret X rfl dX0_addParts_74 (Nat.le_of_ble_eq_true rfl) (Nat.le_of_ble_eq_true rfl) w
def vX0_addParts_r3_b187 (t0 : Nat)  (Qn : gH → Prop) (h : gH) (v0 : Option Nat) (v1 : Option Nat) (v2 : Int32) (v3 : Option Nat) (v4 : Int32) (v6 : Int32) (v7 : Int32) (v9 : Int32) : Prop := nn v1 (fun a1 => gr h a1 8 2 (fun r2 => nn r2 (fun a3 => io h a3 2 (vJx4a65c_get_915e3 t0 (fun r5 h4 => nn r5 (fun a6 => io h4 a6 8 (vX0_addParts_r2 t0 (fun h7 => gr h7 a1 8 2 (fun r8 => nn r8 (fun a9 => io h7 a9 2 (vJx4a65c_get_915e3 t0 (fun r11 h10 => nn r11 (fun a12 => io h10 a12 8 (vX0_addParts_r2 t0 (fun h13 => Qn h13) h10 v0 (some a12) (v2 - v9) v3 (v4 + 1)))) h7 a9 v7)))) h4 v0 (some a6) v9 v3 (v4 + 1)))) h a3 v6))))
set_option maxRecDepth 100000 in
set_option maxHeartbeats 4000000 in
theorem tX0_addParts_r3_b187 {p : Program} {l : Launch} {e : Env} {s : State} {m : MethodId} {args : Array Value} {below : List Frame} {meth : Method} {c : Code} {G : gG} {A : Nat → Prop} {Qn : gH → Prop} (X : gC p l s m args meth c G A cX0_addParts 10 none RX0)   {h : gH} {v0 : Option Nat} {v1 : Option Nat} {v2 : Int32} {v3 : Option Nat} {v4 : Int32} {v6 : Int32} {v7 : Int32} {v9 : Int32} (w : vX0_addParts_r3_b187 G.2.2.1  Qn h v0 v1 v2 v3 v4 v6 v7 v9) : V p l e rmX0_addParts_r3 s m args below meth c (MQ below (va_Qv Qn (gB G A) A) args s rmX0_addParts_r3.cells rmX0_addParts_r3.slots A) G A 10 h 0 0 187 [(0, va_rf v0), (1, va_rf v1), (2, .int v2), (3, va_rf v3), (4, .int v4), (6, .int v6), (7, .int v7), (9, .int v9)] [] := by
  refine V_aload_n X dX0_addParts_187 0 rfl ?_
  refine V_aload_n X dX0_addParts_188 1 rfl ?_
  obtain ⟨a1, rfl, w⟩ := w
  obtain ⟨fs, r2, hh, hv, w⟩ := w
  refine V_get3 X frX0_34 dX0_addParts_189 hh hv ?_
  refine V_iload X dX0_addParts_192 5 rfl ?_
  obtain ⟨a3, rfl, w⟩ := w
  obtain ⟨fs, hh, w⟩ := w
  refine V_callVq (As := [.int v6]) (rest := [va_rf v0]) (k1 := 0) (n1 := 0) X (cJx4a65c_get_915e3_ok X.2.2.2.2.2.2.2.2.1 w) lkX0_52 hh (q9 := (RJx4a65c, TJx4a65c, 3)) rfl rfl dX0_addParts_194 ⟨Nat.le_of_ble_eq_true rfl, Nat.le_of_ble_eq_true rfl⟩ rfl (va_len _ 4 (Nat.le_of_ble_eq_true rfl)) ⟨Nat.le_of_ble_eq_true rfl, Nat.le_of_ble_eq_true rfl⟩ (Nat.le_of_ble_eq_true rfl) (Nat.le_of_ble_eq_true rfl) (fun r5 h4 w9 => ?_)
  replace w := w9
  clear w9
  obtain ⟨a6, rfl, w⟩ := w
  obtain ⟨fs, hh, w⟩ := w
  refine V_cast (q9 := (RX5, TX5, 5)) X kw_673 rfl rfl hh dX0_addParts_197 ?_
  refine V_iload X dX0_addParts_200 7 rfl ?_
  refine V_aload_n X dX0_addParts_202 3 rfl ?_
  refine V_iload X dX0_addParts_203 4 rfl ?_
  refine V_iconst (y := 1) X dX0_addParts_205 (by decide) ?_
  refine V_iadd X dX0_addParts_206 ?_
  refine V_callSv (As := [va_rf v0, .ref a6, .int v9, va_rf v3, .int (v4 + 1)]) (rest := []) (k1 := 0) (n1 := 0) X (cX0_addParts_r2_ok X.2.2.2.2.2.2.2.2.1 w) lkX0_15 dX0_addParts_207 ⟨Nat.le_of_ble_eq_true rfl, Nat.le_of_ble_eq_true rfl⟩ rfl (Nat.le_of_ble_eq_true rfl) ⟨Nat.le_of_ble_eq_true rfl, Nat.le_of_ble_eq_true rfl⟩ (Nat.le_of_ble_eq_true rfl) (Nat.le_of_ble_eq_true rfl) (fun h7 w9 => ?_)
  replace w := w9
  clear w9
  refine V_aload_n X dX0_addParts_210 0 rfl ?_
  refine V_aloadr_n X dX0_addParts_211 1 rfl ?_
  obtain ⟨fs, r8, hh, hv, w⟩ := w
  refine V_get3 X frX0_34 dX0_addParts_212 hh hv ?_
  refine V_iload X dX0_addParts_215 6 rfl ?_
  obtain ⟨a9, rfl, w⟩ := w
  obtain ⟨fs, hh, w⟩ := w
  refine V_callVq (As := [.int v7]) (rest := [va_rf v0]) (k1 := 0) (n1 := 0) X (cJx4a65c_get_915e3_ok X.2.2.2.2.2.2.2.2.1 w) lkX0_52 hh (q9 := (RJx4a65c, TJx4a65c, 3)) rfl rfl dX0_addParts_217 ⟨Nat.le_of_ble_eq_true rfl, Nat.le_of_ble_eq_true rfl⟩ rfl (va_len _ 4 (Nat.le_of_ble_eq_true rfl)) ⟨Nat.le_of_ble_eq_true rfl, Nat.le_of_ble_eq_true rfl⟩ (Nat.le_of_ble_eq_true rfl) (Nat.le_of_ble_eq_true rfl) (fun r11 h10 w9 => ?_)
  replace w := w9
  clear w9
  obtain ⟨a12, rfl, w⟩ := w
  obtain ⟨fs, hh, w⟩ := w
  refine V_cast (q9 := (RX5, TX5, 5)) X kw_673 rfl rfl hh dX0_addParts_220 ?_
  refine V_iload_n X dX0_addParts_223 2 rfl ?_
  refine V_iload X dX0_addParts_224 7 rfl ?_
  refine V_isub X dX0_addParts_226 ?_
  refine V_aload_n X dX0_addParts_227 3 rfl ?_
  refine V_iload X dX0_addParts_228 4 rfl ?_
  refine V_iconst (y := 1) X dX0_addParts_230 (by decide) ?_
  refine V_iadd X dX0_addParts_231 ?_
  refine V_callSv (As := [va_rf v0, .ref a12, .int (v2 - v9), va_rf v3, .int (v4 + 1)]) (rest := []) (k1 := 0) (n1 := 0) X (cX0_addParts_r2_ok X.2.2.2.2.2.2.2.2.1 w) lkX0_15 dX0_addParts_232 ⟨Nat.le_of_ble_eq_true rfl, Nat.le_of_ble_eq_true rfl⟩ rfl (Nat.le_of_ble_eq_true rfl) ⟨Nat.le_of_ble_eq_true rfl, Nat.le_of_ble_eq_true rfl⟩ (Nat.le_of_ble_eq_true rfl) (Nat.le_of_ble_eq_true rfl) (fun h13 w9 => ?_)
  replace w := w9
  clear w9
  exact V_vret X rfl dX0_addParts_235 (Nat.le_of_ble_eq_true rfl) (Nat.le_of_ble_eq_true rfl) w
def vX0_addParts_r3_b142 (t0 : Nat)  (Qn : gH → Prop) (h : gH) (v0 : Option Nat) (v1 : Option Nat) (v2 : Int32) (v3 : Option Nat) (v4 : Int32) (v5 : Int32) (v6 : Int32) (s0 : Int32) : Prop := nn v1 (fun a1 => io h a1 8 (vX5_positionOf t0 (fun x3 h2 => io h2 a1 8 (vX5_positionOf t0 (fun x5 h4 => ((((x3 - x5) : Int32) ≤ 0) → (vX0_addParts_r3_b187 t0  Qn h4 v0 (some a1) v2 v3 v4 v6 s0 0)) ∧ ((¬ ((x3 - x5) : Int32) ≤ 0) → (io h4 a1 8 (vX5_positionOf t0 (fun x7 h6 => ¬ ((Int32.toInt64 (x3 - x5)) : Int64) = 0 ∧ (vX0_addParts_r3_b187 t0  Qn h6 v0 (some a1) v2 v3 v4 v6 s0 (Int64.toInt32 (((Int32.toInt64 v2) * (Int32.toInt64 (v5 - x7))) / (Int32.toInt64 (x3 - x5)))))) h4 a1 s0)))) h2 a1 s0)) h a1 v6))
set_option maxRecDepth 100000 in
set_option maxHeartbeats 4000000 in
theorem tX0_addParts_r3_b142 {p : Program} {l : Launch} {e : Env} {s : State} {m : MethodId} {args : Array Value} {below : List Frame} {meth : Method} {c : Code} {G : gG} {A : Nat → Prop} {Qn : gH → Prop} (X : gC p l s m args meth c G A cX0_addParts 10 none RX0)   {h : gH} {v0 : Option Nat} {v1 : Option Nat} {v2 : Int32} {v3 : Option Nat} {v4 : Int32} {v5 : Int32} {v6 : Int32} {s0 : Int32} (w : vX0_addParts_r3_b142 G.2.2.1  Qn h v0 v1 v2 v3 v4 v5 v6 s0) : V p l e rmX0_addParts_r3 s m args below meth c (MQ below (va_Qv Qn (gB G A) A) args s rmX0_addParts_r3.cells rmX0_addParts_r3.slots A) G A 10 h 0 0 142 [(0, va_rf v0), (1, va_rf v1), (2, .int v2), (3, va_rf v3), (4, .int v4), (5, .int v5), (6, .int v6)] [.int s0] := by
  refine V_istore X dX0_addParts_142 (by decide) rfl ?_
  refine V_aload_n X dX0_addParts_144 2 rfl ?_
  refine V_iload X dX0_addParts_145 7 rfl ?_
  obtain ⟨a1, rfl, w⟩ := w
  obtain ⟨fs, hh, w⟩ := w
  refine V_callVi (As := [.int v6]) (rest := []) (k1 := 0) (n1 := 0) X (cX5_positionOf_ok X.2.2.2.2.2.2.2.2.1 w) lkX0_48 hh (q9 := (RX5, TX5, 5)) rfl rfl dX0_addParts_147 ⟨Nat.le_of_ble_eq_true rfl, Nat.le_of_ble_eq_true rfl⟩ rfl (Nat.le_of_ble_eq_true rfl) ⟨Nat.le_of_ble_eq_true rfl, Nat.le_of_ble_eq_true rfl⟩ (Nat.le_of_ble_eq_true rfl) (Nat.le_of_ble_eq_true rfl) (fun x3 h2 w9 => ?_)
  replace w := w9
  clear w9
  refine V_aloadr_n X dX0_addParts_150 2 rfl ?_
  refine V_iload X dX0_addParts_151 0 rfl ?_
  obtain ⟨fs, hh, w⟩ := w
  refine V_callVi (As := [.int s0]) (rest := [.int x3]) (k1 := 0) (n1 := 0) X (cX5_positionOf_ok X.2.2.2.2.2.2.2.2.1 w) lkX0_48 hh (q9 := (RX5, TX5, 5)) rfl rfl dX0_addParts_153 ⟨Nat.le_of_ble_eq_true rfl, Nat.le_of_ble_eq_true rfl⟩ rfl (Nat.le_of_ble_eq_true rfl) ⟨Nat.le_of_ble_eq_true rfl, Nat.le_of_ble_eq_true rfl⟩ (Nat.le_of_ble_eq_true rfl) (Nat.le_of_ble_eq_true rfl) (fun x5 h4 w9 => ?_)
  replace w := w9
  clear w9
  refine V_isub X dX0_addParts_156 ?_
  refine V_istore X dX0_addParts_157 (by decide) rfl ?_
  refine V_iconst (y := 0) X dX0_addParts_159 (by decide) ?_
  refine V_istore X dX0_addParts_160 (by decide) rfl ?_
  refine V_iload X dX0_addParts_162 1 rfl ?_
  obtain ⟨w1, w2⟩ := w
  refine V_if_le (tgt := 187) X dX0_addParts_164 (by decide) (fun z => ?_) (fun z => ?_)
  · replace w := w1 z
    clear w1 w2
    exact V.sub [3, 4, 5, 6, 7, 9, 2, 0] rfl (tX0_addParts_r3_b187 X  w)
  · replace w := w2 z
    clear w1 w2
    refine V_iload_n X dX0_addParts_167 5 rfl ?_
    refine V_i2l X dX0_addParts_168 ?_
    refine V_iload X dX0_addParts_169 8 rfl ?_
    refine V_aloadr_n X dX0_addParts_171 4 rfl ?_
    refine V_iload X dX0_addParts_172 2 rfl ?_
    obtain ⟨fs, hh, w⟩ := w
    refine V_callVi (As := [.int s0]) (rest := [.int v5, .long (Int32.toInt64 v2)]) (k1 := 0) (n1 := 0) X (cX5_positionOf_ok X.2.2.2.2.2.2.2.2.1 w) lkX0_48 hh (q9 := (RX5, TX5, 5)) rfl rfl dX0_addParts_174 ⟨Nat.le_of_ble_eq_true rfl, Nat.le_of_ble_eq_true rfl⟩ rfl (Nat.le_of_ble_eq_true rfl) ⟨Nat.le_of_ble_eq_true rfl, Nat.le_of_ble_eq_true rfl⟩ (Nat.le_of_ble_eq_true rfl) (Nat.le_of_ble_eq_true rfl) (fun x7 h6 w9 => ?_)
    replace w := w9
    clear w9
    refine V_isub X dX0_addParts_177 ?_
    refine V_i2l X dX0_addParts_178 ?_
    refine V_lmul X dX0_addParts_179 ?_
    refine V_iload X dX0_addParts_180 1 rfl ?_
    refine V_i2l X dX0_addParts_182 ?_
    obtain ⟨z0, w⟩ := w
    refine V_ldiv X dX0_addParts_183 z0 ?_
    refine V_l2i X dX0_addParts_184 ?_
    refine V_istore X dX0_addParts_185 (by decide) rfl ?_
    exact V.sub [3, 4, 5, 6, 7, 9, 2, 0] rfl (tX0_addParts_r3_b187 X  w)
def vX0_addParts_r3_b140 (t0 : Nat)  (Qn : gH → Prop) (h : gH) (v0 : Option Nat) (v1 : Option Nat) (v2 : Int32) (v3 : Option Nat) (v4 : Int32) (v5 : Int32) (v6 : Int32) : Prop := vX0_addParts_r3_b142 t0  Qn h v0 v1 v2 v3 v4 v5 v6 v6
set_option maxRecDepth 100000 in
set_option maxHeartbeats 4000000 in
theorem tX0_addParts_r3_b140 {p : Program} {l : Launch} {e : Env} {s : State} {m : MethodId} {args : Array Value} {below : List Frame} {meth : Method} {c : Code} {G : gG} {A : Nat → Prop} {Qn : gH → Prop} (X : gC p l s m args meth c G A cX0_addParts 10 none RX0)   {h : gH} {v0 : Option Nat} {v1 : Option Nat} {v2 : Int32} {v3 : Option Nat} {v4 : Int32} {v5 : Int32} {v6 : Int32} (w : vX0_addParts_r3_b140 G.2.2.1  Qn h v0 v1 v2 v3 v4 v5 v6) : V p l e rmX0_addParts_r3 s m args below meth c (MQ below (va_Qv Qn (gB G A) A) args s rmX0_addParts_r3.cells rmX0_addParts_r3.slots A) G A 10 h 0 0 140 [(0, va_rf v0), (1, va_rf v1), (2, .int v2), (3, va_rf v3), (4, .int v4), (5, .int v5), (6, .int v6)] [] := by
  refine V_iload X dX0_addParts_140 6 rfl ?_
  exact V.sub [0, 1, 2, 3, 4, 5, 6] rfl (tX0_addParts_r3_b142 X  w)
def vX0_addParts_r3_b117 (t0 : Nat)  (Qn : gH → Prop) (h : gH) (v0 : Option Nat) (v1 : Option Nat) (v2 : Int32) (v3 : Option Nat) (v4 : Int32) (v5 : Int32) (v6 : Int32) : Prop := (((v6 : Int32) ≤ 0) → (vX0_addParts_r3_b140 t0  Qn h v0 v1 v2 v3 v4 v5 v6)) ∧ ((¬ (v6 : Int32) ≤ 0) → (nn v1 (fun a1 => io h a1 8 (vX5_positionOf t0 (fun x3 h2 => (((x3 : Int32) ≤ v5) → (vX0_addParts_r3_b140 t0  Qn h2 v0 (some a1) v2 v3 v4 v5 v6)) ∧ ((¬ (x3 : Int32) ≤ v5) → (vX0_addParts_r3_b142 t0  Qn h2 v0 (some a1) v2 v3 v4 v5 v6 (v6 - 1)))) h a1 v6))))
set_option maxRecDepth 100000 in
set_option maxHeartbeats 4000000 in
theorem tX0_addParts_r3_b117 {p : Program} {l : Launch} {e : Env} {s : State} {m : MethodId} {args : Array Value} {below : List Frame} {meth : Method} {c : Code} {G : gG} {A : Nat → Prop} {Qn : gH → Prop} (X : gC p l s m args meth c G A cX0_addParts 10 none RX0)   {h : gH} {v0 : Option Nat} {v1 : Option Nat} {v2 : Int32} {v3 : Option Nat} {v4 : Int32} {v5 : Int32} {v6 : Int32} (w : vX0_addParts_r3_b117 G.2.2.1  Qn h v0 v1 v2 v3 v4 v5 v6) : V p l e rmX0_addParts_r3 s m args below meth c (MQ below (va_Qv Qn (gB G A) A) args s rmX0_addParts_r3.cells rmX0_addParts_r3.slots A) G A 10 h 0 0 117 [(0, va_rf v0), (1, va_rf v1), (2, .int v2), (3, va_rf v3), (4, .int v4), (5, .int v5), (6, .int v6)] [] := by
  refine V_iload X dX0_addParts_117 6 rfl ?_
  obtain ⟨w1, w2⟩ := w
  refine V_if_le (tgt := 140) X dX0_addParts_119 (by decide) (fun z => ?_) (fun z => ?_)
  · replace w := w1 z
    clear w1 w2
    exact V.sub [0, 1, 2, 3, 4, 5, 6] rfl (tX0_addParts_r3_b140 X  w)
  · replace w := w2 z
    clear w1 w2
    refine V_aload_n X dX0_addParts_122 1 rfl ?_
    refine V_iload X dX0_addParts_123 6 rfl ?_
    obtain ⟨a1, rfl, w⟩ := w
    obtain ⟨fs, hh, w⟩ := w
    refine V_callVi (As := [.int v6]) (rest := []) (k1 := 0) (n1 := 0) X (cX5_positionOf_ok X.2.2.2.2.2.2.2.2.1 w) lkX0_48 hh (q9 := (RX5, TX5, 5)) rfl rfl dX0_addParts_125 ⟨Nat.le_of_ble_eq_true rfl, Nat.le_of_ble_eq_true rfl⟩ rfl (Nat.le_of_ble_eq_true rfl) ⟨Nat.le_of_ble_eq_true rfl, Nat.le_of_ble_eq_true rfl⟩ (Nat.le_of_ble_eq_true rfl) (Nat.le_of_ble_eq_true rfl) (fun x3 h2 w9 => ?_)
    replace w := w9
    clear w9
    refine V_iload X dX0_addParts_128 5 rfl ?_
    obtain ⟨w1, w2⟩ := w
    refine V_icmp_le (tgt := 140) X dX0_addParts_130 (by decide) (fun z => ?_) (fun z => ?_)
    · replace w := w1 z
      clear w1 w2
      exact V.sub [0, 1, 2, 3, 4, 5, 6] rfl (tX0_addParts_r3_b140 X  w)
    · replace w := w2 z
      clear w1 w2
      refine V_iload X dX0_addParts_133 6 rfl ?_
      refine V_iconst (y := 1) X dX0_addParts_135 (by decide) ?_
      refine V_isub X dX0_addParts_136 ?_
      refine V_goto (tgt := 142) X dX0_addParts_137 (by decide) ?_
      exact V.sub [0, 1, 2, 3, 4, 5, 6] rfl (tX0_addParts_r3_b142 X  w)
def vX0_addParts_r3_b86_o (t0 : Nat) (k86 : gH → Option Nat → Option Nat → Int32 → Option Nat → Int32 → Int32 → Int32 → Prop) (Qn : gH → Prop) (h : gH) (v0 : Option Nat) (v1 : Option Nat) (v2 : Int32) (v3 : Option Nat) (v4 : Int32) (v5 : Int32) (v6 : Int32) : Prop := nn v1 (fun a1 => gr h a1 8 2 (fun r2 => nn r2 (fun a3 => io h a3 2 (vJx4a65c_size_8abf5 t0 (fun x5 h4 => (((x5 - 1) ≤ (v6 : Int32)) → (vX0_addParts_r3_b117 t0  Qn h4 v0 (some a1) v2 v3 v4 v5 v6)) ∧ ((¬ (x5 - 1) ≤ (v6 : Int32)) → (io h4 a1 8 (vX5_positionOf t0 (fun x7 h6 => ((v5 ≤ (x7 : Int32)) → (vX0_addParts_r3_b117 t0  Qn h6 v0 (some a1) v2 v3 v4 v5 v6)) ∧ ((¬ v5 ≤ (x7 : Int32)) → (k86 h6 v0 (some a1) v2 v3 v4 v5 (v6 + 1)))) h4 a1 v6)))) h a3 ))))
set_option maxRecDepth 100000 in
set_option maxHeartbeats 4000000 in
theorem tX0_addParts_r3_b86_o {p : Program} {l : Launch} {e : Env} {s : State} {m : MethodId} {args : Array Value} {below : List Frame} {meth : Method} {c : Code} {G : gG} {A : Nat → Prop} {Qn : gH → Prop} (X : gC p l s m args meth c G A cX0_addParts 10 none RX0) {k86 : gH → Option Nat → Option Nat → Int32 → Option Nat → Int32 → Int32 → Int32 → Prop} (H86 : ∀ (h : gH) (v0 : Option Nat) (v1 : Option Nat) (v2 : Int32) (v3 : Option Nat) (v4 : Int32) (v5 : Int32) (v6 : Int32), k86 h v0 v1 v2 v3 v4 v5 v6 → V p l e rmX0_addParts_r3 s m args below meth c (MQ below (va_Qv Qn (gB G A) A) args s rmX0_addParts_r3.cells rmX0_addParts_r3.slots A) G A 10 h 0 0 86 [(0, va_rf v0), (1, va_rf v1), (2, .int v2), (3, va_rf v3), (4, .int v4), (5, .int v5), (6, .int v6)] []) {h : gH} {v0 : Option Nat} {v1 : Option Nat} {v2 : Int32} {v3 : Option Nat} {v4 : Int32} {v5 : Int32} {v6 : Int32} (w : vX0_addParts_r3_b86_o G.2.2.1 k86 Qn h v0 v1 v2 v3 v4 v5 v6) : V p l e rmX0_addParts_r3 s m args below meth c (MQ below (va_Qv Qn (gB G A) A) args s rmX0_addParts_r3.cells rmX0_addParts_r3.slots A) G A 10 h 0 0 86 [(0, va_rf v0), (1, va_rf v1), (2, .int v2), (3, va_rf v3), (4, .int v4), (5, .int v5), (6, .int v6)] [] := by
  refine V_iload X dX0_addParts_86 6 rfl ?_
  refine V_aload_n X dX0_addParts_88 1 rfl ?_
  obtain ⟨a1, rfl, w⟩ := w
  obtain ⟨fs, r2, hh, hv, w⟩ := w
  refine V_get3 X frX0_34 dX0_addParts_89 hh hv ?_
  obtain ⟨a3, rfl, w⟩ := w
  obtain ⟨fs, hh, w⟩ := w
  refine V_callVi (As := []) (rest := [.int v6]) (k1 := 0) (n1 := 0) X (cJx4a65c_size_8abf5_ok X.2.2.2.2.2.2.2.2.1 w) lkX0_44 hh (q9 := (RJx4a65c, TJx4a65c, 3)) rfl rfl dX0_addParts_92 ⟨Nat.le_of_ble_eq_true rfl, Nat.le_of_ble_eq_true rfl⟩ rfl (Nat.le_of_ble_eq_true rfl) ⟨Nat.le_of_ble_eq_true rfl, Nat.le_of_ble_eq_true rfl⟩ (Nat.le_of_ble_eq_true rfl) (Nat.le_of_ble_eq_true rfl) (fun x5 h4 w9 => ?_)
  replace w := w9
  clear w9
  refine V_iconst (y := 1) X dX0_addParts_95 (by decide) ?_
  refine V_isub X dX0_addParts_96 ?_
  obtain ⟨w1, w2⟩ := w
  refine V_icmp_ge (tgt := 117) X dX0_addParts_97 (by decide) (fun z => ?_) (fun z => ?_)
  · replace w := w1 z
    clear w1 w2
    exact V.sub [0, 1, 2, 3, 4, 5, 6] rfl (tX0_addParts_r3_b117 X  w)
  · replace w := w2 z
    clear w1 w2
    refine V_aloadr_n X dX0_addParts_100 1 rfl ?_
    refine V_iload X dX0_addParts_101 6 rfl ?_
    obtain ⟨fs, hh, w⟩ := w
    refine V_callVi (As := [.int v6]) (rest := []) (k1 := 0) (n1 := 0) X (cX5_positionOf_ok X.2.2.2.2.2.2.2.2.1 w) lkX0_48 hh (q9 := (RX5, TX5, 5)) rfl rfl dX0_addParts_103 ⟨Nat.le_of_ble_eq_true rfl, Nat.le_of_ble_eq_true rfl⟩ rfl (Nat.le_of_ble_eq_true rfl) ⟨Nat.le_of_ble_eq_true rfl, Nat.le_of_ble_eq_true rfl⟩ (Nat.le_of_ble_eq_true rfl) (Nat.le_of_ble_eq_true rfl) (fun x7 h6 w9 => ?_)
    replace w := w9
    clear w9
    refine V_iload X dX0_addParts_106 5 rfl ?_
    obtain ⟨w1, w2⟩ := w
    refine V_icmp_ge (tgt := 117) X dX0_addParts_108 (by decide) (fun z => ?_) (fun z => ?_)
    · replace w := w1 z
      clear w1 w2
      exact V.sub [0, 1, 2, 3, 4, 5, 6] rfl (tX0_addParts_r3_b117 X  w)
    · replace w := w2 z
      clear w1 w2
      refine V_iinc (y := (v6 + 1)) X dX0_addParts_111 6 rfl (by first | rfl | (congr 1)) (by decide) rfl ?_
      refine V_goto (tgt := 86) X dX0_addParts_114 (by decide) ?_
      exact V.sub [1, 2, 3, 4, 5, 6, 0] rfl (H86 _ _ _ _ _ _ _ _ w)
def vX0_addParts_r3_b86 (t0 : Nat)  (Qn : gH → Prop) (n : Nat) : gH → Option Nat → Option Nat → Int32 → Option Nat → Int32 → Int32 → Int32 → Prop := Nat.rec (motive := fun _ => gH → Option Nat → Option Nat → Int32 → Option Nat → Int32 → Int32 → Int32 → Prop) (fun _ _ _ _ _ _ _ _ => False) (fun _ k86 => vX0_addParts_r3_b86_o t0 k86 Qn) n
theorem tX0_addParts_r3_b86 {p : Program} {l : Launch} {e : Env} {s : State} {m : MethodId} {args : Array Value} {below : List Frame} {meth : Method} {c : Code} {G : gG} {A : Nat → Prop} {Qn : gH → Prop} (X : gC p l s m args meth c G A cX0_addParts 10 none RX0)   : ∀ (n : Nat) (h : gH) (v0 : Option Nat) (v1 : Option Nat) (v2 : Int32) (v3 : Option Nat) (v4 : Int32) (v5 : Int32) (v6 : Int32) (w : vX0_addParts_r3_b86 G.2.2.1  Qn n h v0 v1 v2 v3 v4 v5 v6), V p l e rmX0_addParts_r3 s m args below meth c (MQ below (va_Qv Qn (gB G A) A) args s rmX0_addParts_r3.cells rmX0_addParts_r3.slots A) G A 10 h 0 0 86 [(0, va_rf v0), (1, va_rf v1), (2, .int v2), (3, va_rf v3), (4, .int v4), (5, .int v5), (6, .int v6)] [] := by
  intro n
  induction n with
  | zero => intro h v0 v1 v2 v3 v4 v5 v6 w; exact False.elim w
  | succ n ih => intro h v0 v1 v2 v3 v4 v5 v6 w; exact tX0_addParts_r3_b86_o X ih w
def vX0_addParts_r3_b47 (t0 : Nat)  (Qn : gH → Prop) (h : gH)  : Prop := Qn h
set_option maxRecDepth 100000 in
set_option maxHeartbeats 4000000 in
theorem tX0_addParts_r3_b47 {p : Program} {l : Launch} {e : Env} {s : State} {m : MethodId} {args : Array Value} {below : List Frame} {meth : Method} {c : Code} {G : gG} {A : Nat → Prop} {Qn : gH → Prop} (X : gC p l s m args meth c G A cX0_addParts 10 none RX0)   {h : gH}  (w : vX0_addParts_r3_b47 G.2.2.1  Qn h ) : V p l e rmX0_addParts_r3 s m args below meth c (MQ below (va_Qv Qn (gB G A) A) args s rmX0_addParts_r3.cells rmX0_addParts_r3.slots A) G A 10 h 0 0 47 [] [] := by
  exact V_vret X rfl dX0_addParts_47 (Nat.le_of_ble_eq_true rfl) (Nat.le_of_ble_eq_true rfl) w
def vX0_addParts_r3 (t0 : Nat)  (Qn : gH → Prop) (h : gH) (v0 : Option Nat) (v1 : Option Nat) (v2 : Int32) (v3 : Option Nat) (v4 : Int32) : Prop := (((v2 : Int32) = 0) → (vX0_addParts_r3_b10 t0  Qn h )) ∧ ((¬ (v2 : Int32) = 0) → ((((v4 : Int32) ≤ 4) → (nn v1 (fun a1 => gr h a1 8 0 (fun r2 => ((r2) = none → (gi h a1 8 1 (fun x4 => (((x4 : Int32) < 0) → (vX0_addParts_r3_b74 t0  Qn h )) ∧ ((¬ (x4 : Int32) < 0) → (gi h a1 8 1 (fun x5 => nn v3 (fun a6 => al h a6 (fun x7 => ((x7 ≤ (x5 : Int32)) → (vX0_addParts_r3_b74 t0  Qn h )) ∧ ((¬ x7 ≤ (x5 : Int32)) → (gr h a1 8 2 (fun r8 => nn r8 (fun a9 => io h a9 2 (vJx4a65c_isEmpty_aae02 t0 (fun x11 h10 => (((x11 : Int32) = 0) → (gi h10 a1 8 1 (fun x12 => li h10 a6 x12 (fun x13 => ∃ n : Nat, vX0_addParts_r3_b86 t0  Qn n h10 v0 (some a1) v2 (some a6) v4 x13 0)))) ∧ ((¬ (x11 : Int32) = 0) → (vX0_addParts_r3_b74 t0  Qn h10 ))) h a9 ))))))))))))) ∧ (∀ a3 : Nat, (r2) = some a3 → (gr h a1 8 0 (fun r14 => nn r14 (fun a15 => gi h a15 4 0 (fun x16 => (((x16 : Int32) < 0) → (vX0_addParts_r3_b47 t0  Qn h )) ∧ ((¬ (x16 : Int32) < 0) → (nn v0 (fun a17 => al h a17 (fun x18 => ((x18 ≤ (x16 : Int32)) → (vX0_addParts_r3_b47 t0  Qn h )) ∧ ((¬ x18 ≤ (x16 : Int32)) → (li h a17 x16 (fun x19 => si h a17 x16 (x19 + v2) (fun h20 => vX0_addParts_r3_b47 t0  Qn h20 ))))))))))))))))) ∧ ((¬ (v4 : Int32) ≤ 4) → (vX0_addParts_r3_b10 t0  Qn h ))))
set_option maxRecDepth 100000 in
set_option maxHeartbeats 4000000 in
theorem tX0_addParts_r3 {p : Program} {l : Launch} {e : Env} {s : State} {m : MethodId} {args : Array Value} {below : List Frame} {meth : Method} {c : Code} {G : gG} {A : Nat → Prop} {Qn : gH → Prop} (X : gC p l s m args meth c G A cX0_addParts 10 none RX0)   {h : gH} {v0 : Option Nat} {v1 : Option Nat} {v2 : Int32} {v3 : Option Nat} {v4 : Int32} (w : vX0_addParts_r3 G.2.2.1  Qn h v0 v1 v2 v3 v4) : V p l e rmX0_addParts_r3 s m args below meth c (MQ below (va_Qv Qn (gB G A) A) args s rmX0_addParts_r3.cells rmX0_addParts_r3.slots A) G A 10 h 0 0 0 [(0, va_rf v0), (1, va_rf v1), (2, .int v2), (3, va_rf v3), (4, .int v4)] [] := by
  refine V_iload_n X dX0_addParts_0 2 rfl ?_
  obtain ⟨w1, w2⟩ := w
  refine V_if_eq (tgt := 10) X dX0_addParts_1 (by decide) (fun z => ?_) (fun z => ?_)
  · replace w := w1 z
    clear w1 w2
    exact V.sub [] rfl (tX0_addParts_r3_b10 X  w)
  · replace w := w2 z
    clear w1 w2
    refine V_iload X dX0_addParts_4 4 rfl ?_
    refine V_iconst (y := 4) X dX0_addParts_6 (by decide) ?_
    obtain ⟨w1, w2⟩ := w
    refine V_icmp_le (tgt := 11) X dX0_addParts_7 (by decide) (fun z => ?_) (fun z => ?_)
    · replace w := w1 z
      clear w1 w2
      refine V_aload_n X dX0_addParts_11 1 rfl ?_
      obtain ⟨a1, rfl, w⟩ := w
      obtain ⟨fs, r2, hh, hv, w⟩ := w
      refine V_get3 X frX0_19 dX0_addParts_12 hh hv ?_
      obtain ⟨w1, w2⟩ := w
      refine V_ifnull (tgt := 48) X dX0_addParts_15 (by decide) (fun z => ?_) (fun a3 z => ?_)
      · replace w := w1 z
        clear w1 w2
        subst z
        refine V_aloadr_n X dX0_addParts_48 1 rfl ?_
        obtain ⟨fs, x4, hh, hv, w⟩ := w
        refine V_get3 X frX0_31 dX0_addParts_49 hh hv ?_
        obtain ⟨w1, w2⟩ := w
        refine V_if_lt (tgt := 74) X dX0_addParts_52 (by decide) (fun z => ?_) (fun z => ?_)
        · replace w := w1 z
          clear w1 w2
          exact V.sub [] rfl (tX0_addParts_r3_b74 X  w)
        · replace w := w2 z
          clear w1 w2
          refine V_aloadr_n X dX0_addParts_55 1 rfl ?_
          obtain ⟨fs, x5, hh, hv, w⟩ := w
          refine V_get3 X frX0_31 dX0_addParts_56 hh hv ?_
          refine V_aload_n X dX0_addParts_59 3 rfl ?_
          obtain ⟨a6, rfl, w⟩ := w
          obtain ⟨kt9, x9, hh, hk9, w⟩ := w
          refine V_alen X dX0_addParts_60 hh hk9 ?_
          generalize Int32.ofNat _ = x7 at w ⊢
          obtain ⟨w1, w2⟩ := w
          refine V_icmp_ge (tgt := 74) X dX0_addParts_61 (by decide) (fun z => ?_) (fun z => ?_)
          · replace w := w1 z
            clear w1 w2
            exact V.sub [] rfl (tX0_addParts_r3_b74 X  w)
          · replace w := w2 z
            clear w1 w2
            refine V_aloadr_n X dX0_addParts_64 1 rfl ?_
            obtain ⟨fs, r8, hh, hv, w⟩ := w
            refine V_get3 X frX0_34 dX0_addParts_65 hh hv ?_
            obtain ⟨a9, rfl, w⟩ := w
            obtain ⟨fs, hh, w⟩ := w
            refine V_callVi (As := []) (rest := []) (k1 := 0) (n1 := 0) X (cJx4a65c_isEmpty_aae02_ok X.2.2.2.2.2.2.2.2.1 w) lkX0_38 hh (q9 := (RJx4a65c, TJx4a65c, 3)) rfl rfl dX0_addParts_68 ⟨Nat.le_of_ble_eq_true rfl, Nat.le_of_ble_eq_true rfl⟩ rfl (Nat.le_of_ble_eq_true rfl) ⟨Nat.le_of_ble_eq_true rfl, Nat.le_of_ble_eq_true rfl⟩ (Nat.le_of_ble_eq_true rfl) (Nat.le_of_ble_eq_true rfl) (fun x11 h10 w9 => ?_)
            replace w := w9
            clear w9
            obtain ⟨w1, w2⟩ := w
            refine V_if_eq (tgt := 75) X dX0_addParts_71 (by decide) (fun z => ?_) (fun z => ?_)
            · replace w := w1 z
              clear w1 w2
              refine V_aloadr_n X dX0_addParts_75 3 rfl ?_
              refine V_aloadr_n X dX0_addParts_76 1 rfl ?_
              obtain ⟨fs, x12, hh, hv, w⟩ := w
              refine V_get3 X frX0_31 dX0_addParts_77 hh hv ?_
              obtain ⟨N9, g9, hh, hi, w⟩ := w
              refine V_iald X dX0_addParts_80 hh hi ?_
              generalize g9 _ = x13 at w ⊢
              refine V_istore X dX0_addParts_81 (by decide) rfl ?_
              refine V_iconst (y := 0) X dX0_addParts_83 (by decide) ?_
              refine V_istore X dX0_addParts_84 (by decide) rfl ?_
              obtain ⟨n9, w⟩ := w
              exact V.sub [2, 3, 4, 5, 6, 1, 0] rfl (tX0_addParts_r3_b86 X  n9 _ _ _ _ _ _ _ _ w)
            · replace w := w2 z
              clear w1 w2
              exact V.sub [] rfl (tX0_addParts_r3_b74 X  w)
      · replace w := w2 a3 z
        clear w1 w2
        subst z
        refine V_aloadr_n X dX0_addParts_18 1 rfl ?_
        obtain ⟨fs, r14, hh, hv, w⟩ := w
        refine V_get3 X frX0_19 dX0_addParts_19 hh hv ?_
        obtain ⟨a15, rfl, w⟩ := w
        obtain ⟨fs, x16, hh, hv, w⟩ := w
        refine V_get3 X frX0_25 dX0_addParts_22 hh hv ?_
        refine V_istore X dX0_addParts_25 (by decide) rfl ?_
        refine V_iload X dX0_addParts_27 0 rfl ?_
        obtain ⟨w1, w2⟩ := w
        refine V_if_lt (tgt := 47) X dX0_addParts_29 (by decide) (fun z => ?_) (fun z => ?_)
        · replace w := w1 z
          clear w1 w2
          exact V.sub [] rfl (tX0_addParts_r3_b47 X  w)
        · replace w := w2 z
          clear w1 w2
          refine V_iload X dX0_addParts_32 0 rfl ?_
          refine V_aload_n X dX0_addParts_34 1 rfl ?_
          obtain ⟨a17, rfl, w⟩ := w
          obtain ⟨kt9, x9, hh, hk9, w⟩ := w
          refine V_alen X dX0_addParts_35 hh hk9 ?_
          generalize Int32.ofNat _ = x18 at w ⊢
          obtain ⟨w1, w2⟩ := w
          refine V_icmp_ge (tgt := 47) X dX0_addParts_36 (by decide) (fun z => ?_) (fun z => ?_)
          · replace w := w1 z
            clear w1 w2
            exact V.sub [] rfl (tX0_addParts_r3_b47 X  w)
          · replace w := w2 z
            clear w1 w2
            refine V_aloadr_n X dX0_addParts_39 1 rfl ?_
            refine V_iload X dX0_addParts_40 0 rfl ?_
            refine V_dup2 X dX0_addParts_42 rfl rfl ?_
            obtain ⟨N9, g9, hh, hi, w⟩ := w
            refine V_iald X dX0_addParts_43 hh hi ?_
            generalize g9 _ = x19 at w ⊢
            refine V_iload_n X dX0_addParts_44 3 rfl ?_
            refine V_iadd X dX0_addParts_45 ?_
            obtain ⟨N9, g9, hh, hi, w⟩ := w
            refine V_iast X dX0_addParts_46 hh hi ?_
            generalize va_up _ _ _ = h20 at w ⊢
            exact V.sub [] rfl (tX0_addParts_r3_b47 X  w)
    · replace w := w2 z
      clear w1 w2
      exact V.sub [] rfl (tX0_addParts_r3_b10 X  w)
theorem cX0_addParts_r3_ok {l : Launch} {G : gG} {h : gH} (hls : l.stackTraces = false) {Qn : gH → Prop} {v0 : Option Nat} {v1 : Option Nat} {v2 : Int32} {v3 : Option Nat} {v4 : Int32} (w : vX0_addParts_r3 G.2.2.1 Qn h v0 v1 v2 v3 v4) : gMv l yX0_addParts cX0_addParts 10 none rmX0_addParts_r3 rmX0_addParts_r3.cells rmX0_addParts_r3.slots G h [va_rf v0, va_rf v1, .int v2, va_rf v3, .int v4] Qn := by
  cases v0 <;>
  cases v1 <;>
  cases v3 <;>
  exact gMv.of (by decide +kernel) hls (Nat.le_of_ble_eq_true rfl) rfl rfl (fun p e s m below meth c A X hnm => tX0_addParts_r3 X w)
/-! AnimationController$Blend.addParts([ILAnimationController$Node;I[II)V -/
abbrev rmX0_addParts_r4 : Room := { frames := 6, cells := 0, slots := 0, locals := 151 }
def vX0_addParts_r4_b10 (t0 : Nat)  (Qn : gH → Prop) (h : gH)  : Prop := Qn h
set_option maxRecDepth 100000 in
set_option maxHeartbeats 4000000 in
theorem tX0_addParts_r4_b10 {p : Program} {l : Launch} {e : Env} {s : State} {m : MethodId} {args : Array Value} {below : List Frame} {meth : Method} {c : Code} {G : gG} {A : Nat → Prop} {Qn : gH → Prop} (X : gC p l s m args meth c G A cX0_addParts 10 none RX0)   {h : gH}  (w : vX0_addParts_r4_b10 G.2.2.1  Qn h ) : V p l e rmX0_addParts_r4 s m args below meth c (MQ below (va_Qv Qn (gB G A) A) args s rmX0_addParts_r4.cells rmX0_addParts_r4.slots A) G A 10 h 0 0 10 [] [] := by
  exact V_vret X rfl dX0_addParts_10 (Nat.le_of_ble_eq_true rfl) (Nat.le_of_ble_eq_true rfl) w
def vX0_addParts_r4_b74 (t0 : Nat)  (Qn : gH → Prop) (h : gH)  : Prop := Qn h
set_option maxRecDepth 100000 in
set_option maxHeartbeats 4000000 in
theorem tX0_addParts_r4_b74 {p : Program} {l : Launch} {e : Env} {s : State} {m : MethodId} {args : Array Value} {below : List Frame} {meth : Method} {c : Code} {G : gG} {A : Nat → Prop} {Qn : gH → Prop} (X : gC p l s m args meth c G A cX0_addParts 10 none RX0)   {h : gH}  (w : vX0_addParts_r4_b74 G.2.2.1  Qn h ) : V p l e rmX0_addParts_r4 s m args below meth c (MQ below (va_Qv Qn (gB G A) A) args s rmX0_addParts_r4.cells rmX0_addParts_r4.slots A) G A 10 h 0 0 74 [] [] := by
  exact V_vret X rfl dX0_addParts_74 (Nat.le_of_ble_eq_true rfl) (Nat.le_of_ble_eq_true rfl) w
def vX0_addParts_r4_b187 (t0 : Nat)  (Qn : gH → Prop) (h : gH) (v0 : Option Nat) (v1 : Option Nat) (v2 : Int32) (v3 : Option Nat) (v4 : Int32) (v6 : Int32) (v7 : Int32) (v9 : Int32) : Prop := nn v1 (fun a1 => gr h a1 8 2 (fun r2 => nn r2 (fun a3 => io h a3 2 (vJx4a65c_get_915e3 t0 (fun r5 h4 => nn r5 (fun a6 => io h4 a6 8 (vX0_addParts_r3 t0 (fun h7 => gr h7 a1 8 2 (fun r8 => nn r8 (fun a9 => io h7 a9 2 (vJx4a65c_get_915e3 t0 (fun r11 h10 => nn r11 (fun a12 => io h10 a12 8 (vX0_addParts_r3 t0 (fun h13 => Qn h13) h10 v0 (some a12) (v2 - v9) v3 (v4 + 1)))) h7 a9 v7)))) h4 v0 (some a6) v9 v3 (v4 + 1)))) h a3 v6))))
set_option maxRecDepth 100000 in
set_option maxHeartbeats 4000000 in
theorem tX0_addParts_r4_b187 {p : Program} {l : Launch} {e : Env} {s : State} {m : MethodId} {args : Array Value} {below : List Frame} {meth : Method} {c : Code} {G : gG} {A : Nat → Prop} {Qn : gH → Prop} (X : gC p l s m args meth c G A cX0_addParts 10 none RX0)   {h : gH} {v0 : Option Nat} {v1 : Option Nat} {v2 : Int32} {v3 : Option Nat} {v4 : Int32} {v6 : Int32} {v7 : Int32} {v9 : Int32} (w : vX0_addParts_r4_b187 G.2.2.1  Qn h v0 v1 v2 v3 v4 v6 v7 v9) : V p l e rmX0_addParts_r4 s m args below meth c (MQ below (va_Qv Qn (gB G A) A) args s rmX0_addParts_r4.cells rmX0_addParts_r4.slots A) G A 10 h 0 0 187 [(0, va_rf v0), (1, va_rf v1), (2, .int v2), (3, va_rf v3), (4, .int v4), (6, .int v6), (7, .int v7), (9, .int v9)] [] := by
  refine V_aload_n X dX0_addParts_187 0 rfl ?_
  refine V_aload_n X dX0_addParts_188 1 rfl ?_
  obtain ⟨a1, rfl, w⟩ := w
  obtain ⟨fs, r2, hh, hv, w⟩ := w
  refine V_get3 X frX0_34 dX0_addParts_189 hh hv ?_
  refine V_iload X dX0_addParts_192 5 rfl ?_
  obtain ⟨a3, rfl, w⟩ := w
  obtain ⟨fs, hh, w⟩ := w
  refine V_callVq (As := [.int v6]) (rest := [va_rf v0]) (k1 := 0) (n1 := 0) X (cJx4a65c_get_915e3_ok X.2.2.2.2.2.2.2.2.1 w) lkX0_52 hh (q9 := (RJx4a65c, TJx4a65c, 3)) rfl rfl dX0_addParts_194 ⟨Nat.le_of_ble_eq_true rfl, Nat.le_of_ble_eq_true rfl⟩ rfl (va_len _ 4 (Nat.le_of_ble_eq_true rfl)) ⟨Nat.le_of_ble_eq_true rfl, Nat.le_of_ble_eq_true rfl⟩ (Nat.le_of_ble_eq_true rfl) (Nat.le_of_ble_eq_true rfl) (fun r5 h4 w9 => ?_)
  replace w := w9
  clear w9
  obtain ⟨a6, rfl, w⟩ := w
  obtain ⟨fs, hh, w⟩ := w
  refine V_cast (q9 := (RX5, TX5, 5)) X kw_673 rfl rfl hh dX0_addParts_197 ?_
  refine V_iload X dX0_addParts_200 7 rfl ?_
  refine V_aload_n X dX0_addParts_202 3 rfl ?_
  refine V_iload X dX0_addParts_203 4 rfl ?_
  refine V_iconst (y := 1) X dX0_addParts_205 (by decide) ?_
  refine V_iadd X dX0_addParts_206 ?_
  refine V_callSv (As := [va_rf v0, .ref a6, .int v9, va_rf v3, .int (v4 + 1)]) (rest := []) (k1 := 0) (n1 := 0) X (cX0_addParts_r3_ok X.2.2.2.2.2.2.2.2.1 w) lkX0_15 dX0_addParts_207 ⟨Nat.le_of_ble_eq_true rfl, Nat.le_of_ble_eq_true rfl⟩ rfl (Nat.le_of_ble_eq_true rfl) ⟨Nat.le_of_ble_eq_true rfl, Nat.le_of_ble_eq_true rfl⟩ (Nat.le_of_ble_eq_true rfl) (Nat.le_of_ble_eq_true rfl) (fun h7 w9 => ?_)
  replace w := w9
  clear w9
  refine V_aload_n X dX0_addParts_210 0 rfl ?_
  refine V_aloadr_n X dX0_addParts_211 1 rfl ?_
  obtain ⟨fs, r8, hh, hv, w⟩ := w
  refine V_get3 X frX0_34 dX0_addParts_212 hh hv ?_
  refine V_iload X dX0_addParts_215 6 rfl ?_
  obtain ⟨a9, rfl, w⟩ := w
  obtain ⟨fs, hh, w⟩ := w
  refine V_callVq (As := [.int v7]) (rest := [va_rf v0]) (k1 := 0) (n1 := 0) X (cJx4a65c_get_915e3_ok X.2.2.2.2.2.2.2.2.1 w) lkX0_52 hh (q9 := (RJx4a65c, TJx4a65c, 3)) rfl rfl dX0_addParts_217 ⟨Nat.le_of_ble_eq_true rfl, Nat.le_of_ble_eq_true rfl⟩ rfl (va_len _ 4 (Nat.le_of_ble_eq_true rfl)) ⟨Nat.le_of_ble_eq_true rfl, Nat.le_of_ble_eq_true rfl⟩ (Nat.le_of_ble_eq_true rfl) (Nat.le_of_ble_eq_true rfl) (fun r11 h10 w9 => ?_)
  replace w := w9
  clear w9
  obtain ⟨a12, rfl, w⟩ := w
  obtain ⟨fs, hh, w⟩ := w
  refine V_cast (q9 := (RX5, TX5, 5)) X kw_673 rfl rfl hh dX0_addParts_220 ?_
  refine V_iload_n X dX0_addParts_223 2 rfl ?_
  refine V_iload X dX0_addParts_224 7 rfl ?_
  refine V_isub X dX0_addParts_226 ?_
  refine V_aload_n X dX0_addParts_227 3 rfl ?_
  refine V_iload X dX0_addParts_228 4 rfl ?_
  refine V_iconst (y := 1) X dX0_addParts_230 (by decide) ?_
  refine V_iadd X dX0_addParts_231 ?_
  refine V_callSv (As := [va_rf v0, .ref a12, .int (v2 - v9), va_rf v3, .int (v4 + 1)]) (rest := []) (k1 := 0) (n1 := 0) X (cX0_addParts_r3_ok X.2.2.2.2.2.2.2.2.1 w) lkX0_15 dX0_addParts_232 ⟨Nat.le_of_ble_eq_true rfl, Nat.le_of_ble_eq_true rfl⟩ rfl (Nat.le_of_ble_eq_true rfl) ⟨Nat.le_of_ble_eq_true rfl, Nat.le_of_ble_eq_true rfl⟩ (Nat.le_of_ble_eq_true rfl) (Nat.le_of_ble_eq_true rfl) (fun h13 w9 => ?_)
  replace w := w9
  clear w9
  exact V_vret X rfl dX0_addParts_235 (Nat.le_of_ble_eq_true rfl) (Nat.le_of_ble_eq_true rfl) w
def vX0_addParts_r4_b142 (t0 : Nat)  (Qn : gH → Prop) (h : gH) (v0 : Option Nat) (v1 : Option Nat) (v2 : Int32) (v3 : Option Nat) (v4 : Int32) (v5 : Int32) (v6 : Int32) (s0 : Int32) : Prop := nn v1 (fun a1 => io h a1 8 (vX5_positionOf t0 (fun x3 h2 => io h2 a1 8 (vX5_positionOf t0 (fun x5 h4 => ((((x3 - x5) : Int32) ≤ 0) → (vX0_addParts_r4_b187 t0  Qn h4 v0 (some a1) v2 v3 v4 v6 s0 0)) ∧ ((¬ ((x3 - x5) : Int32) ≤ 0) → (io h4 a1 8 (vX5_positionOf t0 (fun x7 h6 => ¬ ((Int32.toInt64 (x3 - x5)) : Int64) = 0 ∧ (vX0_addParts_r4_b187 t0  Qn h6 v0 (some a1) v2 v3 v4 v6 s0 (Int64.toInt32 (((Int32.toInt64 v2) * (Int32.toInt64 (v5 - x7))) / (Int32.toInt64 (x3 - x5)))))) h4 a1 s0)))) h2 a1 s0)) h a1 v6))
set_option maxRecDepth 100000 in
set_option maxHeartbeats 4000000 in
theorem tX0_addParts_r4_b142 {p : Program} {l : Launch} {e : Env} {s : State} {m : MethodId} {args : Array Value} {below : List Frame} {meth : Method} {c : Code} {G : gG} {A : Nat → Prop} {Qn : gH → Prop} (X : gC p l s m args meth c G A cX0_addParts 10 none RX0)   {h : gH} {v0 : Option Nat} {v1 : Option Nat} {v2 : Int32} {v3 : Option Nat} {v4 : Int32} {v5 : Int32} {v6 : Int32} {s0 : Int32} (w : vX0_addParts_r4_b142 G.2.2.1  Qn h v0 v1 v2 v3 v4 v5 v6 s0) : V p l e rmX0_addParts_r4 s m args below meth c (MQ below (va_Qv Qn (gB G A) A) args s rmX0_addParts_r4.cells rmX0_addParts_r4.slots A) G A 10 h 0 0 142 [(0, va_rf v0), (1, va_rf v1), (2, .int v2), (3, va_rf v3), (4, .int v4), (5, .int v5), (6, .int v6)] [.int s0] := by
  refine V_istore X dX0_addParts_142 (by decide) rfl ?_
  refine V_aload_n X dX0_addParts_144 2 rfl ?_
  refine V_iload X dX0_addParts_145 7 rfl ?_
  obtain ⟨a1, rfl, w⟩ := w
  obtain ⟨fs, hh, w⟩ := w
  refine V_callVi (As := [.int v6]) (rest := []) (k1 := 0) (n1 := 0) X (cX5_positionOf_ok X.2.2.2.2.2.2.2.2.1 w) lkX0_48 hh (q9 := (RX5, TX5, 5)) rfl rfl dX0_addParts_147 ⟨Nat.le_of_ble_eq_true rfl, Nat.le_of_ble_eq_true rfl⟩ rfl (Nat.le_of_ble_eq_true rfl) ⟨Nat.le_of_ble_eq_true rfl, Nat.le_of_ble_eq_true rfl⟩ (Nat.le_of_ble_eq_true rfl) (Nat.le_of_ble_eq_true rfl) (fun x3 h2 w9 => ?_)
  replace w := w9
  clear w9
  refine V_aloadr_n X dX0_addParts_150 2 rfl ?_
  refine V_iload X dX0_addParts_151 0 rfl ?_
  obtain ⟨fs, hh, w⟩ := w
  refine V_callVi (As := [.int s0]) (rest := [.int x3]) (k1 := 0) (n1 := 0) X (cX5_positionOf_ok X.2.2.2.2.2.2.2.2.1 w) lkX0_48 hh (q9 := (RX5, TX5, 5)) rfl rfl dX0_addParts_153 ⟨Nat.le_of_ble_eq_true rfl, Nat.le_of_ble_eq_true rfl⟩ rfl (Nat.le_of_ble_eq_true rfl) ⟨Nat.le_of_ble_eq_true rfl, Nat.le_of_ble_eq_true rfl⟩ (Nat.le_of_ble_eq_true rfl) (Nat.le_of_ble_eq_true rfl) (fun x5 h4 w9 => ?_)
  replace w := w9
  clear w9
  refine V_isub X dX0_addParts_156 ?_
  refine V_istore X dX0_addParts_157 (by decide) rfl ?_
  refine V_iconst (y := 0) X dX0_addParts_159 (by decide) ?_
  refine V_istore X dX0_addParts_160 (by decide) rfl ?_
  refine V_iload X dX0_addParts_162 1 rfl ?_
  obtain ⟨w1, w2⟩ := w
  refine V_if_le (tgt := 187) X dX0_addParts_164 (by decide) (fun z => ?_) (fun z => ?_)
  · replace w := w1 z
    clear w1 w2
    exact V.sub [3, 4, 5, 6, 7, 9, 2, 0] rfl (tX0_addParts_r4_b187 X  w)
  · replace w := w2 z
    clear w1 w2
    refine V_iload_n X dX0_addParts_167 5 rfl ?_
    refine V_i2l X dX0_addParts_168 ?_
    refine V_iload X dX0_addParts_169 8 rfl ?_
    refine V_aloadr_n X dX0_addParts_171 4 rfl ?_
    refine V_iload X dX0_addParts_172 2 rfl ?_
    obtain ⟨fs, hh, w⟩ := w
    refine V_callVi (As := [.int s0]) (rest := [.int v5, .long (Int32.toInt64 v2)]) (k1 := 0) (n1 := 0) X (cX5_positionOf_ok X.2.2.2.2.2.2.2.2.1 w) lkX0_48 hh (q9 := (RX5, TX5, 5)) rfl rfl dX0_addParts_174 ⟨Nat.le_of_ble_eq_true rfl, Nat.le_of_ble_eq_true rfl⟩ rfl (Nat.le_of_ble_eq_true rfl) ⟨Nat.le_of_ble_eq_true rfl, Nat.le_of_ble_eq_true rfl⟩ (Nat.le_of_ble_eq_true rfl) (Nat.le_of_ble_eq_true rfl) (fun x7 h6 w9 => ?_)
    replace w := w9
    clear w9
    refine V_isub X dX0_addParts_177 ?_
    refine V_i2l X dX0_addParts_178 ?_
    refine V_lmul X dX0_addParts_179 ?_
    refine V_iload X dX0_addParts_180 1 rfl ?_
    refine V_i2l X dX0_addParts_182 ?_
    obtain ⟨z0, w⟩ := w
    refine V_ldiv X dX0_addParts_183 z0 ?_
    refine V_l2i X dX0_addParts_184 ?_
    refine V_istore X dX0_addParts_185 (by decide) rfl ?_
    exact V.sub [3, 4, 5, 6, 7, 9, 2, 0] rfl (tX0_addParts_r4_b187 X  w)
def vX0_addParts_r4_b140 (t0 : Nat)  (Qn : gH → Prop) (h : gH) (v0 : Option Nat) (v1 : Option Nat) (v2 : Int32) (v3 : Option Nat) (v4 : Int32) (v5 : Int32) (v6 : Int32) : Prop := vX0_addParts_r4_b142 t0  Qn h v0 v1 v2 v3 v4 v5 v6 v6
set_option maxRecDepth 100000 in
set_option maxHeartbeats 4000000 in
theorem tX0_addParts_r4_b140 {p : Program} {l : Launch} {e : Env} {s : State} {m : MethodId} {args : Array Value} {below : List Frame} {meth : Method} {c : Code} {G : gG} {A : Nat → Prop} {Qn : gH → Prop} (X : gC p l s m args meth c G A cX0_addParts 10 none RX0)   {h : gH} {v0 : Option Nat} {v1 : Option Nat} {v2 : Int32} {v3 : Option Nat} {v4 : Int32} {v5 : Int32} {v6 : Int32} (w : vX0_addParts_r4_b140 G.2.2.1  Qn h v0 v1 v2 v3 v4 v5 v6) : V p l e rmX0_addParts_r4 s m args below meth c (MQ below (va_Qv Qn (gB G A) A) args s rmX0_addParts_r4.cells rmX0_addParts_r4.slots A) G A 10 h 0 0 140 [(0, va_rf v0), (1, va_rf v1), (2, .int v2), (3, va_rf v3), (4, .int v4), (5, .int v5), (6, .int v6)] [] := by
  refine V_iload X dX0_addParts_140 6 rfl ?_
  exact V.sub [0, 1, 2, 3, 4, 5, 6] rfl (tX0_addParts_r4_b142 X  w)
def vX0_addParts_r4_b117 (t0 : Nat)  (Qn : gH → Prop) (h : gH) (v0 : Option Nat) (v1 : Option Nat) (v2 : Int32) (v3 : Option Nat) (v4 : Int32) (v5 : Int32) (v6 : Int32) : Prop := (((v6 : Int32) ≤ 0) → (vX0_addParts_r4_b140 t0  Qn h v0 v1 v2 v3 v4 v5 v6)) ∧ ((¬ (v6 : Int32) ≤ 0) → (nn v1 (fun a1 => io h a1 8 (vX5_positionOf t0 (fun x3 h2 => (((x3 : Int32) ≤ v5) → (vX0_addParts_r4_b140 t0  Qn h2 v0 (some a1) v2 v3 v4 v5 v6)) ∧ ((¬ (x3 : Int32) ≤ v5) → (vX0_addParts_r4_b142 t0  Qn h2 v0 (some a1) v2 v3 v4 v5 v6 (v6 - 1)))) h a1 v6))))
set_option maxRecDepth 100000 in
set_option maxHeartbeats 4000000 in
theorem tX0_addParts_r4_b117 {p : Program} {l : Launch} {e : Env} {s : State} {m : MethodId} {args : Array Value} {below : List Frame} {meth : Method} {c : Code} {G : gG} {A : Nat → Prop} {Qn : gH → Prop} (X : gC p l s m args meth c G A cX0_addParts 10 none RX0)   {h : gH} {v0 : Option Nat} {v1 : Option Nat} {v2 : Int32} {v3 : Option Nat} {v4 : Int32} {v5 : Int32} {v6 : Int32} (w : vX0_addParts_r4_b117 G.2.2.1  Qn h v0 v1 v2 v3 v4 v5 v6) : V p l e rmX0_addParts_r4 s m args below meth c (MQ below (va_Qv Qn (gB G A) A) args s rmX0_addParts_r4.cells rmX0_addParts_r4.slots A) G A 10 h 0 0 117 [(0, va_rf v0), (1, va_rf v1), (2, .int v2), (3, va_rf v3), (4, .int v4), (5, .int v5), (6, .int v6)] [] := by
  refine V_iload X dX0_addParts_117 6 rfl ?_
  obtain ⟨w1, w2⟩ := w
  refine V_if_le (tgt := 140) X dX0_addParts_119 (by decide) (fun z => ?_) (fun z => ?_)
  · replace w := w1 z
    clear w1 w2
    exact V.sub [0, 1, 2, 3, 4, 5, 6] rfl (tX0_addParts_r4_b140 X  w)
  · replace w := w2 z
    clear w1 w2
    refine V_aload_n X dX0_addParts_122 1 rfl ?_
    refine V_iload X dX0_addParts_123 6 rfl ?_
    obtain ⟨a1, rfl, w⟩ := w
    obtain ⟨fs, hh, w⟩ := w
    refine V_callVi (As := [.int v6]) (rest := []) (k1 := 0) (n1 := 0) X (cX5_positionOf_ok X.2.2.2.2.2.2.2.2.1 w) lkX0_48 hh (q9 := (RX5, TX5, 5)) rfl rfl dX0_addParts_125 ⟨Nat.le_of_ble_eq_true rfl, Nat.le_of_ble_eq_true rfl⟩ rfl (Nat.le_of_ble_eq_true rfl) ⟨Nat.le_of_ble_eq_true rfl, Nat.le_of_ble_eq_true rfl⟩ (Nat.le_of_ble_eq_true rfl) (Nat.le_of_ble_eq_true rfl) (fun x3 h2 w9 => ?_)
    replace w := w9
    clear w9
    refine V_iload X dX0_addParts_128 5 rfl ?_
    obtain ⟨w1, w2⟩ := w
    refine V_icmp_le (tgt := 140) X dX0_addParts_130 (by decide) (fun z => ?_) (fun z => ?_)
    · replace w := w1 z
      clear w1 w2
      exact V.sub [0, 1, 2, 3, 4, 5, 6] rfl (tX0_addParts_r4_b140 X  w)
    · replace w := w2 z
      clear w1 w2
      refine V_iload X dX0_addParts_133 6 rfl ?_
      refine V_iconst (y := 1) X dX0_addParts_135 (by decide) ?_
      refine V_isub X dX0_addParts_136 ?_
      refine V_goto (tgt := 142) X dX0_addParts_137 (by decide) ?_
      exact V.sub [0, 1, 2, 3, 4, 5, 6] rfl (tX0_addParts_r4_b142 X  w)
def vX0_addParts_r4_b86_o (t0 : Nat) (k86 : gH → Option Nat → Option Nat → Int32 → Option Nat → Int32 → Int32 → Int32 → Prop) (Qn : gH → Prop) (h : gH) (v0 : Option Nat) (v1 : Option Nat) (v2 : Int32) (v3 : Option Nat) (v4 : Int32) (v5 : Int32) (v6 : Int32) : Prop := nn v1 (fun a1 => gr h a1 8 2 (fun r2 => nn r2 (fun a3 => io h a3 2 (vJx4a65c_size_8abf5 t0 (fun x5 h4 => (((x5 - 1) ≤ (v6 : Int32)) → (vX0_addParts_r4_b117 t0  Qn h4 v0 (some a1) v2 v3 v4 v5 v6)) ∧ ((¬ (x5 - 1) ≤ (v6 : Int32)) → (io h4 a1 8 (vX5_positionOf t0 (fun x7 h6 => ((v5 ≤ (x7 : Int32)) → (vX0_addParts_r4_b117 t0  Qn h6 v0 (some a1) v2 v3 v4 v5 v6)) ∧ ((¬ v5 ≤ (x7 : Int32)) → (k86 h6 v0 (some a1) v2 v3 v4 v5 (v6 + 1)))) h4 a1 v6)))) h a3 ))))
set_option maxRecDepth 100000 in
set_option maxHeartbeats 4000000 in
theorem tX0_addParts_r4_b86_o {p : Program} {l : Launch} {e : Env} {s : State} {m : MethodId} {args : Array Value} {below : List Frame} {meth : Method} {c : Code} {G : gG} {A : Nat → Prop} {Qn : gH → Prop} (X : gC p l s m args meth c G A cX0_addParts 10 none RX0) {k86 : gH → Option Nat → Option Nat → Int32 → Option Nat → Int32 → Int32 → Int32 → Prop} (H86 : ∀ (h : gH) (v0 : Option Nat) (v1 : Option Nat) (v2 : Int32) (v3 : Option Nat) (v4 : Int32) (v5 : Int32) (v6 : Int32), k86 h v0 v1 v2 v3 v4 v5 v6 → V p l e rmX0_addParts_r4 s m args below meth c (MQ below (va_Qv Qn (gB G A) A) args s rmX0_addParts_r4.cells rmX0_addParts_r4.slots A) G A 10 h 0 0 86 [(0, va_rf v0), (1, va_rf v1), (2, .int v2), (3, va_rf v3), (4, .int v4), (5, .int v5), (6, .int v6)] []) {h : gH} {v0 : Option Nat} {v1 : Option Nat} {v2 : Int32} {v3 : Option Nat} {v4 : Int32} {v5 : Int32} {v6 : Int32} (w : vX0_addParts_r4_b86_o G.2.2.1 k86 Qn h v0 v1 v2 v3 v4 v5 v6) : V p l e rmX0_addParts_r4 s m args below meth c (MQ below (va_Qv Qn (gB G A) A) args s rmX0_addParts_r4.cells rmX0_addParts_r4.slots A) G A 10 h 0 0 86 [(0, va_rf v0), (1, va_rf v1), (2, .int v2), (3, va_rf v3), (4, .int v4), (5, .int v5), (6, .int v6)] [] := by
  refine V_iload X dX0_addParts_86 6 rfl ?_
  refine V_aload_n X dX0_addParts_88 1 rfl ?_
  obtain ⟨a1, rfl, w⟩ := w
  obtain ⟨fs, r2, hh, hv, w⟩ := w
  refine V_get3 X frX0_34 dX0_addParts_89 hh hv ?_
  obtain ⟨a3, rfl, w⟩ := w
  obtain ⟨fs, hh, w⟩ := w
  refine V_callVi (As := []) (rest := [.int v6]) (k1 := 0) (n1 := 0) X (cJx4a65c_size_8abf5_ok X.2.2.2.2.2.2.2.2.1 w) lkX0_44 hh (q9 := (RJx4a65c, TJx4a65c, 3)) rfl rfl dX0_addParts_92 ⟨Nat.le_of_ble_eq_true rfl, Nat.le_of_ble_eq_true rfl⟩ rfl (Nat.le_of_ble_eq_true rfl) ⟨Nat.le_of_ble_eq_true rfl, Nat.le_of_ble_eq_true rfl⟩ (Nat.le_of_ble_eq_true rfl) (Nat.le_of_ble_eq_true rfl) (fun x5 h4 w9 => ?_)
  replace w := w9
  clear w9
  refine V_iconst (y := 1) X dX0_addParts_95 (by decide) ?_
  refine V_isub X dX0_addParts_96 ?_
  obtain ⟨w1, w2⟩ := w
  refine V_icmp_ge (tgt := 117) X dX0_addParts_97 (by decide) (fun z => ?_) (fun z => ?_)
  · replace w := w1 z
    clear w1 w2
    exact V.sub [0, 1, 2, 3, 4, 5, 6] rfl (tX0_addParts_r4_b117 X  w)
  · replace w := w2 z
    clear w1 w2
    refine V_aloadr_n X dX0_addParts_100 1 rfl ?_
    refine V_iload X dX0_addParts_101 6 rfl ?_
    obtain ⟨fs, hh, w⟩ := w
    refine V_callVi (As := [.int v6]) (rest := []) (k1 := 0) (n1 := 0) X (cX5_positionOf_ok X.2.2.2.2.2.2.2.2.1 w) lkX0_48 hh (q9 := (RX5, TX5, 5)) rfl rfl dX0_addParts_103 ⟨Nat.le_of_ble_eq_true rfl, Nat.le_of_ble_eq_true rfl⟩ rfl (Nat.le_of_ble_eq_true rfl) ⟨Nat.le_of_ble_eq_true rfl, Nat.le_of_ble_eq_true rfl⟩ (Nat.le_of_ble_eq_true rfl) (Nat.le_of_ble_eq_true rfl) (fun x7 h6 w9 => ?_)
    replace w := w9
    clear w9
    refine V_iload X dX0_addParts_106 5 rfl ?_
    obtain ⟨w1, w2⟩ := w
    refine V_icmp_ge (tgt := 117) X dX0_addParts_108 (by decide) (fun z => ?_) (fun z => ?_)
    · replace w := w1 z
      clear w1 w2
      exact V.sub [0, 1, 2, 3, 4, 5, 6] rfl (tX0_addParts_r4_b117 X  w)
    · replace w := w2 z
      clear w1 w2
      refine V_iinc (y := (v6 + 1)) X dX0_addParts_111 6 rfl (by first | rfl | (congr 1)) (by decide) rfl ?_
      refine V_goto (tgt := 86) X dX0_addParts_114 (by decide) ?_
      exact V.sub [1, 2, 3, 4, 5, 6, 0] rfl (H86 _ _ _ _ _ _ _ _ w)
def vX0_addParts_r4_b86 (t0 : Nat)  (Qn : gH → Prop) (n : Nat) : gH → Option Nat → Option Nat → Int32 → Option Nat → Int32 → Int32 → Int32 → Prop := Nat.rec (motive := fun _ => gH → Option Nat → Option Nat → Int32 → Option Nat → Int32 → Int32 → Int32 → Prop) (fun _ _ _ _ _ _ _ _ => False) (fun _ k86 => vX0_addParts_r4_b86_o t0 k86 Qn) n
theorem tX0_addParts_r4_b86 {p : Program} {l : Launch} {e : Env} {s : State} {m : MethodId} {args : Array Value} {below : List Frame} {meth : Method} {c : Code} {G : gG} {A : Nat → Prop} {Qn : gH → Prop} (X : gC p l s m args meth c G A cX0_addParts 10 none RX0)   : ∀ (n : Nat) (h : gH) (v0 : Option Nat) (v1 : Option Nat) (v2 : Int32) (v3 : Option Nat) (v4 : Int32) (v5 : Int32) (v6 : Int32) (w : vX0_addParts_r4_b86 G.2.2.1  Qn n h v0 v1 v2 v3 v4 v5 v6), V p l e rmX0_addParts_r4 s m args below meth c (MQ below (va_Qv Qn (gB G A) A) args s rmX0_addParts_r4.cells rmX0_addParts_r4.slots A) G A 10 h 0 0 86 [(0, va_rf v0), (1, va_rf v1), (2, .int v2), (3, va_rf v3), (4, .int v4), (5, .int v5), (6, .int v6)] [] := by
  intro n
  induction n with
  | zero => intro h v0 v1 v2 v3 v4 v5 v6 w; exact False.elim w
  | succ n ih => intro h v0 v1 v2 v3 v4 v5 v6 w; exact tX0_addParts_r4_b86_o X ih w
def vX0_addParts_r4_b47 (t0 : Nat)  (Qn : gH → Prop) (h : gH)  : Prop := Qn h
set_option maxRecDepth 100000 in
set_option maxHeartbeats 4000000 in
theorem tX0_addParts_r4_b47 {p : Program} {l : Launch} {e : Env} {s : State} {m : MethodId} {args : Array Value} {below : List Frame} {meth : Method} {c : Code} {G : gG} {A : Nat → Prop} {Qn : gH → Prop} (X : gC p l s m args meth c G A cX0_addParts 10 none RX0)   {h : gH}  (w : vX0_addParts_r4_b47 G.2.2.1  Qn h ) : V p l e rmX0_addParts_r4 s m args below meth c (MQ below (va_Qv Qn (gB G A) A) args s rmX0_addParts_r4.cells rmX0_addParts_r4.slots A) G A 10 h 0 0 47 [] [] := by
  exact V_vret X rfl dX0_addParts_47 (Nat.le_of_ble_eq_true rfl) (Nat.le_of_ble_eq_true rfl) w
def vX0_addParts_r4 (t0 : Nat)  (Qn : gH → Prop) (h : gH) (v0 : Option Nat) (v1 : Option Nat) (v2 : Int32) (v3 : Option Nat) (v4 : Int32) : Prop := (((v2 : Int32) = 0) → (vX0_addParts_r4_b10 t0  Qn h )) ∧ ((¬ (v2 : Int32) = 0) → ((((v4 : Int32) ≤ 4) → (nn v1 (fun a1 => gr h a1 8 0 (fun r2 => ((r2) = none → (gi h a1 8 1 (fun x4 => (((x4 : Int32) < 0) → (vX0_addParts_r4_b74 t0  Qn h )) ∧ ((¬ (x4 : Int32) < 0) → (gi h a1 8 1 (fun x5 => nn v3 (fun a6 => al h a6 (fun x7 => ((x7 ≤ (x5 : Int32)) → (vX0_addParts_r4_b74 t0  Qn h )) ∧ ((¬ x7 ≤ (x5 : Int32)) → (gr h a1 8 2 (fun r8 => nn r8 (fun a9 => io h a9 2 (vJx4a65c_isEmpty_aae02 t0 (fun x11 h10 => (((x11 : Int32) = 0) → (gi h10 a1 8 1 (fun x12 => li h10 a6 x12 (fun x13 => ∃ n : Nat, vX0_addParts_r4_b86 t0  Qn n h10 v0 (some a1) v2 (some a6) v4 x13 0)))) ∧ ((¬ (x11 : Int32) = 0) → (vX0_addParts_r4_b74 t0  Qn h10 ))) h a9 ))))))))))))) ∧ (∀ a3 : Nat, (r2) = some a3 → (gr h a1 8 0 (fun r14 => nn r14 (fun a15 => gi h a15 4 0 (fun x16 => (((x16 : Int32) < 0) → (vX0_addParts_r4_b47 t0  Qn h )) ∧ ((¬ (x16 : Int32) < 0) → (nn v0 (fun a17 => al h a17 (fun x18 => ((x18 ≤ (x16 : Int32)) → (vX0_addParts_r4_b47 t0  Qn h )) ∧ ((¬ x18 ≤ (x16 : Int32)) → (li h a17 x16 (fun x19 => si h a17 x16 (x19 + v2) (fun h20 => vX0_addParts_r4_b47 t0  Qn h20 ))))))))))))))))) ∧ ((¬ (v4 : Int32) ≤ 4) → (vX0_addParts_r4_b10 t0  Qn h ))))
set_option maxRecDepth 100000 in
set_option maxHeartbeats 4000000 in
theorem tX0_addParts_r4 {p : Program} {l : Launch} {e : Env} {s : State} {m : MethodId} {args : Array Value} {below : List Frame} {meth : Method} {c : Code} {G : gG} {A : Nat → Prop} {Qn : gH → Prop} (X : gC p l s m args meth c G A cX0_addParts 10 none RX0)   {h : gH} {v0 : Option Nat} {v1 : Option Nat} {v2 : Int32} {v3 : Option Nat} {v4 : Int32} (w : vX0_addParts_r4 G.2.2.1  Qn h v0 v1 v2 v3 v4) : V p l e rmX0_addParts_r4 s m args below meth c (MQ below (va_Qv Qn (gB G A) A) args s rmX0_addParts_r4.cells rmX0_addParts_r4.slots A) G A 10 h 0 0 0 [(0, va_rf v0), (1, va_rf v1), (2, .int v2), (3, va_rf v3), (4, .int v4)] [] := by
  refine V_iload_n X dX0_addParts_0 2 rfl ?_
  obtain ⟨w1, w2⟩ := w
  refine V_if_eq (tgt := 10) X dX0_addParts_1 (by decide) (fun z => ?_) (fun z => ?_)
  · replace w := w1 z
    clear w1 w2
    exact V.sub [] rfl (tX0_addParts_r4_b10 X  w)
  · replace w := w2 z
    clear w1 w2
    refine V_iload X dX0_addParts_4 4 rfl ?_
    refine V_iconst (y := 4) X dX0_addParts_6 (by decide) ?_
    obtain ⟨w1, w2⟩ := w
    refine V_icmp_le (tgt := 11) X dX0_addParts_7 (by decide) (fun z => ?_) (fun z => ?_)
    · replace w := w1 z
      clear w1 w2
      refine V_aload_n X dX0_addParts_11 1 rfl ?_
      obtain ⟨a1, rfl, w⟩ := w
      obtain ⟨fs, r2, hh, hv, w⟩ := w
      refine V_get3 X frX0_19 dX0_addParts_12 hh hv ?_
      obtain ⟨w1, w2⟩ := w
      refine V_ifnull (tgt := 48) X dX0_addParts_15 (by decide) (fun z => ?_) (fun a3 z => ?_)
      · replace w := w1 z
        clear w1 w2
        subst z
        refine V_aloadr_n X dX0_addParts_48 1 rfl ?_
        obtain ⟨fs, x4, hh, hv, w⟩ := w
        refine V_get3 X frX0_31 dX0_addParts_49 hh hv ?_
        obtain ⟨w1, w2⟩ := w
        refine V_if_lt (tgt := 74) X dX0_addParts_52 (by decide) (fun z => ?_) (fun z => ?_)
        · replace w := w1 z
          clear w1 w2
          exact V.sub [] rfl (tX0_addParts_r4_b74 X  w)
        · replace w := w2 z
          clear w1 w2
          refine V_aloadr_n X dX0_addParts_55 1 rfl ?_
          obtain ⟨fs, x5, hh, hv, w⟩ := w
          refine V_get3 X frX0_31 dX0_addParts_56 hh hv ?_
          refine V_aload_n X dX0_addParts_59 3 rfl ?_
          obtain ⟨a6, rfl, w⟩ := w
          obtain ⟨kt9, x9, hh, hk9, w⟩ := w
          refine V_alen X dX0_addParts_60 hh hk9 ?_
          generalize Int32.ofNat _ = x7 at w ⊢
          obtain ⟨w1, w2⟩ := w
          refine V_icmp_ge (tgt := 74) X dX0_addParts_61 (by decide) (fun z => ?_) (fun z => ?_)
          · replace w := w1 z
            clear w1 w2
            exact V.sub [] rfl (tX0_addParts_r4_b74 X  w)
          · replace w := w2 z
            clear w1 w2
            refine V_aloadr_n X dX0_addParts_64 1 rfl ?_
            obtain ⟨fs, r8, hh, hv, w⟩ := w
            refine V_get3 X frX0_34 dX0_addParts_65 hh hv ?_
            obtain ⟨a9, rfl, w⟩ := w
            obtain ⟨fs, hh, w⟩ := w
            refine V_callVi (As := []) (rest := []) (k1 := 0) (n1 := 0) X (cJx4a65c_isEmpty_aae02_ok X.2.2.2.2.2.2.2.2.1 w) lkX0_38 hh (q9 := (RJx4a65c, TJx4a65c, 3)) rfl rfl dX0_addParts_68 ⟨Nat.le_of_ble_eq_true rfl, Nat.le_of_ble_eq_true rfl⟩ rfl (Nat.le_of_ble_eq_true rfl) ⟨Nat.le_of_ble_eq_true rfl, Nat.le_of_ble_eq_true rfl⟩ (Nat.le_of_ble_eq_true rfl) (Nat.le_of_ble_eq_true rfl) (fun x11 h10 w9 => ?_)
            replace w := w9
            clear w9
            obtain ⟨w1, w2⟩ := w
            refine V_if_eq (tgt := 75) X dX0_addParts_71 (by decide) (fun z => ?_) (fun z => ?_)
            · replace w := w1 z
              clear w1 w2
              refine V_aloadr_n X dX0_addParts_75 3 rfl ?_
              refine V_aloadr_n X dX0_addParts_76 1 rfl ?_
              obtain ⟨fs, x12, hh, hv, w⟩ := w
              refine V_get3 X frX0_31 dX0_addParts_77 hh hv ?_
              obtain ⟨N9, g9, hh, hi, w⟩ := w
              refine V_iald X dX0_addParts_80 hh hi ?_
              generalize g9 _ = x13 at w ⊢
              refine V_istore X dX0_addParts_81 (by decide) rfl ?_
              refine V_iconst (y := 0) X dX0_addParts_83 (by decide) ?_
              refine V_istore X dX0_addParts_84 (by decide) rfl ?_
              obtain ⟨n9, w⟩ := w
              exact V.sub [2, 3, 4, 5, 6, 1, 0] rfl (tX0_addParts_r4_b86 X  n9 _ _ _ _ _ _ _ _ w)
            · replace w := w2 z
              clear w1 w2
              exact V.sub [] rfl (tX0_addParts_r4_b74 X  w)
      · replace w := w2 a3 z
        clear w1 w2
        subst z
        refine V_aloadr_n X dX0_addParts_18 1 rfl ?_
        obtain ⟨fs, r14, hh, hv, w⟩ := w
        refine V_get3 X frX0_19 dX0_addParts_19 hh hv ?_
        obtain ⟨a15, rfl, w⟩ := w
        obtain ⟨fs, x16, hh, hv, w⟩ := w
        refine V_get3 X frX0_25 dX0_addParts_22 hh hv ?_
        refine V_istore X dX0_addParts_25 (by decide) rfl ?_
        refine V_iload X dX0_addParts_27 0 rfl ?_
        obtain ⟨w1, w2⟩ := w
        refine V_if_lt (tgt := 47) X dX0_addParts_29 (by decide) (fun z => ?_) (fun z => ?_)
        · replace w := w1 z
          clear w1 w2
          exact V.sub [] rfl (tX0_addParts_r4_b47 X  w)
        · replace w := w2 z
          clear w1 w2
          refine V_iload X dX0_addParts_32 0 rfl ?_
          refine V_aload_n X dX0_addParts_34 1 rfl ?_
          obtain ⟨a17, rfl, w⟩ := w
          obtain ⟨kt9, x9, hh, hk9, w⟩ := w
          refine V_alen X dX0_addParts_35 hh hk9 ?_
          generalize Int32.ofNat _ = x18 at w ⊢
          obtain ⟨w1, w2⟩ := w
          refine V_icmp_ge (tgt := 47) X dX0_addParts_36 (by decide) (fun z => ?_) (fun z => ?_)
          · replace w := w1 z
            clear w1 w2
            exact V.sub [] rfl (tX0_addParts_r4_b47 X  w)
          · replace w := w2 z
            clear w1 w2
            refine V_aloadr_n X dX0_addParts_39 1 rfl ?_
            refine V_iload X dX0_addParts_40 0 rfl ?_
            refine V_dup2 X dX0_addParts_42 rfl rfl ?_
            obtain ⟨N9, g9, hh, hi, w⟩ := w
            refine V_iald X dX0_addParts_43 hh hi ?_
            generalize g9 _ = x19 at w ⊢
            refine V_iload_n X dX0_addParts_44 3 rfl ?_
            refine V_iadd X dX0_addParts_45 ?_
            obtain ⟨N9, g9, hh, hi, w⟩ := w
            refine V_iast X dX0_addParts_46 hh hi ?_
            generalize va_up _ _ _ = h20 at w ⊢
            exact V.sub [] rfl (tX0_addParts_r4_b47 X  w)
    · replace w := w2 z
      clear w1 w2
      exact V.sub [] rfl (tX0_addParts_r4_b10 X  w)
theorem cX0_addParts_r4_ok {l : Launch} {G : gG} {h : gH} (hls : l.stackTraces = false) {Qn : gH → Prop} {v0 : Option Nat} {v1 : Option Nat} {v2 : Int32} {v3 : Option Nat} {v4 : Int32} (w : vX0_addParts_r4 G.2.2.1 Qn h v0 v1 v2 v3 v4) : gMv l yX0_addParts cX0_addParts 10 none rmX0_addParts_r4 rmX0_addParts_r4.cells rmX0_addParts_r4.slots G h [va_rf v0, va_rf v1, .int v2, va_rf v3, .int v4] Qn := by
  cases v0 <;>
  cases v1 <;>
  cases v3 <;>
  exact gMv.of (by decide +kernel) hls (Nat.le_of_ble_eq_true rfl) rfl rfl (fun p e s m below meth c A X hnm => tX0_addParts_r4 X w)
/-! AnimationController$Blend.addParts([ILAnimationController$Node;I[II)V -/
abbrev rmX0_addParts_r5 : Room := { frames := 7, cells := 0, slots := 0, locals := 180 }
def vX0_addParts_r5_b10 (t0 : Nat)  (Qn : gH → Prop) (h : gH)  : Prop := Qn h
set_option maxRecDepth 100000 in
set_option maxHeartbeats 4000000 in
theorem tX0_addParts_r5_b10 {p : Program} {l : Launch} {e : Env} {s : State} {m : MethodId} {args : Array Value} {below : List Frame} {meth : Method} {c : Code} {G : gG} {A : Nat → Prop} {Qn : gH → Prop} (X : gC p l s m args meth c G A cX0_addParts 10 none RX0)   {h : gH}  (w : vX0_addParts_r5_b10 G.2.2.1  Qn h ) : V p l e rmX0_addParts_r5 s m args below meth c (MQ below (va_Qv Qn (gB G A) A) args s rmX0_addParts_r5.cells rmX0_addParts_r5.slots A) G A 10 h 0 0 10 [] [] := by
  exact V_vret X rfl dX0_addParts_10 (Nat.le_of_ble_eq_true rfl) (Nat.le_of_ble_eq_true rfl) w
def vX0_addParts_r5_b74 (t0 : Nat)  (Qn : gH → Prop) (h : gH)  : Prop := Qn h
set_option maxRecDepth 100000 in
set_option maxHeartbeats 4000000 in
theorem tX0_addParts_r5_b74 {p : Program} {l : Launch} {e : Env} {s : State} {m : MethodId} {args : Array Value} {below : List Frame} {meth : Method} {c : Code} {G : gG} {A : Nat → Prop} {Qn : gH → Prop} (X : gC p l s m args meth c G A cX0_addParts 10 none RX0)   {h : gH}  (w : vX0_addParts_r5_b74 G.2.2.1  Qn h ) : V p l e rmX0_addParts_r5 s m args below meth c (MQ below (va_Qv Qn (gB G A) A) args s rmX0_addParts_r5.cells rmX0_addParts_r5.slots A) G A 10 h 0 0 74 [] [] := by
  exact V_vret X rfl dX0_addParts_74 (Nat.le_of_ble_eq_true rfl) (Nat.le_of_ble_eq_true rfl) w
def vX0_addParts_r5_b187 (t0 : Nat)  (Qn : gH → Prop) (h : gH) (v0 : Option Nat) (v1 : Option Nat) (v2 : Int32) (v3 : Option Nat) (v4 : Int32) (v6 : Int32) (v7 : Int32) (v9 : Int32) : Prop := nn v1 (fun a1 => gr h a1 8 2 (fun r2 => nn r2 (fun a3 => io h a3 2 (vJx4a65c_get_915e3 t0 (fun r5 h4 => nn r5 (fun a6 => io h4 a6 8 (vX0_addParts_r4 t0 (fun h7 => gr h7 a1 8 2 (fun r8 => nn r8 (fun a9 => io h7 a9 2 (vJx4a65c_get_915e3 t0 (fun r11 h10 => nn r11 (fun a12 => io h10 a12 8 (vX0_addParts_r4 t0 (fun h13 => Qn h13) h10 v0 (some a12) (v2 - v9) v3 (v4 + 1)))) h7 a9 v7)))) h4 v0 (some a6) v9 v3 (v4 + 1)))) h a3 v6))))
set_option maxRecDepth 100000 in
set_option maxHeartbeats 4000000 in
theorem tX0_addParts_r5_b187 {p : Program} {l : Launch} {e : Env} {s : State} {m : MethodId} {args : Array Value} {below : List Frame} {meth : Method} {c : Code} {G : gG} {A : Nat → Prop} {Qn : gH → Prop} (X : gC p l s m args meth c G A cX0_addParts 10 none RX0)   {h : gH} {v0 : Option Nat} {v1 : Option Nat} {v2 : Int32} {v3 : Option Nat} {v4 : Int32} {v6 : Int32} {v7 : Int32} {v9 : Int32} (w : vX0_addParts_r5_b187 G.2.2.1  Qn h v0 v1 v2 v3 v4 v6 v7 v9) : V p l e rmX0_addParts_r5 s m args below meth c (MQ below (va_Qv Qn (gB G A) A) args s rmX0_addParts_r5.cells rmX0_addParts_r5.slots A) G A 10 h 0 0 187 [(0, va_rf v0), (1, va_rf v1), (2, .int v2), (3, va_rf v3), (4, .int v4), (6, .int v6), (7, .int v7), (9, .int v9)] [] := by
  refine V_aload_n X dX0_addParts_187 0 rfl ?_
  refine V_aload_n X dX0_addParts_188 1 rfl ?_
  obtain ⟨a1, rfl, w⟩ := w
  obtain ⟨fs, r2, hh, hv, w⟩ := w
  refine V_get3 X frX0_34 dX0_addParts_189 hh hv ?_
  refine V_iload X dX0_addParts_192 5 rfl ?_
  obtain ⟨a3, rfl, w⟩ := w
  obtain ⟨fs, hh, w⟩ := w
  refine V_callVq (As := [.int v6]) (rest := [va_rf v0]) (k1 := 0) (n1 := 0) X (cJx4a65c_get_915e3_ok X.2.2.2.2.2.2.2.2.1 w) lkX0_52 hh (q9 := (RJx4a65c, TJx4a65c, 3)) rfl rfl dX0_addParts_194 ⟨Nat.le_of_ble_eq_true rfl, Nat.le_of_ble_eq_true rfl⟩ rfl (va_len _ 4 (Nat.le_of_ble_eq_true rfl)) ⟨Nat.le_of_ble_eq_true rfl, Nat.le_of_ble_eq_true rfl⟩ (Nat.le_of_ble_eq_true rfl) (Nat.le_of_ble_eq_true rfl) (fun r5 h4 w9 => ?_)
  replace w := w9
  clear w9
  obtain ⟨a6, rfl, w⟩ := w
  obtain ⟨fs, hh, w⟩ := w
  refine V_cast (q9 := (RX5, TX5, 5)) X kw_673 rfl rfl hh dX0_addParts_197 ?_
  refine V_iload X dX0_addParts_200 7 rfl ?_
  refine V_aload_n X dX0_addParts_202 3 rfl ?_
  refine V_iload X dX0_addParts_203 4 rfl ?_
  refine V_iconst (y := 1) X dX0_addParts_205 (by decide) ?_
  refine V_iadd X dX0_addParts_206 ?_
  refine V_callSv (As := [va_rf v0, .ref a6, .int v9, va_rf v3, .int (v4 + 1)]) (rest := []) (k1 := 0) (n1 := 0) X (cX0_addParts_r4_ok X.2.2.2.2.2.2.2.2.1 w) lkX0_15 dX0_addParts_207 ⟨Nat.le_of_ble_eq_true rfl, Nat.le_of_ble_eq_true rfl⟩ rfl (Nat.le_of_ble_eq_true rfl) ⟨Nat.le_of_ble_eq_true rfl, Nat.le_of_ble_eq_true rfl⟩ (Nat.le_of_ble_eq_true rfl) (Nat.le_of_ble_eq_true rfl) (fun h7 w9 => ?_)
  replace w := w9
  clear w9
  refine V_aload_n X dX0_addParts_210 0 rfl ?_
  refine V_aloadr_n X dX0_addParts_211 1 rfl ?_
  obtain ⟨fs, r8, hh, hv, w⟩ := w
  refine V_get3 X frX0_34 dX0_addParts_212 hh hv ?_
  refine V_iload X dX0_addParts_215 6 rfl ?_
  obtain ⟨a9, rfl, w⟩ := w
  obtain ⟨fs, hh, w⟩ := w
  refine V_callVq (As := [.int v7]) (rest := [va_rf v0]) (k1 := 0) (n1 := 0) X (cJx4a65c_get_915e3_ok X.2.2.2.2.2.2.2.2.1 w) lkX0_52 hh (q9 := (RJx4a65c, TJx4a65c, 3)) rfl rfl dX0_addParts_217 ⟨Nat.le_of_ble_eq_true rfl, Nat.le_of_ble_eq_true rfl⟩ rfl (va_len _ 4 (Nat.le_of_ble_eq_true rfl)) ⟨Nat.le_of_ble_eq_true rfl, Nat.le_of_ble_eq_true rfl⟩ (Nat.le_of_ble_eq_true rfl) (Nat.le_of_ble_eq_true rfl) (fun r11 h10 w9 => ?_)
  replace w := w9
  clear w9
  obtain ⟨a12, rfl, w⟩ := w
  obtain ⟨fs, hh, w⟩ := w
  refine V_cast (q9 := (RX5, TX5, 5)) X kw_673 rfl rfl hh dX0_addParts_220 ?_
  refine V_iload_n X dX0_addParts_223 2 rfl ?_
  refine V_iload X dX0_addParts_224 7 rfl ?_
  refine V_isub X dX0_addParts_226 ?_
  refine V_aload_n X dX0_addParts_227 3 rfl ?_
  refine V_iload X dX0_addParts_228 4 rfl ?_
  refine V_iconst (y := 1) X dX0_addParts_230 (by decide) ?_
  refine V_iadd X dX0_addParts_231 ?_
  refine V_callSv (As := [va_rf v0, .ref a12, .int (v2 - v9), va_rf v3, .int (v4 + 1)]) (rest := []) (k1 := 0) (n1 := 0) X (cX0_addParts_r4_ok X.2.2.2.2.2.2.2.2.1 w) lkX0_15 dX0_addParts_232 ⟨Nat.le_of_ble_eq_true rfl, Nat.le_of_ble_eq_true rfl⟩ rfl (Nat.le_of_ble_eq_true rfl) ⟨Nat.le_of_ble_eq_true rfl, Nat.le_of_ble_eq_true rfl⟩ (Nat.le_of_ble_eq_true rfl) (Nat.le_of_ble_eq_true rfl) (fun h13 w9 => ?_)
  replace w := w9
  clear w9
  exact V_vret X rfl dX0_addParts_235 (Nat.le_of_ble_eq_true rfl) (Nat.le_of_ble_eq_true rfl) w
def vX0_addParts_r5_b142 (t0 : Nat)  (Qn : gH → Prop) (h : gH) (v0 : Option Nat) (v1 : Option Nat) (v2 : Int32) (v3 : Option Nat) (v4 : Int32) (v5 : Int32) (v6 : Int32) (s0 : Int32) : Prop := nn v1 (fun a1 => io h a1 8 (vX5_positionOf t0 (fun x3 h2 => io h2 a1 8 (vX5_positionOf t0 (fun x5 h4 => ((((x3 - x5) : Int32) ≤ 0) → (vX0_addParts_r5_b187 t0  Qn h4 v0 (some a1) v2 v3 v4 v6 s0 0)) ∧ ((¬ ((x3 - x5) : Int32) ≤ 0) → (io h4 a1 8 (vX5_positionOf t0 (fun x7 h6 => ¬ ((Int32.toInt64 (x3 - x5)) : Int64) = 0 ∧ (vX0_addParts_r5_b187 t0  Qn h6 v0 (some a1) v2 v3 v4 v6 s0 (Int64.toInt32 (((Int32.toInt64 v2) * (Int32.toInt64 (v5 - x7))) / (Int32.toInt64 (x3 - x5)))))) h4 a1 s0)))) h2 a1 s0)) h a1 v6))
set_option maxRecDepth 100000 in
set_option maxHeartbeats 4000000 in
theorem tX0_addParts_r5_b142 {p : Program} {l : Launch} {e : Env} {s : State} {m : MethodId} {args : Array Value} {below : List Frame} {meth : Method} {c : Code} {G : gG} {A : Nat → Prop} {Qn : gH → Prop} (X : gC p l s m args meth c G A cX0_addParts 10 none RX0)   {h : gH} {v0 : Option Nat} {v1 : Option Nat} {v2 : Int32} {v3 : Option Nat} {v4 : Int32} {v5 : Int32} {v6 : Int32} {s0 : Int32} (w : vX0_addParts_r5_b142 G.2.2.1  Qn h v0 v1 v2 v3 v4 v5 v6 s0) : V p l e rmX0_addParts_r5 s m args below meth c (MQ below (va_Qv Qn (gB G A) A) args s rmX0_addParts_r5.cells rmX0_addParts_r5.slots A) G A 10 h 0 0 142 [(0, va_rf v0), (1, va_rf v1), (2, .int v2), (3, va_rf v3), (4, .int v4), (5, .int v5), (6, .int v6)] [.int s0] := by
  refine V_istore X dX0_addParts_142 (by decide) rfl ?_
  refine V_aload_n X dX0_addParts_144 2 rfl ?_
  refine V_iload X dX0_addParts_145 7 rfl ?_
  obtain ⟨a1, rfl, w⟩ := w
  obtain ⟨fs, hh, w⟩ := w
  refine V_callVi (As := [.int v6]) (rest := []) (k1 := 0) (n1 := 0) X (cX5_positionOf_ok X.2.2.2.2.2.2.2.2.1 w) lkX0_48 hh (q9 := (RX5, TX5, 5)) rfl rfl dX0_addParts_147 ⟨Nat.le_of_ble_eq_true rfl, Nat.le_of_ble_eq_true rfl⟩ rfl (Nat.le_of_ble_eq_true rfl) ⟨Nat.le_of_ble_eq_true rfl, Nat.le_of_ble_eq_true rfl⟩ (Nat.le_of_ble_eq_true rfl) (Nat.le_of_ble_eq_true rfl) (fun x3 h2 w9 => ?_)
  replace w := w9
  clear w9
  refine V_aloadr_n X dX0_addParts_150 2 rfl ?_
  refine V_iload X dX0_addParts_151 0 rfl ?_
  obtain ⟨fs, hh, w⟩ := w
  refine V_callVi (As := [.int s0]) (rest := [.int x3]) (k1 := 0) (n1 := 0) X (cX5_positionOf_ok X.2.2.2.2.2.2.2.2.1 w) lkX0_48 hh (q9 := (RX5, TX5, 5)) rfl rfl dX0_addParts_153 ⟨Nat.le_of_ble_eq_true rfl, Nat.le_of_ble_eq_true rfl⟩ rfl (Nat.le_of_ble_eq_true rfl) ⟨Nat.le_of_ble_eq_true rfl, Nat.le_of_ble_eq_true rfl⟩ (Nat.le_of_ble_eq_true rfl) (Nat.le_of_ble_eq_true rfl) (fun x5 h4 w9 => ?_)
  replace w := w9
  clear w9
  refine V_isub X dX0_addParts_156 ?_
  refine V_istore X dX0_addParts_157 (by decide) rfl ?_
  refine V_iconst (y := 0) X dX0_addParts_159 (by decide) ?_
  refine V_istore X dX0_addParts_160 (by decide) rfl ?_
  refine V_iload X dX0_addParts_162 1 rfl ?_
  obtain ⟨w1, w2⟩ := w
  refine V_if_le (tgt := 187) X dX0_addParts_164 (by decide) (fun z => ?_) (fun z => ?_)
  · replace w := w1 z
    clear w1 w2
    exact V.sub [3, 4, 5, 6, 7, 9, 2, 0] rfl (tX0_addParts_r5_b187 X  w)
  · replace w := w2 z
    clear w1 w2
    refine V_iload_n X dX0_addParts_167 5 rfl ?_
    refine V_i2l X dX0_addParts_168 ?_
    refine V_iload X dX0_addParts_169 8 rfl ?_
    refine V_aloadr_n X dX0_addParts_171 4 rfl ?_
    refine V_iload X dX0_addParts_172 2 rfl ?_
    obtain ⟨fs, hh, w⟩ := w
    refine V_callVi (As := [.int s0]) (rest := [.int v5, .long (Int32.toInt64 v2)]) (k1 := 0) (n1 := 0) X (cX5_positionOf_ok X.2.2.2.2.2.2.2.2.1 w) lkX0_48 hh (q9 := (RX5, TX5, 5)) rfl rfl dX0_addParts_174 ⟨Nat.le_of_ble_eq_true rfl, Nat.le_of_ble_eq_true rfl⟩ rfl (Nat.le_of_ble_eq_true rfl) ⟨Nat.le_of_ble_eq_true rfl, Nat.le_of_ble_eq_true rfl⟩ (Nat.le_of_ble_eq_true rfl) (Nat.le_of_ble_eq_true rfl) (fun x7 h6 w9 => ?_)
    replace w := w9
    clear w9
    refine V_isub X dX0_addParts_177 ?_
    refine V_i2l X dX0_addParts_178 ?_
    refine V_lmul X dX0_addParts_179 ?_
    refine V_iload X dX0_addParts_180 1 rfl ?_
    refine V_i2l X dX0_addParts_182 ?_
    obtain ⟨z0, w⟩ := w
    refine V_ldiv X dX0_addParts_183 z0 ?_
    refine V_l2i X dX0_addParts_184 ?_
    refine V_istore X dX0_addParts_185 (by decide) rfl ?_
    exact V.sub [3, 4, 5, 6, 7, 9, 2, 0] rfl (tX0_addParts_r5_b187 X  w)
def vX0_addParts_r5_b140 (t0 : Nat)  (Qn : gH → Prop) (h : gH) (v0 : Option Nat) (v1 : Option Nat) (v2 : Int32) (v3 : Option Nat) (v4 : Int32) (v5 : Int32) (v6 : Int32) : Prop := vX0_addParts_r5_b142 t0  Qn h v0 v1 v2 v3 v4 v5 v6 v6
set_option maxRecDepth 100000 in
set_option maxHeartbeats 4000000 in
theorem tX0_addParts_r5_b140 {p : Program} {l : Launch} {e : Env} {s : State} {m : MethodId} {args : Array Value} {below : List Frame} {meth : Method} {c : Code} {G : gG} {A : Nat → Prop} {Qn : gH → Prop} (X : gC p l s m args meth c G A cX0_addParts 10 none RX0)   {h : gH} {v0 : Option Nat} {v1 : Option Nat} {v2 : Int32} {v3 : Option Nat} {v4 : Int32} {v5 : Int32} {v6 : Int32} (w : vX0_addParts_r5_b140 G.2.2.1  Qn h v0 v1 v2 v3 v4 v5 v6) : V p l e rmX0_addParts_r5 s m args below meth c (MQ below (va_Qv Qn (gB G A) A) args s rmX0_addParts_r5.cells rmX0_addParts_r5.slots A) G A 10 h 0 0 140 [(0, va_rf v0), (1, va_rf v1), (2, .int v2), (3, va_rf v3), (4, .int v4), (5, .int v5), (6, .int v6)] [] := by
  refine V_iload X dX0_addParts_140 6 rfl ?_
  exact V.sub [0, 1, 2, 3, 4, 5, 6] rfl (tX0_addParts_r5_b142 X  w)
def vX0_addParts_r5_b117 (t0 : Nat)  (Qn : gH → Prop) (h : gH) (v0 : Option Nat) (v1 : Option Nat) (v2 : Int32) (v3 : Option Nat) (v4 : Int32) (v5 : Int32) (v6 : Int32) : Prop := (((v6 : Int32) ≤ 0) → (vX0_addParts_r5_b140 t0  Qn h v0 v1 v2 v3 v4 v5 v6)) ∧ ((¬ (v6 : Int32) ≤ 0) → (nn v1 (fun a1 => io h a1 8 (vX5_positionOf t0 (fun x3 h2 => (((x3 : Int32) ≤ v5) → (vX0_addParts_r5_b140 t0  Qn h2 v0 (some a1) v2 v3 v4 v5 v6)) ∧ ((¬ (x3 : Int32) ≤ v5) → (vX0_addParts_r5_b142 t0  Qn h2 v0 (some a1) v2 v3 v4 v5 v6 (v6 - 1)))) h a1 v6))))
set_option maxRecDepth 100000 in
set_option maxHeartbeats 4000000 in
theorem tX0_addParts_r5_b117 {p : Program} {l : Launch} {e : Env} {s : State} {m : MethodId} {args : Array Value} {below : List Frame} {meth : Method} {c : Code} {G : gG} {A : Nat → Prop} {Qn : gH → Prop} (X : gC p l s m args meth c G A cX0_addParts 10 none RX0)   {h : gH} {v0 : Option Nat} {v1 : Option Nat} {v2 : Int32} {v3 : Option Nat} {v4 : Int32} {v5 : Int32} {v6 : Int32} (w : vX0_addParts_r5_b117 G.2.2.1  Qn h v0 v1 v2 v3 v4 v5 v6) : V p l e rmX0_addParts_r5 s m args below meth c (MQ below (va_Qv Qn (gB G A) A) args s rmX0_addParts_r5.cells rmX0_addParts_r5.slots A) G A 10 h 0 0 117 [(0, va_rf v0), (1, va_rf v1), (2, .int v2), (3, va_rf v3), (4, .int v4), (5, .int v5), (6, .int v6)] [] := by
  refine V_iload X dX0_addParts_117 6 rfl ?_
  obtain ⟨w1, w2⟩ := w
  refine V_if_le (tgt := 140) X dX0_addParts_119 (by decide) (fun z => ?_) (fun z => ?_)
  · replace w := w1 z
    clear w1 w2
    exact V.sub [0, 1, 2, 3, 4, 5, 6] rfl (tX0_addParts_r5_b140 X  w)
  · replace w := w2 z
    clear w1 w2
    refine V_aload_n X dX0_addParts_122 1 rfl ?_
    refine V_iload X dX0_addParts_123 6 rfl ?_
    obtain ⟨a1, rfl, w⟩ := w
    obtain ⟨fs, hh, w⟩ := w
    refine V_callVi (As := [.int v6]) (rest := []) (k1 := 0) (n1 := 0) X (cX5_positionOf_ok X.2.2.2.2.2.2.2.2.1 w) lkX0_48 hh (q9 := (RX5, TX5, 5)) rfl rfl dX0_addParts_125 ⟨Nat.le_of_ble_eq_true rfl, Nat.le_of_ble_eq_true rfl⟩ rfl (Nat.le_of_ble_eq_true rfl) ⟨Nat.le_of_ble_eq_true rfl, Nat.le_of_ble_eq_true rfl⟩ (Nat.le_of_ble_eq_true rfl) (Nat.le_of_ble_eq_true rfl) (fun x3 h2 w9 => ?_)
    replace w := w9
    clear w9
    refine V_iload X dX0_addParts_128 5 rfl ?_
    obtain ⟨w1, w2⟩ := w
    refine V_icmp_le (tgt := 140) X dX0_addParts_130 (by decide) (fun z => ?_) (fun z => ?_)
    · replace w := w1 z
      clear w1 w2
      exact V.sub [0, 1, 2, 3, 4, 5, 6] rfl (tX0_addParts_r5_b140 X  w)
    · replace w := w2 z
      clear w1 w2
      refine V_iload X dX0_addParts_133 6 rfl ?_
      refine V_iconst (y := 1) X dX0_addParts_135 (by decide) ?_
      refine V_isub X dX0_addParts_136 ?_
      refine V_goto (tgt := 142) X dX0_addParts_137 (by decide) ?_
      exact V.sub [0, 1, 2, 3, 4, 5, 6] rfl (tX0_addParts_r5_b142 X  w)
def vX0_addParts_r5_b86_o (t0 : Nat) (k86 : gH → Option Nat → Option Nat → Int32 → Option Nat → Int32 → Int32 → Int32 → Prop) (Qn : gH → Prop) (h : gH) (v0 : Option Nat) (v1 : Option Nat) (v2 : Int32) (v3 : Option Nat) (v4 : Int32) (v5 : Int32) (v6 : Int32) : Prop := nn v1 (fun a1 => gr h a1 8 2 (fun r2 => nn r2 (fun a3 => io h a3 2 (vJx4a65c_size_8abf5 t0 (fun x5 h4 => (((x5 - 1) ≤ (v6 : Int32)) → (vX0_addParts_r5_b117 t0  Qn h4 v0 (some a1) v2 v3 v4 v5 v6)) ∧ ((¬ (x5 - 1) ≤ (v6 : Int32)) → (io h4 a1 8 (vX5_positionOf t0 (fun x7 h6 => ((v5 ≤ (x7 : Int32)) → (vX0_addParts_r5_b117 t0  Qn h6 v0 (some a1) v2 v3 v4 v5 v6)) ∧ ((¬ v5 ≤ (x7 : Int32)) → (k86 h6 v0 (some a1) v2 v3 v4 v5 (v6 + 1)))) h4 a1 v6)))) h a3 ))))
set_option maxRecDepth 100000 in
set_option maxHeartbeats 4000000 in
theorem tX0_addParts_r5_b86_o {p : Program} {l : Launch} {e : Env} {s : State} {m : MethodId} {args : Array Value} {below : List Frame} {meth : Method} {c : Code} {G : gG} {A : Nat → Prop} {Qn : gH → Prop} (X : gC p l s m args meth c G A cX0_addParts 10 none RX0) {k86 : gH → Option Nat → Option Nat → Int32 → Option Nat → Int32 → Int32 → Int32 → Prop} (H86 : ∀ (h : gH) (v0 : Option Nat) (v1 : Option Nat) (v2 : Int32) (v3 : Option Nat) (v4 : Int32) (v5 : Int32) (v6 : Int32), k86 h v0 v1 v2 v3 v4 v5 v6 → V p l e rmX0_addParts_r5 s m args below meth c (MQ below (va_Qv Qn (gB G A) A) args s rmX0_addParts_r5.cells rmX0_addParts_r5.slots A) G A 10 h 0 0 86 [(0, va_rf v0), (1, va_rf v1), (2, .int v2), (3, va_rf v3), (4, .int v4), (5, .int v5), (6, .int v6)] []) {h : gH} {v0 : Option Nat} {v1 : Option Nat} {v2 : Int32} {v3 : Option Nat} {v4 : Int32} {v5 : Int32} {v6 : Int32} (w : vX0_addParts_r5_b86_o G.2.2.1 k86 Qn h v0 v1 v2 v3 v4 v5 v6) : V p l e rmX0_addParts_r5 s m args below meth c (MQ below (va_Qv Qn (gB G A) A) args s rmX0_addParts_r5.cells rmX0_addParts_r5.slots A) G A 10 h 0 0 86 [(0, va_rf v0), (1, va_rf v1), (2, .int v2), (3, va_rf v3), (4, .int v4), (5, .int v5), (6, .int v6)] [] := by
  refine V_iload X dX0_addParts_86 6 rfl ?_
  refine V_aload_n X dX0_addParts_88 1 rfl ?_
  obtain ⟨a1, rfl, w⟩ := w
  obtain ⟨fs, r2, hh, hv, w⟩ := w
  refine V_get3 X frX0_34 dX0_addParts_89 hh hv ?_
  obtain ⟨a3, rfl, w⟩ := w
  obtain ⟨fs, hh, w⟩ := w
  refine V_callVi (As := []) (rest := [.int v6]) (k1 := 0) (n1 := 0) X (cJx4a65c_size_8abf5_ok X.2.2.2.2.2.2.2.2.1 w) lkX0_44 hh (q9 := (RJx4a65c, TJx4a65c, 3)) rfl rfl dX0_addParts_92 ⟨Nat.le_of_ble_eq_true rfl, Nat.le_of_ble_eq_true rfl⟩ rfl (Nat.le_of_ble_eq_true rfl) ⟨Nat.le_of_ble_eq_true rfl, Nat.le_of_ble_eq_true rfl⟩ (Nat.le_of_ble_eq_true rfl) (Nat.le_of_ble_eq_true rfl) (fun x5 h4 w9 => ?_)
  replace w := w9
  clear w9
  refine V_iconst (y := 1) X dX0_addParts_95 (by decide) ?_
  refine V_isub X dX0_addParts_96 ?_
  obtain ⟨w1, w2⟩ := w
  refine V_icmp_ge (tgt := 117) X dX0_addParts_97 (by decide) (fun z => ?_) (fun z => ?_)
  · replace w := w1 z
    clear w1 w2
    exact V.sub [0, 1, 2, 3, 4, 5, 6] rfl (tX0_addParts_r5_b117 X  w)
  · replace w := w2 z
    clear w1 w2
    refine V_aloadr_n X dX0_addParts_100 1 rfl ?_
    refine V_iload X dX0_addParts_101 6 rfl ?_
    obtain ⟨fs, hh, w⟩ := w
    refine V_callVi (As := [.int v6]) (rest := []) (k1 := 0) (n1 := 0) X (cX5_positionOf_ok X.2.2.2.2.2.2.2.2.1 w) lkX0_48 hh (q9 := (RX5, TX5, 5)) rfl rfl dX0_addParts_103 ⟨Nat.le_of_ble_eq_true rfl, Nat.le_of_ble_eq_true rfl⟩ rfl (Nat.le_of_ble_eq_true rfl) ⟨Nat.le_of_ble_eq_true rfl, Nat.le_of_ble_eq_true rfl⟩ (Nat.le_of_ble_eq_true rfl) (Nat.le_of_ble_eq_true rfl) (fun x7 h6 w9 => ?_)
    replace w := w9
    clear w9
    refine V_iload X dX0_addParts_106 5 rfl ?_
    obtain ⟨w1, w2⟩ := w
    refine V_icmp_ge (tgt := 117) X dX0_addParts_108 (by decide) (fun z => ?_) (fun z => ?_)
    · replace w := w1 z
      clear w1 w2
      exact V.sub [0, 1, 2, 3, 4, 5, 6] rfl (tX0_addParts_r5_b117 X  w)
    · replace w := w2 z
      clear w1 w2
      refine V_iinc (y := (v6 + 1)) X dX0_addParts_111 6 rfl (by first | rfl | (congr 1)) (by decide) rfl ?_
      refine V_goto (tgt := 86) X dX0_addParts_114 (by decide) ?_
      exact V.sub [1, 2, 3, 4, 5, 6, 0] rfl (H86 _ _ _ _ _ _ _ _ w)
def vX0_addParts_r5_b86 (t0 : Nat)  (Qn : gH → Prop) (n : Nat) : gH → Option Nat → Option Nat → Int32 → Option Nat → Int32 → Int32 → Int32 → Prop := Nat.rec (motive := fun _ => gH → Option Nat → Option Nat → Int32 → Option Nat → Int32 → Int32 → Int32 → Prop) (fun _ _ _ _ _ _ _ _ => False) (fun _ k86 => vX0_addParts_r5_b86_o t0 k86 Qn) n
theorem tX0_addParts_r5_b86 {p : Program} {l : Launch} {e : Env} {s : State} {m : MethodId} {args : Array Value} {below : List Frame} {meth : Method} {c : Code} {G : gG} {A : Nat → Prop} {Qn : gH → Prop} (X : gC p l s m args meth c G A cX0_addParts 10 none RX0)   : ∀ (n : Nat) (h : gH) (v0 : Option Nat) (v1 : Option Nat) (v2 : Int32) (v3 : Option Nat) (v4 : Int32) (v5 : Int32) (v6 : Int32) (w : vX0_addParts_r5_b86 G.2.2.1  Qn n h v0 v1 v2 v3 v4 v5 v6), V p l e rmX0_addParts_r5 s m args below meth c (MQ below (va_Qv Qn (gB G A) A) args s rmX0_addParts_r5.cells rmX0_addParts_r5.slots A) G A 10 h 0 0 86 [(0, va_rf v0), (1, va_rf v1), (2, .int v2), (3, va_rf v3), (4, .int v4), (5, .int v5), (6, .int v6)] [] := by
  intro n
  induction n with
  | zero => intro h v0 v1 v2 v3 v4 v5 v6 w; exact False.elim w
  | succ n ih => intro h v0 v1 v2 v3 v4 v5 v6 w; exact tX0_addParts_r5_b86_o X ih w
def vX0_addParts_r5_b47 (t0 : Nat)  (Qn : gH → Prop) (h : gH)  : Prop := Qn h
set_option maxRecDepth 100000 in
set_option maxHeartbeats 4000000 in
theorem tX0_addParts_r5_b47 {p : Program} {l : Launch} {e : Env} {s : State} {m : MethodId} {args : Array Value} {below : List Frame} {meth : Method} {c : Code} {G : gG} {A : Nat → Prop} {Qn : gH → Prop} (X : gC p l s m args meth c G A cX0_addParts 10 none RX0)   {h : gH}  (w : vX0_addParts_r5_b47 G.2.2.1  Qn h ) : V p l e rmX0_addParts_r5 s m args below meth c (MQ below (va_Qv Qn (gB G A) A) args s rmX0_addParts_r5.cells rmX0_addParts_r5.slots A) G A 10 h 0 0 47 [] [] := by
  exact V_vret X rfl dX0_addParts_47 (Nat.le_of_ble_eq_true rfl) (Nat.le_of_ble_eq_true rfl) w
def vX0_addParts_r5 (t0 : Nat)  (Qn : gH → Prop) (h : gH) (v0 : Option Nat) (v1 : Option Nat) (v2 : Int32) (v3 : Option Nat) (v4 : Int32) : Prop := (((v2 : Int32) = 0) → (vX0_addParts_r5_b10 t0  Qn h )) ∧ ((¬ (v2 : Int32) = 0) → ((((v4 : Int32) ≤ 4) → (nn v1 (fun a1 => gr h a1 8 0 (fun r2 => ((r2) = none → (gi h a1 8 1 (fun x4 => (((x4 : Int32) < 0) → (vX0_addParts_r5_b74 t0  Qn h )) ∧ ((¬ (x4 : Int32) < 0) → (gi h a1 8 1 (fun x5 => nn v3 (fun a6 => al h a6 (fun x7 => ((x7 ≤ (x5 : Int32)) → (vX0_addParts_r5_b74 t0  Qn h )) ∧ ((¬ x7 ≤ (x5 : Int32)) → (gr h a1 8 2 (fun r8 => nn r8 (fun a9 => io h a9 2 (vJx4a65c_isEmpty_aae02 t0 (fun x11 h10 => (((x11 : Int32) = 0) → (gi h10 a1 8 1 (fun x12 => li h10 a6 x12 (fun x13 => ∃ n : Nat, vX0_addParts_r5_b86 t0  Qn n h10 v0 (some a1) v2 (some a6) v4 x13 0)))) ∧ ((¬ (x11 : Int32) = 0) → (vX0_addParts_r5_b74 t0  Qn h10 ))) h a9 ))))))))))))) ∧ (∀ a3 : Nat, (r2) = some a3 → (gr h a1 8 0 (fun r14 => nn r14 (fun a15 => gi h a15 4 0 (fun x16 => (((x16 : Int32) < 0) → (vX0_addParts_r5_b47 t0  Qn h )) ∧ ((¬ (x16 : Int32) < 0) → (nn v0 (fun a17 => al h a17 (fun x18 => ((x18 ≤ (x16 : Int32)) → (vX0_addParts_r5_b47 t0  Qn h )) ∧ ((¬ x18 ≤ (x16 : Int32)) → (li h a17 x16 (fun x19 => si h a17 x16 (x19 + v2) (fun h20 => vX0_addParts_r5_b47 t0  Qn h20 ))))))))))))))))) ∧ ((¬ (v4 : Int32) ≤ 4) → (vX0_addParts_r5_b10 t0  Qn h ))))
set_option maxRecDepth 100000 in
set_option maxHeartbeats 4000000 in
theorem tX0_addParts_r5 {p : Program} {l : Launch} {e : Env} {s : State} {m : MethodId} {args : Array Value} {below : List Frame} {meth : Method} {c : Code} {G : gG} {A : Nat → Prop} {Qn : gH → Prop} (X : gC p l s m args meth c G A cX0_addParts 10 none RX0)   {h : gH} {v0 : Option Nat} {v1 : Option Nat} {v2 : Int32} {v3 : Option Nat} {v4 : Int32} (w : vX0_addParts_r5 G.2.2.1  Qn h v0 v1 v2 v3 v4) : V p l e rmX0_addParts_r5 s m args below meth c (MQ below (va_Qv Qn (gB G A) A) args s rmX0_addParts_r5.cells rmX0_addParts_r5.slots A) G A 10 h 0 0 0 [(0, va_rf v0), (1, va_rf v1), (2, .int v2), (3, va_rf v3), (4, .int v4)] [] := by
  refine V_iload_n X dX0_addParts_0 2 rfl ?_
  obtain ⟨w1, w2⟩ := w
  refine V_if_eq (tgt := 10) X dX0_addParts_1 (by decide) (fun z => ?_) (fun z => ?_)
  · replace w := w1 z
    clear w1 w2
    exact V.sub [] rfl (tX0_addParts_r5_b10 X  w)
  · replace w := w2 z
    clear w1 w2
    refine V_iload X dX0_addParts_4 4 rfl ?_
    refine V_iconst (y := 4) X dX0_addParts_6 (by decide) ?_
    obtain ⟨w1, w2⟩ := w
    refine V_icmp_le (tgt := 11) X dX0_addParts_7 (by decide) (fun z => ?_) (fun z => ?_)
    · replace w := w1 z
      clear w1 w2
      refine V_aload_n X dX0_addParts_11 1 rfl ?_
      obtain ⟨a1, rfl, w⟩ := w
      obtain ⟨fs, r2, hh, hv, w⟩ := w
      refine V_get3 X frX0_19 dX0_addParts_12 hh hv ?_
      obtain ⟨w1, w2⟩ := w
      refine V_ifnull (tgt := 48) X dX0_addParts_15 (by decide) (fun z => ?_) (fun a3 z => ?_)
      · replace w := w1 z
        clear w1 w2
        subst z
        refine V_aloadr_n X dX0_addParts_48 1 rfl ?_
        obtain ⟨fs, x4, hh, hv, w⟩ := w
        refine V_get3 X frX0_31 dX0_addParts_49 hh hv ?_
        obtain ⟨w1, w2⟩ := w
        refine V_if_lt (tgt := 74) X dX0_addParts_52 (by decide) (fun z => ?_) (fun z => ?_)
        · replace w := w1 z
          clear w1 w2
          exact V.sub [] rfl (tX0_addParts_r5_b74 X  w)
        · replace w := w2 z
          clear w1 w2
          refine V_aloadr_n X dX0_addParts_55 1 rfl ?_
          obtain ⟨fs, x5, hh, hv, w⟩ := w
          refine V_get3 X frX0_31 dX0_addParts_56 hh hv ?_
          refine V_aload_n X dX0_addParts_59 3 rfl ?_
          obtain ⟨a6, rfl, w⟩ := w
          obtain ⟨kt9, x9, hh, hk9, w⟩ := w
          refine V_alen X dX0_addParts_60 hh hk9 ?_
          generalize Int32.ofNat _ = x7 at w ⊢
          obtain ⟨w1, w2⟩ := w
          refine V_icmp_ge (tgt := 74) X dX0_addParts_61 (by decide) (fun z => ?_) (fun z => ?_)
          · replace w := w1 z
            clear w1 w2
            exact V.sub [] rfl (tX0_addParts_r5_b74 X  w)
          · replace w := w2 z
            clear w1 w2
            refine V_aloadr_n X dX0_addParts_64 1 rfl ?_
            obtain ⟨fs, r8, hh, hv, w⟩ := w
            refine V_get3 X frX0_34 dX0_addParts_65 hh hv ?_
            obtain ⟨a9, rfl, w⟩ := w
            obtain ⟨fs, hh, w⟩ := w
            refine V_callVi (As := []) (rest := []) (k1 := 0) (n1 := 0) X (cJx4a65c_isEmpty_aae02_ok X.2.2.2.2.2.2.2.2.1 w) lkX0_38 hh (q9 := (RJx4a65c, TJx4a65c, 3)) rfl rfl dX0_addParts_68 ⟨Nat.le_of_ble_eq_true rfl, Nat.le_of_ble_eq_true rfl⟩ rfl (Nat.le_of_ble_eq_true rfl) ⟨Nat.le_of_ble_eq_true rfl, Nat.le_of_ble_eq_true rfl⟩ (Nat.le_of_ble_eq_true rfl) (Nat.le_of_ble_eq_true rfl) (fun x11 h10 w9 => ?_)
            replace w := w9
            clear w9
            obtain ⟨w1, w2⟩ := w
            refine V_if_eq (tgt := 75) X dX0_addParts_71 (by decide) (fun z => ?_) (fun z => ?_)
            · replace w := w1 z
              clear w1 w2
              refine V_aloadr_n X dX0_addParts_75 3 rfl ?_
              refine V_aloadr_n X dX0_addParts_76 1 rfl ?_
              obtain ⟨fs, x12, hh, hv, w⟩ := w
              refine V_get3 X frX0_31 dX0_addParts_77 hh hv ?_
              obtain ⟨N9, g9, hh, hi, w⟩ := w
              refine V_iald X dX0_addParts_80 hh hi ?_
              generalize g9 _ = x13 at w ⊢
              refine V_istore X dX0_addParts_81 (by decide) rfl ?_
              refine V_iconst (y := 0) X dX0_addParts_83 (by decide) ?_
              refine V_istore X dX0_addParts_84 (by decide) rfl ?_
              obtain ⟨n9, w⟩ := w
              exact V.sub [2, 3, 4, 5, 6, 1, 0] rfl (tX0_addParts_r5_b86 X  n9 _ _ _ _ _ _ _ _ w)
            · replace w := w2 z
              clear w1 w2
              exact V.sub [] rfl (tX0_addParts_r5_b74 X  w)
      · replace w := w2 a3 z
        clear w1 w2
        subst z
        refine V_aloadr_n X dX0_addParts_18 1 rfl ?_
        obtain ⟨fs, r14, hh, hv, w⟩ := w
        refine V_get3 X frX0_19 dX0_addParts_19 hh hv ?_
        obtain ⟨a15, rfl, w⟩ := w
        obtain ⟨fs, x16, hh, hv, w⟩ := w
        refine V_get3 X frX0_25 dX0_addParts_22 hh hv ?_
        refine V_istore X dX0_addParts_25 (by decide) rfl ?_
        refine V_iload X dX0_addParts_27 0 rfl ?_
        obtain ⟨w1, w2⟩ := w
        refine V_if_lt (tgt := 47) X dX0_addParts_29 (by decide) (fun z => ?_) (fun z => ?_)
        · replace w := w1 z
          clear w1 w2
          exact V.sub [] rfl (tX0_addParts_r5_b47 X  w)
        · replace w := w2 z
          clear w1 w2
          refine V_iload X dX0_addParts_32 0 rfl ?_
          refine V_aload_n X dX0_addParts_34 1 rfl ?_
          obtain ⟨a17, rfl, w⟩ := w
          obtain ⟨kt9, x9, hh, hk9, w⟩ := w
          refine V_alen X dX0_addParts_35 hh hk9 ?_
          generalize Int32.ofNat _ = x18 at w ⊢
          obtain ⟨w1, w2⟩ := w
          refine V_icmp_ge (tgt := 47) X dX0_addParts_36 (by decide) (fun z => ?_) (fun z => ?_)
          · replace w := w1 z
            clear w1 w2
            exact V.sub [] rfl (tX0_addParts_r5_b47 X  w)
          · replace w := w2 z
            clear w1 w2
            refine V_aloadr_n X dX0_addParts_39 1 rfl ?_
            refine V_iload X dX0_addParts_40 0 rfl ?_
            refine V_dup2 X dX0_addParts_42 rfl rfl ?_
            obtain ⟨N9, g9, hh, hi, w⟩ := w
            refine V_iald X dX0_addParts_43 hh hi ?_
            generalize g9 _ = x19 at w ⊢
            refine V_iload_n X dX0_addParts_44 3 rfl ?_
            refine V_iadd X dX0_addParts_45 ?_
            obtain ⟨N9, g9, hh, hi, w⟩ := w
            refine V_iast X dX0_addParts_46 hh hi ?_
            generalize va_up _ _ _ = h20 at w ⊢
            exact V.sub [] rfl (tX0_addParts_r5_b47 X  w)
    · replace w := w2 z
      clear w1 w2
      exact V.sub [] rfl (tX0_addParts_r5_b10 X  w)
theorem cX0_addParts_r5_ok {l : Launch} {G : gG} {h : gH} (hls : l.stackTraces = false) {Qn : gH → Prop} {v0 : Option Nat} {v1 : Option Nat} {v2 : Int32} {v3 : Option Nat} {v4 : Int32} (w : vX0_addParts_r5 G.2.2.1 Qn h v0 v1 v2 v3 v4) : gMv l yX0_addParts cX0_addParts 10 none rmX0_addParts_r5 rmX0_addParts_r5.cells rmX0_addParts_r5.slots G h [va_rf v0, va_rf v1, .int v2, va_rf v3, .int v4] Qn := by
  cases v0 <;>
  cases v1 <;>
  cases v3 <;>
  exact gMv.of (by decide +kernel) hls (Nat.le_of_ble_eq_true rfl) rfl rfl (fun p e s m below meth c A X hnm => tX0_addParts_r5 X w)
/-! AnimationController$Blend.fill(LAnimationController$Node;I[I)V -/
abbrev rmX0_fill : Room := { frames := 8, cells := 0, slots := 0, locals := 209 }
def vX0_fill_b3_o (t0 : Nat) (k3 : gH → Nat → Option Nat → Int32 → Option Nat → Int32 → Prop) (Qn : gH → Prop) (h : gH) (v0 : Nat) (v1 : Option Nat) (v2 : Int32) (v3 : Option Nat) (v4 : Int32) : Prop := gr h v0 3 0 (fun r1 => nn r1 (fun a2 => al h a2 (fun x3 => ((x3 ≤ (v4 : Int32)) → (gr h v0 3 0 (fun r4 => vX0_addParts_r5 t0 (fun h5 => Qn h5) h r4 v1 v2 v3 1))) ∧ ((¬ x3 ≤ (v4 : Int32)) → (gr h v0 3 0 (fun r6 => nn r6 (fun a7 => si h a7 v4 0 (fun h8 => k3 h8 v0 v1 v2 v3 (v4 + 1)))))))))
set_option maxRecDepth 100000 in
set_option maxHeartbeats 4000000 in
theorem tX0_fill_b3_o {p : Program} {l : Launch} {e : Env} {s : State} {m : MethodId} {args : Array Value} {below : List Frame} {meth : Method} {c : Code} {G : gG} {A : Nat → Prop} {Qn : gH → Prop} (X : gC p l s m args meth c G A cX0_fill 5 none RX0) {k3 : gH → Nat → Option Nat → Int32 → Option Nat → Int32 → Prop} (H3 : ∀ (h : gH) (v0 : Nat) (v1 : Option Nat) (v2 : Int32) (v3 : Option Nat) (v4 : Int32), k3 h v0 v1 v2 v3 v4 → V p l e rmX0_fill s m args below meth c (MQ below (va_Qv Qn (gB G A) A) args s rmX0_fill.cells rmX0_fill.slots A) G A 5 h 0 0 3 [(0, .ref v0), (1, va_rf v1), (2, .int v2), (3, va_rf v3), (4, .int v4)] []) {h : gH} {v0 : Nat} {v1 : Option Nat} {v2 : Int32} {v3 : Option Nat} {v4 : Int32} (w : vX0_fill_b3_o G.2.2.1 k3 Qn h v0 v1 v2 v3 v4) : V p l e rmX0_fill s m args below meth c (MQ below (va_Qv Qn (gB G A) A) args s rmX0_fill.cells rmX0_fill.slots A) G A 5 h 0 0 3 [(0, .ref v0), (1, va_rf v1), (2, .int v2), (3, va_rf v3), (4, .int v4)] [] := by
  refine V_iload X dX0_fill_3 4 rfl ?_
  refine V_aloadr_n X dX0_fill_5 0 rfl ?_
  obtain ⟨fs, r1, hh, hv, w⟩ := w
  refine V_get X flX0_9 dX0_fill_6 hh hv ?_
  obtain ⟨a2, rfl, w⟩ := w
  obtain ⟨kt9, x9, hh, hk9, w⟩ := w
  refine V_alen X dX0_fill_9 hh hk9 ?_
  generalize Int32.ofNat _ = x3 at w ⊢
  obtain ⟨w1, w2⟩ := w
  refine V_icmp_ge (tgt := 27) X dX0_fill_10 (by decide) (fun z => ?_) (fun z => ?_)
  · replace w := w1 z
    clear w1 w2
    refine V_aloadr_n X dX0_fill_27 0 rfl ?_
    obtain ⟨fs, r4, hh, hv, w⟩ := w
    refine V_get X flX0_9 dX0_fill_28 hh hv ?_
    refine V_aload_n X dX0_fill_31 1 rfl ?_
    refine V_iload_n X dX0_fill_32 2 rfl ?_
    refine V_aload_n X dX0_fill_33 3 rfl ?_
    refine V_iconst (y := 1) X dX0_fill_34 (by decide) ?_
    refine V_callSv (As := [va_rf r4, va_rf v1, .int v2, va_rf v3, .int 1]) (rest := []) (k1 := 0) (n1 := 0) X (cX0_addParts_r5_ok X.2.2.2.2.2.2.2.2.1 w) lkX0_15 dX0_fill_35 ⟨Nat.le_of_ble_eq_true rfl, Nat.le_of_ble_eq_true rfl⟩ rfl (Nat.le_of_ble_eq_true rfl) ⟨Nat.le_of_ble_eq_true rfl, Nat.le_of_ble_eq_true rfl⟩ (Nat.le_of_ble_eq_true rfl) (Nat.le_of_ble_eq_true rfl) (fun h5 w9 => ?_)
    replace w := w9
    clear w9
    exact V_vret X rfl dX0_fill_38 (Nat.le_of_ble_eq_true rfl) (Nat.le_of_ble_eq_true rfl) w
  · replace w := w2 z
    clear w1 w2
    refine V_aloadr_n X dX0_fill_13 0 rfl ?_
    obtain ⟨fs, r6, hh, hv, w⟩ := w
    refine V_get X flX0_9 dX0_fill_14 hh hv ?_
    refine V_iload X dX0_fill_17 4 rfl ?_
    refine V_iconst (y := 0) X dX0_fill_19 (by decide) ?_
    obtain ⟨a7, rfl, w⟩ := w
    obtain ⟨N9, g9, hh, hi, w⟩ := w
    refine V_iast X dX0_fill_20 hh hi ?_
    generalize va_up _ _ _ = h8 at w ⊢
    refine V_iinc (y := (v4 + 1)) X dX0_fill_21 4 rfl (by first | rfl | (congr 1)) (by decide) (by simp [va_cat1] <;> rfl) ?_
    refine V_goto (tgt := 3) X dX0_fill_24 (by decide) ?_
    exact V.sub [1, 2, 3, 4, 0] rfl (H3 _ _ _ _ _ _ w)
def vX0_fill_b3 (t0 : Nat)  (Qn : gH → Prop) (n : Nat) : gH → Nat → Option Nat → Int32 → Option Nat → Int32 → Prop := Nat.rec (motive := fun _ => gH → Nat → Option Nat → Int32 → Option Nat → Int32 → Prop) (fun _ _ _ _ _ _ => False) (fun _ k3 => vX0_fill_b3_o t0 k3 Qn) n
theorem tX0_fill_b3 {p : Program} {l : Launch} {e : Env} {s : State} {m : MethodId} {args : Array Value} {below : List Frame} {meth : Method} {c : Code} {G : gG} {A : Nat → Prop} {Qn : gH → Prop} (X : gC p l s m args meth c G A cX0_fill 5 none RX0)   : ∀ (n : Nat) (h : gH) (v0 : Nat) (v1 : Option Nat) (v2 : Int32) (v3 : Option Nat) (v4 : Int32) (w : vX0_fill_b3 G.2.2.1  Qn n h v0 v1 v2 v3 v4), V p l e rmX0_fill s m args below meth c (MQ below (va_Qv Qn (gB G A) A) args s rmX0_fill.cells rmX0_fill.slots A) G A 5 h 0 0 3 [(0, .ref v0), (1, va_rf v1), (2, .int v2), (3, va_rf v3), (4, .int v4)] [] := by
  intro n
  induction n with
  | zero => intro h v0 v1 v2 v3 v4 w; exact False.elim w
  | succ n ih => intro h v0 v1 v2 v3 v4 w; exact tX0_fill_b3_o X ih w
def vX0_fill (t0 : Nat)  (Qn : gH → Prop) (h : gH) (v0 : Nat) (v1 : Option Nat) (v2 : Int32) (v3 : Option Nat) : Prop := ∃ n : Nat, vX0_fill_b3 t0  Qn n h v0 v1 v2 v3 0
set_option maxRecDepth 100000 in
set_option maxHeartbeats 4000000 in
theorem tX0_fill {p : Program} {l : Launch} {e : Env} {s : State} {m : MethodId} {args : Array Value} {below : List Frame} {meth : Method} {c : Code} {G : gG} {A : Nat → Prop} {Qn : gH → Prop} (X : gC p l s m args meth c G A cX0_fill 5 none RX0)   {h : gH} {v0 : Nat} {v1 : Option Nat} {v2 : Int32} {v3 : Option Nat} (w : vX0_fill G.2.2.1  Qn h v0 v1 v2 v3) : V p l e rmX0_fill s m args below meth c (MQ below (va_Qv Qn (gB G A) A) args s rmX0_fill.cells rmX0_fill.slots A) G A 5 h 0 0 0 [(0, .ref v0), (1, va_rf v1), (2, .int v2), (3, va_rf v3)] [] := by
  refine V_iconst (y := 0) X dX0_fill_0 (by decide) ?_
  refine V_istore X dX0_fill_1 (by decide) (by simp [va_cat1] <;> rfl) ?_
  obtain ⟨n9, w⟩ := w
  exact V.sub [1, 2, 3, 4, 0] rfl (tX0_fill_b3 X  n9 _ _ _ _ _ _ w)
theorem cX0_fill_ok {l : Launch} {G : gG} {h : gH} (hls : l.stackTraces = false) {Qn : gH → Prop} {v0 : Nat} {v1 : Option Nat} {v2 : Int32} {v3 : Option Nat} (w : vX0_fill G.2.2.1 Qn h v0 v1 v2 v3) : gMv l yX0_fill cX0_fill 5 none rmX0_fill rmX0_fill.cells rmX0_fill.slots G h [.ref v0, va_rf v1, .int v2, va_rf v3] Qn := by
  cases v1 <;>
  cases v3 <;>
  exact gMv.of (by decide +kernel) hls (Nat.le_of_ble_eq_true rfl) rfl rfl (fun p e s m below meth c A X hnm => tX0_fill X w)
/-! AnimationController$Blend.weightOf(I)I -/
abbrev rmX0_weightOf : Room := { frames := 0, cells := 0, slots := 0, locals := 0 }
def vX0_weightOf_b23 (t0 : Nat)  (Qn : Int32 → gH → Prop) (h : gH) (s0 : Int32) : Prop := Qn s0 h
set_option maxRecDepth 100000 in
set_option maxHeartbeats 4000000 in
theorem tX0_weightOf_b23 {p : Program} {l : Launch} {e : Env} {s : State} {m : MethodId} {args : Array Value} {below : List Frame} {meth : Method} {c : Code} {G : gG} {A : Nat → Prop} {Qn : Int32 → gH → Prop} (X : gC p l s m args meth c G A cX0_weightOf 2 (some FieldType.int) RX0)   {h : gH} {s0 : Int32} (w : vX0_weightOf_b23 G.2.2.1  Qn h s0) : V p l e rmX0_weightOf s m args below meth c (MQ below (va_Qi Qn (gB G A) A) args s rmX0_weightOf.cells rmX0_weightOf.slots A) G A 2 h 0 0 23 [] [.int s0] := by
  exact V_iret X rfl dX0_weightOf_23 (Nat.le_of_ble_eq_true rfl) (Nat.le_of_ble_eq_true rfl) w
def vX0_weightOf_b22 (t0 : Nat)  (Qn : Int32 → gH → Prop) (h : gH)  : Prop := vX0_weightOf_b23 t0  Qn h 0
set_option maxRecDepth 100000 in
set_option maxHeartbeats 4000000 in
theorem tX0_weightOf_b22 {p : Program} {l : Launch} {e : Env} {s : State} {m : MethodId} {args : Array Value} {below : List Frame} {meth : Method} {c : Code} {G : gG} {A : Nat → Prop} {Qn : Int32 → gH → Prop} (X : gC p l s m args meth c G A cX0_weightOf 2 (some FieldType.int) RX0)   {h : gH}  (w : vX0_weightOf_b22 G.2.2.1  Qn h ) : V p l e rmX0_weightOf s m args below meth c (MQ below (va_Qi Qn (gB G A) A) args s rmX0_weightOf.cells rmX0_weightOf.slots A) G A 2 h 0 0 22 [] [] := by
  refine V_iconst (y := 0) X dX0_weightOf_22 (by decide) ?_
  exact V.sub [] rfl (tX0_weightOf_b23 X  w)
def vX0_weightOf (t0 : Nat)  (Qn : Int32 → gH → Prop) (h : gH) (v0 : Nat) (v1 : Int32) : Prop := (((v1 : Int32) < 0) → (vX0_weightOf_b22 t0  Qn h )) ∧ ((¬ (v1 : Int32) < 0) → (gr h v0 3 0 (fun r1 => nn r1 (fun a2 => al h a2 (fun x3 => ((x3 ≤ (v1 : Int32)) → (vX0_weightOf_b22 t0  Qn h )) ∧ ((¬ x3 ≤ (v1 : Int32)) → (gr h v0 3 0 (fun r4 => nn r4 (fun a5 => li h a5 v1 (fun x6 => vX0_weightOf_b23 t0  Qn h x6))))))))))
set_option maxRecDepth 100000 in
set_option maxHeartbeats 4000000 in
theorem tX0_weightOf {p : Program} {l : Launch} {e : Env} {s : State} {m : MethodId} {args : Array Value} {below : List Frame} {meth : Method} {c : Code} {G : gG} {A : Nat → Prop} {Qn : Int32 → gH → Prop} (X : gC p l s m args meth c G A cX0_weightOf 2 (some FieldType.int) RX0)   {h : gH} {v0 : Nat} {v1 : Int32} (w : vX0_weightOf G.2.2.1  Qn h v0 v1) : V p l e rmX0_weightOf s m args below meth c (MQ below (va_Qi Qn (gB G A) A) args s rmX0_weightOf.cells rmX0_weightOf.slots A) G A 2 h 0 0 0 [(0, .ref v0), (1, .int v1)] [] := by
  refine V_iload_n X dX0_weightOf_0 1 rfl ?_
  obtain ⟨w1, w2⟩ := w
  refine V_if_lt (tgt := 22) X dX0_weightOf_1 (by decide) (fun z => ?_) (fun z => ?_)
  · replace w := w1 z
    clear w1 w2
    exact V.sub [] rfl (tX0_weightOf_b22 X  w)
  · replace w := w2 z
    clear w1 w2
    refine V_iload_n X dX0_weightOf_4 1 rfl ?_
    refine V_aloadr_n X dX0_weightOf_5 0 rfl ?_
    obtain ⟨fs, r1, hh, hv, w⟩ := w
    refine V_get X flX0_9 dX0_weightOf_6 hh hv ?_
    obtain ⟨a2, rfl, w⟩ := w
    obtain ⟨kt9, x9, hh, hk9, w⟩ := w
    refine V_alen X dX0_weightOf_9 hh hk9 ?_
    generalize Int32.ofNat _ = x3 at w ⊢
    obtain ⟨w1, w2⟩ := w
    refine V_icmp_ge (tgt := 22) X dX0_weightOf_10 (by decide) (fun z => ?_) (fun z => ?_)
    · replace w := w1 z
      clear w1 w2
      exact V.sub [] rfl (tX0_weightOf_b22 X  w)
    · replace w := w2 z
      clear w1 w2
      refine V_aloadr_n X dX0_weightOf_13 0 rfl ?_
      obtain ⟨fs, r4, hh, hv, w⟩ := w
      refine V_get X flX0_9 dX0_weightOf_14 hh hv ?_
      refine V_iload_n X dX0_weightOf_17 1 rfl ?_
      obtain ⟨a5, rfl, w⟩ := w
      obtain ⟨N9, g9, hh, hi, w⟩ := w
      refine V_iald X dX0_weightOf_18 hh hi ?_
      generalize g9 _ = x6 at w ⊢
      refine V_goto (tgt := 23) X dX0_weightOf_19 (by decide) ?_
      exact V.sub [] rfl (tX0_weightOf_b23 X  w)
theorem cX0_weightOf_ok {l : Launch} {G : gG} {h : gH} (hls : l.stackTraces = false) {Qn : Int32 → gH → Prop} {v0 : Nat} {v1 : Int32} (w : vX0_weightOf G.2.2.1 Qn h v0 v1) : gMi l yX0_weightOf cX0_weightOf 2 (some FieldType.int) rmX0_weightOf rmX0_weightOf.cells rmX0_weightOf.slots G h [.ref v0, .int v1] Qn := by
  exact gMi.of (by decide +kernel) hls (Nat.le_of_ble_eq_true rfl) rfl rfl (fun p e s m below meth c A X hnm => tX0_weightOf X w)
/-! AnimationController$Clip.<init>(II)V -/
abbrev rmX1_init : Room := { frames := 1, cells := 2, slots := 10, locals := 20 }
def vX1_init (t0 : Nat)  (Qn : gH → Prop) (h : gH) (v0 : Nat) (v1 : Int32) (v2 : Int32) : Prop := nw h (.inl (0, 5, .inl (fun _ => 0))) (fun q1 h2 => pv h2 v0 4 2 (.ref q1) (fun h3 => nw h3 (.inl (0, 5, .inl (fun _ => 0))) (fun q4 h5 => pv h5 v0 4 3 (.ref q4) (fun h6 => pv h6 v0 4 0 (.int v1) (fun h7 => pv h7 v0 4 1 (.int v2) (fun h8 => Qn h8))))))
set_option maxRecDepth 100000 in
set_option maxHeartbeats 4000000 in
theorem tX1_init {p : Program} {l : Launch} {e : Env} {s : State} {m : MethodId} {args : Array Value} {below : List Frame} {meth : Method} {c : Code} {G : gG} {A : Nat → Prop} {Qn : gH → Prop} (X : gC p l s m args meth c G A cX1_init 3 none RX1) (hin : meth.name = "<init>")   {h : gH} {v0 : Nat} {v1 : Int32} {v2 : Int32} (w : vX1_init G.2.2.1  Qn h v0 v1 v2) : V p l e rmX1_init s m args below meth c (MQ below (va_Qv Qn (gB G A) A) args s rmX1_init.cells rmX1_init.slots A) G A 3 h 0 0 0 [(0, .ref v0), (1, .int v1), (2, .int v2)] [] := by
  refine V_aloadr_n X dX1_init_0 0 rfl ?_
  refine V_objInit X kw_85 kw_41 kw_42 dX1_init_1 (Nat.le_of_ble_eq_true rfl) (Nat.le_of_ble_eq_true rfl) ?_
  refine V_aloadr_n X dX1_init_4 0 rfl ?_
  refine V_iconst (y := 5) X dX1_init_5 (by decide) ?_
  refine V_newa_int (N := 5) (k1 := 1) (n1 := 5) X kw_75 dX1_init_6 (by decide) (by decide) (Nat.le_of_ble_eq_true rfl) ⟨Nat.le_of_ble_eq_true rfl, Nat.le_of_ble_eq_true rfl⟩ (Nat.le_of_ble_eq_true rfl) (Nat.le_of_ble_eq_true rfl) (fun q1 hq => ?_)
  replace w := w q1 hq
  generalize va_up _ _ _ = h2 at w ⊢
  obtain ⟨fs, hh, hv, w⟩ := w
  refine V_putF X hin flX1_9 dX1_init_8 hh hv rfl rfl ?_
  generalize va_up _ _ _ = h3 at w ⊢
  refine V_aloadr_n X dX1_init_11 0 rfl ?_
  refine V_iconst (y := 5) X dX1_init_12 (by decide) ?_
  refine V_newa_int (N := 5) (k1 := 2) (n1 := 10) X kw_75 dX1_init_13 (by decide) (by decide) (Nat.le_of_ble_eq_true rfl) ⟨Nat.le_of_ble_eq_true rfl, Nat.le_of_ble_eq_true rfl⟩ (Nat.le_of_ble_eq_true rfl) (Nat.le_of_ble_eq_true rfl) (fun q4 hq => ?_)
  replace w := w q4 hq
  generalize va_up _ _ _ = h5 at w ⊢
  obtain ⟨fs, hh, hv, w⟩ := w
  refine V_putF X hin flX1_15 dX1_init_15 hh hv rfl rfl ?_
  generalize va_up _ _ _ = h6 at w ⊢
  refine V_aloadr_n X dX1_init_18 0 rfl ?_
  refine V_iload_n X dX1_init_19 1 rfl ?_
  obtain ⟨fs, hh, hv, w⟩ := w
  refine V_putF X hin flX1_18 dX1_init_20 hh hv rfl rfl ?_
  generalize va_up _ _ _ = h7 at w ⊢
  refine V_aloadr_n X dX1_init_23 0 rfl ?_
  refine V_iload_n X dX1_init_24 2 rfl ?_
  obtain ⟨fs, hh, hv, w⟩ := w
  refine V_putF X hin flX1_22 dX1_init_25 hh hv rfl rfl ?_
  generalize va_up _ _ _ = h8 at w ⊢
  exact V_vret X rfl dX1_init_28 (Nat.le_of_ble_eq_true rfl) (Nat.le_of_ble_eq_true rfl) w
theorem cX1_init_ok {l : Launch} {G : gG} {h : gH} (hls : l.stackTraces = false) {Qn : gH → Prop} {v0 : Nat} {v1 : Int32} {v2 : Int32} (w : vX1_init G.2.2.1 Qn h v0 v1 v2) : gMv l yX1_init cX1_init 3 none rmX1_init rmX1_init.cells rmX1_init.slots G h [.ref v0, .int v1, .int v2] Qn := by
  exact gMv.of (by decide +kernel) hls (Nat.le_of_ble_eq_true rfl) rfl rfl (fun p e s m below meth c A X hnm => tX1_init X hnm w)
/-! AnimationController$Clip.insertEvent(II)V -/
abbrev rmX1_insertEvent : Room := { frames := 0, cells := 0, slots := 0, locals := 0 }
def vX1_insertEvent_b15 (t0 : Nat)  (Qn : gH → Prop) (h : gH)  : Prop := Qn h
set_option maxRecDepth 100000 in
set_option maxHeartbeats 4000000 in
theorem tX1_insertEvent_b15 {p : Program} {l : Launch} {e : Env} {s : State} {m : MethodId} {args : Array Value} {below : List Frame} {meth : Method} {c : Code} {G : gG} {A : Nat → Prop} {Qn : gH → Prop} (X : gC p l s m args meth c G A cX1_insertEvent 4 none RX1)   {h : gH}  (w : vX1_insertEvent_b15 G.2.2.1  Qn h ) : V p l e rmX1_insertEvent s m args below meth c (MQ below (va_Qv Qn (gB G A) A) args s rmX1_insertEvent.cells rmX1_insertEvent.slots A) G A 4 h 0 0 15 [] [] := by
  exact V_vret X rfl dX1_insertEvent_15 (Nat.le_of_ble_eq_true rfl) (Nat.le_of_ble_eq_true rfl) w
def vX1_insertEvent_b71 (t0 : Nat)  (Qn : gH → Prop) (h : gH) (v0 : Nat) (v1 : Int32) (v2 : Int32) (v3 : Int32) : Prop := gr h v0 4 2 (fun r1 => nn r1 (fun a2 => si h a2 v3 v1 (fun h3 => gr h3 v0 4 3 (fun r4 => nn r4 (fun a5 => si h3 a5 v3 v2 (fun h6 => gi h6 v0 4 4 (fun x7 => pv h6 v0 4 4 (.int (x7 + 1)) (fun h8 => Qn h8))))))))
set_option maxRecDepth 100000 in
set_option maxHeartbeats 4000000 in
theorem tX1_insertEvent_b71 {p : Program} {l : Launch} {e : Env} {s : State} {m : MethodId} {args : Array Value} {below : List Frame} {meth : Method} {c : Code} {G : gG} {A : Nat → Prop} {Qn : gH → Prop} (X : gC p l s m args meth c G A cX1_insertEvent 4 none RX1)   {h : gH} {v0 : Nat} {v1 : Int32} {v2 : Int32} {v3 : Int32} (w : vX1_insertEvent_b71 G.2.2.1  Qn h v0 v1 v2 v3) : V p l e rmX1_insertEvent s m args below meth c (MQ below (va_Qv Qn (gB G A) A) args s rmX1_insertEvent.cells rmX1_insertEvent.slots A) G A 4 h 0 0 71 [(0, .ref v0), (1, .int v1), (2, .int v2), (3, .int v3)] [] := by
  refine V_aloadr_n X dX1_insertEvent_71 0 rfl ?_
  obtain ⟨fs, r1, hh, hv, w⟩ := w
  refine V_get X flX1_9 dX1_insertEvent_72 hh hv ?_
  refine V_iload_n X dX1_insertEvent_75 3 rfl ?_
  refine V_iload_n X dX1_insertEvent_76 1 rfl ?_
  obtain ⟨a2, rfl, w⟩ := w
  obtain ⟨N9, g9, hh, hi, w⟩ := w
  refine V_iast X dX1_insertEvent_77 hh hi ?_
  generalize va_up _ _ _ = h3 at w ⊢
  refine V_aloadr_n X dX1_insertEvent_78 0 rfl ?_
  obtain ⟨fs, r4, hh, hv, w⟩ := w
  refine V_get X flX1_15 dX1_insertEvent_79 hh hv ?_
  refine V_iload_n X dX1_insertEvent_82 3 rfl ?_
  refine V_iload_n X dX1_insertEvent_83 2 rfl ?_
  obtain ⟨a5, rfl, w⟩ := w
  obtain ⟨N9, g9, hh, hi, w⟩ := w
  refine V_iast X dX1_insertEvent_84 hh hi ?_
  generalize va_up _ _ _ = h6 at w ⊢
  refine V_aloadr_n X dX1_insertEvent_85 0 rfl ?_
  refine V_dup X dX1_insertEvent_86 rfl ?_
  obtain ⟨fs, x7, hh, hv, w⟩ := w
  refine V_get X flX1_25 dX1_insertEvent_87 hh hv ?_
  refine V_iconst (y := 1) X dX1_insertEvent_90 (by decide) ?_
  refine V_iadd X dX1_insertEvent_91 ?_
  obtain ⟨fs, hh, hv, w⟩ := w
  refine V_put X flX1_25 dX1_insertEvent_92 hh hv rfl rfl ?_
  generalize va_up _ _ _ = h8 at w ⊢
  exact V_vret X rfl dX1_insertEvent_95 (Nat.le_of_ble_eq_true rfl) (Nat.le_of_ble_eq_true rfl) w
def vX1_insertEvent_b21_o (t0 : Nat) (k21 : gH → Nat → Int32 → Int32 → Int32 → Prop) (Qn : gH → Prop) (h : gH) (v0 : Nat) (v1 : Int32) (v2 : Int32) (v3 : Int32) : Prop := (((v3 : Int32) ≤ 0) → (vX1_insertEvent_b71 t0  Qn h v0 v1 v2 v3)) ∧ ((¬ (v3 : Int32) ≤ 0) → (gr h v0 4 2 (fun r1 => nn r1 (fun a2 => li h a2 (v3 - 1) (fun x3 => (((x3 : Int32) ≤ v1) → (vX1_insertEvent_b71 t0  Qn h v0 v1 v2 v3)) ∧ ((¬ (x3 : Int32) ≤ v1) → (gr h v0 4 2 (fun r4 => gr h v0 4 2 (fun r5 => nn r5 (fun a6 => li h a6 (v3 - 1) (fun x7 => nn r4 (fun a8 => si h a8 v3 x7 (fun h9 => gr h9 v0 4 3 (fun r10 => gr h9 v0 4 3 (fun r11 => nn r11 (fun a12 => li h9 a12 (v3 - 1) (fun x13 => nn r10 (fun a14 => si h9 a14 v3 x13 (fun h15 => k21 h15 v0 v1 v2 (v3 + (-1)))))))))))))))))))))
set_option maxRecDepth 100000 in
set_option maxHeartbeats 4000000 in
theorem tX1_insertEvent_b21_o {p : Program} {l : Launch} {e : Env} {s : State} {m : MethodId} {args : Array Value} {below : List Frame} {meth : Method} {c : Code} {G : gG} {A : Nat → Prop} {Qn : gH → Prop} (X : gC p l s m args meth c G A cX1_insertEvent 4 none RX1) {k21 : gH → Nat → Int32 → Int32 → Int32 → Prop} (H21 : ∀ (h : gH) (v0 : Nat) (v1 : Int32) (v2 : Int32) (v3 : Int32), k21 h v0 v1 v2 v3 → V p l e rmX1_insertEvent s m args below meth c (MQ below (va_Qv Qn (gB G A) A) args s rmX1_insertEvent.cells rmX1_insertEvent.slots A) G A 4 h 0 0 21 [(0, .ref v0), (1, .int v1), (2, .int v2), (3, .int v3)] []) {h : gH} {v0 : Nat} {v1 : Int32} {v2 : Int32} {v3 : Int32} (w : vX1_insertEvent_b21_o G.2.2.1 k21 Qn h v0 v1 v2 v3) : V p l e rmX1_insertEvent s m args below meth c (MQ below (va_Qv Qn (gB G A) A) args s rmX1_insertEvent.cells rmX1_insertEvent.slots A) G A 4 h 0 0 21 [(0, .ref v0), (1, .int v1), (2, .int v2), (3, .int v3)] [] := by
  refine V_iload_n X dX1_insertEvent_21 3 rfl ?_
  obtain ⟨w1, w2⟩ := w
  refine V_if_le (tgt := 71) X dX1_insertEvent_22 (by decide) (fun z => ?_) (fun z => ?_)
  · replace w := w1 z
    clear w1 w2
    exact V.sub [0, 1, 2, 3] rfl (tX1_insertEvent_b71 X  w)
  · replace w := w2 z
    clear w1 w2
    refine V_aloadr_n X dX1_insertEvent_25 0 rfl ?_
    obtain ⟨fs, r1, hh, hv, w⟩ := w
    refine V_get X flX1_9 dX1_insertEvent_26 hh hv ?_
    refine V_iload_n X dX1_insertEvent_29 3 rfl ?_
    refine V_iconst (y := 1) X dX1_insertEvent_30 (by decide) ?_
    refine V_isub X dX1_insertEvent_31 ?_
    obtain ⟨a2, rfl, w⟩ := w
    obtain ⟨N9, g9, hh, hi, w⟩ := w
    refine V_iald X dX1_insertEvent_32 hh hi ?_
    generalize g9 _ = x3 at w ⊢
    refine V_iload_n X dX1_insertEvent_33 1 rfl ?_
    obtain ⟨w1, w2⟩ := w
    refine V_icmp_le (tgt := 71) X dX1_insertEvent_34 (by decide) (fun z => ?_) (fun z => ?_)
    · replace w := w1 z
      clear w1 w2
      exact V.sub [0, 1, 2, 3] rfl (tX1_insertEvent_b71 X  w)
    · replace w := w2 z
      clear w1 w2
      refine V_aloadr_n X dX1_insertEvent_37 0 rfl ?_
      obtain ⟨fs, r4, hh, hv, w⟩ := w
      refine V_get X flX1_9 dX1_insertEvent_38 hh hv ?_
      refine V_iload_n X dX1_insertEvent_41 3 rfl ?_
      refine V_aloadr_n X dX1_insertEvent_42 0 rfl ?_
      obtain ⟨fs, r5, hh, hv, w⟩ := w
      refine V_get X flX1_9 dX1_insertEvent_43 hh hv ?_
      refine V_iload_n X dX1_insertEvent_46 3 rfl ?_
      refine V_iconst (y := 1) X dX1_insertEvent_47 (by decide) ?_
      refine V_isub X dX1_insertEvent_48 ?_
      obtain ⟨a6, rfl, w⟩ := w
      obtain ⟨N9, g9, hh, hi, w⟩ := w
      refine V_iald X dX1_insertEvent_49 hh hi ?_
      generalize g9 _ = x7 at w ⊢
      obtain ⟨a8, rfl, w⟩ := w
      obtain ⟨N9, g9, hh, hi, w⟩ := w
      refine V_iast X dX1_insertEvent_50 hh hi ?_
      generalize va_up _ _ _ = h9 at w ⊢
      refine V_aloadr_n X dX1_insertEvent_51 0 rfl ?_
      obtain ⟨fs, r10, hh, hv, w⟩ := w
      refine V_get X flX1_15 dX1_insertEvent_52 hh hv ?_
      refine V_iload_n X dX1_insertEvent_55 3 rfl ?_
      refine V_aloadr_n X dX1_insertEvent_56 0 rfl ?_
      obtain ⟨fs, r11, hh, hv, w⟩ := w
      refine V_get X flX1_15 dX1_insertEvent_57 hh hv ?_
      refine V_iload_n X dX1_insertEvent_60 3 rfl ?_
      refine V_iconst (y := 1) X dX1_insertEvent_61 (by decide) ?_
      refine V_isub X dX1_insertEvent_62 ?_
      obtain ⟨a12, rfl, w⟩ := w
      obtain ⟨N9, g9, hh, hi, w⟩ := w
      refine V_iald X dX1_insertEvent_63 hh hi ?_
      generalize g9 _ = x13 at w ⊢
      obtain ⟨a14, rfl, w⟩ := w
      obtain ⟨N9, g9, hh, hi, w⟩ := w
      refine V_iast X dX1_insertEvent_64 hh hi ?_
      generalize va_up _ _ _ = h15 at w ⊢
      refine V_iinc (y := (v3 + (-1))) X dX1_insertEvent_65 3 rfl (by first | rfl | (congr 1)) (by decide) rfl ?_
      refine V_goto (tgt := 21) X dX1_insertEvent_68 (by decide) ?_
      exact V.sub [1, 2, 3, 0] rfl (H21 _ _ _ _ _ w)
def vX1_insertEvent_b21 (t0 : Nat)  (Qn : gH → Prop) (n : Nat) : gH → Nat → Int32 → Int32 → Int32 → Prop := Nat.rec (motive := fun _ => gH → Nat → Int32 → Int32 → Int32 → Prop) (fun _ _ _ _ _ => False) (fun _ k21 => vX1_insertEvent_b21_o t0 k21 Qn) n
theorem tX1_insertEvent_b21 {p : Program} {l : Launch} {e : Env} {s : State} {m : MethodId} {args : Array Value} {below : List Frame} {meth : Method} {c : Code} {G : gG} {A : Nat → Prop} {Qn : gH → Prop} (X : gC p l s m args meth c G A cX1_insertEvent 4 none RX1)   : ∀ (n : Nat) (h : gH) (v0 : Nat) (v1 : Int32) (v2 : Int32) (v3 : Int32) (w : vX1_insertEvent_b21 G.2.2.1  Qn n h v0 v1 v2 v3), V p l e rmX1_insertEvent s m args below meth c (MQ below (va_Qv Qn (gB G A) A) args s rmX1_insertEvent.cells rmX1_insertEvent.slots A) G A 4 h 0 0 21 [(0, .ref v0), (1, .int v1), (2, .int v2), (3, .int v3)] [] := by
  intro n
  induction n with
  | zero => intro h v0 v1 v2 v3 w; exact False.elim w
  | succ n ih => intro h v0 v1 v2 v3 w; exact tX1_insertEvent_b21_o X ih w
def vX1_insertEvent (t0 : Nat)  (Qn : gH → Prop) (h : gH) (v0 : Nat) (v1 : Int32) (v2 : Int32) : Prop := gi h v0 4 4 (fun x1 => (((x1 : Int32) < 0) → (vX1_insertEvent_b15 t0  Qn h )) ∧ ((¬ (x1 : Int32) < 0) → (gi h v0 4 4 (fun x2 => (((x2 : Int32) < 5) → (gi h v0 4 4 (fun x3 => ∃ n : Nat, vX1_insertEvent_b21 t0  Qn n h v0 v1 v2 x3))) ∧ ((¬ (x2 : Int32) < 5) → (vX1_insertEvent_b15 t0  Qn h ))))))
set_option maxRecDepth 100000 in
set_option maxHeartbeats 4000000 in
theorem tX1_insertEvent {p : Program} {l : Launch} {e : Env} {s : State} {m : MethodId} {args : Array Value} {below : List Frame} {meth : Method} {c : Code} {G : gG} {A : Nat → Prop} {Qn : gH → Prop} (X : gC p l s m args meth c G A cX1_insertEvent 4 none RX1)   {h : gH} {v0 : Nat} {v1 : Int32} {v2 : Int32} (w : vX1_insertEvent G.2.2.1  Qn h v0 v1 v2) : V p l e rmX1_insertEvent s m args below meth c (MQ below (va_Qv Qn (gB G A) A) args s rmX1_insertEvent.cells rmX1_insertEvent.slots A) G A 4 h 0 0 0 [(0, .ref v0), (1, .int v1), (2, .int v2)] [] := by
  refine V_aloadr_n X dX1_insertEvent_0 0 rfl ?_
  obtain ⟨fs, x1, hh, hv, w⟩ := w
  refine V_get X flX1_25 dX1_insertEvent_1 hh hv ?_
  obtain ⟨w1, w2⟩ := w
  refine V_if_lt (tgt := 15) X dX1_insertEvent_4 (by decide) (fun z => ?_) (fun z => ?_)
  · replace w := w1 z
    clear w1 w2
    exact V.sub [] rfl (tX1_insertEvent_b15 X  w)
  · replace w := w2 z
    clear w1 w2
    refine V_aloadr_n X dX1_insertEvent_7 0 rfl ?_
    obtain ⟨fs, x2, hh, hv, w⟩ := w
    refine V_get X flX1_25 dX1_insertEvent_8 hh hv ?_
    refine V_iconst (y := 5) X dX1_insertEvent_11 (by decide) ?_
    obtain ⟨w1, w2⟩ := w
    refine V_icmp_lt (tgt := 16) X dX1_insertEvent_12 (by decide) (fun z => ?_) (fun z => ?_)
    · replace w := w1 z
      clear w1 w2
      refine V_aloadr_n X dX1_insertEvent_16 0 rfl ?_
      obtain ⟨fs, x3, hh, hv, w⟩ := w
      refine V_get X flX1_25 dX1_insertEvent_17 hh hv ?_
      refine V_istore_n (i0 := 3) X dX1_insertEvent_20 rfl (by decide) rfl ?_
      obtain ⟨n9, w⟩ := w
      exact V.sub [1, 2, 3, 0] rfl (tX1_insertEvent_b21 X  n9 _ _ _ _ _ w)
    · replace w := w2 z
      clear w1 w2
      exact V.sub [] rfl (tX1_insertEvent_b15 X  w)
theorem cX1_insertEvent_ok {l : Launch} {G : gG} {h : gH} (hls : l.stackTraces = false) {Qn : gH → Prop} {v0 : Nat} {v1 : Int32} {v2 : Int32} (w : vX1_insertEvent G.2.2.1 Qn h v0 v1 v2) : gMv l yX1_insertEvent cX1_insertEvent 4 none rmX1_insertEvent rmX1_insertEvent.cells rmX1_insertEvent.slots G h [.ref v0, .int v1, .int v2] Qn := by
  exact gMv.of (by decide +kernel) hls (Nat.le_of_ble_eq_true rfl) rfl rfl (fun p e s m below meth c A X hnm => tX1_insertEvent X w)
/-! AnimationController$EventLog.<init>()V -/
abbrev rmX2_init : Room := { frames := 1, cells := 5, slots := 124, locals := 20 }
def vX2_init (t0 : Nat)  (Qn : gH → Prop) (h : gH) (v0 : Nat) : Prop := nw2 h 4 30 (fun q1 h2 => pv h2 v0 5 0 (.ref q1) (fun h3 => Qn h3))
set_option maxRecDepth 100000 in
set_option maxHeartbeats 4000000 in
theorem tX2_init {p : Program} {l : Launch} {e : Env} {s : State} {m : MethodId} {args : Array Value} {below : List Frame} {meth : Method} {c : Code} {G : gG} {A : Nat → Prop} {Qn : gH → Prop} (X : gC p l s m args meth c G A cX2_init 1 none RX2) (hin : meth.name = "<init>")   {h : gH} {v0 : Nat} (w : vX2_init G.2.2.1  Qn h v0) : V p l e rmX2_init s m args below meth c (MQ below (va_Qv Qn (gB G A) A) args s rmX2_init.cells rmX2_init.slots A) G A 1 h 0 0 0 [(0, .ref v0)] [] := by
  refine V_aloadr_n X dX2_init_0 0 rfl ?_
  refine V_objInit X kw_318 kw_41 kw_42 dX2_init_1 (Nat.le_of_ble_eq_true rfl) (Nat.le_of_ble_eq_true rfl) ?_
  refine V_aloadr_n X dX2_init_4 0 rfl ?_
  refine V_iconst (y := 4) X dX2_init_5 (by decide) ?_
  refine V_bipush (y := 30) X dX2_init_6 (by decide) ?_
  refine V_mna (N := 4) (K := 30) (k1 := 5) (n1 := 124) X kw_319 ku_320 kw_75 dX2_init_8 (by decide) (by decide) (by decide) (by decide) (Nat.le_of_ble_eq_true rfl) (Nat.le_of_ble_eq_true rfl) ⟨(Nat.le_of_ble_eq_true rfl), (Nat.le_of_ble_eq_true rfl)⟩ (Nat.le_of_ble_eq_true rfl) (Nat.le_of_ble_eq_true rfl) (fun q1 r9 z1 z2 z3 z4 => ?_)
  replace w := w q1 r9 z1 z2 z3 z4
  generalize gMN _ _ _ _ _ = h2 at w ⊢
  obtain ⟨fs, hh, hv, w⟩ := w
  refine V_putF X hin flX2_13 dX2_init_12 hh hv rfl rfl ?_
  generalize va_up _ _ _ = h3 at w ⊢
  exact V_vret X rfl dX2_init_15 (Nat.le_of_ble_eq_true rfl) (Nat.le_of_ble_eq_true rfl) w
theorem cX2_init_ok {l : Launch} {G : gG} {h : gH} (hls : l.stackTraces = false) {Qn : gH → Prop} {v0 : Nat} (w : vX2_init G.2.2.1 Qn h v0) : gMv l yX2_init cX2_init 1 none rmX2_init rmX2_init.cells rmX2_init.slots G h [.ref v0] Qn := by
  exact gMv.of (by decide +kernel) hls (Nat.le_of_ble_eq_true rfl) rfl rfl (fun p e s m below meth c A X hnm => tX2_init X hnm w)
/-! java/lang/Math.floorMod(II)I -/
abbrev rmJ9_floorMod_7cf53 : Room := { frames := 0, cells := 0, slots := 0, locals := 0 }
def vJ9_floorMod_7cf53_b18 (t0 : Nat)  (Qn : Int32 → gH → Prop) (h : gH) (v2 : Int32) : Prop := Qn v2 h
set_option maxRecDepth 100000 in
set_option maxHeartbeats 4000000 in
theorem tJ9_floorMod_7cf53_b18 {p : Program} {l : Launch} {e : Env} {s : State} {m : MethodId} {args : Array Value} {below : List Frame} {meth : Method} {c : Code} {G : gG} {A : Nat → Prop} {Qn : Int32 → gH → Prop} (X : gC p l s m args meth c G A cJ9_floorMod_7cf53 3 (some FieldType.int) RJ9)   {h : gH} {v2 : Int32} (w : vJ9_floorMod_7cf53_b18 G.2.2.1  Qn h v2) : V p l e rmJ9_floorMod_7cf53 s m args below meth c (MQ below (va_Qi Qn (gB G A) A) args s rmJ9_floorMod_7cf53.cells rmJ9_floorMod_7cf53.slots A) G A 3 h 0 0 18 [(2, .int v2)] [] := by
  refine V_iload_n X dJ9_floorMod_7cf53_18 0 rfl ?_
  exact V_iret X rfl dJ9_floorMod_7cf53_19 (Nat.le_of_ble_eq_true rfl) (Nat.le_of_ble_eq_true rfl) w
def vJ9_floorMod_7cf53 (t0 : Nat)  (Qn : Int32 → gH → Prop) (h : gH) (v0 : Int32) (v1 : Int32) : Prop := ¬ (v1 : Int32) = 0 ∧ (((0 ≤ ((v0 ^^^ v1) : Int32)) → (vJ9_floorMod_7cf53_b18 t0  Qn h (v0 - v0 / v1 * v1))) ∧ ((¬ 0 ≤ ((v0 ^^^ v1) : Int32)) → (((((v0 - v0 / v1 * v1) : Int32) = 0) → (vJ9_floorMod_7cf53_b18 t0  Qn h (v0 - v0 / v1 * v1))) ∧ ((¬ ((v0 - v0 / v1 * v1) : Int32) = 0) → (Qn ((v0 - v0 / v1 * v1) + v1) h)))))
set_option maxRecDepth 100000 in
set_option maxHeartbeats 4000000 in
theorem tJ9_floorMod_7cf53 {p : Program} {l : Launch} {e : Env} {s : State} {m : MethodId} {args : Array Value} {below : List Frame} {meth : Method} {c : Code} {G : gG} {A : Nat → Prop} {Qn : Int32 → gH → Prop} (X : gC p l s m args meth c G A cJ9_floorMod_7cf53 3 (some FieldType.int) RJ9)   {h : gH} {v0 : Int32} {v1 : Int32} (w : vJ9_floorMod_7cf53 G.2.2.1  Qn h v0 v1) : V p l e rmJ9_floorMod_7cf53 s m args below meth c (MQ below (va_Qi Qn (gB G A) A) args s rmJ9_floorMod_7cf53.cells rmJ9_floorMod_7cf53.slots A) G A 3 h 0 0 0 [(0, .int v0), (1, .int v1)] [] := by
  refine V_iload_n X dJ9_floorMod_7cf53_0 0 rfl ?_
  refine V_iload_n X dJ9_floorMod_7cf53_1 1 rfl ?_
  obtain ⟨z0, w⟩ := w
  refine V_irem X dJ9_floorMod_7cf53_2 z0 ?_
  refine V_istore_n (i0 := 2) X dJ9_floorMod_7cf53_3 rfl (by decide) rfl ?_
  refine V_iload_n X dJ9_floorMod_7cf53_4 1 rfl ?_
  refine V_iload_n X dJ9_floorMod_7cf53_5 2 rfl ?_
  refine V_ixor X dJ9_floorMod_7cf53_6 ?_
  obtain ⟨w1, w2⟩ := w
  refine V_if_ge (tgt := 18) X dJ9_floorMod_7cf53_7 (by decide) (fun z => ?_) (fun z => ?_)
  · replace w := w1 z
    clear w1 w2
    exact V.sub [0] rfl (tJ9_floorMod_7cf53_b18 X  w)
  · replace w := w2 z
    clear w1 w2
    refine V_iload_n X dJ9_floorMod_7cf53_10 0 rfl ?_
    obtain ⟨w1, w2⟩ := w
    refine V_if_eq (tgt := 18) X dJ9_floorMod_7cf53_11 (by decide) (fun z => ?_) (fun z => ?_)
    · replace w := w1 z
      clear w1 w2
      exact V.sub [0] rfl (tJ9_floorMod_7cf53_b18 X  w)
    · replace w := w2 z
      clear w1 w2
      refine V_iload_n X dJ9_floorMod_7cf53_14 0 rfl ?_
      refine V_iload_n X dJ9_floorMod_7cf53_15 2 rfl ?_
      refine V_iadd X dJ9_floorMod_7cf53_16 ?_
      exact V_iret X rfl dJ9_floorMod_7cf53_17 (Nat.le_of_ble_eq_true rfl) (Nat.le_of_ble_eq_true rfl) w
theorem cJ9_floorMod_7cf53_ok {l : Launch} {G : gG} {h : gH} (hls : l.stackTraces = false) {Qn : Int32 → gH → Prop} {v0 : Int32} {v1 : Int32} (w : vJ9_floorMod_7cf53 G.2.2.1 Qn h v0 v1) : gMi l yJ9_floorMod_7cf53 cJ9_floorMod_7cf53 3 (some FieldType.int) rmJ9_floorMod_7cf53 rmJ9_floorMod_7cf53.cells rmJ9_floorMod_7cf53.slots G h [.int v0, .int v1] Qn := by
  exact gMi.ofF (by decide +kernel) hls (Nat.le_of_ble_eq_true rfl) rfl rfl (fun p e s m below meth c A X hnm => tJ9_floorMod_7cf53 X w)
/-! AnimationController$EventLog.placeOf(I)I -/
abbrev rmX2_placeOf : Room := { frames := 1, cells := 0, slots := 0, locals := 22 }
def vX2_placeOf (t0 : Nat)  (Qn : Int32 → gH → Prop) (h : gH) (v0 : Int32) : Prop := vJ9_floorMod_7cf53 t0 (fun x2 h1 => Qn x2 h1) h v0 30
set_option maxRecDepth 100000 in
set_option maxHeartbeats 4000000 in
theorem tX2_placeOf {p : Program} {l : Launch} {e : Env} {s : State} {m : MethodId} {args : Array Value} {below : List Frame} {meth : Method} {c : Code} {G : gG} {A : Nat → Prop} {Qn : Int32 → gH → Prop} (X : gC p l s m args meth c G A cX2_placeOf 1 (some FieldType.int) RX2)   {h : gH} {v0 : Int32} (w : vX2_placeOf G.2.2.1  Qn h v0) : V p l e rmX2_placeOf s m args below meth c (MQ below (va_Qi Qn (gB G A) A) args s rmX2_placeOf.cells rmX2_placeOf.slots A) G A 1 h 0 0 0 [(0, .int v0)] [] := by
  refine V_iload_n X dX2_placeOf_0 0 rfl ?_
  refine V_bipush (y := 30) X dX2_placeOf_1 (by decide) ?_
  refine V_callSi (As := [.int v0, .int 30]) (rest := []) (k1 := 0) (n1 := 0) X (cJ9_floorMod_7cf53_ok X.2.2.2.2.2.2.2.2.1 w) lkX2_40 dX2_placeOf_3 ⟨Nat.le_of_ble_eq_true rfl, Nat.le_of_ble_eq_true rfl⟩ rfl (Nat.le_of_ble_eq_true rfl) ⟨Nat.le_of_ble_eq_true rfl, Nat.le_of_ble_eq_true rfl⟩ (Nat.le_of_ble_eq_true rfl) (Nat.le_of_ble_eq_true rfl) (fun x2 h1 w9 => ?_)
  replace w := w9
  clear w9
  exact V_iret X rfl dX2_placeOf_6 (Nat.le_of_ble_eq_true rfl) (Nat.le_of_ble_eq_true rfl) w
theorem cX2_placeOf_ok {l : Launch} {G : gG} {h : gH} (hls : l.stackTraces = false) {Qn : Int32 → gH → Prop} {v0 : Int32} (w : vX2_placeOf G.2.2.1 Qn h v0) : gMi l yX2_placeOf cX2_placeOf 1 (some FieldType.int) rmX2_placeOf rmX2_placeOf.cells rmX2_placeOf.slots G h [.int v0] Qn := by
  exact gMi.of (by decide +kernel) hls (Nat.le_of_ble_eq_true rfl) rfl rfl (fun p e s m below meth c A X hnm => tX2_placeOf X w)
/-! AnimationController$EventLog.append(IIII)V -/
abbrev rmX2_append : Room := { frames := 2, cells := 0, slots := 0, locals := 42 }
def vX2_append (t0 : Nat)  (Qn : gH → Prop) (h : gH) (v0 : Nat) (v1 : Int32) (v2 : Int32) (v3 : Int32) (v4 : Int32) : Prop := gi h v0 5 1 (fun x1 => vX2_placeOf t0 (fun x3 h2 => gr h2 v0 5 0 (fun r4 => nn r4 (fun a5 => lq h2 4 a5 0 (fun r6 => nn r6 (fun a7 => si h2 a7 x3 v1 (fun h8 => gr h8 v0 5 0 (fun r9 => nn r9 (fun a10 => lq h8 4 a10 1 (fun r11 => nn r11 (fun a12 => si h8 a12 x3 v2 (fun h13 => gr h13 v0 5 0 (fun r14 => nn r14 (fun a15 => lq h13 4 a15 2 (fun r16 => nn r16 (fun a17 => si h13 a17 x3 v3 (fun h18 => gr h18 v0 5 0 (fun r19 => nn r19 (fun a20 => lq h18 4 a20 3 (fun r21 => nn r21 (fun a22 => si h18 a22 x3 v4 (fun h23 => gi h23 v0 5 1 (fun x24 => pv h23 v0 5 1 (.int (x24 + 1)) (fun h25 => Qn h25))))))))))))))))))))))) h x1)
set_option maxRecDepth 100000 in
set_option maxHeartbeats 4000000 in
theorem tX2_append {p : Program} {l : Launch} {e : Env} {s : State} {m : MethodId} {args : Array Value} {below : List Frame} {meth : Method} {c : Code} {G : gG} {A : Nat → Prop} {Qn : gH → Prop} (X : gC p l s m args meth c G A cX2_append 6 none RX2)   {h : gH} {v0 : Nat} {v1 : Int32} {v2 : Int32} {v3 : Int32} {v4 : Int32} (w : vX2_append G.2.2.1  Qn h v0 v1 v2 v3 v4) : V p l e rmX2_append s m args below meth c (MQ below (va_Qv Qn (gB G A) A) args s rmX2_append.cells rmX2_append.slots A) G A 6 h 0 0 0 [(0, .ref v0), (1, .int v1), (2, .int v2), (3, .int v3), (4, .int v4)] [] := by
  refine V_aloadr_n X dX2_append_0 0 rfl ?_
  obtain ⟨fs, x1, hh, hv, w⟩ := w
  refine V_get X flX2_16 dX2_append_1 hh hv ?_
  refine V_callSi (As := [.int x1]) (rest := []) (k1 := 0) (n1 := 0) X (cX2_placeOf_ok X.2.2.2.2.2.2.2.2.1 w) lkX2_20 dX2_append_4 ⟨Nat.le_of_ble_eq_true rfl, Nat.le_of_ble_eq_true rfl⟩ rfl (Nat.le_of_ble_eq_true rfl) ⟨Nat.le_of_ble_eq_true rfl, Nat.le_of_ble_eq_true rfl⟩ (Nat.le_of_ble_eq_true rfl) (Nat.le_of_ble_eq_true rfl) (fun x3 h2 w9 => ?_)
  replace w := w9
  clear w9
  refine V_istore X dX2_append_7 (by decide) rfl ?_
  refine V_aloadr_n X dX2_append_9 1 rfl ?_
  obtain ⟨fs, r4, hh, hv, w⟩ := w
  refine V_get X flX2_13 dX2_append_10 hh hv ?_
  refine V_iconst (y := 0) X dX2_append_13 (by decide) ?_
  obtain ⟨a5, rfl, w⟩ := w
  obtain ⟨N9, g9, hh, hi, w⟩ := w
  refine V_aald4 X dX2_append_14 hh hi ?_
  generalize g9 _ = r6 at w ⊢
  refine V_iload X dX2_append_15 0 rfl ?_
  refine V_iload_n X dX2_append_17 2 rfl ?_
  obtain ⟨a7, rfl, w⟩ := w
  obtain ⟨N9, g9, hh, hi, w⟩ := w
  refine V_iast X dX2_append_18 hh hi ?_
  generalize va_up _ _ _ = h8 at w ⊢
  refine V_aloadr_n X dX2_append_19 1 rfl ?_
  obtain ⟨fs, r9, hh, hv, w⟩ := w
  refine V_get X flX2_13 dX2_append_20 hh hv ?_
  refine V_iconst (y := 1) X dX2_append_23 (by decide) ?_
  obtain ⟨a10, rfl, w⟩ := w
  obtain ⟨N9, g9, hh, hi, w⟩ := w
  refine V_aald4 X dX2_append_24 hh hi ?_
  generalize g9 _ = r11 at w ⊢
  refine V_iload X dX2_append_25 0 rfl ?_
  refine V_iload_n X dX2_append_27 3 rfl ?_
  obtain ⟨a12, rfl, w⟩ := w
  obtain ⟨N9, g9, hh, hi, w⟩ := w
  refine V_iast X dX2_append_28 hh hi ?_
  generalize va_up _ _ _ = h13 at w ⊢
  refine V_aloadr_n X dX2_append_29 1 rfl ?_
  obtain ⟨fs, r14, hh, hv, w⟩ := w
  refine V_get X flX2_13 dX2_append_30 hh hv ?_
  refine V_iconst (y := 2) X dX2_append_33 (by decide) ?_
  obtain ⟨a15, rfl, w⟩ := w
  obtain ⟨N9, g9, hh, hi, w⟩ := w
  refine V_aald4 X dX2_append_34 hh hi ?_
  generalize g9 _ = r16 at w ⊢
  refine V_iload X dX2_append_35 0 rfl ?_
  refine V_iload_n X dX2_append_37 4 rfl ?_
  obtain ⟨a17, rfl, w⟩ := w
  obtain ⟨N9, g9, hh, hi, w⟩ := w
  refine V_iast X dX2_append_38 hh hi ?_
  generalize va_up _ _ _ = h18 at w ⊢
  refine V_aloadr_n X dX2_append_39 1 rfl ?_
  obtain ⟨fs, r19, hh, hv, w⟩ := w
  refine V_get X flX2_13 dX2_append_40 hh hv ?_
  refine V_iconst (y := 3) X dX2_append_43 (by decide) ?_
  obtain ⟨a20, rfl, w⟩ := w
  obtain ⟨N9, g9, hh, hi, w⟩ := w
  refine V_aald4 X dX2_append_44 hh hi ?_
  generalize g9 _ = r21 at w ⊢
  refine V_iload X dX2_append_45 0 rfl ?_
  refine V_iload X dX2_append_47 5 rfl ?_
  obtain ⟨a22, rfl, w⟩ := w
  obtain ⟨N9, g9, hh, hi, w⟩ := w
  refine V_iast X dX2_append_49 hh hi ?_
  generalize va_up _ _ _ = h23 at w ⊢
  refine V_aloadr_n X dX2_append_50 1 rfl ?_
  refine V_dup X dX2_append_51 rfl ?_
  obtain ⟨fs, x24, hh, hv, w⟩ := w
  refine V_get X flX2_16 dX2_append_52 hh hv ?_
  refine V_iconst (y := 1) X dX2_append_55 (by decide) ?_
  refine V_iadd X dX2_append_56 ?_
  obtain ⟨fs, hh, hv, w⟩ := w
  refine V_put X flX2_16 dX2_append_57 hh hv rfl rfl ?_
  generalize va_up _ _ _ = h25 at w ⊢
  exact V_vret X rfl dX2_append_60 (Nat.le_of_ble_eq_true rfl) (Nat.le_of_ble_eq_true rfl) w
theorem cX2_append_ok {l : Launch} {G : gG} {h : gH} (hls : l.stackTraces = false) {Qn : gH → Prop} {v0 : Nat} {v1 : Int32} {v2 : Int32} {v3 : Int32} {v4 : Int32} (w : vX2_append G.2.2.1 Qn h v0 v1 v2 v3 v4) : gMv l yX2_append cX2_append 6 none rmX2_append rmX2_append.cells rmX2_append.slots G h [.ref v0, .int v1, .int v2, .int v3, .int v4] Qn := by
  exact gMv.of (by decide +kernel) hls (Nat.le_of_ble_eq_true rfl) rfl rfl (fun p e s m below meth c A X hnm => tX2_append X w)
