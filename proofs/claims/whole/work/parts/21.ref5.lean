/-! AnimationControllerModel.tick(I)I -/
abbrev rmX12_tick : Room := { frames := 7, cells := 0, slots := 0, locals := 186 }
def vX12_tick_b47_o (k47 : gH → Nat → Int32 → Int32 → Int32 → Prop) (Qn : Int32 → gH → Prop) (h : gH) (v0 : Nat) (v1 : Int32) (v2 : Int32) (v3 : Int32) : Prop := ((v1 ≤ (v3 : Int32)) → (gr h v0 15 0 (fun r1 => nn r1 (fun a2 => li h a2 288 (fun x3 => Qn (x3 - v2) h))))) ∧ ((¬ v1 ≤ (v3 : Int32)) → (io h v0 15 (vX12_ticks (fun h4 => k47 h4 v0 v1 v2 (v3 + 1)) h v0 )))
set_option maxRecDepth 100000 in
set_option maxHeartbeats 4000000 in
theorem tX12_tick_b47_o {p : Program} {l : Launch} {e : Env} {s : State} {m : MethodId} {args : Array Value} {below : List Frame} {meth : Method} {c : Code} {G : gG} {A : Nat → Prop} {Qn : Int32 → gH → Prop} (X : gC p l s m args meth c G A cX12_tick 4 (some FieldType.int) RX12) {k47 : gH → Nat → Int32 → Int32 → Int32 → Prop} (H47 : ∀ (h : gH) (v0 : Nat) (v1 : Int32) (v2 : Int32) (v3 : Int32), k47 h v0 v1 v2 v3 → V p l e rmX12_tick s m args below meth c (MQ below (va_Qi Qn (gB G A) A) args s rmX12_tick.cells rmX12_tick.slots A) G A 4 h 0 0 47 [(0, .ref v0), (1, .int v1), (2, .int v2), (3, .int v3)] []) {h : gH} {v0 : Nat} {v1 : Int32} {v2 : Int32} {v3 : Int32} (w : vX12_tick_b47_o k47 Qn h v0 v1 v2 v3) : V p l e rmX12_tick s m args below meth c (MQ below (va_Qi Qn (gB G A) A) args s rmX12_tick.cells rmX12_tick.slots A) G A 4 h 0 0 47 [(0, .ref v0), (1, .int v1), (2, .int v2), (3, .int v3)] [] := by
  refine V_iload_n X dX12_tick_47 3 rfl ?_
  refine V_iload_n X dX12_tick_48 1 rfl ?_
  obtain ⟨w1, w2⟩ := w
  refine V_icmp_ge (tgt := 62) X dX12_tick_49 (by decide) (fun z => ?_) (fun z => ?_)
  · replace w := w1 z
    clear w1 w2
    refine V_aloadr_n X dX12_tick_62 0 rfl ?_
    obtain ⟨fs, r1, hh, hv, w⟩ := w
    refine V_get X flX12_7 dX12_tick_63 hh hv ?_
    refine V_sipush (y := 288) X dX12_tick_66 (by decide) ?_
    obtain ⟨a2, rfl, w⟩ := w
    obtain ⟨N9, g9, hh, hi, w⟩ := w
    refine V_iald X dX12_tick_69 hh hi ?_
    generalize g9 _ = x3 at w ⊢
    refine V_iload_n X dX12_tick_70 2 rfl ?_
    refine V_isub X dX12_tick_71 ?_
    exact V_iret X rfl dX12_tick_72 (Nat.le_of_ble_eq_true rfl) (Nat.le_of_ble_eq_true rfl) w
  · replace w := w2 z
    clear w1 w2
    refine V_aloadr_n X dX12_tick_52 0 rfl ?_
    obtain ⟨fs, hh, w⟩ := w
    refine V_callVv (As := []) (rest := []) (k1 := 0) (n1 := 0) X (cX12_ticks_ok X.2.2.2.2.2.2.2.2.1 w) lkX12_356 hh (q9 := (RX12, TX12, 42)) rfl rfl dX12_tick_53 ⟨Nat.le_of_ble_eq_true rfl, Nat.le_of_ble_eq_true rfl⟩ rfl (Nat.le_of_ble_eq_true rfl) ⟨Nat.le_of_ble_eq_true rfl, Nat.le_of_ble_eq_true rfl⟩ (Nat.le_of_ble_eq_true rfl) (Nat.le_of_ble_eq_true rfl) (fun h4 w9 => ?_)
    replace w := w9
    clear w9
    refine V_iinc (y := (v3 + 1)) X dX12_tick_56 3 rfl (by first | rfl | (congr 1)) (by decide) rfl ?_
    refine V_goto (tgt := 47) X dX12_tick_59 (by decide) ?_
    exact V.sub [1, 2, 3, 0] rfl (H47 _ _ _ _ _ w)
def vX12_tick_b47  (Qn : Int32 → gH → Prop) (n : Nat) : gH → Nat → Int32 → Int32 → Int32 → Prop := Nat.rec (motive := fun _ => gH → Nat → Int32 → Int32 → Int32 → Prop) (fun _ _ _ _ _ => False) (fun _ k47 => vX12_tick_b47_o k47 Qn) n
theorem tX12_tick_b47 {p : Program} {l : Launch} {e : Env} {s : State} {m : MethodId} {args : Array Value} {below : List Frame} {meth : Method} {c : Code} {G : gG} {A : Nat → Prop} {Qn : Int32 → gH → Prop} (X : gC p l s m args meth c G A cX12_tick 4 (some FieldType.int) RX12)   : ∀ (n : Nat) (h : gH) (v0 : Nat) (v1 : Int32) (v2 : Int32) (v3 : Int32) (w : vX12_tick_b47  Qn n h v0 v1 v2 v3), V p l e rmX12_tick s m args below meth c (MQ below (va_Qi Qn (gB G A) A) args s rmX12_tick.cells rmX12_tick.slots A) G A 4 h 0 0 47 [(0, .ref v0), (1, .int v1), (2, .int v2), (3, .int v3)] [] := by
  intro n
  induction n with
  | zero => intro h v0 v1 v2 v3 w; exact False.elim w
  | succ n ih => intro h v0 v1 v2 v3 w; exact tX12_tick_b47_o X ih w
def vX12_tick  (Qn : Int32 → gH → Prop) (h : gH) (v0 : Nat) (v1 : Int32) : Prop := pv h v0 15 25 (.int 0) (fun h1 => vX12_in (fun x3 h2 => ((¬ (x3 : Int32) = 0) → (gi h2 v0 15 19 (fun x4 => ((¬ (x4 : Int32) = 0) → (gr h2 v0 15 0 (fun r5 => nn r5 (fun a6 => li h2 a6 288 (fun x7 => ∃ n : Nat, vX12_tick_b47  Qn n h2 v0 v1 x7 0))))) ∧ (((x4 : Int32) = 0) → (io h2 v0 15 (vX12_fails (fun x9 h8 => Qn x9 h8) h2 v0 2)))))) ∧ (((x3 : Int32) = 0) → (io h2 v0 15 (vX12_fails (fun x11 h10 => Qn x11 h10) h2 v0 1)))) h1 (Int32.toInt64 v1) 1 100)
set_option maxRecDepth 100000 in
set_option maxHeartbeats 4000000 in
theorem tX12_tick {p : Program} {l : Launch} {e : Env} {s : State} {m : MethodId} {args : Array Value} {below : List Frame} {meth : Method} {c : Code} {G : gG} {A : Nat → Prop} {Qn : Int32 → gH → Prop} (X : gC p l s m args meth c G A cX12_tick 4 (some FieldType.int) RX12)   {h : gH} {v0 : Nat} {v1 : Int32} (w : vX12_tick  Qn h v0 v1) : V p l e rmX12_tick s m args below meth c (MQ below (va_Qi Qn (gB G A) A) args s rmX12_tick.cells rmX12_tick.slots A) G A 4 h 0 0 0 [(0, .ref v0), (1, .int v1)] [] := by
  refine V_aloadr_n X dX12_tick_0 0 rfl ?_
  refine V_iconst (y := 0) X dX12_tick_1 (by decide) ?_
  obtain ⟨fs, hh, hv, w⟩ := w
  refine V_put X flX12_94 dX12_tick_2 hh hv rfl rfl ?_
  generalize va_up _ _ _ = h1 at w ⊢
  refine V_iload_n X dX12_tick_5 1 rfl ?_
  refine V_i2l X dX12_tick_6 ?_
  refine V_lconst (y := 1) X dX12_tick_7 (by decide) ?_
  refine V_ldc2 (y := 100) X dX12_tick_8 kw_1762 ?_
  refine V_callSi (As := [.long (Int32.toInt64 v1), .long 1, .long 100]) (rest := []) (k1 := 0) (n1 := 0) X (cX12_in_ok X.2.2.2.2.2.2.2.2.1 w) lkX12_99 dX12_tick_11 ⟨Nat.le_of_ble_eq_true rfl, Nat.le_of_ble_eq_true rfl⟩ rfl (Nat.le_of_ble_eq_true rfl) ⟨Nat.le_of_ble_eq_true rfl, Nat.le_of_ble_eq_true rfl⟩ (Nat.le_of_ble_eq_true rfl) (Nat.le_of_ble_eq_true rfl) (fun x3 h2 w9 => ?_)
  replace w := w9
  clear w9
  obtain ⟨w1, w2⟩ := w
  refine V_if_ne (tgt := 23) X dX12_tick_14 (by decide) (fun z => ?_) (fun z => ?_)
  · replace w := w1 z
    clear w1 w2
    refine V_aloadr_n X dX12_tick_23 0 rfl ?_
    obtain ⟨fs, x4, hh, hv, w⟩ := w
    refine V_get X flX12_145 dX12_tick_24 hh hv ?_
    obtain ⟨w1, w2⟩ := w
    refine V_if_ne (tgt := 36) X dX12_tick_27 (by decide) (fun z => ?_) (fun z => ?_)
    · replace w := w1 z
      clear w1 w2
      refine V_aloadr_n X dX12_tick_36 0 rfl ?_
      obtain ⟨fs, r5, hh, hv, w⟩ := w
      refine V_get X flX12_7 dX12_tick_37 hh hv ?_
      refine V_sipush (y := 288) X dX12_tick_40 (by decide) ?_
      obtain ⟨a6, rfl, w⟩ := w
      obtain ⟨N9, g9, hh, hi, w⟩ := w
      refine V_iald X dX12_tick_43 hh hi ?_
      generalize g9 _ = x7 at w ⊢
      refine V_istore_n X dX12_tick_44 rfl (by decide) rfl ?_
      refine V_iconst (y := 0) X dX12_tick_45 (by decide) ?_
      refine V_istore_n X dX12_tick_46 rfl (by decide) rfl ?_
      obtain ⟨n9, w⟩ := w
      exact V.sub [2, 3, 1, 0] rfl (tX12_tick_b47 X  n9 _ _ _ _ _ w)
    · replace w := w2 z
      clear w1 w2
      refine V_aloadr_n X dX12_tick_30 0 rfl ?_
      refine V_iconst (y := 2) X dX12_tick_31 (by decide) ?_
      obtain ⟨fs, hh, w⟩ := w
      refine V_callVi (As := [.int 2]) (rest := []) (k1 := 0) (n1 := 0) X (cX12_fails_ok X.2.2.2.2.2.2.2.2.1 w) lkX12_103 hh (q9 := (RX12, TX12, 42)) rfl rfl dX12_tick_32 ⟨Nat.le_of_ble_eq_true rfl, Nat.le_of_ble_eq_true rfl⟩ rfl (Nat.le_of_ble_eq_true rfl) ⟨Nat.le_of_ble_eq_true rfl, Nat.le_of_ble_eq_true rfl⟩ (Nat.le_of_ble_eq_true rfl) (Nat.le_of_ble_eq_true rfl) (fun x9 h8 w9 => ?_)
      replace w := w9
      clear w9
      exact V_iret X rfl dX12_tick_35 (Nat.le_of_ble_eq_true rfl) (Nat.le_of_ble_eq_true rfl) w
  · replace w := w2 z
    clear w1 w2
    refine V_aloadr_n X dX12_tick_17 0 rfl ?_
    refine V_iconst (y := 1) X dX12_tick_18 (by decide) ?_
    obtain ⟨fs, hh, w⟩ := w
    refine V_callVi (As := [.int 1]) (rest := []) (k1 := 0) (n1 := 0) X (cX12_fails_ok X.2.2.2.2.2.2.2.2.1 w) lkX12_103 hh (q9 := (RX12, TX12, 42)) rfl rfl dX12_tick_19 ⟨Nat.le_of_ble_eq_true rfl, Nat.le_of_ble_eq_true rfl⟩ rfl (Nat.le_of_ble_eq_true rfl) ⟨Nat.le_of_ble_eq_true rfl, Nat.le_of_ble_eq_true rfl⟩ (Nat.le_of_ble_eq_true rfl) (Nat.le_of_ble_eq_true rfl) (fun x11 h10 w9 => ?_)
    replace w := w9
    clear w9
    exact V_iret X rfl dX12_tick_22 (Nat.le_of_ble_eq_true rfl) (Nat.le_of_ble_eq_true rfl) w
theorem cX12_tick_ok {l : Launch} {G : gG} {h : gH} (hls : l.stackTraces = false) {Qn : Int32 → gH → Prop} {v0 : Nat} {v1 : Int32} (w : vX12_tick Qn h v0 v1) : gMi l yX12_tick cX12_tick 4 (some FieldType.int) rmX12_tick rmX12_tick.cells rmX12_tick.slots G h [.ref v0, .int v1] Qn := by
  exact gMi.of (by decide +kernel) hls (Nat.le_of_ble_eq_true rfl) rfl rfl (fun p e s m below meth c A X hnm => tX12_tick X w)
/-! AnimationControllerModel.reset()I -/
abbrev rmX12_reset : Room := { frames := 2, cells := 0, slots := 0, locals := 43 }
def vX12_reset_b16_o (k16 : gH → Nat → Int32 → Int32 → Prop) (Qn : Int32 → gH → Prop) (h : gH) (v0 : Nat) (v1 : Int32) (v2 : Int32) : Prop := ((8 ≤ (v2 : Int32)) → (io h v0 15 (vX12_begins (fun h1 => gr h1 v0 15 0 (fun r2 => nn r2 (fun a3 => si h1 a3 166 0 (fun h4 => gr h4 v0 15 0 (fun r5 => nn r5 (fun a6 => si h4 a6 287 0 (fun h7 => gr h7 v0 15 0 (fun r8 => nn r8 (fun a9 => si h7 a9 288 0 (fun h10 => Qn v1 h10)))))))))) h v0 ))) ∧ ((¬ 8 ≤ (v2 : Int32)) → (gr h v0 15 0 (fun r11 => nn r11 (fun a12 => si h a12 (0 + v2) 0 (fun h13 => k16 h13 v0 v1 (v2 + 1))))))
set_option maxRecDepth 100000 in
set_option maxHeartbeats 4000000 in
theorem tX12_reset_b16_o {p : Program} {l : Launch} {e : Env} {s : State} {m : MethodId} {args : Array Value} {below : List Frame} {meth : Method} {c : Code} {G : gG} {A : Nat → Prop} {Qn : Int32 → gH → Prop} (X : gC p l s m args meth c G A cX12_reset 3 (some FieldType.int) RX12) {k16 : gH → Nat → Int32 → Int32 → Prop} (H16 : ∀ (h : gH) (v0 : Nat) (v1 : Int32) (v2 : Int32), k16 h v0 v1 v2 → V p l e rmX12_reset s m args below meth c (MQ below (va_Qi Qn (gB G A) A) args s rmX12_reset.cells rmX12_reset.slots A) G A 3 h 0 0 16 [(0, .ref v0), (1, .int v1), (2, .int v2)] []) {h : gH} {v0 : Nat} {v1 : Int32} {v2 : Int32} (w : vX12_reset_b16_o k16 Qn h v0 v1 v2) : V p l e rmX12_reset s m args below meth c (MQ below (va_Qi Qn (gB G A) A) args s rmX12_reset.cells rmX12_reset.slots A) G A 3 h 0 0 16 [(0, .ref v0), (1, .int v1), (2, .int v2)] [] := by
  refine V_iload_n X dX12_reset_16 2 rfl ?_
  refine V_bipush (y := 8) X dX12_reset_17 (by decide) ?_
  obtain ⟨w1, w2⟩ := w
  refine V_icmp_ge (tgt := 37) X dX12_reset_19 (by decide) (fun z => ?_) (fun z => ?_)
  · replace w := w1 z
    clear w1 w2
    refine V_aloadr_n X dX12_reset_37 0 rfl ?_
    obtain ⟨fs, hh, w⟩ := w
    refine V_callVv (As := []) (rest := []) (k1 := 0) (n1 := 0) X (cX12_begins_ok X.2.2.2.2.2.2.2.2.1 w) lkX12_152 hh (q9 := (RX12, TX12, 42)) rfl rfl dX12_reset_38 ⟨Nat.le_of_ble_eq_true rfl, Nat.le_of_ble_eq_true rfl⟩ rfl (Nat.le_of_ble_eq_true rfl) ⟨Nat.le_of_ble_eq_true rfl, Nat.le_of_ble_eq_true rfl⟩ (Nat.le_of_ble_eq_true rfl) (Nat.le_of_ble_eq_true rfl) (fun h1 w9 => ?_)
    replace w := w9
    clear w9
    refine V_aloadr_n X dX12_reset_41 0 rfl ?_
    obtain ⟨fs, r2, hh, hv, w⟩ := w
    refine V_get X flX12_7 dX12_reset_42 hh hv ?_
    refine V_sipush (y := 166) X dX12_reset_45 (by decide) ?_
    refine V_iconst (y := 0) X dX12_reset_48 (by decide) ?_
    obtain ⟨a3, rfl, w⟩ := w
    obtain ⟨N9, g9, hh, hi, w⟩ := w
    refine V_iast X dX12_reset_49 hh hi ?_
    generalize va_up _ _ _ = h4 at w ⊢
    refine V_aloadr_n X dX12_reset_50 0 rfl ?_
    obtain ⟨fs, r5, hh, hv, w⟩ := w
    refine V_get X flX12_7 dX12_reset_51 hh hv ?_
    refine V_sipush (y := 287) X dX12_reset_54 (by decide) ?_
    refine V_iconst (y := 0) X dX12_reset_57 (by decide) ?_
    obtain ⟨a6, rfl, w⟩ := w
    obtain ⟨N9, g9, hh, hi, w⟩ := w
    refine V_iast X dX12_reset_58 hh hi ?_
    generalize va_up _ _ _ = h7 at w ⊢
    refine V_aloadr_n X dX12_reset_59 0 rfl ?_
    obtain ⟨fs, r8, hh, hv, w⟩ := w
    refine V_get X flX12_7 dX12_reset_60 hh hv ?_
    refine V_sipush (y := 288) X dX12_reset_63 (by decide) ?_
    refine V_iconst (y := 0) X dX12_reset_66 (by decide) ?_
    obtain ⟨a9, rfl, w⟩ := w
    obtain ⟨N9, g9, hh, hi, w⟩ := w
    refine V_iast X dX12_reset_67 hh hi ?_
    generalize va_up _ _ _ = h10 at w ⊢
    refine V_iload_n X dX12_reset_68 1 rfl ?_
    exact V_iret X rfl dX12_reset_69 (Nat.le_of_ble_eq_true rfl) (Nat.le_of_ble_eq_true rfl) w
  · replace w := w2 z
    clear w1 w2
    refine V_aloadr_n X dX12_reset_22 0 rfl ?_
    obtain ⟨fs, r11, hh, hv, w⟩ := w
    refine V_get X flX12_7 dX12_reset_23 hh hv ?_
    refine V_iconst (y := 0) X dX12_reset_26 (by decide) ?_
    refine V_iload_n X dX12_reset_27 2 rfl ?_
    refine V_iadd X dX12_reset_28 ?_
    refine V_iconst (y := 0) X dX12_reset_29 (by decide) ?_
    obtain ⟨a12, rfl, w⟩ := w
    obtain ⟨N9, g9, hh, hi, w⟩ := w
    refine V_iast X dX12_reset_30 hh hi ?_
    generalize va_up _ _ _ = h13 at w ⊢
    refine V_iinc (y := (v2 + 1)) X dX12_reset_31 2 rfl (by first | rfl | (congr 1)) (by decide) rfl ?_
    refine V_goto (tgt := 16) X dX12_reset_34 (by decide) ?_
    exact V.sub [1, 2, 0] rfl (H16 _ _ _ _ w)
def vX12_reset_b16  (Qn : Int32 → gH → Prop) (n : Nat) : gH → Nat → Int32 → Int32 → Prop := Nat.rec (motive := fun _ => gH → Nat → Int32 → Int32 → Prop) (fun _ _ _ _ => False) (fun _ k16 => vX12_reset_b16_o k16 Qn) n
theorem tX12_reset_b16 {p : Program} {l : Launch} {e : Env} {s : State} {m : MethodId} {args : Array Value} {below : List Frame} {meth : Method} {c : Code} {G : gG} {A : Nat → Prop} {Qn : Int32 → gH → Prop} (X : gC p l s m args meth c G A cX12_reset 3 (some FieldType.int) RX12)   : ∀ (n : Nat) (h : gH) (v0 : Nat) (v1 : Int32) (v2 : Int32) (w : vX12_reset_b16  Qn n h v0 v1 v2), V p l e rmX12_reset s m args below meth c (MQ below (va_Qi Qn (gB G A) A) args s rmX12_reset.cells rmX12_reset.slots A) G A 3 h 0 0 16 [(0, .ref v0), (1, .int v1), (2, .int v2)] [] := by
  intro n
  induction n with
  | zero => intro h v0 v1 v2 w; exact False.elim w
  | succ n ih => intro h v0 v1 v2 w; exact tX12_reset_b16_o X ih w
def vX12_reset  (Qn : Int32 → gH → Prop) (h : gH) (v0 : Nat) : Prop := pv h v0 15 25 (.int 0) (fun h1 => gr h1 v0 15 0 (fun r2 => nn r2 (fun a3 => li h1 a3 287 (fun x4 => ∃ n : Nat, vX12_reset_b16  Qn n h1 v0 x4 0))))
set_option maxRecDepth 100000 in
set_option maxHeartbeats 4000000 in
theorem tX12_reset {p : Program} {l : Launch} {e : Env} {s : State} {m : MethodId} {args : Array Value} {below : List Frame} {meth : Method} {c : Code} {G : gG} {A : Nat → Prop} {Qn : Int32 → gH → Prop} (X : gC p l s m args meth c G A cX12_reset 3 (some FieldType.int) RX12)   {h : gH} {v0 : Nat} (w : vX12_reset  Qn h v0) : V p l e rmX12_reset s m args below meth c (MQ below (va_Qi Qn (gB G A) A) args s rmX12_reset.cells rmX12_reset.slots A) G A 3 h 0 0 0 [(0, .ref v0)] [] := by
  refine V_aloadr_n X dX12_reset_0 0 rfl ?_
  refine V_iconst (y := 0) X dX12_reset_1 (by decide) ?_
  obtain ⟨fs, hh, hv, w⟩ := w
  refine V_put X flX12_94 dX12_reset_2 hh hv rfl rfl ?_
  generalize va_up _ _ _ = h1 at w ⊢
  refine V_aloadr_n X dX12_reset_5 0 rfl ?_
  obtain ⟨fs, r2, hh, hv, w⟩ := w
  refine V_get X flX12_7 dX12_reset_6 hh hv ?_
  refine V_sipush (y := 287) X dX12_reset_9 (by decide) ?_
  obtain ⟨a3, rfl, w⟩ := w
  obtain ⟨N9, g9, hh, hi, w⟩ := w
  refine V_iald X dX12_reset_12 hh hi ?_
  generalize g9 _ = x4 at w ⊢
  refine V_istore_n X dX12_reset_13 rfl (by decide) rfl ?_
  refine V_iconst (y := 0) X dX12_reset_14 (by decide) ?_
  refine V_istore_n X dX12_reset_15 rfl (by decide) rfl ?_
  obtain ⟨n9, w⟩ := w
  exact V.sub [2, 1, 0] rfl (tX12_reset_b16 X  n9 _ _ _ _ w)
theorem cX12_reset_ok {l : Launch} {G : gG} {h : gH} (hls : l.stackTraces = false) {Qn : Int32 → gH → Prop} {v0 : Nat} (w : vX12_reset Qn h v0) : gMi l yX12_reset cX12_reset 3 (some FieldType.int) rmX12_reset rmX12_reset.cells rmX12_reset.slots G h [.ref v0] Qn := by
  exact gMi.of (by decide +kernel) hls (Nat.le_of_ble_eq_true rfl) rfl rfl (fun p e s m below meth c A X hnm => tX12_reset X w)
/-! AnimationControllerModel.state()I -/
abbrev rmX12_state : Room := { frames := 1, cells := 0, slots := 0, locals := 21 }
def vX12_state_b27  (Qn : Int32 → gH → Prop) (h : gH) (s0 : Int32) : Prop := Qn s0 h
set_option maxRecDepth 100000 in
set_option maxHeartbeats 4000000 in
theorem tX12_state_b27 {p : Program} {l : Launch} {e : Env} {s : State} {m : MethodId} {args : Array Value} {below : List Frame} {meth : Method} {c : Code} {G : gG} {A : Nat → Prop} {Qn : Int32 → gH → Prop} (X : gC p l s m args meth c G A cX12_state 1 (some FieldType.int) RX12)   {h : gH} {s0 : Int32} (w : vX12_state_b27  Qn h s0) : V p l e rmX12_state s m args below meth c (MQ below (va_Qi Qn (gB G A) A) args s rmX12_state.cells rmX12_state.slots A) G A 1 h 0 0 27 [] [.int s0] := by
  exact V_iret X rfl dX12_state_27 (Nat.le_of_ble_eq_true rfl) (Nat.le_of_ble_eq_true rfl) w
def vX12_state  (Qn : Int32 → gH → Prop) (h : gH) (v0 : Nat) : Prop := pv h v0 15 25 (.int 0) (fun h1 => gi h1 v0 15 19 (fun x2 => ((¬ (x2 : Int32) = 0) → (gr h1 v0 15 0 (fun r3 => nn r3 (fun a4 => li h1 a4 12 (fun x5 => vX12_state_b27  Qn h1 x5))))) ∧ (((x2 : Int32) = 0) → (io h1 v0 15 (vX12_fails (fun x7 h6 => vX12_state_b27  Qn h6 x7) h1 v0 1)))))
set_option maxRecDepth 100000 in
set_option maxHeartbeats 4000000 in
theorem tX12_state {p : Program} {l : Launch} {e : Env} {s : State} {m : MethodId} {args : Array Value} {below : List Frame} {meth : Method} {c : Code} {G : gG} {A : Nat → Prop} {Qn : Int32 → gH → Prop} (X : gC p l s m args meth c G A cX12_state 1 (some FieldType.int) RX12)   {h : gH} {v0 : Nat} (w : vX12_state  Qn h v0) : V p l e rmX12_state s m args below meth c (MQ below (va_Qi Qn (gB G A) A) args s rmX12_state.cells rmX12_state.slots A) G A 1 h 0 0 0 [(0, .ref v0)] [] := by
  refine V_aloadr_n X dX12_state_0 0 rfl ?_
  refine V_iconst (y := 0) X dX12_state_1 (by decide) ?_
  obtain ⟨fs, hh, hv, w⟩ := w
  refine V_put X flX12_94 dX12_state_2 hh hv rfl rfl ?_
  generalize va_up _ _ _ = h1 at w ⊢
  refine V_aloadr_n X dX12_state_5 0 rfl ?_
  obtain ⟨fs, x2, hh, hv, w⟩ := w
  refine V_get X flX12_145 dX12_state_6 hh hv ?_
  obtain ⟨w1, w2⟩ := w
  refine V_if_ne (tgt := 20) X dX12_state_9 (by decide) (fun z => ?_) (fun z => ?_)
  · replace w := w1 z
    clear w1 w2
    refine V_aloadr_n X dX12_state_20 0 rfl ?_
    obtain ⟨fs, r3, hh, hv, w⟩ := w
    refine V_get X flX12_7 dX12_state_21 hh hv ?_
    refine V_bipush (y := 12) X dX12_state_24 (by decide) ?_
    obtain ⟨a4, rfl, w⟩ := w
    obtain ⟨N9, g9, hh, hi, w⟩ := w
    refine V_iald X dX12_state_26 hh hi ?_
    generalize g9 _ = x5 at w ⊢
    exact V.sub [] rfl (tX12_state_b27 X  w)
  · replace w := w2 z
    clear w1 w2
    refine V_aloadr_n X dX12_state_12 0 rfl ?_
    refine V_iconst (y := 1) X dX12_state_13 (by decide) ?_
    obtain ⟨fs, hh, w⟩ := w
    refine V_callVi (As := [.int 1]) (rest := []) (k1 := 0) (n1 := 0) X (cX12_fails_ok X.2.2.2.2.2.2.2.2.1 w) lkX12_103 hh (q9 := (RX12, TX12, 42)) rfl rfl dX12_state_14 ⟨Nat.le_of_ble_eq_true rfl, Nat.le_of_ble_eq_true rfl⟩ rfl (Nat.le_of_ble_eq_true rfl) ⟨Nat.le_of_ble_eq_true rfl, Nat.le_of_ble_eq_true rfl⟩ (Nat.le_of_ble_eq_true rfl) (Nat.le_of_ble_eq_true rfl) (fun x7 h6 w9 => ?_)
    replace w := w9
    clear w9
    refine V_goto (tgt := 27) X dX12_state_17 (by decide) ?_
    exact V.sub [] rfl (tX12_state_b27 X  w)
theorem cX12_state_ok {l : Launch} {G : gG} {h : gH} (hls : l.stackTraces = false) {Qn : Int32 → gH → Prop} {v0 : Nat} (w : vX12_state Qn h v0) : gMi l yX12_state cX12_state 1 (some FieldType.int) rmX12_state rmX12_state.cells rmX12_state.slots G h [.ref v0] Qn := by
  exact gMi.of (by decide +kernel) hls (Nat.le_of_ble_eq_true rfl) rfl rfl (fun p e s m below meth c A X hnm => tX12_state X w)
/-! AnimationControllerModel.target()I -/
abbrev rmX12_target : Room := { frames := 0, cells := 0, slots := 0, locals := 0 }
def vX12_target_b26  (Qn : Int32 → gH → Prop) (h : gH) (s0 : Int32) : Prop := Qn s0 h
set_option maxRecDepth 100000 in
set_option maxHeartbeats 4000000 in
theorem tX12_target_b26 {p : Program} {l : Launch} {e : Env} {s : State} {m : MethodId} {args : Array Value} {below : List Frame} {meth : Method} {c : Code} {G : gG} {A : Nat → Prop} {Qn : Int32 → gH → Prop} (X : gC p l s m args meth c G A cX12_target 1 (some FieldType.int) RX12)   {h : gH} {s0 : Int32} (w : vX12_target_b26  Qn h s0) : V p l e rmX12_target s m args below meth c (MQ below (va_Qi Qn (gB G A) A) args s rmX12_target.cells rmX12_target.slots A) G A 1 h 0 0 26 [] [.int s0] := by
  exact V_iret X rfl dX12_target_26 (Nat.le_of_ble_eq_true rfl) (Nat.le_of_ble_eq_true rfl) w
def vX12_target  (Qn : Int32 → gH → Prop) (h : gH) (v0 : Nat) : Prop := pv h v0 15 25 (.int 0) (fun h1 => gr h1 v0 15 0 (fun r2 => nn r2 (fun a3 => li h1 a3 8 (fun x4 => ((¬ (x4 : Int32) = 0) → (gr h1 v0 15 0 (fun r5 => nn r5 (fun a6 => li h1 a6 16 (fun x7 => vX12_target_b26  Qn h1 x7))))) ∧ (((x4 : Int32) = 0) → (vX12_target_b26  Qn h1 (-1)))))))
set_option maxRecDepth 100000 in
set_option maxHeartbeats 4000000 in
theorem tX12_target {p : Program} {l : Launch} {e : Env} {s : State} {m : MethodId} {args : Array Value} {below : List Frame} {meth : Method} {c : Code} {G : gG} {A : Nat → Prop} {Qn : Int32 → gH → Prop} (X : gC p l s m args meth c G A cX12_target 1 (some FieldType.int) RX12)   {h : gH} {v0 : Nat} (w : vX12_target  Qn h v0) : V p l e rmX12_target s m args below meth c (MQ below (va_Qi Qn (gB G A) A) args s rmX12_target.cells rmX12_target.slots A) G A 1 h 0 0 0 [(0, .ref v0)] [] := by
  refine V_aloadr_n X dX12_target_0 0 rfl ?_
  refine V_iconst (y := 0) X dX12_target_1 (by decide) ?_
  obtain ⟨fs, hh, hv, w⟩ := w
  refine V_put X flX12_94 dX12_target_2 hh hv rfl rfl ?_
  generalize va_up _ _ _ = h1 at w ⊢
  refine V_aloadr_n X dX12_target_5 0 rfl ?_
  obtain ⟨fs, r2, hh, hv, w⟩ := w
  refine V_get X flX12_7 dX12_target_6 hh hv ?_
  refine V_bipush (y := 8) X dX12_target_9 (by decide) ?_
  obtain ⟨a3, rfl, w⟩ := w
  obtain ⟨N9, g9, hh, hi, w⟩ := w
  refine V_iald X dX12_target_11 hh hi ?_
  generalize g9 _ = x4 at w ⊢
  obtain ⟨w1, w2⟩ := w
  refine V_if_ne (tgt := 19) X dX12_target_12 (by decide) (fun z => ?_) (fun z => ?_)
  · replace w := w1 z
    clear w1 w2
    refine V_aloadr_n X dX12_target_19 0 rfl ?_
    obtain ⟨fs, r5, hh, hv, w⟩ := w
    refine V_get X flX12_7 dX12_target_20 hh hv ?_
    refine V_bipush (y := 16) X dX12_target_23 (by decide) ?_
    obtain ⟨a6, rfl, w⟩ := w
    obtain ⟨N9, g9, hh, hi, w⟩ := w
    refine V_iald X dX12_target_25 hh hi ?_
    generalize g9 _ = x7 at w ⊢
    exact V.sub [] rfl (tX12_target_b26 X  w)
  · replace w := w2 z
    clear w1 w2
    refine V_iconst (y := (-1)) X dX12_target_15 (by decide) ?_
    refine V_goto (tgt := 26) X dX12_target_16 (by decide) ?_
    exact V.sub [] rfl (tX12_target_b26 X  w)
theorem cX12_target_ok {l : Launch} {G : gG} {h : gH} (hls : l.stackTraces = false) {Qn : Int32 → gH → Prop} {v0 : Nat} (w : vX12_target Qn h v0) : gMi l yX12_target cX12_target 1 (some FieldType.int) rmX12_target rmX12_target.cells rmX12_target.slots G h [.ref v0] Qn := by
  exact gMi.of (by decide +kernel) hls (Nat.le_of_ble_eq_true rfl) rfl rfl (fun p e s m below meth c A X hnm => tX12_target X w)
/-! AnimationControllerModel.transition()I -/
abbrev rmX12_transition : Room := { frames := 0, cells := 0, slots := 0, locals := 0 }
def vX12_transition_b26  (Qn : Int32 → gH → Prop) (h : gH) (s0 : Int32) : Prop := Qn s0 h
set_option maxRecDepth 100000 in
set_option maxHeartbeats 4000000 in
theorem tX12_transition_b26 {p : Program} {l : Launch} {e : Env} {s : State} {m : MethodId} {args : Array Value} {below : List Frame} {meth : Method} {c : Code} {G : gG} {A : Nat → Prop} {Qn : Int32 → gH → Prop} (X : gC p l s m args meth c G A cX12_transition 1 (some FieldType.int) RX12)   {h : gH} {s0 : Int32} (w : vX12_transition_b26  Qn h s0) : V p l e rmX12_transition s m args below meth c (MQ below (va_Qi Qn (gB G A) A) args s rmX12_transition.cells rmX12_transition.slots A) G A 1 h 0 0 26 [] [.int s0] := by
  exact V_iret X rfl dX12_transition_26 (Nat.le_of_ble_eq_true rfl) (Nat.le_of_ble_eq_true rfl) w
def vX12_transition  (Qn : Int32 → gH → Prop) (h : gH) (v0 : Nat) : Prop := pv h v0 15 25 (.int 0) (fun h1 => gr h1 v0 15 0 (fun r2 => nn r2 (fun a3 => li h1 a3 8 (fun x4 => ((¬ (x4 : Int32) = 0) → (gr h1 v0 15 0 (fun r5 => nn r5 (fun a6 => li h1 a6 9 (fun x7 => vX12_transition_b26  Qn h1 x7))))) ∧ (((x4 : Int32) = 0) → (vX12_transition_b26  Qn h1 (-1)))))))
set_option maxRecDepth 100000 in
set_option maxHeartbeats 4000000 in
theorem tX12_transition {p : Program} {l : Launch} {e : Env} {s : State} {m : MethodId} {args : Array Value} {below : List Frame} {meth : Method} {c : Code} {G : gG} {A : Nat → Prop} {Qn : Int32 → gH → Prop} (X : gC p l s m args meth c G A cX12_transition 1 (some FieldType.int) RX12)   {h : gH} {v0 : Nat} (w : vX12_transition  Qn h v0) : V p l e rmX12_transition s m args below meth c (MQ below (va_Qi Qn (gB G A) A) args s rmX12_transition.cells rmX12_transition.slots A) G A 1 h 0 0 0 [(0, .ref v0)] [] := by
  refine V_aloadr_n X dX12_transition_0 0 rfl ?_
  refine V_iconst (y := 0) X dX12_transition_1 (by decide) ?_
  obtain ⟨fs, hh, hv, w⟩ := w
  refine V_put X flX12_94 dX12_transition_2 hh hv rfl rfl ?_
  generalize va_up _ _ _ = h1 at w ⊢
  refine V_aloadr_n X dX12_transition_5 0 rfl ?_
  obtain ⟨fs, r2, hh, hv, w⟩ := w
  refine V_get X flX12_7 dX12_transition_6 hh hv ?_
  refine V_bipush (y := 8) X dX12_transition_9 (by decide) ?_
  obtain ⟨a3, rfl, w⟩ := w
  obtain ⟨N9, g9, hh, hi, w⟩ := w
  refine V_iald X dX12_transition_11 hh hi ?_
  generalize g9 _ = x4 at w ⊢
  obtain ⟨w1, w2⟩ := w
  refine V_if_ne (tgt := 19) X dX12_transition_12 (by decide) (fun z => ?_) (fun z => ?_)
  · replace w := w1 z
    clear w1 w2
    refine V_aloadr_n X dX12_transition_19 0 rfl ?_
    obtain ⟨fs, r5, hh, hv, w⟩ := w
    refine V_get X flX12_7 dX12_transition_20 hh hv ?_
    refine V_bipush (y := 9) X dX12_transition_23 (by decide) ?_
    obtain ⟨a6, rfl, w⟩ := w
    obtain ⟨N9, g9, hh, hi, w⟩ := w
    refine V_iald X dX12_transition_25 hh hi ?_
    generalize g9 _ = x7 at w ⊢
    exact V.sub [] rfl (tX12_transition_b26 X  w)
  · replace w := w2 z
    clear w1 w2
    refine V_iconst (y := (-1)) X dX12_transition_15 (by decide) ?_
    refine V_goto (tgt := 26) X dX12_transition_16 (by decide) ?_
    exact V.sub [] rfl (tX12_transition_b26 X  w)
theorem cX12_transition_ok {l : Launch} {G : gG} {h : gH} (hls : l.stackTraces = false) {Qn : Int32 → gH → Prop} {v0 : Nat} (w : vX12_transition Qn h v0) : gMi l yX12_transition cX12_transition 1 (some FieldType.int) rmX12_transition rmX12_transition.cells rmX12_transition.slots G h [.ref v0] Qn := by
  exact gMi.of (by decide +kernel) hls (Nat.le_of_ble_eq_true rfl) rfl rfl (fun p e s m below meth c A X hnm => tX12_transition X w)
/-! AnimationControllerModel.elapsed()I -/
abbrev rmX12_elapsed : Room := { frames := 0, cells := 0, slots := 0, locals := 0 }
def vX12_elapsed_b26  (Qn : Int32 → gH → Prop) (h : gH) (s0 : Int32) : Prop := Qn s0 h
set_option maxRecDepth 100000 in
set_option maxHeartbeats 4000000 in
theorem tX12_elapsed_b26 {p : Program} {l : Launch} {e : Env} {s : State} {m : MethodId} {args : Array Value} {below : List Frame} {meth : Method} {c : Code} {G : gG} {A : Nat → Prop} {Qn : Int32 → gH → Prop} (X : gC p l s m args meth c G A cX12_elapsed 1 (some FieldType.int) RX12)   {h : gH} {s0 : Int32} (w : vX12_elapsed_b26  Qn h s0) : V p l e rmX12_elapsed s m args below meth c (MQ below (va_Qi Qn (gB G A) A) args s rmX12_elapsed.cells rmX12_elapsed.slots A) G A 1 h 0 0 26 [] [.int s0] := by
  exact V_iret X rfl dX12_elapsed_26 (Nat.le_of_ble_eq_true rfl) (Nat.le_of_ble_eq_true rfl) w
def vX12_elapsed  (Qn : Int32 → gH → Prop) (h : gH) (v0 : Nat) : Prop := pv h v0 15 25 (.int 0) (fun h1 => gr h1 v0 15 0 (fun r2 => nn r2 (fun a3 => li h1 a3 8 (fun x4 => ((¬ (x4 : Int32) = 0) → (gr h1 v0 15 0 (fun r5 => nn r5 (fun a6 => li h1 a6 10 (fun x7 => vX12_elapsed_b26  Qn h1 x7))))) ∧ (((x4 : Int32) = 0) → (vX12_elapsed_b26  Qn h1 (-1)))))))
set_option maxRecDepth 100000 in
set_option maxHeartbeats 4000000 in
theorem tX12_elapsed {p : Program} {l : Launch} {e : Env} {s : State} {m : MethodId} {args : Array Value} {below : List Frame} {meth : Method} {c : Code} {G : gG} {A : Nat → Prop} {Qn : Int32 → gH → Prop} (X : gC p l s m args meth c G A cX12_elapsed 1 (some FieldType.int) RX12)   {h : gH} {v0 : Nat} (w : vX12_elapsed  Qn h v0) : V p l e rmX12_elapsed s m args below meth c (MQ below (va_Qi Qn (gB G A) A) args s rmX12_elapsed.cells rmX12_elapsed.slots A) G A 1 h 0 0 0 [(0, .ref v0)] [] := by
  refine V_aloadr_n X dX12_elapsed_0 0 rfl ?_
  refine V_iconst (y := 0) X dX12_elapsed_1 (by decide) ?_
  obtain ⟨fs, hh, hv, w⟩ := w
  refine V_put X flX12_94 dX12_elapsed_2 hh hv rfl rfl ?_
  generalize va_up _ _ _ = h1 at w ⊢
  refine V_aloadr_n X dX12_elapsed_5 0 rfl ?_
  obtain ⟨fs, r2, hh, hv, w⟩ := w
  refine V_get X flX12_7 dX12_elapsed_6 hh hv ?_
  refine V_bipush (y := 8) X dX12_elapsed_9 (by decide) ?_
  obtain ⟨a3, rfl, w⟩ := w
  obtain ⟨N9, g9, hh, hi, w⟩ := w
  refine V_iald X dX12_elapsed_11 hh hi ?_
  generalize g9 _ = x4 at w ⊢
  obtain ⟨w1, w2⟩ := w
  refine V_if_ne (tgt := 19) X dX12_elapsed_12 (by decide) (fun z => ?_) (fun z => ?_)
  · replace w := w1 z
    clear w1 w2
    refine V_aloadr_n X dX12_elapsed_19 0 rfl ?_
    obtain ⟨fs, r5, hh, hv, w⟩ := w
    refine V_get X flX12_7 dX12_elapsed_20 hh hv ?_
    refine V_bipush (y := 10) X dX12_elapsed_23 (by decide) ?_
    obtain ⟨a6, rfl, w⟩ := w
    obtain ⟨N9, g9, hh, hi, w⟩ := w
    refine V_iald X dX12_elapsed_25 hh hi ?_
    generalize g9 _ = x7 at w ⊢
    exact V.sub [] rfl (tX12_elapsed_b26 X  w)
  · replace w := w2 z
    clear w1 w2
    refine V_iconst (y := (-1)) X dX12_elapsed_15 (by decide) ?_
    refine V_goto (tgt := 26) X dX12_elapsed_16 (by decide) ?_
    exact V.sub [] rfl (tX12_elapsed_b26 X  w)
theorem cX12_elapsed_ok {l : Launch} {G : gG} {h : gH} (hls : l.stackTraces = false) {Qn : Int32 → gH → Prop} {v0 : Nat} (w : vX12_elapsed Qn h v0) : gMi l yX12_elapsed cX12_elapsed 1 (some FieldType.int) rmX12_elapsed rmX12_elapsed.cells rmX12_elapsed.slots G h [.ref v0] Qn := by
  exact gMi.of (by decide +kernel) hls (Nat.le_of_ble_eq_true rfl) rfl rfl (fun p e s m below meth c A X hnm => tX12_elapsed X w)
/-! AnimationControllerModel.isFrozen()Z -/
abbrev rmX12_isFrozen : Room := { frames := 0, cells := 0, slots := 0, locals := 0 }
def vX12_isFrozen_b32  (Qn : Int32 → gH → Prop) (h : gH) (s0 : Int32) : Prop := gZ s0 ∧ Qn s0 h
set_option maxRecDepth 100000 in
set_option maxHeartbeats 4000000 in
theorem tX12_isFrozen_b32 {p : Program} {l : Launch} {e : Env} {s : State} {m : MethodId} {args : Array Value} {below : List Frame} {meth : Method} {c : Code} {G : gG} {A : Nat → Prop} {Qn : Int32 → gH → Prop} (X : gC p l s m args meth c G A cX12_isFrozen 1 (some FieldType.boolean) RX12)   {h : gH} {s0 : Int32} (w : vX12_isFrozen_b32  Qn h s0) : V p l e rmX12_isFrozen s m args below meth c (MQ below (va_Qi Qn (gB G A) A) args s rmX12_isFrozen.cells rmX12_isFrozen.slots A) G A 1 h 0 0 32 [] [.int s0] := by
  obtain ⟨hz, w⟩ := w
  exact V_zret X rfl hz.1 dX12_isFrozen_32 (Nat.le_of_ble_eq_true rfl) (Nat.le_of_ble_eq_true rfl) w
def vX12_isFrozen_b31  (Qn : Int32 → gH → Prop) (h : gH)  : Prop := vX12_isFrozen_b32  Qn h 0
set_option maxRecDepth 100000 in
set_option maxHeartbeats 4000000 in
theorem tX12_isFrozen_b31 {p : Program} {l : Launch} {e : Env} {s : State} {m : MethodId} {args : Array Value} {below : List Frame} {meth : Method} {c : Code} {G : gG} {A : Nat → Prop} {Qn : Int32 → gH → Prop} (X : gC p l s m args meth c G A cX12_isFrozen 1 (some FieldType.boolean) RX12)   {h : gH}  (w : vX12_isFrozen_b31  Qn h ) : V p l e rmX12_isFrozen s m args below meth c (MQ below (va_Qi Qn (gB G A) A) args s rmX12_isFrozen.cells rmX12_isFrozen.slots A) G A 1 h 0 0 31 [] [] := by
  refine V_iconst (y := 0) X dX12_isFrozen_31 (by decide) ?_
  exact V.sub [] rfl (tX12_isFrozen_b32 X  w)
def vX12_isFrozen  (Qn : Int32 → gH → Prop) (h : gH) (v0 : Nat) : Prop := pv h v0 15 25 (.int 0) (fun h1 => gr h1 v0 15 0 (fun r2 => nn r2 (fun a3 => li h1 a3 8 (fun x4 => ((¬ (x4 : Int32) = 1) → (vX12_isFrozen_b31  Qn h1 )) ∧ (((x4 : Int32) = 1) → (gr h1 v0 15 0 (fun r5 => nn r5 (fun a6 => li h1 a6 20 (fun x7 => ((¬ (x7 : Int32) = 1) → (vX12_isFrozen_b31  Qn h1 )) ∧ (((x7 : Int32) = 1) → (vX12_isFrozen_b32  Qn h1 1)))))))))))
set_option maxRecDepth 100000 in
set_option maxHeartbeats 4000000 in
theorem tX12_isFrozen {p : Program} {l : Launch} {e : Env} {s : State} {m : MethodId} {args : Array Value} {below : List Frame} {meth : Method} {c : Code} {G : gG} {A : Nat → Prop} {Qn : Int32 → gH → Prop} (X : gC p l s m args meth c G A cX12_isFrozen 1 (some FieldType.boolean) RX12)   {h : gH} {v0 : Nat} (w : vX12_isFrozen  Qn h v0) : V p l e rmX12_isFrozen s m args below meth c (MQ below (va_Qi Qn (gB G A) A) args s rmX12_isFrozen.cells rmX12_isFrozen.slots A) G A 1 h 0 0 0 [(0, .ref v0)] [] := by
  refine V_aloadr_n X dX12_isFrozen_0 0 rfl ?_
  refine V_iconst (y := 0) X dX12_isFrozen_1 (by decide) ?_
  obtain ⟨fs, hh, hv, w⟩ := w
  refine V_put X flX12_94 dX12_isFrozen_2 hh hv rfl rfl ?_
  generalize va_up _ _ _ = h1 at w ⊢
  refine V_aloadr_n X dX12_isFrozen_5 0 rfl ?_
  obtain ⟨fs, r2, hh, hv, w⟩ := w
  refine V_get X flX12_7 dX12_isFrozen_6 hh hv ?_
  refine V_bipush (y := 8) X dX12_isFrozen_9 (by decide) ?_
  obtain ⟨a3, rfl, w⟩ := w
  obtain ⟨N9, g9, hh, hi, w⟩ := w
  refine V_iald X dX12_isFrozen_11 hh hi ?_
  generalize g9 _ = x4 at w ⊢
  refine V_iconst (y := 1) X dX12_isFrozen_12 (by decide) ?_
  obtain ⟨w1, w2⟩ := w
  refine V_icmp_ne (tgt := 31) X dX12_isFrozen_13 (by decide) (fun z => ?_) (fun z => ?_)
  · replace w := w1 z
    clear w1 w2
    exact V.sub [] rfl (tX12_isFrozen_b31 X  w)
  · replace w := w2 z
    clear w1 w2
    refine V_aloadr_n X dX12_isFrozen_16 0 rfl ?_
    obtain ⟨fs, r5, hh, hv, w⟩ := w
    refine V_get X flX12_7 dX12_isFrozen_17 hh hv ?_
    refine V_bipush (y := 20) X dX12_isFrozen_20 (by decide) ?_
    obtain ⟨a6, rfl, w⟩ := w
    obtain ⟨N9, g9, hh, hi, w⟩ := w
    refine V_iald X dX12_isFrozen_22 hh hi ?_
    generalize g9 _ = x7 at w ⊢
    refine V_iconst (y := 1) X dX12_isFrozen_23 (by decide) ?_
    obtain ⟨w1, w2⟩ := w
    refine V_icmp_ne (tgt := 31) X dX12_isFrozen_24 (by decide) (fun z => ?_) (fun z => ?_)
    · replace w := w1 z
      clear w1 w2
      exact V.sub [] rfl (tX12_isFrozen_b31 X  w)
    · replace w := w2 z
      clear w1 w2
      refine V_iconst (y := 1) X dX12_isFrozen_27 (by decide) ?_
      refine V_goto (tgt := 32) X dX12_isFrozen_28 (by decide) ?_
      exact V.sub [] rfl (tX12_isFrozen_b32 X  w)
theorem cX12_isFrozen_ok {l : Launch} {G : gG} {h : gH} (hls : l.stackTraces = false) {Qn : Int32 → gH → Prop} {v0 : Nat} (w : vX12_isFrozen Qn h v0) : gMi l yX12_isFrozen cX12_isFrozen 1 (some FieldType.boolean) rmX12_isFrozen rmX12_isFrozen.cells rmX12_isFrozen.slots G h [.ref v0] Qn := by
  exact gMi.of (by decide +kernel) hls (Nat.le_of_ble_eq_true rfl) rfl rfl (fun p e s m below meth c A X hnm => tX12_isFrozen X w)
/-! AnimationControllerModel.progress(Z)J -/
abbrev rmX12_progress : Room := { frames := 1, cells := 0, slots := 0, locals := 21 }
def vX12_progress_b26  (Qn : Int64 → gH → Prop) (h : gH) (v0 : Nat) : Prop := io h v0 15 (vX12_fails (fun x2 h1 => Qn 0 h1) h v0 1)
set_option maxRecDepth 100000 in
set_option maxHeartbeats 4000000 in
theorem tX12_progress_b26 {p : Program} {l : Launch} {e : Env} {s : State} {m : MethodId} {args : Array Value} {below : List Frame} {meth : Method} {c : Code} {G : gG} {A : Nat → Prop} {Qn : Int64 → gH → Prop} (X : gC p l s m args meth c G A cX12_progress 2 (some FieldType.long) RX12)   {h : gH} {v0 : Nat} (w : vX12_progress_b26  Qn h v0) : V p l e rmX12_progress s m args below meth c (MQ below (va_Ql Qn (gB G A) A) args s rmX12_progress.cells rmX12_progress.slots A) G A 2 h 0 0 26 [(0, .ref v0)] [] := by
  refine V_aloadr_n X dX12_progress_26 0 rfl ?_
  refine V_iconst (y := 1) X dX12_progress_27 (by decide) ?_
  obtain ⟨fs, hh, w⟩ := w
  refine V_callVi (As := [.int 1]) (rest := []) (k1 := 0) (n1 := 0) X (cX12_fails_ok X.2.2.2.2.2.2.2.2.1 w) lkX12_103 hh (q9 := (RX12, TX12, 42)) rfl rfl dX12_progress_28 ⟨Nat.le_of_ble_eq_true rfl, Nat.le_of_ble_eq_true rfl⟩ rfl (Nat.le_of_ble_eq_true rfl) ⟨Nat.le_of_ble_eq_true rfl, Nat.le_of_ble_eq_true rfl⟩ (Nat.le_of_ble_eq_true rfl) (Nat.le_of_ble_eq_true rfl) (fun x2 h1 w9 => ?_)
  replace w := w9
  clear w9
  refine V_pop X dX12_progress_31 rfl ?_
  refine V_lconst (y := 0) X dX12_progress_32 (by decide) ?_
  exact V_lret X rfl dX12_progress_33 (Nat.le_of_ble_eq_true rfl) (Nat.le_of_ble_eq_true rfl) w
def vX12_progress_b46  (Qn : Int64 → gH → Prop) (h : gH) (s0 : Int32) (s1 : Nat) : Prop := io h s1 15 (vX12_progressOf (fun x2 h1 => Qn x2 h1) h s1 s0)
set_option maxRecDepth 100000 in
set_option maxHeartbeats 4000000 in
theorem tX12_progress_b46 {p : Program} {l : Launch} {e : Env} {s : State} {m : MethodId} {args : Array Value} {below : List Frame} {meth : Method} {c : Code} {G : gG} {A : Nat → Prop} {Qn : Int64 → gH → Prop} (X : gC p l s m args meth c G A cX12_progress 2 (some FieldType.long) RX12)   {h : gH} {s0 : Int32} {s1 : Nat} (w : vX12_progress_b46  Qn h s0 s1) : V p l e rmX12_progress s m args below meth c (MQ below (va_Ql Qn (gB G A) A) args s rmX12_progress.cells rmX12_progress.slots A) G A 2 h 0 0 46 [] [.int s0, .ref s1] := by
  obtain ⟨fs, hh, w⟩ := w
  refine V_callVl (As := [.int s0]) (rest := []) (k1 := 0) (n1 := 0) X (cX12_progressOf_ok X.2.2.2.2.2.2.2.2.1 w) lkX12_257 hh (q9 := (RX12, TX12, 42)) rfl rfl dX12_progress_46 ⟨Nat.le_of_ble_eq_true rfl, Nat.le_of_ble_eq_true rfl⟩ rfl (Nat.le_of_ble_eq_true rfl) ⟨Nat.le_of_ble_eq_true rfl, Nat.le_of_ble_eq_true rfl⟩ (Nat.le_of_ble_eq_true rfl) (Nat.le_of_ble_eq_true rfl) (fun x2 h1 w9 => ?_)
  replace w := w9
  clear w9
  exact V_lret X rfl dX12_progress_49 (Nat.le_of_ble_eq_true rfl) (Nat.le_of_ble_eq_true rfl) w
def vX12_progress_b34  (Qn : Int64 → gH → Prop) (h : gH) (v0 : Nat) (v1 : Int32) : Prop := (((v1 : Int32) = 0) → (vX12_progress_b46  Qn h 12 v0)) ∧ ((¬ (v1 : Int32) = 0) → (vX12_progress_b46  Qn h 16 v0))
set_option maxRecDepth 100000 in
set_option maxHeartbeats 4000000 in
theorem tX12_progress_b34 {p : Program} {l : Launch} {e : Env} {s : State} {m : MethodId} {args : Array Value} {below : List Frame} {meth : Method} {c : Code} {G : gG} {A : Nat → Prop} {Qn : Int64 → gH → Prop} (X : gC p l s m args meth c G A cX12_progress 2 (some FieldType.long) RX12)   {h : gH} {v0 : Nat} {v1 : Int32} (w : vX12_progress_b34  Qn h v0 v1) : V p l e rmX12_progress s m args below meth c (MQ below (va_Ql Qn (gB G A) A) args s rmX12_progress.cells rmX12_progress.slots A) G A 2 h 0 0 34 [(0, .ref v0), (1, .int v1)] [] := by
  refine V_aloadr_n X dX12_progress_34 0 rfl ?_
  refine V_iload_n X dX12_progress_35 1 rfl ?_
  obtain ⟨w1, w2⟩ := w
  refine V_if_eq (tgt := 44) X dX12_progress_36 (by decide) (fun z => ?_) (fun z => ?_)
  · replace w := w1 z
    clear w1 w2
    refine V_bipush (y := 12) X dX12_progress_44 (by decide) ?_
    exact V.sub [] rfl (tX12_progress_b46 X  w)
  · replace w := w2 z
    clear w1 w2
    refine V_bipush (y := 16) X dX12_progress_39 (by decide) ?_
    refine V_goto (tgt := 46) X dX12_progress_41 (by decide) ?_
    exact V.sub [] rfl (tX12_progress_b46 X  w)
def vX12_progress  (Qn : Int64 → gH → Prop) (h : gH) (v0 : Nat) (v1 : Int32) : Prop := pv h v0 15 25 (.int 0) (fun h1 => gi h1 v0 15 19 (fun x2 => (((x2 : Int32) = 0) → (vX12_progress_b26  Qn h1 v0)) ∧ ((¬ (x2 : Int32) = 0) → ((((v1 : Int32) = 0) → (vX12_progress_b34  Qn h1 v0 v1)) ∧ ((¬ (v1 : Int32) = 0) → (gr h1 v0 15 0 (fun r3 => nn r3 (fun a4 => li h1 a4 8 (fun x5 => ((¬ (x5 : Int32) = 0) → (vX12_progress_b34  Qn h1 v0 v1)) ∧ (((x5 : Int32) = 0) → (vX12_progress_b26  Qn h1 v0)))))))))))
set_option maxRecDepth 100000 in
set_option maxHeartbeats 4000000 in
theorem tX12_progress {p : Program} {l : Launch} {e : Env} {s : State} {m : MethodId} {args : Array Value} {below : List Frame} {meth : Method} {c : Code} {G : gG} {A : Nat → Prop} {Qn : Int64 → gH → Prop} (X : gC p l s m args meth c G A cX12_progress 2 (some FieldType.long) RX12)   {h : gH} {v0 : Nat} {v1 : Int32} (w : vX12_progress  Qn h v0 v1) : V p l e rmX12_progress s m args below meth c (MQ below (va_Ql Qn (gB G A) A) args s rmX12_progress.cells rmX12_progress.slots A) G A 2 h 0 0 0 [(0, .ref v0), (1, .int v1)] [] := by
  refine V_aloadr_n X dX12_progress_0 0 rfl ?_
  refine V_iconst (y := 0) X dX12_progress_1 (by decide) ?_
  obtain ⟨fs, hh, hv, w⟩ := w
  refine V_put X flX12_94 dX12_progress_2 hh hv rfl rfl ?_
  generalize va_up _ _ _ = h1 at w ⊢
  refine V_aloadr_n X dX12_progress_5 0 rfl ?_
  obtain ⟨fs, x2, hh, hv, w⟩ := w
  refine V_get X flX12_145 dX12_progress_6 hh hv ?_
  obtain ⟨w1, w2⟩ := w
  refine V_if_eq (tgt := 26) X dX12_progress_9 (by decide) (fun z => ?_) (fun z => ?_)
  · replace w := w1 z
    clear w1 w2
    exact V.sub [0] rfl (tX12_progress_b26 X  w)
  · replace w := w2 z
    clear w1 w2
    refine V_iload_n X dX12_progress_12 1 rfl ?_
    obtain ⟨w1, w2⟩ := w
    refine V_if_eq (tgt := 34) X dX12_progress_13 (by decide) (fun z => ?_) (fun z => ?_)
    · replace w := w1 z
      clear w1 w2
      exact V.sub [0, 1] rfl (tX12_progress_b34 X  w)
    · replace w := w2 z
      clear w1 w2
      refine V_aloadr_n X dX12_progress_16 0 rfl ?_
      obtain ⟨fs, r3, hh, hv, w⟩ := w
      refine V_get X flX12_7 dX12_progress_17 hh hv ?_
      refine V_bipush (y := 8) X dX12_progress_20 (by decide) ?_
      obtain ⟨a4, rfl, w⟩ := w
      obtain ⟨N9, g9, hh, hi, w⟩ := w
      refine V_iald X dX12_progress_22 hh hi ?_
      generalize g9 _ = x5 at w ⊢
      obtain ⟨w1, w2⟩ := w
      refine V_if_ne (tgt := 34) X dX12_progress_23 (by decide) (fun z => ?_) (fun z => ?_)
      · replace w := w1 z
        clear w1 w2
        exact V.sub [0, 1] rfl (tX12_progress_b34 X  w)
      · replace w := w2 z
        clear w1 w2
        exact V.sub [0] rfl (tX12_progress_b26 X  w)
theorem cX12_progress_ok {l : Launch} {G : gG} {h : gH} (hls : l.stackTraces = false) {Qn : Int64 → gH → Prop} {v0 : Nat} {v1 : Int32} (w : vX12_progress Qn h v0 v1) : gMl l yX12_progress cX12_progress 2 (some FieldType.long) rmX12_progress rmX12_progress.cells rmX12_progress.slots G h [.ref v0, .int v1] Qn := by
  exact gMl.of (by decide +kernel) hls (Nat.le_of_ble_eq_true rfl) rfl rfl (fun p e s m below meth c A X hnm => tX12_progress X w)
/-! AnimationControllerModel.stateLength(I)I -/
abbrev rmX12_stateLength : Room := { frames := 3, cells := 0, slots := 0, locals := 80 }
def vX12_stateLength_b27  (Qn : Int32 → gH → Prop) (h : gH) (s0 : Int32) : Prop := Qn s0 h
set_option maxRecDepth 100000 in
set_option maxHeartbeats 4000000 in
theorem tX12_stateLength_b27 {p : Program} {l : Launch} {e : Env} {s : State} {m : MethodId} {args : Array Value} {below : List Frame} {meth : Method} {c : Code} {G : gG} {A : Nat → Prop} {Qn : Int32 → gH → Prop} (X : gC p l s m args meth c G A cX12_stateLength 2 (some FieldType.int) RX12)   {h : gH} {s0 : Int32} (w : vX12_stateLength_b27  Qn h s0) : V p l e rmX12_stateLength s m args below meth c (MQ below (va_Qi Qn (gB G A) A) args s rmX12_stateLength.cells rmX12_stateLength.slots A) G A 2 h 0 0 27 [] [.int s0] := by
  exact V_iret X rfl dX12_stateLength_27 (Nat.le_of_ble_eq_true rfl) (Nat.le_of_ble_eq_true rfl) w
def vX12_stateLength  (Qn : Int32 → gH → Prop) (h : gH) (v0 : Nat) (v1 : Int32) : Prop := pv h v0 15 25 (.int 0) (fun h1 => io h1 v0 15 (vX12_isState (fun x3 h2 => (((x3 : Int32) = 0) → (io h2 v0 15 (vX12_fails (fun x5 h4 => vX12_stateLength_b27  Qn h4 x5) h2 v0 1))) ∧ ((¬ (x3 : Int32) = 0) → (io h2 v0 15 (vX12_lengthOf (fun x7 h6 => vX12_stateLength_b27  Qn h6 (Int64.toInt32 x7)) h2 v0 v1)))) h1 v0 v1))
set_option maxRecDepth 100000 in
set_option maxHeartbeats 4000000 in
theorem tX12_stateLength {p : Program} {l : Launch} {e : Env} {s : State} {m : MethodId} {args : Array Value} {below : List Frame} {meth : Method} {c : Code} {G : gG} {A : Nat → Prop} {Qn : Int32 → gH → Prop} (X : gC p l s m args meth c G A cX12_stateLength 2 (some FieldType.int) RX12)   {h : gH} {v0 : Nat} {v1 : Int32} (w : vX12_stateLength  Qn h v0 v1) : V p l e rmX12_stateLength s m args below meth c (MQ below (va_Qi Qn (gB G A) A) args s rmX12_stateLength.cells rmX12_stateLength.slots A) G A 2 h 0 0 0 [(0, .ref v0), (1, .int v1)] [] := by
  refine V_aloadr_n X dX12_stateLength_0 0 rfl ?_
  refine V_iconst (y := 0) X dX12_stateLength_1 (by decide) ?_
  obtain ⟨fs, hh, hv, w⟩ := w
  refine V_put X flX12_94 dX12_stateLength_2 hh hv rfl rfl ?_
  generalize va_up _ _ _ = h1 at w ⊢
  refine V_aloadr_n X dX12_stateLength_5 0 rfl ?_
  refine V_iload_n X dX12_stateLength_6 1 rfl ?_
  obtain ⟨fs, hh, w⟩ := w
  refine V_callVi (As := [.int v1]) (rest := []) (k1 := 0) (n1 := 0) X (cX12_isState_ok X.2.2.2.2.2.2.2.2.1 w) lkX12_162 hh (q9 := (RX12, TX12, 42)) rfl rfl dX12_stateLength_7 ⟨Nat.le_of_ble_eq_true rfl, Nat.le_of_ble_eq_true rfl⟩ rfl (Nat.le_of_ble_eq_true rfl) ⟨Nat.le_of_ble_eq_true rfl, Nat.le_of_ble_eq_true rfl⟩ (Nat.le_of_ble_eq_true rfl) (Nat.le_of_ble_eq_true rfl) (fun x3 h2 w9 => ?_)
  replace w := w9
  clear w9
  obtain ⟨w1, w2⟩ := w
  refine V_if_eq (tgt := 22) X dX12_stateLength_10 (by decide) (fun z => ?_) (fun z => ?_)
  · replace w := w1 z
    clear w1 w2
    refine V_aloadr_n X dX12_stateLength_22 0 rfl ?_
    refine V_iconst (y := 1) X dX12_stateLength_23 (by decide) ?_
    obtain ⟨fs, hh, w⟩ := w
    refine V_callVi (As := [.int 1]) (rest := []) (k1 := 0) (n1 := 0) X (cX12_fails_ok X.2.2.2.2.2.2.2.2.1 w) lkX12_103 hh (q9 := (RX12, TX12, 42)) rfl rfl dX12_stateLength_24 ⟨Nat.le_of_ble_eq_true rfl, Nat.le_of_ble_eq_true rfl⟩ rfl (Nat.le_of_ble_eq_true rfl) ⟨Nat.le_of_ble_eq_true rfl, Nat.le_of_ble_eq_true rfl⟩ (Nat.le_of_ble_eq_true rfl) (Nat.le_of_ble_eq_true rfl) (fun x5 h4 w9 => ?_)
    replace w := w9
    clear w9
    exact V.sub [] rfl (tX12_stateLength_b27 X  w)
  · replace w := w2 z
    clear w1 w2
    refine V_aloadr_n X dX12_stateLength_13 0 rfl ?_
    refine V_iload_n X dX12_stateLength_14 1 rfl ?_
    obtain ⟨fs, hh, w⟩ := w
    refine V_callVl (As := [.int v1]) (rest := []) (k1 := 0) (n1 := 0) X (cX12_lengthOf_ok X.2.2.2.2.2.2.2.2.1 w) lkX12_262 hh (q9 := (RX12, TX12, 42)) rfl rfl dX12_stateLength_15 ⟨Nat.le_of_ble_eq_true rfl, Nat.le_of_ble_eq_true rfl⟩ rfl (Nat.le_of_ble_eq_true rfl) ⟨Nat.le_of_ble_eq_true rfl, Nat.le_of_ble_eq_true rfl⟩ (Nat.le_of_ble_eq_true rfl) (Nat.le_of_ble_eq_true rfl) (fun x7 h6 w9 => ?_)
    replace w := w9
    clear w9
    refine V_l2i X dX12_stateLength_18 ?_
    refine V_goto (tgt := 27) X dX12_stateLength_19 (by decide) ?_
    exact V.sub [] rfl (tX12_stateLength_b27 X  w)
theorem cX12_stateLength_ok {l : Launch} {G : gG} {h : gH} (hls : l.stackTraces = false) {Qn : Int32 → gH → Prop} {v0 : Nat} {v1 : Int32} (w : vX12_stateLength Qn h v0 v1) : gMi l yX12_stateLength cX12_stateLength 2 (some FieldType.int) rmX12_stateLength rmX12_stateLength.cells rmX12_stateLength.slots G h [.ref v0, .int v1] Qn := by
  exact gMi.of (by decide +kernel) hls (Nat.le_of_ble_eq_true rfl) rfl rfl (fun p e s m below meth c A X hnm => tX12_stateLength X w)
/-! AnimationControllerModel.partWeight(II)I -/
abbrev rmX12_partWeight : Room := { frames := 2, cells := 0, slots := 0, locals := 56 }
def vX12_partWeight_b21  (Qn : Int32 → gH → Prop) (h : gH) (v0 : Nat) : Prop := io h v0 15 (vX12_fails (fun x2 h1 => Qn x2 h1) h v0 1)
set_option maxRecDepth 100000 in
set_option maxHeartbeats 4000000 in
theorem tX12_partWeight_b21 {p : Program} {l : Launch} {e : Env} {s : State} {m : MethodId} {args : Array Value} {below : List Frame} {meth : Method} {c : Code} {G : gG} {A : Nat → Prop} {Qn : Int32 → gH → Prop} (X : gC p l s m args meth c G A cX12_partWeight 3 (some FieldType.int) RX12)   {h : gH} {v0 : Nat} (w : vX12_partWeight_b21  Qn h v0) : V p l e rmX12_partWeight s m args below meth c (MQ below (va_Qi Qn (gB G A) A) args s rmX12_partWeight.cells rmX12_partWeight.slots A) G A 3 h 0 0 21 [(0, .ref v0)] [] := by
  refine V_aloadr_n X dX12_partWeight_21 0 rfl ?_
  refine V_iconst (y := 1) X dX12_partWeight_22 (by decide) ?_
  obtain ⟨fs, hh, w⟩ := w
  refine V_callVi (As := [.int 1]) (rest := []) (k1 := 0) (n1 := 0) X (cX12_fails_ok X.2.2.2.2.2.2.2.2.1 w) lkX12_103 hh (q9 := (RX12, TX12, 42)) rfl rfl dX12_partWeight_23 ⟨Nat.le_of_ble_eq_true rfl, Nat.le_of_ble_eq_true rfl⟩ rfl (Nat.le_of_ble_eq_true rfl) ⟨Nat.le_of_ble_eq_true rfl, Nat.le_of_ble_eq_true rfl⟩ (Nat.le_of_ble_eq_true rfl) (Nat.le_of_ble_eq_true rfl) (fun x2 h1 w9 => ?_)
  replace w := w9
  clear w9
  exact V_iret X rfl dX12_partWeight_26 (Nat.le_of_ble_eq_true rfl) (Nat.le_of_ble_eq_true rfl) w
def vX12_partWeight  (Qn : Int32 → gH → Prop) (h : gH) (v0 : Nat) (v1 : Int32) (v2 : Int32) : Prop := pv h v0 15 25 (.int 0) (fun h1 => io h1 v0 15 (vX12_isState (fun x3 h2 => (((x3 : Int32) = 0) → (vX12_partWeight_b21  Qn h2 v0)) ∧ ((¬ (x3 : Int32) = 0) → (io h2 v0 15 (vX12_isClip (fun x5 h4 => ((¬ (x5 : Int32) = 0) → (gr h4 v0 15 15 (fun r6 => nn r6 (fun a7 => li h4 a7 v1 (fun x8 => io h4 v0 15 (vX12_blends (fun h9 => gr h9 v0 15 27 (fun r10 => nn r10 (fun a11 => ll h9 a11 v2 (fun x12 => Qn (Int64.toInt32 x12) h9)))) h4 v0 x8 1000000)))))) ∧ (((x5 : Int32) = 0) → (vX12_partWeight_b21  Qn h4 v0))) h2 v0 v2)))) h1 v0 v1))
set_option maxRecDepth 100000 in
set_option maxHeartbeats 4000000 in
theorem tX12_partWeight {p : Program} {l : Launch} {e : Env} {s : State} {m : MethodId} {args : Array Value} {below : List Frame} {meth : Method} {c : Code} {G : gG} {A : Nat → Prop} {Qn : Int32 → gH → Prop} (X : gC p l s m args meth c G A cX12_partWeight 3 (some FieldType.int) RX12)   {h : gH} {v0 : Nat} {v1 : Int32} {v2 : Int32} (w : vX12_partWeight  Qn h v0 v1 v2) : V p l e rmX12_partWeight s m args below meth c (MQ below (va_Qi Qn (gB G A) A) args s rmX12_partWeight.cells rmX12_partWeight.slots A) G A 3 h 0 0 0 [(0, .ref v0), (1, .int v1), (2, .int v2)] [] := by
  refine V_aloadr_n X dX12_partWeight_0 0 rfl ?_
  refine V_iconst (y := 0) X dX12_partWeight_1 (by decide) ?_
  obtain ⟨fs, hh, hv, w⟩ := w
  refine V_put X flX12_94 dX12_partWeight_2 hh hv rfl rfl ?_
  generalize va_up _ _ _ = h1 at w ⊢
  refine V_aloadr_n X dX12_partWeight_5 0 rfl ?_
  refine V_iload_n X dX12_partWeight_6 1 rfl ?_
  obtain ⟨fs, hh, w⟩ := w
  refine V_callVi (As := [.int v1]) (rest := []) (k1 := 0) (n1 := 0) X (cX12_isState_ok X.2.2.2.2.2.2.2.2.1 w) lkX12_162 hh (q9 := (RX12, TX12, 42)) rfl rfl dX12_partWeight_7 ⟨Nat.le_of_ble_eq_true rfl, Nat.le_of_ble_eq_true rfl⟩ rfl (Nat.le_of_ble_eq_true rfl) ⟨Nat.le_of_ble_eq_true rfl, Nat.le_of_ble_eq_true rfl⟩ (Nat.le_of_ble_eq_true rfl) (Nat.le_of_ble_eq_true rfl) (fun x3 h2 w9 => ?_)
  replace w := w9
  clear w9
  obtain ⟨w1, w2⟩ := w
  refine V_if_eq (tgt := 21) X dX12_partWeight_10 (by decide) (fun z => ?_) (fun z => ?_)
  · replace w := w1 z
    clear w1 w2
    exact V.sub [0] rfl (tX12_partWeight_b21 X  w)
  · replace w := w2 z
    clear w1 w2
    refine V_aloadr_n X dX12_partWeight_13 0 rfl ?_
    refine V_iload_n X dX12_partWeight_14 2 rfl ?_
    obtain ⟨fs, hh, w⟩ := w
    refine V_callVi (As := [.int v2]) (rest := []) (k1 := 0) (n1 := 0) X (cX12_isClip_ok X.2.2.2.2.2.2.2.2.1 w) lkX12_123 hh (q9 := (RX12, TX12, 42)) rfl rfl dX12_partWeight_15 ⟨Nat.le_of_ble_eq_true rfl, Nat.le_of_ble_eq_true rfl⟩ rfl (Nat.le_of_ble_eq_true rfl) ⟨Nat.le_of_ble_eq_true rfl, Nat.le_of_ble_eq_true rfl⟩ (Nat.le_of_ble_eq_true rfl) (Nat.le_of_ble_eq_true rfl) (fun x5 h4 w9 => ?_)
    replace w := w9
    clear w9
    obtain ⟨w1, w2⟩ := w
    refine V_if_ne (tgt := 27) X dX12_partWeight_18 (by decide) (fun z => ?_) (fun z => ?_)
    · replace w := w1 z
      clear w1 w2
      refine V_aloadr_n X dX12_partWeight_27 0 rfl ?_
      refine V_aloadr_n X dX12_partWeight_28 0 rfl ?_
      obtain ⟨fs, r6, hh, hv, w⟩ := w
      refine V_get X flX12_47 dX12_partWeight_29 hh hv ?_
      refine V_iload_n X dX12_partWeight_32 1 rfl ?_
      obtain ⟨a7, rfl, w⟩ := w
      obtain ⟨N9, g9, hh, hi, w⟩ := w
      refine V_iald X dX12_partWeight_33 hh hi ?_
      generalize g9 _ = x8 at w ⊢
      refine V_ldc2 (y := 1000000) X dX12_partWeight_34 kw_1930 ?_
      obtain ⟨fs, hh, w⟩ := w
      refine V_callVv (As := [.int x8, .long 1000000]) (rest := []) (k1 := 0) (n1 := 0) X (cX12_blends_ok X.2.2.2.2.2.2.2.2.1 w) lkX12_253 hh (q9 := (RX12, TX12, 42)) rfl rfl dX12_partWeight_37 ⟨Nat.le_of_ble_eq_true rfl, Nat.le_of_ble_eq_true rfl⟩ rfl (Nat.le_of_ble_eq_true rfl) ⟨Nat.le_of_ble_eq_true rfl, Nat.le_of_ble_eq_true rfl⟩ (Nat.le_of_ble_eq_true rfl) (Nat.le_of_ble_eq_true rfl) (fun h9 w9 => ?_)
      replace w := w9
      clear w9
      refine V_aloadr_n X dX12_partWeight_40 0 rfl ?_
      obtain ⟨fs, r10, hh, hv, w⟩ := w
      refine V_get X flX12_72 dX12_partWeight_41 hh hv ?_
      refine V_iload_n X dX12_partWeight_44 2 rfl ?_
      obtain ⟨a11, rfl, w⟩ := w
      obtain ⟨N9, g9, hh, hi, w⟩ := w
      refine V_lald X dX12_partWeight_45 hh hi ?_
      generalize g9 _ = x12 at w ⊢
      refine V_l2i X dX12_partWeight_46 ?_
      exact V_iret X rfl dX12_partWeight_47 (Nat.le_of_ble_eq_true rfl) (Nat.le_of_ble_eq_true rfl) w
    · replace w := w2 z
      clear w1 w2
      exact V.sub [0] rfl (tX12_partWeight_b21 X  w)
theorem cX12_partWeight_ok {l : Launch} {G : gG} {h : gH} (hls : l.stackTraces = false) {Qn : Int32 → gH → Prop} {v0 : Nat} {v1 : Int32} {v2 : Int32} (w : vX12_partWeight Qn h v0 v1 v2) : gMi l yX12_partWeight cX12_partWeight 3 (some FieldType.int) rmX12_partWeight rmX12_partWeight.cells rmX12_partWeight.slots G h [.ref v0, .int v1, .int v2] Qn := by
  exact gMi.of (by decide +kernel) hls (Nat.le_of_ble_eq_true rfl) rfl rfl (fun p e s m below meth c A X hnm => tX12_partWeight X w)
/-! AnimationControllerModel.fired()I -/
abbrev rmX12_fired : Room := { frames := 0, cells := 0, slots := 0, locals := 0 }
def vX12_fired  (Qn : Int32 → gH → Prop) (h : gH) (v0 : Nat) : Prop := pv h v0 15 25 (.int 0) (fun h1 => gr h1 v0 15 0 (fun r2 => nn r2 (fun a3 => li h1 a3 288 (fun x4 => Qn x4 h1))))
set_option maxRecDepth 100000 in
set_option maxHeartbeats 4000000 in
theorem tX12_fired {p : Program} {l : Launch} {e : Env} {s : State} {m : MethodId} {args : Array Value} {below : List Frame} {meth : Method} {c : Code} {G : gG} {A : Nat → Prop} {Qn : Int32 → gH → Prop} (X : gC p l s m args meth c G A cX12_fired 1 (some FieldType.int) RX12)   {h : gH} {v0 : Nat} (w : vX12_fired  Qn h v0) : V p l e rmX12_fired s m args below meth c (MQ below (va_Qi Qn (gB G A) A) args s rmX12_fired.cells rmX12_fired.slots A) G A 1 h 0 0 0 [(0, .ref v0)] [] := by
  refine V_aloadr_n X dX12_fired_0 0 rfl ?_
  refine V_iconst (y := 0) X dX12_fired_1 (by decide) ?_
  obtain ⟨fs, hh, hv, w⟩ := w
  refine V_put X flX12_94 dX12_fired_2 hh hv rfl rfl ?_
  generalize va_up _ _ _ = h1 at w ⊢
  refine V_aloadr_n X dX12_fired_5 0 rfl ?_
  obtain ⟨fs, r2, hh, hv, w⟩ := w
  refine V_get X flX12_7 dX12_fired_6 hh hv ?_
  refine V_sipush (y := 288) X dX12_fired_9 (by decide) ?_
  obtain ⟨a3, rfl, w⟩ := w
  obtain ⟨N9, g9, hh, hi, w⟩ := w
  refine V_iald X dX12_fired_12 hh hi ?_
  generalize g9 _ = x4 at w ⊢
  exact V_iret X rfl dX12_fired_13 (Nat.le_of_ble_eq_true rfl) (Nat.le_of_ble_eq_true rfl) w
theorem cX12_fired_ok {l : Launch} {G : gG} {h : gH} (hls : l.stackTraces = false) {Qn : Int32 → gH → Prop} {v0 : Nat} (w : vX12_fired Qn h v0) : gMi l yX12_fired cX12_fired 1 (some FieldType.int) rmX12_fired rmX12_fired.cells rmX12_fired.slots G h [.ref v0] Qn := by
  exact gMi.of (by decide +kernel) hls (Nat.le_of_ble_eq_true rfl) rfl rfl (fun p e s m below meth c A X hnm => tX12_fired X w)
/-! AnimationControllerModel.event(II)I -/
abbrev rmX12_event : Room := { frames := 1, cells := 0, slots := 0, locals := 25 }
def vX12_event_b65  (Qn : Int32 → gH → Prop) (h : gH) (s0 : Int32) : Prop := Qn s0 h
set_option maxRecDepth 100000 in
set_option maxHeartbeats 4000000 in
theorem tX12_event_b65 {p : Program} {l : Launch} {e : Env} {s : State} {m : MethodId} {args : Array Value} {below : List Frame} {meth : Method} {c : Code} {G : gG} {A : Nat → Prop} {Qn : Int32 → gH → Prop} (X : gC p l s m args meth c G A cX12_event 3 (some FieldType.int) RX12)   {h : gH} {s0 : Int32} (w : vX12_event_b65  Qn h s0) : V p l e rmX12_event s m args below meth c (MQ below (va_Qi Qn (gB G A) A) args s rmX12_event.cells rmX12_event.slots A) G A 3 h 0 0 65 [] [.int s0] := by
  exact V_iret X rfl dX12_event_65 (Nat.le_of_ble_eq_true rfl) (Nat.le_of_ble_eq_true rfl) w
def vX12_event  (Qn : Int32 → gH → Prop) (h : gH) (v0 : Nat) (v1 : Int32) (v2 : Int32) : Prop := pv h v0 15 25 (.int 0) (fun h1 => gr h1 v0 15 0 (fun r2 => nn r2 (fun a3 => li h1 a3 166 (fun x4 => vX12_in (fun x6 h5 => ((¬ (x6 : Int32) = 0) → (vX12_in (fun x8 h7 => (((x8 : Int32) = 0) → (io h7 v0 15 (vX12_fails (fun x10 h9 => vX12_event_b65  Qn h9 x10) h7 v0 2))) ∧ ((¬ (x8 : Int32) = 0) → (gr h7 v0 15 0 (fun r11 => nn r11 (fun a12 => li h7 a12 ((167 + (4 * v1)) + v2) (fun x13 => vX12_event_b65  Qn h7 x13)))))) h5 (Int32.toInt64 v2) 0 3)) ∧ (((x6 : Int32) = 0) → (io h5 v0 15 (vX12_fails (fun x15 h14 => Qn x15 h14) h5 v0 1)))) h1 (Int32.toInt64 v1) 0 (Int32.toInt64 (x4 - 1))))))
set_option maxRecDepth 100000 in
set_option maxHeartbeats 4000000 in
theorem tX12_event {p : Program} {l : Launch} {e : Env} {s : State} {m : MethodId} {args : Array Value} {below : List Frame} {meth : Method} {c : Code} {G : gG} {A : Nat → Prop} {Qn : Int32 → gH → Prop} (X : gC p l s m args meth c G A cX12_event 3 (some FieldType.int) RX12)   {h : gH} {v0 : Nat} {v1 : Int32} {v2 : Int32} (w : vX12_event  Qn h v0 v1 v2) : V p l e rmX12_event s m args below meth c (MQ below (va_Qi Qn (gB G A) A) args s rmX12_event.cells rmX12_event.slots A) G A 3 h 0 0 0 [(0, .ref v0), (1, .int v1), (2, .int v2)] [] := by
  refine V_aloadr_n X dX12_event_0 0 rfl ?_
  refine V_iconst (y := 0) X dX12_event_1 (by decide) ?_
  obtain ⟨fs, hh, hv, w⟩ := w
  refine V_put X flX12_94 dX12_event_2 hh hv rfl rfl ?_
  generalize va_up _ _ _ = h1 at w ⊢
  refine V_iload_n X dX12_event_5 1 rfl ?_
  refine V_i2l X dX12_event_6 ?_
  refine V_lconst (y := 0) X dX12_event_7 (by decide) ?_
  refine V_aloadr_n X dX12_event_8 0 rfl ?_
  obtain ⟨fs, r2, hh, hv, w⟩ := w
  refine V_get X flX12_7 dX12_event_9 hh hv ?_
  refine V_sipush (y := 166) X dX12_event_12 (by decide) ?_
  obtain ⟨a3, rfl, w⟩ := w
  obtain ⟨N9, g9, hh, hi, w⟩ := w
  refine V_iald X dX12_event_15 hh hi ?_
  generalize g9 _ = x4 at w ⊢
  refine V_iconst (y := 1) X dX12_event_16 (by decide) ?_
  refine V_isub X dX12_event_17 ?_
  refine V_i2l X dX12_event_18 ?_
  refine V_callSi (As := [.long (Int32.toInt64 v1), .long 0, .long (Int32.toInt64 (x4 - 1))]) (rest := []) (k1 := 0) (n1 := 0) X (cX12_in_ok X.2.2.2.2.2.2.2.2.1 w) lkX12_99 dX12_event_19 ⟨Nat.le_of_ble_eq_true rfl, Nat.le_of_ble_eq_true rfl⟩ rfl (Nat.le_of_ble_eq_true rfl) ⟨Nat.le_of_ble_eq_true rfl, Nat.le_of_ble_eq_true rfl⟩ (Nat.le_of_ble_eq_true rfl) (Nat.le_of_ble_eq_true rfl) (fun x6 h5 w9 => ?_)
  replace w := w9
  clear w9
  obtain ⟨w1, w2⟩ := w
  refine V_if_ne (tgt := 31) X dX12_event_22 (by decide) (fun z => ?_) (fun z => ?_)
  · replace w := w1 z
    clear w1 w2
    refine V_iload_n X dX12_event_31 2 rfl ?_
    refine V_i2l X dX12_event_32 ?_
    refine V_lconst (y := 0) X dX12_event_33 (by decide) ?_
    refine V_ldc2 (y := 3) X dX12_event_34 kw_1810 ?_
    refine V_callSi (As := [.long (Int32.toInt64 v2), .long 0, .long 3]) (rest := []) (k1 := 0) (n1 := 0) X (cX12_in_ok X.2.2.2.2.2.2.2.2.1 w) lkX12_99 dX12_event_37 ⟨Nat.le_of_ble_eq_true rfl, Nat.le_of_ble_eq_true rfl⟩ rfl (Nat.le_of_ble_eq_true rfl) ⟨Nat.le_of_ble_eq_true rfl, Nat.le_of_ble_eq_true rfl⟩ (Nat.le_of_ble_eq_true rfl) (Nat.le_of_ble_eq_true rfl) (fun x8 h7 w9 => ?_)
    replace w := w9
    clear w9
    obtain ⟨w1, w2⟩ := w
    refine V_if_eq (tgt := 60) X dX12_event_40 (by decide) (fun z => ?_) (fun z => ?_)
    · replace w := w1 z
      clear w1 w2
      refine V_aloadr_n X dX12_event_60 0 rfl ?_
      refine V_iconst (y := 2) X dX12_event_61 (by decide) ?_
      obtain ⟨fs, hh, w⟩ := w
      refine V_callVi (As := [.int 2]) (rest := []) (k1 := 0) (n1 := 0) X (cX12_fails_ok X.2.2.2.2.2.2.2.2.1 w) lkX12_103 hh (q9 := (RX12, TX12, 42)) rfl rfl dX12_event_62 ⟨Nat.le_of_ble_eq_true rfl, Nat.le_of_ble_eq_true rfl⟩ rfl (Nat.le_of_ble_eq_true rfl) ⟨Nat.le_of_ble_eq_true rfl, Nat.le_of_ble_eq_true rfl⟩ (Nat.le_of_ble_eq_true rfl) (Nat.le_of_ble_eq_true rfl) (fun x10 h9 w9 => ?_)
      replace w := w9
      clear w9
      exact V.sub [] rfl (tX12_event_b65 X  w)
    · replace w := w2 z
      clear w1 w2
      refine V_aloadr_n X dX12_event_43 0 rfl ?_
      obtain ⟨fs, r11, hh, hv, w⟩ := w
      refine V_get X flX12_7 dX12_event_44 hh hv ?_
      refine V_sipush (y := 167) X dX12_event_47 (by decide) ?_
      refine V_iconst (y := 4) X dX12_event_50 (by decide) ?_
      refine V_iload_n X dX12_event_51 1 rfl ?_
      refine V_imul X dX12_event_52 ?_
      refine V_iadd X dX12_event_53 ?_
      refine V_iload_n X dX12_event_54 2 rfl ?_
      refine V_iadd X dX12_event_55 ?_
      obtain ⟨a12, rfl, w⟩ := w
      obtain ⟨N9, g9, hh, hi, w⟩ := w
      refine V_iald X dX12_event_56 hh hi ?_
      generalize g9 _ = x13 at w ⊢
      refine V_goto (tgt := 65) X dX12_event_57 (by decide) ?_
      exact V.sub [] rfl (tX12_event_b65 X  w)
  · replace w := w2 z
    clear w1 w2
    refine V_aloadr_n X dX12_event_25 0 rfl ?_
    refine V_iconst (y := 1) X dX12_event_26 (by decide) ?_
    obtain ⟨fs, hh, w⟩ := w
    refine V_callVi (As := [.int 1]) (rest := []) (k1 := 0) (n1 := 0) X (cX12_fails_ok X.2.2.2.2.2.2.2.2.1 w) lkX12_103 hh (q9 := (RX12, TX12, 42)) rfl rfl dX12_event_27 ⟨Nat.le_of_ble_eq_true rfl, Nat.le_of_ble_eq_true rfl⟩ rfl (Nat.le_of_ble_eq_true rfl) ⟨Nat.le_of_ble_eq_true rfl, Nat.le_of_ble_eq_true rfl⟩ (Nat.le_of_ble_eq_true rfl) (Nat.le_of_ble_eq_true rfl) (fun x15 h14 w9 => ?_)
    replace w := w9
    clear w9
    exact V_iret X rfl dX12_event_30 (Nat.le_of_ble_eq_true rfl) (Nat.le_of_ble_eq_true rfl) w
theorem cX12_event_ok {l : Launch} {G : gG} {h : gH} (hls : l.stackTraces = false) {Qn : Int32 → gH → Prop} {v0 : Nat} {v1 : Int32} {v2 : Int32} (w : vX12_event Qn h v0 v1 v2) : gMi l yX12_event cX12_event 3 (some FieldType.int) rmX12_event rmX12_event.cells rmX12_event.slots G h [.ref v0, .int v1, .int v2] Qn := by
  exact gMi.of (by decide +kernel) hls (Nat.le_of_ble_eq_true rfl) rfl rfl (fun p e s m below meth c A X hnm => tX12_event X w)
/-! AnimationControllerModel.copies(II)V -/
abbrev rmX12_copies : Room := { frames := 0, cells := 0, slots := 0, locals := 0 }
def vX12_copies_b2_o (k2 : gH → Nat → Int32 → Int32 → Int32 → Prop) (Qn : gH → Prop) (h : gH) (v0 : Nat) (v1 : Int32) (v2 : Int32) (v3 : Int32) : Prop := ((290 ≤ (v3 : Int32)) → (Qn h)) ∧ ((¬ 290 ≤ (v3 : Int32)) → (gr h v0 15 0 (fun r1 => gr h v0 15 0 (fun r2 => nn r2 (fun a3 => li h a3 (v1 + v3) (fun x4 => nn r1 (fun a5 => si h a5 (v2 + v3) x4 (fun h6 => k2 h6 v0 v1 v2 (v3 + 1)))))))))
set_option maxRecDepth 100000 in
set_option maxHeartbeats 4000000 in
theorem tX12_copies_b2_o {p : Program} {l : Launch} {e : Env} {s : State} {m : MethodId} {args : Array Value} {below : List Frame} {meth : Method} {c : Code} {G : gG} {A : Nat → Prop} {Qn : gH → Prop} (X : gC p l s m args meth c G A cX12_copies 4 none RX12) {k2 : gH → Nat → Int32 → Int32 → Int32 → Prop} (H2 : ∀ (h : gH) (v0 : Nat) (v1 : Int32) (v2 : Int32) (v3 : Int32), k2 h v0 v1 v2 v3 → V p l e rmX12_copies s m args below meth c (MQ below (va_Qv Qn (gB G A) A) args s rmX12_copies.cells rmX12_copies.slots A) G A 4 h 0 0 2 [(0, .ref v0), (1, .int v1), (2, .int v2), (3, .int v3)] []) {h : gH} {v0 : Nat} {v1 : Int32} {v2 : Int32} {v3 : Int32} (w : vX12_copies_b2_o k2 Qn h v0 v1 v2 v3) : V p l e rmX12_copies s m args below meth c (MQ below (va_Qv Qn (gB G A) A) args s rmX12_copies.cells rmX12_copies.slots A) G A 4 h 0 0 2 [(0, .ref v0), (1, .int v1), (2, .int v2), (3, .int v3)] [] := by
  refine V_iload_n X dX12_copies_2 3 rfl ?_
  refine V_sipush (y := 290) X dX12_copies_3 (by decide) ?_
  obtain ⟨w1, w2⟩ := w
  refine V_icmp_ge (tgt := 31) X dX12_copies_6 (by decide) (fun z => ?_) (fun z => ?_)
  · replace w := w1 z
    clear w1 w2
    exact V_vret X rfl dX12_copies_31 (Nat.le_of_ble_eq_true rfl) (Nat.le_of_ble_eq_true rfl) w
  · replace w := w2 z
    clear w1 w2
    refine V_aloadr_n X dX12_copies_9 0 rfl ?_
    obtain ⟨fs, r1, hh, hv, w⟩ := w
    refine V_get X flX12_7 dX12_copies_10 hh hv ?_
    refine V_iload_n X dX12_copies_13 2 rfl ?_
    refine V_iload_n X dX12_copies_14 3 rfl ?_
    refine V_iadd X dX12_copies_15 ?_
    refine V_aloadr_n X dX12_copies_16 0 rfl ?_
    obtain ⟨fs, r2, hh, hv, w⟩ := w
    refine V_get X flX12_7 dX12_copies_17 hh hv ?_
    refine V_iload_n X dX12_copies_20 1 rfl ?_
    refine V_iload_n X dX12_copies_21 3 rfl ?_
    refine V_iadd X dX12_copies_22 ?_
    obtain ⟨a3, rfl, w⟩ := w
    obtain ⟨N9, g9, hh, hi, w⟩ := w
    refine V_iald X dX12_copies_23 hh hi ?_
    generalize g9 _ = x4 at w ⊢
    obtain ⟨a5, rfl, w⟩ := w
    obtain ⟨N9, g9, hh, hi, w⟩ := w
    refine V_iast X dX12_copies_24 hh hi ?_
    generalize va_up _ _ _ = h6 at w ⊢
    refine V_iinc (y := (v3 + 1)) X dX12_copies_25 3 rfl (by first | rfl | (congr 1)) (by decide) rfl ?_
    refine V_goto (tgt := 2) X dX12_copies_28 (by decide) ?_
    exact V.sub [1, 2, 3, 0] rfl (H2 _ _ _ _ _ w)
def vX12_copies_b2  (Qn : gH → Prop) (n : Nat) : gH → Nat → Int32 → Int32 → Int32 → Prop := Nat.rec (motive := fun _ => gH → Nat → Int32 → Int32 → Int32 → Prop) (fun _ _ _ _ _ => False) (fun _ k2 => vX12_copies_b2_o k2 Qn) n
theorem tX12_copies_b2 {p : Program} {l : Launch} {e : Env} {s : State} {m : MethodId} {args : Array Value} {below : List Frame} {meth : Method} {c : Code} {G : gG} {A : Nat → Prop} {Qn : gH → Prop} (X : gC p l s m args meth c G A cX12_copies 4 none RX12)   : ∀ (n : Nat) (h : gH) (v0 : Nat) (v1 : Int32) (v2 : Int32) (v3 : Int32) (w : vX12_copies_b2  Qn n h v0 v1 v2 v3), V p l e rmX12_copies s m args below meth c (MQ below (va_Qv Qn (gB G A) A) args s rmX12_copies.cells rmX12_copies.slots A) G A 4 h 0 0 2 [(0, .ref v0), (1, .int v1), (2, .int v2), (3, .int v3)] [] := by
  intro n
  induction n with
  | zero => intro h v0 v1 v2 v3 w; exact False.elim w
  | succ n ih => intro h v0 v1 v2 v3 w; exact tX12_copies_b2_o X ih w
def vX12_copies  (Qn : gH → Prop) (h : gH) (v0 : Nat) (v1 : Int32) (v2 : Int32) : Prop := ∃ n : Nat, vX12_copies_b2  Qn n h v0 v1 v2 0
set_option maxRecDepth 100000 in
set_option maxHeartbeats 4000000 in
theorem tX12_copies {p : Program} {l : Launch} {e : Env} {s : State} {m : MethodId} {args : Array Value} {below : List Frame} {meth : Method} {c : Code} {G : gG} {A : Nat → Prop} {Qn : gH → Prop} (X : gC p l s m args meth c G A cX12_copies 4 none RX12)   {h : gH} {v0 : Nat} {v1 : Int32} {v2 : Int32} (w : vX12_copies  Qn h v0 v1 v2) : V p l e rmX12_copies s m args below meth c (MQ below (va_Qv Qn (gB G A) A) args s rmX12_copies.cells rmX12_copies.slots A) G A 4 h 0 0 0 [(0, .ref v0), (1, .int v1), (2, .int v2)] [] := by
  refine V_iconst (y := 0) X dX12_copies_0 (by decide) ?_
  refine V_istore_n X dX12_copies_1 rfl (by decide) rfl ?_
  obtain ⟨n9, w⟩ := w
  exact V.sub [1, 2, 3, 0] rfl (tX12_copies_b2 X  n9 _ _ _ _ _ w)
theorem cX12_copies_ok {l : Launch} {G : gG} {h : gH} (hls : l.stackTraces = false) {Qn : gH → Prop} {v0 : Nat} {v1 : Int32} {v2 : Int32} (w : vX12_copies Qn h v0 v1 v2) : gMv l yX12_copies cX12_copies 4 none rmX12_copies rmX12_copies.cells rmX12_copies.slots G h [.ref v0, .int v1, .int v2] Qn := by
  exact gMv.of (by decide +kernel) hls (Nat.le_of_ble_eq_true rfl) rfl rfl (fun p e s m below meth c A X hnm => tX12_copies X w)
/-! AnimationControllerModel.foretell(I)I -/
abbrev rmX12_foretell : Room := { frames := 7, cells := 0, slots := 0, locals := 186 }
def vX12_foretell_b89  (Qn : Int32 → gH → Prop) (h : gH) (v0 : Nat) (s0 : Int32) : Prop := io h v0 15 (vX12_copies (fun h1 => Qn s0 h1) h v0 870 0)
set_option maxRecDepth 100000 in
set_option maxHeartbeats 4000000 in
theorem tX12_foretell_b89 {p : Program} {l : Launch} {e : Env} {s : State} {m : MethodId} {args : Array Value} {below : List Frame} {meth : Method} {c : Code} {G : gG} {A : Nat → Prop} {Qn : Int32 → gH → Prop} (X : gC p l s m args meth c G A cX12_foretell 3 (some FieldType.int) RX12)   {h : gH} {v0 : Nat} {s0 : Int32} (w : vX12_foretell_b89  Qn h v0 s0) : V p l e rmX12_foretell s m args below meth c (MQ below (va_Qi Qn (gB G A) A) args s rmX12_foretell.cells rmX12_foretell.slots A) G A 3 h 0 0 89 [(0, .ref v0)] [.int s0] := by
  refine V_istore_n X dX12_foretell_89 rfl (by decide) rfl ?_
  refine V_aloadr_n X dX12_foretell_90 1 rfl ?_
  refine V_sipush (y := 870) X dX12_foretell_91 (by decide) ?_
  refine V_iconst (y := 0) X dX12_foretell_94 (by decide) ?_
  obtain ⟨fs, hh, w⟩ := w
  refine V_callVv (As := [.int 870, .int 0]) (rest := []) (k1 := 0) (n1 := 0) X (cX12_copies_ok X.2.2.2.2.2.2.2.2.1 w) lkX12_359 hh (q9 := (RX12, TX12, 42)) rfl rfl dX12_foretell_95 ⟨Nat.le_of_ble_eq_true rfl, Nat.le_of_ble_eq_true rfl⟩ rfl (Nat.le_of_ble_eq_true rfl) ⟨Nat.le_of_ble_eq_true rfl, Nat.le_of_ble_eq_true rfl⟩ (Nat.le_of_ble_eq_true rfl) (Nat.le_of_ble_eq_true rfl) (fun h1 w9 => ?_)
  replace w := w9
  clear w9
  refine V_iload_n X dX12_foretell_98 0 rfl ?_
  exact V_iret X rfl dX12_foretell_99 (Nat.le_of_ble_eq_true rfl) (Nat.le_of_ble_eq_true rfl) w
def vX12_foretell_b46_o (k46 : gH → Nat → Int32 → Int32 → Prop) (Qn : Int32 → gH → Prop) (h : gH) (v0 : Nat) (v1 : Int32) (v2 : Int32) : Prop := ((v1 ≤ (v2 : Int32)) → (gr h v0 15 0 (fun r1 => nn r1 (fun a2 => li h a2 8 (fun x3 => ((¬ (x3 : Int32) = 1) → (gr h v0 15 0 (fun r4 => nn r4 (fun a5 => li h a5 12 (fun x6 => vX12_foretell_b89  Qn h v0 x6))))) ∧ (((x3 : Int32) = 1) → (gr h v0 15 0 (fun r7 => nn r7 (fun a8 => li h a8 16 (fun x9 => vX12_foretell_b89  Qn h v0 x9)))))))))) ∧ ((¬ v1 ≤ (v2 : Int32)) → (io h v0 15 (vX12_ticks (fun h10 => k46 h10 v0 v1 (v2 + 1)) h v0 )))
set_option maxRecDepth 100000 in
set_option maxHeartbeats 4000000 in
theorem tX12_foretell_b46_o {p : Program} {l : Launch} {e : Env} {s : State} {m : MethodId} {args : Array Value} {below : List Frame} {meth : Method} {c : Code} {G : gG} {A : Nat → Prop} {Qn : Int32 → gH → Prop} (X : gC p l s m args meth c G A cX12_foretell 3 (some FieldType.int) RX12) {k46 : gH → Nat → Int32 → Int32 → Prop} (H46 : ∀ (h : gH) (v0 : Nat) (v1 : Int32) (v2 : Int32), k46 h v0 v1 v2 → V p l e rmX12_foretell s m args below meth c (MQ below (va_Qi Qn (gB G A) A) args s rmX12_foretell.cells rmX12_foretell.slots A) G A 3 h 0 0 46 [(0, .ref v0), (1, .int v1), (2, .int v2)] []) {h : gH} {v0 : Nat} {v1 : Int32} {v2 : Int32} (w : vX12_foretell_b46_o k46 Qn h v0 v1 v2) : V p l e rmX12_foretell s m args below meth c (MQ below (va_Qi Qn (gB G A) A) args s rmX12_foretell.cells rmX12_foretell.slots A) G A 3 h 0 0 46 [(0, .ref v0), (1, .int v1), (2, .int v2)] [] := by
  refine V_iload_n X dX12_foretell_46 2 rfl ?_
  refine V_iload_n X dX12_foretell_47 1 rfl ?_
  obtain ⟨w1, w2⟩ := w
  refine V_icmp_ge (tgt := 61) X dX12_foretell_48 (by decide) (fun z => ?_) (fun z => ?_)
  · replace w := w1 z
    clear w1 w2
    refine V_aloadr_n X dX12_foretell_61 0 rfl ?_
    obtain ⟨fs, r1, hh, hv, w⟩ := w
    refine V_get X flX12_7 dX12_foretell_62 hh hv ?_
    refine V_bipush (y := 8) X dX12_foretell_65 (by decide) ?_
    obtain ⟨a2, rfl, w⟩ := w
    obtain ⟨N9, g9, hh, hi, w⟩ := w
    refine V_iald X dX12_foretell_67 hh hi ?_
    generalize g9 _ = x3 at w ⊢
    refine V_iconst (y := 1) X dX12_foretell_68 (by decide) ?_
    obtain ⟨w1, w2⟩ := w
    refine V_icmp_ne (tgt := 82) X dX12_foretell_69 (by decide) (fun z => ?_) (fun z => ?_)
    · replace w := w1 z
      clear w1 w2
      refine V_aloadr_n X dX12_foretell_82 0 rfl ?_
      obtain ⟨fs, r4, hh, hv, w⟩ := w
      refine V_get X flX12_7 dX12_foretell_83 hh hv ?_
      refine V_bipush (y := 12) X dX12_foretell_86 (by decide) ?_
      obtain ⟨a5, rfl, w⟩ := w
      obtain ⟨N9, g9, hh, hi, w⟩ := w
      refine V_iald X dX12_foretell_88 hh hi ?_
      generalize g9 _ = x6 at w ⊢
      exact V.sub [0] rfl (tX12_foretell_b89 X  w)
    · replace w := w2 z
      clear w1 w2
      refine V_aloadr_n X dX12_foretell_72 0 rfl ?_
      obtain ⟨fs, r7, hh, hv, w⟩ := w
      refine V_get X flX12_7 dX12_foretell_73 hh hv ?_
      refine V_bipush (y := 16) X dX12_foretell_76 (by decide) ?_
      obtain ⟨a8, rfl, w⟩ := w
      obtain ⟨N9, g9, hh, hi, w⟩ := w
      refine V_iald X dX12_foretell_78 hh hi ?_
      generalize g9 _ = x9 at w ⊢
      refine V_goto (tgt := 89) X dX12_foretell_79 (by decide) ?_
      exact V.sub [0] rfl (tX12_foretell_b89 X  w)
  · replace w := w2 z
    clear w1 w2
    refine V_aloadr_n X dX12_foretell_51 0 rfl ?_
    obtain ⟨fs, hh, w⟩ := w
    refine V_callVv (As := []) (rest := []) (k1 := 0) (n1 := 0) X (cX12_ticks_ok X.2.2.2.2.2.2.2.2.1 w) lkX12_356 hh (q9 := (RX12, TX12, 42)) rfl rfl dX12_foretell_52 ⟨Nat.le_of_ble_eq_true rfl, Nat.le_of_ble_eq_true rfl⟩ rfl (Nat.le_of_ble_eq_true rfl) ⟨Nat.le_of_ble_eq_true rfl, Nat.le_of_ble_eq_true rfl⟩ (Nat.le_of_ble_eq_true rfl) (Nat.le_of_ble_eq_true rfl) (fun h10 w9 => ?_)
    replace w := w9
    clear w9
    refine V_iinc (y := (v2 + 1)) X dX12_foretell_55 2 rfl (by first | rfl | (congr 1)) (by decide) rfl ?_
    refine V_goto (tgt := 46) X dX12_foretell_58 (by decide) ?_
    exact V.sub [1, 2, 0] rfl (H46 _ _ _ _ w)
def vX12_foretell_b46  (Qn : Int32 → gH → Prop) (n : Nat) : gH → Nat → Int32 → Int32 → Prop := Nat.rec (motive := fun _ => gH → Nat → Int32 → Int32 → Prop) (fun _ _ _ _ => False) (fun _ k46 => vX12_foretell_b46_o k46 Qn) n
theorem tX12_foretell_b46 {p : Program} {l : Launch} {e : Env} {s : State} {m : MethodId} {args : Array Value} {below : List Frame} {meth : Method} {c : Code} {G : gG} {A : Nat → Prop} {Qn : Int32 → gH → Prop} (X : gC p l s m args meth c G A cX12_foretell 3 (some FieldType.int) RX12)   : ∀ (n : Nat) (h : gH) (v0 : Nat) (v1 : Int32) (v2 : Int32) (w : vX12_foretell_b46  Qn n h v0 v1 v2), V p l e rmX12_foretell s m args below meth c (MQ below (va_Qi Qn (gB G A) A) args s rmX12_foretell.cells rmX12_foretell.slots A) G A 3 h 0 0 46 [(0, .ref v0), (1, .int v1), (2, .int v2)] [] := by
  intro n
  induction n with
  | zero => intro h v0 v1 v2 w; exact False.elim w
  | succ n ih => intro h v0 v1 v2 w; exact tX12_foretell_b46_o X ih w
def vX12_foretell  (Qn : Int32 → gH → Prop) (h : gH) (v0 : Nat) (v1 : Int32) : Prop := pv h v0 15 25 (.int 0) (fun h1 => vX12_in (fun x3 h2 => ((¬ (x3 : Int32) = 0) → (gi h2 v0 15 19 (fun x4 => ((¬ (x4 : Int32) = 0) → (io h2 v0 15 (vX12_copies (fun h5 => ∃ n : Nat, vX12_foretell_b46  Qn n h5 v0 v1 0) h2 v0 0 870))) ∧ (((x4 : Int32) = 0) → (io h2 v0 15 (vX12_fails (fun x7 h6 => Qn x7 h6) h2 v0 2)))))) ∧ (((x3 : Int32) = 0) → (io h2 v0 15 (vX12_fails (fun x9 h8 => Qn x9 h8) h2 v0 1)))) h1 (Int32.toInt64 v1) 1 100)
set_option maxRecDepth 100000 in
set_option maxHeartbeats 4000000 in
theorem tX12_foretell {p : Program} {l : Launch} {e : Env} {s : State} {m : MethodId} {args : Array Value} {below : List Frame} {meth : Method} {c : Code} {G : gG} {A : Nat → Prop} {Qn : Int32 → gH → Prop} (X : gC p l s m args meth c G A cX12_foretell 3 (some FieldType.int) RX12)   {h : gH} {v0 : Nat} {v1 : Int32} (w : vX12_foretell  Qn h v0 v1) : V p l e rmX12_foretell s m args below meth c (MQ below (va_Qi Qn (gB G A) A) args s rmX12_foretell.cells rmX12_foretell.slots A) G A 3 h 0 0 0 [(0, .ref v0), (1, .int v1)] [] := by
  refine V_aloadr_n X dX12_foretell_0 0 rfl ?_
  refine V_iconst (y := 0) X dX12_foretell_1 (by decide) ?_
  obtain ⟨fs, hh, hv, w⟩ := w
  refine V_put X flX12_94 dX12_foretell_2 hh hv rfl rfl ?_
  generalize va_up _ _ _ = h1 at w ⊢
  refine V_iload_n X dX12_foretell_5 1 rfl ?_
  refine V_i2l X dX12_foretell_6 ?_
  refine V_lconst (y := 1) X dX12_foretell_7 (by decide) ?_
  refine V_ldc2 (y := 100) X dX12_foretell_8 kw_1762 ?_
  refine V_callSi (As := [.long (Int32.toInt64 v1), .long 1, .long 100]) (rest := []) (k1 := 0) (n1 := 0) X (cX12_in_ok X.2.2.2.2.2.2.2.2.1 w) lkX12_99 dX12_foretell_11 ⟨Nat.le_of_ble_eq_true rfl, Nat.le_of_ble_eq_true rfl⟩ rfl (Nat.le_of_ble_eq_true rfl) ⟨Nat.le_of_ble_eq_true rfl, Nat.le_of_ble_eq_true rfl⟩ (Nat.le_of_ble_eq_true rfl) (Nat.le_of_ble_eq_true rfl) (fun x3 h2 w9 => ?_)
  replace w := w9
  clear w9
  obtain ⟨w1, w2⟩ := w
  refine V_if_ne (tgt := 23) X dX12_foretell_14 (by decide) (fun z => ?_) (fun z => ?_)
  · replace w := w1 z
    clear w1 w2
    refine V_aloadr_n X dX12_foretell_23 0 rfl ?_
    obtain ⟨fs, x4, hh, hv, w⟩ := w
    refine V_get X flX12_145 dX12_foretell_24 hh hv ?_
    obtain ⟨w1, w2⟩ := w
    refine V_if_ne (tgt := 36) X dX12_foretell_27 (by decide) (fun z => ?_) (fun z => ?_)
    · replace w := w1 z
      clear w1 w2
      refine V_aloadr_n X dX12_foretell_36 0 rfl ?_
      refine V_iconst (y := 0) X dX12_foretell_37 (by decide) ?_
      refine V_sipush (y := 870) X dX12_foretell_38 (by decide) ?_
      obtain ⟨fs, hh, w⟩ := w
      refine V_callVv (As := [.int 0, .int 870]) (rest := []) (k1 := 0) (n1 := 0) X (cX12_copies_ok X.2.2.2.2.2.2.2.2.1 w) lkX12_359 hh (q9 := (RX12, TX12, 42)) rfl rfl dX12_foretell_41 ⟨Nat.le_of_ble_eq_true rfl, Nat.le_of_ble_eq_true rfl⟩ rfl (Nat.le_of_ble_eq_true rfl) ⟨Nat.le_of_ble_eq_true rfl, Nat.le_of_ble_eq_true rfl⟩ (Nat.le_of_ble_eq_true rfl) (Nat.le_of_ble_eq_true rfl) (fun h5 w9 => ?_)
      replace w := w9
      clear w9
      refine V_iconst (y := 0) X dX12_foretell_44 (by decide) ?_
      refine V_istore_n X dX12_foretell_45 rfl (by decide) rfl ?_
      obtain ⟨n9, w⟩ := w
      exact V.sub [1, 2, 0] rfl (tX12_foretell_b46 X  n9 _ _ _ _ w)
    · replace w := w2 z
      clear w1 w2
      refine V_aloadr_n X dX12_foretell_30 0 rfl ?_
      refine V_iconst (y := 2) X dX12_foretell_31 (by decide) ?_
      obtain ⟨fs, hh, w⟩ := w
      refine V_callVi (As := [.int 2]) (rest := []) (k1 := 0) (n1 := 0) X (cX12_fails_ok X.2.2.2.2.2.2.2.2.1 w) lkX12_103 hh (q9 := (RX12, TX12, 42)) rfl rfl dX12_foretell_32 ⟨Nat.le_of_ble_eq_true rfl, Nat.le_of_ble_eq_true rfl⟩ rfl (Nat.le_of_ble_eq_true rfl) ⟨Nat.le_of_ble_eq_true rfl, Nat.le_of_ble_eq_true rfl⟩ (Nat.le_of_ble_eq_true rfl) (Nat.le_of_ble_eq_true rfl) (fun x7 h6 w9 => ?_)
      replace w := w9
      clear w9
      exact V_iret X rfl dX12_foretell_35 (Nat.le_of_ble_eq_true rfl) (Nat.le_of_ble_eq_true rfl) w
  · replace w := w2 z
    clear w1 w2
    refine V_aloadr_n X dX12_foretell_17 0 rfl ?_
    refine V_iconst (y := 1) X dX12_foretell_18 (by decide) ?_
    obtain ⟨fs, hh, w⟩ := w
    refine V_callVi (As := [.int 1]) (rest := []) (k1 := 0) (n1 := 0) X (cX12_fails_ok X.2.2.2.2.2.2.2.2.1 w) lkX12_103 hh (q9 := (RX12, TX12, 42)) rfl rfl dX12_foretell_19 ⟨Nat.le_of_ble_eq_true rfl, Nat.le_of_ble_eq_true rfl⟩ rfl (Nat.le_of_ble_eq_true rfl) ⟨Nat.le_of_ble_eq_true rfl, Nat.le_of_ble_eq_true rfl⟩ (Nat.le_of_ble_eq_true rfl) (Nat.le_of_ble_eq_true rfl) (fun x9 h8 w9 => ?_)
    replace w := w9
    clear w9
    exact V_iret X rfl dX12_foretell_22 (Nat.le_of_ble_eq_true rfl) (Nat.le_of_ble_eq_true rfl) w
theorem cX12_foretell_ok {l : Launch} {G : gG} {h : gH} (hls : l.stackTraces = false) {Qn : Int32 → gH → Prop} {v0 : Nat} {v1 : Int32} (w : vX12_foretell Qn h v0 v1) : gMi l yX12_foretell cX12_foretell 3 (some FieldType.int) rmX12_foretell rmX12_foretell.cells rmX12_foretell.slots G h [.ref v0, .int v1] Qn := by
  exact gMi.of (by decide +kernel) hls (Nat.le_of_ble_eq_true rfl) rfl rfl (fun p e s m below meth c A X hnm => tX12_foretell X w)
/-! AnimationControllerModel.ticksTo(I)I -/
abbrev rmX12_ticksTo : Room := { frames := 7, cells := 0, slots := 0, locals := 186 }
def vX12_ticksTo_b92  (Qn : Int32 → gH → Prop) (h : gH) (s0 : Int32) : Prop := Qn s0 h
set_option maxRecDepth 100000 in
set_option maxHeartbeats 4000000 in
theorem tX12_ticksTo_b92 {p : Program} {l : Launch} {e : Env} {s : State} {m : MethodId} {args : Array Value} {below : List Frame} {meth : Method} {c : Code} {G : gG} {A : Nat → Prop} {Qn : Int32 → gH → Prop} (X : gC p l s m args meth c G A cX12_ticksTo 3 (some FieldType.int) RX12)   {h : gH} {s0 : Int32} (w : vX12_ticksTo_b92  Qn h s0) : V p l e rmX12_ticksTo s m args below meth c (MQ below (va_Qi Qn (gB G A) A) args s rmX12_ticksTo.cells rmX12_ticksTo.slots A) G A 3 h 0 0 92 [] [.int s0] := by
  exact V_iret X rfl dX12_ticksTo_92 (Nat.le_of_ble_eq_true rfl) (Nat.le_of_ble_eq_true rfl) w
def vX12_ticksTo_b73  (Qn : Int32 → gH → Prop) (h : gH) (v0 : Nat) (v2 : Int32) : Prop := io h v0 15 (vX12_copies (fun h1 => ((100 < (v2 : Int32)) → (vX12_ticksTo_b92  Qn h1 (-1))) ∧ ((¬ 100 < (v2 : Int32)) → (vX12_ticksTo_b92  Qn h1 v2))) h v0 870 0)
set_option maxRecDepth 100000 in
set_option maxHeartbeats 4000000 in
theorem tX12_ticksTo_b73 {p : Program} {l : Launch} {e : Env} {s : State} {m : MethodId} {args : Array Value} {below : List Frame} {meth : Method} {c : Code} {G : gG} {A : Nat → Prop} {Qn : Int32 → gH → Prop} (X : gC p l s m args meth c G A cX12_ticksTo 3 (some FieldType.int) RX12)   {h : gH} {v0 : Nat} {v2 : Int32} (w : vX12_ticksTo_b73  Qn h v0 v2) : V p l e rmX12_ticksTo s m args below meth c (MQ below (va_Qi Qn (gB G A) A) args s rmX12_ticksTo.cells rmX12_ticksTo.slots A) G A 3 h 0 0 73 [(0, .ref v0), (2, .int v2)] [] := by
  refine V_aloadr_n X dX12_ticksTo_73 0 rfl ?_
  refine V_sipush (y := 870) X dX12_ticksTo_74 (by decide) ?_
  refine V_iconst (y := 0) X dX12_ticksTo_77 (by decide) ?_
  obtain ⟨fs, hh, w⟩ := w
  refine V_callVv (As := [.int 870, .int 0]) (rest := []) (k1 := 0) (n1 := 0) X (cX12_copies_ok X.2.2.2.2.2.2.2.2.1 w) lkX12_359 hh (q9 := (RX12, TX12, 42)) rfl rfl dX12_ticksTo_78 ⟨Nat.le_of_ble_eq_true rfl, Nat.le_of_ble_eq_true rfl⟩ rfl (Nat.le_of_ble_eq_true rfl) ⟨Nat.le_of_ble_eq_true rfl, Nat.le_of_ble_eq_true rfl⟩ (Nat.le_of_ble_eq_true rfl) (Nat.le_of_ble_eq_true rfl) (fun h1 w9 => ?_)
  replace w := w9
  clear w9
  refine V_iload_n X dX12_ticksTo_81 1 rfl ?_
  refine V_bipush (y := 100) X dX12_ticksTo_82 (by decide) ?_
  obtain ⟨w1, w2⟩ := w
  refine V_icmp_gt (tgt := 91) X dX12_ticksTo_84 (by decide) (fun z => ?_) (fun z => ?_)
  · replace w := w1 z
    clear w1 w2
    refine V_iconst (y := (-1)) X dX12_ticksTo_91 (by decide) ?_
    exact V.sub [] rfl (tX12_ticksTo_b92 X  w)
  · replace w := w2 z
    clear w1 w2
    refine V_iload_n X dX12_ticksTo_87 1 rfl ?_
    refine V_goto (tgt := 92) X dX12_ticksTo_88 (by decide) ?_
    exact V.sub [] rfl (tX12_ticksTo_b92 X  w)
def vX12_ticksTo_b57 (k29 : gH → Nat → Int32 → Int32 → Prop) (Qn : Int32 → gH → Prop) (h : gH) (v0 : Nat) (v1 : Int32) (v2 : Int32) : Prop := ((100 < ((v2 + 1) : Int32)) → (k29 h v0 v1 (v2 + 1))) ∧ ((¬ 100 < ((v2 + 1) : Int32)) → (io h v0 15 (vX12_ticks (fun h1 => k29 h1 v0 v1 (v2 + 1)) h v0 )))
set_option maxRecDepth 100000 in
set_option maxHeartbeats 4000000 in
theorem tX12_ticksTo_b57 {p : Program} {l : Launch} {e : Env} {s : State} {m : MethodId} {args : Array Value} {below : List Frame} {meth : Method} {c : Code} {G : gG} {A : Nat → Prop} {Qn : Int32 → gH → Prop} (X : gC p l s m args meth c G A cX12_ticksTo 3 (some FieldType.int) RX12) {k29 : gH → Nat → Int32 → Int32 → Prop} (H29 : ∀ (h : gH) (v0 : Nat) (v1 : Int32) (v2 : Int32), k29 h v0 v1 v2 → V p l e rmX12_ticksTo s m args below meth c (MQ below (va_Qi Qn (gB G A) A) args s rmX12_ticksTo.cells rmX12_ticksTo.slots A) G A 3 h 0 0 29 [(0, .ref v0), (1, .int v1), (2, .int v2)] []) {h : gH} {v0 : Nat} {v1 : Int32} {v2 : Int32} (w : vX12_ticksTo_b57 k29 Qn h v0 v1 v2) : V p l e rmX12_ticksTo s m args below meth c (MQ below (va_Qi Qn (gB G A) A) args s rmX12_ticksTo.cells rmX12_ticksTo.slots A) G A 3 h 0 0 57 [(0, .ref v0), (1, .int v1), (2, .int v2)] [] := by
  refine V_iinc (y := (v2 + 1)) X dX12_ticksTo_57 2 rfl (by first | rfl | (congr 1)) (by decide) rfl ?_
  refine V_iload_n X dX12_ticksTo_60 0 rfl ?_
  refine V_bipush (y := 100) X dX12_ticksTo_61 (by decide) ?_
  obtain ⟨w1, w2⟩ := w
  refine V_icmp_gt (tgt := 29) X dX12_ticksTo_63 (by decide) (fun z => ?_) (fun z => ?_)
  · replace w := w1 z
    clear w1 w2
    exact V.sub [1, 2, 0] rfl (H29 _ _ _ _ w)
  · replace w := w2 z
    clear w1 w2
    refine V_aloadr_n X dX12_ticksTo_66 1 rfl ?_
    obtain ⟨fs, hh, w⟩ := w
    refine V_callVv (As := []) (rest := []) (k1 := 0) (n1 := 0) X (cX12_ticks_ok X.2.2.2.2.2.2.2.2.1 w) lkX12_356 hh (q9 := (RX12, TX12, 42)) rfl rfl dX12_ticksTo_67 ⟨Nat.le_of_ble_eq_true rfl, Nat.le_of_ble_eq_true rfl⟩ rfl (Nat.le_of_ble_eq_true rfl) ⟨Nat.le_of_ble_eq_true rfl, Nat.le_of_ble_eq_true rfl⟩ (Nat.le_of_ble_eq_true rfl) (Nat.le_of_ble_eq_true rfl) (fun h1 w9 => ?_)
    replace w := w9
    clear w9
    refine V_goto (tgt := 29) X dX12_ticksTo_70 (by decide) ?_
    exact V.sub [1, 2, 0] rfl (H29 _ _ _ _ w)
def vX12_ticksTo_b29_o (k29 : gH → Nat → Int32 → Int32 → Prop) (Qn : Int32 → gH → Prop) (h : gH) (v0 : Nat) (v1 : Int32) (v2 : Int32) : Prop := ((100 < (v2 : Int32)) → (vX12_ticksTo_b73  Qn h v0 v2)) ∧ ((¬ 100 < (v2 : Int32)) → (gr h v0 15 0 (fun r1 => nn r1 (fun a2 => li h a2 8 (fun x3 => (((x3 : Int32) = 1) → (vX12_ticksTo_b57 k29 Qn h v0 v1 v2)) ∧ ((¬ (x3 : Int32) = 1) → (gr h v0 15 0 (fun r4 => nn r4 (fun a5 => li h a5 12 (fun x6 => (((x6 : Int32) = v1) → (vX12_ticksTo_b73  Qn h v0 v2)) ∧ ((¬ (x6 : Int32) = v1) → (vX12_ticksTo_b57 k29 Qn h v0 v1 v2))))))))))))
set_option maxRecDepth 100000 in
set_option maxHeartbeats 4000000 in
theorem tX12_ticksTo_b29_o {p : Program} {l : Launch} {e : Env} {s : State} {m : MethodId} {args : Array Value} {below : List Frame} {meth : Method} {c : Code} {G : gG} {A : Nat → Prop} {Qn : Int32 → gH → Prop} (X : gC p l s m args meth c G A cX12_ticksTo 3 (some FieldType.int) RX12) {k29 : gH → Nat → Int32 → Int32 → Prop} (H29 : ∀ (h : gH) (v0 : Nat) (v1 : Int32) (v2 : Int32), k29 h v0 v1 v2 → V p l e rmX12_ticksTo s m args below meth c (MQ below (va_Qi Qn (gB G A) A) args s rmX12_ticksTo.cells rmX12_ticksTo.slots A) G A 3 h 0 0 29 [(0, .ref v0), (1, .int v1), (2, .int v2)] []) {h : gH} {v0 : Nat} {v1 : Int32} {v2 : Int32} (w : vX12_ticksTo_b29_o k29 Qn h v0 v1 v2) : V p l e rmX12_ticksTo s m args below meth c (MQ below (va_Qi Qn (gB G A) A) args s rmX12_ticksTo.cells rmX12_ticksTo.slots A) G A 3 h 0 0 29 [(0, .ref v0), (1, .int v1), (2, .int v2)] [] := by
  refine V_iload_n X dX12_ticksTo_29 2 rfl ?_
  refine V_bipush (y := 100) X dX12_ticksTo_30 (by decide) ?_
  obtain ⟨w1, w2⟩ := w
  refine V_icmp_gt (tgt := 73) X dX12_ticksTo_32 (by decide) (fun z => ?_) (fun z => ?_)
  · replace w := w1 z
    clear w1 w2
    exact V.sub [0, 2] rfl (tX12_ticksTo_b73 X  w)
  · replace w := w2 z
    clear w1 w2
    refine V_aloadr_n X dX12_ticksTo_35 0 rfl ?_
    obtain ⟨fs, r1, hh, hv, w⟩ := w
    refine V_get X flX12_7 dX12_ticksTo_36 hh hv ?_
    refine V_bipush (y := 8) X dX12_ticksTo_39 (by decide) ?_
    obtain ⟨a2, rfl, w⟩ := w
    obtain ⟨N9, g9, hh, hi, w⟩ := w
    refine V_iald X dX12_ticksTo_41 hh hi ?_
    generalize g9 _ = x3 at w ⊢
    refine V_iconst (y := 1) X dX12_ticksTo_42 (by decide) ?_
    obtain ⟨w1, w2⟩ := w
    refine V_icmp_eq (tgt := 57) X dX12_ticksTo_43 (by decide) (fun z => ?_) (fun z => ?_)
    · replace w := w1 z
      clear w1 w2
      exact V.sub [0, 1, 2] rfl (tX12_ticksTo_b57 X H29 w)
    · replace w := w2 z
      clear w1 w2
      refine V_aloadr_n X dX12_ticksTo_46 0 rfl ?_
      obtain ⟨fs, r4, hh, hv, w⟩ := w
      refine V_get X flX12_7 dX12_ticksTo_47 hh hv ?_
      refine V_bipush (y := 12) X dX12_ticksTo_50 (by decide) ?_
      obtain ⟨a5, rfl, w⟩ := w
      obtain ⟨N9, g9, hh, hi, w⟩ := w
      refine V_iald X dX12_ticksTo_52 hh hi ?_
      generalize g9 _ = x6 at w ⊢
      refine V_iload_n X dX12_ticksTo_53 1 rfl ?_
      obtain ⟨w1, w2⟩ := w
      refine V_icmp_eq (tgt := 73) X dX12_ticksTo_54 (by decide) (fun z => ?_) (fun z => ?_)
      · replace w := w1 z
        clear w1 w2
        exact V.sub [0, 2] rfl (tX12_ticksTo_b73 X  w)
      · replace w := w2 z
        clear w1 w2
        exact V.sub [0, 1, 2] rfl (tX12_ticksTo_b57 X H29 w)
def vX12_ticksTo_b29  (Qn : Int32 → gH → Prop) (n : Nat) : gH → Nat → Int32 → Int32 → Prop := Nat.rec (motive := fun _ => gH → Nat → Int32 → Int32 → Prop) (fun _ _ _ _ => False) (fun _ k29 => vX12_ticksTo_b29_o k29 Qn) n
theorem tX12_ticksTo_b29 {p : Program} {l : Launch} {e : Env} {s : State} {m : MethodId} {args : Array Value} {below : List Frame} {meth : Method} {c : Code} {G : gG} {A : Nat → Prop} {Qn : Int32 → gH → Prop} (X : gC p l s m args meth c G A cX12_ticksTo 3 (some FieldType.int) RX12)   : ∀ (n : Nat) (h : gH) (v0 : Nat) (v1 : Int32) (v2 : Int32) (w : vX12_ticksTo_b29  Qn n h v0 v1 v2), V p l e rmX12_ticksTo s m args below meth c (MQ below (va_Qi Qn (gB G A) A) args s rmX12_ticksTo.cells rmX12_ticksTo.slots A) G A 3 h 0 0 29 [(0, .ref v0), (1, .int v1), (2, .int v2)] [] := by
  intro n
  induction n with
  | zero => intro h v0 v1 v2 w; exact False.elim w
  | succ n ih => intro h v0 v1 v2 w; exact tX12_ticksTo_b29_o X ih w
def vX12_ticksTo  (Qn : Int32 → gH → Prop) (h : gH) (v0 : Nat) (v1 : Int32) : Prop := pv h v0 15 25 (.int 0) (fun h1 => io h1 v0 15 (vX12_isState (fun x3 h2 => ((¬ (x3 : Int32) = 0) → (io h2 v0 15 (vX12_copies (fun h4 => ∃ n : Nat, vX12_ticksTo_b29  Qn n h4 v0 v1 0) h2 v0 0 870))) ∧ (((x3 : Int32) = 0) → (io h2 v0 15 (vX12_fails (fun x6 h5 => Qn x6 h5) h2 v0 1)))) h1 v0 v1))
set_option maxRecDepth 100000 in
set_option maxHeartbeats 4000000 in
theorem tX12_ticksTo {p : Program} {l : Launch} {e : Env} {s : State} {m : MethodId} {args : Array Value} {below : List Frame} {meth : Method} {c : Code} {G : gG} {A : Nat → Prop} {Qn : Int32 → gH → Prop} (X : gC p l s m args meth c G A cX12_ticksTo 3 (some FieldType.int) RX12)   {h : gH} {v0 : Nat} {v1 : Int32} (w : vX12_ticksTo  Qn h v0 v1) : V p l e rmX12_ticksTo s m args below meth c (MQ below (va_Qi Qn (gB G A) A) args s rmX12_ticksTo.cells rmX12_ticksTo.slots A) G A 3 h 0 0 0 [(0, .ref v0), (1, .int v1)] [] := by
  refine V_aloadr_n X dX12_ticksTo_0 0 rfl ?_
  refine V_iconst (y := 0) X dX12_ticksTo_1 (by decide) ?_
  obtain ⟨fs, hh, hv, w⟩ := w
  refine V_put X flX12_94 dX12_ticksTo_2 hh hv rfl rfl ?_
  generalize va_up _ _ _ = h1 at w ⊢
  refine V_aloadr_n X dX12_ticksTo_5 0 rfl ?_
  refine V_iload_n X dX12_ticksTo_6 1 rfl ?_
  obtain ⟨fs, hh, w⟩ := w
  refine V_callVi (As := [.int v1]) (rest := []) (k1 := 0) (n1 := 0) X (cX12_isState_ok X.2.2.2.2.2.2.2.2.1 w) lkX12_162 hh (q9 := (RX12, TX12, 42)) rfl rfl dX12_ticksTo_7 ⟨Nat.le_of_ble_eq_true rfl, Nat.le_of_ble_eq_true rfl⟩ rfl (Nat.le_of_ble_eq_true rfl) ⟨Nat.le_of_ble_eq_true rfl, Nat.le_of_ble_eq_true rfl⟩ (Nat.le_of_ble_eq_true rfl) (Nat.le_of_ble_eq_true rfl) (fun x3 h2 w9 => ?_)
  replace w := w9
  clear w9
  obtain ⟨w1, w2⟩ := w
  refine V_if_ne (tgt := 19) X dX12_ticksTo_10 (by decide) (fun z => ?_) (fun z => ?_)
  · replace w := w1 z
    clear w1 w2
    refine V_aloadr_n X dX12_ticksTo_19 0 rfl ?_
    refine V_iconst (y := 0) X dX12_ticksTo_20 (by decide) ?_
    refine V_sipush (y := 870) X dX12_ticksTo_21 (by decide) ?_
    obtain ⟨fs, hh, w⟩ := w
    refine V_callVv (As := [.int 0, .int 870]) (rest := []) (k1 := 0) (n1 := 0) X (cX12_copies_ok X.2.2.2.2.2.2.2.2.1 w) lkX12_359 hh (q9 := (RX12, TX12, 42)) rfl rfl dX12_ticksTo_24 ⟨Nat.le_of_ble_eq_true rfl, Nat.le_of_ble_eq_true rfl⟩ rfl (Nat.le_of_ble_eq_true rfl) ⟨Nat.le_of_ble_eq_true rfl, Nat.le_of_ble_eq_true rfl⟩ (Nat.le_of_ble_eq_true rfl) (Nat.le_of_ble_eq_true rfl) (fun h4 w9 => ?_)
    replace w := w9
    clear w9
    refine V_iconst (y := 0) X dX12_ticksTo_27 (by decide) ?_
    refine V_istore_n X dX12_ticksTo_28 rfl (by decide) rfl ?_
    obtain ⟨n9, w⟩ := w
    exact V.sub [1, 2, 0] rfl (tX12_ticksTo_b29 X  n9 _ _ _ _ w)
  · replace w := w2 z
    clear w1 w2
    refine V_aloadr_n X dX12_ticksTo_13 0 rfl ?_
    refine V_iconst (y := 1) X dX12_ticksTo_14 (by decide) ?_
    obtain ⟨fs, hh, w⟩ := w
    refine V_callVi (As := [.int 1]) (rest := []) (k1 := 0) (n1 := 0) X (cX12_fails_ok X.2.2.2.2.2.2.2.2.1 w) lkX12_103 hh (q9 := (RX12, TX12, 42)) rfl rfl dX12_ticksTo_15 ⟨Nat.le_of_ble_eq_true rfl, Nat.le_of_ble_eq_true rfl⟩ rfl (Nat.le_of_ble_eq_true rfl) ⟨Nat.le_of_ble_eq_true rfl, Nat.le_of_ble_eq_true rfl⟩ (Nat.le_of_ble_eq_true rfl) (Nat.le_of_ble_eq_true rfl) (fun x6 h5 w9 => ?_)
    replace w := w9
    clear w9
    exact V_iret X rfl dX12_ticksTo_18 (Nat.le_of_ble_eq_true rfl) (Nat.le_of_ble_eq_true rfl) w
theorem cX12_ticksTo_ok {l : Launch} {G : gG} {h : gH} (hls : l.stackTraces = false) {Qn : Int32 → gH → Prop} {v0 : Nat} {v1 : Int32} (w : vX12_ticksTo Qn h v0 v1) : gMi l yX12_ticksTo cX12_ticksTo 3 (some FieldType.int) rmX12_ticksTo rmX12_ticksTo.cells rmX12_ticksTo.slots G h [.ref v0, .int v1] Qn := by
  exact gMi.of (by decide +kernel) hls (Nat.le_of_ble_eq_true rfl) rfl rfl (fun p e s m below meth c A X hnm => tX12_ticksTo X w)
/-! AnimationControllerModel.steps(II)I -/
abbrev rmX12_steps : Room := { frames := 2, cells := 0, slots := 0, locals := 46 }
def vX12_steps_b21  (Qn : Int32 → gH → Prop) (h : gH) (v0 : Nat) : Prop := io h v0 15 (vX12_fails (fun x2 h1 => Qn x2 h1) h v0 1)
set_option maxRecDepth 100000 in
set_option maxHeartbeats 4000000 in
theorem tX12_steps_b21 {p : Program} {l : Launch} {e : Env} {s : State} {m : MethodId} {args : Array Value} {below : List Frame} {meth : Method} {c : Code} {G : gG} {A : Nat → Prop} {Qn : Int32 → gH → Prop} (X : gC p l s m args meth c G A cX12_steps 7 (some FieldType.int) RX12)   {h : gH} {v0 : Nat} (w : vX12_steps_b21  Qn h v0) : V p l e rmX12_steps s m args below meth c (MQ below (va_Qi Qn (gB G A) A) args s rmX12_steps.cells rmX12_steps.slots A) G A 7 h 0 0 21 [(0, .ref v0)] [] := by
  refine V_aloadr_n X dX12_steps_21 0 rfl ?_
  refine V_iconst (y := 1) X dX12_steps_22 (by decide) ?_
  obtain ⟨fs, hh, w⟩ := w
  refine V_callVi (As := [.int 1]) (rest := []) (k1 := 0) (n1 := 0) X (cX12_fails_ok X.2.2.2.2.2.2.2.2.1 w) lkX12_103 hh (q9 := (RX12, TX12, 42)) rfl rfl dX12_steps_23 ⟨Nat.le_of_ble_eq_true rfl, Nat.le_of_ble_eq_true rfl⟩ rfl (Nat.le_of_ble_eq_true rfl) ⟨Nat.le_of_ble_eq_true rfl, Nat.le_of_ble_eq_true rfl⟩ (Nat.le_of_ble_eq_true rfl) (Nat.le_of_ble_eq_true rfl) (fun x2 h1 w9 => ?_)
  replace w := w9
  clear w9
  exact V_iret X rfl dX12_steps_26 (Nat.le_of_ble_eq_true rfl) (Nat.le_of_ble_eq_true rfl) w
def vX12_steps_b216  (Qn : Int32 → gH → Prop) (h : gH) (s0 : Int32) : Prop := Qn s0 h
set_option maxRecDepth 100000 in
set_option maxHeartbeats 4000000 in
theorem tX12_steps_b216 {p : Program} {l : Launch} {e : Env} {s : State} {m : MethodId} {args : Array Value} {below : List Frame} {meth : Method} {c : Code} {G : gG} {A : Nat → Prop} {Qn : Int32 → gH → Prop} (X : gC p l s m args meth c G A cX12_steps 7 (some FieldType.int) RX12)   {h : gH} {s0 : Int32} (w : vX12_steps_b216  Qn h s0) : V p l e rmX12_steps s m args below meth c (MQ below (va_Qi Qn (gB G A) A) args s rmX12_steps.cells rmX12_steps.slots A) G A 7 h 0 0 216 [] [.int s0] := by
  exact V_iret X rfl dX12_steps_216 (Nat.le_of_ble_eq_true rfl) (Nat.le_of_ble_eq_true rfl) w
def vX12_steps_b176 (k62 : gH → Nat → Int32 → Int32 → Prop) (k73 : gH → Nat → Int32 → Int32 → Int32 → Prop) (k85 : gH → Nat → Int32 → Int32 → Int32 → Int32 → Prop) (Qn : Int32 → gH → Prop) (h : gH) (v0 : Nat) (v2 : Int32) (v3 : Int32) (v4 : Int32) (v5 : Int32) (s0 : Int32) (s1 : Int32) (s2 : Option Nat) : Prop := nn s2 (fun a1 => si h a1 s1 s0 (fun h2 => k85 h2 v0 v2 v3 v4 (v5 + 1)))
set_option maxRecDepth 100000 in
set_option maxHeartbeats 4000000 in
theorem tX12_steps_b176 {p : Program} {l : Launch} {e : Env} {s : State} {m : MethodId} {args : Array Value} {below : List Frame} {meth : Method} {c : Code} {G : gG} {A : Nat → Prop} {Qn : Int32 → gH → Prop} (X : gC p l s m args meth c G A cX12_steps 7 (some FieldType.int) RX12) {k62 : gH → Nat → Int32 → Int32 → Prop} {k73 : gH → Nat → Int32 → Int32 → Int32 → Prop} {k85 : gH → Nat → Int32 → Int32 → Int32 → Int32 → Prop} (H62 : ∀ (h : gH) (v0 : Nat) (v2 : Int32) (v3 : Int32), k62 h v0 v2 v3 → V p l e rmX12_steps s m args below meth c (MQ below (va_Qi Qn (gB G A) A) args s rmX12_steps.cells rmX12_steps.slots A) G A 7 h 0 0 62 [(0, .ref v0), (2, .int v2), (3, .int v3)] []) (H73 : ∀ (h : gH) (v0 : Nat) (v2 : Int32) (v3 : Int32) (v4 : Int32), k73 h v0 v2 v3 v4 → V p l e rmX12_steps s m args below meth c (MQ below (va_Qi Qn (gB G A) A) args s rmX12_steps.cells rmX12_steps.slots A) G A 7 h 0 0 73 [(0, .ref v0), (2, .int v2), (3, .int v3), (4, .int v4)] []) (H85 : ∀ (h : gH) (v0 : Nat) (v2 : Int32) (v3 : Int32) (v4 : Int32) (v5 : Int32), k85 h v0 v2 v3 v4 v5 → V p l e rmX12_steps s m args below meth c (MQ below (va_Qi Qn (gB G A) A) args s rmX12_steps.cells rmX12_steps.slots A) G A 7 h 0 0 85 [(0, .ref v0), (2, .int v2), (3, .int v3), (4, .int v4), (5, .int v5)] []) {h : gH} {v0 : Nat} {v2 : Int32} {v3 : Int32} {v4 : Int32} {v5 : Int32} {s0 : Int32} {s1 : Int32} {s2 : Option Nat} (w : vX12_steps_b176 k62 k73 k85 Qn h v0 v2 v3 v4 v5 s0 s1 s2) : V p l e rmX12_steps s m args below meth c (MQ below (va_Qi Qn (gB G A) A) args s rmX12_steps.cells rmX12_steps.slots A) G A 7 h 0 0 176 [(0, .ref v0), (2, .int v2), (3, .int v3), (4, .int v4), (5, .int v5)] [.int s0, .int s1, va_rf s2] := by
  obtain ⟨a1, rfl, w⟩ := w
  obtain ⟨N9, g9, hh, hi, w⟩ := w
  refine V_iast X dX12_steps_176 hh hi ?_
  generalize va_up _ _ _ = h2 at w ⊢
  refine V_iinc (y := (v5 + 1)) X dX12_steps_177 4 rfl (by first | rfl | (congr 1)) (by decide) rfl ?_
  refine V_goto (tgt := 85) X dX12_steps_180 (by decide) ?_
  exact V.sub [1, 2, 3, 4, 0] rfl (H85 _ _ _ _ _ _ w)
def vX12_steps_b134 (k62 : gH → Nat → Int32 → Int32 → Prop) (k73 : gH → Nat → Int32 → Int32 → Int32 → Prop) (k85 : gH → Nat → Int32 → Int32 → Int32 → Int32 → Prop) (Qn : Int32 → gH → Prop) (h : gH) (v0 : Nat) (v2 : Int32) (v3 : Int32) (v4 : Int32) (v5 : Int32) (s0 : Int32) : Prop := gr h v0 15 41 (fun r1 => io h v0 15 (vX12_of (fun x3 h2 => (((s0 : Int32) = 0) → (gr h2 v0 15 41 (fun r4 => io h2 v0 15 (vX12_of (fun x6 h5 => nn r4 (fun a7 => li h5 a7 x6 (fun x8 => vX12_steps_b176 k62 k73 k85 Qn h5 v0 v2 v3 v4 v5 x8 x3 r1))) h2 v0 v4 1)))) ∧ ((¬ (s0 : Int32) = 0) → (gr h2 v0 15 41 (fun r9 => nn r9 (fun a10 => li h2 a10 v5 (fun x11 => vX12_steps_b176 k62 k73 k85 Qn h2 v0 v2 v3 v4 v5 (x11 + 1) x3 r1)))))) h v0 v4 1))
set_option maxRecDepth 100000 in
set_option maxHeartbeats 4000000 in
theorem tX12_steps_b134 {p : Program} {l : Launch} {e : Env} {s : State} {m : MethodId} {args : Array Value} {below : List Frame} {meth : Method} {c : Code} {G : gG} {A : Nat → Prop} {Qn : Int32 → gH → Prop} (X : gC p l s m args meth c G A cX12_steps 7 (some FieldType.int) RX12) {k62 : gH → Nat → Int32 → Int32 → Prop} {k73 : gH → Nat → Int32 → Int32 → Int32 → Prop} {k85 : gH → Nat → Int32 → Int32 → Int32 → Int32 → Prop} (H62 : ∀ (h : gH) (v0 : Nat) (v2 : Int32) (v3 : Int32), k62 h v0 v2 v3 → V p l e rmX12_steps s m args below meth c (MQ below (va_Qi Qn (gB G A) A) args s rmX12_steps.cells rmX12_steps.slots A) G A 7 h 0 0 62 [(0, .ref v0), (2, .int v2), (3, .int v3)] []) (H73 : ∀ (h : gH) (v0 : Nat) (v2 : Int32) (v3 : Int32) (v4 : Int32), k73 h v0 v2 v3 v4 → V p l e rmX12_steps s m args below meth c (MQ below (va_Qi Qn (gB G A) A) args s rmX12_steps.cells rmX12_steps.slots A) G A 7 h 0 0 73 [(0, .ref v0), (2, .int v2), (3, .int v3), (4, .int v4)] []) (H85 : ∀ (h : gH) (v0 : Nat) (v2 : Int32) (v3 : Int32) (v4 : Int32) (v5 : Int32), k85 h v0 v2 v3 v4 v5 → V p l e rmX12_steps s m args below meth c (MQ below (va_Qi Qn (gB G A) A) args s rmX12_steps.cells rmX12_steps.slots A) G A 7 h 0 0 85 [(0, .ref v0), (2, .int v2), (3, .int v3), (4, .int v4), (5, .int v5)] []) {h : gH} {v0 : Nat} {v2 : Int32} {v3 : Int32} {v4 : Int32} {v5 : Int32} {s0 : Int32} (w : vX12_steps_b134 k62 k73 k85 Qn h v0 v2 v3 v4 v5 s0) : V p l e rmX12_steps s m args below meth c (MQ below (va_Qi Qn (gB G A) A) args s rmX12_steps.cells rmX12_steps.slots A) G A 7 h 0 0 134 [(0, .ref v0), (2, .int v2), (3, .int v3), (4, .int v4), (5, .int v5)] [.int s0] := by
  refine V_istore X dX12_steps_134 (by decide) rfl ?_
  refine V_aloadr_n X dX12_steps_136 1 rfl ?_
  obtain ⟨fs, r1, hh, hv, w⟩ := w
  refine V_get X flX12_91 dX12_steps_137 hh hv ?_
  refine V_aloadr_n X dX12_steps_140 1 rfl ?_
  refine V_iload X dX12_steps_141 4 rfl ?_
  refine V_iconst (y := 1) X dX12_steps_143 (by decide) ?_
  obtain ⟨fs, hh, w⟩ := w
  refine V_callVi (As := [.int v4, .int 1]) (rest := [va_rf r1]) (k1 := 0) (n1 := 0) X (cX12_of_ok X.2.2.2.2.2.2.2.2.1 w) lkX12_177 hh (q9 := (RX12, TX12, 42)) rfl rfl dX12_steps_144 ⟨Nat.le_of_ble_eq_true rfl, Nat.le_of_ble_eq_true rfl⟩ rfl (va_len _ 4 (Nat.le_of_ble_eq_true rfl)) ⟨Nat.le_of_ble_eq_true rfl, Nat.le_of_ble_eq_true rfl⟩ (Nat.le_of_ble_eq_true rfl) (Nat.le_of_ble_eq_true rfl) (fun x3 h2 w9 => ?_)
  replace w := w9
  clear w9
  refine V_iload X dX12_steps_147 0 rfl ?_
  obtain ⟨w1, w2⟩ := w
  refine V_if_eq (tgt := 164) X dX12_steps_149 (by decide) (fun z => ?_) (fun z => ?_)
  · replace w := w1 z
    clear w1 w2
    refine V_aloadr_n X dX12_steps_164 1 rfl ?_
    obtain ⟨fs, r4, hh, hv, w⟩ := w
    refine V_get X flX12_91 dX12_steps_165 hh hv ?_
    refine V_aloadr_n X dX12_steps_168 1 rfl ?_
    refine V_iload X dX12_steps_169 4 rfl ?_
    refine V_iconst (y := 1) X dX12_steps_171 (by decide) ?_
    obtain ⟨fs, hh, w⟩ := w
    refine V_callVi (As := [.int v4, .int 1]) (rest := [va_rf r4, .int x3, va_rf r1]) (k1 := 0) (n1 := 0) X (cX12_of_ok X.2.2.2.2.2.2.2.2.1 w) lkX12_177 hh (q9 := (RX12, TX12, 42)) rfl rfl dX12_steps_172 ⟨Nat.le_of_ble_eq_true rfl, Nat.le_of_ble_eq_true rfl⟩ rfl (va_len _ 4 (Nat.le_of_ble_eq_true rfl)) ⟨Nat.le_of_ble_eq_true rfl, Nat.le_of_ble_eq_true rfl⟩ (Nat.le_of_ble_eq_true rfl) (Nat.le_of_ble_eq_true rfl) (fun x6 h5 w9 => ?_)
    replace w := w9
    clear w9
    obtain ⟨a7, rfl, w⟩ := w
    obtain ⟨N9, g9, hh, hi, w⟩ := w
    refine V_iald X dX12_steps_175 hh hi ?_
    generalize g9 _ = x8 at w ⊢
    exact V.sub [1, 2, 3, 4, 5] rfl (tX12_steps_b176 X H62 H73 H85 w)
  · replace w := w2 z
    clear w1 w2
    refine V_aloadr_n X dX12_steps_152 1 rfl ?_
    obtain ⟨fs, r9, hh, hv, w⟩ := w
    refine V_get X flX12_91 dX12_steps_153 hh hv ?_
    refine V_iload X dX12_steps_156 5 rfl ?_
    obtain ⟨a10, rfl, w⟩ := w
    obtain ⟨N9, g9, hh, hi, w⟩ := w
    refine V_iald X dX12_steps_158 hh hi ?_
    generalize g9 _ = x11 at w ⊢
    refine V_iconst (y := 1) X dX12_steps_159 (by decide) ?_
    refine V_iadd X dX12_steps_160 ?_
    refine V_goto (tgt := 176) X dX12_steps_161 (by decide) ?_
    exact V.sub [1, 2, 3, 4, 5] rfl (tX12_steps_b176 X H62 H73 H85 w)
def vX12_steps_b133 (k62 : gH → Nat → Int32 → Int32 → Prop) (k73 : gH → Nat → Int32 → Int32 → Int32 → Prop) (k85 : gH → Nat → Int32 → Int32 → Int32 → Int32 → Prop) (Qn : Int32 → gH → Prop) (h : gH) (v0 : Nat) (v2 : Int32) (v3 : Int32) (v4 : Int32) (v5 : Int32) : Prop := vX12_steps_b134 k62 k73 k85 Qn h v0 v2 v3 v4 v5 0
set_option maxRecDepth 100000 in
set_option maxHeartbeats 4000000 in
theorem tX12_steps_b133 {p : Program} {l : Launch} {e : Env} {s : State} {m : MethodId} {args : Array Value} {below : List Frame} {meth : Method} {c : Code} {G : gG} {A : Nat → Prop} {Qn : Int32 → gH → Prop} (X : gC p l s m args meth c G A cX12_steps 7 (some FieldType.int) RX12) {k62 : gH → Nat → Int32 → Int32 → Prop} {k73 : gH → Nat → Int32 → Int32 → Int32 → Prop} {k85 : gH → Nat → Int32 → Int32 → Int32 → Int32 → Prop} (H62 : ∀ (h : gH) (v0 : Nat) (v2 : Int32) (v3 : Int32), k62 h v0 v2 v3 → V p l e rmX12_steps s m args below meth c (MQ below (va_Qi Qn (gB G A) A) args s rmX12_steps.cells rmX12_steps.slots A) G A 7 h 0 0 62 [(0, .ref v0), (2, .int v2), (3, .int v3)] []) (H73 : ∀ (h : gH) (v0 : Nat) (v2 : Int32) (v3 : Int32) (v4 : Int32), k73 h v0 v2 v3 v4 → V p l e rmX12_steps s m args below meth c (MQ below (va_Qi Qn (gB G A) A) args s rmX12_steps.cells rmX12_steps.slots A) G A 7 h 0 0 73 [(0, .ref v0), (2, .int v2), (3, .int v3), (4, .int v4)] []) (H85 : ∀ (h : gH) (v0 : Nat) (v2 : Int32) (v3 : Int32) (v4 : Int32) (v5 : Int32), k85 h v0 v2 v3 v4 v5 → V p l e rmX12_steps s m args below meth c (MQ below (va_Qi Qn (gB G A) A) args s rmX12_steps.cells rmX12_steps.slots A) G A 7 h 0 0 85 [(0, .ref v0), (2, .int v2), (3, .int v3), (4, .int v4), (5, .int v5)] []) {h : gH} {v0 : Nat} {v2 : Int32} {v3 : Int32} {v4 : Int32} {v5 : Int32} (w : vX12_steps_b133 k62 k73 k85 Qn h v0 v2 v3 v4 v5) : V p l e rmX12_steps s m args below meth c (MQ below (va_Qi Qn (gB G A) A) args s rmX12_steps.cells rmX12_steps.slots A) G A 7 h 0 0 133 [(0, .ref v0), (2, .int v2), (3, .int v3), (4, .int v4), (5, .int v5)] [] := by
  refine V_iconst (y := 0) X dX12_steps_133 (by decide) ?_
  exact V.sub [0, 1, 2, 3, 4] rfl (tX12_steps_b134 X H62 H73 H85 w)
def vX12_steps_b85_o (k62 : gH → Nat → Int32 → Int32 → Prop) (k73 : gH → Nat → Int32 → Int32 → Int32 → Prop) (k85 : gH → Nat → Int32 → Int32 → Int32 → Int32 → Prop) (Qn : Int32 → gH → Prop) (h : gH) (v0 : Nat) (v2 : Int32) (v3 : Int32) (v4 : Int32) (v5 : Int32) : Prop := gi h v0 15 19 (fun x1 => ((x1 ≤ (v5 : Int32)) → (k73 h v0 v2 v3 (v4 + 1))) ∧ ((¬ x1 ≤ (v5 : Int32)) → (io h v0 15 (vX12_inList (fun x3 h2 => (((x3 : Int32) = 0) → (vX12_steps_b133 k62 k73 k85 Qn h2 v0 v2 v3 v4 v5)) ∧ ((¬ (x3 : Int32) = 0) → (gr h2 v0 15 41 (fun r4 => nn r4 (fun a5 => li h2 a5 v5 (fun x6 => gr h2 v0 15 41 (fun r7 => io h2 v0 15 (vX12_of (fun x9 h8 => nn r7 (fun a10 => li h8 a10 x9 (fun x11 => ((x11 ≤ ((x6 + 1) : Int32)) → (vX12_steps_b133 k62 k73 k85 Qn h8 v0 v2 v3 v4 v5)) ∧ ((¬ x11 ≤ ((x6 + 1) : Int32)) → (vX12_steps_b134 k62 k73 k85 Qn h8 v0 v2 v3 v4 v5 1))))) h2 v0 v4 1)))))))) h v0 v4 v5))))
set_option maxRecDepth 100000 in
set_option maxHeartbeats 4000000 in
theorem tX12_steps_b85_o {p : Program} {l : Launch} {e : Env} {s : State} {m : MethodId} {args : Array Value} {below : List Frame} {meth : Method} {c : Code} {G : gG} {A : Nat → Prop} {Qn : Int32 → gH → Prop} (X : gC p l s m args meth c G A cX12_steps 7 (some FieldType.int) RX12) {k62 : gH → Nat → Int32 → Int32 → Prop} {k73 : gH → Nat → Int32 → Int32 → Int32 → Prop} {k85 : gH → Nat → Int32 → Int32 → Int32 → Int32 → Prop} (H62 : ∀ (h : gH) (v0 : Nat) (v2 : Int32) (v3 : Int32), k62 h v0 v2 v3 → V p l e rmX12_steps s m args below meth c (MQ below (va_Qi Qn (gB G A) A) args s rmX12_steps.cells rmX12_steps.slots A) G A 7 h 0 0 62 [(0, .ref v0), (2, .int v2), (3, .int v3)] []) (H73 : ∀ (h : gH) (v0 : Nat) (v2 : Int32) (v3 : Int32) (v4 : Int32), k73 h v0 v2 v3 v4 → V p l e rmX12_steps s m args below meth c (MQ below (va_Qi Qn (gB G A) A) args s rmX12_steps.cells rmX12_steps.slots A) G A 7 h 0 0 73 [(0, .ref v0), (2, .int v2), (3, .int v3), (4, .int v4)] []) (H85 : ∀ (h : gH) (v0 : Nat) (v2 : Int32) (v3 : Int32) (v4 : Int32) (v5 : Int32), k85 h v0 v2 v3 v4 v5 → V p l e rmX12_steps s m args below meth c (MQ below (va_Qi Qn (gB G A) A) args s rmX12_steps.cells rmX12_steps.slots A) G A 7 h 0 0 85 [(0, .ref v0), (2, .int v2), (3, .int v3), (4, .int v4), (5, .int v5)] []) {h : gH} {v0 : Nat} {v2 : Int32} {v3 : Int32} {v4 : Int32} {v5 : Int32} (w : vX12_steps_b85_o k62 k73 k85 Qn h v0 v2 v3 v4 v5) : V p l e rmX12_steps s m args below meth c (MQ below (va_Qi Qn (gB G A) A) args s rmX12_steps.cells rmX12_steps.slots A) G A 7 h 0 0 85 [(0, .ref v0), (2, .int v2), (3, .int v3), (4, .int v4), (5, .int v5)] [] := by
  refine V_iload X dX12_steps_85 4 rfl ?_
  refine V_aloadr_n X dX12_steps_87 0 rfl ?_
  obtain ⟨fs, x1, hh, hv, w⟩ := w
  refine V_get X flX12_145 dX12_steps_88 hh hv ?_
  obtain ⟨w1, w2⟩ := w
  refine V_icmp_ge (tgt := 183) X dX12_steps_91 (by decide) (fun z => ?_) (fun z => ?_)
  · replace w := w1 z
    clear w1 w2
    refine V_iinc (y := (v4 + 1)) X dX12_steps_183 3 rfl (by first | rfl | (congr 1)) (by decide) rfl ?_
    refine V_goto (tgt := 73) X dX12_steps_186 (by decide) ?_
    exact V.sub [1, 2, 3, 0] rfl (H73 _ _ _ _ _ w)
  · replace w := w2 z
    clear w1 w2
    refine V_aloadr_n X dX12_steps_94 0 rfl ?_
    refine V_iload X dX12_steps_95 3 rfl ?_
    refine V_iload X dX12_steps_97 4 rfl ?_
    obtain ⟨fs, hh, w⟩ := w
    refine V_callVi (As := [.int v4, .int v5]) (rest := []) (k1 := 0) (n1 := 0) X (cX12_inList_ok X.2.2.2.2.2.2.2.2.1 w) lkX12_289 hh (q9 := (RX12, TX12, 42)) rfl rfl dX12_steps_99 ⟨Nat.le_of_ble_eq_true rfl, Nat.le_of_ble_eq_true rfl⟩ rfl (Nat.le_of_ble_eq_true rfl) ⟨Nat.le_of_ble_eq_true rfl, Nat.le_of_ble_eq_true rfl⟩ (Nat.le_of_ble_eq_true rfl) (Nat.le_of_ble_eq_true rfl) (fun x3 h2 w9 => ?_)
    replace w := w9
    clear w9
    obtain ⟨w1, w2⟩ := w
    refine V_if_eq (tgt := 133) X dX12_steps_102 (by decide) (fun z => ?_) (fun z => ?_)
    · replace w := w1 z
      clear w1 w2
      exact V.sub [0, 1, 2, 3, 4] rfl (tX12_steps_b133 X H62 H73 H85 w)
    · replace w := w2 z
      clear w1 w2
      refine V_aloadr_n X dX12_steps_105 0 rfl ?_
      obtain ⟨fs, r4, hh, hv, w⟩ := w
      refine V_get X flX12_91 dX12_steps_106 hh hv ?_
      refine V_iload X dX12_steps_109 4 rfl ?_
      obtain ⟨a5, rfl, w⟩ := w
      obtain ⟨N9, g9, hh, hi, w⟩ := w
      refine V_iald X dX12_steps_111 hh hi ?_
      generalize g9 _ = x6 at w ⊢
      refine V_iconst (y := 1) X dX12_steps_112 (by decide) ?_
      refine V_iadd X dX12_steps_113 ?_
      refine V_aloadr_n X dX12_steps_114 0 rfl ?_
      obtain ⟨fs, r7, hh, hv, w⟩ := w
      refine V_get X flX12_91 dX12_steps_115 hh hv ?_
      refine V_aloadr_n X dX12_steps_118 0 rfl ?_
      refine V_iload X dX12_steps_119 3 rfl ?_
      refine V_iconst (y := 1) X dX12_steps_121 (by decide) ?_
      obtain ⟨fs, hh, w⟩ := w
      refine V_callVi (As := [.int v4, .int 1]) (rest := [va_rf r7, .int (x6 + 1)]) (k1 := 0) (n1 := 0) X (cX12_of_ok X.2.2.2.2.2.2.2.2.1 w) lkX12_177 hh (q9 := (RX12, TX12, 42)) rfl rfl dX12_steps_122 ⟨Nat.le_of_ble_eq_true rfl, Nat.le_of_ble_eq_true rfl⟩ rfl (va_len _ 4 (Nat.le_of_ble_eq_true rfl)) ⟨Nat.le_of_ble_eq_true rfl, Nat.le_of_ble_eq_true rfl⟩ (Nat.le_of_ble_eq_true rfl) (Nat.le_of_ble_eq_true rfl) (fun x9 h8 w9 => ?_)
      replace w := w9
      clear w9
      obtain ⟨a10, rfl, w⟩ := w
      obtain ⟨N9, g9, hh, hi, w⟩ := w
      refine V_iald X dX12_steps_125 hh hi ?_
      generalize g9 _ = x11 at w ⊢
      obtain ⟨w1, w2⟩ := w
      refine V_icmp_ge (tgt := 133) X dX12_steps_126 (by decide) (fun z => ?_) (fun z => ?_)
      · replace w := w1 z
        clear w1 w2
        exact V.sub [0, 1, 2, 3, 4] rfl (tX12_steps_b133 X H62 H73 H85 w)
      · replace w := w2 z
        clear w1 w2
        refine V_iconst (y := 1) X dX12_steps_129 (by decide) ?_
        refine V_goto (tgt := 134) X dX12_steps_130 (by decide) ?_
        exact V.sub [0, 1, 2, 3, 4] rfl (tX12_steps_b134 X H62 H73 H85 w)
def vX12_steps_b85 (k62 : gH → Nat → Int32 → Int32 → Prop) (k73 : gH → Nat → Int32 → Int32 → Int32 → Prop) (Qn : Int32 → gH → Prop) (n : Nat) : gH → Nat → Int32 → Int32 → Int32 → Int32 → Prop := Nat.rec (motive := fun _ => gH → Nat → Int32 → Int32 → Int32 → Int32 → Prop) (fun _ _ _ _ _ _ => False) (fun _ k85 => vX12_steps_b85_o k62 k73 k85 Qn) n
theorem tX12_steps_b85 {p : Program} {l : Launch} {e : Env} {s : State} {m : MethodId} {args : Array Value} {below : List Frame} {meth : Method} {c : Code} {G : gG} {A : Nat → Prop} {Qn : Int32 → gH → Prop} (X : gC p l s m args meth c G A cX12_steps 7 (some FieldType.int) RX12) {k62 : gH → Nat → Int32 → Int32 → Prop} {k73 : gH → Nat → Int32 → Int32 → Int32 → Prop} (H62 : ∀ (h : gH) (v0 : Nat) (v2 : Int32) (v3 : Int32), k62 h v0 v2 v3 → V p l e rmX12_steps s m args below meth c (MQ below (va_Qi Qn (gB G A) A) args s rmX12_steps.cells rmX12_steps.slots A) G A 7 h 0 0 62 [(0, .ref v0), (2, .int v2), (3, .int v3)] []) (H73 : ∀ (h : gH) (v0 : Nat) (v2 : Int32) (v3 : Int32) (v4 : Int32), k73 h v0 v2 v3 v4 → V p l e rmX12_steps s m args below meth c (MQ below (va_Qi Qn (gB G A) A) args s rmX12_steps.cells rmX12_steps.slots A) G A 7 h 0 0 73 [(0, .ref v0), (2, .int v2), (3, .int v3), (4, .int v4)] []) : ∀ (n : Nat) (h : gH) (v0 : Nat) (v2 : Int32) (v3 : Int32) (v4 : Int32) (v5 : Int32) (w : vX12_steps_b85 k62 k73 Qn n h v0 v2 v3 v4 v5), V p l e rmX12_steps s m args below meth c (MQ below (va_Qi Qn (gB G A) A) args s rmX12_steps.cells rmX12_steps.slots A) G A 7 h 0 0 85 [(0, .ref v0), (2, .int v2), (3, .int v3), (4, .int v4), (5, .int v5)] [] := by
  intro n
  induction n with
  | zero => intro h v0 v2 v3 v4 v5 w; exact False.elim w
  | succ n ih => intro h v0 v2 v3 v4 v5 w; exact tX12_steps_b85_o X H62 H73 ih w
def vX12_steps_b73_o (k62 : gH → Nat → Int32 → Int32 → Prop) (k73 : gH → Nat → Int32 → Int32 → Int32 → Prop) (Qn : Int32 → gH → Prop) (h : gH) (v0 : Nat) (v2 : Int32) (v3 : Int32) (v4 : Int32) : Prop := gi h v0 15 21 (fun x1 => ((x1 ≤ (v4 : Int32)) → (k62 h v0 v2 (v3 + 1))) ∧ ((¬ x1 ≤ (v4 : Int32)) → (∃ n : Nat, vX12_steps_b85 k62 k73 Qn n h v0 v2 v3 v4 0)))
set_option maxRecDepth 100000 in
set_option maxHeartbeats 4000000 in
theorem tX12_steps_b73_o {p : Program} {l : Launch} {e : Env} {s : State} {m : MethodId} {args : Array Value} {below : List Frame} {meth : Method} {c : Code} {G : gG} {A : Nat → Prop} {Qn : Int32 → gH → Prop} (X : gC p l s m args meth c G A cX12_steps 7 (some FieldType.int) RX12) {k62 : gH → Nat → Int32 → Int32 → Prop} {k73 : gH → Nat → Int32 → Int32 → Int32 → Prop} (H62 : ∀ (h : gH) (v0 : Nat) (v2 : Int32) (v3 : Int32), k62 h v0 v2 v3 → V p l e rmX12_steps s m args below meth c (MQ below (va_Qi Qn (gB G A) A) args s rmX12_steps.cells rmX12_steps.slots A) G A 7 h 0 0 62 [(0, .ref v0), (2, .int v2), (3, .int v3)] []) (H73 : ∀ (h : gH) (v0 : Nat) (v2 : Int32) (v3 : Int32) (v4 : Int32), k73 h v0 v2 v3 v4 → V p l e rmX12_steps s m args below meth c (MQ below (va_Qi Qn (gB G A) A) args s rmX12_steps.cells rmX12_steps.slots A) G A 7 h 0 0 73 [(0, .ref v0), (2, .int v2), (3, .int v3), (4, .int v4)] []) {h : gH} {v0 : Nat} {v2 : Int32} {v3 : Int32} {v4 : Int32} (w : vX12_steps_b73_o k62 k73 Qn h v0 v2 v3 v4) : V p l e rmX12_steps s m args below meth c (MQ below (va_Qi Qn (gB G A) A) args s rmX12_steps.cells rmX12_steps.slots A) G A 7 h 0 0 73 [(0, .ref v0), (2, .int v2), (3, .int v3), (4, .int v4)] [] := by
  refine V_iload X dX12_steps_73 3 rfl ?_
  refine V_aloadr_n X dX12_steps_75 0 rfl ?_
  obtain ⟨fs, x1, hh, hv, w⟩ := w
  refine V_get X flX12_159 dX12_steps_76 hh hv ?_
  obtain ⟨w1, w2⟩ := w
  refine V_icmp_ge (tgt := 189) X dX12_steps_79 (by decide) (fun z => ?_) (fun z => ?_)
  · replace w := w1 z
    clear w1 w2
    refine V_iinc (y := (v3 + 1)) X dX12_steps_189 2 rfl (by first | rfl | (congr 1)) (by decide) rfl ?_
    refine V_goto (tgt := 62) X dX12_steps_192 (by decide) ?_
    exact V.sub [1, 2, 0] rfl (H62 _ _ _ _ w)
  · replace w := w2 z
    clear w1 w2
    refine V_iconst (y := 0) X dX12_steps_82 (by decide) ?_
    refine V_istore X dX12_steps_83 (by decide) rfl ?_
    obtain ⟨n9, w⟩ := w
    exact V.sub [1, 2, 3, 4, 0] rfl (tX12_steps_b85 X H62 H73 n9 _ _ _ _ _ _ w)
def vX12_steps_b73 (k62 : gH → Nat → Int32 → Int32 → Prop) (Qn : Int32 → gH → Prop) (n : Nat) : gH → Nat → Int32 → Int32 → Int32 → Prop := Nat.rec (motive := fun _ => gH → Nat → Int32 → Int32 → Int32 → Prop) (fun _ _ _ _ _ => False) (fun _ k73 => vX12_steps_b73_o k62 k73 Qn) n
theorem tX12_steps_b73 {p : Program} {l : Launch} {e : Env} {s : State} {m : MethodId} {args : Array Value} {below : List Frame} {meth : Method} {c : Code} {G : gG} {A : Nat → Prop} {Qn : Int32 → gH → Prop} (X : gC p l s m args meth c G A cX12_steps 7 (some FieldType.int) RX12) {k62 : gH → Nat → Int32 → Int32 → Prop} (H62 : ∀ (h : gH) (v0 : Nat) (v2 : Int32) (v3 : Int32), k62 h v0 v2 v3 → V p l e rmX12_steps s m args below meth c (MQ below (va_Qi Qn (gB G A) A) args s rmX12_steps.cells rmX12_steps.slots A) G A 7 h 0 0 62 [(0, .ref v0), (2, .int v2), (3, .int v3)] []) : ∀ (n : Nat) (h : gH) (v0 : Nat) (v2 : Int32) (v3 : Int32) (v4 : Int32) (w : vX12_steps_b73 k62 Qn n h v0 v2 v3 v4), V p l e rmX12_steps s m args below meth c (MQ below (va_Qi Qn (gB G A) A) args s rmX12_steps.cells rmX12_steps.slots A) G A 7 h 0 0 73 [(0, .ref v0), (2, .int v2), (3, .int v3), (4, .int v4)] [] := by
  intro n
  induction n with
  | zero => intro h v0 v2 v3 v4 w; exact False.elim w
  | succ n ih => intro h v0 v2 v3 v4 w; exact tX12_steps_b73_o X H62 ih w
def vX12_steps_b62_o (k62 : gH → Nat → Int32 → Int32 → Prop) (Qn : Int32 → gH → Prop) (h : gH) (v0 : Nat) (v2 : Int32) (v3 : Int32) : Prop := gi h v0 15 19 (fun x1 => ((x1 ≤ (v3 : Int32)) → (gr h v0 15 41 (fun r2 => nn r2 (fun a3 => li h a3 v2 (fun x4 => ((100 ≤ (x4 : Int32)) → (vX12_steps_b216  Qn h (-1))) ∧ ((¬ 100 ≤ (x4 : Int32)) → (gr h v0 15 41 (fun r5 => nn r5 (fun a6 => li h a6 v2 (fun x7 => vX12_steps_b216  Qn h x7)))))))))) ∧ ((¬ x1 ≤ (v3 : Int32)) → (∃ n : Nat, vX12_steps_b73 k62 Qn n h v0 v2 v3 0)))
set_option maxRecDepth 100000 in
set_option maxHeartbeats 4000000 in
theorem tX12_steps_b62_o {p : Program} {l : Launch} {e : Env} {s : State} {m : MethodId} {args : Array Value} {below : List Frame} {meth : Method} {c : Code} {G : gG} {A : Nat → Prop} {Qn : Int32 → gH → Prop} (X : gC p l s m args meth c G A cX12_steps 7 (some FieldType.int) RX12) {k62 : gH → Nat → Int32 → Int32 → Prop} (H62 : ∀ (h : gH) (v0 : Nat) (v2 : Int32) (v3 : Int32), k62 h v0 v2 v3 → V p l e rmX12_steps s m args below meth c (MQ below (va_Qi Qn (gB G A) A) args s rmX12_steps.cells rmX12_steps.slots A) G A 7 h 0 0 62 [(0, .ref v0), (2, .int v2), (3, .int v3)] []) {h : gH} {v0 : Nat} {v2 : Int32} {v3 : Int32} (w : vX12_steps_b62_o k62 Qn h v0 v2 v3) : V p l e rmX12_steps s m args below meth c (MQ below (va_Qi Qn (gB G A) A) args s rmX12_steps.cells rmX12_steps.slots A) G A 7 h 0 0 62 [(0, .ref v0), (2, .int v2), (3, .int v3)] [] := by
  refine V_iload_n X dX12_steps_62 2 rfl ?_
  refine V_aloadr_n X dX12_steps_63 0 rfl ?_
  obtain ⟨fs, x1, hh, hv, w⟩ := w
  refine V_get X flX12_145 dX12_steps_64 hh hv ?_
  obtain ⟨w1, w2⟩ := w
  refine V_icmp_ge (tgt := 195) X dX12_steps_67 (by decide) (fun z => ?_) (fun z => ?_)
  · replace w := w1 z
    clear w1 w2
    refine V_aloadr_n X dX12_steps_195 0 rfl ?_
    obtain ⟨fs, r2, hh, hv, w⟩ := w
    refine V_get X flX12_91 dX12_steps_196 hh hv ?_
    refine V_iload_n X dX12_steps_199 1 rfl ?_
    obtain ⟨a3, rfl, w⟩ := w
    obtain ⟨N9, g9, hh, hi, w⟩ := w
    refine V_iald X dX12_steps_200 hh hi ?_
    generalize g9 _ = x4 at w ⊢
    refine V_bipush (y := 100) X dX12_steps_201 (by decide) ?_
    obtain ⟨w1, w2⟩ := w
    refine V_icmp_ge (tgt := 215) X dX12_steps_203 (by decide) (fun z => ?_) (fun z => ?_)
    · replace w := w1 z
      clear w1 w2
      refine V_iconst (y := (-1)) X dX12_steps_215 (by decide) ?_
      exact V.sub [] rfl (tX12_steps_b216 X  w)
    · replace w := w2 z
      clear w1 w2
      refine V_aloadr_n X dX12_steps_206 0 rfl ?_
      obtain ⟨fs, r5, hh, hv, w⟩ := w
      refine V_get X flX12_91 dX12_steps_207 hh hv ?_
      refine V_iload_n X dX12_steps_210 1 rfl ?_
      obtain ⟨a6, rfl, w⟩ := w
      obtain ⟨N9, g9, hh, hi, w⟩ := w
      refine V_iald X dX12_steps_211 hh hi ?_
      generalize g9 _ = x7 at w ⊢
      refine V_goto (tgt := 216) X dX12_steps_212 (by decide) ?_
      exact V.sub [] rfl (tX12_steps_b216 X  w)
  · replace w := w2 z
    clear w1 w2
    refine V_iconst (y := 0) X dX12_steps_70 (by decide) ?_
    refine V_istore X dX12_steps_71 (by decide) rfl ?_
    obtain ⟨n9, w⟩ := w
    exact V.sub [1, 2, 3, 0] rfl (tX12_steps_b73 X H62 n9 _ _ _ _ _ w)
def vX12_steps_b62  (Qn : Int32 → gH → Prop) (n : Nat) : gH → Nat → Int32 → Int32 → Prop := Nat.rec (motive := fun _ => gH → Nat → Int32 → Int32 → Prop) (fun _ _ _ _ => False) (fun _ k62 => vX12_steps_b62_o k62 Qn) n
theorem tX12_steps_b62 {p : Program} {l : Launch} {e : Env} {s : State} {m : MethodId} {args : Array Value} {below : List Frame} {meth : Method} {c : Code} {G : gG} {A : Nat → Prop} {Qn : Int32 → gH → Prop} (X : gC p l s m args meth c G A cX12_steps 7 (some FieldType.int) RX12)   : ∀ (n : Nat) (h : gH) (v0 : Nat) (v2 : Int32) (v3 : Int32) (w : vX12_steps_b62  Qn n h v0 v2 v3), V p l e rmX12_steps s m args below meth c (MQ below (va_Qi Qn (gB G A) A) args s rmX12_steps.cells rmX12_steps.slots A) G A 7 h 0 0 62 [(0, .ref v0), (2, .int v2), (3, .int v3)] [] := by
  intro n
  induction n with
  | zero => intro h v0 v2 v3 w; exact False.elim w
  | succ n ih => intro h v0 v2 v3 w; exact tX12_steps_b62_o X ih w
def vX12_steps_b53 (k29 : gH → Nat → Int32 → Int32 → Int32 → Prop) (Qn : Int32 → gH → Prop) (h : gH) (v0 : Nat) (v1 : Int32) (v2 : Int32) (v3 : Int32) (s0 : Int32) (s1 : Int32) (s2 : Option Nat) : Prop := nn s2 (fun a1 => si h a1 s1 s0 (fun h2 => k29 h2 v0 v1 v2 (v3 + 1)))
set_option maxRecDepth 100000 in
set_option maxHeartbeats 4000000 in
theorem tX12_steps_b53 {p : Program} {l : Launch} {e : Env} {s : State} {m : MethodId} {args : Array Value} {below : List Frame} {meth : Method} {c : Code} {G : gG} {A : Nat → Prop} {Qn : Int32 → gH → Prop} (X : gC p l s m args meth c G A cX12_steps 7 (some FieldType.int) RX12) {k29 : gH → Nat → Int32 → Int32 → Int32 → Prop} (H29 : ∀ (h : gH) (v0 : Nat) (v1 : Int32) (v2 : Int32) (v3 : Int32), k29 h v0 v1 v2 v3 → V p l e rmX12_steps s m args below meth c (MQ below (va_Qi Qn (gB G A) A) args s rmX12_steps.cells rmX12_steps.slots A) G A 7 h 0 0 29 [(0, .ref v0), (1, .int v1), (2, .int v2), (3, .int v3)] []) {h : gH} {v0 : Nat} {v1 : Int32} {v2 : Int32} {v3 : Int32} {s0 : Int32} {s1 : Int32} {s2 : Option Nat} (w : vX12_steps_b53 k29 Qn h v0 v1 v2 v3 s0 s1 s2) : V p l e rmX12_steps s m args below meth c (MQ below (va_Qi Qn (gB G A) A) args s rmX12_steps.cells rmX12_steps.slots A) G A 7 h 0 0 53 [(0, .ref v0), (1, .int v1), (2, .int v2), (3, .int v3)] [.int s0, .int s1, va_rf s2] := by
  obtain ⟨a1, rfl, w⟩ := w
  obtain ⟨N9, g9, hh, hi, w⟩ := w
  refine V_iast X dX12_steps_53 hh hi ?_
  generalize va_up _ _ _ = h2 at w ⊢
  refine V_iinc (y := (v3 + 1)) X dX12_steps_54 3 rfl (by first | rfl | (congr 1)) (by decide) rfl ?_
  refine V_goto (tgt := 29) X dX12_steps_57 (by decide) ?_
  exact V.sub [1, 2, 3, 0] rfl (H29 _ _ _ _ _ w)
def vX12_steps_b29_o (k29 : gH → Nat → Int32 → Int32 → Int32 → Prop) (Qn : Int32 → gH → Prop) (h : gH) (v0 : Nat) (v1 : Int32) (v2 : Int32) (v3 : Int32) : Prop := gi h v0 15 19 (fun x1 => ((x1 ≤ (v3 : Int32)) → (∃ n : Nat, vX12_steps_b62  Qn n h v0 v2 0)) ∧ ((¬ x1 ≤ (v3 : Int32)) → (gr h v0 15 41 (fun r2 => ((¬ (v3 : Int32) = v1) → (vX12_steps_b53 k29 Qn h v0 v1 v2 v3 100 v3 r2)) ∧ (((v3 : Int32) = v1) → (vX12_steps_b53 k29 Qn h v0 v1 v2 v3 0 v3 r2))))))
set_option maxRecDepth 100000 in
set_option maxHeartbeats 4000000 in
theorem tX12_steps_b29_o {p : Program} {l : Launch} {e : Env} {s : State} {m : MethodId} {args : Array Value} {below : List Frame} {meth : Method} {c : Code} {G : gG} {A : Nat → Prop} {Qn : Int32 → gH → Prop} (X : gC p l s m args meth c G A cX12_steps 7 (some FieldType.int) RX12) {k29 : gH → Nat → Int32 → Int32 → Int32 → Prop} (H29 : ∀ (h : gH) (v0 : Nat) (v1 : Int32) (v2 : Int32) (v3 : Int32), k29 h v0 v1 v2 v3 → V p l e rmX12_steps s m args below meth c (MQ below (va_Qi Qn (gB G A) A) args s rmX12_steps.cells rmX12_steps.slots A) G A 7 h 0 0 29 [(0, .ref v0), (1, .int v1), (2, .int v2), (3, .int v3)] []) {h : gH} {v0 : Nat} {v1 : Int32} {v2 : Int32} {v3 : Int32} (w : vX12_steps_b29_o k29 Qn h v0 v1 v2 v3) : V p l e rmX12_steps s m args below meth c (MQ below (va_Qi Qn (gB G A) A) args s rmX12_steps.cells rmX12_steps.slots A) G A 7 h 0 0 29 [(0, .ref v0), (1, .int v1), (2, .int v2), (3, .int v3)] [] := by
  refine V_iload_n X dX12_steps_29 3 rfl ?_
  refine V_aloadr_n X dX12_steps_30 0 rfl ?_
  obtain ⟨fs, x1, hh, hv, w⟩ := w
  refine V_get X flX12_145 dX12_steps_31 hh hv ?_
  obtain ⟨w1, w2⟩ := w
  refine V_icmp_ge (tgt := 60) X dX12_steps_34 (by decide) (fun z => ?_) (fun z => ?_)
  · replace w := w1 z
    clear w1 w2
    refine V_iconst (y := 0) X dX12_steps_60 (by decide) ?_
    refine V_istore_n X dX12_steps_61 rfl (by decide) rfl ?_
    obtain ⟨n9, w⟩ := w
    exact V.sub [1, 3, 0] rfl (tX12_steps_b62 X  n9 _ _ _ _ w)
  · replace w := w2 z
    clear w1 w2
    refine V_aloadr_n X dX12_steps_37 0 rfl ?_
    obtain ⟨fs, r2, hh, hv, w⟩ := w
    refine V_get X flX12_91 dX12_steps_38 hh hv ?_
    refine V_iload_n X dX12_steps_41 3 rfl ?_
    refine V_iload_n X dX12_steps_42 3 rfl ?_
    refine V_iload_n X dX12_steps_43 1 rfl ?_
    obtain ⟨w1, w2⟩ := w
    refine V_icmp_ne (tgt := 51) X dX12_steps_44 (by decide) (fun z => ?_) (fun z => ?_)
    · replace w := w1 z
      clear w1 w2
      refine V_bipush (y := 100) X dX12_steps_51 (by decide) ?_
      exact V.sub [0, 1, 2, 3] rfl (tX12_steps_b53 X H29 w)
    · replace w := w2 z
      clear w1 w2
      refine V_iconst (y := 0) X dX12_steps_47 (by decide) ?_
      refine V_goto (tgt := 53) X dX12_steps_48 (by decide) ?_
      exact V.sub [0, 1, 2, 3] rfl (tX12_steps_b53 X H29 w)
def vX12_steps_b29  (Qn : Int32 → gH → Prop) (n : Nat) : gH → Nat → Int32 → Int32 → Int32 → Prop := Nat.rec (motive := fun _ => gH → Nat → Int32 → Int32 → Int32 → Prop) (fun _ _ _ _ _ => False) (fun _ k29 => vX12_steps_b29_o k29 Qn) n
theorem tX12_steps_b29 {p : Program} {l : Launch} {e : Env} {s : State} {m : MethodId} {args : Array Value} {below : List Frame} {meth : Method} {c : Code} {G : gG} {A : Nat → Prop} {Qn : Int32 → gH → Prop} (X : gC p l s m args meth c G A cX12_steps 7 (some FieldType.int) RX12)   : ∀ (n : Nat) (h : gH) (v0 : Nat) (v1 : Int32) (v2 : Int32) (v3 : Int32) (w : vX12_steps_b29  Qn n h v0 v1 v2 v3), V p l e rmX12_steps s m args below meth c (MQ below (va_Qi Qn (gB G A) A) args s rmX12_steps.cells rmX12_steps.slots A) G A 7 h 0 0 29 [(0, .ref v0), (1, .int v1), (2, .int v2), (3, .int v3)] [] := by
  intro n
  induction n with
  | zero => intro h v0 v1 v2 v3 w; exact False.elim w
  | succ n ih => intro h v0 v1 v2 v3 w; exact tX12_steps_b29_o X ih w
def vX12_steps  (Qn : Int32 → gH → Prop) (h : gH) (v0 : Nat) (v1 : Int32) (v2 : Int32) : Prop := pv h v0 15 25 (.int 0) (fun h1 => io h1 v0 15 (vX12_isState (fun x3 h2 => (((x3 : Int32) = 0) → (vX12_steps_b21  Qn h2 v0)) ∧ ((¬ (x3 : Int32) = 0) → (io h2 v0 15 (vX12_isState (fun x5 h4 => ((¬ (x5 : Int32) = 0) → (∃ n : Nat, vX12_steps_b29  Qn n h4 v0 v1 v2 0)) ∧ (((x5 : Int32) = 0) → (vX12_steps_b21  Qn h4 v0))) h2 v0 v2)))) h1 v0 v1))
set_option maxRecDepth 100000 in
set_option maxHeartbeats 4000000 in
theorem tX12_steps {p : Program} {l : Launch} {e : Env} {s : State} {m : MethodId} {args : Array Value} {below : List Frame} {meth : Method} {c : Code} {G : gG} {A : Nat → Prop} {Qn : Int32 → gH → Prop} (X : gC p l s m args meth c G A cX12_steps 7 (some FieldType.int) RX12)   {h : gH} {v0 : Nat} {v1 : Int32} {v2 : Int32} (w : vX12_steps  Qn h v0 v1 v2) : V p l e rmX12_steps s m args below meth c (MQ below (va_Qi Qn (gB G A) A) args s rmX12_steps.cells rmX12_steps.slots A) G A 7 h 0 0 0 [(0, .ref v0), (1, .int v1), (2, .int v2)] [] := by
  refine V_aloadr_n X dX12_steps_0 0 rfl ?_
  refine V_iconst (y := 0) X dX12_steps_1 (by decide) ?_
  obtain ⟨fs, hh, hv, w⟩ := w
  refine V_put X flX12_94 dX12_steps_2 hh hv rfl rfl ?_
  generalize va_up _ _ _ = h1 at w ⊢
  refine V_aloadr_n X dX12_steps_5 0 rfl ?_
  refine V_iload_n X dX12_steps_6 1 rfl ?_
  obtain ⟨fs, hh, w⟩ := w
  refine V_callVi (As := [.int v1]) (rest := []) (k1 := 0) (n1 := 0) X (cX12_isState_ok X.2.2.2.2.2.2.2.2.1 w) lkX12_162 hh (q9 := (RX12, TX12, 42)) rfl rfl dX12_steps_7 ⟨Nat.le_of_ble_eq_true rfl, Nat.le_of_ble_eq_true rfl⟩ rfl (Nat.le_of_ble_eq_true rfl) ⟨Nat.le_of_ble_eq_true rfl, Nat.le_of_ble_eq_true rfl⟩ (Nat.le_of_ble_eq_true rfl) (Nat.le_of_ble_eq_true rfl) (fun x3 h2 w9 => ?_)
  replace w := w9
  clear w9
  obtain ⟨w1, w2⟩ := w
  refine V_if_eq (tgt := 21) X dX12_steps_10 (by decide) (fun z => ?_) (fun z => ?_)
  · replace w := w1 z
    clear w1 w2
    exact V.sub [0] rfl (tX12_steps_b21 X  w)
  · replace w := w2 z
    clear w1 w2
    refine V_aloadr_n X dX12_steps_13 0 rfl ?_
    refine V_iload_n X dX12_steps_14 2 rfl ?_
    obtain ⟨fs, hh, w⟩ := w
    refine V_callVi (As := [.int v2]) (rest := []) (k1 := 0) (n1 := 0) X (cX12_isState_ok X.2.2.2.2.2.2.2.2.1 w) lkX12_162 hh (q9 := (RX12, TX12, 42)) rfl rfl dX12_steps_15 ⟨Nat.le_of_ble_eq_true rfl, Nat.le_of_ble_eq_true rfl⟩ rfl (Nat.le_of_ble_eq_true rfl) ⟨Nat.le_of_ble_eq_true rfl, Nat.le_of_ble_eq_true rfl⟩ (Nat.le_of_ble_eq_true rfl) (Nat.le_of_ble_eq_true rfl) (fun x5 h4 w9 => ?_)
    replace w := w9
    clear w9
    obtain ⟨w1, w2⟩ := w
    refine V_if_ne (tgt := 27) X dX12_steps_18 (by decide) (fun z => ?_) (fun z => ?_)
    · replace w := w1 z
      clear w1 w2
      refine V_iconst (y := 0) X dX12_steps_27 (by decide) ?_
      refine V_istore_n X dX12_steps_28 rfl (by decide) rfl ?_
      obtain ⟨n9, w⟩ := w
      exact V.sub [1, 2, 3, 0] rfl (tX12_steps_b29 X  n9 _ _ _ _ _ w)
    · replace w := w2 z
      clear w1 w2
      exact V.sub [0] rfl (tX12_steps_b21 X  w)
theorem cX12_steps_ok {l : Launch} {G : gG} {h : gH} (hls : l.stackTraces = false) {Qn : Int32 → gH → Prop} {v0 : Nat} {v1 : Int32} {v2 : Int32} (w : vX12_steps Qn h v0 v1 v2) : gMi l yX12_steps cX12_steps 7 (some FieldType.int) rmX12_steps rmX12_steps.cells rmX12_steps.slots G h [.ref v0, .int v1, .int v2] Qn := by
  exact gMi.of (by decide +kernel) hls (Nat.le_of_ble_eq_true rfl) rfl rfl (fun p e s m below meth c A X hnm => tX12_steps X w)
/-! AnimationControllerModel.keep(I)I -/
abbrev rmX12_keep : Room := { frames := 1, cells := 0, slots := 0, locals := 25 }
def vX12_keep  (Qn : Int32 → gH → Prop) (h : gH) (v0 : Nat) (v1 : Int32) : Prop := pv h v0 15 25 (.int 0) (fun h1 => vX12_in (fun x3 h2 => ((¬ (x3 : Int32) = 0) → (gi h2 v0 15 19 (fun x4 => ((¬ (x4 : Int32) = 0) → (gr h2 v0 15 0 (fun r5 => gi h2 v0 15 3 (fun x6 => nn r5 (fun a7 => si h2 a7 289 x6 (fun h8 => io h8 v0 15 (vX12_copies (fun h9 => gr h9 v0 15 1 (fun r10 => nn r10 (fun a11 => sz h9 a11 v1 1 (fun h12 => gr h12 v0 15 0 (fun r13 => nn r13 (fun a14 => li h12 a14 287 (fun x15 => Qn x15 h12))))))) h8 v0 0 (290 + (290 * v1))))))))) ∧ (((x4 : Int32) = 0) → (io h2 v0 15 (vX12_fails (fun x17 h16 => Qn x17 h16) h2 v0 2)))))) ∧ (((x3 : Int32) = 0) → (io h2 v0 15 (vX12_fails (fun x19 h18 => Qn x19 h18) h2 v0 1)))) h1 (Int32.toInt64 v1) 0 1)
set_option maxRecDepth 100000 in
set_option maxHeartbeats 4000000 in
theorem tX12_keep {p : Program} {l : Launch} {e : Env} {s : State} {m : MethodId} {args : Array Value} {below : List Frame} {meth : Method} {c : Code} {G : gG} {A : Nat → Prop} {Qn : Int32 → gH → Prop} (X : gC p l s m args meth c G A cX12_keep 2 (some FieldType.int) RX12)   {h : gH} {v0 : Nat} {v1 : Int32} (w : vX12_keep  Qn h v0 v1) : V p l e rmX12_keep s m args below meth c (MQ below (va_Qi Qn (gB G A) A) args s rmX12_keep.cells rmX12_keep.slots A) G A 2 h 0 0 0 [(0, .ref v0), (1, .int v1)] [] := by
  refine V_aloadr_n X dX12_keep_0 0 rfl ?_
  refine V_iconst (y := 0) X dX12_keep_1 (by decide) ?_
  obtain ⟨fs, hh, hv, w⟩ := w
  refine V_put X flX12_94 dX12_keep_2 hh hv rfl rfl ?_
  generalize va_up _ _ _ = h1 at w ⊢
  refine V_iload_n X dX12_keep_5 1 rfl ?_
  refine V_i2l X dX12_keep_6 ?_
  refine V_lconst (y := 0) X dX12_keep_7 (by decide) ?_
  refine V_lconst (y := 1) X dX12_keep_8 (by decide) ?_
  refine V_callSi (As := [.long (Int32.toInt64 v1), .long 0, .long 1]) (rest := []) (k1 := 0) (n1 := 0) X (cX12_in_ok X.2.2.2.2.2.2.2.2.1 w) lkX12_99 dX12_keep_9 ⟨Nat.le_of_ble_eq_true rfl, Nat.le_of_ble_eq_true rfl⟩ rfl (Nat.le_of_ble_eq_true rfl) ⟨Nat.le_of_ble_eq_true rfl, Nat.le_of_ble_eq_true rfl⟩ (Nat.le_of_ble_eq_true rfl) (Nat.le_of_ble_eq_true rfl) (fun x3 h2 w9 => ?_)
  replace w := w9
  clear w9
  obtain ⟨w1, w2⟩ := w
  refine V_if_ne (tgt := 21) X dX12_keep_12 (by decide) (fun z => ?_) (fun z => ?_)
  · replace w := w1 z
    clear w1 w2
    refine V_aloadr_n X dX12_keep_21 0 rfl ?_
    obtain ⟨fs, x4, hh, hv, w⟩ := w
    refine V_get X flX12_145 dX12_keep_22 hh hv ?_
    obtain ⟨w1, w2⟩ := w
    refine V_if_ne (tgt := 34) X dX12_keep_25 (by decide) (fun z => ?_) (fun z => ?_)
    · replace w := w1 z
      clear w1 w2
      refine V_aloadr_n X dX12_keep_34 0 rfl ?_
      obtain ⟨fs, r5, hh, hv, w⟩ := w
      refine V_get X flX12_7 dX12_keep_35 hh hv ?_
      refine V_sipush (y := 289) X dX12_keep_38 (by decide) ?_
      refine V_aloadr_n X dX12_keep_41 0 rfl ?_
      obtain ⟨fs, x6, hh, hv, w⟩ := w
      refine V_get X flX12_107 dX12_keep_42 hh hv ?_
      obtain ⟨a7, rfl, w⟩ := w
      obtain ⟨N9, g9, hh, hi, w⟩ := w
      refine V_iast X dX12_keep_45 hh hi ?_
      generalize va_up _ _ _ = h8 at w ⊢
      refine V_aloadr_n X dX12_keep_46 0 rfl ?_
      refine V_iconst (y := 0) X dX12_keep_47 (by decide) ?_
      refine V_sipush (y := 290) X dX12_keep_48 (by decide) ?_
      refine V_sipush (y := 290) X dX12_keep_51 (by decide) ?_
      refine V_iload_n X dX12_keep_54 1 rfl ?_
      refine V_imul X dX12_keep_55 ?_
      refine V_iadd X dX12_keep_56 ?_
      obtain ⟨fs, hh, w⟩ := w
      refine V_callVv (As := [.int 0, .int (290 + (290 * v1))]) (rest := []) (k1 := 0) (n1 := 0) X (cX12_copies_ok X.2.2.2.2.2.2.2.2.1 w) lkX12_359 hh (q9 := (RX12, TX12, 42)) rfl rfl dX12_keep_57 ⟨Nat.le_of_ble_eq_true rfl, Nat.le_of_ble_eq_true rfl⟩ rfl (Nat.le_of_ble_eq_true rfl) ⟨Nat.le_of_ble_eq_true rfl, Nat.le_of_ble_eq_true rfl⟩ (Nat.le_of_ble_eq_true rfl) (Nat.le_of_ble_eq_true rfl) (fun h9 w9 => ?_)
      replace w := w9
      clear w9
      refine V_aloadr_n X dX12_keep_60 0 rfl ?_
      obtain ⟨fs, r10, hh, hv, w⟩ := w
      refine V_get X flX12_13 dX12_keep_61 hh hv ?_
      refine V_iload_n X dX12_keep_64 1 rfl ?_
      refine V_iconst (y := 1) X dX12_keep_65 (by decide) ?_
      obtain ⟨a11, rfl, w⟩ := w
      obtain ⟨N9, g9, hh, hi, w⟩ := w
      refine V_zast X dX12_keep_66 hh hi ?_
      generalize va_up _ _ _ = h12 at w ⊢
      refine V_aloadr_n X dX12_keep_67 0 rfl ?_
      obtain ⟨fs, r13, hh, hv, w⟩ := w
      refine V_get X flX12_7 dX12_keep_68 hh hv ?_
      refine V_sipush (y := 287) X dX12_keep_71 (by decide) ?_
      obtain ⟨a14, rfl, w⟩ := w
      obtain ⟨N9, g9, hh, hi, w⟩ := w
      refine V_iald X dX12_keep_74 hh hi ?_
      generalize g9 _ = x15 at w ⊢
      exact V_iret X rfl dX12_keep_75 (Nat.le_of_ble_eq_true rfl) (Nat.le_of_ble_eq_true rfl) w
    · replace w := w2 z
      clear w1 w2
      refine V_aloadr_n X dX12_keep_28 0 rfl ?_
      refine V_iconst (y := 2) X dX12_keep_29 (by decide) ?_
      obtain ⟨fs, hh, w⟩ := w
      refine V_callVi (As := [.int 2]) (rest := []) (k1 := 0) (n1 := 0) X (cX12_fails_ok X.2.2.2.2.2.2.2.2.1 w) lkX12_103 hh (q9 := (RX12, TX12, 42)) rfl rfl dX12_keep_30 ⟨Nat.le_of_ble_eq_true rfl, Nat.le_of_ble_eq_true rfl⟩ rfl (Nat.le_of_ble_eq_true rfl) ⟨Nat.le_of_ble_eq_true rfl, Nat.le_of_ble_eq_true rfl⟩ (Nat.le_of_ble_eq_true rfl) (Nat.le_of_ble_eq_true rfl) (fun x17 h16 w9 => ?_)
      replace w := w9
      clear w9
      exact V_iret X rfl dX12_keep_33 (Nat.le_of_ble_eq_true rfl) (Nat.le_of_ble_eq_true rfl) w
  · replace w := w2 z
    clear w1 w2
    refine V_aloadr_n X dX12_keep_15 0 rfl ?_
    refine V_iconst (y := 1) X dX12_keep_16 (by decide) ?_
    obtain ⟨fs, hh, w⟩ := w
    refine V_callVi (As := [.int 1]) (rest := []) (k1 := 0) (n1 := 0) X (cX12_fails_ok X.2.2.2.2.2.2.2.2.1 w) lkX12_103 hh (q9 := (RX12, TX12, 42)) rfl rfl dX12_keep_17 ⟨Nat.le_of_ble_eq_true rfl, Nat.le_of_ble_eq_true rfl⟩ rfl (Nat.le_of_ble_eq_true rfl) ⟨Nat.le_of_ble_eq_true rfl, Nat.le_of_ble_eq_true rfl⟩ (Nat.le_of_ble_eq_true rfl) (Nat.le_of_ble_eq_true rfl) (fun x19 h18 w9 => ?_)
    replace w := w9
    clear w9
    exact V_iret X rfl dX12_keep_20 (Nat.le_of_ble_eq_true rfl) (Nat.le_of_ble_eq_true rfl) w
theorem cX12_keep_ok {l : Launch} {G : gG} {h : gH} (hls : l.stackTraces = false) {Qn : Int32 → gH → Prop} {v0 : Nat} {v1 : Int32} (w : vX12_keep Qn h v0 v1) : gMi l yX12_keep cX12_keep 2 (some FieldType.int) rmX12_keep rmX12_keep.cells rmX12_keep.slots G h [.ref v0, .int v1] Qn := by
  exact gMi.of (by decide +kernel) hls (Nat.le_of_ble_eq_true rfl) rfl rfl (fun p e s m below meth c A X hnm => tX12_keep X w)
/-! AnimationControllerModel.restore(I)I -/
abbrev rmX12_restore : Room := { frames := 1, cells := 0, slots := 0, locals := 25 }
def vX12_restore_b59_o (k59 : gH → Nat → Int32 → Prop) (Qn : Int32 → gH → Prop) (h : gH) (v0 : Nat) (v2 : Int32) : Prop := ((8 ≤ (v2 : Int32)) → (gr h v0 15 0 (fun r1 => nn r1 (fun a2 => li h a2 287 (fun x3 => Qn x3 h))))) ∧ ((¬ 8 ≤ (v2 : Int32)) → (gr h v0 15 0 (fun r4 => nn r4 (fun a5 => si h a5 (0 + v2) 0 (fun h6 => k59 h6 v0 (v2 + 1))))))
set_option maxRecDepth 100000 in
set_option maxHeartbeats 4000000 in
theorem tX12_restore_b59_o {p : Program} {l : Launch} {e : Env} {s : State} {m : MethodId} {args : Array Value} {below : List Frame} {meth : Method} {c : Code} {G : gG} {A : Nat → Prop} {Qn : Int32 → gH → Prop} (X : gC p l s m args meth c G A cX12_restore 3 (some FieldType.int) RX12) {k59 : gH → Nat → Int32 → Prop} (H59 : ∀ (h : gH) (v0 : Nat) (v2 : Int32), k59 h v0 v2 → V p l e rmX12_restore s m args below meth c (MQ below (va_Qi Qn (gB G A) A) args s rmX12_restore.cells rmX12_restore.slots A) G A 3 h 0 0 59 [(0, .ref v0), (2, .int v2)] []) {h : gH} {v0 : Nat} {v2 : Int32} (w : vX12_restore_b59_o k59 Qn h v0 v2) : V p l e rmX12_restore s m args below meth c (MQ below (va_Qi Qn (gB G A) A) args s rmX12_restore.cells rmX12_restore.slots A) G A 3 h 0 0 59 [(0, .ref v0), (2, .int v2)] [] := by
  refine V_iload_n X dX12_restore_59 1 rfl ?_
  refine V_bipush (y := 8) X dX12_restore_60 (by decide) ?_
  obtain ⟨w1, w2⟩ := w
  refine V_icmp_ge (tgt := 80) X dX12_restore_62 (by decide) (fun z => ?_) (fun z => ?_)
  · replace w := w1 z
    clear w1 w2
    refine V_aloadr_n X dX12_restore_80 0 rfl ?_
    obtain ⟨fs, r1, hh, hv, w⟩ := w
    refine V_get X flX12_7 dX12_restore_81 hh hv ?_
    refine V_sipush (y := 287) X dX12_restore_84 (by decide) ?_
    obtain ⟨a2, rfl, w⟩ := w
    obtain ⟨N9, g9, hh, hi, w⟩ := w
    refine V_iald X dX12_restore_87 hh hi ?_
    generalize g9 _ = x3 at w ⊢
    exact V_iret X rfl dX12_restore_88 (Nat.le_of_ble_eq_true rfl) (Nat.le_of_ble_eq_true rfl) w
  · replace w := w2 z
    clear w1 w2
    refine V_aloadr_n X dX12_restore_65 0 rfl ?_
    obtain ⟨fs, r4, hh, hv, w⟩ := w
    refine V_get X flX12_7 dX12_restore_66 hh hv ?_
    refine V_iconst (y := 0) X dX12_restore_69 (by decide) ?_
    refine V_iload_n X dX12_restore_70 1 rfl ?_
    refine V_iadd X dX12_restore_71 ?_
    refine V_iconst (y := 0) X dX12_restore_72 (by decide) ?_
    obtain ⟨a5, rfl, w⟩ := w
    obtain ⟨N9, g9, hh, hi, w⟩ := w
    refine V_iast X dX12_restore_73 hh hi ?_
    generalize va_up _ _ _ = h6 at w ⊢
    refine V_iinc (y := (v2 + 1)) X dX12_restore_74 1 rfl (by first | rfl | (congr 1)) (by decide) rfl ?_
    refine V_goto (tgt := 59) X dX12_restore_77 (by decide) ?_
    exact V.sub [1, 0] rfl (H59 _ _ _ w)
def vX12_restore_b59  (Qn : Int32 → gH → Prop) (n : Nat) : gH → Nat → Int32 → Prop := Nat.rec (motive := fun _ => gH → Nat → Int32 → Prop) (fun _ _ _ => False) (fun _ k59 => vX12_restore_b59_o k59 Qn) n
theorem tX12_restore_b59 {p : Program} {l : Launch} {e : Env} {s : State} {m : MethodId} {args : Array Value} {below : List Frame} {meth : Method} {c : Code} {G : gG} {A : Nat → Prop} {Qn : Int32 → gH → Prop} (X : gC p l s m args meth c G A cX12_restore 3 (some FieldType.int) RX12)   : ∀ (n : Nat) (h : gH) (v0 : Nat) (v2 : Int32) (w : vX12_restore_b59  Qn n h v0 v2), V p l e rmX12_restore s m args below meth c (MQ below (va_Qi Qn (gB G A) A) args s rmX12_restore.cells rmX12_restore.slots A) G A 3 h 0 0 59 [(0, .ref v0), (2, .int v2)] [] := by
  intro n
  induction n with
  | zero => intro h v0 v2 w; exact False.elim w
  | succ n ih => intro h v0 v2 w; exact tX12_restore_b59_o X ih w
def vX12_restore  (Qn : Int32 → gH → Prop) (h : gH) (v0 : Nat) (v1 : Int32) : Prop := pv h v0 15 25 (.int 0) (fun h1 => vX12_in (fun x3 h2 => ((¬ (x3 : Int32) = 0) → (gr h2 v0 15 1 (fun r4 => nn r4 (fun a5 => lz h2 a5 v1 (fun x6 => ((¬ (x6 : Int32) = 0) → (io h2 v0 15 (vX12_copies (fun h7 => gr h7 v0 15 0 (fun r8 => nn r8 (fun a9 => li h7 a9 289 (fun x10 => ∃ n : Nat, vX12_restore_b59  Qn n h7 v0 x10)))) h2 v0 (290 + (290 * v1)) 0))) ∧ (((x6 : Int32) = 0) → (io h2 v0 15 (vX12_fails (fun x12 h11 => Qn x12 h11) h2 v0 2)))))))) ∧ (((x3 : Int32) = 0) → (io h2 v0 15 (vX12_fails (fun x14 h13 => Qn x14 h13) h2 v0 1)))) h1 (Int32.toInt64 v1) 0 1)
set_option maxRecDepth 100000 in
set_option maxHeartbeats 4000000 in
theorem tX12_restore {p : Program} {l : Launch} {e : Env} {s : State} {m : MethodId} {args : Array Value} {below : List Frame} {meth : Method} {c : Code} {G : gG} {A : Nat → Prop} {Qn : Int32 → gH → Prop} (X : gC p l s m args meth c G A cX12_restore 3 (some FieldType.int) RX12)   {h : gH} {v0 : Nat} {v1 : Int32} (w : vX12_restore  Qn h v0 v1) : V p l e rmX12_restore s m args below meth c (MQ below (va_Qi Qn (gB G A) A) args s rmX12_restore.cells rmX12_restore.slots A) G A 3 h 0 0 0 [(0, .ref v0), (1, .int v1)] [] := by
  refine V_aloadr_n X dX12_restore_0 0 rfl ?_
  refine V_iconst (y := 0) X dX12_restore_1 (by decide) ?_
  obtain ⟨fs, hh, hv, w⟩ := w
  refine V_put X flX12_94 dX12_restore_2 hh hv rfl rfl ?_
  generalize va_up _ _ _ = h1 at w ⊢
  refine V_iload_n X dX12_restore_5 1 rfl ?_
  refine V_i2l X dX12_restore_6 ?_
  refine V_lconst (y := 0) X dX12_restore_7 (by decide) ?_
  refine V_lconst (y := 1) X dX12_restore_8 (by decide) ?_
  refine V_callSi (As := [.long (Int32.toInt64 v1), .long 0, .long 1]) (rest := []) (k1 := 0) (n1 := 0) X (cX12_in_ok X.2.2.2.2.2.2.2.2.1 w) lkX12_99 dX12_restore_9 ⟨Nat.le_of_ble_eq_true rfl, Nat.le_of_ble_eq_true rfl⟩ rfl (Nat.le_of_ble_eq_true rfl) ⟨Nat.le_of_ble_eq_true rfl, Nat.le_of_ble_eq_true rfl⟩ (Nat.le_of_ble_eq_true rfl) (Nat.le_of_ble_eq_true rfl) (fun x3 h2 w9 => ?_)
  replace w := w9
  clear w9
  obtain ⟨w1, w2⟩ := w
  refine V_if_ne (tgt := 21) X dX12_restore_12 (by decide) (fun z => ?_) (fun z => ?_)
  · replace w := w1 z
    clear w1 w2
    refine V_aloadr_n X dX12_restore_21 0 rfl ?_
    obtain ⟨fs, r4, hh, hv, w⟩ := w
    refine V_get X flX12_13 dX12_restore_22 hh hv ?_
    refine V_iload_n X dX12_restore_25 1 rfl ?_
    obtain ⟨a5, rfl, w⟩ := w
    obtain ⟨N9, g9, hh, hi, w⟩ := w
    refine V_zald X dX12_restore_26 hh hi ?_
    generalize g9 _ = x6 at w ⊢
    obtain ⟨w1, w2⟩ := w
    refine V_if_ne (tgt := 36) X dX12_restore_27 (by decide) (fun z => ?_) (fun z => ?_)
    · replace w := w1 z
      clear w1 w2
      refine V_aloadr_n X dX12_restore_36 0 rfl ?_
      refine V_sipush (y := 290) X dX12_restore_37 (by decide) ?_
      refine V_sipush (y := 290) X dX12_restore_40 (by decide) ?_
      refine V_iload_n X dX12_restore_43 1 rfl ?_
      refine V_imul X dX12_restore_44 ?_
      refine V_iadd X dX12_restore_45 ?_
      refine V_iconst (y := 0) X dX12_restore_46 (by decide) ?_
      obtain ⟨fs, hh, w⟩ := w
      refine V_callVv (As := [.int (290 + (290 * v1)), .int 0]) (rest := []) (k1 := 0) (n1 := 0) X (cX12_copies_ok X.2.2.2.2.2.2.2.2.1 w) lkX12_359 hh (q9 := (RX12, TX12, 42)) rfl rfl dX12_restore_47 ⟨Nat.le_of_ble_eq_true rfl, Nat.le_of_ble_eq_true rfl⟩ rfl (Nat.le_of_ble_eq_true rfl) ⟨Nat.le_of_ble_eq_true rfl, Nat.le_of_ble_eq_true rfl⟩ (Nat.le_of_ble_eq_true rfl) (Nat.le_of_ble_eq_true rfl) (fun h7 w9 => ?_)
      replace w := w9
      clear w9
      refine V_aloadr_n X dX12_restore_50 0 rfl ?_
      obtain ⟨fs, r8, hh, hv, w⟩ := w
      refine V_get X flX12_7 dX12_restore_51 hh hv ?_
      refine V_sipush (y := 289) X dX12_restore_54 (by decide) ?_
      obtain ⟨a9, rfl, w⟩ := w
      obtain ⟨N9, g9, hh, hi, w⟩ := w
      refine V_iald X dX12_restore_57 hh hi ?_
      generalize g9 _ = x10 at w ⊢
      refine V_istore_n X dX12_restore_58 rfl (by decide) rfl ?_
      obtain ⟨n9, w⟩ := w
      exact V.sub [1, 0] rfl (tX12_restore_b59 X  n9 _ _ _ w)
    · replace w := w2 z
      clear w1 w2
      refine V_aloadr_n X dX12_restore_30 0 rfl ?_
      refine V_iconst (y := 2) X dX12_restore_31 (by decide) ?_
      obtain ⟨fs, hh, w⟩ := w
      refine V_callVi (As := [.int 2]) (rest := []) (k1 := 0) (n1 := 0) X (cX12_fails_ok X.2.2.2.2.2.2.2.2.1 w) lkX12_103 hh (q9 := (RX12, TX12, 42)) rfl rfl dX12_restore_32 ⟨Nat.le_of_ble_eq_true rfl, Nat.le_of_ble_eq_true rfl⟩ rfl (Nat.le_of_ble_eq_true rfl) ⟨Nat.le_of_ble_eq_true rfl, Nat.le_of_ble_eq_true rfl⟩ (Nat.le_of_ble_eq_true rfl) (Nat.le_of_ble_eq_true rfl) (fun x12 h11 w9 => ?_)
      replace w := w9
      clear w9
      exact V_iret X rfl dX12_restore_35 (Nat.le_of_ble_eq_true rfl) (Nat.le_of_ble_eq_true rfl) w
  · replace w := w2 z
    clear w1 w2
    refine V_aloadr_n X dX12_restore_15 0 rfl ?_
    refine V_iconst (y := 1) X dX12_restore_16 (by decide) ?_
    obtain ⟨fs, hh, w⟩ := w
    refine V_callVi (As := [.int 1]) (rest := []) (k1 := 0) (n1 := 0) X (cX12_fails_ok X.2.2.2.2.2.2.2.2.1 w) lkX12_103 hh (q9 := (RX12, TX12, 42)) rfl rfl dX12_restore_17 ⟨Nat.le_of_ble_eq_true rfl, Nat.le_of_ble_eq_true rfl⟩ rfl (Nat.le_of_ble_eq_true rfl) ⟨Nat.le_of_ble_eq_true rfl, Nat.le_of_ble_eq_true rfl⟩ (Nat.le_of_ble_eq_true rfl) (Nat.le_of_ble_eq_true rfl) (fun x14 h13 w9 => ?_)
    replace w := w9
    clear w9
    exact V_iret X rfl dX12_restore_20 (Nat.le_of_ble_eq_true rfl) (Nat.le_of_ble_eq_true rfl) w
theorem cX12_restore_ok {l : Launch} {G : gG} {h : gH} (hls : l.stackTraces = false) {Qn : Int32 → gH → Prop} {v0 : Nat} {v1 : Int32} (w : vX12_restore Qn h v0 v1) : gMi l yX12_restore cX12_restore 3 (some FieldType.int) rmX12_restore rmX12_restore.cells rmX12_restore.slots G h [.ref v0, .int v1] Qn := by
  exact gMi.of (by decide +kernel) hls (Nat.le_of_ble_eq_true rfl) rfl rfl (fun p e s m below meth c A X hnm => tX12_restore X w)
/-! AnimationControllerModel.count(I)I -/
abbrev rmX12_count : Room := { frames := 1, cells := 0, slots := 0, locals := 21 }
def vX12_count  (Qn : Int32 → gH → Prop) (h : gH) (v0 : Nat) (v1 : Int32) : Prop := pv h v0 15 25 (.int 0) (fun h1 => ((v1 : Int32).toInt = 0 → (gi h1 v0 15 3 (fun x2 => Qn x2 h1))) ∧ ((v1 : Int32).toInt = 1 → (gi h1 v0 15 8 (fun x3 => Qn x3 h1))) ∧ ((v1 : Int32).toInt = 2 → (gi h1 v0 15 14 (fun x4 => Qn x4 h1))) ∧ ((v1 : Int32).toInt = 3 → (gi h1 v0 15 19 (fun x5 => Qn x5 h1))) ∧ ((v1 : Int32).toInt = 4 → (gi h1 v0 15 21 (fun x6 => Qn x6 h1))) ∧ ((v1 : Int32).toInt = 5 → (gr h1 v0 15 0 (fun r7 => nn r7 (fun a8 => li h1 a8 287 (fun x9 => Qn x9 h1))))) ∧ ((v1 : Int32).toInt = 6 → (gr h1 v0 15 0 (fun r10 => nn r10 (fun a11 => li h1 a11 166 (fun x12 => Qn x12 h1))))) ∧ ((v1 : Int32).toInt = 7 → (gi h1 v0 15 24 (fun x13 => Qn x13 h1))) ∧ (((v1 : Int32).toInt < 0 ∨ 7 < (v1 : Int32).toInt) → (io h1 v0 15 (vX12_fails (fun x15 h14 => Qn x15 h14) h1 v0 1))))
set_option maxRecDepth 100000 in
set_option maxHeartbeats 4000000 in
theorem tX12_count {p : Program} {l : Launch} {e : Env} {s : State} {m : MethodId} {args : Array Value} {below : List Frame} {meth : Method} {c : Code} {G : gG} {A : Nat → Prop} {Qn : Int32 → gH → Prop} (X : gC p l s m args meth c G A cX12_count 2 (some FieldType.int) RX12)   {h : gH} {v0 : Nat} {v1 : Int32} (w : vX12_count  Qn h v0 v1) : V p l e rmX12_count s m args below meth c (MQ below (va_Qi Qn (gB G A) A) args s rmX12_count.cells rmX12_count.slots A) G A 2 h 0 0 0 [(0, .ref v0), (1, .int v1)] [] := by
  refine V_aloadr_n X dX12_count_0 0 rfl ?_
  refine V_iconst (y := 0) X dX12_count_1 (by decide) ?_
  obtain ⟨fs, hh, hv, w⟩ := w
  refine V_put X flX12_94 dX12_count_2 hh hv rfl rfl ?_
  generalize va_up _ _ _ = h1 at w ⊢
  refine V_iload_n X dX12_count_5 1 rfl ?_
  obtain ⟨w0, w1, w2, w3, w4, w5, w6, w7, w8⟩ := w
  rcases (show (v1 : Int32).toInt = 0 ∨ (v1 : Int32).toInt = 1 ∨ (v1 : Int32).toInt = 2 ∨ (v1 : Int32).toInt = 3 ∨ (v1 : Int32).toInt = 4 ∨ (v1 : Int32).toInt = 5 ∨ (v1 : Int32).toInt = 6 ∨ (v1 : Int32).toInt = 7 ∨ ((v1 : Int32).toInt < 0 ∨ 7 < (v1 : Int32).toInt) by omega) with z | z | z | z | z | z | z | z | z
  · refine V_tableIn (tgt := 52) X dX12_count_6 (by omega) (by omega) (by rw [z]; rfl) (by decide) ?_
    replace w := w0 z
    clear w0 w1 w2 w3 w4 w5 w6 w7 w8
    refine V_aloadr_n X dX12_count_52 0 rfl ?_
    obtain ⟨fs, x2, hh, hv, w⟩ := w
    refine V_get X flX12_107 dX12_count_53 hh hv ?_
    exact V_iret X rfl dX12_count_56 (Nat.le_of_ble_eq_true rfl) (Nat.le_of_ble_eq_true rfl) w
  · refine V_tableIn (tgt := 57) X dX12_count_6 (by omega) (by omega) (by rw [z]; rfl) (by decide) ?_
    replace w := w1 z
    clear w0 w1 w2 w3 w4 w5 w6 w7 w8
    refine V_aloadr_n X dX12_count_57 0 rfl ?_
    obtain ⟨fs, x3, hh, hv, w⟩ := w
    refine V_get X flX12_120 dX12_count_58 hh hv ?_
    exact V_iret X rfl dX12_count_61 (Nat.le_of_ble_eq_true rfl) (Nat.le_of_ble_eq_true rfl) w
  · refine V_tableIn (tgt := 62) X dX12_count_6 (by omega) (by omega) (by rw [z]; rfl) (by decide) ?_
    replace w := w2 z
    clear w0 w1 w2 w3 w4 w5 w6 w7 w8
    refine V_aloadr_n X dX12_count_62 0 rfl ?_
    obtain ⟨fs, x4, hh, hv, w⟩ := w
    refine V_get X flX12_128 dX12_count_63 hh hv ?_
    exact V_iret X rfl dX12_count_66 (Nat.le_of_ble_eq_true rfl) (Nat.le_of_ble_eq_true rfl) w
  · refine V_tableIn (tgt := 67) X dX12_count_6 (by omega) (by omega) (by rw [z]; rfl) (by decide) ?_
    replace w := w3 z
    clear w0 w1 w2 w3 w4 w5 w6 w7 w8
    refine V_aloadr_n X dX12_count_67 0 rfl ?_
    obtain ⟨fs, x5, hh, hv, w⟩ := w
    refine V_get X flX12_145 dX12_count_68 hh hv ?_
    exact V_iret X rfl dX12_count_71 (Nat.le_of_ble_eq_true rfl) (Nat.le_of_ble_eq_true rfl) w
  · refine V_tableIn (tgt := 72) X dX12_count_6 (by omega) (by omega) (by rw [z]; rfl) (by decide) ?_
    replace w := w4 z
    clear w0 w1 w2 w3 w4 w5 w6 w7 w8
    refine V_aloadr_n X dX12_count_72 0 rfl ?_
    obtain ⟨fs, x6, hh, hv, w⟩ := w
    refine V_get X flX12_159 dX12_count_73 hh hv ?_
    exact V_iret X rfl dX12_count_76 (Nat.le_of_ble_eq_true rfl) (Nat.le_of_ble_eq_true rfl) w
  · refine V_tableIn (tgt := 77) X dX12_count_6 (by omega) (by omega) (by rw [z]; rfl) (by decide) ?_
    replace w := w5 z
    clear w0 w1 w2 w3 w4 w5 w6 w7 w8
    refine V_aloadr_n X dX12_count_77 0 rfl ?_
    obtain ⟨fs, r7, hh, hv, w⟩ := w
    refine V_get X flX12_7 dX12_count_78 hh hv ?_
    refine V_sipush (y := 287) X dX12_count_81 (by decide) ?_
    obtain ⟨a8, rfl, w⟩ := w
    obtain ⟨N9, g9, hh, hi, w⟩ := w
    refine V_iald X dX12_count_84 hh hi ?_
    generalize g9 _ = x9 at w ⊢
    exact V_iret X rfl dX12_count_85 (Nat.le_of_ble_eq_true rfl) (Nat.le_of_ble_eq_true rfl) w
  · refine V_tableIn (tgt := 86) X dX12_count_6 (by omega) (by omega) (by rw [z]; rfl) (by decide) ?_
    replace w := w6 z
    clear w0 w1 w2 w3 w4 w5 w6 w7 w8
    refine V_aloadr_n X dX12_count_86 0 rfl ?_
    obtain ⟨fs, r10, hh, hv, w⟩ := w
    refine V_get X flX12_7 dX12_count_87 hh hv ?_
    refine V_sipush (y := 166) X dX12_count_90 (by decide) ?_
    obtain ⟨a11, rfl, w⟩ := w
    obtain ⟨N9, g9, hh, hi, w⟩ := w
    refine V_iald X dX12_count_93 hh hi ?_
    generalize g9 _ = x12 at w ⊢
    exact V_iret X rfl dX12_count_94 (Nat.le_of_ble_eq_true rfl) (Nat.le_of_ble_eq_true rfl) w
  · refine V_tableIn (tgt := 95) X dX12_count_6 (by omega) (by omega) (by rw [z]; rfl) (by decide) ?_
    replace w := w7 z
    clear w0 w1 w2 w3 w4 w5 w6 w7 w8
    refine V_aloadr_n X dX12_count_95 0 rfl ?_
    obtain ⟨fs, x13, hh, hv, w⟩ := w
    refine V_get X flX12_188 dX12_count_96 hh hv ?_
    exact V_iret X rfl dX12_count_99 (Nat.le_of_ble_eq_true rfl) (Nat.le_of_ble_eq_true rfl) w
  · refine V_tableOut (tgt := 100) X dX12_count_6 z (by decide) ?_
    replace w := w8 z
    clear w0 w1 w2 w3 w4 w5 w6 w7 w8
    refine V_aloadr_n X dX12_count_100 0 rfl ?_
    refine V_iconst (y := 1) X dX12_count_101 (by decide) ?_
    obtain ⟨fs, hh, w⟩ := w
    refine V_callVi (As := [.int 1]) (rest := []) (k1 := 0) (n1 := 0) X (cX12_fails_ok X.2.2.2.2.2.2.2.2.1 w) lkX12_103 hh (q9 := (RX12, TX12, 42)) rfl rfl dX12_count_102 ⟨Nat.le_of_ble_eq_true rfl, Nat.le_of_ble_eq_true rfl⟩ rfl (Nat.le_of_ble_eq_true rfl) ⟨Nat.le_of_ble_eq_true rfl, Nat.le_of_ble_eq_true rfl⟩ (Nat.le_of_ble_eq_true rfl) (Nat.le_of_ble_eq_true rfl) (fun x15 h14 w9 => ?_)
    replace w := w9
    clear w9
    exact V_iret X rfl dX12_count_105 (Nat.le_of_ble_eq_true rfl) (Nat.le_of_ble_eq_true rfl) w
theorem cX12_count_ok {l : Launch} {G : gG} {h : gH} (hls : l.stackTraces = false) {Qn : Int32 → gH → Prop} {v0 : Nat} {v1 : Int32} (w : vX12_count Qn h v0 v1) : gMi l yX12_count cX12_count 2 (some FieldType.int) rmX12_count rmX12_count.cells rmX12_count.slots G h [.ref v0, .int v1] Qn := by
  exact gMi.of (by decide +kernel) hls (Nat.le_of_ble_eq_true rfl) rfl rfl (fun p e s m below meth c A X hnm => tX12_count X w)
