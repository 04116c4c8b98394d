/-! AnimationController$Model.greatestDepthWith(LAnimationController$Node;LAnimationController$Node;)I -/
abbrev rmX4_greatestDepthWith : Room := { frames := 4, cells := 0, slots := 0, locals := 86 }
def vX4_greatestDepthWith_b66 (t0 : Nat) (k5 : gH → Nat → Option Nat → Option Nat → Int32 → Int32 → Prop) (Qn : Int32 → gH → Prop) (h : gH) (v0 : Nat) (v1 : Option Nat) (v2 : Option Nat) (v3 : Int32) (v4 : Int32) (v5 : Option Nat) : Prop := nn v5 (fun a1 => gi h a1 8 4 (fun x2 => vJ9_max_7cf53 t0 (fun x4 h3 => k5 h3 v0 v1 v2 x4 (v4 + 1)) h v3 x2))
set_option maxRecDepth 100000 in
set_option maxHeartbeats 4000000 in
theorem tX4_greatestDepthWith_b66 {p : Program} {l : Launch} {e : Env} {s : State} {m : MethodId} {args : Array Value} {below : List Frame} {meth : Method} {c : Code} {G : gG} {A : Nat → Prop} {Qn : Int32 → gH → Prop} (X : gC p l s m args meth c G A cX4_greatestDepthWith 6 (some FieldType.int) RX4) {k5 : gH → Nat → Option Nat → Option Nat → Int32 → Int32 → Prop} (H5 : ∀ (h : gH) (v0 : Nat) (v1 : Option Nat) (v2 : Option Nat) (v3 : Int32) (v4 : Int32), k5 h v0 v1 v2 v3 v4 → V p l e rmX4_greatestDepthWith s m args below meth c (MQ below (va_Qi Qn (gB G A) A) args s rmX4_greatestDepthWith.cells rmX4_greatestDepthWith.slots A) G A 6 h 0 0 5 [(0, .ref v0), (1, va_rf v1), (2, va_rf v2), (3, .int v3), (4, .int v4)] []) {h : gH} {v0 : Nat} {v1 : Option Nat} {v2 : Option Nat} {v3 : Int32} {v4 : Int32} {v5 : Option Nat} (w : vX4_greatestDepthWith_b66 G.2.2.1 k5 Qn h v0 v1 v2 v3 v4 v5) : V p l e rmX4_greatestDepthWith s m args below meth c (MQ below (va_Qi Qn (gB G A) A) args s rmX4_greatestDepthWith.cells rmX4_greatestDepthWith.slots A) G A 6 h 0 0 66 [(0, .ref v0), (1, va_rf v1), (2, va_rf v2), (3, .int v3), (4, .int v4), (5, va_rf v5)] [] := by
  refine V_iload_n X dX4_greatestDepthWith_66 3 rfl ?_
  refine V_aload X dX4_greatestDepthWith_67 5 rfl ?_
  obtain ⟨a1, rfl, w⟩ := w
  obtain ⟨fs, x2, hh, hv, w⟩ := w
  refine V_get X flX4_76 dX4_greatestDepthWith_69 hh hv ?_
  refine V_callSi (As := [.int v3, .int x2]) (rest := []) (k1 := 0) (n1 := 0) X (cJ9_max_7cf53_ok X.2.2.2.2.2.2.2.2.1 w) lkX4_79 dX4_greatestDepthWith_72 ⟨Nat.le_of_ble_eq_true rfl, Nat.le_of_ble_eq_true rfl⟩ rfl (Nat.le_of_ble_eq_true rfl) ⟨Nat.le_of_ble_eq_true rfl, Nat.le_of_ble_eq_true rfl⟩ (Nat.le_of_ble_eq_true rfl) (Nat.le_of_ble_eq_true rfl) (fun x4 h3 w9 => ?_)
  replace w := w9
  clear w9
  refine V_istore_n (i0 := 3) X dX4_greatestDepthWith_75 rfl (by decide) (by simp [va_cat1] <;> rfl) ?_
  refine V_iinc (y := (v4 + 1)) X dX4_greatestDepthWith_76 4 rfl (by first | rfl | (congr 1)) (by decide) rfl ?_
  refine V_goto (tgt := 5) X dX4_greatestDepthWith_79 (by decide) ?_
  exact V.sub [2, 3, 4, 1, 0] rfl (H5 _ _ _ _ _ _ w)
def vX4_greatestDepthWith_b5_o (t0 : Nat) (k5 : gH → Nat → Option Nat → Option Nat → Int32 → Int32 → Prop) (Qn : Int32 → gH → Prop) (h : gH) (v0 : Nat) (v1 : Option Nat) (v2 : Option Nat) (v3 : Int32) (v4 : Int32) : Prop := gr h v0 7 3 (fun r1 => nn r1 (fun a2 => io h a2 2 (vJx4a65c_size_8abf5 t0 (fun x4 h3 => ((x4 ≤ (v4 : Int32)) → (Qn v3 h3)) ∧ ((¬ x4 ≤ (v4 : Int32)) → (gr h3 v0 7 3 (fun r5 => nn r5 (fun a6 => io h3 a6 2 (vJx4a65c_get_915e3 t0 (fun r8 h7 => nn r8 (fun a9 => io h7 a9 8 (io h7 a9 8 (vX5_depthByChildren t0 (fun x11 h10 => pv h10 a9 8 4 (.int x11) (fun h12 => ((¬ (some a9) = v1) → (vX4_greatestDepthWith_b66 t0 k5 Qn h12 v0 v1 v2 v3 v4 (some a9))) ∧ (((some a9) = v1) → (gi h12 a9 8 4 (fun x13 => nn v2 (fun a14 => gi h12 a14 8 4 (fun x15 => vJ9_max_7cf53 t0 (fun x17 h16 => pv h16 a9 8 4 (.int x17) (fun h18 => vX4_greatestDepthWith_b66 t0 k5 Qn h18 v0 v1 (some a14) v3 v4 (some a9))) h12 x13 (x15 + 1)))))))) h7 a9 )))) h3 a6 v4)))))) h a2 )))
set_option maxRecDepth 100000 in
set_option maxHeartbeats 4000000 in
theorem tX4_greatestDepthWith_b5_o {p : Program} {l : Launch} {e : Env} {s : State} {m : MethodId} {args : Array Value} {below : List Frame} {meth : Method} {c : Code} {G : gG} {A : Nat → Prop} {Qn : Int32 → gH → Prop} (X : gC p l s m args meth c G A cX4_greatestDepthWith 6 (some FieldType.int) RX4) {k5 : gH → Nat → Option Nat → Option Nat → Int32 → Int32 → Prop} (H5 : ∀ (h : gH) (v0 : Nat) (v1 : Option Nat) (v2 : Option Nat) (v3 : Int32) (v4 : Int32), k5 h v0 v1 v2 v3 v4 → V p l e rmX4_greatestDepthWith s m args below meth c (MQ below (va_Qi Qn (gB G A) A) args s rmX4_greatestDepthWith.cells rmX4_greatestDepthWith.slots A) G A 6 h 0 0 5 [(0, .ref v0), (1, va_rf v1), (2, va_rf v2), (3, .int v3), (4, .int v4)] []) {h : gH} {v0 : Nat} {v1 : Option Nat} {v2 : Option Nat} {v3 : Int32} {v4 : Int32} (w : vX4_greatestDepthWith_b5_o G.2.2.1 k5 Qn h v0 v1 v2 v3 v4) : V p l e rmX4_greatestDepthWith s m args below meth c (MQ below (va_Qi Qn (gB G A) A) args s rmX4_greatestDepthWith.cells rmX4_greatestDepthWith.slots A) G A 6 h 0 0 5 [(0, .ref v0), (1, va_rf v1), (2, va_rf v2), (3, .int v3), (4, .int v4)] [] := by
  refine V_iload X dX4_greatestDepthWith_5 4 rfl ?_
  refine V_aloadr_n X dX4_greatestDepthWith_7 0 rfl ?_
  obtain ⟨fs, r1, hh, hv, w⟩ := w
  refine V_get X flX4_22 dX4_greatestDepthWith_8 hh hv ?_
  obtain ⟨a2, rfl, w⟩ := w
  obtain ⟨fs, hh, w⟩ := w
  refine V_callVi (As := []) (rest := [.int v4]) (k1 := 0) (n1 := 0) X (cJx4a65c_size_8abf5_ok X.2.2.2.2.2.2.2.2.1 w) lkX4_65 hh (q9 := (RJx4a65c, TJx4a65c, 3)) rfl rfl dX4_greatestDepthWith_11 ⟨Nat.le_of_ble_eq_true rfl, Nat.le_of_ble_eq_true rfl⟩ rfl (Nat.le_of_ble_eq_true rfl) ⟨Nat.le_of_ble_eq_true rfl, Nat.le_of_ble_eq_true rfl⟩ (Nat.le_of_ble_eq_true rfl) (Nat.le_of_ble_eq_true rfl) (fun x4 h3 w9 => ?_)
  replace w := w9
  clear w9
  obtain ⟨w1, w2⟩ := w
  refine V_icmp_ge (tgt := 82) X dX4_greatestDepthWith_14 (by decide) (fun z => ?_) (fun z => ?_)
  · replace w := w1 z
    clear w1 w2
    refine V_iload_n X dX4_greatestDepthWith_82 3 rfl ?_
    exact V_iret X rfl dX4_greatestDepthWith_83 (Nat.le_of_ble_eq_true rfl) (Nat.le_of_ble_eq_true rfl) w
  · replace w := w2 z
    clear w1 w2
    refine V_aloadr_n X dX4_greatestDepthWith_17 0 rfl ?_
    obtain ⟨fs, r5, hh, hv, w⟩ := w
    refine V_get X flX4_22 dX4_greatestDepthWith_18 hh hv ?_
    refine V_iload X dX4_greatestDepthWith_21 4 rfl ?_
    obtain ⟨a6, rfl, w⟩ := w
    obtain ⟨fs, hh, w⟩ := w
    refine V_callVq (As := [.int v4]) (rest := []) (k1 := 0) (n1 := 0) X (cJx4a65c_get_915e3_ok X.2.2.2.2.2.2.2.2.1 w) lkX4_69 hh (q9 := (RJx4a65c, TJx4a65c, 3)) rfl rfl dX4_greatestDepthWith_23 ⟨Nat.le_of_ble_eq_true rfl, Nat.le_of_ble_eq_true rfl⟩ rfl (Nat.le_of_ble_eq_true rfl) ⟨Nat.le_of_ble_eq_true rfl, Nat.le_of_ble_eq_true rfl⟩ (Nat.le_of_ble_eq_true rfl) (Nat.le_of_ble_eq_true rfl) (fun r8 h7 w9 => ?_)
    replace w := w9
    clear w9
    obtain ⟨a9, rfl, w⟩ := w
    obtain ⟨fs, hh, w⟩ := w
    refine V_cast (q9 := (RX5, TX5, 5)) X kw_79 rfl rfl hh dX4_greatestDepthWith_26 ?_
    refine V_astore X dX4_greatestDepthWith_29 (by decide) rfl ?_
    refine V_aloadr X dX4_greatestDepthWith_31 0 rfl ?_
    refine V_aloadr X dX4_greatestDepthWith_33 0 rfl ?_
    obtain ⟨fs, hh, w⟩ := w
    refine V_callVi (As := []) (rest := [.ref a9]) (k1 := 0) (n1 := 0) X (cX5_depthByChildren_ok X.2.2.2.2.2.2.2.2.1 w) lkX4_73 hh (q9 := (RX5, TX5, 5)) rfl rfl dX4_greatestDepthWith_35 ⟨Nat.le_of_ble_eq_true rfl, Nat.le_of_ble_eq_true rfl⟩ rfl (Nat.le_of_ble_eq_true rfl) ⟨Nat.le_of_ble_eq_true rfl, Nat.le_of_ble_eq_true rfl⟩ (Nat.le_of_ble_eq_true rfl) (Nat.le_of_ble_eq_true rfl) (fun x11 h10 w9 => ?_)
    replace w := w9
    clear w9
    obtain ⟨fs, hh, hv, w⟩ := w
    refine V_put X flX4_76 dX4_greatestDepthWith_38 hh hv rfl rfl ?_
    generalize va_up _ _ _ = h12 at w ⊢
    refine V_aloadr X dX4_greatestDepthWith_41 0 rfl ?_
    refine V_aload_n X dX4_greatestDepthWith_43 2 rfl ?_
    obtain ⟨w1, w2⟩ := w
    refine V_acmp_ne (some a9) v1 (tgt := 66) X dX4_greatestDepthWith_44 (by decide) (fun z => ?_) (fun z => ?_)
    · replace w := w1 z
      clear w1 w2
      exact V.sub [1, 2, 3, 4, 5, 0] rfl (tX4_greatestDepthWith_b66 X H5 w)
    · replace w := w2 z
      clear w1 w2
      refine V_aloadr X dX4_greatestDepthWith_47 0 rfl ?_
      refine V_aloadr X dX4_greatestDepthWith_49 0 rfl ?_
      obtain ⟨fs, x13, hh, hv, w⟩ := w
      refine V_get X flX4_76 dX4_greatestDepthWith_51 hh hv ?_
      refine V_aload_n X dX4_greatestDepthWith_54 3 rfl ?_
      obtain ⟨a14, rfl, w⟩ := w
      obtain ⟨fs, x15, hh, hv, w⟩ := w
      refine V_get X flX4_76 dX4_greatestDepthWith_55 hh hv ?_
      refine V_iconst (y := 1) X dX4_greatestDepthWith_58 (by decide) ?_
      refine V_iadd X dX4_greatestDepthWith_59 ?_
      refine V_callSi (As := [.int x13, .int (x15 + 1)]) (rest := [.ref a9]) (k1 := 0) (n1 := 0) X (cJ9_max_7cf53_ok X.2.2.2.2.2.2.2.2.1 w) lkX4_79 dX4_greatestDepthWith_60 ⟨Nat.le_of_ble_eq_true rfl, Nat.le_of_ble_eq_true rfl⟩ rfl (Nat.le_of_ble_eq_true rfl) ⟨Nat.le_of_ble_eq_true rfl, Nat.le_of_ble_eq_true rfl⟩ (Nat.le_of_ble_eq_true rfl) (Nat.le_of_ble_eq_true rfl) (fun x17 h16 w9 => ?_)
      replace w := w9
      clear w9
      obtain ⟨fs, hh, hv, w⟩ := w
      refine V_put X flX4_76 dX4_greatestDepthWith_63 hh hv rfl rfl ?_
      generalize va_up _ _ _ = h18 at w ⊢
      exact V.sub [1, 2, 3, 4, 5, 0] rfl (tX4_greatestDepthWith_b66 X H5 w)
def vX4_greatestDepthWith_b5 (t0 : Nat)  (Qn : Int32 → gH → Prop) (n : Nat) : gH → Nat → Option Nat → Option Nat → Int32 → Int32 → Prop := Nat.rec (motive := fun _ => gH → Nat → Option Nat → Option Nat → Int32 → Int32 → Prop) (fun _ _ _ _ _ _ => False) (fun _ k5 => vX4_greatestDepthWith_b5_o t0 k5 Qn) n
theorem tX4_greatestDepthWith_b5 {p : Program} {l : Launch} {e : Env} {s : State} {m : MethodId} {args : Array Value} {below : List Frame} {meth : Method} {c : Code} {G : gG} {A : Nat → Prop} {Qn : Int32 → gH → Prop} (X : gC p l s m args meth c G A cX4_greatestDepthWith 6 (some FieldType.int) RX4)   : ∀ (n : Nat) (h : gH) (v0 : Nat) (v1 : Option Nat) (v2 : Option Nat) (v3 : Int32) (v4 : Int32) (w : vX4_greatestDepthWith_b5 G.2.2.1  Qn n h v0 v1 v2 v3 v4), V p l e rmX4_greatestDepthWith s m args below meth c (MQ below (va_Qi Qn (gB G A) A) args s rmX4_greatestDepthWith.cells rmX4_greatestDepthWith.slots A) G A 6 h 0 0 5 [(0, .ref v0), (1, va_rf v1), (2, va_rf v2), (3, .int v3), (4, .int v4)] [] := by
  intro n
  induction n with
  | zero => intro h v0 v1 v2 v3 v4 w; exact False.elim w
  | succ n ih => intro h v0 v1 v2 v3 v4 w; exact tX4_greatestDepthWith_b5_o X ih w
def vX4_greatestDepthWith (t0 : Nat)  (Qn : Int32 → gH → Prop) (h : gH) (v0 : Nat) (v1 : Option Nat) (v2 : Option Nat) : Prop := ∃ n : Nat, vX4_greatestDepthWith_b5 t0  Qn n h v0 v1 v2 0 0
set_option maxRecDepth 100000 in
set_option maxHeartbeats 4000000 in
theorem tX4_greatestDepthWith {p : Program} {l : Launch} {e : Env} {s : State} {m : MethodId} {args : Array Value} {below : List Frame} {meth : Method} {c : Code} {G : gG} {A : Nat → Prop} {Qn : Int32 → gH → Prop} (X : gC p l s m args meth c G A cX4_greatestDepthWith 6 (some FieldType.int) RX4)   {h : gH} {v0 : Nat} {v1 : Option Nat} {v2 : Option Nat} (w : vX4_greatestDepthWith G.2.2.1  Qn h v0 v1 v2) : V p l e rmX4_greatestDepthWith s m args below meth c (MQ below (va_Qi Qn (gB G A) A) args s rmX4_greatestDepthWith.cells rmX4_greatestDepthWith.slots A) G A 6 h 0 0 0 [(0, .ref v0), (1, va_rf v1), (2, va_rf v2)] [] := by
  refine V_iconst (y := 0) X dX4_greatestDepthWith_0 (by decide) ?_
  refine V_istore_n (i0 := 3) X dX4_greatestDepthWith_1 rfl (by decide) (by simp [va_cat1] <;> rfl) ?_
  refine V_iconst (y := 0) X dX4_greatestDepthWith_2 (by decide) ?_
  refine V_istore X dX4_greatestDepthWith_3 (by decide) rfl ?_
  obtain ⟨n9, w⟩ := w
  exact V.sub [2, 3, 4, 1, 0] rfl (tX4_greatestDepthWith_b5 X  n9 _ _ _ _ _ _ w)
theorem cX4_greatestDepthWith_ok {l : Launch} {G : gG} {h : gH} (hls : l.stackTraces = false) {Qn : Int32 → gH → Prop} {v0 : Nat} {v1 : Option Nat} {v2 : Option Nat} (w : vX4_greatestDepthWith G.2.2.1 Qn h v0 v1 v2) : gMi l yX4_greatestDepthWith cX4_greatestDepthWith 6 (some FieldType.int) rmX4_greatestDepthWith rmX4_greatestDepthWith.cells rmX4_greatestDepthWith.slots G h [.ref v0, va_rf v1, va_rf v2] Qn := by
  cases v1 <;>
  cases v2 <;>
  exact gMi.of (by decide +kernel) hls (Nat.le_of_ble_eq_true rfl) rfl rfl (fun p e s m below meth c A X hnm => tX4_greatestDepthWith X w)
/-! AnimationController$Node.isLine()Z -/
abbrev rmX5_isLine : Room := { frames := 0, cells := 0, slots := 0, locals := 0 }
def vX5_isLine_b12 (t0 : Nat)  (Qn : Int32 → gH → Prop) (h : gH) (s0 : Int32) : Prop := gZ s0 ∧ Qn s0 h
set_option maxRecDepth 100000 in
set_option maxHeartbeats 4000000 in
theorem tX5_isLine_b12 {p : Program} {l : Launch} {e : Env} {s : State} {m : MethodId} {args : Array Value} {below : List Frame} {meth : Method} {c : Code} {G : gG} {A : Nat → Prop} {Qn : Int32 → gH → Prop} (X : gC p l s m args meth c G A cX5_isLine 1 (some FieldType.boolean) RX5)   {h : gH} {s0 : Int32} (w : vX5_isLine_b12 G.2.2.1  Qn h s0) : V p l e rmX5_isLine s m args below meth c (MQ below (va_Qi Qn (gB G A) A) args s rmX5_isLine.cells rmX5_isLine.slots A) G A 1 h 0 0 12 [] [.int s0] := by
  obtain ⟨hz, w⟩ := w
  exact V_zret X rfl hz.1 dX5_isLine_12 (Nat.le_of_ble_eq_true rfl) (Nat.le_of_ble_eq_true rfl) w
def vX5_isLine (t0 : Nat)  (Qn : Int32 → gH → Prop) (h : gH) (v0 : Nat) : Prop := gr h v0 8 0 (fun r1 => ((r1) = none → (vX5_isLine_b12 t0  Qn h 1)) ∧ (∀ a2 : Nat, (r1) = some a2 → (vX5_isLine_b12 t0  Qn h 0)))
set_option maxRecDepth 100000 in
set_option maxHeartbeats 4000000 in
theorem tX5_isLine {p : Program} {l : Launch} {e : Env} {s : State} {m : MethodId} {args : Array Value} {below : List Frame} {meth : Method} {c : Code} {G : gG} {A : Nat → Prop} {Qn : Int32 → gH → Prop} (X : gC p l s m args meth c G A cX5_isLine 1 (some FieldType.boolean) RX5)   {h : gH} {v0 : Nat} (w : vX5_isLine G.2.2.1  Qn h v0) : V p l e rmX5_isLine s m args below meth c (MQ below (va_Qi Qn (gB G A) A) args s rmX5_isLine.cells rmX5_isLine.slots A) G A 1 h 0 0 0 [(0, .ref v0)] [] := by
  refine V_aloadr_n X dX5_isLine_0 0 rfl ?_
  obtain ⟨fs, r1, hh, hv, w⟩ := w
  refine V_get X flX5_26 dX5_isLine_1 hh hv ?_
  obtain ⟨w1, w2⟩ := w
  refine V_ifnonnull (tgt := 11) X dX5_isLine_4 (by decide) (fun a2 z => ?_) (fun z => ?_)
  · replace w := w2 a2 z
    clear w1 w2
    subst z
    refine V_iconst (y := 0) X dX5_isLine_11 (by decide) ?_
    exact V.sub [] rfl (tX5_isLine_b12 X  w)
  · replace w := w1 z
    clear w1 w2
    subst z
    refine V_iconst (y := 1) X dX5_isLine_7 (by decide) ?_
    refine V_goto (tgt := 12) X dX5_isLine_8 (by decide) ?_
    exact V.sub [] rfl (tX5_isLine_b12 X  w)
theorem cX5_isLine_ok {l : Launch} {G : gG} {h : gH} (hls : l.stackTraces = false) {Qn : Int32 → gH → Prop} {v0 : Nat} (w : vX5_isLine G.2.2.1 Qn h v0) : gMi l yX5_isLine cX5_isLine 1 (some FieldType.boolean) rmX5_isLine rmX5_isLine.cells rmX5_isLine.slots G h [.ref v0] Qn := by
  exact gMi.of (by decide +kernel) hls (Nat.le_of_ble_eq_true rfl) rfl rfl (fun p e s m below meth c A X hnm => tX5_isLine X w)
/-! AnimationController$Node.isComplete()Z -/
abbrev rmX5_isComplete : Room := { frames := 1, cells := 0, slots := 0, locals := 20 }
def vX5_isComplete_b22 (t0 : Nat)  (Qn : Int32 → gH → Prop) (h : gH) (s0 : Int32) : Prop := gZ s0 ∧ Qn s0 h
set_option maxRecDepth 100000 in
set_option maxHeartbeats 4000000 in
theorem tX5_isComplete_b22 {p : Program} {l : Launch} {e : Env} {s : State} {m : MethodId} {args : Array Value} {below : List Frame} {meth : Method} {c : Code} {G : gG} {A : Nat → Prop} {Qn : Int32 → gH → Prop} (X : gC p l s m args meth c G A cX5_isComplete 1 (some FieldType.boolean) RX5)   {h : gH} {s0 : Int32} (w : vX5_isComplete_b22 G.2.2.1  Qn h s0) : V p l e rmX5_isComplete s m args below meth c (MQ below (va_Qi Qn (gB G A) A) args s rmX5_isComplete.cells rmX5_isComplete.slots A) G A 1 h 0 0 22 [] [.int s0] := by
  obtain ⟨hz, w⟩ := w
  exact V_zret X rfl hz.1 dX5_isComplete_22 (Nat.le_of_ble_eq_true rfl) (Nat.le_of_ble_eq_true rfl) w
def vX5_isComplete_b17 (t0 : Nat)  (Qn : Int32 → gH → Prop) (h : gH)  : Prop := vX5_isComplete_b22 t0  Qn h 1
set_option maxRecDepth 100000 in
set_option maxHeartbeats 4000000 in
theorem tX5_isComplete_b17 {p : Program} {l : Launch} {e : Env} {s : State} {m : MethodId} {args : Array Value} {below : List Frame} {meth : Method} {c : Code} {G : gG} {A : Nat → Prop} {Qn : Int32 → gH → Prop} (X : gC p l s m args meth c G A cX5_isComplete 1 (some FieldType.boolean) RX5)   {h : gH}  (w : vX5_isComplete_b17 G.2.2.1  Qn h ) : V p l e rmX5_isComplete s m args below meth c (MQ below (va_Qi Qn (gB G A) A) args s rmX5_isComplete.cells rmX5_isComplete.slots A) G A 1 h 0 0 17 [] [] := by
  refine V_iconst (y := 1) X dX5_isComplete_17 (by decide) ?_
  refine V_goto (tgt := 22) X dX5_isComplete_18 (by decide) ?_
  exact V.sub [] rfl (tX5_isComplete_b22 X  w)
def vX5_isComplete (t0 : Nat)  (Qn : Int32 → gH → Prop) (h : gH) (v0 : Nat) : Prop := gr h v0 8 0 (fun r1 => ((r1) = none → (gr h v0 8 2 (fun r3 => nn r3 (fun a4 => io h a4 2 (vJx4a65c_isEmpty_aae02 t0 (fun x6 h5 => ((¬ (x6 : Int32) = 0) → (vX5_isComplete_b22 t0  Qn h5 0)) ∧ (((x6 : Int32) = 0) → (vX5_isComplete_b17 t0  Qn h5 ))) h a4 ))))) ∧ (∀ a2 : Nat, (r1) = some a2 → (vX5_isComplete_b17 t0  Qn h )))
set_option maxRecDepth 100000 in
set_option maxHeartbeats 4000000 in
theorem tX5_isComplete {p : Program} {l : Launch} {e : Env} {s : State} {m : MethodId} {args : Array Value} {below : List Frame} {meth : Method} {c : Code} {G : gG} {A : Nat → Prop} {Qn : Int32 → gH → Prop} (X : gC p l s m args meth c G A cX5_isComplete 1 (some FieldType.boolean) RX5)   {h : gH} {v0 : Nat} (w : vX5_isComplete G.2.2.1  Qn h v0) : V p l e rmX5_isComplete s m args below meth c (MQ below (va_Qi Qn (gB G A) A) args s rmX5_isComplete.cells rmX5_isComplete.slots A) G A 1 h 0 0 0 [(0, .ref v0)] [] := by
  refine V_aloadr_n X dX5_isComplete_0 0 rfl ?_
  obtain ⟨fs, r1, hh, hv, w⟩ := w
  refine V_get X flX5_26 dX5_isComplete_1 hh hv ?_
  obtain ⟨w1, w2⟩ := w
  refine V_ifnonnull (tgt := 17) X dX5_isComplete_4 (by decide) (fun a2 z => ?_) (fun z => ?_)
  · replace w := w2 a2 z
    clear w1 w2
    subst z
    exact V.sub [] rfl (tX5_isComplete_b17 X  w)
  · replace w := w1 z
    clear w1 w2
    subst z
    refine V_aloadr_n X dX5_isComplete_7 0 rfl ?_
    obtain ⟨fs, r3, hh, hv, w⟩ := w
    refine V_get X flX5_12 dX5_isComplete_8 hh hv ?_
    obtain ⟨a4, rfl, w⟩ := w
    obtain ⟨fs, hh, w⟩ := w
    refine V_callVi (As := []) (rest := []) (k1 := 0) (n1 := 0) X (cJx4a65c_isEmpty_aae02_ok X.2.2.2.2.2.2.2.2.1 w) lkX5_33 hh (q9 := (RJx4a65c, TJx4a65c, 3)) rfl rfl dX5_isComplete_11 ⟨Nat.le_of_ble_eq_true rfl, Nat.le_of_ble_eq_true rfl⟩ rfl (Nat.le_of_ble_eq_true rfl) ⟨Nat.le_of_ble_eq_true rfl, Nat.le_of_ble_eq_true rfl⟩ (Nat.le_of_ble_eq_true rfl) (Nat.le_of_ble_eq_true rfl) (fun x6 h5 w9 => ?_)
    replace w := w9
    clear w9
    obtain ⟨w1, w2⟩ := w
    refine V_if_ne (tgt := 21) X dX5_isComplete_14 (by decide) (fun z => ?_) (fun z => ?_)
    · replace w := w1 z
      clear w1 w2
      refine V_iconst (y := 0) X dX5_isComplete_21 (by decide) ?_
      exact V.sub [] rfl (tX5_isComplete_b22 X  w)
    · replace w := w2 z
      clear w1 w2
      exact V.sub [] rfl (tX5_isComplete_b17 X  w)
theorem cX5_isComplete_ok {l : Launch} {G : gG} {h : gH} (hls : l.stackTraces = false) {Qn : Int32 → gH → Prop} {v0 : Nat} (w : vX5_isComplete G.2.2.1 Qn h v0) : gMi l yX5_isComplete cX5_isComplete 1 (some FieldType.boolean) rmX5_isComplete rmX5_isComplete.cells rmX5_isComplete.slots G h [.ref v0] Qn := by
  exact gMi.of (by decide +kernel) hls (Nat.le_of_ble_eq_true rfl) rfl rfl (fun p e s m below meth c A X hnm => tX5_isComplete X w)
/-! AnimationController$Node.hasPosition(I)Z -/
abbrev rmX5_hasPosition : Room := { frames := 1, cells := 0, slots := 0, locals := 21 }
def vX5_hasPosition_b2_o (t0 : Nat) (k2 : gH → Nat → Int32 → Int32 → Prop) (Qn : Int32 → gH → Prop) (h : gH) (v0 : Nat) (v1 : Int32) (v2 : Int32) : Prop := gr h v0 8 2 (fun r1 => nn r1 (fun a2 => io h a2 2 (vJx4a65c_size_8abf5 t0 (fun x4 h3 => ((x4 ≤ (v2 : Int32)) → (Qn 0 h3)) ∧ ((¬ x4 ≤ (v2 : Int32)) → (io h3 v0 8 (vX5_positionOf t0 (fun x6 h5 => ((¬ (x6 : Int32) = v1) → (k2 h5 v0 v1 (v2 + 1))) ∧ (((x6 : Int32) = v1) → (Qn 1 h5))) h3 v0 v2)))) h a2 )))
set_option maxRecDepth 100000 in
set_option maxHeartbeats 4000000 in
theorem tX5_hasPosition_b2_o {p : Program} {l : Launch} {e : Env} {s : State} {m : MethodId} {args : Array Value} {below : List Frame} {meth : Method} {c : Code} {G : gG} {A : Nat → Prop} {Qn : Int32 → gH → Prop} (X : gC p l s m args meth c G A cX5_hasPosition 3 (some FieldType.boolean) RX5) {k2 : gH → Nat → Int32 → Int32 → Prop} (H2 : ∀ (h : gH) (v0 : Nat) (v1 : Int32) (v2 : Int32), k2 h v0 v1 v2 → V p l e rmX5_hasPosition s m args below meth c (MQ below (va_Qi Qn (gB G A) A) args s rmX5_hasPosition.cells rmX5_hasPosition.slots A) G A 3 h 0 0 2 [(0, .ref v0), (1, .int v1), (2, .int v2)] []) {h : gH} {v0 : Nat} {v1 : Int32} {v2 : Int32} (w : vX5_hasPosition_b2_o G.2.2.1 k2 Qn h v0 v1 v2) : V p l e rmX5_hasPosition s m args below meth c (MQ below (va_Qi Qn (gB G A) A) args s rmX5_hasPosition.cells rmX5_hasPosition.slots A) G A 3 h 0 0 2 [(0, .ref v0), (1, .int v1), (2, .int v2)] [] := by
  refine V_iload_n X dX5_hasPosition_2 2 rfl ?_
  refine V_aloadr_n X dX5_hasPosition_3 0 rfl ?_
  obtain ⟨fs, r1, hh, hv, w⟩ := w
  refine V_get X flX5_12 dX5_hasPosition_4 hh hv ?_
  obtain ⟨a2, rfl, w⟩ := w
  obtain ⟨fs, hh, w⟩ := w
  refine V_callVi (As := []) (rest := [.int v2]) (k1 := 0) (n1 := 0) X (cJx4a65c_size_8abf5_ok X.2.2.2.2.2.2.2.2.1 w) lkX5_37 hh (q9 := (RJx4a65c, TJx4a65c, 3)) rfl rfl dX5_hasPosition_7 ⟨Nat.le_of_ble_eq_true rfl, Nat.le_of_ble_eq_true rfl⟩ rfl (Nat.le_of_ble_eq_true rfl) ⟨Nat.le_of_ble_eq_true rfl, Nat.le_of_ble_eq_true rfl⟩ (Nat.le_of_ble_eq_true rfl) (Nat.le_of_ble_eq_true rfl) (fun x4 h3 w9 => ?_)
  replace w := w9
  clear w9
  obtain ⟨w1, w2⟩ := w
  refine V_icmp_ge (tgt := 30) X dX5_hasPosition_10 (by decide) (fun z => ?_) (fun z => ?_)
  · replace w := w1 z
    clear w1 w2
    refine V_iconst (y := 0) X dX5_hasPosition_30 (by decide) ?_
    exact V_zret X rfl rfl dX5_hasPosition_31 (Nat.le_of_ble_eq_true rfl) (Nat.le_of_ble_eq_true rfl) w
  · replace w := w2 z
    clear w1 w2
    refine V_aloadr_n X dX5_hasPosition_13 0 rfl ?_
    refine V_iload_n X dX5_hasPosition_14 2 rfl ?_
    obtain ⟨fs, hh, w⟩ := w
    refine V_callVi (As := [.int v2]) (rest := []) (k1 := 0) (n1 := 0) X (cX5_positionOf_ok X.2.2.2.2.2.2.2.2.1 w) lkX5_41 hh (q9 := (RX5, TX5, 5)) rfl rfl dX5_hasPosition_15 ⟨Nat.le_of_ble_eq_true rfl, Nat.le_of_ble_eq_true rfl⟩ rfl (Nat.le_of_ble_eq_true rfl) ⟨Nat.le_of_ble_eq_true rfl, Nat.le_of_ble_eq_true rfl⟩ (Nat.le_of_ble_eq_true rfl) (Nat.le_of_ble_eq_true rfl) (fun x6 h5 w9 => ?_)
    replace w := w9
    clear w9
    refine V_iload_n X dX5_hasPosition_18 1 rfl ?_
    obtain ⟨w1, w2⟩ := w
    refine V_icmp_ne (tgt := 24) X dX5_hasPosition_19 (by decide) (fun z => ?_) (fun z => ?_)
    · replace w := w1 z
      clear w1 w2
      refine V_iinc (y := (v2 + 1)) X dX5_hasPosition_24 2 rfl (by first | rfl | (congr 1)) (by decide) rfl ?_
      refine V_goto (tgt := 2) X dX5_hasPosition_27 (by decide) ?_
      exact V.sub [1, 2, 0] rfl (H2 _ _ _ _ w)
    · replace w := w2 z
      clear w1 w2
      refine V_iconst (y := 1) X dX5_hasPosition_22 (by decide) ?_
      exact V_zret X rfl rfl dX5_hasPosition_23 (Nat.le_of_ble_eq_true rfl) (Nat.le_of_ble_eq_true rfl) w
def vX5_hasPosition_b2 (t0 : Nat)  (Qn : Int32 → gH → Prop) (n : Nat) : gH → Nat → Int32 → Int32 → Prop := Nat.rec (motive := fun _ => gH → Nat → Int32 → Int32 → Prop) (fun _ _ _ _ => False) (fun _ k2 => vX5_hasPosition_b2_o t0 k2 Qn) n
theorem tX5_hasPosition_b2 {p : Program} {l : Launch} {e : Env} {s : State} {m : MethodId} {args : Array Value} {below : List Frame} {meth : Method} {c : Code} {G : gG} {A : Nat → Prop} {Qn : Int32 → gH → Prop} (X : gC p l s m args meth c G A cX5_hasPosition 3 (some FieldType.boolean) RX5)   : ∀ (n : Nat) (h : gH) (v0 : Nat) (v1 : Int32) (v2 : Int32) (w : vX5_hasPosition_b2 G.2.2.1  Qn n h v0 v1 v2), V p l e rmX5_hasPosition s m args below meth c (MQ below (va_Qi Qn (gB G A) A) args s rmX5_hasPosition.cells rmX5_hasPosition.slots A) G A 3 h 0 0 2 [(0, .ref v0), (1, .int v1), (2, .int v2)] [] := by
  intro n
  induction n with
  | zero => intro h v0 v1 v2 w; exact False.elim w
  | succ n ih => intro h v0 v1 v2 w; exact tX5_hasPosition_b2_o X ih w
def vX5_hasPosition (t0 : Nat)  (Qn : Int32 → gH → Prop) (h : gH) (v0 : Nat) (v1 : Int32) : Prop := ∃ n : Nat, vX5_hasPosition_b2 t0  Qn n h v0 v1 0
set_option maxRecDepth 100000 in
set_option maxHeartbeats 4000000 in
theorem tX5_hasPosition {p : Program} {l : Launch} {e : Env} {s : State} {m : MethodId} {args : Array Value} {below : List Frame} {meth : Method} {c : Code} {G : gG} {A : Nat → Prop} {Qn : Int32 → gH → Prop} (X : gC p l s m args meth c G A cX5_hasPosition 3 (some FieldType.boolean) RX5)   {h : gH} {v0 : Nat} {v1 : Int32} (w : vX5_hasPosition G.2.2.1  Qn h v0 v1) : V p l e rmX5_hasPosition s m args below meth c (MQ below (va_Qi Qn (gB G A) A) args s rmX5_hasPosition.cells rmX5_hasPosition.slots A) G A 3 h 0 0 0 [(0, .ref v0), (1, .int v1)] [] := by
  refine V_iconst (y := 0) X dX5_hasPosition_0 (by decide) ?_
  refine V_istore_n (i0 := 2) X dX5_hasPosition_1 rfl (by decide) rfl ?_
  obtain ⟨n9, w⟩ := w
  exact V.sub [1, 2, 0] rfl (tX5_hasPosition_b2 X  n9 _ _ _ _ w)
theorem cX5_hasPosition_ok {l : Launch} {G : gG} {h : gH} (hls : l.stackTraces = false) {Qn : Int32 → gH → Prop} {v0 : Nat} {v1 : Int32} (w : vX5_hasPosition G.2.2.1 Qn h v0 v1) : gMi l yX5_hasPosition cX5_hasPosition 3 (some FieldType.boolean) rmX5_hasPosition rmX5_hasPosition.cells rmX5_hasPosition.slots G h [.ref v0, .int v1] Qn := by
  exact gMi.of (by decide +kernel) hls (Nat.le_of_ble_eq_true rfl) rfl rfl (fun p e s m below meth c A X hnm => tX5_hasPosition X w)
/-! jdk/internal/util/ArraysSupport.newLength(III)I -/
abbrev rmJ8_newLength_cabcc : Room := { frames := 1, cells := 0, slots := 0, locals := 21 }
def vJ8_newLength_cabcc_b21 (t0 : Nat)  (Qn : Int32 → gH → Prop) (h : gH) (v0 : Int32) (v1 : Int32) : Prop := False
set_option maxRecDepth 100000 in
set_option maxHeartbeats 4000000 in
theorem tJ8_newLength_cabcc_b21 {p : Program} {l : Launch} {e : Env} {s : State} {m : MethodId} {args : Array Value} {below : List Frame} {meth : Method} {c : Code} {G : gG} {A : Nat → Prop} {Qn : Int32 → gH → Prop} (X : gC p l s m args meth c G A cJ8_newLength_cabcc 4 (some FieldType.int) RJ8)   {h : gH} {v0 : Int32} {v1 : Int32} (w : vJ8_newLength_cabcc_b21 G.2.2.1  Qn h v0 v1) : V p l e rmJ8_newLength_cabcc s m args below meth c (MQ below (va_Qi Qn (gB G A) A) args s rmJ8_newLength_cabcc.cells rmJ8_newLength_cabcc.slots A) G A 4 h 0 0 21 [(0, .int v0), (1, .int v1)] [] := by
  refine V_iload_n X dJ8_newLength_cabcc_21 0 rfl ?_
  refine V_iload_n X dJ8_newLength_cabcc_22 1 rfl ?_
  exact False.elim w
def vJ8_newLength_cabcc (t0 : Nat)  (Qn : Int32 → gH → Prop) (h : gH) (v0 : Int32) (v1 : Int32) (v2 : Int32) : Prop := vJ9_max_7cf53 t0 (fun x2 h1 => (((v0 + x2) ≤ (0 : Int32)) → (vJ8_newLength_cabcc_b21 t0  Qn h1 v0 v1)) ∧ ((¬ (v0 + x2) ≤ (0 : Int32)) → (((2147483639 < ((v0 + x2) : Int32)) → (vJ8_newLength_cabcc_b21 t0  Qn h1 v0 v1)) ∧ ((¬ 2147483639 < ((v0 + x2) : Int32)) → (Qn (v0 + x2) h1))))) h v1 v2
set_option maxRecDepth 100000 in
set_option maxHeartbeats 4000000 in
theorem tJ8_newLength_cabcc {p : Program} {l : Launch} {e : Env} {s : State} {m : MethodId} {args : Array Value} {below : List Frame} {meth : Method} {c : Code} {G : gG} {A : Nat → Prop} {Qn : Int32 → gH → Prop} (X : gC p l s m args meth c G A cJ8_newLength_cabcc 4 (some FieldType.int) RJ8)   {h : gH} {v0 : Int32} {v1 : Int32} {v2 : Int32} (w : vJ8_newLength_cabcc G.2.2.1  Qn h v0 v1 v2) : V p l e rmJ8_newLength_cabcc s m args below meth c (MQ below (va_Qi Qn (gB G A) A) args s rmJ8_newLength_cabcc.cells rmJ8_newLength_cabcc.slots A) G A 4 h 0 0 0 [(0, .int v0), (1, .int v1), (2, .int v2)] [] := by
  refine V_iload_n X dJ8_newLength_cabcc_0 0 rfl ?_
  refine V_iload_n X dJ8_newLength_cabcc_1 1 rfl ?_
  refine V_iload_n X dJ8_newLength_cabcc_2 2 rfl ?_
  refine V_callSi (As := [.int v1, .int v2]) (rest := [.int v0]) (k1 := 0) (n1 := 0) X (cJ9_max_7cf53_ok X.2.2.2.2.2.2.2.2.1 w) lkJ8_194 dJ8_newLength_cabcc_3 ⟨Nat.le_of_ble_eq_true rfl, Nat.le_of_ble_eq_true rfl⟩ rfl (Nat.le_of_ble_eq_true rfl) ⟨Nat.le_of_ble_eq_true rfl, Nat.le_of_ble_eq_true rfl⟩ (Nat.le_of_ble_eq_true rfl) (Nat.le_of_ble_eq_true rfl) (fun x2 h1 w9 => ?_)
  replace w := w9
  clear w9
  refine V_iadd X dJ8_newLength_cabcc_6 ?_
  refine V_istore_n (i0 := 3) X dJ8_newLength_cabcc_7 rfl (by decide) rfl ?_
  refine V_iconst (y := 0) X dJ8_newLength_cabcc_8 (by decide) ?_
  refine V_iload_n X dJ8_newLength_cabcc_9 0 rfl ?_
  obtain ⟨w1, w2⟩ := w
  refine V_icmp_ge (tgt := 21) X dJ8_newLength_cabcc_10 (by decide) (fun z => ?_) (fun z => ?_)
  · replace w := w1 z
    clear w1 w2
    exact V.sub [1, 2] rfl (tJ8_newLength_cabcc_b21 X  w)
  · replace w := w2 z
    clear w1 w2
    refine V_iload_n X dJ8_newLength_cabcc_13 0 rfl ?_
    refine V_ldc (y := 2147483639) X dJ8_newLength_cabcc_14 kw_573 ?_
    obtain ⟨w1, w2⟩ := w
    refine V_icmp_gt (tgt := 21) X dJ8_newLength_cabcc_16 (by decide) (fun z => ?_) (fun z => ?_)
    · replace w := w1 z
      clear w1 w2
      exact V.sub [1, 2] rfl (tJ8_newLength_cabcc_b21 X  w)
    · replace w := w2 z
      clear w1 w2
      refine V_iload_n X dJ8_newLength_cabcc_19 0 rfl ?_
      exact V_iret X rfl dJ8_newLength_cabcc_20 (Nat.le_of_ble_eq_true rfl) (Nat.le_of_ble_eq_true rfl) w
theorem cJ8_newLength_cabcc_ok {l : Launch} {G : gG} {h : gH} (hls : l.stackTraces = false) {Qn : Int32 → gH → Prop} {v0 : Int32} {v1 : Int32} {v2 : Int32} (w : vJ8_newLength_cabcc G.2.2.1 Qn h v0 v1 v2) : gMi l yJ8_newLength_cabcc cJ8_newLength_cabcc 4 (some FieldType.int) rmJ8_newLength_cabcc rmJ8_newLength_cabcc.cells rmJ8_newLength_cabcc.slots G h [.int v0, .int v1, .int v2] Qn := by
  exact gMi.of (by decide +kernel) hls (Nat.le_of_ble_eq_true rfl) rfl rfl (fun p e s m below meth c A X hnm => tJ8_newLength_cabcc X w)
/-! java/util/ArrayList.rangeCheckForAdd(I)V -/
abbrev rmJx4a65c_rangeCheckForAdd_d00df : Room := { frames := 0, cells := 0, slots := 0, locals := 0 }
def vJx4a65c_rangeCheckForAdd_d00df_b12 (t0 : Nat)  (Qn : gH → Prop) (h : gH) (v0 : Nat) (v1 : Int32) : Prop := False
set_option maxRecDepth 100000 in
set_option maxHeartbeats 4000000 in
theorem tJx4a65c_rangeCheckForAdd_d00df_b12 {p : Program} {l : Launch} {e : Env} {s : State} {m : MethodId} {args : Array Value} {below : List Frame} {meth : Method} {c : Code} {G : gG} {A : Nat → Prop} {Qn : gH → Prop} (X : gC p l s m args meth c G A cJx4a65c_rangeCheckForAdd_d00df 2 none RJx4a65c)   {h : gH} {v0 : Nat} {v1 : Int32} (w : vJx4a65c_rangeCheckForAdd_d00df_b12 G.2.2.1  Qn h v0 v1) : V p l e rmJx4a65c_rangeCheckForAdd_d00df s m args below meth c (MQ below (va_Qv Qn (gB G A) A) args s rmJx4a65c_rangeCheckForAdd_d00df.cells rmJx4a65c_rangeCheckForAdd_d00df.slots A) G A 2 h 0 0 12 [(0, .ref v0), (1, .int v1)] [] := by
  exact False.elim w
def vJx4a65c_rangeCheckForAdd_d00df (t0 : Nat)  (Qn : gH → Prop) (h : gH) (v0 : Nat) (v1 : Int32) : Prop := gi h v0 2 2 (fun x1 => ((x1 < (v1 : Int32)) → (vJx4a65c_rangeCheckForAdd_d00df_b12 t0  Qn h v0 v1)) ∧ ((¬ x1 < (v1 : Int32)) → (((0 ≤ (v1 : Int32)) → (Qn h)) ∧ ((¬ 0 ≤ (v1 : Int32)) → (vJx4a65c_rangeCheckForAdd_d00df_b12 t0  Qn h v0 v1)))))
set_option maxRecDepth 100000 in
set_option maxHeartbeats 4000000 in
theorem tJx4a65c_rangeCheckForAdd_d00df {p : Program} {l : Launch} {e : Env} {s : State} {m : MethodId} {args : Array Value} {below : List Frame} {meth : Method} {c : Code} {G : gG} {A : Nat → Prop} {Qn : gH → Prop} (X : gC p l s m args meth c G A cJx4a65c_rangeCheckForAdd_d00df 2 none RJx4a65c)   {h : gH} {v0 : Nat} {v1 : Int32} (w : vJx4a65c_rangeCheckForAdd_d00df G.2.2.1  Qn h v0 v1) : V p l e rmJx4a65c_rangeCheckForAdd_d00df s m args below meth c (MQ below (va_Qv Qn (gB G A) A) args s rmJx4a65c_rangeCheckForAdd_d00df.cells rmJx4a65c_rangeCheckForAdd_d00df.slots A) G A 2 h 0 0 0 [(0, .ref v0), (1, .int v1)] [] := by
  refine V_iload_n X dJx4a65c_rangeCheckForAdd_d00df_0 1 rfl ?_
  refine V_aloadr_n X dJx4a65c_rangeCheckForAdd_d00df_1 0 rfl ?_
  obtain ⟨fs, x1, hh, hv, w⟩ := w
  refine V_get X flJx4a65c_48 dJx4a65c_rangeCheckForAdd_d00df_2 hh hv ?_
  obtain ⟨w1, w2⟩ := w
  refine V_icmp_gt (tgt := 12) X dJx4a65c_rangeCheckForAdd_d00df_5 (by decide) (fun z => ?_) (fun z => ?_)
  · replace w := w1 z
    clear w1 w2
    exact V.sub [0, 1] rfl (tJx4a65c_rangeCheckForAdd_d00df_b12 X  w)
  · replace w := w2 z
    clear w1 w2
    refine V_iload_n X dJx4a65c_rangeCheckForAdd_d00df_8 1 rfl ?_
    obtain ⟨w1, w2⟩ := w
    refine V_if_ge (tgt := 25) X dJx4a65c_rangeCheckForAdd_d00df_9 (by decide) (fun z => ?_) (fun z => ?_)
    · replace w := w1 z
      clear w1 w2
      exact V_vret X rfl dJx4a65c_rangeCheckForAdd_d00df_25 (Nat.le_of_ble_eq_true rfl) (Nat.le_of_ble_eq_true rfl) w
    · replace w := w2 z
      clear w1 w2
      exact V.sub [0, 1] rfl (tJx4a65c_rangeCheckForAdd_d00df_b12 X  w)
theorem cJx4a65c_rangeCheckForAdd_d00df_ok {l : Launch} {G : gG} {h : gH} (hls : l.stackTraces = false) {Qn : gH → Prop} {v0 : Nat} {v1 : Int32} (w : vJx4a65c_rangeCheckForAdd_d00df G.2.2.1 Qn h v0 v1) : gMv l yJx4a65c_rangeCheckForAdd_d00df cJx4a65c_rangeCheckForAdd_d00df 2 none rmJx4a65c_rangeCheckForAdd_d00df rmJx4a65c_rangeCheckForAdd_d00df.cells rmJx4a65c_rangeCheckForAdd_d00df.slots G h [.ref v0, .int v1] Qn := by
  exact gMv.of (by decide +kernel) hls (Nat.le_of_ble_eq_true rfl) rfl rfl (fun p e s m below meth c A X hnm => tJx4a65c_rangeCheckForAdd_d00df X w)
/-! java/util/Arrays.copyOf([Ljava/lang/Object;ILjava/lang/Class;)[Ljava/lang/Object; -/
abbrev rmJ7_copyOf_6403c : Room := { frames := 1, cells := 1, slots := 64, locals := 60 }
def vJ7_copyOf_6403c_b24 (t0 : Nat)  (Qn : Option Nat → gH → Prop) (h : gH) (v0 : Option Nat) (v1 : Int32) (s0 : Option Nat) : Prop := nn v0 (fun a1 => al h a1 (fun x2 => vJ9_min_7cf53 t0 (fun x4 h3 => nn s0 (fun a5 => cpq h3 a1 0 a5 0 x4 (fun h6 => Qn (some a5) h6))) h x2 v1))
set_option maxRecDepth 100000 in
set_option maxHeartbeats 4000000 in
theorem tJ7_copyOf_6403c_b24 {p : Program} {l : Launch} {e : Env} {s : State} {m : MethodId} {args : Array Value} {below : List Frame} {meth : Method} {c : Code} {G : gG} {A : Nat → Prop} {Qn : Option Nat → gH → Prop} (X : gC p l s m args meth c G A cJ7_copyOf_6403c 4 (some (FieldType.array (FieldType.object "java/lang/Object"))) RJ7)   {h : gH} {v0 : Option Nat} {v1 : Int32} {s0 : Option Nat} (w : vJ7_copyOf_6403c_b24 G.2.2.1  Qn h v0 v1 s0) : V p l e rmJ7_copyOf_6403c s m args below meth c (MQ below (va_Qq Qn (gB G A) A) args s rmJ7_copyOf_6403c.cells rmJ7_copyOf_6403c.slots A) G A 4 h 1 64 24 [(0, va_rf v0), (1, .int v1)] [va_rf s0] := by
  refine V_astoreq_n (i0 := 3) X dJ7_copyOf_6403c_24 rfl (by decide) rfl ?_
  refine V_aload_n X dJ7_copyOf_6403c_25 1 rfl ?_
  refine V_iconst (y := 0) X dJ7_copyOf_6403c_26 (by decide) ?_
  refine V_aload_n X dJ7_copyOf_6403c_27 0 rfl ?_
  refine V_iconst (y := 0) X dJ7_copyOf_6403c_28 (by decide) ?_
  refine V_aload_n X dJ7_copyOf_6403c_29 1 rfl ?_
  obtain ⟨a1, rfl, w⟩ := w
  obtain ⟨kt9, x9, hh, hk9, w⟩ := w
  refine V_alen X dJ7_copyOf_6403c_30 hh hk9 ?_
  generalize Int32.ofNat _ = x2 at w ⊢
  refine V_iload_n X dJ7_copyOf_6403c_31 2 rfl ?_
  refine V_callSi (As := [.int x2, .int v1]) (rest := [.int 0, va_rf s0, .int 0, .ref a1]) (k1 := 1) (n1 := 64) X (cJ9_min_7cf53_ok X.2.2.2.2.2.2.2.2.1 w) lkJ7_304 dJ7_copyOf_6403c_32 ⟨Nat.le_of_ble_eq_true rfl, Nat.le_of_ble_eq_true rfl⟩ rfl (va_len _ 4 (Nat.le_of_ble_eq_true rfl)) ⟨Nat.le_of_ble_eq_true rfl, Nat.le_of_ble_eq_true rfl⟩ (Nat.le_of_ble_eq_true rfl) (Nat.le_of_ble_eq_true rfl) (fun x4 h3 w9 => ?_)
  replace w := w9
  clear w9
  obtain ⟨a5, rfl, w⟩ := w
  obtain ⟨Na, Nb, f9, g9, hh, hb9, y1, y2, y3, y4, y5, y6, y7, y8, w⟩ := w
  refine V_cpq X gcs acJ7_150 hh hb9 y1 y2 y3 y4 y5 y6 y7 y8 (Nat.le_of_ble_eq_true rfl) (Nat.le_trans (Nat.add_le_add_right (va_len _ 4 (Nat.le_of_ble_eq_true rfl)) _) (by decide +kernel)) dJ7_copyOf_6403c_35 ?_
  generalize va_up _ _ _ = h6 at w ⊢
  refine V_aloadr_n X dJ7_copyOf_6403c_38 0 rfl ?_
  exact V_aret (x := (some a5)) X rfl (Or.inr ⟨_, rfl⟩) dJ7_copyOf_6403c_39 (Nat.le_of_ble_eq_true rfl) (Nat.le_of_ble_eq_true rfl) w
def vJ7_copyOf_6403c (t0 : Nat)  (Qn : Option Nat → gH → Prop) (h : gH) (v0 : Option Nat) (v1 : Int32) : Prop := ¬ (v1 : Int32) < 0 ∧ (Int32.toNatClampNeg v1) ≤ 64 ∧ (nw h (.inl (3, (Int32.toNatClampNeg v1), .inr (.inr (.inr (.inr (fun _ => none)))))) (fun q1 h2 => vJ7_copyOf_6403c_b24 t0  Qn h2 v0 v1 (some q1)))
set_option maxRecDepth 100000 in
set_option maxHeartbeats 4000000 in
theorem tJ7_copyOf_6403c {p : Program} {l : Launch} {e : Env} {s : State} {m : MethodId} {args : Array Value} {below : List Frame} {meth : Method} {c : Code} {G : gG} {A : Nat → Prop} {Qn : Option Nat → gH → Prop} (X : gC p l s m args meth c G A cJ7_copyOf_6403c 4 (some (FieldType.array (FieldType.object "java/lang/Object"))) RJ7)   {h : gH} {v0 : Option Nat} {v1 : Int32} (w : vJ7_copyOf_6403c G.2.2.1  Qn h v0 v1) : V p l e rmJ7_copyOf_6403c s m args below meth c (MQ below (va_Qq Qn (gB G A) A) args s rmJ7_copyOf_6403c.cells rmJ7_copyOf_6403c.slots A) G A 4 h 0 0 0 [(0, va_rf v0), (1, .int v1), (2, .ref G.2.2.2)] [] := by
  refine V_aloadr_n X dJ7_copyOf_6403c_0 2 rfl ?_
  refine V_ldcM X kw_606 dJ7_copyOf_6403c_1 ?_
  refine V_acmp_ne (some G.2.2.2) (some G.2.2.2) (tgt := 13) X dJ7_copyOf_6403c_3 (by decide) (fun z => absurd rfl z) (fun z => ?_)
  clear z
  refine V_iload_n X dJ7_copyOf_6403c_6 1 rfl ?_
  obtain ⟨z0, z1, w⟩ := w
  refine V_anewa3 (N := (Int32.toNatClampNeg v1)) (k1 := 1) (n1 := 64) X kw_608 ku_607 dJ7_copyOf_6403c_7 z0 rfl (by omega) ⟨(Nat.le_of_ble_eq_true rfl), Nat.le_trans (Nat.add_le_add_left z1 _) (Nat.le_of_ble_eq_true rfl)⟩ (Nat.le_of_ble_eq_true rfl) (Nat.add_le_add_left z1 _) (fun q1 hq => ?_)
  replace w := w q1 hq
  generalize va_up _ _ _ = h2 at w ⊢
  refine V_goto (tgt := 24) X dJ7_copyOf_6403c_10 (by decide) ?_
  exact V.sub [0, 1] rfl (tJ7_copyOf_6403c_b24 X  w)
theorem cJ7_copyOf_6403c_ok {l : Launch} {G : gG} {h : gH} (hls : l.stackTraces = false) {Qn : Option Nat → gH → Prop} {v0 : Option Nat} {v1 : Int32} (w : vJ7_copyOf_6403c G.2.2.1 Qn h v0 v1) : gMq l yJ7_copyOf_6403c cJ7_copyOf_6403c 4 (some (FieldType.array (FieldType.object "java/lang/Object"))) rmJ7_copyOf_6403c rmJ7_copyOf_6403c.cells rmJ7_copyOf_6403c.slots G h [va_rf v0, .int v1, .ref G.2.2.2] Qn := by
  cases v0 <;>
  exact gMq.of (by decide +kernel) hls (Nat.le_of_ble_eq_true rfl) rfl rfl (fun p e s m below meth c A X hnm => tJ7_copyOf_6403c X w)
/-! java/util/Arrays.copyOf([Ljava/lang/Object;I)[Ljava/lang/Object; -/
abbrev rmJ7_copyOf_1904c : Room := { frames := 2, cells := 1, slots := 64, locals := 83 }
def vJ7_copyOf_1904c (t0 : Nat)  (Qn : Option Nat → gH → Prop) (h : gH) (v0 : Option Nat) (v1 : Int32) : Prop := nn v0 (fun a1 => (∃ (N : Nat) (g : Nat → Option Nat), h a1 = some (.inl (3, N, .inr (.inr (.inr (.inr g)))))) ∧ (vJ7_copyOf_6403c t0 (fun r3 h2 => Qn r3 h2) h (some a1) v1))
set_option maxRecDepth 100000 in
set_option maxHeartbeats 4000000 in
theorem tJ7_copyOf_1904c {p : Program} {l : Launch} {e : Env} {s : State} {m : MethodId} {args : Array Value} {below : List Frame} {meth : Method} {c : Code} {G : gG} {A : Nat → Prop} {Qn : Option Nat → gH → Prop} (X : gC p l s m args meth c G A cJ7_copyOf_1904c 2 (some (FieldType.array (FieldType.object "java/lang/Object"))) RJ7)   {h : gH} {v0 : Option Nat} {v1 : Int32} (w : vJ7_copyOf_1904c G.2.2.1  Qn h v0 v1) : V p l e rmJ7_copyOf_1904c s m args below meth c (MQ below (va_Qq Qn (gB G A) A) args s rmJ7_copyOf_1904c.cells rmJ7_copyOf_1904c.slots A) G A 2 h 0 0 0 [(0, va_rf v0), (1, .int v1)] [] := by
  refine V_aload_n X dJ7_copyOf_1904c_0 0 rfl ?_
  refine V_iload_n X dJ7_copyOf_1904c_1 1 rfl ?_
  refine V_aload_n X dJ7_copyOf_1904c_2 0 rfl ?_
  obtain ⟨a1, rfl, w⟩ := w
  obtain ⟨⟨N9, g9, hh⟩, w⟩ := w
  refine V_getC X ggc hh dJ7_copyOf_1904c_3 (Nat.le_of_ble_eq_true rfl) (Nat.le_trans (Nat.add_le_add_right (va_len _ 4 (Nat.le_of_ble_eq_true rfl)) _) (Nat.le_of_ble_eq_true rfl)) ?_
  refine V_callSq (As := [.ref a1, .int v1, .ref G.2.2.2]) (rest := []) (k1 := 1) (n1 := 64) X (cJ7_copyOf_6403c_ok X.2.2.2.2.2.2.2.2.1 w) lkJ7_300 dJ7_copyOf_1904c_6 ⟨Nat.le_of_ble_eq_true rfl, Nat.le_of_ble_eq_true rfl⟩ rfl (Nat.le_of_ble_eq_true rfl) ⟨Nat.le_of_ble_eq_true rfl, Nat.le_of_ble_eq_true rfl⟩ (Nat.le_of_ble_eq_true rfl) (Nat.le_of_ble_eq_true rfl) (fun r3 h2 w9 => ?_)
  replace w := w9
  clear w9
  exact V_aret (x := r3) X rfl (Or.inr ⟨_, rfl⟩) dJ7_copyOf_1904c_9 (Nat.le_of_ble_eq_true rfl) (Nat.le_of_ble_eq_true rfl) w
theorem cJ7_copyOf_1904c_ok {l : Launch} {G : gG} {h : gH} (hls : l.stackTraces = false) {Qn : Option Nat → gH → Prop} {v0 : Option Nat} {v1 : Int32} (w : vJ7_copyOf_1904c G.2.2.1 Qn h v0 v1) : gMq l yJ7_copyOf_1904c cJ7_copyOf_1904c 2 (some (FieldType.array (FieldType.object "java/lang/Object"))) rmJ7_copyOf_1904c rmJ7_copyOf_1904c.cells rmJ7_copyOf_1904c.slots G h [va_rf v0, .int v1] Qn := by
  cases v0 <;>
  exact gMq.of (by decide +kernel) hls (Nat.le_of_ble_eq_true rfl) rfl rfl (fun p e s m below meth c A X hnm => tJ7_copyOf_1904c X w)
/-! java/util/ArrayList.grow(I)[Ljava/lang/Object; -/
abbrev rmJx4a65c_grow_92f84 : Room := { frames := 3, cells := 1, slots := 64, locals := 104 }
def vJx4a65c_grow_92f84_b20 (t0 : Nat)  (Qn : Option Nat → gH → Prop) (h : gH) (v0 : Nat) (v1 : Int32) (v2 : Int32) : Prop := vJ8_newLength_cabcc t0 (fun x2 h1 => gr h1 v0 2 1 (fun r3 => vJ7_copyOf_1904c t0 (fun r5 h4 => pv h4 v0 2 1 (va_rf r5) (fun h6 => Qn r5 h6)) h1 r3 x2)) h v2 (v1 - v2) (v2 >>> (1 &&& 31))
set_option maxRecDepth 100000 in
set_option maxHeartbeats 4000000 in
theorem tJx4a65c_grow_92f84_b20 {p : Program} {l : Launch} {e : Env} {s : State} {m : MethodId} {args : Array Value} {below : List Frame} {meth : Method} {c : Code} {G : gG} {A : Nat → Prop} {Qn : Option Nat → gH → Prop} (X : gC p l s m args meth c G A cJx4a65c_grow_92f84 4 (some (FieldType.array (FieldType.object "java/lang/Object"))) RJx4a65c)   {h : gH} {v0 : Nat} {v1 : Int32} {v2 : Int32} (w : vJx4a65c_grow_92f84_b20 G.2.2.1  Qn h v0 v1 v2) : V p l e rmJx4a65c_grow_92f84 s m args below meth c (MQ below (va_Qq Qn (gB G A) A) args s rmJx4a65c_grow_92f84.cells rmJx4a65c_grow_92f84.slots A) G A 4 h 0 0 20 [(0, .ref v0), (1, .int v1), (2, .int v2)] [] := by
  refine V_iload_n X dJx4a65c_grow_92f84_20 2 rfl ?_
  refine V_iload_n X dJx4a65c_grow_92f84_21 1 rfl ?_
  refine V_iload_n X dJx4a65c_grow_92f84_22 2 rfl ?_
  refine V_isub X dJx4a65c_grow_92f84_23 ?_
  refine V_iload_n X dJx4a65c_grow_92f84_24 2 rfl ?_
  refine V_iconst (y := 1) X dJx4a65c_grow_92f84_25 (by decide) ?_
  refine V_ishr X dJx4a65c_grow_92f84_26 ?_
  refine V_callSi (As := [.int v2, .int (v1 - v2), .int (v2 >>> (1 &&& 31))]) (rest := []) (k1 := 0) (n1 := 0) X (cJ8_newLength_cabcc_ok X.2.2.2.2.2.2.2.2.1 w) lkJx4a65c_73 dJx4a65c_grow_92f84_27 ⟨Nat.le_of_ble_eq_true rfl, Nat.le_of_ble_eq_true rfl⟩ rfl (Nat.le_of_ble_eq_true rfl) ⟨Nat.le_of_ble_eq_true rfl, Nat.le_of_ble_eq_true rfl⟩ (Nat.le_of_ble_eq_true rfl) (Nat.le_of_ble_eq_true rfl) (fun x2 h1 w9 => ?_)
  replace w := w9
  clear w9
  refine V_istore_n (i0 := 3) X dJx4a65c_grow_92f84_30 rfl (by decide) rfl ?_
  refine V_aloadr_n X dJx4a65c_grow_92f84_31 1 rfl ?_
  refine V_aloadr_n X dJx4a65c_grow_92f84_32 1 rfl ?_
  obtain ⟨fs, r3, hh, hv, w⟩ := w
  refine V_get X flJx4a65c_9 dJx4a65c_grow_92f84_33 hh hv ?_
  refine V_iload_n X dJx4a65c_grow_92f84_36 0 rfl ?_
  refine V_callSq (As := [va_rf r3, .int x2]) (rest := [.ref v0]) (k1 := 1) (n1 := 64) X (cJ7_copyOf_1904c_ok X.2.2.2.2.2.2.2.2.1 w) lkJx4a65c_66 dJx4a65c_grow_92f84_37 ⟨Nat.le_of_ble_eq_true rfl, Nat.le_of_ble_eq_true rfl⟩ rfl (Nat.le_of_ble_eq_true rfl) ⟨Nat.le_of_ble_eq_true rfl, Nat.le_of_ble_eq_true rfl⟩ (Nat.le_of_ble_eq_true rfl) (Nat.le_of_ble_eq_true rfl) (fun r5 h4 w9 => ?_)
  replace w := w9
  clear w9
  refine V_dupx1 X dJx4a65c_grow_92f84_40 (va_cat1 _) rfl ?_
  obtain ⟨fs, hh, hv, w⟩ := w
  refine V_put X flJx4a65c_9 dJx4a65c_grow_92f84_41 hh hv (by cases r5 <;> rfl) (by cases r5 <;> rfl) ?_
  generalize va_up _ _ _ = h6 at w ⊢
  exact V_aret (x := r5) X rfl (Or.inr ⟨_, rfl⟩) dJx4a65c_grow_92f84_44 (Nat.le_of_ble_eq_true rfl) (Nat.le_of_ble_eq_true rfl) w
def vJx4a65c_grow_92f84 (t0 : Nat)  (Qn : Option Nat → gH → Prop) (h : gH) (v0 : Nat) (v1 : Int32) : Prop := gr h v0 2 1 (fun r1 => nn r1 (fun a2 => al h a2 (fun x3 => ((0 < (x3 : Int32)) → (vJx4a65c_grow_92f84_b20 t0  Qn h v0 v1 x3)) ∧ ((¬ 0 < (x3 : Int32)) → (gr h v0 2 1 (fun r4 => ((r4 = (some t0)) → (vJ9_max_7cf53 t0 (fun x6 h5 => ¬ (x6 : Int32) < 0 ∧ (Int32.toNatClampNeg x6) ≤ 64 ∧ (nw h5 (.inl (3, (Int32.toNatClampNeg x6), .inr (.inr (.inr (.inr (fun _ => none)))))) (fun q7 h8 => pv h8 v0 2 1 (.ref q7) (fun h9 => Qn (some q7) h9)))) h 10 v1)) ∧ ((¬ r4 = (some t0)) → (vJx4a65c_grow_92f84_b20 t0  Qn h v0 v1 x3))))))))
set_option maxRecDepth 100000 in
set_option maxHeartbeats 4000000 in
theorem tJx4a65c_grow_92f84 {p : Program} {l : Launch} {e : Env} {s : State} {m : MethodId} {args : Array Value} {below : List Frame} {meth : Method} {c : Code} {G : gG} {A : Nat → Prop} {Qn : Option Nat → gH → Prop} (X : gC p l s m args meth c G A cJx4a65c_grow_92f84 4 (some (FieldType.array (FieldType.object "java/lang/Object"))) RJx4a65c)   {h : gH} {v0 : Nat} {v1 : Int32} (w : vJx4a65c_grow_92f84 G.2.2.1  Qn h v0 v1) : V p l e rmJx4a65c_grow_92f84 s m args below meth c (MQ below (va_Qq Qn (gB G A) A) args s rmJx4a65c_grow_92f84.cells rmJx4a65c_grow_92f84.slots A) G A 4 h 0 0 0 [(0, .ref v0), (1, .int v1)] [] := by
  refine V_aloadr_n X dJx4a65c_grow_92f84_0 0 rfl ?_
  obtain ⟨fs, r1, hh, hv, w⟩ := w
  refine V_get X flJx4a65c_9 dJx4a65c_grow_92f84_1 hh hv ?_
  obtain ⟨a2, rfl, w⟩ := w
  obtain ⟨kt9, x9, hh, hk9, w⟩ := w
  refine V_alen X dJx4a65c_grow_92f84_4 hh hk9 ?_
  generalize Int32.ofNat _ = x3 at w ⊢
  refine V_istore_n (i0 := 2) X dJx4a65c_grow_92f84_5 rfl (by decide) rfl ?_
  refine V_iload_n X dJx4a65c_grow_92f84_6 0 rfl ?_
  obtain ⟨w1, w2⟩ := w
  refine V_if_gt (tgt := 20) X dJx4a65c_grow_92f84_7 (by decide) (fun z => ?_) (fun z => ?_)
  · replace w := w1 z
    clear w1 w2
    exact V.sub [1, 2, 0] rfl (tJx4a65c_grow_92f84_b20 X  w)
  · replace w := w2 z
    clear w1 w2
    refine V_aloadr_n X dJx4a65c_grow_92f84_10 1 rfl ?_
    obtain ⟨fs, r4, hh, hv, w⟩ := w
    refine V_get X flJx4a65c_9 dJx4a65c_grow_92f84_11 hh hv ?_
    refine V_gets0 X kw_62 dJx4a65c_grow_92f84_14 ?_
    obtain ⟨w1, w2⟩ := w
    refine V_acmp_eq r4 (some G.2.2.1) (tgt := 45) X dJx4a65c_grow_92f84_17 (by decide) (fun z => ?_) (fun z => ?_)
    · replace w := w1 z
      clear w1 w2
      refine V_aloadr_n X dJx4a65c_grow_92f84_45 1 rfl ?_
      refine V_bipush (y := 10) X dJx4a65c_grow_92f84_46 (by decide) ?_
      refine V_iload_n X dJx4a65c_grow_92f84_48 2 rfl ?_
      refine V_callSi (As := [.int 10, .int v1]) (rest := [.ref v0]) (k1 := 0) (n1 := 0) X (cJ9_max_7cf53_ok X.2.2.2.2.2.2.2.2.1 w) lkJx4a65c_79 dJx4a65c_grow_92f84_49 ⟨Nat.le_of_ble_eq_true rfl, Nat.le_of_ble_eq_true rfl⟩ rfl (Nat.le_of_ble_eq_true rfl) ⟨Nat.le_of_ble_eq_true rfl, Nat.le_of_ble_eq_true rfl⟩ (Nat.le_of_ble_eq_true rfl) (Nat.le_of_ble_eq_true rfl) (fun x6 h5 w9 => ?_)
      replace w := w9
      clear w9
      obtain ⟨z0, z1, w⟩ := w
      refine V_anewa3 (N := (Int32.toNatClampNeg x6)) (k1 := 1) (n1 := 64) X kw_616 ku_607 dJx4a65c_grow_92f84_52 z0 rfl (by omega) ⟨(Nat.le_of_ble_eq_true rfl), Nat.le_trans (Nat.add_le_add_left z1 _) (Nat.le_of_ble_eq_true rfl)⟩ (Nat.le_of_ble_eq_true rfl) (Nat.add_le_add_left z1 _) (fun q7 hq => ?_)
      replace w := w q7 hq
      generalize va_up _ _ _ = h8 at w ⊢
      refine V_dupx1 X dJx4a65c_grow_92f84_55 rfl rfl ?_
      obtain ⟨fs, hh, hv, w⟩ := w
      refine V_put X flJx4a65c_9 dJx4a65c_grow_92f84_56 hh hv rfl rfl ?_
      generalize va_up _ _ _ = h9 at w ⊢
      exact V_aret (x := (some q7)) X rfl (Or.inr ⟨_, rfl⟩) dJx4a65c_grow_92f84_59 (Nat.le_of_ble_eq_true rfl) (Nat.le_of_ble_eq_true rfl) w
    · replace w := w2 z
      clear w1 w2
      exact V.sub [1, 2, 0] rfl (tJx4a65c_grow_92f84_b20 X  w)
theorem cJx4a65c_grow_92f84_ok {l : Launch} {G : gG} {h : gH} (hls : l.stackTraces = false) {Qn : Option Nat → gH → Prop} {v0 : Nat} {v1 : Int32} (w : vJx4a65c_grow_92f84 G.2.2.1 Qn h v0 v1) : gMq l yJx4a65c_grow_92f84 cJx4a65c_grow_92f84 4 (some (FieldType.array (FieldType.object "java/lang/Object"))) rmJx4a65c_grow_92f84 rmJx4a65c_grow_92f84.cells rmJx4a65c_grow_92f84.slots G h [.ref v0, .int v1] Qn := by
  exact gMq.of (by decide +kernel) hls (Nat.le_of_ble_eq_true rfl) rfl rfl (fun p e s m below meth c A X hnm => tJx4a65c_grow_92f84 X w)
/-! java/util/ArrayList.grow()[Ljava/lang/Object; -/
abbrev rmJx4a65c_grow_d5877 : Room := { frames := 4, cells := 1, slots := 64, locals := 127 }
def vJx4a65c_grow_d5877 (t0 : Nat)  (Qn : Option Nat → gH → Prop) (h : gH) (v0 : Nat) : Prop := gi h v0 2 2 (fun x1 => io h v0 2 (vJx4a65c_grow_92f84 t0 (fun r3 h2 => Qn r3 h2) h v0 (x1 + 1)))
set_option maxRecDepth 100000 in
set_option maxHeartbeats 4000000 in
theorem tJx4a65c_grow_d5877 {p : Program} {l : Launch} {e : Env} {s : State} {m : MethodId} {args : Array Value} {below : List Frame} {meth : Method} {c : Code} {G : gG} {A : Nat → Prop} {Qn : Option Nat → gH → Prop} (X : gC p l s m args meth c G A cJx4a65c_grow_d5877 1 (some (FieldType.array (FieldType.object "java/lang/Object"))) RJx4a65c)   {h : gH} {v0 : Nat} (w : vJx4a65c_grow_d5877 G.2.2.1  Qn h v0) : V p l e rmJx4a65c_grow_d5877 s m args below meth c (MQ below (va_Qq Qn (gB G A) A) args s rmJx4a65c_grow_d5877.cells rmJx4a65c_grow_d5877.slots A) G A 1 h 0 0 0 [(0, .ref v0)] [] := by
  refine V_aloadr_n X dJx4a65c_grow_d5877_0 0 rfl ?_
  refine V_aloadr_n X dJx4a65c_grow_d5877_1 0 rfl ?_
  obtain ⟨fs, x1, hh, hv, w⟩ := w
  refine V_get X flJx4a65c_48 dJx4a65c_grow_d5877_2 hh hv ?_
  refine V_iconst (y := 1) X dJx4a65c_grow_d5877_5 (by decide) ?_
  refine V_iadd X dJx4a65c_grow_d5877_6 ?_
  obtain ⟨fs, hh, w⟩ := w
  refine V_callVq (As := [.int (x1 + 1)]) (rest := []) (k1 := 1) (n1 := 64) X (cJx4a65c_grow_92f84_ok X.2.2.2.2.2.2.2.2.1 w) lkJx4a65c_69 hh (q9 := (RJx4a65c, TJx4a65c, 3)) rfl rfl dJx4a65c_grow_d5877_7 ⟨Nat.le_of_ble_eq_true rfl, Nat.le_of_ble_eq_true rfl⟩ rfl (Nat.le_of_ble_eq_true rfl) ⟨Nat.le_of_ble_eq_true rfl, Nat.le_of_ble_eq_true rfl⟩ (Nat.le_of_ble_eq_true rfl) (Nat.le_of_ble_eq_true rfl) (fun r3 h2 w9 => ?_)
  replace w := w9
  clear w9
  exact V_aret (x := r3) X rfl (Or.inr ⟨_, rfl⟩) dJx4a65c_grow_d5877_10 (Nat.le_of_ble_eq_true rfl) (Nat.le_of_ble_eq_true rfl) w
theorem cJx4a65c_grow_d5877_ok {l : Launch} {G : gG} {h : gH} (hls : l.stackTraces = false) {Qn : Option Nat → gH → Prop} {v0 : Nat} (w : vJx4a65c_grow_d5877 G.2.2.1 Qn h v0) : gMq l yJx4a65c_grow_d5877 cJx4a65c_grow_d5877 1 (some (FieldType.array (FieldType.object "java/lang/Object"))) rmJx4a65c_grow_d5877 rmJx4a65c_grow_d5877.cells rmJx4a65c_grow_d5877.slots G h [.ref v0] Qn := by
  exact gMq.of (by decide +kernel) hls (Nat.le_of_ble_eq_true rfl) rfl rfl (fun p e s m below meth c A X hnm => tJx4a65c_grow_d5877 X w)
/-! java/util/ArrayList.add(ILjava/lang/Object;)V -/
abbrev rmJx4a65c_add_7a177 : Room := { frames := 5, cells := 1, slots := 64, locals := 147 }
def vJx4a65c_add_7a177_b38 (t0 : Nat)  (Qn : gH → Prop) (h : gH) (v0 : Nat) (v1 : Int32) (v2 : Option Nat) (v3 : Int32) (v4 : Option Nat) : Prop := nn v4 (fun a1 => cpq h a1 v1 a1 (v1 + 1) (v3 - v1) (fun h2 => nn v2 (fun a3 => sq h2 3 a1 v1 a3 (fun h4 => pv h4 v0 2 2 (.int (v3 + 1)) (fun h5 => Qn h5)))))
set_option maxRecDepth 100000 in
set_option maxHeartbeats 4000000 in
theorem tJx4a65c_add_7a177_b38 {p : Program} {l : Launch} {e : Env} {s : State} {m : MethodId} {args : Array Value} {below : List Frame} {meth : Method} {c : Code} {G : gG} {A : Nat → Prop} {Qn : gH → Prop} (X : gC p l s m args meth c G A cJx4a65c_add_7a177 5 none RJx4a65c)   {h : gH} {v0 : Nat} {v1 : Int32} {v2 : Option Nat} {v3 : Int32} {v4 : Option Nat} (w : vJx4a65c_add_7a177_b38 G.2.2.1  Qn h v0 v1 v2 v3 v4) : V p l e rmJx4a65c_add_7a177 s m args below meth c (MQ below (va_Qv Qn (gB G A) A) args s rmJx4a65c_add_7a177.cells rmJx4a65c_add_7a177.slots A) G A 5 h 1 64 38 [(0, .ref v0), (1, .int v1), (2, va_rf v2), (3, .int v3), (4, va_rf v4)] [] := by
  refine V_aload X dJx4a65c_add_7a177_38 4 rfl ?_
  refine V_iload_n X dJx4a65c_add_7a177_40 1 rfl ?_
  refine V_aload X dJx4a65c_add_7a177_41 4 rfl ?_
  refine V_iload_n X dJx4a65c_add_7a177_43 1 rfl ?_
  refine V_iconst (y := 1) X dJx4a65c_add_7a177_44 (by decide) ?_
  refine V_iadd X dJx4a65c_add_7a177_45 ?_
  refine V_iload_n X dJx4a65c_add_7a177_46 3 rfl ?_
  refine V_iload_n X dJx4a65c_add_7a177_47 1 rfl ?_
  refine V_isub X dJx4a65c_add_7a177_48 ?_
  obtain ⟨a1, rfl, w⟩ := w
  obtain ⟨Na, Nb, f9, g9, hh, hb9, y1, y2, y3, y4, y5, y6, y7, y8, w⟩ := w
  refine V_cpq X gcs acJx4a65c_112 hh hb9 y1 y2 y3 y4 y5 y6 y7 y8 (Nat.le_of_ble_eq_true rfl) (Nat.le_trans (Nat.add_le_add_right (va_len _ 4 (Nat.le_of_ble_eq_true rfl)) _) (by decide +kernel)) dJx4a65c_add_7a177_49 ?_
  generalize va_up _ _ _ = h2 at w ⊢
  refine V_aloadr X dJx4a65c_add_7a177_52 4 rfl ?_
  refine V_iload_n X dJx4a65c_add_7a177_54 1 rfl ?_
  refine V_aload_n X dJx4a65c_add_7a177_55 2 rfl ?_
  obtain ⟨a3, rfl, w⟩ := w
  obtain ⟨N9, g9, hh, hi, hO, w⟩ := w
  replace hO := hO.elim (fun z => z.2) (fun z => absurd z.1 (by decide))
  refine V_aast3 X gcs dJx4a65c_add_7a177_56 hh hi hO ?_
  generalize va_up _ _ _ = h4 at w ⊢
  refine V_aloadr_n X dJx4a65c_add_7a177_57 0 rfl ?_
  refine V_iload_n X dJx4a65c_add_7a177_58 3 rfl ?_
  refine V_iconst (y := 1) X dJx4a65c_add_7a177_59 (by decide) ?_
  refine V_iadd X dJx4a65c_add_7a177_60 ?_
  obtain ⟨fs, hh, hv, w⟩ := w
  refine V_put X flJx4a65c_48 dJx4a65c_add_7a177_61 hh hv rfl rfl ?_
  generalize va_up _ _ _ = h5 at w ⊢
  exact V_vret X rfl dJx4a65c_add_7a177_64 (Nat.le_of_ble_eq_true rfl) (Nat.le_of_ble_eq_true rfl) w
def vJx4a65c_add_7a177 (t0 : Nat)  (Qn : gH → Prop) (h : gH) (v0 : Nat) (v1 : Int32) (v2 : Option Nat) : Prop := io h v0 2 (vJx4a65c_rangeCheckForAdd_d00df t0 (fun h1 => gi h1 v0 2 0 (fun x2 => pv h1 v0 2 0 (.int (x2 + 1)) (fun h3 => gi h3 v0 2 2 (fun x4 => gr h3 v0 2 1 (fun r5 => nn r5 (fun a6 => al h3 a6 (fun x7 => ((¬ (x4 : Int32) = x7) → (vJx4a65c_add_7a177_b38 t0  Qn h3 v0 v1 v2 x4 (some a6))) ∧ (((x4 : Int32) = x7) → (io h3 v0 2 (vJx4a65c_grow_d5877 t0 (fun r9 h8 => vJx4a65c_add_7a177_b38 t0  Qn h8 v0 v1 v2 x4 r9) h3 v0 )))))))))) h v0 v1)
set_option maxRecDepth 100000 in
set_option maxHeartbeats 4000000 in
theorem tJx4a65c_add_7a177 {p : Program} {l : Launch} {e : Env} {s : State} {m : MethodId} {args : Array Value} {below : List Frame} {meth : Method} {c : Code} {G : gG} {A : Nat → Prop} {Qn : gH → Prop} (X : gC p l s m args meth c G A cJx4a65c_add_7a177 5 none RJx4a65c)   {h : gH} {v0 : Nat} {v1 : Int32} {v2 : Option Nat} (w : vJx4a65c_add_7a177 G.2.2.1  Qn h v0 v1 v2) : V p l e rmJx4a65c_add_7a177 s m args below meth c (MQ below (va_Qv Qn (gB G A) A) args s rmJx4a65c_add_7a177.cells rmJx4a65c_add_7a177.slots A) G A 5 h 0 0 0 [(0, .ref v0), (1, .int v1), (2, va_rf v2)] [] := by
  refine V_aloadr_n X dJx4a65c_add_7a177_0 0 rfl ?_
  refine V_iload_n X dJx4a65c_add_7a177_1 1 rfl ?_
  obtain ⟨fs, hh, w⟩ := w
  refine V_callVv (As := [.int v1]) (rest := []) (k1 := 0) (n1 := 0) X (cJx4a65c_rangeCheckForAdd_d00df_ok X.2.2.2.2.2.2.2.2.1 w) lkJx4a65c_135 hh (q9 := (RJx4a65c, TJx4a65c, 3)) rfl rfl dJx4a65c_add_7a177_2 ⟨Nat.le_of_ble_eq_true rfl, Nat.le_of_ble_eq_true rfl⟩ rfl (Nat.le_of_ble_eq_true rfl) ⟨Nat.le_of_ble_eq_true rfl, Nat.le_of_ble_eq_true rfl⟩ (Nat.le_of_ble_eq_true rfl) (Nat.le_of_ble_eq_true rfl) (fun h1 w9 => ?_)
  replace w := w9
  clear w9
  refine V_aloadr_n X dJx4a65c_add_7a177_5 0 rfl ?_
  refine V_dup X dJx4a65c_add_7a177_6 rfl ?_
  obtain ⟨fs, x2, hh, hv, w⟩ := w
  refine V_get2 X fmJx4a65c_63 dJx4a65c_add_7a177_7 hh hv ?_
  refine V_iconst (y := 1) X dJx4a65c_add_7a177_10 (by decide) ?_
  refine V_iadd X dJx4a65c_add_7a177_11 ?_
  obtain ⟨fs, hh, hv, w⟩ := w
  refine V_put2 X fmJx4a65c_63 dJx4a65c_add_7a177_12 hh hv rfl rfl ?_
  generalize va_up _ _ _ = h3 at w ⊢
  refine V_aloadr_n X dJx4a65c_add_7a177_15 0 rfl ?_
  obtain ⟨fs, x4, hh, hv, w⟩ := w
  refine V_get X flJx4a65c_48 dJx4a65c_add_7a177_16 hh hv ?_
  refine V_dup X dJx4a65c_add_7a177_19 rfl ?_
  refine V_istore_n (i0 := 3) X dJx4a65c_add_7a177_20 rfl (by decide) (by simp [va_cat1] <;> rfl) ?_
  refine V_aloadr_n X dJx4a65c_add_7a177_21 1 rfl ?_
  obtain ⟨fs, r5, hh, hv, w⟩ := w
  refine V_get X flJx4a65c_9 dJx4a65c_add_7a177_22 hh hv ?_
  refine V_dup X dJx4a65c_add_7a177_25 (va_cat1 _) ?_
  refine V_astoreq X dJx4a65c_add_7a177_26 (by decide) rfl ?_
  obtain ⟨a6, rfl, w⟩ := w
  obtain ⟨kt9, x9, hh, hk9, w⟩ := w
  refine V_alen X dJx4a65c_add_7a177_28 hh hk9 ?_
  generalize Int32.ofNat _ = x7 at w ⊢
  obtain ⟨w1, w2⟩ := w
  refine V_icmp_ne (tgt := 38) X dJx4a65c_add_7a177_29 (by decide) (fun z => ?_) (fun z => ?_)
  · replace w := w1 z
    clear w1 w2
    exact V.widen (k1 := 1) (n1 := 64) (Nat.le_of_ble_eq_true rfl) (Nat.le_of_ble_eq_true rfl) <| V.sub [2, 3, 4, 1, 0] rfl (tJx4a65c_add_7a177_b38 X  w)
  · replace w := w2 z
    clear w1 w2
    refine V_aloadr_n X dJx4a65c_add_7a177_32 2 rfl ?_
    obtain ⟨fs, hh, w⟩ := w
    refine V_callVq (As := []) (rest := []) (k1 := 1) (n1 := 64) X (cJx4a65c_grow_d5877_ok X.2.2.2.2.2.2.2.2.1 w) lkJx4a65c_129 hh (q9 := (RJx4a65c, TJx4a65c, 3)) rfl rfl dJx4a65c_add_7a177_33 ⟨Nat.le_of_ble_eq_true rfl, Nat.le_of_ble_eq_true rfl⟩ rfl (Nat.le_of_ble_eq_true rfl) ⟨Nat.le_of_ble_eq_true rfl, Nat.le_of_ble_eq_true rfl⟩ (Nat.le_of_ble_eq_true rfl) (Nat.le_of_ble_eq_true rfl) (fun r9 h8 w9 => ?_)
    replace w := w9
    clear w9
    refine V_astoreq X dJx4a65c_add_7a177_36 (by decide) rfl ?_
    exact V.sub [2, 3, 4, 1, 0] rfl (tJx4a65c_add_7a177_b38 X  w)
theorem cJx4a65c_add_7a177_ok {l : Launch} {G : gG} {h : gH} (hls : l.stackTraces = false) {Qn : gH → Prop} {v0 : Nat} {v1 : Int32} {v2 : Option Nat} (w : vJx4a65c_add_7a177 G.2.2.1 Qn h v0 v1 v2) : gMv l yJx4a65c_add_7a177 cJx4a65c_add_7a177 5 none rmJx4a65c_add_7a177 rmJx4a65c_add_7a177.cells rmJx4a65c_add_7a177.slots G h [.ref v0, .int v1, va_rf v2] Qn := by
  cases v2 <;>
  exact gMv.of (by decide +kernel) hls (Nat.le_of_ble_eq_true rfl) rfl rfl (fun p e s m below meth c A X hnm => tJx4a65c_add_7a177 X w)
/-! AnimationController$Node.insertChild(LAnimationController$Node;I)V -/
abbrev rmX5_insertChild : Room := { frames := 6, cells := 1, slots := 64, locals := 171 }
def vX5_insertChild_b50 (t0 : Nat)  (Qn : gH → Prop) (h : gH) (v0 : Nat) (v1 : Option Nat) (v2 : Int32) (v3 : Int32) : Prop := gr h v0 8 3 (fun r1 => nn r1 (fun a2 => si h a2 v3 v2 (fun h3 => gr h3 v0 8 2 (fun r4 => nn r4 (fun a5 => io h3 a5 2 (vJx4a65c_add_7a177 t0 (fun h6 => Qn h6) h3 a5 v3 v1))))))
set_option maxRecDepth 100000 in
set_option maxHeartbeats 4000000 in
theorem tX5_insertChild_b50 {p : Program} {l : Launch} {e : Env} {s : State} {m : MethodId} {args : Array Value} {below : List Frame} {meth : Method} {c : Code} {G : gG} {A : Nat → Prop} {Qn : gH → Prop} (X : gC p l s m args meth c G A cX5_insertChild 4 none RX5)   {h : gH} {v0 : Nat} {v1 : Option Nat} {v2 : Int32} {v3 : Int32} (w : vX5_insertChild_b50 G.2.2.1  Qn h v0 v1 v2 v3) : V p l e rmX5_insertChild s m args below meth c (MQ below (va_Qv Qn (gB G A) A) args s rmX5_insertChild.cells rmX5_insertChild.slots A) G A 4 h 0 0 50 [(0, .ref v0), (1, va_rf v1), (2, .int v2), (3, .int v3)] [] := by
  refine V_aloadr_n X dX5_insertChild_50 0 rfl ?_
  obtain ⟨fs, r1, hh, hv, w⟩ := w
  refine V_get X flX5_18 dX5_insertChild_51 hh hv ?_
  refine V_iload_n X dX5_insertChild_54 3 rfl ?_
  refine V_iload_n X dX5_insertChild_55 2 rfl ?_
  obtain ⟨a2, rfl, w⟩ := w
  obtain ⟨N9, g9, hh, hi, w⟩ := w
  refine V_iast X dX5_insertChild_56 hh hi ?_
  generalize va_up _ _ _ = h3 at w ⊢
  refine V_aloadr_n X dX5_insertChild_57 0 rfl ?_
  obtain ⟨fs, r4, hh, hv, w⟩ := w
  refine V_get X flX5_12 dX5_insertChild_58 hh hv ?_
  refine V_iload_n X dX5_insertChild_61 3 rfl ?_
  refine V_aload_n X dX5_insertChild_62 1 rfl ?_
  obtain ⟨a5, rfl, w⟩ := w
  obtain ⟨fs, hh, w⟩ := w
  refine V_callVv (As := [.int v3, va_rf v1]) (rest := []) (k1 := 1) (n1 := 64) X (cJx4a65c_add_7a177_ok X.2.2.2.2.2.2.2.2.1 w) lkX5_45 hh (q9 := (RJx4a65c, TJx4a65c, 3)) rfl rfl dX5_insertChild_63 ⟨Nat.le_of_ble_eq_true rfl, Nat.le_of_ble_eq_true rfl⟩ rfl (Nat.le_of_ble_eq_true rfl) ⟨Nat.le_of_ble_eq_true rfl, Nat.le_of_ble_eq_true rfl⟩ (Nat.le_of_ble_eq_true rfl) (Nat.le_of_ble_eq_true rfl) (fun h6 w9 => ?_)
  replace w := w9
  clear w9
  exact V_vret X rfl dX5_insertChild_66 (Nat.le_of_ble_eq_true rfl) (Nat.le_of_ble_eq_true rfl) w
def vX5_insertChild_b14_o (t0 : Nat) (k14 : gH → Nat → Option Nat → Int32 → Int32 → Prop) (Qn : gH → Prop) (h : gH) (v0 : Nat) (v1 : Option Nat) (v2 : Int32) (v3 : Int32) : Prop := (((v3 : Int32) ≤ 0) → (vX5_insertChild_b50 t0  Qn h v0 v1 v2 v3)) ∧ ((¬ (v3 : Int32) ≤ 0) → (gr h v0 8 3 (fun r1 => nn r1 (fun a2 => li h a2 (v3 - 1) (fun x3 => (((x3 : Int32) ≤ v2) → (vX5_insertChild_b50 t0  Qn h v0 v1 v2 v3)) ∧ ((¬ (x3 : Int32) ≤ v2) → (gr h v0 8 3 (fun r4 => gr h v0 8 3 (fun r5 => nn r5 (fun a6 => li h a6 (v3 - 1) (fun x7 => nn r4 (fun a8 => si h a8 v3 x7 (fun h9 => k14 h9 v0 v1 v2 (v3 + (-1)))))))))))))))
set_option maxRecDepth 100000 in
set_option maxHeartbeats 4000000 in
theorem tX5_insertChild_b14_o {p : Program} {l : Launch} {e : Env} {s : State} {m : MethodId} {args : Array Value} {below : List Frame} {meth : Method} {c : Code} {G : gG} {A : Nat → Prop} {Qn : gH → Prop} (X : gC p l s m args meth c G A cX5_insertChild 4 none RX5) {k14 : gH → Nat → Option Nat → Int32 → Int32 → Prop} (H14 : ∀ (h : gH) (v0 : Nat) (v1 : Option Nat) (v2 : Int32) (v3 : Int32), k14 h v0 v1 v2 v3 → V p l e rmX5_insertChild s m args below meth c (MQ below (va_Qv Qn (gB G A) A) args s rmX5_insertChild.cells rmX5_insertChild.slots A) G A 4 h 0 0 14 [(0, .ref v0), (1, va_rf v1), (2, .int v2), (3, .int v3)] []) {h : gH} {v0 : Nat} {v1 : Option Nat} {v2 : Int32} {v3 : Int32} (w : vX5_insertChild_b14_o G.2.2.1 k14 Qn h v0 v1 v2 v3) : V p l e rmX5_insertChild s m args below meth c (MQ below (va_Qv Qn (gB G A) A) args s rmX5_insertChild.cells rmX5_insertChild.slots A) G A 4 h 0 0 14 [(0, .ref v0), (1, va_rf v1), (2, .int v2), (3, .int v3)] [] := by
  refine V_iload_n X dX5_insertChild_14 3 rfl ?_
  obtain ⟨w1, w2⟩ := w
  refine V_if_le (tgt := 50) X dX5_insertChild_15 (by decide) (fun z => ?_) (fun z => ?_)
  · replace w := w1 z
    clear w1 w2
    exact V.sub [0, 1, 2, 3] rfl (tX5_insertChild_b50 X  w)
  · replace w := w2 z
    clear w1 w2
    refine V_aloadr_n X dX5_insertChild_18 0 rfl ?_
    obtain ⟨fs, r1, hh, hv, w⟩ := w
    refine V_get X flX5_18 dX5_insertChild_19 hh hv ?_
    refine V_iload_n X dX5_insertChild_22 3 rfl ?_
    refine V_iconst (y := 1) X dX5_insertChild_23 (by decide) ?_
    refine V_isub X dX5_insertChild_24 ?_
    obtain ⟨a2, rfl, w⟩ := w
    obtain ⟨N9, g9, hh, hi, w⟩ := w
    refine V_iald X dX5_insertChild_25 hh hi ?_
    generalize g9 _ = x3 at w ⊢
    refine V_iload_n X dX5_insertChild_26 2 rfl ?_
    obtain ⟨w1, w2⟩ := w
    refine V_icmp_le (tgt := 50) X dX5_insertChild_27 (by decide) (fun z => ?_) (fun z => ?_)
    · replace w := w1 z
      clear w1 w2
      exact V.sub [0, 1, 2, 3] rfl (tX5_insertChild_b50 X  w)
    · replace w := w2 z
      clear w1 w2
      refine V_aloadr_n X dX5_insertChild_30 0 rfl ?_
      obtain ⟨fs, r4, hh, hv, w⟩ := w
      refine V_get X flX5_18 dX5_insertChild_31 hh hv ?_
      refine V_iload_n X dX5_insertChild_34 3 rfl ?_
      refine V_aloadr_n X dX5_insertChild_35 0 rfl ?_
      obtain ⟨fs, r5, hh, hv, w⟩ := w
      refine V_get X flX5_18 dX5_insertChild_36 hh hv ?_
      refine V_iload_n X dX5_insertChild_39 3 rfl ?_
      refine V_iconst (y := 1) X dX5_insertChild_40 (by decide) ?_
      refine V_isub X dX5_insertChild_41 ?_
      obtain ⟨a6, rfl, w⟩ := w
      obtain ⟨N9, g9, hh, hi, w⟩ := w
      refine V_iald X dX5_insertChild_42 hh hi ?_
      generalize g9 _ = x7 at w ⊢
      obtain ⟨a8, rfl, w⟩ := w
      obtain ⟨N9, g9, hh, hi, w⟩ := w
      refine V_iast X dX5_insertChild_43 hh hi ?_
      generalize va_up _ _ _ = h9 at w ⊢
      refine V_iinc (y := (v3 + (-1))) X dX5_insertChild_44 3 rfl (by first | rfl | (congr 1)) (by decide) rfl ?_
      refine V_goto (tgt := 14) X dX5_insertChild_47 (by decide) ?_
      exact V.sub [1, 2, 3, 0] rfl (H14 _ _ _ _ _ w)
def vX5_insertChild_b14 (t0 : Nat)  (Qn : gH → Prop) (n : Nat) : gH → Nat → Option Nat → Int32 → Int32 → Prop := Nat.rec (motive := fun _ => gH → Nat → Option Nat → Int32 → Int32 → Prop) (fun _ _ _ _ _ => False) (fun _ k14 => vX5_insertChild_b14_o t0 k14 Qn) n
theorem tX5_insertChild_b14 {p : Program} {l : Launch} {e : Env} {s : State} {m : MethodId} {args : Array Value} {below : List Frame} {meth : Method} {c : Code} {G : gG} {A : Nat → Prop} {Qn : gH → Prop} (X : gC p l s m args meth c G A cX5_insertChild 4 none RX5)   : ∀ (n : Nat) (h : gH) (v0 : Nat) (v1 : Option Nat) (v2 : Int32) (v3 : Int32) (w : vX5_insertChild_b14 G.2.2.1  Qn n h v0 v1 v2 v3), V p l e rmX5_insertChild s m args below meth c (MQ below (va_Qv Qn (gB G A) A) args s rmX5_insertChild.cells rmX5_insertChild.slots A) G A 4 h 0 0 14 [(0, .ref v0), (1, va_rf v1), (2, .int v2), (3, .int v3)] [] := by
  intro n
  induction n with
  | zero => intro h v0 v1 v2 v3 w; exact False.elim w
  | succ n ih => intro h v0 v1 v2 v3 w; exact tX5_insertChild_b14_o X ih w
def vX5_insertChild (t0 : Nat)  (Qn : gH → Prop) (h : gH) (v0 : Nat) (v1 : Option Nat) (v2 : Int32) : Prop := gr h v0 8 2 (fun r1 => nn r1 (fun a2 => io h a2 2 (vJx4a65c_size_8abf5 t0 (fun x4 h3 => (((x4 : Int32) < 5) → (∃ n : Nat, vX5_insertChild_b14 t0  Qn n h3 v0 v1 v2 x4)) ∧ ((¬ (x4 : Int32) < 5) → (Qn h3))) h a2 )))
set_option maxRecDepth 100000 in
set_option maxHeartbeats 4000000 in
theorem tX5_insertChild {p : Program} {l : Launch} {e : Env} {s : State} {m : MethodId} {args : Array Value} {below : List Frame} {meth : Method} {c : Code} {G : gG} {A : Nat → Prop} {Qn : gH → Prop} (X : gC p l s m args meth c G A cX5_insertChild 4 none RX5)   {h : gH} {v0 : Nat} {v1 : Option Nat} {v2 : Int32} (w : vX5_insertChild G.2.2.1  Qn h v0 v1 v2) : V p l e rmX5_insertChild s m args below meth c (MQ below (va_Qv Qn (gB G A) A) args s rmX5_insertChild.cells rmX5_insertChild.slots A) G A 4 h 0 0 0 [(0, .ref v0), (1, va_rf v1), (2, .int v2)] [] := by
  refine V_aloadr_n X dX5_insertChild_0 0 rfl ?_
  obtain ⟨fs, r1, hh, hv, w⟩ := w
  refine V_get X flX5_12 dX5_insertChild_1 hh hv ?_
  obtain ⟨a2, rfl, w⟩ := w
  obtain ⟨fs, hh, w⟩ := w
  refine V_callVi (As := []) (rest := []) (k1 := 0) (n1 := 0) X (cJx4a65c_size_8abf5_ok X.2.2.2.2.2.2.2.2.1 w) lkX5_37 hh (q9 := (RJx4a65c, TJx4a65c, 3)) rfl rfl dX5_insertChild_4 ⟨Nat.le_of_ble_eq_true rfl, Nat.le_of_ble_eq_true rfl⟩ rfl (Nat.le_of_ble_eq_true rfl) ⟨Nat.le_of_ble_eq_true rfl, Nat.le_of_ble_eq_true rfl⟩ (Nat.le_of_ble_eq_true rfl) (Nat.le_of_ble_eq_true rfl) (fun x4 h3 w9 => ?_)
  replace w := w9
  clear w9
  refine V_istore_n (i0 := 3) X dX5_insertChild_7 rfl (by decide) rfl ?_
  refine V_iload_n X dX5_insertChild_8 0 rfl ?_
  refine V_iconst (y := 5) X dX5_insertChild_9 (by decide) ?_
  obtain ⟨w1, w2⟩ := w
  refine V_icmp_lt (tgt := 14) X dX5_insertChild_10 (by decide) (fun z => ?_) (fun z => ?_)
  · replace w := w1 z
    clear w1 w2
    obtain ⟨n9, w⟩ := w
    exact V.sub [1, 2, 3, 0] rfl (tX5_insertChild_b14 X  n9 _ _ _ _ _ w)
  · replace w := w2 z
    clear w1 w2
    exact V_vret X rfl dX5_insertChild_13 (Nat.le_of_ble_eq_true rfl) (Nat.le_of_ble_eq_true rfl) w
theorem cX5_insertChild_ok {l : Launch} {G : gG} {h : gH} (hls : l.stackTraces = false) {Qn : gH → Prop} {v0 : Nat} {v1 : Option Nat} {v2 : Int32} (w : vX5_insertChild G.2.2.1 Qn h v0 v1 v2) : gMv l yX5_insertChild cX5_insertChild 4 none rmX5_insertChild rmX5_insertChild.cells rmX5_insertChild.slots G h [.ref v0, va_rf v1, .int v2] Qn := by
  cases v1 <;>
  exact gMv.of (by decide +kernel) hls (Nat.le_of_ble_eq_true rfl) rfl rfl (fun p e s m below meth c A X hnm => tX5_insertChild X w)
/-! AnimationController$Transition.<init>(ILAnimationController$State;)V -/
abbrev rmX9_init : Room := { frames := 1, cells := 3, slots := 9, locals := 20 }
def vX9_init (t0 : Nat)  (Qn : gH → Prop) (h : gH) (v0 : Nat) (v1 : Int32) (v2 : Option Nat) : Prop := pv h v0 12 4 (.int (-1)) (fun h1 => nw h1 (.inl (0, 3, .inl (fun _ => 0))) (fun q2 h3 => pv h3 v0 12 8 (.ref q2) (fun h4 => nw h4 (.inl (0, 3, .inl (fun _ => 0))) (fun q5 h6 => pv h6 v0 12 9 (.ref q5) (fun h7 => nw h7 (.inl (0, 3, .inl (fun _ => 0))) (fun q8 h9 => pv h9 v0 12 10 (.ref q8) (fun h10 => pv h10 v0 12 0 (.int v1) (fun h11 => pv h11 v0 12 2 (va_rf v2) (fun h12 => Qn h12)))))))))
set_option maxRecDepth 100000 in
set_option maxHeartbeats 4000000 in
theorem tX9_init {p : Program} {l : Launch} {e : Env} {s : State} {m : MethodId} {args : Array Value} {below : List Frame} {meth : Method} {c : Code} {G : gG} {A : Nat → Prop} {Qn : gH → Prop} (X : gC p l s m args meth c G A cX9_init 3 none RX9) (hin : meth.name = "<init>")   {h : gH} {v0 : Nat} {v1 : Int32} {v2 : Option Nat} (w : vX9_init G.2.2.1  Qn h v0 v1 v2) : V p l e rmX9_init s m args below meth c (MQ below (va_Qv Qn (gB G A) A) args s rmX9_init.cells rmX9_init.slots A) G A 3 h 0 0 0 [(0, .ref v0), (1, .int v1), (2, va_rf v2)] [] := by
  refine V_aloadr_n X dX9_init_0 0 rfl ?_
  refine V_objInit X kw_217 kw_42 kw_43 dX9_init_1 (Nat.le_of_ble_eq_true rfl) (Nat.le_of_ble_eq_true rfl) ?_
  refine V_aloadr_n X dX9_init_4 0 rfl ?_
  refine V_iconst (y := (-1)) X dX9_init_5 (by decide) ?_
  obtain ⟨fs, hh, hv, w⟩ := w
  refine V_put X flX9_9 dX9_init_6 hh hv rfl rfl ?_
  generalize va_up _ _ _ = h1 at w ⊢
  refine V_aloadr_n X dX9_init_9 0 rfl ?_
  refine V_iconst (y := 3) X dX9_init_10 (by decide) ?_
  refine V_newa_int (N := 3) (k1 := 1) (n1 := 3) X kw_76 dX9_init_11 (by decide) (by decide) (Nat.le_of_ble_eq_true rfl) ⟨Nat.le_of_ble_eq_true rfl, Nat.le_of_ble_eq_true rfl⟩ (Nat.le_of_ble_eq_true rfl) (Nat.le_of_ble_eq_true rfl) (fun q2 hq => ?_)
  replace w := w q2 hq
  generalize va_up _ _ _ = h3 at w ⊢
  obtain ⟨fs, hh, hv, w⟩ := w
  refine V_putF X hin flX9_15 dX9_init_13 hh hv rfl rfl ?_
  generalize va_up _ _ _ = h4 at w ⊢
  refine V_aloadr_n X dX9_init_16 0 rfl ?_
  refine V_iconst (y := 3) X dX9_init_17 (by decide) ?_
  refine V_newa_int (N := 3) (k1 := 2) (n1 := 6) X kw_76 dX9_init_18 (by decide) (by decide) (Nat.le_of_ble_eq_true rfl) ⟨Nat.le_of_ble_eq_true rfl, Nat.le_of_ble_eq_true rfl⟩ (Nat.le_of_ble_eq_true rfl) (Nat.le_of_ble_eq_true rfl) (fun q5 hq => ?_)
  replace w := w q5 hq
  generalize va_up _ _ _ = h6 at w ⊢
  obtain ⟨fs, hh, hv, w⟩ := w
  refine V_putF X hin flX9_19 dX9_init_20 hh hv rfl rfl ?_
  generalize va_up _ _ _ = h7 at w ⊢
  refine V_aloadr_n X dX9_init_23 0 rfl ?_
  refine V_iconst (y := 3) X dX9_init_24 (by decide) ?_
  refine V_newa_int (N := 3) (k1 := 3) (n1 := 9) X kw_76 dX9_init_25 (by decide) (by decide) (Nat.le_of_ble_eq_true rfl) ⟨Nat.le_of_ble_eq_true rfl, Nat.le_of_ble_eq_true rfl⟩ (Nat.le_of_ble_eq_true rfl) (Nat.le_of_ble_eq_true rfl) (fun q8 hq => ?_)
  replace w := w q8 hq
  generalize va_up _ _ _ = h9 at w ⊢
  obtain ⟨fs, hh, hv, w⟩ := w
  refine V_putF X hin flX9_22 dX9_init_27 hh hv rfl rfl ?_
  generalize va_up _ _ _ = h10 at w ⊢
  refine V_aloadr_n X dX9_init_30 0 rfl ?_
  refine V_iload_n X dX9_init_31 1 rfl ?_
  obtain ⟨fs, hh, hv, w⟩ := w
  refine V_putF X hin flX9_25 dX9_init_32 hh hv rfl rfl ?_
  generalize va_up _ _ _ = h11 at w ⊢
  refine V_aloadr_n X dX9_init_35 0 rfl ?_
  refine V_aload_n X dX9_init_36 2 rfl ?_
  obtain ⟨fs, hh, hv, w⟩ := w
  refine V_put X flX9_28 dX9_init_37 hh hv (by cases v2 <;> rfl) (by cases v2 <;> rfl) ?_
  generalize va_up _ _ _ = h12 at w ⊢
  exact V_vret X rfl dX9_init_40 (Nat.le_of_ble_eq_true rfl) (Nat.le_of_ble_eq_true rfl) w
theorem cX9_init_ok {l : Launch} {G : gG} {h : gH} (hls : l.stackTraces = false) {Qn : gH → Prop} {v0 : Nat} {v1 : Int32} {v2 : Option Nat} (w : vX9_init G.2.2.1 Qn h v0 v1 v2) : gMv l yX9_init cX9_init 3 none rmX9_init rmX9_init.cells rmX9_init.slots G h [.ref v0, .int v1, va_rf v2] Qn := by
  cases v2 <;>
  exact gMv.of (by decide +kernel) hls (Nat.le_of_ble_eq_true rfl) rfl rfl (fun p e s m below meth c A X hnm => tX9_init X hnm w)
/-! AnimationController$Transition.begin(LAnimationController$State;LAnimationController$State;I)V -/
abbrev rmX9_begin : Room := { frames := 0, cells := 0, slots := 0, locals := 0 }
def vX9_begin (t0 : Nat)  (Qn : gH → Prop) (h : gH) (v0 : Nat) (v1 : Option Nat) (v2 : Option Nat) (v3 : Int32) : Prop := pv h v0 12 1 (va_rf v1) (fun h1 => pv h1 v0 12 2 (va_rf v2) (fun h2 => pv h2 v0 12 3 (.int v3) (fun h3 => pv h3 v0 12 4 (.int (-1)) (fun h4 => pv h4 v0 12 5 (.int 0) (fun h5 => pv h5 v0 12 6 (.int 0) (fun h6 => pv h6 v0 12 7 (.int 0) (fun h7 => pv h7 v0 12 11 (.int 0) (fun h8 => Qn h8))))))))
set_option maxRecDepth 100000 in
set_option maxHeartbeats 4000000 in
theorem tX9_begin {p : Program} {l : Launch} {e : Env} {s : State} {m : MethodId} {args : Array Value} {below : List Frame} {meth : Method} {c : Code} {G : gG} {A : Nat → Prop} {Qn : gH → Prop} (X : gC p l s m args meth c G A cX9_begin 4 none RX9)   {h : gH} {v0 : Nat} {v1 : Option Nat} {v2 : Option Nat} {v3 : Int32} (w : vX9_begin G.2.2.1  Qn h v0 v1 v2 v3) : V p l e rmX9_begin s m args below meth c (MQ below (va_Qv Qn (gB G A) A) args s rmX9_begin.cells rmX9_begin.slots A) G A 4 h 0 0 0 [(0, .ref v0), (1, va_rf v1), (2, va_rf v2), (3, .int v3)] [] := by
  refine V_aloadr_n X dX9_begin_0 0 rfl ?_
  refine V_aload_n X dX9_begin_1 1 rfl ?_
  obtain ⟨fs, hh, hv, w⟩ := w
  refine V_put X flX9_32 dX9_begin_2 hh hv (by cases v1 <;> rfl) (by cases v1 <;> rfl) ?_
  generalize va_up _ _ _ = h1 at w ⊢
  refine V_aloadr_n X dX9_begin_5 0 rfl ?_
  refine V_aload_n X dX9_begin_6 2 rfl ?_
  obtain ⟨fs, hh, hv, w⟩ := w
  refine V_put X flX9_28 dX9_begin_7 hh hv (by cases v2 <;> rfl) (by cases v2 <;> rfl) ?_
  generalize va_up _ _ _ = h2 at w ⊢
  refine V_aloadr_n X dX9_begin_10 0 rfl ?_
  refine V_iload_n X dX9_begin_11 3 rfl ?_
  obtain ⟨fs, hh, hv, w⟩ := w
  refine V_put X flX9_35 dX9_begin_12 hh hv rfl rfl ?_
  generalize va_up _ _ _ = h3 at w ⊢
  refine V_aloadr_n X dX9_begin_15 0 rfl ?_
  refine V_iconst (y := (-1)) X dX9_begin_16 (by decide) ?_
  obtain ⟨fs, hh, hv, w⟩ := w
  refine V_put X flX9_9 dX9_begin_17 hh hv rfl rfl ?_
  generalize va_up _ _ _ = h4 at w ⊢
  refine V_aloadr_n X dX9_begin_20 0 rfl ?_
  refine V_iconst (y := 0) X dX9_begin_21 (by decide) ?_
  obtain ⟨fs, hh, hv, w⟩ := w
  refine V_put X flX9_38 dX9_begin_22 hh hv rfl rfl ?_
  generalize va_up _ _ _ = h5 at w ⊢
  refine V_aloadr_n X dX9_begin_25 0 rfl ?_
  refine V_iconst (y := 0) X dX9_begin_26 (by decide) ?_
  obtain ⟨fs, hh, hv, w⟩ := w
  refine V_put X flX9_41 dX9_begin_27 hh hv rfl rfl ?_
  generalize va_up _ _ _ = h6 at w ⊢
  refine V_aloadr_n X dX9_begin_30 0 rfl ?_
  refine V_iconst (y := 0) X dX9_begin_31 (by decide) ?_
  obtain ⟨fs, hh, hv, w⟩ := w
  refine V_put X flX9_44 dX9_begin_32 hh hv rfl rfl ?_
  generalize va_up _ _ _ = h7 at w ⊢
  refine V_aloadr_n X dX9_begin_35 0 rfl ?_
  refine V_iconst (y := 0) X dX9_begin_36 (by decide) ?_
  obtain ⟨fs, hh, hv, w⟩ := w
  refine V_put X flX9_48 dX9_begin_37 hh hv rfl rfl ?_
  generalize va_up _ _ _ = h8 at w ⊢
  exact V_vret X rfl dX9_begin_40 (Nat.le_of_ble_eq_true rfl) (Nat.le_of_ble_eq_true rfl) w
theorem cX9_begin_ok {l : Launch} {G : gG} {h : gH} (hls : l.stackTraces = false) {Qn : gH → Prop} {v0 : Nat} {v1 : Option Nat} {v2 : Option Nat} {v3 : Int32} (w : vX9_begin G.2.2.1 Qn h v0 v1 v2 v3) : gMv l yX9_begin cX9_begin 4 none rmX9_begin rmX9_begin.cells rmX9_begin.slots G h [.ref v0, va_rf v1, va_rf v2, .int v3] Qn := by
  cases v1 <;>
  cases v2 <;>
  exact gMv.of (by decide +kernel) hls (Nat.le_of_ble_eq_true rfl) rfl rfl (fun p e s m below meth c A X hnm => tX9_begin X w)
/-! AnimationController$Transition.appendCondition(III)V -/
abbrev rmX9_appendCondition : Room := { frames := 0, cells := 0, slots := 0, locals := 0 }
def vX9_appendCondition_b55 (t0 : Nat)  (Qn : gH → Prop) (h : gH)  : Prop := Qn h
set_option maxRecDepth 100000 in
set_option maxHeartbeats 4000000 in
theorem tX9_appendCondition_b55 {p : Program} {l : Launch} {e : Env} {s : State} {m : MethodId} {args : Array Value} {below : List Frame} {meth : Method} {c : Code} {G : gG} {A : Nat → Prop} {Qn : gH → Prop} (X : gC p l s m args meth c G A cX9_appendCondition 4 none RX9)   {h : gH}  (w : vX9_appendCondition_b55 G.2.2.1  Qn h ) : V p l e rmX9_appendCondition s m args below meth c (MQ below (va_Qv Qn (gB G A) A) args s rmX9_appendCondition.cells rmX9_appendCondition.slots A) G A 4 h 0 0 55 [] [] := by
  exact V_vret X rfl dX9_appendCondition_55 (Nat.le_of_ble_eq_true rfl) (Nat.le_of_ble_eq_true rfl) w
def vX9_appendCondition (t0 : Nat)  (Qn : gH → Prop) (h : gH) (v0 : Nat) (v1 : Int32) (v2 : Int32) (v3 : Int32) : Prop := gi h v0 12 11 (fun x1 => (((x1 : Int32) < 0) → (vX9_appendCondition_b55 t0  Qn h )) ∧ ((¬ (x1 : Int32) < 0) → (gi h v0 12 11 (fun x2 => ((3 ≤ (x2 : Int32)) → (vX9_appendCondition_b55 t0  Qn h )) ∧ ((¬ 3 ≤ (x2 : Int32)) → (gr h v0 12 8 (fun r3 => gi h v0 12 11 (fun x4 => nn r3 (fun a5 => si h a5 x4 v1 (fun h6 => gr h6 v0 12 9 (fun r7 => gi h6 v0 12 11 (fun x8 => nn r7 (fun a9 => si h6 a9 x8 v2 (fun h10 => gr h10 v0 12 10 (fun r11 => gi h10 v0 12 11 (fun x12 => nn r11 (fun a13 => si h10 a13 x12 v3 (fun h14 => gi h14 v0 12 11 (fun x15 => pv h14 v0 12 11 (.int (x15 + 1)) (fun h16 => vX9_appendCondition_b55 t0  Qn h16 ))))))))))))))))))))
set_option maxRecDepth 100000 in
set_option maxHeartbeats 4000000 in
theorem tX9_appendCondition {p : Program} {l : Launch} {e : Env} {s : State} {m : MethodId} {args : Array Value} {below : List Frame} {meth : Method} {c : Code} {G : gG} {A : Nat → Prop} {Qn : gH → Prop} (X : gC p l s m args meth c G A cX9_appendCondition 4 none RX9)   {h : gH} {v0 : Nat} {v1 : Int32} {v2 : Int32} {v3 : Int32} (w : vX9_appendCondition G.2.2.1  Qn h v0 v1 v2 v3) : V p l e rmX9_appendCondition s m args below meth c (MQ below (va_Qv Qn (gB G A) A) args s rmX9_appendCondition.cells rmX9_appendCondition.slots A) G A 4 h 0 0 0 [(0, .ref v0), (1, .int v1), (2, .int v2), (3, .int v3)] [] := by
  refine V_aloadr_n X dX9_appendCondition_0 0 rfl ?_
  obtain ⟨fs, x1, hh, hv, w⟩ := w
  refine V_get X flX9_48 dX9_appendCondition_1 hh hv ?_
  obtain ⟨w1, w2⟩ := w
  refine V_if_lt (tgt := 55) X dX9_appendCondition_4 (by decide) (fun z => ?_) (fun z => ?_)
  · replace w := w1 z
    clear w1 w2
    exact V.sub [] rfl (tX9_appendCondition_b55 X  w)
  · replace w := w2 z
    clear w1 w2
    refine V_aloadr_n X dX9_appendCondition_7 0 rfl ?_
    obtain ⟨fs, x2, hh, hv, w⟩ := w
    refine V_get X flX9_48 dX9_appendCondition_8 hh hv ?_
    refine V_iconst (y := 3) X dX9_appendCondition_11 (by decide) ?_
    obtain ⟨w1, w2⟩ := w
    refine V_icmp_ge (tgt := 55) X dX9_appendCondition_12 (by decide) (fun z => ?_) (fun z => ?_)
    · replace w := w1 z
      clear w1 w2
      exact V.sub [] rfl (tX9_appendCondition_b55 X  w)
    · replace w := w2 z
      clear w1 w2
      refine V_aloadr_n X dX9_appendCondition_15 0 rfl ?_
      obtain ⟨fs, r3, hh, hv, w⟩ := w
      refine V_get X flX9_15 dX9_appendCondition_16 hh hv ?_
      refine V_aloadr_n X dX9_appendCondition_19 0 rfl ?_
      obtain ⟨fs, x4, hh, hv, w⟩ := w
      refine V_get X flX9_48 dX9_appendCondition_20 hh hv ?_
      refine V_iload_n X dX9_appendCondition_23 1 rfl ?_
      obtain ⟨a5, rfl, w⟩ := w
      obtain ⟨N9, g9, hh, hi, w⟩ := w
      refine V_iast X dX9_appendCondition_24 hh hi ?_
      generalize va_up _ _ _ = h6 at w ⊢
      refine V_aloadr_n X dX9_appendCondition_25 0 rfl ?_
      obtain ⟨fs, r7, hh, hv, w⟩ := w
      refine V_get X flX9_19 dX9_appendCondition_26 hh hv ?_
      refine V_aloadr_n X dX9_appendCondition_29 0 rfl ?_
      obtain ⟨fs, x8, hh, hv, w⟩ := w
      refine V_get X flX9_48 dX9_appendCondition_30 hh hv ?_
      refine V_iload_n X dX9_appendCondition_33 2 rfl ?_
      obtain ⟨a9, rfl, w⟩ := w
      obtain ⟨N9, g9, hh, hi, w⟩ := w
      refine V_iast X dX9_appendCondition_34 hh hi ?_
      generalize va_up _ _ _ = h10 at w ⊢
      refine V_aloadr_n X dX9_appendCondition_35 0 rfl ?_
      obtain ⟨fs, r11, hh, hv, w⟩ := w
      refine V_get X flX9_22 dX9_appendCondition_36 hh hv ?_
      refine V_aloadr_n X dX9_appendCondition_39 0 rfl ?_
      obtain ⟨fs, x12, hh, hv, w⟩ := w
      refine V_get X flX9_48 dX9_appendCondition_40 hh hv ?_
      refine V_iload_n X dX9_appendCondition_43 3 rfl ?_
      obtain ⟨a13, rfl, w⟩ := w
      obtain ⟨N9, g9, hh, hi, w⟩ := w
      refine V_iast X dX9_appendCondition_44 hh hi ?_
      generalize va_up _ _ _ = h14 at w ⊢
      refine V_aloadr_n X dX9_appendCondition_45 0 rfl ?_
      refine V_dup X dX9_appendCondition_46 rfl ?_
      obtain ⟨fs, x15, hh, hv, w⟩ := w
      refine V_get X flX9_48 dX9_appendCondition_47 hh hv ?_
      refine V_iconst (y := 1) X dX9_appendCondition_50 (by decide) ?_
      refine V_iadd X dX9_appendCondition_51 ?_
      obtain ⟨fs, hh, hv, w⟩ := w
      refine V_put X flX9_48 dX9_appendCondition_52 hh hv rfl rfl ?_
      generalize va_up _ _ _ = h16 at w ⊢
      exact V.sub [] rfl (tX9_appendCondition_b55 X  w)
theorem cX9_appendCondition_ok {l : Launch} {G : gG} {h : gH} (hls : l.stackTraces = false) {Qn : gH → Prop} {v0 : Nat} {v1 : Int32} {v2 : Int32} {v3 : Int32} (w : vX9_appendCondition G.2.2.1 Qn h v0 v1 v2 v3) : gMv l yX9_appendCondition cX9_appendCondition 4 none rmX9_appendCondition rmX9_appendCondition.cells rmX9_appendCondition.slots G h [.ref v0, .int v1, .int v2, .int v3] Qn := by
  exact gMv.of (by decide +kernel) hls (Nat.le_of_ble_eq_true rfl) rfl rfl (fun p e s m below meth c A X hnm => tX9_appendCondition X w)
/-! AnimationController$Transition.copyFrom(LAnimationController$Transition;)V -/
abbrev rmX9_copyFrom : Room := { frames := 1, cells := 0, slots := 0, locals := 23 }
def vX9_copyFrom_b91 (t0 : Nat)  (Qn : gH → Prop) (h : gH)  : Prop := Qn h
set_option maxRecDepth 100000 in
set_option maxHeartbeats 4000000 in
theorem tX9_copyFrom_b91 {p : Program} {l : Launch} {e : Env} {s : State} {m : MethodId} {args : Array Value} {below : List Frame} {meth : Method} {c : Code} {G : gG} {A : Nat → Prop} {Qn : gH → Prop} (X : gC p l s m args meth c G A cX9_copyFrom 3 none RX9)   {h : gH}  (w : vX9_copyFrom_b91 G.2.2.1  Qn h ) : V p l e rmX9_copyFrom s m args below meth c (MQ below (va_Qv Qn (gB G A) A) args s rmX9_copyFrom.cells rmX9_copyFrom.slots A) G A 3 h 0 0 91 [] [] := by
  exact V_vret X rfl dX9_copyFrom_91 (Nat.le_of_ble_eq_true rfl) (Nat.le_of_ble_eq_true rfl) w
def vX9_copyFrom_b50_o (t0 : Nat) (k50 : gH → Nat → Option Nat → Int32 → Prop) (Qn : gH → Prop) (h : gH) (v0 : Nat) (v1 : Option Nat) (v2 : Int32) : Prop := nn v1 (fun a1 => gi h a1 12 11 (fun x2 => ((x2 ≤ (v2 : Int32)) → (vX9_copyFrom_b91 t0  Qn h )) ∧ ((¬ x2 ≤ (v2 : Int32)) → (((3 ≤ (v2 : Int32)) → (vX9_copyFrom_b91 t0  Qn h )) ∧ ((¬ 3 ≤ (v2 : Int32)) → (gr h a1 12 8 (fun r3 => nn r3 (fun a4 => li h a4 v2 (fun x5 => gr h a1 12 9 (fun r6 => nn r6 (fun a7 => li h a7 v2 (fun x8 => gr h a1 12 10 (fun r9 => nn r9 (fun a10 => li h a10 v2 (fun x11 => io h v0 12 (vX9_appendCondition t0 (fun h12 => k50 h12 v0 (some a1) (v2 + 1)) h v0 x5 x8 x11))))))))))))))))
set_option maxRecDepth 100000 in
set_option maxHeartbeats 4000000 in
theorem tX9_copyFrom_b50_o {p : Program} {l : Launch} {e : Env} {s : State} {m : MethodId} {args : Array Value} {below : List Frame} {meth : Method} {c : Code} {G : gG} {A : Nat → Prop} {Qn : gH → Prop} (X : gC p l s m args meth c G A cX9_copyFrom 3 none RX9) {k50 : gH → Nat → Option Nat → Int32 → Prop} (H50 : ∀ (h : gH) (v0 : Nat) (v1 : Option Nat) (v2 : Int32), k50 h v0 v1 v2 → V p l e rmX9_copyFrom s m args below meth c (MQ below (va_Qv Qn (gB G A) A) args s rmX9_copyFrom.cells rmX9_copyFrom.slots A) G A 3 h 0 0 50 [(0, .ref v0), (1, va_rf v1), (2, .int v2)] []) {h : gH} {v0 : Nat} {v1 : Option Nat} {v2 : Int32} (w : vX9_copyFrom_b50_o G.2.2.1 k50 Qn h v0 v1 v2) : V p l e rmX9_copyFrom s m args below meth c (MQ below (va_Qv Qn (gB G A) A) args s rmX9_copyFrom.cells rmX9_copyFrom.slots A) G A 3 h 0 0 50 [(0, .ref v0), (1, va_rf v1), (2, .int v2)] [] := by
  refine V_iload_n X dX9_copyFrom_50 2 rfl ?_
  refine V_aload_n X dX9_copyFrom_51 1 rfl ?_
  obtain ⟨a1, rfl, w⟩ := w
  obtain ⟨fs, x2, hh, hv, w⟩ := w
  refine V_get X flX9_48 dX9_copyFrom_52 hh hv ?_
  obtain ⟨w1, w2⟩ := w
  refine V_icmp_ge (tgt := 91) X dX9_copyFrom_55 (by decide) (fun z => ?_) (fun z => ?_)
  · replace w := w1 z
    clear w1 w2
    exact V.sub [] rfl (tX9_copyFrom_b91 X  w)
  · replace w := w2 z
    clear w1 w2
    refine V_iload_n X dX9_copyFrom_58 2 rfl ?_
    refine V_iconst (y := 3) X dX9_copyFrom_59 (by decide) ?_
    obtain ⟨w1, w2⟩ := w
    refine V_icmp_ge (tgt := 91) X dX9_copyFrom_60 (by decide) (fun z => ?_) (fun z => ?_)
    · replace w := w1 z
      clear w1 w2
      exact V.sub [] rfl (tX9_copyFrom_b91 X  w)
    · replace w := w2 z
      clear w1 w2
      refine V_aloadr_n X dX9_copyFrom_63 0 rfl ?_
      refine V_aloadr_n X dX9_copyFrom_64 1 rfl ?_
      obtain ⟨fs, r3, hh, hv, w⟩ := w
      refine V_get X flX9_15 dX9_copyFrom_65 hh hv ?_
      refine V_iload_n X dX9_copyFrom_68 2 rfl ?_
      obtain ⟨a4, rfl, w⟩ := w
      obtain ⟨N9, g9, hh, hi, w⟩ := w
      refine V_iald X dX9_copyFrom_69 hh hi ?_
      generalize g9 _ = x5 at w ⊢
      refine V_aloadr_n X dX9_copyFrom_70 1 rfl ?_
      obtain ⟨fs, r6, hh, hv, w⟩ := w
      refine V_get X flX9_19 dX9_copyFrom_71 hh hv ?_
      refine V_iload_n X dX9_copyFrom_74 2 rfl ?_
      obtain ⟨a7, rfl, w⟩ := w
      obtain ⟨N9, g9, hh, hi, w⟩ := w
      refine V_iald X dX9_copyFrom_75 hh hi ?_
      generalize g9 _ = x8 at w ⊢
      refine V_aloadr_n X dX9_copyFrom_76 1 rfl ?_
      obtain ⟨fs, r9, hh, hv, w⟩ := w
      refine V_get X flX9_22 dX9_copyFrom_77 hh hv ?_
      refine V_iload_n X dX9_copyFrom_80 2 rfl ?_
      obtain ⟨a10, rfl, w⟩ := w
      obtain ⟨N9, g9, hh, hi, w⟩ := w
      refine V_iald X dX9_copyFrom_81 hh hi ?_
      generalize g9 _ = x11 at w ⊢
      obtain ⟨fs, hh, w⟩ := w
      refine V_callVv (As := [.int x5, .int x8, .int x11]) (rest := []) (k1 := 0) (n1 := 0) X (cX9_appendCondition_ok X.2.2.2.2.2.2.2.2.1 w) lkX9_55 hh (q9 := (RX9, TX9, 12)) rfl rfl dX9_copyFrom_82 ⟨Nat.le_of_ble_eq_true rfl, Nat.le_of_ble_eq_true rfl⟩ rfl (Nat.le_of_ble_eq_true rfl) ⟨Nat.le_of_ble_eq_true rfl, Nat.le_of_ble_eq_true rfl⟩ (Nat.le_of_ble_eq_true rfl) (Nat.le_of_ble_eq_true rfl) (fun h12 w9 => ?_)
      replace w := w9
      clear w9
      refine V_iinc (y := (v2 + 1)) X dX9_copyFrom_85 2 rfl (by first | rfl | (congr 1)) (by decide) rfl ?_
      refine V_goto (tgt := 50) X dX9_copyFrom_88 (by decide) ?_
      exact V.sub [1, 2, 0] rfl (H50 _ _ _ _ w)
def vX9_copyFrom_b50 (t0 : Nat)  (Qn : gH → Prop) (n : Nat) : gH → Nat → Option Nat → Int32 → Prop := Nat.rec (motive := fun _ => gH → Nat → Option Nat → Int32 → Prop) (fun _ _ _ _ => False) (fun _ k50 => vX9_copyFrom_b50_o t0 k50 Qn) n
theorem tX9_copyFrom_b50 {p : Program} {l : Launch} {e : Env} {s : State} {m : MethodId} {args : Array Value} {below : List Frame} {meth : Method} {c : Code} {G : gG} {A : Nat → Prop} {Qn : gH → Prop} (X : gC p l s m args meth c G A cX9_copyFrom 3 none RX9)   : ∀ (n : Nat) (h : gH) (v0 : Nat) (v1 : Option Nat) (v2 : Int32) (w : vX9_copyFrom_b50 G.2.2.1  Qn n h v0 v1 v2), V p l e rmX9_copyFrom s m args below meth c (MQ below (va_Qv Qn (gB G A) A) args s rmX9_copyFrom.cells rmX9_copyFrom.slots A) G A 3 h 0 0 50 [(0, .ref v0), (1, va_rf v1), (2, .int v2)] [] := by
  intro n
  induction n with
  | zero => intro h v0 v1 v2 w; exact False.elim w
  | succ n ih => intro h v0 v1 v2 w; exact tX9_copyFrom_b50_o X ih w
def vX9_copyFrom (t0 : Nat)  (Qn : gH → Prop) (h : gH) (v0 : Nat) (v1 : Option Nat) : Prop := nn v1 (fun a1 => gr h a1 12 1 (fun r2 => gr h a1 12 2 (fun r3 => gi h a1 12 3 (fun x4 => io h v0 12 (vX9_begin t0 (fun h5 => gi h5 a1 12 4 (fun x6 => pv h5 v0 12 4 (.int x6) (fun h7 => gi h7 a1 12 5 (fun x8 => pv h7 v0 12 5 (.int x8) (fun h9 => gi h9 a1 12 6 (fun x10 => pv h9 v0 12 6 (.int x10) (fun h11 => gi h11 a1 12 7 (fun x12 => gZ x12 ∧ (pv h11 v0 12 7 (.int x12) (fun h13 => ∃ n : Nat, vX9_copyFrom_b50 t0  Qn n h13 v0 (some a1) 0)))))))))) h v0 r2 r3 x4)))))
set_option maxRecDepth 100000 in
set_option maxHeartbeats 4000000 in
theorem tX9_copyFrom {p : Program} {l : Launch} {e : Env} {s : State} {m : MethodId} {args : Array Value} {below : List Frame} {meth : Method} {c : Code} {G : gG} {A : Nat → Prop} {Qn : gH → Prop} (X : gC p l s m args meth c G A cX9_copyFrom 3 none RX9)   {h : gH} {v0 : Nat} {v1 : Option Nat} (w : vX9_copyFrom G.2.2.1  Qn h v0 v1) : V p l e rmX9_copyFrom s m args below meth c (MQ below (va_Qv Qn (gB G A) A) args s rmX9_copyFrom.cells rmX9_copyFrom.slots A) G A 3 h 0 0 0 [(0, .ref v0), (1, va_rf v1)] [] := by
  refine V_aloadr_n X dX9_copyFrom_0 0 rfl ?_
  refine V_aload_n X dX9_copyFrom_1 1 rfl ?_
  obtain ⟨a1, rfl, w⟩ := w
  obtain ⟨fs, r2, hh, hv, w⟩ := w
  refine V_get X flX9_32 dX9_copyFrom_2 hh hv ?_
  refine V_aloadr_n X dX9_copyFrom_5 1 rfl ?_
  obtain ⟨fs, r3, hh, hv, w⟩ := w
  refine V_get X flX9_28 dX9_copyFrom_6 hh hv ?_
  refine V_aloadr_n X dX9_copyFrom_9 1 rfl ?_
  obtain ⟨fs, x4, hh, hv, w⟩ := w
  refine V_get X flX9_35 dX9_copyFrom_10 hh hv ?_
  obtain ⟨fs, hh, w⟩ := w
  refine V_callVv (As := [va_rf r2, va_rf r3, .int x4]) (rest := []) (k1 := 0) (n1 := 0) X (cX9_begin_ok X.2.2.2.2.2.2.2.2.1 w) lkX9_51 hh (q9 := (RX9, TX9, 12)) rfl rfl dX9_copyFrom_13 ⟨Nat.le_of_ble_eq_true rfl, Nat.le_of_ble_eq_true rfl⟩ rfl (Nat.le_of_ble_eq_true rfl) ⟨Nat.le_of_ble_eq_true rfl, Nat.le_of_ble_eq_true rfl⟩ (Nat.le_of_ble_eq_true rfl) (Nat.le_of_ble_eq_true rfl) (fun h5 w9 => ?_)
  replace w := w9
  clear w9
  refine V_aloadr_n X dX9_copyFrom_16 0 rfl ?_
  refine V_aloadr_n X dX9_copyFrom_17 1 rfl ?_
  obtain ⟨fs, x6, hh, hv, w⟩ := w
  refine V_get X flX9_9 dX9_copyFrom_18 hh hv ?_
  obtain ⟨fs, hh, hv, w⟩ := w
  refine V_put X flX9_9 dX9_copyFrom_21 hh hv rfl rfl ?_
  generalize va_up _ _ _ = h7 at w ⊢
  refine V_aloadr_n X dX9_copyFrom_24 0 rfl ?_
  refine V_aloadr_n X dX9_copyFrom_25 1 rfl ?_
  obtain ⟨fs, x8, hh, hv, w⟩ := w
  refine V_get X flX9_38 dX9_copyFrom_26 hh hv ?_
  obtain ⟨fs, hh, hv, w⟩ := w
  refine V_put X flX9_38 dX9_copyFrom_29 hh hv rfl rfl ?_
  generalize va_up _ _ _ = h9 at w ⊢
  refine V_aloadr_n X dX9_copyFrom_32 0 rfl ?_
  refine V_aloadr_n X dX9_copyFrom_33 1 rfl ?_
  obtain ⟨fs, x10, hh, hv, w⟩ := w
  refine V_get X flX9_41 dX9_copyFrom_34 hh hv ?_
  obtain ⟨fs, hh, hv, w⟩ := w
  refine V_put X flX9_41 dX9_copyFrom_37 hh hv rfl rfl ?_
  generalize va_up _ _ _ = h11 at w ⊢
  refine V_aloadr_n X dX9_copyFrom_40 0 rfl ?_
  refine V_aloadr_n X dX9_copyFrom_41 1 rfl ?_
  obtain ⟨fs, x12, hh, hv, w⟩ := w
  refine V_get X flX9_44 dX9_copyFrom_42 hh hv ?_
  obtain ⟨hz, w⟩ := w
  obtain ⟨fs, hh, hv, w⟩ := w
  refine V_put X flX9_44 dX9_copyFrom_45 hh hv hz.1 hz.2 ?_
  generalize va_up _ _ _ = h13 at w ⊢
  refine V_iconst (y := 0) X dX9_copyFrom_48 (by decide) ?_
  refine V_istore_n (i0 := 2) X dX9_copyFrom_49 rfl (by decide) rfl ?_
  obtain ⟨n9, w⟩ := w
  exact V.sub [1, 2, 0] rfl (tX9_copyFrom_b50 X  n9 _ _ _ _ w)
theorem cX9_copyFrom_ok {l : Launch} {G : gG} {h : gH} (hls : l.stackTraces = false) {Qn : gH → Prop} {v0 : Nat} {v1 : Option Nat} (w : vX9_copyFrom G.2.2.1 Qn h v0 v1) : gMv l yX9_copyFrom cX9_copyFrom 3 none rmX9_copyFrom rmX9_copyFrom.cells rmX9_copyFrom.slots G h [.ref v0, va_rf v1] Qn := by
  cases v1 <;>
  exact gMv.of (by decide +kernel) hls (Nat.le_of_ble_eq_true rfl) rfl rfl (fun p e s m below meth c A X hnm => tX9_copyFrom X w)
/-! AnimationController$TransitionText.<init>(LAnimationController$Model;)V -/
abbrev rmX10_init : Room := { frames := 2, cells := 5, slots := 171, locals := 42 }
def vX10_init (t0 : Nat)  (Qn : gH → Prop) (h : gH) (v0 : Nat) (v1 : Option Nat) : Prop := nw h (.inl (0, 150, .inl (fun _ => 0))) (fun q1 h2 => pv h2 v0 13 1 (.ref q1) (fun h3 => pv h3 v0 13 0 (va_rf v1) (fun h4 => nw h4 (.inr (12, [.int 0, .null, .null, .int 0, .int 0, .int 0, .int 0, .int 0, .null, .null, .null, .int 0])) (fun q5 h6 => nn v1 (fun a7 => gr h6 a7 7 7 (fun r8 => vX9_init t0 (fun h9 => pv h9 v0 13 4 (.ref q5) (fun h10 => Qn h10)) h6 q5 (-1) r8))))))
set_option maxRecDepth 100000 in
set_option maxHeartbeats 4000000 in
theorem tX10_init {p : Program} {l : Launch} {e : Env} {s : State} {m : MethodId} {args : Array Value} {below : List Frame} {meth : Method} {c : Code} {G : gG} {A : Nat → Prop} {Qn : gH → Prop} (X : gC p l s m args meth c G A cX10_init 2 none RX10) (hin : meth.name = "<init>")   {h : gH} {v0 : Nat} {v1 : Option Nat} (w : vX10_init G.2.2.1  Qn h v0 v1) : V p l e rmX10_init s m args below meth c (MQ below (va_Qv Qn (gB G A) A) args s rmX10_init.cells rmX10_init.slots A) G A 2 h 0 0 0 [(0, .ref v0), (1, va_rf v1)] [] := by
  refine V_aloadr_n X dX10_init_0 0 rfl ?_
  refine V_objInit X kw_211 kw_42 kw_43 dX10_init_1 (Nat.le_of_ble_eq_true rfl) (Nat.le_of_ble_eq_true rfl) ?_
  refine V_aloadr_n X dX10_init_4 0 rfl ?_
  refine V_sipush (y := 150) X dX10_init_5 (by decide) ?_
  refine V_newa_int (N := 150) (k1 := 1) (n1 := 150) X kw_76 dX10_init_8 (by decide) (by decide) (Nat.le_of_ble_eq_true rfl) ⟨Nat.le_of_ble_eq_true rfl, Nat.le_of_ble_eq_true rfl⟩ (Nat.le_of_ble_eq_true rfl) (Nat.le_of_ble_eq_true rfl) (fun q1 hq => ?_)
  replace w := w q1 hq
  generalize va_up _ _ _ = h2 at w ⊢
  obtain ⟨fs, hh, hv, w⟩ := w
  refine V_putF X hin flX10_9 dX10_init_10 hh hv rfl rfl ?_
  generalize va_up _ _ _ = h3 at w ⊢
  refine V_aloadr_n X dX10_init_13 0 rfl ?_
  refine V_aload_n X dX10_init_14 1 rfl ?_
  obtain ⟨fs, hh, hv, w⟩ := w
  refine V_putF X hin flX10_15 dX10_init_15 hh hv (by cases v1 <;> rfl) (by cases v1 <;> rfl) ?_
  generalize va_up _ _ _ = h4 at w ⊢
  refine V_aloadr_n X dX10_init_18 0 rfl ?_
  refine V_new (k1 := 2) (n1 := 162) X nwX10_19 dX10_init_19 ⟨(Nat.le_of_ble_eq_true rfl), (Nat.le_of_ble_eq_true rfl)⟩ (Nat.le_of_ble_eq_true rfl) (Nat.le_of_ble_eq_true rfl) (fun q5 hq => ?_)
  replace w := w q5 hq
  generalize va_up _ _ _ = h6 at w ⊢
  refine V_dup X dX10_init_22 rfl ?_
  refine V_iconst (y := (-1)) X dX10_init_23 (by decide) ?_
  refine V_aload_n X dX10_init_24 1 rfl ?_
  obtain ⟨a7, rfl, w⟩ := w
  obtain ⟨fs, r8, hh, hv, w⟩ := w
  refine V_get3 X frX10_21 dX10_init_25 hh hv ?_
  refine V_callI (As := [.int (-1), va_rf r8]) (rest := [.ref q5, .ref v0]) (k1 := 5) (n1 := 171) X (cX9_init_ok X.2.2.2.2.2.2.2.2.1 w) lkX10_27 dX10_init_28 ⟨Nat.le_of_ble_eq_true rfl, Nat.le_of_ble_eq_true rfl⟩ rfl (Nat.le_of_ble_eq_true rfl) ⟨Nat.le_of_ble_eq_true rfl, Nat.le_of_ble_eq_true rfl⟩ (Nat.le_of_ble_eq_true rfl) (Nat.le_of_ble_eq_true rfl) (fun h9 w9 => ?_)
  replace w := w9
  clear w9
  obtain ⟨fs, hh, hv, w⟩ := w
  refine V_putF X hin flX10_30 dX10_init_31 hh hv rfl rfl ?_
  generalize va_up _ _ _ = h10 at w ⊢
  exact V_vret X rfl dX10_init_34 (Nat.le_of_ble_eq_true rfl) (Nat.le_of_ble_eq_true rfl) w
theorem cX10_init_ok {l : Launch} {G : gG} {h : gH} (hls : l.stackTraces = false) {Qn : gH → Prop} {v0 : Nat} {v1 : Option Nat} (w : vX10_init G.2.2.1 Qn h v0 v1) : gMv l yX10_init cX10_init 2 none rmX10_init rmX10_init.cells rmX10_init.slots G h [.ref v0, va_rf v1] Qn := by
  cases v1 <;>
  exact gMv.of (by decide +kernel) hls (Nat.le_of_ble_eq_true rfl) rfl rfl (fun p e s m below meth c A X hnm => tX10_init X hnm w)
/-! AnimationController$TransitionText.nextByte()I -/
abbrev rmX10_nextByte : Room := { frames := 0, cells := 0, slots := 0, locals := 0 }
def vX10_nextByte_b86 (t0 : Nat)  (Qn : Int32 → gH → Prop) (h : gH) (s0 : Int32) : Prop := Qn s0 h
set_option maxRecDepth 100000 in
set_option maxHeartbeats 4000000 in
theorem tX10_nextByte_b86 {p : Program} {l : Launch} {e : Env} {s : State} {m : MethodId} {args : Array Value} {below : List Frame} {meth : Method} {c : Code} {G : gG} {A : Nat → Prop} {Qn : Int32 → gH → Prop} (X : gC p l s m args meth c G A cX10_nextByte 1 (some FieldType.int) RX10)   {h : gH} {s0 : Int32} (w : vX10_nextByte_b86 G.2.2.1  Qn h s0) : V p l e rmX10_nextByte s m args below meth c (MQ below (va_Qi Qn (gB G A) A) args s rmX10_nextByte.cells rmX10_nextByte.slots A) G A 1 h 0 0 86 [] [.int s0] := by
  exact V_iret X rfl dX10_nextByte_86 (Nat.le_of_ble_eq_true rfl) (Nat.le_of_ble_eq_true rfl) w
def vX10_nextByte_b85 (t0 : Nat)  (Qn : Int32 → gH → Prop) (h : gH)  : Prop := vX10_nextByte_b86 t0  Qn h (-1)
set_option maxRecDepth 100000 in
set_option maxHeartbeats 4000000 in
theorem tX10_nextByte_b85 {p : Program} {l : Launch} {e : Env} {s : State} {m : MethodId} {args : Array Value} {below : List Frame} {meth : Method} {c : Code} {G : gG} {A : Nat → Prop} {Qn : Int32 → gH → Prop} (X : gC p l s m args meth c G A cX10_nextByte 1 (some FieldType.int) RX10)   {h : gH}  (w : vX10_nextByte_b85 G.2.2.1  Qn h ) : V p l e rmX10_nextByte s m args below meth c (MQ below (va_Qi Qn (gB G A) A) args s rmX10_nextByte.cells rmX10_nextByte.slots A) G A 1 h 0 0 85 [] [] := by
  refine V_iconst (y := (-1)) X dX10_nextByte_85 (by decide) ?_
  exact V.sub [] rfl (tX10_nextByte_b86 X  w)
def vX10_nextByte_b50 (t0 : Nat)  (Qn : Int32 → gH → Prop) (h : gH) (v0 : Nat) : Prop := gi h v0 13 3 (fun x1 => gi h v0 13 2 (fun x2 => ((x2 ≤ (x1 : Int32)) → (vX10_nextByte_b85 t0  Qn h )) ∧ ((¬ x2 ≤ (x1 : Int32)) → (gi h v0 13 3 (fun x3 => gr h v0 13 1 (fun r4 => nn r4 (fun a5 => al h a5 (fun x6 => ((x6 ≤ (x3 : Int32)) → (vX10_nextByte_b85 t0  Qn h )) ∧ ((¬ x6 ≤ (x3 : Int32)) → (gr h v0 13 1 (fun r7 => gi h v0 13 3 (fun x8 => nn r7 (fun a9 => li h a9 x8 (fun x10 => vX10_nextByte_b86 t0  Qn h x10))))))))))))))
set_option maxRecDepth 100000 in
set_option maxHeartbeats 4000000 in
theorem tX10_nextByte_b50 {p : Program} {l : Launch} {e : Env} {s : State} {m : MethodId} {args : Array Value} {below : List Frame} {meth : Method} {c : Code} {G : gG} {A : Nat → Prop} {Qn : Int32 → gH → Prop} (X : gC p l s m args meth c G A cX10_nextByte 1 (some FieldType.int) RX10)   {h : gH} {v0 : Nat} (w : vX10_nextByte_b50 G.2.2.1  Qn h v0) : V p l e rmX10_nextByte s m args below meth c (MQ below (va_Qi Qn (gB G A) A) args s rmX10_nextByte.cells rmX10_nextByte.slots A) G A 1 h 0 0 50 [(0, .ref v0)] [] := by
  refine V_aloadr_n X dX10_nextByte_50 0 rfl ?_
  obtain ⟨fs, x1, hh, hv, w⟩ := w
  refine V_get X flX10_34 dX10_nextByte_51 hh hv ?_
  refine V_aloadr_n X dX10_nextByte_54 0 rfl ?_
  obtain ⟨fs, x2, hh, hv, w⟩ := w
  refine V_get X flX10_69 dX10_nextByte_55 hh hv ?_
  obtain ⟨w1, w2⟩ := w
  refine V_icmp_ge (tgt := 85) X dX10_nextByte_58 (by decide) (fun z => ?_) (fun z => ?_)
  · replace w := w1 z
    clear w1 w2
    exact V.sub [] rfl (tX10_nextByte_b85 X  w)
  · replace w := w2 z
    clear w1 w2
    refine V_aloadr_n X dX10_nextByte_61 0 rfl ?_
    obtain ⟨fs, x3, hh, hv, w⟩ := w
    refine V_get X flX10_34 dX10_nextByte_62 hh hv ?_
    refine V_aloadr_n X dX10_nextByte_65 0 rfl ?_
    obtain ⟨fs, r4, hh, hv, w⟩ := w
    refine V_get X flX10_9 dX10_nextByte_66 hh hv ?_
    obtain ⟨a5, rfl, w⟩ := w
    obtain ⟨kt9, x9, hh, hk9, w⟩ := w
    refine V_alen X dX10_nextByte_69 hh hk9 ?_
    generalize Int32.ofNat _ = x6 at w ⊢
    obtain ⟨w1, w2⟩ := w
    refine V_icmp_ge (tgt := 85) X dX10_nextByte_70 (by decide) (fun z => ?_) (fun z => ?_)
    · replace w := w1 z
      clear w1 w2
      exact V.sub [] rfl (tX10_nextByte_b85 X  w)
    · replace w := w2 z
      clear w1 w2
      refine V_aloadr_n X dX10_nextByte_73 0 rfl ?_
      obtain ⟨fs, r7, hh, hv, w⟩ := w
      refine V_get X flX10_9 dX10_nextByte_74 hh hv ?_
      refine V_aloadr_n X dX10_nextByte_77 0 rfl ?_
      obtain ⟨fs, x8, hh, hv, w⟩ := w
      refine V_get X flX10_34 dX10_nextByte_78 hh hv ?_
      obtain ⟨a9, rfl, w⟩ := w
      obtain ⟨N9, g9, hh, hi, w⟩ := w
      refine V_iald X dX10_nextByte_81 hh hi ?_
      generalize g9 _ = x10 at w ⊢
      refine V_goto (tgt := 86) X dX10_nextByte_82 (by decide) ?_
      exact V.sub [] rfl (tX10_nextByte_b86 X  w)
def vX10_nextByte_b0_o (t0 : Nat) (k0 : gH → Nat → Prop) (Qn : Int32 → gH → Prop) (h : gH) (v0 : Nat) : Prop := gi h v0 13 3 (fun x1 => gi h v0 13 2 (fun x2 => ((x2 ≤ (x1 : Int32)) → (vX10_nextByte_b50 t0  Qn h v0)) ∧ ((¬ x2 ≤ (x1 : Int32)) → (gi h v0 13 3 (fun x3 => gr h v0 13 1 (fun r4 => nn r4 (fun a5 => al h a5 (fun x6 => ((x6 ≤ (x3 : Int32)) → (vX10_nextByte_b50 t0  Qn h v0)) ∧ ((¬ x6 ≤ (x3 : Int32)) → (gr h v0 13 1 (fun r7 => gi h v0 13 3 (fun x8 => nn r7 (fun a9 => li h a9 x8 (fun x10 => ((¬ (x10 : Int32) = 32) → (vX10_nextByte_b50 t0  Qn h v0)) ∧ (((x10 : Int32) = 32) → (gi h v0 13 3 (fun x11 => pv h v0 13 3 (.int (x11 + 1)) (fun h12 => k0 h12 v0))))))))))))))))))
set_option maxRecDepth 100000 in
set_option maxHeartbeats 4000000 in
theorem tX10_nextByte_b0_o {p : Program} {l : Launch} {e : Env} {s : State} {m : MethodId} {args : Array Value} {below : List Frame} {meth : Method} {c : Code} {G : gG} {A : Nat → Prop} {Qn : Int32 → gH → Prop} (X : gC p l s m args meth c G A cX10_nextByte 1 (some FieldType.int) RX10) {k0 : gH → Nat → Prop} (H0 : ∀ (h : gH) (v0 : Nat), k0 h v0 → V p l e rmX10_nextByte s m args below meth c (MQ below (va_Qi Qn (gB G A) A) args s rmX10_nextByte.cells rmX10_nextByte.slots A) G A 1 h 0 0 0 [(0, .ref v0)] []) {h : gH} {v0 : Nat} (w : vX10_nextByte_b0_o G.2.2.1 k0 Qn h v0) : V p l e rmX10_nextByte s m args below meth c (MQ below (va_Qi Qn (gB G A) A) args s rmX10_nextByte.cells rmX10_nextByte.slots A) G A 1 h 0 0 0 [(0, .ref v0)] [] := by
  refine V_aloadr_n X dX10_nextByte_0 0 rfl ?_
  obtain ⟨fs, x1, hh, hv, w⟩ := w
  refine V_get X flX10_34 dX10_nextByte_1 hh hv ?_
  refine V_aloadr_n X dX10_nextByte_4 0 rfl ?_
  obtain ⟨fs, x2, hh, hv, w⟩ := w
  refine V_get X flX10_69 dX10_nextByte_5 hh hv ?_
  obtain ⟨w1, w2⟩ := w
  refine V_icmp_ge (tgt := 50) X dX10_nextByte_8 (by decide) (fun z => ?_) (fun z => ?_)
  · replace w := w1 z
    clear w1 w2
    exact V.sub [0] rfl (tX10_nextByte_b50 X  w)
  · replace w := w2 z
    clear w1 w2
    refine V_aloadr_n X dX10_nextByte_11 0 rfl ?_
    obtain ⟨fs, x3, hh, hv, w⟩ := w
    refine V_get X flX10_34 dX10_nextByte_12 hh hv ?_
    refine V_aloadr_n X dX10_nextByte_15 0 rfl ?_
    obtain ⟨fs, r4, hh, hv, w⟩ := w
    refine V_get X flX10_9 dX10_nextByte_16 hh hv ?_
    obtain ⟨a5, rfl, w⟩ := w
    obtain ⟨kt9, x9, hh, hk9, w⟩ := w
    refine V_alen X dX10_nextByte_19 hh hk9 ?_
    generalize Int32.ofNat _ = x6 at w ⊢
    obtain ⟨w1, w2⟩ := w
    refine V_icmp_ge (tgt := 50) X dX10_nextByte_20 (by decide) (fun z => ?_) (fun z => ?_)
    · replace w := w1 z
      clear w1 w2
      exact V.sub [0] rfl (tX10_nextByte_b50 X  w)
    · replace w := w2 z
      clear w1 w2
      refine V_aloadr_n X dX10_nextByte_23 0 rfl ?_
      obtain ⟨fs, r7, hh, hv, w⟩ := w
      refine V_get X flX10_9 dX10_nextByte_24 hh hv ?_
      refine V_aloadr_n X dX10_nextByte_27 0 rfl ?_
      obtain ⟨fs, x8, hh, hv, w⟩ := w
      refine V_get X flX10_34 dX10_nextByte_28 hh hv ?_
      obtain ⟨a9, rfl, w⟩ := w
      obtain ⟨N9, g9, hh, hi, w⟩ := w
      refine V_iald X dX10_nextByte_31 hh hi ?_
      generalize g9 _ = x10 at w ⊢
      refine V_bipush (y := 32) X dX10_nextByte_32 (by decide) ?_
      obtain ⟨w1, w2⟩ := w
      refine V_icmp_ne (tgt := 50) X dX10_nextByte_34 (by decide) (fun z => ?_) (fun z => ?_)
      · replace w := w1 z
        clear w1 w2
        exact V.sub [0] rfl (tX10_nextByte_b50 X  w)
      · replace w := w2 z
        clear w1 w2
        refine V_aloadr_n X dX10_nextByte_37 0 rfl ?_
        refine V_dup X dX10_nextByte_38 rfl ?_
        obtain ⟨fs, x11, hh, hv, w⟩ := w
        refine V_get X flX10_34 dX10_nextByte_39 hh hv ?_
        refine V_iconst (y := 1) X dX10_nextByte_42 (by decide) ?_
        refine V_iadd X dX10_nextByte_43 ?_
        obtain ⟨fs, hh, hv, w⟩ := w
        refine V_put X flX10_34 dX10_nextByte_44 hh hv rfl rfl ?_
        generalize va_up _ _ _ = h12 at w ⊢
        refine V_goto (tgt := 0) X dX10_nextByte_47 (by decide) ?_
        exact V.sub [0] rfl (H0 _ _ w)
def vX10_nextByte_b0 (t0 : Nat)  (Qn : Int32 → gH → Prop) (n : Nat) : gH → Nat → Prop := Nat.rec (motive := fun _ => gH → Nat → Prop) (fun _ _ => False) (fun _ k0 => vX10_nextByte_b0_o t0 k0 Qn) n
theorem tX10_nextByte_b0 {p : Program} {l : Launch} {e : Env} {s : State} {m : MethodId} {args : Array Value} {below : List Frame} {meth : Method} {c : Code} {G : gG} {A : Nat → Prop} {Qn : Int32 → gH → Prop} (X : gC p l s m args meth c G A cX10_nextByte 1 (some FieldType.int) RX10)   : ∀ (n : Nat) (h : gH) (v0 : Nat) (w : vX10_nextByte_b0 G.2.2.1  Qn n h v0), V p l e rmX10_nextByte s m args below meth c (MQ below (va_Qi Qn (gB G A) A) args s rmX10_nextByte.cells rmX10_nextByte.slots A) G A 1 h 0 0 0 [(0, .ref v0)] [] := by
  intro n
  induction n with
  | zero => intro h v0 w; exact False.elim w
  | succ n ih => intro h v0 w; exact tX10_nextByte_b0_o X ih w
def vX10_nextByte (t0 : Nat)  (Qn : Int32 → gH → Prop) (h : gH) (v0 : Nat) : Prop := gi h v0 13 3 (fun x1 => gi h v0 13 2 (fun x2 => ((x2 ≤ (x1 : Int32)) → (vX10_nextByte_b50 t0  Qn h v0)) ∧ ((¬ x2 ≤ (x1 : Int32)) → (gi h v0 13 3 (fun x3 => gr h v0 13 1 (fun r4 => nn r4 (fun a5 => al h a5 (fun x6 => ((x6 ≤ (x3 : Int32)) → (vX10_nextByte_b50 t0  Qn h v0)) ∧ ((¬ x6 ≤ (x3 : Int32)) → (gr h v0 13 1 (fun r7 => gi h v0 13 3 (fun x8 => nn r7 (fun a9 => li h a9 x8 (fun x10 => ((¬ (x10 : Int32) = 32) → (vX10_nextByte_b50 t0  Qn h v0)) ∧ (((x10 : Int32) = 32) → (gi h v0 13 3 (fun x11 => pv h v0 13 3 (.int (x11 + 1)) (fun h12 => ∃ n : Nat, vX10_nextByte_b0 t0  Qn n h12 v0))))))))))))))))))
set_option maxRecDepth 100000 in
set_option maxHeartbeats 4000000 in
theorem tX10_nextByte {p : Program} {l : Launch} {e : Env} {s : State} {m : MethodId} {args : Array Value} {below : List Frame} {meth : Method} {c : Code} {G : gG} {A : Nat → Prop} {Qn : Int32 → gH → Prop} (X : gC p l s m args meth c G A cX10_nextByte 1 (some FieldType.int) RX10)   {h : gH} {v0 : Nat} (w : vX10_nextByte G.2.2.1  Qn h v0) : V p l e rmX10_nextByte s m args below meth c (MQ below (va_Qi Qn (gB G A) A) args s rmX10_nextByte.cells rmX10_nextByte.slots A) G A 1 h 0 0 0 [(0, .ref v0)] [] := by
  refine V_aloadr_n X dX10_nextByte_0 0 rfl ?_
  obtain ⟨fs, x1, hh, hv, w⟩ := w
  refine V_get X flX10_34 dX10_nextByte_1 hh hv ?_
  refine V_aloadr_n X dX10_nextByte_4 0 rfl ?_
  obtain ⟨fs, x2, hh, hv, w⟩ := w
  refine V_get X flX10_69 dX10_nextByte_5 hh hv ?_
  obtain ⟨w1, w2⟩ := w
  refine V_icmp_ge (tgt := 50) X dX10_nextByte_8 (by decide) (fun z => ?_) (fun z => ?_)
  · replace w := w1 z
    clear w1 w2
    exact V.sub [0] rfl (tX10_nextByte_b50 X  w)
  · replace w := w2 z
    clear w1 w2
    refine V_aloadr_n X dX10_nextByte_11 0 rfl ?_
    obtain ⟨fs, x3, hh, hv, w⟩ := w
    refine V_get X flX10_34 dX10_nextByte_12 hh hv ?_
    refine V_aloadr_n X dX10_nextByte_15 0 rfl ?_
    obtain ⟨fs, r4, hh, hv, w⟩ := w
    refine V_get X flX10_9 dX10_nextByte_16 hh hv ?_
    obtain ⟨a5, rfl, w⟩ := w
    obtain ⟨kt9, x9, hh, hk9, w⟩ := w
    refine V_alen X dX10_nextByte_19 hh hk9 ?_
    generalize Int32.ofNat _ = x6 at w ⊢
    obtain ⟨w1, w2⟩ := w
    refine V_icmp_ge (tgt := 50) X dX10_nextByte_20 (by decide) (fun z => ?_) (fun z => ?_)
    · replace w := w1 z
      clear w1 w2
      exact V.sub [0] rfl (tX10_nextByte_b50 X  w)
    · replace w := w2 z
      clear w1 w2
      refine V_aloadr_n X dX10_nextByte_23 0 rfl ?_
      obtain ⟨fs, r7, hh, hv, w⟩ := w
      refine V_get X flX10_9 dX10_nextByte_24 hh hv ?_
      refine V_aloadr_n X dX10_nextByte_27 0 rfl ?_
      obtain ⟨fs, x8, hh, hv, w⟩ := w
      refine V_get X flX10_34 dX10_nextByte_28 hh hv ?_
      obtain ⟨a9, rfl, w⟩ := w
      obtain ⟨N9, g9, hh, hi, w⟩ := w
      refine V_iald X dX10_nextByte_31 hh hi ?_
      generalize g9 _ = x10 at w ⊢
      refine V_bipush (y := 32) X dX10_nextByte_32 (by decide) ?_
      obtain ⟨w1, w2⟩ := w
      refine V_icmp_ne (tgt := 50) X dX10_nextByte_34 (by decide) (fun z => ?_) (fun z => ?_)
      · replace w := w1 z
        clear w1 w2
        exact V.sub [0] rfl (tX10_nextByte_b50 X  w)
      · replace w := w2 z
        clear w1 w2
        refine V_aloadr_n X dX10_nextByte_37 0 rfl ?_
        refine V_dup X dX10_nextByte_38 rfl ?_
        obtain ⟨fs, x11, hh, hv, w⟩ := w
        refine V_get X flX10_34 dX10_nextByte_39 hh hv ?_
        refine V_iconst (y := 1) X dX10_nextByte_42 (by decide) ?_
        refine V_iadd X dX10_nextByte_43 ?_
        obtain ⟨fs, hh, hv, w⟩ := w
        refine V_put X flX10_34 dX10_nextByte_44 hh hv rfl rfl ?_
        generalize va_up _ _ _ = h12 at w ⊢
        refine V_goto (tgt := 0) X dX10_nextByte_47 (by decide) ?_
        obtain ⟨n9, w⟩ := w
        exact V.sub [0] rfl (tX10_nextByte_b0 X  n9 _ _ w)
theorem cX10_nextByte_ok {l : Launch} {G : gG} {h : gH} (hls : l.stackTraces = false) {Qn : Int32 → gH → Prop} {v0 : Nat} (w : vX10_nextByte G.2.2.1 Qn h v0) : gMi l yX10_nextByte cX10_nextByte 1 (some FieldType.int) rmX10_nextByte rmX10_nextByte.cells rmX10_nextByte.slots G h [.ref v0] Qn := by
  exact gMi.of (by decide +kernel) hls (Nat.le_of_ble_eq_true rfl) rfl rfl (fun p e s m below meth c A X hnm => tX10_nextByte X w)
/-! AnimationController$TransitionText.stateOf(I)LAnimationController$State; -/
abbrev rmX10_stateOf : Room := { frames := 3, cells := 0, slots := 0, locals := 64 }
def vX10_stateOf_b41 (t0 : Nat)  (Qn : Option Nat → gH → Prop) (h : gH) (s0 : Option Nat) : Prop := Qn s0 h
set_option maxRecDepth 100000 in
set_option maxHeartbeats 4000000 in
theorem tX10_stateOf_b41 {p : Program} {l : Launch} {e : Env} {s : State} {m : MethodId} {args : Array Value} {below : List Frame} {meth : Method} {c : Code} {G : gG} {A : Nat → Prop} {Qn : Option Nat → gH → Prop} (X : gC p l s m args meth c G A cX10_stateOf 3 (some (FieldType.object "AnimationController$State")) RX10)   {h : gH} {s0 : Option Nat} (w : vX10_stateOf_b41 G.2.2.1  Qn h s0) : V p l e rmX10_stateOf s m args below meth c (MQ below (va_Qq Qn (gB G A) A) args s rmX10_stateOf.cells rmX10_stateOf.slots A) G A 3 h 0 0 41 [] [va_rf s0] := by
  exact V_aret (x := s0) X rfl (Or.inl ⟨_, rfl⟩) dX10_stateOf_41 (Nat.le_of_ble_eq_true rfl) (Nat.le_of_ble_eq_true rfl) w
def vX10_stateOf_b40 (t0 : Nat)  (Qn : Option Nat → gH → Prop) (h : gH)  : Prop := vX10_stateOf_b41 t0  Qn h (none : Option Nat)
set_option maxRecDepth 100000 in
set_option maxHeartbeats 4000000 in
theorem tX10_stateOf_b40 {p : Program} {l : Launch} {e : Env} {s : State} {m : MethodId} {args : Array Value} {below : List Frame} {meth : Method} {c : Code} {G : gG} {A : Nat → Prop} {Qn : Option Nat → gH → Prop} (X : gC p l s m args meth c G A cX10_stateOf 3 (some (FieldType.object "AnimationController$State")) RX10)   {h : gH}  (w : vX10_stateOf_b40 G.2.2.1  Qn h ) : V p l e rmX10_stateOf s m args below meth c (MQ below (va_Qq Qn (gB G A) A) args s rmX10_stateOf.cells rmX10_stateOf.slots A) G A 3 h 0 0 40 [] [] := by
  refine V_null X dX10_stateOf_40 ?_
  exact V.sub [] rfl (tX10_stateOf_b41 X  w)
def vX10_stateOf (t0 : Nat)  (Qn : Option Nat → gH → Prop) (h : gH) (v0 : Nat) (v1 : Int32) : Prop := ((((v1 - 65) : Int32) < 0) → (vX10_stateOf_b40 t0  Qn h )) ∧ ((¬ ((v1 - 65) : Int32) < 0) → (gr h v0 13 0 (fun r1 => nn r1 (fun a2 => gr h a2 7 4 (fun r3 => nn r3 (fun a4 => io h a4 2 (vJx4a65c_size_8abf5 t0 (fun x6 h5 => ((x6 ≤ ((v1 - 65) : Int32)) → (vX10_stateOf_b40 t0  Qn h5 )) ∧ ((¬ x6 ≤ ((v1 - 65) : Int32)) → (gr h5 v0 13 0 (fun r7 => nn r7 (fun a8 => gr h5 a8 7 4 (fun r9 => nn r9 (fun a10 => io h5 a10 2 (vJx4a65c_get_915e3 t0 (fun r12 h11 => nn r12 (fun a13 => io h11 a13 10 (vX10_stateOf_b41 t0  Qn h11 (some a13)))) h5 a10 (v1 - 65))))))))) h a4 )))))))
set_option maxRecDepth 100000 in
set_option maxHeartbeats 4000000 in
theorem tX10_stateOf {p : Program} {l : Launch} {e : Env} {s : State} {m : MethodId} {args : Array Value} {below : List Frame} {meth : Method} {c : Code} {G : gG} {A : Nat → Prop} {Qn : Option Nat → gH → Prop} (X : gC p l s m args meth c G A cX10_stateOf 3 (some (FieldType.object "AnimationController$State")) RX10)   {h : gH} {v0 : Nat} {v1 : Int32} (w : vX10_stateOf G.2.2.1  Qn h v0 v1) : V p l e rmX10_stateOf s m args below meth c (MQ below (va_Qq Qn (gB G A) A) args s rmX10_stateOf.cells rmX10_stateOf.slots A) G A 3 h 0 0 0 [(0, .ref v0), (1, .int v1)] [] := by
  refine V_iload_n X dX10_stateOf_0 1 rfl ?_
  refine V_bipush (y := 65) X dX10_stateOf_1 (by decide) ?_
  refine V_isub X dX10_stateOf_3 ?_
  refine V_istore_n (i0 := 2) X dX10_stateOf_4 rfl (by decide) rfl ?_
  refine V_iload_n X dX10_stateOf_5 0 rfl ?_
  obtain ⟨w1, w2⟩ := w
  refine V_if_lt (tgt := 40) X dX10_stateOf_6 (by decide) (fun z => ?_) (fun z => ?_)
  · replace w := w1 z
    clear w1 w2
    exact V.sub [] rfl (tX10_stateOf_b40 X  w)
  · replace w := w2 z
    clear w1 w2
    refine V_iload_n X dX10_stateOf_9 0 rfl ?_
    refine V_aloadr_n X dX10_stateOf_10 1 rfl ?_
    obtain ⟨fs, r1, hh, hv, w⟩ := w
    refine V_get X flX10_15 dX10_stateOf_11 hh hv ?_
    obtain ⟨a2, rfl, w⟩ := w
    obtain ⟨fs, r3, hh, hv, w⟩ := w
    refine V_get3 X frX10_132 dX10_stateOf_14 hh hv ?_
    obtain ⟨a4, rfl, w⟩ := w
    obtain ⟨fs, hh, w⟩ := w
    refine V_callVi (As := []) (rest := [.int (v1 - 65)]) (k1 := 0) (n1 := 0) X (cJx4a65c_size_8abf5_ok X.2.2.2.2.2.2.2.2.1 w) lkX10_42 hh (q9 := (RJx4a65c, TJx4a65c, 3)) rfl rfl dX10_stateOf_17 ⟨Nat.le_of_ble_eq_true rfl, Nat.le_of_ble_eq_true rfl⟩ rfl (Nat.le_of_ble_eq_true rfl) ⟨Nat.le_of_ble_eq_true rfl, Nat.le_of_ble_eq_true rfl⟩ (Nat.le_of_ble_eq_true rfl) (Nat.le_of_ble_eq_true rfl) (fun x6 h5 w9 => ?_)
    replace w := w9
    clear w9
    obtain ⟨w1, w2⟩ := w
    refine V_icmp_ge (tgt := 40) X dX10_stateOf_20 (by decide) (fun z => ?_) (fun z => ?_)
    · replace w := w1 z
      clear w1 w2
      exact V.sub [] rfl (tX10_stateOf_b40 X  w)
    · replace w := w2 z
      clear w1 w2
      refine V_aloadr_n X dX10_stateOf_23 1 rfl ?_
      obtain ⟨fs, r7, hh, hv, w⟩ := w
      refine V_get X flX10_15 dX10_stateOf_24 hh hv ?_
      obtain ⟨a8, rfl, w⟩ := w
      obtain ⟨fs, r9, hh, hv, w⟩ := w
      refine V_get3 X frX10_132 dX10_stateOf_27 hh hv ?_
      refine V_iload_n X dX10_stateOf_30 0 rfl ?_
      obtain ⟨a10, rfl, w⟩ := w
      obtain ⟨fs, hh, w⟩ := w
      refine V_callVq (As := [.int (v1 - 65)]) (rest := []) (k1 := 0) (n1 := 0) X (cJx4a65c_get_915e3_ok X.2.2.2.2.2.2.2.2.1 w) lkX10_135 hh (q9 := (RJx4a65c, TJx4a65c, 3)) rfl rfl dX10_stateOf_31 ⟨Nat.le_of_ble_eq_true rfl, Nat.le_of_ble_eq_true rfl⟩ rfl (Nat.le_of_ble_eq_true rfl) ⟨Nat.le_of_ble_eq_true rfl, Nat.le_of_ble_eq_true rfl⟩ (Nat.le_of_ble_eq_true rfl) (Nat.le_of_ble_eq_true rfl) (fun r12 h11 w9 => ?_)
      replace w := w9
      clear w9
      obtain ⟨a13, rfl, w⟩ := w
      obtain ⟨fs, hh, w⟩ := w
      refine V_cast (q9 := (RX7, TX7, 5)) X kw_499 rfl rfl hh dX10_stateOf_34 ?_
      refine V_goto (tgt := 41) X dX10_stateOf_37 (by decide) ?_
      exact V.sub [] rfl (tX10_stateOf_b41 X  w)
theorem cX10_stateOf_ok {l : Launch} {G : gG} {h : gH} (hls : l.stackTraces = false) {Qn : Option Nat → gH → Prop} {v0 : Nat} {v1 : Int32} (w : vX10_stateOf G.2.2.1 Qn h v0 v1) : gMq l yX10_stateOf cX10_stateOf 3 (some (FieldType.object "AnimationController$State")) rmX10_stateOf rmX10_stateOf.cells rmX10_stateOf.slots G h [.ref v0, .int v1] Qn := by
  exact gMq.of (by decide +kernel) hls (Nat.le_of_ble_eq_true rfl) rfl rfl (fun p e s m below meth c A X hnm => tX10_stateOf X w)
/-! AnimationController$TransitionText.readSign(I)Z -/
abbrev rmX10_readSign : Room := { frames := 1, cells := 0, slots := 0, locals := 20 }
def vX10_readSign (t0 : Nat)  (Qn : Int32 → gH → Prop) (h : gH) (v0 : Nat) (v1 : Int32) : Prop := io h v0 13 (vX10_nextByte t0 (fun x2 h1 => (((x2 : Int32) = v1) → (gi h1 v0 13 3 (fun x3 => pv h1 v0 13 3 (.int (x3 + 1)) (fun h4 => Qn 1 h4)))) ∧ ((¬ (x2 : Int32) = v1) → (Qn 0 h1))) h v0 )
set_option maxRecDepth 100000 in
set_option maxHeartbeats 4000000 in
theorem tX10_readSign {p : Program} {l : Launch} {e : Env} {s : State} {m : MethodId} {args : Array Value} {below : List Frame} {meth : Method} {c : Code} {G : gG} {A : Nat → Prop} {Qn : Int32 → gH → Prop} (X : gC p l s m args meth c G A cX10_readSign 2 (some FieldType.boolean) RX10)   {h : gH} {v0 : Nat} {v1 : Int32} (w : vX10_readSign G.2.2.1  Qn h v0 v1) : V p l e rmX10_readSign s m args below meth c (MQ below (va_Qi Qn (gB G A) A) args s rmX10_readSign.cells rmX10_readSign.slots A) G A 2 h 0 0 0 [(0, .ref v0), (1, .int v1)] [] := by
  refine V_aloadr_n X dX10_readSign_0 0 rfl ?_
  obtain ⟨fs, hh, w⟩ := w
  refine V_callVi (As := []) (rest := []) (k1 := 0) (n1 := 0) X (cX10_nextByte_ok X.2.2.2.2.2.2.2.2.1 w) lkX10_55 hh (q9 := (RX10, TX10, 5)) rfl rfl dX10_readSign_1 ⟨Nat.le_of_ble_eq_true rfl, Nat.le_of_ble_eq_true rfl⟩ rfl (Nat.le_of_ble_eq_true rfl) ⟨Nat.le_of_ble_eq_true rfl, Nat.le_of_ble_eq_true rfl⟩ (Nat.le_of_ble_eq_true rfl) (Nat.le_of_ble_eq_true rfl) (fun x2 h1 w9 => ?_)
  replace w := w9
  clear w9
  refine V_iload_n X dX10_readSign_4 1 rfl ?_
  obtain ⟨w1, w2⟩ := w
  refine V_icmp_eq (tgt := 10) X dX10_readSign_5 (by decide) (fun z => ?_) (fun z => ?_)
  · replace w := w1 z
    clear w1 w2
    refine V_aloadr_n X dX10_readSign_10 0 rfl ?_
    refine V_dup X dX10_readSign_11 rfl ?_
    obtain ⟨fs, x3, hh, hv, w⟩ := w
    refine V_get X flX10_34 dX10_readSign_12 hh hv ?_
    refine V_iconst (y := 1) X dX10_readSign_15 (by decide) ?_
    refine V_iadd X dX10_readSign_16 ?_
    obtain ⟨fs, hh, hv, w⟩ := w
    refine V_put X flX10_34 dX10_readSign_17 hh hv rfl rfl ?_
    generalize va_up _ _ _ = h4 at w ⊢
    refine V_iconst (y := 1) X dX10_readSign_20 (by decide) ?_
    exact V_zret X rfl rfl dX10_readSign_21 (Nat.le_of_ble_eq_true rfl) (Nat.le_of_ble_eq_true rfl) w
  · replace w := w2 z
    clear w1 w2
    refine V_iconst (y := 0) X dX10_readSign_8 (by decide) ?_
    exact V_zret X rfl rfl dX10_readSign_9 (Nat.le_of_ble_eq_true rfl) (Nat.le_of_ble_eq_true rfl) w
theorem cX10_readSign_ok {l : Launch} {G : gG} {h : gH} (hls : l.stackTraces = false) {Qn : Int32 → gH → Prop} {v0 : Nat} {v1 : Int32} (w : vX10_readSign G.2.2.1 Qn h v0 v1) : gMi l yX10_readSign cX10_readSign 2 (some FieldType.boolean) rmX10_readSign rmX10_readSign.cells rmX10_readSign.slots G h [.ref v0, .int v1] Qn := by
  exact gMi.of (by decide +kernel) hls (Nat.le_of_ble_eq_true rfl) rfl rfl (fun p e s m below meth c A X hnm => tX10_readSign X w)
/-! AnimationController$TransitionText.readNumber(I)I -/
abbrev rmX10_readNumber : Room := { frames := 1, cells := 0, slots := 0, locals := 20 }
def vX10_readNumber_b129 (t0 : Nat)  (Qn : Int32 → gH → Prop) (h : gH) (v0 : Nat) (v2 : Int32) : Prop := pv h v0 13 3 (.int v2) (fun h1 => Qn (-1) h1)
set_option maxRecDepth 100000 in
set_option maxHeartbeats 4000000 in
theorem tX10_readNumber_b129 {p : Program} {l : Launch} {e : Env} {s : State} {m : MethodId} {args : Array Value} {below : List Frame} {meth : Method} {c : Code} {G : gG} {A : Nat → Prop} {Qn : Int32 → gH → Prop} (X : gC p l s m args meth c G A cX10_readNumber 5 (some FieldType.int) RX10)   {h : gH} {v0 : Nat} {v2 : Int32} (w : vX10_readNumber_b129 G.2.2.1  Qn h v0 v2) : V p l e rmX10_readNumber s m args below meth c (MQ below (va_Qi Qn (gB G A) A) args s rmX10_readNumber.cells rmX10_readNumber.slots A) G A 5 h 0 0 129 [(0, .ref v0), (2, .int v2)] [] := by
  refine V_aloadr_n X dX10_readNumber_129 0 rfl ?_
  refine V_iload_n X dX10_readNumber_130 1 rfl ?_
  obtain ⟨fs, hh, hv, w⟩ := w
  refine V_put X flX10_34 dX10_readNumber_131 hh hv rfl rfl ?_
  generalize va_up _ _ _ = h1 at w ⊢
  refine V_iconst (y := (-1)) X dX10_readNumber_134 (by decide) ?_
  exact V_iret X rfl dX10_readNumber_135 (Nat.le_of_ble_eq_true rfl) (Nat.le_of_ble_eq_true rfl) w
def vX10_readNumber_b104 (t0 : Nat)  (Qn : Int32 → gH → Prop) (h : gH) (v0 : Nat) (v1 : Int32) (v2 : Int32) (v3 : Int32) : Prop := gi h v0 13 3 (fun x1 => ((((x1 - v2) : Int32) < 1) → (vX10_readNumber_b129 t0  Qn h v0 v2)) ∧ ((¬ ((x1 - v2) : Int32) < 1) → (((3 < ((x1 - v2) : Int32)) → (vX10_readNumber_b129 t0  Qn h v0 v2)) ∧ ((¬ 3 < ((x1 - v2) : Int32)) → ((((v3 : Int32) ≤ v1) → (Qn v3 h)) ∧ ((¬ (v3 : Int32) ≤ v1) → (vX10_readNumber_b129 t0  Qn h v0 v2)))))))
set_option maxRecDepth 100000 in
set_option maxHeartbeats 4000000 in
theorem tX10_readNumber_b104 {p : Program} {l : Launch} {e : Env} {s : State} {m : MethodId} {args : Array Value} {below : List Frame} {meth : Method} {c : Code} {G : gG} {A : Nat → Prop} {Qn : Int32 → gH → Prop} (X : gC p l s m args meth c G A cX10_readNumber 5 (some FieldType.int) RX10)   {h : gH} {v0 : Nat} {v1 : Int32} {v2 : Int32} {v3 : Int32} (w : vX10_readNumber_b104 G.2.2.1  Qn h v0 v1 v2 v3) : V p l e rmX10_readNumber s m args below meth c (MQ below (va_Qi Qn (gB G A) A) args s rmX10_readNumber.cells rmX10_readNumber.slots A) G A 5 h 0 0 104 [(0, .ref v0), (1, .int v1), (2, .int v2), (3, .int v3)] [] := by
  refine V_aloadr_n X dX10_readNumber_104 0 rfl ?_
  obtain ⟨fs, x1, hh, hv, w⟩ := w
  refine V_get X flX10_34 dX10_readNumber_105 hh hv ?_
  refine V_iload_n X dX10_readNumber_108 2 rfl ?_
  refine V_isub X dX10_readNumber_109 ?_
  refine V_istore X dX10_readNumber_110 (by decide) rfl ?_
  refine V_iload X dX10_readNumber_112 0 rfl ?_
  refine V_iconst (y := 1) X dX10_readNumber_114 (by decide) ?_
  obtain ⟨w1, w2⟩ := w
  refine V_icmp_lt (tgt := 129) X dX10_readNumber_115 (by decide) (fun z => ?_) (fun z => ?_)
  · replace w := w1 z
    clear w1 w2
    exact V.sub [1, 3] rfl (tX10_readNumber_b129 X  w)
  · replace w := w2 z
    clear w1 w2
    refine V_iload X dX10_readNumber_118 0 rfl ?_
    refine V_iconst (y := 3) X dX10_readNumber_120 (by decide) ?_
    obtain ⟨w1, w2⟩ := w
    refine V_icmp_gt (tgt := 129) X dX10_readNumber_121 (by decide) (fun z => ?_) (fun z => ?_)
    · replace w := w1 z
      clear w1 w2
      exact V.sub [1, 3] rfl (tX10_readNumber_b129 X  w)
    · replace w := w2 z
      clear w1 w2
      refine V_iload_n X dX10_readNumber_124 4 rfl ?_
      refine V_iload_n X dX10_readNumber_125 2 rfl ?_
      obtain ⟨w1, w2⟩ := w
      refine V_icmp_le (tgt := 136) X dX10_readNumber_126 (by decide) (fun z => ?_) (fun z => ?_)
      · replace w := w1 z
        clear w1 w2
        refine V_iload_n X dX10_readNumber_136 4 rfl ?_
        exact V_iret X rfl dX10_readNumber_137 (Nat.le_of_ble_eq_true rfl) (Nat.le_of_ble_eq_true rfl) w
      · replace w := w2 z
        clear w1 w2
        exact V.sub [1, 3] rfl (tX10_readNumber_b129 X  w)
def vX10_readNumber_b91 (t0 : Nat) (k12 : gH → Nat → Int32 → Int32 → Int32 → Prop) (Qn : Int32 → gH → Prop) (h : gH) (v0 : Nat) (v1 : Int32) (v2 : Int32) (v3 : Int32) : Prop := gi h v0 13 3 (fun x1 => pv h v0 13 3 (.int (x1 + 1)) (fun h2 => k12 h2 v0 v1 v2 v3))
set_option maxRecDepth 100000 in
set_option maxHeartbeats 4000000 in
theorem tX10_readNumber_b91 {p : Program} {l : Launch} {e : Env} {s : State} {m : MethodId} {args : Array Value} {below : List Frame} {meth : Method} {c : Code} {G : gG} {A : Nat → Prop} {Qn : Int32 → gH → Prop} (X : gC p l s m args meth c G A cX10_readNumber 5 (some FieldType.int) RX10) {k12 : gH → Nat → Int32 → Int32 → Int32 → Prop} (H12 : ∀ (h : gH) (v0 : Nat) (v1 : Int32) (v2 : Int32) (v3 : Int32), k12 h v0 v1 v2 v3 → V p l e rmX10_readNumber s m args below meth c (MQ below (va_Qi Qn (gB G A) A) args s rmX10_readNumber.cells rmX10_readNumber.slots A) G A 5 h 0 0 12 [(0, .ref v0), (1, .int v1), (2, .int v2), (3, .int v3)] []) {h : gH} {v0 : Nat} {v1 : Int32} {v2 : Int32} {v3 : Int32} (w : vX10_readNumber_b91 G.2.2.1 k12 Qn h v0 v1 v2 v3) : V p l e rmX10_readNumber s m args below meth c (MQ below (va_Qi Qn (gB G A) A) args s rmX10_readNumber.cells rmX10_readNumber.slots A) G A 5 h 0 0 91 [(0, .ref v0), (1, .int v1), (2, .int v2), (3, .int v3)] [] := by
  refine V_aloadr_n X dX10_readNumber_91 0 rfl ?_
  refine V_dup X dX10_readNumber_92 rfl ?_
  obtain ⟨fs, x1, hh, hv, w⟩ := w
  refine V_get X flX10_34 dX10_readNumber_93 hh hv ?_
  refine V_iconst (y := 1) X dX10_readNumber_96 (by decide) ?_
  refine V_iadd X dX10_readNumber_97 ?_
  obtain ⟨fs, hh, hv, w⟩ := w
  refine V_put X flX10_34 dX10_readNumber_98 hh hv rfl rfl ?_
  generalize va_up _ _ _ = h2 at w ⊢
  refine V_goto (tgt := 12) X dX10_readNumber_101 (by decide) ?_
  exact V.sub [0, 1, 2, 3] rfl (H12 _ _ _ _ _ w)
def vX10_readNumber_b12_o (t0 : Nat) (k12 : gH → Nat → Int32 → Int32 → Int32 → Prop) (Qn : Int32 → gH → Prop) (h : gH) (v0 : Nat) (v1 : Int32) (v2 : Int32) (v3 : Int32) : Prop := gi h v0 13 3 (fun x1 => gi h v0 13 2 (fun x2 => ((x2 ≤ (x1 : Int32)) → (vX10_readNumber_b104 t0  Qn h v0 v1 v2 v3)) ∧ ((¬ x2 ≤ (x1 : Int32)) → (gi h v0 13 3 (fun x3 => gr h v0 13 1 (fun r4 => nn r4 (fun a5 => al h a5 (fun x6 => ((x6 ≤ (x3 : Int32)) → (vX10_readNumber_b104 t0  Qn h v0 v1 v2 v3)) ∧ ((¬ x6 ≤ (x3 : Int32)) → (gr h v0 13 1 (fun r7 => gi h v0 13 3 (fun x8 => nn r7 (fun a9 => li h a9 x8 (fun x10 => (((x10 : Int32) < 48) → (vX10_readNumber_b104 t0  Qn h v0 v1 v2 v3)) ∧ ((¬ (x10 : Int32) < 48) → (gr h v0 13 1 (fun r11 => gi h v0 13 3 (fun x12 => nn r11 (fun a13 => li h a13 x12 (fun x14 => ((57 < (x14 : Int32)) → (vX10_readNumber_b104 t0  Qn h v0 v1 v2 v3)) ∧ ((¬ 57 < (x14 : Int32)) → (gi h v0 13 3 (fun x15 => ((3 ≤ ((x15 - v2) : Int32)) → (vX10_readNumber_b91 t0 k12 Qn h v0 v1 v2 v3)) ∧ ((¬ 3 ≤ ((x15 - v2) : Int32)) → (gr h v0 13 1 (fun r16 => gi h v0 13 3 (fun x17 => nn r16 (fun a18 => li h a18 x17 (fun x19 => vX10_readNumber_b91 t0 k12 Qn h v0 v1 v2 (((v3 * 10) + x19) - 48))))))))))))))))))))))))))))))
set_option maxRecDepth 100000 in
set_option maxHeartbeats 4000000 in
theorem tX10_readNumber_b12_o {p : Program} {l : Launch} {e : Env} {s : State} {m : MethodId} {args : Array Value} {below : List Frame} {meth : Method} {c : Code} {G : gG} {A : Nat → Prop} {Qn : Int32 → gH → Prop} (X : gC p l s m args meth c G A cX10_readNumber 5 (some FieldType.int) RX10) {k12 : gH → Nat → Int32 → Int32 → Int32 → Prop} (H12 : ∀ (h : gH) (v0 : Nat) (v1 : Int32) (v2 : Int32) (v3 : Int32), k12 h v0 v1 v2 v3 → V p l e rmX10_readNumber s m args below meth c (MQ below (va_Qi Qn (gB G A) A) args s rmX10_readNumber.cells rmX10_readNumber.slots A) G A 5 h 0 0 12 [(0, .ref v0), (1, .int v1), (2, .int v2), (3, .int v3)] []) {h : gH} {v0 : Nat} {v1 : Int32} {v2 : Int32} {v3 : Int32} (w : vX10_readNumber_b12_o G.2.2.1 k12 Qn h v0 v1 v2 v3) : V p l e rmX10_readNumber s m args below meth c (MQ below (va_Qi Qn (gB G A) A) args s rmX10_readNumber.cells rmX10_readNumber.slots A) G A 5 h 0 0 12 [(0, .ref v0), (1, .int v1), (2, .int v2), (3, .int v3)] [] := by
  refine V_aloadr_n X dX10_readNumber_12 0 rfl ?_
  obtain ⟨fs, x1, hh, hv, w⟩ := w
  refine V_get X flX10_34 dX10_readNumber_13 hh hv ?_
  refine V_aloadr_n X dX10_readNumber_16 0 rfl ?_
  obtain ⟨fs, x2, hh, hv, w⟩ := w
  refine V_get X flX10_69 dX10_readNumber_17 hh hv ?_
  obtain ⟨w1, w2⟩ := w
  refine V_icmp_ge (tgt := 104) X dX10_readNumber_20 (by decide) (fun z => ?_) (fun z => ?_)
  · replace w := w1 z
    clear w1 w2
    exact V.sub [0, 1, 2, 3] rfl (tX10_readNumber_b104 X  w)
  · replace w := w2 z
    clear w1 w2
    refine V_aloadr_n X dX10_readNumber_23 0 rfl ?_
    obtain ⟨fs, x3, hh, hv, w⟩ := w
    refine V_get X flX10_34 dX10_readNumber_24 hh hv ?_
    refine V_aloadr_n X dX10_readNumber_27 0 rfl ?_
    obtain ⟨fs, r4, hh, hv, w⟩ := w
    refine V_get X flX10_9 dX10_readNumber_28 hh hv ?_
    obtain ⟨a5, rfl, w⟩ := w
    obtain ⟨kt9, x9, hh, hk9, w⟩ := w
    refine V_alen X dX10_readNumber_31 hh hk9 ?_
    generalize Int32.ofNat _ = x6 at w ⊢
    obtain ⟨w1, w2⟩ := w
    refine V_icmp_ge (tgt := 104) X dX10_readNumber_32 (by decide) (fun z => ?_) (fun z => ?_)
    · replace w := w1 z
      clear w1 w2
      exact V.sub [0, 1, 2, 3] rfl (tX10_readNumber_b104 X  w)
    · replace w := w2 z
      clear w1 w2
      refine V_aloadr_n X dX10_readNumber_35 0 rfl ?_
      obtain ⟨fs, r7, hh, hv, w⟩ := w
      refine V_get X flX10_9 dX10_readNumber_36 hh hv ?_
      refine V_aloadr_n X dX10_readNumber_39 0 rfl ?_
      obtain ⟨fs, x8, hh, hv, w⟩ := w
      refine V_get X flX10_34 dX10_readNumber_40 hh hv ?_
      obtain ⟨a9, rfl, w⟩ := w
      obtain ⟨N9, g9, hh, hi, w⟩ := w
      refine V_iald X dX10_readNumber_43 hh hi ?_
      generalize g9 _ = x10 at w ⊢
      refine V_bipush (y := 48) X dX10_readNumber_44 (by decide) ?_
      obtain ⟨w1, w2⟩ := w
      refine V_icmp_lt (tgt := 104) X dX10_readNumber_46 (by decide) (fun z => ?_) (fun z => ?_)
      · replace w := w1 z
        clear w1 w2
        exact V.sub [0, 1, 2, 3] rfl (tX10_readNumber_b104 X  w)
      · replace w := w2 z
        clear w1 w2
        refine V_aloadr_n X dX10_readNumber_49 0 rfl ?_
        obtain ⟨fs, r11, hh, hv, w⟩ := w
        refine V_get X flX10_9 dX10_readNumber_50 hh hv ?_
        refine V_aloadr_n X dX10_readNumber_53 0 rfl ?_
        obtain ⟨fs, x12, hh, hv, w⟩ := w
        refine V_get X flX10_34 dX10_readNumber_54 hh hv ?_
        obtain ⟨a13, rfl, w⟩ := w
        obtain ⟨N9, g9, hh, hi, w⟩ := w
        refine V_iald X dX10_readNumber_57 hh hi ?_
        generalize g9 _ = x14 at w ⊢
        refine V_bipush (y := 57) X dX10_readNumber_58 (by decide) ?_
        obtain ⟨w1, w2⟩ := w
        refine V_icmp_gt (tgt := 104) X dX10_readNumber_60 (by decide) (fun z => ?_) (fun z => ?_)
        · replace w := w1 z
          clear w1 w2
          exact V.sub [0, 1, 2, 3] rfl (tX10_readNumber_b104 X  w)
        · replace w := w2 z
          clear w1 w2
          refine V_aloadr_n X dX10_readNumber_63 0 rfl ?_
          obtain ⟨fs, x15, hh, hv, w⟩ := w
          refine V_get X flX10_34 dX10_readNumber_64 hh hv ?_
          refine V_iload_n X dX10_readNumber_67 2 rfl ?_
          refine V_isub X dX10_readNumber_68 ?_
          refine V_iconst (y := 3) X dX10_readNumber_69 (by decide) ?_
          obtain ⟨w1, w2⟩ := w
          refine V_icmp_ge (tgt := 91) X dX10_readNumber_70 (by decide) (fun z => ?_) (fun z => ?_)
          · replace w := w1 z
            clear w1 w2
            exact V.sub [0, 1, 2, 3] rfl (tX10_readNumber_b91 X H12 w)
          · replace w := w2 z
            clear w1 w2
            refine V_iload_n X dX10_readNumber_73 3 rfl ?_
            refine V_bipush (y := 10) X dX10_readNumber_74 (by decide) ?_
            refine V_imul X dX10_readNumber_76 ?_
            refine V_aloadr_n X dX10_readNumber_77 0 rfl ?_
            obtain ⟨fs, r16, hh, hv, w⟩ := w
            refine V_get X flX10_9 dX10_readNumber_78 hh hv ?_
            refine V_aloadr_n X dX10_readNumber_81 0 rfl ?_
            obtain ⟨fs, x17, hh, hv, w⟩ := w
            refine V_get X flX10_34 dX10_readNumber_82 hh hv ?_
            obtain ⟨a18, rfl, w⟩ := w
            obtain ⟨N9, g9, hh, hi, w⟩ := w
            refine V_iald X dX10_readNumber_85 hh hi ?_
            generalize g9 _ = x19 at w ⊢
            refine V_iadd X dX10_readNumber_86 ?_
            refine V_bipush (y := 48) X dX10_readNumber_87 (by decide) ?_
            refine V_isub X dX10_readNumber_89 ?_
            refine V_istore_n (i0 := 3) X dX10_readNumber_90 rfl (by decide) rfl ?_
            exact V.sub [1, 2, 3, 0] rfl (tX10_readNumber_b91 X H12 w)
def vX10_readNumber_b12 (t0 : Nat)  (Qn : Int32 → gH → Prop) (n : Nat) : gH → Nat → Int32 → Int32 → Int32 → Prop := Nat.rec (motive := fun _ => gH → Nat → Int32 → Int32 → Int32 → Prop) (fun _ _ _ _ _ => False) (fun _ k12 => vX10_readNumber_b12_o t0 k12 Qn) n
theorem tX10_readNumber_b12 {p : Program} {l : Launch} {e : Env} {s : State} {m : MethodId} {args : Array Value} {below : List Frame} {meth : Method} {c : Code} {G : gG} {A : Nat → Prop} {Qn : Int32 → gH → Prop} (X : gC p l s m args meth c G A cX10_readNumber 5 (some FieldType.int) RX10)   : ∀ (n : Nat) (h : gH) (v0 : Nat) (v1 : Int32) (v2 : Int32) (v3 : Int32) (w : vX10_readNumber_b12 G.2.2.1  Qn n h v0 v1 v2 v3), V p l e rmX10_readNumber s m args below meth c (MQ below (va_Qi Qn (gB G A) A) args s rmX10_readNumber.cells rmX10_readNumber.slots A) G A 5 h 0 0 12 [(0, .ref v0), (1, .int v1), (2, .int v2), (3, .int v3)] [] := by
  intro n
  induction n with
  | zero => intro h v0 v1 v2 v3 w; exact False.elim w
  | succ n ih => intro h v0 v1 v2 v3 w; exact tX10_readNumber_b12_o X ih w
def vX10_readNumber (t0 : Nat)  (Qn : Int32 → gH → Prop) (h : gH) (v0 : Nat) (v1 : Int32) : Prop := io h v0 13 (vX10_nextByte t0 (fun x2 h1 => gi h1 v0 13 3 (fun x3 => ∃ n : Nat, vX10_readNumber_b12 t0  Qn n h1 v0 v1 x3 0)) h v0 )
set_option maxRecDepth 100000 in
set_option maxHeartbeats 4000000 in
theorem tX10_readNumber {p : Program} {l : Launch} {e : Env} {s : State} {m : MethodId} {args : Array Value} {below : List Frame} {meth : Method} {c : Code} {G : gG} {A : Nat → Prop} {Qn : Int32 → gH → Prop} (X : gC p l s m args meth c G A cX10_readNumber 5 (some FieldType.int) RX10)   {h : gH} {v0 : Nat} {v1 : Int32} (w : vX10_readNumber G.2.2.1  Qn h v0 v1) : V p l e rmX10_readNumber s m args below meth c (MQ below (va_Qi Qn (gB G A) A) args s rmX10_readNumber.cells rmX10_readNumber.slots A) G A 5 h 0 0 0 [(0, .ref v0), (1, .int v1)] [] := by
  refine V_aloadr_n X dX10_readNumber_0 0 rfl ?_
  obtain ⟨fs, hh, w⟩ := w
  refine V_callVi (As := []) (rest := []) (k1 := 0) (n1 := 0) X (cX10_nextByte_ok X.2.2.2.2.2.2.2.2.1 w) lkX10_55 hh (q9 := (RX10, TX10, 5)) rfl rfl dX10_readNumber_1 ⟨Nat.le_of_ble_eq_true rfl, Nat.le_of_ble_eq_true rfl⟩ rfl (Nat.le_of_ble_eq_true rfl) ⟨Nat.le_of_ble_eq_true rfl, Nat.le_of_ble_eq_true rfl⟩ (Nat.le_of_ble_eq_true rfl) (Nat.le_of_ble_eq_true rfl) (fun x2 h1 w9 => ?_)
  replace w := w9
  clear w9
  refine V_pop X dX10_readNumber_4 rfl ?_
  refine V_aloadr_n X dX10_readNumber_5 0 rfl ?_
  obtain ⟨fs, x3, hh, hv, w⟩ := w
  refine V_get X flX10_34 dX10_readNumber_6 hh hv ?_
  refine V_istore_n (i0 := 2) X dX10_readNumber_9 rfl (by decide) rfl ?_
  refine V_iconst (y := 0) X dX10_readNumber_10 (by decide) ?_
  refine V_istore_n (i0 := 3) X dX10_readNumber_11 rfl (by decide) rfl ?_
  obtain ⟨n9, w⟩ := w
  exact V.sub [2, 3, 1, 0] rfl (tX10_readNumber_b12 X  n9 _ _ _ _ _ w)
theorem cX10_readNumber_ok {l : Launch} {G : gG} {h : gH} (hls : l.stackTraces = false) {Qn : Int32 → gH → Prop} {v0 : Nat} {v1 : Int32} (w : vX10_readNumber G.2.2.1 Qn h v0 v1) : gMi l yX10_readNumber cX10_readNumber 5 (some FieldType.int) rmX10_readNumber rmX10_readNumber.cells rmX10_readNumber.slots G h [.ref v0, .int v1] Qn := by
  exact gMi.of (by decide +kernel) hls (Nat.le_of_ble_eq_true rfl) rfl rfl (fun p e s m below meth c A X hnm => tX10_readNumber X w)
/-! AnimationController$TransitionText.markOf(I)I -/
abbrev rmX10_markOf : Room := { frames := 0, cells := 0, slots := 0, locals := 0 }
def vX10_markOf (t0 : Nat)  (Qn : Int32 → gH → Prop) (h : gH) (v0 : Int32) : Prop := ((v0 : Int32).toInt = 33 → (Qn 4 h)) ∧ ((v0 : Int32).toInt = 43 → (Qn 2 h)) ∧ ((v0 : Int32).toInt = 63 → (Qn 16 h)) ∧ ((v0 : Int32).toInt = 64 → (Qn 1 h)) ∧ ((v0 : Int32).toInt = 111 → (Qn 8 h)) ∧ ((¬ (v0 : Int32).toInt = 33 ∧ ¬ (v0 : Int32).toInt = 43 ∧ ¬ (v0 : Int32).toInt = 63 ∧ ¬ (v0 : Int32).toInt = 64 ∧ ¬ (v0 : Int32).toInt = 111) → (Qn 0 h))
set_option maxRecDepth 100000 in
set_option maxHeartbeats 4000000 in
theorem tX10_markOf {p : Program} {l : Launch} {e : Env} {s : State} {m : MethodId} {args : Array Value} {below : List Frame} {meth : Method} {c : Code} {G : gG} {A : Nat → Prop} {Qn : Int32 → gH → Prop} (X : gC p l s m args meth c G A cX10_markOf 1 (some FieldType.int) RX10)   {h : gH} {v0 : Int32} (w : vX10_markOf G.2.2.1  Qn h v0) : V p l e rmX10_markOf s m args below meth c (MQ below (va_Qi Qn (gB G A) A) args s rmX10_markOf.cells rmX10_markOf.slots A) G A 1 h 0 0 0 [(0, .int v0)] [] := by
  refine V_iload_n X dX10_markOf_0 0 rfl ?_
  obtain ⟨w0, w1, w2, w3, w4, w5⟩ := w
  rcases (show (v0 : Int32).toInt = 33 ∨ (v0 : Int32).toInt = 43 ∨ (v0 : Int32).toInt = 63 ∨ (v0 : Int32).toInt = 64 ∨ (v0 : Int32).toInt = 111 ∨ (¬ (v0 : Int32).toInt = 33 ∧ ¬ (v0 : Int32).toInt = 43 ∧ ¬ (v0 : Int32).toInt = 63 ∧ ¬ (v0 : Int32).toInt = 64 ∧ ¬ (v0 : Int32).toInt = 111) by omega) with z | z | z | z | z | z
  · refine V_lookup (tgt := 56) X dX10_markOf_1 (by decide) (by rw [z] <;> rfl) (by decide) ?_
    replace w := w0 z
    clear w0 w1 w2 w3 w4 w5
    refine V_iconst (y := 4) X dX10_markOf_56 (by decide) ?_
    exact V_iret X rfl dX10_markOf_57 (Nat.le_of_ble_eq_true rfl) (Nat.le_of_ble_eq_true rfl) w
  · refine V_lookup (tgt := 54) X dX10_markOf_1 (by decide) (by rw [z] <;> rfl) (by decide) ?_
    replace w := w1 z
    clear w0 w1 w2 w3 w4 w5
    refine V_iconst (y := 2) X dX10_markOf_54 (by decide) ?_
    exact V_iret X rfl dX10_markOf_55 (Nat.le_of_ble_eq_true rfl) (Nat.le_of_ble_eq_true rfl) w
  · refine V_lookup (tgt := 61) X dX10_markOf_1 (by decide) (by rw [z] <;> rfl) (by decide) ?_
    replace w := w2 z
    clear w0 w1 w2 w3 w4 w5
    refine V_bipush (y := 16) X dX10_markOf_61 (by decide) ?_
    exact V_iret X rfl dX10_markOf_63 (Nat.le_of_ble_eq_true rfl) (Nat.le_of_ble_eq_true rfl) w
  · refine V_lookup (tgt := 52) X dX10_markOf_1 (by decide) (by rw [z] <;> rfl) (by decide) ?_
    replace w := w3 z
    clear w0 w1 w2 w3 w4 w5
    refine V_iconst (y := 1) X dX10_markOf_52 (by decide) ?_
    exact V_iret X rfl dX10_markOf_53 (Nat.le_of_ble_eq_true rfl) (Nat.le_of_ble_eq_true rfl) w
  · refine V_lookup (tgt := 58) X dX10_markOf_1 (by decide) (by rw [z] <;> rfl) (by decide) ?_
    replace w := w4 z
    clear w0 w1 w2 w3 w4 w5
    refine V_bipush (y := 8) X dX10_markOf_58 (by decide) ?_
    exact V_iret X rfl dX10_markOf_60 (Nat.le_of_ble_eq_true rfl) (Nat.le_of_ble_eq_true rfl) w
  · refine V_lookup (off := 63) (tgt := 64) X dX10_markOf_1 (by decide) (by simp [Op.lookupswitch.offset]; (repeat split) <;> omega) (by decide) ?_
    replace w := w5 z
    clear w0 w1 w2 w3 w4 w5
    refine V_iconst (y := 0) X dX10_markOf_64 (by decide) ?_
    exact V_iret X rfl dX10_markOf_65 (Nat.le_of_ble_eq_true rfl) (Nat.le_of_ble_eq_true rfl) w
theorem cX10_markOf_ok {l : Launch} {G : gG} {h : gH} (hls : l.stackTraces = false) {Qn : Int32 → gH → Prop} {v0 : Int32} (w : vX10_markOf G.2.2.1 Qn h v0) : gMi l yX10_markOf cX10_markOf 1 (some FieldType.int) rmX10_markOf rmX10_markOf.cells rmX10_markOf.slots G h [.int v0] Qn := by
  exact gMi.of (by decide +kernel) hls (Nat.le_of_ble_eq_true rfl) rfl rfl (fun p e s m below meth c A X hnm => tX10_markOf X w)
/-! AnimationController$TransitionText.parameterOf(I)I -/
abbrev rmX10_parameterOf : Room := { frames := 0, cells := 0, slots := 0, locals := 0 }
def vX10_parameterOf_b20 (t0 : Nat)  (Qn : Int32 → gH → Prop) (h : gH) (s0 : Int32) : Prop := Qn s0 h
set_option maxRecDepth 100000 in
set_option maxHeartbeats 4000000 in
theorem tX10_parameterOf_b20 {p : Program} {l : Launch} {e : Env} {s : State} {m : MethodId} {args : Array Value} {below : List Frame} {meth : Method} {c : Code} {G : gG} {A : Nat → Prop} {Qn : Int32 → gH → Prop} (X : gC p l s m args meth c G A cX10_parameterOf 1 (some FieldType.int) RX10)   {h : gH} {s0 : Int32} (w : vX10_parameterOf_b20 G.2.2.1  Qn h s0) : V p l e rmX10_parameterOf s m args below meth c (MQ below (va_Qi Qn (gB G A) A) args s rmX10_parameterOf.cells rmX10_parameterOf.slots A) G A 1 h 0 0 20 [] [.int s0] := by
  exact V_iret X rfl dX10_parameterOf_20 (Nat.le_of_ble_eq_true rfl) (Nat.le_of_ble_eq_true rfl) w
def vX10_parameterOf_b19 (t0 : Nat)  (Qn : Int32 → gH → Prop) (h : gH)  : Prop := vX10_parameterOf_b20 t0  Qn h (-1)
set_option maxRecDepth 100000 in
set_option maxHeartbeats 4000000 in
theorem tX10_parameterOf_b19 {p : Program} {l : Launch} {e : Env} {s : State} {m : MethodId} {args : Array Value} {below : List Frame} {meth : Method} {c : Code} {G : gG} {A : Nat → Prop} {Qn : Int32 → gH → Prop} (X : gC p l s m args meth c G A cX10_parameterOf 1 (some FieldType.int) RX10)   {h : gH}  (w : vX10_parameterOf_b19 G.2.2.1  Qn h ) : V p l e rmX10_parameterOf s m args below meth c (MQ below (va_Qi Qn (gB G A) A) args s rmX10_parameterOf.cells rmX10_parameterOf.slots A) G A 1 h 0 0 19 [] [] := by
  refine V_iconst (y := (-1)) X dX10_parameterOf_19 (by decide) ?_
  exact V.sub [] rfl (tX10_parameterOf_b20 X  w)
def vX10_parameterOf (t0 : Nat)  (Qn : Int32 → gH → Prop) (h : gH) (v0 : Int32) : Prop := (((v0 : Int32) < 97) → (vX10_parameterOf_b19 t0  Qn h )) ∧ ((¬ (v0 : Int32) < 97) → (((104 < (v0 : Int32)) → (vX10_parameterOf_b19 t0  Qn h )) ∧ ((¬ 104 < (v0 : Int32)) → (vX10_parameterOf_b20 t0  Qn h (v0 - 97)))))
set_option maxRecDepth 100000 in
set_option maxHeartbeats 4000000 in
theorem tX10_parameterOf {p : Program} {l : Launch} {e : Env} {s : State} {m : MethodId} {args : Array Value} {below : List Frame} {meth : Method} {c : Code} {G : gG} {A : Nat → Prop} {Qn : Int32 → gH → Prop} (X : gC p l s m args meth c G A cX10_parameterOf 1 (some FieldType.int) RX10)   {h : gH} {v0 : Int32} (w : vX10_parameterOf G.2.2.1  Qn h v0) : V p l e rmX10_parameterOf s m args below meth c (MQ below (va_Qi Qn (gB G A) A) args s rmX10_parameterOf.cells rmX10_parameterOf.slots A) G A 1 h 0 0 0 [(0, .int v0)] [] := by
  refine V_iload_n X dX10_parameterOf_0 0 rfl ?_
  refine V_bipush (y := 97) X dX10_parameterOf_1 (by decide) ?_
  obtain ⟨w1, w2⟩ := w
  refine V_icmp_lt (tgt := 19) X dX10_parameterOf_3 (by decide) (fun z => ?_) (fun z => ?_)
  · replace w := w1 z
    clear w1 w2
    exact V.sub [] rfl (tX10_parameterOf_b19 X  w)
  · replace w := w2 z
    clear w1 w2
    refine V_iload_n X dX10_parameterOf_6 0 rfl ?_
    refine V_bipush (y := 104) X dX10_parameterOf_7 (by decide) ?_
    obtain ⟨w1, w2⟩ := w
    refine V_icmp_gt (tgt := 19) X dX10_parameterOf_9 (by decide) (fun z => ?_) (fun z => ?_)
    · replace w := w1 z
      clear w1 w2
      exact V.sub [] rfl (tX10_parameterOf_b19 X  w)
    · replace w := w2 z
      clear w1 w2
      refine V_iload_n X dX10_parameterOf_12 0 rfl ?_
      refine V_bipush (y := 97) X dX10_parameterOf_13 (by decide) ?_
      refine V_isub X dX10_parameterOf_15 ?_
      refine V_goto (tgt := 20) X dX10_parameterOf_16 (by decide) ?_
      exact V.sub [] rfl (tX10_parameterOf_b20 X  w)
theorem cX10_parameterOf_ok {l : Launch} {G : gG} {h : gH} (hls : l.stackTraces = false) {Qn : Int32 → gH → Prop} {v0 : Int32} (w : vX10_parameterOf G.2.2.1 Qn h v0) : gMi l yX10_parameterOf cX10_parameterOf 1 (some FieldType.int) rmX10_parameterOf rmX10_parameterOf.cells rmX10_parameterOf.slots G h [.int v0] Qn := by
  exact gMi.of (by decide +kernel) hls (Nat.le_of_ble_eq_true rfl) rfl rfl (fun p e s m below meth c A X hnm => tX10_parameterOf X w)
/-! AnimationController$TransitionText.operatorOf(I)I -/
abbrev rmX10_operatorOf : Room := { frames := 0, cells := 0, slots := 0, locals := 0 }
def vX10_operatorOf (t0 : Nat)  (Qn : Int32 → gH → Prop) (h : gH) (v0 : Int32) : Prop := ((v0 : Int32).toInt = 35 → (Qn 3 h)) ∧ ((v0 : Int32).toInt = 60 → (Qn 1 h)) ∧ ((v0 : Int32).toInt = 61 → (Qn 2 h)) ∧ ((v0 : Int32).toInt = 62 → (Qn 0 h)) ∧ ((¬ (v0 : Int32).toInt = 35 ∧ ¬ (v0 : Int32).toInt = 60 ∧ ¬ (v0 : Int32).toInt = 61 ∧ ¬ (v0 : Int32).toInt = 62) → (Qn (-1) h))
set_option maxRecDepth 100000 in
set_option maxHeartbeats 4000000 in
theorem tX10_operatorOf {p : Program} {l : Launch} {e : Env} {s : State} {m : MethodId} {args : Array Value} {below : List Frame} {meth : Method} {c : Code} {G : gG} {A : Nat → Prop} {Qn : Int32 → gH → Prop} (X : gC p l s m args meth c G A cX10_operatorOf 1 (some FieldType.int) RX10)   {h : gH} {v0 : Int32} (w : vX10_operatorOf G.2.2.1  Qn h v0) : V p l e rmX10_operatorOf s m args below meth c (MQ below (va_Qi Qn (gB G A) A) args s rmX10_operatorOf.cells rmX10_operatorOf.slots A) G A 1 h 0 0 0 [(0, .int v0)] [] := by
  refine V_iload_n X dX10_operatorOf_0 0 rfl ?_
  obtain ⟨w0, w1, w2, w3, w4⟩ := w
  rcases (show (v0 : Int32).toInt = 35 ∨ (v0 : Int32).toInt = 60 ∨ (v0 : Int32).toInt = 61 ∨ (v0 : Int32).toInt = 62 ∨ (¬ (v0 : Int32).toInt = 35 ∧ ¬ (v0 : Int32).toInt = 60 ∧ ¬ (v0 : Int32).toInt = 61 ∧ ¬ (v0 : Int32).toInt = 62) by omega) with z | z | z | z | z
  · refine V_lookup (tgt := 50) X dX10_operatorOf_1 (by decide) (by rw [z] <;> rfl) (by decide) ?_
    replace w := w0 z
    clear w0 w1 w2 w3 w4
    refine V_iconst (y := 3) X dX10_operatorOf_50 (by decide) ?_
    exact V_iret X rfl dX10_operatorOf_51 (Nat.le_of_ble_eq_true rfl) (Nat.le_of_ble_eq_true rfl) w
  · refine V_lookup (tgt := 46) X dX10_operatorOf_1 (by decide) (by rw [z] <;> rfl) (by decide) ?_
    replace w := w1 z
    clear w0 w1 w2 w3 w4
    refine V_iconst (y := 1) X dX10_operatorOf_46 (by decide) ?_
    exact V_iret X rfl dX10_operatorOf_47 (Nat.le_of_ble_eq_true rfl) (Nat.le_of_ble_eq_true rfl) w
  · refine V_lookup (tgt := 48) X dX10_operatorOf_1 (by decide) (by rw [z] <;> rfl) (by decide) ?_
    replace w := w2 z
    clear w0 w1 w2 w3 w4
    refine V_iconst (y := 2) X dX10_operatorOf_48 (by decide) ?_
    exact V_iret X rfl dX10_operatorOf_49 (Nat.le_of_ble_eq_true rfl) (Nat.le_of_ble_eq_true rfl) w
  · refine V_lookup (tgt := 44) X dX10_operatorOf_1 (by decide) (by rw [z] <;> rfl) (by decide) ?_
    replace w := w3 z
    clear w0 w1 w2 w3 w4
    refine V_iconst (y := 0) X dX10_operatorOf_44 (by decide) ?_
    exact V_iret X rfl dX10_operatorOf_45 (Nat.le_of_ble_eq_true rfl) (Nat.le_of_ble_eq_true rfl) w
  · refine V_lookup (off := 51) (tgt := 52) X dX10_operatorOf_1 (by decide) (by simp [Op.lookupswitch.offset]; (repeat split) <;> omega) (by decide) ?_
    replace w := w4 z
    clear w0 w1 w2 w3 w4
    refine V_iconst (y := (-1)) X dX10_operatorOf_52 (by decide) ?_
    exact V_iret X rfl dX10_operatorOf_53 (Nat.le_of_ble_eq_true rfl) (Nat.le_of_ble_eq_true rfl) w
theorem cX10_operatorOf_ok {l : Launch} {G : gG} {h : gH} (hls : l.stackTraces = false) {Qn : Int32 → gH → Prop} {v0 : Int32} (w : vX10_operatorOf G.2.2.1 Qn h v0) : gMi l yX10_operatorOf cX10_operatorOf 1 (some FieldType.int) rmX10_operatorOf rmX10_operatorOf.cells rmX10_operatorOf.slots G h [.int v0] Qn := by
  exact gMi.of (by decide +kernel) hls (Nat.le_of_ble_eq_true rfl) rfl rfl (fun p e s m below meth c A X hnm => tX10_operatorOf X w)
/-! AnimationController$TransitionText.readCondition()Z -/
abbrev rmX10_readCondition : Room := { frames := 2, cells := 0, slots := 0, locals := 44 }
def vX10_readCondition_b60 (t0 : Nat)  (Qn : Int32 → gH → Prop) (h : gH)  : Prop := Qn 0 h
set_option maxRecDepth 100000 in
set_option maxHeartbeats 4000000 in
theorem tX10_readCondition_b60 {p : Program} {l : Launch} {e : Env} {s : State} {m : MethodId} {args : Array Value} {below : List Frame} {meth : Method} {c : Code} {G : gG} {A : Nat → Prop} {Qn : Int32 → gH → Prop} (X : gC p l s m args meth c G A cX10_readCondition 7 (some FieldType.boolean) RX10)   {h : gH}  (w : vX10_readCondition_b60 G.2.2.1  Qn h ) : V p l e rmX10_readCondition s m args below meth c (MQ below (va_Qi Qn (gB G A) A) args s rmX10_readCondition.cells rmX10_readCondition.slots A) G A 7 h 0 0 60 [] [] := by
  refine V_iconst (y := 0) X dX10_readCondition_60 (by decide) ?_
  exact V_zret X rfl rfl dX10_readCondition_61 (Nat.le_of_ble_eq_true rfl) (Nat.le_of_ble_eq_true rfl) w
def vX10_readCondition_b190 (t0 : Nat)  (Qn : Int32 → gH → Prop) (h : gH) (s0 : Int32) (s1 : Int32) (s2 : Int32) (s3 : Option Nat) : Prop := nn s3 (fun a1 => io h a1 12 (vX9_appendCondition t0 (fun h2 => Qn 1 h2) h a1 s2 s1 s0))
set_option maxRecDepth 100000 in
set_option maxHeartbeats 4000000 in
theorem tX10_readCondition_b190 {p : Program} {l : Launch} {e : Env} {s : State} {m : MethodId} {args : Array Value} {below : List Frame} {meth : Method} {c : Code} {G : gG} {A : Nat → Prop} {Qn : Int32 → gH → Prop} (X : gC p l s m args meth c G A cX10_readCondition 7 (some FieldType.boolean) RX10)   {h : gH} {s0 : Int32} {s1 : Int32} {s2 : Int32} {s3 : Option Nat} (w : vX10_readCondition_b190 G.2.2.1  Qn h s0 s1 s2 s3) : V p l e rmX10_readCondition s m args below meth c (MQ below (va_Qi Qn (gB G A) A) args s rmX10_readCondition.cells rmX10_readCondition.slots A) G A 7 h 0 0 190 [] [.int s0, .int s1, .int s2, va_rf s3] := by
  obtain ⟨a1, rfl, w⟩ := w
  obtain ⟨fs, hh, w⟩ := w
  refine V_callVv (As := [.int s2, .int s1, .int s0]) (rest := []) (k1 := 0) (n1 := 0) X (cX9_appendCondition_ok X.2.2.2.2.2.2.2.2.1 w) lkX10_125 hh (q9 := (RX9, TX9, 12)) rfl rfl dX10_readCondition_190 ⟨Nat.le_of_ble_eq_true rfl, Nat.le_of_ble_eq_true rfl⟩ rfl (Nat.le_of_ble_eq_true rfl) ⟨Nat.le_of_ble_eq_true rfl, Nat.le_of_ble_eq_true rfl⟩ (Nat.le_of_ble_eq_true rfl) (Nat.le_of_ble_eq_true rfl) (fun h2 w9 => ?_)
  replace w := w9
  clear w9
  refine V_iconst (y := 1) X dX10_readCondition_193 (by decide) ?_
  exact V_zret X rfl rfl dX10_readCondition_194 (Nat.le_of_ble_eq_true rfl) (Nat.le_of_ble_eq_true rfl) w
def vX10_readCondition_b154 (t0 : Nat)  (Qn : Int32 → gH → Prop) (h : gH) (v0 : Nat) (v2 : Int32) (v4 : Int32) (v5 : Int32) : Prop := io h v0 13 (vX10_readNumber t0 (fun x2 h1 => ((¬ (x2 : Int32) = (-1)) → (gr h1 v0 13 4 (fun r3 => (((v5 : Int32) = 0) → (vX10_readCondition_b190 t0  Qn h1 x2 v4 v2 r3)) ∧ ((¬ (v5 : Int32) = 0) → (vX10_readCondition_b190 t0  Qn h1 (-x2) v4 v2 r3))))) ∧ (((x2 : Int32) = (-1)) → (Qn 0 h1))) h v0 100)
set_option maxRecDepth 100000 in
set_option maxHeartbeats 4000000 in
theorem tX10_readCondition_b154 {p : Program} {l : Launch} {e : Env} {s : State} {m : MethodId} {args : Array Value} {below : List Frame} {meth : Method} {c : Code} {G : gG} {A : Nat → Prop} {Qn : Int32 → gH → Prop} (X : gC p l s m args meth c G A cX10_readCondition 7 (some FieldType.boolean) RX10)   {h : gH} {v0 : Nat} {v2 : Int32} {v4 : Int32} {v5 : Int32} (w : vX10_readCondition_b154 G.2.2.1  Qn h v0 v2 v4 v5) : V p l e rmX10_readCondition s m args below meth c (MQ below (va_Qi Qn (gB G A) A) args s rmX10_readCondition.cells rmX10_readCondition.slots A) G A 7 h 0 0 154 [(0, .ref v0), (2, .int v2), (4, .int v4), (5, .int v5)] [] := by
  refine V_aloadr_n X dX10_readCondition_154 0 rfl ?_
  refine V_bipush (y := 100) X dX10_readCondition_155 (by decide) ?_
  obtain ⟨fs, hh, w⟩ := w
  refine V_callVi (As := [.int 100]) (rest := []) (k1 := 0) (n1 := 0) X (cX10_readNumber_ok X.2.2.2.2.2.2.2.2.1 w) lkX10_80 hh (q9 := (RX10, TX10, 5)) rfl rfl dX10_readCondition_157 ⟨Nat.le_of_ble_eq_true rfl, Nat.le_of_ble_eq_true rfl⟩ rfl (Nat.le_of_ble_eq_true rfl) ⟨Nat.le_of_ble_eq_true rfl, Nat.le_of_ble_eq_true rfl⟩ (Nat.le_of_ble_eq_true rfl) (Nat.le_of_ble_eq_true rfl) (fun x2 h1 w9 => ?_)
  replace w := w9
  clear w9
  refine V_istore X dX10_readCondition_160 (by decide) rfl ?_
  refine V_iload X dX10_readCondition_162 0 rfl ?_
  refine V_iconst (y := (-1)) X dX10_readCondition_164 (by decide) ?_
  obtain ⟨w1, w2⟩ := w
  refine V_icmp_ne (tgt := 170) X dX10_readCondition_165 (by decide) (fun z => ?_) (fun z => ?_)
  · replace w := w1 z
    clear w1 w2
    refine V_aloadr_n X dX10_readCondition_170 1 rfl ?_
    obtain ⟨fs, r3, hh, hv, w⟩ := w
    refine V_get X flX10_30 dX10_readCondition_171 hh hv ?_
    refine V_iload_n X dX10_readCondition_174 2 rfl ?_
    refine V_iload X dX10_readCondition_175 3 rfl ?_
    refine V_iload X dX10_readCondition_177 4 rfl ?_
    obtain ⟨w1, w2⟩ := w
    refine V_if_eq (tgt := 188) X dX10_readCondition_179 (by decide) (fun z => ?_) (fun z => ?_)
    · replace w := w1 z
      clear w1 w2
      refine V_iload X dX10_readCondition_188 0 rfl ?_
      exact V.sub [] rfl (tX10_readCondition_b190 X  w)
    · replace w := w2 z
      clear w1 w2
      refine V_iload X dX10_readCondition_182 0 rfl ?_
      refine V_ineg X dX10_readCondition_184 ?_
      refine V_goto (tgt := 190) X dX10_readCondition_185 (by decide) ?_
      exact V.sub [] rfl (tX10_readCondition_b190 X  w)
  · replace w := w2 z
    clear w1 w2
    refine V_iconst (y := 0) X dX10_readCondition_168 (by decide) ?_
    exact V_zret X rfl rfl dX10_readCondition_169 (Nat.le_of_ble_eq_true rfl) (Nat.le_of_ble_eq_true rfl) w
def vX10_readCondition_b137 (t0 : Nat)  (Qn : Int32 → gH → Prop) (h : gH) (v0 : Nat) (v2 : Int32) (v4 : Int32) (s0 : Int32) : Prop := (((s0 : Int32) = 0) → (vX10_readCondition_b154 t0  Qn h v0 v2 v4 s0)) ∧ ((¬ (s0 : Int32) = 0) → (gi h v0 13 3 (fun x1 => pv h v0 13 3 (.int (x1 + 1)) (fun h2 => vX10_readCondition_b154 t0  Qn h2 v0 v2 v4 s0))))
set_option maxRecDepth 100000 in
set_option maxHeartbeats 4000000 in
theorem tX10_readCondition_b137 {p : Program} {l : Launch} {e : Env} {s : State} {m : MethodId} {args : Array Value} {below : List Frame} {meth : Method} {c : Code} {G : gG} {A : Nat → Prop} {Qn : Int32 → gH → Prop} (X : gC p l s m args meth c G A cX10_readCondition 7 (some FieldType.boolean) RX10)   {h : gH} {v0 : Nat} {v2 : Int32} {v4 : Int32} {s0 : Int32} (w : vX10_readCondition_b137 G.2.2.1  Qn h v0 v2 v4 s0) : V p l e rmX10_readCondition s m args below meth c (MQ below (va_Qi Qn (gB G A) A) args s rmX10_readCondition.cells rmX10_readCondition.slots A) G A 7 h 0 0 137 [(0, .ref v0), (2, .int v2), (4, .int v4)] [.int s0] := by
  refine V_istore X dX10_readCondition_137 (by decide) rfl ?_
  refine V_iload X dX10_readCondition_139 0 rfl ?_
  obtain ⟨w1, w2⟩ := w
  refine V_if_eq (tgt := 154) X dX10_readCondition_141 (by decide) (fun z => ?_) (fun z => ?_)
  · replace w := w1 z
    clear w1 w2
    exact V.sub [1, 2, 3, 0] rfl (tX10_readCondition_b154 X  w)
  · replace w := w2 z
    clear w1 w2
    refine V_aloadr_n X dX10_readCondition_144 1 rfl ?_
    refine V_dup X dX10_readCondition_145 rfl ?_
    obtain ⟨fs, x1, hh, hv, w⟩ := w
    refine V_get X flX10_34 dX10_readCondition_146 hh hv ?_
    refine V_iconst (y := 1) X dX10_readCondition_149 (by decide) ?_
    refine V_iadd X dX10_readCondition_150 ?_
    obtain ⟨fs, hh, hv, w⟩ := w
    refine V_put X flX10_34 dX10_readCondition_151 hh hv rfl rfl ?_
    generalize va_up _ _ _ = h2 at w ⊢
    exact V.sub [1, 2, 3, 0] rfl (tX10_readCondition_b154 X  w)
def vX10_readCondition_b91 (t0 : Nat)  (Qn : Int32 → gH → Prop) (h : gH) (s0 : Int32) (s1 : Int32) (s2 : Int32) (s3 : Option Nat) : Prop := nn s3 (fun a1 => io h a1 12 (vX9_appendCondition t0 (fun h2 => Qn 1 h2) h a1 s2 s1 s0))
set_option maxRecDepth 100000 in
set_option maxHeartbeats 4000000 in
theorem tX10_readCondition_b91 {p : Program} {l : Launch} {e : Env} {s : State} {m : MethodId} {args : Array Value} {below : List Frame} {meth : Method} {c : Code} {G : gG} {A : Nat → Prop} {Qn : Int32 → gH → Prop} (X : gC p l s m args meth c G A cX10_readCondition 7 (some FieldType.boolean) RX10)   {h : gH} {s0 : Int32} {s1 : Int32} {s2 : Int32} {s3 : Option Nat} (w : vX10_readCondition_b91 G.2.2.1  Qn h s0 s1 s2 s3) : V p l e rmX10_readCondition s m args below meth c (MQ below (va_Qi Qn (gB G A) A) args s rmX10_readCondition.cells rmX10_readCondition.slots A) G A 7 h 0 0 91 [] [.int s0, .int s1, .int s2, va_rf s3] := by
  obtain ⟨a1, rfl, w⟩ := w
  obtain ⟨fs, hh, w⟩ := w
  refine V_callVv (As := [.int s2, .int s1, .int s0]) (rest := []) (k1 := 0) (n1 := 0) X (cX9_appendCondition_ok X.2.2.2.2.2.2.2.2.1 w) lkX10_125 hh (q9 := (RX9, TX9, 12)) rfl rfl dX10_readCondition_91 ⟨Nat.le_of_ble_eq_true rfl, Nat.le_of_ble_eq_true rfl⟩ rfl (Nat.le_of_ble_eq_true rfl) ⟨Nat.le_of_ble_eq_true rfl, Nat.le_of_ble_eq_true rfl⟩ (Nat.le_of_ble_eq_true rfl) (Nat.le_of_ble_eq_true rfl) (fun h2 w9 => ?_)
  replace w := w9
  clear w9
  refine V_iconst (y := 1) X dX10_readCondition_94 (by decide) ?_
  exact V_zret X rfl rfl dX10_readCondition_95 (Nat.le_of_ble_eq_true rfl) (Nat.le_of_ble_eq_true rfl) w
def vX10_readCondition_b62 (t0 : Nat)  (Qn : Int32 → gH → Prop) (h : gH) (v0 : Nat) (v1 : Int32) (v2 : Int32) (v3 : Int32) : Prop := gi h v0 13 3 (fun x1 => pv h v0 13 3 (.int (x1 + 1)) (fun h2 => (((v3 : Int32) = 0) → (io h2 v0 13 (vX10_nextByte t0 (fun x4 h3 => vX10_operatorOf t0 (fun x6 h5 => ((¬ (x6 : Int32) = (-1)) → (gi h5 v0 13 3 (fun x7 => pv h5 v0 13 3 (.int (x7 + 1)) (fun h8 => io h8 v0 13 (vX10_nextByte t0 (fun x10 h9 => ((¬ (x10 : Int32) = 45) → (vX10_readCondition_b137 t0  Qn h9 v0 v2 x6 0)) ∧ (((x10 : Int32) = 45) → (vX10_readCondition_b137 t0  Qn h9 v0 v2 x6 1))) h8 v0 ))))) ∧ (((x6 : Int32) = (-1)) → (Qn 0 h5))) h3 x4) h2 v0 ))) ∧ ((¬ (v3 : Int32) = 0) → (gr h2 v0 13 4 (fun r11 => (((v1 : Int32) = 0) → (vX10_readCondition_b91 t0  Qn h2 1 2 v2 r11)) ∧ ((¬ (v1 : Int32) = 0) → (vX10_readCondition_b91 t0  Qn h2 0 2 v2 r11)))))))
set_option maxRecDepth 100000 in
set_option maxHeartbeats 4000000 in
theorem tX10_readCondition_b62 {p : Program} {l : Launch} {e : Env} {s : State} {m : MethodId} {args : Array Value} {below : List Frame} {meth : Method} {c : Code} {G : gG} {A : Nat → Prop} {Qn : Int32 → gH → Prop} (X : gC p l s m args meth c G A cX10_readCondition 7 (some FieldType.boolean) RX10)   {h : gH} {v0 : Nat} {v1 : Int32} {v2 : Int32} {v3 : Int32} (w : vX10_readCondition_b62 G.2.2.1  Qn h v0 v1 v2 v3) : V p l e rmX10_readCondition s m args below meth c (MQ below (va_Qi Qn (gB G A) A) args s rmX10_readCondition.cells rmX10_readCondition.slots A) G A 7 h 0 0 62 [(0, .ref v0), (1, .int v1), (2, .int v2), (3, .int v3)] [] := by
  refine V_aloadr_n X dX10_readCondition_62 0 rfl ?_
  refine V_dup X dX10_readCondition_63 rfl ?_
  obtain ⟨fs, x1, hh, hv, w⟩ := w
  refine V_get X flX10_34 dX10_readCondition_64 hh hv ?_
  refine V_iconst (y := 1) X dX10_readCondition_67 (by decide) ?_
  refine V_iadd X dX10_readCondition_68 ?_
  obtain ⟨fs, hh, hv, w⟩ := w
  refine V_put X flX10_34 dX10_readCondition_69 hh hv rfl rfl ?_
  generalize va_up _ _ _ = h2 at w ⊢
  refine V_iload_n X dX10_readCondition_72 3 rfl ?_
  obtain ⟨w1, w2⟩ := w
  refine V_if_eq (tgt := 96) X dX10_readCondition_73 (by decide) (fun z => ?_) (fun z => ?_)
  · replace w := w1 z
    clear w1 w2
    refine V_aloadr_n X dX10_readCondition_96 0 rfl ?_
    obtain ⟨fs, hh, w⟩ := w
    refine V_callVi (As := []) (rest := []) (k1 := 0) (n1 := 0) X (cX10_nextByte_ok X.2.2.2.2.2.2.2.2.1 w) lkX10_55 hh (q9 := (RX10, TX10, 5)) rfl rfl dX10_readCondition_97 ⟨Nat.le_of_ble_eq_true rfl, Nat.le_of_ble_eq_true rfl⟩ rfl (Nat.le_of_ble_eq_true rfl) ⟨Nat.le_of_ble_eq_true rfl, Nat.le_of_ble_eq_true rfl⟩ (Nat.le_of_ble_eq_true rfl) (Nat.le_of_ble_eq_true rfl) (fun x4 h3 w9 => ?_)
    replace w := w9
    clear w9
    refine V_callSi (As := [.int x4]) (rest := []) (k1 := 0) (n1 := 0) X (cX10_operatorOf_ok X.2.2.2.2.2.2.2.2.1 w) lkX10_129 dX10_readCondition_100 ⟨Nat.le_of_ble_eq_true rfl, Nat.le_of_ble_eq_true rfl⟩ rfl (Nat.le_of_ble_eq_true rfl) ⟨Nat.le_of_ble_eq_true rfl, Nat.le_of_ble_eq_true rfl⟩ (Nat.le_of_ble_eq_true rfl) (Nat.le_of_ble_eq_true rfl) (fun x6 h5 w9 => ?_)
    replace w := w9
    clear w9
    refine V_istore X dX10_readCondition_103 (by decide) rfl ?_
    refine V_iload X dX10_readCondition_105 0 rfl ?_
    refine V_iconst (y := (-1)) X dX10_readCondition_107 (by decide) ?_
    obtain ⟨w1, w2⟩ := w
    refine V_icmp_ne (tgt := 113) X dX10_readCondition_108 (by decide) (fun z => ?_) (fun z => ?_)
    · replace w := w1 z
      clear w1 w2
      refine V_aloadr_n X dX10_readCondition_113 1 rfl ?_
      refine V_dup X dX10_readCondition_114 rfl ?_
      obtain ⟨fs, x7, hh, hv, w⟩ := w
      refine V_get X flX10_34 dX10_readCondition_115 hh hv ?_
      refine V_iconst (y := 1) X dX10_readCondition_118 (by decide) ?_
      refine V_iadd X dX10_readCondition_119 ?_
      obtain ⟨fs, hh, hv, w⟩ := w
      refine V_put X flX10_34 dX10_readCondition_120 hh hv rfl rfl ?_
      generalize va_up _ _ _ = h8 at w ⊢
      refine V_aloadr_n X dX10_readCondition_123 1 rfl ?_
      obtain ⟨fs, hh, w⟩ := w
      refine V_callVi (As := []) (rest := []) (k1 := 0) (n1 := 0) X (cX10_nextByte_ok X.2.2.2.2.2.2.2.2.1 w) lkX10_55 hh (q9 := (RX10, TX10, 5)) rfl rfl dX10_readCondition_124 ⟨Nat.le_of_ble_eq_true rfl, Nat.le_of_ble_eq_true rfl⟩ rfl (Nat.le_of_ble_eq_true rfl) ⟨Nat.le_of_ble_eq_true rfl, Nat.le_of_ble_eq_true rfl⟩ (Nat.le_of_ble_eq_true rfl) (Nat.le_of_ble_eq_true rfl) (fun x10 h9 w9 => ?_)
      replace w := w9
      clear w9
      refine V_bipush (y := 45) X dX10_readCondition_127 (by decide) ?_
      obtain ⟨w1, w2⟩ := w
      refine V_icmp_ne (tgt := 136) X dX10_readCondition_129 (by decide) (fun z => ?_) (fun z => ?_)
      · replace w := w1 z
        clear w1 w2
        refine V_iconst (y := 0) X dX10_readCondition_136 (by decide) ?_
        exact V.sub [1, 3, 0] rfl (tX10_readCondition_b137 X  w)
      · replace w := w2 z
        clear w1 w2
        refine V_iconst (y := 1) X dX10_readCondition_132 (by decide) ?_
        refine V_goto (tgt := 137) X dX10_readCondition_133 (by decide) ?_
        exact V.sub [1, 3, 0] rfl (tX10_readCondition_b137 X  w)
    · replace w := w2 z
      clear w1 w2
      refine V_iconst (y := 0) X dX10_readCondition_111 (by decide) ?_
      exact V_zret X rfl rfl dX10_readCondition_112 (Nat.le_of_ble_eq_true rfl) (Nat.le_of_ble_eq_true rfl) w
  · replace w := w2 z
    clear w1 w2
    refine V_aloadr_n X dX10_readCondition_76 0 rfl ?_
    obtain ⟨fs, r11, hh, hv, w⟩ := w
    refine V_get X flX10_30 dX10_readCondition_77 hh hv ?_
    refine V_iload_n X dX10_readCondition_80 2 rfl ?_
    refine V_iconst (y := 2) X dX10_readCondition_81 (by decide) ?_
    refine V_iload_n X dX10_readCondition_82 1 rfl ?_
    obtain ⟨w1, w2⟩ := w
    refine V_if_eq (tgt := 90) X dX10_readCondition_83 (by decide) (fun z => ?_) (fun z => ?_)
    · replace w := w1 z
      clear w1 w2
      refine V_iconst (y := 1) X dX10_readCondition_90 (by decide) ?_
      exact V.sub [] rfl (tX10_readCondition_b91 X  w)
    · replace w := w2 z
      clear w1 w2
      refine V_iconst (y := 0) X dX10_readCondition_86 (by decide) ?_
      refine V_goto (tgt := 91) X dX10_readCondition_87 (by decide) ?_
      exact V.sub [] rfl (tX10_readCondition_b91 X  w)
def vX10_readCondition_b29 (t0 : Nat)  (Qn : Int32 → gH → Prop) (h : gH) (v0 : Nat) (v1 : Int32) : Prop := io h v0 13 (vX10_nextByte t0 (fun x2 h1 => vX10_parameterOf t0 (fun x4 h3 => gr h3 v0 13 0 (fun r5 => nn r5 (fun a6 => io h3 a6 7 (vX4_kindOf t0 (fun x8 h7 => (((x8 : Int32) = (-1)) → (vX10_readCondition_b60 t0  Qn h7 )) ∧ ((¬ (x8 : Int32) = (-1)) → ((((v1 : Int32) = 0) → (vX10_readCondition_b62 t0  Qn h7 v0 v1 x4 x8)) ∧ ((¬ (v1 : Int32) = 0) → ((((x8 : Int32) = 1) → (vX10_readCondition_b62 t0  Qn h7 v0 v1 x4 x8)) ∧ ((¬ (x8 : Int32) = 1) → (vX10_readCondition_b60 t0  Qn h7 ))))))) h3 a6 x4)))) h1 x2) h v0 )
set_option maxRecDepth 100000 in
set_option maxHeartbeats 4000000 in
theorem tX10_readCondition_b29 {p : Program} {l : Launch} {e : Env} {s : State} {m : MethodId} {args : Array Value} {below : List Frame} {meth : Method} {c : Code} {G : gG} {A : Nat → Prop} {Qn : Int32 → gH → Prop} (X : gC p l s m args meth c G A cX10_readCondition 7 (some FieldType.boolean) RX10)   {h : gH} {v0 : Nat} {v1 : Int32} (w : vX10_readCondition_b29 G.2.2.1  Qn h v0 v1) : V p l e rmX10_readCondition s m args below meth c (MQ below (va_Qi Qn (gB G A) A) args s rmX10_readCondition.cells rmX10_readCondition.slots A) G A 7 h 0 0 29 [(0, .ref v0), (1, .int v1)] [] := by
  refine V_aloadr_n X dX10_readCondition_29 0 rfl ?_
  obtain ⟨fs, hh, w⟩ := w
  refine V_callVi (As := []) (rest := []) (k1 := 0) (n1 := 0) X (cX10_nextByte_ok X.2.2.2.2.2.2.2.2.1 w) lkX10_55 hh (q9 := (RX10, TX10, 5)) rfl rfl dX10_readCondition_30 ⟨Nat.le_of_ble_eq_true rfl, Nat.le_of_ble_eq_true rfl⟩ rfl (Nat.le_of_ble_eq_true rfl) ⟨Nat.le_of_ble_eq_true rfl, Nat.le_of_ble_eq_true rfl⟩ (Nat.le_of_ble_eq_true rfl) (Nat.le_of_ble_eq_true rfl) (fun x2 h1 w9 => ?_)
  replace w := w9
  clear w9
  refine V_callSi (As := [.int x2]) (rest := []) (k1 := 0) (n1 := 0) X (cX10_parameterOf_ok X.2.2.2.2.2.2.2.2.1 w) lkX10_119 dX10_readCondition_33 ⟨Nat.le_of_ble_eq_true rfl, Nat.le_of_ble_eq_true rfl⟩ rfl (Nat.le_of_ble_eq_true rfl) ⟨Nat.le_of_ble_eq_true rfl, Nat.le_of_ble_eq_true rfl⟩ (Nat.le_of_ble_eq_true rfl) (Nat.le_of_ble_eq_true rfl) (fun x4 h3 w9 => ?_)
  replace w := w9
  clear w9
  refine V_istore_n (i0 := 2) X dX10_readCondition_36 rfl (by decide) rfl ?_
  refine V_aloadr_n X dX10_readCondition_37 1 rfl ?_
  obtain ⟨fs, r5, hh, hv, w⟩ := w
  refine V_get X flX10_15 dX10_readCondition_38 hh hv ?_
  refine V_iload_n X dX10_readCondition_41 0 rfl ?_
  obtain ⟨a6, rfl, w⟩ := w
  obtain ⟨fs, hh, w⟩ := w
  refine V_callVi (As := [.int x4]) (rest := []) (k1 := 0) (n1 := 0) X (cX4_kindOf_ok X.2.2.2.2.2.2.2.2.1 w) lkX10_122 hh (q9 := (RX4, TX4, 8)) rfl rfl dX10_readCondition_42 ⟨Nat.le_of_ble_eq_true rfl, Nat.le_of_ble_eq_true rfl⟩ rfl (Nat.le_of_ble_eq_true rfl) ⟨Nat.le_of_ble_eq_true rfl, Nat.le_of_ble_eq_true rfl⟩ (Nat.le_of_ble_eq_true rfl) (Nat.le_of_ble_eq_true rfl) (fun x8 h7 w9 => ?_)
  replace w := w9
  clear w9
  refine V_istore_n (i0 := 3) X dX10_readCondition_45 rfl (by decide) rfl ?_
  refine V_iload_n X dX10_readCondition_46 0 rfl ?_
  refine V_iconst (y := (-1)) X dX10_readCondition_47 (by decide) ?_
  obtain ⟨w1, w2⟩ := w
  refine V_icmp_eq (tgt := 60) X dX10_readCondition_48 (by decide) (fun z => ?_) (fun z => ?_)
  · replace w := w1 z
    clear w1 w2
    exact V.sub [] rfl (tX10_readCondition_b60 X  w)
  · replace w := w2 z
    clear w1 w2
    refine V_iload_n X dX10_readCondition_51 3 rfl ?_
    obtain ⟨w1, w2⟩ := w
    refine V_if_eq (tgt := 62) X dX10_readCondition_52 (by decide) (fun z => ?_) (fun z => ?_)
    · replace w := w1 z
      clear w1 w2
      exact V.sub [2, 3, 1, 0] rfl (tX10_readCondition_b62 X  w)
    · replace w := w2 z
      clear w1 w2
      refine V_iload_n X dX10_readCondition_55 0 rfl ?_
      refine V_iconst (y := 1) X dX10_readCondition_56 (by decide) ?_
      obtain ⟨w1, w2⟩ := w
      refine V_icmp_eq (tgt := 62) X dX10_readCondition_57 (by decide) (fun z => ?_) (fun z => ?_)
      · replace w := w1 z
        clear w1 w2
        exact V.sub [2, 3, 1, 0] rfl (tX10_readCondition_b62 X  w)
      · replace w := w2 z
        clear w1 w2
        exact V.sub [] rfl (tX10_readCondition_b60 X  w)
def vX10_readCondition_b14 (t0 : Nat)  (Qn : Int32 → gH → Prop) (h : gH) (v0 : Nat) (s0 : Int32) : Prop := (((s0 : Int32) = 0) → (vX10_readCondition_b29 t0  Qn h v0 s0)) ∧ ((¬ (s0 : Int32) = 0) → (gi h v0 13 3 (fun x1 => pv h v0 13 3 (.int (x1 + 1)) (fun h2 => vX10_readCondition_b29 t0  Qn h2 v0 s0))))
set_option maxRecDepth 100000 in
set_option maxHeartbeats 4000000 in
theorem tX10_readCondition_b14 {p : Program} {l : Launch} {e : Env} {s : State} {m : MethodId} {args : Array Value} {below : List Frame} {meth : Method} {c : Code} {G : gG} {A : Nat → Prop} {Qn : Int32 → gH → Prop} (X : gC p l s m args meth c G A cX10_readCondition 7 (some FieldType.boolean) RX10)   {h : gH} {v0 : Nat} {s0 : Int32} (w : vX10_readCondition_b14 G.2.2.1  Qn h v0 s0) : V p l e rmX10_readCondition s m args below meth c (MQ below (va_Qi Qn (gB G A) A) args s rmX10_readCondition.cells rmX10_readCondition.slots A) G A 7 h 0 0 14 [(0, .ref v0)] [.int s0] := by
  refine V_istore_n (i0 := 1) X dX10_readCondition_14 rfl (by decide) rfl ?_
  refine V_iload_n X dX10_readCondition_15 0 rfl ?_
  obtain ⟨w1, w2⟩ := w
  refine V_if_eq (tgt := 29) X dX10_readCondition_16 (by decide) (fun z => ?_) (fun z => ?_)
  · replace w := w1 z
    clear w1 w2
    exact V.sub [1, 0] rfl (tX10_readCondition_b29 X  w)
  · replace w := w2 z
    clear w1 w2
    refine V_aloadr_n X dX10_readCondition_19 1 rfl ?_
    refine V_dup X dX10_readCondition_20 rfl ?_
    obtain ⟨fs, x1, hh, hv, w⟩ := w
    refine V_get X flX10_34 dX10_readCondition_21 hh hv ?_
    refine V_iconst (y := 1) X dX10_readCondition_24 (by decide) ?_
    refine V_iadd X dX10_readCondition_25 ?_
    obtain ⟨fs, hh, hv, w⟩ := w
    refine V_put X flX10_34 dX10_readCondition_26 hh hv rfl rfl ?_
    generalize va_up _ _ _ = h2 at w ⊢
    exact V.sub [1, 0] rfl (tX10_readCondition_b29 X  w)
def vX10_readCondition (t0 : Nat)  (Qn : Int32 → gH → Prop) (h : gH) (v0 : Nat) : Prop := io h v0 13 (vX10_nextByte t0 (fun x2 h1 => ((¬ (x2 : Int32) = 126) → (vX10_readCondition_b14 t0  Qn h1 v0 0)) ∧ (((x2 : Int32) = 126) → (vX10_readCondition_b14 t0  Qn h1 v0 1))) h v0 )
set_option maxRecDepth 100000 in
set_option maxHeartbeats 4000000 in
theorem tX10_readCondition {p : Program} {l : Launch} {e : Env} {s : State} {m : MethodId} {args : Array Value} {below : List Frame} {meth : Method} {c : Code} {G : gG} {A : Nat → Prop} {Qn : Int32 → gH → Prop} (X : gC p l s m args meth c G A cX10_readCondition 7 (some FieldType.boolean) RX10)   {h : gH} {v0 : Nat} (w : vX10_readCondition G.2.2.1  Qn h v0) : V p l e rmX10_readCondition s m args below meth c (MQ below (va_Qi Qn (gB G A) A) args s rmX10_readCondition.cells rmX10_readCondition.slots A) G A 7 h 0 0 0 [(0, .ref v0)] [] := by
  refine V_aloadr_n X dX10_readCondition_0 0 rfl ?_
  obtain ⟨fs, hh, w⟩ := w
  refine V_callVi (As := []) (rest := []) (k1 := 0) (n1 := 0) X (cX10_nextByte_ok X.2.2.2.2.2.2.2.2.1 w) lkX10_55 hh (q9 := (RX10, TX10, 5)) rfl rfl dX10_readCondition_1 ⟨Nat.le_of_ble_eq_true rfl, Nat.le_of_ble_eq_true rfl⟩ rfl (Nat.le_of_ble_eq_true rfl) ⟨Nat.le_of_ble_eq_true rfl, Nat.le_of_ble_eq_true rfl⟩ (Nat.le_of_ble_eq_true rfl) (Nat.le_of_ble_eq_true rfl) (fun x2 h1 w9 => ?_)
  replace w := w9
  clear w9
  refine V_bipush (y := 126) X dX10_readCondition_4 (by decide) ?_
  obtain ⟨w1, w2⟩ := w
  refine V_icmp_ne (tgt := 13) X dX10_readCondition_6 (by decide) (fun z => ?_) (fun z => ?_)
  · replace w := w1 z
    clear w1 w2
    refine V_iconst (y := 0) X dX10_readCondition_13 (by decide) ?_
    exact V.sub [0] rfl (tX10_readCondition_b14 X  w)
  · replace w := w2 z
    clear w1 w2
    refine V_iconst (y := 1) X dX10_readCondition_9 (by decide) ?_
    refine V_goto (tgt := 14) X dX10_readCondition_10 (by decide) ?_
    exact V.sub [0] rfl (tX10_readCondition_b14 X  w)
theorem cX10_readCondition_ok {l : Launch} {G : gG} {h : gH} (hls : l.stackTraces = false) {Qn : Int32 → gH → Prop} {v0 : Nat} (w : vX10_readCondition G.2.2.1 Qn h v0) : gMi l yX10_readCondition cX10_readCondition 7 (some FieldType.boolean) rmX10_readCondition rmX10_readCondition.cells rmX10_readCondition.slots G h [.ref v0] Qn := by
  exact gMi.of (by decide +kernel) hls (Nat.le_of_ble_eq_true rfl) rfl rfl (fun p e s m below meth c A X hnm => tX10_readCondition X w)
/-! AnimationController$TransitionText.readAttribute(I)Z -/
abbrev rmX10_readAttribute : Room := { frames := 3, cells := 0, slots := 0, locals := 70 }
def vX10_readAttribute_b133 (t0 : Nat)  (Qn : Int32 → gH → Prop) (h : gH) (s0 : Int32) : Prop := gZ s0 ∧ Qn s0 h
set_option maxRecDepth 100000 in
set_option maxHeartbeats 4000000 in
theorem tX10_readAttribute_b133 {p : Program} {l : Launch} {e : Env} {s : State} {m : MethodId} {args : Array Value} {below : List Frame} {meth : Method} {c : Code} {G : gG} {A : Nat → Prop} {Qn : Int32 → gH → Prop} (X : gC p l s m args meth c G A cX10_readAttribute 2 (some FieldType.boolean) RX10)   {h : gH} {s0 : Int32} (w : vX10_readAttribute_b133 G.2.2.1  Qn h s0) : V p l e rmX10_readAttribute s m args below meth c (MQ below (va_Qi Qn (gB G A) A) args s rmX10_readAttribute.cells rmX10_readAttribute.slots A) G A 2 h 0 0 133 [] [.int s0] := by
  obtain ⟨hz, w⟩ := w
  exact V_zret X rfl hz.1 dX10_readAttribute_133 (Nat.le_of_ble_eq_true rfl) (Nat.le_of_ble_eq_true rfl) w
def vX10_readAttribute_b104 (t0 : Nat)  (Qn : Int32 → gH → Prop) (h : gH) (s0 : Int32) : Prop := gZ s0 ∧ Qn s0 h
set_option maxRecDepth 100000 in
set_option maxHeartbeats 4000000 in
theorem tX10_readAttribute_b104 {p : Program} {l : Launch} {e : Env} {s : State} {m : MethodId} {args : Array Value} {below : List Frame} {meth : Method} {c : Code} {G : gG} {A : Nat → Prop} {Qn : Int32 → gH → Prop} (X : gC p l s m args meth c G A cX10_readAttribute 2 (some FieldType.boolean) RX10)   {h : gH} {s0 : Int32} (w : vX10_readAttribute_b104 G.2.2.1  Qn h s0) : V p l e rmX10_readAttribute s m args below meth c (MQ below (va_Qi Qn (gB G A) A) args s rmX10_readAttribute.cells rmX10_readAttribute.slots A) G A 2 h 0 0 104 [] [.int s0] := by
  obtain ⟨hz, w⟩ := w
  exact V_zret X rfl hz.1 dX10_readAttribute_104 (Nat.le_of_ble_eq_true rfl) (Nat.le_of_ble_eq_true rfl) w
def vX10_readAttribute_b74 (t0 : Nat)  (Qn : Int32 → gH → Prop) (h : gH) (s0 : Int32) : Prop := gZ s0 ∧ Qn s0 h
set_option maxRecDepth 100000 in
set_option maxHeartbeats 4000000 in
theorem tX10_readAttribute_b74 {p : Program} {l : Launch} {e : Env} {s : State} {m : MethodId} {args : Array Value} {below : List Frame} {meth : Method} {c : Code} {G : gG} {A : Nat → Prop} {Qn : Int32 → gH → Prop} (X : gC p l s m args meth c G A cX10_readAttribute 2 (some FieldType.boolean) RX10)   {h : gH} {s0 : Int32} (w : vX10_readAttribute_b74 G.2.2.1  Qn h s0) : V p l e rmX10_readAttribute s m args below meth c (MQ below (va_Qi Qn (gB G A) A) args s rmX10_readAttribute.cells rmX10_readAttribute.slots A) G A 2 h 0 0 74 [] [.int s0] := by
  obtain ⟨hz, w⟩ := w
  exact V_zret X rfl hz.1 dX10_readAttribute_74 (Nat.le_of_ble_eq_true rfl) (Nat.le_of_ble_eq_true rfl) w
def vX10_readAttribute (t0 : Nat)  (Qn : Int32 → gH → Prop) (h : gH) (v0 : Nat) (v1 : Int32) : Prop := ((v1 : Int32).toInt = 33 → (gr h v0 13 4 (fun r1 => io h v0 13 (vX10_readNumber t0 (fun x3 h2 => nn r1 (fun a4 => pv h2 a4 12 6 (.int x3) (fun h5 => gr h5 v0 13 4 (fun r6 => nn r6 (fun a7 => gi h5 a7 12 6 (fun x8 => (((x8 : Int32) = (-1)) → (vX10_readAttribute_b133 t0  Qn h5 0)) ∧ ((¬ (x8 : Int32) = (-1)) → (vX10_readAttribute_b133 t0  Qn h5 1)))))))) h v0 4)))) ∧ ((v1 : Int32).toInt = 43 → (gr h v0 13 4 (fun r9 => io h v0 13 (vX10_readNumber t0 (fun x11 h10 => nn r9 (fun a12 => pv h10 a12 12 5 (.int x11) (fun h13 => gr h13 v0 13 4 (fun r14 => nn r14 (fun a15 => gi h13 a15 12 5 (fun x16 => (((x16 : Int32) = (-1)) → (vX10_readAttribute_b104 t0  Qn h13 0)) ∧ ((¬ (x16 : Int32) = (-1)) → (vX10_readAttribute_b104 t0  Qn h13 1)))))))) h v0 99)))) ∧ ((v1 : Int32).toInt = 64 → (gr h v0 13 4 (fun r17 => io h v0 13 (vX10_readNumber t0 (fun x19 h18 => nn r17 (fun a20 => pv h18 a20 12 4 (.int x19) (fun h21 => gr h21 v0 13 4 (fun r22 => nn r22 (fun a23 => gi h21 a23 12 4 (fun x24 => (((x24 : Int32) = (-1)) → (vX10_readAttribute_b74 t0  Qn h21 0)) ∧ ((¬ (x24 : Int32) = (-1)) → (vX10_readAttribute_b74 t0  Qn h21 1)))))))) h v0 300)))) ∧ ((v1 : Int32).toInt = 111 → (gr h v0 13 4 (fun r25 => nn r25 (fun a26 => pv h a26 12 7 (.int 1) (fun h27 => Qn 1 h27))))) ∧ ((¬ (v1 : Int32).toInt = 33 ∧ ¬ (v1 : Int32).toInt = 43 ∧ ¬ (v1 : Int32).toInt = 64 ∧ ¬ (v1 : Int32).toInt = 111) → (io h v0 13 (vX10_readCondition t0 (fun x29 h28 => gZ x29 ∧ Qn x29 h28) h v0 )))
set_option maxRecDepth 100000 in
set_option maxHeartbeats 4000000 in
theorem tX10_readAttribute {p : Program} {l : Launch} {e : Env} {s : State} {m : MethodId} {args : Array Value} {below : List Frame} {meth : Method} {c : Code} {G : gG} {A : Nat → Prop} {Qn : Int32 → gH → Prop} (X : gC p l s m args meth c G A cX10_readAttribute 2 (some FieldType.boolean) RX10)   {h : gH} {v0 : Nat} {v1 : Int32} (w : vX10_readAttribute G.2.2.1  Qn h v0 v1) : V p l e rmX10_readAttribute s m args below meth c (MQ below (va_Qi Qn (gB G A) A) args s rmX10_readAttribute.cells rmX10_readAttribute.slots A) G A 2 h 0 0 0 [(0, .ref v0), (1, .int v1)] [] := by
  refine V_iload_n X dX10_readAttribute_0 1 rfl ?_
  obtain ⟨w0, w1, w2, w3, w4⟩ := w
  rcases (show (v1 : Int32).toInt = 33 ∨ (v1 : Int32).toInt = 43 ∨ (v1 : Int32).toInt = 64 ∨ (v1 : Int32).toInt = 111 ∨ (¬ (v1 : Int32).toInt = 33 ∧ ¬ (v1 : Int32).toInt = 43 ∧ ¬ (v1 : Int32).toInt = 64 ∧ ¬ (v1 : Int32).toInt = 111) by omega) with z | z | z | z | z
  · refine V_lookup (tgt := 105) X dX10_readAttribute_1 (by decide) (by rw [z] <;> rfl) (by decide) ?_
    replace w := w0 z
    clear w0 w1 w2 w3 w4
    refine V_aloadr_n X dX10_readAttribute_105 0 rfl ?_
    obtain ⟨fs, r1, hh, hv, w⟩ := w
    refine V_get X flX10_30 dX10_readAttribute_106 hh hv ?_
    refine V_aloadr_n X dX10_readAttribute_109 0 rfl ?_
    refine V_iconst (y := 4) X dX10_readAttribute_110 (by decide) ?_
    obtain ⟨fs, hh, w⟩ := w
    refine V_callVi (As := [.int 4]) (rest := [va_rf r1]) (k1 := 0) (n1 := 0) X (cX10_readNumber_ok X.2.2.2.2.2.2.2.2.1 w) lkX10_80 hh (q9 := (RX10, TX10, 5)) rfl rfl dX10_readAttribute_111 ⟨Nat.le_of_ble_eq_true rfl, Nat.le_of_ble_eq_true rfl⟩ rfl (va_len _ 4 (Nat.le_of_ble_eq_true rfl)) ⟨Nat.le_of_ble_eq_true rfl, Nat.le_of_ble_eq_true rfl⟩ (Nat.le_of_ble_eq_true rfl) (Nat.le_of_ble_eq_true rfl) (fun x3 h2 w9 => ?_)
    replace w := w9
    clear w9
    obtain ⟨a4, rfl, w⟩ := w
    obtain ⟨fs, hh, hv, w⟩ := w
    refine V_put X flX10_109 dX10_readAttribute_114 hh hv rfl rfl ?_
    generalize va_up _ _ _ = h5 at w ⊢
    refine V_aloadr_n X dX10_readAttribute_117 0 rfl ?_
    obtain ⟨fs, r6, hh, hv, w⟩ := w
    refine V_get X flX10_30 dX10_readAttribute_118 hh hv ?_
    obtain ⟨a7, rfl, w⟩ := w
    obtain ⟨fs, x8, hh, hv, w⟩ := w
    refine V_get X flX10_109 dX10_readAttribute_121 hh hv ?_
    refine V_iconst (y := (-1)) X dX10_readAttribute_124 (by decide) ?_
    obtain ⟨w1, w2⟩ := w
    refine V_icmp_eq (tgt := 132) X dX10_readAttribute_125 (by decide) (fun z => ?_) (fun z => ?_)
    · replace w := w1 z
      clear w1 w2
      refine V_iconst (y := 0) X dX10_readAttribute_132 (by decide) ?_
      exact V.sub [] rfl (tX10_readAttribute_b133 X  w)
    · replace w := w2 z
      clear w1 w2
      refine V_iconst (y := 1) X dX10_readAttribute_128 (by decide) ?_
      refine V_goto (tgt := 133) X dX10_readAttribute_129 (by decide) ?_
      exact V.sub [] rfl (tX10_readAttribute_b133 X  w)
  · refine V_lookup (tgt := 75) X dX10_readAttribute_1 (by decide) (by rw [z] <;> rfl) (by decide) ?_
    replace w := w1 z
    clear w0 w1 w2 w3 w4
    refine V_aloadr_n X dX10_readAttribute_75 0 rfl ?_
    obtain ⟨fs, r9, hh, hv, w⟩ := w
    refine V_get X flX10_30 dX10_readAttribute_76 hh hv ?_
    refine V_aloadr_n X dX10_readAttribute_79 0 rfl ?_
    refine V_bipush (y := 99) X dX10_readAttribute_80 (by decide) ?_
    obtain ⟨fs, hh, w⟩ := w
    refine V_callVi (As := [.int 99]) (rest := [va_rf r9]) (k1 := 0) (n1 := 0) X (cX10_readNumber_ok X.2.2.2.2.2.2.2.2.1 w) lkX10_80 hh (q9 := (RX10, TX10, 5)) rfl rfl dX10_readAttribute_82 ⟨Nat.le_of_ble_eq_true rfl, Nat.le_of_ble_eq_true rfl⟩ rfl (va_len _ 4 (Nat.le_of_ble_eq_true rfl)) ⟨Nat.le_of_ble_eq_true rfl, Nat.le_of_ble_eq_true rfl⟩ (Nat.le_of_ble_eq_true rfl) (Nat.le_of_ble_eq_true rfl) (fun x11 h10 w9 => ?_)
    replace w := w9
    clear w9
    obtain ⟨a12, rfl, w⟩ := w
    obtain ⟨fs, hh, hv, w⟩ := w
    refine V_put X flX10_106 dX10_readAttribute_85 hh hv rfl rfl ?_
    generalize va_up _ _ _ = h13 at w ⊢
    refine V_aloadr_n X dX10_readAttribute_88 0 rfl ?_
    obtain ⟨fs, r14, hh, hv, w⟩ := w
    refine V_get X flX10_30 dX10_readAttribute_89 hh hv ?_
    obtain ⟨a15, rfl, w⟩ := w
    obtain ⟨fs, x16, hh, hv, w⟩ := w
    refine V_get X flX10_106 dX10_readAttribute_92 hh hv ?_
    refine V_iconst (y := (-1)) X dX10_readAttribute_95 (by decide) ?_
    obtain ⟨w1, w2⟩ := w
    refine V_icmp_eq (tgt := 103) X dX10_readAttribute_96 (by decide) (fun z => ?_) (fun z => ?_)
    · replace w := w1 z
      clear w1 w2
      refine V_iconst (y := 0) X dX10_readAttribute_103 (by decide) ?_
      exact V.sub [] rfl (tX10_readAttribute_b104 X  w)
    · replace w := w2 z
      clear w1 w2
      refine V_iconst (y := 1) X dX10_readAttribute_99 (by decide) ?_
      refine V_goto (tgt := 104) X dX10_readAttribute_100 (by decide) ?_
      exact V.sub [] rfl (tX10_readAttribute_b104 X  w)
  · refine V_lookup (tgt := 44) X dX10_readAttribute_1 (by decide) (by rw [z] <;> rfl) (by decide) ?_
    replace w := w2 z
    clear w0 w1 w2 w3 w4
    refine V_aloadr_n X dX10_readAttribute_44 0 rfl ?_
    obtain ⟨fs, r17, hh, hv, w⟩ := w
    refine V_get X flX10_30 dX10_readAttribute_45 hh hv ?_
    refine V_aloadr_n X dX10_readAttribute_48 0 rfl ?_
    refine V_sipush (y := 300) X dX10_readAttribute_49 (by decide) ?_
    obtain ⟨fs, hh, w⟩ := w
    refine V_callVi (As := [.int 300]) (rest := [va_rf r17]) (k1 := 0) (n1 := 0) X (cX10_readNumber_ok X.2.2.2.2.2.2.2.2.1 w) lkX10_80 hh (q9 := (RX10, TX10, 5)) rfl rfl dX10_readAttribute_52 ⟨Nat.le_of_ble_eq_true rfl, Nat.le_of_ble_eq_true rfl⟩ rfl (va_len _ 4 (Nat.le_of_ble_eq_true rfl)) ⟨Nat.le_of_ble_eq_true rfl, Nat.le_of_ble_eq_true rfl⟩ (Nat.le_of_ble_eq_true rfl) (Nat.le_of_ble_eq_true rfl) (fun x19 h18 w9 => ?_)
    replace w := w9
    clear w9
    obtain ⟨a20, rfl, w⟩ := w
    obtain ⟨fs, hh, hv, w⟩ := w
    refine V_put X flX10_103 dX10_readAttribute_55 hh hv rfl rfl ?_
    generalize va_up _ _ _ = h21 at w ⊢
    refine V_aloadr_n X dX10_readAttribute_58 0 rfl ?_
    obtain ⟨fs, r22, hh, hv, w⟩ := w
    refine V_get X flX10_30 dX10_readAttribute_59 hh hv ?_
    obtain ⟨a23, rfl, w⟩ := w
    obtain ⟨fs, x24, hh, hv, w⟩ := w
    refine V_get X flX10_103 dX10_readAttribute_62 hh hv ?_
    refine V_iconst (y := (-1)) X dX10_readAttribute_65 (by decide) ?_
    obtain ⟨w1, w2⟩ := w
    refine V_icmp_eq (tgt := 73) X dX10_readAttribute_66 (by decide) (fun z => ?_) (fun z => ?_)
    · replace w := w1 z
      clear w1 w2
      refine V_iconst (y := 0) X dX10_readAttribute_73 (by decide) ?_
      exact V.sub [] rfl (tX10_readAttribute_b74 X  w)
    · replace w := w2 z
      clear w1 w2
      refine V_iconst (y := 1) X dX10_readAttribute_69 (by decide) ?_
      refine V_goto (tgt := 74) X dX10_readAttribute_70 (by decide) ?_
      exact V.sub [] rfl (tX10_readAttribute_b74 X  w)
  · refine V_lookup (tgt := 134) X dX10_readAttribute_1 (by decide) (by rw [z] <;> rfl) (by decide) ?_
    replace w := w3 z
    clear w0 w1 w2 w3 w4
    refine V_aloadr_n X dX10_readAttribute_134 0 rfl ?_
    obtain ⟨fs, r25, hh, hv, w⟩ := w
    refine V_get X flX10_30 dX10_readAttribute_135 hh hv ?_
    refine V_iconst (y := 1) X dX10_readAttribute_138 (by decide) ?_
    obtain ⟨a26, rfl, w⟩ := w
    obtain ⟨fs, hh, hv, w⟩ := w
    refine V_put X flX10_112 dX10_readAttribute_139 hh hv rfl rfl ?_
    generalize va_up _ _ _ = h27 at w ⊢
    refine V_iconst (y := 1) X dX10_readAttribute_142 (by decide) ?_
    exact V_zret X rfl rfl dX10_readAttribute_143 (Nat.le_of_ble_eq_true rfl) (Nat.le_of_ble_eq_true rfl) w
  · refine V_lookup (off := 143) (tgt := 144) X dX10_readAttribute_1 (by decide) (by simp [Op.lookupswitch.offset]; (repeat split) <;> omega) (by decide) ?_
    replace w := w4 z
    clear w0 w1 w2 w3 w4
    refine V_aloadr_n X dX10_readAttribute_144 0 rfl ?_
    obtain ⟨fs, hh, w⟩ := w
    refine V_callVi (As := []) (rest := []) (k1 := 0) (n1 := 0) X (cX10_readCondition_ok X.2.2.2.2.2.2.2.2.1 w) lkX10_116 hh (q9 := (RX10, TX10, 5)) rfl rfl dX10_readAttribute_145 ⟨Nat.le_of_ble_eq_true rfl, Nat.le_of_ble_eq_true rfl⟩ rfl (Nat.le_of_ble_eq_true rfl) ⟨Nat.le_of_ble_eq_true rfl, Nat.le_of_ble_eq_true rfl⟩ (Nat.le_of_ble_eq_true rfl) (Nat.le_of_ble_eq_true rfl) (fun x29 h28 w9 => ?_)
    replace w := w9
    clear w9
    obtain ⟨hz, w⟩ := w
    exact V_zret X rfl hz.1 dX10_readAttribute_148 (Nat.le_of_ble_eq_true rfl) (Nat.le_of_ble_eq_true rfl) w
theorem cX10_readAttribute_ok {l : Launch} {G : gG} {h : gH} (hls : l.stackTraces = false) {Qn : Int32 → gH → Prop} {v0 : Nat} {v1 : Int32} (w : vX10_readAttribute G.2.2.1 Qn h v0 v1) : gMi l yX10_readAttribute cX10_readAttribute 2 (some FieldType.boolean) rmX10_readAttribute rmX10_readAttribute.cells rmX10_readAttribute.slots G h [.ref v0, .int v1] Qn := by
  exact gMi.of (by decide +kernel) hls (Nat.le_of_ble_eq_true rfl) rfl rfl (fun p e s m below meth c A X hnm => tX10_readAttribute X w)
/-! AnimationController$TransitionText.readAttributes()Z -/
abbrev rmX10_readAttributes : Room := { frames := 4, cells := 0, slots := 0, locals := 91 }
def vX10_readAttributes_b93 (t0 : Nat)  (Qn : Int32 → gH → Prop) (h : gH)  : Prop := Qn 0 h
set_option maxRecDepth 100000 in
set_option maxHeartbeats 4000000 in
theorem tX10_readAttributes_b93 {p : Program} {l : Launch} {e : Env} {s : State} {m : MethodId} {args : Array Value} {below : List Frame} {meth : Method} {c : Code} {G : gG} {A : Nat → Prop} {Qn : Int32 → gH → Prop} (X : gC p l s m args meth c G A cX10_readAttributes 7 (some FieldType.boolean) RX10)   {h : gH}  (w : vX10_readAttributes_b93 G.2.2.1  Qn h ) : V p l e rmX10_readAttributes s m args below meth c (MQ below (va_Qi Qn (gB G A) A) args s rmX10_readAttributes.cells rmX10_readAttributes.slots A) G A 7 h 0 0 93 [] [] := by
  refine V_iconst (y := 0) X dX10_readAttributes_93 (by decide) ?_
  exact V_zret X rfl rfl dX10_readAttributes_94 (Nat.le_of_ble_eq_true rfl) (Nat.le_of_ble_eq_true rfl) w
def vX10_readAttributes_b106 (t0 : Nat) (k4 : gH → Nat → Int32 → Int32 → Prop) (Qn : Int32 → gH → Prop) (h : gH) (v0 : Nat) (v1 : Int32) (v2 : Int32) (v3 : Int32) : Prop := gi h v0 13 3 (fun x1 => pv h v0 13 3 (.int (x1 + 1)) (fun h2 => io h2 v0 13 (vX10_readAttribute t0 (fun x4 h3 => ((¬ (x4 : Int32) = 0) → (k4 h3 v0 v1 (v2 + 1))) ∧ (((x4 : Int32) = 0) → (Qn 0 h3))) h2 v0 v3)))
set_option maxRecDepth 100000 in
set_option maxHeartbeats 4000000 in
theorem tX10_readAttributes_b106 {p : Program} {l : Launch} {e : Env} {s : State} {m : MethodId} {args : Array Value} {below : List Frame} {meth : Method} {c : Code} {G : gG} {A : Nat → Prop} {Qn : Int32 → gH → Prop} (X : gC p l s m args meth c G A cX10_readAttributes 7 (some FieldType.boolean) RX10) {k4 : gH → Nat → Int32 → Int32 → Prop} (H4 : ∀ (h : gH) (v0 : Nat) (v1 : Int32) (v2 : Int32), k4 h v0 v1 v2 → V p l e rmX10_readAttributes s m args below meth c (MQ below (va_Qi Qn (gB G A) A) args s rmX10_readAttributes.cells rmX10_readAttributes.slots A) G A 7 h 0 0 4 [(0, .ref v0), (1, .int v1), (2, .int v2)] []) {h : gH} {v0 : Nat} {v1 : Int32} {v2 : Int32} {v3 : Int32} (w : vX10_readAttributes_b106 G.2.2.1 k4 Qn h v0 v1 v2 v3) : V p l e rmX10_readAttributes s m args below meth c (MQ below (va_Qi Qn (gB G A) A) args s rmX10_readAttributes.cells rmX10_readAttributes.slots A) G A 7 h 0 0 106 [(0, .ref v0), (1, .int v1), (2, .int v2), (3, .int v3)] [] := by
  refine V_aloadr_n X dX10_readAttributes_106 0 rfl ?_
  refine V_dup X dX10_readAttributes_107 rfl ?_
  obtain ⟨fs, x1, hh, hv, w⟩ := w
  refine V_get X flX10_34 dX10_readAttributes_108 hh hv ?_
  refine V_iconst (y := 1) X dX10_readAttributes_111 (by decide) ?_
  refine V_iadd X dX10_readAttributes_112 ?_
  obtain ⟨fs, hh, hv, w⟩ := w
  refine V_put X flX10_34 dX10_readAttributes_113 hh hv rfl rfl ?_
  generalize va_up _ _ _ = h2 at w ⊢
  refine V_aloadr_n X dX10_readAttributes_116 0 rfl ?_
  refine V_iload_n X dX10_readAttributes_117 3 rfl ?_
  obtain ⟨fs, hh, w⟩ := w
  refine V_callVi (As := [.int v3]) (rest := []) (k1 := 0) (n1 := 0) X (cX10_readAttribute_ok X.2.2.2.2.2.2.2.2.1 w) lkX10_100 hh (q9 := (RX10, TX10, 5)) rfl rfl dX10_readAttributes_118 ⟨Nat.le_of_ble_eq_true rfl, Nat.le_of_ble_eq_true rfl⟩ rfl (Nat.le_of_ble_eq_true rfl) ⟨Nat.le_of_ble_eq_true rfl, Nat.le_of_ble_eq_true rfl⟩ (Nat.le_of_ble_eq_true rfl) (Nat.le_of_ble_eq_true rfl) (fun x4 h3 w9 => ?_)
  replace w := w9
  clear w9
  obtain ⟨w1, w2⟩ := w
  refine V_if_ne (tgt := 126) X dX10_readAttributes_121 (by decide) (fun z => ?_) (fun z => ?_)
  · replace w := w1 z
    clear w1 w2
    refine V_iinc (y := (v2 + 1)) X dX10_readAttributes_126 2 rfl (by first | rfl | (congr 1)) (by decide) rfl ?_
    refine V_goto (tgt := 4) X dX10_readAttributes_129 (by decide) ?_
    exact V.sub [1, 2, 0] rfl (H4 _ _ _ _ w)
  · replace w := w2 z
    clear w1 w2
    refine V_iconst (y := 0) X dX10_readAttributes_124 (by decide) ?_
    exact V_zret X rfl rfl dX10_readAttributes_125 (Nat.le_of_ble_eq_true rfl) (Nat.le_of_ble_eq_true rfl) w
def vX10_readAttributes_b74 (t0 : Nat) (k4 : gH → Nat → Int32 → Int32 → Prop) (Qn : Int32 → gH → Prop) (h : gH) (v0 : Nat) (v1 : Int32) (v2 : Int32) (v3 : Int32) (v4 : Int32) (v5 : Int32) (s0 : Int32) : Prop := ((¬ ((v1 &&& v4) : Int32) = 0) → (vX10_readAttributes_b93 t0  Qn h )) ∧ ((((v1 &&& v4) : Int32) = 0) → (((¬ (v5 : Int32) = 0) → (vX10_readAttributes_b93 t0  Qn h )) ∧ (((v5 : Int32) = 0) → ((((s0 : Int32) = 0) → ((((v3 : Int32) = 63) → (vX10_readAttributes_b106 t0 k4 Qn h v0 v1 v2 v3)) ∧ ((¬ (v3 : Int32) = 63) → (vX10_readAttributes_b106 t0 k4 Qn h v0 (v1 ||| v4) v2 v3)))) ∧ ((¬ (s0 : Int32) = 0) → (vX10_readAttributes_b93 t0  Qn h ))))))
set_option maxRecDepth 100000 in
set_option maxHeartbeats 4000000 in
theorem tX10_readAttributes_b74 {p : Program} {l : Launch} {e : Env} {s : State} {m : MethodId} {args : Array Value} {below : List Frame} {meth : Method} {c : Code} {G : gG} {A : Nat → Prop} {Qn : Int32 → gH → Prop} (X : gC p l s m args meth c G A cX10_readAttributes 7 (some FieldType.boolean) RX10) {k4 : gH → Nat → Int32 → Int32 → Prop} (H4 : ∀ (h : gH) (v0 : Nat) (v1 : Int32) (v2 : Int32), k4 h v0 v1 v2 → V p l e rmX10_readAttributes s m args below meth c (MQ below (va_Qi Qn (gB G A) A) args s rmX10_readAttributes.cells rmX10_readAttributes.slots A) G A 7 h 0 0 4 [(0, .ref v0), (1, .int v1), (2, .int v2)] []) {h : gH} {v0 : Nat} {v1 : Int32} {v2 : Int32} {v3 : Int32} {v4 : Int32} {v5 : Int32} {s0 : Int32} (w : vX10_readAttributes_b74 G.2.2.1 k4 Qn h v0 v1 v2 v3 v4 v5 s0) : V p l e rmX10_readAttributes s m args below meth c (MQ below (va_Qi Qn (gB G A) A) args s rmX10_readAttributes.cells rmX10_readAttributes.slots A) G A 7 h 0 0 74 [(0, .ref v0), (1, .int v1), (2, .int v2), (3, .int v3), (4, .int v4), (5, .int v5)] [.int s0] := by
  refine V_istore X dX10_readAttributes_74 (by decide) rfl ?_
  refine V_iload_n X dX10_readAttributes_76 2 rfl ?_
  refine V_iload X dX10_readAttributes_77 5 rfl ?_
  refine V_iand X dX10_readAttributes_79 ?_
  obtain ⟨w1, w2⟩ := w
  refine V_if_ne (tgt := 93) X dX10_readAttributes_80 (by decide) (fun z => ?_) (fun z => ?_)
  · replace w := w1 z
    clear w1 w2
    exact V.sub [] rfl (tX10_readAttributes_b93 X  w)
  · replace w := w2 z
    clear w1 w2
    refine V_iload X dX10_readAttributes_83 6 rfl ?_
    obtain ⟨w1, w2⟩ := w
    refine V_if_ne (tgt := 93) X dX10_readAttributes_85 (by decide) (fun z => ?_) (fun z => ?_)
    · replace w := w1 z
      clear w1 w2
      exact V.sub [] rfl (tX10_readAttributes_b93 X  w)
    · replace w := w2 z
      clear w1 w2
      refine V_iload X dX10_readAttributes_88 0 rfl ?_
      obtain ⟨w1, w2⟩ := w
      refine V_if_eq (tgt := 95) X dX10_readAttributes_90 (by decide) (fun z => ?_) (fun z => ?_)
      · replace w := w1 z
        clear w1 w2
        refine V_iload_n X dX10_readAttributes_95 4 rfl ?_
        refine V_bipush (y := 63) X dX10_readAttributes_96 (by decide) ?_
        obtain ⟨w1, w2⟩ := w
        refine V_icmp_eq (tgt := 106) X dX10_readAttributes_98 (by decide) (fun z => ?_) (fun z => ?_)
        · replace w := w1 z
          clear w1 w2
          exact V.sub [1, 2, 3, 4] rfl (tX10_readAttributes_b106 X H4 w)
        · replace w := w2 z
          clear w1 w2
          refine V_iload_n X dX10_readAttributes_101 2 rfl ?_
          refine V_iload X dX10_readAttributes_102 5 rfl ?_
          refine V_ior X dX10_readAttributes_104 ?_
          refine V_istore_n (i0 := 1) X dX10_readAttributes_105 rfl (by decide) rfl ?_
          exact V.sub [2, 0, 3, 4] rfl (tX10_readAttributes_b106 X H4 w)
      · replace w := w2 z
        clear w1 w2
        exact V.sub [] rfl (tX10_readAttributes_b93 X  w)
def vX10_readAttributes_b73 (t0 : Nat) (k4 : gH → Nat → Int32 → Int32 → Prop) (Qn : Int32 → gH → Prop) (h : gH) (v0 : Nat) (v1 : Int32) (v2 : Int32) (v3 : Int32) (v4 : Int32) (v5 : Int32) : Prop := vX10_readAttributes_b74 t0 k4 Qn h v0 v1 v2 v3 v4 v5 0
set_option maxRecDepth 100000 in
set_option maxHeartbeats 4000000 in
theorem tX10_readAttributes_b73 {p : Program} {l : Launch} {e : Env} {s : State} {m : MethodId} {args : Array Value} {below : List Frame} {meth : Method} {c : Code} {G : gG} {A : Nat → Prop} {Qn : Int32 → gH → Prop} (X : gC p l s m args meth c G A cX10_readAttributes 7 (some FieldType.boolean) RX10) {k4 : gH → Nat → Int32 → Int32 → Prop} (H4 : ∀ (h : gH) (v0 : Nat) (v1 : Int32) (v2 : Int32), k4 h v0 v1 v2 → V p l e rmX10_readAttributes s m args below meth c (MQ below (va_Qi Qn (gB G A) A) args s rmX10_readAttributes.cells rmX10_readAttributes.slots A) G A 7 h 0 0 4 [(0, .ref v0), (1, .int v1), (2, .int v2)] []) {h : gH} {v0 : Nat} {v1 : Int32} {v2 : Int32} {v3 : Int32} {v4 : Int32} {v5 : Int32} (w : vX10_readAttributes_b73 G.2.2.1 k4 Qn h v0 v1 v2 v3 v4 v5) : V p l e rmX10_readAttributes s m args below meth c (MQ below (va_Qi Qn (gB G A) A) args s rmX10_readAttributes.cells rmX10_readAttributes.slots A) G A 7 h 0 0 73 [(0, .ref v0), (1, .int v1), (2, .int v2), (3, .int v3), (4, .int v4), (5, .int v5)] [] := by
  refine V_iconst (y := 0) X dX10_readAttributes_73 (by decide) ?_
  exact V.sub [0, 1, 2, 3, 4, 5] rfl (tX10_readAttributes_b74 X H4 w)
def vX10_readAttributes_b50 (t0 : Nat) (k4 : gH → Nat → Int32 → Int32 → Prop) (Qn : Int32 → gH → Prop) (h : gH) (v0 : Nat) (v1 : Int32) (v2 : Int32) (v3 : Int32) (v4 : Int32) (s0 : Int32) : Prop := ((¬ (v3 : Int32) = 63) → (vX10_readAttributes_b73 t0 k4 Qn h v0 v1 v2 v3 v4 s0)) ∧ (((v3 : Int32) = 63) → (gr h v0 13 4 (fun r1 => nn r1 (fun a2 => gi h a2 12 11 (fun x3 => (((x3 : Int32) < 3) → (vX10_readAttributes_b73 t0 k4 Qn h v0 v1 v2 v3 v4 s0)) ∧ ((¬ (x3 : Int32) < 3) → (vX10_readAttributes_b74 t0 k4 Qn h v0 v1 v2 v3 v4 s0 1)))))))
set_option maxRecDepth 100000 in
set_option maxHeartbeats 4000000 in
theorem tX10_readAttributes_b50 {p : Program} {l : Launch} {e : Env} {s : State} {m : MethodId} {args : Array Value} {below : List Frame} {meth : Method} {c : Code} {G : gG} {A : Nat → Prop} {Qn : Int32 → gH → Prop} (X : gC p l s m args meth c G A cX10_readAttributes 7 (some FieldType.boolean) RX10) {k4 : gH → Nat → Int32 → Int32 → Prop} (H4 : ∀ (h : gH) (v0 : Nat) (v1 : Int32) (v2 : Int32), k4 h v0 v1 v2 → V p l e rmX10_readAttributes s m args below meth c (MQ below (va_Qi Qn (gB G A) A) args s rmX10_readAttributes.cells rmX10_readAttributes.slots A) G A 7 h 0 0 4 [(0, .ref v0), (1, .int v1), (2, .int v2)] []) {h : gH} {v0 : Nat} {v1 : Int32} {v2 : Int32} {v3 : Int32} {v4 : Int32} {s0 : Int32} (w : vX10_readAttributes_b50 G.2.2.1 k4 Qn h v0 v1 v2 v3 v4 s0) : V p l e rmX10_readAttributes s m args below meth c (MQ below (va_Qi Qn (gB G A) A) args s rmX10_readAttributes.cells rmX10_readAttributes.slots A) G A 7 h 0 0 50 [(0, .ref v0), (1, .int v1), (2, .int v2), (3, .int v3), (4, .int v4)] [.int s0] := by
  refine V_istore X dX10_readAttributes_50 (by decide) rfl ?_
  refine V_iload_n X dX10_readAttributes_52 4 rfl ?_
  refine V_bipush (y := 63) X dX10_readAttributes_53 (by decide) ?_
  obtain ⟨w1, w2⟩ := w
  refine V_icmp_ne (tgt := 73) X dX10_readAttributes_55 (by decide) (fun z => ?_) (fun z => ?_)
  · replace w := w1 z
    clear w1 w2
    exact V.sub [1, 2, 3, 4, 5, 0] rfl (tX10_readAttributes_b73 X H4 w)
  · replace w := w2 z
    clear w1 w2
    refine V_aloadr_n X dX10_readAttributes_58 1 rfl ?_
    obtain ⟨fs, r1, hh, hv, w⟩ := w
    refine V_get X flX10_30 dX10_readAttributes_59 hh hv ?_
    obtain ⟨a2, rfl, w⟩ := w
    obtain ⟨fs, x3, hh, hv, w⟩ := w
    refine V_get X flX10_97 dX10_readAttributes_62 hh hv ?_
    refine V_iconst (y := 3) X dX10_readAttributes_65 (by decide) ?_
    obtain ⟨w1, w2⟩ := w
    refine V_icmp_lt (tgt := 73) X dX10_readAttributes_66 (by decide) (fun z => ?_) (fun z => ?_)
    · replace w := w1 z
      clear w1 w2
      exact V.sub [1, 2, 3, 4, 5, 0] rfl (tX10_readAttributes_b73 X H4 w)
    · replace w := w2 z
      clear w1 w2
      refine V_iconst (y := 1) X dX10_readAttributes_69 (by decide) ?_
      refine V_goto (tgt := 74) X dX10_readAttributes_70 (by decide) ?_
      exact V.sub [1, 2, 3, 4, 5, 0] rfl (tX10_readAttributes_b74 X H4 w)
def vX10_readAttributes_b49 (t0 : Nat) (k4 : gH → Nat → Int32 → Int32 → Prop) (Qn : Int32 → gH → Prop) (h : gH) (v0 : Nat) (v1 : Int32) (v2 : Int32) (v3 : Int32) (v4 : Int32) : Prop := vX10_readAttributes_b50 t0 k4 Qn h v0 v1 v2 v3 v4 0
set_option maxRecDepth 100000 in
set_option maxHeartbeats 4000000 in
theorem tX10_readAttributes_b49 {p : Program} {l : Launch} {e : Env} {s : State} {m : MethodId} {args : Array Value} {below : List Frame} {meth : Method} {c : Code} {G : gG} {A : Nat → Prop} {Qn : Int32 → gH → Prop} (X : gC p l s m args meth c G A cX10_readAttributes 7 (some FieldType.boolean) RX10) {k4 : gH → Nat → Int32 → Int32 → Prop} (H4 : ∀ (h : gH) (v0 : Nat) (v1 : Int32) (v2 : Int32), k4 h v0 v1 v2 → V p l e rmX10_readAttributes s m args below meth c (MQ below (va_Qi Qn (gB G A) A) args s rmX10_readAttributes.cells rmX10_readAttributes.slots A) G A 7 h 0 0 4 [(0, .ref v0), (1, .int v1), (2, .int v2)] []) {h : gH} {v0 : Nat} {v1 : Int32} {v2 : Int32} {v3 : Int32} {v4 : Int32} (w : vX10_readAttributes_b49 G.2.2.1 k4 Qn h v0 v1 v2 v3 v4) : V p l e rmX10_readAttributes s m args below meth c (MQ below (va_Qi Qn (gB G A) A) args s rmX10_readAttributes.cells rmX10_readAttributes.slots A) G A 7 h 0 0 49 [(0, .ref v0), (1, .int v1), (2, .int v2), (3, .int v3), (4, .int v4)] [] := by
  refine V_iconst (y := 0) X dX10_readAttributes_49 (by decide) ?_
  exact V.sub [0, 1, 2, 3, 4] rfl (tX10_readAttributes_b50 X H4 w)
def vX10_readAttributes_b4_o (t0 : Nat) (k4 : gH → Nat → Int32 → Int32 → Prop) (Qn : Int32 → gH → Prop) (h : gH) (v0 : Nat) (v1 : Int32) (v2 : Int32) : Prop := ((150 ≤ (v2 : Int32)) → (Qn 1 h)) ∧ ((¬ 150 ≤ (v2 : Int32)) → (io h v0 13 (vX10_nextByte t0 (fun x2 h1 => vX10_markOf t0 (fun x4 h3 => ((¬ (x4 : Int32) = 0) → (((¬ (x2 : Int32) = 64) → (vX10_readAttributes_b49 t0 k4 Qn h3 v0 v1 v2 x2 x4)) ∧ (((x2 : Int32) = 64) → (gr h3 v0 13 4 (fun r5 => nn r5 (fun a6 => gr h3 a6 12 1 (fun r7 => ((r7) = none → (vX10_readAttributes_b50 t0 k4 Qn h3 v0 v1 v2 x2 x4 1)) ∧ (∀ a8 : Nat, (r7) = some a8 → (vX10_readAttributes_b49 t0 k4 Qn h3 v0 v1 v2 x2 x4))))))))) ∧ (((x4 : Int32) = 0) → (Qn 1 h3))) h1 x2) h v0 )))
set_option maxRecDepth 100000 in
set_option maxHeartbeats 4000000 in
theorem tX10_readAttributes_b4_o {p : Program} {l : Launch} {e : Env} {s : State} {m : MethodId} {args : Array Value} {below : List Frame} {meth : Method} {c : Code} {G : gG} {A : Nat → Prop} {Qn : Int32 → gH → Prop} (X : gC p l s m args meth c G A cX10_readAttributes 7 (some FieldType.boolean) RX10) {k4 : gH → Nat → Int32 → Int32 → Prop} (H4 : ∀ (h : gH) (v0 : Nat) (v1 : Int32) (v2 : Int32), k4 h v0 v1 v2 → V p l e rmX10_readAttributes s m args below meth c (MQ below (va_Qi Qn (gB G A) A) args s rmX10_readAttributes.cells rmX10_readAttributes.slots A) G A 7 h 0 0 4 [(0, .ref v0), (1, .int v1), (2, .int v2)] []) {h : gH} {v0 : Nat} {v1 : Int32} {v2 : Int32} (w : vX10_readAttributes_b4_o G.2.2.1 k4 Qn h v0 v1 v2) : V p l e rmX10_readAttributes s m args below meth c (MQ below (va_Qi Qn (gB G A) A) args s rmX10_readAttributes.cells rmX10_readAttributes.slots A) G A 7 h 0 0 4 [(0, .ref v0), (1, .int v1), (2, .int v2)] [] := by
  refine V_iload_n X dX10_readAttributes_4 2 rfl ?_
  refine V_sipush (y := 150) X dX10_readAttributes_5 (by decide) ?_
  obtain ⟨w1, w2⟩ := w
  refine V_icmp_ge (tgt := 132) X dX10_readAttributes_8 (by decide) (fun z => ?_) (fun z => ?_)
  · replace w := w1 z
    clear w1 w2
    refine V_iconst (y := 1) X dX10_readAttributes_132 (by decide) ?_
    exact V_zret X rfl rfl dX10_readAttributes_133 (Nat.le_of_ble_eq_true rfl) (Nat.le_of_ble_eq_true rfl) w
  · replace w := w2 z
    clear w1 w2
    refine V_aloadr_n X dX10_readAttributes_11 0 rfl ?_
    obtain ⟨fs, hh, w⟩ := w
    refine V_callVi (As := []) (rest := []) (k1 := 0) (n1 := 0) X (cX10_nextByte_ok X.2.2.2.2.2.2.2.2.1 w) lkX10_55 hh (q9 := (RX10, TX10, 5)) rfl rfl dX10_readAttributes_12 ⟨Nat.le_of_ble_eq_true rfl, Nat.le_of_ble_eq_true rfl⟩ rfl (Nat.le_of_ble_eq_true rfl) ⟨Nat.le_of_ble_eq_true rfl, Nat.le_of_ble_eq_true rfl⟩ (Nat.le_of_ble_eq_true rfl) (Nat.le_of_ble_eq_true rfl) (fun x2 h1 w9 => ?_)
    replace w := w9
    clear w9
    refine V_istore_n (i0 := 3) X dX10_readAttributes_15 rfl (by decide) rfl ?_
    refine V_iload_n X dX10_readAttributes_16 0 rfl ?_
    refine V_callSi (As := [.int x2]) (rest := []) (k1 := 0) (n1 := 0) X (cX10_markOf_ok X.2.2.2.2.2.2.2.2.1 w) lkX10_91 dX10_readAttributes_17 ⟨Nat.le_of_ble_eq_true rfl, Nat.le_of_ble_eq_true rfl⟩ rfl (Nat.le_of_ble_eq_true rfl) ⟨Nat.le_of_ble_eq_true rfl, Nat.le_of_ble_eq_true rfl⟩ (Nat.le_of_ble_eq_true rfl) (Nat.le_of_ble_eq_true rfl) (fun x4 h3 w9 => ?_)
    replace w := w9
    clear w9
    refine V_istore X dX10_readAttributes_20 (by decide) rfl ?_
    refine V_iload X dX10_readAttributes_22 0 rfl ?_
    obtain ⟨w1, w2⟩ := w
    refine V_if_ne (tgt := 29) X dX10_readAttributes_24 (by decide) (fun z => ?_) (fun z => ?_)
    · replace w := w1 z
      clear w1 w2
      refine V_iload_n X dX10_readAttributes_29 1 rfl ?_
      refine V_bipush (y := 64) X dX10_readAttributes_30 (by decide) ?_
      obtain ⟨w1, w2⟩ := w
      refine V_icmp_ne (tgt := 49) X dX10_readAttributes_32 (by decide) (fun z => ?_) (fun z => ?_)
      · replace w := w1 z
        clear w1 w2
        exact V.sub [2, 3, 4, 1, 0] rfl (tX10_readAttributes_b49 X H4 w)
      · replace w := w2 z
        clear w1 w2
        refine V_aloadr_n X dX10_readAttributes_35 2 rfl ?_
        obtain ⟨fs, r5, hh, hv, w⟩ := w
        refine V_get X flX10_30 dX10_readAttributes_36 hh hv ?_
        obtain ⟨a6, rfl, w⟩ := w
        obtain ⟨fs, r7, hh, hv, w⟩ := w
        refine V_get X flX10_94 dX10_readAttributes_39 hh hv ?_
        obtain ⟨w1, w2⟩ := w
        refine V_ifnonnull (tgt := 49) X dX10_readAttributes_42 (by decide) (fun a8 z => ?_) (fun z => ?_)
        · replace w := w2 a8 z
          clear w1 w2
          subst z
          exact V.sub [2, 3, 4, 1, 0] rfl (tX10_readAttributes_b49 X H4 w)
        · replace w := w1 z
          clear w1 w2
          subst z
          refine V_iconst (y := 1) X dX10_readAttributes_45 (by decide) ?_
          refine V_goto (tgt := 50) X dX10_readAttributes_46 (by decide) ?_
          exact V.sub [2, 3, 4, 1, 0] rfl (tX10_readAttributes_b50 X H4 w)
    · replace w := w2 z
      clear w1 w2
      refine V_iconst (y := 1) X dX10_readAttributes_27 (by decide) ?_
      exact V_zret X rfl rfl dX10_readAttributes_28 (Nat.le_of_ble_eq_true rfl) (Nat.le_of_ble_eq_true rfl) w
def vX10_readAttributes_b4 (t0 : Nat)  (Qn : Int32 → gH → Prop) (n : Nat) : gH → Nat → Int32 → Int32 → Prop := Nat.rec (motive := fun _ => gH → Nat → Int32 → Int32 → Prop) (fun _ _ _ _ => False) (fun _ k4 => vX10_readAttributes_b4_o t0 k4 Qn) n
theorem tX10_readAttributes_b4 {p : Program} {l : Launch} {e : Env} {s : State} {m : MethodId} {args : Array Value} {below : List Frame} {meth : Method} {c : Code} {G : gG} {A : Nat → Prop} {Qn : Int32 → gH → Prop} (X : gC p l s m args meth c G A cX10_readAttributes 7 (some FieldType.boolean) RX10)   : ∀ (n : Nat) (h : gH) (v0 : Nat) (v1 : Int32) (v2 : Int32) (w : vX10_readAttributes_b4 G.2.2.1  Qn n h v0 v1 v2), V p l e rmX10_readAttributes s m args below meth c (MQ below (va_Qi Qn (gB G A) A) args s rmX10_readAttributes.cells rmX10_readAttributes.slots A) G A 7 h 0 0 4 [(0, .ref v0), (1, .int v1), (2, .int v2)] [] := by
  intro n
  induction n with
  | zero => intro h v0 v1 v2 w; exact False.elim w
  | succ n ih => intro h v0 v1 v2 w; exact tX10_readAttributes_b4_o X ih w
def vX10_readAttributes (t0 : Nat)  (Qn : Int32 → gH → Prop) (h : gH) (v0 : Nat) : Prop := ∃ n : Nat, vX10_readAttributes_b4 t0  Qn n h v0 0 0
set_option maxRecDepth 100000 in
set_option maxHeartbeats 4000000 in
theorem tX10_readAttributes {p : Program} {l : Launch} {e : Env} {s : State} {m : MethodId} {args : Array Value} {below : List Frame} {meth : Method} {c : Code} {G : gG} {A : Nat → Prop} {Qn : Int32 → gH → Prop} (X : gC p l s m args meth c G A cX10_readAttributes 7 (some FieldType.boolean) RX10)   {h : gH} {v0 : Nat} (w : vX10_readAttributes G.2.2.1  Qn h v0) : V p l e rmX10_readAttributes s m args below meth c (MQ below (va_Qi Qn (gB G A) A) args s rmX10_readAttributes.cells rmX10_readAttributes.slots A) G A 7 h 0 0 0 [(0, .ref v0)] [] := by
  refine V_iconst (y := 0) X dX10_readAttributes_0 (by decide) ?_
  refine V_istore_n (i0 := 1) X dX10_readAttributes_1 rfl (by decide) rfl ?_
  refine V_iconst (y := 0) X dX10_readAttributes_2 (by decide) ?_
  refine V_istore_n (i0 := 2) X dX10_readAttributes_3 rfl (by decide) rfl ?_
  obtain ⟨n9, w⟩ := w
  exact V.sub [2, 1, 0] rfl (tX10_readAttributes_b4 X  n9 _ _ _ _ w)
theorem cX10_readAttributes_ok {l : Launch} {G : gG} {h : gH} (hls : l.stackTraces = false) {Qn : Int32 → gH → Prop} {v0 : Nat} (w : vX10_readAttributes G.2.2.1 Qn h v0) : gMi l yX10_readAttributes cX10_readAttributes 7 (some FieldType.boolean) rmX10_readAttributes rmX10_readAttributes.cells rmX10_readAttributes.slots G h [.ref v0] Qn := by
  exact gMi.of (by decide +kernel) hls (Nat.le_of_ble_eq_true rfl) rfl rfl (fun p e s m below meth c A X hnm => tX10_readAttributes X w)
