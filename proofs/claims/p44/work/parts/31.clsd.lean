/-! AnimationController$Model.greatestDepthWith(LAnimationController$Node;LAnimationController$Node;)I -/
abbrev rmX4_greatestDepthWith : Room := { frames := 4, cells := 0, slots := 0, locals := 86 }
def vX4_greatestDepthWith_b66 (t0 : Nat) (k5 : gH → Nat → Option Nat → Option Nat → Int32 → Int32 → Prop) (Qn : Int32 → gH → Prop) (h : gH) (v0 : Nat) (v1 : Option Nat) (v2 : Option Nat) (v3 : Int32) (v4 : Int32) (v5 : Option Nat) : Prop := nn v5 (fun a1 => gi h a1 8 4 (fun x2 => vJ9_max_7cf53 t0 (fun x4 h3 => k5 h3 v0 v1 v2 x4 (v4 + 1)) h v3 x2))
set_option maxRecDepth 100000 in
set_option maxHeartbeats 4000000 in
theorem tX4_greatestDepthWith_b66 {p : Program} {l : Launch} {e : Env} {s : State} {m : MethodId} {args : Array Value} {below : List Frame} {meth : Method} {c : Code} {G : gG} {A : Nat → Prop} {Qn : Int32 → gH → Prop} (X : gC p l s m args meth c G A cX4_greatestDepthWith 6 (some FieldType.int) RX4) {k5 : gH → Nat → Option Nat → Option Nat → Int32 → Int32 → Prop} (H5 : ∀ (h : gH) (v0 : Nat) (v1 : Option Nat) (v2 : Option Nat) (v3 : Int32) (v4 : Int32), k5 h v0 v1 v2 v3 v4 → V p l e rmX4_greatestDepthWith s m args below meth c (MQ below (va_Qi Qn (gB G A) A) args s rmX4_greatestDepthWith.cells rmX4_greatestDepthWith.slots A) G A 6 h 0 0 5 [(0, .ref v0), (1, va_rf v1), (2, va_rf v2), (3, .int v3), (4, .int v4)] []) {h : gH} {v0 : Nat} {v1 : Option Nat} {v2 : Option Nat} {v3 : Int32} {v4 : Int32} {v5 : Option Nat} (w : vX4_greatestDepthWith_b66 G.2.2.1 k5 Qn h v0 v1 v2 v3 v4 v5) : V p l e rmX4_greatestDepthWith s m args below meth c (MQ below (va_Qi Qn (gB G A) A) args s rmX4_greatestDepthWith.cells rmX4_greatestDepthWith.slots A) G A 6 h 0 0 66 [(0, .ref v0), (1, va_rf v1), (2, va_rf v2), (3, .int v3), (4, .int v4), (5, va_rf v5)] [] := by
  refine V_iload_n X dX4_greatestDepthWith_66 3 rfl ?_
  refine V_aload X dX4_greatestDepthWith_67 5 rfl ?_
  obtain ⟨a1, rfl, w⟩ := w
  obtain ⟨fs, x2, hh, hv, w⟩ := w
  refine V_get X flX4_76 dX4_greatestDepthWith_69 hh hv ?_
  refine V_callSi (As := [.int v3, .int x2]) (rest := []) (k1 := 0) (n1 := 0) X (cJ9_max_7cf53_ok X.2.2.2.2.2.2.2.2.1 w) lkX4_79 dX4_greatestDepthWith_72 ⟨Nat.le_of_ble_eq_true rfl, Nat.le_of_ble_eq_true rfl⟩ rfl (Nat.le_of_ble_eq_true rfl) ⟨Nat.le_of_ble_eq_true rfl, Nat.le_of_ble_eq_true rfl⟩ (Nat.le_of_ble_eq_true rfl) (Nat.le_of_ble_eq_true rfl) (fun x4 h3 w9 => ?_)
  replace w := w9
  clear w9
  refine V_istore_n (i0 := 3) X dX4_greatestDepthWith_75 rfl (by decide) (by simp [va_cat1] <;> rfl) ?_
  refine V_iinc (y := (v4 + 1)) X dX4_greatestDepthWith_76 4 rfl (by first | rfl | (congr 1)) (by decide) rfl ?_
  refine V_goto (tgt := 5) X dX4_greatestDepthWith_79 (by decide) ?_
  exact V.sub [2, 3, 4, 1, 0] rfl (H5 _ _ _ _ _ _ w)
def vX4_greatestDepthWith_b5_o (t0 : Nat) (k5 : gH → Nat → Option Nat → Option Nat → Int32 → Int32 → Prop) (Qn : Int32 → gH → Prop) (h : gH) (v0 : Nat) (v1 : Option Nat) (v2 : Option Nat) (v3 : Int32) (v4 : Int32) : Prop := gr h v0 7 3 (fun r1 => nn r1 (fun a2 => io h a2 2 (vJx4a65c_size_8abf5 t0 (fun x4 h3 => ((x4 ≤ (v4 : Int32)) → (Qn v3 h3)) ∧ ((¬ x4 ≤ (v4 : Int32)) → (gr h3 v0 7 3 (fun r5 => nn r5 (fun a6 => io h3 a6 2 (vJx4a65c_get_915e3 t0 (fun r8 h7 => nn r8 (fun a9 => io h7 a9 8 (io h7 a9 8 (vX5_depthByChildren t0 (fun x11 h10 => pv h10 a9 8 4 (.int x11) (fun h12 => ((¬ (some a9) = v1) → (vX4_greatestDepthWith_b66 t0 k5 Qn h12 v0 v1 v2 v3 v4 (some a9))) ∧ (((some a9) = v1) → (gi h12 a9 8 4 (fun x13 => nn v2 (fun a14 => gi h12 a14 8 4 (fun x15 => vJ9_max_7cf53 t0 (fun x17 h16 => pv h16 a9 8 4 (.int x17) (fun h18 => vX4_greatestDepthWith_b66 t0 k5 Qn h18 v0 v1 (some a14) v3 v4 (some a9))) h12 x13 (x15 + 1)))))))) h7 a9 )))) h3 a6 v4)))))) h a2 )))
set_option maxRecDepth 100000 in
set_option maxHeartbeats 4000000 in
theorem tX4_greatestDepthWith_b5_o {p : Program} {l : Launch} {e : Env} {s : State} {m : MethodId} {args : Array Value} {below : List Frame} {meth : Method} {c : Code} {G : gG} {A : Nat → Prop} {Qn : Int32 → gH → Prop} (X : gC p l s m args meth c G A cX4_greatestDepthWith 6 (some FieldType.int) RX4) {k5 : gH → Nat → Option Nat → Option Nat → Int32 → Int32 → Prop} (H5 : ∀ (h : gH) (v0 : Nat) (v1 : Option Nat) (v2 : Option Nat) (v3 : Int32) (v4 : Int32), k5 h v0 v1 v2 v3 v4 → V p l e rmX4_greatestDepthWith s m args below meth c (MQ below (va_Qi Qn (gB G A) A) args s rmX4_greatestDepthWith.cells rmX4_greatestDepthWith.slots A) G A 6 h 0 0 5 [(0, .ref v0), (1, va_rf v1), (2, va_rf v2), (3, .int v3), (4, .int v4)] []) {h : gH} {v0 : Nat} {v1 : Option Nat} {v2 : Option Nat} {v3 : Int32} {v4 : Int32} (w : vX4_greatestDepthWith_b5_o G.2.2.1 k5 Qn h v0 v1 v2 v3 v4) : V p l e rmX4_greatestDepthWith s m args below meth c (MQ below (va_Qi Qn (gB G A) A) args s rmX4_greatestDepthWith.cells rmX4_greatestDepthWith.slots A) G A 6 h 0 0 5 [(0, .ref v0), (1, va_rf v1), (2, va_rf v2), (3, .int v3), (4, .int v4)] [] := by
  refine V_iload X dX4_greatestDepthWith_5 4 rfl ?_
  refine V_aloadr_n X dX4_greatestDepthWith_7 0 rfl ?_
  obtain ⟨fs, r1, hh, hv, w⟩ := w
  refine V_get X flX4_22 dX4_greatestDepthWith_8 hh hv ?_
  obtain ⟨a2, rfl, w⟩ := w
  obtain ⟨fs, hh, w⟩ := w
  refine V_callVi (As := []) (rest := [.int v4]) (k1 := 0) (n1 := 0) X (cJx4a65c_size_8abf5_ok X.2.2.2.2.2.2.2.2.1 w) lkX4_65 hh (q9 := (RJx4a65c, TJx4a65c, 3)) rfl rfl dX4_greatestDepthWith_11 ⟨Nat.le_of_ble_eq_true rfl, Nat.le_of_ble_eq_true rfl⟩ rfl (Nat.le_of_ble_eq_true rfl) ⟨Nat.le_of_ble_eq_true rfl, Nat.le_of_ble_eq_true rfl⟩ (Nat.le_of_ble_eq_true rfl) (Nat.le_of_ble_eq_true rfl) (fun x4 h3 w9 => ?_)
  replace w := w9
  clear w9
  obtain ⟨w1, w2⟩ := w
  refine V_icmp_ge (tgt := 82) X dX4_greatestDepthWith_14 (by decide) (fun z => ?_) (fun z => ?_)
  · replace w := w1 z
    clear w1 w2
    refine V_iload_n X dX4_greatestDepthWith_82 3 rfl ?_
    exact V_iret X rfl dX4_greatestDepthWith_83 (Nat.le_of_ble_eq_true rfl) (Nat.le_of_ble_eq_true rfl) w
  · replace w := w2 z
    clear w1 w2
    refine V_aloadr_n X dX4_greatestDepthWith_17 0 rfl ?_
    obtain ⟨fs, r5, hh, hv, w⟩ := w
    refine V_get X flX4_22 dX4_greatestDepthWith_18 hh hv ?_
    refine V_iload X dX4_greatestDepthWith_21 4 rfl ?_
    obtain ⟨a6, rfl, w⟩ := w
    obtain ⟨fs, hh, w⟩ := w
    refine V_callVq (As := [.int v4]) (rest := []) (k1 := 0) (n1 := 0) X (cJx4a65c_get_915e3_ok X.2.2.2.2.2.2.2.2.1 w) lkX4_69 hh (q9 := (RJx4a65c, TJx4a65c, 3)) rfl rfl dX4_greatestDepthWith_23 ⟨Nat.le_of_ble_eq_true rfl, Nat.le_of_ble_eq_true rfl⟩ rfl (Nat.le_of_ble_eq_true rfl) ⟨Nat.le_of_ble_eq_true rfl, Nat.le_of_ble_eq_true rfl⟩ (Nat.le_of_ble_eq_true rfl) (Nat.le_of_ble_eq_true rfl) (fun r8 h7 w9 => ?_)
    replace w := w9
    clear w9
    obtain ⟨a9, rfl, w⟩ := w
    obtain ⟨fs, hh, w⟩ := w
    refine V_cast (q9 := (RX5, TX5, 5)) X kw_78 rfl rfl hh dX4_greatestDepthWith_26 ?_
    refine V_astore X dX4_greatestDepthWith_29 (by decide) rfl ?_
    refine V_aloadr X dX4_greatestDepthWith_31 0 rfl ?_
    refine V_aloadr X dX4_greatestDepthWith_33 0 rfl ?_
    obtain ⟨fs, hh, w⟩ := w
    refine V_callVi (As := []) (rest := [.ref a9]) (k1 := 0) (n1 := 0) X (cX5_depthByChildren_ok X.2.2.2.2.2.2.2.2.1 w) lkX4_73 hh (q9 := (RX5, TX5, 5)) rfl rfl dX4_greatestDepthWith_35 ⟨Nat.le_of_ble_eq_true rfl, Nat.le_of_ble_eq_true rfl⟩ rfl (Nat.le_of_ble_eq_true rfl) ⟨Nat.le_of_ble_eq_true rfl, Nat.le_of_ble_eq_true rfl⟩ (Nat.le_of_ble_eq_true rfl) (Nat.le_of_ble_eq_true rfl) (fun x11 h10 w9 => ?_)
    replace w := w9
    clear w9
    obtain ⟨fs, hh, hv, w⟩ := w
    refine V_put X flX4_76 dX4_greatestDepthWith_38 hh hv rfl rfl ?_
    generalize va_up _ _ _ = h12 at w ⊢
    refine V_aloadr X dX4_greatestDepthWith_41 0 rfl ?_
    refine V_aload_n X dX4_greatestDepthWith_43 2 rfl ?_
    obtain ⟨w1, w2⟩ := w
    refine V_acmp_ne (some a9) v1 (tgt := 66) X dX4_greatestDepthWith_44 (by decide) (fun z => ?_) (fun z => ?_)
    · replace w := w1 z
      clear w1 w2
      exact V.sub [1, 2, 3, 4, 5, 0] rfl (tX4_greatestDepthWith_b66 X H5 w)
    · replace w := w2 z
      clear w1 w2
      refine V_aloadr X dX4_greatestDepthWith_47 0 rfl ?_
      refine V_aloadr X dX4_greatestDepthWith_49 0 rfl ?_
      obtain ⟨fs, x13, hh, hv, w⟩ := w
      refine V_get X flX4_76 dX4_greatestDepthWith_51 hh hv ?_
      refine V_aload_n X dX4_greatestDepthWith_54 3 rfl ?_
      obtain ⟨a14, rfl, w⟩ := w
      obtain ⟨fs, x15, hh, hv, w⟩ := w
      refine V_get X flX4_76 dX4_greatestDepthWith_55 hh hv ?_
      refine V_iconst (y := 1) X dX4_greatestDepthWith_58 (by decide) ?_
      refine V_iadd X dX4_greatestDepthWith_59 ?_
      refine V_callSi (As := [.int x13, .int (x15 + 1)]) (rest := [.ref a9]) (k1 := 0) (n1 := 0) X (cJ9_max_7cf53_ok X.2.2.2.2.2.2.2.2.1 w) lkX4_79 dX4_greatestDepthWith_60 ⟨Nat.le_of_ble_eq_true rfl, Nat.le_of_ble_eq_true rfl⟩ rfl (Nat.le_of_ble_eq_true rfl) ⟨Nat.le_of_ble_eq_true rfl, Nat.le_of_ble_eq_true rfl⟩ (Nat.le_of_ble_eq_true rfl) (Nat.le_of_ble_eq_true rfl) (fun x17 h16 w9 => ?_)
      replace w := w9
      clear w9
      obtain ⟨fs, hh, hv, w⟩ := w
      refine V_put X flX4_76 dX4_greatestDepthWith_63 hh hv rfl rfl ?_
      generalize va_up _ _ _ = h18 at w ⊢
      exact V.sub [1, 2, 3, 4, 5, 0] rfl (tX4_greatestDepthWith_b66 X H5 w)
def vX4_greatestDepthWith_b5 (t0 : Nat)  (Qn : Int32 → gH → Prop) (n : Nat) : gH → Nat → Option Nat → Option Nat → Int32 → Int32 → Prop := Nat.rec (motive := fun _ => gH → Nat → Option Nat → Option Nat → Int32 → Int32 → Prop) (fun _ _ _ _ _ _ => False) (fun _ k5 => vX4_greatestDepthWith_b5_o t0 k5 Qn) n
theorem tX4_greatestDepthWith_b5 {p : Program} {l : Launch} {e : Env} {s : State} {m : MethodId} {args : Array Value} {below : List Frame} {meth : Method} {c : Code} {G : gG} {A : Nat → Prop} {Qn : Int32 → gH → Prop} (X : gC p l s m args meth c G A cX4_greatestDepthWith 6 (some FieldType.int) RX4)   : ∀ (n : Nat) (h : gH) (v0 : Nat) (v1 : Option Nat) (v2 : Option Nat) (v3 : Int32) (v4 : Int32) (w : vX4_greatestDepthWith_b5 G.2.2.1  Qn n h v0 v1 v2 v3 v4), V p l e rmX4_greatestDepthWith s m args below meth c (MQ below (va_Qi Qn (gB G A) A) args s rmX4_greatestDepthWith.cells rmX4_greatestDepthWith.slots A) G A 6 h 0 0 5 [(0, .ref v0), (1, va_rf v1), (2, va_rf v2), (3, .int v3), (4, .int v4)] [] := by
  intro n
  induction n with
  | zero => intro h v0 v1 v2 v3 v4 w; exact False.elim w
  | succ n ih => intro h v0 v1 v2 v3 v4 w; exact tX4_greatestDepthWith_b5_o X ih w
def vX4_greatestDepthWith (t0 : Nat)  (Qn : Int32 → gH → Prop) (h : gH) (v0 : Nat) (v1 : Option Nat) (v2 : Option Nat) : Prop := ∃ n : Nat, vX4_greatestDepthWith_b5 t0  Qn n h v0 v1 v2 0 0
set_option maxRecDepth 100000 in
set_option maxHeartbeats 4000000 in
theorem tX4_greatestDepthWith {p : Program} {l : Launch} {e : Env} {s : State} {m : MethodId} {args : Array Value} {below : List Frame} {meth : Method} {c : Code} {G : gG} {A : Nat → Prop} {Qn : Int32 → gH → Prop} (X : gC p l s m args meth c G A cX4_greatestDepthWith 6 (some FieldType.int) RX4)   {h : gH} {v0 : Nat} {v1 : Option Nat} {v2 : Option Nat} (w : vX4_greatestDepthWith G.2.2.1  Qn h v0 v1 v2) : V p l e rmX4_greatestDepthWith s m args below meth c (MQ below (va_Qi Qn (gB G A) A) args s rmX4_greatestDepthWith.cells rmX4_greatestDepthWith.slots A) G A 6 h 0 0 0 [(0, .ref v0), (1, va_rf v1), (2, va_rf v2)] [] := by
  refine V_iconst (y := 0) X dX4_greatestDepthWith_0 (by decide) ?_
  refine V_istore_n (i0 := 3) X dX4_greatestDepthWith_1 rfl (by decide) (by simp [va_cat1] <;> rfl) ?_
  refine V_iconst (y := 0) X dX4_greatestDepthWith_2 (by decide) ?_
  refine V_istore X dX4_greatestDepthWith_3 (by decide) rfl ?_
  obtain ⟨n9, w⟩ := w
  exact V.sub [2, 3, 4, 1, 0] rfl (tX4_greatestDepthWith_b5 X  n9 _ _ _ _ _ _ w)
theorem cX4_greatestDepthWith_ok {l : Launch} {G : gG} {h : gH} (hls : l.stackTraces = false) {Qn : Int32 → gH → Prop} {v0 : Nat} {v1 : Option Nat} {v2 : Option Nat} (w : vX4_greatestDepthWith G.2.2.1 Qn h v0 v1 v2) : gMi l yX4_greatestDepthWith cX4_greatestDepthWith 6 (some FieldType.int) rmX4_greatestDepthWith rmX4_greatestDepthWith.cells rmX4_greatestDepthWith.slots G h [.ref v0, va_rf v1, va_rf v2] Qn := by
  cases v1 <;>
  cases v2 <;>
  exact gMi.of (by decide +kernel) hls (Nat.le_of_ble_eq_true rfl) rfl rfl (fun p e s m below meth c A X hnm => tX4_greatestDepthWith X w)
/-! AnimationController$Node.isLine()Z -/
abbrev rmX5_isLine : Room := { frames := 0, cells := 0, slots := 0, locals := 0 }
def vX5_isLine_b12 (t0 : Nat)  (Qn : Int32 → gH → Prop) (h : gH) (s0 : Int32) : Prop := gZ s0 ∧ Qn s0 h
set_option maxRecDepth 100000 in
set_option maxHeartbeats 4000000 in
theorem tX5_isLine_b12 {p : Program} {l : Launch} {e : Env} {s : State} {m : MethodId} {args : Array Value} {below : List Frame} {meth : Method} {c : Code} {G : gG} {A : Nat → Prop} {Qn : Int32 → gH → Prop} (X : gC p l s m args meth c G A cX5_isLine 1 (some FieldType.boolean) RX5)   {h : gH} {s0 : Int32} (w : vX5_isLine_b12 G.2.2.1  Qn h s0) : V p l e rmX5_isLine s m args below meth c (MQ below (va_Qi Qn (gB G A) A) args s rmX5_isLine.cells rmX5_isLine.slots A) G A 1 h 0 0 12 [] [.int s0] := by
  obtain ⟨hz, w⟩ := w
  exact V_zret X rfl hz.1 dX5_isLine_12 (Nat.le_of_ble_eq_true rfl) (Nat.le_of_ble_eq_true rfl) w
def vX5_isLine (t0 : Nat)  (Qn : Int32 → gH → Prop) (h : gH) (v0 : Nat) : Prop := gr h v0 8 0 (fun r1 => ((r1) = none → (vX5_isLine_b12 t0  Qn h 1)) ∧ (∀ a2 : Nat, (r1) = some a2 → (vX5_isLine_b12 t0  Qn h 0)))
set_option maxRecDepth 100000 in
set_option maxHeartbeats 4000000 in
theorem tX5_isLine {p : Program} {l : Launch} {e : Env} {s : State} {m : MethodId} {args : Array Value} {below : List Frame} {meth : Method} {c : Code} {G : gG} {A : Nat → Prop} {Qn : Int32 → gH → Prop} (X : gC p l s m args meth c G A cX5_isLine 1 (some FieldType.boolean) RX5)   {h : gH} {v0 : Nat} (w : vX5_isLine G.2.2.1  Qn h v0) : V p l e rmX5_isLine s m args below meth c (MQ below (va_Qi Qn (gB G A) A) args s rmX5_isLine.cells rmX5_isLine.slots A) G A 1 h 0 0 0 [(0, .ref v0)] [] := by
  refine V_aloadr_n X dX5_isLine_0 0 rfl ?_
  obtain ⟨fs, r1, hh, hv, w⟩ := w
  refine V_get X flX5_26 dX5_isLine_1 hh hv ?_
  obtain ⟨w1, w2⟩ := w
  refine V_ifnonnull (tgt := 11) X dX5_isLine_4 (by decide) (fun a2 z => ?_) (fun z => ?_)
  · replace w := w2 a2 z
    clear w1 w2
    subst z
    refine V_iconst (y := 0) X dX5_isLine_11 (by decide) ?_
    exact V.sub [] rfl (tX5_isLine_b12 X  w)
  · replace w := w1 z
    clear w1 w2
    subst z
    refine V_iconst (y := 1) X dX5_isLine_7 (by decide) ?_
    refine V_goto (tgt := 12) X dX5_isLine_8 (by decide) ?_
    exact V.sub [] rfl (tX5_isLine_b12 X  w)
theorem cX5_isLine_ok {l : Launch} {G : gG} {h : gH} (hls : l.stackTraces = false) {Qn : Int32 → gH → Prop} {v0 : Nat} (w : vX5_isLine G.2.2.1 Qn h v0) : gMi l yX5_isLine cX5_isLine 1 (some FieldType.boolean) rmX5_isLine rmX5_isLine.cells rmX5_isLine.slots G h [.ref v0] Qn := by
  exact gMi.of (by decide +kernel) hls (Nat.le_of_ble_eq_true rfl) rfl rfl (fun p e s m below meth c A X hnm => tX5_isLine X w)
/-! AnimationController$Node.isComplete()Z -/
abbrev rmX5_isComplete : Room := { frames := 1, cells := 0, slots := 0, locals := 20 }
def vX5_isComplete_b22 (t0 : Nat)  (Qn : Int32 → gH → Prop) (h : gH) (s0 : Int32) : Prop := gZ s0 ∧ Qn s0 h
set_option maxRecDepth 100000 in
set_option maxHeartbeats 4000000 in
theorem tX5_isComplete_b22 {p : Program} {l : Launch} {e : Env} {s : State} {m : MethodId} {args : Array Value} {below : List Frame} {meth : Method} {c : Code} {G : gG} {A : Nat → Prop} {Qn : Int32 → gH → Prop} (X : gC p l s m args meth c G A cX5_isComplete 1 (some FieldType.boolean) RX5)   {h : gH} {s0 : Int32} (w : vX5_isComplete_b22 G.2.2.1  Qn h s0) : V p l e rmX5_isComplete s m args below meth c (MQ below (va_Qi Qn (gB G A) A) args s rmX5_isComplete.cells rmX5_isComplete.slots A) G A 1 h 0 0 22 [] [.int s0] := by
  obtain ⟨hz, w⟩ := w
  exact V_zret X rfl hz.1 dX5_isComplete_22 (Nat.le_of_ble_eq_true rfl) (Nat.le_of_ble_eq_true rfl) w
def vX5_isComplete_b17 (t0 : Nat)  (Qn : Int32 → gH → Prop) (h : gH)  : Prop := vX5_isComplete_b22 t0  Qn h 1
set_option maxRecDepth 100000 in
set_option maxHeartbeats 4000000 in
theorem tX5_isComplete_b17 {p : Program} {l : Launch} {e : Env} {s : State} {m : MethodId} {args : Array Value} {below : List Frame} {meth : Method} {c : Code} {G : gG} {A : Nat → Prop} {Qn : Int32 → gH → Prop} (X : gC p l s m args meth c G A cX5_isComplete 1 (some FieldType.boolean) RX5)   {h : gH}  (w : vX5_isComplete_b17 G.2.2.1  Qn h ) : V p l e rmX5_isComplete s m args below meth c (MQ below (va_Qi Qn (gB G A) A) args s rmX5_isComplete.cells rmX5_isComplete.slots A) G A 1 h 0 0 17 [] [] := by
  refine V_iconst (y := 1) X dX5_isComplete_17 (by decide) ?_
  refine V_goto (tgt := 22) X dX5_isComplete_18 (by decide) ?_
  exact V.sub [] rfl (tX5_isComplete_b22 X  w)
def vX5_isComplete (t0 : Nat)  (Qn : Int32 → gH → Prop) (h : gH) (v0 : Nat) : Prop := gr h v0 8 0 (fun r1 => ((r1) = none → (gr h v0 8 2 (fun r3 => nn r3 (fun a4 => io h a4 2 (vJx4a65c_isEmpty_aae02 t0 (fun x6 h5 => ((¬ (x6 : Int32) = 0) → (vX5_isComplete_b22 t0  Qn h5 0)) ∧ (((x6 : Int32) = 0) → (vX5_isComplete_b17 t0  Qn h5 ))) h a4 ))))) ∧ (∀ a2 : Nat, (r1) = some a2 → (vX5_isComplete_b17 t0  Qn h )))
set_option maxRecDepth 100000 in
set_option maxHeartbeats 4000000 in
theorem tX5_isComplete {p : Program} {l : Launch} {e : Env} {s : State} {m : MethodId} {args : Array Value} {below : List Frame} {meth : Method} {c : Code} {G : gG} {A : Nat → Prop} {Qn : Int32 → gH → Prop} (X : gC p l s m args meth c G A cX5_isComplete 1 (some FieldType.boolean) RX5)   {h : gH} {v0 : Nat} (w : vX5_isComplete G.2.2.1  Qn h v0) : V p l e rmX5_isComplete s m args below meth c (MQ below (va_Qi Qn (gB G A) A) args s rmX5_isComplete.cells rmX5_isComplete.slots A) G A 1 h 0 0 0 [(0, .ref v0)] [] := by
  refine V_aloadr_n X dX5_isComplete_0 0 rfl ?_
  obtain ⟨fs, r1, hh, hv, w⟩ := w
  refine V_get X flX5_26 dX5_isComplete_1 hh hv ?_
  obtain ⟨w1, w2⟩ := w
  refine V_ifnonnull (tgt := 17) X dX5_isComplete_4 (by decide) (fun a2 z => ?_) (fun z => ?_)
  · replace w := w2 a2 z
    clear w1 w2
    subst z
    exact V.sub [] rfl (tX5_isComplete_b17 X  w)
  · replace w := w1 z
    clear w1 w2
    subst z
    refine V_aloadr_n X dX5_isComplete_7 0 rfl ?_
    obtain ⟨fs, r3, hh, hv, w⟩ := w
    refine V_get X flX5_12 dX5_isComplete_8 hh hv ?_
    obtain ⟨a4, rfl, w⟩ := w
    obtain ⟨fs, hh, w⟩ := w
    refine V_callVi (As := []) (rest := []) (k1 := 0) (n1 := 0) X (cJx4a65c_isEmpty_aae02_ok X.2.2.2.2.2.2.2.2.1 w) lkX5_33 hh (q9 := (RJx4a65c, TJx4a65c, 3)) rfl rfl dX5_isComplete_11 ⟨Nat.le_of_ble_eq_true rfl, Nat.le_of_ble_eq_true rfl⟩ rfl (Nat.le_of_ble_eq_true rfl) ⟨Nat.le_of_ble_eq_true rfl, Nat.le_of_ble_eq_true rfl⟩ (Nat.le_of_ble_eq_true rfl) (Nat.le_of_ble_eq_true rfl) (fun x6 h5 w9 => ?_)
    replace w := w9
    clear w9
    obtain ⟨w1, w2⟩ := w
    refine V_if_ne (tgt := 21) X dX5_isComplete_14 (by decide) (fun z => ?_) (fun z => ?_)
    · replace w := w1 z
      clear w1 w2
      refine V_iconst (y := 0) X dX5_isComplete_21 (by decide) ?_
      exact V.sub [] rfl (tX5_isComplete_b22 X  w)
    · replace w := w2 z
      clear w1 w2
      exact V.sub [] rfl (tX5_isComplete_b17 X  w)
theorem cX5_isComplete_ok {l : Launch} {G : gG} {h : gH} (hls : l.stackTraces = false) {Qn : Int32 → gH → Prop} {v0 : Nat} (w : vX5_isComplete G.2.2.1 Qn h v0) : gMi l yX5_isComplete cX5_isComplete 1 (some FieldType.boolean) rmX5_isComplete rmX5_isComplete.cells rmX5_isComplete.slots G h [.ref v0] Qn := by
  exact gMi.of (by decide +kernel) hls (Nat.le_of_ble_eq_true rfl) rfl rfl (fun p e s m below meth c A X hnm => tX5_isComplete X w)
/-! AnimationController$Node.hasPosition(I)Z -/
abbrev rmX5_hasPosition : Room := { frames := 1, cells := 0, slots := 0, locals := 21 }
def vX5_hasPosition_b2_o (t0 : Nat) (k2 : gH → Nat → Int32 → Int32 → Prop) (Qn : Int32 → gH → Prop) (h : gH) (v0 : Nat) (v1 : Int32) (v2 : Int32) : Prop := gr h v0 8 2 (fun r1 => nn r1 (fun a2 => io h a2 2 (vJx4a65c_size_8abf5 t0 (fun x4 h3 => ((x4 ≤ (v2 : Int32)) → (Qn 0 h3)) ∧ ((¬ x4 ≤ (v2 : Int32)) → (io h3 v0 8 (vX5_positionOf t0 (fun x6 h5 => ((¬ (x6 : Int32) = v1) → (k2 h5 v0 v1 (v2 + 1))) ∧ (((x6 : Int32) = v1) → (Qn 1 h5))) h3 v0 v2)))) h a2 )))
set_option maxRecDepth 100000 in
set_option maxHeartbeats 4000000 in
theorem tX5_hasPosition_b2_o {p : Program} {l : Launch} {e : Env} {s : State} {m : MethodId} {args : Array Value} {below : List Frame} {meth : Method} {c : Code} {G : gG} {A : Nat → Prop} {Qn : Int32 → gH → Prop} (X : gC p l s m args meth c G A cX5_hasPosition 3 (some FieldType.boolean) RX5) {k2 : gH → Nat → Int32 → Int32 → Prop} (H2 : ∀ (h : gH) (v0 : Nat) (v1 : Int32) (v2 : Int32), k2 h v0 v1 v2 → V p l e rmX5_hasPosition s m args below meth c (MQ below (va_Qi Qn (gB G A) A) args s rmX5_hasPosition.cells rmX5_hasPosition.slots A) G A 3 h 0 0 2 [(0, .ref v0), (1, .int v1), (2, .int v2)] []) {h : gH} {v0 : Nat} {v1 : Int32} {v2 : Int32} (w : vX5_hasPosition_b2_o G.2.2.1 k2 Qn h v0 v1 v2) : V p l e rmX5_hasPosition s m args below meth c (MQ below (va_Qi Qn (gB G A) A) args s rmX5_hasPosition.cells rmX5_hasPosition.slots A) G A 3 h 0 0 2 [(0, .ref v0), (1, .int v1), (2, .int v2)] [] := by
  refine V_iload_n X dX5_hasPosition_2 2 rfl ?_
  refine V_aloadr_n X dX5_hasPosition_3 0 rfl ?_
  obtain ⟨fs, r1, hh, hv, w⟩ := w
  refine V_get X flX5_12 dX5_hasPosition_4 hh hv ?_
  obtain ⟨a2, rfl, w⟩ := w
  obtain ⟨fs, hh, w⟩ := w
  refine V_callVi (As := []) (rest := [.int v2]) (k1 := 0) (n1 := 0) X (cJx4a65c_size_8abf5_ok X.2.2.2.2.2.2.2.2.1 w) lkX5_37 hh (q9 := (RJx4a65c, TJx4a65c, 3)) rfl rfl dX5_hasPosition_7 ⟨Nat.le_of_ble_eq_true rfl, Nat.le_of_ble_eq_true rfl⟩ rfl (Nat.le_of_ble_eq_true rfl) ⟨Nat.le_of_ble_eq_true rfl, Nat.le_of_ble_eq_true rfl⟩ (Nat.le_of_ble_eq_true rfl) (Nat.le_of_ble_eq_true rfl) (fun x4 h3 w9 => ?_)
  replace w := w9
  clear w9
  obtain ⟨w1, w2⟩ := w
  refine V_icmp_ge (tgt := 30) X dX5_hasPosition_10 (by decide) (fun z => ?_) (fun z => ?_)
  · replace w := w1 z
    clear w1 w2
    refine V_iconst (y := 0) X dX5_hasPosition_30 (by decide) ?_
    exact V_zret X rfl rfl dX5_hasPosition_31 (Nat.le_of_ble_eq_true rfl) (Nat.le_of_ble_eq_true rfl) w
  · replace w := w2 z
    clear w1 w2
    refine V_aloadr_n X dX5_hasPosition_13 0 rfl ?_
    refine V_iload_n X dX5_hasPosition_14 2 rfl ?_
    obtain ⟨fs, hh, w⟩ := w
    refine V_callVi (As := [.int v2]) (rest := []) (k1 := 0) (n1 := 0) X (cX5_positionOf_ok X.2.2.2.2.2.2.2.2.1 w) lkX5_41 hh (q9 := (RX5, TX5, 5)) rfl rfl dX5_hasPosition_15 ⟨Nat.le_of_ble_eq_true rfl, Nat.le_of_ble_eq_true rfl⟩ rfl (Nat.le_of_ble_eq_true rfl) ⟨Nat.le_of_ble_eq_true rfl, Nat.le_of_ble_eq_true rfl⟩ (Nat.le_of_ble_eq_true rfl) (Nat.le_of_ble_eq_true rfl) (fun x6 h5 w9 => ?_)
    replace w := w9
    clear w9
    refine V_iload_n X dX5_hasPosition_18 1 rfl ?_
    obtain ⟨w1, w2⟩ := w
    refine V_icmp_ne (tgt := 24) X dX5_hasPosition_19 (by decide) (fun z => ?_) (fun z => ?_)
    · replace w := w1 z
      clear w1 w2
      refine V_iinc (y := (v2 + 1)) X dX5_hasPosition_24 2 rfl (by first | rfl | (congr 1)) (by decide) rfl ?_
      refine V_goto (tgt := 2) X dX5_hasPosition_27 (by decide) ?_
      exact V.sub [1, 2, 0] rfl (H2 _ _ _ _ w)
    · replace w := w2 z
      clear w1 w2
      refine V_iconst (y := 1) X dX5_hasPosition_22 (by decide) ?_
      exact V_zret X rfl rfl dX5_hasPosition_23 (Nat.le_of_ble_eq_true rfl) (Nat.le_of_ble_eq_true rfl) w
def vX5_hasPosition_b2 (t0 : Nat)  (Qn : Int32 → gH → Prop) (n : Nat) : gH → Nat → Int32 → Int32 → Prop := Nat.rec (motive := fun _ => gH → Nat → Int32 → Int32 → Prop) (fun _ _ _ _ => False) (fun _ k2 => vX5_hasPosition_b2_o t0 k2 Qn) n
theorem tX5_hasPosition_b2 {p : Program} {l : Launch} {e : Env} {s : State} {m : MethodId} {args : Array Value} {below : List Frame} {meth : Method} {c : Code} {G : gG} {A : Nat → Prop} {Qn : Int32 → gH → Prop} (X : gC p l s m args meth c G A cX5_hasPosition 3 (some FieldType.boolean) RX5)   : ∀ (n : Nat) (h : gH) (v0 : Nat) (v1 : Int32) (v2 : Int32) (w : vX5_hasPosition_b2 G.2.2.1  Qn n h v0 v1 v2), V p l e rmX5_hasPosition s m args below meth c (MQ below (va_Qi Qn (gB G A) A) args s rmX5_hasPosition.cells rmX5_hasPosition.slots A) G A 3 h 0 0 2 [(0, .ref v0), (1, .int v1), (2, .int v2)] [] := by
  intro n
  induction n with
  | zero => intro h v0 v1 v2 w; exact False.elim w
  | succ n ih => intro h v0 v1 v2 w; exact tX5_hasPosition_b2_o X ih w
def vX5_hasPosition (t0 : Nat)  (Qn : Int32 → gH → Prop) (h : gH) (v0 : Nat) (v1 : Int32) : Prop := ∃ n : Nat, vX5_hasPosition_b2 t0  Qn n h v0 v1 0
set_option maxRecDepth 100000 in
set_option maxHeartbeats 4000000 in
theorem tX5_hasPosition {p : Program} {l : Launch} {e : Env} {s : State} {m : MethodId} {args : Array Value} {below : List Frame} {meth : Method} {c : Code} {G : gG} {A : Nat → Prop} {Qn : Int32 → gH → Prop} (X : gC p l s m args meth c G A cX5_hasPosition 3 (some FieldType.boolean) RX5)   {h : gH} {v0 : Nat} {v1 : Int32} (w : vX5_hasPosition G.2.2.1  Qn h v0 v1) : V p l e rmX5_hasPosition s m args below meth c (MQ below (va_Qi Qn (gB G A) A) args s rmX5_hasPosition.cells rmX5_hasPosition.slots A) G A 3 h 0 0 0 [(0, .ref v0), (1, .int v1)] [] := by
  refine V_iconst (y := 0) X dX5_hasPosition_0 (by decide) ?_
  refine V_istore_n (i0 := 2) X dX5_hasPosition_1 rfl (by decide) rfl ?_
  obtain ⟨n9, w⟩ := w
  exact V.sub [1, 2, 0] rfl (tX5_hasPosition_b2 X  n9 _ _ _ _ w)
theorem cX5_hasPosition_ok {l : Launch} {G : gG} {h : gH} (hls : l.stackTraces = false) {Qn : Int32 → gH → Prop} {v0 : Nat} {v1 : Int32} (w : vX5_hasPosition G.2.2.1 Qn h v0 v1) : gMi l yX5_hasPosition cX5_hasPosition 3 (some FieldType.boolean) rmX5_hasPosition rmX5_hasPosition.cells rmX5_hasPosition.slots G h [.ref v0, .int v1] Qn := by
  exact gMi.of (by decide +kernel) hls (Nat.le_of_ble_eq_true rfl) rfl rfl (fun p e s m below meth c A X hnm => tX5_hasPosition X w)
/-! jdk/internal/util/ArraysSupport.newLength(III)I -/
abbrev rmJ8_newLength_cabcc : Room := { frames := 1, cells := 0, slots := 0, locals := 21 }
def vJ8_newLength_cabcc_b21 (t0 : Nat)  (Qn : Int32 → gH → Prop) (h : gH) (v0 : Int32) (v1 : Int32) : Prop := False
set_option maxRecDepth 100000 in
set_option maxHeartbeats 4000000 in
theorem tJ8_newLength_cabcc_b21 {p : Program} {l : Launch} {e : Env} {s : State} {m : MethodId} {args : Array Value} {below : List Frame} {meth : Method} {c : Code} {G : gG} {A : Nat → Prop} {Qn : Int32 → gH → Prop} (X : gC p l s m args meth c G A cJ8_newLength_cabcc 4 (some FieldType.int) RJ8)   {h : gH} {v0 : Int32} {v1 : Int32} (w : vJ8_newLength_cabcc_b21 G.2.2.1  Qn h v0 v1) : V p l e rmJ8_newLength_cabcc s m args below meth c (MQ below (va_Qi Qn (gB G A) A) args s rmJ8_newLength_cabcc.cells rmJ8_newLength_cabcc.slots A) G A 4 h 0 0 21 [(0, .int v0), (1, .int v1)] [] := by
  refine V_iload_n X dJ8_newLength_cabcc_21 0 rfl ?_
  refine V_iload_n X dJ8_newLength_cabcc_22 1 rfl ?_
  exact False.elim w
def vJ8_newLength_cabcc (t0 : Nat)  (Qn : Int32 → gH → Prop) (h : gH) (v0 : Int32) (v1 : Int32) (v2 : Int32) : Prop := vJ9_max_7cf53 t0 (fun x2 h1 => (((v0 + x2) ≤ (0 : Int32)) → (vJ8_newLength_cabcc_b21 t0  Qn h1 v0 v1)) ∧ ((¬ (v0 + x2) ≤ (0 : Int32)) → (((2147483639 < ((v0 + x2) : Int32)) → (vJ8_newLength_cabcc_b21 t0  Qn h1 v0 v1)) ∧ ((¬ 2147483639 < ((v0 + x2) : Int32)) → (Qn (v0 + x2) h1))))) h v1 v2
set_option maxRecDepth 100000 in
set_option maxHeartbeats 4000000 in
theorem tJ8_newLength_cabcc {p : Program} {l : Launch} {e : Env} {s : State} {m : MethodId} {args : Array Value} {below : List Frame} {meth : Method} {c : Code} {G : gG} {A : Nat → Prop} {Qn : Int32 → gH → Prop} (X : gC p l s m args meth c G A cJ8_newLength_cabcc 4 (some FieldType.int) RJ8)   {h : gH} {v0 : Int32} {v1 : Int32} {v2 : Int32} (w : vJ8_newLength_cabcc G.2.2.1  Qn h v0 v1 v2) : V p l e rmJ8_newLength_cabcc s m args below meth c (MQ below (va_Qi Qn (gB G A) A) args s rmJ8_newLength_cabcc.cells rmJ8_newLength_cabcc.slots A) G A 4 h 0 0 0 [(0, .int v0), (1, .int v1), (2, .int v2)] [] := by
  refine V_iload_n X dJ8_newLength_cabcc_0 0 rfl ?_
  refine V_iload_n X dJ8_newLength_cabcc_1 1 rfl ?_
  refine V_iload_n X dJ8_newLength_cabcc_2 2 rfl ?_
  refine V_callSi (As := [.int v1, .int v2]) (rest := [.int v0]) (k1 := 0) (n1 := 0) X (cJ9_max_7cf53_ok X.2.2.2.2.2.2.2.2.1 w) lkJ8_194 dJ8_newLength_cabcc_3 ⟨Nat.le_of_ble_eq_true rfl, Nat.le_of_ble_eq_true rfl⟩ rfl (Nat.le_of_ble_eq_true rfl) ⟨Nat.le_of_ble_eq_true rfl, Nat.le_of_ble_eq_true rfl⟩ (Nat.le_of_ble_eq_true rfl) (Nat.le_of_ble_eq_true rfl) (fun x2 h1 w9 => ?_)
  replace w := w9
  clear w9
  refine V_iadd X dJ8_newLength_cabcc_6 ?_
  refine V_istore_n (i0 := 3) X dJ8_newLength_cabcc_7 rfl (by decide) rfl ?_
  refine V_iconst (y := 0) X dJ8_newLength_cabcc_8 (by decide) ?_
  refine V_iload_n X dJ8_newLength_cabcc_9 0 rfl ?_
  obtain ⟨w1, w2⟩ := w
  refine V_icmp_ge (tgt := 21) X dJ8_newLength_cabcc_10 (by decide) (fun z => ?_) (fun z => ?_)
  · replace w := w1 z
    clear w1 w2
    exact V.sub [1, 2] rfl (tJ8_newLength_cabcc_b21 X  w)
  · replace w := w2 z
    clear w1 w2
    refine V_iload_n X dJ8_newLength_cabcc_13 0 rfl ?_
    refine V_ldc (y := 2147483639) X dJ8_newLength_cabcc_14 kw_941 ?_
    obtain ⟨w1, w2⟩ := w
    refine V_icmp_gt (tgt := 21) X dJ8_newLength_cabcc_16 (by decide) (fun z => ?_) (fun z => ?_)
    · replace w := w1 z
      clear w1 w2
      exact V.sub [1, 2] rfl (tJ8_newLength_cabcc_b21 X  w)
    · replace w := w2 z
      clear w1 w2
      refine V_iload_n X dJ8_newLength_cabcc_19 0 rfl ?_
      exact V_iret X rfl dJ8_newLength_cabcc_20 (Nat.le_of_ble_eq_true rfl) (Nat.le_of_ble_eq_true rfl) w
theorem cJ8_newLength_cabcc_ok {l : Launch} {G : gG} {h : gH} (hls : l.stackTraces = false) {Qn : Int32 → gH → Prop} {v0 : Int32} {v1 : Int32} {v2 : Int32} (w : vJ8_newLength_cabcc G.2.2.1 Qn h v0 v1 v2) : gMi l yJ8_newLength_cabcc cJ8_newLength_cabcc 4 (some FieldType.int) rmJ8_newLength_cabcc rmJ8_newLength_cabcc.cells rmJ8_newLength_cabcc.slots G h [.int v0, .int v1, .int v2] Qn := by
  exact gMi.of (by decide +kernel) hls (Nat.le_of_ble_eq_true rfl) rfl rfl (fun p e s m below meth c A X hnm => tJ8_newLength_cabcc X w)
/-! java/util/ArrayList.rangeCheckForAdd(I)V -/
abbrev rmJx4a65c_rangeCheckForAdd_d00df : Room := { frames := 0, cells := 0, slots := 0, locals := 0 }
def vJx4a65c_rangeCheckForAdd_d00df_b12 (t0 : Nat)  (Qn : gH → Prop) (h : gH) (v0 : Nat) (v1 : Int32) : Prop := False
set_option maxRecDepth 100000 in
set_option maxHeartbeats 4000000 in
theorem tJx4a65c_rangeCheckForAdd_d00df_b12 {p : Program} {l : Launch} {e : Env} {s : State} {m : MethodId} {args : Array Value} {below : List Frame} {meth : Method} {c : Code} {G : gG} {A : Nat → Prop} {Qn : gH → Prop} (X : gC p l s m args meth c G A cJx4a65c_rangeCheckForAdd_d00df 2 none RJx4a65c)   {h : gH} {v0 : Nat} {v1 : Int32} (w : vJx4a65c_rangeCheckForAdd_d00df_b12 G.2.2.1  Qn h v0 v1) : V p l e rmJx4a65c_rangeCheckForAdd_d00df s m args below meth c (MQ below (va_Qv Qn (gB G A) A) args s rmJx4a65c_rangeCheckForAdd_d00df.cells rmJx4a65c_rangeCheckForAdd_d00df.slots A) G A 2 h 0 0 12 [(0, .ref v0), (1, .int v1)] [] := by
  exact False.elim w
def vJx4a65c_rangeCheckForAdd_d00df (t0 : Nat)  (Qn : gH → Prop) (h : gH) (v0 : Nat) (v1 : Int32) : Prop := gi h v0 2 2 (fun x1 => ((x1 < (v1 : Int32)) → (vJx4a65c_rangeCheckForAdd_d00df_b12 t0  Qn h v0 v1)) ∧ ((¬ x1 < (v1 : Int32)) → (((0 ≤ (v1 : Int32)) → (Qn h)) ∧ ((¬ 0 ≤ (v1 : Int32)) → (vJx4a65c_rangeCheckForAdd_d00df_b12 t0  Qn h v0 v1)))))
set_option maxRecDepth 100000 in
set_option maxHeartbeats 4000000 in
theorem tJx4a65c_rangeCheckForAdd_d00df {p : Program} {l : Launch} {e : Env} {s : State} {m : MethodId} {args : Array Value} {below : List Frame} {meth : Method} {c : Code} {G : gG} {A : Nat → Prop} {Qn : gH → Prop} (X : gC p l s m args meth c G A cJx4a65c_rangeCheckForAdd_d00df 2 none RJx4a65c)   {h : gH} {v0 : Nat} {v1 : Int32} (w : vJx4a65c_rangeCheckForAdd_d00df G.2.2.1  Qn h v0 v1) : V p l e rmJx4a65c_rangeCheckForAdd_d00df s m args below meth c (MQ below (va_Qv Qn (gB G A) A) args s rmJx4a65c_rangeCheckForAdd_d00df.cells rmJx4a65c_rangeCheckForAdd_d00df.slots A) G A 2 h 0 0 0 [(0, .ref v0), (1, .int v1)] [] := by
  refine V_iload_n X dJx4a65c_rangeCheckForAdd_d00df_0 1 rfl ?_
  refine V_aloadr_n X dJx4a65c_rangeCheckForAdd_d00df_1 0 rfl ?_
  obtain ⟨fs, x1, hh, hv, w⟩ := w
  refine V_get X flJx4a65c_48 dJx4a65c_rangeCheckForAdd_d00df_2 hh hv ?_
  obtain ⟨w1, w2⟩ := w
  refine V_icmp_gt (tgt := 12) X dJx4a65c_rangeCheckForAdd_d00df_5 (by decide) (fun z => ?_) (fun z => ?_)
  · replace w := w1 z
    clear w1 w2
    exact V.sub [0, 1] rfl (tJx4a65c_rangeCheckForAdd_d00df_b12 X  w)
  · replace w := w2 z
    clear w1 w2
    refine V_iload_n X dJx4a65c_rangeCheckForAdd_d00df_8 1 rfl ?_
    obtain ⟨w1, w2⟩ := w
    refine V_if_ge (tgt := 25) X dJx4a65c_rangeCheckForAdd_d00df_9 (by decide) (fun z => ?_) (fun z => ?_)
    · replace w := w1 z
      clear w1 w2
      exact V_vret X rfl dJx4a65c_rangeCheckForAdd_d00df_25 (Nat.le_of_ble_eq_true rfl) (Nat.le_of_ble_eq_true rfl) w
    · replace w := w2 z
      clear w1 w2
      exact V.sub [0, 1] rfl (tJx4a65c_rangeCheckForAdd_d00df_b12 X  w)
theorem cJx4a65c_rangeCheckForAdd_d00df_ok {l : Launch} {G : gG} {h : gH} (hls : l.stackTraces = false) {Qn : gH → Prop} {v0 : Nat} {v1 : Int32} (w : vJx4a65c_rangeCheckForAdd_d00df G.2.2.1 Qn h v0 v1) : gMv l yJx4a65c_rangeCheckForAdd_d00df cJx4a65c_rangeCheckForAdd_d00df 2 none rmJx4a65c_rangeCheckForAdd_d00df rmJx4a65c_rangeCheckForAdd_d00df.cells rmJx4a65c_rangeCheckForAdd_d00df.slots G h [.ref v0, .int v1] Qn := by
  exact gMv.of (by decide +kernel) hls (Nat.le_of_ble_eq_true rfl) rfl rfl (fun p e s m below meth c A X hnm => tJx4a65c_rangeCheckForAdd_d00df X w)
/-! java/util/Arrays.copyOf([Ljava/lang/Object;ILjava/lang/Class;)[Ljava/lang/Object; -/
abbrev rmJ7_copyOf_6403c : Room := { frames := 1, cells := 1, slots := 64, locals := 60 }
def vJ7_copyOf_6403c_b24 (t0 : Nat)  (Qn : Option Nat → gH → Prop) (h : gH) (v0 : Option Nat) (v1 : Int32) (s0 : Option Nat) : Prop := nn v0 (fun a1 => al h a1 (fun x2 => vJ9_min_7cf53 t0 (fun x4 h3 => nn s0 (fun a5 => cpq h3 a1 0 a5 0 x4 (fun h6 => Qn (some a5) h6))) h x2 v1))
set_option maxRecDepth 100000 in
set_option maxHeartbeats 4000000 in
theorem tJ7_copyOf_6403c_b24 {p : Program} {l : Launch} {e : Env} {s : State} {m : MethodId} {args : Array Value} {below : List Frame} {meth : Method} {c : Code} {G : gG} {A : Nat → Prop} {Qn : Option Nat → gH → Prop} (X : gC p l s m args meth c G A cJ7_copyOf_6403c 4 (some (FieldType.array (FieldType.object "java/lang/Object"))) RJ7)   {h : gH} {v0 : Option Nat} {v1 : Int32} {s0 : Option Nat} (w : vJ7_copyOf_6403c_b24 G.2.2.1  Qn h v0 v1 s0) : V p l e rmJ7_copyOf_6403c s m args below meth c (MQ below (va_Qq Qn (gB G A) A) args s rmJ7_copyOf_6403c.cells rmJ7_copyOf_6403c.slots A) G A 4 h 1 64 24 [(0, va_rf v0), (1, .int v1)] [va_rf s0] := by
  refine V_astoreq_n (i0 := 3) X dJ7_copyOf_6403c_24 rfl (by decide) rfl ?_
  refine V_aload_n X dJ7_copyOf_6403c_25 1 rfl ?_
  refine V_iconst (y := 0) X dJ7_copyOf_6403c_26 (by decide) ?_
  refine V_aload_n X dJ7_copyOf_6403c_27 0 rfl ?_
  refine V_iconst (y := 0) X dJ7_copyOf_6403c_28 (by decide) ?_
  refine V_aload_n X dJ7_copyOf_6403c_29 1 rfl ?_
  obtain ⟨a1, rfl, w⟩ := w
  obtain ⟨kt9, x9, hh, hk9, w⟩ := w
  refine V_alen X dJ7_copyOf_6403c_30 hh hk9 ?_
  generalize Int32.ofNat _ = x2 at w ⊢
  refine V_iload_n X dJ7_copyOf_6403c_31 2 rfl ?_
  refine V_callSi (As := [.int x2, .int v1]) (rest := [.int 0, va_rf s0, .int 0, .ref a1]) (k1 := 1) (n1 := 64) X (cJ9_min_7cf53_ok X.2.2.2.2.2.2.2.2.1 w) lkJ7_304 dJ7_copyOf_6403c_32 ⟨Nat.le_of_ble_eq_true rfl, Nat.le_of_ble_eq_true rfl⟩ rfl (va_len _ 4 (Nat.le_of_ble_eq_true rfl)) ⟨Nat.le_of_ble_eq_true rfl, Nat.le_of_ble_eq_true rfl⟩ (Nat.le_of_ble_eq_true rfl) (Nat.le_of_ble_eq_true rfl) (fun x4 h3 w9 => ?_)
  replace w := w9
  clear w9
  obtain ⟨a5, rfl, w⟩ := w
  obtain ⟨Na, Nb, f9, g9, hh, hb9, y1, y2, y3, y4, y5, y6, y7, y8, w⟩ := w
  refine V_cpq X gcs acJ7_150 hh hb9 y1 y2 y3 y4 y5 y6 y7 y8 (Nat.le_of_ble_eq_true rfl) (Nat.le_trans (Nat.add_le_add_right (va_len _ 4 (Nat.le_of_ble_eq_true rfl)) _) (by decide +kernel)) dJ7_copyOf_6403c_35 ?_
  generalize va_up _ _ _ = h6 at w ⊢
  refine V_aloadr_n X dJ7_copyOf_6403c_38 0 rfl ?_
  exact V_aret (x := (some a5)) X rfl (Or.inr ⟨_, rfl⟩) dJ7_copyOf_6403c_39 (Nat.le_of_ble_eq_true rfl) (Nat.le_of_ble_eq_true rfl) w
def vJ7_copyOf_6403c (t0 : Nat)  (Qn : Option Nat → gH → Prop) (h : gH) (v0 : Option Nat) (v1 : Int32) : Prop := ¬ (v1 : Int32) < 0 ∧ (Int32.toNatClampNeg v1) ≤ 64 ∧ (nw h (.inl (3, (Int32.toNatClampNeg v1), .inr (.inr (.inr (.inr (fun _ => none)))))) (fun q1 h2 => vJ7_copyOf_6403c_b24 t0  Qn h2 v0 v1 (some q1)))
set_option maxRecDepth 100000 in
set_option maxHeartbeats 4000000 in
theorem tJ7_copyOf_6403c {p : Program} {l : Launch} {e : Env} {s : State} {m : MethodId} {args : Array Value} {below : List Frame} {meth : Method} {c : Code} {G : gG} {A : Nat → Prop} {Qn : Option Nat → gH → Prop} (X : gC p l s m args meth c G A cJ7_copyOf_6403c 4 (some (FieldType.array (FieldType.object "java/lang/Object"))) RJ7)   {h : gH} {v0 : Option Nat} {v1 : Int32} (w : vJ7_copyOf_6403c G.2.2.1  Qn h v0 v1) : V p l e rmJ7_copyOf_6403c s m args below meth c (MQ below (va_Qq Qn (gB G A) A) args s rmJ7_copyOf_6403c.cells rmJ7_copyOf_6403c.slots A) G A 4 h 0 0 0 [(0, va_rf v0), (1, .int v1), (2, .ref G.2.2.2)] [] := by
  refine V_aloadr_n X dJ7_copyOf_6403c_0 2 rfl ?_
  refine V_ldcM X kw_973 dJ7_copyOf_6403c_1 ?_
  refine V_acmp_ne (some G.2.2.2) (some G.2.2.2) (tgt := 13) X dJ7_copyOf_6403c_3 (by decide) (fun z => absurd rfl z) (fun z => ?_)
  clear z
  refine V_iload_n X dJ7_copyOf_6403c_6 1 rfl ?_
  obtain ⟨z0, z1, w⟩ := w
  refine V_anewa3 (N := (Int32.toNatClampNeg v1)) (k1 := 1) (n1 := 64) X kw_975 ku_974 dJ7_copyOf_6403c_7 z0 rfl (by omega) ⟨(Nat.le_of_ble_eq_true rfl), Nat.le_trans (Nat.add_le_add_left z1 _) (Nat.le_of_ble_eq_true rfl)⟩ (Nat.le_of_ble_eq_true rfl) (Nat.add_le_add_left z1 _) (fun q1 hq => ?_)
  replace w := w q1 hq
  generalize va_up _ _ _ = h2 at w ⊢
  refine V_goto (tgt := 24) X dJ7_copyOf_6403c_10 (by decide) ?_
  exact V.sub [0, 1] rfl (tJ7_copyOf_6403c_b24 X  w)
theorem cJ7_copyOf_6403c_ok {l : Launch} {G : gG} {h : gH} (hls : l.stackTraces = false) {Qn : Option Nat → gH → Prop} {v0 : Option Nat} {v1 : Int32} (w : vJ7_copyOf_6403c G.2.2.1 Qn h v0 v1) : gMq l yJ7_copyOf_6403c cJ7_copyOf_6403c 4 (some (FieldType.array (FieldType.object "java/lang/Object"))) rmJ7_copyOf_6403c rmJ7_copyOf_6403c.cells rmJ7_copyOf_6403c.slots G h [va_rf v0, .int v1, .ref G.2.2.2] Qn := by
  cases v0 <;>
  exact gMq.of (by decide +kernel) hls (Nat.le_of_ble_eq_true rfl) rfl rfl (fun p e s m below meth c A X hnm => tJ7_copyOf_6403c X w)
/-! java/util/Arrays.copyOf([Ljava/lang/Object;I)[Ljava/lang/Object; -/
abbrev rmJ7_copyOf_1904c : Room := { frames := 2, cells := 1, slots := 64, locals := 83 }
def vJ7_copyOf_1904c (t0 : Nat)  (Qn : Option Nat → gH → Prop) (h : gH) (v0 : Option Nat) (v1 : Int32) : Prop := nn v0 (fun a1 => (∃ (N : Nat) (g : Nat → Option Nat), h a1 = some (.inl (3, N, .inr (.inr (.inr (.inr g)))))) ∧ (vJ7_copyOf_6403c t0 (fun r3 h2 => Qn r3 h2) h (some a1) v1))
set_option maxRecDepth 100000 in
set_option maxHeartbeats 4000000 in
theorem tJ7_copyOf_1904c {p : Program} {l : Launch} {e : Env} {s : State} {m : MethodId} {args : Array Value} {below : List Frame} {meth : Method} {c : Code} {G : gG} {A : Nat → Prop} {Qn : Option Nat → gH → Prop} (X : gC p l s m args meth c G A cJ7_copyOf_1904c 2 (some (FieldType.array (FieldType.object "java/lang/Object"))) RJ7)   {h : gH} {v0 : Option Nat} {v1 : Int32} (w : vJ7_copyOf_1904c G.2.2.1  Qn h v0 v1) : V p l e rmJ7_copyOf_1904c s m args below meth c (MQ below (va_Qq Qn (gB G A) A) args s rmJ7_copyOf_1904c.cells rmJ7_copyOf_1904c.slots A) G A 2 h 0 0 0 [(0, va_rf v0), (1, .int v1)] [] := by
  refine V_aload_n X dJ7_copyOf_1904c_0 0 rfl ?_
  refine V_iload_n X dJ7_copyOf_1904c_1 1 rfl ?_
  refine V_aload_n X dJ7_copyOf_1904c_2 0 rfl ?_
  obtain ⟨a1, rfl, w⟩ := w
  obtain ⟨⟨N9, g9, hh⟩, w⟩ := w
  refine V_getC X ggc hh dJ7_copyOf_1904c_3 (Nat.le_of_ble_eq_true rfl) (Nat.le_trans (Nat.add_le_add_right (va_len _ 4 (Nat.le_of_ble_eq_true rfl)) _) (Nat.le_of_ble_eq_true rfl)) ?_
  refine V_callSq (As := [.ref a1, .int v1, .ref G.2.2.2]) (rest := []) (k1 := 1) (n1 := 64) X (cJ7_copyOf_6403c_ok X.2.2.2.2.2.2.2.2.1 w) lkJ7_300 dJ7_copyOf_1904c_6 ⟨Nat.le_of_ble_eq_true rfl, Nat.le_of_ble_eq_true rfl⟩ rfl (Nat.le_of_ble_eq_true rfl) ⟨Nat.le_of_ble_eq_true rfl, Nat.le_of_ble_eq_true rfl⟩ (Nat.le_of_ble_eq_true rfl) (Nat.le_of_ble_eq_true rfl) (fun r3 h2 w9 => ?_)
  replace w := w9
  clear w9
  exact V_aret (x := r3) X rfl (Or.inr ⟨_, rfl⟩) dJ7_copyOf_1904c_9 (Nat.le_of_ble_eq_true rfl) (Nat.le_of_ble_eq_true rfl) w
theorem cJ7_copyOf_1904c_ok {l : Launch} {G : gG} {h : gH} (hls : l.stackTraces = false) {Qn : Option Nat → gH → Prop} {v0 : Option Nat} {v1 : Int32} (w : vJ7_copyOf_1904c G.2.2.1 Qn h v0 v1) : gMq l yJ7_copyOf_1904c cJ7_copyOf_1904c 2 (some (FieldType.array (FieldType.object "java/lang/Object"))) rmJ7_copyOf_1904c rmJ7_copyOf_1904c.cells rmJ7_copyOf_1904c.slots G h [va_rf v0, .int v1] Qn := by
  cases v0 <;>
  exact gMq.of (by decide +kernel) hls (Nat.le_of_ble_eq_true rfl) rfl rfl (fun p e s m below meth c A X hnm => tJ7_copyOf_1904c X w)
/-! java/util/ArrayList.grow(I)[Ljava/lang/Object; -/
abbrev rmJx4a65c_grow_92f84 : Room := { frames := 3, cells := 1, slots := 64, locals := 104 }
def vJx4a65c_grow_92f84_b20 (t0 : Nat)  (Qn : Option Nat → gH → Prop) (h : gH) (v0 : Nat) (v1 : Int32) (v2 : Int32) : Prop := vJ8_newLength_cabcc t0 (fun x2 h1 => gr h1 v0 2 1 (fun r3 => vJ7_copyOf_1904c t0 (fun r5 h4 => pv h4 v0 2 1 (va_rf r5) (fun h6 => Qn r5 h6)) h1 r3 x2)) h v2 (v1 - v2) (v2 >>> (1 &&& 31))
set_option maxRecDepth 100000 in
set_option maxHeartbeats 4000000 in
theorem tJx4a65c_grow_92f84_b20 {p : Program} {l : Launch} {e : Env} {s : State} {m : MethodId} {args : Array Value} {below : List Frame} {meth : Method} {c : Code} {G : gG} {A : Nat → Prop} {Qn : Option Nat → gH → Prop} (X : gC p l s m args meth c G A cJx4a65c_grow_92f84 4 (some (FieldType.array (FieldType.object "java/lang/Object"))) RJx4a65c)   {h : gH} {v0 : Nat} {v1 : Int32} {v2 : Int32} (w : vJx4a65c_grow_92f84_b20 G.2.2.1  Qn h v0 v1 v2) : V p l e rmJx4a65c_grow_92f84 s m args below meth c (MQ below (va_Qq Qn (gB G A) A) args s rmJx4a65c_grow_92f84.cells rmJx4a65c_grow_92f84.slots A) G A 4 h 0 0 20 [(0, .ref v0), (1, .int v1), (2, .int v2)] [] := by
  refine V_iload_n X dJx4a65c_grow_92f84_20 2 rfl ?_
  refine V_iload_n X dJx4a65c_grow_92f84_21 1 rfl ?_
  refine V_iload_n X dJx4a65c_grow_92f84_22 2 rfl ?_
  refine V_isub X dJx4a65c_grow_92f84_23 ?_
  refine V_iload_n X dJx4a65c_grow_92f84_24 2 rfl ?_
  refine V_iconst (y := 1) X dJx4a65c_grow_92f84_25 (by decide) ?_
  refine V_ishr X dJx4a65c_grow_92f84_26 ?_
  refine V_callSi (As := [.int v2, .int (v1 - v2), .int (v2 >>> (1 &&& 31))]) (rest := []) (k1 := 0) (n1 := 0) X (cJ8_newLength_cabcc_ok X.2.2.2.2.2.2.2.2.1 w) lkJx4a65c_73 dJx4a65c_grow_92f84_27 ⟨Nat.le_of_ble_eq_true rfl, Nat.le_of_ble_eq_true rfl⟩ rfl (Nat.le_of_ble_eq_true rfl) ⟨Nat.le_of_ble_eq_true rfl, Nat.le_of_ble_eq_true rfl⟩ (Nat.le_of_ble_eq_true rfl) (Nat.le_of_ble_eq_true rfl) (fun x2 h1 w9 => ?_)
  replace w := w9
  clear w9
  refine V_istore_n (i0 := 3) X dJx4a65c_grow_92f84_30 rfl (by decide) rfl ?_
  refine V_aloadr_n X dJx4a65c_grow_92f84_31 1 rfl ?_
  refine V_aloadr_n X dJx4a65c_grow_92f84_32 1 rfl ?_
  obtain ⟨fs, r3, hh, hv, w⟩ := w
  refine V_get X flJx4a65c_9 dJx4a65c_grow_92f84_33 hh hv ?_
  refine V_iload_n X dJx4a65c_grow_92f84_36 0 rfl ?_
  refine V_callSq (As := [va_rf r3, .int x2]) (rest := [.ref v0]) (k1 := 1) (n1 := 64) X (cJ7_copyOf_1904c_ok X.2.2.2.2.2.2.2.2.1 w) lkJx4a65c_66 dJx4a65c_grow_92f84_37 ⟨Nat.le_of_ble_eq_true rfl, Nat.le_of_ble_eq_true rfl⟩ rfl (Nat.le_of_ble_eq_true rfl) ⟨Nat.le_of_ble_eq_true rfl, Nat.le_of_ble_eq_true rfl⟩ (Nat.le_of_ble_eq_true rfl) (Nat.le_of_ble_eq_true rfl) (fun r5 h4 w9 => ?_)
  replace w := w9
  clear w9
  refine V_dupx1 X dJx4a65c_grow_92f84_40 (va_cat1 _) rfl ?_
  obtain ⟨fs, hh, hv, w⟩ := w
  refine V_put X flJx4a65c_9 dJx4a65c_grow_92f84_41 hh hv (by cases r5 <;> rfl) (by cases r5 <;> rfl) ?_
  generalize va_up _ _ _ = h6 at w ⊢
  exact V_aret (x := r5) X rfl (Or.inr ⟨_, rfl⟩) dJx4a65c_grow_92f84_44 (Nat.le_of_ble_eq_true rfl) (Nat.le_of_ble_eq_true rfl) w
def vJx4a65c_grow_92f84 (t0 : Nat)  (Qn : Option Nat → gH → Prop) (h : gH) (v0 : Nat) (v1 : Int32) : Prop := gr h v0 2 1 (fun r1 => nn r1 (fun a2 => al h a2 (fun x3 => ((0 < (x3 : Int32)) → (vJx4a65c_grow_92f84_b20 t0  Qn h v0 v1 x3)) ∧ ((¬ 0 < (x3 : Int32)) → (gr h v0 2 1 (fun r4 => ((r4 = (some t0)) → (vJ9_max_7cf53 t0 (fun x6 h5 => ¬ (x6 : Int32) < 0 ∧ (Int32.toNatClampNeg x6) ≤ 64 ∧ (nw h5 (.inl (3, (Int32.toNatClampNeg x6), .inr (.inr (.inr (.inr (fun _ => none)))))) (fun q7 h8 => pv h8 v0 2 1 (.ref q7) (fun h9 => Qn (some q7) h9)))) h 10 v1)) ∧ ((¬ r4 = (some t0)) → (vJx4a65c_grow_92f84_b20 t0  Qn h v0 v1 x3))))))))
set_option maxRecDepth 100000 in
set_option maxHeartbeats 4000000 in
theorem tJx4a65c_grow_92f84 {p : Program} {l : Launch} {e : Env} {s : State} {m : MethodId} {args : Array Value} {below : List Frame} {meth : Method} {c : Code} {G : gG} {A : Nat → Prop} {Qn : Option Nat → gH → Prop} (X : gC p l s m args meth c G A cJx4a65c_grow_92f84 4 (some (FieldType.array (FieldType.object "java/lang/Object"))) RJx4a65c)   {h : gH} {v0 : Nat} {v1 : Int32} (w : vJx4a65c_grow_92f84 G.2.2.1  Qn h v0 v1) : V p l e rmJx4a65c_grow_92f84 s m args below meth c (MQ below (va_Qq Qn (gB G A) A) args s rmJx4a65c_grow_92f84.cells rmJx4a65c_grow_92f84.slots A) G A 4 h 0 0 0 [(0, .ref v0), (1, .int v1)] [] := by
  refine V_aloadr_n X dJx4a65c_grow_92f84_0 0 rfl ?_
  obtain ⟨fs, r1, hh, hv, w⟩ := w
  refine V_get X flJx4a65c_9 dJx4a65c_grow_92f84_1 hh hv ?_
  obtain ⟨a2, rfl, w⟩ := w
  obtain ⟨kt9, x9, hh, hk9, w⟩ := w
  refine V_alen X dJx4a65c_grow_92f84_4 hh hk9 ?_
  generalize Int32.ofNat _ = x3 at w ⊢
  refine V_istore_n (i0 := 2) X dJx4a65c_grow_92f84_5 rfl (by decide) rfl ?_
  refine V_iload_n X dJx4a65c_grow_92f84_6 0 rfl ?_
  obtain ⟨w1, w2⟩ := w
  refine V_if_gt (tgt := 20) X dJx4a65c_grow_92f84_7 (by decide) (fun z => ?_) (fun z => ?_)
  · replace w := w1 z
    clear w1 w2
    exact V.sub [1, 2, 0] rfl (tJx4a65c_grow_92f84_b20 X  w)
  · replace w := w2 z
    clear w1 w2
    refine V_aloadr_n X dJx4a65c_grow_92f84_10 1 rfl ?_
    obtain ⟨fs, r4, hh, hv, w⟩ := w
    refine V_get X flJx4a65c_9 dJx4a65c_grow_92f84_11 hh hv ?_
    refine V_gets0 X kw_61 dJx4a65c_grow_92f84_14 ?_
    obtain ⟨w1, w2⟩ := w
    refine V_acmp_eq r4 (some G.2.2.1) (tgt := 45) X dJx4a65c_grow_92f84_17 (by decide) (fun z => ?_) (fun z => ?_)
    · replace w := w1 z
      clear w1 w2
      refine V_aloadr_n X dJx4a65c_grow_92f84_45 1 rfl ?_
      refine V_bipush (y := 10) X dJx4a65c_grow_92f84_46 (by decide) ?_
      refine V_iload_n X dJx4a65c_grow_92f84_48 2 rfl ?_
      refine V_callSi (As := [.int 10, .int v1]) (rest := [.ref v0]) (k1 := 0) (n1 := 0) X (cJ9_max_7cf53_ok X.2.2.2.2.2.2.2.2.1 w) lkJx4a65c_79 dJx4a65c_grow_92f84_49 ⟨Nat.le_of_ble_eq_true rfl, Nat.le_of_ble_eq_true rfl⟩ rfl (Nat.le_of_ble_eq_true rfl) ⟨Nat.le_of_ble_eq_true rfl, Nat.le_of_ble_eq_true rfl⟩ (Nat.le_of_ble_eq_true rfl) (Nat.le_of_ble_eq_true rfl) (fun x6 h5 w9 => ?_)
      replace w := w9
      clear w9
      obtain ⟨z0, z1, w⟩ := w
      refine V_anewa3 (N := (Int32.toNatClampNeg x6)) (k1 := 1) (n1 := 64) X kw_979 ku_974 dJx4a65c_grow_92f84_52 z0 rfl (by omega) ⟨(Nat.le_of_ble_eq_true rfl), Nat.le_trans (Nat.add_le_add_left z1 _) (Nat.le_of_ble_eq_true rfl)⟩ (Nat.le_of_ble_eq_true rfl) (Nat.add_le_add_left z1 _) (fun q7 hq => ?_)
      replace w := w q7 hq
      generalize va_up _ _ _ = h8 at w ⊢
      refine V_dupx1 X dJx4a65c_grow_92f84_55 rfl rfl ?_
      obtain ⟨fs, hh, hv, w⟩ := w
      refine V_put X flJx4a65c_9 dJx4a65c_grow_92f84_56 hh hv rfl rfl ?_
      generalize va_up _ _ _ = h9 at w ⊢
      exact V_aret (x := (some q7)) X rfl (Or.inr ⟨_, rfl⟩) dJx4a65c_grow_92f84_59 (Nat.le_of_ble_eq_true rfl) (Nat.le_of_ble_eq_true rfl) w
    · replace w := w2 z
      clear w1 w2
      exact V.sub [1, 2, 0] rfl (tJx4a65c_grow_92f84_b20 X  w)
theorem cJx4a65c_grow_92f84_ok {l : Launch} {G : gG} {h : gH} (hls : l.stackTraces = false) {Qn : Option Nat → gH → Prop} {v0 : Nat} {v1 : Int32} (w : vJx4a65c_grow_92f84 G.2.2.1 Qn h v0 v1) : gMq l yJx4a65c_grow_92f84 cJx4a65c_grow_92f84 4 (some (FieldType.array (FieldType.object "java/lang/Object"))) rmJx4a65c_grow_92f84 rmJx4a65c_grow_92f84.cells rmJx4a65c_grow_92f84.slots G h [.ref v0, .int v1] Qn := by
  exact gMq.of (by decide +kernel) hls (Nat.le_of_ble_eq_true rfl) rfl rfl (fun p e s m below meth c A X hnm => tJx4a65c_grow_92f84 X w)
/-! java/util/ArrayList.grow()[Ljava/lang/Object; -/
abbrev rmJx4a65c_grow_d5877 : Room := { frames := 4, cells := 1, slots := 64, locals := 127 }
def vJx4a65c_grow_d5877 (t0 : Nat)  (Qn : Option Nat → gH → Prop) (h : gH) (v0 : Nat) : Prop := gi h v0 2 2 (fun x1 => io h v0 2 (vJx4a65c_grow_92f84 t0 (fun r3 h2 => Qn r3 h2) h v0 (x1 + 1)))
set_option maxRecDepth 100000 in
set_option maxHeartbeats 4000000 in
theorem tJx4a65c_grow_d5877 {p : Program} {l : Launch} {e : Env} {s : State} {m : MethodId} {args : Array Value} {below : List Frame} {meth : Method} {c : Code} {G : gG} {A : Nat → Prop} {Qn : Option Nat → gH → Prop} (X : gC p l s m args meth c G A cJx4a65c_grow_d5877 1 (some (FieldType.array (FieldType.object "java/lang/Object"))) RJx4a65c)   {h : gH} {v0 : Nat} (w : vJx4a65c_grow_d5877 G.2.2.1  Qn h v0) : V p l e rmJx4a65c_grow_d5877 s m args below meth c (MQ below (va_Qq Qn (gB G A) A) args s rmJx4a65c_grow_d5877.cells rmJx4a65c_grow_d5877.slots A) G A 1 h 0 0 0 [(0, .ref v0)] [] := by
  refine V_aloadr_n X dJx4a65c_grow_d5877_0 0 rfl ?_
  refine V_aloadr_n X dJx4a65c_grow_d5877_1 0 rfl ?_
  obtain ⟨fs, x1, hh, hv, w⟩ := w
  refine V_get X flJx4a65c_48 dJx4a65c_grow_d5877_2 hh hv ?_
  refine V_iconst (y := 1) X dJx4a65c_grow_d5877_5 (by decide) ?_
  refine V_iadd X dJx4a65c_grow_d5877_6 ?_
  obtain ⟨fs, hh, w⟩ := w
  refine V_callVq (As := [.int (x1 + 1)]) (rest := []) (k1 := 1) (n1 := 64) X (cJx4a65c_grow_92f84_ok X.2.2.2.2.2.2.2.2.1 w) lkJx4a65c_69 hh (q9 := (RJx4a65c, TJx4a65c, 3)) rfl rfl dJx4a65c_grow_d5877_7 ⟨Nat.le_of_ble_eq_true rfl, Nat.le_of_ble_eq_true rfl⟩ rfl (Nat.le_of_ble_eq_true rfl) ⟨Nat.le_of_ble_eq_true rfl, Nat.le_of_ble_eq_true rfl⟩ (Nat.le_of_ble_eq_true rfl) (Nat.le_of_ble_eq_true rfl) (fun r3 h2 w9 => ?_)
  replace w := w9
  clear w9
  exact V_aret (x := r3) X rfl (Or.inr ⟨_, rfl⟩) dJx4a65c_grow_d5877_10 (Nat.le_of_ble_eq_true rfl) (Nat.le_of_ble_eq_true rfl) w
theorem cJx4a65c_grow_d5877_ok {l : Launch} {G : gG} {h : gH} (hls : l.stackTraces = false) {Qn : Option Nat → gH → Prop} {v0 : Nat} (w : vJx4a65c_grow_d5877 G.2.2.1 Qn h v0) : gMq l yJx4a65c_grow_d5877 cJx4a65c_grow_d5877 1 (some (FieldType.array (FieldType.object "java/lang/Object"))) rmJx4a65c_grow_d5877 rmJx4a65c_grow_d5877.cells rmJx4a65c_grow_d5877.slots G h [.ref v0] Qn := by
  exact gMq.of (by decide +kernel) hls (Nat.le_of_ble_eq_true rfl) rfl rfl (fun p e s m below meth c A X hnm => tJx4a65c_grow_d5877 X w)
/-! java/util/ArrayList.add(ILjava/lang/Object;)V -/
abbrev rmJx4a65c_add_7a177 : Room := { frames := 5, cells := 1, slots := 64, locals := 147 }
def vJx4a65c_add_7a177_b38 (t0 : Nat)  (Qn : gH → Prop) (h : gH) (v0 : Nat) (v1 : Int32) (v2 : Option Nat) (v3 : Int32) (v4 : Option Nat) : Prop := nn v4 (fun a1 => cpq h a1 v1 a1 (v1 + 1) (v3 - v1) (fun h2 => nn v2 (fun a3 => sq h2 3 a1 v1 a3 (fun h4 => pv h4 v0 2 2 (.int (v3 + 1)) (fun h5 => Qn h5)))))
set_option maxRecDepth 100000 in
set_option maxHeartbeats 4000000 in
theorem tJx4a65c_add_7a177_b38 {p : Program} {l : Launch} {e : Env} {s : State} {m : MethodId} {args : Array Value} {below : List Frame} {meth : Method} {c : Code} {G : gG} {A : Nat → Prop} {Qn : gH → Prop} (X : gC p l s m args meth c G A cJx4a65c_add_7a177 5 none RJx4a65c)   {h : gH} {v0 : Nat} {v1 : Int32} {v2 : Option Nat} {v3 : Int32} {v4 : Option Nat} (w : vJx4a65c_add_7a177_b38 G.2.2.1  Qn h v0 v1 v2 v3 v4) : V p l e rmJx4a65c_add_7a177 s m args below meth c (MQ below (va_Qv Qn (gB G A) A) args s rmJx4a65c_add_7a177.cells rmJx4a65c_add_7a177.slots A) G A 5 h 1 64 38 [(0, .ref v0), (1, .int v1), (2, va_rf v2), (3, .int v3), (4, va_rf v4)] [] := by
  refine V_aload X dJx4a65c_add_7a177_38 4 rfl ?_
  refine V_iload_n X dJx4a65c_add_7a177_40 1 rfl ?_
  refine V_aload X dJx4a65c_add_7a177_41 4 rfl ?_
  refine V_iload_n X dJx4a65c_add_7a177_43 1 rfl ?_
  refine V_iconst (y := 1) X dJx4a65c_add_7a177_44 (by decide) ?_
  refine V_iadd X dJx4a65c_add_7a177_45 ?_
  refine V_iload_n X dJx4a65c_add_7a177_46 3 rfl ?_
  refine V_iload_n X dJx4a65c_add_7a177_47 1 rfl ?_
  refine V_isub X dJx4a65c_add_7a177_48 ?_
  obtain ⟨a1, rfl, w⟩ := w
  obtain ⟨Na, Nb, f9, g9, hh, hb9, y1, y2, y3, y4, y5, y6, y7, y8, w⟩ := w
  refine V_cpq X gcs acJx4a65c_112 hh hb9 y1 y2 y3 y4 y5 y6 y7 y8 (Nat.le_of_ble_eq_true rfl) (Nat.le_trans (Nat.add_le_add_right (va_len _ 4 (Nat.le_of_ble_eq_true rfl)) _) (by decide +kernel)) dJx4a65c_add_7a177_49 ?_
  generalize va_up _ _ _ = h2 at w ⊢
  refine V_aloadr X dJx4a65c_add_7a177_52 4 rfl ?_
  refine V_iload_n X dJx4a65c_add_7a177_54 1 rfl ?_
  refine V_aload_n X dJx4a65c_add_7a177_55 2 rfl ?_
  obtain ⟨a3, rfl, w⟩ := w
  obtain ⟨N9, g9, hh, hi, hO, w⟩ := w
  replace hO := hO.elim (fun z => z.2) (fun z => absurd z.1 (by decide))
  refine V_aast3 X gcs dJx4a65c_add_7a177_56 hh hi hO ?_
  generalize va_up _ _ _ = h4 at w ⊢
  refine V_aloadr_n X dJx4a65c_add_7a177_57 0 rfl ?_
  refine V_iload_n X dJx4a65c_add_7a177_58 3 rfl ?_
  refine V_iconst (y := 1) X dJx4a65c_add_7a177_59 (by decide) ?_
  refine V_iadd X dJx4a65c_add_7a177_60 ?_
  obtain ⟨fs, hh, hv, w⟩ := w
  refine V_put X flJx4a65c_48 dJx4a65c_add_7a177_61 hh hv rfl rfl ?_
  generalize va_up _ _ _ = h5 at w ⊢
  exact V_vret X rfl dJx4a65c_add_7a177_64 (Nat.le_of_ble_eq_true rfl) (Nat.le_of_ble_eq_true rfl) w
def vJx4a65c_add_7a177 (t0 : Nat)  (Qn : gH → Prop) (h : gH) (v0 : Nat) (v1 : Int32) (v2 : Option Nat) : Prop := io h v0 2 (vJx4a65c_rangeCheckForAdd_d00df t0 (fun h1 => gi h1 v0 2 0 (fun x2 => pv h1 v0 2 0 (.int (x2 + 1)) (fun h3 => gi h3 v0 2 2 (fun x4 => gr h3 v0 2 1 (fun r5 => nn r5 (fun a6 => al h3 a6 (fun x7 => ((¬ (x4 : Int32) = x7) → (vJx4a65c_add_7a177_b38 t0  Qn h3 v0 v1 v2 x4 (some a6))) ∧ (((x4 : Int32) = x7) → (io h3 v0 2 (vJx4a65c_grow_d5877 t0 (fun r9 h8 => vJx4a65c_add_7a177_b38 t0  Qn h8 v0 v1 v2 x4 r9) h3 v0 )))))))))) h v0 v1)
set_option maxRecDepth 100000 in
set_option maxHeartbeats 4000000 in
theorem tJx4a65c_add_7a177 {p : Program} {l : Launch} {e : Env} {s : State} {m : MethodId} {args : Array Value} {below : List Frame} {meth : Method} {c : Code} {G : gG} {A : Nat → Prop} {Qn : gH → Prop} (X : gC p l s m args meth c G A cJx4a65c_add_7a177 5 none RJx4a65c)   {h : gH} {v0 : Nat} {v1 : Int32} {v2 : Option Nat} (w : vJx4a65c_add_7a177 G.2.2.1  Qn h v0 v1 v2) : V p l e rmJx4a65c_add_7a177 s m args below meth c (MQ below (va_Qv Qn (gB G A) A) args s rmJx4a65c_add_7a177.cells rmJx4a65c_add_7a177.slots A) G A 5 h 0 0 0 [(0, .ref v0), (1, .int v1), (2, va_rf v2)] [] := by
  refine V_aloadr_n X dJx4a65c_add_7a177_0 0 rfl ?_
  refine V_iload_n X dJx4a65c_add_7a177_1 1 rfl ?_
  obtain ⟨fs, hh, w⟩ := w
  refine V_callVv (As := [.int v1]) (rest := []) (k1 := 0) (n1 := 0) X (cJx4a65c_rangeCheckForAdd_d00df_ok X.2.2.2.2.2.2.2.2.1 w) lkJx4a65c_135 hh (q9 := (RJx4a65c, TJx4a65c, 3)) rfl rfl dJx4a65c_add_7a177_2 ⟨Nat.le_of_ble_eq_true rfl, Nat.le_of_ble_eq_true rfl⟩ rfl (Nat.le_of_ble_eq_true rfl) ⟨Nat.le_of_ble_eq_true rfl, Nat.le_of_ble_eq_true rfl⟩ (Nat.le_of_ble_eq_true rfl) (Nat.le_of_ble_eq_true rfl) (fun h1 w9 => ?_)
  replace w := w9
  clear w9
  refine V_aloadr_n X dJx4a65c_add_7a177_5 0 rfl ?_
  refine V_dup X dJx4a65c_add_7a177_6 rfl ?_
  obtain ⟨fs, x2, hh, hv, w⟩ := w
  refine V_get2 X fmJx4a65c_63 dJx4a65c_add_7a177_7 hh hv ?_
  refine V_iconst (y := 1) X dJx4a65c_add_7a177_10 (by decide) ?_
  refine V_iadd X dJx4a65c_add_7a177_11 ?_
  obtain ⟨fs, hh, hv, w⟩ := w
  refine V_put2 X fmJx4a65c_63 dJx4a65c_add_7a177_12 hh hv rfl rfl ?_
  generalize va_up _ _ _ = h3 at w ⊢
  refine V_aloadr_n X dJx4a65c_add_7a177_15 0 rfl ?_
  obtain ⟨fs, x4, hh, hv, w⟩ := w
  refine V_get X flJx4a65c_48 dJx4a65c_add_7a177_16 hh hv ?_
  refine V_dup X dJx4a65c_add_7a177_19 rfl ?_
  refine V_istore_n (i0 := 3) X dJx4a65c_add_7a177_20 rfl (by decide) (by simp [va_cat1] <;> rfl) ?_
  refine V_aloadr_n X dJx4a65c_add_7a177_21 1 rfl ?_
  obtain ⟨fs, r5, hh, hv, w⟩ := w
  refine V_get X flJx4a65c_9 dJx4a65c_add_7a177_22 hh hv ?_
  refine V_dup X dJx4a65c_add_7a177_25 (va_cat1 _) ?_
  refine V_astoreq X dJx4a65c_add_7a177_26 (by decide) rfl ?_
  obtain ⟨a6, rfl, w⟩ := w
  obtain ⟨kt9, x9, hh, hk9, w⟩ := w
  refine V_alen X dJx4a65c_add_7a177_28 hh hk9 ?_
  generalize Int32.ofNat _ = x7 at w ⊢
  obtain ⟨w1, w2⟩ := w
  refine V_icmp_ne (tgt := 38) X dJx4a65c_add_7a177_29 (by decide) (fun z => ?_) (fun z => ?_)
  · replace w := w1 z
    clear w1 w2
    exact V.widen (k1 := 1) (n1 := 64) (Nat.le_of_ble_eq_true rfl) (Nat.le_of_ble_eq_true rfl) <| V.sub [2, 3, 4, 1, 0] rfl (tJx4a65c_add_7a177_b38 X  w)
  · replace w := w2 z
    clear w1 w2
    refine V_aloadr_n X dJx4a65c_add_7a177_32 2 rfl ?_
    obtain ⟨fs, hh, w⟩ := w
    refine V_callVq (As := []) (rest := []) (k1 := 1) (n1 := 64) X (cJx4a65c_grow_d5877_ok X.2.2.2.2.2.2.2.2.1 w) lkJx4a65c_129 hh (q9 := (RJx4a65c, TJx4a65c, 3)) rfl rfl dJx4a65c_add_7a177_33 ⟨Nat.le_of_ble_eq_true rfl, Nat.le_of_ble_eq_true rfl⟩ rfl (Nat.le_of_ble_eq_true rfl) ⟨Nat.le_of_ble_eq_true rfl, Nat.le_of_ble_eq_true rfl⟩ (Nat.le_of_ble_eq_true rfl) (Nat.le_of_ble_eq_true rfl) (fun r9 h8 w9 => ?_)
    replace w := w9
    clear w9
    refine V_astoreq X dJx4a65c_add_7a177_36 (by decide) rfl ?_
    exact V.sub [2, 3, 4, 1, 0] rfl (tJx4a65c_add_7a177_b38 X  w)
theorem cJx4a65c_add_7a177_ok {l : Launch} {G : gG} {h : gH} (hls : l.stackTraces = false) {Qn : gH → Prop} {v0 : Nat} {v1 : Int32} {v2 : Option Nat} (w : vJx4a65c_add_7a177 G.2.2.1 Qn h v0 v1 v2) : gMv l yJx4a65c_add_7a177 cJx4a65c_add_7a177 5 none rmJx4a65c_add_7a177 rmJx4a65c_add_7a177.cells rmJx4a65c_add_7a177.slots G h [.ref v0, .int v1, va_rf v2] Qn := by
  cases v2 <;>
  exact gMv.of (by decide +kernel) hls (Nat.le_of_ble_eq_true rfl) rfl rfl (fun p e s m below meth c A X hnm => tJx4a65c_add_7a177 X w)
/-! AnimationController$Node.insertChild(LAnimationController$Node;I)V -/
abbrev rmX5_insertChild : Room := { frames := 6, cells := 1, slots := 64, locals := 171 }
def vX5_insertChild_b50 (t0 : Nat)  (Qn : gH → Prop) (h : gH) (v0 : Nat) (v1 : Option Nat) (v2 : Int32) (v3 : Int32) : Prop := gr h v0 8 3 (fun r1 => nn r1 (fun a2 => si h a2 v3 v2 (fun h3 => gr h3 v0 8 2 (fun r4 => nn r4 (fun a5 => io h3 a5 2 (vJx4a65c_add_7a177 t0 (fun h6 => Qn h6) h3 a5 v3 v1))))))
set_option maxRecDepth 100000 in
set_option maxHeartbeats 4000000 in
theorem tX5_insertChild_b50 {p : Program} {l : Launch} {e : Env} {s : State} {m : MethodId} {args : Array Value} {below : List Frame} {meth : Method} {c : Code} {G : gG} {A : Nat → Prop} {Qn : gH → Prop} (X : gC p l s m args meth c G A cX5_insertChild 4 none RX5)   {h : gH} {v0 : Nat} {v1 : Option Nat} {v2 : Int32} {v3 : Int32} (w : vX5_insertChild_b50 G.2.2.1  Qn h v0 v1 v2 v3) : V p l e rmX5_insertChild s m args below meth c (MQ below (va_Qv Qn (gB G A) A) args s rmX5_insertChild.cells rmX5_insertChild.slots A) G A 4 h 0 0 50 [(0, .ref v0), (1, va_rf v1), (2, .int v2), (3, .int v3)] [] := by
  refine V_aloadr_n X dX5_insertChild_50 0 rfl ?_
  obtain ⟨fs, r1, hh, hv, w⟩ := w
  refine V_get X flX5_18 dX5_insertChild_51 hh hv ?_
  refine V_iload_n X dX5_insertChild_54 3 rfl ?_
  refine V_iload_n X dX5_insertChild_55 2 rfl ?_
  obtain ⟨a2, rfl, w⟩ := w
  obtain ⟨N9, g9, hh, hi, w⟩ := w
  refine V_iast X dX5_insertChild_56 hh hi ?_
  generalize va_up _ _ _ = h3 at w ⊢
  refine V_aloadr_n X dX5_insertChild_57 0 rfl ?_
  obtain ⟨fs, r4, hh, hv, w⟩ := w
  refine V_get X flX5_12 dX5_insertChild_58 hh hv ?_
  refine V_iload_n X dX5_insertChild_61 3 rfl ?_
  refine V_aload_n X dX5_insertChild_62 1 rfl ?_
  obtain ⟨a5, rfl, w⟩ := w
  obtain ⟨fs, hh, w⟩ := w
  refine V_callVv (As := [.int v3, va_rf v1]) (rest := []) (k1 := 1) (n1 := 64) X (cJx4a65c_add_7a177_ok X.2.2.2.2.2.2.2.2.1 w) lkX5_45 hh (q9 := (RJx4a65c, TJx4a65c, 3)) rfl rfl dX5_insertChild_63 ⟨Nat.le_of_ble_eq_true rfl, Nat.le_of_ble_eq_true rfl⟩ rfl (Nat.le_of_ble_eq_true rfl) ⟨Nat.le_of_ble_eq_true rfl, Nat.le_of_ble_eq_true rfl⟩ (Nat.le_of_ble_eq_true rfl) (Nat.le_of_ble_eq_true rfl) (fun h6 w9 => ?_)
  replace w := w9
  clear w9
  exact V_vret X rfl dX5_insertChild_66 (Nat.le_of_ble_eq_true rfl) (Nat.le_of_ble_eq_true rfl) w
def vX5_insertChild_b14_o (t0 : Nat) (k14 : gH → Nat → Option Nat → Int32 → Int32 → Prop) (Qn : gH → Prop) (h : gH) (v0 : Nat) (v1 : Option Nat) (v2 : Int32) (v3 : Int32) : Prop := (((v3 : Int32) ≤ 0) → (vX5_insertChild_b50 t0  Qn h v0 v1 v2 v3)) ∧ ((¬ (v3 : Int32) ≤ 0) → (gr h v0 8 3 (fun r1 => nn r1 (fun a2 => li h a2 (v3 - 1) (fun x3 => (((x3 : Int32) ≤ v2) → (vX5_insertChild_b50 t0  Qn h v0 v1 v2 v3)) ∧ ((¬ (x3 : Int32) ≤ v2) → (gr h v0 8 3 (fun r4 => gr h v0 8 3 (fun r5 => nn r5 (fun a6 => li h a6 (v3 - 1) (fun x7 => nn r4 (fun a8 => si h a8 v3 x7 (fun h9 => k14 h9 v0 v1 v2 (v3 + (-1)))))))))))))))
set_option maxRecDepth 100000 in
set_option maxHeartbeats 4000000 in
theorem tX5_insertChild_b14_o {p : Program} {l : Launch} {e : Env} {s : State} {m : MethodId} {args : Array Value} {below : List Frame} {meth : Method} {c : Code} {G : gG} {A : Nat → Prop} {Qn : gH → Prop} (X : gC p l s m args meth c G A cX5_insertChild 4 none RX5) {k14 : gH → Nat → Option Nat → Int32 → Int32 → Prop} (H14 : ∀ (h : gH) (v0 : Nat) (v1 : Option Nat) (v2 : Int32) (v3 : Int32), k14 h v0 v1 v2 v3 → V p l e rmX5_insertChild s m args below meth c (MQ below (va_Qv Qn (gB G A) A) args s rmX5_insertChild.cells rmX5_insertChild.slots A) G A 4 h 0 0 14 [(0, .ref v0), (1, va_rf v1), (2, .int v2), (3, .int v3)] []) {h : gH} {v0 : Nat} {v1 : Option Nat} {v2 : Int32} {v3 : Int32} (w : vX5_insertChild_b14_o G.2.2.1 k14 Qn h v0 v1 v2 v3) : V p l e rmX5_insertChild s m args below meth c (MQ below (va_Qv Qn (gB G A) A) args s rmX5_insertChild.cells rmX5_insertChild.slots A) G A 4 h 0 0 14 [(0, .ref v0), (1, va_rf v1), (2, .int v2), (3, .int v3)] [] := by
  refine V_iload_n X dX5_insertChild_14 3 rfl ?_
  obtain ⟨w1, w2⟩ := w
  refine V_if_le (tgt := 50) X dX5_insertChild_15 (by decide) (fun z => ?_) (fun z => ?_)
  · replace w := w1 z
    clear w1 w2
    exact V.sub [0, 1, 2, 3] rfl (tX5_insertChild_b50 X  w)
  · replace w := w2 z
    clear w1 w2
    refine V_aloadr_n X dX5_insertChild_18 0 rfl ?_
    obtain ⟨fs, r1, hh, hv, w⟩ := w
    refine V_get X flX5_18 dX5_insertChild_19 hh hv ?_
    refine V_iload_n X dX5_insertChild_22 3 rfl ?_
    refine V_iconst (y := 1) X dX5_insertChild_23 (by decide) ?_
    refine V_isub X dX5_insertChild_24 ?_
    obtain ⟨a2, rfl, w⟩ := w
    obtain ⟨N9, g9, hh, hi, w⟩ := w
    refine V_iald X dX5_insertChild_25 hh hi ?_
    generalize g9 _ = x3 at w ⊢
    refine V_iload_n X dX5_insertChild_26 2 rfl ?_
    obtain ⟨w1, w2⟩ := w
    refine V_icmp_le (tgt := 50) X dX5_insertChild_27 (by decide) (fun z => ?_) (fun z => ?_)
    · replace w := w1 z
      clear w1 w2
      exact V.sub [0, 1, 2, 3] rfl (tX5_insertChild_b50 X  w)
    · replace w := w2 z
      clear w1 w2
      refine V_aloadr_n X dX5_insertChild_30 0 rfl ?_
      obtain ⟨fs, r4, hh, hv, w⟩ := w
      refine V_get X flX5_18 dX5_insertChild_31 hh hv ?_
      refine V_iload_n X dX5_insertChild_34 3 rfl ?_
      refine V_aloadr_n X dX5_insertChild_35 0 rfl ?_
      obtain ⟨fs, r5, hh, hv, w⟩ := w
      refine V_get X flX5_18 dX5_insertChild_36 hh hv ?_
      refine V_iload_n X dX5_insertChild_39 3 rfl ?_
      refine V_iconst (y := 1) X dX5_insertChild_40 (by decide) ?_
      refine V_isub X dX5_insertChild_41 ?_
      obtain ⟨a6, rfl, w⟩ := w
      obtain ⟨N9, g9, hh, hi, w⟩ := w
      refine V_iald X dX5_insertChild_42 hh hi ?_
      generalize g9 _ = x7 at w ⊢
      obtain ⟨a8, rfl, w⟩ := w
      obtain ⟨N9, g9, hh, hi, w⟩ := w
      refine V_iast X dX5_insertChild_43 hh hi ?_
      generalize va_up _ _ _ = h9 at w ⊢
      refine V_iinc (y := (v3 + (-1))) X dX5_insertChild_44 3 rfl (by first | rfl | (congr 1)) (by decide) rfl ?_
      refine V_goto (tgt := 14) X dX5_insertChild_47 (by decide) ?_
      exact V.sub [1, 2, 3, 0] rfl (H14 _ _ _ _ _ w)
def vX5_insertChild_b14 (t0 : Nat)  (Qn : gH → Prop) (n : Nat) : gH → Nat → Option Nat → Int32 → Int32 → Prop := Nat.rec (motive := fun _ => gH → Nat → Option Nat → Int32 → Int32 → Prop) (fun _ _ _ _ _ => False) (fun _ k14 => vX5_insertChild_b14_o t0 k14 Qn) n
theorem tX5_insertChild_b14 {p : Program} {l : Launch} {e : Env} {s : State} {m : MethodId} {args : Array Value} {below : List Frame} {meth : Method} {c : Code} {G : gG} {A : Nat → Prop} {Qn : gH → Prop} (X : gC p l s m args meth c G A cX5_insertChild 4 none RX5)   : ∀ (n : Nat) (h : gH) (v0 : Nat) (v1 : Option Nat) (v2 : Int32) (v3 : Int32) (w : vX5_insertChild_b14 G.2.2.1  Qn n h v0 v1 v2 v3), V p l e rmX5_insertChild s m args below meth c (MQ below (va_Qv Qn (gB G A) A) args s rmX5_insertChild.cells rmX5_insertChild.slots A) G A 4 h 0 0 14 [(0, .ref v0), (1, va_rf v1), (2, .int v2), (3, .int v3)] [] := by
  intro n
  induction n with
  | zero => intro h v0 v1 v2 v3 w; exact False.elim w
  | succ n ih => intro h v0 v1 v2 v3 w; exact tX5_insertChild_b14_o X ih w
def vX5_insertChild (t0 : Nat)  (Qn : gH → Prop) (h : gH) (v0 : Nat) (v1 : Option Nat) (v2 : Int32) : Prop := gr h v0 8 2 (fun r1 => nn r1 (fun a2 => io h a2 2 (vJx4a65c_size_8abf5 t0 (fun x4 h3 => (((x4 : Int32) < 5) → (∃ n : Nat, vX5_insertChild_b14 t0  Qn n h3 v0 v1 v2 x4)) ∧ ((¬ (x4 : Int32) < 5) → (Qn h3))) h a2 )))
set_option maxRecDepth 100000 in
set_option maxHeartbeats 4000000 in
theorem tX5_insertChild {p : Program} {l : Launch} {e : Env} {s : State} {m : MethodId} {args : Array Value} {below : List Frame} {meth : Method} {c : Code} {G : gG} {A : Nat → Prop} {Qn : gH → Prop} (X : gC p l s m args meth c G A cX5_insertChild 4 none RX5)   {h : gH} {v0 : Nat} {v1 : Option Nat} {v2 : Int32} (w : vX5_insertChild G.2.2.1  Qn h v0 v1 v2) : V p l e rmX5_insertChild s m args below meth c (MQ below (va_Qv Qn (gB G A) A) args s rmX5_insertChild.cells rmX5_insertChild.slots A) G A 4 h 0 0 0 [(0, .ref v0), (1, va_rf v1), (2, .int v2)] [] := by
  refine V_aloadr_n X dX5_insertChild_0 0 rfl ?_
  obtain ⟨fs, r1, hh, hv, w⟩ := w
  refine V_get X flX5_12 dX5_insertChild_1 hh hv ?_
  obtain ⟨a2, rfl, w⟩ := w
  obtain ⟨fs, hh, w⟩ := w
  refine V_callVi (As := []) (rest := []) (k1 := 0) (n1 := 0) X (cJx4a65c_size_8abf5_ok X.2.2.2.2.2.2.2.2.1 w) lkX5_37 hh (q9 := (RJx4a65c, TJx4a65c, 3)) rfl rfl dX5_insertChild_4 ⟨Nat.le_of_ble_eq_true rfl, Nat.le_of_ble_eq_true rfl⟩ rfl (Nat.le_of_ble_eq_true rfl) ⟨Nat.le_of_ble_eq_true rfl, Nat.le_of_ble_eq_true rfl⟩ (Nat.le_of_ble_eq_true rfl) (Nat.le_of_ble_eq_true rfl) (fun x4 h3 w9 => ?_)
  replace w := w9
  clear w9
  refine V_istore_n (i0 := 3) X dX5_insertChild_7 rfl (by decide) rfl ?_
  refine V_iload_n X dX5_insertChild_8 0 rfl ?_
  refine V_iconst (y := 5) X dX5_insertChild_9 (by decide) ?_
  obtain ⟨w1, w2⟩ := w
  refine V_icmp_lt (tgt := 14) X dX5_insertChild_10 (by decide) (fun z => ?_) (fun z => ?_)
  · replace w := w1 z
    clear w1 w2
    obtain ⟨n9, w⟩ := w
    exact V.sub [1, 2, 3, 0] rfl (tX5_insertChild_b14 X  n9 _ _ _ _ _ w)
  · replace w := w2 z
    clear w1 w2
    exact V_vret X rfl dX5_insertChild_13 (Nat.le_of_ble_eq_true rfl) (Nat.le_of_ble_eq_true rfl) w
theorem cX5_insertChild_ok {l : Launch} {G : gG} {h : gH} (hls : l.stackTraces = false) {Qn : gH → Prop} {v0 : Nat} {v1 : Option Nat} {v2 : Int32} (w : vX5_insertChild G.2.2.1 Qn h v0 v1 v2) : gMv l yX5_insertChild cX5_insertChild 4 none rmX5_insertChild rmX5_insertChild.cells rmX5_insertChild.slots G h [.ref v0, va_rf v1, .int v2] Qn := by
  cases v1 <;>
  exact gMv.of (by decide +kernel) hls (Nat.le_of_ble_eq_true rfl) rfl rfl (fun p e s m below meth c A X hnm => tX5_insertChild X w)
/-! AnimationController$Transition.<init>(ILAnimationController$State;)V -/
abbrev rmX9_init : Room := { frames := 1, cells := 3, slots := 9, locals := 20 }
def vX9_init (t0 : Nat)  (Qn : gH → Prop) (h : gH) (v0 : Nat) (v1 : Int32) (v2 : Option Nat) : Prop := pv h v0 12 4 (.int (-1)) (fun h1 => nw h1 (.inl (0, 3, .inl (fun _ => 0))) (fun q2 h3 => pv h3 v0 12 8 (.ref q2) (fun h4 => nw h4 (.inl (0, 3, .inl (fun _ => 0))) (fun q5 h6 => pv h6 v0 12 9 (.ref q5) (fun h7 => nw h7 (.inl (0, 3, .inl (fun _ => 0))) (fun q8 h9 => pv h9 v0 12 10 (.ref q8) (fun h10 => pv h10 v0 12 0 (.int v1) (fun h11 => pv h11 v0 12 2 (va_rf v2) (fun h12 => Qn h12)))))))))
set_option maxRecDepth 100000 in
set_option maxHeartbeats 4000000 in
theorem tX9_init {p : Program} {l : Launch} {e : Env} {s : State} {m : MethodId} {args : Array Value} {below : List Frame} {meth : Method} {c : Code} {G : gG} {A : Nat → Prop} {Qn : gH → Prop} (X : gC p l s m args meth c G A cX9_init 3 none RX9) (hin : meth.name = "<init>")   {h : gH} {v0 : Nat} {v1 : Int32} {v2 : Option Nat} (w : vX9_init G.2.2.1  Qn h v0 v1 v2) : V p l e rmX9_init s m args below meth c (MQ below (va_Qv Qn (gB G A) A) args s rmX9_init.cells rmX9_init.slots A) G A 3 h 0 0 0 [(0, .ref v0), (1, .int v1), (2, va_rf v2)] [] := by
  refine V_aloadr_n X dX9_init_0 0 rfl ?_
  refine V_objInit X kw_213 kw_41 kw_42 dX9_init_1 (Nat.le_of_ble_eq_true rfl) (Nat.le_of_ble_eq_true rfl) ?_
  refine V_aloadr_n X dX9_init_4 0 rfl ?_
  refine V_iconst (y := (-1)) X dX9_init_5 (by decide) ?_
  obtain ⟨fs, hh, hv, w⟩ := w
  refine V_put X flX9_9 dX9_init_6 hh hv rfl rfl ?_
  generalize va_up _ _ _ = h1 at w ⊢
  refine V_aloadr_n X dX9_init_9 0 rfl ?_
  refine V_iconst (y := 3) X dX9_init_10 (by decide) ?_
  refine V_newa_int (N := 3) (k1 := 1) (n1 := 3) X kw_75 dX9_init_11 (by decide) (by decide) (Nat.le_of_ble_eq_true rfl) ⟨Nat.le_of_ble_eq_true rfl, Nat.le_of_ble_eq_true rfl⟩ (Nat.le_of_ble_eq_true rfl) (Nat.le_of_ble_eq_true rfl) (fun q2 hq => ?_)
  replace w := w q2 hq
  generalize va_up _ _ _ = h3 at w ⊢
  obtain ⟨fs, hh, hv, w⟩ := w
  refine V_putF X hin flX9_15 dX9_init_13 hh hv rfl rfl ?_
  generalize va_up _ _ _ = h4 at w ⊢
  refine V_aloadr_n X dX9_init_16 0 rfl ?_
  refine V_iconst (y := 3) X dX9_init_17 (by decide) ?_
  refine V_newa_int (N := 3) (k1 := 2) (n1 := 6) X kw_75 dX9_init_18 (by decide) (by decide) (Nat.le_of_ble_eq_true rfl) ⟨Nat.le_of_ble_eq_true rfl, Nat.le_of_ble_eq_true rfl⟩ (Nat.le_of_ble_eq_true rfl) (Nat.le_of_ble_eq_true rfl) (fun q5 hq => ?_)
  replace w := w q5 hq
  generalize va_up _ _ _ = h6 at w ⊢
  obtain ⟨fs, hh, hv, w⟩ := w
  refine V_putF X hin flX9_19 dX9_init_20 hh hv rfl rfl ?_
  generalize va_up _ _ _ = h7 at w ⊢
  refine V_aloadr_n X dX9_init_23 0 rfl ?_
  refine V_iconst (y := 3) X dX9_init_24 (by decide) ?_
  refine V_newa_int (N := 3) (k1 := 3) (n1 := 9) X kw_75 dX9_init_25 (by decide) (by decide) (Nat.le_of_ble_eq_true rfl) ⟨Nat.le_of_ble_eq_true rfl, Nat.le_of_ble_eq_true rfl⟩ (Nat.le_of_ble_eq_true rfl) (Nat.le_of_ble_eq_true rfl) (fun q8 hq => ?_)
  replace w := w q8 hq
  generalize va_up _ _ _ = h9 at w ⊢
  obtain ⟨fs, hh, hv, w⟩ := w
  refine V_putF X hin flX9_22 dX9_init_27 hh hv rfl rfl ?_
  generalize va_up _ _ _ = h10 at w ⊢
  refine V_aloadr_n X dX9_init_30 0 rfl ?_
  refine V_iload_n X dX9_init_31 1 rfl ?_
  obtain ⟨fs, hh, hv, w⟩ := w
  refine V_putF X hin flX9_25 dX9_init_32 hh hv rfl rfl ?_
  generalize va_up _ _ _ = h11 at w ⊢
  refine V_aloadr_n X dX9_init_35 0 rfl ?_
  refine V_aload_n X dX9_init_36 2 rfl ?_
  obtain ⟨fs, hh, hv, w⟩ := w
  refine V_put X flX9_28 dX9_init_37 hh hv (by cases v2 <;> rfl) (by cases v2 <;> rfl) ?_
  generalize va_up _ _ _ = h12 at w ⊢
  exact V_vret X rfl dX9_init_40 (Nat.le_of_ble_eq_true rfl) (Nat.le_of_ble_eq_true rfl) w
theorem cX9_init_ok {l : Launch} {G : gG} {h : gH} (hls : l.stackTraces = false) {Qn : gH → Prop} {v0 : Nat} {v1 : Int32} {v2 : Option Nat} (w : vX9_init G.2.2.1 Qn h v0 v1 v2) : gMv l yX9_init cX9_init 3 none rmX9_init rmX9_init.cells rmX9_init.slots G h [.ref v0, .int v1, va_rf v2] Qn := by
  cases v2 <;>
  exact gMv.of (by decide +kernel) hls (Nat.le_of_ble_eq_true rfl) rfl rfl (fun p e s m below meth c A X hnm => tX9_init X hnm w)
/-! AnimationController$Transition.begin(LAnimationController$State;LAnimationController$State;I)V -/
abbrev rmX9_begin : Room := { frames := 0, cells := 0, slots := 0, locals := 0 }
def vX9_begin (t0 : Nat)  (Qn : gH → Prop) (h : gH) (v0 : Nat) (v1 : Option Nat) (v2 : Option Nat) (v3 : Int32) : Prop := pv h v0 12 1 (va_rf v1) (fun h1 => pv h1 v0 12 2 (va_rf v2) (fun h2 => pv h2 v0 12 3 (.int v3) (fun h3 => pv h3 v0 12 4 (.int (-1)) (fun h4 => pv h4 v0 12 5 (.int 0) (fun h5 => pv h5 v0 12 6 (.int 0) (fun h6 => pv h6 v0 12 7 (.int 0) (fun h7 => pv h7 v0 12 11 (.int 0) (fun h8 => Qn h8))))))))
set_option maxRecDepth 100000 in
set_option maxHeartbeats 4000000 in
theorem tX9_begin {p : Program} {l : Launch} {e : Env} {s : State} {m : MethodId} {args : Array Value} {below : List Frame} {meth : Method} {c : Code} {G : gG} {A : Nat → Prop} {Qn : gH → Prop} (X : gC p l s m args meth c G A cX9_begin 4 none RX9)   {h : gH} {v0 : Nat} {v1 : Option Nat} {v2 : Option Nat} {v3 : Int32} (w : vX9_begin G.2.2.1  Qn h v0 v1 v2 v3) : V p l e rmX9_begin s m args below meth c (MQ below (va_Qv Qn (gB G A) A) args s rmX9_begin.cells rmX9_begin.slots A) G A 4 h 0 0 0 [(0, .ref v0), (1, va_rf v1), (2, va_rf v2), (3, .int v3)] [] := by
  refine V_aloadr_n X dX9_begin_0 0 rfl ?_
  refine V_aload_n X dX9_begin_1 1 rfl ?_
  obtain ⟨fs, hh, hv, w⟩ := w
  refine V_put X flX9_32 dX9_begin_2 hh hv (by cases v1 <;> rfl) (by cases v1 <;> rfl) ?_
  generalize va_up _ _ _ = h1 at w ⊢
  refine V_aloadr_n X dX9_begin_5 0 rfl ?_
  refine V_aload_n X dX9_begin_6 2 rfl ?_
  obtain ⟨fs, hh, hv, w⟩ := w
  refine V_put X flX9_28 dX9_begin_7 hh hv (by cases v2 <;> rfl) (by cases v2 <;> rfl) ?_
  generalize va_up _ _ _ = h2 at w ⊢
  refine V_aloadr_n X dX9_begin_10 0 rfl ?_
  refine V_iload_n X dX9_begin_11 3 rfl ?_
  obtain ⟨fs, hh, hv, w⟩ := w
  refine V_put X flX9_35 dX9_begin_12 hh hv rfl rfl ?_
  generalize va_up _ _ _ = h3 at w ⊢
  refine V_aloadr_n X dX9_begin_15 0 rfl ?_
  refine V_iconst (y := (-1)) X dX9_begin_16 (by decide) ?_
  obtain ⟨fs, hh, hv, w⟩ := w
  refine V_put X flX9_9 dX9_begin_17 hh hv rfl rfl ?_
  generalize va_up _ _ _ = h4 at w ⊢
  refine V_aloadr_n X dX9_begin_20 0 rfl ?_
  refine V_iconst (y := 0) X dX9_begin_21 (by decide) ?_
  obtain ⟨fs, hh, hv, w⟩ := w
  refine V_put X flX9_38 dX9_begin_22 hh hv rfl rfl ?_
  generalize va_up _ _ _ = h5 at w ⊢
  refine V_aloadr_n X dX9_begin_25 0 rfl ?_
  refine V_iconst (y := 0) X dX9_begin_26 (by decide) ?_
  obtain ⟨fs, hh, hv, w⟩ := w
  refine V_put X flX9_41 dX9_begin_27 hh hv rfl rfl ?_
  generalize va_up _ _ _ = h6 at w ⊢
  refine V_aloadr_n X dX9_begin_30 0 rfl ?_
  refine V_iconst (y := 0) X dX9_begin_31 (by decide) ?_
  obtain ⟨fs, hh, hv, w⟩ := w
  refine V_put X flX9_44 dX9_begin_32 hh hv rfl rfl ?_
  generalize va_up _ _ _ = h7 at w ⊢
  refine V_aloadr_n X dX9_begin_35 0 rfl ?_
  refine V_iconst (y := 0) X dX9_begin_36 (by decide) ?_
  obtain ⟨fs, hh, hv, w⟩ := w
  refine V_put X flX9_48 dX9_begin_37 hh hv rfl rfl ?_
  generalize va_up _ _ _ = h8 at w ⊢
  exact V_vret X rfl dX9_begin_40 (Nat.le_of_ble_eq_true rfl) (Nat.le_of_ble_eq_true rfl) w
theorem cX9_begin_ok {l : Launch} {G : gG} {h : gH} (hls : l.stackTraces = false) {Qn : gH → Prop} {v0 : Nat} {v1 : Option Nat} {v2 : Option Nat} {v3 : Int32} (w : vX9_begin G.2.2.1 Qn h v0 v1 v2 v3) : gMv l yX9_begin cX9_begin 4 none rmX9_begin rmX9_begin.cells rmX9_begin.slots G h [.ref v0, va_rf v1, va_rf v2, .int v3] Qn := by
  cases v1 <;>
  cases v2 <;>
  exact gMv.of (by decide +kernel) hls (Nat.le_of_ble_eq_true rfl) rfl rfl (fun p e s m below meth c A X hnm => tX9_begin X w)
/-! AnimationController$Transition.appendCondition(III)V -/
abbrev rmX9_appendCondition : Room := { frames := 0, cells := 0, slots := 0, locals := 0 }
def vX9_appendCondition_b55 (t0 : Nat)  (Qn : gH → Prop) (h : gH)  : Prop := Qn h
set_option maxRecDepth 100000 in
set_option maxHeartbeats 4000000 in
theorem tX9_appendCondition_b55 {p : Program} {l : Launch} {e : Env} {s : State} {m : MethodId} {args : Array Value} {below : List Frame} {meth : Method} {c : Code} {G : gG} {A : Nat → Prop} {Qn : gH → Prop} (X : gC p l s m args meth c G A cX9_appendCondition 4 none RX9)   {h : gH}  (w : vX9_appendCondition_b55 G.2.2.1  Qn h ) : V p l e rmX9_appendCondition s m args below meth c (MQ below (va_Qv Qn (gB G A) A) args s rmX9_appendCondition.cells rmX9_appendCondition.slots A) G A 4 h 0 0 55 [] [] := by
  exact V_vret X rfl dX9_appendCondition_55 (Nat.le_of_ble_eq_true rfl) (Nat.le_of_ble_eq_true rfl) w
def vX9_appendCondition (t0 : Nat)  (Qn : gH → Prop) (h : gH) (v0 : Nat) (v1 : Int32) (v2 : Int32) (v3 : Int32) : Prop := gi h v0 12 11 (fun x1 => (((x1 : Int32) < 0) → (vX9_appendCondition_b55 t0  Qn h )) ∧ ((¬ (x1 : Int32) < 0) → (gi h v0 12 11 (fun x2 => ((3 ≤ (x2 : Int32)) → (vX9_appendCondition_b55 t0  Qn h )) ∧ ((¬ 3 ≤ (x2 : Int32)) → (gr h v0 12 8 (fun r3 => gi h v0 12 11 (fun x4 => nn r3 (fun a5 => si h a5 x4 v1 (fun h6 => gr h6 v0 12 9 (fun r7 => gi h6 v0 12 11 (fun x8 => nn r7 (fun a9 => si h6 a9 x8 v2 (fun h10 => gr h10 v0 12 10 (fun r11 => gi h10 v0 12 11 (fun x12 => nn r11 (fun a13 => si h10 a13 x12 v3 (fun h14 => gi h14 v0 12 11 (fun x15 => pv h14 v0 12 11 (.int (x15 + 1)) (fun h16 => vX9_appendCondition_b55 t0  Qn h16 ))))))))))))))))))))
set_option maxRecDepth 100000 in
set_option maxHeartbeats 4000000 in
theorem tX9_appendCondition {p : Program} {l : Launch} {e : Env} {s : State} {m : MethodId} {args : Array Value} {below : List Frame} {meth : Method} {c : Code} {G : gG} {A : Nat → Prop} {Qn : gH → Prop} (X : gC p l s m args meth c G A cX9_appendCondition 4 none RX9)   {h : gH} {v0 : Nat} {v1 : Int32} {v2 : Int32} {v3 : Int32} (w : vX9_appendCondition G.2.2.1  Qn h v0 v1 v2 v3) : V p l e rmX9_appendCondition s m args below meth c (MQ below (va_Qv Qn (gB G A) A) args s rmX9_appendCondition.cells rmX9_appendCondition.slots A) G A 4 h 0 0 0 [(0, .ref v0), (1, .int v1), (2, .int v2), (3, .int v3)] [] := by
  refine V_aloadr_n X dX9_appendCondition_0 0 rfl ?_
  obtain ⟨fs, x1, hh, hv, w⟩ := w
  refine V_get X flX9_48 dX9_appendCondition_1 hh hv ?_
  obtain ⟨w1, w2⟩ := w
  refine V_if_lt (tgt := 55) X dX9_appendCondition_4 (by decide) (fun z => ?_) (fun z => ?_)
  · replace w := w1 z
    clear w1 w2
    exact V.sub [] rfl (tX9_appendCondition_b55 X  w)
  · replace w := w2 z
    clear w1 w2
    refine V_aloadr_n X dX9_appendCondition_7 0 rfl ?_
    obtain ⟨fs, x2, hh, hv, w⟩ := w
    refine V_get X flX9_48 dX9_appendCondition_8 hh hv ?_
    refine V_iconst (y := 3) X dX9_appendCondition_11 (by decide) ?_
    obtain ⟨w1, w2⟩ := w
    refine V_icmp_ge (tgt := 55) X dX9_appendCondition_12 (by decide) (fun z => ?_) (fun z => ?_)
    · replace w := w1 z
      clear w1 w2
      exact V.sub [] rfl (tX9_appendCondition_b55 X  w)
    · replace w := w2 z
      clear w1 w2
      refine V_aloadr_n X dX9_appendCondition_15 0 rfl ?_
      obtain ⟨fs, r3, hh, hv, w⟩ := w
      refine V_get X flX9_15 dX9_appendCondition_16 hh hv ?_
      refine V_aloadr_n X dX9_appendCondition_19 0 rfl ?_
      obtain ⟨fs, x4, hh, hv, w⟩ := w
      refine V_get X flX9_48 dX9_appendCondition_20 hh hv ?_
      refine V_iload_n X dX9_appendCondition_23 1 rfl ?_
      obtain ⟨a5, rfl, w⟩ := w
      obtain ⟨N9, g9, hh, hi, w⟩ := w
      refine V_iast X dX9_appendCondition_24 hh hi ?_
      generalize va_up _ _ _ = h6 at w ⊢
      refine V_aloadr_n X dX9_appendCondition_25 0 rfl ?_
      obtain ⟨fs, r7, hh, hv, w⟩ := w
      refine V_get X flX9_19 dX9_appendCondition_26 hh hv ?_
      refine V_aloadr_n X dX9_appendCondition_29 0 rfl ?_
      obtain ⟨fs, x8, hh, hv, w⟩ := w
      refine V_get X flX9_48 dX9_appendCondition_30 hh hv ?_
      refine V_iload_n X dX9_appendCondition_33 2 rfl ?_
      obtain ⟨a9, rfl, w⟩ := w
      obtain ⟨N9, g9, hh, hi, w⟩ := w
      refine V_iast X dX9_appendCondition_34 hh hi ?_
      generalize va_up _ _ _ = h10 at w ⊢
      refine V_aloadr_n X dX9_appendCondition_35 0 rfl ?_
      obtain ⟨fs, r11, hh, hv, w⟩ := w
      refine V_get X flX9_22 dX9_appendCondition_36 hh hv ?_
      refine V_aloadr_n X dX9_appendCondition_39 0 rfl ?_
      obtain ⟨fs, x12, hh, hv, w⟩ := w
      refine V_get X flX9_48 dX9_appendCondition_40 hh hv ?_
      refine V_iload_n X dX9_appendCondition_43 3 rfl ?_
      obtain ⟨a13, rfl, w⟩ := w
      obtain ⟨N9, g9, hh, hi, w⟩ := w
      refine V_iast X dX9_appendCondition_44 hh hi ?_
      generalize va_up _ _ _ = h14 at w ⊢
      refine V_aloadr_n X dX9_appendCondition_45 0 rfl ?_
      refine V_dup X dX9_appendCondition_46 rfl ?_
      obtain ⟨fs, x15, hh, hv, w⟩ := w
      refine V_get X flX9_48 dX9_appendCondition_47 hh hv ?_
      refine V_iconst (y := 1) X dX9_appendCondition_50 (by decide) ?_
      refine V_iadd X dX9_appendCondition_51 ?_
      obtain ⟨fs, hh, hv, w⟩ := w
      refine V_put X flX9_48 dX9_appendCondition_52 hh hv rfl rfl ?_
      generalize va_up _ _ _ = h16 at w ⊢
      exact V.sub [] rfl (tX9_appendCondition_b55 X  w)
theorem cX9_appendCondition_ok {l : Launch} {G : gG} {h : gH} (hls : l.stackTraces = false) {Qn : gH → Prop} {v0 : Nat} {v1 : Int32} {v2 : Int32} {v3 : Int32} (w : vX9_appendCondition G.2.2.1 Qn h v0 v1 v2 v3) : gMv l yX9_appendCondition cX9_appendCondition 4 none rmX9_appendCondition rmX9_appendCondition.cells rmX9_appendCondition.slots G h [.ref v0, .int v1, .int v2, .int v3] Qn := by
  exact gMv.of (by decide +kernel) hls (Nat.le_of_ble_eq_true rfl) rfl rfl (fun p e s m below meth c A X hnm => tX9_appendCondition X w)
/-! AnimationController$TransitionText.<init>(LAnimationController$Model;)V -/
abbrev rmX10_init : Room := { frames := 2, cells := 5, slots := 171, locals := 42 }
def vX10_init (t0 : Nat)  (Qn : gH → Prop) (h : gH) (v0 : Nat) (v1 : Option Nat) : Prop := nw h (.inl (0, 150, .inl (fun _ => 0))) (fun q1 h2 => pv h2 v0 13 1 (.ref q1) (fun h3 => pv h3 v0 13 0 (va_rf v1) (fun h4 => nw h4 (.inr (12, [.int 0, .null, .null, .int 0, .int 0, .int 0, .int 0, .int 0, .null, .null, .null, .int 0])) (fun q5 h6 => nn v1 (fun a7 => gr h6 a7 7 7 (fun r8 => vX9_init t0 (fun h9 => pv h9 v0 13 4 (.ref q5) (fun h10 => Qn h10)) h6 q5 (-1) r8))))))
set_option maxRecDepth 100000 in
set_option maxHeartbeats 4000000 in
theorem tX10_init {p : Program} {l : Launch} {e : Env} {s : State} {m : MethodId} {args : Array Value} {below : List Frame} {meth : Method} {c : Code} {G : gG} {A : Nat → Prop} {Qn : gH → Prop} (X : gC p l s m args meth c G A cX10_init 2 none RX10) (hin : meth.name = "<init>")   {h : gH} {v0 : Nat} {v1 : Option Nat} (w : vX10_init G.2.2.1  Qn h v0 v1) : V p l e rmX10_init s m args below meth c (MQ below (va_Qv Qn (gB G A) A) args s rmX10_init.cells rmX10_init.slots A) G A 2 h 0 0 0 [(0, .ref v0), (1, va_rf v1)] [] := by
  refine V_aloadr_n X dX10_init_0 0 rfl ?_
  refine V_objInit X kw_207 kw_41 kw_42 dX10_init_1 (Nat.le_of_ble_eq_true rfl) (Nat.le_of_ble_eq_true rfl) ?_
  refine V_aloadr_n X dX10_init_4 0 rfl ?_
  refine V_sipush (y := 150) X dX10_init_5 (by decide) ?_
  refine V_newa_int (N := 150) (k1 := 1) (n1 := 150) X kw_75 dX10_init_8 (by decide) (by decide) (Nat.le_of_ble_eq_true rfl) ⟨Nat.le_of_ble_eq_true rfl, Nat.le_of_ble_eq_true rfl⟩ (Nat.le_of_ble_eq_true rfl) (Nat.le_of_ble_eq_true rfl) (fun q1 hq => ?_)
  replace w := w q1 hq
  generalize va_up _ _ _ = h2 at w ⊢
  obtain ⟨fs, hh, hv, w⟩ := w
  refine V_putF X hin flX10_9 dX10_init_10 hh hv rfl rfl ?_
  generalize va_up _ _ _ = h3 at w ⊢
  refine V_aloadr_n X dX10_init_13 0 rfl ?_
  refine V_aload_n X dX10_init_14 1 rfl ?_
  obtain ⟨fs, hh, hv, w⟩ := w
  refine V_putF X hin flX10_15 dX10_init_15 hh hv (by cases v1 <;> rfl) (by cases v1 <;> rfl) ?_
  generalize va_up _ _ _ = h4 at w ⊢
  refine V_aloadr_n X dX10_init_18 0 rfl ?_
  refine V_new (k1 := 2) (n1 := 162) X nwX10_19 dX10_init_19 ⟨(Nat.le_of_ble_eq_true rfl), (Nat.le_of_ble_eq_true rfl)⟩ (Nat.le_of_ble_eq_true rfl) (Nat.le_of_ble_eq_true rfl) (fun q5 hq => ?_)
  replace w := w q5 hq
  generalize va_up _ _ _ = h6 at w ⊢
  refine V_dup X dX10_init_22 rfl ?_
  refine V_iconst (y := (-1)) X dX10_init_23 (by decide) ?_
  refine V_aload_n X dX10_init_24 1 rfl ?_
  obtain ⟨a7, rfl, w⟩ := w
  obtain ⟨fs, r8, hh, hv, w⟩ := w
  refine V_get3 X frX10_21 dX10_init_25 hh hv ?_
  refine V_callI (As := [.int (-1), va_rf r8]) (rest := [.ref q5, .ref v0]) (k1 := 5) (n1 := 171) X (cX9_init_ok X.2.2.2.2.2.2.2.2.1 w) lkX10_27 dX10_init_28 ⟨Nat.le_of_ble_eq_true rfl, Nat.le_of_ble_eq_true rfl⟩ rfl (Nat.le_of_ble_eq_true rfl) ⟨Nat.le_of_ble_eq_true rfl, Nat.le_of_ble_eq_true rfl⟩ (Nat.le_of_ble_eq_true rfl) (Nat.le_of_ble_eq_true rfl) (fun h9 w9 => ?_)
  replace w := w9
  clear w9
  obtain ⟨fs, hh, hv, w⟩ := w
  refine V_putF X hin flX10_30 dX10_init_31 hh hv rfl rfl ?_
  generalize va_up _ _ _ = h10 at w ⊢
  exact V_vret X rfl dX10_init_34 (Nat.le_of_ble_eq_true rfl) (Nat.le_of_ble_eq_true rfl) w
theorem cX10_init_ok {l : Launch} {G : gG} {h : gH} (hls : l.stackTraces = false) {Qn : gH → Prop} {v0 : Nat} {v1 : Option Nat} (w : vX10_init G.2.2.1 Qn h v0 v1) : gMv l yX10_init cX10_init 2 none rmX10_init rmX10_init.cells rmX10_init.slots G h [.ref v0, va_rf v1] Qn := by
  cases v1 <;>
  exact gMv.of (by decide +kernel) hls (Nat.le_of_ble_eq_true rfl) rfl rfl (fun p e s m below meth c A X hnm => tX10_init X hnm w)
/-! AnimationController.<init>()V -/
abbrev rmX11_init : Room := { frames := 6, cells := 120, slots := 2099, locals := 122 }
def vX11_init_b70_2 (t0 : Nat)  (Qn : gH → Prop) (h : gH) (v0 : Nat) (v1 : Int32) : Prop := gr h v0 14 4 (fun r1 => nn r1 (fun a2 => al h a2 (fun x3 => ((x3 ≤ (v1 : Int32)) → (nw h (.inl (2, 2, .inl (fun _ => 0))) (fun q4 h5 => pv h5 v0 14 5 (.ref q4) (fun h6 => nw h6 (.inl (0, 10, .inl (fun _ => 0))) (fun q7 h8 => pv h8 v0 14 6 (.ref q7) (fun h9 => Qn h9)))))) ∧ ((¬ x3 ≤ (v1 : Int32)) → (gr h v0 14 4 (fun r10 => nw h (.inr (6, [.null, .null, .null, .null, .null, .int 0, .int 0, .null, .int 0, .int 0, .null, .null, .null])) (fun q11 h12 => gr h12 v0 14 0 (fun r13 => vX3_init t0 (fun h14 => nn r10 (fun a15 => sq h14 5 a15 v1 q11 (fun h16 => False))) h12 q11 r13))))))))
set_option maxRecDepth 100000 in
set_option maxHeartbeats 4000000 in
theorem tX11_init_b70_2 {p : Program} {l : Launch} {e : Env} {s : State} {m : MethodId} {args : Array Value} {below : List Frame} {meth : Method} {c : Code} {G : gG} {A : Nat → Prop} {Qn : gH → Prop} (X : gC p l s m args meth c G A cX11_init 2 none RX11) (hin : meth.name = "<init>")   {h : gH} {v0 : Nat} {v1 : Int32} (w : vX11_init_b70_2 G.2.2.1  Qn h v0 v1) : V p l e rmX11_init s m args below meth c (MQ below (va_Qv Qn (gB G A) A) args s rmX11_init.cells rmX11_init.slots A) G A 2 h 100 1727 70 [(0, .ref v0), (1, .int v1)] [] := by
  refine V_iload_n X dX11_init_70 1 rfl ?_
  refine V_aloadr_n X dX11_init_71 0 rfl ?_
  obtain ⟨fs, r1, hh, hv, w⟩ := w
  refine V_get X flX11_35 dX11_init_72 hh hv ?_
  obtain ⟨a2, rfl, w⟩ := w
  obtain ⟨kt9, x9, hh, hk9, w⟩ := w
  refine V_alen X dX11_init_75 hh hk9 ?_
  generalize Int32.ofNat _ = x3 at w ⊢
  obtain ⟨w1, w2⟩ := w
  refine V_icmp_ge (tgt := 102) X dX11_init_76 (by decide) (fun z => ?_) (fun z => ?_)
  · replace w := w1 z
    clear w1 w2
    refine V_aloadr_n X dX11_init_102 0 rfl ?_
    refine V_iconst (y := 2) X dX11_init_103 (by decide) ?_
    refine V_newa_boolean (N := 2) (k1 := 101) (n1 := 1729) X kw_441 dX11_init_104 (by decide) (by decide) (Nat.le_of_ble_eq_true rfl) ⟨Nat.le_of_ble_eq_true rfl, Nat.le_of_ble_eq_true rfl⟩ (Nat.le_of_ble_eq_true rfl) (Nat.le_of_ble_eq_true rfl) (fun q4 hq => ?_)
    replace w := w q4 hq
    generalize va_up _ _ _ = h5 at w ⊢
    obtain ⟨fs, hh, hv, w⟩ := w
    refine V_putF X hin flX11_39 dX11_init_106 hh hv rfl rfl ?_
    generalize va_up _ _ _ = h6 at w ⊢
    refine V_aloadr_n X dX11_init_109 0 rfl ?_
    refine V_bipush (y := 10) X dX11_init_110 (by decide) ?_
    refine V_newa_int (N := 10) (k1 := 102) (n1 := 1739) X kw_75 dX11_init_112 (by decide) (by decide) (Nat.le_of_ble_eq_true rfl) ⟨Nat.le_of_ble_eq_true rfl, Nat.le_of_ble_eq_true rfl⟩ (Nat.le_of_ble_eq_true rfl) (Nat.le_of_ble_eq_true rfl) (fun q7 hq => ?_)
    replace w := w q7 hq
    generalize va_up _ _ _ = h8 at w ⊢
    obtain ⟨fs, hh, hv, w⟩ := w
    refine V_putF X hin flX11_43 dX11_init_114 hh hv rfl rfl ?_
    generalize va_up _ _ _ = h9 at w ⊢
    exact V_vret X rfl dX11_init_117 (Nat.le_of_ble_eq_true rfl) (Nat.le_of_ble_eq_true rfl) w
  · replace w := w2 z
    clear w1 w2
    refine V_aloadr_n X dX11_init_79 0 rfl ?_
    obtain ⟨fs, r10, hh, hv, w⟩ := w
    refine V_get X flX11_35 dX11_init_80 hh hv ?_
    refine V_iload_n X dX11_init_83 1 rfl ?_
    refine V_new (k1 := 101) (n1 := 1740) X nwX11_25 dX11_init_84 ⟨(Nat.le_of_ble_eq_true rfl), (Nat.le_of_ble_eq_true rfl)⟩ (Nat.le_of_ble_eq_true rfl) (Nat.le_of_ble_eq_true rfl) (fun q11 hq => ?_)
    replace w := w q11 hq
    generalize va_up _ _ _ = h12 at w ⊢
    refine V_dup X dX11_init_87 rfl ?_
    refine V_aloadr_n X dX11_init_88 0 rfl ?_
    obtain ⟨fs, r13, hh, hv, w⟩ := w
    refine V_get X flX11_12 dX11_init_89 hh hv ?_
    refine V_callI (As := [va_rf r13]) (rest := [.ref q11, .int v1, va_rf r10]) (k1 := 120) (n1 := 2099) X (cX3_init_ok X.2.2.2.2.2.2.2.2.1 w) lkX11_27 dX11_init_92 ⟨Nat.le_of_ble_eq_true rfl, Nat.le_of_ble_eq_true rfl⟩ rfl (va_len _ 4 (Nat.le_of_ble_eq_true rfl)) ⟨Nat.le_of_ble_eq_true rfl, Nat.le_of_ble_eq_true rfl⟩ (Nat.le_of_ble_eq_true rfl) (Nat.le_of_ble_eq_true rfl) (fun h14 w9 => ?_)
    replace w := w9
    clear w9
    obtain ⟨a15, rfl, w⟩ := w
    obtain ⟨N9, g9, hh, hi, hO, w⟩ := w
    obtain ⟨fs9, hO⟩ := hO.elim (fun z => absurd z.1 (by decide)) (fun z => z.2)
    refine V_aast5 X dX11_init_95 hh hi hO ?_
    generalize va_up _ _ _ = h16 at w ⊢
    refine V_iinc (y := (v1 + 1)) X dX11_init_96 1 rfl (by first | rfl | (congr 1)) (by decide) rfl ?_
    refine V_goto (tgt := 70) X dX11_init_99 (by decide) ?_
    exact False.elim w
def vX11_init_b70_1 (t0 : Nat)  (Qn : gH → Prop) (h : gH) (v0 : Nat) (v1 : Int32) : Prop := gr h v0 14 4 (fun r1 => nn r1 (fun a2 => al h a2 (fun x3 => ((x3 ≤ (v1 : Int32)) → (nw h (.inl (2, 2, .inl (fun _ => 0))) (fun q4 h5 => pv h5 v0 14 5 (.ref q4) (fun h6 => nw h6 (.inl (0, 10, .inl (fun _ => 0))) (fun q7 h8 => pv h8 v0 14 6 (.ref q7) (fun h9 => Qn h9)))))) ∧ ((¬ x3 ≤ (v1 : Int32)) → (gr h v0 14 4 (fun r10 => nw h (.inr (6, [.null, .null, .null, .null, .null, .int 0, .int 0, .null, .int 0, .int 0, .null, .null, .null])) (fun q11 h12 => gr h12 v0 14 0 (fun r13 => vX3_init t0 (fun h14 => nn r10 (fun a15 => sq h14 5 a15 v1 q11 (fun h16 => vX11_init_b70_2 t0  Qn h16 v0 (v1 + 1)))) h12 q11 r13))))))))
set_option maxRecDepth 100000 in
set_option maxHeartbeats 4000000 in
theorem tX11_init_b70_1 {p : Program} {l : Launch} {e : Env} {s : State} {m : MethodId} {args : Array Value} {below : List Frame} {meth : Method} {c : Code} {G : gG} {A : Nat → Prop} {Qn : gH → Prop} (X : gC p l s m args meth c G A cX11_init 2 none RX11) (hin : meth.name = "<init>")   {h : gH} {v0 : Nat} {v1 : Int32} (w : vX11_init_b70_1 G.2.2.1  Qn h v0 v1) : V p l e rmX11_init s m args below meth c (MQ below (va_Qv Qn (gB G A) A) args s rmX11_init.cells rmX11_init.slots A) G A 2 h 80 1355 70 [(0, .ref v0), (1, .int v1)] [] := by
  refine V_iload_n X dX11_init_70 1 rfl ?_
  refine V_aloadr_n X dX11_init_71 0 rfl ?_
  obtain ⟨fs, r1, hh, hv, w⟩ := w
  refine V_get X flX11_35 dX11_init_72 hh hv ?_
  obtain ⟨a2, rfl, w⟩ := w
  obtain ⟨kt9, x9, hh, hk9, w⟩ := w
  refine V_alen X dX11_init_75 hh hk9 ?_
  generalize Int32.ofNat _ = x3 at w ⊢
  obtain ⟨w1, w2⟩ := w
  refine V_icmp_ge (tgt := 102) X dX11_init_76 (by decide) (fun z => ?_) (fun z => ?_)
  · replace w := w1 z
    clear w1 w2
    refine V_aloadr_n X dX11_init_102 0 rfl ?_
    refine V_iconst (y := 2) X dX11_init_103 (by decide) ?_
    refine V_newa_boolean (N := 2) (k1 := 81) (n1 := 1357) X kw_441 dX11_init_104 (by decide) (by decide) (Nat.le_of_ble_eq_true rfl) ⟨Nat.le_of_ble_eq_true rfl, Nat.le_of_ble_eq_true rfl⟩ (Nat.le_of_ble_eq_true rfl) (Nat.le_of_ble_eq_true rfl) (fun q4 hq => ?_)
    replace w := w q4 hq
    generalize va_up _ _ _ = h5 at w ⊢
    obtain ⟨fs, hh, hv, w⟩ := w
    refine V_putF X hin flX11_39 dX11_init_106 hh hv rfl rfl ?_
    generalize va_up _ _ _ = h6 at w ⊢
    refine V_aloadr_n X dX11_init_109 0 rfl ?_
    refine V_bipush (y := 10) X dX11_init_110 (by decide) ?_
    refine V_newa_int (N := 10) (k1 := 82) (n1 := 1367) X kw_75 dX11_init_112 (by decide) (by decide) (Nat.le_of_ble_eq_true rfl) ⟨Nat.le_of_ble_eq_true rfl, Nat.le_of_ble_eq_true rfl⟩ (Nat.le_of_ble_eq_true rfl) (Nat.le_of_ble_eq_true rfl) (fun q7 hq => ?_)
    replace w := w q7 hq
    generalize va_up _ _ _ = h8 at w ⊢
    obtain ⟨fs, hh, hv, w⟩ := w
    refine V_putF X hin flX11_43 dX11_init_114 hh hv rfl rfl ?_
    generalize va_up _ _ _ = h9 at w ⊢
    exact V_vret X rfl dX11_init_117 (Nat.le_of_ble_eq_true rfl) (Nat.le_of_ble_eq_true rfl) w
  · replace w := w2 z
    clear w1 w2
    refine V_aloadr_n X dX11_init_79 0 rfl ?_
    obtain ⟨fs, r10, hh, hv, w⟩ := w
    refine V_get X flX11_35 dX11_init_80 hh hv ?_
    refine V_iload_n X dX11_init_83 1 rfl ?_
    refine V_new (k1 := 81) (n1 := 1368) X nwX11_25 dX11_init_84 ⟨(Nat.le_of_ble_eq_true rfl), (Nat.le_of_ble_eq_true rfl)⟩ (Nat.le_of_ble_eq_true rfl) (Nat.le_of_ble_eq_true rfl) (fun q11 hq => ?_)
    replace w := w q11 hq
    generalize va_up _ _ _ = h12 at w ⊢
    refine V_dup X dX11_init_87 rfl ?_
    refine V_aloadr_n X dX11_init_88 0 rfl ?_
    obtain ⟨fs, r13, hh, hv, w⟩ := w
    refine V_get X flX11_12 dX11_init_89 hh hv ?_
    refine V_callI (As := [va_rf r13]) (rest := [.ref q11, .int v1, va_rf r10]) (k1 := 100) (n1 := 1727) X (cX3_init_ok X.2.2.2.2.2.2.2.2.1 w) lkX11_27 dX11_init_92 ⟨Nat.le_of_ble_eq_true rfl, Nat.le_of_ble_eq_true rfl⟩ rfl (va_len _ 4 (Nat.le_of_ble_eq_true rfl)) ⟨Nat.le_of_ble_eq_true rfl, Nat.le_of_ble_eq_true rfl⟩ (Nat.le_of_ble_eq_true rfl) (Nat.le_of_ble_eq_true rfl) (fun h14 w9 => ?_)
    replace w := w9
    clear w9
    obtain ⟨a15, rfl, w⟩ := w
    obtain ⟨N9, g9, hh, hi, hO, w⟩ := w
    obtain ⟨fs9, hO⟩ := hO.elim (fun z => absurd z.1 (by decide)) (fun z => z.2)
    refine V_aast5 X dX11_init_95 hh hi hO ?_
    generalize va_up _ _ _ = h16 at w ⊢
    refine V_iinc (y := (v1 + 1)) X dX11_init_96 1 rfl (by first | rfl | (congr 1)) (by decide) rfl ?_
    refine V_goto (tgt := 70) X dX11_init_99 (by decide) ?_
    exact V.sub [1, 0] rfl (tX11_init_b70_2 X hin  w)
def vX11_init_b70_0 (t0 : Nat)  (Qn : gH → Prop) (h : gH) (v0 : Nat) (v1 : Int32) : Prop := gr h v0 14 4 (fun r1 => nn r1 (fun a2 => al h a2 (fun x3 => ((x3 ≤ (v1 : Int32)) → (nw h (.inl (2, 2, .inl (fun _ => 0))) (fun q4 h5 => pv h5 v0 14 5 (.ref q4) (fun h6 => nw h6 (.inl (0, 10, .inl (fun _ => 0))) (fun q7 h8 => pv h8 v0 14 6 (.ref q7) (fun h9 => Qn h9)))))) ∧ ((¬ x3 ≤ (v1 : Int32)) → (gr h v0 14 4 (fun r10 => nw h (.inr (6, [.null, .null, .null, .null, .null, .int 0, .int 0, .null, .int 0, .int 0, .null, .null, .null])) (fun q11 h12 => gr h12 v0 14 0 (fun r13 => vX3_init t0 (fun h14 => nn r10 (fun a15 => sq h14 5 a15 v1 q11 (fun h16 => vX11_init_b70_1 t0  Qn h16 v0 (v1 + 1)))) h12 q11 r13))))))))
set_option maxRecDepth 100000 in
set_option maxHeartbeats 4000000 in
theorem tX11_init_b70_0 {p : Program} {l : Launch} {e : Env} {s : State} {m : MethodId} {args : Array Value} {below : List Frame} {meth : Method} {c : Code} {G : gG} {A : Nat → Prop} {Qn : gH → Prop} (X : gC p l s m args meth c G A cX11_init 2 none RX11) (hin : meth.name = "<init>")   {h : gH} {v0 : Nat} {v1 : Int32} (w : vX11_init_b70_0 G.2.2.1  Qn h v0 v1) : V p l e rmX11_init s m args below meth c (MQ below (va_Qv Qn (gB G A) A) args s rmX11_init.cells rmX11_init.slots A) G A 2 h 60 983 70 [(0, .ref v0), (1, .int v1)] [] := by
  refine V_iload_n X dX11_init_70 1 rfl ?_
  refine V_aloadr_n X dX11_init_71 0 rfl ?_
  obtain ⟨fs, r1, hh, hv, w⟩ := w
  refine V_get X flX11_35 dX11_init_72 hh hv ?_
  obtain ⟨a2, rfl, w⟩ := w
  obtain ⟨kt9, x9, hh, hk9, w⟩ := w
  refine V_alen X dX11_init_75 hh hk9 ?_
  generalize Int32.ofNat _ = x3 at w ⊢
  obtain ⟨w1, w2⟩ := w
  refine V_icmp_ge (tgt := 102) X dX11_init_76 (by decide) (fun z => ?_) (fun z => ?_)
  · replace w := w1 z
    clear w1 w2
    refine V_aloadr_n X dX11_init_102 0 rfl ?_
    refine V_iconst (y := 2) X dX11_init_103 (by decide) ?_
    refine V_newa_boolean (N := 2) (k1 := 61) (n1 := 985) X kw_441 dX11_init_104 (by decide) (by decide) (Nat.le_of_ble_eq_true rfl) ⟨Nat.le_of_ble_eq_true rfl, Nat.le_of_ble_eq_true rfl⟩ (Nat.le_of_ble_eq_true rfl) (Nat.le_of_ble_eq_true rfl) (fun q4 hq => ?_)
    replace w := w q4 hq
    generalize va_up _ _ _ = h5 at w ⊢
    obtain ⟨fs, hh, hv, w⟩ := w
    refine V_putF X hin flX11_39 dX11_init_106 hh hv rfl rfl ?_
    generalize va_up _ _ _ = h6 at w ⊢
    refine V_aloadr_n X dX11_init_109 0 rfl ?_
    refine V_bipush (y := 10) X dX11_init_110 (by decide) ?_
    refine V_newa_int (N := 10) (k1 := 62) (n1 := 995) X kw_75 dX11_init_112 (by decide) (by decide) (Nat.le_of_ble_eq_true rfl) ⟨Nat.le_of_ble_eq_true rfl, Nat.le_of_ble_eq_true rfl⟩ (Nat.le_of_ble_eq_true rfl) (Nat.le_of_ble_eq_true rfl) (fun q7 hq => ?_)
    replace w := w q7 hq
    generalize va_up _ _ _ = h8 at w ⊢
    obtain ⟨fs, hh, hv, w⟩ := w
    refine V_putF X hin flX11_43 dX11_init_114 hh hv rfl rfl ?_
    generalize va_up _ _ _ = h9 at w ⊢
    exact V_vret X rfl dX11_init_117 (Nat.le_of_ble_eq_true rfl) (Nat.le_of_ble_eq_true rfl) w
  · replace w := w2 z
    clear w1 w2
    refine V_aloadr_n X dX11_init_79 0 rfl ?_
    obtain ⟨fs, r10, hh, hv, w⟩ := w
    refine V_get X flX11_35 dX11_init_80 hh hv ?_
    refine V_iload_n X dX11_init_83 1 rfl ?_
    refine V_new (k1 := 61) (n1 := 996) X nwX11_25 dX11_init_84 ⟨(Nat.le_of_ble_eq_true rfl), (Nat.le_of_ble_eq_true rfl)⟩ (Nat.le_of_ble_eq_true rfl) (Nat.le_of_ble_eq_true rfl) (fun q11 hq => ?_)
    replace w := w q11 hq
    generalize va_up _ _ _ = h12 at w ⊢
    refine V_dup X dX11_init_87 rfl ?_
    refine V_aloadr_n X dX11_init_88 0 rfl ?_
    obtain ⟨fs, r13, hh, hv, w⟩ := w
    refine V_get X flX11_12 dX11_init_89 hh hv ?_
    refine V_callI (As := [va_rf r13]) (rest := [.ref q11, .int v1, va_rf r10]) (k1 := 80) (n1 := 1355) X (cX3_init_ok X.2.2.2.2.2.2.2.2.1 w) lkX11_27 dX11_init_92 ⟨Nat.le_of_ble_eq_true rfl, Nat.le_of_ble_eq_true rfl⟩ rfl (va_len _ 4 (Nat.le_of_ble_eq_true rfl)) ⟨Nat.le_of_ble_eq_true rfl, Nat.le_of_ble_eq_true rfl⟩ (Nat.le_of_ble_eq_true rfl) (Nat.le_of_ble_eq_true rfl) (fun h14 w9 => ?_)
    replace w := w9
    clear w9
    obtain ⟨a15, rfl, w⟩ := w
    obtain ⟨N9, g9, hh, hi, hO, w⟩ := w
    obtain ⟨fs9, hO⟩ := hO.elim (fun z => absurd z.1 (by decide)) (fun z => z.2)
    refine V_aast5 X dX11_init_95 hh hi hO ?_
    generalize va_up _ _ _ = h16 at w ⊢
    refine V_iinc (y := (v1 + 1)) X dX11_init_96 1 rfl (by first | rfl | (congr 1)) (by decide) rfl ?_
    refine V_goto (tgt := 70) X dX11_init_99 (by decide) ?_
    exact V.sub [1, 0] rfl (tX11_init_b70_1 X hin  w)
def vX11_init (t0 : Nat)  (Qn : gH → Prop) (h : gH) (v0 : Nat) : Prop := nw h (.inr (7, [.null, .int 0, .null, .null, .null, .null, .int 0, .null])) (fun q1 h2 => vX4_init t0 (fun h3 => pv h3 v0 14 0 (.ref q1) (fun h4 => nw h4 (.inr (13, [.null, .null, .int 0, .int 0, .null])) (fun q5 h6 => gr h6 v0 14 0 (fun r7 => vX10_init t0 (fun h8 => pv h8 v0 14 1 (.ref q5) (fun h9 => nw h9 (.inr (6, [.null, .null, .null, .null, .null, .int 0, .int 0, .null, .int 0, .int 0, .null, .null, .null])) (fun q10 h11 => gr h11 v0 14 0 (fun r12 => vX3_init t0 (fun h13 => pv h13 v0 14 2 (.ref q10) (fun h14 => nw h14 (.inr (6, [.null, .null, .null, .null, .null, .int 0, .int 0, .null, .int 0, .int 0, .null, .null, .null])) (fun q15 h16 => gr h16 v0 14 0 (fun r17 => vX3_init t0 (fun h18 => pv h18 v0 14 3 (.ref q15) (fun h19 => nw h19 (.inl (5, 2, .inr (.inr (.inr (.inr (fun _ => none)))))) (fun q20 h21 => pv h21 v0 14 4 (.ref q20) (fun h22 => vX11_init_b70_0 t0  Qn h22 v0 0)))) h16 q15 r17)))) h11 q10 r12)))) h6 q5 r7)))) h2 q1 )
set_option maxRecDepth 100000 in
set_option maxHeartbeats 4000000 in
theorem tX11_init {p : Program} {l : Launch} {e : Env} {s : State} {m : MethodId} {args : Array Value} {below : List Frame} {meth : Method} {c : Code} {G : gG} {A : Nat → Prop} {Qn : gH → Prop} (X : gC p l s m args meth c G A cX11_init 2 none RX11) (hin : meth.name = "<init>")   {h : gH} {v0 : Nat} (w : vX11_init G.2.2.1  Qn h v0) : V p l e rmX11_init s m args below meth c (MQ below (va_Qv Qn (gB G A) A) args s rmX11_init.cells rmX11_init.slots A) G A 2 h 0 0 0 [(0, .ref v0)] [] := by
  refine V_aloadr_n X dX11_init_0 0 rfl ?_
  refine V_objInit X kw_40 kw_41 kw_42 dX11_init_1 (Nat.le_of_ble_eq_true rfl) (Nat.le_of_ble_eq_true rfl) ?_
  refine V_aloadr_n X dX11_init_4 0 rfl ?_
  refine V_new (k1 := 1) (n1 := 8) X nwX11_9 dX11_init_5 ⟨(Nat.le_of_ble_eq_true rfl), (Nat.le_of_ble_eq_true rfl)⟩ (Nat.le_of_ble_eq_true rfl) (Nat.le_of_ble_eq_true rfl) (fun q1 hq => ?_)
  replace w := w q1 hq
  generalize va_up _ _ _ = h2 at w ⊢
  refine V_dup X dX11_init_8 rfl ?_
  refine V_callIN (As := []) (rest := [.ref q1, .ref v0]) (k1 := 13) (n1 := 61) X (cX4_init_ok X.2.2.2.2.2.2.2.2.1 w) lkX11_11 dX11_init_9 ⟨Nat.le_of_ble_eq_true rfl, Nat.le_of_ble_eq_true rfl⟩ rfl (Nat.le_of_ble_eq_true rfl) ⟨Nat.le_of_ble_eq_true rfl, Nat.le_of_ble_eq_true rfl⟩ (Nat.le_of_ble_eq_true rfl) (Nat.le_of_ble_eq_true rfl) (fun h3 w9 => ?_)
  replace w := w9
  clear w9
  obtain ⟨fs, hh, hv, w⟩ := w
  refine V_putF X hin flX11_12 dX11_init_12 hh hv rfl rfl ?_
  generalize va_up _ _ _ = h4 at w ⊢
  refine V_aloadr_n X dX11_init_15 0 rfl ?_
  refine V_new (k1 := 14) (n1 := 66) X nwX11_16 dX11_init_16 ⟨(Nat.le_of_ble_eq_true rfl), (Nat.le_of_ble_eq_true rfl)⟩ (Nat.le_of_ble_eq_true rfl) (Nat.le_of_ble_eq_true rfl) (fun q5 hq => ?_)
  replace w := w q5 hq
  generalize va_up _ _ _ = h6 at w ⊢
  refine V_dup X dX11_init_19 rfl ?_
  refine V_aloadr_n X dX11_init_20 0 rfl ?_
  obtain ⟨fs, r7, hh, hv, w⟩ := w
  refine V_get X flX11_12 dX11_init_21 hh hv ?_
  refine V_callI (As := [va_rf r7]) (rest := [.ref q5, .ref v0]) (k1 := 19) (n1 := 237) X (cX10_init_ok X.2.2.2.2.2.2.2.2.1 w) lkX11_18 dX11_init_24 ⟨Nat.le_of_ble_eq_true rfl, Nat.le_of_ble_eq_true rfl⟩ rfl (Nat.le_of_ble_eq_true rfl) ⟨Nat.le_of_ble_eq_true rfl, Nat.le_of_ble_eq_true rfl⟩ (Nat.le_of_ble_eq_true rfl) (Nat.le_of_ble_eq_true rfl) (fun h8 w9 => ?_)
  replace w := w9
  clear w9
  obtain ⟨fs, hh, hv, w⟩ := w
  refine V_putF X hin flX11_21 dX11_init_27 hh hv rfl rfl ?_
  generalize va_up _ _ _ = h9 at w ⊢
  refine V_aloadr_n X dX11_init_30 0 rfl ?_
  refine V_new (k1 := 20) (n1 := 250) X nwX11_25 dX11_init_31 ⟨(Nat.le_of_ble_eq_true rfl), (Nat.le_of_ble_eq_true rfl)⟩ (Nat.le_of_ble_eq_true rfl) (Nat.le_of_ble_eq_true rfl) (fun q10 hq => ?_)
  replace w := w q10 hq
  generalize va_up _ _ _ = h11 at w ⊢
  refine V_dup X dX11_init_34 rfl ?_
  refine V_aloadr_n X dX11_init_35 0 rfl ?_
  obtain ⟨fs, r12, hh, hv, w⟩ := w
  refine V_get X flX11_12 dX11_init_36 hh hv ?_
  refine V_callI (As := [va_rf r12]) (rest := [.ref q10, .ref v0]) (k1 := 39) (n1 := 609) X (cX3_init_ok X.2.2.2.2.2.2.2.2.1 w) lkX11_27 dX11_init_39 ⟨Nat.le_of_ble_eq_true rfl, Nat.le_of_ble_eq_true rfl⟩ rfl (Nat.le_of_ble_eq_true rfl) ⟨Nat.le_of_ble_eq_true rfl, Nat.le_of_ble_eq_true rfl⟩ (Nat.le_of_ble_eq_true rfl) (Nat.le_of_ble_eq_true rfl) (fun h13 w9 => ?_)
  replace w := w9
  clear w9
  obtain ⟨fs, hh, hv, w⟩ := w
  refine V_putF X hin flX11_28 dX11_init_42 hh hv rfl rfl ?_
  generalize va_up _ _ _ = h14 at w ⊢
  refine V_aloadr_n X dX11_init_45 0 rfl ?_
  refine V_new (k1 := 40) (n1 := 622) X nwX11_25 dX11_init_46 ⟨(Nat.le_of_ble_eq_true rfl), (Nat.le_of_ble_eq_true rfl)⟩ (Nat.le_of_ble_eq_true rfl) (Nat.le_of_ble_eq_true rfl) (fun q15 hq => ?_)
  replace w := w q15 hq
  generalize va_up _ _ _ = h16 at w ⊢
  refine V_dup X dX11_init_49 rfl ?_
  refine V_aloadr_n X dX11_init_50 0 rfl ?_
  obtain ⟨fs, r17, hh, hv, w⟩ := w
  refine V_get X flX11_12 dX11_init_51 hh hv ?_
  refine V_callI (As := [va_rf r17]) (rest := [.ref q15, .ref v0]) (k1 := 59) (n1 := 981) X (cX3_init_ok X.2.2.2.2.2.2.2.2.1 w) lkX11_27 dX11_init_54 ⟨Nat.le_of_ble_eq_true rfl, Nat.le_of_ble_eq_true rfl⟩ rfl (Nat.le_of_ble_eq_true rfl) ⟨Nat.le_of_ble_eq_true rfl, Nat.le_of_ble_eq_true rfl⟩ (Nat.le_of_ble_eq_true rfl) (Nat.le_of_ble_eq_true rfl) (fun h18 w9 => ?_)
  replace w := w9
  clear w9
  obtain ⟨fs, hh, hv, w⟩ := w
  refine V_putF X hin flX11_32 dX11_init_57 hh hv rfl rfl ?_
  generalize va_up _ _ _ = h19 at w ⊢
  refine V_aloadr_n X dX11_init_60 0 rfl ?_
  refine V_iconst (y := 2) X dX11_init_61 (by decide) ?_
  refine V_anewa5 (N := 2) (k1 := 60) (n1 := 983) X kw_283 ku_418 dX11_init_62 (by decide) (by decide) (Nat.le_of_ble_eq_true rfl) ⟨(Nat.le_of_ble_eq_true rfl), (Nat.le_of_ble_eq_true rfl)⟩ (Nat.le_of_ble_eq_true rfl) (Nat.le_of_ble_eq_true rfl) (fun q20 hq => ?_)
  replace w := w q20 hq
  generalize va_up _ _ _ = h21 at w ⊢
  obtain ⟨fs, hh, hv, w⟩ := w
  refine V_putF X hin flX11_35 dX11_init_65 hh hv rfl rfl ?_
  generalize va_up _ _ _ = h22 at w ⊢
  refine V_iconst (y := 0) X dX11_init_68 (by decide) ?_
  refine V_istore_n (i0 := 1) X dX11_init_69 rfl (by decide) rfl ?_
  exact V.sub [1, 0] rfl (tX11_init_b70_0 X hin  w)
theorem cX11_init_ok {l : Launch} {G : gG} {h : gH} (hls : l.stackTraces = false) {Qn : gH → Prop} {v0 : Nat} (w : vX11_init G.2.2.1 Qn h v0) : gMv l yX11_init cX11_init 2 none rmX11_init rmX11_init.cells rmX11_init.slots G h [.ref v0] Qn := by
  exact gMv.of (by decide +kernel) hls (Nat.le_of_ble_eq_true rfl) rfl rfl (fun p e s m below meth c A X hnm => tX11_init X hnm w)
/-! AnimationController.addParameter(I)I -/
abbrev rmX11_addParameter : Room := { frames := 6, cells := 1, slots := 6, locals := 90 }
def vX11_addParameter_b9 (t0 : Nat)  (Qn : Int32 → gH → Prop) (Qx : String → gH → Prop) (h : gH)  : Prop := Qx "java/lang/IllegalArgumentException" h
set_option maxRecDepth 100000 in
set_option maxHeartbeats 4000000 in
theorem tX11_addParameter_b9 {p : Program} {l : Launch} {e : Env} {s : State} {m : MethodId} {args : Array Value} {below : List Frame} {meth : Method} {c : Code} {G : gG} {A : Nat → Prop} {Qn : Int32 → gH → Prop} {Qx : String → gH → Prop} (X : gC p l s m args meth c G A cX11_addParameter 2 (some FieldType.int) RX11) (hT : ∀ x ∈ c.exceptionTable.toList, False)   {h : gH}  (w : vX11_addParameter_b9 G.2.2.1  Qn Qx h ) : V p l e rmX11_addParameter s m args below meth c (vx_MQ below (va_Qi Qn (gB G A) A) (gXC G A Qx) args s rmX11_addParameter.cells rmX11_addParameter.slots A) G A 2 h 0 0 9 [] [] := by
  exact V_throw X thX11_49_47 dX11_addParameter_9 dX11_addParameter_12 dX11_addParameter_13 dX11_addParameter_15 dX11_addParameter_18 hT ⟨(Nat.le_of_ble_eq_true rfl), (Nat.le_of_ble_eq_true rfl), (Nat.le_of_ble_eq_true rfl), (Nat.le_of_ble_eq_true rfl)⟩ (Nat.le_of_ble_eq_true rfl) (Nat.le_of_ble_eq_true rfl) w
def vX11_addParameter (t0 : Nat)  (Qn : Int32 → gH → Prop) (Qx : String → gH → Prop) (h : gH) (v0 : Nat) (v1 : Int32) : Prop := (((v1 : Int32) < 0) → (vX11_addParameter_b9 t0  Qn Qx h )) ∧ ((¬ (v1 : Int32) < 0) → ((((v1 : Int32) ≤ 2) → (gr h v0 14 0 (fun r1 => nn r1 (fun a2 => gi h a2 7 1 (fun x3 => gr h v0 14 0 (fun r4 => nn r4 (fun a5 => gr h a5 7 0 (fun r6 => nn r6 (fun a7 => al h a7 (fun x8 => (((x3 : Int32) < x8) → (gr h v0 14 0 (fun r9 => nn r9 (fun a10 => gr h a10 7 0 (fun r11 => gr h v0 14 0 (fun r12 => nn r12 (fun a13 => gi h a13 7 1 (fun x14 => nn r11 (fun a15 => si h a15 x14 v1 (fun h16 => gr h16 v0 14 0 (fun r17 => nn r17 (fun a18 => gi h16 a18 7 1 (fun x19 => pv h16 a18 7 1 (.int (x19 + 1)) (fun h20 => gr h20 v0 14 0 (fun r21 => nn r21 (fun a22 => gi h20 a22 7 1 (fun x23 => Qn (x23 - 1) h20))))))))))))))))) ∧ ((¬ (x3 : Int32) < x8) → (Qx "java/lang/IllegalStateException" h)))))))))))) ∧ ((¬ (v1 : Int32) ≤ 2) → (vX11_addParameter_b9 t0  Qn Qx h ))))
set_option maxRecDepth 100000 in
set_option maxHeartbeats 4000000 in
theorem tX11_addParameter {p : Program} {l : Launch} {e : Env} {s : State} {m : MethodId} {args : Array Value} {below : List Frame} {meth : Method} {c : Code} {G : gG} {A : Nat → Prop} {Qn : Int32 → gH → Prop} {Qx : String → gH → Prop} (X : gC p l s m args meth c G A cX11_addParameter 2 (some FieldType.int) RX11) (hT : ∀ x ∈ c.exceptionTable.toList, False)   {h : gH} {v0 : Nat} {v1 : Int32} (w : vX11_addParameter G.2.2.1  Qn Qx h v0 v1) : V p l e rmX11_addParameter s m args below meth c (vx_MQ below (va_Qi Qn (gB G A) A) (gXC G A Qx) args s rmX11_addParameter.cells rmX11_addParameter.slots A) G A 2 h 0 0 0 [(0, .ref v0), (1, .int v1)] [] := by
  refine V_iload_n X dX11_addParameter_0 1 rfl ?_
  obtain ⟨w1, w2⟩ := w
  refine V_if_lt (tgt := 9) X dX11_addParameter_1 (by decide) (fun z => ?_) (fun z => ?_)
  · replace w := w1 z
    clear w1 w2
    exact V.sub [] rfl (tX11_addParameter_b9 X hT  w)
  · replace w := w2 z
    clear w1 w2
    refine V_iload_n X dX11_addParameter_4 1 rfl ?_
    refine V_iconst (y := 2) X dX11_addParameter_5 (by decide) ?_
    obtain ⟨w1, w2⟩ := w
    refine V_icmp_le (tgt := 19) X dX11_addParameter_6 (by decide) (fun z => ?_) (fun z => ?_)
    · replace w := w1 z
      clear w1 w2
      refine V_aloadr_n X dX11_addParameter_19 0 rfl ?_
      obtain ⟨fs, r1, hh, hv, w⟩ := w
      refine V_get X flX11_12 dX11_addParameter_20 hh hv ?_
      obtain ⟨a2, rfl, w⟩ := w
      obtain ⟨fs, x3, hh, hv, w⟩ := w
      refine V_get X flX11_54 dX11_addParameter_23 hh hv ?_
      refine V_aloadr_n X dX11_addParameter_26 0 rfl ?_
      obtain ⟨fs, r4, hh, hv, w⟩ := w
      refine V_get X flX11_12 dX11_addParameter_27 hh hv ?_
      obtain ⟨a5, rfl, w⟩ := w
      obtain ⟨fs, r6, hh, hv, w⟩ := w
      refine V_get3 X frX11_58 dX11_addParameter_30 hh hv ?_
      obtain ⟨a7, rfl, w⟩ := w
      obtain ⟨kt9, x9, hh, hk9, w⟩ := w
      refine V_alen X dX11_addParameter_33 hh hk9 ?_
      generalize Int32.ofNat _ = x8 at w ⊢
      obtain ⟨w1, w2⟩ := w
      refine V_icmp_lt (tgt := 47) X dX11_addParameter_34 (by decide) (fun z => ?_) (fun z => ?_)
      · replace w := w1 z
        clear w1 w2
        refine V_aloadr_n X dX11_addParameter_47 0 rfl ?_
        obtain ⟨fs, r9, hh, hv, w⟩ := w
        refine V_get X flX11_12 dX11_addParameter_48 hh hv ?_
        obtain ⟨a10, rfl, w⟩ := w
        obtain ⟨fs, r11, hh, hv, w⟩ := w
        refine V_get3 X frX11_58 dX11_addParameter_51 hh hv ?_
        refine V_aloadr_n X dX11_addParameter_54 0 rfl ?_
        obtain ⟨fs, r12, hh, hv, w⟩ := w
        refine V_get X flX11_12 dX11_addParameter_55 hh hv ?_
        obtain ⟨a13, rfl, w⟩ := w
        obtain ⟨fs, x14, hh, hv, w⟩ := w
        refine V_get X flX11_54 dX11_addParameter_58 hh hv ?_
        refine V_iload_n X dX11_addParameter_61 1 rfl ?_
        obtain ⟨a15, rfl, w⟩ := w
        obtain ⟨N9, g9, hh, hi, w⟩ := w
        refine V_iast X dX11_addParameter_62 hh hi ?_
        generalize va_up _ _ _ = h16 at w ⊢
        refine V_aloadr_n X dX11_addParameter_63 0 rfl ?_
        obtain ⟨fs, r17, hh, hv, w⟩ := w
        refine V_get X flX11_12 dX11_addParameter_64 hh hv ?_
        refine V_dup X dX11_addParameter_67 (va_cat1 _) ?_
        obtain ⟨a18, rfl, w⟩ := w
        obtain ⟨fs, x19, hh, hv, w⟩ := w
        refine V_get X flX11_54 dX11_addParameter_68 hh hv ?_
        refine V_iconst (y := 1) X dX11_addParameter_71 (by decide) ?_
        refine V_iadd X dX11_addParameter_72 ?_
        obtain ⟨fs, hh, hv, w⟩ := w
        refine V_put X flX11_54 dX11_addParameter_73 hh hv rfl rfl ?_
        generalize va_up _ _ _ = h20 at w ⊢
        refine V_aloadr_n X dX11_addParameter_76 0 rfl ?_
        obtain ⟨fs, r21, hh, hv, w⟩ := w
        refine V_get X flX11_12 dX11_addParameter_77 hh hv ?_
        obtain ⟨a22, rfl, w⟩ := w
        obtain ⟨fs, x23, hh, hv, w⟩ := w
        refine V_get X flX11_54 dX11_addParameter_80 hh hv ?_
        refine V_iconst (y := 1) X dX11_addParameter_83 (by decide) ?_
        refine V_isub X dX11_addParameter_84 ?_
        exact V.vx (V_iret X rfl dX11_addParameter_85 (Nat.le_of_ble_eq_true rfl) (Nat.le_of_ble_eq_true rfl) w)
      · replace w := w2 z
        clear w1 w2
        exact V_throw X thX11_63_61 dX11_addParameter_37 dX11_addParameter_40 dX11_addParameter_41 dX11_addParameter_43 dX11_addParameter_46 hT ⟨(Nat.le_of_ble_eq_true rfl), (Nat.le_of_ble_eq_true rfl), (Nat.le_of_ble_eq_true rfl), (Nat.le_of_ble_eq_true rfl)⟩ (Nat.le_of_ble_eq_true rfl) (Nat.le_of_ble_eq_true rfl) w
    · replace w := w2 z
      clear w1 w2
      exact V.sub [] rfl (tX11_addParameter_b9 X hT  w)
theorem cX11_addParameter_ok {l : Launch} {G : gG} {h : gH} (hls : l.stackTraces = false) {Qn : Int32 → gH → Prop} {Qx : String → gH → Prop} {v0 : Nat} {v1 : Int32} (w : vX11_addParameter G.2.2.1 Qn Qx h v0 v1) : gXi l yX11_addParameter cX11_addParameter 2 (some FieldType.int) rmX11_addParameter rmX11_addParameter.cells rmX11_addParameter.slots G h [.ref v0, .int v1] Qn Qx := by
  exact gXi.of (by decide +kernel) hls (Nat.le_of_ble_eq_true rfl) rfl rfl (fun p e s m below meth c A X hT => tX11_addParameter X hT w)
/-! AnimationController.requireParameter(I)V -/
abbrev rmX11_requireParameter : Room := { frames := 6, cells := 1, slots := 6, locals := 90 }
def vX11_requireParameter (t0 : Nat)  (Qn : gH → Prop) (Qx : String → gH → Prop) (h : gH) (v0 : Nat) (v1 : Int32) : Prop := gr h v0 14 0 (fun r1 => nn r1 (fun a2 => io h a2 7 (vX4_hasParameter t0 (fun x4 h3 => ((¬ (x4 : Int32) = 0) → (Qn h3)) ∧ (((x4 : Int32) = 0) → (Qx "java/lang/IndexOutOfBoundsException" h3))) h a2 v1)))
set_option maxRecDepth 100000 in
set_option maxHeartbeats 4000000 in
theorem tX11_requireParameter {p : Program} {l : Launch} {e : Env} {s : State} {m : MethodId} {args : Array Value} {below : List Frame} {meth : Method} {c : Code} {G : gG} {A : Nat → Prop} {Qn : gH → Prop} {Qx : String → gH → Prop} (X : gC p l s m args meth c G A cX11_requireParameter 2 none RX11) (hT : ∀ x ∈ c.exceptionTable.toList, False)   {h : gH} {v0 : Nat} {v1 : Int32} (w : vX11_requireParameter G.2.2.1  Qn Qx h v0 v1) : V p l e rmX11_requireParameter s m args below meth c (vx_MQ below (va_Qv Qn (gB G A) A) (gXC G A Qx) args s rmX11_requireParameter.cells rmX11_requireParameter.slots A) G A 2 h 0 0 0 [(0, .ref v0), (1, .int v1)] [] := by
  refine V_aloadr_n X dX11_requireParameter_0 0 rfl ?_
  obtain ⟨fs, r1, hh, hv, w⟩ := w
  refine V_get X flX11_12 dX11_requireParameter_1 hh hv ?_
  refine V_iload_n X dX11_requireParameter_4 1 rfl ?_
  obtain ⟨a2, rfl, w⟩ := w
  obtain ⟨fs, hh, w⟩ := w
  refine V_callVi (As := [.int v1]) (rest := []) (k1 := 0) (n1 := 0) X (cX4_hasParameter_ok X.2.2.2.2.2.2.2.2.1 w) lkX11_419 hh (q9 := (RX4, TX4, 8)) rfl rfl dX11_requireParameter_5 ⟨Nat.le_of_ble_eq_true rfl, Nat.le_of_ble_eq_true rfl⟩ rfl (Nat.le_of_ble_eq_true rfl) ⟨Nat.le_of_ble_eq_true rfl, Nat.le_of_ble_eq_true rfl⟩ (Nat.le_of_ble_eq_true rfl) (Nat.le_of_ble_eq_true rfl) (fun x4 h3 w9 => ?_)
  replace w := w9
  clear w9
  obtain ⟨w1, w2⟩ := w
  refine V_if_ne (tgt := 22) X dX11_requireParameter_8 (by decide) (fun z => ?_) (fun z => ?_)
  · replace w := w1 z
    clear w1 w2
    exact V.vx (V_vret X rfl dX11_requireParameter_22 (Nat.le_of_ble_eq_true rfl) (Nat.le_of_ble_eq_true rfl) w)
  · replace w := w2 z
    clear w1 w2
    exact V_throwW X thX11_422_378 dX11_requireParameter_11 dX11_requireParameter_14 dX11_requireParameter_15 dX11_requireParameter_18 dX11_requireParameter_21 hT ⟨(Nat.le_of_ble_eq_true rfl), (Nat.le_of_ble_eq_true rfl), (Nat.le_of_ble_eq_true rfl), (Nat.le_of_ble_eq_true rfl)⟩ (Nat.le_of_ble_eq_true rfl) (Nat.le_of_ble_eq_true rfl) w
theorem cX11_requireParameter_ok {l : Launch} {G : gG} {h : gH} (hls : l.stackTraces = false) {Qn : gH → Prop} {Qx : String → gH → Prop} {v0 : Nat} {v1 : Int32} (w : vX11_requireParameter G.2.2.1 Qn Qx h v0 v1) : gXv l yX11_requireParameter cX11_requireParameter 2 none rmX11_requireParameter rmX11_requireParameter.cells rmX11_requireParameter.slots G h [.ref v0, .int v1] Qn Qx := by
  exact gXv.of (by decide +kernel) hls (Nat.le_of_ble_eq_true rfl) rfl rfl (fun p e s m below meth c A X hT => tX11_requireParameter X hT w)
/-! AnimationController.set(II)I -/
abbrev rmX11_set : Room := { frames := 7, cells := 2, slots := 12, locals := 111 }
def vX11_set (t0 : Nat)  (Qn : Int32 → gH → Prop) (Qx : String → gH → Prop) (h : gH) (v0 : Nat) (v1 : Int32) (v2 : Int32) : Prop := io h v0 14 (vX11_requireParameter t0 (fun h1 => gr h1 v0 14 0 (fun r2 => nn r2 (fun a3 => io h1 a3 7 (vX4_isValue t0 (fun x5 h4 => ((¬ (x5 : Int32) = 0) → (gr h4 v0 14 2 (fun r6 => nn r6 (fun a7 => io h4 a7 6 (vX3_valueOf t0 (fun x9 h8 => gr h8 v0 14 2 (fun r10 => nn r10 (fun a11 => io h8 a11 6 (vX3_setValue t0 (fun h12 => Qn x9 h12) h8 a11 v1 v2)))) h4 a7 v1))))) ∧ (((x5 : Int32) = 0) → (Qx "java/lang/IllegalArgumentException" h4))) h1 a3 v1 v2)))) Qx h v0 v1)
set_option maxRecDepth 100000 in
set_option maxHeartbeats 4000000 in
theorem tX11_set {p : Program} {l : Launch} {e : Env} {s : State} {m : MethodId} {args : Array Value} {below : List Frame} {meth : Method} {c : Code} {G : gG} {A : Nat → Prop} {Qn : Int32 → gH → Prop} {Qx : String → gH → Prop} (X : gC p l s m args meth c G A cX11_set 4 (some FieldType.int) RX11) (hT : ∀ x ∈ c.exceptionTable.toList, False)   {h : gH} {v0 : Nat} {v1 : Int32} {v2 : Int32} (w : vX11_set G.2.2.1  Qn Qx h v0 v1 v2) : V p l e rmX11_set s m args below meth c (vx_MQ below (va_Qi Qn (gB G A) A) (gXC G A Qx) args s rmX11_set.cells rmX11_set.slots A) G A 4 h 0 0 0 [(0, .ref v0), (1, .int v1), (2, .int v2)] [] := by
  refine V_aloadr_n X dX11_set_0 0 rfl ?_
  refine V_iload_n X dX11_set_1 1 rfl ?_
  obtain ⟨fs, hh, w⟩ := w
  refine V_callXv (As := [.int v1]) (rest := []) (k1 := 1) (n1 := 6) X (cX11_requireParameter_ok X.2.2.2.2.2.2.2.2.1 w) lkX11_66 hh (q9 := (RX11, TX11, 7)) rfl rfl dX11_set_2 hT ⟨Nat.le_of_ble_eq_true rfl, Nat.le_of_ble_eq_true rfl⟩ rfl (Nat.le_of_ble_eq_true rfl) ⟨Nat.le_of_ble_eq_true rfl, Nat.le_of_ble_eq_true rfl⟩ (Nat.le_of_ble_eq_true rfl) (Nat.le_of_ble_eq_true rfl) (Nat.le_of_ble_eq_true rfl) (Nat.le_of_ble_eq_true rfl) (fun h1 w9 => ?_)
  replace w := w9
  clear w9
  refine V_aloadr_n X dX11_set_5 0 rfl ?_
  obtain ⟨fs, r2, hh, hv, w⟩ := w
  refine V_get X flX11_12 dX11_set_6 hh hv ?_
  refine V_iload_n X dX11_set_9 1 rfl ?_
  refine V_iload_n X dX11_set_10 2 rfl ?_
  obtain ⟨a3, rfl, w⟩ := w
  obtain ⟨fs, hh, w⟩ := w
  refine V_callVi (As := [.int v1, .int v2]) (rest := []) (k1 := 1) (n1 := 6) X (cX4_isValue_ok X.2.2.2.2.2.2.2.2.1 w) lkX11_70 hh (q9 := (RX4, TX4, 8)) rfl rfl dX11_set_11 ⟨Nat.le_of_ble_eq_true rfl, Nat.le_of_ble_eq_true rfl⟩ rfl (Nat.le_of_ble_eq_true rfl) ⟨Nat.le_of_ble_eq_true rfl, Nat.le_of_ble_eq_true rfl⟩ (Nat.le_of_ble_eq_true rfl) (Nat.le_of_ble_eq_true rfl) (fun x5 h4 w9 => ?_)
  replace w := w9
  clear w9
  obtain ⟨w1, w2⟩ := w
  refine V_if_ne (tgt := 27) X dX11_set_14 (by decide) (fun z => ?_) (fun z => ?_)
  · replace w := w1 z
    clear w1 w2
    refine V_aloadr_n X dX11_set_27 0 rfl ?_
    obtain ⟨fs, r6, hh, hv, w⟩ := w
    refine V_get X flX11_28 dX11_set_28 hh hv ?_
    refine V_iload_n X dX11_set_31 1 rfl ?_
    obtain ⟨a7, rfl, w⟩ := w
    obtain ⟨fs, hh, w⟩ := w
    refine V_callVi (As := [.int v1]) (rest := []) (k1 := 1) (n1 := 6) X (cX3_valueOf_ok X.2.2.2.2.2.2.2.2.1 w) lkX11_76 hh (q9 := (RX3, TX3, 13)) rfl rfl dX11_set_32 ⟨Nat.le_of_ble_eq_true rfl, Nat.le_of_ble_eq_true rfl⟩ rfl (Nat.le_of_ble_eq_true rfl) ⟨Nat.le_of_ble_eq_true rfl, Nat.le_of_ble_eq_true rfl⟩ (Nat.le_of_ble_eq_true rfl) (Nat.le_of_ble_eq_true rfl) (fun x9 h8 w9 => ?_)
    replace w := w9
    clear w9
    refine V_istore_n (i0 := 3) X dX11_set_35 rfl (by decide) rfl ?_
    refine V_aloadr_n X dX11_set_36 1 rfl ?_
    obtain ⟨fs, r10, hh, hv, w⟩ := w
    refine V_get X flX11_28 dX11_set_37 hh hv ?_
    refine V_iload_n X dX11_set_40 2 rfl ?_
    refine V_iload_n X dX11_set_41 3 rfl ?_
    obtain ⟨a11, rfl, w⟩ := w
    obtain ⟨fs, hh, w⟩ := w
    refine V_callVv (As := [.int v1, .int v2]) (rest := []) (k1 := 1) (n1 := 6) X (cX3_setValue_ok X.2.2.2.2.2.2.2.2.1 w) lkX11_80 hh (q9 := (RX3, TX3, 13)) rfl rfl dX11_set_42 ⟨Nat.le_of_ble_eq_true rfl, Nat.le_of_ble_eq_true rfl⟩ rfl (Nat.le_of_ble_eq_true rfl) ⟨Nat.le_of_ble_eq_true rfl, Nat.le_of_ble_eq_true rfl⟩ (Nat.le_of_ble_eq_true rfl) (Nat.le_of_ble_eq_true rfl) (fun h12 w9 => ?_)
    replace w := w9
    clear w9
    refine V_iload_n X dX11_set_45 0 rfl ?_
    exact V.vx (V_iret X rfl dX11_set_46 (Nat.le_of_ble_eq_true rfl) (Nat.le_of_ble_eq_true rfl) w)
  · replace w := w2 z
    clear w1 w2
    exact V_throw X thX11_74_47 dX11_set_17 dX11_set_20 dX11_set_21 dX11_set_23 dX11_set_26 hT ⟨(Nat.le_of_ble_eq_true rfl), (Nat.le_of_ble_eq_true rfl), (Nat.le_of_ble_eq_true rfl), (Nat.le_of_ble_eq_true rfl)⟩ (Nat.le_of_ble_eq_true rfl) (Nat.le_of_ble_eq_true rfl) w
theorem cX11_set_ok {l : Launch} {G : gG} {h : gH} (hls : l.stackTraces = false) {Qn : Int32 → gH → Prop} {Qx : String → gH → Prop} {v0 : Nat} {v1 : Int32} {v2 : Int32} (w : vX11_set G.2.2.1 Qn Qx h v0 v1 v2) : gXi l yX11_set cX11_set 4 (some FieldType.int) rmX11_set rmX11_set.cells rmX11_set.slots G h [.ref v0, .int v1, .int v2] Qn Qx := by
  exact gXi.of (by decide +kernel) hls (Nat.le_of_ble_eq_true rfl) rfl rfl (fun p e s m below meth c A X hT => tX11_set X hT w)
/-! AnimationController.value(I)I -/
abbrev rmX11_value : Room := { frames := 7, cells := 1, slots := 6, locals := 111 }
def vX11_value (t0 : Nat)  (Qn : Int32 → gH → Prop) (Qx : String → gH → Prop) (h : gH) (v0 : Nat) (v1 : Int32) : Prop := io h v0 14 (vX11_requireParameter t0 (fun h1 => gr h1 v0 14 2 (fun r2 => nn r2 (fun a3 => io h1 a3 6 (vX3_valueOf t0 (fun x5 h4 => Qn x5 h4) h1 a3 v1)))) Qx h v0 v1)
set_option maxRecDepth 100000 in
set_option maxHeartbeats 4000000 in
theorem tX11_value {p : Program} {l : Launch} {e : Env} {s : State} {m : MethodId} {args : Array Value} {below : List Frame} {meth : Method} {c : Code} {G : gG} {A : Nat → Prop} {Qn : Int32 → gH → Prop} {Qx : String → gH → Prop} (X : gC p l s m args meth c G A cX11_value 2 (some FieldType.int) RX11) (hT : ∀ x ∈ c.exceptionTable.toList, False)   {h : gH} {v0 : Nat} {v1 : Int32} (w : vX11_value G.2.2.1  Qn Qx h v0 v1) : V p l e rmX11_value s m args below meth c (vx_MQ below (va_Qi Qn (gB G A) A) (gXC G A Qx) args s rmX11_value.cells rmX11_value.slots A) G A 2 h 0 0 0 [(0, .ref v0), (1, .int v1)] [] := by
  refine V_aloadr_n X dX11_value_0 0 rfl ?_
  refine V_iload_n X dX11_value_1 1 rfl ?_
  obtain ⟨fs, hh, w⟩ := w
  refine V_callXv (As := [.int v1]) (rest := []) (k1 := 1) (n1 := 6) X (cX11_requireParameter_ok X.2.2.2.2.2.2.2.2.1 w) lkX11_66 hh (q9 := (RX11, TX11, 7)) rfl rfl dX11_value_2 hT ⟨Nat.le_of_ble_eq_true rfl, Nat.le_of_ble_eq_true rfl⟩ rfl (Nat.le_of_ble_eq_true rfl) ⟨Nat.le_of_ble_eq_true rfl, Nat.le_of_ble_eq_true rfl⟩ (Nat.le_of_ble_eq_true rfl) (Nat.le_of_ble_eq_true rfl) (Nat.le_of_ble_eq_true rfl) (Nat.le_of_ble_eq_true rfl) (fun h1 w9 => ?_)
  replace w := w9
  clear w9
  refine V_aloadr_n X dX11_value_5 0 rfl ?_
  obtain ⟨fs, r2, hh, hv, w⟩ := w
  refine V_get X flX11_28 dX11_value_6 hh hv ?_
  refine V_iload_n X dX11_value_9 1 rfl ?_
  obtain ⟨a3, rfl, w⟩ := w
  obtain ⟨fs, hh, w⟩ := w
  refine V_callVi (As := [.int v1]) (rest := []) (k1 := 1) (n1 := 6) X (cX3_valueOf_ok X.2.2.2.2.2.2.2.2.1 w) lkX11_76 hh (q9 := (RX3, TX3, 13)) rfl rfl dX11_value_10 ⟨Nat.le_of_ble_eq_true rfl, Nat.le_of_ble_eq_true rfl⟩ rfl (Nat.le_of_ble_eq_true rfl) ⟨Nat.le_of_ble_eq_true rfl, Nat.le_of_ble_eq_true rfl⟩ (Nat.le_of_ble_eq_true rfl) (Nat.le_of_ble_eq_true rfl) (fun x5 h4 w9 => ?_)
  replace w := w9
  clear w9
  exact V.vx (V_iret X rfl dX11_value_13 (Nat.le_of_ble_eq_true rfl) (Nat.le_of_ble_eq_true rfl) w)
theorem cX11_value_ok {l : Launch} {G : gG} {h : gH} (hls : l.stackTraces = false) {Qn : Int32 → gH → Prop} {Qx : String → gH → Prop} {v0 : Nat} {v1 : Int32} (w : vX11_value G.2.2.1 Qn Qx h v0 v1) : gXi l yX11_value cX11_value 2 (some FieldType.int) rmX11_value rmX11_value.cells rmX11_value.slots G h [.ref v0, .int v1] Qn Qx := by
  exact gXi.of (by decide +kernel) hls (Nat.le_of_ble_eq_true rfl) rfl rfl (fun p e s m below meth c A X hT => tX11_value X hT w)
/-! java/util/ArrayList.add(Ljava/lang/Object;[Ljava/lang/Object;I)V -/
abbrev rmJx4a65c_add_72be8 : Room := { frames := 5, cells := 1, slots := 64, locals := 147 }
def vJx4a65c_add_72be8_b11 (t0 : Nat)  (Qn : gH → Prop) (h : gH) (v0 : Nat) (v1 : Option Nat) (v2 : Option Nat) (v3 : Int32) : Prop := nn v1 (fun a1 => nn v2 (fun a2 => sq h 3 a2 v3 a1 (fun h3 => pv h3 v0 2 2 (.int (v3 + 1)) (fun h4 => Qn h4))))
set_option maxRecDepth 100000 in
set_option maxHeartbeats 4000000 in
theorem tJx4a65c_add_72be8_b11 {p : Program} {l : Launch} {e : Env} {s : State} {m : MethodId} {args : Array Value} {below : List Frame} {meth : Method} {c : Code} {G : gG} {A : Nat → Prop} {Qn : gH → Prop} (X : gC p l s m args meth c G A cJx4a65c_add_72be8 4 none RJx4a65c)   {h : gH} {v0 : Nat} {v1 : Option Nat} {v2 : Option Nat} {v3 : Int32} (w : vJx4a65c_add_72be8_b11 G.2.2.1  Qn h v0 v1 v2 v3) : V p l e rmJx4a65c_add_72be8 s m args below meth c (MQ below (va_Qv Qn (gB G A) A) args s rmJx4a65c_add_72be8.cells rmJx4a65c_add_72be8.slots A) G A 4 h 1 64 11 [(0, .ref v0), (1, va_rf v1), (2, va_rf v2), (3, .int v3)] [] := by
  refine V_aload_n X dJx4a65c_add_72be8_11 2 rfl ?_
  refine V_iload_n X dJx4a65c_add_72be8_12 3 rfl ?_
  refine V_aload_n X dJx4a65c_add_72be8_13 1 rfl ?_
  obtain ⟨a1, rfl, w⟩ := w
  obtain ⟨a2, rfl, w⟩ := w
  obtain ⟨N9, g9, hh, hi, hO, w⟩ := w
  replace hO := hO.elim (fun z => z.2) (fun z => absurd z.1 (by decide))
  refine V_aast3 X gcs dJx4a65c_add_72be8_14 hh hi hO ?_
  generalize va_up _ _ _ = h3 at w ⊢
  refine V_aloadr_n X dJx4a65c_add_72be8_15 0 rfl ?_
  refine V_iload_n X dJx4a65c_add_72be8_16 3 rfl ?_
  refine V_iconst (y := 1) X dJx4a65c_add_72be8_17 (by decide) ?_
  refine V_iadd X dJx4a65c_add_72be8_18 ?_
  obtain ⟨fs, hh, hv, w⟩ := w
  refine V_put X flJx4a65c_48 dJx4a65c_add_72be8_19 hh hv rfl rfl ?_
  generalize va_up _ _ _ = h4 at w ⊢
  exact V_vret X rfl dJx4a65c_add_72be8_22 (Nat.le_of_ble_eq_true rfl) (Nat.le_of_ble_eq_true rfl) w
def vJx4a65c_add_72be8 (t0 : Nat)  (Qn : gH → Prop) (h : gH) (v0 : Nat) (v1 : Option Nat) (v2 : Option Nat) (v3 : Int32) : Prop := nn v2 (fun a1 => al h a1 (fun x2 => ((¬ (v3 : Int32) = x2) → (vJx4a65c_add_72be8_b11 t0  Qn h v0 v1 (some a1) v3)) ∧ (((v3 : Int32) = x2) → (io h v0 2 (vJx4a65c_grow_d5877 t0 (fun r4 h3 => vJx4a65c_add_72be8_b11 t0  Qn h3 v0 v1 r4 v3) h v0 )))))
set_option maxRecDepth 100000 in
set_option maxHeartbeats 4000000 in
theorem tJx4a65c_add_72be8 {p : Program} {l : Launch} {e : Env} {s : State} {m : MethodId} {args : Array Value} {below : List Frame} {meth : Method} {c : Code} {G : gG} {A : Nat → Prop} {Qn : gH → Prop} (X : gC p l s m args meth c G A cJx4a65c_add_72be8 4 none RJx4a65c)   {h : gH} {v0 : Nat} {v1 : Option Nat} {v2 : Option Nat} {v3 : Int32} (w : vJx4a65c_add_72be8 G.2.2.1  Qn h v0 v1 v2 v3) : V p l e rmJx4a65c_add_72be8 s m args below meth c (MQ below (va_Qv Qn (gB G A) A) args s rmJx4a65c_add_72be8.cells rmJx4a65c_add_72be8.slots A) G A 4 h 0 0 0 [(0, .ref v0), (1, va_rf v1), (2, va_rf v2), (3, .int v3)] [] := by
  refine V_iload_n X dJx4a65c_add_72be8_0 3 rfl ?_
  refine V_aload_n X dJx4a65c_add_72be8_1 2 rfl ?_
  obtain ⟨a1, rfl, w⟩ := w
  obtain ⟨kt9, x9, hh, hk9, w⟩ := w
  refine V_alen X dJx4a65c_add_72be8_2 hh hk9 ?_
  generalize Int32.ofNat _ = x2 at w ⊢
  obtain ⟨w1, w2⟩ := w
  refine V_icmp_ne (tgt := 11) X dJx4a65c_add_72be8_3 (by decide) (fun z => ?_) (fun z => ?_)
  · replace w := w1 z
    clear w1 w2
    exact V.widen (k1 := 1) (n1 := 64) (Nat.le_of_ble_eq_true rfl) (Nat.le_of_ble_eq_true rfl) <| V.sub [0, 1, 2, 3] rfl (tJx4a65c_add_72be8_b11 X  w)
  · replace w := w2 z
    clear w1 w2
    refine V_aloadr_n X dJx4a65c_add_72be8_6 0 rfl ?_
    obtain ⟨fs, hh, w⟩ := w
    refine V_callVq (As := []) (rest := []) (k1 := 1) (n1 := 64) X (cJx4a65c_grow_d5877_ok X.2.2.2.2.2.2.2.2.1 w) lkJx4a65c_129 hh (q9 := (RJx4a65c, TJx4a65c, 3)) rfl rfl dJx4a65c_add_72be8_7 ⟨Nat.le_of_ble_eq_true rfl, Nat.le_of_ble_eq_true rfl⟩ rfl (Nat.le_of_ble_eq_true rfl) ⟨Nat.le_of_ble_eq_true rfl, Nat.le_of_ble_eq_true rfl⟩ (Nat.le_of_ble_eq_true rfl) (Nat.le_of_ble_eq_true rfl) (fun r4 h3 w9 => ?_)
    replace w := w9
    clear w9
    refine V_astoreq_n (i0 := 2) X dJx4a65c_add_72be8_10 rfl (by decide) (by simp [va_cat1] <;> rfl) ?_
    exact V.sub [1, 2, 0, 3] rfl (tJx4a65c_add_72be8_b11 X  w)
theorem cJx4a65c_add_72be8_ok {l : Launch} {G : gG} {h : gH} (hls : l.stackTraces = false) {Qn : gH → Prop} {v0 : Nat} {v1 : Option Nat} {v2 : Option Nat} {v3 : Int32} (w : vJx4a65c_add_72be8 G.2.2.1 Qn h v0 v1 v2 v3) : gMv l yJx4a65c_add_72be8 cJx4a65c_add_72be8 4 none rmJx4a65c_add_72be8 rmJx4a65c_add_72be8.cells rmJx4a65c_add_72be8.slots G h [.ref v0, va_rf v1, va_rf v2, .int v3] Qn := by
  cases v1 <;>
  cases v2 <;>
  exact gMv.of (by decide +kernel) hls (Nat.le_of_ble_eq_true rfl) rfl rfl (fun p e s m below meth c A X hnm => tJx4a65c_add_72be8 X w)
/-! java/util/ArrayList.add(Ljava/lang/Object;)Z -/
abbrev rmJx4a65c_add_9ea2d : Room := { frames := 6, cells := 1, slots := 64, locals := 170 }
def vJx4a65c_add_9ea2d (t0 : Nat)  (Qn : Int32 → gH → Prop) (h : gH) (v0 : Nat) (v1 : Option Nat) : Prop := gi h v0 2 0 (fun x1 => pv h v0 2 0 (.int (x1 + 1)) (fun h2 => gr h2 v0 2 1 (fun r3 => gi h2 v0 2 2 (fun x4 => io h2 v0 2 (vJx4a65c_add_72be8 t0 (fun h5 => Qn 1 h5) h2 v0 v1 r3 x4)))))
set_option maxRecDepth 100000 in
set_option maxHeartbeats 4000000 in
theorem tJx4a65c_add_9ea2d {p : Program} {l : Launch} {e : Env} {s : State} {m : MethodId} {args : Array Value} {below : List Frame} {meth : Method} {c : Code} {G : gG} {A : Nat → Prop} {Qn : Int32 → gH → Prop} (X : gC p l s m args meth c G A cJx4a65c_add_9ea2d 2 (some FieldType.boolean) RJx4a65c)   {h : gH} {v0 : Nat} {v1 : Option Nat} (w : vJx4a65c_add_9ea2d G.2.2.1  Qn h v0 v1) : V p l e rmJx4a65c_add_9ea2d s m args below meth c (MQ below (va_Qi Qn (gB G A) A) args s rmJx4a65c_add_9ea2d.cells rmJx4a65c_add_9ea2d.slots A) G A 2 h 0 0 0 [(0, .ref v0), (1, va_rf v1)] [] := by
  refine V_aloadr_n X dJx4a65c_add_9ea2d_0 0 rfl ?_
  refine V_dup X dJx4a65c_add_9ea2d_1 rfl ?_
  obtain ⟨fs, x1, hh, hv, w⟩ := w
  refine V_get2 X fmJx4a65c_63 dJx4a65c_add_9ea2d_2 hh hv ?_
  refine V_iconst (y := 1) X dJx4a65c_add_9ea2d_5 (by decide) ?_
  refine V_iadd X dJx4a65c_add_9ea2d_6 ?_
  obtain ⟨fs, hh, hv, w⟩ := w
  refine V_put2 X fmJx4a65c_63 dJx4a65c_add_9ea2d_7 hh hv rfl rfl ?_
  generalize va_up _ _ _ = h2 at w ⊢
  refine V_aloadr_n X dJx4a65c_add_9ea2d_10 0 rfl ?_
  refine V_aload_n X dJx4a65c_add_9ea2d_11 1 rfl ?_
  refine V_aloadr_n X dJx4a65c_add_9ea2d_12 0 rfl ?_
  obtain ⟨fs, r3, hh, hv, w⟩ := w
  refine V_get X flJx4a65c_9 dJx4a65c_add_9ea2d_13 hh hv ?_
  refine V_aloadr_n X dJx4a65c_add_9ea2d_16 0 rfl ?_
  obtain ⟨fs, x4, hh, hv, w⟩ := w
  refine V_get X flJx4a65c_48 dJx4a65c_add_9ea2d_17 hh hv ?_
  obtain ⟨fs, hh, w⟩ := w
  refine V_callVv (As := [va_rf v1, va_rf r3, .int x4]) (rest := []) (k1 := 1) (n1 := 64) X (cJx4a65c_add_72be8_ok X.2.2.2.2.2.2.2.2.1 w) lkJx4a65c_131 hh (q9 := (RJx4a65c, TJx4a65c, 3)) rfl rfl dJx4a65c_add_9ea2d_20 ⟨Nat.le_of_ble_eq_true rfl, Nat.le_of_ble_eq_true rfl⟩ rfl (Nat.le_of_ble_eq_true rfl) ⟨Nat.le_of_ble_eq_true rfl, Nat.le_of_ble_eq_true rfl⟩ (Nat.le_of_ble_eq_true rfl) (Nat.le_of_ble_eq_true rfl) (fun h5 w9 => ?_)
  replace w := w9
  clear w9
  refine V_iconst (y := 1) X dJx4a65c_add_9ea2d_23 (by decide) ?_
  exact V_zret X rfl rfl dJx4a65c_add_9ea2d_24 (Nat.le_of_ble_eq_true rfl) (Nat.le_of_ble_eq_true rfl) w
theorem cJx4a65c_add_9ea2d_ok {l : Launch} {G : gG} {h : gH} (hls : l.stackTraces = false) {Qn : Int32 → gH → Prop} {v0 : Nat} {v1 : Option Nat} (w : vJx4a65c_add_9ea2d G.2.2.1 Qn h v0 v1) : gMi l yJx4a65c_add_9ea2d cJx4a65c_add_9ea2d 2 (some FieldType.boolean) rmJx4a65c_add_9ea2d rmJx4a65c_add_9ea2d.cells rmJx4a65c_add_9ea2d.slots G h [.ref v0, va_rf v1] Qn := by
  cases v1 <;>
  exact gMi.of (by decide +kernel) hls (Nat.le_of_ble_eq_true rfl) rfl rfl (fun p e s m below meth c A X hnm => tJx4a65c_add_9ea2d X w)
/-! AnimationController.addClip(I)I -/
abbrev rmX11_addClip : Room := { frames := 7, cells := 4, slots := 79, locals := 191 }
def vX11_addClip_b12 (t0 : Nat)  (Qn : Int32 → gH → Prop) (Qx : String → gH → Prop) (h : gH)  : Prop := Qx "java/lang/IllegalArgumentException" h
set_option maxRecDepth 100000 in
set_option maxHeartbeats 4000000 in
theorem tX11_addClip_b12 {p : Program} {l : Launch} {e : Env} {s : State} {m : MethodId} {args : Array Value} {below : List Frame} {meth : Method} {c : Code} {G : gG} {A : Nat → Prop} {Qn : Int32 → gH → Prop} {Qx : String → gH → Prop} (X : gC p l s m args meth c G A cX11_addClip 2 (some FieldType.int) RX11) (hT : ∀ x ∈ c.exceptionTable.toList, False)   {h : gH}  (w : vX11_addClip_b12 G.2.2.1  Qn Qx h ) : V p l e rmX11_addClip s m args below meth c (vx_MQ below (va_Qi Qn (gB G A) A) (gXC G A Qx) args s rmX11_addClip.cells rmX11_addClip.slots A) G A 2 h 0 0 12 [] [] := by
  exact V_throw X thX11_84_47 dX11_addClip_12 dX11_addClip_15 dX11_addClip_16 dX11_addClip_18 dX11_addClip_21 hT ⟨(Nat.le_of_ble_eq_true rfl), (Nat.le_of_ble_eq_true rfl), (Nat.le_of_ble_eq_true rfl), (Nat.le_of_ble_eq_true rfl)⟩ (Nat.le_of_ble_eq_true rfl) (Nat.le_of_ble_eq_true rfl) w
def vX11_addClip (t0 : Nat)  (Qn : Int32 → gH → Prop) (Qx : String → gH → Prop) (h : gH) (v0 : Nat) (v1 : Int32) : Prop := (((v1 : Int32) < 1) → (vX11_addClip_b12 t0  Qn Qx h )) ∧ ((¬ (v1 : Int32) < 1) → ((((v1 : Int32) ≤ 500) → (gr h v0 14 0 (fun r1 => nn r1 (fun a2 => gr h a2 7 2 (fun r3 => nn r3 (fun a4 => io h a4 2 (vJx4a65c_size_8abf5 t0 (fun x6 h5 => (((x6 : Int32) < 12) → (gr h5 v0 14 0 (fun r7 => nn r7 (fun a8 => gr h5 a8 7 2 (fun r9 => nw h5 (.inr (4, [.int 0, .int 0, .null, .null, .int 0])) (fun q10 h11 => gr h11 v0 14 0 (fun r12 => nn r12 (fun a13 => gr h11 a13 7 2 (fun r14 => nn r14 (fun a15 => io h11 a15 2 (vJx4a65c_size_8abf5 t0 (fun x17 h16 => vX1_init t0 (fun h18 => nn r9 (fun a19 => io h18 a19 2 (vJx4a65c_add_9ea2d t0 (fun x21 h20 => gr h20 v0 14 0 (fun r22 => nn r22 (fun a23 => gr h20 a23 7 2 (fun r24 => nn r24 (fun a25 => io h20 a25 2 (vJx4a65c_size_8abf5 t0 (fun x27 h26 => Qn (x27 - 1) h26) h20 a25 )))))) h18 a19 (some q10)))) h16 q10 x17 v1) h11 a15 ))))))))))) ∧ ((¬ (x6 : Int32) < 12) → (Qx "java/lang/IllegalStateException" h5))) h a4 ))))))) ∧ ((¬ (v1 : Int32) ≤ 500) → (vX11_addClip_b12 t0  Qn Qx h ))))
set_option maxRecDepth 100000 in
set_option maxHeartbeats 4000000 in
theorem tX11_addClip {p : Program} {l : Launch} {e : Env} {s : State} {m : MethodId} {args : Array Value} {below : List Frame} {meth : Method} {c : Code} {G : gG} {A : Nat → Prop} {Qn : Int32 → gH → Prop} {Qx : String → gH → Prop} (X : gC p l s m args meth c G A cX11_addClip 2 (some FieldType.int) RX11) (hT : ∀ x ∈ c.exceptionTable.toList, False)   {h : gH} {v0 : Nat} {v1 : Int32} (w : vX11_addClip G.2.2.1  Qn Qx h v0 v1) : V p l e rmX11_addClip s m args below meth c (vx_MQ below (va_Qi Qn (gB G A) A) (gXC G A Qx) args s rmX11_addClip.cells rmX11_addClip.slots A) G A 2 h 0 0 0 [(0, .ref v0), (1, .int v1)] [] := by
  refine V_iload_n X dX11_addClip_0 1 rfl ?_
  refine V_iconst (y := 1) X dX11_addClip_1 (by decide) ?_
  obtain ⟨w1, w2⟩ := w
  refine V_icmp_lt (tgt := 12) X dX11_addClip_2 (by decide) (fun z => ?_) (fun z => ?_)
  · replace w := w1 z
    clear w1 w2
    exact V.sub [] rfl (tX11_addClip_b12 X hT  w)
  · replace w := w2 z
    clear w1 w2
    refine V_iload_n X dX11_addClip_5 1 rfl ?_
    refine V_sipush (y := 500) X dX11_addClip_6 (by decide) ?_
    obtain ⟨w1, w2⟩ := w
    refine V_icmp_le (tgt := 22) X dX11_addClip_9 (by decide) (fun z => ?_) (fun z => ?_)
    · replace w := w1 z
      clear w1 w2
      refine V_aloadr_n X dX11_addClip_22 0 rfl ?_
      obtain ⟨fs, r1, hh, hv, w⟩ := w
      refine V_get X flX11_12 dX11_addClip_23 hh hv ?_
      obtain ⟨a2, rfl, w⟩ := w
      obtain ⟨fs, r3, hh, hv, w⟩ := w
      refine V_get3 X frX11_86 dX11_addClip_26 hh hv ?_
      obtain ⟨a4, rfl, w⟩ := w
      obtain ⟨fs, hh, w⟩ := w
      refine V_callVi (As := []) (rest := []) (k1 := 0) (n1 := 0) X (cJx4a65c_size_8abf5_ok X.2.2.2.2.2.2.2.2.1 w) lkX11_90 hh (q9 := (RJx4a65c, TJx4a65c, 3)) rfl rfl dX11_addClip_29 ⟨Nat.le_of_ble_eq_true rfl, Nat.le_of_ble_eq_true rfl⟩ rfl (Nat.le_of_ble_eq_true rfl) ⟨Nat.le_of_ble_eq_true rfl, Nat.le_of_ble_eq_true rfl⟩ (Nat.le_of_ble_eq_true rfl) (Nat.le_of_ble_eq_true rfl) (fun x6 h5 w9 => ?_)
      replace w := w9
      clear w9
      refine V_bipush (y := 12) X dX11_addClip_32 (by decide) ?_
      obtain ⟨w1, w2⟩ := w
      refine V_icmp_lt (tgt := 47) X dX11_addClip_34 (by decide) (fun z => ?_) (fun z => ?_)
      · replace w := w1 z
        clear w1 w2
        refine V_aloadr_n X dX11_addClip_47 0 rfl ?_
        obtain ⟨fs, r7, hh, hv, w⟩ := w
        refine V_get X flX11_12 dX11_addClip_48 hh hv ?_
        obtain ⟨a8, rfl, w⟩ := w
        obtain ⟨fs, r9, hh, hv, w⟩ := w
        refine V_get3 X frX11_86 dX11_addClip_51 hh hv ?_
        refine V_new (k1 := 1) (n1 := 5) X nwX11_98 dX11_addClip_54 ⟨(Nat.le_of_ble_eq_true rfl), (Nat.le_of_ble_eq_true rfl)⟩ (Nat.le_of_ble_eq_true rfl) (Nat.le_of_ble_eq_true rfl) (fun q10 hq => ?_)
        replace w := w q10 hq
        generalize va_up _ _ _ = h11 at w ⊢
        refine V_dup X dX11_addClip_57 rfl ?_
        refine V_aloadr_n X dX11_addClip_58 0 rfl ?_
        obtain ⟨fs, r12, hh, hv, w⟩ := w
        refine V_get X flX11_12 dX11_addClip_59 hh hv ?_
        obtain ⟨a13, rfl, w⟩ := w
        obtain ⟨fs, r14, hh, hv, w⟩ := w
        refine V_get3 X frX11_86 dX11_addClip_62 hh hv ?_
        obtain ⟨a15, rfl, w⟩ := w
        obtain ⟨fs, hh, w⟩ := w
        refine V_callVi (As := []) (rest := [.ref q10, .ref q10, va_rf r9]) (k1 := 1) (n1 := 5) X (cJx4a65c_size_8abf5_ok X.2.2.2.2.2.2.2.2.1 w) lkX11_90 hh (q9 := (RJx4a65c, TJx4a65c, 3)) rfl rfl dX11_addClip_65 ⟨Nat.le_of_ble_eq_true rfl, Nat.le_of_ble_eq_true rfl⟩ rfl (va_len _ 4 (Nat.le_of_ble_eq_true rfl)) ⟨Nat.le_of_ble_eq_true rfl, Nat.le_of_ble_eq_true rfl⟩ (Nat.le_of_ble_eq_true rfl) (Nat.le_of_ble_eq_true rfl) (fun x17 h16 w9 => ?_)
        replace w := w9
        clear w9
        refine V_iload_n X dX11_addClip_68 1 rfl ?_
        refine V_callI (As := [.int x17, .int v1]) (rest := [.ref q10, va_rf r9]) (k1 := 3) (n1 := 15) X (cX1_init_ok X.2.2.2.2.2.2.2.2.1 w) lkX11_100 dX11_addClip_69 ⟨Nat.le_of_ble_eq_true rfl, Nat.le_of_ble_eq_true rfl⟩ rfl (va_len _ 4 (Nat.le_of_ble_eq_true rfl)) ⟨Nat.le_of_ble_eq_true rfl, Nat.le_of_ble_eq_true rfl⟩ (Nat.le_of_ble_eq_true rfl) (Nat.le_of_ble_eq_true rfl) (fun h18 w9 => ?_)
        replace w := w9
        clear w9
        obtain ⟨a19, rfl, w⟩ := w
        obtain ⟨fs, hh, w⟩ := w
        refine V_callVi (As := [.ref q10]) (rest := []) (k1 := 4) (n1 := 79) X (cJx4a65c_add_9ea2d_ok X.2.2.2.2.2.2.2.2.1 w) lkX11_102 hh (q9 := (RJx4a65c, TJx4a65c, 3)) rfl rfl dX11_addClip_72 ⟨Nat.le_of_ble_eq_true rfl, Nat.le_of_ble_eq_true rfl⟩ rfl (Nat.le_of_ble_eq_true rfl) ⟨Nat.le_of_ble_eq_true rfl, Nat.le_of_ble_eq_true rfl⟩ (Nat.le_of_ble_eq_true rfl) (Nat.le_of_ble_eq_true rfl) (fun x21 h20 w9 => ?_)
        replace w := w9
        clear w9
        refine V_pop X dX11_addClip_75 rfl ?_
        refine V_aloadr_n X dX11_addClip_76 0 rfl ?_
        obtain ⟨fs, r22, hh, hv, w⟩ := w
        refine V_get X flX11_12 dX11_addClip_77 hh hv ?_
        obtain ⟨a23, rfl, w⟩ := w
        obtain ⟨fs, r24, hh, hv, w⟩ := w
        refine V_get3 X frX11_86 dX11_addClip_80 hh hv ?_
        obtain ⟨a25, rfl, w⟩ := w
        obtain ⟨fs, hh, w⟩ := w
        refine V_callVi (As := []) (rest := []) (k1 := 4) (n1 := 79) X (cJx4a65c_size_8abf5_ok X.2.2.2.2.2.2.2.2.1 w) lkX11_90 hh (q9 := (RJx4a65c, TJx4a65c, 3)) rfl rfl dX11_addClip_83 ⟨Nat.le_of_ble_eq_true rfl, Nat.le_of_ble_eq_true rfl⟩ rfl (Nat.le_of_ble_eq_true rfl) ⟨Nat.le_of_ble_eq_true rfl, Nat.le_of_ble_eq_true rfl⟩ (Nat.le_of_ble_eq_true rfl) (Nat.le_of_ble_eq_true rfl) (fun x27 h26 w9 => ?_)
        replace w := w9
        clear w9
        refine V_iconst (y := 1) X dX11_addClip_86 (by decide) ?_
        refine V_isub X dX11_addClip_87 ?_
        exact V.vx (V_iret X rfl dX11_addClip_88 (Nat.le_of_ble_eq_true rfl) (Nat.le_of_ble_eq_true rfl) w)
      · replace w := w2 z
        clear w1 w2
        exact V_throw X thX11_96_61 dX11_addClip_37 dX11_addClip_40 dX11_addClip_41 dX11_addClip_43 dX11_addClip_46 hT ⟨(Nat.le_of_ble_eq_true rfl), (Nat.le_of_ble_eq_true rfl), (Nat.le_of_ble_eq_true rfl), (Nat.le_of_ble_eq_true rfl)⟩ (Nat.le_of_ble_eq_true rfl) (Nat.le_of_ble_eq_true rfl) w
    · replace w := w2 z
      clear w1 w2
      exact V.sub [] rfl (tX11_addClip_b12 X hT  w)
theorem cX11_addClip_ok {l : Launch} {G : gG} {h : gH} (hls : l.stackTraces = false) {Qn : Int32 → gH → Prop} {Qx : String → gH → Prop} {v0 : Nat} {v1 : Int32} (w : vX11_addClip G.2.2.1 Qn Qx h v0 v1) : gXi l yX11_addClip cX11_addClip 2 (some FieldType.int) rmX11_addClip rmX11_addClip.cells rmX11_addClip.slots G h [.ref v0, .int v1] Qn Qx := by
  exact gXi.of (by decide +kernel) hls (Nat.le_of_ble_eq_true rfl) rfl rfl (fun p e s m below meth c A X hT => tX11_addClip X hT w)
/-! AnimationController.clipAt(I)LAnimationController$Clip; -/
abbrev rmX11_clipAt : Room := { frames := 6, cells := 1, slots := 6, locals := 90 }
def vX11_clipAt_b18 (t0 : Nat)  (Qn : Option Nat → gH → Prop) (Qx : String → gH → Prop) (h : gH)  : Prop := Qx "java/lang/IndexOutOfBoundsException" h
set_option maxRecDepth 100000 in
set_option maxHeartbeats 4000000 in
theorem tX11_clipAt_b18 {p : Program} {l : Launch} {e : Env} {s : State} {m : MethodId} {args : Array Value} {below : List Frame} {meth : Method} {c : Code} {G : gG} {A : Nat → Prop} {Qn : Option Nat → gH → Prop} {Qx : String → gH → Prop} (X : gC p l s m args meth c G A cX11_clipAt 2 (some (FieldType.object "AnimationController$Clip")) RX11) (hT : ∀ x ∈ c.exceptionTable.toList, False)   {h : gH}  (w : vX11_clipAt_b18 G.2.2.1  Qn Qx h ) : V p l e rmX11_clipAt s m args below meth c (vx_MQ below (va_Qq Qn (gB G A) A) (gXC G A Qx) args s rmX11_clipAt.cells rmX11_clipAt.slots A) G A 2 h 0 0 18 [] [] := by
  exact V_throwW X thX11_432_378 dX11_clipAt_18 dX11_clipAt_21 dX11_clipAt_22 dX11_clipAt_25 dX11_clipAt_28 hT ⟨(Nat.le_of_ble_eq_true rfl), (Nat.le_of_ble_eq_true rfl), (Nat.le_of_ble_eq_true rfl), (Nat.le_of_ble_eq_true rfl)⟩ (Nat.le_of_ble_eq_true rfl) (Nat.le_of_ble_eq_true rfl) w
def vX11_clipAt (t0 : Nat)  (Qn : Option Nat → gH → Prop) (Qx : String → gH → Prop) (h : gH) (v0 : Nat) (v1 : Int32) : Prop := (((v1 : Int32) < 0) → (vX11_clipAt_b18 t0  Qn Qx h )) ∧ ((¬ (v1 : Int32) < 0) → (gr h v0 14 0 (fun r1 => nn r1 (fun a2 => gr h a2 7 2 (fun r3 => nn r3 (fun a4 => io h a4 2 (vJx4a65c_size_8abf5 t0 (fun x6 h5 => (((v1 : Int32) < x6) → (gr h5 v0 14 0 (fun r7 => nn r7 (fun a8 => gr h5 a8 7 2 (fun r9 => nn r9 (fun a10 => io h5 a10 2 (vJx4a65c_get_915e3 t0 (fun r12 h11 => nn r12 (fun a13 => io h11 a13 4 (Qn (some a13) h11))) h5 a10 v1))))))) ∧ ((¬ (v1 : Int32) < x6) → (vX11_clipAt_b18 t0  Qn Qx h5 ))) h a4 )))))))
set_option maxRecDepth 100000 in
set_option maxHeartbeats 4000000 in
theorem tX11_clipAt {p : Program} {l : Launch} {e : Env} {s : State} {m : MethodId} {args : Array Value} {below : List Frame} {meth : Method} {c : Code} {G : gG} {A : Nat → Prop} {Qn : Option Nat → gH → Prop} {Qx : String → gH → Prop} (X : gC p l s m args meth c G A cX11_clipAt 2 (some (FieldType.object "AnimationController$Clip")) RX11) (hT : ∀ x ∈ c.exceptionTable.toList, False)   {h : gH} {v0 : Nat} {v1 : Int32} (w : vX11_clipAt G.2.2.1  Qn Qx h v0 v1) : V p l e rmX11_clipAt s m args below meth c (vx_MQ below (va_Qq Qn (gB G A) A) (gXC G A Qx) args s rmX11_clipAt.cells rmX11_clipAt.slots A) G A 2 h 0 0 0 [(0, .ref v0), (1, .int v1)] [] := by
  refine V_iload_n X dX11_clipAt_0 1 rfl ?_
  obtain ⟨w1, w2⟩ := w
  refine V_if_lt (tgt := 18) X dX11_clipAt_1 (by decide) (fun z => ?_) (fun z => ?_)
  · replace w := w1 z
    clear w1 w2
    exact V.sub [] rfl (tX11_clipAt_b18 X hT  w)
  · replace w := w2 z
    clear w1 w2
    refine V_iload_n X dX11_clipAt_4 1 rfl ?_
    refine V_aloadr_n X dX11_clipAt_5 0 rfl ?_
    obtain ⟨fs, r1, hh, hv, w⟩ := w
    refine V_get X flX11_12 dX11_clipAt_6 hh hv ?_
    obtain ⟨a2, rfl, w⟩ := w
    obtain ⟨fs, r3, hh, hv, w⟩ := w
    refine V_get3 X frX11_86 dX11_clipAt_9 hh hv ?_
    obtain ⟨a4, rfl, w⟩ := w
    obtain ⟨fs, hh, w⟩ := w
    refine V_callVi (As := []) (rest := [.int v1]) (k1 := 0) (n1 := 0) X (cJx4a65c_size_8abf5_ok X.2.2.2.2.2.2.2.2.1 w) lkX11_90 hh (q9 := (RJx4a65c, TJx4a65c, 3)) rfl rfl dX11_clipAt_12 ⟨Nat.le_of_ble_eq_true rfl, Nat.le_of_ble_eq_true rfl⟩ rfl (Nat.le_of_ble_eq_true rfl) ⟨Nat.le_of_ble_eq_true rfl, Nat.le_of_ble_eq_true rfl⟩ (Nat.le_of_ble_eq_true rfl) (Nat.le_of_ble_eq_true rfl) (fun x6 h5 w9 => ?_)
    replace w := w9
    clear w9
    obtain ⟨w1, w2⟩ := w
    refine V_icmp_lt (tgt := 29) X dX11_clipAt_15 (by decide) (fun z => ?_) (fun z => ?_)
    · replace w := w1 z
      clear w1 w2
      refine V_aloadr_n X dX11_clipAt_29 0 rfl ?_
      obtain ⟨fs, r7, hh, hv, w⟩ := w
      refine V_get X flX11_12 dX11_clipAt_30 hh hv ?_
      obtain ⟨a8, rfl, w⟩ := w
      obtain ⟨fs, r9, hh, hv, w⟩ := w
      refine V_get3 X frX11_86 dX11_clipAt_33 hh hv ?_
      refine V_iload_n X dX11_clipAt_36 1 rfl ?_
      obtain ⟨a10, rfl, w⟩ := w
      obtain ⟨fs, hh, w⟩ := w
      refine V_callVq (As := [.int v1]) (rest := []) (k1 := 0) (n1 := 0) X (cJx4a65c_get_915e3_ok X.2.2.2.2.2.2.2.2.1 w) lkX11_302 hh (q9 := (RJx4a65c, TJx4a65c, 3)) rfl rfl dX11_clipAt_37 ⟨Nat.le_of_ble_eq_true rfl, Nat.le_of_ble_eq_true rfl⟩ rfl (Nat.le_of_ble_eq_true rfl) ⟨Nat.le_of_ble_eq_true rfl, Nat.le_of_ble_eq_true rfl⟩ (Nat.le_of_ble_eq_true rfl) (Nat.le_of_ble_eq_true rfl) (fun r12 h11 w9 => ?_)
      replace w := w9
      clear w9
      obtain ⟨a13, rfl, w⟩ := w
      obtain ⟨fs, hh, w⟩ := w
      refine V_cast (q9 := (RX1, TX1, 5)) X kw_1294 rfl rfl hh dX11_clipAt_40 ?_
      exact V.vx (V_aret (x := (some a13)) X rfl (Or.inl ⟨_, rfl⟩) dX11_clipAt_43 (Nat.le_of_ble_eq_true rfl) (Nat.le_of_ble_eq_true rfl) w)
    · replace w := w2 z
      clear w1 w2
      exact V.sub [] rfl (tX11_clipAt_b18 X hT  w)
theorem cX11_clipAt_ok {l : Launch} {G : gG} {h : gH} (hls : l.stackTraces = false) {Qn : Option Nat → gH → Prop} {Qx : String → gH → Prop} {v0 : Nat} {v1 : Int32} (w : vX11_clipAt G.2.2.1 Qn Qx h v0 v1) : gXq l yX11_clipAt cX11_clipAt 2 (some (FieldType.object "AnimationController$Clip")) rmX11_clipAt rmX11_clipAt.cells rmX11_clipAt.slots G h [.ref v0, .int v1] Qn Qx := by
  exact gXq.of (by decide +kernel) hls (Nat.le_of_ble_eq_true rfl) rfl rfl (fun p e s m below meth c A X hT => tX11_clipAt X hT w)
/-! AnimationController.addEvent(III)I -/
abbrev rmX11_addEvent : Room := { frames := 7, cells := 2, slots := 12, locals := 111 }
def vX11_addEvent_b30 (t0 : Nat)  (Qn : Int32 → gH → Prop) (Qx : String → gH → Prop) (h : gH)  : Prop := Qx "java/lang/IllegalArgumentException" h
set_option maxRecDepth 100000 in
set_option maxHeartbeats 4000000 in
theorem tX11_addEvent_b30 {p : Program} {l : Launch} {e : Env} {s : State} {m : MethodId} {args : Array Value} {below : List Frame} {meth : Method} {c : Code} {G : gG} {A : Nat → Prop} {Qn : Int32 → gH → Prop} {Qx : String → gH → Prop} (X : gC p l s m args meth c G A cX11_addEvent 5 (some FieldType.int) RX11) (hT : ∀ x ∈ c.exceptionTable.toList, False)   {h : gH}  (w : vX11_addEvent_b30 G.2.2.1  Qn Qx h ) : V p l e rmX11_addEvent s m args below meth c (vx_MQ below (va_Qi Qn (gB G A) A) (gXC G A Qx) args s rmX11_addEvent.cells rmX11_addEvent.slots A) G A 5 h 1 6 30 [] [] := by
  exact V_throw X thX11_113_47 dX11_addEvent_30 dX11_addEvent_33 dX11_addEvent_34 dX11_addEvent_36 dX11_addEvent_39 hT ⟨(Nat.le_of_ble_eq_true rfl), (Nat.le_of_ble_eq_true rfl), (Nat.le_of_ble_eq_true rfl), (Nat.le_of_ble_eq_true rfl)⟩ (Nat.le_of_ble_eq_true rfl) (Nat.le_of_ble_eq_true rfl) w
def vX11_addEvent (t0 : Nat)  (Qn : Int32 → gH → Prop) (Qx : String → gH → Prop) (h : gH) (v0 : Nat) (v1 : Int32) (v2 : Int32) (v3 : Int32) : Prop := io h v0 14 (vX11_clipAt t0 (fun r2 h1 => (((v2 : Int32) < 0) → (vX11_addEvent_b30 t0  Qn Qx h1 )) ∧ ((¬ (v2 : Int32) < 0) → (nn r2 (fun a3 => gi h1 a3 4 1 (fun x4 => ((x4 ≤ (v2 : Int32)) → (vX11_addEvent_b30 t0  Qn Qx h1 )) ∧ ((¬ x4 ≤ (v2 : Int32)) → ((((v3 : Int32) < 0) → (vX11_addEvent_b30 t0  Qn Qx h1 )) ∧ ((¬ (v3 : Int32) < 0) → ((((v3 : Int32) ≤ 99) → (gi h1 a3 4 4 (fun x5 => (((x5 : Int32) < 5) → (io h1 a3 4 (vX1_insertEvent t0 (fun h6 => gi h6 a3 4 4 (fun x7 => Qn x7 h6)) h1 a3 v2 v3))) ∧ ((¬ (x5 : Int32) < 5) → (Qx "java/lang/IllegalStateException" h1))))) ∧ ((¬ (v3 : Int32) ≤ 99) → (vX11_addEvent_b30 t0  Qn Qx h1 ))))))))))) Qx h v0 v1)
set_option maxRecDepth 100000 in
set_option maxHeartbeats 4000000 in
theorem tX11_addEvent {p : Program} {l : Launch} {e : Env} {s : State} {m : MethodId} {args : Array Value} {below : List Frame} {meth : Method} {c : Code} {G : gG} {A : Nat → Prop} {Qn : Int32 → gH → Prop} {Qx : String → gH → Prop} (X : gC p l s m args meth c G A cX11_addEvent 5 (some FieldType.int) RX11) (hT : ∀ x ∈ c.exceptionTable.toList, False)   {h : gH} {v0 : Nat} {v1 : Int32} {v2 : Int32} {v3 : Int32} (w : vX11_addEvent G.2.2.1  Qn Qx h v0 v1 v2 v3) : V p l e rmX11_addEvent s m args below meth c (vx_MQ below (va_Qi Qn (gB G A) A) (gXC G A Qx) args s rmX11_addEvent.cells rmX11_addEvent.slots A) G A 5 h 0 0 0 [(0, .ref v0), (1, .int v1), (2, .int v2), (3, .int v3)] [] := by
  refine V_aloadr_n X dX11_addEvent_0 0 rfl ?_
  refine V_iload_n X dX11_addEvent_1 1 rfl ?_
  obtain ⟨fs, hh, w⟩ := w
  refine V_callXq (As := [.int v1]) (rest := []) (k1 := 1) (n1 := 6) X (cX11_clipAt_ok X.2.2.2.2.2.2.2.2.1 w) lkX11_106 hh (q9 := (RX11, TX11, 7)) rfl rfl dX11_addEvent_2 hT ⟨Nat.le_of_ble_eq_true rfl, Nat.le_of_ble_eq_true rfl⟩ rfl (Nat.le_of_ble_eq_true rfl) ⟨Nat.le_of_ble_eq_true rfl, Nat.le_of_ble_eq_true rfl⟩ (Nat.le_of_ble_eq_true rfl) (Nat.le_of_ble_eq_true rfl) (Nat.le_of_ble_eq_true rfl) (Nat.le_of_ble_eq_true rfl) (fun r2 h1 w9 => ?_)
  replace w := w9
  clear w9
  refine V_astoreq X dX11_addEvent_5 (by decide) rfl ?_
  refine V_iload_n X dX11_addEvent_7 3 rfl ?_
  obtain ⟨w1, w2⟩ := w
  refine V_if_lt (tgt := 30) X dX11_addEvent_8 (by decide) (fun z => ?_) (fun z => ?_)
  · replace w := w1 z
    clear w1 w2
    exact V.sub [] rfl (tX11_addEvent_b30 X hT  w)
  · replace w := w2 z
    clear w1 w2
    refine V_iload_n X dX11_addEvent_11 3 rfl ?_
    refine V_aload X dX11_addEvent_12 0 rfl ?_
    obtain ⟨a3, rfl, w⟩ := w
    obtain ⟨fs, x4, hh, hv, w⟩ := w
    refine V_get3 X frX11_110 dX11_addEvent_14 hh hv ?_
    obtain ⟨w1, w2⟩ := w
    refine V_icmp_ge (tgt := 30) X dX11_addEvent_17 (by decide) (fun z => ?_) (fun z => ?_)
    · replace w := w1 z
      clear w1 w2
      exact V.sub [] rfl (tX11_addEvent_b30 X hT  w)
    · replace w := w2 z
      clear w1 w2
      refine V_iload_n X dX11_addEvent_20 4 rfl ?_
      obtain ⟨w1, w2⟩ := w
      refine V_if_lt (tgt := 30) X dX11_addEvent_21 (by decide) (fun z => ?_) (fun z => ?_)
      · replace w := w1 z
        clear w1 w2
        exact V.sub [] rfl (tX11_addEvent_b30 X hT  w)
      · replace w := w2 z
        clear w1 w2
        refine V_iload_n X dX11_addEvent_24 4 rfl ?_
        refine V_bipush (y := 99) X dX11_addEvent_25 (by decide) ?_
        obtain ⟨w1, w2⟩ := w
        refine V_icmp_le (tgt := 40) X dX11_addEvent_27 (by decide) (fun z => ?_) (fun z => ?_)
        · replace w := w1 z
          clear w1 w2
          refine V_aloadr X dX11_addEvent_40 0 rfl ?_
          obtain ⟨fs, x5, hh, hv, w⟩ := w
          refine V_get X flX11_115 dX11_addEvent_42 hh hv ?_
          refine V_iconst (y := 5) X dX11_addEvent_45 (by decide) ?_
          obtain ⟨w1, w2⟩ := w
          refine V_icmp_lt (tgt := 59) X dX11_addEvent_46 (by decide) (fun z => ?_) (fun z => ?_)
          · replace w := w1 z
            clear w1 w2
            refine V_aloadr X dX11_addEvent_59 0 rfl ?_
            refine V_iload_n X dX11_addEvent_61 3 rfl ?_
            refine V_iload_n X dX11_addEvent_62 4 rfl ?_
            obtain ⟨fs, hh, w⟩ := w
            refine V_callVv (As := [.int v2, .int v3]) (rest := []) (k1 := 1) (n1 := 6) X (cX1_insertEvent_ok X.2.2.2.2.2.2.2.2.1 w) lkX11_120 hh (q9 := (RX1, TX1, 5)) rfl rfl dX11_addEvent_63 ⟨Nat.le_of_ble_eq_true rfl, Nat.le_of_ble_eq_true rfl⟩ rfl (Nat.le_of_ble_eq_true rfl) ⟨Nat.le_of_ble_eq_true rfl, Nat.le_of_ble_eq_true rfl⟩ (Nat.le_of_ble_eq_true rfl) (Nat.le_of_ble_eq_true rfl) (fun h6 w9 => ?_)
            replace w := w9
            clear w9
            refine V_aloadr X dX11_addEvent_66 0 rfl ?_
            obtain ⟨fs, x7, hh, hv, w⟩ := w
            refine V_get X flX11_115 dX11_addEvent_68 hh hv ?_
            exact V.vx (V_iret X rfl dX11_addEvent_71 (Nat.le_of_ble_eq_true rfl) (Nat.le_of_ble_eq_true rfl) w)
          · replace w := w2 z
            clear w1 w2
            exact V_throw X thX11_118_61 dX11_addEvent_49 dX11_addEvent_52 dX11_addEvent_53 dX11_addEvent_55 dX11_addEvent_58 hT ⟨(Nat.le_of_ble_eq_true rfl), (Nat.le_of_ble_eq_true rfl), (Nat.le_of_ble_eq_true rfl), (Nat.le_of_ble_eq_true rfl)⟩ (Nat.le_of_ble_eq_true rfl) (Nat.le_of_ble_eq_true rfl) w
        · replace w := w2 z
          clear w1 w2
          exact V.sub [] rfl (tX11_addEvent_b30 X hT  w)
theorem cX11_addEvent_ok {l : Launch} {G : gG} {h : gH} (hls : l.stackTraces = false) {Qn : Int32 → gH → Prop} {Qx : String → gH → Prop} {v0 : Nat} {v1 : Int32} {v2 : Int32} {v3 : Int32} (w : vX11_addEvent G.2.2.1 Qn Qx h v0 v1 v2 v3) : gXi l yX11_addEvent cX11_addEvent 5 (some FieldType.int) rmX11_addEvent rmX11_addEvent.cells rmX11_addEvent.slots G h [.ref v0, .int v1, .int v2, .int v3] Qn Qx := by
  exact gXi.of (by decide +kernel) hls (Nat.le_of_ble_eq_true rfl) rfl rfl (fun p e s m below meth c A X hT => tX11_addEvent X hT w)
/-! AnimationController.requireRoomForNode()V -/
abbrev rmX11_requireRoomForNode : Room := { frames := 6, cells := 1, slots := 6, locals := 90 }
def vX11_requireRoomForNode (t0 : Nat)  (Qn : gH → Prop) (Qx : String → gH → Prop) (h : gH) (v0 : Nat) : Prop := gr h v0 14 0 (fun r1 => nn r1 (fun a2 => gr h a2 7 3 (fun r3 => nn r3 (fun a4 => io h a4 2 (vJx4a65c_size_8abf5 t0 (fun x6 h5 => (((x6 : Int32) < 20) → (Qn h5)) ∧ ((¬ (x6 : Int32) < 20) → (Qx "java/lang/IllegalStateException" h5))) h a4 )))))
set_option maxRecDepth 100000 in
set_option maxHeartbeats 4000000 in
theorem tX11_requireRoomForNode {p : Program} {l : Launch} {e : Env} {s : State} {m : MethodId} {args : Array Value} {below : List Frame} {meth : Method} {c : Code} {G : gG} {A : Nat → Prop} {Qn : gH → Prop} {Qx : String → gH → Prop} (X : gC p l s m args meth c G A cX11_requireRoomForNode 1 none RX11) (hT : ∀ x ∈ c.exceptionTable.toList, False)   {h : gH} {v0 : Nat} (w : vX11_requireRoomForNode G.2.2.1  Qn Qx h v0) : V p l e rmX11_requireRoomForNode s m args below meth c (vx_MQ below (va_Qv Qn (gB G A) A) (gXC G A Qx) args s rmX11_requireRoomForNode.cells rmX11_requireRoomForNode.slots A) G A 1 h 0 0 0 [(0, .ref v0)] [] := by
  refine V_aloadr_n X dX11_requireRoomForNode_0 0 rfl ?_
  obtain ⟨fs, r1, hh, hv, w⟩ := w
  refine V_get X flX11_12 dX11_requireRoomForNode_1 hh hv ?_
  obtain ⟨a2, rfl, w⟩ := w
  obtain ⟨fs, r3, hh, hv, w⟩ := w
  refine V_get3 X frX11_126 dX11_requireRoomForNode_4 hh hv ?_
  obtain ⟨a4, rfl, w⟩ := w
  obtain ⟨fs, hh, w⟩ := w
  refine V_callVi (As := []) (rest := []) (k1 := 0) (n1 := 0) X (cJx4a65c_size_8abf5_ok X.2.2.2.2.2.2.2.2.1 w) lkX11_90 hh (q9 := (RJx4a65c, TJx4a65c, 3)) rfl rfl dX11_requireRoomForNode_7 ⟨Nat.le_of_ble_eq_true rfl, Nat.le_of_ble_eq_true rfl⟩ rfl (Nat.le_of_ble_eq_true rfl) ⟨Nat.le_of_ble_eq_true rfl, Nat.le_of_ble_eq_true rfl⟩ (Nat.le_of_ble_eq_true rfl) (Nat.le_of_ble_eq_true rfl) (fun x6 h5 w9 => ?_)
  replace w := w9
  clear w9
  refine V_bipush (y := 20) X dX11_requireRoomForNode_10 (by decide) ?_
  obtain ⟨w1, w2⟩ := w
  refine V_icmp_lt (tgt := 26) X dX11_requireRoomForNode_12 (by decide) (fun z => ?_) (fun z => ?_)
  · replace w := w1 z
    clear w1 w2
    exact V.vx (V_vret X rfl dX11_requireRoomForNode_26 (Nat.le_of_ble_eq_true rfl) (Nat.le_of_ble_eq_true rfl) w)
  · replace w := w2 z
    clear w1 w2
    exact V_throwW X thX11_424_61 dX11_requireRoomForNode_15 dX11_requireRoomForNode_18 dX11_requireRoomForNode_19 dX11_requireRoomForNode_22 dX11_requireRoomForNode_25 hT ⟨(Nat.le_of_ble_eq_true rfl), (Nat.le_of_ble_eq_true rfl), (Nat.le_of_ble_eq_true rfl), (Nat.le_of_ble_eq_true rfl)⟩ (Nat.le_of_ble_eq_true rfl) (Nat.le_of_ble_eq_true rfl) w
theorem cX11_requireRoomForNode_ok {l : Launch} {G : gG} {h : gH} (hls : l.stackTraces = false) {Qn : gH → Prop} {Qx : String → gH → Prop} {v0 : Nat} (w : vX11_requireRoomForNode G.2.2.1 Qn Qx h v0) : gXv l yX11_requireRoomForNode cX11_requireRoomForNode 1 none rmX11_requireRoomForNode rmX11_requireRoomForNode.cells rmX11_requireRoomForNode.slots G h [.ref v0] Qn Qx := by
  exact gXv.of (by decide +kernel) hls (Nat.le_of_ble_eq_true rfl) rfl rfl (fun p e s m below meth c A X hT => tX11_requireRoomForNode X hT w)
/-! AnimationController.addClipNode(I)I -/
abbrev rmX11_addClipNode : Room := { frames := 7, cells := 6, slots := 89, locals := 191 }
def vX11_addClipNode (t0 : Nat)  (Qn : Int32 → gH → Prop) (Qx : String → gH → Prop) (h : gH) (v0 : Nat) (v1 : Int32) : Prop := io h v0 14 (vX11_clipAt t0 (fun r2 h1 => io h1 v0 14 (vX11_requireRoomForNode t0 (fun h3 => gr h3 v0 14 0 (fun r4 => nn r4 (fun a5 => gr h3 a5 7 3 (fun r6 => nw h3 (.inr (8, [.null, .int 0, .null, .null, .int 0])) (fun q7 h8 => vX5_init t0 (fun h9 => nn r6 (fun a10 => io h9 a10 2 (vJx4a65c_add_9ea2d t0 (fun x12 h11 => gr h11 v0 14 0 (fun r13 => nn r13 (fun a14 => gr h11 a14 7 3 (fun r15 => nn r15 (fun a16 => io h11 a16 2 (vJx4a65c_size_8abf5 t0 (fun x18 h17 => Qn (x18 - 1) h17) h11 a16 )))))) h9 a10 (some q7)))) h8 q7 r2 (-1)))))) Qx h1 v0 )) Qx h v0 v1)
set_option maxRecDepth 100000 in
set_option maxHeartbeats 4000000 in
theorem tX11_addClipNode {p : Program} {l : Launch} {e : Env} {s : State} {m : MethodId} {args : Array Value} {below : List Frame} {meth : Method} {c : Code} {G : gG} {A : Nat → Prop} {Qn : Int32 → gH → Prop} {Qx : String → gH → Prop} (X : gC p l s m args meth c G A cX11_addClipNode 3 (some FieldType.int) RX11) (hT : ∀ x ∈ c.exceptionTable.toList, False)   {h : gH} {v0 : Nat} {v1 : Int32} (w : vX11_addClipNode G.2.2.1  Qn Qx h v0 v1) : V p l e rmX11_addClipNode s m args below meth c (vx_MQ below (va_Qi Qn (gB G A) A) (gXC G A Qx) args s rmX11_addClipNode.cells rmX11_addClipNode.slots A) G A 3 h 0 0 0 [(0, .ref v0), (1, .int v1)] [] := by
  refine V_aloadr_n X dX11_addClipNode_0 0 rfl ?_
  refine V_iload_n X dX11_addClipNode_1 1 rfl ?_
  obtain ⟨fs, hh, w⟩ := w
  refine V_callXq (As := [.int v1]) (rest := []) (k1 := 1) (n1 := 6) X (cX11_clipAt_ok X.2.2.2.2.2.2.2.2.1 w) lkX11_106 hh (q9 := (RX11, TX11, 7)) rfl rfl dX11_addClipNode_2 hT ⟨Nat.le_of_ble_eq_true rfl, Nat.le_of_ble_eq_true rfl⟩ rfl (Nat.le_of_ble_eq_true rfl) ⟨Nat.le_of_ble_eq_true rfl, Nat.le_of_ble_eq_true rfl⟩ (Nat.le_of_ble_eq_true rfl) (Nat.le_of_ble_eq_true rfl) (Nat.le_of_ble_eq_true rfl) (Nat.le_of_ble_eq_true rfl) (fun r2 h1 w9 => ?_)
  replace w := w9
  clear w9
  refine V_astoreq_n (i0 := 2) X dX11_addClipNode_5 rfl (by decide) rfl ?_
  refine V_aloadr_n X dX11_addClipNode_6 1 rfl ?_
  obtain ⟨fs, hh, w⟩ := w
  refine V_callXv (As := []) (rest := []) (k1 := 2) (n1 := 12) X (cX11_requireRoomForNode_ok X.2.2.2.2.2.2.2.2.1 w) lkX11_123 hh (q9 := (RX11, TX11, 7)) rfl rfl dX11_addClipNode_7 hT ⟨Nat.le_of_ble_eq_true rfl, Nat.le_of_ble_eq_true rfl⟩ rfl (Nat.le_of_ble_eq_true rfl) ⟨Nat.le_of_ble_eq_true rfl, Nat.le_of_ble_eq_true rfl⟩ (Nat.le_of_ble_eq_true rfl) (Nat.le_of_ble_eq_true rfl) (Nat.le_of_ble_eq_true rfl) (Nat.le_of_ble_eq_true rfl) (fun h3 w9 => ?_)
  replace w := w9
  clear w9
  refine V_aloadr_n X dX11_addClipNode_10 1 rfl ?_
  obtain ⟨fs, r4, hh, hv, w⟩ := w
  refine V_get X flX11_12 dX11_addClipNode_11 hh hv ?_
  obtain ⟨a5, rfl, w⟩ := w
  obtain ⟨fs, r6, hh, hv, w⟩ := w
  refine V_get3 X frX11_126 dX11_addClipNode_14 hh hv ?_
  refine V_new (k1 := 3) (n1 := 17) X nwX11_129 dX11_addClipNode_17 ⟨(Nat.le_of_ble_eq_true rfl), (Nat.le_of_ble_eq_true rfl)⟩ (Nat.le_of_ble_eq_true rfl) (Nat.le_of_ble_eq_true rfl) (fun q7 hq => ?_)
  replace w := w q7 hq
  generalize va_up _ _ _ = h8 at w ⊢
  refine V_dup X dX11_addClipNode_20 rfl ?_
  refine V_aload_n X dX11_addClipNode_21 0 rfl ?_
  refine V_iconst (y := (-1)) X dX11_addClipNode_22 (by decide) ?_
  refine V_callI (As := [va_rf r2, .int (-1)]) (rest := [.ref q7, va_rf r6]) (k1 := 5) (n1 := 25) X (cX5_init_ok X.2.2.2.2.2.2.2.2.1 w) lkX11_131 dX11_addClipNode_23 ⟨Nat.le_of_ble_eq_true rfl, Nat.le_of_ble_eq_true rfl⟩ rfl (va_len _ 4 (Nat.le_of_ble_eq_true rfl)) ⟨Nat.le_of_ble_eq_true rfl, Nat.le_of_ble_eq_true rfl⟩ (Nat.le_of_ble_eq_true rfl) (Nat.le_of_ble_eq_true rfl) (fun h9 w9 => ?_)
  replace w := w9
  clear w9
  obtain ⟨a10, rfl, w⟩ := w
  obtain ⟨fs, hh, w⟩ := w
  refine V_callVi (As := [.ref q7]) (rest := []) (k1 := 6) (n1 := 89) X (cJx4a65c_add_9ea2d_ok X.2.2.2.2.2.2.2.2.1 w) lkX11_102 hh (q9 := (RJx4a65c, TJx4a65c, 3)) rfl rfl dX11_addClipNode_26 ⟨Nat.le_of_ble_eq_true rfl, Nat.le_of_ble_eq_true rfl⟩ rfl (Nat.le_of_ble_eq_true rfl) ⟨Nat.le_of_ble_eq_true rfl, Nat.le_of_ble_eq_true rfl⟩ (Nat.le_of_ble_eq_true rfl) (Nat.le_of_ble_eq_true rfl) (fun x12 h11 w9 => ?_)
  replace w := w9
  clear w9
  refine V_pop X dX11_addClipNode_29 rfl ?_
  refine V_aloadr_n X dX11_addClipNode_30 1 rfl ?_
  obtain ⟨fs, r13, hh, hv, w⟩ := w
  refine V_get X flX11_12 dX11_addClipNode_31 hh hv ?_
  obtain ⟨a14, rfl, w⟩ := w
  obtain ⟨fs, r15, hh, hv, w⟩ := w
  refine V_get3 X frX11_126 dX11_addClipNode_34 hh hv ?_
  obtain ⟨a16, rfl, w⟩ := w
  obtain ⟨fs, hh, w⟩ := w
  refine V_callVi (As := []) (rest := []) (k1 := 6) (n1 := 89) X (cJx4a65c_size_8abf5_ok X.2.2.2.2.2.2.2.2.1 w) lkX11_90 hh (q9 := (RJx4a65c, TJx4a65c, 3)) rfl rfl dX11_addClipNode_37 ⟨Nat.le_of_ble_eq_true rfl, Nat.le_of_ble_eq_true rfl⟩ rfl (Nat.le_of_ble_eq_true rfl) ⟨Nat.le_of_ble_eq_true rfl, Nat.le_of_ble_eq_true rfl⟩ (Nat.le_of_ble_eq_true rfl) (Nat.le_of_ble_eq_true rfl) (fun x18 h17 w9 => ?_)
  replace w := w9
  clear w9
  refine V_iconst (y := 1) X dX11_addClipNode_40 (by decide) ?_
  refine V_isub X dX11_addClipNode_41 ?_
  exact V.vx (V_iret X rfl dX11_addClipNode_42 (Nat.le_of_ble_eq_true rfl) (Nat.le_of_ble_eq_true rfl) w)
theorem cX11_addClipNode_ok {l : Launch} {G : gG} {h : gH} (hls : l.stackTraces = false) {Qn : Int32 → gH → Prop} {Qx : String → gH → Prop} {v0 : Nat} {v1 : Int32} (w : vX11_addClipNode G.2.2.1 Qn Qx h v0 v1) : gXi l yX11_addClipNode cX11_addClipNode 3 (some FieldType.int) rmX11_addClipNode rmX11_addClipNode.cells rmX11_addClipNode.slots G h [.ref v0, .int v1] Qn Qx := by
  exact gXi.of (by decide +kernel) hls (Nat.le_of_ble_eq_true rfl) rfl rfl (fun p e s m below meth c A X hT => tX11_addClipNode X hT w)
/-! AnimationController.addLine(I)I -/
abbrev rmX11_addLine : Room := { frames := 7, cells := 6, slots := 89, locals := 191 }
def vX11_addLine (t0 : Nat)  (Qn : Int32 → gH → Prop) (Qx : String → gH → Prop) (h : gH) (v0 : Nat) (v1 : Int32) : Prop := io h v0 14 (vX11_requireParameter t0 (fun h1 => gr h1 v0 14 0 (fun r2 => nn r2 (fun a3 => io h1 a3 7 (vX4_kindOf t0 (fun x5 h4 => (((x5 : Int32) = 0) → (io h4 v0 14 (vX11_requireRoomForNode t0 (fun h6 => gr h6 v0 14 0 (fun r7 => nn r7 (fun a8 => gr h6 a8 7 3 (fun r9 => nw h6 (.inr (8, [.null, .int 0, .null, .null, .int 0])) (fun q10 h11 => vX5_init t0 (fun h12 => nn r9 (fun a13 => io h12 a13 2 (vJx4a65c_add_9ea2d t0 (fun x15 h14 => gr h14 v0 14 0 (fun r16 => nn r16 (fun a17 => gr h14 a17 7 3 (fun r18 => nn r18 (fun a19 => io h14 a19 2 (vJx4a65c_size_8abf5 t0 (fun x21 h20 => Qn (x21 - 1) h20) h14 a19 )))))) h12 a13 (some q10)))) h11 q10 (none : Option Nat) v1))))) Qx h4 v0 ))) ∧ ((¬ (x5 : Int32) = 0) → (Qx "java/lang/IllegalStateException" h4))) h1 a3 v1)))) Qx h v0 v1)
set_option maxRecDepth 100000 in
set_option maxHeartbeats 4000000 in
theorem tX11_addLine {p : Program} {l : Launch} {e : Env} {s : State} {m : MethodId} {args : Array Value} {below : List Frame} {meth : Method} {c : Code} {G : gG} {A : Nat → Prop} {Qn : Int32 → gH → Prop} {Qx : String → gH → Prop} (X : gC p l s m args meth c G A cX11_addLine 2 (some FieldType.int) RX11) (hT : ∀ x ∈ c.exceptionTable.toList, False)   {h : gH} {v0 : Nat} {v1 : Int32} (w : vX11_addLine G.2.2.1  Qn Qx h v0 v1) : V p l e rmX11_addLine s m args below meth c (vx_MQ below (va_Qi Qn (gB G A) A) (gXC G A Qx) args s rmX11_addLine.cells rmX11_addLine.slots A) G A 2 h 0 0 0 [(0, .ref v0), (1, .int v1)] [] := by
  refine V_aloadr_n X dX11_addLine_0 0 rfl ?_
  refine V_iload_n X dX11_addLine_1 1 rfl ?_
  obtain ⟨fs, hh, w⟩ := w
  refine V_callXv (As := [.int v1]) (rest := []) (k1 := 1) (n1 := 6) X (cX11_requireParameter_ok X.2.2.2.2.2.2.2.2.1 w) lkX11_66 hh (q9 := (RX11, TX11, 7)) rfl rfl dX11_addLine_2 hT ⟨Nat.le_of_ble_eq_true rfl, Nat.le_of_ble_eq_true rfl⟩ rfl (Nat.le_of_ble_eq_true rfl) ⟨Nat.le_of_ble_eq_true rfl, Nat.le_of_ble_eq_true rfl⟩ (Nat.le_of_ble_eq_true rfl) (Nat.le_of_ble_eq_true rfl) (Nat.le_of_ble_eq_true rfl) (Nat.le_of_ble_eq_true rfl) (fun h1 w9 => ?_)
  replace w := w9
  clear w9
  refine V_aloadr_n X dX11_addLine_5 0 rfl ?_
  obtain ⟨fs, r2, hh, hv, w⟩ := w
  refine V_get X flX11_12 dX11_addLine_6 hh hv ?_
  refine V_iload_n X dX11_addLine_9 1 rfl ?_
  obtain ⟨a3, rfl, w⟩ := w
  obtain ⟨fs, hh, w⟩ := w
  refine V_callVi (As := [.int v1]) (rest := []) (k1 := 1) (n1 := 6) X (cX4_kindOf_ok X.2.2.2.2.2.2.2.2.1 w) lkX11_134 hh (q9 := (RX4, TX4, 8)) rfl rfl dX11_addLine_10 ⟨Nat.le_of_ble_eq_true rfl, Nat.le_of_ble_eq_true rfl⟩ rfl (Nat.le_of_ble_eq_true rfl) ⟨Nat.le_of_ble_eq_true rfl, Nat.le_of_ble_eq_true rfl⟩ (Nat.le_of_ble_eq_true rfl) (Nat.le_of_ble_eq_true rfl) (fun x5 h4 w9 => ?_)
  replace w := w9
  clear w9
  obtain ⟨w1, w2⟩ := w
  refine V_if_eq (tgt := 26) X dX11_addLine_13 (by decide) (fun z => ?_) (fun z => ?_)
  · replace w := w1 z
    clear w1 w2
    refine V_aloadr_n X dX11_addLine_26 0 rfl ?_
    obtain ⟨fs, hh, w⟩ := w
    refine V_callXv (As := []) (rest := []) (k1 := 2) (n1 := 12) X (cX11_requireRoomForNode_ok X.2.2.2.2.2.2.2.2.1 w) lkX11_123 hh (q9 := (RX11, TX11, 7)) rfl rfl dX11_addLine_27 hT ⟨Nat.le_of_ble_eq_true rfl, Nat.le_of_ble_eq_true rfl⟩ rfl (Nat.le_of_ble_eq_true rfl) ⟨Nat.le_of_ble_eq_true rfl, Nat.le_of_ble_eq_true rfl⟩ (Nat.le_of_ble_eq_true rfl) (Nat.le_of_ble_eq_true rfl) (Nat.le_of_ble_eq_true rfl) (Nat.le_of_ble_eq_true rfl) (fun h6 w9 => ?_)
    replace w := w9
    clear w9
    refine V_aloadr_n X dX11_addLine_30 0 rfl ?_
    obtain ⟨fs, r7, hh, hv, w⟩ := w
    refine V_get X flX11_12 dX11_addLine_31 hh hv ?_
    obtain ⟨a8, rfl, w⟩ := w
    obtain ⟨fs, r9, hh, hv, w⟩ := w
    refine V_get3 X frX11_126 dX11_addLine_34 hh hv ?_
    refine V_new (k1 := 3) (n1 := 17) X nwX11_129 dX11_addLine_37 ⟨(Nat.le_of_ble_eq_true rfl), (Nat.le_of_ble_eq_true rfl)⟩ (Nat.le_of_ble_eq_true rfl) (Nat.le_of_ble_eq_true rfl) (fun q10 hq => ?_)
    replace w := w q10 hq
    generalize va_up _ _ _ = h11 at w ⊢
    refine V_dup X dX11_addLine_40 rfl ?_
    refine V_null X dX11_addLine_41 ?_
    refine V_iload_n X dX11_addLine_42 1 rfl ?_
    refine V_callI (As := [va_rf (none : Option Nat), .int v1]) (rest := [.ref q10, va_rf r9]) (k1 := 5) (n1 := 25) X (cX5_init_ok X.2.2.2.2.2.2.2.2.1 w) lkX11_131 dX11_addLine_43 ⟨Nat.le_of_ble_eq_true rfl, Nat.le_of_ble_eq_true rfl⟩ rfl (va_len _ 4 (Nat.le_of_ble_eq_true rfl)) ⟨Nat.le_of_ble_eq_true rfl, Nat.le_of_ble_eq_true rfl⟩ (Nat.le_of_ble_eq_true rfl) (Nat.le_of_ble_eq_true rfl) (fun h12 w9 => ?_)
    replace w := w9
    clear w9
    obtain ⟨a13, rfl, w⟩ := w
    obtain ⟨fs, hh, w⟩ := w
    refine V_callVi (As := [.ref q10]) (rest := []) (k1 := 6) (n1 := 89) X (cJx4a65c_add_9ea2d_ok X.2.2.2.2.2.2.2.2.1 w) lkX11_102 hh (q9 := (RJx4a65c, TJx4a65c, 3)) rfl rfl dX11_addLine_46 ⟨Nat.le_of_ble_eq_true rfl, Nat.le_of_ble_eq_true rfl⟩ rfl (Nat.le_of_ble_eq_true rfl) ⟨Nat.le_of_ble_eq_true rfl, Nat.le_of_ble_eq_true rfl⟩ (Nat.le_of_ble_eq_true rfl) (Nat.le_of_ble_eq_true rfl) (fun x15 h14 w9 => ?_)
    replace w := w9
    clear w9
    refine V_pop X dX11_addLine_49 rfl ?_
    refine V_aloadr_n X dX11_addLine_50 0 rfl ?_
    obtain ⟨fs, r16, hh, hv, w⟩ := w
    refine V_get X flX11_12 dX11_addLine_51 hh hv ?_
    obtain ⟨a17, rfl, w⟩ := w
    obtain ⟨fs, r18, hh, hv, w⟩ := w
    refine V_get3 X frX11_126 dX11_addLine_54 hh hv ?_
    obtain ⟨a19, rfl, w⟩ := w
    obtain ⟨fs, hh, w⟩ := w
    refine V_callVi (As := []) (rest := []) (k1 := 6) (n1 := 89) X (cJx4a65c_size_8abf5_ok X.2.2.2.2.2.2.2.2.1 w) lkX11_90 hh (q9 := (RJx4a65c, TJx4a65c, 3)) rfl rfl dX11_addLine_57 ⟨Nat.le_of_ble_eq_true rfl, Nat.le_of_ble_eq_true rfl⟩ rfl (Nat.le_of_ble_eq_true rfl) ⟨Nat.le_of_ble_eq_true rfl, Nat.le_of_ble_eq_true rfl⟩ (Nat.le_of_ble_eq_true rfl) (Nat.le_of_ble_eq_true rfl) (fun x21 h20 w9 => ?_)
    replace w := w9
    clear w9
    refine V_iconst (y := 1) X dX11_addLine_60 (by decide) ?_
    refine V_isub X dX11_addLine_61 ?_
    exact V.vx (V_iret X rfl dX11_addLine_62 (Nat.le_of_ble_eq_true rfl) (Nat.le_of_ble_eq_true rfl) w)
  · replace w := w2 z
    clear w1 w2
    exact V_throw X thX11_137_61 dX11_addLine_16 dX11_addLine_19 dX11_addLine_20 dX11_addLine_22 dX11_addLine_25 hT ⟨(Nat.le_of_ble_eq_true rfl), (Nat.le_of_ble_eq_true rfl), (Nat.le_of_ble_eq_true rfl), (Nat.le_of_ble_eq_true rfl)⟩ (Nat.le_of_ble_eq_true rfl) (Nat.le_of_ble_eq_true rfl) w
theorem cX11_addLine_ok {l : Launch} {G : gG} {h : gH} (hls : l.stackTraces = false) {Qn : Int32 → gH → Prop} {Qx : String → gH → Prop} {v0 : Nat} {v1 : Int32} (w : vX11_addLine G.2.2.1 Qn Qx h v0 v1) : gXi l yX11_addLine cX11_addLine 2 (some FieldType.int) rmX11_addLine rmX11_addLine.cells rmX11_addLine.slots G h [.ref v0, .int v1] Qn Qx := by
  exact gXi.of (by decide +kernel) hls (Nat.le_of_ble_eq_true rfl) rfl rfl (fun p e s m below meth c A X hT => tX11_addLine X hT w)
/-! AnimationController.nodeAt(I)LAnimationController$Node; -/
abbrev rmX11_nodeAt : Room := { frames := 6, cells := 1, slots := 6, locals := 90 }
def vX11_nodeAt_b18 (t0 : Nat)  (Qn : Option Nat → gH → Prop) (Qx : String → gH → Prop) (h : gH)  : Prop := Qx "java/lang/IndexOutOfBoundsException" h
set_option maxRecDepth 100000 in
set_option maxHeartbeats 4000000 in
theorem tX11_nodeAt_b18 {p : Program} {l : Launch} {e : Env} {s : State} {m : MethodId} {args : Array Value} {below : List Frame} {meth : Method} {c : Code} {G : gG} {A : Nat → Prop} {Qn : Option Nat → gH → Prop} {Qx : String → gH → Prop} (X : gC p l s m args meth c G A cX11_nodeAt 2 (some (FieldType.object "AnimationController$Node")) RX11) (hT : ∀ x ∈ c.exceptionTable.toList, False)   {h : gH}  (w : vX11_nodeAt_b18 G.2.2.1  Qn Qx h ) : V p l e rmX11_nodeAt s m args below meth c (vx_MQ below (va_Qq Qn (gB G A) A) (gXC G A Qx) args s rmX11_nodeAt.cells rmX11_nodeAt.slots A) G A 2 h 0 0 18 [] [] := by
  exact V_throwW X thX11_434_378 dX11_nodeAt_18 dX11_nodeAt_21 dX11_nodeAt_22 dX11_nodeAt_25 dX11_nodeAt_28 hT ⟨(Nat.le_of_ble_eq_true rfl), (Nat.le_of_ble_eq_true rfl), (Nat.le_of_ble_eq_true rfl), (Nat.le_of_ble_eq_true rfl)⟩ (Nat.le_of_ble_eq_true rfl) (Nat.le_of_ble_eq_true rfl) w
def vX11_nodeAt (t0 : Nat)  (Qn : Option Nat → gH → Prop) (Qx : String → gH → Prop) (h : gH) (v0 : Nat) (v1 : Int32) : Prop := (((v1 : Int32) < 0) → (vX11_nodeAt_b18 t0  Qn Qx h )) ∧ ((¬ (v1 : Int32) < 0) → (gr h v0 14 0 (fun r1 => nn r1 (fun a2 => gr h a2 7 3 (fun r3 => nn r3 (fun a4 => io h a4 2 (vJx4a65c_size_8abf5 t0 (fun x6 h5 => (((v1 : Int32) < x6) → (gr h5 v0 14 0 (fun r7 => nn r7 (fun a8 => gr h5 a8 7 3 (fun r9 => nn r9 (fun a10 => io h5 a10 2 (vJx4a65c_get_915e3 t0 (fun r12 h11 => nn r12 (fun a13 => io h11 a13 8 (Qn (some a13) h11))) h5 a10 v1))))))) ∧ ((¬ (v1 : Int32) < x6) → (vX11_nodeAt_b18 t0  Qn Qx h5 ))) h a4 )))))))
set_option maxRecDepth 100000 in
set_option maxHeartbeats 4000000 in
theorem tX11_nodeAt {p : Program} {l : Launch} {e : Env} {s : State} {m : MethodId} {args : Array Value} {below : List Frame} {meth : Method} {c : Code} {G : gG} {A : Nat → Prop} {Qn : Option Nat → gH → Prop} {Qx : String → gH → Prop} (X : gC p l s m args meth c G A cX11_nodeAt 2 (some (FieldType.object "AnimationController$Node")) RX11) (hT : ∀ x ∈ c.exceptionTable.toList, False)   {h : gH} {v0 : Nat} {v1 : Int32} (w : vX11_nodeAt G.2.2.1  Qn Qx h v0 v1) : V p l e rmX11_nodeAt s m args below meth c (vx_MQ below (va_Qq Qn (gB G A) A) (gXC G A Qx) args s rmX11_nodeAt.cells rmX11_nodeAt.slots A) G A 2 h 0 0 0 [(0, .ref v0), (1, .int v1)] [] := by
  refine V_iload_n X dX11_nodeAt_0 1 rfl ?_
  obtain ⟨w1, w2⟩ := w
  refine V_if_lt (tgt := 18) X dX11_nodeAt_1 (by decide) (fun z => ?_) (fun z => ?_)
  · replace w := w1 z
    clear w1 w2
    exact V.sub [] rfl (tX11_nodeAt_b18 X hT  w)
  · replace w := w2 z
    clear w1 w2
    refine V_iload_n X dX11_nodeAt_4 1 rfl ?_
    refine V_aloadr_n X dX11_nodeAt_5 0 rfl ?_
    obtain ⟨fs, r1, hh, hv, w⟩ := w
    refine V_get X flX11_12 dX11_nodeAt_6 hh hv ?_
    obtain ⟨a2, rfl, w⟩ := w
    obtain ⟨fs, r3, hh, hv, w⟩ := w
    refine V_get3 X frX11_126 dX11_nodeAt_9 hh hv ?_
    obtain ⟨a4, rfl, w⟩ := w
    obtain ⟨fs, hh, w⟩ := w
    refine V_callVi (As := []) (rest := [.int v1]) (k1 := 0) (n1 := 0) X (cJx4a65c_size_8abf5_ok X.2.2.2.2.2.2.2.2.1 w) lkX11_90 hh (q9 := (RJx4a65c, TJx4a65c, 3)) rfl rfl dX11_nodeAt_12 ⟨Nat.le_of_ble_eq_true rfl, Nat.le_of_ble_eq_true rfl⟩ rfl (Nat.le_of_ble_eq_true rfl) ⟨Nat.le_of_ble_eq_true rfl, Nat.le_of_ble_eq_true rfl⟩ (Nat.le_of_ble_eq_true rfl) (Nat.le_of_ble_eq_true rfl) (fun x6 h5 w9 => ?_)
    replace w := w9
    clear w9
    obtain ⟨w1, w2⟩ := w
    refine V_icmp_lt (tgt := 29) X dX11_nodeAt_15 (by decide) (fun z => ?_) (fun z => ?_)
    · replace w := w1 z
      clear w1 w2
      refine V_aloadr_n X dX11_nodeAt_29 0 rfl ?_
      obtain ⟨fs, r7, hh, hv, w⟩ := w
      refine V_get X flX11_12 dX11_nodeAt_30 hh hv ?_
      obtain ⟨a8, rfl, w⟩ := w
      obtain ⟨fs, r9, hh, hv, w⟩ := w
      refine V_get3 X frX11_126 dX11_nodeAt_33 hh hv ?_
      refine V_iload_n X dX11_nodeAt_36 1 rfl ?_
      obtain ⟨a10, rfl, w⟩ := w
      obtain ⟨fs, hh, w⟩ := w
      refine V_callVq (As := [.int v1]) (rest := []) (k1 := 0) (n1 := 0) X (cJx4a65c_get_915e3_ok X.2.2.2.2.2.2.2.2.1 w) lkX11_302 hh (q9 := (RJx4a65c, TJx4a65c, 3)) rfl rfl dX11_nodeAt_37 ⟨Nat.le_of_ble_eq_true rfl, Nat.le_of_ble_eq_true rfl⟩ rfl (Nat.le_of_ble_eq_true rfl) ⟨Nat.le_of_ble_eq_true rfl, Nat.le_of_ble_eq_true rfl⟩ (Nat.le_of_ble_eq_true rfl) (Nat.le_of_ble_eq_true rfl) (fun r12 h11 w9 => ?_)
      replace w := w9
      clear w9
      obtain ⟨a13, rfl, w⟩ := w
      obtain ⟨fs, hh, w⟩ := w
      refine V_cast (q9 := (RX5, TX5, 5)) X kw_910 rfl rfl hh dX11_nodeAt_40 ?_
      exact V.vx (V_aret (x := (some a13)) X rfl (Or.inl ⟨_, rfl⟩) dX11_nodeAt_43 (Nat.le_of_ble_eq_true rfl) (Nat.le_of_ble_eq_true rfl) w)
    · replace w := w2 z
      clear w1 w2
      exact V.sub [] rfl (tX11_nodeAt_b18 X hT  w)
theorem cX11_nodeAt_ok {l : Launch} {G : gG} {h : gH} (hls : l.stackTraces = false) {Qn : Option Nat → gH → Prop} {Qx : String → gH → Prop} {v0 : Nat} {v1 : Int32} (w : vX11_nodeAt G.2.2.1 Qn Qx h v0 v1) : gXq l yX11_nodeAt cX11_nodeAt 2 (some (FieldType.object "AnimationController$Node")) rmX11_nodeAt rmX11_nodeAt.cells rmX11_nodeAt.slots G h [.ref v0, .int v1] Qn Qx := by
  exact gXq.of (by decide +kernel) hls (Nat.le_of_ble_eq_true rfl) rfl rfl (fun p e s m below meth c A X hT => tX11_nodeAt X hT w)
/-! AnimationController.addChild(III)I -/
abbrev rmX11_addChild : Room := { frames := 7, cells := 3, slots := 76, locals := 194 }
def vX11_addChild_b39 (t0 : Nat)  (Qn : Int32 → gH → Prop) (Qx : String → gH → Prop) (h : gH)  : Prop := Qx "java/lang/IllegalArgumentException" h
set_option maxRecDepth 100000 in
set_option maxHeartbeats 4000000 in
theorem tX11_addChild_b39 {p : Program} {l : Launch} {e : Env} {s : State} {m : MethodId} {args : Array Value} {below : List Frame} {meth : Method} {c : Code} {G : gG} {A : Nat → Prop} {Qn : Int32 → gH → Prop} {Qx : String → gH → Prop} (X : gC p l s m args meth c G A cX11_addChild 6 (some FieldType.int) RX11) (hT : ∀ x ∈ c.exceptionTable.toList, False)   {h : gH}  (w : vX11_addChild_b39 G.2.2.1  Qn Qx h ) : V p l e rmX11_addChild s m args below meth c (vx_MQ below (va_Qi Qn (gB G A) A) (gXC G A Qx) args s rmX11_addChild.cells rmX11_addChild.slots A) G A 6 h 2 12 39 [] [] := by
  exact V_throw X thX11_147_47 dX11_addChild_39 dX11_addChild_42 dX11_addChild_43 dX11_addChild_45 dX11_addChild_48 hT ⟨(Nat.le_of_ble_eq_true rfl), (Nat.le_of_ble_eq_true rfl), (Nat.le_of_ble_eq_true rfl), (Nat.le_of_ble_eq_true rfl)⟩ (Nat.le_of_ble_eq_true rfl) (Nat.le_of_ble_eq_true rfl) w
def vX11_addChild_b70 (t0 : Nat)  (Qn : Int32 → gH → Prop) (Qx : String → gH → Prop) (h : gH)  : Prop := Qx "java/lang/IllegalStateException" h
set_option maxRecDepth 100000 in
set_option maxHeartbeats 4000000 in
theorem tX11_addChild_b70 {p : Program} {l : Launch} {e : Env} {s : State} {m : MethodId} {args : Array Value} {below : List Frame} {meth : Method} {c : Code} {G : gG} {A : Nat → Prop} {Qn : Int32 → gH → Prop} {Qx : String → gH → Prop} (X : gC p l s m args meth c G A cX11_addChild 6 (some FieldType.int) RX11) (hT : ∀ x ∈ c.exceptionTable.toList, False)   {h : gH}  (w : vX11_addChild_b70 G.2.2.1  Qn Qx h ) : V p l e rmX11_addChild s m args below meth c (vx_MQ below (va_Qi Qn (gB G A) A) (gXC G A Qx) args s rmX11_addChild.cells rmX11_addChild.slots A) G A 6 h 2 12 70 [] [] := by
  exact V_throw X thX11_156_61 dX11_addChild_70 dX11_addChild_73 dX11_addChild_74 dX11_addChild_76 dX11_addChild_79 hT ⟨(Nat.le_of_ble_eq_true rfl), (Nat.le_of_ble_eq_true rfl), (Nat.le_of_ble_eq_true rfl), (Nat.le_of_ble_eq_true rfl)⟩ (Nat.le_of_ble_eq_true rfl) (Nat.le_of_ble_eq_true rfl) w
def vX11_addChild_b103 (t0 : Nat)  (Qn : Int32 → gH → Prop) (Qx : String → gH → Prop) (h : gH)  : Prop := Qx "java/lang/IllegalStateException" h
set_option maxRecDepth 100000 in
set_option maxHeartbeats 4000000 in
theorem tX11_addChild_b103 {p : Program} {l : Launch} {e : Env} {s : State} {m : MethodId} {args : Array Value} {below : List Frame} {meth : Method} {c : Code} {G : gG} {A : Nat → Prop} {Qn : Int32 → gH → Prop} {Qx : String → gH → Prop} (X : gC p l s m args meth c G A cX11_addChild 6 (some FieldType.int) RX11) (hT : ∀ x ∈ c.exceptionTable.toList, False)   {h : gH}  (w : vX11_addChild_b103 G.2.2.1  Qn Qx h ) : V p l e rmX11_addChild s m args below meth c (vx_MQ below (va_Qi Qn (gB G A) A) (gXC G A Qx) args s rmX11_addChild.cells rmX11_addChild.slots A) G A 6 h 2 12 103 [] [] := by
  exact V_throw X thX11_165_61 dX11_addChild_103 dX11_addChild_106 dX11_addChild_107 dX11_addChild_109 dX11_addChild_112 hT ⟨(Nat.le_of_ble_eq_true rfl), (Nat.le_of_ble_eq_true rfl), (Nat.le_of_ble_eq_true rfl), (Nat.le_of_ble_eq_true rfl)⟩ (Nat.le_of_ble_eq_true rfl) (Nat.le_of_ble_eq_true rfl) w
def vX11_addChild (t0 : Nat)  (Qn : Int32 → gH → Prop) (Qx : String → gH → Prop) (h : gH) (v0 : Nat) (v1 : Int32) (v2 : Int32) (v3 : Int32) : Prop := io h v0 14 (vX11_nodeAt t0 (fun r2 h1 => io h1 v0 14 (vX11_nodeAt t0 (fun r4 h3 => nn r2 (fun a5 => io h3 a5 8 (vX5_isLine t0 (fun x7 h6 => (((x7 : Int32) = 0) → (vX11_addChild_b39 t0  Qn Qx h6 )) ∧ ((¬ (x7 : Int32) = 0) → (((v1 ≤ (v2 : Int32)) → (vX11_addChild_b39 t0  Qn Qx h6 )) ∧ ((¬ v1 ≤ (v2 : Int32)) → ((((v3 : Int32) < (-100)) → (vX11_addChild_b39 t0  Qn Qx h6 )) ∧ ((¬ (v3 : Int32) < (-100)) → ((((v3 : Int32) ≤ 100) → (gr h6 a5 8 2 (fun r8 => nn r8 (fun a9 => io h6 a9 2 (vJx4a65c_size_8abf5 t0 (fun x11 h10 => ((5 ≤ (x11 : Int32)) → (vX11_addChild_b70 t0  Qn Qx h10 )) ∧ ((¬ 5 ≤ (x11 : Int32)) → (io h10 a5 8 (vX5_hasPosition t0 (fun x13 h12 => (((x13 : Int32) = 0) → (nn r4 (fun a14 => io h12 a14 8 (vX5_isComplete t0 (fun x16 h15 => (((x16 : Int32) = 0) → (vX11_addChild_b103 t0  Qn Qx h15 )) ∧ ((¬ (x16 : Int32) = 0) → (gr h15 v0 14 0 (fun r17 => nn r17 (fun a18 => io h15 a18 7 (vX4_greatestDepthWith t0 (fun x20 h19 => (((x20 : Int32) ≤ 4) → (io h19 a5 8 (vX5_insertChild t0 (fun h21 => gr h21 a5 8 2 (fun r22 => nn r22 (fun a23 => io h21 a23 2 (vJx4a65c_size_8abf5 t0 (fun x25 h24 => Qn x25 h24) h21 a23 )))) h19 a5 (some a14) v3))) ∧ ((¬ (x20 : Int32) ≤ 4) → (vX11_addChild_b103 t0  Qn Qx h19 ))) h15 a18 (some a5) (some a14))))))) h12 a14 )))) ∧ ((¬ (x13 : Int32) = 0) → (vX11_addChild_b70 t0  Qn Qx h12 ))) h10 a5 v3)))) h6 a9 ))))) ∧ ((¬ (v3 : Int32) ≤ 100) → (vX11_addChild_b39 t0  Qn Qx h6 ))))))))) h3 a5 ))) Qx h1 v0 v2)) Qx h v0 v1)
set_option maxRecDepth 100000 in
set_option maxHeartbeats 4000000 in
theorem tX11_addChild {p : Program} {l : Launch} {e : Env} {s : State} {m : MethodId} {args : Array Value} {below : List Frame} {meth : Method} {c : Code} {G : gG} {A : Nat → Prop} {Qn : Int32 → gH → Prop} {Qx : String → gH → Prop} (X : gC p l s m args meth c G A cX11_addChild 6 (some FieldType.int) RX11) (hT : ∀ x ∈ c.exceptionTable.toList, False)   {h : gH} {v0 : Nat} {v1 : Int32} {v2 : Int32} {v3 : Int32} (w : vX11_addChild G.2.2.1  Qn Qx h v0 v1 v2 v3) : V p l e rmX11_addChild s m args below meth c (vx_MQ below (va_Qi Qn (gB G A) A) (gXC G A Qx) args s rmX11_addChild.cells rmX11_addChild.slots A) G A 6 h 0 0 0 [(0, .ref v0), (1, .int v1), (2, .int v2), (3, .int v3)] [] := by
  refine V_aloadr_n X dX11_addChild_0 0 rfl ?_
  refine V_iload_n X dX11_addChild_1 1 rfl ?_
  obtain ⟨fs, hh, w⟩ := w
  refine V_callXq (As := [.int v1]) (rest := []) (k1 := 1) (n1 := 6) X (cX11_nodeAt_ok X.2.2.2.2.2.2.2.2.1 w) lkX11_139 hh (q9 := (RX11, TX11, 7)) rfl rfl dX11_addChild_2 hT ⟨Nat.le_of_ble_eq_true rfl, Nat.le_of_ble_eq_true rfl⟩ rfl (Nat.le_of_ble_eq_true rfl) ⟨Nat.le_of_ble_eq_true rfl, Nat.le_of_ble_eq_true rfl⟩ (Nat.le_of_ble_eq_true rfl) (Nat.le_of_ble_eq_true rfl) (Nat.le_of_ble_eq_true rfl) (Nat.le_of_ble_eq_true rfl) (fun r2 h1 w9 => ?_)
  replace w := w9
  clear w9
  refine V_astoreq X dX11_addChild_5 (by decide) rfl ?_
  refine V_aloadr_n X dX11_addChild_7 1 rfl ?_
  refine V_iload_n X dX11_addChild_8 3 rfl ?_
  obtain ⟨fs, hh, w⟩ := w
  refine V_callXq (As := [.int v2]) (rest := []) (k1 := 2) (n1 := 12) X (cX11_nodeAt_ok X.2.2.2.2.2.2.2.2.1 w) lkX11_139 hh (q9 := (RX11, TX11, 7)) rfl rfl dX11_addChild_9 hT ⟨Nat.le_of_ble_eq_true rfl, Nat.le_of_ble_eq_true rfl⟩ rfl (Nat.le_of_ble_eq_true rfl) ⟨Nat.le_of_ble_eq_true rfl, Nat.le_of_ble_eq_true rfl⟩ (Nat.le_of_ble_eq_true rfl) (Nat.le_of_ble_eq_true rfl) (Nat.le_of_ble_eq_true rfl) (Nat.le_of_ble_eq_true rfl) (fun r4 h3 w9 => ?_)
  replace w := w9
  clear w9
  refine V_astoreq X dX11_addChild_12 (by decide) (by simp [va_cat1] <;> rfl) ?_
  refine V_aload X dX11_addChild_14 1 rfl ?_
  obtain ⟨a5, rfl, w⟩ := w
  obtain ⟨fs, hh, w⟩ := w
  refine V_callVi (As := []) (rest := []) (k1 := 2) (n1 := 12) X (cX5_isLine_ok X.2.2.2.2.2.2.2.2.1 w) lkX11_143 hh (q9 := (RX5, TX5, 5)) rfl rfl dX11_addChild_16 ⟨Nat.le_of_ble_eq_true rfl, Nat.le_of_ble_eq_true rfl⟩ rfl (Nat.le_of_ble_eq_true rfl) ⟨Nat.le_of_ble_eq_true rfl, Nat.le_of_ble_eq_true rfl⟩ (Nat.le_of_ble_eq_true rfl) (Nat.le_of_ble_eq_true rfl) (fun x7 h6 w9 => ?_)
  replace w := w9
  clear w9
  obtain ⟨w1, w2⟩ := w
  refine V_if_eq (tgt := 39) X dX11_addChild_19 (by decide) (fun z => ?_) (fun z => ?_)
  · replace w := w1 z
    clear w1 w2
    exact V.sub [] rfl (tX11_addChild_b39 X hT  w)
  · replace w := w2 z
    clear w1 w2
    refine V_iload_n X dX11_addChild_22 4 rfl ?_
    refine V_iload_n X dX11_addChild_23 3 rfl ?_
    obtain ⟨w1, w2⟩ := w
    refine V_icmp_ge (tgt := 39) X dX11_addChild_24 (by decide) (fun z => ?_) (fun z => ?_)
    · replace w := w1 z
      clear w1 w2
      exact V.sub [] rfl (tX11_addChild_b39 X hT  w)
    · replace w := w2 z
      clear w1 w2
      refine V_iload_n X dX11_addChild_27 5 rfl ?_
      refine V_bipush (y := (-100)) X dX11_addChild_28 (by decide) ?_
      obtain ⟨w1, w2⟩ := w
      refine V_icmp_lt (tgt := 39) X dX11_addChild_30 (by decide) (fun z => ?_) (fun z => ?_)
      · replace w := w1 z
        clear w1 w2
        exact V.sub [] rfl (tX11_addChild_b39 X hT  w)
      · replace w := w2 z
        clear w1 w2
        refine V_iload_n X dX11_addChild_33 5 rfl ?_
        refine V_bipush (y := 100) X dX11_addChild_34 (by decide) ?_
        obtain ⟨w1, w2⟩ := w
        refine V_icmp_le (tgt := 49) X dX11_addChild_36 (by decide) (fun z => ?_) (fun z => ?_)
        · replace w := w1 z
          clear w1 w2
          refine V_aloadr X dX11_addChild_49 1 rfl ?_
          obtain ⟨fs, r8, hh, hv, w⟩ := w
          refine V_get3 X frX11_149 dX11_addChild_51 hh hv ?_
          obtain ⟨a9, rfl, w⟩ := w
          obtain ⟨fs, hh, w⟩ := w
          refine V_callVi (As := []) (rest := []) (k1 := 2) (n1 := 12) X (cJx4a65c_size_8abf5_ok X.2.2.2.2.2.2.2.2.1 w) lkX11_90 hh (q9 := (RJx4a65c, TJx4a65c, 3)) rfl rfl dX11_addChild_54 ⟨Nat.le_of_ble_eq_true rfl, Nat.le_of_ble_eq_true rfl⟩ rfl (Nat.le_of_ble_eq_true rfl) ⟨Nat.le_of_ble_eq_true rfl, Nat.le_of_ble_eq_true rfl⟩ (Nat.le_of_ble_eq_true rfl) (Nat.le_of_ble_eq_true rfl) (fun x11 h10 w9 => ?_)
          replace w := w9
          clear w9
          refine V_iconst (y := 5) X dX11_addChild_57 (by decide) ?_
          obtain ⟨w1, w2⟩ := w
          refine V_icmp_ge (tgt := 70) X dX11_addChild_58 (by decide) (fun z => ?_) (fun z => ?_)
          · replace w := w1 z
            clear w1 w2
            exact V.sub [] rfl (tX11_addChild_b70 X hT  w)
          · replace w := w2 z
            clear w1 w2
            refine V_aloadr X dX11_addChild_61 1 rfl ?_
            refine V_iload_n X dX11_addChild_63 5 rfl ?_
            obtain ⟨fs, hh, w⟩ := w
            refine V_callVi (As := [.int v3]) (rest := []) (k1 := 2) (n1 := 12) X (cX5_hasPosition_ok X.2.2.2.2.2.2.2.2.1 w) lkX11_152 hh (q9 := (RX5, TX5, 5)) rfl rfl dX11_addChild_64 ⟨Nat.le_of_ble_eq_true rfl, Nat.le_of_ble_eq_true rfl⟩ rfl (Nat.le_of_ble_eq_true rfl) ⟨Nat.le_of_ble_eq_true rfl, Nat.le_of_ble_eq_true rfl⟩ (Nat.le_of_ble_eq_true rfl) (Nat.le_of_ble_eq_true rfl) (fun x13 h12 w9 => ?_)
            replace w := w9
            clear w9
            obtain ⟨w1, w2⟩ := w
            refine V_if_eq (tgt := 80) X dX11_addChild_67 (by decide) (fun z => ?_) (fun z => ?_)
            · replace w := w1 z
              clear w1 w2
              refine V_aload X dX11_addChild_80 0 rfl ?_
              obtain ⟨a14, rfl, w⟩ := w
              obtain ⟨fs, hh, w⟩ := w
              refine V_callVi (As := []) (rest := []) (k1 := 2) (n1 := 12) X (cX5_isComplete_ok X.2.2.2.2.2.2.2.2.1 w) lkX11_158 hh (q9 := (RX5, TX5, 5)) rfl rfl dX11_addChild_82 ⟨Nat.le_of_ble_eq_true rfl, Nat.le_of_ble_eq_true rfl⟩ rfl (Nat.le_of_ble_eq_true rfl) ⟨Nat.le_of_ble_eq_true rfl, Nat.le_of_ble_eq_true rfl⟩ (Nat.le_of_ble_eq_true rfl) (Nat.le_of_ble_eq_true rfl) (fun x16 h15 w9 => ?_)
              replace w := w9
              clear w9
              obtain ⟨w1, w2⟩ := w
              refine V_if_eq (tgt := 103) X dX11_addChild_85 (by decide) (fun z => ?_) (fun z => ?_)
              · replace w := w1 z
                clear w1 w2
                exact V.sub [] rfl (tX11_addChild_b103 X hT  w)
              · replace w := w2 z
                clear w1 w2
                refine V_aloadr_n X dX11_addChild_88 2 rfl ?_
                obtain ⟨fs, r17, hh, hv, w⟩ := w
                refine V_get X flX11_12 dX11_addChild_89 hh hv ?_
                refine V_aloadr X dX11_addChild_92 1 rfl ?_
                refine V_aloadr X dX11_addChild_94 0 rfl ?_
                obtain ⟨a18, rfl, w⟩ := w
                obtain ⟨fs, hh, w⟩ := w
                refine V_callVi (As := [.ref a5, .ref a14]) (rest := []) (k1 := 2) (n1 := 12) X (cX4_greatestDepthWith_ok X.2.2.2.2.2.2.2.2.1 w) lkX11_161 hh (q9 := (RX4, TX4, 8)) rfl rfl dX11_addChild_96 ⟨Nat.le_of_ble_eq_true rfl, Nat.le_of_ble_eq_true rfl⟩ rfl (Nat.le_of_ble_eq_true rfl) ⟨Nat.le_of_ble_eq_true rfl, Nat.le_of_ble_eq_true rfl⟩ (Nat.le_of_ble_eq_true rfl) (Nat.le_of_ble_eq_true rfl) (fun x20 h19 w9 => ?_)
                replace w := w9
                clear w9
                refine V_iconst (y := 4) X dX11_addChild_99 (by decide) ?_
                obtain ⟨w1, w2⟩ := w
                refine V_icmp_le (tgt := 113) X dX11_addChild_100 (by decide) (fun z => ?_) (fun z => ?_)
                · replace w := w1 z
                  clear w1 w2
                  refine V_aloadr X dX11_addChild_113 1 rfl ?_
                  refine V_aloadr X dX11_addChild_115 0 rfl ?_
                  refine V_iload_n X dX11_addChild_117 5 rfl ?_
                  obtain ⟨fs, hh, w⟩ := w
                  refine V_callVv (As := [.ref a14, .int v3]) (rest := []) (k1 := 3) (n1 := 76) X (cX5_insertChild_ok X.2.2.2.2.2.2.2.2.1 w) lkX11_167 hh (q9 := (RX5, TX5, 5)) rfl rfl dX11_addChild_118 ⟨Nat.le_of_ble_eq_true rfl, Nat.le_of_ble_eq_true rfl⟩ rfl (Nat.le_of_ble_eq_true rfl) ⟨Nat.le_of_ble_eq_true rfl, Nat.le_of_ble_eq_true rfl⟩ (Nat.le_of_ble_eq_true rfl) (Nat.le_of_ble_eq_true rfl) (fun h21 w9 => ?_)
                  replace w := w9
                  clear w9
                  refine V_aloadr X dX11_addChild_121 1 rfl ?_
                  obtain ⟨fs, r22, hh, hv, w⟩ := w
                  refine V_get3 X frX11_149 dX11_addChild_123 hh hv ?_
                  obtain ⟨a23, rfl, w⟩ := w
                  obtain ⟨fs, hh, w⟩ := w
                  refine V_callVi (As := []) (rest := []) (k1 := 3) (n1 := 76) X (cJx4a65c_size_8abf5_ok X.2.2.2.2.2.2.2.2.1 w) lkX11_90 hh (q9 := (RJx4a65c, TJx4a65c, 3)) rfl rfl dX11_addChild_126 ⟨Nat.le_of_ble_eq_true rfl, Nat.le_of_ble_eq_true rfl⟩ rfl (Nat.le_of_ble_eq_true rfl) ⟨Nat.le_of_ble_eq_true rfl, Nat.le_of_ble_eq_true rfl⟩ (Nat.le_of_ble_eq_true rfl) (Nat.le_of_ble_eq_true rfl) (fun x25 h24 w9 => ?_)
                  replace w := w9
                  clear w9
                  exact V.vx (V_iret X rfl dX11_addChild_129 (Nat.le_of_ble_eq_true rfl) (Nat.le_of_ble_eq_true rfl) w)
                · replace w := w2 z
                  clear w1 w2
                  exact V.sub [] rfl (tX11_addChild_b103 X hT  w)
            · replace w := w2 z
              clear w1 w2
              exact V.sub [] rfl (tX11_addChild_b70 X hT  w)
        · replace w := w2 z
          clear w1 w2
          exact V.sub [] rfl (tX11_addChild_b39 X hT  w)
theorem cX11_addChild_ok {l : Launch} {G : gG} {h : gH} (hls : l.stackTraces = false) {Qn : Int32 → gH → Prop} {Qx : String → gH → Prop} {v0 : Nat} {v1 : Int32} {v2 : Int32} {v3 : Int32} (w : vX11_addChild G.2.2.1 Qn Qx h v0 v1 v2 v3) : gXi l yX11_addChild cX11_addChild 6 (some FieldType.int) rmX11_addChild rmX11_addChild.cells rmX11_addChild.slots G h [.ref v0, .int v1, .int v2, .int v3] Qn Qx := by
  exact gXi.of (by decide +kernel) hls (Nat.le_of_ble_eq_true rfl) rfl rfl (fun p e s m below meth c A X hT => tX11_addChild X hT w)
/-! AnimationController.addState(IIZI)I -/
abbrev rmX11_addState : Room := { frames := 7, cells := 3, slots := 75, locals := 191 }
def vX11_addState_b30 (t0 : Nat)  (Qn : Int32 → gH → Prop) (Qx : String → gH → Prop) (h : gH)  : Prop := Qx "java/lang/IllegalArgumentException" h
set_option maxRecDepth 100000 in
set_option maxHeartbeats 4000000 in
theorem tX11_addState_b30 {p : Program} {l : Launch} {e : Env} {s : State} {m : MethodId} {args : Array Value} {below : List Frame} {meth : Method} {c : Code} {G : gG} {A : Nat → Prop} {Qn : Int32 → gH → Prop} {Qx : String → gH → Prop} (X : gC p l s m args meth c G A cX11_addState 7 (some FieldType.int) RX11) (hT : ∀ x ∈ c.exceptionTable.toList, False)   {h : gH}  (w : vX11_addState_b30 G.2.2.1  Qn Qx h ) : V p l e rmX11_addState s m args below meth c (vx_MQ below (va_Qi Qn (gB G A) A) (gXC G A Qx) args s rmX11_addState.cells rmX11_addState.slots A) G A 7 h 1 6 30 [] [] := by
  exact V_throw X thX11_171_47 dX11_addState_30 dX11_addState_33 dX11_addState_34 dX11_addState_36 dX11_addState_39 hT ⟨(Nat.le_of_ble_eq_true rfl), (Nat.le_of_ble_eq_true rfl), (Nat.le_of_ble_eq_true rfl), (Nat.le_of_ble_eq_true rfl)⟩ (Nat.le_of_ble_eq_true rfl) (Nat.le_of_ble_eq_true rfl) w
def vX11_addState_b63 (t0 : Nat)  (Qn : Int32 → gH → Prop) (Qx : String → gH → Prop) (h : gH)  : Prop := Qx "java/lang/IllegalStateException" h
set_option maxRecDepth 100000 in
set_option maxHeartbeats 4000000 in
theorem tX11_addState_b63 {p : Program} {l : Launch} {e : Env} {s : State} {m : MethodId} {args : Array Value} {below : List Frame} {meth : Method} {c : Code} {G : gG} {A : Nat → Prop} {Qn : Int32 → gH → Prop} {Qx : String → gH → Prop} (X : gC p l s m args meth c G A cX11_addState 7 (some FieldType.int) RX11) (hT : ∀ x ∈ c.exceptionTable.toList, False)   {h : gH}  (w : vX11_addState_b63 G.2.2.1  Qn Qx h ) : V p l e rmX11_addState s m args below meth c (vx_MQ below (va_Qi Qn (gB G A) A) (gXC G A Qx) args s rmX11_addState.cells rmX11_addState.slots A) G A 7 h 1 6 63 [] [] := by
  exact V_throw X thX11_176_61 dX11_addState_63 dX11_addState_66 dX11_addState_67 dX11_addState_69 dX11_addState_72 hT ⟨(Nat.le_of_ble_eq_true rfl), (Nat.le_of_ble_eq_true rfl), (Nat.le_of_ble_eq_true rfl), (Nat.le_of_ble_eq_true rfl)⟩ (Nat.le_of_ble_eq_true rfl) (Nat.le_of_ble_eq_true rfl) w
def vX11_addState_b134 (t0 : Nat)  (Qn : Int32 → gH → Prop) (Qx : String → gH → Prop) (h : gH) (v6 : Option Nat) : Prop := nn v6 (fun a1 => gi h a1 10 0 (fun x2 => Qn x2 h))
set_option maxRecDepth 100000 in
set_option maxHeartbeats 4000000 in
theorem tX11_addState_b134 {p : Program} {l : Launch} {e : Env} {s : State} {m : MethodId} {args : Array Value} {below : List Frame} {meth : Method} {c : Code} {G : gG} {A : Nat → Prop} {Qn : Int32 → gH → Prop} {Qx : String → gH → Prop} (X : gC p l s m args meth c G A cX11_addState 7 (some FieldType.int) RX11) (hT : ∀ x ∈ c.exceptionTable.toList, False)   {h : gH} {v6 : Option Nat} (w : vX11_addState_b134 G.2.2.1  Qn Qx h v6) : V p l e rmX11_addState s m args below meth c (vx_MQ below (va_Qi Qn (gB G A) A) (gXC G A Qx) args s rmX11_addState.cells rmX11_addState.slots A) G A 7 h 3 75 134 [(6, va_rf v6)] [] := by
  refine V_aload X dX11_addState_134 0 rfl ?_
  obtain ⟨a1, rfl, w⟩ := w
  obtain ⟨fs, x2, hh, hv, w⟩ := w
  refine V_get3 X frX11_187 dX11_addState_136 hh hv ?_
  exact V.vx (V_iret X rfl dX11_addState_139 (Nat.le_of_ble_eq_true rfl) (Nat.le_of_ble_eq_true rfl) w)
def vX11_addState (t0 : Nat)  (Qn : Int32 → gH → Prop) (Qx : String → gH → Prop) (h : gH) (v0 : Nat) (v1 : Int32) (v2 : Int32) (v3 : Int32) (v4 : Int32) : Prop := io h v0 14 (vX11_nodeAt t0 (fun r2 h1 => (((v2 : Int32) < 1) → (vX11_addState_b30 t0  Qn Qx h1 )) ∧ ((¬ (v2 : Int32) < 1) → (((400 < (v2 : Int32)) → (vX11_addState_b30 t0  Qn Qx h1 )) ∧ ((¬ 400 < (v2 : Int32)) → ((((v4 : Int32) < 0) → (vX11_addState_b30 t0  Qn Qx h1 )) ∧ ((¬ (v4 : Int32) < 0) → ((((v4 : Int32) ≤ 3) → (nn r2 (fun a3 => io h1 a3 8 (vX5_isComplete t0 (fun x5 h4 => (((x5 : Int32) = 0) → (vX11_addState_b63 t0  Qn Qx h4 )) ∧ ((¬ (x5 : Int32) = 0) → (gr h4 v0 14 0 (fun r6 => nn r6 (fun a7 => gr h4 a7 7 4 (fun r8 => nn r8 (fun a9 => io h4 a9 2 (vJx4a65c_size_8abf5 t0 (fun x11 h10 => (((x11 : Int32) < 10) → (nw h10 (.inr (10, [.int 0, .null, .int 0, .int 0, .int 0])) (fun q12 h13 => gr h13 v0 14 0 (fun r14 => nn r14 (fun a15 => gr h13 a15 7 4 (fun r16 => nn r16 (fun a17 => io h13 a17 2 (vJx4a65c_size_8abf5 t0 (fun x19 h18 => vX7_init t0 (fun h20 => gr h20 v0 14 0 (fun r21 => nn r21 (fun a22 => gr h20 a22 7 4 (fun r23 => nn r23 (fun a24 => io h20 a24 2 (vJx4a65c_add_9ea2d t0 (fun x26 h25 => gr h25 v0 14 0 (fun r27 => nn r27 (fun a28 => gr h25 a28 7 4 (fun r29 => nn r29 (fun a30 => io h25 a30 2 (vJx4a65c_size_8abf5 t0 (fun x32 h31 => ((¬ (x32 : Int32) = 1) → (vX11_addState_b134 t0  Qn Qx h31 (some q12))) ∧ (((x32 : Int32) = 1) → (gr h31 v0 14 2 (fun r33 => nn r33 (fun a34 => io h31 a34 6 (vX3_beginIn t0 (fun h35 => vX11_addState_b134 t0  Qn Qx h35 (some q12)) h31 a34 (some q12))))))) h25 a30 )))))) h20 a24 (some q12))))))) h18 q12 x19 (some a3) v2 v3 v4) h13 a17 )))))))) ∧ ((¬ (x11 : Int32) < 10) → (vX11_addState_b63 t0  Qn Qx h10 ))) h4 a9 )))))))) h1 a3 )))) ∧ ((¬ (v4 : Int32) ≤ 3) → (vX11_addState_b30 t0  Qn Qx h1 ))))))))) Qx h v0 v1)
set_option maxRecDepth 100000 in
set_option maxHeartbeats 4000000 in
theorem tX11_addState {p : Program} {l : Launch} {e : Env} {s : State} {m : MethodId} {args : Array Value} {below : List Frame} {meth : Method} {c : Code} {G : gG} {A : Nat → Prop} {Qn : Int32 → gH → Prop} {Qx : String → gH → Prop} (X : gC p l s m args meth c G A cX11_addState 7 (some FieldType.int) RX11) (hT : ∀ x ∈ c.exceptionTable.toList, False)   {h : gH} {v0 : Nat} {v1 : Int32} {v2 : Int32} {v3 : Int32} {v4 : Int32} (w : vX11_addState G.2.2.1  Qn Qx h v0 v1 v2 v3 v4) : V p l e rmX11_addState s m args below meth c (vx_MQ below (va_Qi Qn (gB G A) A) (gXC G A Qx) args s rmX11_addState.cells rmX11_addState.slots A) G A 7 h 0 0 0 [(0, .ref v0), (1, .int v1), (2, .int v2), (3, .int v3), (4, .int v4)] [] := by
  refine V_aloadr_n X dX11_addState_0 0 rfl ?_
  refine V_iload_n X dX11_addState_1 1 rfl ?_
  obtain ⟨fs, hh, w⟩ := w
  refine V_callXq (As := [.int v1]) (rest := []) (k1 := 1) (n1 := 6) X (cX11_nodeAt_ok X.2.2.2.2.2.2.2.2.1 w) lkX11_139 hh (q9 := (RX11, TX11, 7)) rfl rfl dX11_addState_2 hT ⟨Nat.le_of_ble_eq_true rfl, Nat.le_of_ble_eq_true rfl⟩ rfl (Nat.le_of_ble_eq_true rfl) ⟨Nat.le_of_ble_eq_true rfl, Nat.le_of_ble_eq_true rfl⟩ (Nat.le_of_ble_eq_true rfl) (Nat.le_of_ble_eq_true rfl) (Nat.le_of_ble_eq_true rfl) (Nat.le_of_ble_eq_true rfl) (fun r2 h1 w9 => ?_)
  replace w := w9
  clear w9
  refine V_astoreq X dX11_addState_5 (by decide) rfl ?_
  refine V_iload_n X dX11_addState_7 3 rfl ?_
  refine V_iconst (y := 1) X dX11_addState_8 (by decide) ?_
  obtain ⟨w1, w2⟩ := w
  refine V_icmp_lt (tgt := 30) X dX11_addState_9 (by decide) (fun z => ?_) (fun z => ?_)
  · replace w := w1 z
    clear w1 w2
    exact V.sub [] rfl (tX11_addState_b30 X hT  w)
  · replace w := w2 z
    clear w1 w2
    refine V_iload_n X dX11_addState_12 3 rfl ?_
    refine V_sipush (y := 400) X dX11_addState_13 (by decide) ?_
    obtain ⟨w1, w2⟩ := w
    refine V_icmp_gt (tgt := 30) X dX11_addState_16 (by decide) (fun z => ?_) (fun z => ?_)
    · replace w := w1 z
      clear w1 w2
      exact V.sub [] rfl (tX11_addState_b30 X hT  w)
    · replace w := w2 z
      clear w1 w2
      refine V_iload X dX11_addState_19 5 rfl ?_
      obtain ⟨w1, w2⟩ := w
      refine V_if_lt (tgt := 30) X dX11_addState_21 (by decide) (fun z => ?_) (fun z => ?_)
      · replace w := w1 z
        clear w1 w2
        exact V.sub [] rfl (tX11_addState_b30 X hT  w)
      · replace w := w2 z
        clear w1 w2
        refine V_iload X dX11_addState_24 5 rfl ?_
        refine V_iconst (y := 3) X dX11_addState_26 (by decide) ?_
        obtain ⟨w1, w2⟩ := w
        refine V_icmp_le (tgt := 40) X dX11_addState_27 (by decide) (fun z => ?_) (fun z => ?_)
        · replace w := w1 z
          clear w1 w2
          refine V_aload X dX11_addState_40 0 rfl ?_
          obtain ⟨a3, rfl, w⟩ := w
          obtain ⟨fs, hh, w⟩ := w
          refine V_callVi (As := []) (rest := []) (k1 := 1) (n1 := 6) X (cX5_isComplete_ok X.2.2.2.2.2.2.2.2.1 w) lkX11_158 hh (q9 := (RX5, TX5, 5)) rfl rfl dX11_addState_42 ⟨Nat.le_of_ble_eq_true rfl, Nat.le_of_ble_eq_true rfl⟩ rfl (Nat.le_of_ble_eq_true rfl) ⟨Nat.le_of_ble_eq_true rfl, Nat.le_of_ble_eq_true rfl⟩ (Nat.le_of_ble_eq_true rfl) (Nat.le_of_ble_eq_true rfl) (fun x5 h4 w9 => ?_)
          replace w := w9
          clear w9
          obtain ⟨w1, w2⟩ := w
          refine V_if_eq (tgt := 63) X dX11_addState_45 (by decide) (fun z => ?_) (fun z => ?_)
          · replace w := w1 z
            clear w1 w2
            exact V.sub [] rfl (tX11_addState_b63 X hT  w)
          · replace w := w2 z
            clear w1 w2
            refine V_aloadr_n X dX11_addState_48 1 rfl ?_
            obtain ⟨fs, r6, hh, hv, w⟩ := w
            refine V_get X flX11_12 dX11_addState_49 hh hv ?_
            obtain ⟨a7, rfl, w⟩ := w
            obtain ⟨fs, r8, hh, hv, w⟩ := w
            refine V_get3 X frX11_173 dX11_addState_52 hh hv ?_
            obtain ⟨a9, rfl, w⟩ := w
            obtain ⟨fs, hh, w⟩ := w
            refine V_callVi (As := []) (rest := []) (k1 := 1) (n1 := 6) X (cJx4a65c_size_8abf5_ok X.2.2.2.2.2.2.2.2.1 w) lkX11_90 hh (q9 := (RJx4a65c, TJx4a65c, 3)) rfl rfl dX11_addState_55 ⟨Nat.le_of_ble_eq_true rfl, Nat.le_of_ble_eq_true rfl⟩ rfl (Nat.le_of_ble_eq_true rfl) ⟨Nat.le_of_ble_eq_true rfl, Nat.le_of_ble_eq_true rfl⟩ (Nat.le_of_ble_eq_true rfl) (Nat.le_of_ble_eq_true rfl) (fun x11 h10 w9 => ?_)
            replace w := w9
            clear w9
            refine V_bipush (y := 10) X dX11_addState_58 (by decide) ?_
            obtain ⟨w1, w2⟩ := w
            refine V_icmp_lt (tgt := 73) X dX11_addState_60 (by decide) (fun z => ?_) (fun z => ?_)
            · replace w := w1 z
              clear w1 w2
              refine V_new (k1 := 2) (n1 := 11) X nwX11_178 dX11_addState_73 ⟨(Nat.le_of_ble_eq_true rfl), (Nat.le_of_ble_eq_true rfl)⟩ (Nat.le_of_ble_eq_true rfl) (Nat.le_of_ble_eq_true rfl) (fun q12 hq => ?_)
              replace w := w q12 hq
              generalize va_up _ _ _ = h13 at w ⊢
              refine V_dup X dX11_addState_76 rfl ?_
              refine V_aloadr_n X dX11_addState_77 1 rfl ?_
              obtain ⟨fs, r14, hh, hv, w⟩ := w
              refine V_get X flX11_12 dX11_addState_78 hh hv ?_
              obtain ⟨a15, rfl, w⟩ := w
              obtain ⟨fs, r16, hh, hv, w⟩ := w
              refine V_get3 X frX11_173 dX11_addState_81 hh hv ?_
              obtain ⟨a17, rfl, w⟩ := w
              obtain ⟨fs, hh, w⟩ := w
              refine V_callVi (As := []) (rest := [.ref q12, .ref q12]) (k1 := 2) (n1 := 11) X (cJx4a65c_size_8abf5_ok X.2.2.2.2.2.2.2.2.1 w) lkX11_90 hh (q9 := (RJx4a65c, TJx4a65c, 3)) rfl rfl dX11_addState_84 ⟨Nat.le_of_ble_eq_true rfl, Nat.le_of_ble_eq_true rfl⟩ rfl (Nat.le_of_ble_eq_true rfl) ⟨Nat.le_of_ble_eq_true rfl, Nat.le_of_ble_eq_true rfl⟩ (Nat.le_of_ble_eq_true rfl) (Nat.le_of_ble_eq_true rfl) (fun x19 h18 w9 => ?_)
              replace w := w9
              clear w9
              refine V_aloadr X dX11_addState_87 0 rfl ?_
              refine V_iload_n X dX11_addState_89 3 rfl ?_
              refine V_iload_n X dX11_addState_90 4 rfl ?_
              refine V_iload X dX11_addState_91 5 rfl ?_
              refine V_callI (As := [.int x19, .ref a3, .int v2, .int v3, .int v4]) (rest := [.ref q12]) (k1 := 2) (n1 := 11) X (cX7_init_ok X.2.2.2.2.2.2.2.2.1 w) lkX11_180 dX11_addState_93 ⟨Nat.le_of_ble_eq_true rfl, Nat.le_of_ble_eq_true rfl⟩ rfl (Nat.le_of_ble_eq_true rfl) ⟨Nat.le_of_ble_eq_true rfl, Nat.le_of_ble_eq_true rfl⟩ (Nat.le_of_ble_eq_true rfl) (Nat.le_of_ble_eq_true rfl) (fun h20 w9 => ?_)
              replace w := w9
              clear w9
              refine V_astore X dX11_addState_96 (by decide) rfl ?_
              refine V_aloadr_n X dX11_addState_98 2 rfl ?_
              obtain ⟨fs, r21, hh, hv, w⟩ := w
              refine V_get X flX11_12 dX11_addState_99 hh hv ?_
              obtain ⟨a22, rfl, w⟩ := w
              obtain ⟨fs, r23, hh, hv, w⟩ := w
              refine V_get3 X frX11_173 dX11_addState_102 hh hv ?_
              refine V_aloadr X dX11_addState_105 0 rfl ?_
              obtain ⟨a24, rfl, w⟩ := w
              obtain ⟨fs, hh, w⟩ := w
              refine V_callVi (As := [.ref q12]) (rest := []) (k1 := 3) (n1 := 75) X (cJx4a65c_add_9ea2d_ok X.2.2.2.2.2.2.2.2.1 w) lkX11_102 hh (q9 := (RJx4a65c, TJx4a65c, 3)) rfl rfl dX11_addState_107 ⟨Nat.le_of_ble_eq_true rfl, Nat.le_of_ble_eq_true rfl⟩ rfl (Nat.le_of_ble_eq_true rfl) ⟨Nat.le_of_ble_eq_true rfl, Nat.le_of_ble_eq_true rfl⟩ (Nat.le_of_ble_eq_true rfl) (Nat.le_of_ble_eq_true rfl) (fun x26 h25 w9 => ?_)
              replace w := w9
              clear w9
              refine V_pop X dX11_addState_110 rfl ?_
              refine V_aloadr_n X dX11_addState_111 2 rfl ?_
              obtain ⟨fs, r27, hh, hv, w⟩ := w
              refine V_get X flX11_12 dX11_addState_112 hh hv ?_
              obtain ⟨a28, rfl, w⟩ := w
              obtain ⟨fs, r29, hh, hv, w⟩ := w
              refine V_get3 X frX11_173 dX11_addState_115 hh hv ?_
              obtain ⟨a30, rfl, w⟩ := w
              obtain ⟨fs, hh, w⟩ := w
              refine V_callVi (As := []) (rest := []) (k1 := 3) (n1 := 75) X (cJx4a65c_size_8abf5_ok X.2.2.2.2.2.2.2.2.1 w) lkX11_90 hh (q9 := (RJx4a65c, TJx4a65c, 3)) rfl rfl dX11_addState_118 ⟨Nat.le_of_ble_eq_true rfl, Nat.le_of_ble_eq_true rfl⟩ rfl (Nat.le_of_ble_eq_true rfl) ⟨Nat.le_of_ble_eq_true rfl, Nat.le_of_ble_eq_true rfl⟩ (Nat.le_of_ble_eq_true rfl) (Nat.le_of_ble_eq_true rfl) (fun x32 h31 w9 => ?_)
              replace w := w9
              clear w9
              refine V_iconst (y := 1) X dX11_addState_121 (by decide) ?_
              obtain ⟨w1, w2⟩ := w
              refine V_icmp_ne (tgt := 134) X dX11_addState_122 (by decide) (fun z => ?_) (fun z => ?_)
              · replace w := w1 z
                clear w1 w2
                exact V.sub [0] rfl (tX11_addState_b134 X hT  w)
              · replace w := w2 z
                clear w1 w2
                refine V_aloadr_n X dX11_addState_125 2 rfl ?_
                obtain ⟨fs, r33, hh, hv, w⟩ := w
                refine V_get X flX11_28 dX11_addState_126 hh hv ?_
                refine V_aloadr X dX11_addState_129 0 rfl ?_
                obtain ⟨a34, rfl, w⟩ := w
                obtain ⟨fs, hh, w⟩ := w
                refine V_callVv (As := [.ref q12]) (rest := []) (k1 := 3) (n1 := 75) X (cX3_beginIn_ok X.2.2.2.2.2.2.2.2.1 w) lkX11_183 hh (q9 := (RX3, TX3, 13)) rfl rfl dX11_addState_131 ⟨Nat.le_of_ble_eq_true rfl, Nat.le_of_ble_eq_true rfl⟩ rfl (Nat.le_of_ble_eq_true rfl) ⟨Nat.le_of_ble_eq_true rfl, Nat.le_of_ble_eq_true rfl⟩ (Nat.le_of_ble_eq_true rfl) (Nat.le_of_ble_eq_true rfl) (fun h35 w9 => ?_)
                replace w := w9
                clear w9
                exact V.sub [0] rfl (tX11_addState_b134 X hT  w)
            · replace w := w2 z
              clear w1 w2
              exact V.sub [] rfl (tX11_addState_b63 X hT  w)
        · replace w := w2 z
          clear w1 w2
          exact V.sub [] rfl (tX11_addState_b30 X hT  w)
theorem cX11_addState_ok {l : Launch} {G : gG} {h : gH} (hls : l.stackTraces = false) {Qn : Int32 → gH → Prop} {Qx : String → gH → Prop} {v0 : Nat} {v1 : Int32} {v2 : Int32} {v3 : Int32} {v4 : Int32} (w : vX11_addState G.2.2.1 Qn Qx h v0 v1 v2 v3 v4) : gXi l yX11_addState cX11_addState 7 (some FieldType.int) rmX11_addState rmX11_addState.cells rmX11_addState.slots G h [.ref v0, .int v1, .int v2, .int v3, .int v4] Qn Qx := by
  exact gXi.of (by decide +kernel) hls (Nat.le_of_ble_eq_true rfl) rfl rfl (fun p e s m below meth c A X hT => tX11_addState X hT w)
