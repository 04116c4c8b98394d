/-! AnimationController.stateAt(I)LAnimationController$State; -/
abbrev rmX11_stateAt : Room := { frames := 6, cells := 1, slots := 6, locals := 90 }
def vX11_stateAt_b18 (t0 : Nat)  (Qn : Option Nat → gH → Prop) (Qx : String → gH → Prop) (h : gH)  : Prop := Qx "java/lang/IndexOutOfBoundsException" h
set_option maxRecDepth 100000 in
set_option maxHeartbeats 4000000 in
theorem tX11_stateAt_b18 {p : Program} {l : Launch} {e : Env} {s : State} {m : MethodId} {args : Array Value} {below : List Frame} {meth : Method} {c : Code} {G : gG} {A : Nat → Prop} {Qn : Option Nat → gH → Prop} {Qx : String → gH → Prop} (X : gC p l s m args meth c G A cX11_stateAt 2 (some (FieldType.object "AnimationController$State")) RX11) (hT : ∀ x ∈ c.exceptionTable.toList, False)   {h : gH}  (w : vX11_stateAt_b18 G.2.2.1  Qn Qx h ) : V p l e rmX11_stateAt s m args below meth c (vx_MQ below (va_Qq Qn (gB G A) A) (gXC G A Qx) args s rmX11_stateAt.cells rmX11_stateAt.slots A) G A 2 h 0 0 18 [] [] := by
  exact V_throwW X thX11_436_378 dX11_stateAt_18 dX11_stateAt_21 dX11_stateAt_22 dX11_stateAt_25 dX11_stateAt_28 hT ⟨(Nat.le_of_ble_eq_true rfl), (Nat.le_of_ble_eq_true rfl), (Nat.le_of_ble_eq_true rfl), (Nat.le_of_ble_eq_true rfl)⟩ (Nat.le_of_ble_eq_true rfl) (Nat.le_of_ble_eq_true rfl) w
def vX11_stateAt (t0 : Nat)  (Qn : Option Nat → gH → Prop) (Qx : String → gH → Prop) (h : gH) (v0 : Nat) (v1 : Int32) : Prop := (((v1 : Int32) < 0) → (vX11_stateAt_b18 t0  Qn Qx h )) ∧ ((¬ (v1 : Int32) < 0) → (gr h v0 14 0 (fun r1 => nn r1 (fun a2 => gr h a2 7 4 (fun r3 => nn r3 (fun a4 => io h a4 2 (vJx4a65c_size_8abf5 t0 (fun x6 h5 => (((v1 : Int32) < x6) → (gr h5 v0 14 0 (fun r7 => nn r7 (fun a8 => gr h5 a8 7 4 (fun r9 => nn r9 (fun a10 => io h5 a10 2 (vJx4a65c_get_915e3 t0 (fun r12 h11 => nn r12 (fun a13 => io h11 a13 10 (Qn (some a13) h11))) h5 a10 v1))))))) ∧ ((¬ (v1 : Int32) < x6) → (vX11_stateAt_b18 t0  Qn Qx h5 ))) h a4 )))))))
set_option maxRecDepth 100000 in
set_option maxHeartbeats 4000000 in
theorem tX11_stateAt {p : Program} {l : Launch} {e : Env} {s : State} {m : MethodId} {args : Array Value} {below : List Frame} {meth : Method} {c : Code} {G : gG} {A : Nat → Prop} {Qn : Option Nat → gH → Prop} {Qx : String → gH → Prop} (X : gC p l s m args meth c G A cX11_stateAt 2 (some (FieldType.object "AnimationController$State")) RX11) (hT : ∀ x ∈ c.exceptionTable.toList, False)   {h : gH} {v0 : Nat} {v1 : Int32} (w : vX11_stateAt G.2.2.1  Qn Qx h v0 v1) : V p l e rmX11_stateAt s m args below meth c (vx_MQ below (va_Qq Qn (gB G A) A) (gXC G A Qx) args s rmX11_stateAt.cells rmX11_stateAt.slots A) G A 2 h 0 0 0 [(0, .ref v0), (1, .int v1)] [] := by
  refine V_iload_n X dX11_stateAt_0 1 rfl ?_
  obtain ⟨w1, w2⟩ := w
  refine V_if_lt (tgt := 18) X dX11_stateAt_1 (by decide) (fun z => ?_) (fun z => ?_)
  · replace w := w1 z
    clear w1 w2
    exact V.sub [] rfl (tX11_stateAt_b18 X hT  w)
  · replace w := w2 z
    clear w1 w2
    refine V_iload_n X dX11_stateAt_4 1 rfl ?_
    refine V_aloadr_n X dX11_stateAt_5 0 rfl ?_
    obtain ⟨fs, r1, hh, hv, w⟩ := w
    refine V_get X flX11_12 dX11_stateAt_6 hh hv ?_
    obtain ⟨a2, rfl, w⟩ := w
    obtain ⟨fs, r3, hh, hv, w⟩ := w
    refine V_get3 X frX11_173 dX11_stateAt_9 hh hv ?_
    obtain ⟨a4, rfl, w⟩ := w
    obtain ⟨fs, hh, w⟩ := w
    refine V_callVi (As := []) (rest := [.int v1]) (k1 := 0) (n1 := 0) X (cJx4a65c_size_8abf5_ok X.2.2.2.2.2.2.2.2.1 w) lkX11_90 hh (q9 := (RJx4a65c, TJx4a65c, 3)) rfl rfl dX11_stateAt_12 ⟨Nat.le_of_ble_eq_true rfl, Nat.le_of_ble_eq_true rfl⟩ rfl (Nat.le_of_ble_eq_true rfl) ⟨Nat.le_of_ble_eq_true rfl, Nat.le_of_ble_eq_true rfl⟩ (Nat.le_of_ble_eq_true rfl) (Nat.le_of_ble_eq_true rfl) (fun x6 h5 w9 => ?_)
    replace w := w9
    clear w9
    obtain ⟨w1, w2⟩ := w
    refine V_icmp_lt (tgt := 29) X dX11_stateAt_15 (by decide) (fun z => ?_) (fun z => ?_)
    · replace w := w1 z
      clear w1 w2
      refine V_aloadr_n X dX11_stateAt_29 0 rfl ?_
      obtain ⟨fs, r7, hh, hv, w⟩ := w
      refine V_get X flX11_12 dX11_stateAt_30 hh hv ?_
      obtain ⟨a8, rfl, w⟩ := w
      obtain ⟨fs, r9, hh, hv, w⟩ := w
      refine V_get3 X frX11_173 dX11_stateAt_33 hh hv ?_
      refine V_iload_n X dX11_stateAt_36 1 rfl ?_
      obtain ⟨a10, rfl, w⟩ := w
      obtain ⟨fs, hh, w⟩ := w
      refine V_callVq (As := [.int v1]) (rest := []) (k1 := 0) (n1 := 0) X (cJx4a65c_get_915e3_ok X.2.2.2.2.2.2.2.2.1 w) lkX11_302 hh (q9 := (RJx4a65c, TJx4a65c, 3)) rfl rfl dX11_stateAt_37 ⟨Nat.le_of_ble_eq_true rfl, Nat.le_of_ble_eq_true rfl⟩ rfl (Nat.le_of_ble_eq_true rfl) ⟨Nat.le_of_ble_eq_true rfl, Nat.le_of_ble_eq_true rfl⟩ (Nat.le_of_ble_eq_true rfl) (Nat.le_of_ble_eq_true rfl) (fun r12 h11 w9 => ?_)
      replace w := w9
      clear w9
      obtain ⟨a13, rfl, w⟩ := w
      obtain ⟨fs, hh, w⟩ := w
      refine V_cast (q9 := (RX7, TX7, 5)) X kw_584 rfl rfl hh dX11_stateAt_40 ?_
      exact V.vx (V_aret (x := (some a13)) X rfl (Or.inl ⟨_, rfl⟩) dX11_stateAt_43 (Nat.le_of_ble_eq_true rfl) (Nat.le_of_ble_eq_true rfl) w)
    · replace w := w2 z
      clear w1 w2
      exact V.sub [] rfl (tX11_stateAt_b18 X hT  w)
theorem cX11_stateAt_ok {l : Launch} {G : gG} {h : gH} (hls : l.stackTraces = false) {Qn : Option Nat → gH → Prop} {Qx : String → gH → Prop} {v0 : Nat} {v1 : Int32} (w : vX11_stateAt G.2.2.1 Qn Qx h v0 v1) : gXq l yX11_stateAt cX11_stateAt 2 (some (FieldType.object "AnimationController$State")) rmX11_stateAt rmX11_stateAt.cells rmX11_stateAt.slots G h [.ref v0, .int v1] Qn Qx := by
  exact gXq.of (by decide +kernel) hls (Nat.le_of_ble_eq_true rfl) rfl rfl (fun p e s m below meth c A X hT => tX11_stateAt X hT w)
/-! AnimationController.addTransition(III)I -/
abbrev rmX11_addTransition : Room := { frames := 7, cells := 7, slots := 97, locals := 191 }
def vX11_addTransition_b33 (t0 : Nat)  (Qn : Int32 → gH → Prop) (Qx : String → gH → Prop) (h : gH)  : Prop := Qx "java/lang/IllegalArgumentException" h
set_option maxRecDepth 100000 in
set_option maxHeartbeats 4000000 in
theorem tX11_addTransition_b33 {p : Program} {l : Launch} {e : Env} {s : State} {m : MethodId} {args : Array Value} {below : List Frame} {meth : Method} {c : Code} {G : gG} {A : Nat → Prop} {Qn : Int32 → gH → Prop} {Qx : String → gH → Prop} (X : gC p l s m args meth c G A cX11_addTransition 7 (some FieldType.int) RX11) (hT : ∀ x ∈ c.exceptionTable.toList, False)   {h : gH}  (w : vX11_addTransition_b33 G.2.2.1  Qn Qx h ) : V p l e rmX11_addTransition s m args below meth c (vx_MQ below (va_Qi Qn (gB G A) A) (gXC G A Qx) args s rmX11_addTransition.cells rmX11_addTransition.slots A) G A 7 h 2 12 33 [] [] := by
  exact V_throw X thX11_194_47 dX11_addTransition_33 dX11_addTransition_36 dX11_addTransition_37 dX11_addTransition_39 dX11_addTransition_42 hT ⟨(Nat.le_of_ble_eq_true rfl), (Nat.le_of_ble_eq_true rfl), (Nat.le_of_ble_eq_true rfl), (Nat.le_of_ble_eq_true rfl)⟩ (Nat.le_of_ble_eq_true rfl) (Nat.le_of_ble_eq_true rfl) w
def vX11_addTransition_b14 (t0 : Nat)  (Qn : Int32 → gH → Prop) (Qx : String → gH → Prop) (h : gH) (v0 : Nat) (v2 : Int32) (v3 : Int32) (s0 : Option Nat) : Prop := io h v0 14 (vX11_stateAt t0 (fun r2 h1 => (((v3 : Int32) < 0) → (vX11_addTransition_b33 t0  Qn Qx h1 )) ∧ ((¬ (v3 : Int32) < 0) → ((((v3 : Int32) ≤ 60) → (gr h1 v0 14 0 (fun r3 => nn r3 (fun a4 => gr h1 a4 7 5 (fun r5 => nn r5 (fun a6 => io h1 a6 2 (vJx4a65c_size_8abf5 t0 (fun x8 h7 => (((x8 : Int32) < 24) → (nw h7 (.inr (12, [.int 0, .null, .null, .int 0, .int 0, .int 0, .int 0, .int 0, .null, .null, .null, .int 0])) (fun q9 h10 => gr h10 v0 14 0 (fun r11 => nn r11 (fun a12 => gr h10 a12 7 5 (fun r13 => nn r13 (fun a14 => io h10 a14 2 (vJx4a65c_size_8abf5 t0 (fun x16 h15 => vX9_init t0 (fun h17 => io h17 q9 12 (vX9_begin t0 (fun h18 => gr h18 v0 14 0 (fun r19 => nn r19 (fun a20 => gr h18 a20 7 5 (fun r21 => nn r21 (fun a22 => io h18 a22 2 (vJx4a65c_add_9ea2d t0 (fun x24 h23 => gi h23 q9 12 0 (fun x25 => Qn x25 h23)) h18 a22 (some q9))))))) h17 q9 s0 r2 v3)) h15 q9 x16 r2) h10 a14 )))))))) ∧ ((¬ (x8 : Int32) < 24) → (Qx "java/lang/IllegalStateException" h7))) h1 a6 ))))))) ∧ ((¬ (v3 : Int32) ≤ 60) → (vX11_addTransition_b33 t0  Qn Qx h1 ))))) Qx h v0 v2)
set_option maxRecDepth 100000 in
set_option maxHeartbeats 4000000 in
theorem tX11_addTransition_b14 {p : Program} {l : Launch} {e : Env} {s : State} {m : MethodId} {args : Array Value} {below : List Frame} {meth : Method} {c : Code} {G : gG} {A : Nat → Prop} {Qn : Int32 → gH → Prop} {Qx : String → gH → Prop} (X : gC p l s m args meth c G A cX11_addTransition 7 (some FieldType.int) RX11) (hT : ∀ x ∈ c.exceptionTable.toList, False)   {h : gH} {v0 : Nat} {v2 : Int32} {v3 : Int32} {s0 : Option Nat} (w : vX11_addTransition_b14 G.2.2.1  Qn Qx h v0 v2 v3 s0) : V p l e rmX11_addTransition s m args below meth c (vx_MQ below (va_Qi Qn (gB G A) A) (gXC G A Qx) args s rmX11_addTransition.cells rmX11_addTransition.slots A) G A 7 h 1 6 14 [(0, .ref v0), (2, .int v2), (3, .int v3)] [va_rf s0] := by
  refine V_astoreq X dX11_addTransition_14 (by decide) rfl ?_
  refine V_aloadr_n X dX11_addTransition_16 1 rfl ?_
  refine V_iload_n X dX11_addTransition_17 2 rfl ?_
  obtain ⟨fs, hh, w⟩ := w
  refine V_callXq (As := [.int v2]) (rest := []) (k1 := 2) (n1 := 12) X (cX11_stateAt_ok X.2.2.2.2.2.2.2.2.1 w) lkX11_190 hh (q9 := (RX11, TX11, 7)) rfl rfl dX11_addTransition_18 hT ⟨Nat.le_of_ble_eq_true rfl, Nat.le_of_ble_eq_true rfl⟩ rfl (Nat.le_of_ble_eq_true rfl) ⟨Nat.le_of_ble_eq_true rfl, Nat.le_of_ble_eq_true rfl⟩ (Nat.le_of_ble_eq_true rfl) (Nat.le_of_ble_eq_true rfl) (Nat.le_of_ble_eq_true rfl) (Nat.le_of_ble_eq_true rfl) (fun r2 h1 w9 => ?_)
  replace w := w9
  clear w9
  refine V_astoreq X dX11_addTransition_21 (by decide) (by simp [va_cat1] <;> rfl) ?_
  refine V_iload_n X dX11_addTransition_23 4 rfl ?_
  obtain ⟨w1, w2⟩ := w
  refine V_if_lt (tgt := 33) X dX11_addTransition_24 (by decide) (fun z => ?_) (fun z => ?_)
  · replace w := w1 z
    clear w1 w2
    exact V.sub [] rfl (tX11_addTransition_b33 X hT  w)
  · replace w := w2 z
    clear w1 w2
    refine V_iload_n X dX11_addTransition_27 4 rfl ?_
    refine V_bipush (y := 60) X dX11_addTransition_28 (by decide) ?_
    obtain ⟨w1, w2⟩ := w
    refine V_icmp_le (tgt := 43) X dX11_addTransition_30 (by decide) (fun z => ?_) (fun z => ?_)
    · replace w := w1 z
      clear w1 w2
      refine V_aloadr_n X dX11_addTransition_43 2 rfl ?_
      obtain ⟨fs, r3, hh, hv, w⟩ := w
      refine V_get X flX11_12 dX11_addTransition_44 hh hv ?_
      obtain ⟨a4, rfl, w⟩ := w
      obtain ⟨fs, r5, hh, hv, w⟩ := w
      refine V_get3 X frX11_196 dX11_addTransition_47 hh hv ?_
      obtain ⟨a6, rfl, w⟩ := w
      obtain ⟨fs, hh, w⟩ := w
      refine V_callVi (As := []) (rest := []) (k1 := 2) (n1 := 12) X (cJx4a65c_size_8abf5_ok X.2.2.2.2.2.2.2.2.1 w) lkX11_90 hh (q9 := (RJx4a65c, TJx4a65c, 3)) rfl rfl dX11_addTransition_50 ⟨Nat.le_of_ble_eq_true rfl, Nat.le_of_ble_eq_true rfl⟩ rfl (Nat.le_of_ble_eq_true rfl) ⟨Nat.le_of_ble_eq_true rfl, Nat.le_of_ble_eq_true rfl⟩ (Nat.le_of_ble_eq_true rfl) (Nat.le_of_ble_eq_true rfl) (fun x8 h7 w9 => ?_)
      replace w := w9
      clear w9
      refine V_bipush (y := 24) X dX11_addTransition_53 (by decide) ?_
      obtain ⟨w1, w2⟩ := w
      refine V_icmp_lt (tgt := 68) X dX11_addTransition_55 (by decide) (fun z => ?_) (fun z => ?_)
      · replace w := w1 z
        clear w1 w2
        refine V_new (k1 := 3) (n1 := 24) X nwX11_201 dX11_addTransition_68 ⟨(Nat.le_of_ble_eq_true rfl), (Nat.le_of_ble_eq_true rfl)⟩ (Nat.le_of_ble_eq_true rfl) (Nat.le_of_ble_eq_true rfl) (fun q9 hq => ?_)
        replace w := w q9 hq
        generalize va_up _ _ _ = h10 at w ⊢
        refine V_dup X dX11_addTransition_71 rfl ?_
        refine V_aloadr_n X dX11_addTransition_72 2 rfl ?_
        obtain ⟨fs, r11, hh, hv, w⟩ := w
        refine V_get X flX11_12 dX11_addTransition_73 hh hv ?_
        obtain ⟨a12, rfl, w⟩ := w
        obtain ⟨fs, r13, hh, hv, w⟩ := w
        refine V_get3 X frX11_196 dX11_addTransition_76 hh hv ?_
        obtain ⟨a14, rfl, w⟩ := w
        obtain ⟨fs, hh, w⟩ := w
        refine V_callVi (As := []) (rest := [.ref q9, .ref q9]) (k1 := 3) (n1 := 24) X (cJx4a65c_size_8abf5_ok X.2.2.2.2.2.2.2.2.1 w) lkX11_90 hh (q9 := (RJx4a65c, TJx4a65c, 3)) rfl rfl dX11_addTransition_79 ⟨Nat.le_of_ble_eq_true rfl, Nat.le_of_ble_eq_true rfl⟩ rfl (Nat.le_of_ble_eq_true rfl) ⟨Nat.le_of_ble_eq_true rfl, Nat.le_of_ble_eq_true rfl⟩ (Nat.le_of_ble_eq_true rfl) (Nat.le_of_ble_eq_true rfl) (fun x16 h15 w9 => ?_)
        replace w := w9
        clear w9
        refine V_aload X dX11_addTransition_82 0 rfl ?_
        refine V_callI (As := [.int x16, va_rf r2]) (rest := [.ref q9]) (k1 := 6) (n1 := 33) X (cX9_init_ok X.2.2.2.2.2.2.2.2.1 w) lkX11_203 dX11_addTransition_84 ⟨Nat.le_of_ble_eq_true rfl, Nat.le_of_ble_eq_true rfl⟩ rfl (Nat.le_of_ble_eq_true rfl) ⟨Nat.le_of_ble_eq_true rfl, Nat.le_of_ble_eq_true rfl⟩ (Nat.le_of_ble_eq_true rfl) (Nat.le_of_ble_eq_true rfl) (fun h17 w9 => ?_)
        replace w := w9
        clear w9
        refine V_astore X dX11_addTransition_87 (by decide) (by simp [va_cat1] <;> rfl) ?_
        refine V_aloadr X dX11_addTransition_89 0 rfl ?_
        refine V_aload X dX11_addTransition_91 2 rfl ?_
        refine V_aload X dX11_addTransition_93 1 rfl ?_
        refine V_iload_n X dX11_addTransition_95 5 rfl ?_
        obtain ⟨fs, hh, w⟩ := w
        refine V_callVv (As := [va_rf s0, va_rf r2, .int v3]) (rest := []) (k1 := 6) (n1 := 33) X (cX9_begin_ok X.2.2.2.2.2.2.2.2.1 w) lkX11_206 hh (q9 := (RX9, TX9, 12)) rfl rfl dX11_addTransition_96 ⟨Nat.le_of_ble_eq_true rfl, Nat.le_of_ble_eq_true rfl⟩ rfl (Nat.le_of_ble_eq_true rfl) ⟨Nat.le_of_ble_eq_true rfl, Nat.le_of_ble_eq_true rfl⟩ (Nat.le_of_ble_eq_true rfl) (Nat.le_of_ble_eq_true rfl) (fun h18 w9 => ?_)
        replace w := w9
        clear w9
        refine V_aloadr_n X dX11_addTransition_99 3 rfl ?_
        obtain ⟨fs, r19, hh, hv, w⟩ := w
        refine V_get X flX11_12 dX11_addTransition_100 hh hv ?_
        obtain ⟨a20, rfl, w⟩ := w
        obtain ⟨fs, r21, hh, hv, w⟩ := w
        refine V_get3 X frX11_196 dX11_addTransition_103 hh hv ?_
        refine V_aloadr X dX11_addTransition_106 0 rfl ?_
        obtain ⟨a22, rfl, w⟩ := w
        obtain ⟨fs, hh, w⟩ := w
        refine V_callVi (As := [.ref q9]) (rest := []) (k1 := 7) (n1 := 97) X (cJx4a65c_add_9ea2d_ok X.2.2.2.2.2.2.2.2.1 w) lkX11_102 hh (q9 := (RJx4a65c, TJx4a65c, 3)) rfl rfl dX11_addTransition_108 ⟨Nat.le_of_ble_eq_true rfl, Nat.le_of_ble_eq_true rfl⟩ rfl (Nat.le_of_ble_eq_true rfl) ⟨Nat.le_of_ble_eq_true rfl, Nat.le_of_ble_eq_true rfl⟩ (Nat.le_of_ble_eq_true rfl) (Nat.le_of_ble_eq_true rfl) (fun x24 h23 w9 => ?_)
        replace w := w9
        clear w9
        refine V_pop X dX11_addTransition_111 rfl ?_
        refine V_aloadr X dX11_addTransition_112 0 rfl ?_
        obtain ⟨fs, x25, hh, hv, w⟩ := w
        refine V_get3 X frX11_210 dX11_addTransition_114 hh hv ?_
        exact V.vx (V_iret X rfl dX11_addTransition_117 (Nat.le_of_ble_eq_true rfl) (Nat.le_of_ble_eq_true rfl) w)
      · replace w := w2 z
        clear w1 w2
        exact V_throw X thX11_199_61 dX11_addTransition_58 dX11_addTransition_61 dX11_addTransition_62 dX11_addTransition_64 dX11_addTransition_67 hT ⟨(Nat.le_of_ble_eq_true rfl), (Nat.le_of_ble_eq_true rfl), (Nat.le_of_ble_eq_true rfl), (Nat.le_of_ble_eq_true rfl)⟩ (Nat.le_of_ble_eq_true rfl) (Nat.le_of_ble_eq_true rfl) w
    · replace w := w2 z
      clear w1 w2
      exact V.sub [] rfl (tX11_addTransition_b33 X hT  w)
def vX11_addTransition (t0 : Nat)  (Qn : Int32 → gH → Prop) (Qx : String → gH → Prop) (h : gH) (v0 : Nat) (v1 : Int32) (v2 : Int32) (v3 : Int32) : Prop := ((¬ (v1 : Int32) = (-1)) → (io h v0 14 (vX11_stateAt t0 (fun r2 h1 => vX11_addTransition_b14 t0  Qn Qx h1 v0 v2 v3 r2) Qx h v0 v1))) ∧ (((v1 : Int32) = (-1)) → (vX11_addTransition_b14 t0  Qn Qx h v0 v2 v3 (none : Option Nat)))
set_option maxRecDepth 100000 in
set_option maxHeartbeats 4000000 in
theorem tX11_addTransition {p : Program} {l : Launch} {e : Env} {s : State} {m : MethodId} {args : Array Value} {below : List Frame} {meth : Method} {c : Code} {G : gG} {A : Nat → Prop} {Qn : Int32 → gH → Prop} {Qx : String → gH → Prop} (X : gC p l s m args meth c G A cX11_addTransition 7 (some FieldType.int) RX11) (hT : ∀ x ∈ c.exceptionTable.toList, False)   {h : gH} {v0 : Nat} {v1 : Int32} {v2 : Int32} {v3 : Int32} (w : vX11_addTransition G.2.2.1  Qn Qx h v0 v1 v2 v3) : V p l e rmX11_addTransition s m args below meth c (vx_MQ below (va_Qi Qn (gB G A) A) (gXC G A Qx) args s rmX11_addTransition.cells rmX11_addTransition.slots A) G A 7 h 0 0 0 [(0, .ref v0), (1, .int v1), (2, .int v2), (3, .int v3)] [] := by
  refine V_iload_n X dX11_addTransition_0 1 rfl ?_
  refine V_iconst (y := (-1)) X dX11_addTransition_1 (by decide) ?_
  obtain ⟨w1, w2⟩ := w
  refine V_icmp_ne (tgt := 9) X dX11_addTransition_2 (by decide) (fun z => ?_) (fun z => ?_)
  · replace w := w1 z
    clear w1 w2
    refine V_aloadr_n X dX11_addTransition_9 0 rfl ?_
    refine V_iload_n X dX11_addTransition_10 1 rfl ?_
    obtain ⟨fs, hh, w⟩ := w
    refine V_callXq (As := [.int v1]) (rest := []) (k1 := 1) (n1 := 6) X (cX11_stateAt_ok X.2.2.2.2.2.2.2.2.1 w) lkX11_190 hh (q9 := (RX11, TX11, 7)) rfl rfl dX11_addTransition_11 hT ⟨Nat.le_of_ble_eq_true rfl, Nat.le_of_ble_eq_true rfl⟩ rfl (Nat.le_of_ble_eq_true rfl) ⟨Nat.le_of_ble_eq_true rfl, Nat.le_of_ble_eq_true rfl⟩ (Nat.le_of_ble_eq_true rfl) (Nat.le_of_ble_eq_true rfl) (Nat.le_of_ble_eq_true rfl) (Nat.le_of_ble_eq_true rfl) (fun r2 h1 w9 => ?_)
    replace w := w9
    clear w9
    exact V.sub [0, 2, 3] rfl (tX11_addTransition_b14 X hT  w)
  · replace w := w2 z
    clear w1 w2
    refine V_null X dX11_addTransition_5 ?_
    refine V_goto (tgt := 14) X dX11_addTransition_6 (by decide) ?_
    exact V.widen (k1 := 1) (n1 := 6) (Nat.le_of_ble_eq_true rfl) (Nat.le_of_ble_eq_true rfl) <| V.sub [0, 2, 3] rfl (tX11_addTransition_b14 X hT  w)
theorem cX11_addTransition_ok {l : Launch} {G : gG} {h : gH} (hls : l.stackTraces = false) {Qn : Int32 → gH → Prop} {Qx : String → gH → Prop} {v0 : Nat} {v1 : Int32} {v2 : Int32} {v3 : Int32} (w : vX11_addTransition G.2.2.1 Qn Qx h v0 v1 v2 v3) : gXi l yX11_addTransition cX11_addTransition 7 (some FieldType.int) rmX11_addTransition rmX11_addTransition.cells rmX11_addTransition.slots G h [.ref v0, .int v1, .int v2, .int v3] Qn Qx := by
  exact gXi.of (by decide +kernel) hls (Nat.le_of_ble_eq_true rfl) rfl rfl (fun p e s m below meth c A X hT => tX11_addTransition X hT w)
/-! AnimationController.transitionAt(I)LAnimationController$Transition; -/
abbrev rmX11_transitionAt : Room := { frames := 6, cells := 1, slots := 6, locals := 90 }
def vX11_transitionAt_b18 (t0 : Nat)  (Qn : Option Nat → gH → Prop) (Qx : String → gH → Prop) (h : gH)  : Prop := Qx "java/lang/IndexOutOfBoundsException" h
set_option maxRecDepth 100000 in
set_option maxHeartbeats 4000000 in
theorem tX11_transitionAt_b18 {p : Program} {l : Launch} {e : Env} {s : State} {m : MethodId} {args : Array Value} {below : List Frame} {meth : Method} {c : Code} {G : gG} {A : Nat → Prop} {Qn : Option Nat → gH → Prop} {Qx : String → gH → Prop} (X : gC p l s m args meth c G A cX11_transitionAt 2 (some (FieldType.object "AnimationController$Transition")) RX11) (hT : ∀ x ∈ c.exceptionTable.toList, False)   {h : gH}  (w : vX11_transitionAt_b18 G.2.2.1  Qn Qx h ) : V p l e rmX11_transitionAt s m args below meth c (vx_MQ below (va_Qq Qn (gB G A) A) (gXC G A Qx) args s rmX11_transitionAt.cells rmX11_transitionAt.slots A) G A 2 h 0 0 18 [] [] := by
  exact V_throwW X thX11_438_378 dX11_transitionAt_18 dX11_transitionAt_21 dX11_transitionAt_22 dX11_transitionAt_25 dX11_transitionAt_28 hT ⟨(Nat.le_of_ble_eq_true rfl), (Nat.le_of_ble_eq_true rfl), (Nat.le_of_ble_eq_true rfl), (Nat.le_of_ble_eq_true rfl)⟩ (Nat.le_of_ble_eq_true rfl) (Nat.le_of_ble_eq_true rfl) w
def vX11_transitionAt (t0 : Nat)  (Qn : Option Nat → gH → Prop) (Qx : String → gH → Prop) (h : gH) (v0 : Nat) (v1 : Int32) : Prop := (((v1 : Int32) < 0) → (vX11_transitionAt_b18 t0  Qn Qx h )) ∧ ((¬ (v1 : Int32) < 0) → (gr h v0 14 0 (fun r1 => nn r1 (fun a2 => gr h a2 7 5 (fun r3 => nn r3 (fun a4 => io h a4 2 (vJx4a65c_size_8abf5 t0 (fun x6 h5 => (((v1 : Int32) < x6) → (gr h5 v0 14 0 (fun r7 => nn r7 (fun a8 => gr h5 a8 7 5 (fun r9 => nn r9 (fun a10 => io h5 a10 2 (vJx4a65c_get_915e3 t0 (fun r12 h11 => nn r12 (fun a13 => io h11 a13 12 (Qn (some a13) h11))) h5 a10 v1))))))) ∧ ((¬ (v1 : Int32) < x6) → (vX11_transitionAt_b18 t0  Qn Qx h5 ))) h a4 )))))))
set_option maxRecDepth 100000 in
set_option maxHeartbeats 4000000 in
theorem tX11_transitionAt {p : Program} {l : Launch} {e : Env} {s : State} {m : MethodId} {args : Array Value} {below : List Frame} {meth : Method} {c : Code} {G : gG} {A : Nat → Prop} {Qn : Option Nat → gH → Prop} {Qx : String → gH → Prop} (X : gC p l s m args meth c G A cX11_transitionAt 2 (some (FieldType.object "AnimationController$Transition")) RX11) (hT : ∀ x ∈ c.exceptionTable.toList, False)   {h : gH} {v0 : Nat} {v1 : Int32} (w : vX11_transitionAt G.2.2.1  Qn Qx h v0 v1) : V p l e rmX11_transitionAt s m args below meth c (vx_MQ below (va_Qq Qn (gB G A) A) (gXC G A Qx) args s rmX11_transitionAt.cells rmX11_transitionAt.slots A) G A 2 h 0 0 0 [(0, .ref v0), (1, .int v1)] [] := by
  refine V_iload_n X dX11_transitionAt_0 1 rfl ?_
  obtain ⟨w1, w2⟩ := w
  refine V_if_lt (tgt := 18) X dX11_transitionAt_1 (by decide) (fun z => ?_) (fun z => ?_)
  · replace w := w1 z
    clear w1 w2
    exact V.sub [] rfl (tX11_transitionAt_b18 X hT  w)
  · replace w := w2 z
    clear w1 w2
    refine V_iload_n X dX11_transitionAt_4 1 rfl ?_
    refine V_aloadr_n X dX11_transitionAt_5 0 rfl ?_
    obtain ⟨fs, r1, hh, hv, w⟩ := w
    refine V_get X flX11_12 dX11_transitionAt_6 hh hv ?_
    obtain ⟨a2, rfl, w⟩ := w
    obtain ⟨fs, r3, hh, hv, w⟩ := w
    refine V_get3 X frX11_196 dX11_transitionAt_9 hh hv ?_
    obtain ⟨a4, rfl, w⟩ := w
    obtain ⟨fs, hh, w⟩ := w
    refine V_callVi (As := []) (rest := [.int v1]) (k1 := 0) (n1 := 0) X (cJx4a65c_size_8abf5_ok X.2.2.2.2.2.2.2.2.1 w) lkX11_90 hh (q9 := (RJx4a65c, TJx4a65c, 3)) rfl rfl dX11_transitionAt_12 ⟨Nat.le_of_ble_eq_true rfl, Nat.le_of_ble_eq_true rfl⟩ rfl (Nat.le_of_ble_eq_true rfl) ⟨Nat.le_of_ble_eq_true rfl, Nat.le_of_ble_eq_true rfl⟩ (Nat.le_of_ble_eq_true rfl) (Nat.le_of_ble_eq_true rfl) (fun x6 h5 w9 => ?_)
    replace w := w9
    clear w9
    obtain ⟨w1, w2⟩ := w
    refine V_icmp_lt (tgt := 29) X dX11_transitionAt_15 (by decide) (fun z => ?_) (fun z => ?_)
    · replace w := w1 z
      clear w1 w2
      refine V_aloadr_n X dX11_transitionAt_29 0 rfl ?_
      obtain ⟨fs, r7, hh, hv, w⟩ := w
      refine V_get X flX11_12 dX11_transitionAt_30 hh hv ?_
      obtain ⟨a8, rfl, w⟩ := w
      obtain ⟨fs, r9, hh, hv, w⟩ := w
      refine V_get3 X frX11_196 dX11_transitionAt_33 hh hv ?_
      refine V_iload_n X dX11_transitionAt_36 1 rfl ?_
      obtain ⟨a10, rfl, w⟩ := w
      obtain ⟨fs, hh, w⟩ := w
      refine V_callVq (As := [.int v1]) (rest := []) (k1 := 0) (n1 := 0) X (cJx4a65c_get_915e3_ok X.2.2.2.2.2.2.2.2.1 w) lkX11_302 hh (q9 := (RJx4a65c, TJx4a65c, 3)) rfl rfl dX11_transitionAt_37 ⟨Nat.le_of_ble_eq_true rfl, Nat.le_of_ble_eq_true rfl⟩ rfl (Nat.le_of_ble_eq_true rfl) ⟨Nat.le_of_ble_eq_true rfl, Nat.le_of_ble_eq_true rfl⟩ (Nat.le_of_ble_eq_true rfl) (Nat.le_of_ble_eq_true rfl) (fun r12 h11 w9 => ?_)
      replace w := w9
      clear w9
      obtain ⟨a13, rfl, w⟩ := w
      obtain ⟨fs, hh, w⟩ := w
      refine V_cast (q9 := (RX9, TX9, 12)) X kw_989 rfl rfl hh dX11_transitionAt_40 ?_
      exact V.vx (V_aret (x := (some a13)) X rfl (Or.inl ⟨_, rfl⟩) dX11_transitionAt_43 (Nat.le_of_ble_eq_true rfl) (Nat.le_of_ble_eq_true rfl) w)
    · replace w := w2 z
      clear w1 w2
      exact V.sub [] rfl (tX11_transitionAt_b18 X hT  w)
theorem cX11_transitionAt_ok {l : Launch} {G : gG} {h : gH} (hls : l.stackTraces = false) {Qn : Option Nat → gH → Prop} {Qx : String → gH → Prop} {v0 : Nat} {v1 : Int32} (w : vX11_transitionAt G.2.2.1 Qn Qx h v0 v1) : gXq l yX11_transitionAt cX11_transitionAt 2 (some (FieldType.object "AnimationController$Transition")) rmX11_transitionAt rmX11_transitionAt.cells rmX11_transitionAt.slots G h [.ref v0, .int v1] Qn Qx := by
  exact gXq.of (by decide +kernel) hls (Nat.le_of_ble_eq_true rfl) rfl rfl (fun p e s m below meth c A X hT => tX11_transitionAt X hT w)
/-! AnimationController.setTiming(III)I -/
abbrev rmX11_setTiming : Room := { frames := 7, cells := 2, slots := 12, locals := 111 }
def vX11_setTiming_b29 (t0 : Nat)  (Qn : Int32 → gH → Prop) (Qx : String → gH → Prop) (h : gH)  : Prop := Qx "java/lang/IllegalArgumentException" h
set_option maxRecDepth 100000 in
set_option maxHeartbeats 4000000 in
theorem tX11_setTiming_b29 {p : Program} {l : Launch} {e : Env} {s : State} {m : MethodId} {args : Array Value} {below : List Frame} {meth : Method} {c : Code} {G : gG} {A : Nat → Prop} {Qn : Int32 → gH → Prop} {Qx : String → gH → Prop} (X : gC p l s m args meth c G A cX11_setTiming 6 (some FieldType.int) RX11) (hT : ∀ x ∈ c.exceptionTable.toList, False)   {h : gH}  (w : vX11_setTiming_b29 G.2.2.1  Qn Qx h ) : V p l e rmX11_setTiming s m args below meth c (vx_MQ below (va_Qi Qn (gB G A) A) (gXC G A Qx) args s rmX11_setTiming.cells rmX11_setTiming.slots A) G A 6 h 1 6 29 [] [] := by
  exact V_throw X thX11_215_47 dX11_setTiming_29 dX11_setTiming_32 dX11_setTiming_33 dX11_setTiming_35 dX11_setTiming_38 hT ⟨(Nat.le_of_ble_eq_true rfl), (Nat.le_of_ble_eq_true rfl), (Nat.le_of_ble_eq_true rfl), (Nat.le_of_ble_eq_true rfl)⟩ (Nat.le_of_ble_eq_true rfl) (Nat.le_of_ble_eq_true rfl) w
def vX11_setTiming_b62 (t0 : Nat)  (Qn : Int32 → gH → Prop) (Qx : String → gH → Prop) (h : gH) (v2 : Int32) (v3 : Int32) (v4 : Option Nat) : Prop := nn v4 (fun a1 => gi h a1 12 4 (fun x2 => pv h a1 12 4 (.int v2) (fun h3 => pv h3 a1 12 5 (.int v3) (fun h4 => Qn x2 h4))))
set_option maxRecDepth 100000 in
set_option maxHeartbeats 4000000 in
theorem tX11_setTiming_b62 {p : Program} {l : Launch} {e : Env} {s : State} {m : MethodId} {args : Array Value} {below : List Frame} {meth : Method} {c : Code} {G : gG} {A : Nat → Prop} {Qn : Int32 → gH → Prop} {Qx : String → gH → Prop} (X : gC p l s m args meth c G A cX11_setTiming 6 (some FieldType.int) RX11) (hT : ∀ x ∈ c.exceptionTable.toList, False)   {h : gH} {v2 : Int32} {v3 : Int32} {v4 : Option Nat} (w : vX11_setTiming_b62 G.2.2.1  Qn Qx h v2 v3 v4) : V p l e rmX11_setTiming s m args below meth c (vx_MQ below (va_Qi Qn (gB G A) A) (gXC G A Qx) args s rmX11_setTiming.cells rmX11_setTiming.slots A) G A 6 h 1 6 62 [(2, .int v2), (3, .int v3), (4, va_rf v4)] [] := by
  refine V_aload X dX11_setTiming_62 2 rfl ?_
  obtain ⟨a1, rfl, w⟩ := w
  obtain ⟨fs, x2, hh, hv, w⟩ := w
  refine V_get X flX11_223 dX11_setTiming_64 hh hv ?_
  refine V_istore X dX11_setTiming_67 (by decide) rfl ?_
  refine V_aloadr X dX11_setTiming_69 3 rfl ?_
  refine V_iload_n X dX11_setTiming_71 1 rfl ?_
  obtain ⟨fs, hh, hv, w⟩ := w
  refine V_put X flX11_223 dX11_setTiming_72 hh hv rfl rfl ?_
  generalize va_up _ _ _ = h3 at w ⊢
  refine V_aloadr X dX11_setTiming_75 3 rfl ?_
  refine V_iload_n X dX11_setTiming_77 2 rfl ?_
  obtain ⟨fs, hh, hv, w⟩ := w
  refine V_put X flX11_226 dX11_setTiming_78 hh hv rfl rfl ?_
  generalize va_up _ _ _ = h4 at w ⊢
  refine V_iload X dX11_setTiming_81 0 rfl ?_
  exact V.vx (V_iret X rfl dX11_setTiming_83 (Nat.le_of_ble_eq_true rfl) (Nat.le_of_ble_eq_true rfl) w)
def vX11_setTiming (t0 : Nat)  (Qn : Int32 → gH → Prop) (Qx : String → gH → Prop) (h : gH) (v0 : Nat) (v1 : Int32) (v2 : Int32) (v3 : Int32) : Prop := io h v0 14 (vX11_transitionAt t0 (fun r2 h1 => (((v2 : Int32) < (-1)) → (vX11_setTiming_b29 t0  Qn Qx h1 )) ∧ ((¬ (v2 : Int32) < (-1)) → (((300 < (v2 : Int32)) → (vX11_setTiming_b29 t0  Qn Qx h1 )) ∧ ((¬ 300 < (v2 : Int32)) → ((((v3 : Int32) < 0) → (vX11_setTiming_b29 t0  Qn Qx h1 )) ∧ ((¬ (v3 : Int32) < 0) → ((((v3 : Int32) ≤ 99) → ((((v2 : Int32) = (-1)) → (vX11_setTiming_b62 t0  Qn Qx h1 v2 v3 r2)) ∧ ((¬ (v2 : Int32) = (-1)) → (nn r2 (fun a3 => gr h1 a3 12 1 (fun r4 => ((r4) = none → (Qx "java/lang/IllegalStateException" h1)) ∧ (∀ a5 : Nat, (r4) = some a5 → (vX11_setTiming_b62 t0  Qn Qx h1 v2 v3 (some a3))))))))) ∧ ((¬ (v3 : Int32) ≤ 99) → (vX11_setTiming_b29 t0  Qn Qx h1 ))))))))) Qx h v0 v1)
set_option maxRecDepth 100000 in
set_option maxHeartbeats 4000000 in
theorem tX11_setTiming {p : Program} {l : Launch} {e : Env} {s : State} {m : MethodId} {args : Array Value} {below : List Frame} {meth : Method} {c : Code} {G : gG} {A : Nat → Prop} {Qn : Int32 → gH → Prop} {Qx : String → gH → Prop} (X : gC p l s m args meth c G A cX11_setTiming 6 (some FieldType.int) RX11) (hT : ∀ x ∈ c.exceptionTable.toList, False)   {h : gH} {v0 : Nat} {v1 : Int32} {v2 : Int32} {v3 : Int32} (w : vX11_setTiming G.2.2.1  Qn Qx h v0 v1 v2 v3) : V p l e rmX11_setTiming s m args below meth c (vx_MQ below (va_Qi Qn (gB G A) A) (gXC G A Qx) args s rmX11_setTiming.cells rmX11_setTiming.slots A) G A 6 h 0 0 0 [(0, .ref v0), (1, .int v1), (2, .int v2), (3, .int v3)] [] := by
  refine V_aloadr_n X dX11_setTiming_0 0 rfl ?_
  refine V_iload_n X dX11_setTiming_1 1 rfl ?_
  obtain ⟨fs, hh, w⟩ := w
  refine V_callXq (As := [.int v1]) (rest := []) (k1 := 1) (n1 := 6) X (cX11_transitionAt_ok X.2.2.2.2.2.2.2.2.1 w) lkX11_211 hh (q9 := (RX11, TX11, 7)) rfl rfl dX11_setTiming_2 hT ⟨Nat.le_of_ble_eq_true rfl, Nat.le_of_ble_eq_true rfl⟩ rfl (Nat.le_of_ble_eq_true rfl) ⟨Nat.le_of_ble_eq_true rfl, Nat.le_of_ble_eq_true rfl⟩ (Nat.le_of_ble_eq_true rfl) (Nat.le_of_ble_eq_true rfl) (Nat.le_of_ble_eq_true rfl) (Nat.le_of_ble_eq_true rfl) (fun r2 h1 w9 => ?_)
  replace w := w9
  clear w9
  refine V_astoreq X dX11_setTiming_5 (by decide) rfl ?_
  refine V_iload_n X dX11_setTiming_7 3 rfl ?_
  refine V_iconst (y := (-1)) X dX11_setTiming_8 (by decide) ?_
  obtain ⟨w1, w2⟩ := w
  refine V_icmp_lt (tgt := 29) X dX11_setTiming_9 (by decide) (fun z => ?_) (fun z => ?_)
  · replace w := w1 z
    clear w1 w2
    exact V.sub [] rfl (tX11_setTiming_b29 X hT  w)
  · replace w := w2 z
    clear w1 w2
    refine V_iload_n X dX11_setTiming_12 3 rfl ?_
    refine V_sipush (y := 300) X dX11_setTiming_13 (by decide) ?_
    obtain ⟨w1, w2⟩ := w
    refine V_icmp_gt (tgt := 29) X dX11_setTiming_16 (by decide) (fun z => ?_) (fun z => ?_)
    · replace w := w1 z
      clear w1 w2
      exact V.sub [] rfl (tX11_setTiming_b29 X hT  w)
    · replace w := w2 z
      clear w1 w2
      refine V_iload_n X dX11_setTiming_19 4 rfl ?_
      obtain ⟨w1, w2⟩ := w
      refine V_if_lt (tgt := 29) X dX11_setTiming_20 (by decide) (fun z => ?_) (fun z => ?_)
      · replace w := w1 z
        clear w1 w2
        exact V.sub [] rfl (tX11_setTiming_b29 X hT  w)
      · replace w := w2 z
        clear w1 w2
        refine V_iload_n X dX11_setTiming_23 4 rfl ?_
        refine V_bipush (y := 99) X dX11_setTiming_24 (by decide) ?_
        obtain ⟨w1, w2⟩ := w
        refine V_icmp_le (tgt := 39) X dX11_setTiming_26 (by decide) (fun z => ?_) (fun z => ?_)
        · replace w := w1 z
          clear w1 w2
          refine V_iload_n X dX11_setTiming_39 3 rfl ?_
          refine V_iconst (y := (-1)) X dX11_setTiming_40 (by decide) ?_
          obtain ⟨w1, w2⟩ := w
          refine V_icmp_eq (tgt := 62) X dX11_setTiming_41 (by decide) (fun z => ?_) (fun z => ?_)
          · replace w := w1 z
            clear w1 w2
            exact V.sub [3, 4, 0] rfl (tX11_setTiming_b62 X hT  w)
          · replace w := w2 z
            clear w1 w2
            refine V_aload X dX11_setTiming_44 0 rfl ?_
            obtain ⟨a3, rfl, w⟩ := w
            obtain ⟨fs, r4, hh, hv, w⟩ := w
            refine V_get X flX11_217 dX11_setTiming_46 hh hv ?_
            obtain ⟨w1, w2⟩ := w
            refine V_ifnonnull (tgt := 62) X dX11_setTiming_49 (by decide) (fun a5 z => ?_) (fun z => ?_)
            · replace w := w2 a5 z
              clear w1 w2
              subst z
              exact V.sub [3, 4, 0] rfl (tX11_setTiming_b62 X hT  w)
            · replace w := w1 z
              clear w1 w2
              subst z
              exact V_throw X thX11_221_61 dX11_setTiming_52 dX11_setTiming_55 dX11_setTiming_56 dX11_setTiming_58 dX11_setTiming_61 hT ⟨(Nat.le_of_ble_eq_true rfl), (Nat.le_of_ble_eq_true rfl), (Nat.le_of_ble_eq_true rfl), (Nat.le_of_ble_eq_true rfl)⟩ (Nat.le_of_ble_eq_true rfl) (Nat.le_of_ble_eq_true rfl) w
        · replace w := w2 z
          clear w1 w2
          exact V.sub [] rfl (tX11_setTiming_b29 X hT  w)
theorem cX11_setTiming_ok {l : Launch} {G : gG} {h : gH} (hls : l.stackTraces = false) {Qn : Int32 → gH → Prop} {Qx : String → gH → Prop} {v0 : Nat} {v1 : Int32} {v2 : Int32} {v3 : Int32} (w : vX11_setTiming G.2.2.1 Qn Qx h v0 v1 v2 v3) : gXi l yX11_setTiming cX11_setTiming 6 (some FieldType.int) rmX11_setTiming rmX11_setTiming.cells rmX11_setTiming.slots G h [.ref v0, .int v1, .int v2, .int v3] Qn Qx := by
  exact gXi.of (by decide +kernel) hls (Nat.le_of_ble_eq_true rfl) rfl rfl (fun p e s m below meth c A X hT => tX11_setTiming X hT w)
/-! AnimationController.setInterruption(IIZ)I -/
abbrev rmX11_setInterruption : Room := { frames := 7, cells := 2, slots := 12, locals := 111 }
def vX11_setInterruption_b16 (t0 : Nat)  (Qn : Int32 → gH → Prop) (Qx : String → gH → Prop) (h : gH)  : Prop := Qx "java/lang/IllegalArgumentException" h
set_option maxRecDepth 100000 in
set_option maxHeartbeats 4000000 in
theorem tX11_setInterruption_b16 {p : Program} {l : Launch} {e : Env} {s : State} {m : MethodId} {args : Array Value} {below : List Frame} {meth : Method} {c : Code} {G : gG} {A : Nat → Prop} {Qn : Int32 → gH → Prop} {Qx : String → gH → Prop} (X : gC p l s m args meth c G A cX11_setInterruption 6 (some FieldType.int) RX11) (hT : ∀ x ∈ c.exceptionTable.toList, False)   {h : gH}  (w : vX11_setInterruption_b16 G.2.2.1  Qn Qx h ) : V p l e rmX11_setInterruption s m args below meth c (vx_MQ below (va_Qi Qn (gB G A) A) (gXC G A Qx) args s rmX11_setInterruption.cells rmX11_setInterruption.slots A) G A 6 h 1 6 16 [] [] := by
  exact V_throw X thX11_229_47 dX11_setInterruption_16 dX11_setInterruption_19 dX11_setInterruption_20 dX11_setInterruption_22 dX11_setInterruption_25 hT ⟨(Nat.le_of_ble_eq_true rfl), (Nat.le_of_ble_eq_true rfl), (Nat.le_of_ble_eq_true rfl), (Nat.le_of_ble_eq_true rfl)⟩ (Nat.le_of_ble_eq_true rfl) (Nat.le_of_ble_eq_true rfl) w
def vX11_setInterruption (t0 : Nat)  (Qn : Int32 → gH → Prop) (Qx : String → gH → Prop) (h : gH) (v0 : Nat) (v1 : Int32) (v2 : Int32) (v3 : Int32) : Prop := io h v0 14 (vX11_transitionAt t0 (fun r2 h1 => (((v2 : Int32) < 0) → (vX11_setInterruption_b16 t0  Qn Qx h1 )) ∧ ((¬ (v2 : Int32) < 0) → ((((v2 : Int32) ≤ 4) → (nn r2 (fun a3 => gi h1 a3 12 6 (fun x4 => pv h1 a3 12 6 (.int v2) (fun h5 => gZ v3 ∧ (pv h5 a3 12 7 (.int v3) (fun h6 => Qn x4 h6))))))) ∧ ((¬ (v2 : Int32) ≤ 4) → (vX11_setInterruption_b16 t0  Qn Qx h1 ))))) Qx h v0 v1)
set_option maxRecDepth 100000 in
set_option maxHeartbeats 4000000 in
theorem tX11_setInterruption {p : Program} {l : Launch} {e : Env} {s : State} {m : MethodId} {args : Array Value} {below : List Frame} {meth : Method} {c : Code} {G : gG} {A : Nat → Prop} {Qn : Int32 → gH → Prop} {Qx : String → gH → Prop} (X : gC p l s m args meth c G A cX11_setInterruption 6 (some FieldType.int) RX11) (hT : ∀ x ∈ c.exceptionTable.toList, False)   {h : gH} {v0 : Nat} {v1 : Int32} {v2 : Int32} {v3 : Int32} (w : vX11_setInterruption G.2.2.1  Qn Qx h v0 v1 v2 v3) : V p l e rmX11_setInterruption s m args below meth c (vx_MQ below (va_Qi Qn (gB G A) A) (gXC G A Qx) args s rmX11_setInterruption.cells rmX11_setInterruption.slots A) G A 6 h 0 0 0 [(0, .ref v0), (1, .int v1), (2, .int v2), (3, .int v3)] [] := by
  refine V_aloadr_n X dX11_setInterruption_0 0 rfl ?_
  refine V_iload_n X dX11_setInterruption_1 1 rfl ?_
  obtain ⟨fs, hh, w⟩ := w
  refine V_callXq (As := [.int v1]) (rest := []) (k1 := 1) (n1 := 6) X (cX11_transitionAt_ok X.2.2.2.2.2.2.2.2.1 w) lkX11_211 hh (q9 := (RX11, TX11, 7)) rfl rfl dX11_setInterruption_2 hT ⟨Nat.le_of_ble_eq_true rfl, Nat.le_of_ble_eq_true rfl⟩ rfl (Nat.le_of_ble_eq_true rfl) ⟨Nat.le_of_ble_eq_true rfl, Nat.le_of_ble_eq_true rfl⟩ (Nat.le_of_ble_eq_true rfl) (Nat.le_of_ble_eq_true rfl) (Nat.le_of_ble_eq_true rfl) (Nat.le_of_ble_eq_true rfl) (fun r2 h1 w9 => ?_)
  replace w := w9
  clear w9
  refine V_astoreq X dX11_setInterruption_5 (by decide) rfl ?_
  refine V_iload_n X dX11_setInterruption_7 3 rfl ?_
  obtain ⟨w1, w2⟩ := w
  refine V_if_lt (tgt := 16) X dX11_setInterruption_8 (by decide) (fun z => ?_) (fun z => ?_)
  · replace w := w1 z
    clear w1 w2
    exact V.sub [] rfl (tX11_setInterruption_b16 X hT  w)
  · replace w := w2 z
    clear w1 w2
    refine V_iload_n X dX11_setInterruption_11 3 rfl ?_
    refine V_iconst (y := 4) X dX11_setInterruption_12 (by decide) ?_
    obtain ⟨w1, w2⟩ := w
    refine V_icmp_le (tgt := 26) X dX11_setInterruption_13 (by decide) (fun z => ?_) (fun z => ?_)
    · replace w := w1 z
      clear w1 w2
      refine V_aload X dX11_setInterruption_26 0 rfl ?_
      obtain ⟨a3, rfl, w⟩ := w
      obtain ⟨fs, x4, hh, hv, w⟩ := w
      refine V_get X flX11_231 dX11_setInterruption_28 hh hv ?_
      refine V_istore X dX11_setInterruption_31 (by decide) rfl ?_
      refine V_aloadr X dX11_setInterruption_33 1 rfl ?_
      refine V_iload_n X dX11_setInterruption_35 4 rfl ?_
      obtain ⟨fs, hh, hv, w⟩ := w
      refine V_put X flX11_231 dX11_setInterruption_36 hh hv rfl rfl ?_
      generalize va_up _ _ _ = h5 at w ⊢
      refine V_aloadr X dX11_setInterruption_39 1 rfl ?_
      refine V_iload_n X dX11_setInterruption_41 5 rfl ?_
      obtain ⟨hz, w⟩ := w
      obtain ⟨fs, hh, hv, w⟩ := w
      refine V_put X flX11_234 dX11_setInterruption_42 hh hv hz.1 hz.2 ?_
      generalize va_up _ _ _ = h6 at w ⊢
      refine V_iload X dX11_setInterruption_45 0 rfl ?_
      exact V.vx (V_iret X rfl dX11_setInterruption_47 (Nat.le_of_ble_eq_true rfl) (Nat.le_of_ble_eq_true rfl) w)
    · replace w := w2 z
      clear w1 w2
      exact V.sub [] rfl (tX11_setInterruption_b16 X hT  w)
theorem cX11_setInterruption_ok {l : Launch} {G : gG} {h : gH} (hls : l.stackTraces = false) {Qn : Int32 → gH → Prop} {Qx : String → gH → Prop} {v0 : Nat} {v1 : Int32} {v2 : Int32} {v3 : Int32} (w : vX11_setInterruption G.2.2.1 Qn Qx h v0 v1 v2 v3) : gXi l yX11_setInterruption cX11_setInterruption 6 (some FieldType.int) rmX11_setInterruption rmX11_setInterruption.cells rmX11_setInterruption.slots G h [.ref v0, .int v1, .int v2, .int v3] Qn Qx := by
  exact gXi.of (by decide +kernel) hls (Nat.le_of_ble_eq_true rfl) rfl rfl (fun p e s m below meth c A X hT => tX11_setInterruption X hT w)
/-! AnimationController.addCondition(IIII)I -/
abbrev rmX11_addCondition : Room := { frames := 7, cells := 3, slots := 18, locals := 111 }
def vX11_addCondition (t0 : Nat)  (Qn : Int32 → gH → Prop) (Qx : String → gH → Prop) (h : gH) (v0 : Nat) (v1 : Int32) (v2 : Int32) (v3 : Int32) (v4 : Int32) : Prop := io h v0 14 (vX11_transitionAt t0 (fun r2 h1 => io h1 v0 14 (vX11_requireParameter t0 (fun h3 => gr h3 v0 14 0 (fun r4 => nn r4 (fun a5 => io h3 a5 7 (vX4_isCondition t0 (fun x7 h6 => ((¬ (x7 : Int32) = 0) → (nn r2 (fun a8 => gi h6 a8 12 11 (fun x9 => (((x9 : Int32) < 3) → (io h6 a8 12 (vX9_appendCondition t0 (fun h10 => gi h10 a8 12 11 (fun x11 => Qn x11 h10)) h6 a8 v2 v3 v4))) ∧ ((¬ (x9 : Int32) < 3) → (Qx "java/lang/IllegalStateException" h6)))))) ∧ (((x7 : Int32) = 0) → (Qx "java/lang/IllegalArgumentException" h6))) h3 a5 v2 v3 v4)))) Qx h1 v0 v2)) Qx h v0 v1)
set_option maxRecDepth 100000 in
set_option maxHeartbeats 4000000 in
theorem tX11_addCondition {p : Program} {l : Launch} {e : Env} {s : State} {m : MethodId} {args : Array Value} {below : List Frame} {meth : Method} {c : Code} {G : gG} {A : Nat → Prop} {Qn : Int32 → gH → Prop} {Qx : String → gH → Prop} (X : gC p l s m args meth c G A cX11_addCondition 6 (some FieldType.int) RX11) (hT : ∀ x ∈ c.exceptionTable.toList, False)   {h : gH} {v0 : Nat} {v1 : Int32} {v2 : Int32} {v3 : Int32} {v4 : Int32} (w : vX11_addCondition G.2.2.1  Qn Qx h v0 v1 v2 v3 v4) : V p l e rmX11_addCondition s m args below meth c (vx_MQ below (va_Qi Qn (gB G A) A) (gXC G A Qx) args s rmX11_addCondition.cells rmX11_addCondition.slots A) G A 6 h 0 0 0 [(0, .ref v0), (1, .int v1), (2, .int v2), (3, .int v3), (4, .int v4)] [] := by
  refine V_aloadr_n X dX11_addCondition_0 0 rfl ?_
  refine V_iload_n X dX11_addCondition_1 1 rfl ?_
  obtain ⟨fs, hh, w⟩ := w
  refine V_callXq (As := [.int v1]) (rest := []) (k1 := 1) (n1 := 6) X (cX11_transitionAt_ok X.2.2.2.2.2.2.2.2.1 w) lkX11_211 hh (q9 := (RX11, TX11, 7)) rfl rfl dX11_addCondition_2 hT ⟨Nat.le_of_ble_eq_true rfl, Nat.le_of_ble_eq_true rfl⟩ rfl (Nat.le_of_ble_eq_true rfl) ⟨Nat.le_of_ble_eq_true rfl, Nat.le_of_ble_eq_true rfl⟩ (Nat.le_of_ble_eq_true rfl) (Nat.le_of_ble_eq_true rfl) (Nat.le_of_ble_eq_true rfl) (Nat.le_of_ble_eq_true rfl) (fun r2 h1 w9 => ?_)
  replace w := w9
  clear w9
  refine V_astoreq X dX11_addCondition_5 (by decide) rfl ?_
  refine V_aloadr_n X dX11_addCondition_7 1 rfl ?_
  refine V_iload_n X dX11_addCondition_8 3 rfl ?_
  obtain ⟨fs, hh, w⟩ := w
  refine V_callXv (As := [.int v2]) (rest := []) (k1 := 2) (n1 := 12) X (cX11_requireParameter_ok X.2.2.2.2.2.2.2.2.1 w) lkX11_66 hh (q9 := (RX11, TX11, 7)) rfl rfl dX11_addCondition_9 hT ⟨Nat.le_of_ble_eq_true rfl, Nat.le_of_ble_eq_true rfl⟩ rfl (Nat.le_of_ble_eq_true rfl) ⟨Nat.le_of_ble_eq_true rfl, Nat.le_of_ble_eq_true rfl⟩ (Nat.le_of_ble_eq_true rfl) (Nat.le_of_ble_eq_true rfl) (Nat.le_of_ble_eq_true rfl) (Nat.le_of_ble_eq_true rfl) (fun h3 w9 => ?_)
  replace w := w9
  clear w9
  refine V_aloadr_n X dX11_addCondition_12 1 rfl ?_
  obtain ⟨fs, r4, hh, hv, w⟩ := w
  refine V_get X flX11_12 dX11_addCondition_13 hh hv ?_
  refine V_iload_n X dX11_addCondition_16 3 rfl ?_
  refine V_iload_n X dX11_addCondition_17 4 rfl ?_
  refine V_iload X dX11_addCondition_18 5 rfl ?_
  obtain ⟨a5, rfl, w⟩ := w
  obtain ⟨fs, hh, w⟩ := w
  refine V_callVi (As := [.int v2, .int v3, .int v4]) (rest := []) (k1 := 2) (n1 := 12) X (cX4_isCondition_ok X.2.2.2.2.2.2.2.2.1 w) lkX11_238 hh (q9 := (RX4, TX4, 8)) rfl rfl dX11_addCondition_20 ⟨Nat.le_of_ble_eq_true rfl, Nat.le_of_ble_eq_true rfl⟩ rfl (Nat.le_of_ble_eq_true rfl) ⟨Nat.le_of_ble_eq_true rfl, Nat.le_of_ble_eq_true rfl⟩ (Nat.le_of_ble_eq_true rfl) (Nat.le_of_ble_eq_true rfl) (fun x7 h6 w9 => ?_)
  replace w := w9
  clear w9
  obtain ⟨w1, w2⟩ := w
  refine V_if_ne (tgt := 36) X dX11_addCondition_23 (by decide) (fun z => ?_) (fun z => ?_)
  · replace w := w1 z
    clear w1 w2
    refine V_aload X dX11_addCondition_36 0 rfl ?_
    obtain ⟨a8, rfl, w⟩ := w
    obtain ⟨fs, x9, hh, hv, w⟩ := w
    refine V_get X flX11_244 dX11_addCondition_38 hh hv ?_
    refine V_iconst (y := 3) X dX11_addCondition_41 (by decide) ?_
    obtain ⟨w1, w2⟩ := w
    refine V_icmp_lt (tgt := 55) X dX11_addCondition_42 (by decide) (fun z => ?_) (fun z => ?_)
    · replace w := w1 z
      clear w1 w2
      refine V_aloadr X dX11_addCondition_55 0 rfl ?_
      refine V_iload_n X dX11_addCondition_57 3 rfl ?_
      refine V_iload_n X dX11_addCondition_58 4 rfl ?_
      refine V_iload X dX11_addCondition_59 5 rfl ?_
      obtain ⟨fs, hh, w⟩ := w
      refine V_callVv (As := [.int v2, .int v3, .int v4]) (rest := []) (k1 := 2) (n1 := 12) X (cX9_appendCondition_ok X.2.2.2.2.2.2.2.2.1 w) lkX11_249 hh (q9 := (RX9, TX9, 12)) rfl rfl dX11_addCondition_61 ⟨Nat.le_of_ble_eq_true rfl, Nat.le_of_ble_eq_true rfl⟩ rfl (Nat.le_of_ble_eq_true rfl) ⟨Nat.le_of_ble_eq_true rfl, Nat.le_of_ble_eq_true rfl⟩ (Nat.le_of_ble_eq_true rfl) (Nat.le_of_ble_eq_true rfl) (fun h10 w9 => ?_)
      replace w := w9
      clear w9
      refine V_aloadr X dX11_addCondition_64 0 rfl ?_
      obtain ⟨fs, x11, hh, hv, w⟩ := w
      refine V_get X flX11_244 dX11_addCondition_66 hh hv ?_
      exact V.vx (V_iret X rfl dX11_addCondition_69 (Nat.le_of_ble_eq_true rfl) (Nat.le_of_ble_eq_true rfl) w)
    · replace w := w2 z
      clear w1 w2
      exact V_throw X thX11_247_61 dX11_addCondition_45 dX11_addCondition_48 dX11_addCondition_49 dX11_addCondition_51 dX11_addCondition_54 hT ⟨(Nat.le_of_ble_eq_true rfl), (Nat.le_of_ble_eq_true rfl), (Nat.le_of_ble_eq_true rfl), (Nat.le_of_ble_eq_true rfl)⟩ (Nat.le_of_ble_eq_true rfl) (Nat.le_of_ble_eq_true rfl) w
  · replace w := w2 z
    clear w1 w2
    exact V_throw X thX11_242_47 dX11_addCondition_26 dX11_addCondition_29 dX11_addCondition_30 dX11_addCondition_32 dX11_addCondition_35 hT ⟨(Nat.le_of_ble_eq_true rfl), (Nat.le_of_ble_eq_true rfl), (Nat.le_of_ble_eq_true rfl), (Nat.le_of_ble_eq_true rfl)⟩ (Nat.le_of_ble_eq_true rfl) (Nat.le_of_ble_eq_true rfl) w
theorem cX11_addCondition_ok {l : Launch} {G : gG} {h : gH} (hls : l.stackTraces = false) {Qn : Int32 → gH → Prop} {Qx : String → gH → Prop} {v0 : Nat} {v1 : Int32} {v2 : Int32} {v3 : Int32} {v4 : Int32} (w : vX11_addCondition G.2.2.1 Qn Qx h v0 v1 v2 v3 v4) : gXi l yX11_addCondition cX11_addCondition 6 (some FieldType.int) rmX11_addCondition rmX11_addCondition.cells rmX11_addCondition.slots G h [.ref v0, .int v1, .int v2, .int v3, .int v4] Qn Qx := by
  exact gXi.of (by decide +kernel) hls (Nat.le_of_ble_eq_true rfl) rfl rfl (fun p e s m below meth c A X hT => tX11_addCondition X hT w)
/-! AnimationController.requireTicks(I)V -/
abbrev rmX11_requireTicks : Room := { frames := 6, cells := 1, slots := 6, locals := 90 }
def vX11_requireTicks_b11 (t0 : Nat)  (Qn : gH → Prop) (Qx : String → gH → Prop) (h : gH)  : Prop := Qx "java/lang/IllegalArgumentException" h
set_option maxRecDepth 100000 in
set_option maxHeartbeats 4000000 in
theorem tX11_requireTicks_b11 {p : Program} {l : Launch} {e : Env} {s : State} {m : MethodId} {args : Array Value} {below : List Frame} {meth : Method} {c : Code} {G : gG} {A : Nat → Prop} {Qn : gH → Prop} {Qx : String → gH → Prop} (X : gC p l s m args meth c G A cX11_requireTicks 2 none RX11) (hT : ∀ x ∈ c.exceptionTable.toList, False)   {h : gH}  (w : vX11_requireTicks_b11 G.2.2.1  Qn Qx h ) : V p l e rmX11_requireTicks s m args below meth c (vx_MQ below (va_Qv Qn (gB G A) A) (gXC G A Qx) args s rmX11_requireTicks.cells rmX11_requireTicks.slots A) G A 2 h 0 0 11 [] [] := by
  exact V_throwW X thX11_428_47 dX11_requireTicks_11 dX11_requireTicks_14 dX11_requireTicks_15 dX11_requireTicks_18 dX11_requireTicks_21 hT ⟨(Nat.le_of_ble_eq_true rfl), (Nat.le_of_ble_eq_true rfl), (Nat.le_of_ble_eq_true rfl), (Nat.le_of_ble_eq_true rfl)⟩ (Nat.le_of_ble_eq_true rfl) (Nat.le_of_ble_eq_true rfl) w
def vX11_requireTicks (t0 : Nat)  (Qn : gH → Prop) (Qx : String → gH → Prop) (h : gH) (v0 : Nat) (v1 : Int32) : Prop := (((v1 : Int32) < 1) → (vX11_requireTicks_b11 t0  Qn Qx h )) ∧ ((¬ (v1 : Int32) < 1) → ((((v1 : Int32) ≤ 100) → (Qn h)) ∧ ((¬ (v1 : Int32) ≤ 100) → (vX11_requireTicks_b11 t0  Qn Qx h ))))
set_option maxRecDepth 100000 in
set_option maxHeartbeats 4000000 in
theorem tX11_requireTicks {p : Program} {l : Launch} {e : Env} {s : State} {m : MethodId} {args : Array Value} {below : List Frame} {meth : Method} {c : Code} {G : gG} {A : Nat → Prop} {Qn : gH → Prop} {Qx : String → gH → Prop} (X : gC p l s m args meth c G A cX11_requireTicks 2 none RX11) (hT : ∀ x ∈ c.exceptionTable.toList, False)   {h : gH} {v0 : Nat} {v1 : Int32} (w : vX11_requireTicks G.2.2.1  Qn Qx h v0 v1) : V p l e rmX11_requireTicks s m args below meth c (vx_MQ below (va_Qv Qn (gB G A) A) (gXC G A Qx) args s rmX11_requireTicks.cells rmX11_requireTicks.slots A) G A 2 h 0 0 0 [(0, .ref v0), (1, .int v1)] [] := by
  refine V_iload_n X dX11_requireTicks_0 1 rfl ?_
  refine V_iconst (y := 1) X dX11_requireTicks_1 (by decide) ?_
  obtain ⟨w1, w2⟩ := w
  refine V_icmp_lt (tgt := 11) X dX11_requireTicks_2 (by decide) (fun z => ?_) (fun z => ?_)
  · replace w := w1 z
    clear w1 w2
    exact V.sub [] rfl (tX11_requireTicks_b11 X hT  w)
  · replace w := w2 z
    clear w1 w2
    refine V_iload_n X dX11_requireTicks_5 1 rfl ?_
    refine V_bipush (y := 100) X dX11_requireTicks_6 (by decide) ?_
    obtain ⟨w1, w2⟩ := w
    refine V_icmp_le (tgt := 22) X dX11_requireTicks_8 (by decide) (fun z => ?_) (fun z => ?_)
    · replace w := w1 z
      clear w1 w2
      exact V.vx (V_vret X rfl dX11_requireTicks_22 (Nat.le_of_ble_eq_true rfl) (Nat.le_of_ble_eq_true rfl) w)
    · replace w := w2 z
      clear w1 w2
      exact V.sub [] rfl (tX11_requireTicks_b11 X hT  w)
theorem cX11_requireTicks_ok {l : Launch} {G : gG} {h : gH} (hls : l.stackTraces = false) {Qn : gH → Prop} {Qx : String → gH → Prop} {v0 : Nat} {v1 : Int32} (w : vX11_requireTicks G.2.2.1 Qn Qx h v0 v1) : gXv l yX11_requireTicks cX11_requireTicks 2 none rmX11_requireTicks rmX11_requireTicks.cells rmX11_requireTicks.slots G h [.ref v0, .int v1] Qn Qx := by
  exact gXv.of (by decide +kernel) hls (Nat.le_of_ble_eq_true rfl) rfl rfl (fun p e s m below meth c A X hT => tX11_requireTicks X hT w)
/-! AnimationController.requireStates()V -/
abbrev rmX11_requireStates : Room := { frames := 6, cells := 1, slots := 6, locals := 90 }
def vX11_requireStates (t0 : Nat)  (Qn : gH → Prop) (Qx : String → gH → Prop) (h : gH) (v0 : Nat) : Prop := gr h v0 14 0 (fun r1 => nn r1 (fun a2 => gr h a2 7 4 (fun r3 => nn r3 (fun a4 => io h a4 2 (vJx4a65c_isEmpty_aae02 t0 (fun x6 h5 => (((x6 : Int32) = 0) → (Qn h5)) ∧ ((¬ (x6 : Int32) = 0) → (Qx "java/lang/IllegalStateException" h5))) h a4 )))))
set_option maxRecDepth 100000 in
set_option maxHeartbeats 4000000 in
theorem tX11_requireStates {p : Program} {l : Launch} {e : Env} {s : State} {m : MethodId} {args : Array Value} {below : List Frame} {meth : Method} {c : Code} {G : gG} {A : Nat → Prop} {Qn : gH → Prop} {Qx : String → gH → Prop} (X : gC p l s m args meth c G A cX11_requireStates 1 none RX11) (hT : ∀ x ∈ c.exceptionTable.toList, False)   {h : gH} {v0 : Nat} (w : vX11_requireStates G.2.2.1  Qn Qx h v0) : V p l e rmX11_requireStates s m args below meth c (vx_MQ below (va_Qv Qn (gB G A) A) (gXC G A Qx) args s rmX11_requireStates.cells rmX11_requireStates.slots A) G A 1 h 0 0 0 [(0, .ref v0)] [] := by
  refine V_aloadr_n X dX11_requireStates_0 0 rfl ?_
  obtain ⟨fs, r1, hh, hv, w⟩ := w
  refine V_get X flX11_12 dX11_requireStates_1 hh hv ?_
  obtain ⟨a2, rfl, w⟩ := w
  obtain ⟨fs, r3, hh, hv, w⟩ := w
  refine V_get3 X frX11_173 dX11_requireStates_4 hh hv ?_
  obtain ⟨a4, rfl, w⟩ := w
  obtain ⟨fs, hh, w⟩ := w
  refine V_callVi (As := []) (rest := []) (k1 := 0) (n1 := 0) X (cJx4a65c_isEmpty_aae02_ok X.2.2.2.2.2.2.2.2.1 w) lkX11_296 hh (q9 := (RJx4a65c, TJx4a65c, 3)) rfl rfl dX11_requireStates_7 ⟨Nat.le_of_ble_eq_true rfl, Nat.le_of_ble_eq_true rfl⟩ rfl (Nat.le_of_ble_eq_true rfl) ⟨Nat.le_of_ble_eq_true rfl, Nat.le_of_ble_eq_true rfl⟩ (Nat.le_of_ble_eq_true rfl) (Nat.le_of_ble_eq_true rfl) (fun x6 h5 w9 => ?_)
  replace w := w9
  clear w9
  obtain ⟨w1, w2⟩ := w
  refine V_if_eq (tgt := 24) X dX11_requireStates_10 (by decide) (fun z => ?_) (fun z => ?_)
  · replace w := w1 z
    clear w1 w2
    exact V.vx (V_vret X rfl dX11_requireStates_24 (Nat.le_of_ble_eq_true rfl) (Nat.le_of_ble_eq_true rfl) w)
  · replace w := w2 z
    clear w1 w2
    exact V_throwW X thX11_426_61 dX11_requireStates_13 dX11_requireStates_16 dX11_requireStates_17 dX11_requireStates_20 dX11_requireStates_23 hT ⟨(Nat.le_of_ble_eq_true rfl), (Nat.le_of_ble_eq_true rfl), (Nat.le_of_ble_eq_true rfl), (Nat.le_of_ble_eq_true rfl)⟩ (Nat.le_of_ble_eq_true rfl) (Nat.le_of_ble_eq_true rfl) w
theorem cX11_requireStates_ok {l : Launch} {G : gG} {h : gH} (hls : l.stackTraces = false) {Qn : gH → Prop} {Qx : String → gH → Prop} {v0 : Nat} (w : vX11_requireStates G.2.2.1 Qn Qx h v0) : gXv l yX11_requireStates cX11_requireStates 1 none rmX11_requireStates rmX11_requireStates.cells rmX11_requireStates.slots G h [.ref v0] Qn Qx := by
  exact gXv.of (by decide +kernel) hls (Nat.le_of_ble_eq_true rfl) rfl rfl (fun p e s m below meth c A X hT => tX11_requireStates X hT w)
/-! AnimationController.tick(I)I -/
abbrev rmX11_tick : Room := { frames := 13, cells := 2, slots := 12, locals := 325 }
def vX11_tick_b22_o (t0 : Nat) (k22 : gH → Nat → Int32 → Int32 → Int32 → Prop) (Qn : Int32 → gH → Prop) (Qx : String → gH → Prop) (h : gH) (v0 : Nat) (v1 : Int32) (v2 : Int32) (v3 : Int32) : Prop := ((v1 ≤ (v3 : Int32)) → (gr h v0 14 2 (fun r1 => nn r1 (fun a2 => gr h a2 6 10 (fun r3 => nn r3 (fun a4 => gi h a4 5 1 (fun x5 => Qn (x5 - v2) h))))))) ∧ ((¬ v1 ≤ (v3 : Int32)) → (gr h v0 14 2 (fun r6 => nn r6 (fun a7 => io h a7 6 (vX3_runTick t0 (fun h8 => k22 h8 v0 v1 v2 (v3 + 1)) h a7 )))))
set_option maxRecDepth 100000 in
set_option maxHeartbeats 4000000 in
theorem tX11_tick_b22_o {p : Program} {l : Launch} {e : Env} {s : State} {m : MethodId} {args : Array Value} {below : List Frame} {meth : Method} {c : Code} {G : gG} {A : Nat → Prop} {Qn : Int32 → gH → Prop} {Qx : String → gH → Prop} (X : gC p l s m args meth c G A cX11_tick 4 (some FieldType.int) RX11) (hT : ∀ x ∈ c.exceptionTable.toList, False) {k22 : gH → Nat → Int32 → Int32 → Int32 → Prop} (H22 : ∀ (h : gH) (v0 : Nat) (v1 : Int32) (v2 : Int32) (v3 : Int32), k22 h v0 v1 v2 v3 → V p l e rmX11_tick s m args below meth c (vx_MQ below (va_Qi Qn (gB G A) A) (gXC G A Qx) args s rmX11_tick.cells rmX11_tick.slots A) G A 4 h 2 12 22 [(0, .ref v0), (1, .int v1), (2, .int v2), (3, .int v3)] []) {h : gH} {v0 : Nat} {v1 : Int32} {v2 : Int32} {v3 : Int32} (w : vX11_tick_b22_o G.2.2.1 k22 Qn Qx h v0 v1 v2 v3) : V p l e rmX11_tick s m args below meth c (vx_MQ below (va_Qi Qn (gB G A) A) (gXC G A Qx) args s rmX11_tick.cells rmX11_tick.slots A) G A 4 h 2 12 22 [(0, .ref v0), (1, .int v1), (2, .int v2), (3, .int v3)] [] := by
  refine V_iload_n X dX11_tick_22 3 rfl ?_
  refine V_iload_n X dX11_tick_23 1 rfl ?_
  obtain ⟨w1, w2⟩ := w
  refine V_icmp_ge (tgt := 40) X dX11_tick_24 (by decide) (fun z => ?_) (fun z => ?_)
  · replace w := w1 z
    clear w1 w2
    refine V_aloadr_n X dX11_tick_40 0 rfl ?_
    obtain ⟨fs, r1, hh, hv, w⟩ := w
    refine V_get X flX11_28 dX11_tick_41 hh hv ?_
    obtain ⟨a2, rfl, w⟩ := w
    obtain ⟨fs, r3, hh, hv, w⟩ := w
    refine V_get3 X frX11_278 dX11_tick_44 hh hv ?_
    obtain ⟨a4, rfl, w⟩ := w
    obtain ⟨fs, x5, hh, hv, w⟩ := w
    refine V_get X flX11_282 dX11_tick_47 hh hv ?_
    refine V_iload_n X dX11_tick_50 2 rfl ?_
    refine V_isub X dX11_tick_51 ?_
    exact V.vx (V_iret X rfl dX11_tick_52 (Nat.le_of_ble_eq_true rfl) (Nat.le_of_ble_eq_true rfl) w)
  · replace w := w2 z
    clear w1 w2
    refine V_aloadr_n X dX11_tick_27 0 rfl ?_
    obtain ⟨fs, r6, hh, hv, w⟩ := w
    refine V_get X flX11_28 dX11_tick_28 hh hv ?_
    obtain ⟨a7, rfl, w⟩ := w
    obtain ⟨fs, hh, w⟩ := w
    refine V_callVv (As := []) (rest := []) (k1 := 2) (n1 := 12) X (cX3_runTick_ok X.2.2.2.2.2.2.2.2.1 w) lkX11_287 hh (q9 := (RX3, TX3, 13)) rfl rfl dX11_tick_31 ⟨Nat.le_of_ble_eq_true rfl, Nat.le_of_ble_eq_true rfl⟩ rfl (Nat.le_of_ble_eq_true rfl) ⟨Nat.le_of_ble_eq_true rfl, Nat.le_of_ble_eq_true rfl⟩ (Nat.le_of_ble_eq_true rfl) (Nat.le_of_ble_eq_true rfl) (fun h8 w9 => ?_)
    replace w := w9
    clear w9
    refine V_iinc (y := (v3 + 1)) X dX11_tick_34 3 rfl (by first | rfl | (congr 1)) (by decide) rfl ?_
    refine V_goto (tgt := 22) X dX11_tick_37 (by decide) ?_
    exact V.sub [1, 2, 3, 0] rfl (H22 _ _ _ _ _ w)
def vX11_tick_b22 (t0 : Nat)  (Qn : Int32 → gH → Prop) (Qx : String → gH → Prop) (n : Nat) : gH → Nat → Int32 → Int32 → Int32 → Prop := Nat.rec (motive := fun _ => gH → Nat → Int32 → Int32 → Int32 → Prop) (fun _ _ _ _ _ => False) (fun _ k22 => vX11_tick_b22_o t0 k22 Qn Qx) n
theorem tX11_tick_b22 {p : Program} {l : Launch} {e : Env} {s : State} {m : MethodId} {args : Array Value} {below : List Frame} {meth : Method} {c : Code} {G : gG} {A : Nat → Prop} {Qn : Int32 → gH → Prop} {Qx : String → gH → Prop} (X : gC p l s m args meth c G A cX11_tick 4 (some FieldType.int) RX11) (hT : ∀ x ∈ c.exceptionTable.toList, False)   : ∀ (n : Nat) (h : gH) (v0 : Nat) (v1 : Int32) (v2 : Int32) (v3 : Int32) (w : vX11_tick_b22 G.2.2.1  Qn Qx n h v0 v1 v2 v3), V p l e rmX11_tick s m args below meth c (vx_MQ below (va_Qi Qn (gB G A) A) (gXC G A Qx) args s rmX11_tick.cells rmX11_tick.slots A) G A 4 h 2 12 22 [(0, .ref v0), (1, .int v1), (2, .int v2), (3, .int v3)] [] := by
  intro n
  induction n with
  | zero => intro h v0 v1 v2 v3 w; exact False.elim w
  | succ n ih => intro h v0 v1 v2 v3 w; exact tX11_tick_b22_o X hT ih w
def vX11_tick (t0 : Nat)  (Qn : Int32 → gH → Prop) (Qx : String → gH → Prop) (h : gH) (v0 : Nat) (v1 : Int32) : Prop := io h v0 14 (vX11_requireTicks t0 (fun h1 => io h1 v0 14 (vX11_requireStates t0 (fun h2 => gr h2 v0 14 2 (fun r3 => nn r3 (fun a4 => gr h2 a4 6 10 (fun r5 => nn r5 (fun a6 => gi h2 a6 5 1 (fun x7 => ∃ n : Nat, vX11_tick_b22 t0  Qn Qx n h2 v0 v1 x7 0)))))) Qx h1 v0 )) Qx h v0 v1)
set_option maxRecDepth 100000 in
set_option maxHeartbeats 4000000 in
theorem tX11_tick {p : Program} {l : Launch} {e : Env} {s : State} {m : MethodId} {args : Array Value} {below : List Frame} {meth : Method} {c : Code} {G : gG} {A : Nat → Prop} {Qn : Int32 → gH → Prop} {Qx : String → gH → Prop} (X : gC p l s m args meth c G A cX11_tick 4 (some FieldType.int) RX11) (hT : ∀ x ∈ c.exceptionTable.toList, False)   {h : gH} {v0 : Nat} {v1 : Int32} (w : vX11_tick G.2.2.1  Qn Qx h v0 v1) : V p l e rmX11_tick s m args below meth c (vx_MQ below (va_Qi Qn (gB G A) A) (gXC G A Qx) args s rmX11_tick.cells rmX11_tick.slots A) G A 4 h 0 0 0 [(0, .ref v0), (1, .int v1)] [] := by
  refine V_aloadr_n X dX11_tick_0 0 rfl ?_
  refine V_iload_n X dX11_tick_1 1 rfl ?_
  obtain ⟨fs, hh, w⟩ := w
  refine V_callXv (As := [.int v1]) (rest := []) (k1 := 1) (n1 := 6) X (cX11_requireTicks_ok X.2.2.2.2.2.2.2.2.1 w) lkX11_272 hh (q9 := (RX11, TX11, 7)) rfl rfl dX11_tick_2 hT ⟨Nat.le_of_ble_eq_true rfl, Nat.le_of_ble_eq_true rfl⟩ rfl (Nat.le_of_ble_eq_true rfl) ⟨Nat.le_of_ble_eq_true rfl, Nat.le_of_ble_eq_true rfl⟩ (Nat.le_of_ble_eq_true rfl) (Nat.le_of_ble_eq_true rfl) (Nat.le_of_ble_eq_true rfl) (Nat.le_of_ble_eq_true rfl) (fun h1 w9 => ?_)
  replace w := w9
  clear w9
  refine V_aloadr_n X dX11_tick_5 0 rfl ?_
  obtain ⟨fs, hh, w⟩ := w
  refine V_callXv (As := []) (rest := []) (k1 := 2) (n1 := 12) X (cX11_requireStates_ok X.2.2.2.2.2.2.2.2.1 w) lkX11_275 hh (q9 := (RX11, TX11, 7)) rfl rfl dX11_tick_6 hT ⟨Nat.le_of_ble_eq_true rfl, Nat.le_of_ble_eq_true rfl⟩ rfl (Nat.le_of_ble_eq_true rfl) ⟨Nat.le_of_ble_eq_true rfl, Nat.le_of_ble_eq_true rfl⟩ (Nat.le_of_ble_eq_true rfl) (Nat.le_of_ble_eq_true rfl) (Nat.le_of_ble_eq_true rfl) (Nat.le_of_ble_eq_true rfl) (fun h2 w9 => ?_)
  replace w := w9
  clear w9
  refine V_aloadr_n X dX11_tick_9 0 rfl ?_
  obtain ⟨fs, r3, hh, hv, w⟩ := w
  refine V_get X flX11_28 dX11_tick_10 hh hv ?_
  obtain ⟨a4, rfl, w⟩ := w
  obtain ⟨fs, r5, hh, hv, w⟩ := w
  refine V_get3 X frX11_278 dX11_tick_13 hh hv ?_
  obtain ⟨a6, rfl, w⟩ := w
  obtain ⟨fs, x7, hh, hv, w⟩ := w
  refine V_get X flX11_282 dX11_tick_16 hh hv ?_
  refine V_istore_n (i0 := 2) X dX11_tick_19 rfl (by decide) rfl ?_
  refine V_iconst (y := 0) X dX11_tick_20 (by decide) ?_
  refine V_istore_n (i0 := 3) X dX11_tick_21 rfl (by decide) rfl ?_
  obtain ⟨n9, w⟩ := w
  exact V.sub [2, 3, 1, 0] rfl (tX11_tick_b22 X hT  n9 _ _ _ _ _ w)
theorem cX11_tick_ok {l : Launch} {G : gG} {h : gH} (hls : l.stackTraces = false) {Qn : Int32 → gH → Prop} {Qx : String → gH → Prop} {v0 : Nat} {v1 : Int32} (w : vX11_tick G.2.2.1 Qn Qx h v0 v1) : gXi l yX11_tick cX11_tick 4 (some FieldType.int) rmX11_tick rmX11_tick.cells rmX11_tick.slots G h [.ref v0, .int v1] Qn Qx := by
  exact gXi.of (by decide +kernel) hls (Nat.le_of_ble_eq_true rfl) rfl rfl (fun p e s m below meth c A X hT => tX11_tick X hT w)
/-! AnimationController.reset()I -/
abbrev rmX11_reset : Room := { frames := 3, cells := 0, slots := 0, locals := 64 }
def vX11_reset_b56 (t0 : Nat)  (Qn : Int32 → gH → Prop) (h : gH) (v1 : Int32) (s0 : Option Nat) (s1 : Option Nat) : Prop := nn s1 (fun a1 => io h a1 6 (vX3_beginIn t0 (fun h2 => Qn v1 h2) h a1 s0))
set_option maxRecDepth 100000 in
set_option maxHeartbeats 4000000 in
theorem tX11_reset_b56 {p : Program} {l : Launch} {e : Env} {s : State} {m : MethodId} {args : Array Value} {below : List Frame} {meth : Method} {c : Code} {G : gG} {A : Nat → Prop} {Qn : Int32 → gH → Prop} (X : gC p l s m args meth c G A cX11_reset 2 (some FieldType.int) RX11)   {h : gH} {v1 : Int32} {s0 : Option Nat} {s1 : Option Nat} (w : vX11_reset_b56 G.2.2.1  Qn h v1 s0 s1) : V p l e rmX11_reset s m args below meth c (MQ below (va_Qi Qn (gB G A) A) args s rmX11_reset.cells rmX11_reset.slots A) G A 2 h 0 0 56 [(1, .int v1)] [va_rf s0, va_rf s1] := by
  obtain ⟨a1, rfl, w⟩ := w
  obtain ⟨fs, hh, w⟩ := w
  refine V_callVv (As := [va_rf s0]) (rest := []) (k1 := 0) (n1 := 0) X (cX3_beginIn_ok X.2.2.2.2.2.2.2.2.1 w) lkX11_183 hh (q9 := (RX3, TX3, 13)) rfl rfl dX11_reset_56 ⟨Nat.le_of_ble_eq_true rfl, Nat.le_of_ble_eq_true rfl⟩ rfl (Nat.le_of_ble_eq_true rfl) ⟨Nat.le_of_ble_eq_true rfl, Nat.le_of_ble_eq_true rfl⟩ (Nat.le_of_ble_eq_true rfl) (Nat.le_of_ble_eq_true rfl) (fun h2 w9 => ?_)
  replace w := w9
  clear w9
  refine V_iload_n X dX11_reset_59 0 rfl ?_
  exact V_iret X rfl dX11_reset_60 (Nat.le_of_ble_eq_true rfl) (Nat.le_of_ble_eq_true rfl) w
def vX11_reset (t0 : Nat)  (Qn : Int32 → gH → Prop) (h : gH) (v0 : Nat) : Prop := gr h v0 14 2 (fun r1 => nn r1 (fun a2 => gi h a2 6 9 (fun x3 => gr h v0 14 2 (fun r4 => nn r4 (fun a5 => io h a5 6 (vX3_forget t0 (fun h6 => gr h6 v0 14 2 (fun r7 => gr h6 v0 14 0 (fun r8 => nn r8 (fun a9 => gr h6 a9 7 4 (fun r10 => nn r10 (fun a11 => io h6 a11 2 (vJx4a65c_isEmpty_aae02 t0 (fun x13 h12 => (((x13 : Int32) = 0) → (gr h12 v0 14 0 (fun r14 => nn r14 (fun a15 => gr h12 a15 7 4 (fun r16 => nn r16 (fun a17 => io h12 a17 2 (vJx4a65c_get_915e3 t0 (fun r19 h18 => nn r19 (fun a20 => io h18 a20 10 (vX11_reset_b56 t0  Qn h18 x3 (some a20) r7))) h12 a17 0))))))) ∧ ((¬ (x13 : Int32) = 0) → (gr h12 v0 14 0 (fun r21 => nn r21 (fun a22 => gr h12 a22 7 7 (fun r23 => vX11_reset_b56 t0  Qn h12 x3 r23 r7)))))) h6 a11 ))))))) h a5 ))))))
set_option maxRecDepth 100000 in
set_option maxHeartbeats 4000000 in
theorem tX11_reset {p : Program} {l : Launch} {e : Env} {s : State} {m : MethodId} {args : Array Value} {below : List Frame} {meth : Method} {c : Code} {G : gG} {A : Nat → Prop} {Qn : Int32 → gH → Prop} (X : gC p l s m args meth c G A cX11_reset 2 (some FieldType.int) RX11)   {h : gH} {v0 : Nat} (w : vX11_reset G.2.2.1  Qn h v0) : V p l e rmX11_reset s m args below meth c (MQ below (va_Qi Qn (gB G A) A) args s rmX11_reset.cells rmX11_reset.slots A) G A 2 h 0 0 0 [(0, .ref v0)] [] := by
  refine V_aloadr_n X dX11_reset_0 0 rfl ?_
  obtain ⟨fs, r1, hh, hv, w⟩ := w
  refine V_get X flX11_28 dX11_reset_1 hh hv ?_
  obtain ⟨a2, rfl, w⟩ := w
  obtain ⟨fs, x3, hh, hv, w⟩ := w
  refine V_get X flX11_290 dX11_reset_4 hh hv ?_
  refine V_istore_n (i0 := 1) X dX11_reset_7 rfl (by decide) rfl ?_
  refine V_aloadr_n X dX11_reset_8 1 rfl ?_
  obtain ⟨fs, r4, hh, hv, w⟩ := w
  refine V_get X flX11_28 dX11_reset_9 hh hv ?_
  obtain ⟨a5, rfl, w⟩ := w
  obtain ⟨fs, hh, w⟩ := w
  refine V_callVv (As := []) (rest := []) (k1 := 0) (n1 := 0) X (cX3_forget_ok X.2.2.2.2.2.2.2.2.1 w) lkX11_293 hh (q9 := (RX3, TX3, 13)) rfl rfl dX11_reset_12 ⟨Nat.le_of_ble_eq_true rfl, Nat.le_of_ble_eq_true rfl⟩ rfl (Nat.le_of_ble_eq_true rfl) ⟨Nat.le_of_ble_eq_true rfl, Nat.le_of_ble_eq_true rfl⟩ (Nat.le_of_ble_eq_true rfl) (Nat.le_of_ble_eq_true rfl) (fun h6 w9 => ?_)
  replace w := w9
  clear w9
  refine V_aloadr_n X dX11_reset_15 1 rfl ?_
  obtain ⟨fs, r7, hh, hv, w⟩ := w
  refine V_get X flX11_28 dX11_reset_16 hh hv ?_
  refine V_aloadr_n X dX11_reset_19 1 rfl ?_
  obtain ⟨fs, r8, hh, hv, w⟩ := w
  refine V_get X flX11_12 dX11_reset_20 hh hv ?_
  obtain ⟨a9, rfl, w⟩ := w
  obtain ⟨fs, r10, hh, hv, w⟩ := w
  refine V_get3 X frX11_173 dX11_reset_23 hh hv ?_
  obtain ⟨a11, rfl, w⟩ := w
  obtain ⟨fs, hh, w⟩ := w
  refine V_callVi (As := []) (rest := [va_rf r7]) (k1 := 0) (n1 := 0) X (cJx4a65c_isEmpty_aae02_ok X.2.2.2.2.2.2.2.2.1 w) lkX11_296 hh (q9 := (RJx4a65c, TJx4a65c, 3)) rfl rfl dX11_reset_26 ⟨Nat.le_of_ble_eq_true rfl, Nat.le_of_ble_eq_true rfl⟩ rfl (va_len _ 4 (Nat.le_of_ble_eq_true rfl)) ⟨Nat.le_of_ble_eq_true rfl, Nat.le_of_ble_eq_true rfl⟩ (Nat.le_of_ble_eq_true rfl) (Nat.le_of_ble_eq_true rfl) (fun x13 h12 w9 => ?_)
  replace w := w9
  clear w9
  obtain ⟨w1, w2⟩ := w
  refine V_if_eq (tgt := 42) X dX11_reset_29 (by decide) (fun z => ?_) (fun z => ?_)
  · replace w := w1 z
    clear w1 w2
    refine V_aloadr_n X dX11_reset_42 1 rfl ?_
    obtain ⟨fs, r14, hh, hv, w⟩ := w
    refine V_get X flX11_12 dX11_reset_43 hh hv ?_
    obtain ⟨a15, rfl, w⟩ := w
    obtain ⟨fs, r16, hh, hv, w⟩ := w
    refine V_get3 X frX11_173 dX11_reset_46 hh hv ?_
    refine V_iconst (y := 0) X dX11_reset_49 (by decide) ?_
    obtain ⟨a17, rfl, w⟩ := w
    obtain ⟨fs, hh, w⟩ := w
    refine V_callVq (As := [.int 0]) (rest := [va_rf r7]) (k1 := 0) (n1 := 0) X (cJx4a65c_get_915e3_ok X.2.2.2.2.2.2.2.2.1 w) lkX11_302 hh (q9 := (RJx4a65c, TJx4a65c, 3)) rfl rfl dX11_reset_50 ⟨Nat.le_of_ble_eq_true rfl, Nat.le_of_ble_eq_true rfl⟩ rfl (va_len _ 4 (Nat.le_of_ble_eq_true rfl)) ⟨Nat.le_of_ble_eq_true rfl, Nat.le_of_ble_eq_true rfl⟩ (Nat.le_of_ble_eq_true rfl) (Nat.le_of_ble_eq_true rfl) (fun r19 h18 w9 => ?_)
    replace w := w9
    clear w9
    obtain ⟨a20, rfl, w⟩ := w
    obtain ⟨fs, hh, w⟩ := w
    refine V_cast (q9 := (RX7, TX7, 5)) X kw_584 rfl rfl hh dX11_reset_53 ?_
    exact V.sub [0] rfl (tX11_reset_b56 X  w)
  · replace w := w2 z
    clear w1 w2
    refine V_aloadr_n X dX11_reset_32 1 rfl ?_
    obtain ⟨fs, r21, hh, hv, w⟩ := w
    refine V_get X flX11_12 dX11_reset_33 hh hv ?_
    obtain ⟨a22, rfl, w⟩ := w
    obtain ⟨fs, r23, hh, hv, w⟩ := w
    refine V_get3 X frX11_299 dX11_reset_36 hh hv ?_
    refine V_goto (tgt := 56) X dX11_reset_39 (by decide) ?_
    exact V.sub [0] rfl (tX11_reset_b56 X  w)
theorem cX11_reset_ok {l : Launch} {G : gG} {h : gH} (hls : l.stackTraces = false) {Qn : Int32 → gH → Prop} {v0 : Nat} (w : vX11_reset G.2.2.1 Qn h v0) : gMi l yX11_reset cX11_reset 2 (some FieldType.int) rmX11_reset rmX11_reset.cells rmX11_reset.slots G h [.ref v0] Qn := by
  exact gMi.of (by decide +kernel) hls (Nat.le_of_ble_eq_true rfl) rfl rfl (fun p e s m below meth c A X hnm => tX11_reset X w)
/-! AnimationController.state()I -/
abbrev rmX11_state : Room := { frames := 7, cells := 1, slots := 6, locals := 110 }
def vX11_state (t0 : Nat)  (Qn : Int32 → gH → Prop) (Qx : String → gH → Prop) (h : gH) (v0 : Nat) : Prop := io h v0 14 (vX11_requireStates t0 (fun h1 => gr h1 v0 14 2 (fun r2 => nn r2 (fun a3 => gr h1 a3 6 2 (fun r4 => nn r4 (fun a5 => gr h1 a5 11 0 (fun r6 => nn r6 (fun a7 => gi h1 a7 10 0 (fun x8 => Qn x8 h1)))))))) Qx h v0 )
set_option maxRecDepth 100000 in
set_option maxHeartbeats 4000000 in
theorem tX11_state {p : Program} {l : Launch} {e : Env} {s : State} {m : MethodId} {args : Array Value} {below : List Frame} {meth : Method} {c : Code} {G : gG} {A : Nat → Prop} {Qn : Int32 → gH → Prop} {Qx : String → gH → Prop} (X : gC p l s m args meth c G A cX11_state 1 (some FieldType.int) RX11) (hT : ∀ x ∈ c.exceptionTable.toList, False)   {h : gH} {v0 : Nat} (w : vX11_state G.2.2.1  Qn Qx h v0) : V p l e rmX11_state s m args below meth c (vx_MQ below (va_Qi Qn (gB G A) A) (gXC G A Qx) args s rmX11_state.cells rmX11_state.slots A) G A 1 h 0 0 0 [(0, .ref v0)] [] := by
  refine V_aloadr_n X dX11_state_0 0 rfl ?_
  obtain ⟨fs, hh, w⟩ := w
  refine V_callXv (As := []) (rest := []) (k1 := 1) (n1 := 6) X (cX11_requireStates_ok X.2.2.2.2.2.2.2.2.1 w) lkX11_275 hh (q9 := (RX11, TX11, 7)) rfl rfl dX11_state_1 hT ⟨Nat.le_of_ble_eq_true rfl, Nat.le_of_ble_eq_true rfl⟩ rfl (Nat.le_of_ble_eq_true rfl) ⟨Nat.le_of_ble_eq_true rfl, Nat.le_of_ble_eq_true rfl⟩ (Nat.le_of_ble_eq_true rfl) (Nat.le_of_ble_eq_true rfl) (Nat.le_of_ble_eq_true rfl) (Nat.le_of_ble_eq_true rfl) (fun h1 w9 => ?_)
  replace w := w9
  clear w9
  refine V_aloadr_n X dX11_state_4 0 rfl ?_
  obtain ⟨fs, r2, hh, hv, w⟩ := w
  refine V_get X flX11_28 dX11_state_5 hh hv ?_
  obtain ⟨a3, rfl, w⟩ := w
  obtain ⟨fs, r4, hh, hv, w⟩ := w
  refine V_get3 X frX11_306 dX11_state_8 hh hv ?_
  obtain ⟨a5, rfl, w⟩ := w
  obtain ⟨fs, r6, hh, hv, w⟩ := w
  refine V_get X flX11_310 dX11_state_11 hh hv ?_
  obtain ⟨a7, rfl, w⟩ := w
  obtain ⟨fs, x8, hh, hv, w⟩ := w
  refine V_get3 X frX11_187 dX11_state_14 hh hv ?_
  exact V.vx (V_iret X rfl dX11_state_17 (Nat.le_of_ble_eq_true rfl) (Nat.le_of_ble_eq_true rfl) w)
theorem cX11_state_ok {l : Launch} {G : gG} {h : gH} (hls : l.stackTraces = false) {Qn : Int32 → gH → Prop} {Qx : String → gH → Prop} {v0 : Nat} (w : vX11_state G.2.2.1 Qn Qx h v0) : gXi l yX11_state cX11_state 1 (some FieldType.int) rmX11_state rmX11_state.cells rmX11_state.slots G h [.ref v0] Qn Qx := by
  exact gXi.of (by decide +kernel) hls (Nat.le_of_ble_eq_true rfl) rfl rfl (fun p e s m below meth c A X hT => tX11_state X hT w)
/-! AnimationController.target()I -/
abbrev rmX11_target : Room := { frames := 0, cells := 0, slots := 0, locals := 0 }
def vX11_target_b27 (t0 : Nat)  (Qn : Int32 → gH → Prop) (h : gH) (s0 : Int32) : Prop := Qn s0 h
set_option maxRecDepth 100000 in
set_option maxHeartbeats 4000000 in
theorem tX11_target_b27 {p : Program} {l : Launch} {e : Env} {s : State} {m : MethodId} {args : Array Value} {below : List Frame} {meth : Method} {c : Code} {G : gG} {A : Nat → Prop} {Qn : Int32 → gH → Prop} (X : gC p l s m args meth c G A cX11_target 1 (some FieldType.int) RX11)   {h : gH} {s0 : Int32} (w : vX11_target_b27 G.2.2.1  Qn h s0) : V p l e rmX11_target s m args below meth c (MQ below (va_Qi Qn (gB G A) A) args s rmX11_target.cells rmX11_target.slots A) G A 1 h 0 0 27 [] [.int s0] := by
  exact V_iret X rfl dX11_target_27 (Nat.le_of_ble_eq_true rfl) (Nat.le_of_ble_eq_true rfl) w
def vX11_target (t0 : Nat)  (Qn : Int32 → gH → Prop) (h : gH) (v0 : Nat) : Prop := gr h v0 14 2 (fun r1 => nn r1 (fun a2 => gr h a2 6 4 (fun r3 => ((r3) = none → (vX11_target_b27 t0  Qn h (-1))) ∧ (∀ a4 : Nat, (r3) = some a4 → (gr h v0 14 2 (fun r5 => nn r5 (fun a6 => gr h a6 6 3 (fun r7 => nn r7 (fun a8 => gr h a8 11 0 (fun r9 => nn r9 (fun a10 => gi h a10 10 0 (fun x11 => vX11_target_b27 t0  Qn h x11))))))))))))
set_option maxRecDepth 100000 in
set_option maxHeartbeats 4000000 in
theorem tX11_target {p : Program} {l : Launch} {e : Env} {s : State} {m : MethodId} {args : Array Value} {below : List Frame} {meth : Method} {c : Code} {G : gG} {A : Nat → Prop} {Qn : Int32 → gH → Prop} (X : gC p l s m args meth c G A cX11_target 1 (some FieldType.int) RX11)   {h : gH} {v0 : Nat} (w : vX11_target G.2.2.1  Qn h v0) : V p l e rmX11_target s m args below meth c (MQ below (va_Qi Qn (gB G A) A) args s rmX11_target.cells rmX11_target.slots A) G A 1 h 0 0 0 [(0, .ref v0)] [] := by
  refine V_aloadr_n X dX11_target_0 0 rfl ?_
  obtain ⟨fs, r1, hh, hv, w⟩ := w
  refine V_get X flX11_28 dX11_target_1 hh hv ?_
  obtain ⟨a2, rfl, w⟩ := w
  obtain ⟨fs, r3, hh, hv, w⟩ := w
  refine V_get X flX11_315 dX11_target_4 hh hv ?_
  obtain ⟨w1, w2⟩ := w
  refine V_ifnonnull (tgt := 14) X dX11_target_7 (by decide) (fun a4 z => ?_) (fun z => ?_)
  · replace w := w2 a4 z
    clear w1 w2
    subst z
    refine V_aloadr_n X dX11_target_14 0 rfl ?_
    obtain ⟨fs, r5, hh, hv, w⟩ := w
    refine V_get X flX11_28 dX11_target_15 hh hv ?_
    obtain ⟨a6, rfl, w⟩ := w
    obtain ⟨fs, r7, hh, hv, w⟩ := w
    refine V_get3 X frX11_319 dX11_target_18 hh hv ?_
    obtain ⟨a8, rfl, w⟩ := w
    obtain ⟨fs, r9, hh, hv, w⟩ := w
    refine V_get X flX11_310 dX11_target_21 hh hv ?_
    obtain ⟨a10, rfl, w⟩ := w
    obtain ⟨fs, x11, hh, hv, w⟩ := w
    refine V_get3 X frX11_187 dX11_target_24 hh hv ?_
    exact V.sub [] rfl (tX11_target_b27 X  w)
  · replace w := w1 z
    clear w1 w2
    subst z
    refine V_iconst (y := (-1)) X dX11_target_10 (by decide) ?_
    refine V_goto (tgt := 27) X dX11_target_11 (by decide) ?_
    exact V.sub [] rfl (tX11_target_b27 X  w)
theorem cX11_target_ok {l : Launch} {G : gG} {h : gH} (hls : l.stackTraces = false) {Qn : Int32 → gH → Prop} {v0 : Nat} (w : vX11_target G.2.2.1 Qn h v0) : gMi l yX11_target cX11_target 1 (some FieldType.int) rmX11_target rmX11_target.cells rmX11_target.slots G h [.ref v0] Qn := by
  exact gMi.of (by decide +kernel) hls (Nat.le_of_ble_eq_true rfl) rfl rfl (fun p e s m below meth c A X hnm => tX11_target X w)
/-! AnimationController.transition()I -/
abbrev rmX11_transition : Room := { frames := 0, cells := 0, slots := 0, locals := 0 }
def vX11_transition_b24 (t0 : Nat)  (Qn : Int32 → gH → Prop) (h : gH) (s0 : Int32) : Prop := Qn s0 h
set_option maxRecDepth 100000 in
set_option maxHeartbeats 4000000 in
theorem tX11_transition_b24 {p : Program} {l : Launch} {e : Env} {s : State} {m : MethodId} {args : Array Value} {below : List Frame} {meth : Method} {c : Code} {G : gG} {A : Nat → Prop} {Qn : Int32 → gH → Prop} (X : gC p l s m args meth c G A cX11_transition 1 (some FieldType.int) RX11)   {h : gH} {s0 : Int32} (w : vX11_transition_b24 G.2.2.1  Qn h s0) : V p l e rmX11_transition s m args below meth c (MQ below (va_Qi Qn (gB G A) A) args s rmX11_transition.cells rmX11_transition.slots A) G A 1 h 0 0 24 [] [.int s0] := by
  exact V_iret X rfl dX11_transition_24 (Nat.le_of_ble_eq_true rfl) (Nat.le_of_ble_eq_true rfl) w
def vX11_transition (t0 : Nat)  (Qn : Int32 → gH → Prop) (h : gH) (v0 : Nat) : Prop := gr h v0 14 2 (fun r1 => nn r1 (fun a2 => gr h a2 6 4 (fun r3 => ((r3) = none → (vX11_transition_b24 t0  Qn h (-1))) ∧ (∀ a4 : Nat, (r3) = some a4 → (gr h v0 14 2 (fun r5 => nn r5 (fun a6 => gr h a6 6 4 (fun r7 => nn r7 (fun a8 => gi h a8 12 0 (fun x9 => vX11_transition_b24 t0  Qn h x9))))))))))
set_option maxRecDepth 100000 in
set_option maxHeartbeats 4000000 in
theorem tX11_transition {p : Program} {l : Launch} {e : Env} {s : State} {m : MethodId} {args : Array Value} {below : List Frame} {meth : Method} {c : Code} {G : gG} {A : Nat → Prop} {Qn : Int32 → gH → Prop} (X : gC p l s m args meth c G A cX11_transition 1 (some FieldType.int) RX11)   {h : gH} {v0 : Nat} (w : vX11_transition G.2.2.1  Qn h v0) : V p l e rmX11_transition s m args below meth c (MQ below (va_Qi Qn (gB G A) A) args s rmX11_transition.cells rmX11_transition.slots A) G A 1 h 0 0 0 [(0, .ref v0)] [] := by
  refine V_aloadr_n X dX11_transition_0 0 rfl ?_
  obtain ⟨fs, r1, hh, hv, w⟩ := w
  refine V_get X flX11_28 dX11_transition_1 hh hv ?_
  obtain ⟨a2, rfl, w⟩ := w
  obtain ⟨fs, r3, hh, hv, w⟩ := w
  refine V_get X flX11_315 dX11_transition_4 hh hv ?_
  obtain ⟨w1, w2⟩ := w
  refine V_ifnonnull (tgt := 14) X dX11_transition_7 (by decide) (fun a4 z => ?_) (fun z => ?_)
  · replace w := w2 a4 z
    clear w1 w2
    subst z
    refine V_aloadr_n X dX11_transition_14 0 rfl ?_
    obtain ⟨fs, r5, hh, hv, w⟩ := w
    refine V_get X flX11_28 dX11_transition_15 hh hv ?_
    obtain ⟨a6, rfl, w⟩ := w
    obtain ⟨fs, r7, hh, hv, w⟩ := w
    refine V_get X flX11_315 dX11_transition_18 hh hv ?_
    obtain ⟨a8, rfl, w⟩ := w
    obtain ⟨fs, x9, hh, hv, w⟩ := w
    refine V_get3 X frX11_210 dX11_transition_21 hh hv ?_
    exact V.sub [] rfl (tX11_transition_b24 X  w)
  · replace w := w1 z
    clear w1 w2
    subst z
    refine V_iconst (y := (-1)) X dX11_transition_10 (by decide) ?_
    refine V_goto (tgt := 24) X dX11_transition_11 (by decide) ?_
    exact V.sub [] rfl (tX11_transition_b24 X  w)
theorem cX11_transition_ok {l : Launch} {G : gG} {h : gH} (hls : l.stackTraces = false) {Qn : Int32 → gH → Prop} {v0 : Nat} (w : vX11_transition G.2.2.1 Qn h v0) : gMi l yX11_transition cX11_transition 1 (some FieldType.int) rmX11_transition rmX11_transition.cells rmX11_transition.slots G h [.ref v0] Qn := by
  exact gMi.of (by decide +kernel) hls (Nat.le_of_ble_eq_true rfl) rfl rfl (fun p e s m below meth c A X hnm => tX11_transition X w)
/-! AnimationController.elapsed()I -/
abbrev rmX11_elapsed : Room := { frames := 0, cells := 0, slots := 0, locals := 0 }
def vX11_elapsed_b21 (t0 : Nat)  (Qn : Int32 → gH → Prop) (h : gH) (s0 : Int32) : Prop := Qn s0 h
set_option maxRecDepth 100000 in
set_option maxHeartbeats 4000000 in
theorem tX11_elapsed_b21 {p : Program} {l : Launch} {e : Env} {s : State} {m : MethodId} {args : Array Value} {below : List Frame} {meth : Method} {c : Code} {G : gG} {A : Nat → Prop} {Qn : Int32 → gH → Prop} (X : gC p l s m args meth c G A cX11_elapsed 1 (some FieldType.int) RX11)   {h : gH} {s0 : Int32} (w : vX11_elapsed_b21 G.2.2.1  Qn h s0) : V p l e rmX11_elapsed s m args below meth c (MQ below (va_Qi Qn (gB G A) A) args s rmX11_elapsed.cells rmX11_elapsed.slots A) G A 1 h 0 0 21 [] [.int s0] := by
  exact V_iret X rfl dX11_elapsed_21 (Nat.le_of_ble_eq_true rfl) (Nat.le_of_ble_eq_true rfl) w
def vX11_elapsed (t0 : Nat)  (Qn : Int32 → gH → Prop) (h : gH) (v0 : Nat) : Prop := gr h v0 14 2 (fun r1 => nn r1 (fun a2 => gr h a2 6 4 (fun r3 => ((r3) = none → (vX11_elapsed_b21 t0  Qn h (-1))) ∧ (∀ a4 : Nat, (r3) = some a4 → (gr h v0 14 2 (fun r5 => nn r5 (fun a6 => gi h a6 6 5 (fun x7 => vX11_elapsed_b21 t0  Qn h x7))))))))
set_option maxRecDepth 100000 in
set_option maxHeartbeats 4000000 in
theorem tX11_elapsed {p : Program} {l : Launch} {e : Env} {s : State} {m : MethodId} {args : Array Value} {below : List Frame} {meth : Method} {c : Code} {G : gG} {A : Nat → Prop} {Qn : Int32 → gH → Prop} (X : gC p l s m args meth c G A cX11_elapsed 1 (some FieldType.int) RX11)   {h : gH} {v0 : Nat} (w : vX11_elapsed G.2.2.1  Qn h v0) : V p l e rmX11_elapsed s m args below meth c (MQ below (va_Qi Qn (gB G A) A) args s rmX11_elapsed.cells rmX11_elapsed.slots A) G A 1 h 0 0 0 [(0, .ref v0)] [] := by
  refine V_aloadr_n X dX11_elapsed_0 0 rfl ?_
  obtain ⟨fs, r1, hh, hv, w⟩ := w
  refine V_get X flX11_28 dX11_elapsed_1 hh hv ?_
  obtain ⟨a2, rfl, w⟩ := w
  obtain ⟨fs, r3, hh, hv, w⟩ := w
  refine V_get X flX11_315 dX11_elapsed_4 hh hv ?_
  obtain ⟨w1, w2⟩ := w
  refine V_ifnonnull (tgt := 14) X dX11_elapsed_7 (by decide) (fun a4 z => ?_) (fun z => ?_)
  · replace w := w2 a4 z
    clear w1 w2
    subst z
    refine V_aloadr_n X dX11_elapsed_14 0 rfl ?_
    obtain ⟨fs, r5, hh, hv, w⟩ := w
    refine V_get X flX11_28 dX11_elapsed_15 hh hv ?_
    obtain ⟨a6, rfl, w⟩ := w
    obtain ⟨fs, x7, hh, hv, w⟩ := w
    refine V_get X flX11_322 dX11_elapsed_18 hh hv ?_
    exact V.sub [] rfl (tX11_elapsed_b21 X  w)
  · replace w := w1 z
    clear w1 w2
    subst z
    refine V_iconst (y := (-1)) X dX11_elapsed_10 (by decide) ?_
    refine V_goto (tgt := 21) X dX11_elapsed_11 (by decide) ?_
    exact V.sub [] rfl (tX11_elapsed_b21 X  w)
theorem cX11_elapsed_ok {l : Launch} {G : gG} {h : gH} (hls : l.stackTraces = false) {Qn : Int32 → gH → Prop} {v0 : Nat} (w : vX11_elapsed G.2.2.1 Qn h v0) : gMi l yX11_elapsed cX11_elapsed 1 (some FieldType.int) rmX11_elapsed rmX11_elapsed.cells rmX11_elapsed.slots G h [.ref v0] Qn := by
  exact gMi.of (by decide +kernel) hls (Nat.le_of_ble_eq_true rfl) rfl rfl (fun p e s m below meth c A X hnm => tX11_elapsed X w)
/-! AnimationController.isFrozen()Z -/
abbrev rmX11_isFrozen : Room := { frames := 0, cells := 0, slots := 0, locals := 0 }
def vX11_isFrozen (t0 : Nat)  (Qn : Int32 → gH → Prop) (h : gH) (v0 : Nat) : Prop := gr h v0 14 2 (fun r1 => nn r1 (fun a2 => gi h a2 6 6 (fun x3 => gZ x3 ∧ Qn x3 h)))
set_option maxRecDepth 100000 in
set_option maxHeartbeats 4000000 in
theorem tX11_isFrozen {p : Program} {l : Launch} {e : Env} {s : State} {m : MethodId} {args : Array Value} {below : List Frame} {meth : Method} {c : Code} {G : gG} {A : Nat → Prop} {Qn : Int32 → gH → Prop} (X : gC p l s m args meth c G A cX11_isFrozen 1 (some FieldType.boolean) RX11)   {h : gH} {v0 : Nat} (w : vX11_isFrozen G.2.2.1  Qn h v0) : V p l e rmX11_isFrozen s m args below meth c (MQ below (va_Qi Qn (gB G A) A) args s rmX11_isFrozen.cells rmX11_isFrozen.slots A) G A 1 h 0 0 0 [(0, .ref v0)] [] := by
  refine V_aloadr_n X dX11_isFrozen_0 0 rfl ?_
  obtain ⟨fs, r1, hh, hv, w⟩ := w
  refine V_get X flX11_28 dX11_isFrozen_1 hh hv ?_
  obtain ⟨a2, rfl, w⟩ := w
  obtain ⟨fs, x3, hh, hv, w⟩ := w
  refine V_get X flX11_325 dX11_isFrozen_4 hh hv ?_
  obtain ⟨hz, w⟩ := w
  exact V_zret X rfl hz.1 dX11_isFrozen_7 (Nat.le_of_ble_eq_true rfl) (Nat.le_of_ble_eq_true rfl) w
theorem cX11_isFrozen_ok {l : Launch} {G : gG} {h : gH} (hls : l.stackTraces = false) {Qn : Int32 → gH → Prop} {v0 : Nat} (w : vX11_isFrozen G.2.2.1 Qn h v0) : gMi l yX11_isFrozen cX11_isFrozen 1 (some FieldType.boolean) rmX11_isFrozen rmX11_isFrozen.cells rmX11_isFrozen.slots G h [.ref v0] Qn := by
  exact gMi.of (by decide +kernel) hls (Nat.le_of_ble_eq_true rfl) rfl rfl (fun p e s m below meth c A X hnm => tX11_isFrozen X w)
/-! AnimationController.progress(Z)J -/
abbrev rmX11_progress : Room := { frames := 7, cells := 2, slots := 12, locals := 110 }
def vX11_progress (t0 : Nat)  (Qn : Int64 → gH → Prop) (Qx : String → gH → Prop) (h : gH) (v0 : Nat) (v1 : Int32) : Prop := io h v0 14 (vX11_requireStates t0 (fun h1 => ((¬ (v1 : Int32) = 0) → (gr h1 v0 14 2 (fun r2 => nn r2 (fun a3 => gr h1 a3 6 4 (fun r4 => ((r4) = none → (Qx "java/lang/IllegalStateException" h1)) ∧ (∀ a5 : Nat, (r4) = some a5 → (gr h1 v0 14 2 (fun r6 => nn r6 (fun a7 => gr h1 a7 6 3 (fun r8 => nn r8 (fun a9 => io h1 a9 11 (vX8_progressNow t0 (fun x11 h10 => Qn x11 h10) h1 a9 )))))))))))) ∧ (((v1 : Int32) = 0) → (gr h1 v0 14 2 (fun r12 => nn r12 (fun a13 => gr h1 a13 6 2 (fun r14 => nn r14 (fun a15 => io h1 a15 11 (vX8_progressNow t0 (fun x17 h16 => Qn x17 h16) h1 a15 )))))))) Qx h v0 )
set_option maxRecDepth 100000 in
set_option maxHeartbeats 4000000 in
theorem tX11_progress {p : Program} {l : Launch} {e : Env} {s : State} {m : MethodId} {args : Array Value} {below : List Frame} {meth : Method} {c : Code} {G : gG} {A : Nat → Prop} {Qn : Int64 → gH → Prop} {Qx : String → gH → Prop} (X : gC p l s m args meth c G A cX11_progress 2 (some FieldType.long) RX11) (hT : ∀ x ∈ c.exceptionTable.toList, False)   {h : gH} {v0 : Nat} {v1 : Int32} (w : vX11_progress G.2.2.1  Qn Qx h v0 v1) : V p l e rmX11_progress s m args below meth c (vx_MQ below (va_Ql Qn (gB G A) A) (gXC G A Qx) args s rmX11_progress.cells rmX11_progress.slots A) G A 2 h 0 0 0 [(0, .ref v0), (1, .int v1)] [] := by
  refine V_aloadr_n X dX11_progress_0 0 rfl ?_
  obtain ⟨fs, hh, w⟩ := w
  refine V_callXv (As := []) (rest := []) (k1 := 1) (n1 := 6) X (cX11_requireStates_ok X.2.2.2.2.2.2.2.2.1 w) lkX11_275 hh (q9 := (RX11, TX11, 7)) rfl rfl dX11_progress_1 hT ⟨Nat.le_of_ble_eq_true rfl, Nat.le_of_ble_eq_true rfl⟩ rfl (Nat.le_of_ble_eq_true rfl) ⟨Nat.le_of_ble_eq_true rfl, Nat.le_of_ble_eq_true rfl⟩ (Nat.le_of_ble_eq_true rfl) (Nat.le_of_ble_eq_true rfl) (Nat.le_of_ble_eq_true rfl) (Nat.le_of_ble_eq_true rfl) (fun h1 w9 => ?_)
  replace w := w9
  clear w9
  refine V_iload_n X dX11_progress_4 1 rfl ?_
  obtain ⟨w1, w2⟩ := w
  refine V_if_ne (tgt := 19) X dX11_progress_5 (by decide) (fun z => ?_) (fun z => ?_)
  · replace w := w1 z
    clear w1 w2
    refine V_aloadr_n X dX11_progress_19 0 rfl ?_
    obtain ⟨fs, r2, hh, hv, w⟩ := w
    refine V_get X flX11_28 dX11_progress_20 hh hv ?_
    obtain ⟨a3, rfl, w⟩ := w
    obtain ⟨fs, r4, hh, hv, w⟩ := w
    refine V_get X flX11_315 dX11_progress_23 hh hv ?_
    obtain ⟨w1, w2⟩ := w
    refine V_ifnonnull (tgt := 40) X dX11_progress_26 (by decide) (fun a5 z => ?_) (fun z => ?_)
    · replace w := w2 a5 z
      clear w1 w2
      subst z
      refine V_aloadr_n X dX11_progress_40 0 rfl ?_
      obtain ⟨fs, r6, hh, hv, w⟩ := w
      refine V_get X flX11_28 dX11_progress_41 hh hv ?_
      obtain ⟨a7, rfl, w⟩ := w
      obtain ⟨fs, r8, hh, hv, w⟩ := w
      refine V_get3 X frX11_319 dX11_progress_44 hh hv ?_
      obtain ⟨a9, rfl, w⟩ := w
      obtain ⟨fs, hh, w⟩ := w
      refine V_callVl (As := []) (rest := []) (k1 := 1) (n1 := 6) X (cX8_progressNow_ok X.2.2.2.2.2.2.2.2.1 w) lkX11_328 hh (q9 := (RX8, TX8, 6)) rfl rfl dX11_progress_47 ⟨Nat.le_of_ble_eq_true rfl, Nat.le_of_ble_eq_true rfl⟩ rfl (Nat.le_of_ble_eq_true rfl) ⟨Nat.le_of_ble_eq_true rfl, Nat.le_of_ble_eq_true rfl⟩ (Nat.le_of_ble_eq_true rfl) (Nat.le_of_ble_eq_true rfl) (fun x11 h10 w9 => ?_)
      replace w := w9
      clear w9
      exact V.vx (V_lret X rfl dX11_progress_50 (Nat.le_of_ble_eq_true rfl) (Nat.le_of_ble_eq_true rfl) w)
    · replace w := w1 z
      clear w1 w2
      subst z
      exact V_throwW X thX11_332_61 dX11_progress_29 dX11_progress_32 dX11_progress_33 dX11_progress_36 dX11_progress_39 hT ⟨(Nat.le_of_ble_eq_true rfl), (Nat.le_of_ble_eq_true rfl), (Nat.le_of_ble_eq_true rfl), (Nat.le_of_ble_eq_true rfl)⟩ (Nat.le_of_ble_eq_true rfl) (Nat.le_of_ble_eq_true rfl) w
  · replace w := w2 z
    clear w1 w2
    refine V_aloadr_n X dX11_progress_8 0 rfl ?_
    obtain ⟨fs, r12, hh, hv, w⟩ := w
    refine V_get X flX11_28 dX11_progress_9 hh hv ?_
    obtain ⟨a13, rfl, w⟩ := w
    obtain ⟨fs, r14, hh, hv, w⟩ := w
    refine V_get3 X frX11_306 dX11_progress_12 hh hv ?_
    obtain ⟨a15, rfl, w⟩ := w
    obtain ⟨fs, hh, w⟩ := w
    refine V_callVl (As := []) (rest := []) (k1 := 1) (n1 := 6) X (cX8_progressNow_ok X.2.2.2.2.2.2.2.2.1 w) lkX11_328 hh (q9 := (RX8, TX8, 6)) rfl rfl dX11_progress_15 ⟨Nat.le_of_ble_eq_true rfl, Nat.le_of_ble_eq_true rfl⟩ rfl (Nat.le_of_ble_eq_true rfl) ⟨Nat.le_of_ble_eq_true rfl, Nat.le_of_ble_eq_true rfl⟩ (Nat.le_of_ble_eq_true rfl) (Nat.le_of_ble_eq_true rfl) (fun x17 h16 w9 => ?_)
    replace w := w9
    clear w9
    exact V.vx (V_lret X rfl dX11_progress_18 (Nat.le_of_ble_eq_true rfl) (Nat.le_of_ble_eq_true rfl) w)
theorem cX11_progress_ok {l : Launch} {G : gG} {h : gH} (hls : l.stackTraces = false) {Qn : Int64 → gH → Prop} {Qx : String → gH → Prop} {v0 : Nat} {v1 : Int32} (w : vX11_progress G.2.2.1 Qn Qx h v0 v1) : gXl l yX11_progress cX11_progress 2 (some FieldType.long) rmX11_progress rmX11_progress.cells rmX11_progress.slots G h [.ref v0, .int v1] Qn Qx := by
  exact gXl.of (by decide +kernel) hls (Nat.le_of_ble_eq_true rfl) rfl rfl (fun p e s m below meth c A X hT => tX11_progress X hT w)
/-! AnimationController.stateLength(I)I -/
abbrev rmX11_stateLength : Room := { frames := 10, cells := 1, slots := 6, locals := 257 }
def vX11_stateLength (t0 : Nat)  (Qn : Int32 → gH → Prop) (Qx : String → gH → Prop) (h : gH) (v0 : Nat) (v1 : Int32) : Prop := gr h v0 14 2 (fun r1 => io h v0 14 (vX11_stateAt t0 (fun r3 h2 => nn r1 (fun a4 => io h2 a4 6 (vX3_lengthOf t0 (fun x6 h5 => Qn x6 h5) h2 a4 r3))) Qx h v0 v1))
set_option maxRecDepth 100000 in
set_option maxHeartbeats 4000000 in
theorem tX11_stateLength {p : Program} {l : Launch} {e : Env} {s : State} {m : MethodId} {args : Array Value} {below : List Frame} {meth : Method} {c : Code} {G : gG} {A : Nat → Prop} {Qn : Int32 → gH → Prop} {Qx : String → gH → Prop} (X : gC p l s m args meth c G A cX11_stateLength 2 (some FieldType.int) RX11) (hT : ∀ x ∈ c.exceptionTable.toList, False)   {h : gH} {v0 : Nat} {v1 : Int32} (w : vX11_stateLength G.2.2.1  Qn Qx h v0 v1) : V p l e rmX11_stateLength s m args below meth c (vx_MQ below (va_Qi Qn (gB G A) A) (gXC G A Qx) args s rmX11_stateLength.cells rmX11_stateLength.slots A) G A 2 h 0 0 0 [(0, .ref v0), (1, .int v1)] [] := by
  refine V_aloadr_n X dX11_stateLength_0 0 rfl ?_
  obtain ⟨fs, r1, hh, hv, w⟩ := w
  refine V_get X flX11_28 dX11_stateLength_1 hh hv ?_
  refine V_aloadr_n X dX11_stateLength_4 0 rfl ?_
  refine V_iload_n X dX11_stateLength_5 1 rfl ?_
  obtain ⟨fs, hh, w⟩ := w
  refine V_callXq (As := [.int v1]) (rest := [va_rf r1]) (k1 := 1) (n1 := 6) X (cX11_stateAt_ok X.2.2.2.2.2.2.2.2.1 w) lkX11_190 hh (q9 := (RX11, TX11, 7)) rfl rfl dX11_stateLength_6 hT ⟨Nat.le_of_ble_eq_true rfl, Nat.le_of_ble_eq_true rfl⟩ rfl (va_len _ 4 (Nat.le_of_ble_eq_true rfl)) ⟨Nat.le_of_ble_eq_true rfl, Nat.le_of_ble_eq_true rfl⟩ (Nat.le_of_ble_eq_true rfl) (Nat.le_of_ble_eq_true rfl) (Nat.le_of_ble_eq_true rfl) (Nat.le_of_ble_eq_true rfl) (fun r3 h2 w9 => ?_)
  replace w := w9
  clear w9
  obtain ⟨a4, rfl, w⟩ := w
  obtain ⟨fs, hh, w⟩ := w
  refine V_callVi (As := [va_rf r3]) (rest := []) (k1 := 1) (n1 := 6) X (cX3_lengthOf_ok X.2.2.2.2.2.2.2.2.1 w) lkX11_334 hh (q9 := (RX3, TX3, 13)) rfl rfl dX11_stateLength_9 ⟨Nat.le_of_ble_eq_true rfl, Nat.le_of_ble_eq_true rfl⟩ rfl (Nat.le_of_ble_eq_true rfl) ⟨Nat.le_of_ble_eq_true rfl, Nat.le_of_ble_eq_true rfl⟩ (Nat.le_of_ble_eq_true rfl) (Nat.le_of_ble_eq_true rfl) (fun x6 h5 w9 => ?_)
  replace w := w9
  clear w9
  exact V.vx (V_iret X rfl dX11_stateLength_12 (Nat.le_of_ble_eq_true rfl) (Nat.le_of_ble_eq_true rfl) w)
theorem cX11_stateLength_ok {l : Launch} {G : gG} {h : gH} (hls : l.stackTraces = false) {Qn : Int32 → gH → Prop} {Qx : String → gH → Prop} {v0 : Nat} {v1 : Int32} (w : vX11_stateLength G.2.2.1 Qn Qx h v0 v1) : gXi l yX11_stateLength cX11_stateLength 2 (some FieldType.int) rmX11_stateLength rmX11_stateLength.cells rmX11_stateLength.slots G h [.ref v0, .int v1] Qn Qx := by
  exact gXi.of (by decide +kernel) hls (Nat.le_of_ble_eq_true rfl) rfl rfl (fun p e s m below meth c A X hT => tX11_stateLength X hT w)
/-! AnimationController.partWeight(II)I -/
abbrev rmX11_partWeight : Room := { frames := 9, cells := 2, slots := 12, locals := 233 }
def vX11_partWeight (t0 : Nat)  (Qn : Int32 → gH → Prop) (Qx : String → gH → Prop) (h : gH) (v0 : Nat) (v1 : Int32) (v2 : Int32) : Prop := io h v0 14 (vX11_stateAt t0 (fun r2 h1 => io h1 v0 14 (vX11_clipAt t0 (fun r4 h3 => gr h3 v0 14 2 (fun r5 => nn r5 (fun a6 => gr h3 a6 6 11 (fun r7 => nn r2 (fun a8 => gr h3 a8 10 1 (fun r9 => gr h3 v0 14 2 (fun r10 => nn r10 (fun a11 => gr h3 a11 6 1 (fun r12 => nn r7 (fun a13 => io h3 a13 3 (vX0_fill t0 (fun h14 => gr h14 v0 14 2 (fun r15 => nn r15 (fun a16 => gr h14 a16 6 11 (fun r17 => nn r4 (fun a18 => gi h14 a18 4 0 (fun x19 => nn r17 (fun a20 => io h14 a20 3 (vX0_weightOf t0 (fun x22 h21 => Qn x22 h21) h14 a20 x19)))))))) h3 a13 r9 1000000 r12))))))))))) Qx h1 v0 v2)) Qx h v0 v1)
set_option maxRecDepth 100000 in
set_option maxHeartbeats 4000000 in
theorem tX11_partWeight {p : Program} {l : Launch} {e : Env} {s : State} {m : MethodId} {args : Array Value} {below : List Frame} {meth : Method} {c : Code} {G : gG} {A : Nat → Prop} {Qn : Int32 → gH → Prop} {Qx : String → gH → Prop} (X : gC p l s m args meth c G A cX11_partWeight 5 (some FieldType.int) RX11) (hT : ∀ x ∈ c.exceptionTable.toList, False)   {h : gH} {v0 : Nat} {v1 : Int32} {v2 : Int32} (w : vX11_partWeight G.2.2.1  Qn Qx h v0 v1 v2) : V p l e rmX11_partWeight s m args below meth c (vx_MQ below (va_Qi Qn (gB G A) A) (gXC G A Qx) args s rmX11_partWeight.cells rmX11_partWeight.slots A) G A 5 h 0 0 0 [(0, .ref v0), (1, .int v1), (2, .int v2)] [] := by
  refine V_aloadr_n X dX11_partWeight_0 0 rfl ?_
  refine V_iload_n X dX11_partWeight_1 1 rfl ?_
  obtain ⟨fs, hh, w⟩ := w
  refine V_callXq (As := [.int v1]) (rest := []) (k1 := 1) (n1 := 6) X (cX11_stateAt_ok X.2.2.2.2.2.2.2.2.1 w) lkX11_190 hh (q9 := (RX11, TX11, 7)) rfl rfl dX11_partWeight_2 hT ⟨Nat.le_of_ble_eq_true rfl, Nat.le_of_ble_eq_true rfl⟩ rfl (Nat.le_of_ble_eq_true rfl) ⟨Nat.le_of_ble_eq_true rfl, Nat.le_of_ble_eq_true rfl⟩ (Nat.le_of_ble_eq_true rfl) (Nat.le_of_ble_eq_true rfl) (Nat.le_of_ble_eq_true rfl) (Nat.le_of_ble_eq_true rfl) (fun r2 h1 w9 => ?_)
  replace w := w9
  clear w9
  refine V_astoreq_n (i0 := 3) X dX11_partWeight_5 rfl (by decide) rfl ?_
  refine V_aloadr_n X dX11_partWeight_6 1 rfl ?_
  refine V_iload_n X dX11_partWeight_7 3 rfl ?_
  obtain ⟨fs, hh, w⟩ := w
  refine V_callXq (As := [.int v2]) (rest := []) (k1 := 2) (n1 := 12) X (cX11_clipAt_ok X.2.2.2.2.2.2.2.2.1 w) lkX11_106 hh (q9 := (RX11, TX11, 7)) rfl rfl dX11_partWeight_8 hT ⟨Nat.le_of_ble_eq_true rfl, Nat.le_of_ble_eq_true rfl⟩ rfl (Nat.le_of_ble_eq_true rfl) ⟨Nat.le_of_ble_eq_true rfl, Nat.le_of_ble_eq_true rfl⟩ (Nat.le_of_ble_eq_true rfl) (Nat.le_of_ble_eq_true rfl) (Nat.le_of_ble_eq_true rfl) (Nat.le_of_ble_eq_true rfl) (fun r4 h3 w9 => ?_)
  replace w := w9
  clear w9
  refine V_astoreq X dX11_partWeight_11 (by decide) (by simp [va_cat1] <;> rfl) ?_
  refine V_aloadr_n X dX11_partWeight_13 2 rfl ?_
  obtain ⟨fs, r5, hh, hv, w⟩ := w
  refine V_get X flX11_28 dX11_partWeight_14 hh hv ?_
  obtain ⟨a6, rfl, w⟩ := w
  obtain ⟨fs, r7, hh, hv, w⟩ := w
  refine V_get3 X frX11_338 dX11_partWeight_17 hh hv ?_
  refine V_aload_n X dX11_partWeight_20 1 rfl ?_
  obtain ⟨a8, rfl, w⟩ := w
  obtain ⟨fs, r9, hh, hv, w⟩ := w
  refine V_get3 X frX11_342 dX11_partWeight_21 hh hv ?_
  refine V_ldcw (y := 1000000) X dX11_partWeight_24 kw_1394 ?_
  refine V_aloadr_n X dX11_partWeight_27 2 rfl ?_
  obtain ⟨fs, r10, hh, hv, w⟩ := w
  refine V_get X flX11_28 dX11_partWeight_28 hh hv ?_
  obtain ⟨a11, rfl, w⟩ := w
  obtain ⟨fs, r12, hh, hv, w⟩ := w
  refine V_get3 X frX11_347 dX11_partWeight_31 hh hv ?_
  obtain ⟨a13, rfl, w⟩ := w
  obtain ⟨fs, hh, w⟩ := w
  refine V_callVv (As := [va_rf r9, .int 1000000, va_rf r12]) (rest := []) (k1 := 2) (n1 := 12) X (cX0_fill_ok X.2.2.2.2.2.2.2.2.1 w) lkX11_350 hh (q9 := (RX0, TX0, 1)) rfl rfl dX11_partWeight_34 ⟨Nat.le_of_ble_eq_true rfl, Nat.le_of_ble_eq_true rfl⟩ rfl (Nat.le_of_ble_eq_true rfl) ⟨Nat.le_of_ble_eq_true rfl, Nat.le_of_ble_eq_true rfl⟩ (Nat.le_of_ble_eq_true rfl) (Nat.le_of_ble_eq_true rfl) (fun h14 w9 => ?_)
  replace w := w9
  clear w9
  refine V_aloadr_n X dX11_partWeight_37 2 rfl ?_
  obtain ⟨fs, r15, hh, hv, w⟩ := w
  refine V_get X flX11_28 dX11_partWeight_38 hh hv ?_
  obtain ⟨a16, rfl, w⟩ := w
  obtain ⟨fs, r17, hh, hv, w⟩ := w
  refine V_get3 X frX11_338 dX11_partWeight_41 hh hv ?_
  refine V_aload X dX11_partWeight_44 0 rfl ?_
  obtain ⟨a18, rfl, w⟩ := w
  obtain ⟨fs, x19, hh, hv, w⟩ := w
  refine V_get3 X frX11_356 dX11_partWeight_46 hh hv ?_
  obtain ⟨a20, rfl, w⟩ := w
  obtain ⟨fs, hh, w⟩ := w
  refine V_callVi (As := [.int x19]) (rest := []) (k1 := 2) (n1 := 12) X (cX0_weightOf_ok X.2.2.2.2.2.2.2.2.1 w) lkX11_357 hh (q9 := (RX0, TX0, 1)) rfl rfl dX11_partWeight_49 ⟨Nat.le_of_ble_eq_true rfl, Nat.le_of_ble_eq_true rfl⟩ rfl (Nat.le_of_ble_eq_true rfl) ⟨Nat.le_of_ble_eq_true rfl, Nat.le_of_ble_eq_true rfl⟩ (Nat.le_of_ble_eq_true rfl) (Nat.le_of_ble_eq_true rfl) (fun x22 h21 w9 => ?_)
  replace w := w9
  clear w9
  exact V.vx (V_iret X rfl dX11_partWeight_52 (Nat.le_of_ble_eq_true rfl) (Nat.le_of_ble_eq_true rfl) w)
theorem cX11_partWeight_ok {l : Launch} {G : gG} {h : gH} (hls : l.stackTraces = false) {Qn : Int32 → gH → Prop} {Qx : String → gH → Prop} {v0 : Nat} {v1 : Int32} {v2 : Int32} (w : vX11_partWeight G.2.2.1 Qn Qx h v0 v1 v2) : gXi l yX11_partWeight cX11_partWeight 5 (some FieldType.int) rmX11_partWeight rmX11_partWeight.cells rmX11_partWeight.slots G h [.ref v0, .int v1, .int v2] Qn Qx := by
  exact gXi.of (by decide +kernel) hls (Nat.le_of_ble_eq_true rfl) rfl rfl (fun p e s m below meth c A X hT => tX11_partWeight X hT w)
/-! AnimationController.presentPose()LAnimationController$Pose; -/
abbrev rmX11_presentPose : Room := { frames := 11, cells := 0, slots := 0, locals := 279 }
def vX11_presentPose_b34 (t0 : Nat)  (Qn : Option Nat → gH → Prop) (h : gH) (v0 : Nat) : Prop := gr h v0 14 2 (fun r1 => nn r1 (fun a2 => gr h a2 6 12 (fun r3 => Qn r3 h)))
set_option maxRecDepth 100000 in
set_option maxHeartbeats 4000000 in
theorem tX11_presentPose_b34 {p : Program} {l : Launch} {e : Env} {s : State} {m : MethodId} {args : Array Value} {below : List Frame} {meth : Method} {c : Code} {G : gG} {A : Nat → Prop} {Qn : Option Nat → gH → Prop} (X : gC p l s m args meth c G A cX11_presentPose 1 (some (FieldType.object "AnimationController$Pose")) RX11)   {h : gH} {v0 : Nat} (w : vX11_presentPose_b34 G.2.2.1  Qn h v0) : V p l e rmX11_presentPose s m args below meth c (MQ below (va_Qq Qn (gB G A) A) args s rmX11_presentPose.cells rmX11_presentPose.slots A) G A 1 h 0 0 34 [(0, .ref v0)] [] := by
  refine V_aloadr_n X dX11_presentPose_34 0 rfl ?_
  obtain ⟨fs, r1, hh, hv, w⟩ := w
  refine V_get X flX11_28 dX11_presentPose_35 hh hv ?_
  obtain ⟨a2, rfl, w⟩ := w
  obtain ⟨fs, r3, hh, hv, w⟩ := w
  refine V_get3 X frX11_440 dX11_presentPose_38 hh hv ?_
  exact V_aret (x := r3) X rfl (Or.inl ⟨_, rfl⟩) dX11_presentPose_41 (Nat.le_of_ble_eq_true rfl) (Nat.le_of_ble_eq_true rfl) w
def vX11_presentPose (t0 : Nat)  (Qn : Option Nat → gH → Prop) (h : gH) (v0 : Nat) : Prop := gr h v0 14 0 (fun r1 => nn r1 (fun a2 => gr h a2 7 4 (fun r3 => nn r3 (fun a4 => io h a4 2 (vJx4a65c_isEmpty_aae02 t0 (fun x6 h5 => (((x6 : Int32) = 0) → (gr h5 v0 14 2 (fun r7 => nn r7 (fun a8 => io h5 a8 6 (vX3_fillPose t0 (fun h9 => vX11_presentPose_b34 t0  Qn h9 v0) h5 a8 ))))) ∧ ((¬ (x6 : Int32) = 0) → (gr h5 v0 14 2 (fun r10 => nn r10 (fun a11 => gr h5 a11 6 12 (fun r12 => nn r12 (fun a13 => pv h5 a13 9 3 (.int 0) (fun h14 => vX11_presentPose_b34 t0  Qn h14 v0)))))))) h a4 )))))
set_option maxRecDepth 100000 in
set_option maxHeartbeats 4000000 in
theorem tX11_presentPose {p : Program} {l : Launch} {e : Env} {s : State} {m : MethodId} {args : Array Value} {below : List Frame} {meth : Method} {c : Code} {G : gG} {A : Nat → Prop} {Qn : Option Nat → gH → Prop} (X : gC p l s m args meth c G A cX11_presentPose 1 (some (FieldType.object "AnimationController$Pose")) RX11)   {h : gH} {v0 : Nat} (w : vX11_presentPose G.2.2.1  Qn h v0) : V p l e rmX11_presentPose s m args below meth c (MQ below (va_Qq Qn (gB G A) A) args s rmX11_presentPose.cells rmX11_presentPose.slots A) G A 1 h 0 0 0 [(0, .ref v0)] [] := by
  refine V_aloadr_n X dX11_presentPose_0 0 rfl ?_
  obtain ⟨fs, r1, hh, hv, w⟩ := w
  refine V_get X flX11_12 dX11_presentPose_1 hh hv ?_
  obtain ⟨a2, rfl, w⟩ := w
  obtain ⟨fs, r3, hh, hv, w⟩ := w
  refine V_get3 X frX11_173 dX11_presentPose_4 hh hv ?_
  obtain ⟨a4, rfl, w⟩ := w
  obtain ⟨fs, hh, w⟩ := w
  refine V_callVi (As := []) (rest := []) (k1 := 0) (n1 := 0) X (cJx4a65c_isEmpty_aae02_ok X.2.2.2.2.2.2.2.2.1 w) lkX11_296 hh (q9 := (RJx4a65c, TJx4a65c, 3)) rfl rfl dX11_presentPose_7 ⟨Nat.le_of_ble_eq_true rfl, Nat.le_of_ble_eq_true rfl⟩ rfl (Nat.le_of_ble_eq_true rfl) ⟨Nat.le_of_ble_eq_true rfl, Nat.le_of_ble_eq_true rfl⟩ (Nat.le_of_ble_eq_true rfl) (Nat.le_of_ble_eq_true rfl) (fun x6 h5 w9 => ?_)
  replace w := w9
  clear w9
  obtain ⟨w1, w2⟩ := w
  refine V_if_eq (tgt := 27) X dX11_presentPose_10 (by decide) (fun z => ?_) (fun z => ?_)
  · replace w := w1 z
    clear w1 w2
    refine V_aloadr_n X dX11_presentPose_27 0 rfl ?_
    obtain ⟨fs, r7, hh, hv, w⟩ := w
    refine V_get X flX11_28 dX11_presentPose_28 hh hv ?_
    obtain ⟨a8, rfl, w⟩ := w
    obtain ⟨fs, hh, w⟩ := w
    refine V_callVv (As := []) (rest := []) (k1 := 0) (n1 := 0) X (cX3_fillPose_ok X.2.2.2.2.2.2.2.2.1 w) lkX11_444 hh (q9 := (RX3, TX3, 13)) rfl rfl dX11_presentPose_31 ⟨Nat.le_of_ble_eq_true rfl, Nat.le_of_ble_eq_true rfl⟩ rfl (Nat.le_of_ble_eq_true rfl) ⟨Nat.le_of_ble_eq_true rfl, Nat.le_of_ble_eq_true rfl⟩ (Nat.le_of_ble_eq_true rfl) (Nat.le_of_ble_eq_true rfl) (fun h9 w9 => ?_)
    replace w := w9
    clear w9
    exact V.sub [0] rfl (tX11_presentPose_b34 X  w)
  · replace w := w2 z
    clear w1 w2
    refine V_aloadr_n X dX11_presentPose_13 0 rfl ?_
    obtain ⟨fs, r10, hh, hv, w⟩ := w
    refine V_get X flX11_28 dX11_presentPose_14 hh hv ?_
    obtain ⟨a11, rfl, w⟩ := w
    obtain ⟨fs, r12, hh, hv, w⟩ := w
    refine V_get3 X frX11_440 dX11_presentPose_17 hh hv ?_
    refine V_iconst (y := 0) X dX11_presentPose_20 (by decide) ?_
    obtain ⟨a13, rfl, w⟩ := w
    obtain ⟨fs, hh, hv, w⟩ := w
    refine V_put X flX11_372 dX11_presentPose_21 hh hv rfl rfl ?_
    generalize va_up _ _ _ = h14 at w ⊢
    refine V_goto (tgt := 34) X dX11_presentPose_24 (by decide) ?_
    exact V.sub [0] rfl (tX11_presentPose_b34 X  w)
theorem cX11_presentPose_ok {l : Launch} {G : gG} {h : gH} (hls : l.stackTraces = false) {Qn : Option Nat → gH → Prop} {v0 : Nat} (w : vX11_presentPose G.2.2.1 Qn h v0) : gMq l yX11_presentPose cX11_presentPose 1 (some (FieldType.object "AnimationController$Pose")) rmX11_presentPose rmX11_presentPose.cells rmX11_presentPose.slots G h [.ref v0] Qn := by
  exact gMq.of (by decide +kernel) hls (Nat.le_of_ble_eq_true rfl) rfl rfl (fun p e s m below meth c A X hnm => tX11_presentPose X w)
/-! AnimationController.poseSize()I -/
abbrev rmX11_poseSize : Room := { frames := 12, cells := 0, slots := 0, locals := 299 }
def vX11_poseSize (t0 : Nat)  (Qn : Int32 → gH → Prop) (h : gH) (v0 : Nat) : Prop := io h v0 14 (vX11_presentPose t0 (fun r2 h1 => nn r2 (fun a3 => gi h1 a3 9 3 (fun x4 => Qn x4 h1))) h v0 )
set_option maxRecDepth 100000 in
set_option maxHeartbeats 4000000 in
theorem tX11_poseSize {p : Program} {l : Launch} {e : Env} {s : State} {m : MethodId} {args : Array Value} {below : List Frame} {meth : Method} {c : Code} {G : gG} {A : Nat → Prop} {Qn : Int32 → gH → Prop} (X : gC p l s m args meth c G A cX11_poseSize 1 (some FieldType.int) RX11)   {h : gH} {v0 : Nat} (w : vX11_poseSize G.2.2.1  Qn h v0) : V p l e rmX11_poseSize s m args below meth c (MQ below (va_Qi Qn (gB G A) A) args s rmX11_poseSize.cells rmX11_poseSize.slots A) G A 1 h 0 0 0 [(0, .ref v0)] [] := by
  refine V_aloadr_n X dX11_poseSize_0 0 rfl ?_
  obtain ⟨fs, hh, w⟩ := w
  refine V_callVq (As := []) (rest := []) (k1 := 0) (n1 := 0) X (cX11_presentPose_ok X.2.2.2.2.2.2.2.2.1 w) lkX11_368 hh (q9 := (RX11, TX11, 7)) rfl rfl dX11_poseSize_1 ⟨Nat.le_of_ble_eq_true rfl, Nat.le_of_ble_eq_true rfl⟩ rfl (Nat.le_of_ble_eq_true rfl) ⟨Nat.le_of_ble_eq_true rfl, Nat.le_of_ble_eq_true rfl⟩ (Nat.le_of_ble_eq_true rfl) (Nat.le_of_ble_eq_true rfl) (fun r2 h1 w9 => ?_)
  replace w := w9
  clear w9
  obtain ⟨a3, rfl, w⟩ := w
  obtain ⟨fs, x4, hh, hv, w⟩ := w
  refine V_get X flX11_372 dX11_poseSize_4 hh hv ?_
  exact V_iret X rfl dX11_poseSize_7 (Nat.le_of_ble_eq_true rfl) (Nat.le_of_ble_eq_true rfl) w
theorem cX11_poseSize_ok {l : Launch} {G : gG} {h : gH} (hls : l.stackTraces = false) {Qn : Int32 → gH → Prop} {v0 : Nat} (w : vX11_poseSize G.2.2.1 Qn h v0) : gMi l yX11_poseSize cX11_poseSize 1 (some FieldType.int) rmX11_poseSize rmX11_poseSize.cells rmX11_poseSize.slots G h [.ref v0] Qn := by
  exact gMi.of (by decide +kernel) hls (Nat.le_of_ble_eq_true rfl) rfl rfl (fun p e s m below meth c A X hnm => tX11_poseSize X w)
/-! AnimationController.poseClip(I)I -/
abbrev rmX11_poseClip : Room := { frames := 12, cells := 1, slots := 6, locals := 299 }
def vX11_poseClip_b26 (t0 : Nat)  (Qn : Int32 → gH → Prop) (Qx : String → gH → Prop) (h : gH)  : Prop := Qx "java/lang/IndexOutOfBoundsException" h
set_option maxRecDepth 100000 in
set_option maxHeartbeats 4000000 in
theorem tX11_poseClip_b26 {p : Program} {l : Launch} {e : Env} {s : State} {m : MethodId} {args : Array Value} {below : List Frame} {meth : Method} {c : Code} {G : gG} {A : Nat → Prop} {Qn : Int32 → gH → Prop} {Qx : String → gH → Prop} (X : gC p l s m args meth c G A cX11_poseClip 3 (some FieldType.int) RX11) (hT : ∀ x ∈ c.exceptionTable.toList, False)   {h : gH}  (w : vX11_poseClip_b26 G.2.2.1  Qn Qx h ) : V p l e rmX11_poseClip s m args below meth c (vx_MQ below (va_Qi Qn (gB G A) A) (gXC G A Qx) args s rmX11_poseClip.cells rmX11_poseClip.slots A) G A 3 h 0 0 26 [] [] := by
  exact V_throwW X thX11_380_378 dX11_poseClip_26 dX11_poseClip_29 dX11_poseClip_30 dX11_poseClip_33 dX11_poseClip_36 hT ⟨(Nat.le_of_ble_eq_true rfl), (Nat.le_of_ble_eq_true rfl), (Nat.le_of_ble_eq_true rfl), (Nat.le_of_ble_eq_true rfl)⟩ (Nat.le_of_ble_eq_true rfl) (Nat.le_of_ble_eq_true rfl) w
def vX11_poseClip (t0 : Nat)  (Qn : Int32 → gH → Prop) (Qx : String → gH → Prop) (h : gH) (v0 : Nat) (v1 : Int32) : Prop := io h v0 14 (vX11_presentPose t0 (fun r2 h1 => (((v1 : Int32) < 0) → (vX11_poseClip_b26 t0  Qn Qx h1 )) ∧ ((¬ (v1 : Int32) < 0) → (nn r2 (fun a3 => gi h1 a3 9 3 (fun x4 => ((x4 ≤ (v1 : Int32)) → (vX11_poseClip_b26 t0  Qn Qx h1 )) ∧ ((¬ x4 ≤ (v1 : Int32)) → (gr h1 a3 9 0 (fun r5 => nn r5 (fun a6 => al h1 a6 (fun x7 => (((v1 : Int32) < x7) → (gr h1 a3 9 0 (fun r8 => nn r8 (fun a9 => li h1 a9 v1 (fun x10 => Qn x10 h1))))) ∧ ((¬ (v1 : Int32) < x7) → (vX11_poseClip_b26 t0  Qn Qx h1 )))))))))))) h v0 )
set_option maxRecDepth 100000 in
set_option maxHeartbeats 4000000 in
theorem tX11_poseClip {p : Program} {l : Launch} {e : Env} {s : State} {m : MethodId} {args : Array Value} {below : List Frame} {meth : Method} {c : Code} {G : gG} {A : Nat → Prop} {Qn : Int32 → gH → Prop} {Qx : String → gH → Prop} (X : gC p l s m args meth c G A cX11_poseClip 3 (some FieldType.int) RX11) (hT : ∀ x ∈ c.exceptionTable.toList, False)   {h : gH} {v0 : Nat} {v1 : Int32} (w : vX11_poseClip G.2.2.1  Qn Qx h v0 v1) : V p l e rmX11_poseClip s m args below meth c (vx_MQ below (va_Qi Qn (gB G A) A) (gXC G A Qx) args s rmX11_poseClip.cells rmX11_poseClip.slots A) G A 3 h 0 0 0 [(0, .ref v0), (1, .int v1)] [] := by
  refine V_aloadr_n X dX11_poseClip_0 0 rfl ?_
  obtain ⟨fs, hh, w⟩ := w
  refine V_callVq (As := []) (rest := []) (k1 := 0) (n1 := 0) X (cX11_presentPose_ok X.2.2.2.2.2.2.2.2.1 w) lkX11_368 hh (q9 := (RX11, TX11, 7)) rfl rfl dX11_poseClip_1 ⟨Nat.le_of_ble_eq_true rfl, Nat.le_of_ble_eq_true rfl⟩ rfl (Nat.le_of_ble_eq_true rfl) ⟨Nat.le_of_ble_eq_true rfl, Nat.le_of_ble_eq_true rfl⟩ (Nat.le_of_ble_eq_true rfl) (Nat.le_of_ble_eq_true rfl) (fun r2 h1 w9 => ?_)
  replace w := w9
  clear w9
  refine V_astoreq_n (i0 := 2) X dX11_poseClip_4 rfl (by decide) rfl ?_
  refine V_iload_n X dX11_poseClip_5 2 rfl ?_
  obtain ⟨w1, w2⟩ := w
  refine V_if_lt (tgt := 26) X dX11_poseClip_6 (by decide) (fun z => ?_) (fun z => ?_)
  · replace w := w1 z
    clear w1 w2
    exact V.sub [] rfl (tX11_poseClip_b26 X hT  w)
  · replace w := w2 z
    clear w1 w2
    refine V_iload_n X dX11_poseClip_9 2 rfl ?_
    refine V_aload_n X dX11_poseClip_10 0 rfl ?_
    obtain ⟨a3, rfl, w⟩ := w
    obtain ⟨fs, x4, hh, hv, w⟩ := w
    refine V_get X flX11_372 dX11_poseClip_11 hh hv ?_
    obtain ⟨w1, w2⟩ := w
    refine V_icmp_ge (tgt := 26) X dX11_poseClip_14 (by decide) (fun z => ?_) (fun z => ?_)
    · replace w := w1 z
      clear w1 w2
      exact V.sub [] rfl (tX11_poseClip_b26 X hT  w)
    · replace w := w2 z
      clear w1 w2
      refine V_iload_n X dX11_poseClip_17 2 rfl ?_
      refine V_aloadr_n X dX11_poseClip_18 0 rfl ?_
      obtain ⟨fs, r5, hh, hv, w⟩ := w
      refine V_get3 X frX11_376 dX11_poseClip_19 hh hv ?_
      obtain ⟨a6, rfl, w⟩ := w
      obtain ⟨kt9, x9, hh, hk9, w⟩ := w
      refine V_alen X dX11_poseClip_22 hh hk9 ?_
      generalize Int32.ofNat _ = x7 at w ⊢
      obtain ⟨w1, w2⟩ := w
      refine V_icmp_lt (tgt := 37) X dX11_poseClip_23 (by decide) (fun z => ?_) (fun z => ?_)
      · replace w := w1 z
        clear w1 w2
        refine V_aloadr_n X dX11_poseClip_37 0 rfl ?_
        obtain ⟨fs, r8, hh, hv, w⟩ := w
        refine V_get3 X frX11_376 dX11_poseClip_38 hh hv ?_
        refine V_iload_n X dX11_poseClip_41 2 rfl ?_
        obtain ⟨a9, rfl, w⟩ := w
        obtain ⟨N9, g9, hh, hi, w⟩ := w
        refine V_iald X dX11_poseClip_42 hh hi ?_
        generalize g9 _ = x10 at w ⊢
        exact V.vx (V_iret X rfl dX11_poseClip_43 (Nat.le_of_ble_eq_true rfl) (Nat.le_of_ble_eq_true rfl) w)
      · replace w := w2 z
        clear w1 w2
        exact V.sub [] rfl (tX11_poseClip_b26 X hT  w)
theorem cX11_poseClip_ok {l : Launch} {G : gG} {h : gH} (hls : l.stackTraces = false) {Qn : Int32 → gH → Prop} {Qx : String → gH → Prop} {v0 : Nat} {v1 : Int32} (w : vX11_poseClip G.2.2.1 Qn Qx h v0 v1) : gXi l yX11_poseClip cX11_poseClip 3 (some FieldType.int) rmX11_poseClip rmX11_poseClip.cells rmX11_poseClip.slots G h [.ref v0, .int v1] Qn Qx := by
  exact gXi.of (by decide +kernel) hls (Nat.le_of_ble_eq_true rfl) rfl rfl (fun p e s m below meth c A X hT => tX11_poseClip X hT w)
/-! AnimationController.poseTime(I)I -/
abbrev rmX11_poseTime : Room := { frames := 12, cells := 1, slots := 6, locals := 299 }
def vX11_poseTime_b26 (t0 : Nat)  (Qn : Int32 → gH → Prop) (Qx : String → gH → Prop) (h : gH)  : Prop := Qx "java/lang/IndexOutOfBoundsException" h
set_option maxRecDepth 100000 in
set_option maxHeartbeats 4000000 in
theorem tX11_poseTime_b26 {p : Program} {l : Launch} {e : Env} {s : State} {m : MethodId} {args : Array Value} {below : List Frame} {meth : Method} {c : Code} {G : gG} {A : Nat → Prop} {Qn : Int32 → gH → Prop} {Qx : String → gH → Prop} (X : gC p l s m args meth c G A cX11_poseTime 3 (some FieldType.int) RX11) (hT : ∀ x ∈ c.exceptionTable.toList, False)   {h : gH}  (w : vX11_poseTime_b26 G.2.2.1  Qn Qx h ) : V p l e rmX11_poseTime s m args below meth c (vx_MQ below (va_Qi Qn (gB G A) A) (gXC G A Qx) args s rmX11_poseTime.cells rmX11_poseTime.slots A) G A 3 h 0 0 26 [] [] := by
  exact V_throwW X thX11_380_378 dX11_poseTime_26 dX11_poseTime_29 dX11_poseTime_30 dX11_poseTime_33 dX11_poseTime_36 hT ⟨(Nat.le_of_ble_eq_true rfl), (Nat.le_of_ble_eq_true rfl), (Nat.le_of_ble_eq_true rfl), (Nat.le_of_ble_eq_true rfl)⟩ (Nat.le_of_ble_eq_true rfl) (Nat.le_of_ble_eq_true rfl) w
def vX11_poseTime (t0 : Nat)  (Qn : Int32 → gH → Prop) (Qx : String → gH → Prop) (h : gH) (v0 : Nat) (v1 : Int32) : Prop := io h v0 14 (vX11_presentPose t0 (fun r2 h1 => (((v1 : Int32) < 0) → (vX11_poseTime_b26 t0  Qn Qx h1 )) ∧ ((¬ (v1 : Int32) < 0) → (nn r2 (fun a3 => gi h1 a3 9 3 (fun x4 => ((x4 ≤ (v1 : Int32)) → (vX11_poseTime_b26 t0  Qn Qx h1 )) ∧ ((¬ x4 ≤ (v1 : Int32)) → (gr h1 a3 9 1 (fun r5 => nn r5 (fun a6 => al h1 a6 (fun x7 => (((v1 : Int32) < x7) → (gr h1 a3 9 1 (fun r8 => nn r8 (fun a9 => li h1 a9 v1 (fun x10 => Qn x10 h1))))) ∧ ((¬ (v1 : Int32) < x7) → (vX11_poseTime_b26 t0  Qn Qx h1 )))))))))))) h v0 )
set_option maxRecDepth 100000 in
set_option maxHeartbeats 4000000 in
theorem tX11_poseTime {p : Program} {l : Launch} {e : Env} {s : State} {m : MethodId} {args : Array Value} {below : List Frame} {meth : Method} {c : Code} {G : gG} {A : Nat → Prop} {Qn : Int32 → gH → Prop} {Qx : String → gH → Prop} (X : gC p l s m args meth c G A cX11_poseTime 3 (some FieldType.int) RX11) (hT : ∀ x ∈ c.exceptionTable.toList, False)   {h : gH} {v0 : Nat} {v1 : Int32} (w : vX11_poseTime G.2.2.1  Qn Qx h v0 v1) : V p l e rmX11_poseTime s m args below meth c (vx_MQ below (va_Qi Qn (gB G A) A) (gXC G A Qx) args s rmX11_poseTime.cells rmX11_poseTime.slots A) G A 3 h 0 0 0 [(0, .ref v0), (1, .int v1)] [] := by
  refine V_aloadr_n X dX11_poseTime_0 0 rfl ?_
  obtain ⟨fs, hh, w⟩ := w
  refine V_callVq (As := []) (rest := []) (k1 := 0) (n1 := 0) X (cX11_presentPose_ok X.2.2.2.2.2.2.2.2.1 w) lkX11_368 hh (q9 := (RX11, TX11, 7)) rfl rfl dX11_poseTime_1 ⟨Nat.le_of_ble_eq_true rfl, Nat.le_of_ble_eq_true rfl⟩ rfl (Nat.le_of_ble_eq_true rfl) ⟨Nat.le_of_ble_eq_true rfl, Nat.le_of_ble_eq_true rfl⟩ (Nat.le_of_ble_eq_true rfl) (Nat.le_of_ble_eq_true rfl) (fun r2 h1 w9 => ?_)
  replace w := w9
  clear w9
  refine V_astoreq_n (i0 := 2) X dX11_poseTime_4 rfl (by decide) rfl ?_
  refine V_iload_n X dX11_poseTime_5 2 rfl ?_
  obtain ⟨w1, w2⟩ := w
  refine V_if_lt (tgt := 26) X dX11_poseTime_6 (by decide) (fun z => ?_) (fun z => ?_)
  · replace w := w1 z
    clear w1 w2
    exact V.sub [] rfl (tX11_poseTime_b26 X hT  w)
  · replace w := w2 z
    clear w1 w2
    refine V_iload_n X dX11_poseTime_9 2 rfl ?_
    refine V_aload_n X dX11_poseTime_10 0 rfl ?_
    obtain ⟨a3, rfl, w⟩ := w
    obtain ⟨fs, x4, hh, hv, w⟩ := w
    refine V_get X flX11_372 dX11_poseTime_11 hh hv ?_
    obtain ⟨w1, w2⟩ := w
    refine V_icmp_ge (tgt := 26) X dX11_poseTime_14 (by decide) (fun z => ?_) (fun z => ?_)
    · replace w := w1 z
      clear w1 w2
      exact V.sub [] rfl (tX11_poseTime_b26 X hT  w)
    · replace w := w2 z
      clear w1 w2
      refine V_iload_n X dX11_poseTime_17 2 rfl ?_
      refine V_aloadr_n X dX11_poseTime_18 0 rfl ?_
      obtain ⟨fs, r5, hh, hv, w⟩ := w
      refine V_get3 X frX11_383 dX11_poseTime_19 hh hv ?_
      obtain ⟨a6, rfl, w⟩ := w
      obtain ⟨kt9, x9, hh, hk9, w⟩ := w
      refine V_alen X dX11_poseTime_22 hh hk9 ?_
      generalize Int32.ofNat _ = x7 at w ⊢
      obtain ⟨w1, w2⟩ := w
      refine V_icmp_lt (tgt := 37) X dX11_poseTime_23 (by decide) (fun z => ?_) (fun z => ?_)
      · replace w := w1 z
        clear w1 w2
        refine V_aloadr_n X dX11_poseTime_37 0 rfl ?_
        obtain ⟨fs, r8, hh, hv, w⟩ := w
        refine V_get3 X frX11_383 dX11_poseTime_38 hh hv ?_
        refine V_iload_n X dX11_poseTime_41 2 rfl ?_
        obtain ⟨a9, rfl, w⟩ := w
        obtain ⟨N9, g9, hh, hi, w⟩ := w
        refine V_iald X dX11_poseTime_42 hh hi ?_
        generalize g9 _ = x10 at w ⊢
        exact V.vx (V_iret X rfl dX11_poseTime_43 (Nat.le_of_ble_eq_true rfl) (Nat.le_of_ble_eq_true rfl) w)
      · replace w := w2 z
        clear w1 w2
        exact V.sub [] rfl (tX11_poseTime_b26 X hT  w)
theorem cX11_poseTime_ok {l : Launch} {G : gG} {h : gH} (hls : l.stackTraces = false) {Qn : Int32 → gH → Prop} {Qx : String → gH → Prop} {v0 : Nat} {v1 : Int32} (w : vX11_poseTime G.2.2.1 Qn Qx h v0 v1) : gXi l yX11_poseTime cX11_poseTime 3 (some FieldType.int) rmX11_poseTime rmX11_poseTime.cells rmX11_poseTime.slots G h [.ref v0, .int v1] Qn Qx := by
  exact gXi.of (by decide +kernel) hls (Nat.le_of_ble_eq_true rfl) rfl rfl (fun p e s m below meth c A X hT => tX11_poseTime X hT w)
/-! AnimationController.poseWeight(I)I -/
abbrev rmX11_poseWeight : Room := { frames := 12, cells := 1, slots := 6, locals := 299 }
def vX11_poseWeight_b26 (t0 : Nat)  (Qn : Int32 → gH → Prop) (Qx : String → gH → Prop) (h : gH)  : Prop := Qx "java/lang/IndexOutOfBoundsException" h
set_option maxRecDepth 100000 in
set_option maxHeartbeats 4000000 in
theorem tX11_poseWeight_b26 {p : Program} {l : Launch} {e : Env} {s : State} {m : MethodId} {args : Array Value} {below : List Frame} {meth : Method} {c : Code} {G : gG} {A : Nat → Prop} {Qn : Int32 → gH → Prop} {Qx : String → gH → Prop} (X : gC p l s m args meth c G A cX11_poseWeight 3 (some FieldType.int) RX11) (hT : ∀ x ∈ c.exceptionTable.toList, False)   {h : gH}  (w : vX11_poseWeight_b26 G.2.2.1  Qn Qx h ) : V p l e rmX11_poseWeight s m args below meth c (vx_MQ below (va_Qi Qn (gB G A) A) (gXC G A Qx) args s rmX11_poseWeight.cells rmX11_poseWeight.slots A) G A 3 h 0 0 26 [] [] := by
  exact V_throwW X thX11_380_378 dX11_poseWeight_26 dX11_poseWeight_29 dX11_poseWeight_30 dX11_poseWeight_33 dX11_poseWeight_36 hT ⟨(Nat.le_of_ble_eq_true rfl), (Nat.le_of_ble_eq_true rfl), (Nat.le_of_ble_eq_true rfl), (Nat.le_of_ble_eq_true rfl)⟩ (Nat.le_of_ble_eq_true rfl) (Nat.le_of_ble_eq_true rfl) w
def vX11_poseWeight (t0 : Nat)  (Qn : Int32 → gH → Prop) (Qx : String → gH → Prop) (h : gH) (v0 : Nat) (v1 : Int32) : Prop := io h v0 14 (vX11_presentPose t0 (fun r2 h1 => (((v1 : Int32) < 0) → (vX11_poseWeight_b26 t0  Qn Qx h1 )) ∧ ((¬ (v1 : Int32) < 0) → (nn r2 (fun a3 => gi h1 a3 9 3 (fun x4 => ((x4 ≤ (v1 : Int32)) → (vX11_poseWeight_b26 t0  Qn Qx h1 )) ∧ ((¬ x4 ≤ (v1 : Int32)) → (gr h1 a3 9 2 (fun r5 => nn r5 (fun a6 => al h1 a6 (fun x7 => (((v1 : Int32) < x7) → (gr h1 a3 9 2 (fun r8 => nn r8 (fun a9 => li h1 a9 v1 (fun x10 => Qn x10 h1))))) ∧ ((¬ (v1 : Int32) < x7) → (vX11_poseWeight_b26 t0  Qn Qx h1 )))))))))))) h v0 )
set_option maxRecDepth 100000 in
set_option maxHeartbeats 4000000 in
theorem tX11_poseWeight {p : Program} {l : Launch} {e : Env} {s : State} {m : MethodId} {args : Array Value} {below : List Frame} {meth : Method} {c : Code} {G : gG} {A : Nat → Prop} {Qn : Int32 → gH → Prop} {Qx : String → gH → Prop} (X : gC p l s m args meth c G A cX11_poseWeight 3 (some FieldType.int) RX11) (hT : ∀ x ∈ c.exceptionTable.toList, False)   {h : gH} {v0 : Nat} {v1 : Int32} (w : vX11_poseWeight G.2.2.1  Qn Qx h v0 v1) : V p l e rmX11_poseWeight s m args below meth c (vx_MQ below (va_Qi Qn (gB G A) A) (gXC G A Qx) args s rmX11_poseWeight.cells rmX11_poseWeight.slots A) G A 3 h 0 0 0 [(0, .ref v0), (1, .int v1)] [] := by
  refine V_aloadr_n X dX11_poseWeight_0 0 rfl ?_
  obtain ⟨fs, hh, w⟩ := w
  refine V_callVq (As := []) (rest := []) (k1 := 0) (n1 := 0) X (cX11_presentPose_ok X.2.2.2.2.2.2.2.2.1 w) lkX11_368 hh (q9 := (RX11, TX11, 7)) rfl rfl dX11_poseWeight_1 ⟨Nat.le_of_ble_eq_true rfl, Nat.le_of_ble_eq_true rfl⟩ rfl (Nat.le_of_ble_eq_true rfl) ⟨Nat.le_of_ble_eq_true rfl, Nat.le_of_ble_eq_true rfl⟩ (Nat.le_of_ble_eq_true rfl) (Nat.le_of_ble_eq_true rfl) (fun r2 h1 w9 => ?_)
  replace w := w9
  clear w9
  refine V_astoreq_n (i0 := 2) X dX11_poseWeight_4 rfl (by decide) rfl ?_
  refine V_iload_n X dX11_poseWeight_5 2 rfl ?_
  obtain ⟨w1, w2⟩ := w
  refine V_if_lt (tgt := 26) X dX11_poseWeight_6 (by decide) (fun z => ?_) (fun z => ?_)
  · replace w := w1 z
    clear w1 w2
    exact V.sub [] rfl (tX11_poseWeight_b26 X hT  w)
  · replace w := w2 z
    clear w1 w2
    refine V_iload_n X dX11_poseWeight_9 2 rfl ?_
    refine V_aload_n X dX11_poseWeight_10 0 rfl ?_
    obtain ⟨a3, rfl, w⟩ := w
    obtain ⟨fs, x4, hh, hv, w⟩ := w
    refine V_get X flX11_372 dX11_poseWeight_11 hh hv ?_
    obtain ⟨w1, w2⟩ := w
    refine V_icmp_ge (tgt := 26) X dX11_poseWeight_14 (by decide) (fun z => ?_) (fun z => ?_)
    · replace w := w1 z
      clear w1 w2
      exact V.sub [] rfl (tX11_poseWeight_b26 X hT  w)
    · replace w := w2 z
      clear w1 w2
      refine V_iload_n X dX11_poseWeight_17 2 rfl ?_
      refine V_aloadr_n X dX11_poseWeight_18 0 rfl ?_
      obtain ⟨fs, r5, hh, hv, w⟩ := w
      refine V_get3 X frX11_386 dX11_poseWeight_19 hh hv ?_
      obtain ⟨a6, rfl, w⟩ := w
      obtain ⟨kt9, x9, hh, hk9, w⟩ := w
      refine V_alen X dX11_poseWeight_22 hh hk9 ?_
      generalize Int32.ofNat _ = x7 at w ⊢
      obtain ⟨w1, w2⟩ := w
      refine V_icmp_lt (tgt := 37) X dX11_poseWeight_23 (by decide) (fun z => ?_) (fun z => ?_)
      · replace w := w1 z
        clear w1 w2
        refine V_aloadr_n X dX11_poseWeight_37 0 rfl ?_
        obtain ⟨fs, r8, hh, hv, w⟩ := w
        refine V_get3 X frX11_386 dX11_poseWeight_38 hh hv ?_
        refine V_iload_n X dX11_poseWeight_41 2 rfl ?_
        obtain ⟨a9, rfl, w⟩ := w
        obtain ⟨N9, g9, hh, hi, w⟩ := w
        refine V_iald X dX11_poseWeight_42 hh hi ?_
        generalize g9 _ = x10 at w ⊢
        exact V.vx (V_iret X rfl dX11_poseWeight_43 (Nat.le_of_ble_eq_true rfl) (Nat.le_of_ble_eq_true rfl) w)
      · replace w := w2 z
        clear w1 w2
        exact V.sub [] rfl (tX11_poseWeight_b26 X hT  w)
theorem cX11_poseWeight_ok {l : Launch} {G : gG} {h : gH} (hls : l.stackTraces = false) {Qn : Int32 → gH → Prop} {Qx : String → gH → Prop} {v0 : Nat} {v1 : Int32} (w : vX11_poseWeight G.2.2.1 Qn Qx h v0 v1) : gXi l yX11_poseWeight cX11_poseWeight 3 (some FieldType.int) rmX11_poseWeight rmX11_poseWeight.cells rmX11_poseWeight.slots G h [.ref v0, .int v1] Qn Qx := by
  exact gXi.of (by decide +kernel) hls (Nat.le_of_ble_eq_true rfl) rfl rfl (fun p e s m below meth c A X hT => tX11_poseWeight X hT w)
/-! AnimationController.fired()I -/
abbrev rmX11_fired : Room := { frames := 0, cells := 0, slots := 0, locals := 0 }
def vX11_fired (t0 : Nat)  (Qn : Int32 → gH → Prop) (h : gH) (v0 : Nat) : Prop := gr h v0 14 2 (fun r1 => nn r1 (fun a2 => gr h a2 6 10 (fun r3 => nn r3 (fun a4 => gi h a4 5 1 (fun x5 => Qn x5 h)))))
set_option maxRecDepth 100000 in
set_option maxHeartbeats 4000000 in
theorem tX11_fired {p : Program} {l : Launch} {e : Env} {s : State} {m : MethodId} {args : Array Value} {below : List Frame} {meth : Method} {c : Code} {G : gG} {A : Nat → Prop} {Qn : Int32 → gH → Prop} (X : gC p l s m args meth c G A cX11_fired 1 (some FieldType.int) RX11)   {h : gH} {v0 : Nat} (w : vX11_fired G.2.2.1  Qn h v0) : V p l e rmX11_fired s m args below meth c (MQ below (va_Qi Qn (gB G A) A) args s rmX11_fired.cells rmX11_fired.slots A) G A 1 h 0 0 0 [(0, .ref v0)] [] := by
  refine V_aloadr_n X dX11_fired_0 0 rfl ?_
  obtain ⟨fs, r1, hh, hv, w⟩ := w
  refine V_get X flX11_28 dX11_fired_1 hh hv ?_
  obtain ⟨a2, rfl, w⟩ := w
  obtain ⟨fs, r3, hh, hv, w⟩ := w
  refine V_get3 X frX11_278 dX11_fired_4 hh hv ?_
  obtain ⟨a4, rfl, w⟩ := w
  obtain ⟨fs, x5, hh, hv, w⟩ := w
  refine V_get X flX11_282 dX11_fired_7 hh hv ?_
  exact V_iret X rfl dX11_fired_10 (Nat.le_of_ble_eq_true rfl) (Nat.le_of_ble_eq_true rfl) w
theorem cX11_fired_ok {l : Launch} {G : gG} {h : gH} (hls : l.stackTraces = false) {Qn : Int32 → gH → Prop} {v0 : Nat} (w : vX11_fired G.2.2.1 Qn h v0) : gMi l yX11_fired cX11_fired 1 (some FieldType.int) rmX11_fired rmX11_fired.cells rmX11_fired.slots G h [.ref v0] Qn := by
  exact gMi.of (by decide +kernel) hls (Nat.le_of_ble_eq_true rfl) rfl rfl (fun p e s m below meth c A X hnm => tX11_fired X w)
/-! AnimationController.event(II)I -/
abbrev rmX11_event : Room := { frames := 6, cells := 1, slots := 6, locals := 90 }
def vX11_event_b18 (t0 : Nat)  (Qn : Int32 → gH → Prop) (Qx : String → gH → Prop) (h : gH)  : Prop := Qx "java/lang/IndexOutOfBoundsException" h
set_option maxRecDepth 100000 in
set_option maxHeartbeats 4000000 in
theorem tX11_event_b18 {p : Program} {l : Launch} {e : Env} {s : State} {m : MethodId} {args : Array Value} {below : List Frame} {meth : Method} {c : Code} {G : gG} {A : Nat → Prop} {Qn : Int32 → gH → Prop} {Qx : String → gH → Prop} (X : gC p l s m args meth c G A cX11_event 3 (some FieldType.int) RX11) (hT : ∀ x ∈ c.exceptionTable.toList, False)   {h : gH}  (w : vX11_event_b18 G.2.2.1  Qn Qx h ) : V p l e rmX11_event s m args below meth c (vx_MQ below (va_Qi Qn (gB G A) A) (gXC G A Qx) args s rmX11_event.cells rmX11_event.slots A) G A 3 h 0 0 18 [] [] := by
  exact V_throwW X thX11_392_378 dX11_event_18 dX11_event_21 dX11_event_22 dX11_event_25 dX11_event_28 hT ⟨(Nat.le_of_ble_eq_true rfl), (Nat.le_of_ble_eq_true rfl), (Nat.le_of_ble_eq_true rfl), (Nat.le_of_ble_eq_true rfl)⟩ (Nat.le_of_ble_eq_true rfl) (Nat.le_of_ble_eq_true rfl) w
def vX11_event_b38 (t0 : Nat)  (Qn : Int32 → gH → Prop) (Qx : String → gH → Prop) (h : gH)  : Prop := Qx "java/lang/IllegalArgumentException" h
set_option maxRecDepth 100000 in
set_option maxHeartbeats 4000000 in
theorem tX11_event_b38 {p : Program} {l : Launch} {e : Env} {s : State} {m : MethodId} {args : Array Value} {below : List Frame} {meth : Method} {c : Code} {G : gG} {A : Nat → Prop} {Qn : Int32 → gH → Prop} {Qx : String → gH → Prop} (X : gC p l s m args meth c G A cX11_event 3 (some FieldType.int) RX11) (hT : ∀ x ∈ c.exceptionTable.toList, False)   {h : gH}  (w : vX11_event_b38 G.2.2.1  Qn Qx h ) : V p l e rmX11_event s m args below meth c (vx_MQ below (va_Qi Qn (gB G A) A) (gXC G A Qx) args s rmX11_event.cells rmX11_event.slots A) G A 3 h 0 0 38 [] [] := by
  exact V_throwW X thX11_394_47 dX11_event_38 dX11_event_41 dX11_event_42 dX11_event_45 dX11_event_48 hT ⟨(Nat.le_of_ble_eq_true rfl), (Nat.le_of_ble_eq_true rfl), (Nat.le_of_ble_eq_true rfl), (Nat.le_of_ble_eq_true rfl)⟩ (Nat.le_of_ble_eq_true rfl) (Nat.le_of_ble_eq_true rfl) w
def vX11_event (t0 : Nat)  (Qn : Int32 → gH → Prop) (Qx : String → gH → Prop) (h : gH) (v0 : Nat) (v1 : Int32) (v2 : Int32) : Prop := (((v1 : Int32) < 0) → (vX11_event_b18 t0  Qn Qx h )) ∧ ((¬ (v1 : Int32) < 0) → (gr h v0 14 2 (fun r1 => nn r1 (fun a2 => gr h a2 6 10 (fun r3 => nn r3 (fun a4 => io h a4 5 (vX2_kept t0 (fun x6 h5 => (((v1 : Int32) < x6) → ((((v2 : Int32) < 0) → (vX11_event_b38 t0  Qn Qx h5 )) ∧ ((¬ (v2 : Int32) < 0) → ((((v2 : Int32) < 4) → (gr h5 v0 14 2 (fun r7 => nn r7 (fun a8 => gr h5 a8 6 10 (fun r9 => nn r9 (fun a10 => io h5 a10 5 (vX2_propertyOf t0 (fun x12 h11 => Qn x12 h11) h5 a10 v1 v2))))))) ∧ ((¬ (v2 : Int32) < 4) → (vX11_event_b38 t0  Qn Qx h5 )))))) ∧ ((¬ (v1 : Int32) < x6) → (vX11_event_b18 t0  Qn Qx h5 ))) h a4 )))))))
set_option maxRecDepth 100000 in
set_option maxHeartbeats 4000000 in
theorem tX11_event {p : Program} {l : Launch} {e : Env} {s : State} {m : MethodId} {args : Array Value} {below : List Frame} {meth : Method} {c : Code} {G : gG} {A : Nat → Prop} {Qn : Int32 → gH → Prop} {Qx : String → gH → Prop} (X : gC p l s m args meth c G A cX11_event 3 (some FieldType.int) RX11) (hT : ∀ x ∈ c.exceptionTable.toList, False)   {h : gH} {v0 : Nat} {v1 : Int32} {v2 : Int32} (w : vX11_event G.2.2.1  Qn Qx h v0 v1 v2) : V p l e rmX11_event s m args below meth c (vx_MQ below (va_Qi Qn (gB G A) A) (gXC G A Qx) args s rmX11_event.cells rmX11_event.slots A) G A 3 h 0 0 0 [(0, .ref v0), (1, .int v1), (2, .int v2)] [] := by
  refine V_iload_n X dX11_event_0 1 rfl ?_
  obtain ⟨w1, w2⟩ := w
  refine V_if_lt (tgt := 18) X dX11_event_1 (by decide) (fun z => ?_) (fun z => ?_)
  · replace w := w1 z
    clear w1 w2
    exact V.sub [] rfl (tX11_event_b18 X hT  w)
  · replace w := w2 z
    clear w1 w2
    refine V_iload_n X dX11_event_4 1 rfl ?_
    refine V_aloadr_n X dX11_event_5 0 rfl ?_
    obtain ⟨fs, r1, hh, hv, w⟩ := w
    refine V_get X flX11_28 dX11_event_6 hh hv ?_
    obtain ⟨a2, rfl, w⟩ := w
    obtain ⟨fs, r3, hh, hv, w⟩ := w
    refine V_get3 X frX11_278 dX11_event_9 hh hv ?_
    obtain ⟨a4, rfl, w⟩ := w
    obtain ⟨fs, hh, w⟩ := w
    refine V_callVi (As := []) (rest := [.int v1]) (k1 := 0) (n1 := 0) X (cX2_kept_ok X.2.2.2.2.2.2.2.2.1 w) lkX11_389 hh (q9 := (RX2, TX2, 2)) rfl rfl dX11_event_12 ⟨Nat.le_of_ble_eq_true rfl, Nat.le_of_ble_eq_true rfl⟩ rfl (Nat.le_of_ble_eq_true rfl) ⟨Nat.le_of_ble_eq_true rfl, Nat.le_of_ble_eq_true rfl⟩ (Nat.le_of_ble_eq_true rfl) (Nat.le_of_ble_eq_true rfl) (fun x6 h5 w9 => ?_)
    replace w := w9
    clear w9
    obtain ⟨w1, w2⟩ := w
    refine V_icmp_lt (tgt := 29) X dX11_event_15 (by decide) (fun z => ?_) (fun z => ?_)
    · replace w := w1 z
      clear w1 w2
      refine V_iload_n X dX11_event_29 2 rfl ?_
      obtain ⟨w1, w2⟩ := w
      refine V_if_lt (tgt := 38) X dX11_event_30 (by decide) (fun z => ?_) (fun z => ?_)
      · replace w := w1 z
        clear w1 w2
        exact V.sub [] rfl (tX11_event_b38 X hT  w)
      · replace w := w2 z
        clear w1 w2
        refine V_iload_n X dX11_event_33 2 rfl ?_
        refine V_iconst (y := 4) X dX11_event_34 (by decide) ?_
        obtain ⟨w1, w2⟩ := w
        refine V_icmp_lt (tgt := 49) X dX11_event_35 (by decide) (fun z => ?_) (fun z => ?_)
        · replace w := w1 z
          clear w1 w2
          refine V_aloadr_n X dX11_event_49 0 rfl ?_
          obtain ⟨fs, r7, hh, hv, w⟩ := w
          refine V_get X flX11_28 dX11_event_50 hh hv ?_
          obtain ⟨a8, rfl, w⟩ := w
          obtain ⟨fs, r9, hh, hv, w⟩ := w
          refine V_get3 X frX11_278 dX11_event_53 hh hv ?_
          refine V_iload_n X dX11_event_56 1 rfl ?_
          refine V_iload_n X dX11_event_57 2 rfl ?_
          obtain ⟨a10, rfl, w⟩ := w
          obtain ⟨fs, hh, w⟩ := w
          refine V_callVi (As := [.int v1, .int v2]) (rest := []) (k1 := 0) (n1 := 0) X (cX2_propertyOf_ok X.2.2.2.2.2.2.2.2.1 w) lkX11_396 hh (q9 := (RX2, TX2, 2)) rfl rfl dX11_event_58 ⟨Nat.le_of_ble_eq_true rfl, Nat.le_of_ble_eq_true rfl⟩ rfl (Nat.le_of_ble_eq_true rfl) ⟨Nat.le_of_ble_eq_true rfl, Nat.le_of_ble_eq_true rfl⟩ (Nat.le_of_ble_eq_true rfl) (Nat.le_of_ble_eq_true rfl) (fun x12 h11 w9 => ?_)
          replace w := w9
          clear w9
          exact V.vx (V_iret X rfl dX11_event_61 (Nat.le_of_ble_eq_true rfl) (Nat.le_of_ble_eq_true rfl) w)
        · replace w := w2 z
          clear w1 w2
          exact V.sub [] rfl (tX11_event_b38 X hT  w)
    · replace w := w2 z
      clear w1 w2
      exact V.sub [] rfl (tX11_event_b18 X hT  w)
theorem cX11_event_ok {l : Launch} {G : gG} {h : gH} (hls : l.stackTraces = false) {Qn : Int32 → gH → Prop} {Qx : String → gH → Prop} {v0 : Nat} {v1 : Int32} {v2 : Int32} (w : vX11_event G.2.2.1 Qn Qx h v0 v1 v2) : gXi l yX11_event cX11_event 3 (some FieldType.int) rmX11_event rmX11_event.cells rmX11_event.slots G h [.ref v0, .int v1, .int v2] Qn Qx := by
  exact gXi.of (by decide +kernel) hls (Nat.le_of_ble_eq_true rfl) rfl rfl (fun p e s m below meth c A X hT => tX11_event X hT w)
/-! AnimationController.foretell(I)I -/
abbrev rmX11_foretell : Room := { frames := 13, cells := 2, slots := 12, locals := 325 }
def vX11_foretell_b79 (t0 : Nat)  (Qn : Int32 → gH → Prop) (Qx : String → gH → Prop) (h : gH) (s0 : Int32) : Prop := Qn s0 h
set_option maxRecDepth 100000 in
set_option maxHeartbeats 4000000 in
theorem tX11_foretell_b79 {p : Program} {l : Launch} {e : Env} {s : State} {m : MethodId} {args : Array Value} {below : List Frame} {meth : Method} {c : Code} {G : gG} {A : Nat → Prop} {Qn : Int32 → gH → Prop} {Qx : String → gH → Prop} (X : gC p l s m args meth c G A cX11_foretell 3 (some FieldType.int) RX11) (hT : ∀ x ∈ c.exceptionTable.toList, False)   {h : gH} {s0 : Int32} (w : vX11_foretell_b79 G.2.2.1  Qn Qx h s0) : V p l e rmX11_foretell s m args below meth c (vx_MQ below (va_Qi Qn (gB G A) A) (gXC G A Qx) args s rmX11_foretell.cells rmX11_foretell.slots A) G A 3 h 2 12 79 [] [.int s0] := by
  exact V.vx (V_iret X rfl dX11_foretell_79 (Nat.le_of_ble_eq_true rfl) (Nat.le_of_ble_eq_true rfl) w)
def vX11_foretell_b22_o (t0 : Nat) (k22 : gH → Nat → Int32 → Int32 → Prop) (Qn : Int32 → gH → Prop) (Qx : String → gH → Prop) (h : gH) (v0 : Nat) (v1 : Int32) (v2 : Int32) : Prop := ((v1 ≤ (v2 : Int32)) → (gr h v0 14 3 (fun r1 => nn r1 (fun a2 => gr h a2 6 4 (fun r3 => ((r3) = none → (gr h v0 14 3 (fun r5 => nn r5 (fun a6 => gr h a6 6 2 (fun r7 => nn r7 (fun a8 => gr h a8 11 0 (fun r9 => nn r9 (fun a10 => gi h a10 10 0 (fun x11 => vX11_foretell_b79 t0  Qn Qx h x11))))))))) ∧ (∀ a4 : Nat, (r3) = some a4 → (gr h v0 14 3 (fun r12 => nn r12 (fun a13 => gr h a13 6 3 (fun r14 => nn r14 (fun a15 => gr h a15 11 0 (fun r16 => nn r16 (fun a17 => gi h a17 10 0 (fun x18 => vX11_foretell_b79 t0  Qn Qx h x18)))))))))))))) ∧ ((¬ v1 ≤ (v2 : Int32)) → (gr h v0 14 3 (fun r19 => nn r19 (fun a20 => io h a20 6 (vX3_runTick t0 (fun h21 => k22 h21 v0 v1 (v2 + 1)) h a20 )))))
set_option maxRecDepth 100000 in
set_option maxHeartbeats 4000000 in
theorem tX11_foretell_b22_o {p : Program} {l : Launch} {e : Env} {s : State} {m : MethodId} {args : Array Value} {below : List Frame} {meth : Method} {c : Code} {G : gG} {A : Nat → Prop} {Qn : Int32 → gH → Prop} {Qx : String → gH → Prop} (X : gC p l s m args meth c G A cX11_foretell 3 (some FieldType.int) RX11) (hT : ∀ x ∈ c.exceptionTable.toList, False) {k22 : gH → Nat → Int32 → Int32 → Prop} (H22 : ∀ (h : gH) (v0 : Nat) (v1 : Int32) (v2 : Int32), k22 h v0 v1 v2 → V p l e rmX11_foretell s m args below meth c (vx_MQ below (va_Qi Qn (gB G A) A) (gXC G A Qx) args s rmX11_foretell.cells rmX11_foretell.slots A) G A 3 h 2 12 22 [(0, .ref v0), (1, .int v1), (2, .int v2)] []) {h : gH} {v0 : Nat} {v1 : Int32} {v2 : Int32} (w : vX11_foretell_b22_o G.2.2.1 k22 Qn Qx h v0 v1 v2) : V p l e rmX11_foretell s m args below meth c (vx_MQ below (va_Qi Qn (gB G A) A) (gXC G A Qx) args s rmX11_foretell.cells rmX11_foretell.slots A) G A 3 h 2 12 22 [(0, .ref v0), (1, .int v1), (2, .int v2)] [] := by
  refine V_iload_n X dX11_foretell_22 2 rfl ?_
  refine V_iload_n X dX11_foretell_23 1 rfl ?_
  obtain ⟨w1, w2⟩ := w
  refine V_icmp_ge (tgt := 40) X dX11_foretell_24 (by decide) (fun z => ?_) (fun z => ?_)
  · replace w := w1 z
    clear w1 w2
    refine V_aloadr_n X dX11_foretell_40 0 rfl ?_
    obtain ⟨fs, r1, hh, hv, w⟩ := w
    refine V_get X flX11_32 dX11_foretell_41 hh hv ?_
    obtain ⟨a2, rfl, w⟩ := w
    obtain ⟨fs, r3, hh, hv, w⟩ := w
    refine V_get X flX11_315 dX11_foretell_44 hh hv ?_
    obtain ⟨w1, w2⟩ := w
    refine V_ifnonnull (tgt := 66) X dX11_foretell_47 (by decide) (fun a4 z => ?_) (fun z => ?_)
    · replace w := w2 a4 z
      clear w1 w2
      subst z
      refine V_aloadr_n X dX11_foretell_66 0 rfl ?_
      obtain ⟨fs, r12, hh, hv, w⟩ := w
      refine V_get X flX11_32 dX11_foretell_67 hh hv ?_
      obtain ⟨a13, rfl, w⟩ := w
      obtain ⟨fs, r14, hh, hv, w⟩ := w
      refine V_get3 X frX11_319 dX11_foretell_70 hh hv ?_
      obtain ⟨a15, rfl, w⟩ := w
      obtain ⟨fs, r16, hh, hv, w⟩ := w
      refine V_get X flX11_310 dX11_foretell_73 hh hv ?_
      obtain ⟨a17, rfl, w⟩ := w
      obtain ⟨fs, x18, hh, hv, w⟩ := w
      refine V_get3 X frX11_187 dX11_foretell_76 hh hv ?_
      exact V.sub [] rfl (tX11_foretell_b79 X hT  w)
    · replace w := w1 z
      clear w1 w2
      subst z
      refine V_aloadr_n X dX11_foretell_50 0 rfl ?_
      obtain ⟨fs, r5, hh, hv, w⟩ := w
      refine V_get X flX11_32 dX11_foretell_51 hh hv ?_
      obtain ⟨a6, rfl, w⟩ := w
      obtain ⟨fs, r7, hh, hv, w⟩ := w
      refine V_get3 X frX11_306 dX11_foretell_54 hh hv ?_
      obtain ⟨a8, rfl, w⟩ := w
      obtain ⟨fs, r9, hh, hv, w⟩ := w
      refine V_get X flX11_310 dX11_foretell_57 hh hv ?_
      obtain ⟨a10, rfl, w⟩ := w
      obtain ⟨fs, x11, hh, hv, w⟩ := w
      refine V_get3 X frX11_187 dX11_foretell_60 hh hv ?_
      refine V_goto (tgt := 79) X dX11_foretell_63 (by decide) ?_
      exact V.sub [] rfl (tX11_foretell_b79 X hT  w)
  · replace w := w2 z
    clear w1 w2
    refine V_aloadr_n X dX11_foretell_27 0 rfl ?_
    obtain ⟨fs, r19, hh, hv, w⟩ := w
    refine V_get X flX11_32 dX11_foretell_28 hh hv ?_
    obtain ⟨a20, rfl, w⟩ := w
    obtain ⟨fs, hh, w⟩ := w
    refine V_callVv (As := []) (rest := []) (k1 := 2) (n1 := 12) X (cX3_runTick_ok X.2.2.2.2.2.2.2.2.1 w) lkX11_287 hh (q9 := (RX3, TX3, 13)) rfl rfl dX11_foretell_31 ⟨Nat.le_of_ble_eq_true rfl, Nat.le_of_ble_eq_true rfl⟩ rfl (Nat.le_of_ble_eq_true rfl) ⟨Nat.le_of_ble_eq_true rfl, Nat.le_of_ble_eq_true rfl⟩ (Nat.le_of_ble_eq_true rfl) (Nat.le_of_ble_eq_true rfl) (fun h21 w9 => ?_)
    replace w := w9
    clear w9
    refine V_iinc (y := (v2 + 1)) X dX11_foretell_34 2 rfl (by first | rfl | (congr 1)) (by decide) rfl ?_
    refine V_goto (tgt := 22) X dX11_foretell_37 (by decide) ?_
    exact V.sub [1, 2, 0] rfl (H22 _ _ _ _ w)
def vX11_foretell_b22 (t0 : Nat)  (Qn : Int32 → gH → Prop) (Qx : String → gH → Prop) (n : Nat) : gH → Nat → Int32 → Int32 → Prop := Nat.rec (motive := fun _ => gH → Nat → Int32 → Int32 → Prop) (fun _ _ _ _ => False) (fun _ k22 => vX11_foretell_b22_o t0 k22 Qn Qx) n
theorem tX11_foretell_b22 {p : Program} {l : Launch} {e : Env} {s : State} {m : MethodId} {args : Array Value} {below : List Frame} {meth : Method} {c : Code} {G : gG} {A : Nat → Prop} {Qn : Int32 → gH → Prop} {Qx : String → gH → Prop} (X : gC p l s m args meth c G A cX11_foretell 3 (some FieldType.int) RX11) (hT : ∀ x ∈ c.exceptionTable.toList, False)   : ∀ (n : Nat) (h : gH) (v0 : Nat) (v1 : Int32) (v2 : Int32) (w : vX11_foretell_b22 G.2.2.1  Qn Qx n h v0 v1 v2), V p l e rmX11_foretell s m args below meth c (vx_MQ below (va_Qi Qn (gB G A) A) (gXC G A Qx) args s rmX11_foretell.cells rmX11_foretell.slots A) G A 3 h 2 12 22 [(0, .ref v0), (1, .int v1), (2, .int v2)] [] := by
  intro n
  induction n with
  | zero => intro h v0 v1 v2 w; exact False.elim w
  | succ n ih => intro h v0 v1 v2 w; exact tX11_foretell_b22_o X hT ih w
def vX11_foretell (t0 : Nat)  (Qn : Int32 → gH → Prop) (Qx : String → gH → Prop) (h : gH) (v0 : Nat) (v1 : Int32) : Prop := io h v0 14 (vX11_requireTicks t0 (fun h1 => io h1 v0 14 (vX11_requireStates t0 (fun h2 => gr h2 v0 14 3 (fun r3 => gr h2 v0 14 2 (fun r4 => nn r3 (fun a5 => io h2 a5 6 (vX3_copyFrom t0 (fun h6 => ∃ n : Nat, vX11_foretell_b22 t0  Qn Qx n h6 v0 v1 0) h2 a5 r4))))) Qx h1 v0 )) Qx h v0 v1)
set_option maxRecDepth 100000 in
set_option maxHeartbeats 4000000 in
theorem tX11_foretell {p : Program} {l : Launch} {e : Env} {s : State} {m : MethodId} {args : Array Value} {below : List Frame} {meth : Method} {c : Code} {G : gG} {A : Nat → Prop} {Qn : Int32 → gH → Prop} {Qx : String → gH → Prop} (X : gC p l s m args meth c G A cX11_foretell 3 (some FieldType.int) RX11) (hT : ∀ x ∈ c.exceptionTable.toList, False)   {h : gH} {v0 : Nat} {v1 : Int32} (w : vX11_foretell G.2.2.1  Qn Qx h v0 v1) : V p l e rmX11_foretell s m args below meth c (vx_MQ below (va_Qi Qn (gB G A) A) (gXC G A Qx) args s rmX11_foretell.cells rmX11_foretell.slots A) G A 3 h 0 0 0 [(0, .ref v0), (1, .int v1)] [] := by
  refine V_aloadr_n X dX11_foretell_0 0 rfl ?_
  refine V_iload_n X dX11_foretell_1 1 rfl ?_
  obtain ⟨fs, hh, w⟩ := w
  refine V_callXv (As := [.int v1]) (rest := []) (k1 := 1) (n1 := 6) X (cX11_requireTicks_ok X.2.2.2.2.2.2.2.2.1 w) lkX11_272 hh (q9 := (RX11, TX11, 7)) rfl rfl dX11_foretell_2 hT ⟨Nat.le_of_ble_eq_true rfl, Nat.le_of_ble_eq_true rfl⟩ rfl (Nat.le_of_ble_eq_true rfl) ⟨Nat.le_of_ble_eq_true rfl, Nat.le_of_ble_eq_true rfl⟩ (Nat.le_of_ble_eq_true rfl) (Nat.le_of_ble_eq_true rfl) (Nat.le_of_ble_eq_true rfl) (Nat.le_of_ble_eq_true rfl) (fun h1 w9 => ?_)
  replace w := w9
  clear w9
  refine V_aloadr_n X dX11_foretell_5 0 rfl ?_
  obtain ⟨fs, hh, w⟩ := w
  refine V_callXv (As := []) (rest := []) (k1 := 2) (n1 := 12) X (cX11_requireStates_ok X.2.2.2.2.2.2.2.2.1 w) lkX11_275 hh (q9 := (RX11, TX11, 7)) rfl rfl dX11_foretell_6 hT ⟨Nat.le_of_ble_eq_true rfl, Nat.le_of_ble_eq_true rfl⟩ rfl (Nat.le_of_ble_eq_true rfl) ⟨Nat.le_of_ble_eq_true rfl, Nat.le_of_ble_eq_true rfl⟩ (Nat.le_of_ble_eq_true rfl) (Nat.le_of_ble_eq_true rfl) (Nat.le_of_ble_eq_true rfl) (Nat.le_of_ble_eq_true rfl) (fun h2 w9 => ?_)
  replace w := w9
  clear w9
  refine V_aloadr_n X dX11_foretell_9 0 rfl ?_
  obtain ⟨fs, r3, hh, hv, w⟩ := w
  refine V_get X flX11_32 dX11_foretell_10 hh hv ?_
  refine V_aloadr_n X dX11_foretell_13 0 rfl ?_
  obtain ⟨fs, r4, hh, hv, w⟩ := w
  refine V_get X flX11_28 dX11_foretell_14 hh hv ?_
  obtain ⟨a5, rfl, w⟩ := w
  obtain ⟨fs, hh, w⟩ := w
  refine V_callVv (As := [va_rf r4]) (rest := []) (k1 := 2) (n1 := 12) X (cX3_copyFrom_ok X.2.2.2.2.2.2.2.2.1 w) lkX11_400 hh (q9 := (RX3, TX3, 13)) rfl rfl dX11_foretell_17 ⟨Nat.le_of_ble_eq_true rfl, Nat.le_of_ble_eq_true rfl⟩ rfl (Nat.le_of_ble_eq_true rfl) ⟨Nat.le_of_ble_eq_true rfl, Nat.le_of_ble_eq_true rfl⟩ (Nat.le_of_ble_eq_true rfl) (Nat.le_of_ble_eq_true rfl) (fun h6 w9 => ?_)
  replace w := w9
  clear w9
  refine V_iconst (y := 0) X dX11_foretell_20 (by decide) ?_
  refine V_istore_n (i0 := 2) X dX11_foretell_21 rfl (by decide) rfl ?_
  obtain ⟨n9, w⟩ := w
  exact V.sub [1, 2, 0] rfl (tX11_foretell_b22 X hT  n9 _ _ _ _ w)
theorem cX11_foretell_ok {l : Launch} {G : gG} {h : gH} (hls : l.stackTraces = false) {Qn : Int32 → gH → Prop} {Qx : String → gH → Prop} {v0 : Nat} {v1 : Int32} (w : vX11_foretell G.2.2.1 Qn Qx h v0 v1) : gXi l yX11_foretell cX11_foretell 3 (some FieldType.int) rmX11_foretell rmX11_foretell.cells rmX11_foretell.slots G h [.ref v0, .int v1] Qn Qx := by
  exact gXi.of (by decide +kernel) hls (Nat.le_of_ble_eq_true rfl) rfl rfl (fun p e s m below meth c A X hT => tX11_foretell X hT w)
/-! AnimationController.ticksTo(I)I -/
abbrev rmX11_ticksTo : Room := { frames := 13, cells := 1, slots := 6, locals := 325 }
def vX11_ticksTo_b51 (t0 : Nat) (k19 : gH → Nat → Option Nat → Int32 → Prop) (Qn : Int32 → gH → Prop) (Qx : String → gH → Prop) (h : gH) (v0 : Nat) (v2 : Option Nat) (v3 : Int32) : Prop := gr h v0 14 3 (fun r1 => nn r1 (fun a2 => io h a2 6 (vX3_runTick t0 (fun h3 => k19 h3 v0 v2 (v3 + 1)) h a2 )))
set_option maxRecDepth 100000 in
set_option maxHeartbeats 4000000 in
theorem tX11_ticksTo_b51 {p : Program} {l : Launch} {e : Env} {s : State} {m : MethodId} {args : Array Value} {below : List Frame} {meth : Method} {c : Code} {G : gG} {A : Nat → Prop} {Qn : Int32 → gH → Prop} {Qx : String → gH → Prop} (X : gC p l s m args meth c G A cX11_ticksTo 4 (some FieldType.int) RX11) (hT : ∀ x ∈ c.exceptionTable.toList, False) {k19 : gH → Nat → Option Nat → Int32 → Prop} (H19 : ∀ (h : gH) (v0 : Nat) (v2 : Option Nat) (v3 : Int32), k19 h v0 v2 v3 → V p l e rmX11_ticksTo s m args below meth c (vx_MQ below (va_Qi Qn (gB G A) A) (gXC G A Qx) args s rmX11_ticksTo.cells rmX11_ticksTo.slots A) G A 4 h 1 6 19 [(0, .ref v0), (2, va_rf v2), (3, .int v3)] []) {h : gH} {v0 : Nat} {v2 : Option Nat} {v3 : Int32} (w : vX11_ticksTo_b51 G.2.2.1 k19 Qn Qx h v0 v2 v3) : V p l e rmX11_ticksTo s m args below meth c (vx_MQ below (va_Qi Qn (gB G A) A) (gXC G A Qx) args s rmX11_ticksTo.cells rmX11_ticksTo.slots A) G A 4 h 1 6 51 [(0, .ref v0), (2, va_rf v2), (3, .int v3)] [] := by
  refine V_aloadr_n X dX11_ticksTo_51 0 rfl ?_
  obtain ⟨fs, r1, hh, hv, w⟩ := w
  refine V_get X flX11_32 dX11_ticksTo_52 hh hv ?_
  obtain ⟨a2, rfl, w⟩ := w
  obtain ⟨fs, hh, w⟩ := w
  refine V_callVv (As := []) (rest := []) (k1 := 1) (n1 := 6) X (cX3_runTick_ok X.2.2.2.2.2.2.2.2.1 w) lkX11_287 hh (q9 := (RX3, TX3, 13)) rfl rfl dX11_ticksTo_55 ⟨Nat.le_of_ble_eq_true rfl, Nat.le_of_ble_eq_true rfl⟩ rfl (Nat.le_of_ble_eq_true rfl) ⟨Nat.le_of_ble_eq_true rfl, Nat.le_of_ble_eq_true rfl⟩ (Nat.le_of_ble_eq_true rfl) (Nat.le_of_ble_eq_true rfl) (fun h3 w9 => ?_)
  replace w := w9
  clear w9
  refine V_iinc (y := (v3 + 1)) X dX11_ticksTo_58 2 rfl (by first | rfl | (congr 1)) (by decide) (by simp [va_cat1] <;> rfl) ?_
  refine V_goto (tgt := 19) X dX11_ticksTo_61 (by decide) ?_
  exact V.sub [1, 2, 0] rfl (H19 _ _ _ _ w)
def vX11_ticksTo_b19_o (t0 : Nat) (k19 : gH → Nat → Option Nat → Int32 → Prop) (Qn : Int32 → gH → Prop) (Qx : String → gH → Prop) (h : gH) (v0 : Nat) (v2 : Option Nat) (v3 : Int32) : Prop := ((100 < (v3 : Int32)) → (Qn (-1) h)) ∧ ((¬ 100 < (v3 : Int32)) → (gr h v0 14 3 (fun r1 => nn r1 (fun a2 => gr h a2 6 4 (fun r3 => ((r3) = none → (gr h v0 14 3 (fun r5 => nn r5 (fun a6 => gr h a6 6 2 (fun r7 => nn r7 (fun a8 => gr h a8 11 0 (fun r9 => ((¬ r9 = v2) → (vX11_ticksTo_b51 t0 k19 Qn Qx h v0 v2 v3)) ∧ ((r9 = v2) → (Qn v3 h))))))))) ∧ (∀ a4 : Nat, (r3) = some a4 → (vX11_ticksTo_b51 t0 k19 Qn Qx h v0 v2 v3)))))))
set_option maxRecDepth 100000 in
set_option maxHeartbeats 4000000 in
theorem tX11_ticksTo_b19_o {p : Program} {l : Launch} {e : Env} {s : State} {m : MethodId} {args : Array Value} {below : List Frame} {meth : Method} {c : Code} {G : gG} {A : Nat → Prop} {Qn : Int32 → gH → Prop} {Qx : String → gH → Prop} (X : gC p l s m args meth c G A cX11_ticksTo 4 (some FieldType.int) RX11) (hT : ∀ x ∈ c.exceptionTable.toList, False) {k19 : gH → Nat → Option Nat → Int32 → Prop} (H19 : ∀ (h : gH) (v0 : Nat) (v2 : Option Nat) (v3 : Int32), k19 h v0 v2 v3 → V p l e rmX11_ticksTo s m args below meth c (vx_MQ below (va_Qi Qn (gB G A) A) (gXC G A Qx) args s rmX11_ticksTo.cells rmX11_ticksTo.slots A) G A 4 h 1 6 19 [(0, .ref v0), (2, va_rf v2), (3, .int v3)] []) {h : gH} {v0 : Nat} {v2 : Option Nat} {v3 : Int32} (w : vX11_ticksTo_b19_o G.2.2.1 k19 Qn Qx h v0 v2 v3) : V p l e rmX11_ticksTo s m args below meth c (vx_MQ below (va_Qi Qn (gB G A) A) (gXC G A Qx) args s rmX11_ticksTo.cells rmX11_ticksTo.slots A) G A 4 h 1 6 19 [(0, .ref v0), (2, va_rf v2), (3, .int v3)] [] := by
  refine V_iload_n X dX11_ticksTo_19 2 rfl ?_
  refine V_bipush (y := 100) X dX11_ticksTo_20 (by decide) ?_
  obtain ⟨w1, w2⟩ := w
  refine V_icmp_gt (tgt := 64) X dX11_ticksTo_22 (by decide) (fun z => ?_) (fun z => ?_)
  · replace w := w1 z
    clear w1 w2
    refine V_iconst (y := (-1)) X dX11_ticksTo_64 (by decide) ?_
    exact V.vx (V_iret X rfl dX11_ticksTo_65 (Nat.le_of_ble_eq_true rfl) (Nat.le_of_ble_eq_true rfl) w)
  · replace w := w2 z
    clear w1 w2
    refine V_aloadr_n X dX11_ticksTo_25 0 rfl ?_
    obtain ⟨fs, r1, hh, hv, w⟩ := w
    refine V_get X flX11_32 dX11_ticksTo_26 hh hv ?_
    obtain ⟨a2, rfl, w⟩ := w
    obtain ⟨fs, r3, hh, hv, w⟩ := w
    refine V_get X flX11_315 dX11_ticksTo_29 hh hv ?_
    obtain ⟨w1, w2⟩ := w
    refine V_ifnonnull (tgt := 51) X dX11_ticksTo_32 (by decide) (fun a4 z => ?_) (fun z => ?_)
    · replace w := w2 a4 z
      clear w1 w2
      subst z
      exact V.sub [0, 1, 2] rfl (tX11_ticksTo_b51 X hT H19 w)
    · replace w := w1 z
      clear w1 w2
      subst z
      refine V_aloadr_n X dX11_ticksTo_35 0 rfl ?_
      obtain ⟨fs, r5, hh, hv, w⟩ := w
      refine V_get X flX11_32 dX11_ticksTo_36 hh hv ?_
      obtain ⟨a6, rfl, w⟩ := w
      obtain ⟨fs, r7, hh, hv, w⟩ := w
      refine V_get3 X frX11_306 dX11_ticksTo_39 hh hv ?_
      obtain ⟨a8, rfl, w⟩ := w
      obtain ⟨fs, r9, hh, hv, w⟩ := w
      refine V_get X flX11_310 dX11_ticksTo_42 hh hv ?_
      refine V_aload_n X dX11_ticksTo_45 1 rfl ?_
      obtain ⟨w1, w2⟩ := w
      refine V_acmp_ne r9 v2 (tgt := 51) X dX11_ticksTo_46 (by decide) (fun z => ?_) (fun z => ?_)
      · replace w := w1 z
        clear w1 w2
        exact V.sub [0, 1, 2] rfl (tX11_ticksTo_b51 X hT H19 w)
      · replace w := w2 z
        clear w1 w2
        refine V_iload_n X dX11_ticksTo_49 2 rfl ?_
        exact V.vx (V_iret X rfl dX11_ticksTo_50 (Nat.le_of_ble_eq_true rfl) (Nat.le_of_ble_eq_true rfl) w)
def vX11_ticksTo_b19 (t0 : Nat)  (Qn : Int32 → gH → Prop) (Qx : String → gH → Prop) (n : Nat) : gH → Nat → Option Nat → Int32 → Prop := Nat.rec (motive := fun _ => gH → Nat → Option Nat → Int32 → Prop) (fun _ _ _ _ => False) (fun _ k19 => vX11_ticksTo_b19_o t0 k19 Qn Qx) n
theorem tX11_ticksTo_b19 {p : Program} {l : Launch} {e : Env} {s : State} {m : MethodId} {args : Array Value} {below : List Frame} {meth : Method} {c : Code} {G : gG} {A : Nat → Prop} {Qn : Int32 → gH → Prop} {Qx : String → gH → Prop} (X : gC p l s m args meth c G A cX11_ticksTo 4 (some FieldType.int) RX11) (hT : ∀ x ∈ c.exceptionTable.toList, False)   : ∀ (n : Nat) (h : gH) (v0 : Nat) (v2 : Option Nat) (v3 : Int32) (w : vX11_ticksTo_b19 G.2.2.1  Qn Qx n h v0 v2 v3), V p l e rmX11_ticksTo s m args below meth c (vx_MQ below (va_Qi Qn (gB G A) A) (gXC G A Qx) args s rmX11_ticksTo.cells rmX11_ticksTo.slots A) G A 4 h 1 6 19 [(0, .ref v0), (2, va_rf v2), (3, .int v3)] [] := by
  intro n
  induction n with
  | zero => intro h v0 v2 v3 w; exact False.elim w
  | succ n ih => intro h v0 v2 v3 w; exact tX11_ticksTo_b19_o X hT ih w
def vX11_ticksTo (t0 : Nat)  (Qn : Int32 → gH → Prop) (Qx : String → gH → Prop) (h : gH) (v0 : Nat) (v1 : Int32) : Prop := io h v0 14 (vX11_stateAt t0 (fun r2 h1 => gr h1 v0 14 3 (fun r3 => gr h1 v0 14 2 (fun r4 => nn r3 (fun a5 => io h1 a5 6 (vX3_copyFrom t0 (fun h6 => ∃ n : Nat, vX11_ticksTo_b19 t0  Qn Qx n h6 v0 r2 0) h1 a5 r4))))) Qx h v0 v1)
set_option maxRecDepth 100000 in
set_option maxHeartbeats 4000000 in
theorem tX11_ticksTo {p : Program} {l : Launch} {e : Env} {s : State} {m : MethodId} {args : Array Value} {below : List Frame} {meth : Method} {c : Code} {G : gG} {A : Nat → Prop} {Qn : Int32 → gH → Prop} {Qx : String → gH → Prop} (X : gC p l s m args meth c G A cX11_ticksTo 4 (some FieldType.int) RX11) (hT : ∀ x ∈ c.exceptionTable.toList, False)   {h : gH} {v0 : Nat} {v1 : Int32} (w : vX11_ticksTo G.2.2.1  Qn Qx h v0 v1) : V p l e rmX11_ticksTo s m args below meth c (vx_MQ below (va_Qi Qn (gB G A) A) (gXC G A Qx) args s rmX11_ticksTo.cells rmX11_ticksTo.slots A) G A 4 h 0 0 0 [(0, .ref v0), (1, .int v1)] [] := by
  refine V_aloadr_n X dX11_ticksTo_0 0 rfl ?_
  refine V_iload_n X dX11_ticksTo_1 1 rfl ?_
  obtain ⟨fs, hh, w⟩ := w
  refine V_callXq (As := [.int v1]) (rest := []) (k1 := 1) (n1 := 6) X (cX11_stateAt_ok X.2.2.2.2.2.2.2.2.1 w) lkX11_190 hh (q9 := (RX11, TX11, 7)) rfl rfl dX11_ticksTo_2 hT ⟨Nat.le_of_ble_eq_true rfl, Nat.le_of_ble_eq_true rfl⟩ rfl (Nat.le_of_ble_eq_true rfl) ⟨Nat.le_of_ble_eq_true rfl, Nat.le_of_ble_eq_true rfl⟩ (Nat.le_of_ble_eq_true rfl) (Nat.le_of_ble_eq_true rfl) (Nat.le_of_ble_eq_true rfl) (Nat.le_of_ble_eq_true rfl) (fun r2 h1 w9 => ?_)
  replace w := w9
  clear w9
  refine V_astoreq_n (i0 := 2) X dX11_ticksTo_5 rfl (by decide) rfl ?_
  refine V_aloadr_n X dX11_ticksTo_6 1 rfl ?_
  obtain ⟨fs, r3, hh, hv, w⟩ := w
  refine V_get X flX11_32 dX11_ticksTo_7 hh hv ?_
  refine V_aloadr_n X dX11_ticksTo_10 1 rfl ?_
  obtain ⟨fs, r4, hh, hv, w⟩ := w
  refine V_get X flX11_28 dX11_ticksTo_11 hh hv ?_
  obtain ⟨a5, rfl, w⟩ := w
  obtain ⟨fs, hh, w⟩ := w
  refine V_callVv (As := [va_rf r4]) (rest := []) (k1 := 1) (n1 := 6) X (cX3_copyFrom_ok X.2.2.2.2.2.2.2.2.1 w) lkX11_400 hh (q9 := (RX3, TX3, 13)) rfl rfl dX11_ticksTo_14 ⟨Nat.le_of_ble_eq_true rfl, Nat.le_of_ble_eq_true rfl⟩ rfl (Nat.le_of_ble_eq_true rfl) ⟨Nat.le_of_ble_eq_true rfl, Nat.le_of_ble_eq_true rfl⟩ (Nat.le_of_ble_eq_true rfl) (Nat.le_of_ble_eq_true rfl) (fun h6 w9 => ?_)
  replace w := w9
  clear w9
  refine V_iconst (y := 0) X dX11_ticksTo_17 (by decide) ?_
  refine V_istore_n (i0 := 3) X dX11_ticksTo_18 rfl (by decide) (by simp [va_cat1] <;> rfl) ?_
  obtain ⟨n9, w⟩ := w
  exact V.sub [2, 1, 0] rfl (tX11_ticksTo_b19 X hT  n9 _ _ _ _ w)
theorem cX11_ticksTo_ok {l : Launch} {G : gG} {h : gH} (hls : l.stackTraces = false) {Qn : Int32 → gH → Prop} {Qx : String → gH → Prop} {v0 : Nat} {v1 : Int32} (w : vX11_ticksTo G.2.2.1 Qn Qx h v0 v1) : gXi l yX11_ticksTo cX11_ticksTo 4 (some FieldType.int) rmX11_ticksTo rmX11_ticksTo.cells rmX11_ticksTo.slots G h [.ref v0, .int v1] Qn Qx := by
  exact gXi.of (by decide +kernel) hls (Nat.le_of_ble_eq_true rfl) rfl rfl (fun p e s m below meth c A X hT => tX11_ticksTo X hT w)
/-! AnimationController.requireSlot(I)V -/
abbrev rmX11_requireSlot : Room := { frames := 6, cells := 1, slots := 6, locals := 90 }
def vX11_requireSlot_b9 (t0 : Nat)  (Qn : gH → Prop) (Qx : String → gH → Prop) (h : gH)  : Prop := Qx "java/lang/IllegalArgumentException" h
set_option maxRecDepth 100000 in
set_option maxHeartbeats 4000000 in
theorem tX11_requireSlot_b9 {p : Program} {l : Launch} {e : Env} {s : State} {m : MethodId} {args : Array Value} {below : List Frame} {meth : Method} {c : Code} {G : gG} {A : Nat → Prop} {Qn : gH → Prop} {Qx : String → gH → Prop} (X : gC p l s m args meth c G A cX11_requireSlot 2 none RX11) (hT : ∀ x ∈ c.exceptionTable.toList, False)   {h : gH}  (w : vX11_requireSlot_b9 G.2.2.1  Qn Qx h ) : V p l e rmX11_requireSlot s m args below meth c (vx_MQ below (va_Qv Qn (gB G A) A) (gXC G A Qx) args s rmX11_requireSlot.cells rmX11_requireSlot.slots A) G A 2 h 0 0 9 [] [] := by
  exact V_throwW X thX11_430_47 dX11_requireSlot_9 dX11_requireSlot_12 dX11_requireSlot_13 dX11_requireSlot_16 dX11_requireSlot_19 hT ⟨(Nat.le_of_ble_eq_true rfl), (Nat.le_of_ble_eq_true rfl), (Nat.le_of_ble_eq_true rfl), (Nat.le_of_ble_eq_true rfl)⟩ (Nat.le_of_ble_eq_true rfl) (Nat.le_of_ble_eq_true rfl) w
def vX11_requireSlot (t0 : Nat)  (Qn : gH → Prop) (Qx : String → gH → Prop) (h : gH) (v0 : Nat) (v1 : Int32) : Prop := (((v1 : Int32) < 0) → (vX11_requireSlot_b9 t0  Qn Qx h )) ∧ ((¬ (v1 : Int32) < 0) → ((((v1 : Int32) < 2) → (Qn h)) ∧ ((¬ (v1 : Int32) < 2) → (vX11_requireSlot_b9 t0  Qn Qx h ))))
set_option maxRecDepth 100000 in
set_option maxHeartbeats 4000000 in
theorem tX11_requireSlot {p : Program} {l : Launch} {e : Env} {s : State} {m : MethodId} {args : Array Value} {below : List Frame} {meth : Method} {c : Code} {G : gG} {A : Nat → Prop} {Qn : gH → Prop} {Qx : String → gH → Prop} (X : gC p l s m args meth c G A cX11_requireSlot 2 none RX11) (hT : ∀ x ∈ c.exceptionTable.toList, False)   {h : gH} {v0 : Nat} {v1 : Int32} (w : vX11_requireSlot G.2.2.1  Qn Qx h v0 v1) : V p l e rmX11_requireSlot s m args below meth c (vx_MQ below (va_Qv Qn (gB G A) A) (gXC G A Qx) args s rmX11_requireSlot.cells rmX11_requireSlot.slots A) G A 2 h 0 0 0 [(0, .ref v0), (1, .int v1)] [] := by
  refine V_iload_n X dX11_requireSlot_0 1 rfl ?_
  obtain ⟨w1, w2⟩ := w
  refine V_if_lt (tgt := 9) X dX11_requireSlot_1 (by decide) (fun z => ?_) (fun z => ?_)
  · replace w := w1 z
    clear w1 w2
    exact V.sub [] rfl (tX11_requireSlot_b9 X hT  w)
  · replace w := w2 z
    clear w1 w2
    refine V_iload_n X dX11_requireSlot_4 1 rfl ?_
    refine V_iconst (y := 2) X dX11_requireSlot_5 (by decide) ?_
    obtain ⟨w1, w2⟩ := w
    refine V_icmp_lt (tgt := 20) X dX11_requireSlot_6 (by decide) (fun z => ?_) (fun z => ?_)
    · replace w := w1 z
      clear w1 w2
      exact V.vx (V_vret X rfl dX11_requireSlot_20 (Nat.le_of_ble_eq_true rfl) (Nat.le_of_ble_eq_true rfl) w)
    · replace w := w2 z
      clear w1 w2
      exact V.sub [] rfl (tX11_requireSlot_b9 X hT  w)
theorem cX11_requireSlot_ok {l : Launch} {G : gG} {h : gH} (hls : l.stackTraces = false) {Qn : gH → Prop} {Qx : String → gH → Prop} {v0 : Nat} {v1 : Int32} (w : vX11_requireSlot G.2.2.1 Qn Qx h v0 v1) : gXv l yX11_requireSlot cX11_requireSlot 2 none rmX11_requireSlot rmX11_requireSlot.cells rmX11_requireSlot.slots G h [.ref v0, .int v1] Qn Qx := by
  exact gXv.of (by decide +kernel) hls (Nat.le_of_ble_eq_true rfl) rfl rfl (fun p e s m below meth c A X hT => tX11_requireSlot X hT w)
/-! AnimationController.keep(I)I -/
abbrev rmX11_keep : Room := { frames := 7, cells := 2, slots := 12, locals := 111 }
def vX11_keep (t0 : Nat)  (Qn : Int32 → gH → Prop) (Qx : String → gH → Prop) (h : gH) (v0 : Nat) (v1 : Int32) : Prop := io h v0 14 (vX11_requireSlot t0 (fun h1 => io h1 v0 14 (vX11_requireStates t0 (fun h2 => gr h2 v0 14 4 (fun r3 => nn r3 (fun a4 => lq h2 5 a4 v1 (fun r5 => gr h2 v0 14 2 (fun r6 => nn r5 (fun a7 => io h2 a7 6 (vX3_copyFrom t0 (fun h8 => gr h8 v0 14 5 (fun r9 => nn r9 (fun a10 => sz h8 a10 v1 1 (fun h11 => gr h11 v0 14 2 (fun r12 => nn r12 (fun a13 => gi h11 a13 6 9 (fun x14 => Qn x14 h11))))))) h2 a7 r6))))))) Qx h1 v0 )) Qx h v0 v1)
set_option maxRecDepth 100000 in
set_option maxHeartbeats 4000000 in
theorem tX11_keep {p : Program} {l : Launch} {e : Env} {s : State} {m : MethodId} {args : Array Value} {below : List Frame} {meth : Method} {c : Code} {G : gG} {A : Nat → Prop} {Qn : Int32 → gH → Prop} {Qx : String → gH → Prop} (X : gC p l s m args meth c G A cX11_keep 2 (some FieldType.int) RX11) (hT : ∀ x ∈ c.exceptionTable.toList, False)   {h : gH} {v0 : Nat} {v1 : Int32} (w : vX11_keep G.2.2.1  Qn Qx h v0 v1) : V p l e rmX11_keep s m args below meth c (vx_MQ below (va_Qi Qn (gB G A) A) (gXC G A Qx) args s rmX11_keep.cells rmX11_keep.slots A) G A 2 h 0 0 0 [(0, .ref v0), (1, .int v1)] [] := by
  refine V_aloadr_n X dX11_keep_0 0 rfl ?_
  refine V_iload_n X dX11_keep_1 1 rfl ?_
  obtain ⟨fs, hh, w⟩ := w
  refine V_callXv (As := [.int v1]) (rest := []) (k1 := 1) (n1 := 6) X (cX11_requireSlot_ok X.2.2.2.2.2.2.2.2.1 w) lkX11_414 hh (q9 := (RX11, TX11, 7)) rfl rfl dX11_keep_2 hT ⟨Nat.le_of_ble_eq_true rfl, Nat.le_of_ble_eq_true rfl⟩ rfl (Nat.le_of_ble_eq_true rfl) ⟨Nat.le_of_ble_eq_true rfl, Nat.le_of_ble_eq_true rfl⟩ (Nat.le_of_ble_eq_true rfl) (Nat.le_of_ble_eq_true rfl) (Nat.le_of_ble_eq_true rfl) (Nat.le_of_ble_eq_true rfl) (fun h1 w9 => ?_)
  replace w := w9
  clear w9
  refine V_aloadr_n X dX11_keep_5 0 rfl ?_
  obtain ⟨fs, hh, w⟩ := w
  refine V_callXv (As := []) (rest := []) (k1 := 2) (n1 := 12) X (cX11_requireStates_ok X.2.2.2.2.2.2.2.2.1 w) lkX11_275 hh (q9 := (RX11, TX11, 7)) rfl rfl dX11_keep_6 hT ⟨Nat.le_of_ble_eq_true rfl, Nat.le_of_ble_eq_true rfl⟩ rfl (Nat.le_of_ble_eq_true rfl) ⟨Nat.le_of_ble_eq_true rfl, Nat.le_of_ble_eq_true rfl⟩ (Nat.le_of_ble_eq_true rfl) (Nat.le_of_ble_eq_true rfl) (Nat.le_of_ble_eq_true rfl) (Nat.le_of_ble_eq_true rfl) (fun h2 w9 => ?_)
  replace w := w9
  clear w9
  refine V_aloadr_n X dX11_keep_9 0 rfl ?_
  obtain ⟨fs, r3, hh, hv, w⟩ := w
  refine V_get X flX11_35 dX11_keep_10 hh hv ?_
  refine V_iload_n X dX11_keep_13 1 rfl ?_
  obtain ⟨a4, rfl, w⟩ := w
  obtain ⟨N9, g9, hh, hi, w⟩ := w
  refine V_aald5 X dX11_keep_14 hh hi ?_
  generalize g9 _ = r5 at w ⊢
  refine V_aloadr_n X dX11_keep_15 0 rfl ?_
  obtain ⟨fs, r6, hh, hv, w⟩ := w
  refine V_get X flX11_28 dX11_keep_16 hh hv ?_
  obtain ⟨a7, rfl, w⟩ := w
  obtain ⟨fs, hh, w⟩ := w
  refine V_callVv (As := [va_rf r6]) (rest := []) (k1 := 2) (n1 := 12) X (cX3_copyFrom_ok X.2.2.2.2.2.2.2.2.1 w) lkX11_400 hh (q9 := (RX3, TX3, 13)) rfl rfl dX11_keep_19 ⟨Nat.le_of_ble_eq_true rfl, Nat.le_of_ble_eq_true rfl⟩ rfl (Nat.le_of_ble_eq_true rfl) ⟨Nat.le_of_ble_eq_true rfl, Nat.le_of_ble_eq_true rfl⟩ (Nat.le_of_ble_eq_true rfl) (Nat.le_of_ble_eq_true rfl) (fun h8 w9 => ?_)
  replace w := w9
  clear w9
  refine V_aloadr_n X dX11_keep_22 0 rfl ?_
  obtain ⟨fs, r9, hh, hv, w⟩ := w
  refine V_get X flX11_39 dX11_keep_23 hh hv ?_
  refine V_iload_n X dX11_keep_26 1 rfl ?_
  refine V_iconst (y := 1) X dX11_keep_27 (by decide) ?_
  obtain ⟨a10, rfl, w⟩ := w
  obtain ⟨N9, g9, hh, hi, w⟩ := w
  refine V_zast X dX11_keep_28 hh hi ?_
  generalize va_up _ _ _ = h11 at w ⊢
  refine V_aloadr_n X dX11_keep_29 0 rfl ?_
  obtain ⟨fs, r12, hh, hv, w⟩ := w
  refine V_get X flX11_28 dX11_keep_30 hh hv ?_
  obtain ⟨a13, rfl, w⟩ := w
  obtain ⟨fs, x14, hh, hv, w⟩ := w
  refine V_get X flX11_290 dX11_keep_33 hh hv ?_
  exact V.vx (V_iret X rfl dX11_keep_36 (Nat.le_of_ble_eq_true rfl) (Nat.le_of_ble_eq_true rfl) w)
theorem cX11_keep_ok {l : Launch} {G : gG} {h : gH} (hls : l.stackTraces = false) {Qn : Int32 → gH → Prop} {Qx : String → gH → Prop} {v0 : Nat} {v1 : Int32} (w : vX11_keep G.2.2.1 Qn Qx h v0 v1) : gXi l yX11_keep cX11_keep 2 (some FieldType.int) rmX11_keep rmX11_keep.cells rmX11_keep.slots G h [.ref v0, .int v1] Qn Qx := by
  exact gXi.of (by decide +kernel) hls (Nat.le_of_ble_eq_true rfl) rfl rfl (fun p e s m below meth c A X hT => tX11_keep X hT w)
/-! AnimationController.restore(I)I -/
abbrev rmX11_restore : Room := { frames := 7, cells := 2, slots := 12, locals := 111 }
def vX11_restore (t0 : Nat)  (Qn : Int32 → gH → Prop) (Qx : String → gH → Prop) (h : gH) (v0 : Nat) (v1 : Int32) : Prop := io h v0 14 (vX11_requireSlot t0 (fun h1 => gr h1 v0 14 5 (fun r2 => nn r2 (fun a3 => lz h1 a3 v1 (fun x4 => ((¬ (x4 : Int32) = 0) → (gr h1 v0 14 2 (fun r5 => gr h1 v0 14 4 (fun r6 => nn r6 (fun a7 => lq h1 5 a7 v1 (fun r8 => nn r5 (fun a9 => io h1 a9 6 (vX3_copyFrom t0 (fun h10 => gr h10 v0 14 2 (fun r11 => nn r11 (fun a12 => gi h10 a12 6 9 (fun x13 => Qn x13 h10)))) h1 a9 r8)))))))) ∧ (((x4 : Int32) = 0) → (Qx "java/lang/IllegalStateException" h1)))))) Qx h v0 v1)
set_option maxRecDepth 100000 in
set_option maxHeartbeats 4000000 in
theorem tX11_restore {p : Program} {l : Launch} {e : Env} {s : State} {m : MethodId} {args : Array Value} {below : List Frame} {meth : Method} {c : Code} {G : gG} {A : Nat → Prop} {Qn : Int32 → gH → Prop} {Qx : String → gH → Prop} (X : gC p l s m args meth c G A cX11_restore 2 (some FieldType.int) RX11) (hT : ∀ x ∈ c.exceptionTable.toList, False)   {h : gH} {v0 : Nat} {v1 : Int32} (w : vX11_restore G.2.2.1  Qn Qx h v0 v1) : V p l e rmX11_restore s m args below meth c (vx_MQ below (va_Qi Qn (gB G A) A) (gXC G A Qx) args s rmX11_restore.cells rmX11_restore.slots A) G A 2 h 0 0 0 [(0, .ref v0), (1, .int v1)] [] := by
  refine V_aloadr_n X dX11_restore_0 0 rfl ?_
  refine V_iload_n X dX11_restore_1 1 rfl ?_
  obtain ⟨fs, hh, w⟩ := w
  refine V_callXv (As := [.int v1]) (rest := []) (k1 := 1) (n1 := 6) X (cX11_requireSlot_ok X.2.2.2.2.2.2.2.2.1 w) lkX11_414 hh (q9 := (RX11, TX11, 7)) rfl rfl dX11_restore_2 hT ⟨Nat.le_of_ble_eq_true rfl, Nat.le_of_ble_eq_true rfl⟩ rfl (Nat.le_of_ble_eq_true rfl) ⟨Nat.le_of_ble_eq_true rfl, Nat.le_of_ble_eq_true rfl⟩ (Nat.le_of_ble_eq_true rfl) (Nat.le_of_ble_eq_true rfl) (Nat.le_of_ble_eq_true rfl) (Nat.le_of_ble_eq_true rfl) (fun h1 w9 => ?_)
  replace w := w9
  clear w9
  refine V_aloadr_n X dX11_restore_5 0 rfl ?_
  obtain ⟨fs, r2, hh, hv, w⟩ := w
  refine V_get X flX11_39 dX11_restore_6 hh hv ?_
  refine V_iload_n X dX11_restore_9 1 rfl ?_
  obtain ⟨a3, rfl, w⟩ := w
  obtain ⟨N9, g9, hh, hi, w⟩ := w
  refine V_zald X dX11_restore_10 hh hi ?_
  generalize g9 _ = x4 at w ⊢
  obtain ⟨w1, w2⟩ := w
  refine V_if_ne (tgt := 25) X dX11_restore_11 (by decide) (fun z => ?_) (fun z => ?_)
  · replace w := w1 z
    clear w1 w2
    refine V_aloadr_n X dX11_restore_25 0 rfl ?_
    obtain ⟨fs, r5, hh, hv, w⟩ := w
    refine V_get X flX11_28 dX11_restore_26 hh hv ?_
    refine V_aloadr_n X dX11_restore_29 0 rfl ?_
    obtain ⟨fs, r6, hh, hv, w⟩ := w
    refine V_get X flX11_35 dX11_restore_30 hh hv ?_
    refine V_iload_n X dX11_restore_33 1 rfl ?_
    obtain ⟨a7, rfl, w⟩ := w
    obtain ⟨N9, g9, hh, hi, w⟩ := w
    refine V_aald5 X dX11_restore_34 hh hi ?_
    generalize g9 _ = r8 at w ⊢
    obtain ⟨a9, rfl, w⟩ := w
    obtain ⟨fs, hh, w⟩ := w
    refine V_callVv (As := [va_rf r8]) (rest := []) (k1 := 1) (n1 := 6) X (cX3_copyFrom_ok X.2.2.2.2.2.2.2.2.1 w) lkX11_400 hh (q9 := (RX3, TX3, 13)) rfl rfl dX11_restore_35 ⟨Nat.le_of_ble_eq_true rfl, Nat.le_of_ble_eq_true rfl⟩ rfl (Nat.le_of_ble_eq_true rfl) ⟨Nat.le_of_ble_eq_true rfl, Nat.le_of_ble_eq_true rfl⟩ (Nat.le_of_ble_eq_true rfl) (Nat.le_of_ble_eq_true rfl) (fun h10 w9 => ?_)
    replace w := w9
    clear w9
    refine V_aloadr_n X dX11_restore_38 0 rfl ?_
    obtain ⟨fs, r11, hh, hv, w⟩ := w
    refine V_get X flX11_28 dX11_restore_39 hh hv ?_
    obtain ⟨a12, rfl, w⟩ := w
    obtain ⟨fs, x13, hh, hv, w⟩ := w
    refine V_get X flX11_290 dX11_restore_42 hh hv ?_
    exact V.vx (V_iret X rfl dX11_restore_45 (Nat.le_of_ble_eq_true rfl) (Nat.le_of_ble_eq_true rfl) w)
  · replace w := w2 z
    clear w1 w2
    exact V_throwW X thX11_417_61 dX11_restore_14 dX11_restore_17 dX11_restore_18 dX11_restore_21 dX11_restore_24 hT ⟨(Nat.le_of_ble_eq_true rfl), (Nat.le_of_ble_eq_true rfl), (Nat.le_of_ble_eq_true rfl), (Nat.le_of_ble_eq_true rfl)⟩ (Nat.le_of_ble_eq_true rfl) (Nat.le_of_ble_eq_true rfl) w
theorem cX11_restore_ok {l : Launch} {G : gG} {h : gH} (hls : l.stackTraces = false) {Qn : Int32 → gH → Prop} {Qx : String → gH → Prop} {v0 : Nat} {v1 : Int32} (w : vX11_restore G.2.2.1 Qn Qx h v0 v1) : gXi l yX11_restore cX11_restore 2 (some FieldType.int) rmX11_restore rmX11_restore.cells rmX11_restore.slots G h [.ref v0, .int v1] Qn Qx := by
  exact gXi.of (by decide +kernel) hls (Nat.le_of_ble_eq_true rfl) rfl rfl (fun p e s m below meth c A X hT => tX11_restore X hT w)
/-! AnimationController.count(I)I -/
abbrev rmX11_count : Room := { frames := 6, cells := 1, slots := 6, locals := 90 }
def vX11_count (t0 : Nat)  (Qn : Int32 → gH → Prop) (Qx : String → gH → Prop) (h : gH) (v0 : Nat) (v1 : Int32) : Prop := ((v1 : Int32).toInt = 0 → (gr h v0 14 0 (fun r1 => nn r1 (fun a2 => gi h a2 7 1 (fun x3 => Qn x3 h))))) ∧ ((v1 : Int32).toInt = 1 → (gr h v0 14 0 (fun r4 => nn r4 (fun a5 => gr h a5 7 2 (fun r6 => nn r6 (fun a7 => io h a7 2 (vJx4a65c_size_8abf5 t0 (fun x9 h8 => Qn x9 h8) h a7 ))))))) ∧ ((v1 : Int32).toInt = 2 → (gr h v0 14 0 (fun r10 => nn r10 (fun a11 => gr h a11 7 3 (fun r12 => nn r12 (fun a13 => io h a13 2 (vJx4a65c_size_8abf5 t0 (fun x15 h14 => Qn x15 h14) h a13 ))))))) ∧ ((v1 : Int32).toInt = 3 → (gr h v0 14 0 (fun r16 => nn r16 (fun a17 => gr h a17 7 4 (fun r18 => nn r18 (fun a19 => io h a19 2 (vJx4a65c_size_8abf5 t0 (fun x21 h20 => Qn x21 h20) h a19 ))))))) ∧ ((v1 : Int32).toInt = 4 → (gr h v0 14 0 (fun r22 => nn r22 (fun a23 => gr h a23 7 5 (fun r24 => nn r24 (fun a25 => io h a25 2 (vJx4a65c_size_8abf5 t0 (fun x27 h26 => Qn x27 h26) h a25 ))))))) ∧ ((v1 : Int32).toInt = 5 → (gr h v0 14 2 (fun r28 => nn r28 (fun a29 => gi h a29 6 9 (fun x30 => Qn x30 h))))) ∧ ((v1 : Int32).toInt = 6 → (gr h v0 14 2 (fun r31 => nn r31 (fun a32 => gr h a32 6 10 (fun r33 => nn r33 (fun a34 => io h a34 5 (vX2_kept t0 (fun x36 h35 => Qn x36 h35) h a34 ))))))) ∧ ((v1 : Int32).toInt = 7 → (gr h v0 14 1 (fun r37 => nn r37 (fun a38 => gi h a38 13 2 (fun x39 => Qn x39 h))))) ∧ (((v1 : Int32).toInt < 0 ∨ 7 < (v1 : Int32).toInt) → (Qx "java/lang/IllegalArgumentException" h))
set_option maxRecDepth 100000 in
set_option maxHeartbeats 4000000 in
theorem tX11_count {p : Program} {l : Launch} {e : Env} {s : State} {m : MethodId} {args : Array Value} {below : List Frame} {meth : Method} {c : Code} {G : gG} {A : Nat → Prop} {Qn : Int32 → gH → Prop} {Qx : String → gH → Prop} (X : gC p l s m args meth c G A cX11_count 2 (some FieldType.int) RX11) (hT : ∀ x ∈ c.exceptionTable.toList, False)   {h : gH} {v0 : Nat} {v1 : Int32} (w : vX11_count G.2.2.1  Qn Qx h v0 v1) : V p l e rmX11_count s m args below meth c (vx_MQ below (va_Qi Qn (gB G A) A) (gXC G A Qx) args s rmX11_count.cells rmX11_count.slots A) G A 2 h 0 0 0 [(0, .ref v0), (1, .int v1)] [] := by
  refine V_iload_n X dX11_count_0 1 rfl ?_
  obtain ⟨w0, w1, w2, w3, w4, w5, w6, w7, w8⟩ := w
  rcases (show (v1 : Int32).toInt = 0 ∨ (v1 : Int32).toInt = 1 ∨ (v1 : Int32).toInt = 2 ∨ (v1 : Int32).toInt = 3 ∨ (v1 : Int32).toInt = 4 ∨ (v1 : Int32).toInt = 5 ∨ (v1 : Int32).toInt = 6 ∨ (v1 : Int32).toInt = 7 ∨ ((v1 : Int32).toInt < 0 ∨ 7 < (v1 : Int32).toInt) by omega) with z | z | z | z | z | z | z | z | z
  · refine V_tableIn (tgt := 48) X dX11_count_1 (by omega) (by omega) (by rw [z]; rfl) (by decide) ?_
    replace w := w0 z
    clear w0 w1 w2 w3 w4 w5 w6 w7 w8
    refine V_aloadr_n X dX11_count_48 0 rfl ?_
    obtain ⟨fs, r1, hh, hv, w⟩ := w
    refine V_get X flX11_12 dX11_count_49 hh hv ?_
    obtain ⟨a2, rfl, w⟩ := w
    obtain ⟨fs, x3, hh, hv, w⟩ := w
    refine V_get X flX11_54 dX11_count_52 hh hv ?_
    exact V.vx (V_iret X rfl dX11_count_55 (Nat.le_of_ble_eq_true rfl) (Nat.le_of_ble_eq_true rfl) w)
  · refine V_tableIn (tgt := 56) X dX11_count_1 (by omega) (by omega) (by rw [z]; rfl) (by decide) ?_
    replace w := w1 z
    clear w0 w1 w2 w3 w4 w5 w6 w7 w8
    refine V_aloadr_n X dX11_count_56 0 rfl ?_
    obtain ⟨fs, r4, hh, hv, w⟩ := w
    refine V_get X flX11_12 dX11_count_57 hh hv ?_
    obtain ⟨a5, rfl, w⟩ := w
    obtain ⟨fs, r6, hh, hv, w⟩ := w
    refine V_get3 X frX11_86 dX11_count_60 hh hv ?_
    obtain ⟨a7, rfl, w⟩ := w
    obtain ⟨fs, hh, w⟩ := w
    refine V_callVi (As := []) (rest := []) (k1 := 0) (n1 := 0) X (cJx4a65c_size_8abf5_ok X.2.2.2.2.2.2.2.2.1 w) lkX11_90 hh (q9 := (RJx4a65c, TJx4a65c, 3)) rfl rfl dX11_count_63 ⟨Nat.le_of_ble_eq_true rfl, Nat.le_of_ble_eq_true rfl⟩ rfl (Nat.le_of_ble_eq_true rfl) ⟨Nat.le_of_ble_eq_true rfl, Nat.le_of_ble_eq_true rfl⟩ (Nat.le_of_ble_eq_true rfl) (Nat.le_of_ble_eq_true rfl) (fun x9 h8 w9 => ?_)
    replace w := w9
    clear w9
    exact V.vx (V_iret X rfl dX11_count_66 (Nat.le_of_ble_eq_true rfl) (Nat.le_of_ble_eq_true rfl) w)
  · refine V_tableIn (tgt := 67) X dX11_count_1 (by omega) (by omega) (by rw [z]; rfl) (by decide) ?_
    replace w := w2 z
    clear w0 w1 w2 w3 w4 w5 w6 w7 w8
    refine V_aloadr_n X dX11_count_67 0 rfl ?_
    obtain ⟨fs, r10, hh, hv, w⟩ := w
    refine V_get X flX11_12 dX11_count_68 hh hv ?_
    obtain ⟨a11, rfl, w⟩ := w
    obtain ⟨fs, r12, hh, hv, w⟩ := w
    refine V_get3 X frX11_126 dX11_count_71 hh hv ?_
    obtain ⟨a13, rfl, w⟩ := w
    obtain ⟨fs, hh, w⟩ := w
    refine V_callVi (As := []) (rest := []) (k1 := 0) (n1 := 0) X (cJx4a65c_size_8abf5_ok X.2.2.2.2.2.2.2.2.1 w) lkX11_90 hh (q9 := (RJx4a65c, TJx4a65c, 3)) rfl rfl dX11_count_74 ⟨Nat.le_of_ble_eq_true rfl, Nat.le_of_ble_eq_true rfl⟩ rfl (Nat.le_of_ble_eq_true rfl) ⟨Nat.le_of_ble_eq_true rfl, Nat.le_of_ble_eq_true rfl⟩ (Nat.le_of_ble_eq_true rfl) (Nat.le_of_ble_eq_true rfl) (fun x15 h14 w9 => ?_)
    replace w := w9
    clear w9
    exact V.vx (V_iret X rfl dX11_count_77 (Nat.le_of_ble_eq_true rfl) (Nat.le_of_ble_eq_true rfl) w)
  · refine V_tableIn (tgt := 78) X dX11_count_1 (by omega) (by omega) (by rw [z]; rfl) (by decide) ?_
    replace w := w3 z
    clear w0 w1 w2 w3 w4 w5 w6 w7 w8
    refine V_aloadr_n X dX11_count_78 0 rfl ?_
    obtain ⟨fs, r16, hh, hv, w⟩ := w
    refine V_get X flX11_12 dX11_count_79 hh hv ?_
    obtain ⟨a17, rfl, w⟩ := w
    obtain ⟨fs, r18, hh, hv, w⟩ := w
    refine V_get3 X frX11_173 dX11_count_82 hh hv ?_
    obtain ⟨a19, rfl, w⟩ := w
    obtain ⟨fs, hh, w⟩ := w
    refine V_callVi (As := []) (rest := []) (k1 := 0) (n1 := 0) X (cJx4a65c_size_8abf5_ok X.2.2.2.2.2.2.2.2.1 w) lkX11_90 hh (q9 := (RJx4a65c, TJx4a65c, 3)) rfl rfl dX11_count_85 ⟨Nat.le_of_ble_eq_true rfl, Nat.le_of_ble_eq_true rfl⟩ rfl (Nat.le_of_ble_eq_true rfl) ⟨Nat.le_of_ble_eq_true rfl, Nat.le_of_ble_eq_true rfl⟩ (Nat.le_of_ble_eq_true rfl) (Nat.le_of_ble_eq_true rfl) (fun x21 h20 w9 => ?_)
    replace w := w9
    clear w9
    exact V.vx (V_iret X rfl dX11_count_88 (Nat.le_of_ble_eq_true rfl) (Nat.le_of_ble_eq_true rfl) w)
  · refine V_tableIn (tgt := 89) X dX11_count_1 (by omega) (by omega) (by rw [z]; rfl) (by decide) ?_
    replace w := w4 z
    clear w0 w1 w2 w3 w4 w5 w6 w7 w8
    refine V_aloadr_n X dX11_count_89 0 rfl ?_
    obtain ⟨fs, r22, hh, hv, w⟩ := w
    refine V_get X flX11_12 dX11_count_90 hh hv ?_
    obtain ⟨a23, rfl, w⟩ := w
    obtain ⟨fs, r24, hh, hv, w⟩ := w
    refine V_get3 X frX11_196 dX11_count_93 hh hv ?_
    obtain ⟨a25, rfl, w⟩ := w
    obtain ⟨fs, hh, w⟩ := w
    refine V_callVi (As := []) (rest := []) (k1 := 0) (n1 := 0) X (cJx4a65c_size_8abf5_ok X.2.2.2.2.2.2.2.2.1 w) lkX11_90 hh (q9 := (RJx4a65c, TJx4a65c, 3)) rfl rfl dX11_count_96 ⟨Nat.le_of_ble_eq_true rfl, Nat.le_of_ble_eq_true rfl⟩ rfl (Nat.le_of_ble_eq_true rfl) ⟨Nat.le_of_ble_eq_true rfl, Nat.le_of_ble_eq_true rfl⟩ (Nat.le_of_ble_eq_true rfl) (Nat.le_of_ble_eq_true rfl) (fun x27 h26 w9 => ?_)
    replace w := w9
    clear w9
    exact V.vx (V_iret X rfl dX11_count_99 (Nat.le_of_ble_eq_true rfl) (Nat.le_of_ble_eq_true rfl) w)
  · refine V_tableIn (tgt := 100) X dX11_count_1 (by omega) (by omega) (by rw [z]; rfl) (by decide) ?_
    replace w := w5 z
    clear w0 w1 w2 w3 w4 w5 w6 w7 w8
    refine V_aloadr_n X dX11_count_100 0 rfl ?_
    obtain ⟨fs, r28, hh, hv, w⟩ := w
    refine V_get X flX11_28 dX11_count_101 hh hv ?_
    obtain ⟨a29, rfl, w⟩ := w
    obtain ⟨fs, x30, hh, hv, w⟩ := w
    refine V_get X flX11_290 dX11_count_104 hh hv ?_
    exact V.vx (V_iret X rfl dX11_count_107 (Nat.le_of_ble_eq_true rfl) (Nat.le_of_ble_eq_true rfl) w)
  · refine V_tableIn (tgt := 108) X dX11_count_1 (by omega) (by omega) (by rw [z]; rfl) (by decide) ?_
    replace w := w6 z
    clear w0 w1 w2 w3 w4 w5 w6 w7 w8
    refine V_aloadr_n X dX11_count_108 0 rfl ?_
    obtain ⟨fs, r31, hh, hv, w⟩ := w
    refine V_get X flX11_28 dX11_count_109 hh hv ?_
    obtain ⟨a32, rfl, w⟩ := w
    obtain ⟨fs, r33, hh, hv, w⟩ := w
    refine V_get3 X frX11_278 dX11_count_112 hh hv ?_
    obtain ⟨a34, rfl, w⟩ := w
    obtain ⟨fs, hh, w⟩ := w
    refine V_callVi (As := []) (rest := []) (k1 := 0) (n1 := 0) X (cX2_kept_ok X.2.2.2.2.2.2.2.2.1 w) lkX11_389 hh (q9 := (RX2, TX2, 2)) rfl rfl dX11_count_115 ⟨Nat.le_of_ble_eq_true rfl, Nat.le_of_ble_eq_true rfl⟩ rfl (Nat.le_of_ble_eq_true rfl) ⟨Nat.le_of_ble_eq_true rfl, Nat.le_of_ble_eq_true rfl⟩ (Nat.le_of_ble_eq_true rfl) (Nat.le_of_ble_eq_true rfl) (fun x36 h35 w9 => ?_)
    replace w := w9
    clear w9
    exact V.vx (V_iret X rfl dX11_count_118 (Nat.le_of_ble_eq_true rfl) (Nat.le_of_ble_eq_true rfl) w)
  · refine V_tableIn (tgt := 119) X dX11_count_1 (by omega) (by omega) (by rw [z]; rfl) (by decide) ?_
    replace w := w7 z
    clear w0 w1 w2 w3 w4 w5 w6 w7 w8
    refine V_aloadr_n X dX11_count_119 0 rfl ?_
    obtain ⟨fs, r37, hh, hv, w⟩ := w
    refine V_get X flX11_21 dX11_count_120 hh hv ?_
    obtain ⟨a38, rfl, w⟩ := w
    obtain ⟨fs, x39, hh, hv, w⟩ := w
    refine V_get X flX11_260 dX11_count_123 hh hv ?_
    exact V.vx (V_iret X rfl dX11_count_126 (Nat.le_of_ble_eq_true rfl) (Nat.le_of_ble_eq_true rfl) w)
  · refine V_tableOut (tgt := 127) X dX11_count_1 z (by decide) ?_
    replace w := w8 z
    clear w0 w1 w2 w3 w4 w5 w6 w7 w8
    exact V_throwW X thX11_394_47 dX11_count_127 dX11_count_130 dX11_count_131 dX11_count_134 dX11_count_137 hT ⟨(Nat.le_of_ble_eq_true rfl), (Nat.le_of_ble_eq_true rfl), (Nat.le_of_ble_eq_true rfl), (Nat.le_of_ble_eq_true rfl)⟩ (Nat.le_of_ble_eq_true rfl) (Nat.le_of_ble_eq_true rfl) w
theorem cX11_count_ok {l : Launch} {G : gG} {h : gH} (hls : l.stackTraces = false) {Qn : Int32 → gH → Prop} {Qx : String → gH → Prop} {v0 : Nat} {v1 : Int32} (w : vX11_count G.2.2.1 Qn Qx h v0 v1) : gXi l yX11_count cX11_count 2 (some FieldType.int) rmX11_count rmX11_count.cells rmX11_count.slots G h [.ref v0, .int v1] Qn Qx := by
  exact gXi.of (by decide +kernel) hls (Nat.le_of_ble_eq_true rfl) rfl rfl (fun p e s m below meth c A X hT => tX11_count X hT w)
