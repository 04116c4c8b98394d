/-! AnimationController$TransitionText.readTransition()Z -/
abbrev rmX10_readTransition : Room := { frames := 5, cells := 0, slots := 0, locals := 117 }
def vX10_readTransition_b26 (t0 : Nat)  (Qn : Int32 → gH → Prop) (h : gH) (v0 : Nat) (v1 : Option Nat) : Prop := gi h v0 13 3 (fun x1 => pv h v0 13 3 (.int (x1 + 1)) (fun h2 => io h2 v0 13 (vX10_readSign t0 (fun x4 h3 => ((¬ (x4 : Int32) = 0) → (io h3 v0 13 (vX10_nextByte t0 (fun x6 h5 => io h5 v0 13 (vX10_stateOf t0 (fun r8 h7 => ((r8) = none → (Qn 0 h7)) ∧ (∀ a9 : Nat, (r8) = some a9 → (gi h7 v0 13 3 (fun x10 => pv h7 v0 13 3 (.int (x10 + 1)) (fun h11 => io h11 v0 13 (vX10_readSign t0 (fun x13 h12 => ((¬ (x13 : Int32) = 0) → (io h12 v0 13 (vX10_readNumber t0 (fun x15 h14 => ((¬ (x15 : Int32) = (-1)) → (gr h14 v0 13 4 (fun r16 => nn r16 (fun a17 => io h14 a17 12 (vX9_begin t0 (fun h18 => io h18 v0 13 (vX10_readAttributes t0 (fun x20 h19 => gZ x20 ∧ Qn x20 h19) h18 v0 )) h14 a17 v1 (some a9) x15))))) ∧ (((x15 : Int32) = (-1)) → (Qn 0 h14))) h12 v0 60))) ∧ (((x13 : Int32) = 0) → (Qn 0 h12))) h11 v0 47)))))) h5 v0 x6)) h3 v0 ))) ∧ (((x4 : Int32) = 0) → (Qn 0 h3))) h2 v0 62)))
set_option maxRecDepth 100000 in
set_option maxHeartbeats 4000000 in
theorem tX10_readTransition_b26 {p : Program} {l : Launch} {e : Env} {s : State} {m : MethodId} {args : Array Value} {below : List Frame} {meth : Method} {c : Code} {G : gG} {A : Nat → Prop} {Qn : Int32 → gH → Prop} (X : gC p l s m args meth c G A cX10_readTransition 4 (some FieldType.boolean) RX10)   {h : gH} {v0 : Nat} {v1 : Option Nat} (w : vX10_readTransition_b26 G.2.2.1  Qn h v0 v1) : V p l e rmX10_readTransition s m args below meth c (MQ below (va_Qi Qn (gB G A) A) args s rmX10_readTransition.cells rmX10_readTransition.slots A) G A 4 h 0 0 26 [(0, .ref v0), (1, va_rf v1)] [] := by
  refine V_aloadr_n X dX10_readTransition_26 0 rfl ?_
  refine V_dup X dX10_readTransition_27 rfl ?_
  obtain ⟨fs, x1, hh, hv, w⟩ := w
  refine V_get X flX10_34 dX10_readTransition_28 hh hv ?_
  refine V_iconst (y := 1) X dX10_readTransition_31 (by decide) ?_
  refine V_iadd X dX10_readTransition_32 ?_
  obtain ⟨fs, hh, hv, w⟩ := w
  refine V_put X flX10_34 dX10_readTransition_33 hh hv rfl rfl ?_
  generalize va_up _ _ _ = h2 at w ⊢
  refine V_aloadr_n X dX10_readTransition_36 0 rfl ?_
  refine V_bipush (y := 62) X dX10_readTransition_37 (by decide) ?_
  obtain ⟨fs, hh, w⟩ := w
  refine V_callVi (As := [.int 62]) (rest := []) (k1 := 0) (n1 := 0) X (cX10_readSign_ok X.2.2.2.2.2.2.2.2.1 w) lkX10_76 hh (q9 := (RX10, TX10, 5)) rfl rfl dX10_readTransition_39 ⟨Nat.le_of_ble_eq_true rfl, Nat.le_of_ble_eq_true rfl⟩ rfl (Nat.le_of_ble_eq_true rfl) ⟨Nat.le_of_ble_eq_true rfl, Nat.le_of_ble_eq_true rfl⟩ (Nat.le_of_ble_eq_true rfl) (Nat.le_of_ble_eq_true rfl) (fun x4 h3 w9 => ?_)
  replace w := w9
  clear w9
  obtain ⟨w1, w2⟩ := w
  refine V_if_ne (tgt := 47) X dX10_readTransition_42 (by decide) (fun z => ?_) (fun z => ?_)
  · replace w := w1 z
    clear w1 w2
    refine V_aloadr_n X dX10_readTransition_47 0 rfl ?_
    refine V_aloadr_n X dX10_readTransition_48 0 rfl ?_
    obtain ⟨fs, hh, w⟩ := w
    refine V_callVi (As := []) (rest := [.ref v0]) (k1 := 0) (n1 := 0) X (cX10_nextByte_ok X.2.2.2.2.2.2.2.2.1 w) lkX10_55 hh (q9 := (RX10, TX10, 5)) rfl rfl dX10_readTransition_49 ⟨Nat.le_of_ble_eq_true rfl, Nat.le_of_ble_eq_true rfl⟩ rfl (Nat.le_of_ble_eq_true rfl) ⟨Nat.le_of_ble_eq_true rfl, Nat.le_of_ble_eq_true rfl⟩ (Nat.le_of_ble_eq_true rfl) (Nat.le_of_ble_eq_true rfl) (fun x6 h5 w9 => ?_)
    replace w := w9
    clear w9
    obtain ⟨fs, hh, w⟩ := w
    refine V_callVq (As := [.int x6]) (rest := []) (k1 := 0) (n1 := 0) X (cX10_stateOf_ok X.2.2.2.2.2.2.2.2.1 w) lkX10_72 hh (q9 := (RX10, TX10, 5)) rfl rfl dX10_readTransition_52 ⟨Nat.le_of_ble_eq_true rfl, Nat.le_of_ble_eq_true rfl⟩ rfl (Nat.le_of_ble_eq_true rfl) ⟨Nat.le_of_ble_eq_true rfl, Nat.le_of_ble_eq_true rfl⟩ (Nat.le_of_ble_eq_true rfl) (Nat.le_of_ble_eq_true rfl) (fun r8 h7 w9 => ?_)
    replace w := w9
    clear w9
    refine V_astoreq_n (i0 := 2) X dX10_readTransition_55 rfl (by decide) (by simp [va_cat1] <;> rfl) ?_
    refine V_aload_n X dX10_readTransition_56 0 rfl ?_
    obtain ⟨w1, w2⟩ := w
    refine V_ifnonnull (tgt := 62) X dX10_readTransition_57 (by decide) (fun a9 z => ?_) (fun z => ?_)
    · replace w := w2 a9 z
      clear w1 w2
      subst z
      refine V_aloadr_n X dX10_readTransition_62 1 rfl ?_
      refine V_dup X dX10_readTransition_63 rfl ?_
      obtain ⟨fs, x10, hh, hv, w⟩ := w
      refine V_get X flX10_34 dX10_readTransition_64 hh hv ?_
      refine V_iconst (y := 1) X dX10_readTransition_67 (by decide) ?_
      refine V_iadd X dX10_readTransition_68 ?_
      obtain ⟨fs, hh, hv, w⟩ := w
      refine V_put X flX10_34 dX10_readTransition_69 hh hv rfl rfl ?_
      generalize va_up _ _ _ = h11 at w ⊢
      refine V_aloadr_n X dX10_readTransition_72 1 rfl ?_
      refine V_bipush (y := 47) X dX10_readTransition_73 (by decide) ?_
      obtain ⟨fs, hh, w⟩ := w
      refine V_callVi (As := [.int 47]) (rest := []) (k1 := 0) (n1 := 0) X (cX10_readSign_ok X.2.2.2.2.2.2.2.2.1 w) lkX10_76 hh (q9 := (RX10, TX10, 5)) rfl rfl dX10_readTransition_75 ⟨Nat.le_of_ble_eq_true rfl, Nat.le_of_ble_eq_true rfl⟩ rfl (Nat.le_of_ble_eq_true rfl) ⟨Nat.le_of_ble_eq_true rfl, Nat.le_of_ble_eq_true rfl⟩ (Nat.le_of_ble_eq_true rfl) (Nat.le_of_ble_eq_true rfl) (fun x13 h12 w9 => ?_)
      replace w := w9
      clear w9
      obtain ⟨w1, w2⟩ := w
      refine V_if_ne (tgt := 83) X dX10_readTransition_78 (by decide) (fun z => ?_) (fun z => ?_)
      · replace w := w1 z
        clear w1 w2
        refine V_aloadr_n X dX10_readTransition_83 1 rfl ?_
        refine V_bipush (y := 60) X dX10_readTransition_84 (by decide) ?_
        obtain ⟨fs, hh, w⟩ := w
        refine V_callVi (As := [.int 60]) (rest := []) (k1 := 0) (n1 := 0) X (cX10_readNumber_ok X.2.2.2.2.2.2.2.2.1 w) lkX10_80 hh (q9 := (RX10, TX10, 5)) rfl rfl dX10_readTransition_86 ⟨Nat.le_of_ble_eq_true rfl, Nat.le_of_ble_eq_true rfl⟩ rfl (Nat.le_of_ble_eq_true rfl) ⟨Nat.le_of_ble_eq_true rfl, Nat.le_of_ble_eq_true rfl⟩ (Nat.le_of_ble_eq_true rfl) (Nat.le_of_ble_eq_true rfl) (fun x15 h14 w9 => ?_)
        replace w := w9
        clear w9
        refine V_istore_n (i0 := 3) X dX10_readTransition_89 rfl (by decide) rfl ?_
        refine V_iload_n X dX10_readTransition_90 0 rfl ?_
        refine V_iconst (y := (-1)) X dX10_readTransition_91 (by decide) ?_
        obtain ⟨w1, w2⟩ := w
        refine V_icmp_ne (tgt := 97) X dX10_readTransition_92 (by decide) (fun z => ?_) (fun z => ?_)
        · replace w := w1 z
          clear w1 w2
          refine V_aloadr_n X dX10_readTransition_97 2 rfl ?_
          obtain ⟨fs, r16, hh, hv, w⟩ := w
          refine V_get X flX10_30 dX10_readTransition_98 hh hv ?_
          refine V_aload_n X dX10_readTransition_101 3 rfl ?_
          refine V_aloadr_n X dX10_readTransition_102 1 rfl ?_
          refine V_iload_n X dX10_readTransition_103 0 rfl ?_
          obtain ⟨a17, rfl, w⟩ := w
          obtain ⟨fs, hh, w⟩ := w
          refine V_callVv (As := [va_rf v1, .ref a9, .int x15]) (rest := []) (k1 := 0) (n1 := 0) X (cX9_begin_ok X.2.2.2.2.2.2.2.2.1 w) lkX10_84 hh (q9 := (RX9, TX9, 12)) rfl rfl dX10_readTransition_104 ⟨Nat.le_of_ble_eq_true rfl, Nat.le_of_ble_eq_true rfl⟩ rfl (Nat.le_of_ble_eq_true rfl) ⟨Nat.le_of_ble_eq_true rfl, Nat.le_of_ble_eq_true rfl⟩ (Nat.le_of_ble_eq_true rfl) (Nat.le_of_ble_eq_true rfl) (fun h18 w9 => ?_)
          replace w := w9
          clear w9
          refine V_aloadr_n X dX10_readTransition_107 2 rfl ?_
          obtain ⟨fs, hh, w⟩ := w
          refine V_callVi (As := []) (rest := []) (k1 := 0) (n1 := 0) X (cX10_readAttributes_ok X.2.2.2.2.2.2.2.2.1 w) lkX10_88 hh (q9 := (RX10, TX10, 5)) rfl rfl dX10_readTransition_108 ⟨Nat.le_of_ble_eq_true rfl, Nat.le_of_ble_eq_true rfl⟩ rfl (Nat.le_of_ble_eq_true rfl) ⟨Nat.le_of_ble_eq_true rfl, Nat.le_of_ble_eq_true rfl⟩ (Nat.le_of_ble_eq_true rfl) (Nat.le_of_ble_eq_true rfl) (fun x20 h19 w9 => ?_)
          replace w := w9
          clear w9
          obtain ⟨hz, w⟩ := w
          exact V_zret X rfl hz.1 dX10_readTransition_111 (Nat.le_of_ble_eq_true rfl) (Nat.le_of_ble_eq_true rfl) w
        · replace w := w2 z
          clear w1 w2
          refine V_iconst (y := 0) X dX10_readTransition_95 (by decide) ?_
          exact V_zret X rfl rfl dX10_readTransition_96 (Nat.le_of_ble_eq_true rfl) (Nat.le_of_ble_eq_true rfl) w
      · replace w := w2 z
        clear w1 w2
        refine V_iconst (y := 0) X dX10_readTransition_81 (by decide) ?_
        exact V_zret X rfl rfl dX10_readTransition_82 (Nat.le_of_ble_eq_true rfl) (Nat.le_of_ble_eq_true rfl) w
    · replace w := w1 z
      clear w1 w2
      subst z
      refine V_iconst (y := 0) X dX10_readTransition_60 (by decide) ?_
      exact V_zret X rfl rfl dX10_readTransition_61 (Nat.le_of_ble_eq_true rfl) (Nat.le_of_ble_eq_true rfl) w
  · replace w := w2 z
    clear w1 w2
    refine V_iconst (y := 0) X dX10_readTransition_45 (by decide) ?_
    exact V_zret X rfl rfl dX10_readTransition_46 (Nat.le_of_ble_eq_true rfl) (Nat.le_of_ble_eq_true rfl) w
def vX10_readTransition (t0 : Nat)  (Qn : Int32 → gH → Prop) (h : gH) (v0 : Nat) : Prop := io h v0 13 (vX10_nextByte t0 (fun x2 h1 => (((x2 : Int32) = 42) → (vX10_readTransition_b26 t0  Qn h1 v0 (none : Option Nat))) ∧ ((¬ (x2 : Int32) = 42) → (io h1 v0 13 (vX10_nextByte t0 (fun x4 h3 => io h3 v0 13 (vX10_stateOf t0 (fun r6 h5 => ((r6) = none → (Qn 0 h5)) ∧ (∀ a7 : Nat, (r6) = some a7 → (vX10_readTransition_b26 t0  Qn h5 v0 (some a7)))) h3 v0 x4)) h1 v0 )))) h v0 )
set_option maxRecDepth 100000 in
set_option maxHeartbeats 4000000 in
theorem tX10_readTransition {p : Program} {l : Launch} {e : Env} {s : State} {m : MethodId} {args : Array Value} {below : List Frame} {meth : Method} {c : Code} {G : gG} {A : Nat → Prop} {Qn : Int32 → gH → Prop} (X : gC p l s m args meth c G A cX10_readTransition 4 (some FieldType.boolean) RX10)   {h : gH} {v0 : Nat} (w : vX10_readTransition G.2.2.1  Qn h v0) : V p l e rmX10_readTransition s m args below meth c (MQ below (va_Qi Qn (gB G A) A) args s rmX10_readTransition.cells rmX10_readTransition.slots A) G A 4 h 0 0 0 [(0, .ref v0)] [] := by
  refine V_null X dX10_readTransition_0 ?_
  refine V_astoreq_n (i0 := 1) X dX10_readTransition_1 rfl (by decide) rfl ?_
  refine V_aloadr_n X dX10_readTransition_2 1 rfl ?_
  obtain ⟨fs, hh, w⟩ := w
  refine V_callVi (As := []) (rest := []) (k1 := 0) (n1 := 0) X (cX10_nextByte_ok X.2.2.2.2.2.2.2.2.1 w) lkX10_55 hh (q9 := (RX10, TX10, 5)) rfl rfl dX10_readTransition_3 ⟨Nat.le_of_ble_eq_true rfl, Nat.le_of_ble_eq_true rfl⟩ rfl (Nat.le_of_ble_eq_true rfl) ⟨Nat.le_of_ble_eq_true rfl, Nat.le_of_ble_eq_true rfl⟩ (Nat.le_of_ble_eq_true rfl) (Nat.le_of_ble_eq_true rfl) (fun x2 h1 w9 => ?_)
  replace w := w9
  clear w9
  refine V_bipush (y := 42) X dX10_readTransition_6 (by decide) ?_
  obtain ⟨w1, w2⟩ := w
  refine V_icmp_eq (tgt := 26) X dX10_readTransition_8 (by decide) (fun z => ?_) (fun z => ?_)
  · replace w := w1 z
    clear w1 w2
    exact V.sub [1, 0] rfl (tX10_readTransition_b26 X  w)
  · replace w := w2 z
    clear w1 w2
    refine V_aloadr_n X dX10_readTransition_11 1 rfl ?_
    refine V_aloadr_n X dX10_readTransition_12 1 rfl ?_
    obtain ⟨fs, hh, w⟩ := w
    refine V_callVi (As := []) (rest := [.ref v0]) (k1 := 0) (n1 := 0) X (cX10_nextByte_ok X.2.2.2.2.2.2.2.2.1 w) lkX10_55 hh (q9 := (RX10, TX10, 5)) rfl rfl dX10_readTransition_13 ⟨Nat.le_of_ble_eq_true rfl, Nat.le_of_ble_eq_true rfl⟩ rfl (Nat.le_of_ble_eq_true rfl) ⟨Nat.le_of_ble_eq_true rfl, Nat.le_of_ble_eq_true rfl⟩ (Nat.le_of_ble_eq_true rfl) (Nat.le_of_ble_eq_true rfl) (fun x4 h3 w9 => ?_)
    replace w := w9
    clear w9
    obtain ⟨fs, hh, w⟩ := w
    refine V_callVq (As := [.int x4]) (rest := []) (k1 := 0) (n1 := 0) X (cX10_stateOf_ok X.2.2.2.2.2.2.2.2.1 w) lkX10_72 hh (q9 := (RX10, TX10, 5)) rfl rfl dX10_readTransition_16 ⟨Nat.le_of_ble_eq_true rfl, Nat.le_of_ble_eq_true rfl⟩ rfl (Nat.le_of_ble_eq_true rfl) ⟨Nat.le_of_ble_eq_true rfl, Nat.le_of_ble_eq_true rfl⟩ (Nat.le_of_ble_eq_true rfl) (Nat.le_of_ble_eq_true rfl) (fun r6 h5 w9 => ?_)
    replace w := w9
    clear w9
    refine V_astoreq_n (i0 := 1) X dX10_readTransition_19 rfl (by decide) rfl ?_
    refine V_aload_n X dX10_readTransition_20 0 rfl ?_
    obtain ⟨w1, w2⟩ := w
    refine V_ifnonnull (tgt := 26) X dX10_readTransition_21 (by decide) (fun a7 z => ?_) (fun z => ?_)
    · replace w := w2 a7 z
      clear w1 w2
      subst z
      exact V.sub [1, 0] rfl (tX10_readTransition_b26 X  w)
    · replace w := w1 z
      clear w1 w2
      subst z
      refine V_iconst (y := 0) X dX10_readTransition_24 (by decide) ?_
      exact V_zret X rfl rfl dX10_readTransition_25 (Nat.le_of_ble_eq_true rfl) (Nat.le_of_ble_eq_true rfl) w
theorem cX10_readTransition_ok {l : Launch} {G : gG} {h : gH} (hls : l.stackTraces = false) {Qn : Int32 → gH → Prop} {v0 : Nat} (w : vX10_readTransition G.2.2.1 Qn h v0) : gMi l yX10_readTransition cX10_readTransition 4 (some FieldType.boolean) rmX10_readTransition rmX10_readTransition.cells rmX10_readTransition.slots G h [.ref v0] Qn := by
  exact gMi.of (by decide +kernel) hls (Nat.le_of_ble_eq_true rfl) rfl rfl (fun p e s m below meth c A X hnm => tX10_readTransition X w)
/-! java/util/ArrayList.add(Ljava/lang/Object;[Ljava/lang/Object;I)V -/
abbrev rmJx4a65c_add_72be8 : Room := { frames := 5, cells := 1, slots := 64, locals := 147 }
def vJx4a65c_add_72be8_b11 (t0 : Nat)  (Qn : gH → Prop) (h : gH) (v0 : Nat) (v1 : Option Nat) (v2 : Option Nat) (v3 : Int32) : Prop := nn v1 (fun a1 => nn v2 (fun a2 => sq h 3 a2 v3 a1 (fun h3 => pv h3 v0 2 2 (.int (v3 + 1)) (fun h4 => Qn h4))))
set_option maxRecDepth 100000 in
set_option maxHeartbeats 4000000 in
theorem tJx4a65c_add_72be8_b11 {p : Program} {l : Launch} {e : Env} {s : State} {m : MethodId} {args : Array Value} {below : List Frame} {meth : Method} {c : Code} {G : gG} {A : Nat → Prop} {Qn : gH → Prop} (X : gC p l s m args meth c G A cJx4a65c_add_72be8 4 none RJx4a65c)   {h : gH} {v0 : Nat} {v1 : Option Nat} {v2 : Option Nat} {v3 : Int32} (w : vJx4a65c_add_72be8_b11 G.2.2.1  Qn h v0 v1 v2 v3) : V p l e rmJx4a65c_add_72be8 s m args below meth c (MQ below (va_Qv Qn (gB G A) A) args s rmJx4a65c_add_72be8.cells rmJx4a65c_add_72be8.slots A) G A 4 h 1 64 11 [(0, .ref v0), (1, va_rf v1), (2, va_rf v2), (3, .int v3)] [] := by
  refine V_aload_n X dJx4a65c_add_72be8_11 2 rfl ?_
  refine V_iload_n X dJx4a65c_add_72be8_12 3 rfl ?_
  refine V_aload_n X dJx4a65c_add_72be8_13 1 rfl ?_
  obtain ⟨a1, rfl, w⟩ := w
  obtain ⟨a2, rfl, w⟩ := w
  obtain ⟨N9, g9, hh, hi, hO, w⟩ := w
  replace hO := hO.elim (fun z => z.2) (fun z => absurd z.1 (by decide))
  refine V_aast3 X gcs dJx4a65c_add_72be8_14 hh hi hO ?_
  generalize va_up _ _ _ = h3 at w ⊢
  refine V_aloadr_n X dJx4a65c_add_72be8_15 0 rfl ?_
  refine V_iload_n X dJx4a65c_add_72be8_16 3 rfl ?_
  refine V_iconst (y := 1) X dJx4a65c_add_72be8_17 (by decide) ?_
  refine V_iadd X dJx4a65c_add_72be8_18 ?_
  obtain ⟨fs, hh, hv, w⟩ := w
  refine V_put X flJx4a65c_48 dJx4a65c_add_72be8_19 hh hv rfl rfl ?_
  generalize va_up _ _ _ = h4 at w ⊢
  exact V_vret X rfl dJx4a65c_add_72be8_22 (Nat.le_of_ble_eq_true rfl) (Nat.le_of_ble_eq_true rfl) w
def vJx4a65c_add_72be8 (t0 : Nat)  (Qn : gH → Prop) (h : gH) (v0 : Nat) (v1 : Option Nat) (v2 : Option Nat) (v3 : Int32) : Prop := nn v2 (fun a1 => al h a1 (fun x2 => ((¬ (v3 : Int32) = x2) → (vJx4a65c_add_72be8_b11 t0  Qn h v0 v1 (some a1) v3)) ∧ (((v3 : Int32) = x2) → (io h v0 2 (vJx4a65c_grow_d5877 t0 (fun r4 h3 => vJx4a65c_add_72be8_b11 t0  Qn h3 v0 v1 r4 v3) h v0 )))))
set_option maxRecDepth 100000 in
set_option maxHeartbeats 4000000 in
theorem tJx4a65c_add_72be8 {p : Program} {l : Launch} {e : Env} {s : State} {m : MethodId} {args : Array Value} {below : List Frame} {meth : Method} {c : Code} {G : gG} {A : Nat → Prop} {Qn : gH → Prop} (X : gC p l s m args meth c G A cJx4a65c_add_72be8 4 none RJx4a65c)   {h : gH} {v0 : Nat} {v1 : Option Nat} {v2 : Option Nat} {v3 : Int32} (w : vJx4a65c_add_72be8 G.2.2.1  Qn h v0 v1 v2 v3) : V p l e rmJx4a65c_add_72be8 s m args below meth c (MQ below (va_Qv Qn (gB G A) A) args s rmJx4a65c_add_72be8.cells rmJx4a65c_add_72be8.slots A) G A 4 h 0 0 0 [(0, .ref v0), (1, va_rf v1), (2, va_rf v2), (3, .int v3)] [] := by
  refine V_iload_n X dJx4a65c_add_72be8_0 3 rfl ?_
  refine V_aload_n X dJx4a65c_add_72be8_1 2 rfl ?_
  obtain ⟨a1, rfl, w⟩ := w
  obtain ⟨kt9, x9, hh, hk9, w⟩ := w
  refine V_alen X dJx4a65c_add_72be8_2 hh hk9 ?_
  generalize Int32.ofNat _ = x2 at w ⊢
  obtain ⟨w1, w2⟩ := w
  refine V_icmp_ne (tgt := 11) X dJx4a65c_add_72be8_3 (by decide) (fun z => ?_) (fun z => ?_)
  · replace w := w1 z
    clear w1 w2
    exact V.widen (k1 := 1) (n1 := 64) (Nat.le_of_ble_eq_true rfl) (Nat.le_of_ble_eq_true rfl) <| V.sub [0, 1, 2, 3] rfl (tJx4a65c_add_72be8_b11 X  w)
  · replace w := w2 z
    clear w1 w2
    refine V_aloadr_n X dJx4a65c_add_72be8_6 0 rfl ?_
    obtain ⟨fs, hh, w⟩ := w
    refine V_callVq (As := []) (rest := []) (k1 := 1) (n1 := 64) X (cJx4a65c_grow_d5877_ok X.2.2.2.2.2.2.2.2.1 w) lkJx4a65c_129 hh (q9 := (RJx4a65c, TJx4a65c, 3)) rfl rfl dJx4a65c_add_72be8_7 ⟨Nat.le_of_ble_eq_true rfl, Nat.le_of_ble_eq_true rfl⟩ rfl (Nat.le_of_ble_eq_true rfl) ⟨Nat.le_of_ble_eq_true rfl, Nat.le_of_ble_eq_true rfl⟩ (Nat.le_of_ble_eq_true rfl) (Nat.le_of_ble_eq_true rfl) (fun r4 h3 w9 => ?_)
    replace w := w9
    clear w9
    refine V_astoreq_n (i0 := 2) X dJx4a65c_add_72be8_10 rfl (by decide) (by simp [va_cat1] <;> rfl) ?_
    exact V.sub [1, 2, 0, 3] rfl (tJx4a65c_add_72be8_b11 X  w)
theorem cJx4a65c_add_72be8_ok {l : Launch} {G : gG} {h : gH} (hls : l.stackTraces = false) {Qn : gH → Prop} {v0 : Nat} {v1 : Option Nat} {v2 : Option Nat} {v3 : Int32} (w : vJx4a65c_add_72be8 G.2.2.1 Qn h v0 v1 v2 v3) : gMv l yJx4a65c_add_72be8 cJx4a65c_add_72be8 4 none rmJx4a65c_add_72be8 rmJx4a65c_add_72be8.cells rmJx4a65c_add_72be8.slots G h [.ref v0, va_rf v1, va_rf v2, .int v3] Qn := by
  cases v1 <;>
  cases v2 <;>
  exact gMv.of (by decide +kernel) hls (Nat.le_of_ble_eq_true rfl) rfl rfl (fun p e s m below meth c A X hnm => tJx4a65c_add_72be8 X w)
/-! java/util/ArrayList.add(Ljava/lang/Object;)Z -/
abbrev rmJx4a65c_add_9ea2d : Room := { frames := 6, cells := 1, slots := 64, locals := 170 }
def vJx4a65c_add_9ea2d (t0 : Nat)  (Qn : Int32 → gH → Prop) (h : gH) (v0 : Nat) (v1 : Option Nat) : Prop := gi h v0 2 0 (fun x1 => pv h v0 2 0 (.int (x1 + 1)) (fun h2 => gr h2 v0 2 1 (fun r3 => gi h2 v0 2 2 (fun x4 => io h2 v0 2 (vJx4a65c_add_72be8 t0 (fun h5 => Qn 1 h5) h2 v0 v1 r3 x4)))))
set_option maxRecDepth 100000 in
set_option maxHeartbeats 4000000 in
theorem tJx4a65c_add_9ea2d {p : Program} {l : Launch} {e : Env} {s : State} {m : MethodId} {args : Array Value} {below : List Frame} {meth : Method} {c : Code} {G : gG} {A : Nat → Prop} {Qn : Int32 → gH → Prop} (X : gC p l s m args meth c G A cJx4a65c_add_9ea2d 2 (some FieldType.boolean) RJx4a65c)   {h : gH} {v0 : Nat} {v1 : Option Nat} (w : vJx4a65c_add_9ea2d G.2.2.1  Qn h v0 v1) : V p l e rmJx4a65c_add_9ea2d s m args below meth c (MQ below (va_Qi Qn (gB G A) A) args s rmJx4a65c_add_9ea2d.cells rmJx4a65c_add_9ea2d.slots A) G A 2 h 0 0 0 [(0, .ref v0), (1, va_rf v1)] [] := by
  refine V_aloadr_n X dJx4a65c_add_9ea2d_0 0 rfl ?_
  refine V_dup X dJx4a65c_add_9ea2d_1 rfl ?_
  obtain ⟨fs, x1, hh, hv, w⟩ := w
  refine V_get2 X fmJx4a65c_63 dJx4a65c_add_9ea2d_2 hh hv ?_
  refine V_iconst (y := 1) X dJx4a65c_add_9ea2d_5 (by decide) ?_
  refine V_iadd X dJx4a65c_add_9ea2d_6 ?_
  obtain ⟨fs, hh, hv, w⟩ := w
  refine V_put2 X fmJx4a65c_63 dJx4a65c_add_9ea2d_7 hh hv rfl rfl ?_
  generalize va_up _ _ _ = h2 at w ⊢
  refine V_aloadr_n X dJx4a65c_add_9ea2d_10 0 rfl ?_
  refine V_aload_n X dJx4a65c_add_9ea2d_11 1 rfl ?_
  refine V_aloadr_n X dJx4a65c_add_9ea2d_12 0 rfl ?_
  obtain ⟨fs, r3, hh, hv, w⟩ := w
  refine V_get X flJx4a65c_9 dJx4a65c_add_9ea2d_13 hh hv ?_
  refine V_aloadr_n X dJx4a65c_add_9ea2d_16 0 rfl ?_
  obtain ⟨fs, x4, hh, hv, w⟩ := w
  refine V_get X flJx4a65c_48 dJx4a65c_add_9ea2d_17 hh hv ?_
  obtain ⟨fs, hh, w⟩ := w
  refine V_callVv (As := [va_rf v1, va_rf r3, .int x4]) (rest := []) (k1 := 1) (n1 := 64) X (cJx4a65c_add_72be8_ok X.2.2.2.2.2.2.2.2.1 w) lkJx4a65c_131 hh (q9 := (RJx4a65c, TJx4a65c, 3)) rfl rfl dJx4a65c_add_9ea2d_20 ⟨Nat.le_of_ble_eq_true rfl, Nat.le_of_ble_eq_true rfl⟩ rfl (Nat.le_of_ble_eq_true rfl) ⟨Nat.le_of_ble_eq_true rfl, Nat.le_of_ble_eq_true rfl⟩ (Nat.le_of_ble_eq_true rfl) (Nat.le_of_ble_eq_true rfl) (fun h5 w9 => ?_)
  replace w := w9
  clear w9
  refine V_iconst (y := 1) X dJx4a65c_add_9ea2d_23 (by decide) ?_
  exact V_zret X rfl rfl dJx4a65c_add_9ea2d_24 (Nat.le_of_ble_eq_true rfl) (Nat.le_of_ble_eq_true rfl) w
theorem cJx4a65c_add_9ea2d_ok {l : Launch} {G : gG} {h : gH} (hls : l.stackTraces = false) {Qn : Int32 → gH → Prop} {v0 : Nat} {v1 : Option Nat} (w : vJx4a65c_add_9ea2d G.2.2.1 Qn h v0 v1) : gMi l yJx4a65c_add_9ea2d cJx4a65c_add_9ea2d 2 (some FieldType.boolean) rmJx4a65c_add_9ea2d rmJx4a65c_add_9ea2d.cells rmJx4a65c_add_9ea2d.slots G h [.ref v0, va_rf v1] Qn := by
  cases v1 <;>
  exact gMi.of (by decide +kernel) hls (Nat.le_of_ble_eq_true rfl) rfl rfl (fun p e s m below meth c A X hnm => tJx4a65c_add_9ea2d X w)
/-! AnimationController$TransitionText.addDraft()V -/
abbrev rmX10_addDraft : Room := { frames := 7, cells := 5, slots := 85, locals := 191 }
def vX10_addDraft (t0 : Nat)  (Qn : gH → Prop) (h : gH) (v0 : Nat) : Prop := nw h (.inr (12, [.int 0, .null, .null, .int 0, .int 0, .int 0, .int 0, .int 0, .null, .null, .null, .int 0])) (fun q1 h2 => gr h2 v0 13 0 (fun r3 => nn r3 (fun a4 => gr h2 a4 7 5 (fun r5 => nn r5 (fun a6 => io h2 a6 2 (vJx4a65c_size_8abf5 t0 (fun x8 h7 => gr h7 v0 13 4 (fun r9 => nn r9 (fun a10 => gr h7 a10 12 2 (fun r11 => vX9_init t0 (fun h12 => gr h12 v0 13 4 (fun r13 => io h12 q1 12 (vX9_copyFrom t0 (fun h14 => gr h14 v0 13 0 (fun r15 => nn r15 (fun a16 => gr h14 a16 7 5 (fun r17 => nn r17 (fun a18 => io h14 a18 2 (vJx4a65c_add_9ea2d t0 (fun x20 h19 => Qn h19) h14 a18 (some q1))))))) h12 q1 r13))) h7 q1 x8 r11)))) h2 a6 ))))))
set_option maxRecDepth 100000 in
set_option maxHeartbeats 4000000 in
theorem tX10_addDraft {p : Program} {l : Launch} {e : Env} {s : State} {m : MethodId} {args : Array Value} {below : List Frame} {meth : Method} {c : Code} {G : gG} {A : Nat → Prop} {Qn : gH → Prop} (X : gC p l s m args meth c G A cX10_addDraft 2 none RX10)   {h : gH} {v0 : Nat} (w : vX10_addDraft G.2.2.1  Qn h v0) : V p l e rmX10_addDraft s m args below meth c (MQ below (va_Qv Qn (gB G A) A) args s rmX10_addDraft.cells rmX10_addDraft.slots A) G A 2 h 0 0 0 [(0, .ref v0)] [] := by
  refine V_new (k1 := 1) (n1 := 12) X nwX10_19 dX10_addDraft_0 ⟨(Nat.le_of_ble_eq_true rfl), (Nat.le_of_ble_eq_true rfl)⟩ (Nat.le_of_ble_eq_true rfl) (Nat.le_of_ble_eq_true rfl) (fun q1 hq => ?_)
  replace w := w q1 hq
  generalize va_up _ _ _ = h2 at w ⊢
  refine V_dup X dX10_addDraft_3 rfl ?_
  refine V_aloadr_n X dX10_addDraft_4 0 rfl ?_
  obtain ⟨fs, r3, hh, hv, w⟩ := w
  refine V_get X flX10_15 dX10_addDraft_5 hh hv ?_
  obtain ⟨a4, rfl, w⟩ := w
  obtain ⟨fs, r5, hh, hv, w⟩ := w
  refine V_get3 X frX10_38 dX10_addDraft_8 hh hv ?_
  obtain ⟨a6, rfl, w⟩ := w
  obtain ⟨fs, hh, w⟩ := w
  refine V_callVi (As := []) (rest := [.ref q1, .ref q1]) (k1 := 1) (n1 := 12) X (cJx4a65c_size_8abf5_ok X.2.2.2.2.2.2.2.2.1 w) lkX10_42 hh (q9 := (RJx4a65c, TJx4a65c, 3)) rfl rfl dX10_addDraft_11 ⟨Nat.le_of_ble_eq_true rfl, Nat.le_of_ble_eq_true rfl⟩ rfl (Nat.le_of_ble_eq_true rfl) ⟨Nat.le_of_ble_eq_true rfl, Nat.le_of_ble_eq_true rfl⟩ (Nat.le_of_ble_eq_true rfl) (Nat.le_of_ble_eq_true rfl) (fun x8 h7 w9 => ?_)
  replace w := w9
  clear w9
  refine V_aloadr_n X dX10_addDraft_14 0 rfl ?_
  obtain ⟨fs, r9, hh, hv, w⟩ := w
  refine V_get X flX10_30 dX10_addDraft_15 hh hv ?_
  obtain ⟨a10, rfl, w⟩ := w
  obtain ⟨fs, r11, hh, hv, w⟩ := w
  refine V_get X flX10_58 dX10_addDraft_18 hh hv ?_
  refine V_callI (As := [.int x8, va_rf r11]) (rest := [.ref q1]) (k1 := 4) (n1 := 21) X (cX9_init_ok X.2.2.2.2.2.2.2.2.1 w) lkX10_27 dX10_addDraft_21 ⟨Nat.le_of_ble_eq_true rfl, Nat.le_of_ble_eq_true rfl⟩ rfl (Nat.le_of_ble_eq_true rfl) ⟨Nat.le_of_ble_eq_true rfl, Nat.le_of_ble_eq_true rfl⟩ (Nat.le_of_ble_eq_true rfl) (Nat.le_of_ble_eq_true rfl) (fun h12 w9 => ?_)
  replace w := w9
  clear w9
  refine V_astore_n (i0 := 1) X dX10_addDraft_24 rfl (by decide) rfl ?_
  refine V_aloadr_n X dX10_addDraft_25 0 rfl ?_
  refine V_aloadr_n X dX10_addDraft_26 1 rfl ?_
  obtain ⟨fs, r13, hh, hv, w⟩ := w
  refine V_get X flX10_30 dX10_addDraft_27 hh hv ?_
  obtain ⟨fs, hh, w⟩ := w
  refine V_callVv (As := [va_rf r13]) (rest := []) (k1 := 4) (n1 := 21) X (cX9_copyFrom_ok X.2.2.2.2.2.2.2.2.1 w) lkX10_61 hh (q9 := (RX9, TX9, 12)) rfl rfl dX10_addDraft_30 ⟨Nat.le_of_ble_eq_true rfl, Nat.le_of_ble_eq_true rfl⟩ rfl (Nat.le_of_ble_eq_true rfl) ⟨Nat.le_of_ble_eq_true rfl, Nat.le_of_ble_eq_true rfl⟩ (Nat.le_of_ble_eq_true rfl) (Nat.le_of_ble_eq_true rfl) (fun h14 w9 => ?_)
  replace w := w9
  clear w9
  refine V_aloadr_n X dX10_addDraft_33 1 rfl ?_
  obtain ⟨fs, r15, hh, hv, w⟩ := w
  refine V_get X flX10_15 dX10_addDraft_34 hh hv ?_
  obtain ⟨a16, rfl, w⟩ := w
  obtain ⟨fs, r17, hh, hv, w⟩ := w
  refine V_get3 X frX10_38 dX10_addDraft_37 hh hv ?_
  refine V_aloadr_n X dX10_addDraft_40 0 rfl ?_
  obtain ⟨a18, rfl, w⟩ := w
  obtain ⟨fs, hh, w⟩ := w
  refine V_callVi (As := [.ref q1]) (rest := []) (k1 := 5) (n1 := 85) X (cJx4a65c_add_9ea2d_ok X.2.2.2.2.2.2.2.2.1 w) lkX10_65 hh (q9 := (RJx4a65c, TJx4a65c, 3)) rfl rfl dX10_addDraft_41 ⟨Nat.le_of_ble_eq_true rfl, Nat.le_of_ble_eq_true rfl⟩ rfl (Nat.le_of_ble_eq_true rfl) ⟨Nat.le_of_ble_eq_true rfl, Nat.le_of_ble_eq_true rfl⟩ (Nat.le_of_ble_eq_true rfl) (Nat.le_of_ble_eq_true rfl) (fun x20 h19 w9 => ?_)
  replace w := w9
  clear w9
  refine V_pop X dX10_addDraft_44 rfl ?_
  exact V_vret X rfl dX10_addDraft_45 (Nat.le_of_ble_eq_true rfl) (Nat.le_of_ble_eq_true rfl) w
theorem cX10_addDraft_ok {l : Launch} {G : gG} {h : gH} (hls : l.stackTraces = false) {Qn : gH → Prop} {v0 : Nat} (w : vX10_addDraft G.2.2.1 Qn h v0) : gMv l yX10_addDraft cX10_addDraft 2 none rmX10_addDraft rmX10_addDraft.cells rmX10_addDraft.slots G h [.ref v0] Qn := by
  exact gMv.of (by decide +kernel) hls (Nat.le_of_ble_eq_true rfl) rfl rfl (fun p e s m below meth c A X hnm => tX10_addDraft X w)
/-! AnimationController$TransitionText.readAll(Z)I -/
abbrev rmX10_readAll : Room := { frames := 8, cells := 125, slots := 2125, locals := 212 }
def vX10_readAll_b46_24 (t0 : Nat)  (Qn : Int32 → gH → Prop) (h : gH) (v0 : Nat) (v1 : Int32) (v2 : Int32) (v3 : Int32) : Prop := io h v0 13 (vX10_nextByte t0 (fun x2 h1 => ((¬ (x2 : Int32) = (-1)) → ((((x2 : Int32) = 59) → (gi h1 v0 13 3 (fun x3 => pv h1 v0 13 3 (.int (x3 + 1)) (fun h4 => False)))) ∧ ((¬ (x2 : Int32) = 59) → (gi h1 v0 13 3 (fun x5 => Qn x5 h1))))) ∧ (((x2 : Int32) = (-1)) → (Qn (-1) h1))) h v0 )
set_option maxRecDepth 100000 in
set_option maxHeartbeats 4000000 in
theorem tX10_readAll_b46_24 {p : Program} {l : Launch} {e : Env} {s : State} {m : MethodId} {args : Array Value} {below : List Frame} {meth : Method} {c : Code} {G : gG} {A : Nat → Prop} {Qn : Int32 → gH → Prop} (X : gC p l s m args meth c G A cX10_readAll 5 (some FieldType.int) RX10)   {h : gH} {v0 : Nat} {v1 : Int32} {v2 : Int32} {v3 : Int32} (w : vX10_readAll_b46_24 G.2.2.1  Qn h v0 v1 v2 v3) : V p l e rmX10_readAll s m args below meth c (MQ below (va_Qi Qn (gB G A) A) args s rmX10_readAll.cells rmX10_readAll.slots A) G A 5 h 125 2125 46 [(0, .ref v0), (1, .int v1), (2, .int v2), (3, .int v3)] [] := by
  refine V_aloadr_n X dX10_readAll_46 0 rfl ?_
  obtain ⟨fs, hh, w⟩ := w
  refine V_callVi (As := []) (rest := []) (k1 := 125) (n1 := 2125) X (cX10_nextByte_ok X.2.2.2.2.2.2.2.2.1 w) lkX10_55 hh (q9 := (RX10, TX10, 5)) rfl rfl dX10_readAll_47 ⟨Nat.le_of_ble_eq_true rfl, Nat.le_of_ble_eq_true rfl⟩ rfl (Nat.le_of_ble_eq_true rfl) ⟨Nat.le_of_ble_eq_true rfl, Nat.le_of_ble_eq_true rfl⟩ (Nat.le_of_ble_eq_true rfl) (Nat.le_of_ble_eq_true rfl) (fun x2 h1 w9 => ?_)
  replace w := w9
  clear w9
  refine V_istore X dX10_readAll_50 (by decide) rfl ?_
  refine V_iload X dX10_readAll_52 0 rfl ?_
  refine V_iconst (y := (-1)) X dX10_readAll_54 (by decide) ?_
  obtain ⟨w1, w2⟩ := w
  refine V_icmp_ne (tgt := 60) X dX10_readAll_55 (by decide) (fun z => ?_) (fun z => ?_)
  · replace w := w1 z
    clear w1 w2
    refine V_iload X dX10_readAll_60 0 rfl ?_
    refine V_bipush (y := 59) X dX10_readAll_62 (by decide) ?_
    obtain ⟨w1, w2⟩ := w
    refine V_icmp_eq (tgt := 72) X dX10_readAll_64 (by decide) (fun z => ?_) (fun z => ?_)
    · replace w := w1 z
      clear w1 w2
      refine V_aloadr_n X dX10_readAll_72 1 rfl ?_
      refine V_dup X dX10_readAll_73 rfl ?_
      obtain ⟨fs, x3, hh, hv, w⟩ := w
      refine V_get X flX10_34 dX10_readAll_74 hh hv ?_
      refine V_iconst (y := 1) X dX10_readAll_77 (by decide) ?_
      refine V_iadd X dX10_readAll_78 ?_
      obtain ⟨fs, hh, hv, w⟩ := w
      refine V_put X flX10_34 dX10_readAll_79 hh hv rfl rfl ?_
      generalize va_up _ _ _ = h4 at w ⊢
      refine V_iinc (y := (v3 + 1)) X dX10_readAll_82 4 rfl (by first | rfl | (congr 1)) (by decide) rfl ?_
      refine V_goto (tgt := 21) X dX10_readAll_85 (by decide) ?_
      exact False.elim w
    · replace w := w2 z
      clear w1 w2
      refine V_aloadr_n X dX10_readAll_67 1 rfl ?_
      obtain ⟨fs, x5, hh, hv, w⟩ := w
      refine V_get X flX10_34 dX10_readAll_68 hh hv ?_
      exact V_iret X rfl dX10_readAll_71 (Nat.le_of_ble_eq_true rfl) (Nat.le_of_ble_eq_true rfl) w
  · replace w := w2 z
    clear w1 w2
    refine V_iconst (y := (-1)) X dX10_readAll_58 (by decide) ?_
    exact V_iret X rfl dX10_readAll_59 (Nat.le_of_ble_eq_true rfl) (Nat.le_of_ble_eq_true rfl) w
def vX10_readAll_b21_24 (t0 : Nat)  (Qn : Int32 → gH → Prop) (h : gH) (v0 : Nat) (v1 : Int32) (v2 : Int32) (v3 : Int32) : Prop := ((v2 ≤ (v3 : Int32)) → (io h v0 13 (vX10_nextByte t0 (fun x2 h1 => gi h1 v0 13 3 (fun x3 => Qn x3 h1)) h v0 ))) ∧ ((¬ v2 ≤ (v3 : Int32)) → (io h v0 13 (vX10_readTransition t0 (fun x5 h4 => ((¬ (x5 : Int32) = 0) → ((((v1 : Int32) = 0) → (vX10_readAll_b46_24 t0  Qn h4 v0 v1 v2 v3)) ∧ ((¬ (v1 : Int32) = 0) → (io h4 v0 13 (vX10_addDraft t0 (fun h6 => vX10_readAll_b46_24 t0  Qn h6 v0 v1 v2 v3) h4 v0 ))))) ∧ (((x5 : Int32) = 0) → (gi h4 v0 13 3 (fun x7 => Qn x7 h4)))) h v0 )))
set_option maxRecDepth 100000 in
set_option maxHeartbeats 4000000 in
theorem tX10_readAll_b21_24 {p : Program} {l : Launch} {e : Env} {s : State} {m : MethodId} {args : Array Value} {below : List Frame} {meth : Method} {c : Code} {G : gG} {A : Nat → Prop} {Qn : Int32 → gH → Prop} (X : gC p l s m args meth c G A cX10_readAll 5 (some FieldType.int) RX10)   {h : gH} {v0 : Nat} {v1 : Int32} {v2 : Int32} {v3 : Int32} (w : vX10_readAll_b21_24 G.2.2.1  Qn h v0 v1 v2 v3) : V p l e rmX10_readAll s m args below meth c (MQ below (va_Qi Qn (gB G A) A) args s rmX10_readAll.cells rmX10_readAll.slots A) G A 5 h 120 2040 21 [(0, .ref v0), (1, .int v1), (2, .int v2), (3, .int v3)] [] := by
  refine V_iload_n X dX10_readAll_21 3 rfl ?_
  refine V_iload_n X dX10_readAll_22 2 rfl ?_
  obtain ⟨w1, w2⟩ := w
  refine V_icmp_ge (tgt := 88) X dX10_readAll_23 (by decide) (fun z => ?_) (fun z => ?_)
  · replace w := w1 z
    clear w1 w2
    refine V_aloadr_n X dX10_readAll_88 0 rfl ?_
    obtain ⟨fs, hh, w⟩ := w
    refine V_callVi (As := []) (rest := []) (k1 := 120) (n1 := 2040) X (cX10_nextByte_ok X.2.2.2.2.2.2.2.2.1 w) lkX10_55 hh (q9 := (RX10, TX10, 5)) rfl rfl dX10_readAll_89 ⟨Nat.le_of_ble_eq_true rfl, Nat.le_of_ble_eq_true rfl⟩ rfl (Nat.le_of_ble_eq_true rfl) ⟨Nat.le_of_ble_eq_true rfl, Nat.le_of_ble_eq_true rfl⟩ (Nat.le_of_ble_eq_true rfl) (Nat.le_of_ble_eq_true rfl) (fun x2 h1 w9 => ?_)
    replace w := w9
    clear w9
    refine V_pop X dX10_readAll_92 rfl ?_
    refine V_aloadr_n X dX10_readAll_93 0 rfl ?_
    obtain ⟨fs, x3, hh, hv, w⟩ := w
    refine V_get X flX10_34 dX10_readAll_94 hh hv ?_
    exact V_iret X rfl dX10_readAll_97 (Nat.le_of_ble_eq_true rfl) (Nat.le_of_ble_eq_true rfl) w
  · replace w := w2 z
    clear w1 w2
    refine V_aloadr_n X dX10_readAll_26 0 rfl ?_
    obtain ⟨fs, hh, w⟩ := w
    refine V_callVi (As := []) (rest := []) (k1 := 120) (n1 := 2040) X (cX10_readTransition_ok X.2.2.2.2.2.2.2.2.1 w) lkX10_48 hh (q9 := (RX10, TX10, 5)) rfl rfl dX10_readAll_27 ⟨Nat.le_of_ble_eq_true rfl, Nat.le_of_ble_eq_true rfl⟩ rfl (Nat.le_of_ble_eq_true rfl) ⟨Nat.le_of_ble_eq_true rfl, Nat.le_of_ble_eq_true rfl⟩ (Nat.le_of_ble_eq_true rfl) (Nat.le_of_ble_eq_true rfl) (fun x5 h4 w9 => ?_)
    replace w := w9
    clear w9
    obtain ⟨w1, w2⟩ := w
    refine V_if_ne (tgt := 38) X dX10_readAll_30 (by decide) (fun z => ?_) (fun z => ?_)
    · replace w := w1 z
      clear w1 w2
      refine V_iload_n X dX10_readAll_38 1 rfl ?_
      obtain ⟨w1, w2⟩ := w
      refine V_if_eq (tgt := 46) X dX10_readAll_39 (by decide) (fun z => ?_) (fun z => ?_)
      · replace w := w1 z
        clear w1 w2
        exact V.widen (k1 := 125) (n1 := 2125) (Nat.le_of_ble_eq_true rfl) (Nat.le_of_ble_eq_true rfl) <| V.sub [0, 1, 2, 3] rfl (tX10_readAll_b46_24 X  w)
      · replace w := w2 z
        clear w1 w2
        refine V_aloadr_n X dX10_readAll_42 0 rfl ?_
        obtain ⟨fs, hh, w⟩ := w
        refine V_callVv (As := []) (rest := []) (k1 := 125) (n1 := 2125) X (cX10_addDraft_ok X.2.2.2.2.2.2.2.2.1 w) lkX10_52 hh (q9 := (RX10, TX10, 5)) rfl rfl dX10_readAll_43 ⟨Nat.le_of_ble_eq_true rfl, Nat.le_of_ble_eq_true rfl⟩ rfl (Nat.le_of_ble_eq_true rfl) ⟨Nat.le_of_ble_eq_true rfl, Nat.le_of_ble_eq_true rfl⟩ (Nat.le_of_ble_eq_true rfl) (Nat.le_of_ble_eq_true rfl) (fun h6 w9 => ?_)
        replace w := w9
        clear w9
        exact V.sub [0, 1, 2, 3] rfl (tX10_readAll_b46_24 X  w)
    · replace w := w2 z
      clear w1 w2
      refine V_aloadr_n X dX10_readAll_33 0 rfl ?_
      obtain ⟨fs, x7, hh, hv, w⟩ := w
      refine V_get X flX10_34 dX10_readAll_34 hh hv ?_
      exact V_iret X rfl dX10_readAll_37 (Nat.le_of_ble_eq_true rfl) (Nat.le_of_ble_eq_true rfl) w
def vX10_readAll_b46_23 (t0 : Nat)  (Qn : Int32 → gH → Prop) (h : gH) (v0 : Nat) (v1 : Int32) (v2 : Int32) (v3 : Int32) : Prop := io h v0 13 (vX10_nextByte t0 (fun x2 h1 => ((¬ (x2 : Int32) = (-1)) → ((((x2 : Int32) = 59) → (gi h1 v0 13 3 (fun x3 => pv h1 v0 13 3 (.int (x3 + 1)) (fun h4 => vX10_readAll_b21_24 t0  Qn h4 v0 v1 v2 (v3 + 1))))) ∧ ((¬ (x2 : Int32) = 59) → (gi h1 v0 13 3 (fun x5 => Qn x5 h1))))) ∧ (((x2 : Int32) = (-1)) → (Qn (-1) h1))) h v0 )
set_option maxRecDepth 100000 in
set_option maxHeartbeats 4000000 in
theorem tX10_readAll_b46_23 {p : Program} {l : Launch} {e : Env} {s : State} {m : MethodId} {args : Array Value} {below : List Frame} {meth : Method} {c : Code} {G : gG} {A : Nat → Prop} {Qn : Int32 → gH → Prop} (X : gC p l s m args meth c G A cX10_readAll 5 (some FieldType.int) RX10)   {h : gH} {v0 : Nat} {v1 : Int32} {v2 : Int32} {v3 : Int32} (w : vX10_readAll_b46_23 G.2.2.1  Qn h v0 v1 v2 v3) : V p l e rmX10_readAll s m args below meth c (MQ below (va_Qi Qn (gB G A) A) args s rmX10_readAll.cells rmX10_readAll.slots A) G A 5 h 120 2040 46 [(0, .ref v0), (1, .int v1), (2, .int v2), (3, .int v3)] [] := by
  refine V_aloadr_n X dX10_readAll_46 0 rfl ?_
  obtain ⟨fs, hh, w⟩ := w
  refine V_callVi (As := []) (rest := []) (k1 := 120) (n1 := 2040) X (cX10_nextByte_ok X.2.2.2.2.2.2.2.2.1 w) lkX10_55 hh (q9 := (RX10, TX10, 5)) rfl rfl dX10_readAll_47 ⟨Nat.le_of_ble_eq_true rfl, Nat.le_of_ble_eq_true rfl⟩ rfl (Nat.le_of_ble_eq_true rfl) ⟨Nat.le_of_ble_eq_true rfl, Nat.le_of_ble_eq_true rfl⟩ (Nat.le_of_ble_eq_true rfl) (Nat.le_of_ble_eq_true rfl) (fun x2 h1 w9 => ?_)
  replace w := w9
  clear w9
  refine V_istore X dX10_readAll_50 (by decide) rfl ?_
  refine V_iload X dX10_readAll_52 0 rfl ?_
  refine V_iconst (y := (-1)) X dX10_readAll_54 (by decide) ?_
  obtain ⟨w1, w2⟩ := w
  refine V_icmp_ne (tgt := 60) X dX10_readAll_55 (by decide) (fun z => ?_) (fun z => ?_)
  · replace w := w1 z
    clear w1 w2
    refine V_iload X dX10_readAll_60 0 rfl ?_
    refine V_bipush (y := 59) X dX10_readAll_62 (by decide) ?_
    obtain ⟨w1, w2⟩ := w
    refine V_icmp_eq (tgt := 72) X dX10_readAll_64 (by decide) (fun z => ?_) (fun z => ?_)
    · replace w := w1 z
      clear w1 w2
      refine V_aloadr_n X dX10_readAll_72 1 rfl ?_
      refine V_dup X dX10_readAll_73 rfl ?_
      obtain ⟨fs, x3, hh, hv, w⟩ := w
      refine V_get X flX10_34 dX10_readAll_74 hh hv ?_
      refine V_iconst (y := 1) X dX10_readAll_77 (by decide) ?_
      refine V_iadd X dX10_readAll_78 ?_
      obtain ⟨fs, hh, hv, w⟩ := w
      refine V_put X flX10_34 dX10_readAll_79 hh hv rfl rfl ?_
      generalize va_up _ _ _ = h4 at w ⊢
      refine V_iinc (y := (v3 + 1)) X dX10_readAll_82 4 rfl (by first | rfl | (congr 1)) (by decide) rfl ?_
      refine V_goto (tgt := 21) X dX10_readAll_85 (by decide) ?_
      exact V.sub [2, 3, 4, 0] rfl (tX10_readAll_b21_24 X  w)
    · replace w := w2 z
      clear w1 w2
      refine V_aloadr_n X dX10_readAll_67 1 rfl ?_
      obtain ⟨fs, x5, hh, hv, w⟩ := w
      refine V_get X flX10_34 dX10_readAll_68 hh hv ?_
      exact V_iret X rfl dX10_readAll_71 (Nat.le_of_ble_eq_true rfl) (Nat.le_of_ble_eq_true rfl) w
  · replace w := w2 z
    clear w1 w2
    refine V_iconst (y := (-1)) X dX10_readAll_58 (by decide) ?_
    exact V_iret X rfl dX10_readAll_59 (Nat.le_of_ble_eq_true rfl) (Nat.le_of_ble_eq_true rfl) w
def vX10_readAll_b21_23 (t0 : Nat)  (Qn : Int32 → gH → Prop) (h : gH) (v0 : Nat) (v1 : Int32) (v2 : Int32) (v3 : Int32) : Prop := ((v2 ≤ (v3 : Int32)) → (io h v0 13 (vX10_nextByte t0 (fun x2 h1 => gi h1 v0 13 3 (fun x3 => Qn x3 h1)) h v0 ))) ∧ ((¬ v2 ≤ (v3 : Int32)) → (io h v0 13 (vX10_readTransition t0 (fun x5 h4 => ((¬ (x5 : Int32) = 0) → ((((v1 : Int32) = 0) → (vX10_readAll_b46_23 t0  Qn h4 v0 v1 v2 v3)) ∧ ((¬ (v1 : Int32) = 0) → (io h4 v0 13 (vX10_addDraft t0 (fun h6 => vX10_readAll_b46_23 t0  Qn h6 v0 v1 v2 v3) h4 v0 ))))) ∧ (((x5 : Int32) = 0) → (gi h4 v0 13 3 (fun x7 => Qn x7 h4)))) h v0 )))
set_option maxRecDepth 100000 in
set_option maxHeartbeats 4000000 in
theorem tX10_readAll_b21_23 {p : Program} {l : Launch} {e : Env} {s : State} {m : MethodId} {args : Array Value} {below : List Frame} {meth : Method} {c : Code} {G : gG} {A : Nat → Prop} {Qn : Int32 → gH → Prop} (X : gC p l s m args meth c G A cX10_readAll 5 (some FieldType.int) RX10)   {h : gH} {v0 : Nat} {v1 : Int32} {v2 : Int32} {v3 : Int32} (w : vX10_readAll_b21_23 G.2.2.1  Qn h v0 v1 v2 v3) : V p l e rmX10_readAll s m args below meth c (MQ below (va_Qi Qn (gB G A) A) args s rmX10_readAll.cells rmX10_readAll.slots A) G A 5 h 115 1955 21 [(0, .ref v0), (1, .int v1), (2, .int v2), (3, .int v3)] [] := by
  refine V_iload_n X dX10_readAll_21 3 rfl ?_
  refine V_iload_n X dX10_readAll_22 2 rfl ?_
  obtain ⟨w1, w2⟩ := w
  refine V_icmp_ge (tgt := 88) X dX10_readAll_23 (by decide) (fun z => ?_) (fun z => ?_)
  · replace w := w1 z
    clear w1 w2
    refine V_aloadr_n X dX10_readAll_88 0 rfl ?_
    obtain ⟨fs, hh, w⟩ := w
    refine V_callVi (As := []) (rest := []) (k1 := 115) (n1 := 1955) X (cX10_nextByte_ok X.2.2.2.2.2.2.2.2.1 w) lkX10_55 hh (q9 := (RX10, TX10, 5)) rfl rfl dX10_readAll_89 ⟨Nat.le_of_ble_eq_true rfl, Nat.le_of_ble_eq_true rfl⟩ rfl (Nat.le_of_ble_eq_true rfl) ⟨Nat.le_of_ble_eq_true rfl, Nat.le_of_ble_eq_true rfl⟩ (Nat.le_of_ble_eq_true rfl) (Nat.le_of_ble_eq_true rfl) (fun x2 h1 w9 => ?_)
    replace w := w9
    clear w9
    refine V_pop X dX10_readAll_92 rfl ?_
    refine V_aloadr_n X dX10_readAll_93 0 rfl ?_
    obtain ⟨fs, x3, hh, hv, w⟩ := w
    refine V_get X flX10_34 dX10_readAll_94 hh hv ?_
    exact V_iret X rfl dX10_readAll_97 (Nat.le_of_ble_eq_true rfl) (Nat.le_of_ble_eq_true rfl) w
  · replace w := w2 z
    clear w1 w2
    refine V_aloadr_n X dX10_readAll_26 0 rfl ?_
    obtain ⟨fs, hh, w⟩ := w
    refine V_callVi (As := []) (rest := []) (k1 := 115) (n1 := 1955) X (cX10_readTransition_ok X.2.2.2.2.2.2.2.2.1 w) lkX10_48 hh (q9 := (RX10, TX10, 5)) rfl rfl dX10_readAll_27 ⟨Nat.le_of_ble_eq_true rfl, Nat.le_of_ble_eq_true rfl⟩ rfl (Nat.le_of_ble_eq_true rfl) ⟨Nat.le_of_ble_eq_true rfl, Nat.le_of_ble_eq_true rfl⟩ (Nat.le_of_ble_eq_true rfl) (Nat.le_of_ble_eq_true rfl) (fun x5 h4 w9 => ?_)
    replace w := w9
    clear w9
    obtain ⟨w1, w2⟩ := w
    refine V_if_ne (tgt := 38) X dX10_readAll_30 (by decide) (fun z => ?_) (fun z => ?_)
    · replace w := w1 z
      clear w1 w2
      refine V_iload_n X dX10_readAll_38 1 rfl ?_
      obtain ⟨w1, w2⟩ := w
      refine V_if_eq (tgt := 46) X dX10_readAll_39 (by decide) (fun z => ?_) (fun z => ?_)
      · replace w := w1 z
        clear w1 w2
        exact V.widen (k1 := 120) (n1 := 2040) (Nat.le_of_ble_eq_true rfl) (Nat.le_of_ble_eq_true rfl) <| V.sub [0, 1, 2, 3] rfl (tX10_readAll_b46_23 X  w)
      · replace w := w2 z
        clear w1 w2
        refine V_aloadr_n X dX10_readAll_42 0 rfl ?_
        obtain ⟨fs, hh, w⟩ := w
        refine V_callVv (As := []) (rest := []) (k1 := 120) (n1 := 2040) X (cX10_addDraft_ok X.2.2.2.2.2.2.2.2.1 w) lkX10_52 hh (q9 := (RX10, TX10, 5)) rfl rfl dX10_readAll_43 ⟨Nat.le_of_ble_eq_true rfl, Nat.le_of_ble_eq_true rfl⟩ rfl (Nat.le_of_ble_eq_true rfl) ⟨Nat.le_of_ble_eq_true rfl, Nat.le_of_ble_eq_true rfl⟩ (Nat.le_of_ble_eq_true rfl) (Nat.le_of_ble_eq_true rfl) (fun h6 w9 => ?_)
        replace w := w9
        clear w9
        exact V.sub [0, 1, 2, 3] rfl (tX10_readAll_b46_23 X  w)
    · replace w := w2 z
      clear w1 w2
      refine V_aloadr_n X dX10_readAll_33 0 rfl ?_
      obtain ⟨fs, x7, hh, hv, w⟩ := w
      refine V_get X flX10_34 dX10_readAll_34 hh hv ?_
      exact V_iret X rfl dX10_readAll_37 (Nat.le_of_ble_eq_true rfl) (Nat.le_of_ble_eq_true rfl) w
def vX10_readAll_b46_22 (t0 : Nat)  (Qn : Int32 → gH → Prop) (h : gH) (v0 : Nat) (v1 : Int32) (v2 : Int32) (v3 : Int32) : Prop := io h v0 13 (vX10_nextByte t0 (fun x2 h1 => ((¬ (x2 : Int32) = (-1)) → ((((x2 : Int32) = 59) → (gi h1 v0 13 3 (fun x3 => pv h1 v0 13 3 (.int (x3 + 1)) (fun h4 => vX10_readAll_b21_23 t0  Qn h4 v0 v1 v2 (v3 + 1))))) ∧ ((¬ (x2 : Int32) = 59) → (gi h1 v0 13 3 (fun x5 => Qn x5 h1))))) ∧ (((x2 : Int32) = (-1)) → (Qn (-1) h1))) h v0 )
set_option maxRecDepth 100000 in
set_option maxHeartbeats 4000000 in
theorem tX10_readAll_b46_22 {p : Program} {l : Launch} {e : Env} {s : State} {m : MethodId} {args : Array Value} {below : List Frame} {meth : Method} {c : Code} {G : gG} {A : Nat → Prop} {Qn : Int32 → gH → Prop} (X : gC p l s m args meth c G A cX10_readAll 5 (some FieldType.int) RX10)   {h : gH} {v0 : Nat} {v1 : Int32} {v2 : Int32} {v3 : Int32} (w : vX10_readAll_b46_22 G.2.2.1  Qn h v0 v1 v2 v3) : V p l e rmX10_readAll s m args below meth c (MQ below (va_Qi Qn (gB G A) A) args s rmX10_readAll.cells rmX10_readAll.slots A) G A 5 h 115 1955 46 [(0, .ref v0), (1, .int v1), (2, .int v2), (3, .int v3)] [] := by
  refine V_aloadr_n X dX10_readAll_46 0 rfl ?_
  obtain ⟨fs, hh, w⟩ := w
  refine V_callVi (As := []) (rest := []) (k1 := 115) (n1 := 1955) X (cX10_nextByte_ok X.2.2.2.2.2.2.2.2.1 w) lkX10_55 hh (q9 := (RX10, TX10, 5)) rfl rfl dX10_readAll_47 ⟨Nat.le_of_ble_eq_true rfl, Nat.le_of_ble_eq_true rfl⟩ rfl (Nat.le_of_ble_eq_true rfl) ⟨Nat.le_of_ble_eq_true rfl, Nat.le_of_ble_eq_true rfl⟩ (Nat.le_of_ble_eq_true rfl) (Nat.le_of_ble_eq_true rfl) (fun x2 h1 w9 => ?_)
  replace w := w9
  clear w9
  refine V_istore X dX10_readAll_50 (by decide) rfl ?_
  refine V_iload X dX10_readAll_52 0 rfl ?_
  refine V_iconst (y := (-1)) X dX10_readAll_54 (by decide) ?_
  obtain ⟨w1, w2⟩ := w
  refine V_icmp_ne (tgt := 60) X dX10_readAll_55 (by decide) (fun z => ?_) (fun z => ?_)
  · replace w := w1 z
    clear w1 w2
    refine V_iload X dX10_readAll_60 0 rfl ?_
    refine V_bipush (y := 59) X dX10_readAll_62 (by decide) ?_
    obtain ⟨w1, w2⟩ := w
    refine V_icmp_eq (tgt := 72) X dX10_readAll_64 (by decide) (fun z => ?_) (fun z => ?_)
    · replace w := w1 z
      clear w1 w2
      refine V_aloadr_n X dX10_readAll_72 1 rfl ?_
      refine V_dup X dX10_readAll_73 rfl ?_
      obtain ⟨fs, x3, hh, hv, w⟩ := w
      refine V_get X flX10_34 dX10_readAll_74 hh hv ?_
      refine V_iconst (y := 1) X dX10_readAll_77 (by decide) ?_
      refine V_iadd X dX10_readAll_78 ?_
      obtain ⟨fs, hh, hv, w⟩ := w
      refine V_put X flX10_34 dX10_readAll_79 hh hv rfl rfl ?_
      generalize va_up _ _ _ = h4 at w ⊢
      refine V_iinc (y := (v3 + 1)) X dX10_readAll_82 4 rfl (by first | rfl | (congr 1)) (by decide) rfl ?_
      refine V_goto (tgt := 21) X dX10_readAll_85 (by decide) ?_
      exact V.sub [2, 3, 4, 0] rfl (tX10_readAll_b21_23 X  w)
    · replace w := w2 z
      clear w1 w2
      refine V_aloadr_n X dX10_readAll_67 1 rfl ?_
      obtain ⟨fs, x5, hh, hv, w⟩ := w
      refine V_get X flX10_34 dX10_readAll_68 hh hv ?_
      exact V_iret X rfl dX10_readAll_71 (Nat.le_of_ble_eq_true rfl) (Nat.le_of_ble_eq_true rfl) w
  · replace w := w2 z
    clear w1 w2
    refine V_iconst (y := (-1)) X dX10_readAll_58 (by decide) ?_
    exact V_iret X rfl dX10_readAll_59 (Nat.le_of_ble_eq_true rfl) (Nat.le_of_ble_eq_true rfl) w
def vX10_readAll_b21_22 (t0 : Nat)  (Qn : Int32 → gH → Prop) (h : gH) (v0 : Nat) (v1 : Int32) (v2 : Int32) (v3 : Int32) : Prop := ((v2 ≤ (v3 : Int32)) → (io h v0 13 (vX10_nextByte t0 (fun x2 h1 => gi h1 v0 13 3 (fun x3 => Qn x3 h1)) h v0 ))) ∧ ((¬ v2 ≤ (v3 : Int32)) → (io h v0 13 (vX10_readTransition t0 (fun x5 h4 => ((¬ (x5 : Int32) = 0) → ((((v1 : Int32) = 0) → (vX10_readAll_b46_22 t0  Qn h4 v0 v1 v2 v3)) ∧ ((¬ (v1 : Int32) = 0) → (io h4 v0 13 (vX10_addDraft t0 (fun h6 => vX10_readAll_b46_22 t0  Qn h6 v0 v1 v2 v3) h4 v0 ))))) ∧ (((x5 : Int32) = 0) → (gi h4 v0 13 3 (fun x7 => Qn x7 h4)))) h v0 )))
set_option maxRecDepth 100000 in
set_option maxHeartbeats 4000000 in
theorem tX10_readAll_b21_22 {p : Program} {l : Launch} {e : Env} {s : State} {m : MethodId} {args : Array Value} {below : List Frame} {meth : Method} {c : Code} {G : gG} {A : Nat → Prop} {Qn : Int32 → gH → Prop} (X : gC p l s m args meth c G A cX10_readAll 5 (some FieldType.int) RX10)   {h : gH} {v0 : Nat} {v1 : Int32} {v2 : Int32} {v3 : Int32} (w : vX10_readAll_b21_22 G.2.2.1  Qn h v0 v1 v2 v3) : V p l e rmX10_readAll s m args below meth c (MQ below (va_Qi Qn (gB G A) A) args s rmX10_readAll.cells rmX10_readAll.slots A) G A 5 h 110 1870 21 [(0, .ref v0), (1, .int v1), (2, .int v2), (3, .int v3)] [] := by
  refine V_iload_n X dX10_readAll_21 3 rfl ?_
  refine V_iload_n X dX10_readAll_22 2 rfl ?_
  obtain ⟨w1, w2⟩ := w
  refine V_icmp_ge (tgt := 88) X dX10_readAll_23 (by decide) (fun z => ?_) (fun z => ?_)
  · replace w := w1 z
    clear w1 w2
    refine V_aloadr_n X dX10_readAll_88 0 rfl ?_
    obtain ⟨fs, hh, w⟩ := w
    refine V_callVi (As := []) (rest := []) (k1 := 110) (n1 := 1870) X (cX10_nextByte_ok X.2.2.2.2.2.2.2.2.1 w) lkX10_55 hh (q9 := (RX10, TX10, 5)) rfl rfl dX10_readAll_89 ⟨Nat.le_of_ble_eq_true rfl, Nat.le_of_ble_eq_true rfl⟩ rfl (Nat.le_of_ble_eq_true rfl) ⟨Nat.le_of_ble_eq_true rfl, Nat.le_of_ble_eq_true rfl⟩ (Nat.le_of_ble_eq_true rfl) (Nat.le_of_ble_eq_true rfl) (fun x2 h1 w9 => ?_)
    replace w := w9
    clear w9
    refine V_pop X dX10_readAll_92 rfl ?_
    refine V_aloadr_n X dX10_readAll_93 0 rfl ?_
    obtain ⟨fs, x3, hh, hv, w⟩ := w
    refine V_get X flX10_34 dX10_readAll_94 hh hv ?_
    exact V_iret X rfl dX10_readAll_97 (Nat.le_of_ble_eq_true rfl) (Nat.le_of_ble_eq_true rfl) w
  · replace w := w2 z
    clear w1 w2
    refine V_aloadr_n X dX10_readAll_26 0 rfl ?_
    obtain ⟨fs, hh, w⟩ := w
    refine V_callVi (As := []) (rest := []) (k1 := 110) (n1 := 1870) X (cX10_readTransition_ok X.2.2.2.2.2.2.2.2.1 w) lkX10_48 hh (q9 := (RX10, TX10, 5)) rfl rfl dX10_readAll_27 ⟨Nat.le_of_ble_eq_true rfl, Nat.le_of_ble_eq_true rfl⟩ rfl (Nat.le_of_ble_eq_true rfl) ⟨Nat.le_of_ble_eq_true rfl, Nat.le_of_ble_eq_true rfl⟩ (Nat.le_of_ble_eq_true rfl) (Nat.le_of_ble_eq_true rfl) (fun x5 h4 w9 => ?_)
    replace w := w9
    clear w9
    obtain ⟨w1, w2⟩ := w
    refine V_if_ne (tgt := 38) X dX10_readAll_30 (by decide) (fun z => ?_) (fun z => ?_)
    · replace w := w1 z
      clear w1 w2
      refine V_iload_n X dX10_readAll_38 1 rfl ?_
      obtain ⟨w1, w2⟩ := w
      refine V_if_eq (tgt := 46) X dX10_readAll_39 (by decide) (fun z => ?_) (fun z => ?_)
      · replace w := w1 z
        clear w1 w2
        exact V.widen (k1 := 115) (n1 := 1955) (Nat.le_of_ble_eq_true rfl) (Nat.le_of_ble_eq_true rfl) <| V.sub [0, 1, 2, 3] rfl (tX10_readAll_b46_22 X  w)
      · replace w := w2 z
        clear w1 w2
        refine V_aloadr_n X dX10_readAll_42 0 rfl ?_
        obtain ⟨fs, hh, w⟩ := w
        refine V_callVv (As := []) (rest := []) (k1 := 115) (n1 := 1955) X (cX10_addDraft_ok X.2.2.2.2.2.2.2.2.1 w) lkX10_52 hh (q9 := (RX10, TX10, 5)) rfl rfl dX10_readAll_43 ⟨Nat.le_of_ble_eq_true rfl, Nat.le_of_ble_eq_true rfl⟩ rfl (Nat.le_of_ble_eq_true rfl) ⟨Nat.le_of_ble_eq_true rfl, Nat.le_of_ble_eq_true rfl⟩ (Nat.le_of_ble_eq_true rfl) (Nat.le_of_ble_eq_true rfl) (fun h6 w9 => ?_)
        replace w := w9
        clear w9
        exact V.sub [0, 1, 2, 3] rfl (tX10_readAll_b46_22 X  w)
    · replace w := w2 z
      clear w1 w2
      refine V_aloadr_n X dX10_readAll_33 0 rfl ?_
      obtain ⟨fs, x7, hh, hv, w⟩ := w
      refine V_get X flX10_34 dX10_readAll_34 hh hv ?_
      exact V_iret X rfl dX10_readAll_37 (Nat.le_of_ble_eq_true rfl) (Nat.le_of_ble_eq_true rfl) w
def vX10_readAll_b46_21 (t0 : Nat)  (Qn : Int32 → gH → Prop) (h : gH) (v0 : Nat) (v1 : Int32) (v2 : Int32) (v3 : Int32) : Prop := io h v0 13 (vX10_nextByte t0 (fun x2 h1 => ((¬ (x2 : Int32) = (-1)) → ((((x2 : Int32) = 59) → (gi h1 v0 13 3 (fun x3 => pv h1 v0 13 3 (.int (x3 + 1)) (fun h4 => vX10_readAll_b21_22 t0  Qn h4 v0 v1 v2 (v3 + 1))))) ∧ ((¬ (x2 : Int32) = 59) → (gi h1 v0 13 3 (fun x5 => Qn x5 h1))))) ∧ (((x2 : Int32) = (-1)) → (Qn (-1) h1))) h v0 )
set_option maxRecDepth 100000 in
set_option maxHeartbeats 4000000 in
theorem tX10_readAll_b46_21 {p : Program} {l : Launch} {e : Env} {s : State} {m : MethodId} {args : Array Value} {below : List Frame} {meth : Method} {c : Code} {G : gG} {A : Nat → Prop} {Qn : Int32 → gH → Prop} (X : gC p l s m args meth c G A cX10_readAll 5 (some FieldType.int) RX10)   {h : gH} {v0 : Nat} {v1 : Int32} {v2 : Int32} {v3 : Int32} (w : vX10_readAll_b46_21 G.2.2.1  Qn h v0 v1 v2 v3) : V p l e rmX10_readAll s m args below meth c (MQ below (va_Qi Qn (gB G A) A) args s rmX10_readAll.cells rmX10_readAll.slots A) G A 5 h 110 1870 46 [(0, .ref v0), (1, .int v1), (2, .int v2), (3, .int v3)] [] := by
  refine V_aloadr_n X dX10_readAll_46 0 rfl ?_
  obtain ⟨fs, hh, w⟩ := w
  refine V_callVi (As := []) (rest := []) (k1 := 110) (n1 := 1870) X (cX10_nextByte_ok X.2.2.2.2.2.2.2.2.1 w) lkX10_55 hh (q9 := (RX10, TX10, 5)) rfl rfl dX10_readAll_47 ⟨Nat.le_of_ble_eq_true rfl, Nat.le_of_ble_eq_true rfl⟩ rfl (Nat.le_of_ble_eq_true rfl) ⟨Nat.le_of_ble_eq_true rfl, Nat.le_of_ble_eq_true rfl⟩ (Nat.le_of_ble_eq_true rfl) (Nat.le_of_ble_eq_true rfl) (fun x2 h1 w9 => ?_)
  replace w := w9
  clear w9
  refine V_istore X dX10_readAll_50 (by decide) rfl ?_
  refine V_iload X dX10_readAll_52 0 rfl ?_
  refine V_iconst (y := (-1)) X dX10_readAll_54 (by decide) ?_
  obtain ⟨w1, w2⟩ := w
  refine V_icmp_ne (tgt := 60) X dX10_readAll_55 (by decide) (fun z => ?_) (fun z => ?_)
  · replace w := w1 z
    clear w1 w2
    refine V_iload X dX10_readAll_60 0 rfl ?_
    refine V_bipush (y := 59) X dX10_readAll_62 (by decide) ?_
    obtain ⟨w1, w2⟩ := w
    refine V_icmp_eq (tgt := 72) X dX10_readAll_64 (by decide) (fun z => ?_) (fun z => ?_)
    · replace w := w1 z
      clear w1 w2
      refine V_aloadr_n X dX10_readAll_72 1 rfl ?_
      refine V_dup X dX10_readAll_73 rfl ?_
      obtain ⟨fs, x3, hh, hv, w⟩ := w
      refine V_get X flX10_34 dX10_readAll_74 hh hv ?_
      refine V_iconst (y := 1) X dX10_readAll_77 (by decide) ?_
      refine V_iadd X dX10_readAll_78 ?_
      obtain ⟨fs, hh, hv, w⟩ := w
      refine V_put X flX10_34 dX10_readAll_79 hh hv rfl rfl ?_
      generalize va_up _ _ _ = h4 at w ⊢
      refine V_iinc (y := (v3 + 1)) X dX10_readAll_82 4 rfl (by first | rfl | (congr 1)) (by decide) rfl ?_
      refine V_goto (tgt := 21) X dX10_readAll_85 (by decide) ?_
      exact V.sub [2, 3, 4, 0] rfl (tX10_readAll_b21_22 X  w)
    · replace w := w2 z
      clear w1 w2
      refine V_aloadr_n X dX10_readAll_67 1 rfl ?_
      obtain ⟨fs, x5, hh, hv, w⟩ := w
      refine V_get X flX10_34 dX10_readAll_68 hh hv ?_
      exact V_iret X rfl dX10_readAll_71 (Nat.le_of_ble_eq_true rfl) (Nat.le_of_ble_eq_true rfl) w
  · replace w := w2 z
    clear w1 w2
    refine V_iconst (y := (-1)) X dX10_readAll_58 (by decide) ?_
    exact V_iret X rfl dX10_readAll_59 (Nat.le_of_ble_eq_true rfl) (Nat.le_of_ble_eq_true rfl) w
def vX10_readAll_b21_21 (t0 : Nat)  (Qn : Int32 → gH → Prop) (h : gH) (v0 : Nat) (v1 : Int32) (v2 : Int32) (v3 : Int32) : Prop := ((v2 ≤ (v3 : Int32)) → (io h v0 13 (vX10_nextByte t0 (fun x2 h1 => gi h1 v0 13 3 (fun x3 => Qn x3 h1)) h v0 ))) ∧ ((¬ v2 ≤ (v3 : Int32)) → (io h v0 13 (vX10_readTransition t0 (fun x5 h4 => ((¬ (x5 : Int32) = 0) → ((((v1 : Int32) = 0) → (vX10_readAll_b46_21 t0  Qn h4 v0 v1 v2 v3)) ∧ ((¬ (v1 : Int32) = 0) → (io h4 v0 13 (vX10_addDraft t0 (fun h6 => vX10_readAll_b46_21 t0  Qn h6 v0 v1 v2 v3) h4 v0 ))))) ∧ (((x5 : Int32) = 0) → (gi h4 v0 13 3 (fun x7 => Qn x7 h4)))) h v0 )))
set_option maxRecDepth 100000 in
set_option maxHeartbeats 4000000 in
theorem tX10_readAll_b21_21 {p : Program} {l : Launch} {e : Env} {s : State} {m : MethodId} {args : Array Value} {below : List Frame} {meth : Method} {c : Code} {G : gG} {A : Nat → Prop} {Qn : Int32 → gH → Prop} (X : gC p l s m args meth c G A cX10_readAll 5 (some FieldType.int) RX10)   {h : gH} {v0 : Nat} {v1 : Int32} {v2 : Int32} {v3 : Int32} (w : vX10_readAll_b21_21 G.2.2.1  Qn h v0 v1 v2 v3) : V p l e rmX10_readAll s m args below meth c (MQ below (va_Qi Qn (gB G A) A) args s rmX10_readAll.cells rmX10_readAll.slots A) G A 5 h 105 1785 21 [(0, .ref v0), (1, .int v1), (2, .int v2), (3, .int v3)] [] := by
  refine V_iload_n X dX10_readAll_21 3 rfl ?_
  refine V_iload_n X dX10_readAll_22 2 rfl ?_
  obtain ⟨w1, w2⟩ := w
  refine V_icmp_ge (tgt := 88) X dX10_readAll_23 (by decide) (fun z => ?_) (fun z => ?_)
  · replace w := w1 z
    clear w1 w2
    refine V_aloadr_n X dX10_readAll_88 0 rfl ?_
    obtain ⟨fs, hh, w⟩ := w
    refine V_callVi (As := []) (rest := []) (k1 := 105) (n1 := 1785) X (cX10_nextByte_ok X.2.2.2.2.2.2.2.2.1 w) lkX10_55 hh (q9 := (RX10, TX10, 5)) rfl rfl dX10_readAll_89 ⟨Nat.le_of_ble_eq_true rfl, Nat.le_of_ble_eq_true rfl⟩ rfl (Nat.le_of_ble_eq_true rfl) ⟨Nat.le_of_ble_eq_true rfl, Nat.le_of_ble_eq_true rfl⟩ (Nat.le_of_ble_eq_true rfl) (Nat.le_of_ble_eq_true rfl) (fun x2 h1 w9 => ?_)
    replace w := w9
    clear w9
    refine V_pop X dX10_readAll_92 rfl ?_
    refine V_aloadr_n X dX10_readAll_93 0 rfl ?_
    obtain ⟨fs, x3, hh, hv, w⟩ := w
    refine V_get X flX10_34 dX10_readAll_94 hh hv ?_
    exact V_iret X rfl dX10_readAll_97 (Nat.le_of_ble_eq_true rfl) (Nat.le_of_ble_eq_true rfl) w
  · replace w := w2 z
    clear w1 w2
    refine V_aloadr_n X dX10_readAll_26 0 rfl ?_
    obtain ⟨fs, hh, w⟩ := w
    refine V_callVi (As := []) (rest := []) (k1 := 105) (n1 := 1785) X (cX10_readTransition_ok X.2.2.2.2.2.2.2.2.1 w) lkX10_48 hh (q9 := (RX10, TX10, 5)) rfl rfl dX10_readAll_27 ⟨Nat.le_of_ble_eq_true rfl, Nat.le_of_ble_eq_true rfl⟩ rfl (Nat.le_of_ble_eq_true rfl) ⟨Nat.le_of_ble_eq_true rfl, Nat.le_of_ble_eq_true rfl⟩ (Nat.le_of_ble_eq_true rfl) (Nat.le_of_ble_eq_true rfl) (fun x5 h4 w9 => ?_)
    replace w := w9
    clear w9
    obtain ⟨w1, w2⟩ := w
    refine V_if_ne (tgt := 38) X dX10_readAll_30 (by decide) (fun z => ?_) (fun z => ?_)
    · replace w := w1 z
      clear w1 w2
      refine V_iload_n X dX10_readAll_38 1 rfl ?_
      obtain ⟨w1, w2⟩ := w
      refine V_if_eq (tgt := 46) X dX10_readAll_39 (by decide) (fun z => ?_) (fun z => ?_)
      · replace w := w1 z
        clear w1 w2
        exact V.widen (k1 := 110) (n1 := 1870) (Nat.le_of_ble_eq_true rfl) (Nat.le_of_ble_eq_true rfl) <| V.sub [0, 1, 2, 3] rfl (tX10_readAll_b46_21 X  w)
      · replace w := w2 z
        clear w1 w2
        refine V_aloadr_n X dX10_readAll_42 0 rfl ?_
        obtain ⟨fs, hh, w⟩ := w
        refine V_callVv (As := []) (rest := []) (k1 := 110) (n1 := 1870) X (cX10_addDraft_ok X.2.2.2.2.2.2.2.2.1 w) lkX10_52 hh (q9 := (RX10, TX10, 5)) rfl rfl dX10_readAll_43 ⟨Nat.le_of_ble_eq_true rfl, Nat.le_of_ble_eq_true rfl⟩ rfl (Nat.le_of_ble_eq_true rfl) ⟨Nat.le_of_ble_eq_true rfl, Nat.le_of_ble_eq_true rfl⟩ (Nat.le_of_ble_eq_true rfl) (Nat.le_of_ble_eq_true rfl) (fun h6 w9 => ?_)
        replace w := w9
        clear w9
        exact V.sub [0, 1, 2, 3] rfl (tX10_readAll_b46_21 X  w)
    · replace w := w2 z
      clear w1 w2
      refine V_aloadr_n X dX10_readAll_33 0 rfl ?_
      obtain ⟨fs, x7, hh, hv, w⟩ := w
      refine V_get X flX10_34 dX10_readAll_34 hh hv ?_
      exact V_iret X rfl dX10_readAll_37 (Nat.le_of_ble_eq_true rfl) (Nat.le_of_ble_eq_true rfl) w
def vX10_readAll_b46_20 (t0 : Nat)  (Qn : Int32 → gH → Prop) (h : gH) (v0 : Nat) (v1 : Int32) (v2 : Int32) (v3 : Int32) : Prop := io h v0 13 (vX10_nextByte t0 (fun x2 h1 => ((¬ (x2 : Int32) = (-1)) → ((((x2 : Int32) = 59) → (gi h1 v0 13 3 (fun x3 => pv h1 v0 13 3 (.int (x3 + 1)) (fun h4 => vX10_readAll_b21_21 t0  Qn h4 v0 v1 v2 (v3 + 1))))) ∧ ((¬ (x2 : Int32) = 59) → (gi h1 v0 13 3 (fun x5 => Qn x5 h1))))) ∧ (((x2 : Int32) = (-1)) → (Qn (-1) h1))) h v0 )
set_option maxRecDepth 100000 in
set_option maxHeartbeats 4000000 in
theorem tX10_readAll_b46_20 {p : Program} {l : Launch} {e : Env} {s : State} {m : MethodId} {args : Array Value} {below : List Frame} {meth : Method} {c : Code} {G : gG} {A : Nat → Prop} {Qn : Int32 → gH → Prop} (X : gC p l s m args meth c G A cX10_readAll 5 (some FieldType.int) RX10)   {h : gH} {v0 : Nat} {v1 : Int32} {v2 : Int32} {v3 : Int32} (w : vX10_readAll_b46_20 G.2.2.1  Qn h v0 v1 v2 v3) : V p l e rmX10_readAll s m args below meth c (MQ below (va_Qi Qn (gB G A) A) args s rmX10_readAll.cells rmX10_readAll.slots A) G A 5 h 105 1785 46 [(0, .ref v0), (1, .int v1), (2, .int v2), (3, .int v3)] [] := by
  refine V_aloadr_n X dX10_readAll_46 0 rfl ?_
  obtain ⟨fs, hh, w⟩ := w
  refine V_callVi (As := []) (rest := []) (k1 := 105) (n1 := 1785) X (cX10_nextByte_ok X.2.2.2.2.2.2.2.2.1 w) lkX10_55 hh (q9 := (RX10, TX10, 5)) rfl rfl dX10_readAll_47 ⟨Nat.le_of_ble_eq_true rfl, Nat.le_of_ble_eq_true rfl⟩ rfl (Nat.le_of_ble_eq_true rfl) ⟨Nat.le_of_ble_eq_true rfl, Nat.le_of_ble_eq_true rfl⟩ (Nat.le_of_ble_eq_true rfl) (Nat.le_of_ble_eq_true rfl) (fun x2 h1 w9 => ?_)
  replace w := w9
  clear w9
  refine V_istore X dX10_readAll_50 (by decide) rfl ?_
  refine V_iload X dX10_readAll_52 0 rfl ?_
  refine V_iconst (y := (-1)) X dX10_readAll_54 (by decide) ?_
  obtain ⟨w1, w2⟩ := w
  refine V_icmp_ne (tgt := 60) X dX10_readAll_55 (by decide) (fun z => ?_) (fun z => ?_)
  · replace w := w1 z
    clear w1 w2
    refine V_iload X dX10_readAll_60 0 rfl ?_
    refine V_bipush (y := 59) X dX10_readAll_62 (by decide) ?_
    obtain ⟨w1, w2⟩ := w
    refine V_icmp_eq (tgt := 72) X dX10_readAll_64 (by decide) (fun z => ?_) (fun z => ?_)
    · replace w := w1 z
      clear w1 w2
      refine V_aloadr_n X dX10_readAll_72 1 rfl ?_
      refine V_dup X dX10_readAll_73 rfl ?_
      obtain ⟨fs, x3, hh, hv, w⟩ := w
      refine V_get X flX10_34 dX10_readAll_74 hh hv ?_
      refine V_iconst (y := 1) X dX10_readAll_77 (by decide) ?_
      refine V_iadd X dX10_readAll_78 ?_
      obtain ⟨fs, hh, hv, w⟩ := w
      refine V_put X flX10_34 dX10_readAll_79 hh hv rfl rfl ?_
      generalize va_up _ _ _ = h4 at w ⊢
      refine V_iinc (y := (v3 + 1)) X dX10_readAll_82 4 rfl (by first | rfl | (congr 1)) (by decide) rfl ?_
      refine V_goto (tgt := 21) X dX10_readAll_85 (by decide) ?_
      exact V.sub [2, 3, 4, 0] rfl (tX10_readAll_b21_21 X  w)
    · replace w := w2 z
      clear w1 w2
      refine V_aloadr_n X dX10_readAll_67 1 rfl ?_
      obtain ⟨fs, x5, hh, hv, w⟩ := w
      refine V_get X flX10_34 dX10_readAll_68 hh hv ?_
      exact V_iret X rfl dX10_readAll_71 (Nat.le_of_ble_eq_true rfl) (Nat.le_of_ble_eq_true rfl) w
  · replace w := w2 z
    clear w1 w2
    refine V_iconst (y := (-1)) X dX10_readAll_58 (by decide) ?_
    exact V_iret X rfl dX10_readAll_59 (Nat.le_of_ble_eq_true rfl) (Nat.le_of_ble_eq_true rfl) w
def vX10_readAll_b21_20 (t0 : Nat)  (Qn : Int32 → gH → Prop) (h : gH) (v0 : Nat) (v1 : Int32) (v2 : Int32) (v3 : Int32) : Prop := ((v2 ≤ (v3 : Int32)) → (io h v0 13 (vX10_nextByte t0 (fun x2 h1 => gi h1 v0 13 3 (fun x3 => Qn x3 h1)) h v0 ))) ∧ ((¬ v2 ≤ (v3 : Int32)) → (io h v0 13 (vX10_readTransition t0 (fun x5 h4 => ((¬ (x5 : Int32) = 0) → ((((v1 : Int32) = 0) → (vX10_readAll_b46_20 t0  Qn h4 v0 v1 v2 v3)) ∧ ((¬ (v1 : Int32) = 0) → (io h4 v0 13 (vX10_addDraft t0 (fun h6 => vX10_readAll_b46_20 t0  Qn h6 v0 v1 v2 v3) h4 v0 ))))) ∧ (((x5 : Int32) = 0) → (gi h4 v0 13 3 (fun x7 => Qn x7 h4)))) h v0 )))
set_option maxRecDepth 100000 in
set_option maxHeartbeats 4000000 in
theorem tX10_readAll_b21_20 {p : Program} {l : Launch} {e : Env} {s : State} {m : MethodId} {args : Array Value} {below : List Frame} {meth : Method} {c : Code} {G : gG} {A : Nat → Prop} {Qn : Int32 → gH → Prop} (X : gC p l s m args meth c G A cX10_readAll 5 (some FieldType.int) RX10)   {h : gH} {v0 : Nat} {v1 : Int32} {v2 : Int32} {v3 : Int32} (w : vX10_readAll_b21_20 G.2.2.1  Qn h v0 v1 v2 v3) : V p l e rmX10_readAll s m args below meth c (MQ below (va_Qi Qn (gB G A) A) args s rmX10_readAll.cells rmX10_readAll.slots A) G A 5 h 100 1700 21 [(0, .ref v0), (1, .int v1), (2, .int v2), (3, .int v3)] [] := by
  refine V_iload_n X dX10_readAll_21 3 rfl ?_
  refine V_iload_n X dX10_readAll_22 2 rfl ?_
  obtain ⟨w1, w2⟩ := w
  refine V_icmp_ge (tgt := 88) X dX10_readAll_23 (by decide) (fun z => ?_) (fun z => ?_)
  · replace w := w1 z
    clear w1 w2
    refine V_aloadr_n X dX10_readAll_88 0 rfl ?_
    obtain ⟨fs, hh, w⟩ := w
    refine V_callVi (As := []) (rest := []) (k1 := 100) (n1 := 1700) X (cX10_nextByte_ok X.2.2.2.2.2.2.2.2.1 w) lkX10_55 hh (q9 := (RX10, TX10, 5)) rfl rfl dX10_readAll_89 ⟨Nat.le_of_ble_eq_true rfl, Nat.le_of_ble_eq_true rfl⟩ rfl (Nat.le_of_ble_eq_true rfl) ⟨Nat.le_of_ble_eq_true rfl, Nat.le_of_ble_eq_true rfl⟩ (Nat.le_of_ble_eq_true rfl) (Nat.le_of_ble_eq_true rfl) (fun x2 h1 w9 => ?_)
    replace w := w9
    clear w9
    refine V_pop X dX10_readAll_92 rfl ?_
    refine V_aloadr_n X dX10_readAll_93 0 rfl ?_
    obtain ⟨fs, x3, hh, hv, w⟩ := w
    refine V_get X flX10_34 dX10_readAll_94 hh hv ?_
    exact V_iret X rfl dX10_readAll_97 (Nat.le_of_ble_eq_true rfl) (Nat.le_of_ble_eq_true rfl) w
  · replace w := w2 z
    clear w1 w2
    refine V_aloadr_n X dX10_readAll_26 0 rfl ?_
    obtain ⟨fs, hh, w⟩ := w
    refine V_callVi (As := []) (rest := []) (k1 := 100) (n1 := 1700) X (cX10_readTransition_ok X.2.2.2.2.2.2.2.2.1 w) lkX10_48 hh (q9 := (RX10, TX10, 5)) rfl rfl dX10_readAll_27 ⟨Nat.le_of_ble_eq_true rfl, Nat.le_of_ble_eq_true rfl⟩ rfl (Nat.le_of_ble_eq_true rfl) ⟨Nat.le_of_ble_eq_true rfl, Nat.le_of_ble_eq_true rfl⟩ (Nat.le_of_ble_eq_true rfl) (Nat.le_of_ble_eq_true rfl) (fun x5 h4 w9 => ?_)
    replace w := w9
    clear w9
    obtain ⟨w1, w2⟩ := w
    refine V_if_ne (tgt := 38) X dX10_readAll_30 (by decide) (fun z => ?_) (fun z => ?_)
    · replace w := w1 z
      clear w1 w2
      refine V_iload_n X dX10_readAll_38 1 rfl ?_
      obtain ⟨w1, w2⟩ := w
      refine V_if_eq (tgt := 46) X dX10_readAll_39 (by decide) (fun z => ?_) (fun z => ?_)
      · replace w := w1 z
        clear w1 w2
        exact V.widen (k1 := 105) (n1 := 1785) (Nat.le_of_ble_eq_true rfl) (Nat.le_of_ble_eq_true rfl) <| V.sub [0, 1, 2, 3] rfl (tX10_readAll_b46_20 X  w)
      · replace w := w2 z
        clear w1 w2
        refine V_aloadr_n X dX10_readAll_42 0 rfl ?_
        obtain ⟨fs, hh, w⟩ := w
        refine V_callVv (As := []) (rest := []) (k1 := 105) (n1 := 1785) X (cX10_addDraft_ok X.2.2.2.2.2.2.2.2.1 w) lkX10_52 hh (q9 := (RX10, TX10, 5)) rfl rfl dX10_readAll_43 ⟨Nat.le_of_ble_eq_true rfl, Nat.le_of_ble_eq_true rfl⟩ rfl (Nat.le_of_ble_eq_true rfl) ⟨Nat.le_of_ble_eq_true rfl, Nat.le_of_ble_eq_true rfl⟩ (Nat.le_of_ble_eq_true rfl) (Nat.le_of_ble_eq_true rfl) (fun h6 w9 => ?_)
        replace w := w9
        clear w9
        exact V.sub [0, 1, 2, 3] rfl (tX10_readAll_b46_20 X  w)
    · replace w := w2 z
      clear w1 w2
      refine V_aloadr_n X dX10_readAll_33 0 rfl ?_
      obtain ⟨fs, x7, hh, hv, w⟩ := w
      refine V_get X flX10_34 dX10_readAll_34 hh hv ?_
      exact V_iret X rfl dX10_readAll_37 (Nat.le_of_ble_eq_true rfl) (Nat.le_of_ble_eq_true rfl) w
def vX10_readAll_b46_19 (t0 : Nat)  (Qn : Int32 → gH → Prop) (h : gH) (v0 : Nat) (v1 : Int32) (v2 : Int32) (v3 : Int32) : Prop := io h v0 13 (vX10_nextByte t0 (fun x2 h1 => ((¬ (x2 : Int32) = (-1)) → ((((x2 : Int32) = 59) → (gi h1 v0 13 3 (fun x3 => pv h1 v0 13 3 (.int (x3 + 1)) (fun h4 => vX10_readAll_b21_20 t0  Qn h4 v0 v1 v2 (v3 + 1))))) ∧ ((¬ (x2 : Int32) = 59) → (gi h1 v0 13 3 (fun x5 => Qn x5 h1))))) ∧ (((x2 : Int32) = (-1)) → (Qn (-1) h1))) h v0 )
set_option maxRecDepth 100000 in
set_option maxHeartbeats 4000000 in
theorem tX10_readAll_b46_19 {p : Program} {l : Launch} {e : Env} {s : State} {m : MethodId} {args : Array Value} {below : List Frame} {meth : Method} {c : Code} {G : gG} {A : Nat → Prop} {Qn : Int32 → gH → Prop} (X : gC p l s m args meth c G A cX10_readAll 5 (some FieldType.int) RX10)   {h : gH} {v0 : Nat} {v1 : Int32} {v2 : Int32} {v3 : Int32} (w : vX10_readAll_b46_19 G.2.2.1  Qn h v0 v1 v2 v3) : V p l e rmX10_readAll s m args below meth c (MQ below (va_Qi Qn (gB G A) A) args s rmX10_readAll.cells rmX10_readAll.slots A) G A 5 h 100 1700 46 [(0, .ref v0), (1, .int v1), (2, .int v2), (3, .int v3)] [] := by
  refine V_aloadr_n X dX10_readAll_46 0 rfl ?_
  obtain ⟨fs, hh, w⟩ := w
  refine V_callVi (As := []) (rest := []) (k1 := 100) (n1 := 1700) X (cX10_nextByte_ok X.2.2.2.2.2.2.2.2.1 w) lkX10_55 hh (q9 := (RX10, TX10, 5)) rfl rfl dX10_readAll_47 ⟨Nat.le_of_ble_eq_true rfl, Nat.le_of_ble_eq_true rfl⟩ rfl (Nat.le_of_ble_eq_true rfl) ⟨Nat.le_of_ble_eq_true rfl, Nat.le_of_ble_eq_true rfl⟩ (Nat.le_of_ble_eq_true rfl) (Nat.le_of_ble_eq_true rfl) (fun x2 h1 w9 => ?_)
  replace w := w9
  clear w9
  refine V_istore X dX10_readAll_50 (by decide) rfl ?_
  refine V_iload X dX10_readAll_52 0 rfl ?_
  refine V_iconst (y := (-1)) X dX10_readAll_54 (by decide) ?_
  obtain ⟨w1, w2⟩ := w
  refine V_icmp_ne (tgt := 60) X dX10_readAll_55 (by decide) (fun z => ?_) (fun z => ?_)
  · replace w := w1 z
    clear w1 w2
    refine V_iload X dX10_readAll_60 0 rfl ?_
    refine V_bipush (y := 59) X dX10_readAll_62 (by decide) ?_
    obtain ⟨w1, w2⟩ := w
    refine V_icmp_eq (tgt := 72) X dX10_readAll_64 (by decide) (fun z => ?_) (fun z => ?_)
    · replace w := w1 z
      clear w1 w2
      refine V_aloadr_n X dX10_readAll_72 1 rfl ?_
      refine V_dup X dX10_readAll_73 rfl ?_
      obtain ⟨fs, x3, hh, hv, w⟩ := w
      refine V_get X flX10_34 dX10_readAll_74 hh hv ?_
      refine V_iconst (y := 1) X dX10_readAll_77 (by decide) ?_
      refine V_iadd X dX10_readAll_78 ?_
      obtain ⟨fs, hh, hv, w⟩ := w
      refine V_put X flX10_34 dX10_readAll_79 hh hv rfl rfl ?_
      generalize va_up _ _ _ = h4 at w ⊢
      refine V_iinc (y := (v3 + 1)) X dX10_readAll_82 4 rfl (by first | rfl | (congr 1)) (by decide) rfl ?_
      refine V_goto (tgt := 21) X dX10_readAll_85 (by decide) ?_
      exact V.sub [2, 3, 4, 0] rfl (tX10_readAll_b21_20 X  w)
    · replace w := w2 z
      clear w1 w2
      refine V_aloadr_n X dX10_readAll_67 1 rfl ?_
      obtain ⟨fs, x5, hh, hv, w⟩ := w
      refine V_get X flX10_34 dX10_readAll_68 hh hv ?_
      exact V_iret X rfl dX10_readAll_71 (Nat.le_of_ble_eq_true rfl) (Nat.le_of_ble_eq_true rfl) w
  · replace w := w2 z
    clear w1 w2
    refine V_iconst (y := (-1)) X dX10_readAll_58 (by decide) ?_
    exact V_iret X rfl dX10_readAll_59 (Nat.le_of_ble_eq_true rfl) (Nat.le_of_ble_eq_true rfl) w
def vX10_readAll_b21_19 (t0 : Nat)  (Qn : Int32 → gH → Prop) (h : gH) (v0 : Nat) (v1 : Int32) (v2 : Int32) (v3 : Int32) : Prop := ((v2 ≤ (v3 : Int32)) → (io h v0 13 (vX10_nextByte t0 (fun x2 h1 => gi h1 v0 13 3 (fun x3 => Qn x3 h1)) h v0 ))) ∧ ((¬ v2 ≤ (v3 : Int32)) → (io h v0 13 (vX10_readTransition t0 (fun x5 h4 => ((¬ (x5 : Int32) = 0) → ((((v1 : Int32) = 0) → (vX10_readAll_b46_19 t0  Qn h4 v0 v1 v2 v3)) ∧ ((¬ (v1 : Int32) = 0) → (io h4 v0 13 (vX10_addDraft t0 (fun h6 => vX10_readAll_b46_19 t0  Qn h6 v0 v1 v2 v3) h4 v0 ))))) ∧ (((x5 : Int32) = 0) → (gi h4 v0 13 3 (fun x7 => Qn x7 h4)))) h v0 )))
set_option maxRecDepth 100000 in
set_option maxHeartbeats 4000000 in
theorem tX10_readAll_b21_19 {p : Program} {l : Launch} {e : Env} {s : State} {m : MethodId} {args : Array Value} {below : List Frame} {meth : Method} {c : Code} {G : gG} {A : Nat → Prop} {Qn : Int32 → gH → Prop} (X : gC p l s m args meth c G A cX10_readAll 5 (some FieldType.int) RX10)   {h : gH} {v0 : Nat} {v1 : Int32} {v2 : Int32} {v3 : Int32} (w : vX10_readAll_b21_19 G.2.2.1  Qn h v0 v1 v2 v3) : V p l e rmX10_readAll s m args below meth c (MQ below (va_Qi Qn (gB G A) A) args s rmX10_readAll.cells rmX10_readAll.slots A) G A 5 h 95 1615 21 [(0, .ref v0), (1, .int v1), (2, .int v2), (3, .int v3)] [] := by
  refine V_iload_n X dX10_readAll_21 3 rfl ?_
  refine V_iload_n X dX10_readAll_22 2 rfl ?_
  obtain ⟨w1, w2⟩ := w
  refine V_icmp_ge (tgt := 88) X dX10_readAll_23 (by decide) (fun z => ?_) (fun z => ?_)
  · replace w := w1 z
    clear w1 w2
    refine V_aloadr_n X dX10_readAll_88 0 rfl ?_
    obtain ⟨fs, hh, w⟩ := w
    refine V_callVi (As := []) (rest := []) (k1 := 95) (n1 := 1615) X (cX10_nextByte_ok X.2.2.2.2.2.2.2.2.1 w) lkX10_55 hh (q9 := (RX10, TX10, 5)) rfl rfl dX10_readAll_89 ⟨Nat.le_of_ble_eq_true rfl, Nat.le_of_ble_eq_true rfl⟩ rfl (Nat.le_of_ble_eq_true rfl) ⟨Nat.le_of_ble_eq_true rfl, Nat.le_of_ble_eq_true rfl⟩ (Nat.le_of_ble_eq_true rfl) (Nat.le_of_ble_eq_true rfl) (fun x2 h1 w9 => ?_)
    replace w := w9
    clear w9
    refine V_pop X dX10_readAll_92 rfl ?_
    refine V_aloadr_n X dX10_readAll_93 0 rfl ?_
    obtain ⟨fs, x3, hh, hv, w⟩ := w
    refine V_get X flX10_34 dX10_readAll_94 hh hv ?_
    exact V_iret X rfl dX10_readAll_97 (Nat.le_of_ble_eq_true rfl) (Nat.le_of_ble_eq_true rfl) w
  · replace w := w2 z
    clear w1 w2
    refine V_aloadr_n X dX10_readAll_26 0 rfl ?_
    obtain ⟨fs, hh, w⟩ := w
    refine V_callVi (As := []) (rest := []) (k1 := 95) (n1 := 1615) X (cX10_readTransition_ok X.2.2.2.2.2.2.2.2.1 w) lkX10_48 hh (q9 := (RX10, TX10, 5)) rfl rfl dX10_readAll_27 ⟨Nat.le_of_ble_eq_true rfl, Nat.le_of_ble_eq_true rfl⟩ rfl (Nat.le_of_ble_eq_true rfl) ⟨Nat.le_of_ble_eq_true rfl, Nat.le_of_ble_eq_true rfl⟩ (Nat.le_of_ble_eq_true rfl) (Nat.le_of_ble_eq_true rfl) (fun x5 h4 w9 => ?_)
    replace w := w9
    clear w9
    obtain ⟨w1, w2⟩ := w
    refine V_if_ne (tgt := 38) X dX10_readAll_30 (by decide) (fun z => ?_) (fun z => ?_)
    · replace w := w1 z
      clear w1 w2
      refine V_iload_n X dX10_readAll_38 1 rfl ?_
      obtain ⟨w1, w2⟩ := w
      refine V_if_eq (tgt := 46) X dX10_readAll_39 (by decide) (fun z => ?_) (fun z => ?_)
      · replace w := w1 z
        clear w1 w2
        exact V.widen (k1 := 100) (n1 := 1700) (Nat.le_of_ble_eq_true rfl) (Nat.le_of_ble_eq_true rfl) <| V.sub [0, 1, 2, 3] rfl (tX10_readAll_b46_19 X  w)
      · replace w := w2 z
        clear w1 w2
        refine V_aloadr_n X dX10_readAll_42 0 rfl ?_
        obtain ⟨fs, hh, w⟩ := w
        refine V_callVv (As := []) (rest := []) (k1 := 100) (n1 := 1700) X (cX10_addDraft_ok X.2.2.2.2.2.2.2.2.1 w) lkX10_52 hh (q9 := (RX10, TX10, 5)) rfl rfl dX10_readAll_43 ⟨Nat.le_of_ble_eq_true rfl, Nat.le_of_ble_eq_true rfl⟩ rfl (Nat.le_of_ble_eq_true rfl) ⟨Nat.le_of_ble_eq_true rfl, Nat.le_of_ble_eq_true rfl⟩ (Nat.le_of_ble_eq_true rfl) (Nat.le_of_ble_eq_true rfl) (fun h6 w9 => ?_)
        replace w := w9
        clear w9
        exact V.sub [0, 1, 2, 3] rfl (tX10_readAll_b46_19 X  w)
    · replace w := w2 z
      clear w1 w2
      refine V_aloadr_n X dX10_readAll_33 0 rfl ?_
      obtain ⟨fs, x7, hh, hv, w⟩ := w
      refine V_get X flX10_34 dX10_readAll_34 hh hv ?_
      exact V_iret X rfl dX10_readAll_37 (Nat.le_of_ble_eq_true rfl) (Nat.le_of_ble_eq_true rfl) w
def vX10_readAll_b46_18 (t0 : Nat)  (Qn : Int32 → gH → Prop) (h : gH) (v0 : Nat) (v1 : Int32) (v2 : Int32) (v3 : Int32) : Prop := io h v0 13 (vX10_nextByte t0 (fun x2 h1 => ((¬ (x2 : Int32) = (-1)) → ((((x2 : Int32) = 59) → (gi h1 v0 13 3 (fun x3 => pv h1 v0 13 3 (.int (x3 + 1)) (fun h4 => vX10_readAll_b21_19 t0  Qn h4 v0 v1 v2 (v3 + 1))))) ∧ ((¬ (x2 : Int32) = 59) → (gi h1 v0 13 3 (fun x5 => Qn x5 h1))))) ∧ (((x2 : Int32) = (-1)) → (Qn (-1) h1))) h v0 )
set_option maxRecDepth 100000 in
set_option maxHeartbeats 4000000 in
theorem tX10_readAll_b46_18 {p : Program} {l : Launch} {e : Env} {s : State} {m : MethodId} {args : Array Value} {below : List Frame} {meth : Method} {c : Code} {G : gG} {A : Nat → Prop} {Qn : Int32 → gH → Prop} (X : gC p l s m args meth c G A cX10_readAll 5 (some FieldType.int) RX10)   {h : gH} {v0 : Nat} {v1 : Int32} {v2 : Int32} {v3 : Int32} (w : vX10_readAll_b46_18 G.2.2.1  Qn h v0 v1 v2 v3) : V p l e rmX10_readAll s m args below meth c (MQ below (va_Qi Qn (gB G A) A) args s rmX10_readAll.cells rmX10_readAll.slots A) G A 5 h 95 1615 46 [(0, .ref v0), (1, .int v1), (2, .int v2), (3, .int v3)] [] := by
  refine V_aloadr_n X dX10_readAll_46 0 rfl ?_
  obtain ⟨fs, hh, w⟩ := w
  refine V_callVi (As := []) (rest := []) (k1 := 95) (n1 := 1615) X (cX10_nextByte_ok X.2.2.2.2.2.2.2.2.1 w) lkX10_55 hh (q9 := (RX10, TX10, 5)) rfl rfl dX10_readAll_47 ⟨Nat.le_of_ble_eq_true rfl, Nat.le_of_ble_eq_true rfl⟩ rfl (Nat.le_of_ble_eq_true rfl) ⟨Nat.le_of_ble_eq_true rfl, Nat.le_of_ble_eq_true rfl⟩ (Nat.le_of_ble_eq_true rfl) (Nat.le_of_ble_eq_true rfl) (fun x2 h1 w9 => ?_)
  replace w := w9
  clear w9
  refine V_istore X dX10_readAll_50 (by decide) rfl ?_
  refine V_iload X dX10_readAll_52 0 rfl ?_
  refine V_iconst (y := (-1)) X dX10_readAll_54 (by decide) ?_
  obtain ⟨w1, w2⟩ := w
  refine V_icmp_ne (tgt := 60) X dX10_readAll_55 (by decide) (fun z => ?_) (fun z => ?_)
  · replace w := w1 z
    clear w1 w2
    refine V_iload X dX10_readAll_60 0 rfl ?_
    refine V_bipush (y := 59) X dX10_readAll_62 (by decide) ?_
    obtain ⟨w1, w2⟩ := w
    refine V_icmp_eq (tgt := 72) X dX10_readAll_64 (by decide) (fun z => ?_) (fun z => ?_)
    · replace w := w1 z
      clear w1 w2
      refine V_aloadr_n X dX10_readAll_72 1 rfl ?_
      refine V_dup X dX10_readAll_73 rfl ?_
      obtain ⟨fs, x3, hh, hv, w⟩ := w
      refine V_get X flX10_34 dX10_readAll_74 hh hv ?_
      refine V_iconst (y := 1) X dX10_readAll_77 (by decide) ?_
      refine V_iadd X dX10_readAll_78 ?_
      obtain ⟨fs, hh, hv, w⟩ := w
      refine V_put X flX10_34 dX10_readAll_79 hh hv rfl rfl ?_
      generalize va_up _ _ _ = h4 at w ⊢
      refine V_iinc (y := (v3 + 1)) X dX10_readAll_82 4 rfl (by first | rfl | (congr 1)) (by decide) rfl ?_
      refine V_goto (tgt := 21) X dX10_readAll_85 (by decide) ?_
      exact V.sub [2, 3, 4, 0] rfl (tX10_readAll_b21_19 X  w)
    · replace w := w2 z
      clear w1 w2
      refine V_aloadr_n X dX10_readAll_67 1 rfl ?_
      obtain ⟨fs, x5, hh, hv, w⟩ := w
      refine V_get X flX10_34 dX10_readAll_68 hh hv ?_
      exact V_iret X rfl dX10_readAll_71 (Nat.le_of_ble_eq_true rfl) (Nat.le_of_ble_eq_true rfl) w
  · replace w := w2 z
    clear w1 w2
    refine V_iconst (y := (-1)) X dX10_readAll_58 (by decide) ?_
    exact V_iret X rfl dX10_readAll_59 (Nat.le_of_ble_eq_true rfl) (Nat.le_of_ble_eq_true rfl) w
def vX10_readAll_b21_18 (t0 : Nat)  (Qn : Int32 → gH → Prop) (h : gH) (v0 : Nat) (v1 : Int32) (v2 : Int32) (v3 : Int32) : Prop := ((v2 ≤ (v3 : Int32)) → (io h v0 13 (vX10_nextByte t0 (fun x2 h1 => gi h1 v0 13 3 (fun x3 => Qn x3 h1)) h v0 ))) ∧ ((¬ v2 ≤ (v3 : Int32)) → (io h v0 13 (vX10_readTransition t0 (fun x5 h4 => ((¬ (x5 : Int32) = 0) → ((((v1 : Int32) = 0) → (vX10_readAll_b46_18 t0  Qn h4 v0 v1 v2 v3)) ∧ ((¬ (v1 : Int32) = 0) → (io h4 v0 13 (vX10_addDraft t0 (fun h6 => vX10_readAll_b46_18 t0  Qn h6 v0 v1 v2 v3) h4 v0 ))))) ∧ (((x5 : Int32) = 0) → (gi h4 v0 13 3 (fun x7 => Qn x7 h4)))) h v0 )))
set_option maxRecDepth 100000 in
set_option maxHeartbeats 4000000 in
theorem tX10_readAll_b21_18 {p : Program} {l : Launch} {e : Env} {s : State} {m : MethodId} {args : Array Value} {below : List Frame} {meth : Method} {c : Code} {G : gG} {A : Nat → Prop} {Qn : Int32 → gH → Prop} (X : gC p l s m args meth c G A cX10_readAll 5 (some FieldType.int) RX10)   {h : gH} {v0 : Nat} {v1 : Int32} {v2 : Int32} {v3 : Int32} (w : vX10_readAll_b21_18 G.2.2.1  Qn h v0 v1 v2 v3) : V p l e rmX10_readAll s m args below meth c (MQ below (va_Qi Qn (gB G A) A) args s rmX10_readAll.cells rmX10_readAll.slots A) G A 5 h 90 1530 21 [(0, .ref v0), (1, .int v1), (2, .int v2), (3, .int v3)] [] := by
  refine V_iload_n X dX10_readAll_21 3 rfl ?_
  refine V_iload_n X dX10_readAll_22 2 rfl ?_
  obtain ⟨w1, w2⟩ := w
  refine V_icmp_ge (tgt := 88) X dX10_readAll_23 (by decide) (fun z => ?_) (fun z => ?_)
  · replace w := w1 z
    clear w1 w2
    refine V_aloadr_n X dX10_readAll_88 0 rfl ?_
    obtain ⟨fs, hh, w⟩ := w
    refine V_callVi (As := []) (rest := []) (k1 := 90) (n1 := 1530) X (cX10_nextByte_ok X.2.2.2.2.2.2.2.2.1 w) lkX10_55 hh (q9 := (RX10, TX10, 5)) rfl rfl dX10_readAll_89 ⟨Nat.le_of_ble_eq_true rfl, Nat.le_of_ble_eq_true rfl⟩ rfl (Nat.le_of_ble_eq_true rfl) ⟨Nat.le_of_ble_eq_true rfl, Nat.le_of_ble_eq_true rfl⟩ (Nat.le_of_ble_eq_true rfl) (Nat.le_of_ble_eq_true rfl) (fun x2 h1 w9 => ?_)
    replace w := w9
    clear w9
    refine V_pop X dX10_readAll_92 rfl ?_
    refine V_aloadr_n X dX10_readAll_93 0 rfl ?_
    obtain ⟨fs, x3, hh, hv, w⟩ := w
    refine V_get X flX10_34 dX10_readAll_94 hh hv ?_
    exact V_iret X rfl dX10_readAll_97 (Nat.le_of_ble_eq_true rfl) (Nat.le_of_ble_eq_true rfl) w
  · replace w := w2 z
    clear w1 w2
    refine V_aloadr_n X dX10_readAll_26 0 rfl ?_
    obtain ⟨fs, hh, w⟩ := w
    refine V_callVi (As := []) (rest := []) (k1 := 90) (n1 := 1530) X (cX10_readTransition_ok X.2.2.2.2.2.2.2.2.1 w) lkX10_48 hh (q9 := (RX10, TX10, 5)) rfl rfl dX10_readAll_27 ⟨Nat.le_of_ble_eq_true rfl, Nat.le_of_ble_eq_true rfl⟩ rfl (Nat.le_of_ble_eq_true rfl) ⟨Nat.le_of_ble_eq_true rfl, Nat.le_of_ble_eq_true rfl⟩ (Nat.le_of_ble_eq_true rfl) (Nat.le_of_ble_eq_true rfl) (fun x5 h4 w9 => ?_)
    replace w := w9
    clear w9
    obtain ⟨w1, w2⟩ := w
    refine V_if_ne (tgt := 38) X dX10_readAll_30 (by decide) (fun z => ?_) (fun z => ?_)
    · replace w := w1 z
      clear w1 w2
      refine V_iload_n X dX10_readAll_38 1 rfl ?_
      obtain ⟨w1, w2⟩ := w
      refine V_if_eq (tgt := 46) X dX10_readAll_39 (by decide) (fun z => ?_) (fun z => ?_)
      · replace w := w1 z
        clear w1 w2
        exact V.widen (k1 := 95) (n1 := 1615) (Nat.le_of_ble_eq_true rfl) (Nat.le_of_ble_eq_true rfl) <| V.sub [0, 1, 2, 3] rfl (tX10_readAll_b46_18 X  w)
      · replace w := w2 z
        clear w1 w2
        refine V_aloadr_n X dX10_readAll_42 0 rfl ?_
        obtain ⟨fs, hh, w⟩ := w
        refine V_callVv (As := []) (rest := []) (k1 := 95) (n1 := 1615) X (cX10_addDraft_ok X.2.2.2.2.2.2.2.2.1 w) lkX10_52 hh (q9 := (RX10, TX10, 5)) rfl rfl dX10_readAll_43 ⟨Nat.le_of_ble_eq_true rfl, Nat.le_of_ble_eq_true rfl⟩ rfl (Nat.le_of_ble_eq_true rfl) ⟨Nat.le_of_ble_eq_true rfl, Nat.le_of_ble_eq_true rfl⟩ (Nat.le_of_ble_eq_true rfl) (Nat.le_of_ble_eq_true rfl) (fun h6 w9 => ?_)
        replace w := w9
        clear w9
        exact V.sub [0, 1, 2, 3] rfl (tX10_readAll_b46_18 X  w)
    · replace w := w2 z
      clear w1 w2
      refine V_aloadr_n X dX10_readAll_33 0 rfl ?_
      obtain ⟨fs, x7, hh, hv, w⟩ := w
      refine V_get X flX10_34 dX10_readAll_34 hh hv ?_
      exact V_iret X rfl dX10_readAll_37 (Nat.le_of_ble_eq_true rfl) (Nat.le_of_ble_eq_true rfl) w
def vX10_readAll_b46_17 (t0 : Nat)  (Qn : Int32 → gH → Prop) (h : gH) (v0 : Nat) (v1 : Int32) (v2 : Int32) (v3 : Int32) : Prop := io h v0 13 (vX10_nextByte t0 (fun x2 h1 => ((¬ (x2 : Int32) = (-1)) → ((((x2 : Int32) = 59) → (gi h1 v0 13 3 (fun x3 => pv h1 v0 13 3 (.int (x3 + 1)) (fun h4 => vX10_readAll_b21_18 t0  Qn h4 v0 v1 v2 (v3 + 1))))) ∧ ((¬ (x2 : Int32) = 59) → (gi h1 v0 13 3 (fun x5 => Qn x5 h1))))) ∧ (((x2 : Int32) = (-1)) → (Qn (-1) h1))) h v0 )
set_option maxRecDepth 100000 in
set_option maxHeartbeats 4000000 in
theorem tX10_readAll_b46_17 {p : Program} {l : Launch} {e : Env} {s : State} {m : MethodId} {args : Array Value} {below : List Frame} {meth : Method} {c : Code} {G : gG} {A : Nat → Prop} {Qn : Int32 → gH → Prop} (X : gC p l s m args meth c G A cX10_readAll 5 (some FieldType.int) RX10)   {h : gH} {v0 : Nat} {v1 : Int32} {v2 : Int32} {v3 : Int32} (w : vX10_readAll_b46_17 G.2.2.1  Qn h v0 v1 v2 v3) : V p l e rmX10_readAll s m args below meth c (MQ below (va_Qi Qn (gB G A) A) args s rmX10_readAll.cells rmX10_readAll.slots A) G A 5 h 90 1530 46 [(0, .ref v0), (1, .int v1), (2, .int v2), (3, .int v3)] [] := by
  refine V_aloadr_n X dX10_readAll_46 0 rfl ?_
  obtain ⟨fs, hh, w⟩ := w
  refine V_callVi (As := []) (rest := []) (k1 := 90) (n1 := 1530) X (cX10_nextByte_ok X.2.2.2.2.2.2.2.2.1 w) lkX10_55 hh (q9 := (RX10, TX10, 5)) rfl rfl dX10_readAll_47 ⟨Nat.le_of_ble_eq_true rfl, Nat.le_of_ble_eq_true rfl⟩ rfl (Nat.le_of_ble_eq_true rfl) ⟨Nat.le_of_ble_eq_true rfl, Nat.le_of_ble_eq_true rfl⟩ (Nat.le_of_ble_eq_true rfl) (Nat.le_of_ble_eq_true rfl) (fun x2 h1 w9 => ?_)
  replace w := w9
  clear w9
  refine V_istore X dX10_readAll_50 (by decide) rfl ?_
  refine V_iload X dX10_readAll_52 0 rfl ?_
  refine V_iconst (y := (-1)) X dX10_readAll_54 (by decide) ?_
  obtain ⟨w1, w2⟩ := w
  refine V_icmp_ne (tgt := 60) X dX10_readAll_55 (by decide) (fun z => ?_) (fun z => ?_)
  · replace w := w1 z
    clear w1 w2
    refine V_iload X dX10_readAll_60 0 rfl ?_
    refine V_bipush (y := 59) X dX10_readAll_62 (by decide) ?_
    obtain ⟨w1, w2⟩ := w
    refine V_icmp_eq (tgt := 72) X dX10_readAll_64 (by decide) (fun z => ?_) (fun z => ?_)
    · replace w := w1 z
      clear w1 w2
      refine V_aloadr_n X dX10_readAll_72 1 rfl ?_
      refine V_dup X dX10_readAll_73 rfl ?_
      obtain ⟨fs, x3, hh, hv, w⟩ := w
      refine V_get X flX10_34 dX10_readAll_74 hh hv ?_
      refine V_iconst (y := 1) X dX10_readAll_77 (by decide) ?_
      refine V_iadd X dX10_readAll_78 ?_
      obtain ⟨fs, hh, hv, w⟩ := w
      refine V_put X flX10_34 dX10_readAll_79 hh hv rfl rfl ?_
      generalize va_up _ _ _ = h4 at w ⊢
      refine V_iinc (y := (v3 + 1)) X dX10_readAll_82 4 rfl (by first | rfl | (congr 1)) (by decide) rfl ?_
      refine V_goto (tgt := 21) X dX10_readAll_85 (by decide) ?_
      exact V.sub [2, 3, 4, 0] rfl (tX10_readAll_b21_18 X  w)
    · replace w := w2 z
      clear w1 w2
      refine V_aloadr_n X dX10_readAll_67 1 rfl ?_
      obtain ⟨fs, x5, hh, hv, w⟩ := w
      refine V_get X flX10_34 dX10_readAll_68 hh hv ?_
      exact V_iret X rfl dX10_readAll_71 (Nat.le_of_ble_eq_true rfl) (Nat.le_of_ble_eq_true rfl) w
  · replace w := w2 z
    clear w1 w2
    refine V_iconst (y := (-1)) X dX10_readAll_58 (by decide) ?_
    exact V_iret X rfl dX10_readAll_59 (Nat.le_of_ble_eq_true rfl) (Nat.le_of_ble_eq_true rfl) w
def vX10_readAll_b21_17 (t0 : Nat)  (Qn : Int32 → gH → Prop) (h : gH) (v0 : Nat) (v1 : Int32) (v2 : Int32) (v3 : Int32) : Prop := ((v2 ≤ (v3 : Int32)) → (io h v0 13 (vX10_nextByte t0 (fun x2 h1 => gi h1 v0 13 3 (fun x3 => Qn x3 h1)) h v0 ))) ∧ ((¬ v2 ≤ (v3 : Int32)) → (io h v0 13 (vX10_readTransition t0 (fun x5 h4 => ((¬ (x5 : Int32) = 0) → ((((v1 : Int32) = 0) → (vX10_readAll_b46_17 t0  Qn h4 v0 v1 v2 v3)) ∧ ((¬ (v1 : Int32) = 0) → (io h4 v0 13 (vX10_addDraft t0 (fun h6 => vX10_readAll_b46_17 t0  Qn h6 v0 v1 v2 v3) h4 v0 ))))) ∧ (((x5 : Int32) = 0) → (gi h4 v0 13 3 (fun x7 => Qn x7 h4)))) h v0 )))
set_option maxRecDepth 100000 in
set_option maxHeartbeats 4000000 in
theorem tX10_readAll_b21_17 {p : Program} {l : Launch} {e : Env} {s : State} {m : MethodId} {args : Array Value} {below : List Frame} {meth : Method} {c : Code} {G : gG} {A : Nat → Prop} {Qn : Int32 → gH → Prop} (X : gC p l s m args meth c G A cX10_readAll 5 (some FieldType.int) RX10)   {h : gH} {v0 : Nat} {v1 : Int32} {v2 : Int32} {v3 : Int32} (w : vX10_readAll_b21_17 G.2.2.1  Qn h v0 v1 v2 v3) : V p l e rmX10_readAll s m args below meth c (MQ below (va_Qi Qn (gB G A) A) args s rmX10_readAll.cells rmX10_readAll.slots A) G A 5 h 85 1445 21 [(0, .ref v0), (1, .int v1), (2, .int v2), (3, .int v3)] [] := by
  refine V_iload_n X dX10_readAll_21 3 rfl ?_
  refine V_iload_n X dX10_readAll_22 2 rfl ?_
  obtain ⟨w1, w2⟩ := w
  refine V_icmp_ge (tgt := 88) X dX10_readAll_23 (by decide) (fun z => ?_) (fun z => ?_)
  · replace w := w1 z
    clear w1 w2
    refine V_aloadr_n X dX10_readAll_88 0 rfl ?_
    obtain ⟨fs, hh, w⟩ := w
    refine V_callVi (As := []) (rest := []) (k1 := 85) (n1 := 1445) X (cX10_nextByte_ok X.2.2.2.2.2.2.2.2.1 w) lkX10_55 hh (q9 := (RX10, TX10, 5)) rfl rfl dX10_readAll_89 ⟨Nat.le_of_ble_eq_true rfl, Nat.le_of_ble_eq_true rfl⟩ rfl (Nat.le_of_ble_eq_true rfl) ⟨Nat.le_of_ble_eq_true rfl, Nat.le_of_ble_eq_true rfl⟩ (Nat.le_of_ble_eq_true rfl) (Nat.le_of_ble_eq_true rfl) (fun x2 h1 w9 => ?_)
    replace w := w9
    clear w9
    refine V_pop X dX10_readAll_92 rfl ?_
    refine V_aloadr_n X dX10_readAll_93 0 rfl ?_
    obtain ⟨fs, x3, hh, hv, w⟩ := w
    refine V_get X flX10_34 dX10_readAll_94 hh hv ?_
    exact V_iret X rfl dX10_readAll_97 (Nat.le_of_ble_eq_true rfl) (Nat.le_of_ble_eq_true rfl) w
  · replace w := w2 z
    clear w1 w2
    refine V_aloadr_n X dX10_readAll_26 0 rfl ?_
    obtain ⟨fs, hh, w⟩ := w
    refine V_callVi (As := []) (rest := []) (k1 := 85) (n1 := 1445) X (cX10_readTransition_ok X.2.2.2.2.2.2.2.2.1 w) lkX10_48 hh (q9 := (RX10, TX10, 5)) rfl rfl dX10_readAll_27 ⟨Nat.le_of_ble_eq_true rfl, Nat.le_of_ble_eq_true rfl⟩ rfl (Nat.le_of_ble_eq_true rfl) ⟨Nat.le_of_ble_eq_true rfl, Nat.le_of_ble_eq_true rfl⟩ (Nat.le_of_ble_eq_true rfl) (Nat.le_of_ble_eq_true rfl) (fun x5 h4 w9 => ?_)
    replace w := w9
    clear w9
    obtain ⟨w1, w2⟩ := w
    refine V_if_ne (tgt := 38) X dX10_readAll_30 (by decide) (fun z => ?_) (fun z => ?_)
    · replace w := w1 z
      clear w1 w2
      refine V_iload_n X dX10_readAll_38 1 rfl ?_
      obtain ⟨w1, w2⟩ := w
      refine V_if_eq (tgt := 46) X dX10_readAll_39 (by decide) (fun z => ?_) (fun z => ?_)
      · replace w := w1 z
        clear w1 w2
        exact V.widen (k1 := 90) (n1 := 1530) (Nat.le_of_ble_eq_true rfl) (Nat.le_of_ble_eq_true rfl) <| V.sub [0, 1, 2, 3] rfl (tX10_readAll_b46_17 X  w)
      · replace w := w2 z
        clear w1 w2
        refine V_aloadr_n X dX10_readAll_42 0 rfl ?_
        obtain ⟨fs, hh, w⟩ := w
        refine V_callVv (As := []) (rest := []) (k1 := 90) (n1 := 1530) X (cX10_addDraft_ok X.2.2.2.2.2.2.2.2.1 w) lkX10_52 hh (q9 := (RX10, TX10, 5)) rfl rfl dX10_readAll_43 ⟨Nat.le_of_ble_eq_true rfl, Nat.le_of_ble_eq_true rfl⟩ rfl (Nat.le_of_ble_eq_true rfl) ⟨Nat.le_of_ble_eq_true rfl, Nat.le_of_ble_eq_true rfl⟩ (Nat.le_of_ble_eq_true rfl) (Nat.le_of_ble_eq_true rfl) (fun h6 w9 => ?_)
        replace w := w9
        clear w9
        exact V.sub [0, 1, 2, 3] rfl (tX10_readAll_b46_17 X  w)
    · replace w := w2 z
      clear w1 w2
      refine V_aloadr_n X dX10_readAll_33 0 rfl ?_
      obtain ⟨fs, x7, hh, hv, w⟩ := w
      refine V_get X flX10_34 dX10_readAll_34 hh hv ?_
      exact V_iret X rfl dX10_readAll_37 (Nat.le_of_ble_eq_true rfl) (Nat.le_of_ble_eq_true rfl) w
def vX10_readAll_b46_16 (t0 : Nat)  (Qn : Int32 → gH → Prop) (h : gH) (v0 : Nat) (v1 : Int32) (v2 : Int32) (v3 : Int32) : Prop := io h v0 13 (vX10_nextByte t0 (fun x2 h1 => ((¬ (x2 : Int32) = (-1)) → ((((x2 : Int32) = 59) → (gi h1 v0 13 3 (fun x3 => pv h1 v0 13 3 (.int (x3 + 1)) (fun h4 => vX10_readAll_b21_17 t0  Qn h4 v0 v1 v2 (v3 + 1))))) ∧ ((¬ (x2 : Int32) = 59) → (gi h1 v0 13 3 (fun x5 => Qn x5 h1))))) ∧ (((x2 : Int32) = (-1)) → (Qn (-1) h1))) h v0 )
set_option maxRecDepth 100000 in
set_option maxHeartbeats 4000000 in
theorem tX10_readAll_b46_16 {p : Program} {l : Launch} {e : Env} {s : State} {m : MethodId} {args : Array Value} {below : List Frame} {meth : Method} {c : Code} {G : gG} {A : Nat → Prop} {Qn : Int32 → gH → Prop} (X : gC p l s m args meth c G A cX10_readAll 5 (some FieldType.int) RX10)   {h : gH} {v0 : Nat} {v1 : Int32} {v2 : Int32} {v3 : Int32} (w : vX10_readAll_b46_16 G.2.2.1  Qn h v0 v1 v2 v3) : V p l e rmX10_readAll s m args below meth c (MQ below (va_Qi Qn (gB G A) A) args s rmX10_readAll.cells rmX10_readAll.slots A) G A 5 h 85 1445 46 [(0, .ref v0), (1, .int v1), (2, .int v2), (3, .int v3)] [] := by
  refine V_aloadr_n X dX10_readAll_46 0 rfl ?_
  obtain ⟨fs, hh, w⟩ := w
  refine V_callVi (As := []) (rest := []) (k1 := 85) (n1 := 1445) X (cX10_nextByte_ok X.2.2.2.2.2.2.2.2.1 w) lkX10_55 hh (q9 := (RX10, TX10, 5)) rfl rfl dX10_readAll_47 ⟨Nat.le_of_ble_eq_true rfl, Nat.le_of_ble_eq_true rfl⟩ rfl (Nat.le_of_ble_eq_true rfl) ⟨Nat.le_of_ble_eq_true rfl, Nat.le_of_ble_eq_true rfl⟩ (Nat.le_of_ble_eq_true rfl) (Nat.le_of_ble_eq_true rfl) (fun x2 h1 w9 => ?_)
  replace w := w9
  clear w9
  refine V_istore X dX10_readAll_50 (by decide) rfl ?_
  refine V_iload X dX10_readAll_52 0 rfl ?_
  refine V_iconst (y := (-1)) X dX10_readAll_54 (by decide) ?_
  obtain ⟨w1, w2⟩ := w
  refine V_icmp_ne (tgt := 60) X dX10_readAll_55 (by decide) (fun z => ?_) (fun z => ?_)
  · replace w := w1 z
    clear w1 w2
    refine V_iload X dX10_readAll_60 0 rfl ?_
    refine V_bipush (y := 59) X dX10_readAll_62 (by decide) ?_
    obtain ⟨w1, w2⟩ := w
    refine V_icmp_eq (tgt := 72) X dX10_readAll_64 (by decide) (fun z => ?_) (fun z => ?_)
    · replace w := w1 z
      clear w1 w2
      refine V_aloadr_n X dX10_readAll_72 1 rfl ?_
      refine V_dup X dX10_readAll_73 rfl ?_
      obtain ⟨fs, x3, hh, hv, w⟩ := w
      refine V_get X flX10_34 dX10_readAll_74 hh hv ?_
      refine V_iconst (y := 1) X dX10_readAll_77 (by decide) ?_
      refine V_iadd X dX10_readAll_78 ?_
      obtain ⟨fs, hh, hv, w⟩ := w
      refine V_put X flX10_34 dX10_readAll_79 hh hv rfl rfl ?_
      generalize va_up _ _ _ = h4 at w ⊢
      refine V_iinc (y := (v3 + 1)) X dX10_readAll_82 4 rfl (by first | rfl | (congr 1)) (by decide) rfl ?_
      refine V_goto (tgt := 21) X dX10_readAll_85 (by decide) ?_
      exact V.sub [2, 3, 4, 0] rfl (tX10_readAll_b21_17 X  w)
    · replace w := w2 z
      clear w1 w2
      refine V_aloadr_n X dX10_readAll_67 1 rfl ?_
      obtain ⟨fs, x5, hh, hv, w⟩ := w
      refine V_get X flX10_34 dX10_readAll_68 hh hv ?_
      exact V_iret X rfl dX10_readAll_71 (Nat.le_of_ble_eq_true rfl) (Nat.le_of_ble_eq_true rfl) w
  · replace w := w2 z
    clear w1 w2
    refine V_iconst (y := (-1)) X dX10_readAll_58 (by decide) ?_
    exact V_iret X rfl dX10_readAll_59 (Nat.le_of_ble_eq_true rfl) (Nat.le_of_ble_eq_true rfl) w
def vX10_readAll_b21_16 (t0 : Nat)  (Qn : Int32 → gH → Prop) (h : gH) (v0 : Nat) (v1 : Int32) (v2 : Int32) (v3 : Int32) : Prop := ((v2 ≤ (v3 : Int32)) → (io h v0 13 (vX10_nextByte t0 (fun x2 h1 => gi h1 v0 13 3 (fun x3 => Qn x3 h1)) h v0 ))) ∧ ((¬ v2 ≤ (v3 : Int32)) → (io h v0 13 (vX10_readTransition t0 (fun x5 h4 => ((¬ (x5 : Int32) = 0) → ((((v1 : Int32) = 0) → (vX10_readAll_b46_16 t0  Qn h4 v0 v1 v2 v3)) ∧ ((¬ (v1 : Int32) = 0) → (io h4 v0 13 (vX10_addDraft t0 (fun h6 => vX10_readAll_b46_16 t0  Qn h6 v0 v1 v2 v3) h4 v0 ))))) ∧ (((x5 : Int32) = 0) → (gi h4 v0 13 3 (fun x7 => Qn x7 h4)))) h v0 )))
set_option maxRecDepth 100000 in
set_option maxHeartbeats 4000000 in
theorem tX10_readAll_b21_16 {p : Program} {l : Launch} {e : Env} {s : State} {m : MethodId} {args : Array Value} {below : List Frame} {meth : Method} {c : Code} {G : gG} {A : Nat → Prop} {Qn : Int32 → gH → Prop} (X : gC p l s m args meth c G A cX10_readAll 5 (some FieldType.int) RX10)   {h : gH} {v0 : Nat} {v1 : Int32} {v2 : Int32} {v3 : Int32} (w : vX10_readAll_b21_16 G.2.2.1  Qn h v0 v1 v2 v3) : V p l e rmX10_readAll s m args below meth c (MQ below (va_Qi Qn (gB G A) A) args s rmX10_readAll.cells rmX10_readAll.slots A) G A 5 h 80 1360 21 [(0, .ref v0), (1, .int v1), (2, .int v2), (3, .int v3)] [] := by
  refine V_iload_n X dX10_readAll_21 3 rfl ?_
  refine V_iload_n X dX10_readAll_22 2 rfl ?_
  obtain ⟨w1, w2⟩ := w
  refine V_icmp_ge (tgt := 88) X dX10_readAll_23 (by decide) (fun z => ?_) (fun z => ?_)
  · replace w := w1 z
    clear w1 w2
    refine V_aloadr_n X dX10_readAll_88 0 rfl ?_
    obtain ⟨fs, hh, w⟩ := w
    refine V_callVi (As := []) (rest := []) (k1 := 80) (n1 := 1360) X (cX10_nextByte_ok X.2.2.2.2.2.2.2.2.1 w) lkX10_55 hh (q9 := (RX10, TX10, 5)) rfl rfl dX10_readAll_89 ⟨Nat.le_of_ble_eq_true rfl, Nat.le_of_ble_eq_true rfl⟩ rfl (Nat.le_of_ble_eq_true rfl) ⟨Nat.le_of_ble_eq_true rfl, Nat.le_of_ble_eq_true rfl⟩ (Nat.le_of_ble_eq_true rfl) (Nat.le_of_ble_eq_true rfl) (fun x2 h1 w9 => ?_)
    replace w := w9
    clear w9
    refine V_pop X dX10_readAll_92 rfl ?_
    refine V_aloadr_n X dX10_readAll_93 0 rfl ?_
    obtain ⟨fs, x3, hh, hv, w⟩ := w
    refine V_get X flX10_34 dX10_readAll_94 hh hv ?_
    exact V_iret X rfl dX10_readAll_97 (Nat.le_of_ble_eq_true rfl) (Nat.le_of_ble_eq_true rfl) w
  · replace w := w2 z
    clear w1 w2
    refine V_aloadr_n X dX10_readAll_26 0 rfl ?_
    obtain ⟨fs, hh, w⟩ := w
    refine V_callVi (As := []) (rest := []) (k1 := 80) (n1 := 1360) X (cX10_readTransition_ok X.2.2.2.2.2.2.2.2.1 w) lkX10_48 hh (q9 := (RX10, TX10, 5)) rfl rfl dX10_readAll_27 ⟨Nat.le_of_ble_eq_true rfl, Nat.le_of_ble_eq_true rfl⟩ rfl (Nat.le_of_ble_eq_true rfl) ⟨Nat.le_of_ble_eq_true rfl, Nat.le_of_ble_eq_true rfl⟩ (Nat.le_of_ble_eq_true rfl) (Nat.le_of_ble_eq_true rfl) (fun x5 h4 w9 => ?_)
    replace w := w9
    clear w9
    obtain ⟨w1, w2⟩ := w
    refine V_if_ne (tgt := 38) X dX10_readAll_30 (by decide) (fun z => ?_) (fun z => ?_)
    · replace w := w1 z
      clear w1 w2
      refine V_iload_n X dX10_readAll_38 1 rfl ?_
      obtain ⟨w1, w2⟩ := w
      refine V_if_eq (tgt := 46) X dX10_readAll_39 (by decide) (fun z => ?_) (fun z => ?_)
      · replace w := w1 z
        clear w1 w2
        exact V.widen (k1 := 85) (n1 := 1445) (Nat.le_of_ble_eq_true rfl) (Nat.le_of_ble_eq_true rfl) <| V.sub [0, 1, 2, 3] rfl (tX10_readAll_b46_16 X  w)
      · replace w := w2 z
        clear w1 w2
        refine V_aloadr_n X dX10_readAll_42 0 rfl ?_
        obtain ⟨fs, hh, w⟩ := w
        refine V_callVv (As := []) (rest := []) (k1 := 85) (n1 := 1445) X (cX10_addDraft_ok X.2.2.2.2.2.2.2.2.1 w) lkX10_52 hh (q9 := (RX10, TX10, 5)) rfl rfl dX10_readAll_43 ⟨Nat.le_of_ble_eq_true rfl, Nat.le_of_ble_eq_true rfl⟩ rfl (Nat.le_of_ble_eq_true rfl) ⟨Nat.le_of_ble_eq_true rfl, Nat.le_of_ble_eq_true rfl⟩ (Nat.le_of_ble_eq_true rfl) (Nat.le_of_ble_eq_true rfl) (fun h6 w9 => ?_)
        replace w := w9
        clear w9
        exact V.sub [0, 1, 2, 3] rfl (tX10_readAll_b46_16 X  w)
    · replace w := w2 z
      clear w1 w2
      refine V_aloadr_n X dX10_readAll_33 0 rfl ?_
      obtain ⟨fs, x7, hh, hv, w⟩ := w
      refine V_get X flX10_34 dX10_readAll_34 hh hv ?_
      exact V_iret X rfl dX10_readAll_37 (Nat.le_of_ble_eq_true rfl) (Nat.le_of_ble_eq_true rfl) w
def vX10_readAll_b46_15 (t0 : Nat)  (Qn : Int32 → gH → Prop) (h : gH) (v0 : Nat) (v1 : Int32) (v2 : Int32) (v3 : Int32) : Prop := io h v0 13 (vX10_nextByte t0 (fun x2 h1 => ((¬ (x2 : Int32) = (-1)) → ((((x2 : Int32) = 59) → (gi h1 v0 13 3 (fun x3 => pv h1 v0 13 3 (.int (x3 + 1)) (fun h4 => vX10_readAll_b21_16 t0  Qn h4 v0 v1 v2 (v3 + 1))))) ∧ ((¬ (x2 : Int32) = 59) → (gi h1 v0 13 3 (fun x5 => Qn x5 h1))))) ∧ (((x2 : Int32) = (-1)) → (Qn (-1) h1))) h v0 )
set_option maxRecDepth 100000 in
set_option maxHeartbeats 4000000 in
theorem tX10_readAll_b46_15 {p : Program} {l : Launch} {e : Env} {s : State} {m : MethodId} {args : Array Value} {below : List Frame} {meth : Method} {c : Code} {G : gG} {A : Nat → Prop} {Qn : Int32 → gH → Prop} (X : gC p l s m args meth c G A cX10_readAll 5 (some FieldType.int) RX10)   {h : gH} {v0 : Nat} {v1 : Int32} {v2 : Int32} {v3 : Int32} (w : vX10_readAll_b46_15 G.2.2.1  Qn h v0 v1 v2 v3) : V p l e rmX10_readAll s m args below meth c (MQ below (va_Qi Qn (gB G A) A) args s rmX10_readAll.cells rmX10_readAll.slots A) G A 5 h 80 1360 46 [(0, .ref v0), (1, .int v1), (2, .int v2), (3, .int v3)] [] := by
  refine V_aloadr_n X dX10_readAll_46 0 rfl ?_
  obtain ⟨fs, hh, w⟩ := w
  refine V_callVi (As := []) (rest := []) (k1 := 80) (n1 := 1360) X (cX10_nextByte_ok X.2.2.2.2.2.2.2.2.1 w) lkX10_55 hh (q9 := (RX10, TX10, 5)) rfl rfl dX10_readAll_47 ⟨Nat.le_of_ble_eq_true rfl, Nat.le_of_ble_eq_true rfl⟩ rfl (Nat.le_of_ble_eq_true rfl) ⟨Nat.le_of_ble_eq_true rfl, Nat.le_of_ble_eq_true rfl⟩ (Nat.le_of_ble_eq_true rfl) (Nat.le_of_ble_eq_true rfl) (fun x2 h1 w9 => ?_)
  replace w := w9
  clear w9
  refine V_istore X dX10_readAll_50 (by decide) rfl ?_
  refine V_iload X dX10_readAll_52 0 rfl ?_
  refine V_iconst (y := (-1)) X dX10_readAll_54 (by decide) ?_
  obtain ⟨w1, w2⟩ := w
  refine V_icmp_ne (tgt := 60) X dX10_readAll_55 (by decide) (fun z => ?_) (fun z => ?_)
  · replace w := w1 z
    clear w1 w2
    refine V_iload X dX10_readAll_60 0 rfl ?_
    refine V_bipush (y := 59) X dX10_readAll_62 (by decide) ?_
    obtain ⟨w1, w2⟩ := w
    refine V_icmp_eq (tgt := 72) X dX10_readAll_64 (by decide) (fun z => ?_) (fun z => ?_)
    · replace w := w1 z
      clear w1 w2
      refine V_aloadr_n X dX10_readAll_72 1 rfl ?_
      refine V_dup X dX10_readAll_73 rfl ?_
      obtain ⟨fs, x3, hh, hv, w⟩ := w
      refine V_get X flX10_34 dX10_readAll_74 hh hv ?_
      refine V_iconst (y := 1) X dX10_readAll_77 (by decide) ?_
      refine V_iadd X dX10_readAll_78 ?_
      obtain ⟨fs, hh, hv, w⟩ := w
      refine V_put X flX10_34 dX10_readAll_79 hh hv rfl rfl ?_
      generalize va_up _ _ _ = h4 at w ⊢
      refine V_iinc (y := (v3 + 1)) X dX10_readAll_82 4 rfl (by first | rfl | (congr 1)) (by decide) rfl ?_
      refine V_goto (tgt := 21) X dX10_readAll_85 (by decide) ?_
      exact V.sub [2, 3, 4, 0] rfl (tX10_readAll_b21_16 X  w)
    · replace w := w2 z
      clear w1 w2
      refine V_aloadr_n X dX10_readAll_67 1 rfl ?_
      obtain ⟨fs, x5, hh, hv, w⟩ := w
      refine V_get X flX10_34 dX10_readAll_68 hh hv ?_
      exact V_iret X rfl dX10_readAll_71 (Nat.le_of_ble_eq_true rfl) (Nat.le_of_ble_eq_true rfl) w
  · replace w := w2 z
    clear w1 w2
    refine V_iconst (y := (-1)) X dX10_readAll_58 (by decide) ?_
    exact V_iret X rfl dX10_readAll_59 (Nat.le_of_ble_eq_true rfl) (Nat.le_of_ble_eq_true rfl) w
def vX10_readAll_b21_15 (t0 : Nat)  (Qn : Int32 → gH → Prop) (h : gH) (v0 : Nat) (v1 : Int32) (v2 : Int32) (v3 : Int32) : Prop := ((v2 ≤ (v3 : Int32)) → (io h v0 13 (vX10_nextByte t0 (fun x2 h1 => gi h1 v0 13 3 (fun x3 => Qn x3 h1)) h v0 ))) ∧ ((¬ v2 ≤ (v3 : Int32)) → (io h v0 13 (vX10_readTransition t0 (fun x5 h4 => ((¬ (x5 : Int32) = 0) → ((((v1 : Int32) = 0) → (vX10_readAll_b46_15 t0  Qn h4 v0 v1 v2 v3)) ∧ ((¬ (v1 : Int32) = 0) → (io h4 v0 13 (vX10_addDraft t0 (fun h6 => vX10_readAll_b46_15 t0  Qn h6 v0 v1 v2 v3) h4 v0 ))))) ∧ (((x5 : Int32) = 0) → (gi h4 v0 13 3 (fun x7 => Qn x7 h4)))) h v0 )))
set_option maxRecDepth 100000 in
set_option maxHeartbeats 4000000 in
theorem tX10_readAll_b21_15 {p : Program} {l : Launch} {e : Env} {s : State} {m : MethodId} {args : Array Value} {below : List Frame} {meth : Method} {c : Code} {G : gG} {A : Nat → Prop} {Qn : Int32 → gH → Prop} (X : gC p l s m args meth c G A cX10_readAll 5 (some FieldType.int) RX10)   {h : gH} {v0 : Nat} {v1 : Int32} {v2 : Int32} {v3 : Int32} (w : vX10_readAll_b21_15 G.2.2.1  Qn h v0 v1 v2 v3) : V p l e rmX10_readAll s m args below meth c (MQ below (va_Qi Qn (gB G A) A) args s rmX10_readAll.cells rmX10_readAll.slots A) G A 5 h 75 1275 21 [(0, .ref v0), (1, .int v1), (2, .int v2), (3, .int v3)] [] := by
  refine V_iload_n X dX10_readAll_21 3 rfl ?_
  refine V_iload_n X dX10_readAll_22 2 rfl ?_
  obtain ⟨w1, w2⟩ := w
  refine V_icmp_ge (tgt := 88) X dX10_readAll_23 (by decide) (fun z => ?_) (fun z => ?_)
  · replace w := w1 z
    clear w1 w2
    refine V_aloadr_n X dX10_readAll_88 0 rfl ?_
    obtain ⟨fs, hh, w⟩ := w
    refine V_callVi (As := []) (rest := []) (k1 := 75) (n1 := 1275) X (cX10_nextByte_ok X.2.2.2.2.2.2.2.2.1 w) lkX10_55 hh (q9 := (RX10, TX10, 5)) rfl rfl dX10_readAll_89 ⟨Nat.le_of_ble_eq_true rfl, Nat.le_of_ble_eq_true rfl⟩ rfl (Nat.le_of_ble_eq_true rfl) ⟨Nat.le_of_ble_eq_true rfl, Nat.le_of_ble_eq_true rfl⟩ (Nat.le_of_ble_eq_true rfl) (Nat.le_of_ble_eq_true rfl) (fun x2 h1 w9 => ?_)
    replace w := w9
    clear w9
    refine V_pop X dX10_readAll_92 rfl ?_
    refine V_aloadr_n X dX10_readAll_93 0 rfl ?_
    obtain ⟨fs, x3, hh, hv, w⟩ := w
    refine V_get X flX10_34 dX10_readAll_94 hh hv ?_
    exact V_iret X rfl dX10_readAll_97 (Nat.le_of_ble_eq_true rfl) (Nat.le_of_ble_eq_true rfl) w
  · replace w := w2 z
    clear w1 w2
    refine V_aloadr_n X dX10_readAll_26 0 rfl ?_
    obtain ⟨fs, hh, w⟩ := w
    refine V_callVi (As := []) (rest := []) (k1 := 75) (n1 := 1275) X (cX10_readTransition_ok X.2.2.2.2.2.2.2.2.1 w) lkX10_48 hh (q9 := (RX10, TX10, 5)) rfl rfl dX10_readAll_27 ⟨Nat.le_of_ble_eq_true rfl, Nat.le_of_ble_eq_true rfl⟩ rfl (Nat.le_of_ble_eq_true rfl) ⟨Nat.le_of_ble_eq_true rfl, Nat.le_of_ble_eq_true rfl⟩ (Nat.le_of_ble_eq_true rfl) (Nat.le_of_ble_eq_true rfl) (fun x5 h4 w9 => ?_)
    replace w := w9
    clear w9
    obtain ⟨w1, w2⟩ := w
    refine V_if_ne (tgt := 38) X dX10_readAll_30 (by decide) (fun z => ?_) (fun z => ?_)
    · replace w := w1 z
      clear w1 w2
      refine V_iload_n X dX10_readAll_38 1 rfl ?_
      obtain ⟨w1, w2⟩ := w
      refine V_if_eq (tgt := 46) X dX10_readAll_39 (by decide) (fun z => ?_) (fun z => ?_)
      · replace w := w1 z
        clear w1 w2
        exact V.widen (k1 := 80) (n1 := 1360) (Nat.le_of_ble_eq_true rfl) (Nat.le_of_ble_eq_true rfl) <| V.sub [0, 1, 2, 3] rfl (tX10_readAll_b46_15 X  w)
      · replace w := w2 z
        clear w1 w2
        refine V_aloadr_n X dX10_readAll_42 0 rfl ?_
        obtain ⟨fs, hh, w⟩ := w
        refine V_callVv (As := []) (rest := []) (k1 := 80) (n1 := 1360) X (cX10_addDraft_ok X.2.2.2.2.2.2.2.2.1 w) lkX10_52 hh (q9 := (RX10, TX10, 5)) rfl rfl dX10_readAll_43 ⟨Nat.le_of_ble_eq_true rfl, Nat.le_of_ble_eq_true rfl⟩ rfl (Nat.le_of_ble_eq_true rfl) ⟨Nat.le_of_ble_eq_true rfl, Nat.le_of_ble_eq_true rfl⟩ (Nat.le_of_ble_eq_true rfl) (Nat.le_of_ble_eq_true rfl) (fun h6 w9 => ?_)
        replace w := w9
        clear w9
        exact V.sub [0, 1, 2, 3] rfl (tX10_readAll_b46_15 X  w)
    · replace w := w2 z
      clear w1 w2
      refine V_aloadr_n X dX10_readAll_33 0 rfl ?_
      obtain ⟨fs, x7, hh, hv, w⟩ := w
      refine V_get X flX10_34 dX10_readAll_34 hh hv ?_
      exact V_iret X rfl dX10_readAll_37 (Nat.le_of_ble_eq_true rfl) (Nat.le_of_ble_eq_true rfl) w
def vX10_readAll_b46_14 (t0 : Nat)  (Qn : Int32 → gH → Prop) (h : gH) (v0 : Nat) (v1 : Int32) (v2 : Int32) (v3 : Int32) : Prop := io h v0 13 (vX10_nextByte t0 (fun x2 h1 => ((¬ (x2 : Int32) = (-1)) → ((((x2 : Int32) = 59) → (gi h1 v0 13 3 (fun x3 => pv h1 v0 13 3 (.int (x3 + 1)) (fun h4 => vX10_readAll_b21_15 t0  Qn h4 v0 v1 v2 (v3 + 1))))) ∧ ((¬ (x2 : Int32) = 59) → (gi h1 v0 13 3 (fun x5 => Qn x5 h1))))) ∧ (((x2 : Int32) = (-1)) → (Qn (-1) h1))) h v0 )
set_option maxRecDepth 100000 in
set_option maxHeartbeats 4000000 in
theorem tX10_readAll_b46_14 {p : Program} {l : Launch} {e : Env} {s : State} {m : MethodId} {args : Array Value} {below : List Frame} {meth : Method} {c : Code} {G : gG} {A : Nat → Prop} {Qn : Int32 → gH → Prop} (X : gC p l s m args meth c G A cX10_readAll 5 (some FieldType.int) RX10)   {h : gH} {v0 : Nat} {v1 : Int32} {v2 : Int32} {v3 : Int32} (w : vX10_readAll_b46_14 G.2.2.1  Qn h v0 v1 v2 v3) : V p l e rmX10_readAll s m args below meth c (MQ below (va_Qi Qn (gB G A) A) args s rmX10_readAll.cells rmX10_readAll.slots A) G A 5 h 75 1275 46 [(0, .ref v0), (1, .int v1), (2, .int v2), (3, .int v3)] [] := by
  refine V_aloadr_n X dX10_readAll_46 0 rfl ?_
  obtain ⟨fs, hh, w⟩ := w
  refine V_callVi (As := []) (rest := []) (k1 := 75) (n1 := 1275) X (cX10_nextByte_ok X.2.2.2.2.2.2.2.2.1 w) lkX10_55 hh (q9 := (RX10, TX10, 5)) rfl rfl dX10_readAll_47 ⟨Nat.le_of_ble_eq_true rfl, Nat.le_of_ble_eq_true rfl⟩ rfl (Nat.le_of_ble_eq_true rfl) ⟨Nat.le_of_ble_eq_true rfl, Nat.le_of_ble_eq_true rfl⟩ (Nat.le_of_ble_eq_true rfl) (Nat.le_of_ble_eq_true rfl) (fun x2 h1 w9 => ?_)
  replace w := w9
  clear w9
  refine V_istore X dX10_readAll_50 (by decide) rfl ?_
  refine V_iload X dX10_readAll_52 0 rfl ?_
  refine V_iconst (y := (-1)) X dX10_readAll_54 (by decide) ?_
  obtain ⟨w1, w2⟩ := w
  refine V_icmp_ne (tgt := 60) X dX10_readAll_55 (by decide) (fun z => ?_) (fun z => ?_)
  · replace w := w1 z
    clear w1 w2
    refine V_iload X dX10_readAll_60 0 rfl ?_
    refine V_bipush (y := 59) X dX10_readAll_62 (by decide) ?_
    obtain ⟨w1, w2⟩ := w
    refine V_icmp_eq (tgt := 72) X dX10_readAll_64 (by decide) (fun z => ?_) (fun z => ?_)
    · replace w := w1 z
      clear w1 w2
      refine V_aloadr_n X dX10_readAll_72 1 rfl ?_
      refine V_dup X dX10_readAll_73 rfl ?_
      obtain ⟨fs, x3, hh, hv, w⟩ := w
      refine V_get X flX10_34 dX10_readAll_74 hh hv ?_
      refine V_iconst (y := 1) X dX10_readAll_77 (by decide) ?_
      refine V_iadd X dX10_readAll_78 ?_
      obtain ⟨fs, hh, hv, w⟩ := w
      refine V_put X flX10_34 dX10_readAll_79 hh hv rfl rfl ?_
      generalize va_up _ _ _ = h4 at w ⊢
      refine V_iinc (y := (v3 + 1)) X dX10_readAll_82 4 rfl (by first | rfl | (congr 1)) (by decide) rfl ?_
      refine V_goto (tgt := 21) X dX10_readAll_85 (by decide) ?_
      exact V.sub [2, 3, 4, 0] rfl (tX10_readAll_b21_15 X  w)
    · replace w := w2 z
      clear w1 w2
      refine V_aloadr_n X dX10_readAll_67 1 rfl ?_
      obtain ⟨fs, x5, hh, hv, w⟩ := w
      refine V_get X flX10_34 dX10_readAll_68 hh hv ?_
      exact V_iret X rfl dX10_readAll_71 (Nat.le_of_ble_eq_true rfl) (Nat.le_of_ble_eq_true rfl) w
  · replace w := w2 z
    clear w1 w2
    refine V_iconst (y := (-1)) X dX10_readAll_58 (by decide) ?_
    exact V_iret X rfl dX10_readAll_59 (Nat.le_of_ble_eq_true rfl) (Nat.le_of_ble_eq_true rfl) w
def vX10_readAll_b21_14 (t0 : Nat)  (Qn : Int32 → gH → Prop) (h : gH) (v0 : Nat) (v1 : Int32) (v2 : Int32) (v3 : Int32) : Prop := ((v2 ≤ (v3 : Int32)) → (io h v0 13 (vX10_nextByte t0 (fun x2 h1 => gi h1 v0 13 3 (fun x3 => Qn x3 h1)) h v0 ))) ∧ ((¬ v2 ≤ (v3 : Int32)) → (io h v0 13 (vX10_readTransition t0 (fun x5 h4 => ((¬ (x5 : Int32) = 0) → ((((v1 : Int32) = 0) → (vX10_readAll_b46_14 t0  Qn h4 v0 v1 v2 v3)) ∧ ((¬ (v1 : Int32) = 0) → (io h4 v0 13 (vX10_addDraft t0 (fun h6 => vX10_readAll_b46_14 t0  Qn h6 v0 v1 v2 v3) h4 v0 ))))) ∧ (((x5 : Int32) = 0) → (gi h4 v0 13 3 (fun x7 => Qn x7 h4)))) h v0 )))
set_option maxRecDepth 100000 in
set_option maxHeartbeats 4000000 in
theorem tX10_readAll_b21_14 {p : Program} {l : Launch} {e : Env} {s : State} {m : MethodId} {args : Array Value} {below : List Frame} {meth : Method} {c : Code} {G : gG} {A : Nat → Prop} {Qn : Int32 → gH → Prop} (X : gC p l s m args meth c G A cX10_readAll 5 (some FieldType.int) RX10)   {h : gH} {v0 : Nat} {v1 : Int32} {v2 : Int32} {v3 : Int32} (w : vX10_readAll_b21_14 G.2.2.1  Qn h v0 v1 v2 v3) : V p l e rmX10_readAll s m args below meth c (MQ below (va_Qi Qn (gB G A) A) args s rmX10_readAll.cells rmX10_readAll.slots A) G A 5 h 70 1190 21 [(0, .ref v0), (1, .int v1), (2, .int v2), (3, .int v3)] [] := by
  refine V_iload_n X dX10_readAll_21 3 rfl ?_
  refine V_iload_n X dX10_readAll_22 2 rfl ?_
  obtain ⟨w1, w2⟩ := w
  refine V_icmp_ge (tgt := 88) X dX10_readAll_23 (by decide) (fun z => ?_) (fun z => ?_)
  · replace w := w1 z
    clear w1 w2
    refine V_aloadr_n X dX10_readAll_88 0 rfl ?_
    obtain ⟨fs, hh, w⟩ := w
    refine V_callVi (As := []) (rest := []) (k1 := 70) (n1 := 1190) X (cX10_nextByte_ok X.2.2.2.2.2.2.2.2.1 w) lkX10_55 hh (q9 := (RX10, TX10, 5)) rfl rfl dX10_readAll_89 ⟨Nat.le_of_ble_eq_true rfl, Nat.le_of_ble_eq_true rfl⟩ rfl (Nat.le_of_ble_eq_true rfl) ⟨Nat.le_of_ble_eq_true rfl, Nat.le_of_ble_eq_true rfl⟩ (Nat.le_of_ble_eq_true rfl) (Nat.le_of_ble_eq_true rfl) (fun x2 h1 w9 => ?_)
    replace w := w9
    clear w9
    refine V_pop X dX10_readAll_92 rfl ?_
    refine V_aloadr_n X dX10_readAll_93 0 rfl ?_
    obtain ⟨fs, x3, hh, hv, w⟩ := w
    refine V_get X flX10_34 dX10_readAll_94 hh hv ?_
    exact V_iret X rfl dX10_readAll_97 (Nat.le_of_ble_eq_true rfl) (Nat.le_of_ble_eq_true rfl) w
  · replace w := w2 z
    clear w1 w2
    refine V_aloadr_n X dX10_readAll_26 0 rfl ?_
    obtain ⟨fs, hh, w⟩ := w
    refine V_callVi (As := []) (rest := []) (k1 := 70) (n1 := 1190) X (cX10_readTransition_ok X.2.2.2.2.2.2.2.2.1 w) lkX10_48 hh (q9 := (RX10, TX10, 5)) rfl rfl dX10_readAll_27 ⟨Nat.le_of_ble_eq_true rfl, Nat.le_of_ble_eq_true rfl⟩ rfl (Nat.le_of_ble_eq_true rfl) ⟨Nat.le_of_ble_eq_true rfl, Nat.le_of_ble_eq_true rfl⟩ (Nat.le_of_ble_eq_true rfl) (Nat.le_of_ble_eq_true rfl) (fun x5 h4 w9 => ?_)
    replace w := w9
    clear w9
    obtain ⟨w1, w2⟩ := w
    refine V_if_ne (tgt := 38) X dX10_readAll_30 (by decide) (fun z => ?_) (fun z => ?_)
    · replace w := w1 z
      clear w1 w2
      refine V_iload_n X dX10_readAll_38 1 rfl ?_
      obtain ⟨w1, w2⟩ := w
      refine V_if_eq (tgt := 46) X dX10_readAll_39 (by decide) (fun z => ?_) (fun z => ?_)
      · replace w := w1 z
        clear w1 w2
        exact V.widen (k1 := 75) (n1 := 1275) (Nat.le_of_ble_eq_true rfl) (Nat.le_of_ble_eq_true rfl) <| V.sub [0, 1, 2, 3] rfl (tX10_readAll_b46_14 X  w)
      · replace w := w2 z
        clear w1 w2
        refine V_aloadr_n X dX10_readAll_42 0 rfl ?_
        obtain ⟨fs, hh, w⟩ := w
        refine V_callVv (As := []) (rest := []) (k1 := 75) (n1 := 1275) X (cX10_addDraft_ok X.2.2.2.2.2.2.2.2.1 w) lkX10_52 hh (q9 := (RX10, TX10, 5)) rfl rfl dX10_readAll_43 ⟨Nat.le_of_ble_eq_true rfl, Nat.le_of_ble_eq_true rfl⟩ rfl (Nat.le_of_ble_eq_true rfl) ⟨Nat.le_of_ble_eq_true rfl, Nat.le_of_ble_eq_true rfl⟩ (Nat.le_of_ble_eq_true rfl) (Nat.le_of_ble_eq_true rfl) (fun h6 w9 => ?_)
        replace w := w9
        clear w9
        exact V.sub [0, 1, 2, 3] rfl (tX10_readAll_b46_14 X  w)
    · replace w := w2 z
      clear w1 w2
      refine V_aloadr_n X dX10_readAll_33 0 rfl ?_
      obtain ⟨fs, x7, hh, hv, w⟩ := w
      refine V_get X flX10_34 dX10_readAll_34 hh hv ?_
      exact V_iret X rfl dX10_readAll_37 (Nat.le_of_ble_eq_true rfl) (Nat.le_of_ble_eq_true rfl) w
def vX10_readAll_b46_13 (t0 : Nat)  (Qn : Int32 → gH → Prop) (h : gH) (v0 : Nat) (v1 : Int32) (v2 : Int32) (v3 : Int32) : Prop := io h v0 13 (vX10_nextByte t0 (fun x2 h1 => ((¬ (x2 : Int32) = (-1)) → ((((x2 : Int32) = 59) → (gi h1 v0 13 3 (fun x3 => pv h1 v0 13 3 (.int (x3 + 1)) (fun h4 => vX10_readAll_b21_14 t0  Qn h4 v0 v1 v2 (v3 + 1))))) ∧ ((¬ (x2 : Int32) = 59) → (gi h1 v0 13 3 (fun x5 => Qn x5 h1))))) ∧ (((x2 : Int32) = (-1)) → (Qn (-1) h1))) h v0 )
set_option maxRecDepth 100000 in
set_option maxHeartbeats 4000000 in
theorem tX10_readAll_b46_13 {p : Program} {l : Launch} {e : Env} {s : State} {m : MethodId} {args : Array Value} {below : List Frame} {meth : Method} {c : Code} {G : gG} {A : Nat → Prop} {Qn : Int32 → gH → Prop} (X : gC p l s m args meth c G A cX10_readAll 5 (some FieldType.int) RX10)   {h : gH} {v0 : Nat} {v1 : Int32} {v2 : Int32} {v3 : Int32} (w : vX10_readAll_b46_13 G.2.2.1  Qn h v0 v1 v2 v3) : V p l e rmX10_readAll s m args below meth c (MQ below (va_Qi Qn (gB G A) A) args s rmX10_readAll.cells rmX10_readAll.slots A) G A 5 h 70 1190 46 [(0, .ref v0), (1, .int v1), (2, .int v2), (3, .int v3)] [] := by
  refine V_aloadr_n X dX10_readAll_46 0 rfl ?_
  obtain ⟨fs, hh, w⟩ := w
  refine V_callVi (As := []) (rest := []) (k1 := 70) (n1 := 1190) X (cX10_nextByte_ok X.2.2.2.2.2.2.2.2.1 w) lkX10_55 hh (q9 := (RX10, TX10, 5)) rfl rfl dX10_readAll_47 ⟨Nat.le_of_ble_eq_true rfl, Nat.le_of_ble_eq_true rfl⟩ rfl (Nat.le_of_ble_eq_true rfl) ⟨Nat.le_of_ble_eq_true rfl, Nat.le_of_ble_eq_true rfl⟩ (Nat.le_of_ble_eq_true rfl) (Nat.le_of_ble_eq_true rfl) (fun x2 h1 w9 => ?_)
  replace w := w9
  clear w9
  refine V_istore X dX10_readAll_50 (by decide) rfl ?_
  refine V_iload X dX10_readAll_52 0 rfl ?_
  refine V_iconst (y := (-1)) X dX10_readAll_54 (by decide) ?_
  obtain ⟨w1, w2⟩ := w
  refine V_icmp_ne (tgt := 60) X dX10_readAll_55 (by decide) (fun z => ?_) (fun z => ?_)
  · replace w := w1 z
    clear w1 w2
    refine V_iload X dX10_readAll_60 0 rfl ?_
    refine V_bipush (y := 59) X dX10_readAll_62 (by decide) ?_
    obtain ⟨w1, w2⟩ := w
    refine V_icmp_eq (tgt := 72) X dX10_readAll_64 (by decide) (fun z => ?_) (fun z => ?_)
    · replace w := w1 z
      clear w1 w2
      refine V_aloadr_n X dX10_readAll_72 1 rfl ?_
      refine V_dup X dX10_readAll_73 rfl ?_
      obtain ⟨fs, x3, hh, hv, w⟩ := w
      refine V_get X flX10_34 dX10_readAll_74 hh hv ?_
      refine V_iconst (y := 1) X dX10_readAll_77 (by decide) ?_
      refine V_iadd X dX10_readAll_78 ?_
      obtain ⟨fs, hh, hv, w⟩ := w
      refine V_put X flX10_34 dX10_readAll_79 hh hv rfl rfl ?_
      generalize va_up _ _ _ = h4 at w ⊢
      refine V_iinc (y := (v3 + 1)) X dX10_readAll_82 4 rfl (by first | rfl | (congr 1)) (by decide) rfl ?_
      refine V_goto (tgt := 21) X dX10_readAll_85 (by decide) ?_
      exact V.sub [2, 3, 4, 0] rfl (tX10_readAll_b21_14 X  w)
    · replace w := w2 z
      clear w1 w2
      refine V_aloadr_n X dX10_readAll_67 1 rfl ?_
      obtain ⟨fs, x5, hh, hv, w⟩ := w
      refine V_get X flX10_34 dX10_readAll_68 hh hv ?_
      exact V_iret X rfl dX10_readAll_71 (Nat.le_of_ble_eq_true rfl) (Nat.le_of_ble_eq_true rfl) w
  · replace w := w2 z
    clear w1 w2
    refine V_iconst (y := (-1)) X dX10_readAll_58 (by decide) ?_
    exact V_iret X rfl dX10_readAll_59 (Nat.le_of_ble_eq_true rfl) (Nat.le_of_ble_eq_true rfl) w
def vX10_readAll_b21_13 (t0 : Nat)  (Qn : Int32 → gH → Prop) (h : gH) (v0 : Nat) (v1 : Int32) (v2 : Int32) (v3 : Int32) : Prop := ((v2 ≤ (v3 : Int32)) → (io h v0 13 (vX10_nextByte t0 (fun x2 h1 => gi h1 v0 13 3 (fun x3 => Qn x3 h1)) h v0 ))) ∧ ((¬ v2 ≤ (v3 : Int32)) → (io h v0 13 (vX10_readTransition t0 (fun x5 h4 => ((¬ (x5 : Int32) = 0) → ((((v1 : Int32) = 0) → (vX10_readAll_b46_13 t0  Qn h4 v0 v1 v2 v3)) ∧ ((¬ (v1 : Int32) = 0) → (io h4 v0 13 (vX10_addDraft t0 (fun h6 => vX10_readAll_b46_13 t0  Qn h6 v0 v1 v2 v3) h4 v0 ))))) ∧ (((x5 : Int32) = 0) → (gi h4 v0 13 3 (fun x7 => Qn x7 h4)))) h v0 )))
set_option maxRecDepth 100000 in
set_option maxHeartbeats 4000000 in
theorem tX10_readAll_b21_13 {p : Program} {l : Launch} {e : Env} {s : State} {m : MethodId} {args : Array Value} {below : List Frame} {meth : Method} {c : Code} {G : gG} {A : Nat → Prop} {Qn : Int32 → gH → Prop} (X : gC p l s m args meth c G A cX10_readAll 5 (some FieldType.int) RX10)   {h : gH} {v0 : Nat} {v1 : Int32} {v2 : Int32} {v3 : Int32} (w : vX10_readAll_b21_13 G.2.2.1  Qn h v0 v1 v2 v3) : V p l e rmX10_readAll s m args below meth c (MQ below (va_Qi Qn (gB G A) A) args s rmX10_readAll.cells rmX10_readAll.slots A) G A 5 h 65 1105 21 [(0, .ref v0), (1, .int v1), (2, .int v2), (3, .int v3)] [] := by
  refine V_iload_n X dX10_readAll_21 3 rfl ?_
  refine V_iload_n X dX10_readAll_22 2 rfl ?_
  obtain ⟨w1, w2⟩ := w
  refine V_icmp_ge (tgt := 88) X dX10_readAll_23 (by decide) (fun z => ?_) (fun z => ?_)
  · replace w := w1 z
    clear w1 w2
    refine V_aloadr_n X dX10_readAll_88 0 rfl ?_
    obtain ⟨fs, hh, w⟩ := w
    refine V_callVi (As := []) (rest := []) (k1 := 65) (n1 := 1105) X (cX10_nextByte_ok X.2.2.2.2.2.2.2.2.1 w) lkX10_55 hh (q9 := (RX10, TX10, 5)) rfl rfl dX10_readAll_89 ⟨Nat.le_of_ble_eq_true rfl, Nat.le_of_ble_eq_true rfl⟩ rfl (Nat.le_of_ble_eq_true rfl) ⟨Nat.le_of_ble_eq_true rfl, Nat.le_of_ble_eq_true rfl⟩ (Nat.le_of_ble_eq_true rfl) (Nat.le_of_ble_eq_true rfl) (fun x2 h1 w9 => ?_)
    replace w := w9
    clear w9
    refine V_pop X dX10_readAll_92 rfl ?_
    refine V_aloadr_n X dX10_readAll_93 0 rfl ?_
    obtain ⟨fs, x3, hh, hv, w⟩ := w
    refine V_get X flX10_34 dX10_readAll_94 hh hv ?_
    exact V_iret X rfl dX10_readAll_97 (Nat.le_of_ble_eq_true rfl) (Nat.le_of_ble_eq_true rfl) w
  · replace w := w2 z
    clear w1 w2
    refine V_aloadr_n X dX10_readAll_26 0 rfl ?_
    obtain ⟨fs, hh, w⟩ := w
    refine V_callVi (As := []) (rest := []) (k1 := 65) (n1 := 1105) X (cX10_readTransition_ok X.2.2.2.2.2.2.2.2.1 w) lkX10_48 hh (q9 := (RX10, TX10, 5)) rfl rfl dX10_readAll_27 ⟨Nat.le_of_ble_eq_true rfl, Nat.le_of_ble_eq_true rfl⟩ rfl (Nat.le_of_ble_eq_true rfl) ⟨Nat.le_of_ble_eq_true rfl, Nat.le_of_ble_eq_true rfl⟩ (Nat.le_of_ble_eq_true rfl) (Nat.le_of_ble_eq_true rfl) (fun x5 h4 w9 => ?_)
    replace w := w9
    clear w9
    obtain ⟨w1, w2⟩ := w
    refine V_if_ne (tgt := 38) X dX10_readAll_30 (by decide) (fun z => ?_) (fun z => ?_)
    · replace w := w1 z
      clear w1 w2
      refine V_iload_n X dX10_readAll_38 1 rfl ?_
      obtain ⟨w1, w2⟩ := w
      refine V_if_eq (tgt := 46) X dX10_readAll_39 (by decide) (fun z => ?_) (fun z => ?_)
      · replace w := w1 z
        clear w1 w2
        exact V.widen (k1 := 70) (n1 := 1190) (Nat.le_of_ble_eq_true rfl) (Nat.le_of_ble_eq_true rfl) <| V.sub [0, 1, 2, 3] rfl (tX10_readAll_b46_13 X  w)
      · replace w := w2 z
        clear w1 w2
        refine V_aloadr_n X dX10_readAll_42 0 rfl ?_
        obtain ⟨fs, hh, w⟩ := w
        refine V_callVv (As := []) (rest := []) (k1 := 70) (n1 := 1190) X (cX10_addDraft_ok X.2.2.2.2.2.2.2.2.1 w) lkX10_52 hh (q9 := (RX10, TX10, 5)) rfl rfl dX10_readAll_43 ⟨Nat.le_of_ble_eq_true rfl, Nat.le_of_ble_eq_true rfl⟩ rfl (Nat.le_of_ble_eq_true rfl) ⟨Nat.le_of_ble_eq_true rfl, Nat.le_of_ble_eq_true rfl⟩ (Nat.le_of_ble_eq_true rfl) (Nat.le_of_ble_eq_true rfl) (fun h6 w9 => ?_)
        replace w := w9
        clear w9
        exact V.sub [0, 1, 2, 3] rfl (tX10_readAll_b46_13 X  w)
    · replace w := w2 z
      clear w1 w2
      refine V_aloadr_n X dX10_readAll_33 0 rfl ?_
      obtain ⟨fs, x7, hh, hv, w⟩ := w
      refine V_get X flX10_34 dX10_readAll_34 hh hv ?_
      exact V_iret X rfl dX10_readAll_37 (Nat.le_of_ble_eq_true rfl) (Nat.le_of_ble_eq_true rfl) w
def vX10_readAll_b46_12 (t0 : Nat)  (Qn : Int32 → gH → Prop) (h : gH) (v0 : Nat) (v1 : Int32) (v2 : Int32) (v3 : Int32) : Prop := io h v0 13 (vX10_nextByte t0 (fun x2 h1 => ((¬ (x2 : Int32) = (-1)) → ((((x2 : Int32) = 59) → (gi h1 v0 13 3 (fun x3 => pv h1 v0 13 3 (.int (x3 + 1)) (fun h4 => vX10_readAll_b21_13 t0  Qn h4 v0 v1 v2 (v3 + 1))))) ∧ ((¬ (x2 : Int32) = 59) → (gi h1 v0 13 3 (fun x5 => Qn x5 h1))))) ∧ (((x2 : Int32) = (-1)) → (Qn (-1) h1))) h v0 )
set_option maxRecDepth 100000 in
set_option maxHeartbeats 4000000 in
theorem tX10_readAll_b46_12 {p : Program} {l : Launch} {e : Env} {s : State} {m : MethodId} {args : Array Value} {below : List Frame} {meth : Method} {c : Code} {G : gG} {A : Nat → Prop} {Qn : Int32 → gH → Prop} (X : gC p l s m args meth c G A cX10_readAll 5 (some FieldType.int) RX10)   {h : gH} {v0 : Nat} {v1 : Int32} {v2 : Int32} {v3 : Int32} (w : vX10_readAll_b46_12 G.2.2.1  Qn h v0 v1 v2 v3) : V p l e rmX10_readAll s m args below meth c (MQ below (va_Qi Qn (gB G A) A) args s rmX10_readAll.cells rmX10_readAll.slots A) G A 5 h 65 1105 46 [(0, .ref v0), (1, .int v1), (2, .int v2), (3, .int v3)] [] := by
  refine V_aloadr_n X dX10_readAll_46 0 rfl ?_
  obtain ⟨fs, hh, w⟩ := w
  refine V_callVi (As := []) (rest := []) (k1 := 65) (n1 := 1105) X (cX10_nextByte_ok X.2.2.2.2.2.2.2.2.1 w) lkX10_55 hh (q9 := (RX10, TX10, 5)) rfl rfl dX10_readAll_47 ⟨Nat.le_of_ble_eq_true rfl, Nat.le_of_ble_eq_true rfl⟩ rfl (Nat.le_of_ble_eq_true rfl) ⟨Nat.le_of_ble_eq_true rfl, Nat.le_of_ble_eq_true rfl⟩ (Nat.le_of_ble_eq_true rfl) (Nat.le_of_ble_eq_true rfl) (fun x2 h1 w9 => ?_)
  replace w := w9
  clear w9
  refine V_istore X dX10_readAll_50 (by decide) rfl ?_
  refine V_iload X dX10_readAll_52 0 rfl ?_
  refine V_iconst (y := (-1)) X dX10_readAll_54 (by decide) ?_
  obtain ⟨w1, w2⟩ := w
  refine V_icmp_ne (tgt := 60) X dX10_readAll_55 (by decide) (fun z => ?_) (fun z => ?_)
  · replace w := w1 z
    clear w1 w2
    refine V_iload X dX10_readAll_60 0 rfl ?_
    refine V_bipush (y := 59) X dX10_readAll_62 (by decide) ?_
    obtain ⟨w1, w2⟩ := w
    refine V_icmp_eq (tgt := 72) X dX10_readAll_64 (by decide) (fun z => ?_) (fun z => ?_)
    · replace w := w1 z
      clear w1 w2
      refine V_aloadr_n X dX10_readAll_72 1 rfl ?_
      refine V_dup X dX10_readAll_73 rfl ?_
      obtain ⟨fs, x3, hh, hv, w⟩ := w
      refine V_get X flX10_34 dX10_readAll_74 hh hv ?_
      refine V_iconst (y := 1) X dX10_readAll_77 (by decide) ?_
      refine V_iadd X dX10_readAll_78 ?_
      obtain ⟨fs, hh, hv, w⟩ := w
      refine V_put X flX10_34 dX10_readAll_79 hh hv rfl rfl ?_
      generalize va_up _ _ _ = h4 at w ⊢
      refine V_iinc (y := (v3 + 1)) X dX10_readAll_82 4 rfl (by first | rfl | (congr 1)) (by decide) rfl ?_
      refine V_goto (tgt := 21) X dX10_readAll_85 (by decide) ?_
      exact V.sub [2, 3, 4, 0] rfl (tX10_readAll_b21_13 X  w)
    · replace w := w2 z
      clear w1 w2
      refine V_aloadr_n X dX10_readAll_67 1 rfl ?_
      obtain ⟨fs, x5, hh, hv, w⟩ := w
      refine V_get X flX10_34 dX10_readAll_68 hh hv ?_
      exact V_iret X rfl dX10_readAll_71 (Nat.le_of_ble_eq_true rfl) (Nat.le_of_ble_eq_true rfl) w
  · replace w := w2 z
    clear w1 w2
    refine V_iconst (y := (-1)) X dX10_readAll_58 (by decide) ?_
    exact V_iret X rfl dX10_readAll_59 (Nat.le_of_ble_eq_true rfl) (Nat.le_of_ble_eq_true rfl) w
def vX10_readAll_b21_12 (t0 : Nat)  (Qn : Int32 → gH → Prop) (h : gH) (v0 : Nat) (v1 : Int32) (v2 : Int32) (v3 : Int32) : Prop := ((v2 ≤ (v3 : Int32)) → (io h v0 13 (vX10_nextByte t0 (fun x2 h1 => gi h1 v0 13 3 (fun x3 => Qn x3 h1)) h v0 ))) ∧ ((¬ v2 ≤ (v3 : Int32)) → (io h v0 13 (vX10_readTransition t0 (fun x5 h4 => ((¬ (x5 : Int32) = 0) → ((((v1 : Int32) = 0) → (vX10_readAll_b46_12 t0  Qn h4 v0 v1 v2 v3)) ∧ ((¬ (v1 : Int32) = 0) → (io h4 v0 13 (vX10_addDraft t0 (fun h6 => vX10_readAll_b46_12 t0  Qn h6 v0 v1 v2 v3) h4 v0 ))))) ∧ (((x5 : Int32) = 0) → (gi h4 v0 13 3 (fun x7 => Qn x7 h4)))) h v0 )))
set_option maxRecDepth 100000 in
set_option maxHeartbeats 4000000 in
theorem tX10_readAll_b21_12 {p : Program} {l : Launch} {e : Env} {s : State} {m : MethodId} {args : Array Value} {below : List Frame} {meth : Method} {c : Code} {G : gG} {A : Nat → Prop} {Qn : Int32 → gH → Prop} (X : gC p l s m args meth c G A cX10_readAll 5 (some FieldType.int) RX10)   {h : gH} {v0 : Nat} {v1 : Int32} {v2 : Int32} {v3 : Int32} (w : vX10_readAll_b21_12 G.2.2.1  Qn h v0 v1 v2 v3) : V p l e rmX10_readAll s m args below meth c (MQ below (va_Qi Qn (gB G A) A) args s rmX10_readAll.cells rmX10_readAll.slots A) G A 5 h 60 1020 21 [(0, .ref v0), (1, .int v1), (2, .int v2), (3, .int v3)] [] := by
  refine V_iload_n X dX10_readAll_21 3 rfl ?_
  refine V_iload_n X dX10_readAll_22 2 rfl ?_
  obtain ⟨w1, w2⟩ := w
  refine V_icmp_ge (tgt := 88) X dX10_readAll_23 (by decide) (fun z => ?_) (fun z => ?_)
  · replace w := w1 z
    clear w1 w2
    refine V_aloadr_n X dX10_readAll_88 0 rfl ?_
    obtain ⟨fs, hh, w⟩ := w
    refine V_callVi (As := []) (rest := []) (k1 := 60) (n1 := 1020) X (cX10_nextByte_ok X.2.2.2.2.2.2.2.2.1 w) lkX10_55 hh (q9 := (RX10, TX10, 5)) rfl rfl dX10_readAll_89 ⟨Nat.le_of_ble_eq_true rfl, Nat.le_of_ble_eq_true rfl⟩ rfl (Nat.le_of_ble_eq_true rfl) ⟨Nat.le_of_ble_eq_true rfl, Nat.le_of_ble_eq_true rfl⟩ (Nat.le_of_ble_eq_true rfl) (Nat.le_of_ble_eq_true rfl) (fun x2 h1 w9 => ?_)
    replace w := w9
    clear w9
    refine V_pop X dX10_readAll_92 rfl ?_
    refine V_aloadr_n X dX10_readAll_93 0 rfl ?_
    obtain ⟨fs, x3, hh, hv, w⟩ := w
    refine V_get X flX10_34 dX10_readAll_94 hh hv ?_
    exact V_iret X rfl dX10_readAll_97 (Nat.le_of_ble_eq_true rfl) (Nat.le_of_ble_eq_true rfl) w
  · replace w := w2 z
    clear w1 w2
    refine V_aloadr_n X dX10_readAll_26 0 rfl ?_
    obtain ⟨fs, hh, w⟩ := w
    refine V_callVi (As := []) (rest := []) (k1 := 60) (n1 := 1020) X (cX10_readTransition_ok X.2.2.2.2.2.2.2.2.1 w) lkX10_48 hh (q9 := (RX10, TX10, 5)) rfl rfl dX10_readAll_27 ⟨Nat.le_of_ble_eq_true rfl, Nat.le_of_ble_eq_true rfl⟩ rfl (Nat.le_of_ble_eq_true rfl) ⟨Nat.le_of_ble_eq_true rfl, Nat.le_of_ble_eq_true rfl⟩ (Nat.le_of_ble_eq_true rfl) (Nat.le_of_ble_eq_true rfl) (fun x5 h4 w9 => ?_)
    replace w := w9
    clear w9
    obtain ⟨w1, w2⟩ := w
    refine V_if_ne (tgt := 38) X dX10_readAll_30 (by decide) (fun z => ?_) (fun z => ?_)
    · replace w := w1 z
      clear w1 w2
      refine V_iload_n X dX10_readAll_38 1 rfl ?_
      obtain ⟨w1, w2⟩ := w
      refine V_if_eq (tgt := 46) X dX10_readAll_39 (by decide) (fun z => ?_) (fun z => ?_)
      · replace w := w1 z
        clear w1 w2
        exact V.widen (k1 := 65) (n1 := 1105) (Nat.le_of_ble_eq_true rfl) (Nat.le_of_ble_eq_true rfl) <| V.sub [0, 1, 2, 3] rfl (tX10_readAll_b46_12 X  w)
      · replace w := w2 z
        clear w1 w2
        refine V_aloadr_n X dX10_readAll_42 0 rfl ?_
        obtain ⟨fs, hh, w⟩ := w
        refine V_callVv (As := []) (rest := []) (k1 := 65) (n1 := 1105) X (cX10_addDraft_ok X.2.2.2.2.2.2.2.2.1 w) lkX10_52 hh (q9 := (RX10, TX10, 5)) rfl rfl dX10_readAll_43 ⟨Nat.le_of_ble_eq_true rfl, Nat.le_of_ble_eq_true rfl⟩ rfl (Nat.le_of_ble_eq_true rfl) ⟨Nat.le_of_ble_eq_true rfl, Nat.le_of_ble_eq_true rfl⟩ (Nat.le_of_ble_eq_true rfl) (Nat.le_of_ble_eq_true rfl) (fun h6 w9 => ?_)
        replace w := w9
        clear w9
        exact V.sub [0, 1, 2, 3] rfl (tX10_readAll_b46_12 X  w)
    · replace w := w2 z
      clear w1 w2
      refine V_aloadr_n X dX10_readAll_33 0 rfl ?_
      obtain ⟨fs, x7, hh, hv, w⟩ := w
      refine V_get X flX10_34 dX10_readAll_34 hh hv ?_
      exact V_iret X rfl dX10_readAll_37 (Nat.le_of_ble_eq_true rfl) (Nat.le_of_ble_eq_true rfl) w
def vX10_readAll_b46_11 (t0 : Nat)  (Qn : Int32 → gH → Prop) (h : gH) (v0 : Nat) (v1 : Int32) (v2 : Int32) (v3 : Int32) : Prop := io h v0 13 (vX10_nextByte t0 (fun x2 h1 => ((¬ (x2 : Int32) = (-1)) → ((((x2 : Int32) = 59) → (gi h1 v0 13 3 (fun x3 => pv h1 v0 13 3 (.int (x3 + 1)) (fun h4 => vX10_readAll_b21_12 t0  Qn h4 v0 v1 v2 (v3 + 1))))) ∧ ((¬ (x2 : Int32) = 59) → (gi h1 v0 13 3 (fun x5 => Qn x5 h1))))) ∧ (((x2 : Int32) = (-1)) → (Qn (-1) h1))) h v0 )
set_option maxRecDepth 100000 in
set_option maxHeartbeats 4000000 in
theorem tX10_readAll_b46_11 {p : Program} {l : Launch} {e : Env} {s : State} {m : MethodId} {args : Array Value} {below : List Frame} {meth : Method} {c : Code} {G : gG} {A : Nat → Prop} {Qn : Int32 → gH → Prop} (X : gC p l s m args meth c G A cX10_readAll 5 (some FieldType.int) RX10)   {h : gH} {v0 : Nat} {v1 : Int32} {v2 : Int32} {v3 : Int32} (w : vX10_readAll_b46_11 G.2.2.1  Qn h v0 v1 v2 v3) : V p l e rmX10_readAll s m args below meth c (MQ below (va_Qi Qn (gB G A) A) args s rmX10_readAll.cells rmX10_readAll.slots A) G A 5 h 60 1020 46 [(0, .ref v0), (1, .int v1), (2, .int v2), (3, .int v3)] [] := by
  refine V_aloadr_n X dX10_readAll_46 0 rfl ?_
  obtain ⟨fs, hh, w⟩ := w
  refine V_callVi (As := []) (rest := []) (k1 := 60) (n1 := 1020) X (cX10_nextByte_ok X.2.2.2.2.2.2.2.2.1 w) lkX10_55 hh (q9 := (RX10, TX10, 5)) rfl rfl dX10_readAll_47 ⟨Nat.le_of_ble_eq_true rfl, Nat.le_of_ble_eq_true rfl⟩ rfl (Nat.le_of_ble_eq_true rfl) ⟨Nat.le_of_ble_eq_true rfl, Nat.le_of_ble_eq_true rfl⟩ (Nat.le_of_ble_eq_true rfl) (Nat.le_of_ble_eq_true rfl) (fun x2 h1 w9 => ?_)
  replace w := w9
  clear w9
  refine V_istore X dX10_readAll_50 (by decide) rfl ?_
  refine V_iload X dX10_readAll_52 0 rfl ?_
  refine V_iconst (y := (-1)) X dX10_readAll_54 (by decide) ?_
  obtain ⟨w1, w2⟩ := w
  refine V_icmp_ne (tgt := 60) X dX10_readAll_55 (by decide) (fun z => ?_) (fun z => ?_)
  · replace w := w1 z
    clear w1 w2
    refine V_iload X dX10_readAll_60 0 rfl ?_
    refine V_bipush (y := 59) X dX10_readAll_62 (by decide) ?_
    obtain ⟨w1, w2⟩ := w
    refine V_icmp_eq (tgt := 72) X dX10_readAll_64 (by decide) (fun z => ?_) (fun z => ?_)
    · replace w := w1 z
      clear w1 w2
      refine V_aloadr_n X dX10_readAll_72 1 rfl ?_
      refine V_dup X dX10_readAll_73 rfl ?_
      obtain ⟨fs, x3, hh, hv, w⟩ := w
      refine V_get X flX10_34 dX10_readAll_74 hh hv ?_
      refine V_iconst (y := 1) X dX10_readAll_77 (by decide) ?_
      refine V_iadd X dX10_readAll_78 ?_
      obtain ⟨fs, hh, hv, w⟩ := w
      refine V_put X flX10_34 dX10_readAll_79 hh hv rfl rfl ?_
      generalize va_up _ _ _ = h4 at w ⊢
      refine V_iinc (y := (v3 + 1)) X dX10_readAll_82 4 rfl (by first | rfl | (congr 1)) (by decide) rfl ?_
      refine V_goto (tgt := 21) X dX10_readAll_85 (by decide) ?_
      exact V.sub [2, 3, 4, 0] rfl (tX10_readAll_b21_12 X  w)
    · replace w := w2 z
      clear w1 w2
      refine V_aloadr_n X dX10_readAll_67 1 rfl ?_
      obtain ⟨fs, x5, hh, hv, w⟩ := w
      refine V_get X flX10_34 dX10_readAll_68 hh hv ?_
      exact V_iret X rfl dX10_readAll_71 (Nat.le_of_ble_eq_true rfl) (Nat.le_of_ble_eq_true rfl) w
  · replace w := w2 z
    clear w1 w2
    refine V_iconst (y := (-1)) X dX10_readAll_58 (by decide) ?_
    exact V_iret X rfl dX10_readAll_59 (Nat.le_of_ble_eq_true rfl) (Nat.le_of_ble_eq_true rfl) w
def vX10_readAll_b21_11 (t0 : Nat)  (Qn : Int32 → gH → Prop) (h : gH) (v0 : Nat) (v1 : Int32) (v2 : Int32) (v3 : Int32) : Prop := ((v2 ≤ (v3 : Int32)) → (io h v0 13 (vX10_nextByte t0 (fun x2 h1 => gi h1 v0 13 3 (fun x3 => Qn x3 h1)) h v0 ))) ∧ ((¬ v2 ≤ (v3 : Int32)) → (io h v0 13 (vX10_readTransition t0 (fun x5 h4 => ((¬ (x5 : Int32) = 0) → ((((v1 : Int32) = 0) → (vX10_readAll_b46_11 t0  Qn h4 v0 v1 v2 v3)) ∧ ((¬ (v1 : Int32) = 0) → (io h4 v0 13 (vX10_addDraft t0 (fun h6 => vX10_readAll_b46_11 t0  Qn h6 v0 v1 v2 v3) h4 v0 ))))) ∧ (((x5 : Int32) = 0) → (gi h4 v0 13 3 (fun x7 => Qn x7 h4)))) h v0 )))
set_option maxRecDepth 100000 in
set_option maxHeartbeats 4000000 in
theorem tX10_readAll_b21_11 {p : Program} {l : Launch} {e : Env} {s : State} {m : MethodId} {args : Array Value} {below : List Frame} {meth : Method} {c : Code} {G : gG} {A : Nat → Prop} {Qn : Int32 → gH → Prop} (X : gC p l s m args meth c G A cX10_readAll 5 (some FieldType.int) RX10)   {h : gH} {v0 : Nat} {v1 : Int32} {v2 : Int32} {v3 : Int32} (w : vX10_readAll_b21_11 G.2.2.1  Qn h v0 v1 v2 v3) : V p l e rmX10_readAll s m args below meth c (MQ below (va_Qi Qn (gB G A) A) args s rmX10_readAll.cells rmX10_readAll.slots A) G A 5 h 55 935 21 [(0, .ref v0), (1, .int v1), (2, .int v2), (3, .int v3)] [] := by
  refine V_iload_n X dX10_readAll_21 3 rfl ?_
  refine V_iload_n X dX10_readAll_22 2 rfl ?_
  obtain ⟨w1, w2⟩ := w
  refine V_icmp_ge (tgt := 88) X dX10_readAll_23 (by decide) (fun z => ?_) (fun z => ?_)
  · replace w := w1 z
    clear w1 w2
    refine V_aloadr_n X dX10_readAll_88 0 rfl ?_
    obtain ⟨fs, hh, w⟩ := w
    refine V_callVi (As := []) (rest := []) (k1 := 55) (n1 := 935) X (cX10_nextByte_ok X.2.2.2.2.2.2.2.2.1 w) lkX10_55 hh (q9 := (RX10, TX10, 5)) rfl rfl dX10_readAll_89 ⟨Nat.le_of_ble_eq_true rfl, Nat.le_of_ble_eq_true rfl⟩ rfl (Nat.le_of_ble_eq_true rfl) ⟨Nat.le_of_ble_eq_true rfl, Nat.le_of_ble_eq_true rfl⟩ (Nat.le_of_ble_eq_true rfl) (Nat.le_of_ble_eq_true rfl) (fun x2 h1 w9 => ?_)
    replace w := w9
    clear w9
    refine V_pop X dX10_readAll_92 rfl ?_
    refine V_aloadr_n X dX10_readAll_93 0 rfl ?_
    obtain ⟨fs, x3, hh, hv, w⟩ := w
    refine V_get X flX10_34 dX10_readAll_94 hh hv ?_
    exact V_iret X rfl dX10_readAll_97 (Nat.le_of_ble_eq_true rfl) (Nat.le_of_ble_eq_true rfl) w
  · replace w := w2 z
    clear w1 w2
    refine V_aloadr_n X dX10_readAll_26 0 rfl ?_
    obtain ⟨fs, hh, w⟩ := w
    refine V_callVi (As := []) (rest := []) (k1 := 55) (n1 := 935) X (cX10_readTransition_ok X.2.2.2.2.2.2.2.2.1 w) lkX10_48 hh (q9 := (RX10, TX10, 5)) rfl rfl dX10_readAll_27 ⟨Nat.le_of_ble_eq_true rfl, Nat.le_of_ble_eq_true rfl⟩ rfl (Nat.le_of_ble_eq_true rfl) ⟨Nat.le_of_ble_eq_true rfl, Nat.le_of_ble_eq_true rfl⟩ (Nat.le_of_ble_eq_true rfl) (Nat.le_of_ble_eq_true rfl) (fun x5 h4 w9 => ?_)
    replace w := w9
    clear w9
    obtain ⟨w1, w2⟩ := w
    refine V_if_ne (tgt := 38) X dX10_readAll_30 (by decide) (fun z => ?_) (fun z => ?_)
    · replace w := w1 z
      clear w1 w2
      refine V_iload_n X dX10_readAll_38 1 rfl ?_
      obtain ⟨w1, w2⟩ := w
      refine V_if_eq (tgt := 46) X dX10_readAll_39 (by decide) (fun z => ?_) (fun z => ?_)
      · replace w := w1 z
        clear w1 w2
        exact V.widen (k1 := 60) (n1 := 1020) (Nat.le_of_ble_eq_true rfl) (Nat.le_of_ble_eq_true rfl) <| V.sub [0, 1, 2, 3] rfl (tX10_readAll_b46_11 X  w)
      · replace w := w2 z
        clear w1 w2
        refine V_aloadr_n X dX10_readAll_42 0 rfl ?_
        obtain ⟨fs, hh, w⟩ := w
        refine V_callVv (As := []) (rest := []) (k1 := 60) (n1 := 1020) X (cX10_addDraft_ok X.2.2.2.2.2.2.2.2.1 w) lkX10_52 hh (q9 := (RX10, TX10, 5)) rfl rfl dX10_readAll_43 ⟨Nat.le_of_ble_eq_true rfl, Nat.le_of_ble_eq_true rfl⟩ rfl (Nat.le_of_ble_eq_true rfl) ⟨Nat.le_of_ble_eq_true rfl, Nat.le_of_ble_eq_true rfl⟩ (Nat.le_of_ble_eq_true rfl) (Nat.le_of_ble_eq_true rfl) (fun h6 w9 => ?_)
        replace w := w9
        clear w9
        exact V.sub [0, 1, 2, 3] rfl (tX10_readAll_b46_11 X  w)
    · replace w := w2 z
      clear w1 w2
      refine V_aloadr_n X dX10_readAll_33 0 rfl ?_
      obtain ⟨fs, x7, hh, hv, w⟩ := w
      refine V_get X flX10_34 dX10_readAll_34 hh hv ?_
      exact V_iret X rfl dX10_readAll_37 (Nat.le_of_ble_eq_true rfl) (Nat.le_of_ble_eq_true rfl) w
def vX10_readAll_b46_10 (t0 : Nat)  (Qn : Int32 → gH → Prop) (h : gH) (v0 : Nat) (v1 : Int32) (v2 : Int32) (v3 : Int32) : Prop := io h v0 13 (vX10_nextByte t0 (fun x2 h1 => ((¬ (x2 : Int32) = (-1)) → ((((x2 : Int32) = 59) → (gi h1 v0 13 3 (fun x3 => pv h1 v0 13 3 (.int (x3 + 1)) (fun h4 => vX10_readAll_b21_11 t0  Qn h4 v0 v1 v2 (v3 + 1))))) ∧ ((¬ (x2 : Int32) = 59) → (gi h1 v0 13 3 (fun x5 => Qn x5 h1))))) ∧ (((x2 : Int32) = (-1)) → (Qn (-1) h1))) h v0 )
set_option maxRecDepth 100000 in
set_option maxHeartbeats 4000000 in
theorem tX10_readAll_b46_10 {p : Program} {l : Launch} {e : Env} {s : State} {m : MethodId} {args : Array Value} {below : List Frame} {meth : Method} {c : Code} {G : gG} {A : Nat → Prop} {Qn : Int32 → gH → Prop} (X : gC p l s m args meth c G A cX10_readAll 5 (some FieldType.int) RX10)   {h : gH} {v0 : Nat} {v1 : Int32} {v2 : Int32} {v3 : Int32} (w : vX10_readAll_b46_10 G.2.2.1  Qn h v0 v1 v2 v3) : V p l e rmX10_readAll s m args below meth c (MQ below (va_Qi Qn (gB G A) A) args s rmX10_readAll.cells rmX10_readAll.slots A) G A 5 h 55 935 46 [(0, .ref v0), (1, .int v1), (2, .int v2), (3, .int v3)] [] := by
  refine V_aloadr_n X dX10_readAll_46 0 rfl ?_
  obtain ⟨fs, hh, w⟩ := w
  refine V_callVi (As := []) (rest := []) (k1 := 55) (n1 := 935) X (cX10_nextByte_ok X.2.2.2.2.2.2.2.2.1 w) lkX10_55 hh (q9 := (RX10, TX10, 5)) rfl rfl dX10_readAll_47 ⟨Nat.le_of_ble_eq_true rfl, Nat.le_of_ble_eq_true rfl⟩ rfl (Nat.le_of_ble_eq_true rfl) ⟨Nat.le_of_ble_eq_true rfl, Nat.le_of_ble_eq_true rfl⟩ (Nat.le_of_ble_eq_true rfl) (Nat.le_of_ble_eq_true rfl) (fun x2 h1 w9 => ?_)
  replace w := w9
  clear w9
  refine V_istore X dX10_readAll_50 (by decide) rfl ?_
  refine V_iload X dX10_readAll_52 0 rfl ?_
  refine V_iconst (y := (-1)) X dX10_readAll_54 (by decide) ?_
  obtain ⟨w1, w2⟩ := w
  refine V_icmp_ne (tgt := 60) X dX10_readAll_55 (by decide) (fun z => ?_) (fun z => ?_)
  · replace w := w1 z
    clear w1 w2
    refine V_iload X dX10_readAll_60 0 rfl ?_
    refine V_bipush (y := 59) X dX10_readAll_62 (by decide) ?_
    obtain ⟨w1, w2⟩ := w
    refine V_icmp_eq (tgt := 72) X dX10_readAll_64 (by decide) (fun z => ?_) (fun z => ?_)
    · replace w := w1 z
      clear w1 w2
      refine V_aloadr_n X dX10_readAll_72 1 rfl ?_
      refine V_dup X dX10_readAll_73 rfl ?_
      obtain ⟨fs, x3, hh, hv, w⟩ := w
      refine V_get X flX10_34 dX10_readAll_74 hh hv ?_
      refine V_iconst (y := 1) X dX10_readAll_77 (by decide) ?_
      refine V_iadd X dX10_readAll_78 ?_
      obtain ⟨fs, hh, hv, w⟩ := w
      refine V_put X flX10_34 dX10_readAll_79 hh hv rfl rfl ?_
      generalize va_up _ _ _ = h4 at w ⊢
      refine V_iinc (y := (v3 + 1)) X dX10_readAll_82 4 rfl (by first | rfl | (congr 1)) (by decide) rfl ?_
      refine V_goto (tgt := 21) X dX10_readAll_85 (by decide) ?_
      exact V.sub [2, 3, 4, 0] rfl (tX10_readAll_b21_11 X  w)
    · replace w := w2 z
      clear w1 w2
      refine V_aloadr_n X dX10_readAll_67 1 rfl ?_
      obtain ⟨fs, x5, hh, hv, w⟩ := w
      refine V_get X flX10_34 dX10_readAll_68 hh hv ?_
      exact V_iret X rfl dX10_readAll_71 (Nat.le_of_ble_eq_true rfl) (Nat.le_of_ble_eq_true rfl) w
  · replace w := w2 z
    clear w1 w2
    refine V_iconst (y := (-1)) X dX10_readAll_58 (by decide) ?_
    exact V_iret X rfl dX10_readAll_59 (Nat.le_of_ble_eq_true rfl) (Nat.le_of_ble_eq_true rfl) w
def vX10_readAll_b21_10 (t0 : Nat)  (Qn : Int32 → gH → Prop) (h : gH) (v0 : Nat) (v1 : Int32) (v2 : Int32) (v3 : Int32) : Prop := ((v2 ≤ (v3 : Int32)) → (io h v0 13 (vX10_nextByte t0 (fun x2 h1 => gi h1 v0 13 3 (fun x3 => Qn x3 h1)) h v0 ))) ∧ ((¬ v2 ≤ (v3 : Int32)) → (io h v0 13 (vX10_readTransition t0 (fun x5 h4 => ((¬ (x5 : Int32) = 0) → ((((v1 : Int32) = 0) → (vX10_readAll_b46_10 t0  Qn h4 v0 v1 v2 v3)) ∧ ((¬ (v1 : Int32) = 0) → (io h4 v0 13 (vX10_addDraft t0 (fun h6 => vX10_readAll_b46_10 t0  Qn h6 v0 v1 v2 v3) h4 v0 ))))) ∧ (((x5 : Int32) = 0) → (gi h4 v0 13 3 (fun x7 => Qn x7 h4)))) h v0 )))
set_option maxRecDepth 100000 in
set_option maxHeartbeats 4000000 in
theorem tX10_readAll_b21_10 {p : Program} {l : Launch} {e : Env} {s : State} {m : MethodId} {args : Array Value} {below : List Frame} {meth : Method} {c : Code} {G : gG} {A : Nat → Prop} {Qn : Int32 → gH → Prop} (X : gC p l s m args meth c G A cX10_readAll 5 (some FieldType.int) RX10)   {h : gH} {v0 : Nat} {v1 : Int32} {v2 : Int32} {v3 : Int32} (w : vX10_readAll_b21_10 G.2.2.1  Qn h v0 v1 v2 v3) : V p l e rmX10_readAll s m args below meth c (MQ below (va_Qi Qn (gB G A) A) args s rmX10_readAll.cells rmX10_readAll.slots A) G A 5 h 50 850 21 [(0, .ref v0), (1, .int v1), (2, .int v2), (3, .int v3)] [] := by
  refine V_iload_n X dX10_readAll_21 3 rfl ?_
  refine V_iload_n X dX10_readAll_22 2 rfl ?_
  obtain ⟨w1, w2⟩ := w
  refine V_icmp_ge (tgt := 88) X dX10_readAll_23 (by decide) (fun z => ?_) (fun z => ?_)
  · replace w := w1 z
    clear w1 w2
    refine V_aloadr_n X dX10_readAll_88 0 rfl ?_
    obtain ⟨fs, hh, w⟩ := w
    refine V_callVi (As := []) (rest := []) (k1 := 50) (n1 := 850) X (cX10_nextByte_ok X.2.2.2.2.2.2.2.2.1 w) lkX10_55 hh (q9 := (RX10, TX10, 5)) rfl rfl dX10_readAll_89 ⟨Nat.le_of_ble_eq_true rfl, Nat.le_of_ble_eq_true rfl⟩ rfl (Nat.le_of_ble_eq_true rfl) ⟨Nat.le_of_ble_eq_true rfl, Nat.le_of_ble_eq_true rfl⟩ (Nat.le_of_ble_eq_true rfl) (Nat.le_of_ble_eq_true rfl) (fun x2 h1 w9 => ?_)
    replace w := w9
    clear w9
    refine V_pop X dX10_readAll_92 rfl ?_
    refine V_aloadr_n X dX10_readAll_93 0 rfl ?_
    obtain ⟨fs, x3, hh, hv, w⟩ := w
    refine V_get X flX10_34 dX10_readAll_94 hh hv ?_
    exact V_iret X rfl dX10_readAll_97 (Nat.le_of_ble_eq_true rfl) (Nat.le_of_ble_eq_true rfl) w
  · replace w := w2 z
    clear w1 w2
    refine V_aloadr_n X dX10_readAll_26 0 rfl ?_
    obtain ⟨fs, hh, w⟩ := w
    refine V_callVi (As := []) (rest := []) (k1 := 50) (n1 := 850) X (cX10_readTransition_ok X.2.2.2.2.2.2.2.2.1 w) lkX10_48 hh (q9 := (RX10, TX10, 5)) rfl rfl dX10_readAll_27 ⟨Nat.le_of_ble_eq_true rfl, Nat.le_of_ble_eq_true rfl⟩ rfl (Nat.le_of_ble_eq_true rfl) ⟨Nat.le_of_ble_eq_true rfl, Nat.le_of_ble_eq_true rfl⟩ (Nat.le_of_ble_eq_true rfl) (Nat.le_of_ble_eq_true rfl) (fun x5 h4 w9 => ?_)
    replace w := w9
    clear w9
    obtain ⟨w1, w2⟩ := w
    refine V_if_ne (tgt := 38) X dX10_readAll_30 (by decide) (fun z => ?_) (fun z => ?_)
    · replace w := w1 z
      clear w1 w2
      refine V_iload_n X dX10_readAll_38 1 rfl ?_
      obtain ⟨w1, w2⟩ := w
      refine V_if_eq (tgt := 46) X dX10_readAll_39 (by decide) (fun z => ?_) (fun z => ?_)
      · replace w := w1 z
        clear w1 w2
        exact V.widen (k1 := 55) (n1 := 935) (Nat.le_of_ble_eq_true rfl) (Nat.le_of_ble_eq_true rfl) <| V.sub [0, 1, 2, 3] rfl (tX10_readAll_b46_10 X  w)
      · replace w := w2 z
        clear w1 w2
        refine V_aloadr_n X dX10_readAll_42 0 rfl ?_
        obtain ⟨fs, hh, w⟩ := w
        refine V_callVv (As := []) (rest := []) (k1 := 55) (n1 := 935) X (cX10_addDraft_ok X.2.2.2.2.2.2.2.2.1 w) lkX10_52 hh (q9 := (RX10, TX10, 5)) rfl rfl dX10_readAll_43 ⟨Nat.le_of_ble_eq_true rfl, Nat.le_of_ble_eq_true rfl⟩ rfl (Nat.le_of_ble_eq_true rfl) ⟨Nat.le_of_ble_eq_true rfl, Nat.le_of_ble_eq_true rfl⟩ (Nat.le_of_ble_eq_true rfl) (Nat.le_of_ble_eq_true rfl) (fun h6 w9 => ?_)
        replace w := w9
        clear w9
        exact V.sub [0, 1, 2, 3] rfl (tX10_readAll_b46_10 X  w)
    · replace w := w2 z
      clear w1 w2
      refine V_aloadr_n X dX10_readAll_33 0 rfl ?_
      obtain ⟨fs, x7, hh, hv, w⟩ := w
      refine V_get X flX10_34 dX10_readAll_34 hh hv ?_
      exact V_iret X rfl dX10_readAll_37 (Nat.le_of_ble_eq_true rfl) (Nat.le_of_ble_eq_true rfl) w
def vX10_readAll_b46_9 (t0 : Nat)  (Qn : Int32 → gH → Prop) (h : gH) (v0 : Nat) (v1 : Int32) (v2 : Int32) (v3 : Int32) : Prop := io h v0 13 (vX10_nextByte t0 (fun x2 h1 => ((¬ (x2 : Int32) = (-1)) → ((((x2 : Int32) = 59) → (gi h1 v0 13 3 (fun x3 => pv h1 v0 13 3 (.int (x3 + 1)) (fun h4 => vX10_readAll_b21_10 t0  Qn h4 v0 v1 v2 (v3 + 1))))) ∧ ((¬ (x2 : Int32) = 59) → (gi h1 v0 13 3 (fun x5 => Qn x5 h1))))) ∧ (((x2 : Int32) = (-1)) → (Qn (-1) h1))) h v0 )
set_option maxRecDepth 100000 in
set_option maxHeartbeats 4000000 in
theorem tX10_readAll_b46_9 {p : Program} {l : Launch} {e : Env} {s : State} {m : MethodId} {args : Array Value} {below : List Frame} {meth : Method} {c : Code} {G : gG} {A : Nat → Prop} {Qn : Int32 → gH → Prop} (X : gC p l s m args meth c G A cX10_readAll 5 (some FieldType.int) RX10)   {h : gH} {v0 : Nat} {v1 : Int32} {v2 : Int32} {v3 : Int32} (w : vX10_readAll_b46_9 G.2.2.1  Qn h v0 v1 v2 v3) : V p l e rmX10_readAll s m args below meth c (MQ below (va_Qi Qn (gB G A) A) args s rmX10_readAll.cells rmX10_readAll.slots A) G A 5 h 50 850 46 [(0, .ref v0), (1, .int v1), (2, .int v2), (3, .int v3)] [] := by
  refine V_aloadr_n X dX10_readAll_46 0 rfl ?_
  obtain ⟨fs, hh, w⟩ := w
  refine V_callVi (As := []) (rest := []) (k1 := 50) (n1 := 850) X (cX10_nextByte_ok X.2.2.2.2.2.2.2.2.1 w) lkX10_55 hh (q9 := (RX10, TX10, 5)) rfl rfl dX10_readAll_47 ⟨Nat.le_of_ble_eq_true rfl, Nat.le_of_ble_eq_true rfl⟩ rfl (Nat.le_of_ble_eq_true rfl) ⟨Nat.le_of_ble_eq_true rfl, Nat.le_of_ble_eq_true rfl⟩ (Nat.le_of_ble_eq_true rfl) (Nat.le_of_ble_eq_true rfl) (fun x2 h1 w9 => ?_)
  replace w := w9
  clear w9
  refine V_istore X dX10_readAll_50 (by decide) rfl ?_
  refine V_iload X dX10_readAll_52 0 rfl ?_
  refine V_iconst (y := (-1)) X dX10_readAll_54 (by decide) ?_
  obtain ⟨w1, w2⟩ := w
  refine V_icmp_ne (tgt := 60) X dX10_readAll_55 (by decide) (fun z => ?_) (fun z => ?_)
  · replace w := w1 z
    clear w1 w2
    refine V_iload X dX10_readAll_60 0 rfl ?_
    refine V_bipush (y := 59) X dX10_readAll_62 (by decide) ?_
    obtain ⟨w1, w2⟩ := w
    refine V_icmp_eq (tgt := 72) X dX10_readAll_64 (by decide) (fun z => ?_) (fun z => ?_)
    · replace w := w1 z
      clear w1 w2
      refine V_aloadr_n X dX10_readAll_72 1 rfl ?_
      refine V_dup X dX10_readAll_73 rfl ?_
      obtain ⟨fs, x3, hh, hv, w⟩ := w
      refine V_get X flX10_34 dX10_readAll_74 hh hv ?_
      refine V_iconst (y := 1) X dX10_readAll_77 (by decide) ?_
      refine V_iadd X dX10_readAll_78 ?_
      obtain ⟨fs, hh, hv, w⟩ := w
      refine V_put X flX10_34 dX10_readAll_79 hh hv rfl rfl ?_
      generalize va_up _ _ _ = h4 at w ⊢
      refine V_iinc (y := (v3 + 1)) X dX10_readAll_82 4 rfl (by first | rfl | (congr 1)) (by decide) rfl ?_
      refine V_goto (tgt := 21) X dX10_readAll_85 (by decide) ?_
      exact V.sub [2, 3, 4, 0] rfl (tX10_readAll_b21_10 X  w)
    · replace w := w2 z
      clear w1 w2
      refine V_aloadr_n X dX10_readAll_67 1 rfl ?_
      obtain ⟨fs, x5, hh, hv, w⟩ := w
      refine V_get X flX10_34 dX10_readAll_68 hh hv ?_
      exact V_iret X rfl dX10_readAll_71 (Nat.le_of_ble_eq_true rfl) (Nat.le_of_ble_eq_true rfl) w
  · replace w := w2 z
    clear w1 w2
    refine V_iconst (y := (-1)) X dX10_readAll_58 (by decide) ?_
    exact V_iret X rfl dX10_readAll_59 (Nat.le_of_ble_eq_true rfl) (Nat.le_of_ble_eq_true rfl) w
def vX10_readAll_b21_9 (t0 : Nat)  (Qn : Int32 → gH → Prop) (h : gH) (v0 : Nat) (v1 : Int32) (v2 : Int32) (v3 : Int32) : Prop := ((v2 ≤ (v3 : Int32)) → (io h v0 13 (vX10_nextByte t0 (fun x2 h1 => gi h1 v0 13 3 (fun x3 => Qn x3 h1)) h v0 ))) ∧ ((¬ v2 ≤ (v3 : Int32)) → (io h v0 13 (vX10_readTransition t0 (fun x5 h4 => ((¬ (x5 : Int32) = 0) → ((((v1 : Int32) = 0) → (vX10_readAll_b46_9 t0  Qn h4 v0 v1 v2 v3)) ∧ ((¬ (v1 : Int32) = 0) → (io h4 v0 13 (vX10_addDraft t0 (fun h6 => vX10_readAll_b46_9 t0  Qn h6 v0 v1 v2 v3) h4 v0 ))))) ∧ (((x5 : Int32) = 0) → (gi h4 v0 13 3 (fun x7 => Qn x7 h4)))) h v0 )))
set_option maxRecDepth 100000 in
set_option maxHeartbeats 4000000 in
theorem tX10_readAll_b21_9 {p : Program} {l : Launch} {e : Env} {s : State} {m : MethodId} {args : Array Value} {below : List Frame} {meth : Method} {c : Code} {G : gG} {A : Nat → Prop} {Qn : Int32 → gH → Prop} (X : gC p l s m args meth c G A cX10_readAll 5 (some FieldType.int) RX10)   {h : gH} {v0 : Nat} {v1 : Int32} {v2 : Int32} {v3 : Int32} (w : vX10_readAll_b21_9 G.2.2.1  Qn h v0 v1 v2 v3) : V p l e rmX10_readAll s m args below meth c (MQ below (va_Qi Qn (gB G A) A) args s rmX10_readAll.cells rmX10_readAll.slots A) G A 5 h 45 765 21 [(0, .ref v0), (1, .int v1), (2, .int v2), (3, .int v3)] [] := by
  refine V_iload_n X dX10_readAll_21 3 rfl ?_
  refine V_iload_n X dX10_readAll_22 2 rfl ?_
  obtain ⟨w1, w2⟩ := w
  refine V_icmp_ge (tgt := 88) X dX10_readAll_23 (by decide) (fun z => ?_) (fun z => ?_)
  · replace w := w1 z
    clear w1 w2
    refine V_aloadr_n X dX10_readAll_88 0 rfl ?_
    obtain ⟨fs, hh, w⟩ := w
    refine V_callVi (As := []) (rest := []) (k1 := 45) (n1 := 765) X (cX10_nextByte_ok X.2.2.2.2.2.2.2.2.1 w) lkX10_55 hh (q9 := (RX10, TX10, 5)) rfl rfl dX10_readAll_89 ⟨Nat.le_of_ble_eq_true rfl, Nat.le_of_ble_eq_true rfl⟩ rfl (Nat.le_of_ble_eq_true rfl) ⟨Nat.le_of_ble_eq_true rfl, Nat.le_of_ble_eq_true rfl⟩ (Nat.le_of_ble_eq_true rfl) (Nat.le_of_ble_eq_true rfl) (fun x2 h1 w9 => ?_)
    replace w := w9
    clear w9
    refine V_pop X dX10_readAll_92 rfl ?_
    refine V_aloadr_n X dX10_readAll_93 0 rfl ?_
    obtain ⟨fs, x3, hh, hv, w⟩ := w
    refine V_get X flX10_34 dX10_readAll_94 hh hv ?_
    exact V_iret X rfl dX10_readAll_97 (Nat.le_of_ble_eq_true rfl) (Nat.le_of_ble_eq_true rfl) w
  · replace w := w2 z
    clear w1 w2
    refine V_aloadr_n X dX10_readAll_26 0 rfl ?_
    obtain ⟨fs, hh, w⟩ := w
    refine V_callVi (As := []) (rest := []) (k1 := 45) (n1 := 765) X (cX10_readTransition_ok X.2.2.2.2.2.2.2.2.1 w) lkX10_48 hh (q9 := (RX10, TX10, 5)) rfl rfl dX10_readAll_27 ⟨Nat.le_of_ble_eq_true rfl, Nat.le_of_ble_eq_true rfl⟩ rfl (Nat.le_of_ble_eq_true rfl) ⟨Nat.le_of_ble_eq_true rfl, Nat.le_of_ble_eq_true rfl⟩ (Nat.le_of_ble_eq_true rfl) (Nat.le_of_ble_eq_true rfl) (fun x5 h4 w9 => ?_)
    replace w := w9
    clear w9
    obtain ⟨w1, w2⟩ := w
    refine V_if_ne (tgt := 38) X dX10_readAll_30 (by decide) (fun z => ?_) (fun z => ?_)
    · replace w := w1 z
      clear w1 w2
      refine V_iload_n X dX10_readAll_38 1 rfl ?_
      obtain ⟨w1, w2⟩ := w
      refine V_if_eq (tgt := 46) X dX10_readAll_39 (by decide) (fun z => ?_) (fun z => ?_)
      · replace w := w1 z
        clear w1 w2
        exact V.widen (k1 := 50) (n1 := 850) (Nat.le_of_ble_eq_true rfl) (Nat.le_of_ble_eq_true rfl) <| V.sub [0, 1, 2, 3] rfl (tX10_readAll_b46_9 X  w)
      · replace w := w2 z
        clear w1 w2
        refine V_aloadr_n X dX10_readAll_42 0 rfl ?_
        obtain ⟨fs, hh, w⟩ := w
        refine V_callVv (As := []) (rest := []) (k1 := 50) (n1 := 850) X (cX10_addDraft_ok X.2.2.2.2.2.2.2.2.1 w) lkX10_52 hh (q9 := (RX10, TX10, 5)) rfl rfl dX10_readAll_43 ⟨Nat.le_of_ble_eq_true rfl, Nat.le_of_ble_eq_true rfl⟩ rfl (Nat.le_of_ble_eq_true rfl) ⟨Nat.le_of_ble_eq_true rfl, Nat.le_of_ble_eq_true rfl⟩ (Nat.le_of_ble_eq_true rfl) (Nat.le_of_ble_eq_true rfl) (fun h6 w9 => ?_)
        replace w := w9
        clear w9
        exact V.sub [0, 1, 2, 3] rfl (tX10_readAll_b46_9 X  w)
    · replace w := w2 z
      clear w1 w2
      refine V_aloadr_n X dX10_readAll_33 0 rfl ?_
      obtain ⟨fs, x7, hh, hv, w⟩ := w
      refine V_get X flX10_34 dX10_readAll_34 hh hv ?_
      exact V_iret X rfl dX10_readAll_37 (Nat.le_of_ble_eq_true rfl) (Nat.le_of_ble_eq_true rfl) w
def vX10_readAll_b46_8 (t0 : Nat)  (Qn : Int32 → gH → Prop) (h : gH) (v0 : Nat) (v1 : Int32) (v2 : Int32) (v3 : Int32) : Prop := io h v0 13 (vX10_nextByte t0 (fun x2 h1 => ((¬ (x2 : Int32) = (-1)) → ((((x2 : Int32) = 59) → (gi h1 v0 13 3 (fun x3 => pv h1 v0 13 3 (.int (x3 + 1)) (fun h4 => vX10_readAll_b21_9 t0  Qn h4 v0 v1 v2 (v3 + 1))))) ∧ ((¬ (x2 : Int32) = 59) → (gi h1 v0 13 3 (fun x5 => Qn x5 h1))))) ∧ (((x2 : Int32) = (-1)) → (Qn (-1) h1))) h v0 )
set_option maxRecDepth 100000 in
set_option maxHeartbeats 4000000 in
theorem tX10_readAll_b46_8 {p : Program} {l : Launch} {e : Env} {s : State} {m : MethodId} {args : Array Value} {below : List Frame} {meth : Method} {c : Code} {G : gG} {A : Nat → Prop} {Qn : Int32 → gH → Prop} (X : gC p l s m args meth c G A cX10_readAll 5 (some FieldType.int) RX10)   {h : gH} {v0 : Nat} {v1 : Int32} {v2 : Int32} {v3 : Int32} (w : vX10_readAll_b46_8 G.2.2.1  Qn h v0 v1 v2 v3) : V p l e rmX10_readAll s m args below meth c (MQ below (va_Qi Qn (gB G A) A) args s rmX10_readAll.cells rmX10_readAll.slots A) G A 5 h 45 765 46 [(0, .ref v0), (1, .int v1), (2, .int v2), (3, .int v3)] [] := by
  refine V_aloadr_n X dX10_readAll_46 0 rfl ?_
  obtain ⟨fs, hh, w⟩ := w
  refine V_callVi (As := []) (rest := []) (k1 := 45) (n1 := 765) X (cX10_nextByte_ok X.2.2.2.2.2.2.2.2.1 w) lkX10_55 hh (q9 := (RX10, TX10, 5)) rfl rfl dX10_readAll_47 ⟨Nat.le_of_ble_eq_true rfl, Nat.le_of_ble_eq_true rfl⟩ rfl (Nat.le_of_ble_eq_true rfl) ⟨Nat.le_of_ble_eq_true rfl, Nat.le_of_ble_eq_true rfl⟩ (Nat.le_of_ble_eq_true rfl) (Nat.le_of_ble_eq_true rfl) (fun x2 h1 w9 => ?_)
  replace w := w9
  clear w9
  refine V_istore X dX10_readAll_50 (by decide) rfl ?_
  refine V_iload X dX10_readAll_52 0 rfl ?_
  refine V_iconst (y := (-1)) X dX10_readAll_54 (by decide) ?_
  obtain ⟨w1, w2⟩ := w
  refine V_icmp_ne (tgt := 60) X dX10_readAll_55 (by decide) (fun z => ?_) (fun z => ?_)
  · replace w := w1 z
    clear w1 w2
    refine V_iload X dX10_readAll_60 0 rfl ?_
    refine V_bipush (y := 59) X dX10_readAll_62 (by decide) ?_
    obtain ⟨w1, w2⟩ := w
    refine V_icmp_eq (tgt := 72) X dX10_readAll_64 (by decide) (fun z => ?_) (fun z => ?_)
    · replace w := w1 z
      clear w1 w2
      refine V_aloadr_n X dX10_readAll_72 1 rfl ?_
      refine V_dup X dX10_readAll_73 rfl ?_
      obtain ⟨fs, x3, hh, hv, w⟩ := w
      refine V_get X flX10_34 dX10_readAll_74 hh hv ?_
      refine V_iconst (y := 1) X dX10_readAll_77 (by decide) ?_
      refine V_iadd X dX10_readAll_78 ?_
      obtain ⟨fs, hh, hv, w⟩ := w
      refine V_put X flX10_34 dX10_readAll_79 hh hv rfl rfl ?_
      generalize va_up _ _ _ = h4 at w ⊢
      refine V_iinc (y := (v3 + 1)) X dX10_readAll_82 4 rfl (by first | rfl | (congr 1)) (by decide) rfl ?_
      refine V_goto (tgt := 21) X dX10_readAll_85 (by decide) ?_
      exact V.sub [2, 3, 4, 0] rfl (tX10_readAll_b21_9 X  w)
    · replace w := w2 z
      clear w1 w2
      refine V_aloadr_n X dX10_readAll_67 1 rfl ?_
      obtain ⟨fs, x5, hh, hv, w⟩ := w
      refine V_get X flX10_34 dX10_readAll_68 hh hv ?_
      exact V_iret X rfl dX10_readAll_71 (Nat.le_of_ble_eq_true rfl) (Nat.le_of_ble_eq_true rfl) w
  · replace w := w2 z
    clear w1 w2
    refine V_iconst (y := (-1)) X dX10_readAll_58 (by decide) ?_
    exact V_iret X rfl dX10_readAll_59 (Nat.le_of_ble_eq_true rfl) (Nat.le_of_ble_eq_true rfl) w
def vX10_readAll_b21_8 (t0 : Nat)  (Qn : Int32 → gH → Prop) (h : gH) (v0 : Nat) (v1 : Int32) (v2 : Int32) (v3 : Int32) : Prop := ((v2 ≤ (v3 : Int32)) → (io h v0 13 (vX10_nextByte t0 (fun x2 h1 => gi h1 v0 13 3 (fun x3 => Qn x3 h1)) h v0 ))) ∧ ((¬ v2 ≤ (v3 : Int32)) → (io h v0 13 (vX10_readTransition t0 (fun x5 h4 => ((¬ (x5 : Int32) = 0) → ((((v1 : Int32) = 0) → (vX10_readAll_b46_8 t0  Qn h4 v0 v1 v2 v3)) ∧ ((¬ (v1 : Int32) = 0) → (io h4 v0 13 (vX10_addDraft t0 (fun h6 => vX10_readAll_b46_8 t0  Qn h6 v0 v1 v2 v3) h4 v0 ))))) ∧ (((x5 : Int32) = 0) → (gi h4 v0 13 3 (fun x7 => Qn x7 h4)))) h v0 )))
set_option maxRecDepth 100000 in
set_option maxHeartbeats 4000000 in
theorem tX10_readAll_b21_8 {p : Program} {l : Launch} {e : Env} {s : State} {m : MethodId} {args : Array Value} {below : List Frame} {meth : Method} {c : Code} {G : gG} {A : Nat → Prop} {Qn : Int32 → gH → Prop} (X : gC p l s m args meth c G A cX10_readAll 5 (some FieldType.int) RX10)   {h : gH} {v0 : Nat} {v1 : Int32} {v2 : Int32} {v3 : Int32} (w : vX10_readAll_b21_8 G.2.2.1  Qn h v0 v1 v2 v3) : V p l e rmX10_readAll s m args below meth c (MQ below (va_Qi Qn (gB G A) A) args s rmX10_readAll.cells rmX10_readAll.slots A) G A 5 h 40 680 21 [(0, .ref v0), (1, .int v1), (2, .int v2), (3, .int v3)] [] := by
  refine V_iload_n X dX10_readAll_21 3 rfl ?_
  refine V_iload_n X dX10_readAll_22 2 rfl ?_
  obtain ⟨w1, w2⟩ := w
  refine V_icmp_ge (tgt := 88) X dX10_readAll_23 (by decide) (fun z => ?_) (fun z => ?_)
  · replace w := w1 z
    clear w1 w2
    refine V_aloadr_n X dX10_readAll_88 0 rfl ?_
    obtain ⟨fs, hh, w⟩ := w
    refine V_callVi (As := []) (rest := []) (k1 := 40) (n1 := 680) X (cX10_nextByte_ok X.2.2.2.2.2.2.2.2.1 w) lkX10_55 hh (q9 := (RX10, TX10, 5)) rfl rfl dX10_readAll_89 ⟨Nat.le_of_ble_eq_true rfl, Nat.le_of_ble_eq_true rfl⟩ rfl (Nat.le_of_ble_eq_true rfl) ⟨Nat.le_of_ble_eq_true rfl, Nat.le_of_ble_eq_true rfl⟩ (Nat.le_of_ble_eq_true rfl) (Nat.le_of_ble_eq_true rfl) (fun x2 h1 w9 => ?_)
    replace w := w9
    clear w9
    refine V_pop X dX10_readAll_92 rfl ?_
    refine V_aloadr_n X dX10_readAll_93 0 rfl ?_
    obtain ⟨fs, x3, hh, hv, w⟩ := w
    refine V_get X flX10_34 dX10_readAll_94 hh hv ?_
    exact V_iret X rfl dX10_readAll_97 (Nat.le_of_ble_eq_true rfl) (Nat.le_of_ble_eq_true rfl) w
  · replace w := w2 z
    clear w1 w2
    refine V_aloadr_n X dX10_readAll_26 0 rfl ?_
    obtain ⟨fs, hh, w⟩ := w
    refine V_callVi (As := []) (rest := []) (k1 := 40) (n1 := 680) X (cX10_readTransition_ok X.2.2.2.2.2.2.2.2.1 w) lkX10_48 hh (q9 := (RX10, TX10, 5)) rfl rfl dX10_readAll_27 ⟨Nat.le_of_ble_eq_true rfl, Nat.le_of_ble_eq_true rfl⟩ rfl (Nat.le_of_ble_eq_true rfl) ⟨Nat.le_of_ble_eq_true rfl, Nat.le_of_ble_eq_true rfl⟩ (Nat.le_of_ble_eq_true rfl) (Nat.le_of_ble_eq_true rfl) (fun x5 h4 w9 => ?_)
    replace w := w9
    clear w9
    obtain ⟨w1, w2⟩ := w
    refine V_if_ne (tgt := 38) X dX10_readAll_30 (by decide) (fun z => ?_) (fun z => ?_)
    · replace w := w1 z
      clear w1 w2
      refine V_iload_n X dX10_readAll_38 1 rfl ?_
      obtain ⟨w1, w2⟩ := w
      refine V_if_eq (tgt := 46) X dX10_readAll_39 (by decide) (fun z => ?_) (fun z => ?_)
      · replace w := w1 z
        clear w1 w2
        exact V.widen (k1 := 45) (n1 := 765) (Nat.le_of_ble_eq_true rfl) (Nat.le_of_ble_eq_true rfl) <| V.sub [0, 1, 2, 3] rfl (tX10_readAll_b46_8 X  w)
      · replace w := w2 z
        clear w1 w2
        refine V_aloadr_n X dX10_readAll_42 0 rfl ?_
        obtain ⟨fs, hh, w⟩ := w
        refine V_callVv (As := []) (rest := []) (k1 := 45) (n1 := 765) X (cX10_addDraft_ok X.2.2.2.2.2.2.2.2.1 w) lkX10_52 hh (q9 := (RX10, TX10, 5)) rfl rfl dX10_readAll_43 ⟨Nat.le_of_ble_eq_true rfl, Nat.le_of_ble_eq_true rfl⟩ rfl (Nat.le_of_ble_eq_true rfl) ⟨Nat.le_of_ble_eq_true rfl, Nat.le_of_ble_eq_true rfl⟩ (Nat.le_of_ble_eq_true rfl) (Nat.le_of_ble_eq_true rfl) (fun h6 w9 => ?_)
        replace w := w9
        clear w9
        exact V.sub [0, 1, 2, 3] rfl (tX10_readAll_b46_8 X  w)
    · replace w := w2 z
      clear w1 w2
      refine V_aloadr_n X dX10_readAll_33 0 rfl ?_
      obtain ⟨fs, x7, hh, hv, w⟩ := w
      refine V_get X flX10_34 dX10_readAll_34 hh hv ?_
      exact V_iret X rfl dX10_readAll_37 (Nat.le_of_ble_eq_true rfl) (Nat.le_of_ble_eq_true rfl) w
def vX10_readAll_b46_7 (t0 : Nat)  (Qn : Int32 → gH → Prop) (h : gH) (v0 : Nat) (v1 : Int32) (v2 : Int32) (v3 : Int32) : Prop := io h v0 13 (vX10_nextByte t0 (fun x2 h1 => ((¬ (x2 : Int32) = (-1)) → ((((x2 : Int32) = 59) → (gi h1 v0 13 3 (fun x3 => pv h1 v0 13 3 (.int (x3 + 1)) (fun h4 => vX10_readAll_b21_8 t0  Qn h4 v0 v1 v2 (v3 + 1))))) ∧ ((¬ (x2 : Int32) = 59) → (gi h1 v0 13 3 (fun x5 => Qn x5 h1))))) ∧ (((x2 : Int32) = (-1)) → (Qn (-1) h1))) h v0 )
set_option maxRecDepth 100000 in
set_option maxHeartbeats 4000000 in
theorem tX10_readAll_b46_7 {p : Program} {l : Launch} {e : Env} {s : State} {m : MethodId} {args : Array Value} {below : List Frame} {meth : Method} {c : Code} {G : gG} {A : Nat → Prop} {Qn : Int32 → gH → Prop} (X : gC p l s m args meth c G A cX10_readAll 5 (some FieldType.int) RX10)   {h : gH} {v0 : Nat} {v1 : Int32} {v2 : Int32} {v3 : Int32} (w : vX10_readAll_b46_7 G.2.2.1  Qn h v0 v1 v2 v3) : V p l e rmX10_readAll s m args below meth c (MQ below (va_Qi Qn (gB G A) A) args s rmX10_readAll.cells rmX10_readAll.slots A) G A 5 h 40 680 46 [(0, .ref v0), (1, .int v1), (2, .int v2), (3, .int v3)] [] := by
  refine V_aloadr_n X dX10_readAll_46 0 rfl ?_
  obtain ⟨fs, hh, w⟩ := w
  refine V_callVi (As := []) (rest := []) (k1 := 40) (n1 := 680) X (cX10_nextByte_ok X.2.2.2.2.2.2.2.2.1 w) lkX10_55 hh (q9 := (RX10, TX10, 5)) rfl rfl dX10_readAll_47 ⟨Nat.le_of_ble_eq_true rfl, Nat.le_of_ble_eq_true rfl⟩ rfl (Nat.le_of_ble_eq_true rfl) ⟨Nat.le_of_ble_eq_true rfl, Nat.le_of_ble_eq_true rfl⟩ (Nat.le_of_ble_eq_true rfl) (Nat.le_of_ble_eq_true rfl) (fun x2 h1 w9 => ?_)
  replace w := w9
  clear w9
  refine V_istore X dX10_readAll_50 (by decide) rfl ?_
  refine V_iload X dX10_readAll_52 0 rfl ?_
  refine V_iconst (y := (-1)) X dX10_readAll_54 (by decide) ?_
  obtain ⟨w1, w2⟩ := w
  refine V_icmp_ne (tgt := 60) X dX10_readAll_55 (by decide) (fun z => ?_) (fun z => ?_)
  · replace w := w1 z
    clear w1 w2
    refine V_iload X dX10_readAll_60 0 rfl ?_
    refine V_bipush (y := 59) X dX10_readAll_62 (by decide) ?_
    obtain ⟨w1, w2⟩ := w
    refine V_icmp_eq (tgt := 72) X dX10_readAll_64 (by decide) (fun z => ?_) (fun z => ?_)
    · replace w := w1 z
      clear w1 w2
      refine V_aloadr_n X dX10_readAll_72 1 rfl ?_
      refine V_dup X dX10_readAll_73 rfl ?_
      obtain ⟨fs, x3, hh, hv, w⟩ := w
      refine V_get X flX10_34 dX10_readAll_74 hh hv ?_
      refine V_iconst (y := 1) X dX10_readAll_77 (by decide) ?_
      refine V_iadd X dX10_readAll_78 ?_
      obtain ⟨fs, hh, hv, w⟩ := w
      refine V_put X flX10_34 dX10_readAll_79 hh hv rfl rfl ?_
      generalize va_up _ _ _ = h4 at w ⊢
      refine V_iinc (y := (v3 + 1)) X dX10_readAll_82 4 rfl (by first | rfl | (congr 1)) (by decide) rfl ?_
      refine V_goto (tgt := 21) X dX10_readAll_85 (by decide) ?_
      exact V.sub [2, 3, 4, 0] rfl (tX10_readAll_b21_8 X  w)
    · replace w := w2 z
      clear w1 w2
      refine V_aloadr_n X dX10_readAll_67 1 rfl ?_
      obtain ⟨fs, x5, hh, hv, w⟩ := w
      refine V_get X flX10_34 dX10_readAll_68 hh hv ?_
      exact V_iret X rfl dX10_readAll_71 (Nat.le_of_ble_eq_true rfl) (Nat.le_of_ble_eq_true rfl) w
  · replace w := w2 z
    clear w1 w2
    refine V_iconst (y := (-1)) X dX10_readAll_58 (by decide) ?_
    exact V_iret X rfl dX10_readAll_59 (Nat.le_of_ble_eq_true rfl) (Nat.le_of_ble_eq_true rfl) w
def vX10_readAll_b21_7 (t0 : Nat)  (Qn : Int32 → gH → Prop) (h : gH) (v0 : Nat) (v1 : Int32) (v2 : Int32) (v3 : Int32) : Prop := ((v2 ≤ (v3 : Int32)) → (io h v0 13 (vX10_nextByte t0 (fun x2 h1 => gi h1 v0 13 3 (fun x3 => Qn x3 h1)) h v0 ))) ∧ ((¬ v2 ≤ (v3 : Int32)) → (io h v0 13 (vX10_readTransition t0 (fun x5 h4 => ((¬ (x5 : Int32) = 0) → ((((v1 : Int32) = 0) → (vX10_readAll_b46_7 t0  Qn h4 v0 v1 v2 v3)) ∧ ((¬ (v1 : Int32) = 0) → (io h4 v0 13 (vX10_addDraft t0 (fun h6 => vX10_readAll_b46_7 t0  Qn h6 v0 v1 v2 v3) h4 v0 ))))) ∧ (((x5 : Int32) = 0) → (gi h4 v0 13 3 (fun x7 => Qn x7 h4)))) h v0 )))
set_option maxRecDepth 100000 in
set_option maxHeartbeats 4000000 in
theorem tX10_readAll_b21_7 {p : Program} {l : Launch} {e : Env} {s : State} {m : MethodId} {args : Array Value} {below : List Frame} {meth : Method} {c : Code} {G : gG} {A : Nat → Prop} {Qn : Int32 → gH → Prop} (X : gC p l s m args meth c G A cX10_readAll 5 (some FieldType.int) RX10)   {h : gH} {v0 : Nat} {v1 : Int32} {v2 : Int32} {v3 : Int32} (w : vX10_readAll_b21_7 G.2.2.1  Qn h v0 v1 v2 v3) : V p l e rmX10_readAll s m args below meth c (MQ below (va_Qi Qn (gB G A) A) args s rmX10_readAll.cells rmX10_readAll.slots A) G A 5 h 35 595 21 [(0, .ref v0), (1, .int v1), (2, .int v2), (3, .int v3)] [] := by
  refine V_iload_n X dX10_readAll_21 3 rfl ?_
  refine V_iload_n X dX10_readAll_22 2 rfl ?_
  obtain ⟨w1, w2⟩ := w
  refine V_icmp_ge (tgt := 88) X dX10_readAll_23 (by decide) (fun z => ?_) (fun z => ?_)
  · replace w := w1 z
    clear w1 w2
    refine V_aloadr_n X dX10_readAll_88 0 rfl ?_
    obtain ⟨fs, hh, w⟩ := w
    refine V_callVi (As := []) (rest := []) (k1 := 35) (n1 := 595) X (cX10_nextByte_ok X.2.2.2.2.2.2.2.2.1 w) lkX10_55 hh (q9 := (RX10, TX10, 5)) rfl rfl dX10_readAll_89 ⟨Nat.le_of_ble_eq_true rfl, Nat.le_of_ble_eq_true rfl⟩ rfl (Nat.le_of_ble_eq_true rfl) ⟨Nat.le_of_ble_eq_true rfl, Nat.le_of_ble_eq_true rfl⟩ (Nat.le_of_ble_eq_true rfl) (Nat.le_of_ble_eq_true rfl) (fun x2 h1 w9 => ?_)
    replace w := w9
    clear w9
    refine V_pop X dX10_readAll_92 rfl ?_
    refine V_aloadr_n X dX10_readAll_93 0 rfl ?_
    obtain ⟨fs, x3, hh, hv, w⟩ := w
    refine V_get X flX10_34 dX10_readAll_94 hh hv ?_
    exact V_iret X rfl dX10_readAll_97 (Nat.le_of_ble_eq_true rfl) (Nat.le_of_ble_eq_true rfl) w
  · replace w := w2 z
    clear w1 w2
    refine V_aloadr_n X dX10_readAll_26 0 rfl ?_
    obtain ⟨fs, hh, w⟩ := w
    refine V_callVi (As := []) (rest := []) (k1 := 35) (n1 := 595) X (cX10_readTransition_ok X.2.2.2.2.2.2.2.2.1 w) lkX10_48 hh (q9 := (RX10, TX10, 5)) rfl rfl dX10_readAll_27 ⟨Nat.le_of_ble_eq_true rfl, Nat.le_of_ble_eq_true rfl⟩ rfl (Nat.le_of_ble_eq_true rfl) ⟨Nat.le_of_ble_eq_true rfl, Nat.le_of_ble_eq_true rfl⟩ (Nat.le_of_ble_eq_true rfl) (Nat.le_of_ble_eq_true rfl) (fun x5 h4 w9 => ?_)
    replace w := w9
    clear w9
    obtain ⟨w1, w2⟩ := w
    refine V_if_ne (tgt := 38) X dX10_readAll_30 (by decide) (fun z => ?_) (fun z => ?_)
    · replace w := w1 z
      clear w1 w2
      refine V_iload_n X dX10_readAll_38 1 rfl ?_
      obtain ⟨w1, w2⟩ := w
      refine V_if_eq (tgt := 46) X dX10_readAll_39 (by decide) (fun z => ?_) (fun z => ?_)
      · replace w := w1 z
        clear w1 w2
        exact V.widen (k1 := 40) (n1 := 680) (Nat.le_of_ble_eq_true rfl) (Nat.le_of_ble_eq_true rfl) <| V.sub [0, 1, 2, 3] rfl (tX10_readAll_b46_7 X  w)
      · replace w := w2 z
        clear w1 w2
        refine V_aloadr_n X dX10_readAll_42 0 rfl ?_
        obtain ⟨fs, hh, w⟩ := w
        refine V_callVv (As := []) (rest := []) (k1 := 40) (n1 := 680) X (cX10_addDraft_ok X.2.2.2.2.2.2.2.2.1 w) lkX10_52 hh (q9 := (RX10, TX10, 5)) rfl rfl dX10_readAll_43 ⟨Nat.le_of_ble_eq_true rfl, Nat.le_of_ble_eq_true rfl⟩ rfl (Nat.le_of_ble_eq_true rfl) ⟨Nat.le_of_ble_eq_true rfl, Nat.le_of_ble_eq_true rfl⟩ (Nat.le_of_ble_eq_true rfl) (Nat.le_of_ble_eq_true rfl) (fun h6 w9 => ?_)
        replace w := w9
        clear w9
        exact V.sub [0, 1, 2, 3] rfl (tX10_readAll_b46_7 X  w)
    · replace w := w2 z
      clear w1 w2
      refine V_aloadr_n X dX10_readAll_33 0 rfl ?_
      obtain ⟨fs, x7, hh, hv, w⟩ := w
      refine V_get X flX10_34 dX10_readAll_34 hh hv ?_
      exact V_iret X rfl dX10_readAll_37 (Nat.le_of_ble_eq_true rfl) (Nat.le_of_ble_eq_true rfl) w
def vX10_readAll_b46_6 (t0 : Nat)  (Qn : Int32 → gH → Prop) (h : gH) (v0 : Nat) (v1 : Int32) (v2 : Int32) (v3 : Int32) : Prop := io h v0 13 (vX10_nextByte t0 (fun x2 h1 => ((¬ (x2 : Int32) = (-1)) → ((((x2 : Int32) = 59) → (gi h1 v0 13 3 (fun x3 => pv h1 v0 13 3 (.int (x3 + 1)) (fun h4 => vX10_readAll_b21_7 t0  Qn h4 v0 v1 v2 (v3 + 1))))) ∧ ((¬ (x2 : Int32) = 59) → (gi h1 v0 13 3 (fun x5 => Qn x5 h1))))) ∧ (((x2 : Int32) = (-1)) → (Qn (-1) h1))) h v0 )
set_option maxRecDepth 100000 in
set_option maxHeartbeats 4000000 in
theorem tX10_readAll_b46_6 {p : Program} {l : Launch} {e : Env} {s : State} {m : MethodId} {args : Array Value} {below : List Frame} {meth : Method} {c : Code} {G : gG} {A : Nat → Prop} {Qn : Int32 → gH → Prop} (X : gC p l s m args meth c G A cX10_readAll 5 (some FieldType.int) RX10)   {h : gH} {v0 : Nat} {v1 : Int32} {v2 : Int32} {v3 : Int32} (w : vX10_readAll_b46_6 G.2.2.1  Qn h v0 v1 v2 v3) : V p l e rmX10_readAll s m args below meth c (MQ below (va_Qi Qn (gB G A) A) args s rmX10_readAll.cells rmX10_readAll.slots A) G A 5 h 35 595 46 [(0, .ref v0), (1, .int v1), (2, .int v2), (3, .int v3)] [] := by
  refine V_aloadr_n X dX10_readAll_46 0 rfl ?_
  obtain ⟨fs, hh, w⟩ := w
  refine V_callVi (As := []) (rest := []) (k1 := 35) (n1 := 595) X (cX10_nextByte_ok X.2.2.2.2.2.2.2.2.1 w) lkX10_55 hh (q9 := (RX10, TX10, 5)) rfl rfl dX10_readAll_47 ⟨Nat.le_of_ble_eq_true rfl, Nat.le_of_ble_eq_true rfl⟩ rfl (Nat.le_of_ble_eq_true rfl) ⟨Nat.le_of_ble_eq_true rfl, Nat.le_of_ble_eq_true rfl⟩ (Nat.le_of_ble_eq_true rfl) (Nat.le_of_ble_eq_true rfl) (fun x2 h1 w9 => ?_)
  replace w := w9
  clear w9
  refine V_istore X dX10_readAll_50 (by decide) rfl ?_
  refine V_iload X dX10_readAll_52 0 rfl ?_
  refine V_iconst (y := (-1)) X dX10_readAll_54 (by decide) ?_
  obtain ⟨w1, w2⟩ := w
  refine V_icmp_ne (tgt := 60) X dX10_readAll_55 (by decide) (fun z => ?_) (fun z => ?_)
  · replace w := w1 z
    clear w1 w2
    refine V_iload X dX10_readAll_60 0 rfl ?_
    refine V_bipush (y := 59) X dX10_readAll_62 (by decide) ?_
    obtain ⟨w1, w2⟩ := w
    refine V_icmp_eq (tgt := 72) X dX10_readAll_64 (by decide) (fun z => ?_) (fun z => ?_)
    · replace w := w1 z
      clear w1 w2
      refine V_aloadr_n X dX10_readAll_72 1 rfl ?_
      refine V_dup X dX10_readAll_73 rfl ?_
      obtain ⟨fs, x3, hh, hv, w⟩ := w
      refine V_get X flX10_34 dX10_readAll_74 hh hv ?_
      refine V_iconst (y := 1) X dX10_readAll_77 (by decide) ?_
      refine V_iadd X dX10_readAll_78 ?_
      obtain ⟨fs, hh, hv, w⟩ := w
      refine V_put X flX10_34 dX10_readAll_79 hh hv rfl rfl ?_
      generalize va_up _ _ _ = h4 at w ⊢
      refine V_iinc (y := (v3 + 1)) X dX10_readAll_82 4 rfl (by first | rfl | (congr 1)) (by decide) rfl ?_
      refine V_goto (tgt := 21) X dX10_readAll_85 (by decide) ?_
      exact V.sub [2, 3, 4, 0] rfl (tX10_readAll_b21_7 X  w)
    · replace w := w2 z
      clear w1 w2
      refine V_aloadr_n X dX10_readAll_67 1 rfl ?_
      obtain ⟨fs, x5, hh, hv, w⟩ := w
      refine V_get X flX10_34 dX10_readAll_68 hh hv ?_
      exact V_iret X rfl dX10_readAll_71 (Nat.le_of_ble_eq_true rfl) (Nat.le_of_ble_eq_true rfl) w
  · replace w := w2 z
    clear w1 w2
    refine V_iconst (y := (-1)) X dX10_readAll_58 (by decide) ?_
    exact V_iret X rfl dX10_readAll_59 (Nat.le_of_ble_eq_true rfl) (Nat.le_of_ble_eq_true rfl) w
def vX10_readAll_b21_6 (t0 : Nat)  (Qn : Int32 → gH → Prop) (h : gH) (v0 : Nat) (v1 : Int32) (v2 : Int32) (v3 : Int32) : Prop := ((v2 ≤ (v3 : Int32)) → (io h v0 13 (vX10_nextByte t0 (fun x2 h1 => gi h1 v0 13 3 (fun x3 => Qn x3 h1)) h v0 ))) ∧ ((¬ v2 ≤ (v3 : Int32)) → (io h v0 13 (vX10_readTransition t0 (fun x5 h4 => ((¬ (x5 : Int32) = 0) → ((((v1 : Int32) = 0) → (vX10_readAll_b46_6 t0  Qn h4 v0 v1 v2 v3)) ∧ ((¬ (v1 : Int32) = 0) → (io h4 v0 13 (vX10_addDraft t0 (fun h6 => vX10_readAll_b46_6 t0  Qn h6 v0 v1 v2 v3) h4 v0 ))))) ∧ (((x5 : Int32) = 0) → (gi h4 v0 13 3 (fun x7 => Qn x7 h4)))) h v0 )))
set_option maxRecDepth 100000 in
set_option maxHeartbeats 4000000 in
theorem tX10_readAll_b21_6 {p : Program} {l : Launch} {e : Env} {s : State} {m : MethodId} {args : Array Value} {below : List Frame} {meth : Method} {c : Code} {G : gG} {A : Nat → Prop} {Qn : Int32 → gH → Prop} (X : gC p l s m args meth c G A cX10_readAll 5 (some FieldType.int) RX10)   {h : gH} {v0 : Nat} {v1 : Int32} {v2 : Int32} {v3 : Int32} (w : vX10_readAll_b21_6 G.2.2.1  Qn h v0 v1 v2 v3) : V p l e rmX10_readAll s m args below meth c (MQ below (va_Qi Qn (gB G A) A) args s rmX10_readAll.cells rmX10_readAll.slots A) G A 5 h 30 510 21 [(0, .ref v0), (1, .int v1), (2, .int v2), (3, .int v3)] [] := by
  refine V_iload_n X dX10_readAll_21 3 rfl ?_
  refine V_iload_n X dX10_readAll_22 2 rfl ?_
  obtain ⟨w1, w2⟩ := w
  refine V_icmp_ge (tgt := 88) X dX10_readAll_23 (by decide) (fun z => ?_) (fun z => ?_)
  · replace w := w1 z
    clear w1 w2
    refine V_aloadr_n X dX10_readAll_88 0 rfl ?_
    obtain ⟨fs, hh, w⟩ := w
    refine V_callVi (As := []) (rest := []) (k1 := 30) (n1 := 510) X (cX10_nextByte_ok X.2.2.2.2.2.2.2.2.1 w) lkX10_55 hh (q9 := (RX10, TX10, 5)) rfl rfl dX10_readAll_89 ⟨Nat.le_of_ble_eq_true rfl, Nat.le_of_ble_eq_true rfl⟩ rfl (Nat.le_of_ble_eq_true rfl) ⟨Nat.le_of_ble_eq_true rfl, Nat.le_of_ble_eq_true rfl⟩ (Nat.le_of_ble_eq_true rfl) (Nat.le_of_ble_eq_true rfl) (fun x2 h1 w9 => ?_)
    replace w := w9
    clear w9
    refine V_pop X dX10_readAll_92 rfl ?_
    refine V_aloadr_n X dX10_readAll_93 0 rfl ?_
    obtain ⟨fs, x3, hh, hv, w⟩ := w
    refine V_get X flX10_34 dX10_readAll_94 hh hv ?_
    exact V_iret X rfl dX10_readAll_97 (Nat.le_of_ble_eq_true rfl) (Nat.le_of_ble_eq_true rfl) w
  · replace w := w2 z
    clear w1 w2
    refine V_aloadr_n X dX10_readAll_26 0 rfl ?_
    obtain ⟨fs, hh, w⟩ := w
    refine V_callVi (As := []) (rest := []) (k1 := 30) (n1 := 510) X (cX10_readTransition_ok X.2.2.2.2.2.2.2.2.1 w) lkX10_48 hh (q9 := (RX10, TX10, 5)) rfl rfl dX10_readAll_27 ⟨Nat.le_of_ble_eq_true rfl, Nat.le_of_ble_eq_true rfl⟩ rfl (Nat.le_of_ble_eq_true rfl) ⟨Nat.le_of_ble_eq_true rfl, Nat.le_of_ble_eq_true rfl⟩ (Nat.le_of_ble_eq_true rfl) (Nat.le_of_ble_eq_true rfl) (fun x5 h4 w9 => ?_)
    replace w := w9
    clear w9
    obtain ⟨w1, w2⟩ := w
    refine V_if_ne (tgt := 38) X dX10_readAll_30 (by decide) (fun z => ?_) (fun z => ?_)
    · replace w := w1 z
      clear w1 w2
      refine V_iload_n X dX10_readAll_38 1 rfl ?_
      obtain ⟨w1, w2⟩ := w
      refine V_if_eq (tgt := 46) X dX10_readAll_39 (by decide) (fun z => ?_) (fun z => ?_)
      · replace w := w1 z
        clear w1 w2
        exact V.widen (k1 := 35) (n1 := 595) (Nat.le_of_ble_eq_true rfl) (Nat.le_of_ble_eq_true rfl) <| V.sub [0, 1, 2, 3] rfl (tX10_readAll_b46_6 X  w)
      · replace w := w2 z
        clear w1 w2
        refine V_aloadr_n X dX10_readAll_42 0 rfl ?_
        obtain ⟨fs, hh, w⟩ := w
        refine V_callVv (As := []) (rest := []) (k1 := 35) (n1 := 595) X (cX10_addDraft_ok X.2.2.2.2.2.2.2.2.1 w) lkX10_52 hh (q9 := (RX10, TX10, 5)) rfl rfl dX10_readAll_43 ⟨Nat.le_of_ble_eq_true rfl, Nat.le_of_ble_eq_true rfl⟩ rfl (Nat.le_of_ble_eq_true rfl) ⟨Nat.le_of_ble_eq_true rfl, Nat.le_of_ble_eq_true rfl⟩ (Nat.le_of_ble_eq_true rfl) (Nat.le_of_ble_eq_true rfl) (fun h6 w9 => ?_)
        replace w := w9
        clear w9
        exact V.sub [0, 1, 2, 3] rfl (tX10_readAll_b46_6 X  w)
    · replace w := w2 z
      clear w1 w2
      refine V_aloadr_n X dX10_readAll_33 0 rfl ?_
      obtain ⟨fs, x7, hh, hv, w⟩ := w
      refine V_get X flX10_34 dX10_readAll_34 hh hv ?_
      exact V_iret X rfl dX10_readAll_37 (Nat.le_of_ble_eq_true rfl) (Nat.le_of_ble_eq_true rfl) w
def vX10_readAll_b46_5 (t0 : Nat)  (Qn : Int32 → gH → Prop) (h : gH) (v0 : Nat) (v1 : Int32) (v2 : Int32) (v3 : Int32) : Prop := io h v0 13 (vX10_nextByte t0 (fun x2 h1 => ((¬ (x2 : Int32) = (-1)) → ((((x2 : Int32) = 59) → (gi h1 v0 13 3 (fun x3 => pv h1 v0 13 3 (.int (x3 + 1)) (fun h4 => vX10_readAll_b21_6 t0  Qn h4 v0 v1 v2 (v3 + 1))))) ∧ ((¬ (x2 : Int32) = 59) → (gi h1 v0 13 3 (fun x5 => Qn x5 h1))))) ∧ (((x2 : Int32) = (-1)) → (Qn (-1) h1))) h v0 )
set_option maxRecDepth 100000 in
set_option maxHeartbeats 4000000 in
theorem tX10_readAll_b46_5 {p : Program} {l : Launch} {e : Env} {s : State} {m : MethodId} {args : Array Value} {below : List Frame} {meth : Method} {c : Code} {G : gG} {A : Nat → Prop} {Qn : Int32 → gH → Prop} (X : gC p l s m args meth c G A cX10_readAll 5 (some FieldType.int) RX10)   {h : gH} {v0 : Nat} {v1 : Int32} {v2 : Int32} {v3 : Int32} (w : vX10_readAll_b46_5 G.2.2.1  Qn h v0 v1 v2 v3) : V p l e rmX10_readAll s m args below meth c (MQ below (va_Qi Qn (gB G A) A) args s rmX10_readAll.cells rmX10_readAll.slots A) G A 5 h 30 510 46 [(0, .ref v0), (1, .int v1), (2, .int v2), (3, .int v3)] [] := by
  refine V_aloadr_n X dX10_readAll_46 0 rfl ?_
  obtain ⟨fs, hh, w⟩ := w
  refine V_callVi (As := []) (rest := []) (k1 := 30) (n1 := 510) X (cX10_nextByte_ok X.2.2.2.2.2.2.2.2.1 w) lkX10_55 hh (q9 := (RX10, TX10, 5)) rfl rfl dX10_readAll_47 ⟨Nat.le_of_ble_eq_true rfl, Nat.le_of_ble_eq_true rfl⟩ rfl (Nat.le_of_ble_eq_true rfl) ⟨Nat.le_of_ble_eq_true rfl, Nat.le_of_ble_eq_true rfl⟩ (Nat.le_of_ble_eq_true rfl) (Nat.le_of_ble_eq_true rfl) (fun x2 h1 w9 => ?_)
  replace w := w9
  clear w9
  refine V_istore X dX10_readAll_50 (by decide) rfl ?_
  refine V_iload X dX10_readAll_52 0 rfl ?_
  refine V_iconst (y := (-1)) X dX10_readAll_54 (by decide) ?_
  obtain ⟨w1, w2⟩ := w
  refine V_icmp_ne (tgt := 60) X dX10_readAll_55 (by decide) (fun z => ?_) (fun z => ?_)
  · replace w := w1 z
    clear w1 w2
    refine V_iload X dX10_readAll_60 0 rfl ?_
    refine V_bipush (y := 59) X dX10_readAll_62 (by decide) ?_
    obtain ⟨w1, w2⟩ := w
    refine V_icmp_eq (tgt := 72) X dX10_readAll_64 (by decide) (fun z => ?_) (fun z => ?_)
    · replace w := w1 z
      clear w1 w2
      refine V_aloadr_n X dX10_readAll_72 1 rfl ?_
      refine V_dup X dX10_readAll_73 rfl ?_
      obtain ⟨fs, x3, hh, hv, w⟩ := w
      refine V_get X flX10_34 dX10_readAll_74 hh hv ?_
      refine V_iconst (y := 1) X dX10_readAll_77 (by decide) ?_
      refine V_iadd X dX10_readAll_78 ?_
      obtain ⟨fs, hh, hv, w⟩ := w
      refine V_put X flX10_34 dX10_readAll_79 hh hv rfl rfl ?_
      generalize va_up _ _ _ = h4 at w ⊢
      refine V_iinc (y := (v3 + 1)) X dX10_readAll_82 4 rfl (by first | rfl | (congr 1)) (by decide) rfl ?_
      refine V_goto (tgt := 21) X dX10_readAll_85 (by decide) ?_
      exact V.sub [2, 3, 4, 0] rfl (tX10_readAll_b21_6 X  w)
    · replace w := w2 z
      clear w1 w2
      refine V_aloadr_n X dX10_readAll_67 1 rfl ?_
      obtain ⟨fs, x5, hh, hv, w⟩ := w
      refine V_get X flX10_34 dX10_readAll_68 hh hv ?_
      exact V_iret X rfl dX10_readAll_71 (Nat.le_of_ble_eq_true rfl) (Nat.le_of_ble_eq_true rfl) w
  · replace w := w2 z
    clear w1 w2
    refine V_iconst (y := (-1)) X dX10_readAll_58 (by decide) ?_
    exact V_iret X rfl dX10_readAll_59 (Nat.le_of_ble_eq_true rfl) (Nat.le_of_ble_eq_true rfl) w
def vX10_readAll_b21_5 (t0 : Nat)  (Qn : Int32 → gH → Prop) (h : gH) (v0 : Nat) (v1 : Int32) (v2 : Int32) (v3 : Int32) : Prop := ((v2 ≤ (v3 : Int32)) → (io h v0 13 (vX10_nextByte t0 (fun x2 h1 => gi h1 v0 13 3 (fun x3 => Qn x3 h1)) h v0 ))) ∧ ((¬ v2 ≤ (v3 : Int32)) → (io h v0 13 (vX10_readTransition t0 (fun x5 h4 => ((¬ (x5 : Int32) = 0) → ((((v1 : Int32) = 0) → (vX10_readAll_b46_5 t0  Qn h4 v0 v1 v2 v3)) ∧ ((¬ (v1 : Int32) = 0) → (io h4 v0 13 (vX10_addDraft t0 (fun h6 => vX10_readAll_b46_5 t0  Qn h6 v0 v1 v2 v3) h4 v0 ))))) ∧ (((x5 : Int32) = 0) → (gi h4 v0 13 3 (fun x7 => Qn x7 h4)))) h v0 )))
set_option maxRecDepth 100000 in
set_option maxHeartbeats 4000000 in
theorem tX10_readAll_b21_5 {p : Program} {l : Launch} {e : Env} {s : State} {m : MethodId} {args : Array Value} {below : List Frame} {meth : Method} {c : Code} {G : gG} {A : Nat → Prop} {Qn : Int32 → gH → Prop} (X : gC p l s m args meth c G A cX10_readAll 5 (some FieldType.int) RX10)   {h : gH} {v0 : Nat} {v1 : Int32} {v2 : Int32} {v3 : Int32} (w : vX10_readAll_b21_5 G.2.2.1  Qn h v0 v1 v2 v3) : V p l e rmX10_readAll s m args below meth c (MQ below (va_Qi Qn (gB G A) A) args s rmX10_readAll.cells rmX10_readAll.slots A) G A 5 h 25 425 21 [(0, .ref v0), (1, .int v1), (2, .int v2), (3, .int v3)] [] := by
  refine V_iload_n X dX10_readAll_21 3 rfl ?_
  refine V_iload_n X dX10_readAll_22 2 rfl ?_
  obtain ⟨w1, w2⟩ := w
  refine V_icmp_ge (tgt := 88) X dX10_readAll_23 (by decide) (fun z => ?_) (fun z => ?_)
  · replace w := w1 z
    clear w1 w2
    refine V_aloadr_n X dX10_readAll_88 0 rfl ?_
    obtain ⟨fs, hh, w⟩ := w
    refine V_callVi (As := []) (rest := []) (k1 := 25) (n1 := 425) X (cX10_nextByte_ok X.2.2.2.2.2.2.2.2.1 w) lkX10_55 hh (q9 := (RX10, TX10, 5)) rfl rfl dX10_readAll_89 ⟨Nat.le_of_ble_eq_true rfl, Nat.le_of_ble_eq_true rfl⟩ rfl (Nat.le_of_ble_eq_true rfl) ⟨Nat.le_of_ble_eq_true rfl, Nat.le_of_ble_eq_true rfl⟩ (Nat.le_of_ble_eq_true rfl) (Nat.le_of_ble_eq_true rfl) (fun x2 h1 w9 => ?_)
    replace w := w9
    clear w9
    refine V_pop X dX10_readAll_92 rfl ?_
    refine V_aloadr_n X dX10_readAll_93 0 rfl ?_
    obtain ⟨fs, x3, hh, hv, w⟩ := w
    refine V_get X flX10_34 dX10_readAll_94 hh hv ?_
    exact V_iret X rfl dX10_readAll_97 (Nat.le_of_ble_eq_true rfl) (Nat.le_of_ble_eq_true rfl) w
  · replace w := w2 z
    clear w1 w2
    refine V_aloadr_n X dX10_readAll_26 0 rfl ?_
    obtain ⟨fs, hh, w⟩ := w
    refine V_callVi (As := []) (rest := []) (k1 := 25) (n1 := 425) X (cX10_readTransition_ok X.2.2.2.2.2.2.2.2.1 w) lkX10_48 hh (q9 := (RX10, TX10, 5)) rfl rfl dX10_readAll_27 ⟨Nat.le_of_ble_eq_true rfl, Nat.le_of_ble_eq_true rfl⟩ rfl (Nat.le_of_ble_eq_true rfl) ⟨Nat.le_of_ble_eq_true rfl, Nat.le_of_ble_eq_true rfl⟩ (Nat.le_of_ble_eq_true rfl) (Nat.le_of_ble_eq_true rfl) (fun x5 h4 w9 => ?_)
    replace w := w9
    clear w9
    obtain ⟨w1, w2⟩ := w
    refine V_if_ne (tgt := 38) X dX10_readAll_30 (by decide) (fun z => ?_) (fun z => ?_)
    · replace w := w1 z
      clear w1 w2
      refine V_iload_n X dX10_readAll_38 1 rfl ?_
      obtain ⟨w1, w2⟩ := w
      refine V_if_eq (tgt := 46) X dX10_readAll_39 (by decide) (fun z => ?_) (fun z => ?_)
      · replace w := w1 z
        clear w1 w2
        exact V.widen (k1 := 30) (n1 := 510) (Nat.le_of_ble_eq_true rfl) (Nat.le_of_ble_eq_true rfl) <| V.sub [0, 1, 2, 3] rfl (tX10_readAll_b46_5 X  w)
      · replace w := w2 z
        clear w1 w2
        refine V_aloadr_n X dX10_readAll_42 0 rfl ?_
        obtain ⟨fs, hh, w⟩ := w
        refine V_callVv (As := []) (rest := []) (k1 := 30) (n1 := 510) X (cX10_addDraft_ok X.2.2.2.2.2.2.2.2.1 w) lkX10_52 hh (q9 := (RX10, TX10, 5)) rfl rfl dX10_readAll_43 ⟨Nat.le_of_ble_eq_true rfl, Nat.le_of_ble_eq_true rfl⟩ rfl (Nat.le_of_ble_eq_true rfl) ⟨Nat.le_of_ble_eq_true rfl, Nat.le_of_ble_eq_true rfl⟩ (Nat.le_of_ble_eq_true rfl) (Nat.le_of_ble_eq_true rfl) (fun h6 w9 => ?_)
        replace w := w9
        clear w9
        exact V.sub [0, 1, 2, 3] rfl (tX10_readAll_b46_5 X  w)
    · replace w := w2 z
      clear w1 w2
      refine V_aloadr_n X dX10_readAll_33 0 rfl ?_
      obtain ⟨fs, x7, hh, hv, w⟩ := w
      refine V_get X flX10_34 dX10_readAll_34 hh hv ?_
      exact V_iret X rfl dX10_readAll_37 (Nat.le_of_ble_eq_true rfl) (Nat.le_of_ble_eq_true rfl) w
def vX10_readAll_b46_4 (t0 : Nat)  (Qn : Int32 → gH → Prop) (h : gH) (v0 : Nat) (v1 : Int32) (v2 : Int32) (v3 : Int32) : Prop := io h v0 13 (vX10_nextByte t0 (fun x2 h1 => ((¬ (x2 : Int32) = (-1)) → ((((x2 : Int32) = 59) → (gi h1 v0 13 3 (fun x3 => pv h1 v0 13 3 (.int (x3 + 1)) (fun h4 => vX10_readAll_b21_5 t0  Qn h4 v0 v1 v2 (v3 + 1))))) ∧ ((¬ (x2 : Int32) = 59) → (gi h1 v0 13 3 (fun x5 => Qn x5 h1))))) ∧ (((x2 : Int32) = (-1)) → (Qn (-1) h1))) h v0 )
set_option maxRecDepth 100000 in
set_option maxHeartbeats 4000000 in
theorem tX10_readAll_b46_4 {p : Program} {l : Launch} {e : Env} {s : State} {m : MethodId} {args : Array Value} {below : List Frame} {meth : Method} {c : Code} {G : gG} {A : Nat → Prop} {Qn : Int32 → gH → Prop} (X : gC p l s m args meth c G A cX10_readAll 5 (some FieldType.int) RX10)   {h : gH} {v0 : Nat} {v1 : Int32} {v2 : Int32} {v3 : Int32} (w : vX10_readAll_b46_4 G.2.2.1  Qn h v0 v1 v2 v3) : V p l e rmX10_readAll s m args below meth c (MQ below (va_Qi Qn (gB G A) A) args s rmX10_readAll.cells rmX10_readAll.slots A) G A 5 h 25 425 46 [(0, .ref v0), (1, .int v1), (2, .int v2), (3, .int v3)] [] := by
  refine V_aloadr_n X dX10_readAll_46 0 rfl ?_
  obtain ⟨fs, hh, w⟩ := w
  refine V_callVi (As := []) (rest := []) (k1 := 25) (n1 := 425) X (cX10_nextByte_ok X.2.2.2.2.2.2.2.2.1 w) lkX10_55 hh (q9 := (RX10, TX10, 5)) rfl rfl dX10_readAll_47 ⟨Nat.le_of_ble_eq_true rfl, Nat.le_of_ble_eq_true rfl⟩ rfl (Nat.le_of_ble_eq_true rfl) ⟨Nat.le_of_ble_eq_true rfl, Nat.le_of_ble_eq_true rfl⟩ (Nat.le_of_ble_eq_true rfl) (Nat.le_of_ble_eq_true rfl) (fun x2 h1 w9 => ?_)
  replace w := w9
  clear w9
  refine V_istore X dX10_readAll_50 (by decide) rfl ?_
  refine V_iload X dX10_readAll_52 0 rfl ?_
  refine V_iconst (y := (-1)) X dX10_readAll_54 (by decide) ?_
  obtain ⟨w1, w2⟩ := w
  refine V_icmp_ne (tgt := 60) X dX10_readAll_55 (by decide) (fun z => ?_) (fun z => ?_)
  · replace w := w1 z
    clear w1 w2
    refine V_iload X dX10_readAll_60 0 rfl ?_
    refine V_bipush (y := 59) X dX10_readAll_62 (by decide) ?_
    obtain ⟨w1, w2⟩ := w
    refine V_icmp_eq (tgt := 72) X dX10_readAll_64 (by decide) (fun z => ?_) (fun z => ?_)
    · replace w := w1 z
      clear w1 w2
      refine V_aloadr_n X dX10_readAll_72 1 rfl ?_
      refine V_dup X dX10_readAll_73 rfl ?_
      obtain ⟨fs, x3, hh, hv, w⟩ := w
      refine V_get X flX10_34 dX10_readAll_74 hh hv ?_
      refine V_iconst (y := 1) X dX10_readAll_77 (by decide) ?_
      refine V_iadd X dX10_readAll_78 ?_
      obtain ⟨fs, hh, hv, w⟩ := w
      refine V_put X flX10_34 dX10_readAll_79 hh hv rfl rfl ?_
      generalize va_up _ _ _ = h4 at w ⊢
      refine V_iinc (y := (v3 + 1)) X dX10_readAll_82 4 rfl (by first | rfl | (congr 1)) (by decide) rfl ?_
      refine V_goto (tgt := 21) X dX10_readAll_85 (by decide) ?_
      exact V.sub [2, 3, 4, 0] rfl (tX10_readAll_b21_5 X  w)
    · replace w := w2 z
      clear w1 w2
      refine V_aloadr_n X dX10_readAll_67 1 rfl ?_
      obtain ⟨fs, x5, hh, hv, w⟩ := w
      refine V_get X flX10_34 dX10_readAll_68 hh hv ?_
      exact V_iret X rfl dX10_readAll_71 (Nat.le_of_ble_eq_true rfl) (Nat.le_of_ble_eq_true rfl) w
  · replace w := w2 z
    clear w1 w2
    refine V_iconst (y := (-1)) X dX10_readAll_58 (by decide) ?_
    exact V_iret X rfl dX10_readAll_59 (Nat.le_of_ble_eq_true rfl) (Nat.le_of_ble_eq_true rfl) w
def vX10_readAll_b21_4 (t0 : Nat)  (Qn : Int32 → gH → Prop) (h : gH) (v0 : Nat) (v1 : Int32) (v2 : Int32) (v3 : Int32) : Prop := ((v2 ≤ (v3 : Int32)) → (io h v0 13 (vX10_nextByte t0 (fun x2 h1 => gi h1 v0 13 3 (fun x3 => Qn x3 h1)) h v0 ))) ∧ ((¬ v2 ≤ (v3 : Int32)) → (io h v0 13 (vX10_readTransition t0 (fun x5 h4 => ((¬ (x5 : Int32) = 0) → ((((v1 : Int32) = 0) → (vX10_readAll_b46_4 t0  Qn h4 v0 v1 v2 v3)) ∧ ((¬ (v1 : Int32) = 0) → (io h4 v0 13 (vX10_addDraft t0 (fun h6 => vX10_readAll_b46_4 t0  Qn h6 v0 v1 v2 v3) h4 v0 ))))) ∧ (((x5 : Int32) = 0) → (gi h4 v0 13 3 (fun x7 => Qn x7 h4)))) h v0 )))
set_option maxRecDepth 100000 in
set_option maxHeartbeats 4000000 in
theorem tX10_readAll_b21_4 {p : Program} {l : Launch} {e : Env} {s : State} {m : MethodId} {args : Array Value} {below : List Frame} {meth : Method} {c : Code} {G : gG} {A : Nat → Prop} {Qn : Int32 → gH → Prop} (X : gC p l s m args meth c G A cX10_readAll 5 (some FieldType.int) RX10)   {h : gH} {v0 : Nat} {v1 : Int32} {v2 : Int32} {v3 : Int32} (w : vX10_readAll_b21_4 G.2.2.1  Qn h v0 v1 v2 v3) : V p l e rmX10_readAll s m args below meth c (MQ below (va_Qi Qn (gB G A) A) args s rmX10_readAll.cells rmX10_readAll.slots A) G A 5 h 20 340 21 [(0, .ref v0), (1, .int v1), (2, .int v2), (3, .int v3)] [] := by
  refine V_iload_n X dX10_readAll_21 3 rfl ?_
  refine V_iload_n X dX10_readAll_22 2 rfl ?_
  obtain ⟨w1, w2⟩ := w
  refine V_icmp_ge (tgt := 88) X dX10_readAll_23 (by decide) (fun z => ?_) (fun z => ?_)
  · replace w := w1 z
    clear w1 w2
    refine V_aloadr_n X dX10_readAll_88 0 rfl ?_
    obtain ⟨fs, hh, w⟩ := w
    refine V_callVi (As := []) (rest := []) (k1 := 20) (n1 := 340) X (cX10_nextByte_ok X.2.2.2.2.2.2.2.2.1 w) lkX10_55 hh (q9 := (RX10, TX10, 5)) rfl rfl dX10_readAll_89 ⟨Nat.le_of_ble_eq_true rfl, Nat.le_of_ble_eq_true rfl⟩ rfl (Nat.le_of_ble_eq_true rfl) ⟨Nat.le_of_ble_eq_true rfl, Nat.le_of_ble_eq_true rfl⟩ (Nat.le_of_ble_eq_true rfl) (Nat.le_of_ble_eq_true rfl) (fun x2 h1 w9 => ?_)
    replace w := w9
    clear w9
    refine V_pop X dX10_readAll_92 rfl ?_
    refine V_aloadr_n X dX10_readAll_93 0 rfl ?_
    obtain ⟨fs, x3, hh, hv, w⟩ := w
    refine V_get X flX10_34 dX10_readAll_94 hh hv ?_
    exact V_iret X rfl dX10_readAll_97 (Nat.le_of_ble_eq_true rfl) (Nat.le_of_ble_eq_true rfl) w
  · replace w := w2 z
    clear w1 w2
    refine V_aloadr_n X dX10_readAll_26 0 rfl ?_
    obtain ⟨fs, hh, w⟩ := w
    refine V_callVi (As := []) (rest := []) (k1 := 20) (n1 := 340) X (cX10_readTransition_ok X.2.2.2.2.2.2.2.2.1 w) lkX10_48 hh (q9 := (RX10, TX10, 5)) rfl rfl dX10_readAll_27 ⟨Nat.le_of_ble_eq_true rfl, Nat.le_of_ble_eq_true rfl⟩ rfl (Nat.le_of_ble_eq_true rfl) ⟨Nat.le_of_ble_eq_true rfl, Nat.le_of_ble_eq_true rfl⟩ (Nat.le_of_ble_eq_true rfl) (Nat.le_of_ble_eq_true rfl) (fun x5 h4 w9 => ?_)
    replace w := w9
    clear w9
    obtain ⟨w1, w2⟩ := w
    refine V_if_ne (tgt := 38) X dX10_readAll_30 (by decide) (fun z => ?_) (fun z => ?_)
    · replace w := w1 z
      clear w1 w2
      refine V_iload_n X dX10_readAll_38 1 rfl ?_
      obtain ⟨w1, w2⟩ := w
      refine V_if_eq (tgt := 46) X dX10_readAll_39 (by decide) (fun z => ?_) (fun z => ?_)
      · replace w := w1 z
        clear w1 w2
        exact V.widen (k1 := 25) (n1 := 425) (Nat.le_of_ble_eq_true rfl) (Nat.le_of_ble_eq_true rfl) <| V.sub [0, 1, 2, 3] rfl (tX10_readAll_b46_4 X  w)
      · replace w := w2 z
        clear w1 w2
        refine V_aloadr_n X dX10_readAll_42 0 rfl ?_
        obtain ⟨fs, hh, w⟩ := w
        refine V_callVv (As := []) (rest := []) (k1 := 25) (n1 := 425) X (cX10_addDraft_ok X.2.2.2.2.2.2.2.2.1 w) lkX10_52 hh (q9 := (RX10, TX10, 5)) rfl rfl dX10_readAll_43 ⟨Nat.le_of_ble_eq_true rfl, Nat.le_of_ble_eq_true rfl⟩ rfl (Nat.le_of_ble_eq_true rfl) ⟨Nat.le_of_ble_eq_true rfl, Nat.le_of_ble_eq_true rfl⟩ (Nat.le_of_ble_eq_true rfl) (Nat.le_of_ble_eq_true rfl) (fun h6 w9 => ?_)
        replace w := w9
        clear w9
        exact V.sub [0, 1, 2, 3] rfl (tX10_readAll_b46_4 X  w)
    · replace w := w2 z
      clear w1 w2
      refine V_aloadr_n X dX10_readAll_33 0 rfl ?_
      obtain ⟨fs, x7, hh, hv, w⟩ := w
      refine V_get X flX10_34 dX10_readAll_34 hh hv ?_
      exact V_iret X rfl dX10_readAll_37 (Nat.le_of_ble_eq_true rfl) (Nat.le_of_ble_eq_true rfl) w
def vX10_readAll_b46_3 (t0 : Nat)  (Qn : Int32 → gH → Prop) (h : gH) (v0 : Nat) (v1 : Int32) (v2 : Int32) (v3 : Int32) : Prop := io h v0 13 (vX10_nextByte t0 (fun x2 h1 => ((¬ (x2 : Int32) = (-1)) → ((((x2 : Int32) = 59) → (gi h1 v0 13 3 (fun x3 => pv h1 v0 13 3 (.int (x3 + 1)) (fun h4 => vX10_readAll_b21_4 t0  Qn h4 v0 v1 v2 (v3 + 1))))) ∧ ((¬ (x2 : Int32) = 59) → (gi h1 v0 13 3 (fun x5 => Qn x5 h1))))) ∧ (((x2 : Int32) = (-1)) → (Qn (-1) h1))) h v0 )
set_option maxRecDepth 100000 in
set_option maxHeartbeats 4000000 in
theorem tX10_readAll_b46_3 {p : Program} {l : Launch} {e : Env} {s : State} {m : MethodId} {args : Array Value} {below : List Frame} {meth : Method} {c : Code} {G : gG} {A : Nat → Prop} {Qn : Int32 → gH → Prop} (X : gC p l s m args meth c G A cX10_readAll 5 (some FieldType.int) RX10)   {h : gH} {v0 : Nat} {v1 : Int32} {v2 : Int32} {v3 : Int32} (w : vX10_readAll_b46_3 G.2.2.1  Qn h v0 v1 v2 v3) : V p l e rmX10_readAll s m args below meth c (MQ below (va_Qi Qn (gB G A) A) args s rmX10_readAll.cells rmX10_readAll.slots A) G A 5 h 20 340 46 [(0, .ref v0), (1, .int v1), (2, .int v2), (3, .int v3)] [] := by
  refine V_aloadr_n X dX10_readAll_46 0 rfl ?_
  obtain ⟨fs, hh, w⟩ := w
  refine V_callVi (As := []) (rest := []) (k1 := 20) (n1 := 340) X (cX10_nextByte_ok X.2.2.2.2.2.2.2.2.1 w) lkX10_55 hh (q9 := (RX10, TX10, 5)) rfl rfl dX10_readAll_47 ⟨Nat.le_of_ble_eq_true rfl, Nat.le_of_ble_eq_true rfl⟩ rfl (Nat.le_of_ble_eq_true rfl) ⟨Nat.le_of_ble_eq_true rfl, Nat.le_of_ble_eq_true rfl⟩ (Nat.le_of_ble_eq_true rfl) (Nat.le_of_ble_eq_true rfl) (fun x2 h1 w9 => ?_)
  replace w := w9
  clear w9
  refine V_istore X dX10_readAll_50 (by decide) rfl ?_
  refine V_iload X dX10_readAll_52 0 rfl ?_
  refine V_iconst (y := (-1)) X dX10_readAll_54 (by decide) ?_
  obtain ⟨w1, w2⟩ := w
  refine V_icmp_ne (tgt := 60) X dX10_readAll_55 (by decide) (fun z => ?_) (fun z => ?_)
  · replace w := w1 z
    clear w1 w2
    refine V_iload X dX10_readAll_60 0 rfl ?_
    refine V_bipush (y := 59) X dX10_readAll_62 (by decide) ?_
    obtain ⟨w1, w2⟩ := w
    refine V_icmp_eq (tgt := 72) X dX10_readAll_64 (by decide) (fun z => ?_) (fun z => ?_)
    · replace w := w1 z
      clear w1 w2
      refine V_aloadr_n X dX10_readAll_72 1 rfl ?_
      refine V_dup X dX10_readAll_73 rfl ?_
      obtain ⟨fs, x3, hh, hv, w⟩ := w
      refine V_get X flX10_34 dX10_readAll_74 hh hv ?_
      refine V_iconst (y := 1) X dX10_readAll_77 (by decide) ?_
      refine V_iadd X dX10_readAll_78 ?_
      obtain ⟨fs, hh, hv, w⟩ := w
      refine V_put X flX10_34 dX10_readAll_79 hh hv rfl rfl ?_
      generalize va_up _ _ _ = h4 at w ⊢
      refine V_iinc (y := (v3 + 1)) X dX10_readAll_82 4 rfl (by first | rfl | (congr 1)) (by decide) rfl ?_
      refine V_goto (tgt := 21) X dX10_readAll_85 (by decide) ?_
      exact V.sub [2, 3, 4, 0] rfl (tX10_readAll_b21_4 X  w)
    · replace w := w2 z
      clear w1 w2
      refine V_aloadr_n X dX10_readAll_67 1 rfl ?_
      obtain ⟨fs, x5, hh, hv, w⟩ := w
      refine V_get X flX10_34 dX10_readAll_68 hh hv ?_
      exact V_iret X rfl dX10_readAll_71 (Nat.le_of_ble_eq_true rfl) (Nat.le_of_ble_eq_true rfl) w
  · replace w := w2 z
    clear w1 w2
    refine V_iconst (y := (-1)) X dX10_readAll_58 (by decide) ?_
    exact V_iret X rfl dX10_readAll_59 (Nat.le_of_ble_eq_true rfl) (Nat.le_of_ble_eq_true rfl) w
def vX10_readAll_b21_3 (t0 : Nat)  (Qn : Int32 → gH → Prop) (h : gH) (v0 : Nat) (v1 : Int32) (v2 : Int32) (v3 : Int32) : Prop := ((v2 ≤ (v3 : Int32)) → (io h v0 13 (vX10_nextByte t0 (fun x2 h1 => gi h1 v0 13 3 (fun x3 => Qn x3 h1)) h v0 ))) ∧ ((¬ v2 ≤ (v3 : Int32)) → (io h v0 13 (vX10_readTransition t0 (fun x5 h4 => ((¬ (x5 : Int32) = 0) → ((((v1 : Int32) = 0) → (vX10_readAll_b46_3 t0  Qn h4 v0 v1 v2 v3)) ∧ ((¬ (v1 : Int32) = 0) → (io h4 v0 13 (vX10_addDraft t0 (fun h6 => vX10_readAll_b46_3 t0  Qn h6 v0 v1 v2 v3) h4 v0 ))))) ∧ (((x5 : Int32) = 0) → (gi h4 v0 13 3 (fun x7 => Qn x7 h4)))) h v0 )))
set_option maxRecDepth 100000 in
set_option maxHeartbeats 4000000 in
theorem tX10_readAll_b21_3 {p : Program} {l : Launch} {e : Env} {s : State} {m : MethodId} {args : Array Value} {below : List Frame} {meth : Method} {c : Code} {G : gG} {A : Nat → Prop} {Qn : Int32 → gH → Prop} (X : gC p l s m args meth c G A cX10_readAll 5 (some FieldType.int) RX10)   {h : gH} {v0 : Nat} {v1 : Int32} {v2 : Int32} {v3 : Int32} (w : vX10_readAll_b21_3 G.2.2.1  Qn h v0 v1 v2 v3) : V p l e rmX10_readAll s m args below meth c (MQ below (va_Qi Qn (gB G A) A) args s rmX10_readAll.cells rmX10_readAll.slots A) G A 5 h 15 255 21 [(0, .ref v0), (1, .int v1), (2, .int v2), (3, .int v3)] [] := by
  refine V_iload_n X dX10_readAll_21 3 rfl ?_
  refine V_iload_n X dX10_readAll_22 2 rfl ?_
  obtain ⟨w1, w2⟩ := w
  refine V_icmp_ge (tgt := 88) X dX10_readAll_23 (by decide) (fun z => ?_) (fun z => ?_)
  · replace w := w1 z
    clear w1 w2
    refine V_aloadr_n X dX10_readAll_88 0 rfl ?_
    obtain ⟨fs, hh, w⟩ := w
    refine V_callVi (As := []) (rest := []) (k1 := 15) (n1 := 255) X (cX10_nextByte_ok X.2.2.2.2.2.2.2.2.1 w) lkX10_55 hh (q9 := (RX10, TX10, 5)) rfl rfl dX10_readAll_89 ⟨Nat.le_of_ble_eq_true rfl, Nat.le_of_ble_eq_true rfl⟩ rfl (Nat.le_of_ble_eq_true rfl) ⟨Nat.le_of_ble_eq_true rfl, Nat.le_of_ble_eq_true rfl⟩ (Nat.le_of_ble_eq_true rfl) (Nat.le_of_ble_eq_true rfl) (fun x2 h1 w9 => ?_)
    replace w := w9
    clear w9
    refine V_pop X dX10_readAll_92 rfl ?_
    refine V_aloadr_n X dX10_readAll_93 0 rfl ?_
    obtain ⟨fs, x3, hh, hv, w⟩ := w
    refine V_get X flX10_34 dX10_readAll_94 hh hv ?_
    exact V_iret X rfl dX10_readAll_97 (Nat.le_of_ble_eq_true rfl) (Nat.le_of_ble_eq_true rfl) w
  · replace w := w2 z
    clear w1 w2
    refine V_aloadr_n X dX10_readAll_26 0 rfl ?_
    obtain ⟨fs, hh, w⟩ := w
    refine V_callVi (As := []) (rest := []) (k1 := 15) (n1 := 255) X (cX10_readTransition_ok X.2.2.2.2.2.2.2.2.1 w) lkX10_48 hh (q9 := (RX10, TX10, 5)) rfl rfl dX10_readAll_27 ⟨Nat.le_of_ble_eq_true rfl, Nat.le_of_ble_eq_true rfl⟩ rfl (Nat.le_of_ble_eq_true rfl) ⟨Nat.le_of_ble_eq_true rfl, Nat.le_of_ble_eq_true rfl⟩ (Nat.le_of_ble_eq_true rfl) (Nat.le_of_ble_eq_true rfl) (fun x5 h4 w9 => ?_)
    replace w := w9
    clear w9
    obtain ⟨w1, w2⟩ := w
    refine V_if_ne (tgt := 38) X dX10_readAll_30 (by decide) (fun z => ?_) (fun z => ?_)
    · replace w := w1 z
      clear w1 w2
      refine V_iload_n X dX10_readAll_38 1 rfl ?_
      obtain ⟨w1, w2⟩ := w
      refine V_if_eq (tgt := 46) X dX10_readAll_39 (by decide) (fun z => ?_) (fun z => ?_)
      · replace w := w1 z
        clear w1 w2
        exact V.widen (k1 := 20) (n1 := 340) (Nat.le_of_ble_eq_true rfl) (Nat.le_of_ble_eq_true rfl) <| V.sub [0, 1, 2, 3] rfl (tX10_readAll_b46_3 X  w)
      · replace w := w2 z
        clear w1 w2
        refine V_aloadr_n X dX10_readAll_42 0 rfl ?_
        obtain ⟨fs, hh, w⟩ := w
        refine V_callVv (As := []) (rest := []) (k1 := 20) (n1 := 340) X (cX10_addDraft_ok X.2.2.2.2.2.2.2.2.1 w) lkX10_52 hh (q9 := (RX10, TX10, 5)) rfl rfl dX10_readAll_43 ⟨Nat.le_of_ble_eq_true rfl, Nat.le_of_ble_eq_true rfl⟩ rfl (Nat.le_of_ble_eq_true rfl) ⟨Nat.le_of_ble_eq_true rfl, Nat.le_of_ble_eq_true rfl⟩ (Nat.le_of_ble_eq_true rfl) (Nat.le_of_ble_eq_true rfl) (fun h6 w9 => ?_)
        replace w := w9
        clear w9
        exact V.sub [0, 1, 2, 3] rfl (tX10_readAll_b46_3 X  w)
    · replace w := w2 z
      clear w1 w2
      refine V_aloadr_n X dX10_readAll_33 0 rfl ?_
      obtain ⟨fs, x7, hh, hv, w⟩ := w
      refine V_get X flX10_34 dX10_readAll_34 hh hv ?_
      exact V_iret X rfl dX10_readAll_37 (Nat.le_of_ble_eq_true rfl) (Nat.le_of_ble_eq_true rfl) w
def vX10_readAll_b46_2 (t0 : Nat)  (Qn : Int32 → gH → Prop) (h : gH) (v0 : Nat) (v1 : Int32) (v2 : Int32) (v3 : Int32) : Prop := io h v0 13 (vX10_nextByte t0 (fun x2 h1 => ((¬ (x2 : Int32) = (-1)) → ((((x2 : Int32) = 59) → (gi h1 v0 13 3 (fun x3 => pv h1 v0 13 3 (.int (x3 + 1)) (fun h4 => vX10_readAll_b21_3 t0  Qn h4 v0 v1 v2 (v3 + 1))))) ∧ ((¬ (x2 : Int32) = 59) → (gi h1 v0 13 3 (fun x5 => Qn x5 h1))))) ∧ (((x2 : Int32) = (-1)) → (Qn (-1) h1))) h v0 )
set_option maxRecDepth 100000 in
set_option maxHeartbeats 4000000 in
theorem tX10_readAll_b46_2 {p : Program} {l : Launch} {e : Env} {s : State} {m : MethodId} {args : Array Value} {below : List Frame} {meth : Method} {c : Code} {G : gG} {A : Nat → Prop} {Qn : Int32 → gH → Prop} (X : gC p l s m args meth c G A cX10_readAll 5 (some FieldType.int) RX10)   {h : gH} {v0 : Nat} {v1 : Int32} {v2 : Int32} {v3 : Int32} (w : vX10_readAll_b46_2 G.2.2.1  Qn h v0 v1 v2 v3) : V p l e rmX10_readAll s m args below meth c (MQ below (va_Qi Qn (gB G A) A) args s rmX10_readAll.cells rmX10_readAll.slots A) G A 5 h 15 255 46 [(0, .ref v0), (1, .int v1), (2, .int v2), (3, .int v3)] [] := by
  refine V_aloadr_n X dX10_readAll_46 0 rfl ?_
  obtain ⟨fs, hh, w⟩ := w
  refine V_callVi (As := []) (rest := []) (k1 := 15) (n1 := 255) X (cX10_nextByte_ok X.2.2.2.2.2.2.2.2.1 w) lkX10_55 hh (q9 := (RX10, TX10, 5)) rfl rfl dX10_readAll_47 ⟨Nat.le_of_ble_eq_true rfl, Nat.le_of_ble_eq_true rfl⟩ rfl (Nat.le_of_ble_eq_true rfl) ⟨Nat.le_of_ble_eq_true rfl, Nat.le_of_ble_eq_true rfl⟩ (Nat.le_of_ble_eq_true rfl) (Nat.le_of_ble_eq_true rfl) (fun x2 h1 w9 => ?_)
  replace w := w9
  clear w9
  refine V_istore X dX10_readAll_50 (by decide) rfl ?_
  refine V_iload X dX10_readAll_52 0 rfl ?_
  refine V_iconst (y := (-1)) X dX10_readAll_54 (by decide) ?_
  obtain ⟨w1, w2⟩ := w
  refine V_icmp_ne (tgt := 60) X dX10_readAll_55 (by decide) (fun z => ?_) (fun z => ?_)
  · replace w := w1 z
    clear w1 w2
    refine V_iload X dX10_readAll_60 0 rfl ?_
    refine V_bipush (y := 59) X dX10_readAll_62 (by decide) ?_
    obtain ⟨w1, w2⟩ := w
    refine V_icmp_eq (tgt := 72) X dX10_readAll_64 (by decide) (fun z => ?_) (fun z => ?_)
    · replace w := w1 z
      clear w1 w2
      refine V_aloadr_n X dX10_readAll_72 1 rfl ?_
      refine V_dup X dX10_readAll_73 rfl ?_
      obtain ⟨fs, x3, hh, hv, w⟩ := w
      refine V_get X flX10_34 dX10_readAll_74 hh hv ?_
      refine V_iconst (y := 1) X dX10_readAll_77 (by decide) ?_
      refine V_iadd X dX10_readAll_78 ?_
      obtain ⟨fs, hh, hv, w⟩ := w
      refine V_put X flX10_34 dX10_readAll_79 hh hv rfl rfl ?_
      generalize va_up _ _ _ = h4 at w ⊢
      refine V_iinc (y := (v3 + 1)) X dX10_readAll_82 4 rfl (by first | rfl | (congr 1)) (by decide) rfl ?_
      refine V_goto (tgt := 21) X dX10_readAll_85 (by decide) ?_
      exact V.sub [2, 3, 4, 0] rfl (tX10_readAll_b21_3 X  w)
    · replace w := w2 z
      clear w1 w2
      refine V_aloadr_n X dX10_readAll_67 1 rfl ?_
      obtain ⟨fs, x5, hh, hv, w⟩ := w
      refine V_get X flX10_34 dX10_readAll_68 hh hv ?_
      exact V_iret X rfl dX10_readAll_71 (Nat.le_of_ble_eq_true rfl) (Nat.le_of_ble_eq_true rfl) w
  · replace w := w2 z
    clear w1 w2
    refine V_iconst (y := (-1)) X dX10_readAll_58 (by decide) ?_
    exact V_iret X rfl dX10_readAll_59 (Nat.le_of_ble_eq_true rfl) (Nat.le_of_ble_eq_true rfl) w
def vX10_readAll_b21_2 (t0 : Nat)  (Qn : Int32 → gH → Prop) (h : gH) (v0 : Nat) (v1 : Int32) (v2 : Int32) (v3 : Int32) : Prop := ((v2 ≤ (v3 : Int32)) → (io h v0 13 (vX10_nextByte t0 (fun x2 h1 => gi h1 v0 13 3 (fun x3 => Qn x3 h1)) h v0 ))) ∧ ((¬ v2 ≤ (v3 : Int32)) → (io h v0 13 (vX10_readTransition t0 (fun x5 h4 => ((¬ (x5 : Int32) = 0) → ((((v1 : Int32) = 0) → (vX10_readAll_b46_2 t0  Qn h4 v0 v1 v2 v3)) ∧ ((¬ (v1 : Int32) = 0) → (io h4 v0 13 (vX10_addDraft t0 (fun h6 => vX10_readAll_b46_2 t0  Qn h6 v0 v1 v2 v3) h4 v0 ))))) ∧ (((x5 : Int32) = 0) → (gi h4 v0 13 3 (fun x7 => Qn x7 h4)))) h v0 )))
set_option maxRecDepth 100000 in
set_option maxHeartbeats 4000000 in
theorem tX10_readAll_b21_2 {p : Program} {l : Launch} {e : Env} {s : State} {m : MethodId} {args : Array Value} {below : List Frame} {meth : Method} {c : Code} {G : gG} {A : Nat → Prop} {Qn : Int32 → gH → Prop} (X : gC p l s m args meth c G A cX10_readAll 5 (some FieldType.int) RX10)   {h : gH} {v0 : Nat} {v1 : Int32} {v2 : Int32} {v3 : Int32} (w : vX10_readAll_b21_2 G.2.2.1  Qn h v0 v1 v2 v3) : V p l e rmX10_readAll s m args below meth c (MQ below (va_Qi Qn (gB G A) A) args s rmX10_readAll.cells rmX10_readAll.slots A) G A 5 h 10 170 21 [(0, .ref v0), (1, .int v1), (2, .int v2), (3, .int v3)] [] := by
  refine V_iload_n X dX10_readAll_21 3 rfl ?_
  refine V_iload_n X dX10_readAll_22 2 rfl ?_
  obtain ⟨w1, w2⟩ := w
  refine V_icmp_ge (tgt := 88) X dX10_readAll_23 (by decide) (fun z => ?_) (fun z => ?_)
  · replace w := w1 z
    clear w1 w2
    refine V_aloadr_n X dX10_readAll_88 0 rfl ?_
    obtain ⟨fs, hh, w⟩ := w
    refine V_callVi (As := []) (rest := []) (k1 := 10) (n1 := 170) X (cX10_nextByte_ok X.2.2.2.2.2.2.2.2.1 w) lkX10_55 hh (q9 := (RX10, TX10, 5)) rfl rfl dX10_readAll_89 ⟨Nat.le_of_ble_eq_true rfl, Nat.le_of_ble_eq_true rfl⟩ rfl (Nat.le_of_ble_eq_true rfl) ⟨Nat.le_of_ble_eq_true rfl, Nat.le_of_ble_eq_true rfl⟩ (Nat.le_of_ble_eq_true rfl) (Nat.le_of_ble_eq_true rfl) (fun x2 h1 w9 => ?_)
    replace w := w9
    clear w9
    refine V_pop X dX10_readAll_92 rfl ?_
    refine V_aloadr_n X dX10_readAll_93 0 rfl ?_
    obtain ⟨fs, x3, hh, hv, w⟩ := w
    refine V_get X flX10_34 dX10_readAll_94 hh hv ?_
    exact V_iret X rfl dX10_readAll_97 (Nat.le_of_ble_eq_true rfl) (Nat.le_of_ble_eq_true rfl) w
  · replace w := w2 z
    clear w1 w2
    refine V_aloadr_n X dX10_readAll_26 0 rfl ?_
    obtain ⟨fs, hh, w⟩ := w
    refine V_callVi (As := []) (rest := []) (k1 := 10) (n1 := 170) X (cX10_readTransition_ok X.2.2.2.2.2.2.2.2.1 w) lkX10_48 hh (q9 := (RX10, TX10, 5)) rfl rfl dX10_readAll_27 ⟨Nat.le_of_ble_eq_true rfl, Nat.le_of_ble_eq_true rfl⟩ rfl (Nat.le_of_ble_eq_true rfl) ⟨Nat.le_of_ble_eq_true rfl, Nat.le_of_ble_eq_true rfl⟩ (Nat.le_of_ble_eq_true rfl) (Nat.le_of_ble_eq_true rfl) (fun x5 h4 w9 => ?_)
    replace w := w9
    clear w9
    obtain ⟨w1, w2⟩ := w
    refine V_if_ne (tgt := 38) X dX10_readAll_30 (by decide) (fun z => ?_) (fun z => ?_)
    · replace w := w1 z
      clear w1 w2
      refine V_iload_n X dX10_readAll_38 1 rfl ?_
      obtain ⟨w1, w2⟩ := w
      refine V_if_eq (tgt := 46) X dX10_readAll_39 (by decide) (fun z => ?_) (fun z => ?_)
      · replace w := w1 z
        clear w1 w2
        exact V.widen (k1 := 15) (n1 := 255) (Nat.le_of_ble_eq_true rfl) (Nat.le_of_ble_eq_true rfl) <| V.sub [0, 1, 2, 3] rfl (tX10_readAll_b46_2 X  w)
      · replace w := w2 z
        clear w1 w2
        refine V_aloadr_n X dX10_readAll_42 0 rfl ?_
        obtain ⟨fs, hh, w⟩ := w
        refine V_callVv (As := []) (rest := []) (k1 := 15) (n1 := 255) X (cX10_addDraft_ok X.2.2.2.2.2.2.2.2.1 w) lkX10_52 hh (q9 := (RX10, TX10, 5)) rfl rfl dX10_readAll_43 ⟨Nat.le_of_ble_eq_true rfl, Nat.le_of_ble_eq_true rfl⟩ rfl (Nat.le_of_ble_eq_true rfl) ⟨Nat.le_of_ble_eq_true rfl, Nat.le_of_ble_eq_true rfl⟩ (Nat.le_of_ble_eq_true rfl) (Nat.le_of_ble_eq_true rfl) (fun h6 w9 => ?_)
        replace w := w9
        clear w9
        exact V.sub [0, 1, 2, 3] rfl (tX10_readAll_b46_2 X  w)
    · replace w := w2 z
      clear w1 w2
      refine V_aloadr_n X dX10_readAll_33 0 rfl ?_
      obtain ⟨fs, x7, hh, hv, w⟩ := w
      refine V_get X flX10_34 dX10_readAll_34 hh hv ?_
      exact V_iret X rfl dX10_readAll_37 (Nat.le_of_ble_eq_true rfl) (Nat.le_of_ble_eq_true rfl) w
def vX10_readAll_b46_1 (t0 : Nat)  (Qn : Int32 → gH → Prop) (h : gH) (v0 : Nat) (v1 : Int32) (v2 : Int32) (v3 : Int32) : Prop := io h v0 13 (vX10_nextByte t0 (fun x2 h1 => ((¬ (x2 : Int32) = (-1)) → ((((x2 : Int32) = 59) → (gi h1 v0 13 3 (fun x3 => pv h1 v0 13 3 (.int (x3 + 1)) (fun h4 => vX10_readAll_b21_2 t0  Qn h4 v0 v1 v2 (v3 + 1))))) ∧ ((¬ (x2 : Int32) = 59) → (gi h1 v0 13 3 (fun x5 => Qn x5 h1))))) ∧ (((x2 : Int32) = (-1)) → (Qn (-1) h1))) h v0 )
set_option maxRecDepth 100000 in
set_option maxHeartbeats 4000000 in
theorem tX10_readAll_b46_1 {p : Program} {l : Launch} {e : Env} {s : State} {m : MethodId} {args : Array Value} {below : List Frame} {meth : Method} {c : Code} {G : gG} {A : Nat → Prop} {Qn : Int32 → gH → Prop} (X : gC p l s m args meth c G A cX10_readAll 5 (some FieldType.int) RX10)   {h : gH} {v0 : Nat} {v1 : Int32} {v2 : Int32} {v3 : Int32} (w : vX10_readAll_b46_1 G.2.2.1  Qn h v0 v1 v2 v3) : V p l e rmX10_readAll s m args below meth c (MQ below (va_Qi Qn (gB G A) A) args s rmX10_readAll.cells rmX10_readAll.slots A) G A 5 h 10 170 46 [(0, .ref v0), (1, .int v1), (2, .int v2), (3, .int v3)] [] := by
  refine V_aloadr_n X dX10_readAll_46 0 rfl ?_
  obtain ⟨fs, hh, w⟩ := w
  refine V_callVi (As := []) (rest := []) (k1 := 10) (n1 := 170) X (cX10_nextByte_ok X.2.2.2.2.2.2.2.2.1 w) lkX10_55 hh (q9 := (RX10, TX10, 5)) rfl rfl dX10_readAll_47 ⟨Nat.le_of_ble_eq_true rfl, Nat.le_of_ble_eq_true rfl⟩ rfl (Nat.le_of_ble_eq_true rfl) ⟨Nat.le_of_ble_eq_true rfl, Nat.le_of_ble_eq_true rfl⟩ (Nat.le_of_ble_eq_true rfl) (Nat.le_of_ble_eq_true rfl) (fun x2 h1 w9 => ?_)
  replace w := w9
  clear w9
  refine V_istore X dX10_readAll_50 (by decide) rfl ?_
  refine V_iload X dX10_readAll_52 0 rfl ?_
  refine V_iconst (y := (-1)) X dX10_readAll_54 (by decide) ?_
  obtain ⟨w1, w2⟩ := w
  refine V_icmp_ne (tgt := 60) X dX10_readAll_55 (by decide) (fun z => ?_) (fun z => ?_)
  · replace w := w1 z
    clear w1 w2
    refine V_iload X dX10_readAll_60 0 rfl ?_
    refine V_bipush (y := 59) X dX10_readAll_62 (by decide) ?_
    obtain ⟨w1, w2⟩ := w
    refine V_icmp_eq (tgt := 72) X dX10_readAll_64 (by decide) (fun z => ?_) (fun z => ?_)
    · replace w := w1 z
      clear w1 w2
      refine V_aloadr_n X dX10_readAll_72 1 rfl ?_
      refine V_dup X dX10_readAll_73 rfl ?_
      obtain ⟨fs, x3, hh, hv, w⟩ := w
      refine V_get X flX10_34 dX10_readAll_74 hh hv ?_
      refine V_iconst (y := 1) X dX10_readAll_77 (by decide) ?_
      refine V_iadd X dX10_readAll_78 ?_
      obtain ⟨fs, hh, hv, w⟩ := w
      refine V_put X flX10_34 dX10_readAll_79 hh hv rfl rfl ?_
      generalize va_up _ _ _ = h4 at w ⊢
      refine V_iinc (y := (v3 + 1)) X dX10_readAll_82 4 rfl (by first | rfl | (congr 1)) (by decide) rfl ?_
      refine V_goto (tgt := 21) X dX10_readAll_85 (by decide) ?_
      exact V.sub [2, 3, 4, 0] rfl (tX10_readAll_b21_2 X  w)
    · replace w := w2 z
      clear w1 w2
      refine V_aloadr_n X dX10_readAll_67 1 rfl ?_
      obtain ⟨fs, x5, hh, hv, w⟩ := w
      refine V_get X flX10_34 dX10_readAll_68 hh hv ?_
      exact V_iret X rfl dX10_readAll_71 (Nat.le_of_ble_eq_true rfl) (Nat.le_of_ble_eq_true rfl) w
  · replace w := w2 z
    clear w1 w2
    refine V_iconst (y := (-1)) X dX10_readAll_58 (by decide) ?_
    exact V_iret X rfl dX10_readAll_59 (Nat.le_of_ble_eq_true rfl) (Nat.le_of_ble_eq_true rfl) w
def vX10_readAll_b21_1 (t0 : Nat)  (Qn : Int32 → gH → Prop) (h : gH) (v0 : Nat) (v1 : Int32) (v2 : Int32) (v3 : Int32) : Prop := ((v2 ≤ (v3 : Int32)) → (io h v0 13 (vX10_nextByte t0 (fun x2 h1 => gi h1 v0 13 3 (fun x3 => Qn x3 h1)) h v0 ))) ∧ ((¬ v2 ≤ (v3 : Int32)) → (io h v0 13 (vX10_readTransition t0 (fun x5 h4 => ((¬ (x5 : Int32) = 0) → ((((v1 : Int32) = 0) → (vX10_readAll_b46_1 t0  Qn h4 v0 v1 v2 v3)) ∧ ((¬ (v1 : Int32) = 0) → (io h4 v0 13 (vX10_addDraft t0 (fun h6 => vX10_readAll_b46_1 t0  Qn h6 v0 v1 v2 v3) h4 v0 ))))) ∧ (((x5 : Int32) = 0) → (gi h4 v0 13 3 (fun x7 => Qn x7 h4)))) h v0 )))
set_option maxRecDepth 100000 in
set_option maxHeartbeats 4000000 in
theorem tX10_readAll_b21_1 {p : Program} {l : Launch} {e : Env} {s : State} {m : MethodId} {args : Array Value} {below : List Frame} {meth : Method} {c : Code} {G : gG} {A : Nat → Prop} {Qn : Int32 → gH → Prop} (X : gC p l s m args meth c G A cX10_readAll 5 (some FieldType.int) RX10)   {h : gH} {v0 : Nat} {v1 : Int32} {v2 : Int32} {v3 : Int32} (w : vX10_readAll_b21_1 G.2.2.1  Qn h v0 v1 v2 v3) : V p l e rmX10_readAll s m args below meth c (MQ below (va_Qi Qn (gB G A) A) args s rmX10_readAll.cells rmX10_readAll.slots A) G A 5 h 5 85 21 [(0, .ref v0), (1, .int v1), (2, .int v2), (3, .int v3)] [] := by
  refine V_iload_n X dX10_readAll_21 3 rfl ?_
  refine V_iload_n X dX10_readAll_22 2 rfl ?_
  obtain ⟨w1, w2⟩ := w
  refine V_icmp_ge (tgt := 88) X dX10_readAll_23 (by decide) (fun z => ?_) (fun z => ?_)
  · replace w := w1 z
    clear w1 w2
    refine V_aloadr_n X dX10_readAll_88 0 rfl ?_
    obtain ⟨fs, hh, w⟩ := w
    refine V_callVi (As := []) (rest := []) (k1 := 5) (n1 := 85) X (cX10_nextByte_ok X.2.2.2.2.2.2.2.2.1 w) lkX10_55 hh (q9 := (RX10, TX10, 5)) rfl rfl dX10_readAll_89 ⟨Nat.le_of_ble_eq_true rfl, Nat.le_of_ble_eq_true rfl⟩ rfl (Nat.le_of_ble_eq_true rfl) ⟨Nat.le_of_ble_eq_true rfl, Nat.le_of_ble_eq_true rfl⟩ (Nat.le_of_ble_eq_true rfl) (Nat.le_of_ble_eq_true rfl) (fun x2 h1 w9 => ?_)
    replace w := w9
    clear w9
    refine V_pop X dX10_readAll_92 rfl ?_
    refine V_aloadr_n X dX10_readAll_93 0 rfl ?_
    obtain ⟨fs, x3, hh, hv, w⟩ := w
    refine V_get X flX10_34 dX10_readAll_94 hh hv ?_
    exact V_iret X rfl dX10_readAll_97 (Nat.le_of_ble_eq_true rfl) (Nat.le_of_ble_eq_true rfl) w
  · replace w := w2 z
    clear w1 w2
    refine V_aloadr_n X dX10_readAll_26 0 rfl ?_
    obtain ⟨fs, hh, w⟩ := w
    refine V_callVi (As := []) (rest := []) (k1 := 5) (n1 := 85) X (cX10_readTransition_ok X.2.2.2.2.2.2.2.2.1 w) lkX10_48 hh (q9 := (RX10, TX10, 5)) rfl rfl dX10_readAll_27 ⟨Nat.le_of_ble_eq_true rfl, Nat.le_of_ble_eq_true rfl⟩ rfl (Nat.le_of_ble_eq_true rfl) ⟨Nat.le_of_ble_eq_true rfl, Nat.le_of_ble_eq_true rfl⟩ (Nat.le_of_ble_eq_true rfl) (Nat.le_of_ble_eq_true rfl) (fun x5 h4 w9 => ?_)
    replace w := w9
    clear w9
    obtain ⟨w1, w2⟩ := w
    refine V_if_ne (tgt := 38) X dX10_readAll_30 (by decide) (fun z => ?_) (fun z => ?_)
    · replace w := w1 z
      clear w1 w2
      refine V_iload_n X dX10_readAll_38 1 rfl ?_
      obtain ⟨w1, w2⟩ := w
      refine V_if_eq (tgt := 46) X dX10_readAll_39 (by decide) (fun z => ?_) (fun z => ?_)
      · replace w := w1 z
        clear w1 w2
        exact V.widen (k1 := 10) (n1 := 170) (Nat.le_of_ble_eq_true rfl) (Nat.le_of_ble_eq_true rfl) <| V.sub [0, 1, 2, 3] rfl (tX10_readAll_b46_1 X  w)
      · replace w := w2 z
        clear w1 w2
        refine V_aloadr_n X dX10_readAll_42 0 rfl ?_
        obtain ⟨fs, hh, w⟩ := w
        refine V_callVv (As := []) (rest := []) (k1 := 10) (n1 := 170) X (cX10_addDraft_ok X.2.2.2.2.2.2.2.2.1 w) lkX10_52 hh (q9 := (RX10, TX10, 5)) rfl rfl dX10_readAll_43 ⟨Nat.le_of_ble_eq_true rfl, Nat.le_of_ble_eq_true rfl⟩ rfl (Nat.le_of_ble_eq_true rfl) ⟨Nat.le_of_ble_eq_true rfl, Nat.le_of_ble_eq_true rfl⟩ (Nat.le_of_ble_eq_true rfl) (Nat.le_of_ble_eq_true rfl) (fun h6 w9 => ?_)
        replace w := w9
        clear w9
        exact V.sub [0, 1, 2, 3] rfl (tX10_readAll_b46_1 X  w)
    · replace w := w2 z
      clear w1 w2
      refine V_aloadr_n X dX10_readAll_33 0 rfl ?_
      obtain ⟨fs, x7, hh, hv, w⟩ := w
      refine V_get X flX10_34 dX10_readAll_34 hh hv ?_
      exact V_iret X rfl dX10_readAll_37 (Nat.le_of_ble_eq_true rfl) (Nat.le_of_ble_eq_true rfl) w
def vX10_readAll_b46_0 (t0 : Nat)  (Qn : Int32 → gH → Prop) (h : gH) (v0 : Nat) (v1 : Int32) (v2 : Int32) (v3 : Int32) : Prop := io h v0 13 (vX10_nextByte t0 (fun x2 h1 => ((¬ (x2 : Int32) = (-1)) → ((((x2 : Int32) = 59) → (gi h1 v0 13 3 (fun x3 => pv h1 v0 13 3 (.int (x3 + 1)) (fun h4 => vX10_readAll_b21_1 t0  Qn h4 v0 v1 v2 (v3 + 1))))) ∧ ((¬ (x2 : Int32) = 59) → (gi h1 v0 13 3 (fun x5 => Qn x5 h1))))) ∧ (((x2 : Int32) = (-1)) → (Qn (-1) h1))) h v0 )
set_option maxRecDepth 100000 in
set_option maxHeartbeats 4000000 in
theorem tX10_readAll_b46_0 {p : Program} {l : Launch} {e : Env} {s : State} {m : MethodId} {args : Array Value} {below : List Frame} {meth : Method} {c : Code} {G : gG} {A : Nat → Prop} {Qn : Int32 → gH → Prop} (X : gC p l s m args meth c G A cX10_readAll 5 (some FieldType.int) RX10)   {h : gH} {v0 : Nat} {v1 : Int32} {v2 : Int32} {v3 : Int32} (w : vX10_readAll_b46_0 G.2.2.1  Qn h v0 v1 v2 v3) : V p l e rmX10_readAll s m args below meth c (MQ below (va_Qi Qn (gB G A) A) args s rmX10_readAll.cells rmX10_readAll.slots A) G A 5 h 5 85 46 [(0, .ref v0), (1, .int v1), (2, .int v2), (3, .int v3)] [] := by
  refine V_aloadr_n X dX10_readAll_46 0 rfl ?_
  obtain ⟨fs, hh, w⟩ := w
  refine V_callVi (As := []) (rest := []) (k1 := 5) (n1 := 85) X (cX10_nextByte_ok X.2.2.2.2.2.2.2.2.1 w) lkX10_55 hh (q9 := (RX10, TX10, 5)) rfl rfl dX10_readAll_47 ⟨Nat.le_of_ble_eq_true rfl, Nat.le_of_ble_eq_true rfl⟩ rfl (Nat.le_of_ble_eq_true rfl) ⟨Nat.le_of_ble_eq_true rfl, Nat.le_of_ble_eq_true rfl⟩ (Nat.le_of_ble_eq_true rfl) (Nat.le_of_ble_eq_true rfl) (fun x2 h1 w9 => ?_)
  replace w := w9
  clear w9
  refine V_istore X dX10_readAll_50 (by decide) rfl ?_
  refine V_iload X dX10_readAll_52 0 rfl ?_
  refine V_iconst (y := (-1)) X dX10_readAll_54 (by decide) ?_
  obtain ⟨w1, w2⟩ := w
  refine V_icmp_ne (tgt := 60) X dX10_readAll_55 (by decide) (fun z => ?_) (fun z => ?_)
  · replace w := w1 z
    clear w1 w2
    refine V_iload X dX10_readAll_60 0 rfl ?_
    refine V_bipush (y := 59) X dX10_readAll_62 (by decide) ?_
    obtain ⟨w1, w2⟩ := w
    refine V_icmp_eq (tgt := 72) X dX10_readAll_64 (by decide) (fun z => ?_) (fun z => ?_)
    · replace w := w1 z
      clear w1 w2
      refine V_aloadr_n X dX10_readAll_72 1 rfl ?_
      refine V_dup X dX10_readAll_73 rfl ?_
      obtain ⟨fs, x3, hh, hv, w⟩ := w
      refine V_get X flX10_34 dX10_readAll_74 hh hv ?_
      refine V_iconst (y := 1) X dX10_readAll_77 (by decide) ?_
      refine V_iadd X dX10_readAll_78 ?_
      obtain ⟨fs, hh, hv, w⟩ := w
      refine V_put X flX10_34 dX10_readAll_79 hh hv rfl rfl ?_
      generalize va_up _ _ _ = h4 at w ⊢
      refine V_iinc (y := (v3 + 1)) X dX10_readAll_82 4 rfl (by first | rfl | (congr 1)) (by decide) rfl ?_
      refine V_goto (tgt := 21) X dX10_readAll_85 (by decide) ?_
      exact V.sub [2, 3, 4, 0] rfl (tX10_readAll_b21_1 X  w)
    · replace w := w2 z
      clear w1 w2
      refine V_aloadr_n X dX10_readAll_67 1 rfl ?_
      obtain ⟨fs, x5, hh, hv, w⟩ := w
      refine V_get X flX10_34 dX10_readAll_68 hh hv ?_
      exact V_iret X rfl dX10_readAll_71 (Nat.le_of_ble_eq_true rfl) (Nat.le_of_ble_eq_true rfl) w
  · replace w := w2 z
    clear w1 w2
    refine V_iconst (y := (-1)) X dX10_readAll_58 (by decide) ?_
    exact V_iret X rfl dX10_readAll_59 (Nat.le_of_ble_eq_true rfl) (Nat.le_of_ble_eq_true rfl) w
def vX10_readAll_b21_0 (t0 : Nat)  (Qn : Int32 → gH → Prop) (h : gH) (v0 : Nat) (v1 : Int32) (v2 : Int32) (v3 : Int32) : Prop := ((v2 ≤ (v3 : Int32)) → (io h v0 13 (vX10_nextByte t0 (fun x2 h1 => gi h1 v0 13 3 (fun x3 => Qn x3 h1)) h v0 ))) ∧ ((¬ v2 ≤ (v3 : Int32)) → (io h v0 13 (vX10_readTransition t0 (fun x5 h4 => ((¬ (x5 : Int32) = 0) → ((((v1 : Int32) = 0) → (vX10_readAll_b46_0 t0  Qn h4 v0 v1 v2 v3)) ∧ ((¬ (v1 : Int32) = 0) → (io h4 v0 13 (vX10_addDraft t0 (fun h6 => vX10_readAll_b46_0 t0  Qn h6 v0 v1 v2 v3) h4 v0 ))))) ∧ (((x5 : Int32) = 0) → (gi h4 v0 13 3 (fun x7 => Qn x7 h4)))) h v0 )))
set_option maxRecDepth 100000 in
set_option maxHeartbeats 4000000 in
theorem tX10_readAll_b21_0 {p : Program} {l : Launch} {e : Env} {s : State} {m : MethodId} {args : Array Value} {below : List Frame} {meth : Method} {c : Code} {G : gG} {A : Nat → Prop} {Qn : Int32 → gH → Prop} (X : gC p l s m args meth c G A cX10_readAll 5 (some FieldType.int) RX10)   {h : gH} {v0 : Nat} {v1 : Int32} {v2 : Int32} {v3 : Int32} (w : vX10_readAll_b21_0 G.2.2.1  Qn h v0 v1 v2 v3) : V p l e rmX10_readAll s m args below meth c (MQ below (va_Qi Qn (gB G A) A) args s rmX10_readAll.cells rmX10_readAll.slots A) G A 5 h 0 0 21 [(0, .ref v0), (1, .int v1), (2, .int v2), (3, .int v3)] [] := by
  refine V_iload_n X dX10_readAll_21 3 rfl ?_
  refine V_iload_n X dX10_readAll_22 2 rfl ?_
  obtain ⟨w1, w2⟩ := w
  refine V_icmp_ge (tgt := 88) X dX10_readAll_23 (by decide) (fun z => ?_) (fun z => ?_)
  · replace w := w1 z
    clear w1 w2
    refine V_aloadr_n X dX10_readAll_88 0 rfl ?_
    obtain ⟨fs, hh, w⟩ := w
    refine V_callVi (As := []) (rest := []) (k1 := 0) (n1 := 0) X (cX10_nextByte_ok X.2.2.2.2.2.2.2.2.1 w) lkX10_55 hh (q9 := (RX10, TX10, 5)) rfl rfl dX10_readAll_89 ⟨Nat.le_of_ble_eq_true rfl, Nat.le_of_ble_eq_true rfl⟩ rfl (Nat.le_of_ble_eq_true rfl) ⟨Nat.le_of_ble_eq_true rfl, Nat.le_of_ble_eq_true rfl⟩ (Nat.le_of_ble_eq_true rfl) (Nat.le_of_ble_eq_true rfl) (fun x2 h1 w9 => ?_)
    replace w := w9
    clear w9
    refine V_pop X dX10_readAll_92 rfl ?_
    refine V_aloadr_n X dX10_readAll_93 0 rfl ?_
    obtain ⟨fs, x3, hh, hv, w⟩ := w
    refine V_get X flX10_34 dX10_readAll_94 hh hv ?_
    exact V_iret X rfl dX10_readAll_97 (Nat.le_of_ble_eq_true rfl) (Nat.le_of_ble_eq_true rfl) w
  · replace w := w2 z
    clear w1 w2
    refine V_aloadr_n X dX10_readAll_26 0 rfl ?_
    obtain ⟨fs, hh, w⟩ := w
    refine V_callVi (As := []) (rest := []) (k1 := 0) (n1 := 0) X (cX10_readTransition_ok X.2.2.2.2.2.2.2.2.1 w) lkX10_48 hh (q9 := (RX10, TX10, 5)) rfl rfl dX10_readAll_27 ⟨Nat.le_of_ble_eq_true rfl, Nat.le_of_ble_eq_true rfl⟩ rfl (Nat.le_of_ble_eq_true rfl) ⟨Nat.le_of_ble_eq_true rfl, Nat.le_of_ble_eq_true rfl⟩ (Nat.le_of_ble_eq_true rfl) (Nat.le_of_ble_eq_true rfl) (fun x5 h4 w9 => ?_)
    replace w := w9
    clear w9
    obtain ⟨w1, w2⟩ := w
    refine V_if_ne (tgt := 38) X dX10_readAll_30 (by decide) (fun z => ?_) (fun z => ?_)
    · replace w := w1 z
      clear w1 w2
      refine V_iload_n X dX10_readAll_38 1 rfl ?_
      obtain ⟨w1, w2⟩ := w
      refine V_if_eq (tgt := 46) X dX10_readAll_39 (by decide) (fun z => ?_) (fun z => ?_)
      · replace w := w1 z
        clear w1 w2
        exact V.widen (k1 := 5) (n1 := 85) (Nat.le_of_ble_eq_true rfl) (Nat.le_of_ble_eq_true rfl) <| V.sub [0, 1, 2, 3] rfl (tX10_readAll_b46_0 X  w)
      · replace w := w2 z
        clear w1 w2
        refine V_aloadr_n X dX10_readAll_42 0 rfl ?_
        obtain ⟨fs, hh, w⟩ := w
        refine V_callVv (As := []) (rest := []) (k1 := 5) (n1 := 85) X (cX10_addDraft_ok X.2.2.2.2.2.2.2.2.1 w) lkX10_52 hh (q9 := (RX10, TX10, 5)) rfl rfl dX10_readAll_43 ⟨Nat.le_of_ble_eq_true rfl, Nat.le_of_ble_eq_true rfl⟩ rfl (Nat.le_of_ble_eq_true rfl) ⟨Nat.le_of_ble_eq_true rfl, Nat.le_of_ble_eq_true rfl⟩ (Nat.le_of_ble_eq_true rfl) (Nat.le_of_ble_eq_true rfl) (fun h6 w9 => ?_)
        replace w := w9
        clear w9
        exact V.sub [0, 1, 2, 3] rfl (tX10_readAll_b46_0 X  w)
    · replace w := w2 z
      clear w1 w2
      refine V_aloadr_n X dX10_readAll_33 0 rfl ?_
      obtain ⟨fs, x7, hh, hv, w⟩ := w
      refine V_get X flX10_34 dX10_readAll_34 hh hv ?_
      exact V_iret X rfl dX10_readAll_37 (Nat.le_of_ble_eq_true rfl) (Nat.le_of_ble_eq_true rfl) w
def vX10_readAll (t0 : Nat)  (Qn : Int32 → gH → Prop) (h : gH) (v0 : Nat) (v1 : Int32) : Prop := pv h v0 13 3 (.int 0) (fun h1 => gr h1 v0 13 0 (fun r2 => nn r2 (fun a3 => gr h1 a3 7 5 (fun r4 => nn r4 (fun a5 => io h1 a5 2 (vJx4a65c_size_8abf5 t0 (fun x7 h6 => vX10_readAll_b21_0 t0  Qn h6 v0 v1 (24 - x7) 0) h1 a5 ))))))
set_option maxRecDepth 100000 in
set_option maxHeartbeats 4000000 in
theorem tX10_readAll {p : Program} {l : Launch} {e : Env} {s : State} {m : MethodId} {args : Array Value} {below : List Frame} {meth : Method} {c : Code} {G : gG} {A : Nat → Prop} {Qn : Int32 → gH → Prop} (X : gC p l s m args meth c G A cX10_readAll 5 (some FieldType.int) RX10)   {h : gH} {v0 : Nat} {v1 : Int32} (w : vX10_readAll G.2.2.1  Qn h v0 v1) : V p l e rmX10_readAll s m args below meth c (MQ below (va_Qi Qn (gB G A) A) args s rmX10_readAll.cells rmX10_readAll.slots A) G A 5 h 0 0 0 [(0, .ref v0), (1, .int v1)] [] := by
  refine V_aloadr_n X dX10_readAll_0 0 rfl ?_
  refine V_iconst (y := 0) X dX10_readAll_1 (by decide) ?_
  obtain ⟨fs, hh, hv, w⟩ := w
  refine V_put X flX10_34 dX10_readAll_2 hh hv rfl rfl ?_
  generalize va_up _ _ _ = h1 at w ⊢
  refine V_bipush (y := 24) X dX10_readAll_5 (by decide) ?_
  refine V_aloadr_n X dX10_readAll_7 0 rfl ?_
  obtain ⟨fs, r2, hh, hv, w⟩ := w
  refine V_get X flX10_15 dX10_readAll_8 hh hv ?_
  obtain ⟨a3, rfl, w⟩ := w
  obtain ⟨fs, r4, hh, hv, w⟩ := w
  refine V_get3 X frX10_38 dX10_readAll_11 hh hv ?_
  obtain ⟨a5, rfl, w⟩ := w
  obtain ⟨fs, hh, w⟩ := w
  refine V_callVi (As := []) (rest := [.int 24]) (k1 := 0) (n1 := 0) X (cJx4a65c_size_8abf5_ok X.2.2.2.2.2.2.2.2.1 w) lkX10_42 hh (q9 := (RJx4a65c, TJx4a65c, 3)) rfl rfl dX10_readAll_14 ⟨Nat.le_of_ble_eq_true rfl, Nat.le_of_ble_eq_true rfl⟩ rfl (Nat.le_of_ble_eq_true rfl) ⟨Nat.le_of_ble_eq_true rfl, Nat.le_of_ble_eq_true rfl⟩ (Nat.le_of_ble_eq_true rfl) (Nat.le_of_ble_eq_true rfl) (fun x7 h6 w9 => ?_)
  replace w := w9
  clear w9
  refine V_isub X dX10_readAll_17 ?_
  refine V_istore_n (i0 := 2) X dX10_readAll_18 rfl (by decide) rfl ?_
  refine V_iconst (y := 0) X dX10_readAll_19 (by decide) ?_
  refine V_istore_n (i0 := 3) X dX10_readAll_20 rfl (by decide) rfl ?_
  exact V.sub [2, 3, 1, 0] rfl (tX10_readAll_b21_0 X  w)
theorem cX10_readAll_ok {l : Launch} {G : gG} {h : gH} (hls : l.stackTraces = false) {Qn : Int32 → gH → Prop} {v0 : Nat} {v1 : Int32} (w : vX10_readAll G.2.2.1 Qn h v0 v1) : gMi l yX10_readAll cX10_readAll 5 (some FieldType.int) rmX10_readAll rmX10_readAll.cells rmX10_readAll.slots G h [.ref v0, .int v1] Qn := by
  exact gMi.of (by decide +kernel) hls (Nat.le_of_ble_eq_true rfl) rfl rfl (fun p e s m below meth c A X hnm => tX10_readAll X w)
