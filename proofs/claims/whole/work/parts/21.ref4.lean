/-! AnimationControllerModel.listOf(I)I -/
abbrev rmX12_listOf : Room := { frames := 3, cells := 0, slots := 0, locals := 66 }
def vX12_listOf_b159  (Qn : Int32 → gH → Prop) (h : gH) (s0 : Int32) : Prop := Qn s0 h
set_option maxRecDepth 100000 in
set_option maxHeartbeats 4000000 in
theorem tX12_listOf_b159 {p : Program} {l : Launch} {e : Env} {s : State} {m : MethodId} {args : Array Value} {below : List Frame} {meth : Method} {c : Code} {G : gG} {A : Nat → Prop} {Qn : Int32 → gH → Prop} (X : gC p l s m args meth c G A cX12_listOf 5 (some FieldType.int) RX12)   {h : gH} {s0 : Int32} (w : vX12_listOf_b159  Qn h s0) : V p l e rmX12_listOf s m args below meth c (MQ below (va_Qi Qn (gB G A) A) args s rmX12_listOf.cells rmX12_listOf.slots A) G A 5 h 0 0 159 [] [.int s0] := by
  exact V_iret X rfl dX12_listOf_159 (Nat.le_of_ble_eq_true rfl) (Nat.le_of_ble_eq_true rfl) w
def vX12_listOf_b140  (Qn : Int32 → gH → Prop) (h : gH) (s0 : Int32) : Prop := Qn s0 h
set_option maxRecDepth 100000 in
set_option maxHeartbeats 4000000 in
theorem tX12_listOf_b140 {p : Program} {l : Launch} {e : Env} {s : State} {m : MethodId} {args : Array Value} {below : List Frame} {meth : Method} {c : Code} {G : gG} {A : Nat → Prop} {Qn : Int32 → gH → Prop} (X : gC p l s m args meth c G A cX12_listOf 5 (some FieldType.int) RX12)   {h : gH} {s0 : Int32} (w : vX12_listOf_b140  Qn h s0) : V p l e rmX12_listOf s m args below meth c (MQ below (va_Qi Qn (gB G A) A) args s rmX12_listOf.cells rmX12_listOf.slots A) G A 5 h 0 0 140 [] [.int s0] := by
  exact V_iret X rfl dX12_listOf_140 (Nat.le_of_ble_eq_true rfl) (Nat.le_of_ble_eq_true rfl) w
def vX12_listOf_b115  (Qn : Int32 → gH → Prop) (h : gH) (v2 : Int32) (v3 : Int32) (s0 : Int32) : Prop := ((¬ (v2 : Int32) = 4) → ((((v3 : Int32) = 0) → ((((s0 : Int32) = 0) → (vX12_listOf_b159  Qn h 0)) ∧ ((¬ (s0 : Int32) = 0) → (vX12_listOf_b159  Qn h 2)))) ∧ ((¬ (v3 : Int32) = 0) → (vX12_listOf_b159  Qn h 1)))) ∧ (((v2 : Int32) = 4) → ((((s0 : Int32) = 0) → ((((v3 : Int32) = 0) → (vX12_listOf_b140  Qn h 0)) ∧ ((¬ (v3 : Int32) = 0) → (vX12_listOf_b140  Qn h 1)))) ∧ ((¬ (s0 : Int32) = 0) → (vX12_listOf_b140  Qn h 2))))
set_option maxRecDepth 100000 in
set_option maxHeartbeats 4000000 in
theorem tX12_listOf_b115 {p : Program} {l : Launch} {e : Env} {s : State} {m : MethodId} {args : Array Value} {below : List Frame} {meth : Method} {c : Code} {G : gG} {A : Nat → Prop} {Qn : Int32 → gH → Prop} (X : gC p l s m args meth c G A cX12_listOf 5 (some FieldType.int) RX12)   {h : gH} {v2 : Int32} {v3 : Int32} {s0 : Int32} (w : vX12_listOf_b115  Qn h v2 v3 s0) : V p l e rmX12_listOf s m args below meth c (MQ below (va_Qi Qn (gB G A) A) args s rmX12_listOf.cells rmX12_listOf.slots A) G A 5 h 0 0 115 [(2, .int v2), (3, .int v3)] [.int s0] := by
  refine V_istore X dX12_listOf_115 (by decide) rfl ?_
  refine V_iload_n X dX12_listOf_117 1 rfl ?_
  refine V_iconst (y := 4) X dX12_listOf_118 (by decide) ?_
  obtain ⟨w1, w2⟩ := w
  refine V_icmp_ne (tgt := 141) X dX12_listOf_119 (by decide) (fun z => ?_) (fun z => ?_)
  · replace w := w1 z
    clear w1 w2
    refine V_iload_n X dX12_listOf_141 2 rfl ?_
    obtain ⟨w1, w2⟩ := w
    refine V_if_eq (tgt := 149) X dX12_listOf_142 (by decide) (fun z => ?_) (fun z => ?_)
    · replace w := w1 z
      clear w1 w2
      refine V_iload X dX12_listOf_149 0 rfl ?_
      obtain ⟨w1, w2⟩ := w
      refine V_if_eq (tgt := 158) X dX12_listOf_151 (by decide) (fun z => ?_) (fun z => ?_)
      · replace w := w1 z
        clear w1 w2
        refine V_iconst (y := 0) X dX12_listOf_158 (by decide) ?_
        exact V.sub [] rfl (tX12_listOf_b159 X  w)
      · replace w := w2 z
        clear w1 w2
        refine V_iconst (y := 2) X dX12_listOf_154 (by decide) ?_
        refine V_goto (tgt := 159) X dX12_listOf_155 (by decide) ?_
        exact V.sub [] rfl (tX12_listOf_b159 X  w)
    · replace w := w2 z
      clear w1 w2
      refine V_iconst (y := 1) X dX12_listOf_145 (by decide) ?_
      refine V_goto (tgt := 159) X dX12_listOf_146 (by decide) ?_
      exact V.sub [] rfl (tX12_listOf_b159 X  w)
  · replace w := w2 z
    clear w1 w2
    refine V_iload X dX12_listOf_122 0 rfl ?_
    obtain ⟨w1, w2⟩ := w
    refine V_if_eq (tgt := 131) X dX12_listOf_124 (by decide) (fun z => ?_) (fun z => ?_)
    · replace w := w1 z
      clear w1 w2
      refine V_iload_n X dX12_listOf_131 2 rfl ?_
      obtain ⟨w1, w2⟩ := w
      refine V_if_eq (tgt := 139) X dX12_listOf_132 (by decide) (fun z => ?_) (fun z => ?_)
      · replace w := w1 z
        clear w1 w2
        refine V_iconst (y := 0) X dX12_listOf_139 (by decide) ?_
        exact V.sub [] rfl (tX12_listOf_b140 X  w)
      · replace w := w2 z
        clear w1 w2
        refine V_iconst (y := 1) X dX12_listOf_135 (by decide) ?_
        refine V_goto (tgt := 140) X dX12_listOf_136 (by decide) ?_
        exact V.sub [] rfl (tX12_listOf_b140 X  w)
    · replace w := w2 z
      clear w1 w2
      refine V_iconst (y := 2) X dX12_listOf_127 (by decide) ?_
      refine V_goto (tgt := 140) X dX12_listOf_128 (by decide) ?_
      exact V.sub [] rfl (tX12_listOf_b140 X  w)
def vX12_listOf_b114  (Qn : Int32 → gH → Prop) (h : gH) (v2 : Int32) (v3 : Int32) : Prop := vX12_listOf_b115  Qn h v2 v3 0
set_option maxRecDepth 100000 in
set_option maxHeartbeats 4000000 in
theorem tX12_listOf_b114 {p : Program} {l : Launch} {e : Env} {s : State} {m : MethodId} {args : Array Value} {below : List Frame} {meth : Method} {c : Code} {G : gG} {A : Nat → Prop} {Qn : Int32 → gH → Prop} (X : gC p l s m args meth c G A cX12_listOf 5 (some FieldType.int) RX12)   {h : gH} {v2 : Int32} {v3 : Int32} (w : vX12_listOf_b114  Qn h v2 v3) : V p l e rmX12_listOf s m args below meth c (MQ below (va_Qi Qn (gB G A) A) args s rmX12_listOf.cells rmX12_listOf.slots A) G A 5 h 0 0 114 [(2, .int v2), (3, .int v3)] [] := by
  refine V_iconst (y := 0) X dX12_listOf_114 (by decide) ?_
  exact V.sub [0, 1] rfl (tX12_listOf_b115 X  w)
def vX12_listOf_b96  (Qn : Int32 → gH → Prop) (h : gH) (v0 : Nat) (v1 : Int32) (v2 : Int32) (s0 : Int32) : Prop := (((v2 : Int32) ≤ 1) → (vX12_listOf_b114  Qn h v2 s0)) ∧ ((¬ (v2 : Int32) ≤ 1) → (io h v0 15 (vX12_inTarget (fun x2 h1 => (((x2 : Int32) = 0) → (vX12_listOf_b114  Qn h1 v2 s0)) ∧ ((¬ (x2 : Int32) = 0) → (vX12_listOf_b115  Qn h1 v2 s0 1))) h v0 v1)))
set_option maxRecDepth 100000 in
set_option maxHeartbeats 4000000 in
theorem tX12_listOf_b96 {p : Program} {l : Launch} {e : Env} {s : State} {m : MethodId} {args : Array Value} {below : List Frame} {meth : Method} {c : Code} {G : gG} {A : Nat → Prop} {Qn : Int32 → gH → Prop} (X : gC p l s m args meth c G A cX12_listOf 5 (some FieldType.int) RX12)   {h : gH} {v0 : Nat} {v1 : Int32} {v2 : Int32} {s0 : Int32} (w : vX12_listOf_b96  Qn h v0 v1 v2 s0) : V p l e rmX12_listOf s m args below meth c (MQ below (va_Qi Qn (gB G A) A) args s rmX12_listOf.cells rmX12_listOf.slots A) G A 5 h 0 0 96 [(0, .ref v0), (1, .int v1), (2, .int v2)] [.int s0] := by
  refine V_istore_n X dX12_listOf_96 rfl (by decide) rfl ?_
  refine V_iload_n X dX12_listOf_97 3 rfl ?_
  refine V_iconst (y := 1) X dX12_listOf_98 (by decide) ?_
  obtain ⟨w1, w2⟩ := w
  refine V_icmp_le (tgt := 114) X dX12_listOf_99 (by decide) (fun z => ?_) (fun z => ?_)
  · replace w := w1 z
    clear w1 w2
    exact V.sub [3, 0] rfl (tX12_listOf_b114 X  w)
  · replace w := w2 z
    clear w1 w2
    refine V_aloadr_n X dX12_listOf_102 1 rfl ?_
    refine V_iload_n X dX12_listOf_103 2 rfl ?_
    obtain ⟨fs, hh, w⟩ := w
    refine V_callVi (As := [.int v1]) (rest := []) (k1 := 0) (n1 := 0) X (cX12_inTarget_ok X.2.2.2.2.2.2.2.2.1 w) lkX12_299 hh (q9 := (RX12, TX12, 42)) rfl rfl dX12_listOf_104 ⟨Nat.le_of_ble_eq_true rfl, Nat.le_of_ble_eq_true rfl⟩ rfl (Nat.le_of_ble_eq_true rfl) ⟨Nat.le_of_ble_eq_true rfl, Nat.le_of_ble_eq_true rfl⟩ (Nat.le_of_ble_eq_true rfl) (Nat.le_of_ble_eq_true rfl) (fun x2 h1 w9 => ?_)
    replace w := w9
    clear w9
    obtain ⟨w1, w2⟩ := w
    refine V_if_eq (tgt := 114) X dX12_listOf_107 (by decide) (fun z => ?_) (fun z => ?_)
    · replace w := w1 z
      clear w1 w2
      exact V.sub [3, 0] rfl (tX12_listOf_b114 X  w)
    · replace w := w2 z
      clear w1 w2
      refine V_iconst (y := 1) X dX12_listOf_110 (by decide) ?_
      refine V_goto (tgt := 115) X dX12_listOf_111 (by decide) ?_
      exact V.sub [3, 0] rfl (tX12_listOf_b115 X  w)
def vX12_listOf_b95  (Qn : Int32 → gH → Prop) (h : gH) (v0 : Nat) (v1 : Int32) (v2 : Int32) : Prop := vX12_listOf_b96  Qn h v0 v1 v2 0
set_option maxRecDepth 100000 in
set_option maxHeartbeats 4000000 in
theorem tX12_listOf_b95 {p : Program} {l : Launch} {e : Env} {s : State} {m : MethodId} {args : Array Value} {below : List Frame} {meth : Method} {c : Code} {G : gG} {A : Nat → Prop} {Qn : Int32 → gH → Prop} (X : gC p l s m args meth c G A cX12_listOf 5 (some FieldType.int) RX12)   {h : gH} {v0 : Nat} {v1 : Int32} {v2 : Int32} (w : vX12_listOf_b95  Qn h v0 v1 v2) : V p l e rmX12_listOf s m args below meth c (MQ below (va_Qi Qn (gB G A) A) args s rmX12_listOf.cells rmX12_listOf.slots A) G A 5 h 0 0 95 [(0, .ref v0), (1, .int v1), (2, .int v2)] [] := by
  refine V_iconst (y := 0) X dX12_listOf_95 (by decide) ?_
  exact V.sub [0, 1, 2] rfl (tX12_listOf_b96 X  w)
def vX12_listOf_b73  (Qn : Int32 → gH → Prop) (h : gH) (v0 : Nat) (v1 : Int32) (s0 : Int32) : Prop := (((s0 : Int32) = 2) → (vX12_listOf_b95  Qn h v0 v1 s0)) ∧ ((¬ (s0 : Int32) = 2) → ((((s0 : Int32) ≤ 0) → (vX12_listOf_b95  Qn h v0 v1 s0)) ∧ ((¬ (s0 : Int32) ≤ 0) → (io h v0 15 (vX12_inSource (fun x2 h1 => (((x2 : Int32) = 0) → (vX12_listOf_b95  Qn h1 v0 v1 s0)) ∧ ((¬ (x2 : Int32) = 0) → (vX12_listOf_b96  Qn h1 v0 v1 s0 1))) h v0 v1)))))
set_option maxRecDepth 100000 in
set_option maxHeartbeats 4000000 in
theorem tX12_listOf_b73 {p : Program} {l : Launch} {e : Env} {s : State} {m : MethodId} {args : Array Value} {below : List Frame} {meth : Method} {c : Code} {G : gG} {A : Nat → Prop} {Qn : Int32 → gH → Prop} (X : gC p l s m args meth c G A cX12_listOf 5 (some FieldType.int) RX12)   {h : gH} {v0 : Nat} {v1 : Int32} {s0 : Int32} (w : vX12_listOf_b73  Qn h v0 v1 s0) : V p l e rmX12_listOf s m args below meth c (MQ below (va_Qi Qn (gB G A) A) args s rmX12_listOf.cells rmX12_listOf.slots A) G A 5 h 0 0 73 [(0, .ref v0), (1, .int v1)] [.int s0] := by
  refine V_istore_n X dX12_listOf_73 rfl (by decide) rfl ?_
  refine V_iload_n X dX12_listOf_74 0 rfl ?_
  refine V_iconst (y := 2) X dX12_listOf_75 (by decide) ?_
  obtain ⟨w1, w2⟩ := w
  refine V_icmp_eq (tgt := 95) X dX12_listOf_76 (by decide) (fun z => ?_) (fun z => ?_)
  · replace w := w1 z
    clear w1 w2
    exact V.sub [1, 2, 0] rfl (tX12_listOf_b95 X  w)
  · replace w := w2 z
    clear w1 w2
    refine V_iload_n X dX12_listOf_79 0 rfl ?_
    obtain ⟨w1, w2⟩ := w
    refine V_if_le (tgt := 95) X dX12_listOf_80 (by decide) (fun z => ?_) (fun z => ?_)
    · replace w := w1 z
      clear w1 w2
      exact V.sub [1, 2, 0] rfl (tX12_listOf_b95 X  w)
    · replace w := w2 z
      clear w1 w2
      refine V_aloadr_n X dX12_listOf_83 1 rfl ?_
      refine V_iload_n X dX12_listOf_84 2 rfl ?_
      obtain ⟨fs, hh, w⟩ := w
      refine V_callVi (As := [.int v1]) (rest := []) (k1 := 0) (n1 := 0) X (cX12_inSource_ok X.2.2.2.2.2.2.2.2.1 w) lkX12_296 hh (q9 := (RX12, TX12, 42)) rfl rfl dX12_listOf_85 ⟨Nat.le_of_ble_eq_true rfl, Nat.le_of_ble_eq_true rfl⟩ rfl (Nat.le_of_ble_eq_true rfl) ⟨Nat.le_of_ble_eq_true rfl, Nat.le_of_ble_eq_true rfl⟩ (Nat.le_of_ble_eq_true rfl) (Nat.le_of_ble_eq_true rfl) (fun x2 h1 w9 => ?_)
      replace w := w9
      clear w9
      obtain ⟨w1, w2⟩ := w
      refine V_if_eq (tgt := 95) X dX12_listOf_88 (by decide) (fun z => ?_) (fun z => ?_)
      · replace w := w1 z
        clear w1 w2
        exact V.sub [1, 2, 0] rfl (tX12_listOf_b95 X  w)
      · replace w := w2 z
        clear w1 w2
        refine V_iconst (y := 1) X dX12_listOf_91 (by decide) ?_
        refine V_goto (tgt := 96) X dX12_listOf_92 (by decide) ?_
        exact V.sub [1, 2, 0] rfl (tX12_listOf_b96 X  w)
def vX12_listOf_b45  (Qn : Int32 → gH → Prop) (h : gH) (s0 : Int32) : Prop := Qn s0 h
set_option maxRecDepth 100000 in
set_option maxHeartbeats 4000000 in
theorem tX12_listOf_b45 {p : Program} {l : Launch} {e : Env} {s : State} {m : MethodId} {args : Array Value} {below : List Frame} {meth : Method} {c : Code} {G : gG} {A : Nat → Prop} {Qn : Int32 → gH → Prop} (X : gC p l s m args meth c G A cX12_listOf 5 (some FieldType.int) RX12)   {h : gH} {s0 : Int32} (w : vX12_listOf_b45  Qn h s0) : V p l e rmX12_listOf s m args below meth c (MQ below (va_Qi Qn (gB G A) A) args s rmX12_listOf.cells rmX12_listOf.slots A) G A 5 h 0 0 45 [] [.int s0] := by
  exact V_iret X rfl dX12_listOf_45 (Nat.le_of_ble_eq_true rfl) (Nat.le_of_ble_eq_true rfl) w
def vX12_listOf_b44  (Qn : Int32 → gH → Prop) (h : gH)  : Prop := vX12_listOf_b45  Qn h 0
set_option maxRecDepth 100000 in
set_option maxHeartbeats 4000000 in
theorem tX12_listOf_b44 {p : Program} {l : Launch} {e : Env} {s : State} {m : MethodId} {args : Array Value} {below : List Frame} {meth : Method} {c : Code} {G : gG} {A : Nat → Prop} {Qn : Int32 → gH → Prop} (X : gC p l s m args meth c G A cX12_listOf 5 (some FieldType.int) RX12)   {h : gH}  (w : vX12_listOf_b44  Qn h ) : V p l e rmX12_listOf s m args below meth c (MQ below (va_Qi Qn (gB G A) A) args s rmX12_listOf.cells rmX12_listOf.slots A) G A 5 h 0 0 44 [] [] := by
  refine V_iconst (y := 0) X dX12_listOf_44 (by decide) ?_
  exact V.sub [] rfl (tX12_listOf_b45 X  w)
def vX12_listOf  (Qn : Int32 → gH → Prop) (h : gH) (v0 : Nat) (v1 : Int32) : Prop := gr h v0 15 0 (fun r1 => nn r1 (fun a2 => li h a2 8 (fun x3 => ((¬ (x3 : Int32) = 0) → (gr h v0 15 0 (fun r4 => nn r4 (fun a5 => li h a5 11 (fun x6 => (((x6 : Int32) < 2) → (gr h v0 15 0 (fun r7 => nn r7 (fun a8 => li h a8 9 (fun x9 => io h v0 15 (vX12_of (fun x11 h10 => vX12_listOf_b73  Qn h10 v0 v1 x11) h v0 x9 5)))))) ∧ ((¬ (x6 : Int32) < 2) → (vX12_listOf_b73  Qn h v0 v1 0))))))) ∧ (((x3 : Int32) = 0) → (gr h v0 15 0 (fun r12 => nn r12 (fun a13 => li h a13 12 (fun x14 => io h v0 15 (vX12_inList (fun x16 h15 => (((x16 : Int32) = 0) → (vX12_listOf_b44  Qn h15 )) ∧ ((¬ (x16 : Int32) = 0) → (gr h15 v0 15 0 (fun r17 => nn r17 (fun a18 => li h15 a18 12 (fun x19 => io h15 v0 15 (vX12_isBack (fun x21 h20 => ((¬ (x21 : Int32) = 0) → (vX12_listOf_b44  Qn h20 )) ∧ (((x21 : Int32) = 0) → (vX12_listOf_b45  Qn h20 1))) h15 v0 v1 x19))))))) h v0 v1 x14)))))))))
set_option maxRecDepth 100000 in
set_option maxHeartbeats 4000000 in
theorem tX12_listOf {p : Program} {l : Launch} {e : Env} {s : State} {m : MethodId} {args : Array Value} {below : List Frame} {meth : Method} {c : Code} {G : gG} {A : Nat → Prop} {Qn : Int32 → gH → Prop} (X : gC p l s m args meth c G A cX12_listOf 5 (some FieldType.int) RX12)   {h : gH} {v0 : Nat} {v1 : Int32} (w : vX12_listOf  Qn h v0 v1) : V p l e rmX12_listOf s m args below meth c (MQ below (va_Qi Qn (gB G A) A) args s rmX12_listOf.cells rmX12_listOf.slots A) G A 5 h 0 0 0 [(0, .ref v0), (1, .int v1)] [] := by
  refine V_aloadr_n X dX12_listOf_0 0 rfl ?_
  obtain ⟨fs, r1, hh, hv, w⟩ := w
  refine V_get X flX12_7 dX12_listOf_1 hh hv ?_
  refine V_bipush (y := 8) X dX12_listOf_4 (by decide) ?_
  obtain ⟨a2, rfl, w⟩ := w
  obtain ⟨N9, g9, hh, hi, w⟩ := w
  refine V_iald X dX12_listOf_6 hh hi ?_
  generalize g9 _ = x3 at w ⊢
  obtain ⟨w1, w2⟩ := w
  refine V_if_ne (tgt := 46) X dX12_listOf_7 (by decide) (fun z => ?_) (fun z => ?_)
  · replace w := w1 z
    clear w1 w2
    refine V_aloadr_n X dX12_listOf_46 0 rfl ?_
    obtain ⟨fs, r4, hh, hv, w⟩ := w
    refine V_get X flX12_7 dX12_listOf_47 hh hv ?_
    refine V_bipush (y := 11) X dX12_listOf_50 (by decide) ?_
    obtain ⟨a5, rfl, w⟩ := w
    obtain ⟨N9, g9, hh, hi, w⟩ := w
    refine V_iald X dX12_listOf_52 hh hi ?_
    generalize g9 _ = x6 at w ⊢
    refine V_iconst (y := 2) X dX12_listOf_53 (by decide) ?_
    obtain ⟨w1, w2⟩ := w
    refine V_icmp_lt (tgt := 61) X dX12_listOf_54 (by decide) (fun z => ?_) (fun z => ?_)
    · replace w := w1 z
      clear w1 w2
      refine V_aloadr_n X dX12_listOf_61 0 rfl ?_
      refine V_aloadr_n X dX12_listOf_62 0 rfl ?_
      obtain ⟨fs, r7, hh, hv, w⟩ := w
      refine V_get X flX12_7 dX12_listOf_63 hh hv ?_
      refine V_bipush (y := 9) X dX12_listOf_66 (by decide) ?_
      obtain ⟨a8, rfl, w⟩ := w
      obtain ⟨N9, g9, hh, hi, w⟩ := w
      refine V_iald X dX12_listOf_68 hh hi ?_
      generalize g9 _ = x9 at w ⊢
      refine V_iconst (y := 5) X dX12_listOf_69 (by decide) ?_
      obtain ⟨fs, hh, w⟩ := w
      refine V_callVi (As := [.int x9, .int 5]) (rest := []) (k1 := 0) (n1 := 0) X (cX12_of_ok X.2.2.2.2.2.2.2.2.1 w) lkX12_177 hh (q9 := (RX12, TX12, 42)) rfl rfl dX12_listOf_70 ⟨Nat.le_of_ble_eq_true rfl, Nat.le_of_ble_eq_true rfl⟩ rfl (Nat.le_of_ble_eq_true rfl) ⟨Nat.le_of_ble_eq_true rfl, Nat.le_of_ble_eq_true rfl⟩ (Nat.le_of_ble_eq_true rfl) (Nat.le_of_ble_eq_true rfl) (fun x11 h10 w9 => ?_)
      replace w := w9
      clear w9
      exact V.sub [0, 1] rfl (tX12_listOf_b73 X  w)
    · replace w := w2 z
      clear w1 w2
      refine V_iconst (y := 0) X dX12_listOf_57 (by decide) ?_
      refine V_goto (tgt := 73) X dX12_listOf_58 (by decide) ?_
      exact V.sub [0, 1] rfl (tX12_listOf_b73 X  w)
  · replace w := w2 z
    clear w1 w2
    refine V_aloadr_n X dX12_listOf_10 0 rfl ?_
    refine V_iload_n X dX12_listOf_11 1 rfl ?_
    refine V_aloadr_n X dX12_listOf_12 0 rfl ?_
    obtain ⟨fs, r12, hh, hv, w⟩ := w
    refine V_get X flX12_7 dX12_listOf_13 hh hv ?_
    refine V_bipush (y := 12) X dX12_listOf_16 (by decide) ?_
    obtain ⟨a13, rfl, w⟩ := w
    obtain ⟨N9, g9, hh, hi, w⟩ := w
    refine V_iald X dX12_listOf_18 hh hi ?_
    generalize g9 _ = x14 at w ⊢
    obtain ⟨fs, hh, w⟩ := w
    refine V_callVi (As := [.int v1, .int x14]) (rest := []) (k1 := 0) (n1 := 0) X (cX12_inList_ok X.2.2.2.2.2.2.2.2.1 w) lkX12_289 hh (q9 := (RX12, TX12, 42)) rfl rfl dX12_listOf_19 ⟨Nat.le_of_ble_eq_true rfl, Nat.le_of_ble_eq_true rfl⟩ rfl (Nat.le_of_ble_eq_true rfl) ⟨Nat.le_of_ble_eq_true rfl, Nat.le_of_ble_eq_true rfl⟩ (Nat.le_of_ble_eq_true rfl) (Nat.le_of_ble_eq_true rfl) (fun x16 h15 w9 => ?_)
    replace w := w9
    clear w9
    obtain ⟨w1, w2⟩ := w
    refine V_if_eq (tgt := 44) X dX12_listOf_22 (by decide) (fun z => ?_) (fun z => ?_)
    · replace w := w1 z
      clear w1 w2
      exact V.sub [] rfl (tX12_listOf_b44 X  w)
    · replace w := w2 z
      clear w1 w2
      refine V_aloadr_n X dX12_listOf_25 0 rfl ?_
      refine V_iload_n X dX12_listOf_26 1 rfl ?_
      refine V_aloadr_n X dX12_listOf_27 0 rfl ?_
      obtain ⟨fs, r17, hh, hv, w⟩ := w
      refine V_get X flX12_7 dX12_listOf_28 hh hv ?_
      refine V_bipush (y := 12) X dX12_listOf_31 (by decide) ?_
      obtain ⟨a18, rfl, w⟩ := w
      obtain ⟨N9, g9, hh, hi, w⟩ := w
      refine V_iald X dX12_listOf_33 hh hi ?_
      generalize g9 _ = x19 at w ⊢
      obtain ⟨fs, hh, w⟩ := w
      refine V_callVi (As := [.int v1, .int x19]) (rest := []) (k1 := 0) (n1 := 0) X (cX12_isBack_ok X.2.2.2.2.2.2.2.2.1 w) lkX12_293 hh (q9 := (RX12, TX12, 42)) rfl rfl dX12_listOf_34 ⟨Nat.le_of_ble_eq_true rfl, Nat.le_of_ble_eq_true rfl⟩ rfl (Nat.le_of_ble_eq_true rfl) ⟨Nat.le_of_ble_eq_true rfl, Nat.le_of_ble_eq_true rfl⟩ (Nat.le_of_ble_eq_true rfl) (Nat.le_of_ble_eq_true rfl) (fun x21 h20 w9 => ?_)
      replace w := w9
      clear w9
      obtain ⟨w1, w2⟩ := w
      refine V_if_ne (tgt := 44) X dX12_listOf_37 (by decide) (fun z => ?_) (fun z => ?_)
      · replace w := w1 z
        clear w1 w2
        exact V.sub [] rfl (tX12_listOf_b44 X  w)
      · replace w := w2 z
        clear w1 w2
        refine V_iconst (y := 1) X dX12_listOf_40 (by decide) ?_
        refine V_goto (tgt := 45) X dX12_listOf_41 (by decide) ?_
        exact V.sub [] rfl (tX12_listOf_b45 X  w)
theorem cX12_listOf_ok {l : Launch} {G : gG} {h : gH} (hls : l.stackTraces = false) {Qn : Int32 → gH → Prop} {v0 : Nat} {v1 : Int32} (w : vX12_listOf Qn h v0 v1) : gMi l yX12_listOf cX12_listOf 5 (some FieldType.int) rmX12_listOf rmX12_listOf.cells rmX12_listOf.slots G h [.ref v0, .int v1] Qn := by
  exact gMi.of (by decide +kernel) hls (Nat.le_of_ble_eq_true rfl) rfl rfl (fun p e s m below meth c A X hnm => tX12_listOf X w)
/-! AnimationControllerModel.holds(II)Z -/
abbrev rmX12_holds : Room := { frames := 0, cells := 0, slots := 0, locals := 0 }
def vX12_holds_b121  (Qn : Int32 → gH → Prop) (h : gH) (s0 : Int32) : Prop := gZ s0 ∧ Qn s0 h
set_option maxRecDepth 100000 in
set_option maxHeartbeats 4000000 in
theorem tX12_holds_b121 {p : Program} {l : Launch} {e : Env} {s : State} {m : MethodId} {args : Array Value} {below : List Frame} {meth : Method} {c : Code} {G : gG} {A : Nat → Prop} {Qn : Int32 → gH → Prop} (X : gC p l s m args meth c G A cX12_holds 7 (some FieldType.boolean) RX12)   {h : gH} {s0 : Int32} (w : vX12_holds_b121  Qn h s0) : V p l e rmX12_holds s m args below meth c (MQ below (va_Qi Qn (gB G A) A) args s rmX12_holds.cells rmX12_holds.slots A) G A 7 h 0 0 121 [] [.int s0] := by
  obtain ⟨hz, w⟩ := w
  exact V_zret X rfl hz.1 dX12_holds_121 (Nat.le_of_ble_eq_true rfl) (Nat.le_of_ble_eq_true rfl) w
def vX12_holds  (Qn : Int32 → gH → Prop) (h : gH) (v0 : Nat) (v1 : Int32) (v2 : Int32) : Prop := gr h v0 15 0 (fun r1 => gr h v0 15 20 (fun r2 => nn r2 (fun a3 => li h a3 (((17 * v1) + 8) + (3 * v2)) (fun x4 => nn r1 (fun a5 => li h a5 (0 + x4) (fun x6 => gr h v0 15 20 (fun r7 => nn r7 (fun a8 => li h a8 ((((17 * v1) + 8) + (3 * v2)) + 2) (fun x9 => gr h v0 15 20 (fun r10 => nn r10 (fun a11 => li h a11 ((((17 * v1) + 8) + (3 * v2)) + 1) (fun x12 => ((¬ (x12 : Int32) = 0) → (((¬ (x12 : Int32) = 1) → (((¬ (x12 : Int32) = 2) → ((((x6 : Int32) = x9) → (vX12_holds_b121  Qn h 0)) ∧ ((¬ (x6 : Int32) = x9) → (vX12_holds_b121  Qn h 1)))) ∧ (((x12 : Int32) = 2) → (((¬ (x6 : Int32) = x9) → (vX12_holds_b121  Qn h 0)) ∧ (((x6 : Int32) = x9) → (vX12_holds_b121  Qn h 1)))))) ∧ (((x12 : Int32) = 1) → (((x9 ≤ (x6 : Int32)) → (vX12_holds_b121  Qn h 0)) ∧ ((¬ x9 ≤ (x6 : Int32)) → (vX12_holds_b121  Qn h 1)))))) ∧ (((x12 : Int32) = 0) → ((((x6 : Int32) ≤ x9) → (vX12_holds_b121  Qn h 0)) ∧ ((¬ (x6 : Int32) ≤ x9) → (vX12_holds_b121  Qn h 1))))))))))))))))
set_option maxRecDepth 100000 in
set_option maxHeartbeats 4000000 in
theorem tX12_holds {p : Program} {l : Launch} {e : Env} {s : State} {m : MethodId} {args : Array Value} {below : List Frame} {meth : Method} {c : Code} {G : gG} {A : Nat → Prop} {Qn : Int32 → gH → Prop} (X : gC p l s m args meth c G A cX12_holds 7 (some FieldType.boolean) RX12)   {h : gH} {v0 : Nat} {v1 : Int32} {v2 : Int32} (w : vX12_holds  Qn h v0 v1 v2) : V p l e rmX12_holds s m args below meth c (MQ below (va_Qi Qn (gB G A) A) args s rmX12_holds.cells rmX12_holds.slots A) G A 7 h 0 0 0 [(0, .ref v0), (1, .int v1), (2, .int v2)] [] := by
  refine V_bipush (y := 17) X dX12_holds_0 (by decide) ?_
  refine V_iload_n X dX12_holds_2 1 rfl ?_
  refine V_imul X dX12_holds_3 ?_
  refine V_bipush (y := 8) X dX12_holds_4 (by decide) ?_
  refine V_iadd X dX12_holds_6 ?_
  refine V_iconst (y := 3) X dX12_holds_7 (by decide) ?_
  refine V_iload_n X dX12_holds_8 2 rfl ?_
  refine V_imul X dX12_holds_9 ?_
  refine V_iadd X dX12_holds_10 ?_
  refine V_istore_n X dX12_holds_11 rfl (by decide) rfl ?_
  refine V_aloadr_n X dX12_holds_12 1 rfl ?_
  obtain ⟨fs, r1, hh, hv, w⟩ := w
  refine V_get X flX12_7 dX12_holds_13 hh hv ?_
  refine V_iconst (y := 0) X dX12_holds_16 (by decide) ?_
  refine V_aloadr_n X dX12_holds_17 1 rfl ?_
  obtain ⟨fs, r2, hh, hv, w⟩ := w
  refine V_get X flX12_59 dX12_holds_18 hh hv ?_
  refine V_iload_n X dX12_holds_21 0 rfl ?_
  obtain ⟨a3, rfl, w⟩ := w
  obtain ⟨N9, g9, hh, hi, w⟩ := w
  refine V_iald X dX12_holds_22 hh hi ?_
  generalize g9 _ = x4 at w ⊢
  refine V_iadd X dX12_holds_23 ?_
  obtain ⟨a5, rfl, w⟩ := w
  obtain ⟨N9, g9, hh, hi, w⟩ := w
  refine V_iald X dX12_holds_24 hh hi ?_
  generalize g9 _ = x6 at w ⊢
  refine V_istore X dX12_holds_25 (by decide) rfl ?_
  refine V_aloadr_n X dX12_holds_27 2 rfl ?_
  obtain ⟨fs, r7, hh, hv, w⟩ := w
  refine V_get X flX12_59 dX12_holds_28 hh hv ?_
  refine V_iload_n X dX12_holds_31 1 rfl ?_
  refine V_iconst (y := 2) X dX12_holds_32 (by decide) ?_
  refine V_iadd X dX12_holds_33 ?_
  obtain ⟨a8, rfl, w⟩ := w
  obtain ⟨N9, g9, hh, hi, w⟩ := w
  refine V_iald X dX12_holds_34 hh hi ?_
  generalize g9 _ = x9 at w ⊢
  refine V_istore X dX12_holds_35 (by decide) rfl ?_
  refine V_aloadr_n X dX12_holds_37 3 rfl ?_
  obtain ⟨fs, r10, hh, hv, w⟩ := w
  refine V_get X flX12_59 dX12_holds_38 hh hv ?_
  refine V_iload_n X dX12_holds_41 2 rfl ?_
  refine V_iconst (y := 1) X dX12_holds_42 (by decide) ?_
  refine V_iadd X dX12_holds_43 ?_
  obtain ⟨a11, rfl, w⟩ := w
  obtain ⟨N9, g9, hh, hi, w⟩ := w
  refine V_iald X dX12_holds_44 hh hi ?_
  generalize g9 _ = x12 at w ⊢
  refine V_istore X dX12_holds_45 (by decide) rfl ?_
  refine V_iload X dX12_holds_47 0 rfl ?_
  obtain ⟨w1, w2⟩ := w
  refine V_if_ne (tgt := 67) X dX12_holds_49 (by decide) (fun z => ?_) (fun z => ?_)
  · replace w := w1 z
    clear w1 w2
    refine V_iload X dX12_holds_67 0 rfl ?_
    refine V_iconst (y := 1) X dX12_holds_69 (by decide) ?_
    obtain ⟨w1, w2⟩ := w
    refine V_icmp_ne (tgt := 88) X dX12_holds_70 (by decide) (fun z => ?_) (fun z => ?_)
    · replace w := w1 z
      clear w1 w2
      refine V_iload X dX12_holds_88 0 rfl ?_
      refine V_iconst (y := 2) X dX12_holds_90 (by decide) ?_
      obtain ⟨w1, w2⟩ := w
      refine V_icmp_ne (tgt := 109) X dX12_holds_91 (by decide) (fun z => ?_) (fun z => ?_)
      · replace w := w1 z
        clear w1 w2
        refine V_iload X dX12_holds_109 2 rfl ?_
        refine V_iload X dX12_holds_111 1 rfl ?_
        obtain ⟨w1, w2⟩ := w
        refine V_icmp_eq (tgt := 120) X dX12_holds_113 (by decide) (fun z => ?_) (fun z => ?_)
        · replace w := w1 z
          clear w1 w2
          refine V_iconst (y := 0) X dX12_holds_120 (by decide) ?_
          exact V.sub [] rfl (tX12_holds_b121 X  w)
        · replace w := w2 z
          clear w1 w2
          refine V_iconst (y := 1) X dX12_holds_116 (by decide) ?_
          refine V_goto (tgt := 121) X dX12_holds_117 (by decide) ?_
          exact V.sub [] rfl (tX12_holds_b121 X  w)
      · replace w := w2 z
        clear w1 w2
        refine V_iload X dX12_holds_94 2 rfl ?_
        refine V_iload X dX12_holds_96 1 rfl ?_
        obtain ⟨w1, w2⟩ := w
        refine V_icmp_ne (tgt := 105) X dX12_holds_98 (by decide) (fun z => ?_) (fun z => ?_)
        · replace w := w1 z
          clear w1 w2
          refine V_iconst (y := 0) X dX12_holds_105 (by decide) ?_
          refine V_goto (tgt := 121) X dX12_holds_106 (by decide) ?_
          exact V.sub [] rfl (tX12_holds_b121 X  w)
        · replace w := w2 z
          clear w1 w2
          refine V_iconst (y := 1) X dX12_holds_101 (by decide) ?_
          refine V_goto (tgt := 121) X dX12_holds_102 (by decide) ?_
          exact V.sub [] rfl (tX12_holds_b121 X  w)
    · replace w := w2 z
      clear w1 w2
      refine V_iload X dX12_holds_73 2 rfl ?_
      refine V_iload X dX12_holds_75 1 rfl ?_
      obtain ⟨w1, w2⟩ := w
      refine V_icmp_ge (tgt := 84) X dX12_holds_77 (by decide) (fun z => ?_) (fun z => ?_)
      · replace w := w1 z
        clear w1 w2
        refine V_iconst (y := 0) X dX12_holds_84 (by decide) ?_
        refine V_goto (tgt := 121) X dX12_holds_85 (by decide) ?_
        exact V.sub [] rfl (tX12_holds_b121 X  w)
      · replace w := w2 z
        clear w1 w2
        refine V_iconst (y := 1) X dX12_holds_80 (by decide) ?_
        refine V_goto (tgt := 121) X dX12_holds_81 (by decide) ?_
        exact V.sub [] rfl (tX12_holds_b121 X  w)
  · replace w := w2 z
    clear w1 w2
    refine V_iload X dX12_holds_52 2 rfl ?_
    refine V_iload X dX12_holds_54 1 rfl ?_
    obtain ⟨w1, w2⟩ := w
    refine V_icmp_le (tgt := 63) X dX12_holds_56 (by decide) (fun z => ?_) (fun z => ?_)
    · replace w := w1 z
      clear w1 w2
      refine V_iconst (y := 0) X dX12_holds_63 (by decide) ?_
      refine V_goto (tgt := 121) X dX12_holds_64 (by decide) ?_
      exact V.sub [] rfl (tX12_holds_b121 X  w)
    · replace w := w2 z
      clear w1 w2
      refine V_iconst (y := 1) X dX12_holds_59 (by decide) ?_
      refine V_goto (tgt := 121) X dX12_holds_60 (by decide) ?_
      exact V.sub [] rfl (tX12_holds_b121 X  w)
theorem cX12_holds_ok {l : Launch} {G : gG} {h : gH} (hls : l.stackTraces = false) {Qn : Int32 → gH → Prop} {v0 : Nat} {v1 : Int32} {v2 : Int32} (w : vX12_holds Qn h v0 v1 v2) : gMi l yX12_holds cX12_holds 7 (some FieldType.boolean) rmX12_holds rmX12_holds.cells rmX12_holds.slots G h [.ref v0, .int v1, .int v2] Qn := by
  exact gMi.of (by decide +kernel) hls (Nat.le_of_ble_eq_true rfl) rfl rfl (fun p e s m below meth c A X hnm => tX12_holds X w)
/-! AnimationControllerModel.against(II)I -/
abbrev rmX12_against : Room := { frames := 1, cells := 0, slots := 0, locals := 26 }
def vX12_against_b48_o (k48 : gH → Nat → Int32 → Int32 → Prop) (Qn : Int32 → gH → Prop) (h : gH) (v0 : Nat) (v1 : Int32) (v4 : Int32) : Prop := io h v0 15 (vX12_of (fun x2 h1 => ((x2 ≤ (v4 : Int32)) → (Qn 0 h1)) ∧ ((¬ x2 ≤ (v4 : Int32)) → (io h1 v0 15 (vX12_holds (fun x4 h3 => ((¬ (x4 : Int32) = 0) → (k48 h3 v0 v1 (v4 + 1))) ∧ (((x4 : Int32) = 0) → (Qn (3 + v4) h3))) h1 v0 v1 v4)))) h v0 v1 7)
set_option maxRecDepth 100000 in
set_option maxHeartbeats 4000000 in
theorem tX12_against_b48_o {p : Program} {l : Launch} {e : Env} {s : State} {m : MethodId} {args : Array Value} {below : List Frame} {meth : Method} {c : Code} {G : gG} {A : Nat → Prop} {Qn : Int32 → gH → Prop} (X : gC p l s m args meth c G A cX12_against 5 (some FieldType.int) RX12) {k48 : gH → Nat → Int32 → Int32 → Prop} (H48 : ∀ (h : gH) (v0 : Nat) (v1 : Int32) (v4 : Int32), k48 h v0 v1 v4 → V p l e rmX12_against s m args below meth c (MQ below (va_Qi Qn (gB G A) A) args s rmX12_against.cells rmX12_against.slots A) G A 5 h 0 0 48 [(0, .ref v0), (1, .int v1), (4, .int v4)] []) {h : gH} {v0 : Nat} {v1 : Int32} {v4 : Int32} (w : vX12_against_b48_o k48 Qn h v0 v1 v4) : V p l e rmX12_against s m args below meth c (MQ below (va_Qi Qn (gB G A) A) args s rmX12_against.cells rmX12_against.slots A) G A 5 h 0 0 48 [(0, .ref v0), (1, .int v1), (4, .int v4)] [] := by
  refine V_iload X dX12_against_48 2 rfl ?_
  refine V_aloadr_n X dX12_against_50 0 rfl ?_
  refine V_iload_n X dX12_against_51 1 rfl ?_
  refine V_bipush (y := 7) X dX12_against_52 (by decide) ?_
  obtain ⟨fs, hh, w⟩ := w
  refine V_callVi (As := [.int v1, .int 7]) (rest := [.int v4]) (k1 := 0) (n1 := 0) X (cX12_of_ok X.2.2.2.2.2.2.2.2.1 w) lkX12_177 hh (q9 := (RX12, TX12, 42)) rfl rfl dX12_against_54 ⟨Nat.le_of_ble_eq_true rfl, Nat.le_of_ble_eq_true rfl⟩ rfl (Nat.le_of_ble_eq_true rfl) ⟨Nat.le_of_ble_eq_true rfl, Nat.le_of_ble_eq_true rfl⟩ (Nat.le_of_ble_eq_true rfl) (Nat.le_of_ble_eq_true rfl) (fun x2 h1 w9 => ?_)
  replace w := w9
  clear w9
  obtain ⟨w1, w2⟩ := w
  refine V_icmp_ge (tgt := 81) X dX12_against_57 (by decide) (fun z => ?_) (fun z => ?_)
  · replace w := w1 z
    clear w1 w2
    refine V_iconst (y := 0) X dX12_against_81 (by decide) ?_
    exact V_iret X rfl dX12_against_82 (Nat.le_of_ble_eq_true rfl) (Nat.le_of_ble_eq_true rfl) w
  · replace w := w2 z
    clear w1 w2
    refine V_aloadr_n X dX12_against_60 0 rfl ?_
    refine V_iload_n X dX12_against_61 1 rfl ?_
    refine V_iload X dX12_against_62 2 rfl ?_
    obtain ⟨fs, hh, w⟩ := w
    refine V_callVi (As := [.int v1, .int v4]) (rest := []) (k1 := 0) (n1 := 0) X (cX12_holds_ok X.2.2.2.2.2.2.2.2.1 w) lkX12_304 hh (q9 := (RX12, TX12, 42)) rfl rfl dX12_against_64 ⟨Nat.le_of_ble_eq_true rfl, Nat.le_of_ble_eq_true rfl⟩ rfl (Nat.le_of_ble_eq_true rfl) ⟨Nat.le_of_ble_eq_true rfl, Nat.le_of_ble_eq_true rfl⟩ (Nat.le_of_ble_eq_true rfl) (Nat.le_of_ble_eq_true rfl) (fun x4 h3 w9 => ?_)
    replace w := w9
    clear w9
    obtain ⟨w1, w2⟩ := w
    refine V_if_ne (tgt := 75) X dX12_against_67 (by decide) (fun z => ?_) (fun z => ?_)
    · replace w := w1 z
      clear w1 w2
      refine V_iinc (y := (v4 + 1)) X dX12_against_75 2 rfl (by first | rfl | (congr 1)) (by decide) rfl ?_
      refine V_goto (tgt := 48) X dX12_against_78 (by decide) ?_
      exact V.sub [1, 2, 0] rfl (H48 _ _ _ _ w)
    · replace w := w2 z
      clear w1 w2
      refine V_iconst (y := 3) X dX12_against_70 (by decide) ?_
      refine V_iload X dX12_against_71 2 rfl ?_
      refine V_iadd X dX12_against_73 ?_
      exact V_iret X rfl dX12_against_74 (Nat.le_of_ble_eq_true rfl) (Nat.le_of_ble_eq_true rfl) w
def vX12_against_b48  (Qn : Int32 → gH → Prop) (n : Nat) : gH → Nat → Int32 → Int32 → Prop := Nat.rec (motive := fun _ => gH → Nat → Int32 → Int32 → Prop) (fun _ _ _ _ => False) (fun _ k48 => vX12_against_b48_o k48 Qn) n
theorem tX12_against_b48 {p : Program} {l : Launch} {e : Env} {s : State} {m : MethodId} {args : Array Value} {below : List Frame} {meth : Method} {c : Code} {G : gG} {A : Nat → Prop} {Qn : Int32 → gH → Prop} (X : gC p l s m args meth c G A cX12_against 5 (some FieldType.int) RX12)   : ∀ (n : Nat) (h : gH) (v0 : Nat) (v1 : Int32) (v4 : Int32) (w : vX12_against_b48  Qn n h v0 v1 v4), V p l e rmX12_against s m args below meth c (MQ below (va_Qi Qn (gB G A) A) args s rmX12_against.cells rmX12_against.slots A) G A 5 h 0 0 48 [(0, .ref v0), (1, .int v1), (4, .int v4)] [] := by
  intro n
  induction n with
  | zero => intro h v0 v1 v4 w; exact False.elim w
  | succ n ih => intro h v0 v1 v4 w; exact tX12_against_b48_o X ih w
def vX12_against_b45  (Qn : Int32 → gH → Prop) (h : gH) (v0 : Nat) (v1 : Int32) : Prop := ∃ n : Nat, vX12_against_b48  Qn n h v0 v1 0
set_option maxRecDepth 100000 in
set_option maxHeartbeats 4000000 in
theorem tX12_against_b45 {p : Program} {l : Launch} {e : Env} {s : State} {m : MethodId} {args : Array Value} {below : List Frame} {meth : Method} {c : Code} {G : gG} {A : Nat → Prop} {Qn : Int32 → gH → Prop} (X : gC p l s m args meth c G A cX12_against 5 (some FieldType.int) RX12)   {h : gH} {v0 : Nat} {v1 : Int32} (w : vX12_against_b45  Qn h v0 v1) : V p l e rmX12_against s m args below meth c (MQ below (va_Qi Qn (gB G A) A) args s rmX12_against.cells rmX12_against.slots A) G A 5 h 0 0 45 [(0, .ref v0), (1, .int v1)] [] := by
  refine V_iconst (y := 0) X dX12_against_45 (by decide) ?_
  refine V_istore X dX12_against_46 (by decide) rfl ?_
  obtain ⟨n9, w⟩ := w
  exact V.sub [1, 2, 0] rfl (tX12_against_b48 X  n9 _ _ _ _ w)
def vX12_against_b12  (Qn : Int32 → gH → Prop) (h : gH) (v0 : Nat) (v1 : Int32) (s0 : Int32) : Prop := io h v0 15 (vX12_of (fun x2 h1 => (((x2 : Int32) = (-1)) → (vX12_against_b45  Qn h1 v0 v1)) ∧ ((¬ (x2 : Int32) = (-1)) → (io h1 v0 15 (vX12_progressOf (fun x4 h3 => io h3 v0 15 (vX12_of (fun x6 h5 => ((((Int32.toInt64 x6) * 10000) ≤ (x4 : Int64)) → (vX12_against_b45  Qn h5 v0 v1)) ∧ ((¬ ((Int32.toInt64 x6) * 10000) ≤ (x4 : Int64)) → (Qn 2 h5))) h3 v0 v1 3)) h1 v0 s0)))) h v0 v1 3)
set_option maxRecDepth 100000 in
set_option maxHeartbeats 4000000 in
theorem tX12_against_b12 {p : Program} {l : Launch} {e : Env} {s : State} {m : MethodId} {args : Array Value} {below : List Frame} {meth : Method} {c : Code} {G : gG} {A : Nat → Prop} {Qn : Int32 → gH → Prop} (X : gC p l s m args meth c G A cX12_against 5 (some FieldType.int) RX12)   {h : gH} {v0 : Nat} {v1 : Int32} {s0 : Int32} (w : vX12_against_b12  Qn h v0 v1 s0) : V p l e rmX12_against s m args below meth c (MQ below (va_Qi Qn (gB G A) A) args s rmX12_against.cells rmX12_against.slots A) G A 5 h 0 0 12 [(0, .ref v0), (1, .int v1)] [.int s0] := by
  refine V_istore_n X dX12_against_12 rfl (by decide) rfl ?_
  refine V_aloadr_n X dX12_against_13 1 rfl ?_
  refine V_iload_n X dX12_against_14 2 rfl ?_
  refine V_iconst (y := 3) X dX12_against_15 (by decide) ?_
  obtain ⟨fs, hh, w⟩ := w
  refine V_callVi (As := [.int v1, .int 3]) (rest := []) (k1 := 0) (n1 := 0) X (cX12_of_ok X.2.2.2.2.2.2.2.2.1 w) lkX12_177 hh (q9 := (RX12, TX12, 42)) rfl rfl dX12_against_16 ⟨Nat.le_of_ble_eq_true rfl, Nat.le_of_ble_eq_true rfl⟩ rfl (Nat.le_of_ble_eq_true rfl) ⟨Nat.le_of_ble_eq_true rfl, Nat.le_of_ble_eq_true rfl⟩ (Nat.le_of_ble_eq_true rfl) (Nat.le_of_ble_eq_true rfl) (fun x2 h1 w9 => ?_)
  replace w := w9
  clear w9
  refine V_iconst (y := (-1)) X dX12_against_19 (by decide) ?_
  obtain ⟨w1, w2⟩ := w
  refine V_icmp_eq (tgt := 45) X dX12_against_20 (by decide) (fun z => ?_) (fun z => ?_)
  · replace w := w1 z
    clear w1 w2
    exact V.sub [1, 2] rfl (tX12_against_b45 X  w)
  · replace w := w2 z
    clear w1 w2
    refine V_aloadr_n X dX12_against_23 1 rfl ?_
    refine V_iload_n X dX12_against_24 0 rfl ?_
    obtain ⟨fs, hh, w⟩ := w
    refine V_callVl (As := [.int s0]) (rest := []) (k1 := 0) (n1 := 0) X (cX12_progressOf_ok X.2.2.2.2.2.2.2.2.1 w) lkX12_257 hh (q9 := (RX12, TX12, 42)) rfl rfl dX12_against_25 ⟨Nat.le_of_ble_eq_true rfl, Nat.le_of_ble_eq_true rfl⟩ rfl (Nat.le_of_ble_eq_true rfl) ⟨Nat.le_of_ble_eq_true rfl, Nat.le_of_ble_eq_true rfl⟩ (Nat.le_of_ble_eq_true rfl) (Nat.le_of_ble_eq_true rfl) (fun x4 h3 w9 => ?_)
    replace w := w9
    clear w9
    refine V_aloadr_n X dX12_against_28 1 rfl ?_
    refine V_iload_n X dX12_against_29 2 rfl ?_
    refine V_iconst (y := 3) X dX12_against_30 (by decide) ?_
    obtain ⟨fs, hh, w⟩ := w
    refine V_callVi (As := [.int v1, .int 3]) (rest := [.long x4]) (k1 := 0) (n1 := 0) X (cX12_of_ok X.2.2.2.2.2.2.2.2.1 w) lkX12_177 hh (q9 := (RX12, TX12, 42)) rfl rfl dX12_against_31 ⟨Nat.le_of_ble_eq_true rfl, Nat.le_of_ble_eq_true rfl⟩ rfl (Nat.le_of_ble_eq_true rfl) ⟨Nat.le_of_ble_eq_true rfl, Nat.le_of_ble_eq_true rfl⟩ (Nat.le_of_ble_eq_true rfl) (Nat.le_of_ble_eq_true rfl) (fun x6 h5 w9 => ?_)
    replace w := w9
    clear w9
    refine V_i2l X dX12_against_34 ?_
    refine V_ldc2 (y := 10000) X dX12_against_35 kw_2003 ?_
    refine V_lmul X dX12_against_38 ?_
    refine V_lcmp X dX12_against_39 ?_
    obtain ⟨w1, w2⟩ := w
    refine V_if_ge (tgt := 45) X dX12_against_40 (by decide) (fun z => ?_) (fun z => ?_)
    · replace w := w1 ((lg_cmp_ge _ _).mp z)
      clear w1 w2
      exact V.sub [1, 2] rfl (tX12_against_b45 X  w)
    · replace w := w2 (fun z9 => z ((lg_cmp_ge _ _).mpr z9))
      clear w1 w2
      refine V_iconst (y := 2) X dX12_against_43 (by decide) ?_
      exact V_iret X rfl dX12_against_44 (Nat.le_of_ble_eq_true rfl) (Nat.le_of_ble_eq_true rfl) w
def vX12_against  (Qn : Int32 → gH → Prop) (h : gH) (v0 : Nat) (v1 : Int32) (v2 : Int32) : Prop := ((¬ (v2 : Int32) = 2) → (vX12_against_b12  Qn h v0 v1 12)) ∧ (((v2 : Int32) = 2) → (vX12_against_b12  Qn h v0 v1 16))
set_option maxRecDepth 100000 in
set_option maxHeartbeats 4000000 in
theorem tX12_against {p : Program} {l : Launch} {e : Env} {s : State} {m : MethodId} {args : Array Value} {below : List Frame} {meth : Method} {c : Code} {G : gG} {A : Nat → Prop} {Qn : Int32 → gH → Prop} (X : gC p l s m args meth c G A cX12_against 5 (some FieldType.int) RX12)   {h : gH} {v0 : Nat} {v1 : Int32} {v2 : Int32} (w : vX12_against  Qn h v0 v1 v2) : V p l e rmX12_against s m args below meth c (MQ below (va_Qi Qn (gB G A) A) args s rmX12_against.cells rmX12_against.slots A) G A 5 h 0 0 0 [(0, .ref v0), (1, .int v1), (2, .int v2)] [] := by
  refine V_iload_n X dX12_against_0 2 rfl ?_
  refine V_iconst (y := 2) X dX12_against_1 (by decide) ?_
  obtain ⟨w1, w2⟩ := w
  refine V_icmp_ne (tgt := 10) X dX12_against_2 (by decide) (fun z => ?_) (fun z => ?_)
  · replace w := w1 z
    clear w1 w2
    refine V_bipush (y := 12) X dX12_against_10 (by decide) ?_
    exact V.sub [0, 1] rfl (tX12_against_b12 X  w)
  · replace w := w2 z
    clear w1 w2
    refine V_bipush (y := 16) X dX12_against_5 (by decide) ?_
    refine V_goto (tgt := 12) X dX12_against_7 (by decide) ?_
    exact V.sub [0, 1] rfl (tX12_against_b12 X  w)
theorem cX12_against_ok {l : Launch} {G : gG} {h : gH} (hls : l.stackTraces = false) {Qn : Int32 → gH → Prop} {v0 : Nat} {v1 : Int32} {v2 : Int32} (w : vX12_against Qn h v0 v1 v2) : gMi l yX12_against cX12_against 5 (some FieldType.int) rmX12_against rmX12_against.cells rmX12_against.slots G h [.ref v0, .int v1, .int v2] Qn := by
  exact gMi.of (by decide +kernel) hls (Nat.le_of_ble_eq_true rfl) rfl rfl (fun p e s m below meth c A X hnm => tX12_against X w)
/-! AnimationControllerModel.firstOf(I)I -/
abbrev rmX12_firstOf : Room := { frames := 4, cells := 0, slots := 0, locals := 90 }
def vX12_firstOf_b64 (k2 : gH → Nat → Int32 → Int32 → Prop) (k9 : gH → Nat → Int32 → Int32 → Int32 → Prop) (Qn : Int32 → gH → Prop) (h : gH) (v0 : Nat) (v1 : Int32) (v2 : Int32) (v3 : Int32) : Prop := k9 h v0 v1 v2 (v3 + 1)
set_option maxRecDepth 100000 in
set_option maxHeartbeats 4000000 in
theorem tX12_firstOf_b64 {p : Program} {l : Launch} {e : Env} {s : State} {m : MethodId} {args : Array Value} {below : List Frame} {meth : Method} {c : Code} {G : gG} {A : Nat → Prop} {Qn : Int32 → gH → Prop} (X : gC p l s m args meth c G A cX12_firstOf 4 (some FieldType.int) RX12) {k2 : gH → Nat → Int32 → Int32 → Prop} {k9 : gH → Nat → Int32 → Int32 → Int32 → Prop} (H2 : ∀ (h : gH) (v0 : Nat) (v1 : Int32) (v2 : Int32), k2 h v0 v1 v2 → V p l e rmX12_firstOf s m args below meth c (MQ below (va_Qi Qn (gB G A) A) args s rmX12_firstOf.cells rmX12_firstOf.slots A) G A 4 h 0 0 2 [(0, .ref v0), (1, .int v1), (2, .int v2)] []) (H9 : ∀ (h : gH) (v0 : Nat) (v1 : Int32) (v2 : Int32) (v3 : Int32), k9 h v0 v1 v2 v3 → V p l e rmX12_firstOf s m args below meth c (MQ below (va_Qi Qn (gB G A) A) args s rmX12_firstOf.cells rmX12_firstOf.slots A) G A 4 h 0 0 9 [(0, .ref v0), (1, .int v1), (2, .int v2), (3, .int v3)] []) {h : gH} {v0 : Nat} {v1 : Int32} {v2 : Int32} {v3 : Int32} (w : vX12_firstOf_b64 k2 k9 Qn h v0 v1 v2 v3) : V p l e rmX12_firstOf s m args below meth c (MQ below (va_Qi Qn (gB G A) A) args s rmX12_firstOf.cells rmX12_firstOf.slots A) G A 4 h 0 0 64 [(0, .ref v0), (1, .int v1), (2, .int v2), (3, .int v3)] [] := by
  refine V_iinc (y := (v3 + 1)) X dX12_firstOf_64 3 rfl (by first | rfl | (congr 1)) (by decide) rfl ?_
  refine V_goto (tgt := 9) X dX12_firstOf_67 (by decide) ?_
  exact V.sub [1, 2, 3, 0] rfl (H9 _ _ _ _ _ w)
def vX12_firstOf_b41 (k2 : gH → Nat → Int32 → Int32 → Prop) (k9 : gH → Nat → Int32 → Int32 → Int32 → Prop) (Qn : Int32 → gH → Prop) (h : gH) (v0 : Nat) (v1 : Int32) (v2 : Int32) (v3 : Int32) (s0 : Int32) (s1 : Int32) : Prop := ((¬ (s1 : Int32) = s0) → (vX12_firstOf_b64 k2 k9 Qn h v0 v1 v2 v3)) ∧ (((s1 : Int32) = s0) → (io h v0 15 (vX12_listOf (fun x2 h1 => ((¬ (x2 : Int32) = v1) → (vX12_firstOf_b64 k2 k9 Qn h1 v0 v1 v2 v3)) ∧ (((x2 : Int32) = v1) → (io h1 v0 15 (vX12_against (fun x4 h3 => ((¬ (x4 : Int32) = 0) → (vX12_firstOf_b64 k2 k9 Qn h3 v0 v1 v2 v3)) ∧ (((x4 : Int32) = 0) → (Qn v3 h3))) h1 v0 v3 v1)))) h v0 v3)))
set_option maxRecDepth 100000 in
set_option maxHeartbeats 4000000 in
theorem tX12_firstOf_b41 {p : Program} {l : Launch} {e : Env} {s : State} {m : MethodId} {args : Array Value} {below : List Frame} {meth : Method} {c : Code} {G : gG} {A : Nat → Prop} {Qn : Int32 → gH → Prop} (X : gC p l s m args meth c G A cX12_firstOf 4 (some FieldType.int) RX12) {k2 : gH → Nat → Int32 → Int32 → Prop} {k9 : gH → Nat → Int32 → Int32 → Int32 → Prop} (H2 : ∀ (h : gH) (v0 : Nat) (v1 : Int32) (v2 : Int32), k2 h v0 v1 v2 → V p l e rmX12_firstOf s m args below meth c (MQ below (va_Qi Qn (gB G A) A) args s rmX12_firstOf.cells rmX12_firstOf.slots A) G A 4 h 0 0 2 [(0, .ref v0), (1, .int v1), (2, .int v2)] []) (H9 : ∀ (h : gH) (v0 : Nat) (v1 : Int32) (v2 : Int32) (v3 : Int32), k9 h v0 v1 v2 v3 → V p l e rmX12_firstOf s m args below meth c (MQ below (va_Qi Qn (gB G A) A) args s rmX12_firstOf.cells rmX12_firstOf.slots A) G A 4 h 0 0 9 [(0, .ref v0), (1, .int v1), (2, .int v2), (3, .int v3)] []) {h : gH} {v0 : Nat} {v1 : Int32} {v2 : Int32} {v3 : Int32} {s0 : Int32} {s1 : Int32} (w : vX12_firstOf_b41 k2 k9 Qn h v0 v1 v2 v3 s0 s1) : V p l e rmX12_firstOf s m args below meth c (MQ below (va_Qi Qn (gB G A) A) args s rmX12_firstOf.cells rmX12_firstOf.slots A) G A 4 h 0 0 41 [(0, .ref v0), (1, .int v1), (2, .int v2), (3, .int v3)] [.int s0, .int s1] := by
  obtain ⟨w1, w2⟩ := w
  refine V_icmp_ne (tgt := 64) X dX12_firstOf_41 (by decide) (fun z => ?_) (fun z => ?_)
  · replace w := w1 z
    clear w1 w2
    exact V.sub [0, 1, 2, 3] rfl (tX12_firstOf_b64 X H2 H9 w)
  · replace w := w2 z
    clear w1 w2
    refine V_aloadr_n X dX12_firstOf_44 0 rfl ?_
    refine V_iload_n X dX12_firstOf_45 3 rfl ?_
    obtain ⟨fs, hh, w⟩ := w
    refine V_callVi (As := [.int v3]) (rest := []) (k1 := 0) (n1 := 0) X (cX12_listOf_ok X.2.2.2.2.2.2.2.2.1 w) lkX12_307 hh (q9 := (RX12, TX12, 42)) rfl rfl dX12_firstOf_46 ⟨Nat.le_of_ble_eq_true rfl, Nat.le_of_ble_eq_true rfl⟩ rfl (Nat.le_of_ble_eq_true rfl) ⟨Nat.le_of_ble_eq_true rfl, Nat.le_of_ble_eq_true rfl⟩ (Nat.le_of_ble_eq_true rfl) (Nat.le_of_ble_eq_true rfl) (fun x2 h1 w9 => ?_)
    replace w := w9
    clear w9
    refine V_iload_n X dX12_firstOf_49 1 rfl ?_
    obtain ⟨w1, w2⟩ := w
    refine V_icmp_ne (tgt := 64) X dX12_firstOf_50 (by decide) (fun z => ?_) (fun z => ?_)
    · replace w := w1 z
      clear w1 w2
      exact V.sub [0, 1, 2, 3] rfl (tX12_firstOf_b64 X H2 H9 w)
    · replace w := w2 z
      clear w1 w2
      refine V_aloadr_n X dX12_firstOf_53 0 rfl ?_
      refine V_iload_n X dX12_firstOf_54 3 rfl ?_
      refine V_iload_n X dX12_firstOf_55 1 rfl ?_
      obtain ⟨fs, hh, w⟩ := w
      refine V_callVi (As := [.int v3, .int v1]) (rest := []) (k1 := 0) (n1 := 0) X (cX12_against_ok X.2.2.2.2.2.2.2.2.1 w) lkX12_310 hh (q9 := (RX12, TX12, 42)) rfl rfl dX12_firstOf_56 ⟨Nat.le_of_ble_eq_true rfl, Nat.le_of_ble_eq_true rfl⟩ rfl (Nat.le_of_ble_eq_true rfl) ⟨Nat.le_of_ble_eq_true rfl, Nat.le_of_ble_eq_true rfl⟩ (Nat.le_of_ble_eq_true rfl) (Nat.le_of_ble_eq_true rfl) (fun x4 h3 w9 => ?_)
      replace w := w9
      clear w9
      obtain ⟨w1, w2⟩ := w
      refine V_if_ne (tgt := 64) X dX12_firstOf_59 (by decide) (fun z => ?_) (fun z => ?_)
      · replace w := w1 z
        clear w1 w2
        exact V.sub [0, 1, 2, 3] rfl (tX12_firstOf_b64 X H2 H9 w)
      · replace w := w2 z
        clear w1 w2
        refine V_iload_n X dX12_firstOf_62 3 rfl ?_
        exact V_iret X rfl dX12_firstOf_63 (Nat.le_of_ble_eq_true rfl) (Nat.le_of_ble_eq_true rfl) w
def vX12_firstOf_b32 (k2 : gH → Nat → Int32 → Int32 → Prop) (k9 : gH → Nat → Int32 → Int32 → Int32 → Prop) (Qn : Int32 → gH → Prop) (h : gH) (v0 : Nat) (v1 : Int32) (v2 : Int32) (v3 : Int32) (s0 : Int32) : Prop := ((¬ (v2 : Int32) = 0) → (vX12_firstOf_b41 k2 k9 Qn h v0 v1 v2 v3 0 s0)) ∧ (((v2 : Int32) = 0) → (vX12_firstOf_b41 k2 k9 Qn h v0 v1 v2 v3 1 s0))
set_option maxRecDepth 100000 in
set_option maxHeartbeats 4000000 in
theorem tX12_firstOf_b32 {p : Program} {l : Launch} {e : Env} {s : State} {m : MethodId} {args : Array Value} {below : List Frame} {meth : Method} {c : Code} {G : gG} {A : Nat → Prop} {Qn : Int32 → gH → Prop} (X : gC p l s m args meth c G A cX12_firstOf 4 (some FieldType.int) RX12) {k2 : gH → Nat → Int32 → Int32 → Prop} {k9 : gH → Nat → Int32 → Int32 → Int32 → Prop} (H2 : ∀ (h : gH) (v0 : Nat) (v1 : Int32) (v2 : Int32), k2 h v0 v1 v2 → V p l e rmX12_firstOf s m args below meth c (MQ below (va_Qi Qn (gB G A) A) args s rmX12_firstOf.cells rmX12_firstOf.slots A) G A 4 h 0 0 2 [(0, .ref v0), (1, .int v1), (2, .int v2)] []) (H9 : ∀ (h : gH) (v0 : Nat) (v1 : Int32) (v2 : Int32) (v3 : Int32), k9 h v0 v1 v2 v3 → V p l e rmX12_firstOf s m args below meth c (MQ below (va_Qi Qn (gB G A) A) args s rmX12_firstOf.cells rmX12_firstOf.slots A) G A 4 h 0 0 9 [(0, .ref v0), (1, .int v1), (2, .int v2), (3, .int v3)] []) {h : gH} {v0 : Nat} {v1 : Int32} {v2 : Int32} {v3 : Int32} {s0 : Int32} (w : vX12_firstOf_b32 k2 k9 Qn h v0 v1 v2 v3 s0) : V p l e rmX12_firstOf s m args below meth c (MQ below (va_Qi Qn (gB G A) A) args s rmX12_firstOf.cells rmX12_firstOf.slots A) G A 4 h 0 0 32 [(0, .ref v0), (1, .int v1), (2, .int v2), (3, .int v3)] [.int s0] := by
  refine V_iload_n X dX12_firstOf_32 2 rfl ?_
  obtain ⟨w1, w2⟩ := w
  refine V_if_ne (tgt := 40) X dX12_firstOf_33 (by decide) (fun z => ?_) (fun z => ?_)
  · replace w := w1 z
    clear w1 w2
    refine V_iconst (y := 0) X dX12_firstOf_40 (by decide) ?_
    exact V.sub [0, 1, 2, 3] rfl (tX12_firstOf_b41 X H2 H9 w)
  · replace w := w2 z
    clear w1 w2
    refine V_iconst (y := 1) X dX12_firstOf_36 (by decide) ?_
    refine V_goto (tgt := 41) X dX12_firstOf_37 (by decide) ?_
    exact V.sub [0, 1, 2, 3] rfl (tX12_firstOf_b41 X H2 H9 w)
def vX12_firstOf_b9_o (k2 : gH → Nat → Int32 → Int32 → Prop) (k9 : gH → Nat → Int32 → Int32 → Int32 → Prop) (Qn : Int32 → gH → Prop) (h : gH) (v0 : Nat) (v1 : Int32) (v2 : Int32) (v3 : Int32) : Prop := gi h v0 15 21 (fun x1 => ((x1 ≤ (v3 : Int32)) → (k2 h v0 v1 (v2 + 1))) ∧ ((¬ x1 ≤ (v3 : Int32)) → (io h v0 15 (vX12_of (fun x3 h2 => ((¬ (x3 : Int32) = (-1)) → (vX12_firstOf_b32 k2 k9 Qn h2 v0 v1 v2 v3 0)) ∧ (((x3 : Int32) = (-1)) → (vX12_firstOf_b32 k2 k9 Qn h2 v0 v1 v2 v3 1))) h v0 v3 0))))
set_option maxRecDepth 100000 in
set_option maxHeartbeats 4000000 in
theorem tX12_firstOf_b9_o {p : Program} {l : Launch} {e : Env} {s : State} {m : MethodId} {args : Array Value} {below : List Frame} {meth : Method} {c : Code} {G : gG} {A : Nat → Prop} {Qn : Int32 → gH → Prop} (X : gC p l s m args meth c G A cX12_firstOf 4 (some FieldType.int) RX12) {k2 : gH → Nat → Int32 → Int32 → Prop} {k9 : gH → Nat → Int32 → Int32 → Int32 → Prop} (H2 : ∀ (h : gH) (v0 : Nat) (v1 : Int32) (v2 : Int32), k2 h v0 v1 v2 → V p l e rmX12_firstOf s m args below meth c (MQ below (va_Qi Qn (gB G A) A) args s rmX12_firstOf.cells rmX12_firstOf.slots A) G A 4 h 0 0 2 [(0, .ref v0), (1, .int v1), (2, .int v2)] []) (H9 : ∀ (h : gH) (v0 : Nat) (v1 : Int32) (v2 : Int32) (v3 : Int32), k9 h v0 v1 v2 v3 → V p l e rmX12_firstOf s m args below meth c (MQ below (va_Qi Qn (gB G A) A) args s rmX12_firstOf.cells rmX12_firstOf.slots A) G A 4 h 0 0 9 [(0, .ref v0), (1, .int v1), (2, .int v2), (3, .int v3)] []) {h : gH} {v0 : Nat} {v1 : Int32} {v2 : Int32} {v3 : Int32} (w : vX12_firstOf_b9_o k2 k9 Qn h v0 v1 v2 v3) : V p l e rmX12_firstOf s m args below meth c (MQ below (va_Qi Qn (gB G A) A) args s rmX12_firstOf.cells rmX12_firstOf.slots A) G A 4 h 0 0 9 [(0, .ref v0), (1, .int v1), (2, .int v2), (3, .int v3)] [] := by
  refine V_iload_n X dX12_firstOf_9 3 rfl ?_
  refine V_aloadr_n X dX12_firstOf_10 0 rfl ?_
  obtain ⟨fs, x1, hh, hv, w⟩ := w
  refine V_get X flX12_159 dX12_firstOf_11 hh hv ?_
  obtain ⟨w1, w2⟩ := w
  refine V_icmp_ge (tgt := 70) X dX12_firstOf_14 (by decide) (fun z => ?_) (fun z => ?_)
  · replace w := w1 z
    clear w1 w2
    refine V_iinc (y := (v2 + 1)) X dX12_firstOf_70 2 rfl (by first | rfl | (congr 1)) (by decide) rfl ?_
    refine V_goto (tgt := 2) X dX12_firstOf_73 (by decide) ?_
    exact V.sub [1, 2, 0] rfl (H2 _ _ _ _ w)
  · replace w := w2 z
    clear w1 w2
    refine V_aloadr_n X dX12_firstOf_17 0 rfl ?_
    refine V_iload_n X dX12_firstOf_18 3 rfl ?_
    refine V_iconst (y := 0) X dX12_firstOf_19 (by decide) ?_
    obtain ⟨fs, hh, w⟩ := w
    refine V_callVi (As := [.int v3, .int 0]) (rest := []) (k1 := 0) (n1 := 0) X (cX12_of_ok X.2.2.2.2.2.2.2.2.1 w) lkX12_177 hh (q9 := (RX12, TX12, 42)) rfl rfl dX12_firstOf_20 ⟨Nat.le_of_ble_eq_true rfl, Nat.le_of_ble_eq_true rfl⟩ rfl (Nat.le_of_ble_eq_true rfl) ⟨Nat.le_of_ble_eq_true rfl, Nat.le_of_ble_eq_true rfl⟩ (Nat.le_of_ble_eq_true rfl) (Nat.le_of_ble_eq_true rfl) (fun x3 h2 w9 => ?_)
    replace w := w9
    clear w9
    refine V_iconst (y := (-1)) X dX12_firstOf_23 (by decide) ?_
    obtain ⟨w1, w2⟩ := w
    refine V_icmp_ne (tgt := 31) X dX12_firstOf_24 (by decide) (fun z => ?_) (fun z => ?_)
    · replace w := w1 z
      clear w1 w2
      refine V_iconst (y := 0) X dX12_firstOf_31 (by decide) ?_
      exact V.sub [0, 1, 2, 3] rfl (tX12_firstOf_b32 X H2 H9 w)
    · replace w := w2 z
      clear w1 w2
      refine V_iconst (y := 1) X dX12_firstOf_27 (by decide) ?_
      refine V_goto (tgt := 32) X dX12_firstOf_28 (by decide) ?_
      exact V.sub [0, 1, 2, 3] rfl (tX12_firstOf_b32 X H2 H9 w)
def vX12_firstOf_b9 (k2 : gH → Nat → Int32 → Int32 → Prop) (Qn : Int32 → gH → Prop) (n : Nat) : gH → Nat → Int32 → Int32 → Int32 → Prop := Nat.rec (motive := fun _ => gH → Nat → Int32 → Int32 → Int32 → Prop) (fun _ _ _ _ _ => False) (fun _ k9 => vX12_firstOf_b9_o k2 k9 Qn) n
theorem tX12_firstOf_b9 {p : Program} {l : Launch} {e : Env} {s : State} {m : MethodId} {args : Array Value} {below : List Frame} {meth : Method} {c : Code} {G : gG} {A : Nat → Prop} {Qn : Int32 → gH → Prop} (X : gC p l s m args meth c G A cX12_firstOf 4 (some FieldType.int) RX12) {k2 : gH → Nat → Int32 → Int32 → Prop} (H2 : ∀ (h : gH) (v0 : Nat) (v1 : Int32) (v2 : Int32), k2 h v0 v1 v2 → V p l e rmX12_firstOf s m args below meth c (MQ below (va_Qi Qn (gB G A) A) args s rmX12_firstOf.cells rmX12_firstOf.slots A) G A 4 h 0 0 2 [(0, .ref v0), (1, .int v1), (2, .int v2)] []) : ∀ (n : Nat) (h : gH) (v0 : Nat) (v1 : Int32) (v2 : Int32) (v3 : Int32) (w : vX12_firstOf_b9 k2 Qn n h v0 v1 v2 v3), V p l e rmX12_firstOf s m args below meth c (MQ below (va_Qi Qn (gB G A) A) args s rmX12_firstOf.cells rmX12_firstOf.slots A) G A 4 h 0 0 9 [(0, .ref v0), (1, .int v1), (2, .int v2), (3, .int v3)] [] := by
  intro n
  induction n with
  | zero => intro h v0 v1 v2 v3 w; exact False.elim w
  | succ n ih => intro h v0 v1 v2 v3 w; exact tX12_firstOf_b9_o X H2 ih w
def vX12_firstOf_b2_o (k2 : gH → Nat → Int32 → Int32 → Prop) (Qn : Int32 → gH → Prop) (h : gH) (v0 : Nat) (v1 : Int32) (v2 : Int32) : Prop := ((2 ≤ (v2 : Int32)) → (Qn (-1) h)) ∧ ((¬ 2 ≤ (v2 : Int32)) → (∃ n : Nat, vX12_firstOf_b9 k2 Qn n h v0 v1 v2 0))
set_option maxRecDepth 100000 in
set_option maxHeartbeats 4000000 in
theorem tX12_firstOf_b2_o {p : Program} {l : Launch} {e : Env} {s : State} {m : MethodId} {args : Array Value} {below : List Frame} {meth : Method} {c : Code} {G : gG} {A : Nat → Prop} {Qn : Int32 → gH → Prop} (X : gC p l s m args meth c G A cX12_firstOf 4 (some FieldType.int) RX12) {k2 : gH → Nat → Int32 → Int32 → Prop} (H2 : ∀ (h : gH) (v0 : Nat) (v1 : Int32) (v2 : Int32), k2 h v0 v1 v2 → V p l e rmX12_firstOf s m args below meth c (MQ below (va_Qi Qn (gB G A) A) args s rmX12_firstOf.cells rmX12_firstOf.slots A) G A 4 h 0 0 2 [(0, .ref v0), (1, .int v1), (2, .int v2)] []) {h : gH} {v0 : Nat} {v1 : Int32} {v2 : Int32} (w : vX12_firstOf_b2_o k2 Qn h v0 v1 v2) : V p l e rmX12_firstOf s m args below meth c (MQ below (va_Qi Qn (gB G A) A) args s rmX12_firstOf.cells rmX12_firstOf.slots A) G A 4 h 0 0 2 [(0, .ref v0), (1, .int v1), (2, .int v2)] [] := by
  refine V_iload_n X dX12_firstOf_2 2 rfl ?_
  refine V_iconst (y := 2) X dX12_firstOf_3 (by decide) ?_
  obtain ⟨w1, w2⟩ := w
  refine V_icmp_ge (tgt := 76) X dX12_firstOf_4 (by decide) (fun z => ?_) (fun z => ?_)
  · replace w := w1 z
    clear w1 w2
    refine V_iconst (y := (-1)) X dX12_firstOf_76 (by decide) ?_
    exact V_iret X rfl dX12_firstOf_77 (Nat.le_of_ble_eq_true rfl) (Nat.le_of_ble_eq_true rfl) w
  · replace w := w2 z
    clear w1 w2
    refine V_iconst (y := 0) X dX12_firstOf_7 (by decide) ?_
    refine V_istore_n X dX12_firstOf_8 rfl (by decide) rfl ?_
    obtain ⟨n9, w⟩ := w
    exact V.sub [1, 2, 3, 0] rfl (tX12_firstOf_b9 X H2 n9 _ _ _ _ _ w)
def vX12_firstOf_b2  (Qn : Int32 → gH → Prop) (n : Nat) : gH → Nat → Int32 → Int32 → Prop := Nat.rec (motive := fun _ => gH → Nat → Int32 → Int32 → Prop) (fun _ _ _ _ => False) (fun _ k2 => vX12_firstOf_b2_o k2 Qn) n
theorem tX12_firstOf_b2 {p : Program} {l : Launch} {e : Env} {s : State} {m : MethodId} {args : Array Value} {below : List Frame} {meth : Method} {c : Code} {G : gG} {A : Nat → Prop} {Qn : Int32 → gH → Prop} (X : gC p l s m args meth c G A cX12_firstOf 4 (some FieldType.int) RX12)   : ∀ (n : Nat) (h : gH) (v0 : Nat) (v1 : Int32) (v2 : Int32) (w : vX12_firstOf_b2  Qn n h v0 v1 v2), V p l e rmX12_firstOf s m args below meth c (MQ below (va_Qi Qn (gB G A) A) args s rmX12_firstOf.cells rmX12_firstOf.slots A) G A 4 h 0 0 2 [(0, .ref v0), (1, .int v1), (2, .int v2)] [] := by
  intro n
  induction n with
  | zero => intro h v0 v1 v2 w; exact False.elim w
  | succ n ih => intro h v0 v1 v2 w; exact tX12_firstOf_b2_o X ih w
def vX12_firstOf  (Qn : Int32 → gH → Prop) (h : gH) (v0 : Nat) (v1 : Int32) : Prop := ∃ n : Nat, vX12_firstOf_b2  Qn n h v0 v1 0
set_option maxRecDepth 100000 in
set_option maxHeartbeats 4000000 in
theorem tX12_firstOf {p : Program} {l : Launch} {e : Env} {s : State} {m : MethodId} {args : Array Value} {below : List Frame} {meth : Method} {c : Code} {G : gG} {A : Nat → Prop} {Qn : Int32 → gH → Prop} (X : gC p l s m args meth c G A cX12_firstOf 4 (some FieldType.int) RX12)   {h : gH} {v0 : Nat} {v1 : Int32} (w : vX12_firstOf  Qn h v0 v1) : V p l e rmX12_firstOf s m args below meth c (MQ below (va_Qi Qn (gB G A) A) args s rmX12_firstOf.cells rmX12_firstOf.slots A) G A 4 h 0 0 0 [(0, .ref v0), (1, .int v1)] [] := by
  refine V_iconst (y := 0) X dX12_firstOf_0 (by decide) ?_
  refine V_istore_n X dX12_firstOf_1 rfl (by decide) rfl ?_
  obtain ⟨n9, w⟩ := w
  exact V.sub [1, 2, 0] rfl (tX12_firstOf_b2 X  n9 _ _ _ _ w)
theorem cX12_firstOf_ok {l : Launch} {G : gG} {h : gH} (hls : l.stackTraces = false) {Qn : Int32 → gH → Prop} {v0 : Nat} {v1 : Int32} (w : vX12_firstOf Qn h v0 v1) : gMi l yX12_firstOf cX12_firstOf 4 (some FieldType.int) rmX12_firstOf rmX12_firstOf.cells rmX12_firstOf.slots G h [.ref v0, .int v1] Qn := by
  exact gMi.of (by decide +kernel) hls (Nat.le_of_ble_eq_true rfl) rfl rfl (fun p e s m below meth c A X hnm => tX12_firstOf X w)
/-! AnimationControllerModel.blocked(I)I -/
abbrev rmX12_blocked : Room := { frames := 4, cells := 0, slots := 0, locals := 90 }
def vX12_blocked_b50  (Qn : Int32 → gH → Prop) (h : gH) (s0 : Int32) : Prop := Qn s0 h
set_option maxRecDepth 100000 in
set_option maxHeartbeats 4000000 in
theorem tX12_blocked_b50 {p : Program} {l : Launch} {e : Env} {s : State} {m : MethodId} {args : Array Value} {below : List Frame} {meth : Method} {c : Code} {G : gG} {A : Nat → Prop} {Qn : Int32 → gH → Prop} (X : gC p l s m args meth c G A cX12_blocked 3 (some FieldType.int) RX12)   {h : gH} {s0 : Int32} (w : vX12_blocked_b50  Qn h s0) : V p l e rmX12_blocked s m args below meth c (MQ below (va_Qi Qn (gB G A) A) args s rmX12_blocked.cells rmX12_blocked.slots A) G A 3 h 0 0 50 [] [.int s0] := by
  exact V_iret X rfl dX12_blocked_50 (Nat.le_of_ble_eq_true rfl) (Nat.le_of_ble_eq_true rfl) w
def vX12_blocked_b35  (Qn : Int32 → gH → Prop) (h : gH) (v0 : Nat) (v1 : Int32) (s0 : Int32) : Prop := ((¬ (s0 : Int32) = 0) → (io h v0 15 (vX12_against (fun x2 h1 => vX12_blocked_b50  Qn h1 x2) h v0 v1 s0))) ∧ (((s0 : Int32) = 0) → (vX12_blocked_b50  Qn h 1))
set_option maxRecDepth 100000 in
set_option maxHeartbeats 4000000 in
theorem tX12_blocked_b35 {p : Program} {l : Launch} {e : Env} {s : State} {m : MethodId} {args : Array Value} {below : List Frame} {meth : Method} {c : Code} {G : gG} {A : Nat → Prop} {Qn : Int32 → gH → Prop} (X : gC p l s m args meth c G A cX12_blocked 3 (some FieldType.int) RX12)   {h : gH} {v0 : Nat} {v1 : Int32} {s0 : Int32} (w : vX12_blocked_b35  Qn h v0 v1 s0) : V p l e rmX12_blocked s m args below meth c (MQ below (va_Qi Qn (gB G A) A) args s rmX12_blocked.cells rmX12_blocked.slots A) G A 3 h 0 0 35 [(0, .ref v0), (1, .int v1)] [.int s0] := by
  refine V_istore_n X dX12_blocked_35 rfl (by decide) rfl ?_
  refine V_iload_n X dX12_blocked_36 0 rfl ?_
  obtain ⟨w1, w2⟩ := w
  refine V_if_ne (tgt := 44) X dX12_blocked_37 (by decide) (fun z => ?_) (fun z => ?_)
  · replace w := w1 z
    clear w1 w2
    refine V_aloadr_n X dX12_blocked_44 1 rfl ?_
    refine V_iload_n X dX12_blocked_45 2 rfl ?_
    refine V_iload_n X dX12_blocked_46 0 rfl ?_
    obtain ⟨fs, hh, w⟩ := w
    refine V_callVi (As := [.int v1, .int s0]) (rest := []) (k1 := 0) (n1 := 0) X (cX12_against_ok X.2.2.2.2.2.2.2.2.1 w) lkX12_310 hh (q9 := (RX12, TX12, 42)) rfl rfl dX12_blocked_47 ⟨Nat.le_of_ble_eq_true rfl, Nat.le_of_ble_eq_true rfl⟩ rfl (Nat.le_of_ble_eq_true rfl) ⟨Nat.le_of_ble_eq_true rfl, Nat.le_of_ble_eq_true rfl⟩ (Nat.le_of_ble_eq_true rfl) (Nat.le_of_ble_eq_true rfl) (fun x2 h1 w9 => ?_)
    replace w := w9
    clear w9
    exact V.sub [] rfl (tX12_blocked_b50 X  w)
  · replace w := w2 z
    clear w1 w2
    refine V_iconst (y := 1) X dX12_blocked_40 (by decide) ?_
    refine V_goto (tgt := 50) X dX12_blocked_41 (by decide) ?_
    exact V.sub [] rfl (tX12_blocked_b50 X  w)
def vX12_blocked  (Qn : Int32 → gH → Prop) (h : gH) (v0 : Nat) (v1 : Int32) : Prop := pv h v0 15 25 (.int 0) (fun h1 => io h1 v0 15 (vX12_isTransition (fun x3 h2 => ((¬ (x3 : Int32) = 0) → (gi h2 v0 15 19 (fun x4 => ((¬ (x4 : Int32) = 0) → (io h2 v0 15 (vX12_listOf (fun x6 h5 => vX12_blocked_b35  Qn h5 v0 v1 x6) h2 v0 v1))) ∧ (((x4 : Int32) = 0) → (vX12_blocked_b35  Qn h2 v0 v1 0))))) ∧ (((x3 : Int32) = 0) → (io h2 v0 15 (vX12_fails (fun x8 h7 => Qn x8 h7) h2 v0 1)))) h1 v0 v1))
set_option maxRecDepth 100000 in
set_option maxHeartbeats 4000000 in
theorem tX12_blocked {p : Program} {l : Launch} {e : Env} {s : State} {m : MethodId} {args : Array Value} {below : List Frame} {meth : Method} {c : Code} {G : gG} {A : Nat → Prop} {Qn : Int32 → gH → Prop} (X : gC p l s m args meth c G A cX12_blocked 3 (some FieldType.int) RX12)   {h : gH} {v0 : Nat} {v1 : Int32} (w : vX12_blocked  Qn h v0 v1) : V p l e rmX12_blocked s m args below meth c (MQ below (va_Qi Qn (gB G A) A) args s rmX12_blocked.cells rmX12_blocked.slots A) G A 3 h 0 0 0 [(0, .ref v0), (1, .int v1)] [] := by
  refine V_aloadr_n X dX12_blocked_0 0 rfl ?_
  refine V_iconst (y := 0) X dX12_blocked_1 (by decide) ?_
  obtain ⟨fs, hh, hv, w⟩ := w
  refine V_put X flX12_94 dX12_blocked_2 hh hv rfl rfl ?_
  generalize va_up _ _ _ = h1 at w ⊢
  refine V_aloadr_n X dX12_blocked_5 0 rfl ?_
  refine V_iload_n X dX12_blocked_6 1 rfl ?_
  obtain ⟨fs, hh, w⟩ := w
  refine V_callVi (As := [.int v1]) (rest := []) (k1 := 0) (n1 := 0) X (cX12_isTransition_ok X.2.2.2.2.2.2.2.2.1 w) lkX12_170 hh (q9 := (RX12, TX12, 42)) rfl rfl dX12_blocked_7 ⟨Nat.le_of_ble_eq_true rfl, Nat.le_of_ble_eq_true rfl⟩ rfl (Nat.le_of_ble_eq_true rfl) ⟨Nat.le_of_ble_eq_true rfl, Nat.le_of_ble_eq_true rfl⟩ (Nat.le_of_ble_eq_true rfl) (Nat.le_of_ble_eq_true rfl) (fun x3 h2 w9 => ?_)
  replace w := w9
  clear w9
  obtain ⟨w1, w2⟩ := w
  refine V_if_ne (tgt := 19) X dX12_blocked_10 (by decide) (fun z => ?_) (fun z => ?_)
  · replace w := w1 z
    clear w1 w2
    refine V_aloadr_n X dX12_blocked_19 0 rfl ?_
    obtain ⟨fs, x4, hh, hv, w⟩ := w
    refine V_get X flX12_145 dX12_blocked_20 hh hv ?_
    obtain ⟨w1, w2⟩ := w
    refine V_if_ne (tgt := 30) X dX12_blocked_23 (by decide) (fun z => ?_) (fun z => ?_)
    · replace w := w1 z
      clear w1 w2
      refine V_aloadr_n X dX12_blocked_30 0 rfl ?_
      refine V_iload_n X dX12_blocked_31 1 rfl ?_
      obtain ⟨fs, hh, w⟩ := w
      refine V_callVi (As := [.int v1]) (rest := []) (k1 := 0) (n1 := 0) X (cX12_listOf_ok X.2.2.2.2.2.2.2.2.1 w) lkX12_307 hh (q9 := (RX12, TX12, 42)) rfl rfl dX12_blocked_32 ⟨Nat.le_of_ble_eq_true rfl, Nat.le_of_ble_eq_true rfl⟩ rfl (Nat.le_of_ble_eq_true rfl) ⟨Nat.le_of_ble_eq_true rfl, Nat.le_of_ble_eq_true rfl⟩ (Nat.le_of_ble_eq_true rfl) (Nat.le_of_ble_eq_true rfl) (fun x6 h5 w9 => ?_)
      replace w := w9
      clear w9
      exact V.sub [0, 1] rfl (tX12_blocked_b35 X  w)
    · replace w := w2 z
      clear w1 w2
      refine V_iconst (y := 0) X dX12_blocked_26 (by decide) ?_
      refine V_goto (tgt := 35) X dX12_blocked_27 (by decide) ?_
      exact V.sub [0, 1] rfl (tX12_blocked_b35 X  w)
  · replace w := w2 z
    clear w1 w2
    refine V_aloadr_n X dX12_blocked_13 0 rfl ?_
    refine V_iconst (y := 1) X dX12_blocked_14 (by decide) ?_
    obtain ⟨fs, hh, w⟩ := w
    refine V_callVi (As := [.int 1]) (rest := []) (k1 := 0) (n1 := 0) X (cX12_fails_ok X.2.2.2.2.2.2.2.2.1 w) lkX12_103 hh (q9 := (RX12, TX12, 42)) rfl rfl dX12_blocked_15 ⟨Nat.le_of_ble_eq_true rfl, Nat.le_of_ble_eq_true rfl⟩ rfl (Nat.le_of_ble_eq_true rfl) ⟨Nat.le_of_ble_eq_true rfl, Nat.le_of_ble_eq_true rfl⟩ (Nat.le_of_ble_eq_true rfl) (Nat.le_of_ble_eq_true rfl) (fun x8 h7 w9 => ?_)
    replace w := w9
    clear w9
    exact V_iret X rfl dX12_blocked_18 (Nat.le_of_ble_eq_true rfl) (Nat.le_of_ble_eq_true rfl) w
theorem cX12_blocked_ok {l : Launch} {G : gG} {h : gH} (hls : l.stackTraces = false) {Qn : Int32 → gH → Prop} {v0 : Nat} {v1 : Int32} (w : vX12_blocked Qn h v0 v1) : gMi l yX12_blocked cX12_blocked 3 (some FieldType.int) rmX12_blocked rmX12_blocked.cells rmX12_blocked.slots G h [.ref v0, .int v1] Qn := by
  exact gMi.of (by decide +kernel) hls (Nat.le_of_ble_eq_true rfl) rfl rfl (fun p e s m below meth c A X hnm => tX12_blocked X w)
/-! AnimationControllerModel.copiesTrack(II)V -/
abbrev rmX12_copiesTrack : Room := { frames := 0, cells := 0, slots := 0, locals := 0 }
def vX12_copiesTrack_b2_o (k2 : gH → Nat → Int32 → Int32 → Int32 → Prop) (Qn : gH → Prop) (h : gH) (v0 : Nat) (v1 : Int32) (v2 : Int32) (v3 : Int32) : Prop := ((4 ≤ (v3 : Int32)) → (Qn h)) ∧ ((¬ 4 ≤ (v3 : Int32)) → (gr h v0 15 0 (fun r1 => gr h v0 15 0 (fun r2 => nn r2 (fun a3 => li h a3 (v1 + v3) (fun x4 => nn r1 (fun a5 => si h a5 (v2 + v3) x4 (fun h6 => k2 h6 v0 v1 v2 (v3 + 1)))))))))
set_option maxRecDepth 100000 in
set_option maxHeartbeats 4000000 in
theorem tX12_copiesTrack_b2_o {p : Program} {l : Launch} {e : Env} {s : State} {m : MethodId} {args : Array Value} {below : List Frame} {meth : Method} {c : Code} {G : gG} {A : Nat → Prop} {Qn : gH → Prop} (X : gC p l s m args meth c G A cX12_copiesTrack 4 none RX12) {k2 : gH → Nat → Int32 → Int32 → Int32 → Prop} (H2 : ∀ (h : gH) (v0 : Nat) (v1 : Int32) (v2 : Int32) (v3 : Int32), k2 h v0 v1 v2 v3 → V p l e rmX12_copiesTrack s m args below meth c (MQ below (va_Qv Qn (gB G A) A) args s rmX12_copiesTrack.cells rmX12_copiesTrack.slots A) G A 4 h 0 0 2 [(0, .ref v0), (1, .int v1), (2, .int v2), (3, .int v3)] []) {h : gH} {v0 : Nat} {v1 : Int32} {v2 : Int32} {v3 : Int32} (w : vX12_copiesTrack_b2_o k2 Qn h v0 v1 v2 v3) : V p l e rmX12_copiesTrack s m args below meth c (MQ below (va_Qv Qn (gB G A) A) args s rmX12_copiesTrack.cells rmX12_copiesTrack.slots A) G A 4 h 0 0 2 [(0, .ref v0), (1, .int v1), (2, .int v2), (3, .int v3)] [] := by
  refine V_iload_n X dX12_copiesTrack_2 3 rfl ?_
  refine V_iconst (y := 4) X dX12_copiesTrack_3 (by decide) ?_
  obtain ⟨w1, w2⟩ := w
  refine V_icmp_ge (tgt := 29) X dX12_copiesTrack_4 (by decide) (fun z => ?_) (fun z => ?_)
  · replace w := w1 z
    clear w1 w2
    exact V_vret X rfl dX12_copiesTrack_29 (Nat.le_of_ble_eq_true rfl) (Nat.le_of_ble_eq_true rfl) w
  · replace w := w2 z
    clear w1 w2
    refine V_aloadr_n X dX12_copiesTrack_7 0 rfl ?_
    obtain ⟨fs, r1, hh, hv, w⟩ := w
    refine V_get X flX12_7 dX12_copiesTrack_8 hh hv ?_
    refine V_iload_n X dX12_copiesTrack_11 2 rfl ?_
    refine V_iload_n X dX12_copiesTrack_12 3 rfl ?_
    refine V_iadd X dX12_copiesTrack_13 ?_
    refine V_aloadr_n X dX12_copiesTrack_14 0 rfl ?_
    obtain ⟨fs, r2, hh, hv, w⟩ := w
    refine V_get X flX12_7 dX12_copiesTrack_15 hh hv ?_
    refine V_iload_n X dX12_copiesTrack_18 1 rfl ?_
    refine V_iload_n X dX12_copiesTrack_19 3 rfl ?_
    refine V_iadd X dX12_copiesTrack_20 ?_
    obtain ⟨a3, rfl, w⟩ := w
    obtain ⟨N9, g9, hh, hi, w⟩ := w
    refine V_iald X dX12_copiesTrack_21 hh hi ?_
    generalize g9 _ = x4 at w ⊢
    obtain ⟨a5, rfl, w⟩ := w
    obtain ⟨N9, g9, hh, hi, w⟩ := w
    refine V_iast X dX12_copiesTrack_22 hh hi ?_
    generalize va_up _ _ _ = h6 at w ⊢
    refine V_iinc (y := (v3 + 1)) X dX12_copiesTrack_23 3 rfl (by first | rfl | (congr 1)) (by decide) rfl ?_
    refine V_goto (tgt := 2) X dX12_copiesTrack_26 (by decide) ?_
    exact V.sub [1, 2, 3, 0] rfl (H2 _ _ _ _ _ w)
def vX12_copiesTrack_b2  (Qn : gH → Prop) (n : Nat) : gH → Nat → Int32 → Int32 → Int32 → Prop := Nat.rec (motive := fun _ => gH → Nat → Int32 → Int32 → Int32 → Prop) (fun _ _ _ _ _ => False) (fun _ k2 => vX12_copiesTrack_b2_o k2 Qn) n
theorem tX12_copiesTrack_b2 {p : Program} {l : Launch} {e : Env} {s : State} {m : MethodId} {args : Array Value} {below : List Frame} {meth : Method} {c : Code} {G : gG} {A : Nat → Prop} {Qn : gH → Prop} (X : gC p l s m args meth c G A cX12_copiesTrack 4 none RX12)   : ∀ (n : Nat) (h : gH) (v0 : Nat) (v1 : Int32) (v2 : Int32) (v3 : Int32) (w : vX12_copiesTrack_b2  Qn n h v0 v1 v2 v3), V p l e rmX12_copiesTrack s m args below meth c (MQ below (va_Qv Qn (gB G A) A) args s rmX12_copiesTrack.cells rmX12_copiesTrack.slots A) G A 4 h 0 0 2 [(0, .ref v0), (1, .int v1), (2, .int v2), (3, .int v3)] [] := by
  intro n
  induction n with
  | zero => intro h v0 v1 v2 v3 w; exact False.elim w
  | succ n ih => intro h v0 v1 v2 v3 w; exact tX12_copiesTrack_b2_o X ih w
def vX12_copiesTrack  (Qn : gH → Prop) (h : gH) (v0 : Nat) (v1 : Int32) (v2 : Int32) : Prop := ∃ n : Nat, vX12_copiesTrack_b2  Qn n h v0 v1 v2 0
set_option maxRecDepth 100000 in
set_option maxHeartbeats 4000000 in
theorem tX12_copiesTrack {p : Program} {l : Launch} {e : Env} {s : State} {m : MethodId} {args : Array Value} {below : List Frame} {meth : Method} {c : Code} {G : gG} {A : Nat → Prop} {Qn : gH → Prop} (X : gC p l s m args meth c G A cX12_copiesTrack 4 none RX12)   {h : gH} {v0 : Nat} {v1 : Int32} {v2 : Int32} (w : vX12_copiesTrack  Qn h v0 v1 v2) : V p l e rmX12_copiesTrack s m args below meth c (MQ below (va_Qv Qn (gB G A) A) args s rmX12_copiesTrack.cells rmX12_copiesTrack.slots A) G A 4 h 0 0 0 [(0, .ref v0), (1, .int v1), (2, .int v2)] [] := by
  refine V_iconst (y := 0) X dX12_copiesTrack_0 (by decide) ?_
  refine V_istore_n X dX12_copiesTrack_1 rfl (by decide) rfl ?_
  obtain ⟨n9, w⟩ := w
  exact V.sub [1, 2, 3, 0] rfl (tX12_copiesTrack_b2 X  n9 _ _ _ _ _ w)
theorem cX12_copiesTrack_ok {l : Launch} {G : gG} {h : gH} (hls : l.stackTraces = false) {Qn : gH → Prop} {v0 : Nat} {v1 : Int32} {v2 : Int32} (w : vX12_copiesTrack Qn h v0 v1 v2) : gMv l yX12_copiesTrack cX12_copiesTrack 4 none rmX12_copiesTrack rmX12_copiesTrack.cells rmX12_copiesTrack.slots G h [.ref v0, .int v1, .int v2] Qn := by
  exact gMv.of (by decide +kernel) hls (Nat.le_of_ble_eq_true rfl) rfl rfl (fun p e s m below meth c A X hnm => tX12_copiesTrack X w)
/-! AnimationControllerModel.freezes(I)V -/
abbrev rmX12_freezes : Room := { frames := 4, cells := 0, slots := 0, locals := 104 }
def vX12_freezes_b119  (Qn : gH → Prop) (h : gH)  : Prop := Qn h
set_option maxRecDepth 100000 in
set_option maxHeartbeats 4000000 in
theorem tX12_freezes_b119 {p : Program} {l : Launch} {e : Env} {s : State} {m : MethodId} {args : Array Value} {below : List Frame} {meth : Method} {c : Code} {G : gG} {A : Nat → Prop} {Qn : gH → Prop} (X : gC p l s m args meth c G A cX12_freezes 3 none RX12)   {h : gH}  (w : vX12_freezes_b119  Qn h ) : V p l e rmX12_freezes s m args below meth c (MQ below (va_Qv Qn (gB G A) A) args s rmX12_freezes.cells rmX12_freezes.slots A) G A 3 h 0 0 119 [] [] := by
  exact V_vret X rfl dX12_freezes_119 (Nat.le_of_ble_eq_true rfl) (Nat.le_of_ble_eq_true rfl) w
def vX12_freezes_b6_o (k6 : gH → Nat → Int32 → Int32 → Prop) (Qn : gH → Prop) (h : gH) (v0 : Nat) (v1 : Int32) (v2 : Int32) : Prop := gi h v0 15 40 (fun x1 => ((x1 ≤ (v2 : Int32)) → (gr h v0 15 0 (fun r2 => gi h v0 15 40 (fun x3 => nn r2 (fun a4 => si h a4 21 x3 (fun h5 => gr h5 v0 15 0 (fun r6 => nn r6 (fun a7 => si h5 a7 20 1 (fun h8 => gr h8 v0 15 0 (fun r9 => nn r9 (fun a10 => li h8 a10 11 (fun x11 => si h8 a10 11 (x11 + 1) (fun h12 => ((¬ (v1 : Int32) = 2) → (vX12_freezes_b119  Qn h12 )) ∧ (((v1 : Int32) = 2) → (io h12 v0 15 (vX12_copiesTrack (fun h13 => vX12_freezes_b119  Qn h13 ) h12 v0 16 12)))))))))))))))) ∧ ((¬ x1 ≤ (v2 : Int32)) → (gr h v0 15 0 (fun r14 => gr h v0 15 37 (fun r15 => nn r15 (fun a16 => li h a16 v2 (fun x17 => nn r14 (fun a18 => si h a18 (22 + (3 * v2)) x17 (fun h19 => gr h19 v0 15 0 (fun r20 => gr h19 v0 15 38 (fun r21 => nn r21 (fun a22 => li h19 a22 v2 (fun x23 => nn r20 (fun a24 => si h19 a24 ((22 + (3 * v2)) + 1) x23 (fun h25 => gr h25 v0 15 0 (fun r26 => gr h25 v0 15 39 (fun r27 => nn r27 (fun a28 => ll h25 a28 v2 (fun x29 => nn r26 (fun a30 => si h25 a30 ((22 + (3 * v2)) + 2) (Int64.toInt32 x29) (fun h31 => k6 h31 v0 v1 (v2 + 1))))))))))))))))))))))
set_option maxRecDepth 100000 in
set_option maxHeartbeats 4000000 in
theorem tX12_freezes_b6_o {p : Program} {l : Launch} {e : Env} {s : State} {m : MethodId} {args : Array Value} {below : List Frame} {meth : Method} {c : Code} {G : gG} {A : Nat → Prop} {Qn : gH → Prop} (X : gC p l s m args meth c G A cX12_freezes 3 none RX12) {k6 : gH → Nat → Int32 → Int32 → Prop} (H6 : ∀ (h : gH) (v0 : Nat) (v1 : Int32) (v2 : Int32), k6 h v0 v1 v2 → V p l e rmX12_freezes s m args below meth c (MQ below (va_Qv Qn (gB G A) A) args s rmX12_freezes.cells rmX12_freezes.slots A) G A 3 h 0 0 6 [(0, .ref v0), (1, .int v1), (2, .int v2)] []) {h : gH} {v0 : Nat} {v1 : Int32} {v2 : Int32} (w : vX12_freezes_b6_o k6 Qn h v0 v1 v2) : V p l e rmX12_freezes s m args below meth c (MQ below (va_Qv Qn (gB G A) A) args s rmX12_freezes.cells rmX12_freezes.slots A) G A 3 h 0 0 6 [(0, .ref v0), (1, .int v1), (2, .int v2)] [] := by
  refine V_iload_n X dX12_freezes_6 2 rfl ?_
  refine V_aloadr_n X dX12_freezes_7 0 rfl ?_
  obtain ⟨fs, x1, hh, hv, w⟩ := w
  refine V_get X flX12_265 dX12_freezes_8 hh hv ?_
  obtain ⟨w1, w2⟩ := w
  refine V_icmp_ge (tgt := 76) X dX12_freezes_11 (by decide) (fun z => ?_) (fun z => ?_)
  · replace w := w1 z
    clear w1 w2
    refine V_aloadr_n X dX12_freezes_76 0 rfl ?_
    obtain ⟨fs, r2, hh, hv, w⟩ := w
    refine V_get X flX12_7 dX12_freezes_77 hh hv ?_
    refine V_bipush (y := 21) X dX12_freezes_80 (by decide) ?_
    refine V_aloadr_n X dX12_freezes_82 0 rfl ?_
    obtain ⟨fs, x3, hh, hv, w⟩ := w
    refine V_get X flX12_265 dX12_freezes_83 hh hv ?_
    obtain ⟨a4, rfl, w⟩ := w
    obtain ⟨N9, g9, hh, hi, w⟩ := w
    refine V_iast X dX12_freezes_86 hh hi ?_
    generalize va_up _ _ _ = h5 at w ⊢
    refine V_aloadr_n X dX12_freezes_87 0 rfl ?_
    obtain ⟨fs, r6, hh, hv, w⟩ := w
    refine V_get X flX12_7 dX12_freezes_88 hh hv ?_
    refine V_bipush (y := 20) X dX12_freezes_91 (by decide) ?_
    refine V_iconst (y := 1) X dX12_freezes_93 (by decide) ?_
    obtain ⟨a7, rfl, w⟩ := w
    obtain ⟨N9, g9, hh, hi, w⟩ := w
    refine V_iast X dX12_freezes_94 hh hi ?_
    generalize va_up _ _ _ = h8 at w ⊢
    refine V_aloadr_n X dX12_freezes_95 0 rfl ?_
    obtain ⟨fs, r9, hh, hv, w⟩ := w
    refine V_get X flX12_7 dX12_freezes_96 hh hv ?_
    refine V_bipush (y := 11) X dX12_freezes_99 (by decide) ?_
    refine V_dup2 X dX12_freezes_101 rfl (va_cat1 _) ?_
    obtain ⟨a10, rfl, w⟩ := w
    obtain ⟨N9, g9, hh, hi, w⟩ := w
    refine V_iald X dX12_freezes_102 hh hi ?_
    generalize g9 _ = x11 at w ⊢
    refine V_iconst (y := 1) X dX12_freezes_103 (by decide) ?_
    refine V_iadd X dX12_freezes_104 ?_
    obtain ⟨N9, g9, hh, hi, w⟩ := w
    refine V_iast X dX12_freezes_105 hh hi ?_
    generalize va_up _ _ _ = h12 at w ⊢
    refine V_iload_n X dX12_freezes_106 1 rfl ?_
    refine V_iconst (y := 2) X dX12_freezes_107 (by decide) ?_
    obtain ⟨w1, w2⟩ := w
    refine V_icmp_ne (tgt := 119) X dX12_freezes_108 (by decide) (fun z => ?_) (fun z => ?_)
    · replace w := w1 z
      clear w1 w2
      exact V.sub [] rfl (tX12_freezes_b119 X  w)
    · replace w := w2 z
      clear w1 w2
      refine V_aloadr_n X dX12_freezes_111 0 rfl ?_
      refine V_bipush (y := 16) X dX12_freezes_112 (by decide) ?_
      refine V_bipush (y := 12) X dX12_freezes_114 (by decide) ?_
      obtain ⟨fs, hh, w⟩ := w
      refine V_callVv (As := [.int 16, .int 12]) (rest := []) (k1 := 0) (n1 := 0) X (cX12_copiesTrack_ok X.2.2.2.2.2.2.2.2.1 w) lkX12_322 hh (q9 := (RX12, TX12, 42)) rfl rfl dX12_freezes_116 ⟨Nat.le_of_ble_eq_true rfl, Nat.le_of_ble_eq_true rfl⟩ rfl (Nat.le_of_ble_eq_true rfl) ⟨Nat.le_of_ble_eq_true rfl, Nat.le_of_ble_eq_true rfl⟩ (Nat.le_of_ble_eq_true rfl) (Nat.le_of_ble_eq_true rfl) (fun h13 w9 => ?_)
      replace w := w9
      clear w9
      exact V.sub [] rfl (tX12_freezes_b119 X  w)
  · replace w := w2 z
    clear w1 w2
    refine V_aloadr_n X dX12_freezes_14 0 rfl ?_
    obtain ⟨fs, r14, hh, hv, w⟩ := w
    refine V_get X flX12_7 dX12_freezes_15 hh hv ?_
    refine V_bipush (y := 22) X dX12_freezes_18 (by decide) ?_
    refine V_iconst (y := 3) X dX12_freezes_20 (by decide) ?_
    refine V_iload_n X dX12_freezes_21 2 rfl ?_
    refine V_imul X dX12_freezes_22 ?_
    refine V_iadd X dX12_freezes_23 ?_
    refine V_aloadr_n X dX12_freezes_24 0 rfl ?_
    obtain ⟨fs, r15, hh, hv, w⟩ := w
    refine V_get X flX12_82 dX12_freezes_25 hh hv ?_
    refine V_iload_n X dX12_freezes_28 2 rfl ?_
    obtain ⟨a16, rfl, w⟩ := w
    obtain ⟨N9, g9, hh, hi, w⟩ := w
    refine V_iald X dX12_freezes_29 hh hi ?_
    generalize g9 _ = x17 at w ⊢
    obtain ⟨a18, rfl, w⟩ := w
    obtain ⟨N9, g9, hh, hi, w⟩ := w
    refine V_iast X dX12_freezes_30 hh hi ?_
    generalize va_up _ _ _ = h19 at w ⊢
    refine V_aloadr_n X dX12_freezes_31 0 rfl ?_
    obtain ⟨fs, r20, hh, hv, w⟩ := w
    refine V_get X flX12_7 dX12_freezes_32 hh hv ?_
    refine V_bipush (y := 22) X dX12_freezes_35 (by decide) ?_
    refine V_iconst (y := 3) X dX12_freezes_37 (by decide) ?_
    refine V_iload_n X dX12_freezes_38 2 rfl ?_
    refine V_imul X dX12_freezes_39 ?_
    refine V_iadd X dX12_freezes_40 ?_
    refine V_iconst (y := 1) X dX12_freezes_41 (by decide) ?_
    refine V_iadd X dX12_freezes_42 ?_
    refine V_aloadr_n X dX12_freezes_43 0 rfl ?_
    obtain ⟨fs, r21, hh, hv, w⟩ := w
    refine V_get X flX12_85 dX12_freezes_44 hh hv ?_
    refine V_iload_n X dX12_freezes_47 2 rfl ?_
    obtain ⟨a22, rfl, w⟩ := w
    obtain ⟨N9, g9, hh, hi, w⟩ := w
    refine V_iald X dX12_freezes_48 hh hi ?_
    generalize g9 _ = x23 at w ⊢
    obtain ⟨a24, rfl, w⟩ := w
    obtain ⟨N9, g9, hh, hi, w⟩ := w
    refine V_iast X dX12_freezes_49 hh hi ?_
    generalize va_up _ _ _ = h25 at w ⊢
    refine V_aloadr_n X dX12_freezes_50 0 rfl ?_
    obtain ⟨fs, r26, hh, hv, w⟩ := w
    refine V_get X flX12_7 dX12_freezes_51 hh hv ?_
    refine V_bipush (y := 22) X dX12_freezes_54 (by decide) ?_
    refine V_iconst (y := 3) X dX12_freezes_56 (by decide) ?_
    refine V_iload_n X dX12_freezes_57 2 rfl ?_
    refine V_imul X dX12_freezes_58 ?_
    refine V_iadd X dX12_freezes_59 ?_
    refine V_iconst (y := 2) X dX12_freezes_60 (by decide) ?_
    refine V_iadd X dX12_freezes_61 ?_
    refine V_aloadr_n X dX12_freezes_62 0 rfl ?_
    obtain ⟨fs, r27, hh, hv, w⟩ := w
    refine V_get X flX12_88 dX12_freezes_63 hh hv ?_
    refine V_iload_n X dX12_freezes_66 2 rfl ?_
    obtain ⟨a28, rfl, w⟩ := w
    obtain ⟨N9, g9, hh, hi, w⟩ := w
    refine V_lald X dX12_freezes_67 hh hi ?_
    generalize g9 _ = x29 at w ⊢
    refine V_l2i X dX12_freezes_68 ?_
    obtain ⟨a30, rfl, w⟩ := w
    obtain ⟨N9, g9, hh, hi, w⟩ := w
    refine V_iast X dX12_freezes_69 hh hi ?_
    generalize va_up _ _ _ = h31 at w ⊢
    refine V_iinc (y := (v2 + 1)) X dX12_freezes_70 2 rfl (by first | rfl | (congr 1)) (by decide) rfl ?_
    refine V_goto (tgt := 6) X dX12_freezes_73 (by decide) ?_
    exact V.sub [1, 2, 0] rfl (H6 _ _ _ _ w)
def vX12_freezes_b6  (Qn : gH → Prop) (n : Nat) : gH → Nat → Int32 → Int32 → Prop := Nat.rec (motive := fun _ => gH → Nat → Int32 → Int32 → Prop) (fun _ _ _ _ => False) (fun _ k6 => vX12_freezes_b6_o k6 Qn) n
theorem tX12_freezes_b6 {p : Program} {l : Launch} {e : Env} {s : State} {m : MethodId} {args : Array Value} {below : List Frame} {meth : Method} {c : Code} {G : gG} {A : Nat → Prop} {Qn : gH → Prop} (X : gC p l s m args meth c G A cX12_freezes 3 none RX12)   : ∀ (n : Nat) (h : gH) (v0 : Nat) (v1 : Int32) (v2 : Int32) (w : vX12_freezes_b6  Qn n h v0 v1 v2), V p l e rmX12_freezes s m args below meth c (MQ below (va_Qv Qn (gB G A) A) args s rmX12_freezes.cells rmX12_freezes.slots A) G A 3 h 0 0 6 [(0, .ref v0), (1, .int v1), (2, .int v2)] [] := by
  intro n
  induction n with
  | zero => intro h v0 v1 v2 w; exact False.elim w
  | succ n ih => intro h v0 v1 v2 w; exact tX12_freezes_b6_o X ih w
def vX12_freezes  (Qn : gH → Prop) (h : gH) (v0 : Nat) (v1 : Int32) : Prop := io h v0 15 (vX12_poses (fun h1 => ∃ n : Nat, vX12_freezes_b6  Qn n h1 v0 v1 0) h v0 )
set_option maxRecDepth 100000 in
set_option maxHeartbeats 4000000 in
theorem tX12_freezes {p : Program} {l : Launch} {e : Env} {s : State} {m : MethodId} {args : Array Value} {below : List Frame} {meth : Method} {c : Code} {G : gG} {A : Nat → Prop} {Qn : gH → Prop} (X : gC p l s m args meth c G A cX12_freezes 3 none RX12)   {h : gH} {v0 : Nat} {v1 : Int32} (w : vX12_freezes  Qn h v0 v1) : V p l e rmX12_freezes s m args below meth c (MQ below (va_Qv Qn (gB G A) A) args s rmX12_freezes.cells rmX12_freezes.slots A) G A 3 h 0 0 0 [(0, .ref v0), (1, .int v1)] [] := by
  refine V_aloadr_n X dX12_freezes_0 0 rfl ?_
  obtain ⟨fs, hh, w⟩ := w
  refine V_callVv (As := []) (rest := []) (k1 := 0) (n1 := 0) X (cX12_poses_ok X.2.2.2.2.2.2.2.2.1 w) lkX12_283 hh (q9 := (RX12, TX12, 42)) rfl rfl dX12_freezes_1 ⟨Nat.le_of_ble_eq_true rfl, Nat.le_of_ble_eq_true rfl⟩ rfl (Nat.le_of_ble_eq_true rfl) ⟨Nat.le_of_ble_eq_true rfl, Nat.le_of_ble_eq_true rfl⟩ (Nat.le_of_ble_eq_true rfl) (Nat.le_of_ble_eq_true rfl) (fun h1 w9 => ?_)
  replace w := w9
  clear w9
  refine V_iconst (y := 0) X dX12_freezes_4 (by decide) ?_
  refine V_istore_n X dX12_freezes_5 rfl (by decide) rfl ?_
  obtain ⟨n9, w⟩ := w
  exact V.sub [1, 2, 0] rfl (tX12_freezes_b6 X  n9 _ _ _ _ w)
theorem cX12_freezes_ok {l : Launch} {G : gG} {h : gH} (hls : l.stackTraces = false) {Qn : gH → Prop} {v0 : Nat} {v1 : Int32} (w : vX12_freezes Qn h v0 v1) : gMv l yX12_freezes cX12_freezes 3 none rmX12_freezes rmX12_freezes.cells rmX12_freezes.slots G h [.ref v0, .int v1] Qn := by
  exact gMv.of (by decide +kernel) hls (Nat.le_of_ble_eq_true rfl) rfl rfl (fun p e s m below meth c A X hnm => tX12_freezes X w)
/-! AnimationControllerModel.ends()V -/
abbrev rmX12_ends : Room := { frames := 1, cells := 0, slots := 0, locals := 23 }
def vX12_ends  (Qn : gH → Prop) (h : gH) (v0 : Nat) : Prop := io h v0 15 (vX12_copiesTrack (fun h1 => gr h1 v0 15 0 (fun r2 => nn r2 (fun a3 => si h1 a3 8 0 (fun h4 => gr h4 v0 15 0 (fun r5 => nn r5 (fun a6 => si h4 a6 11 0 (fun h7 => gr h7 v0 15 0 (fun r8 => nn r8 (fun a9 => si h7 a9 20 0 (fun h10 => gr h10 v0 15 0 (fun r11 => nn r11 (fun a12 => si h10 a12 21 0 (fun h13 => Qn h13))))))))))))) h v0 16 12)
set_option maxRecDepth 100000 in
set_option maxHeartbeats 4000000 in
theorem tX12_ends {p : Program} {l : Launch} {e : Env} {s : State} {m : MethodId} {args : Array Value} {below : List Frame} {meth : Method} {c : Code} {G : gG} {A : Nat → Prop} {Qn : gH → Prop} (X : gC p l s m args meth c G A cX12_ends 1 none RX12)   {h : gH} {v0 : Nat} (w : vX12_ends  Qn h v0) : V p l e rmX12_ends s m args below meth c (MQ below (va_Qv Qn (gB G A) A) args s rmX12_ends.cells rmX12_ends.slots A) G A 1 h 0 0 0 [(0, .ref v0)] [] := by
  refine V_aloadr_n X dX12_ends_0 0 rfl ?_
  refine V_bipush (y := 16) X dX12_ends_1 (by decide) ?_
  refine V_bipush (y := 12) X dX12_ends_3 (by decide) ?_
  obtain ⟨fs, hh, w⟩ := w
  refine V_callVv (As := [.int 16, .int 12]) (rest := []) (k1 := 0) (n1 := 0) X (cX12_copiesTrack_ok X.2.2.2.2.2.2.2.2.1 w) lkX12_322 hh (q9 := (RX12, TX12, 42)) rfl rfl dX12_ends_5 ⟨Nat.le_of_ble_eq_true rfl, Nat.le_of_ble_eq_true rfl⟩ rfl (Nat.le_of_ble_eq_true rfl) ⟨Nat.le_of_ble_eq_true rfl, Nat.le_of_ble_eq_true rfl⟩ (Nat.le_of_ble_eq_true rfl) (Nat.le_of_ble_eq_true rfl) (fun h1 w9 => ?_)
  replace w := w9
  clear w9
  refine V_aloadr_n X dX12_ends_8 0 rfl ?_
  obtain ⟨fs, r2, hh, hv, w⟩ := w
  refine V_get X flX12_7 dX12_ends_9 hh hv ?_
  refine V_bipush (y := 8) X dX12_ends_12 (by decide) ?_
  refine V_iconst (y := 0) X dX12_ends_14 (by decide) ?_
  obtain ⟨a3, rfl, w⟩ := w
  obtain ⟨N9, g9, hh, hi, w⟩ := w
  refine V_iast X dX12_ends_15 hh hi ?_
  generalize va_up _ _ _ = h4 at w ⊢
  refine V_aloadr_n X dX12_ends_16 0 rfl ?_
  obtain ⟨fs, r5, hh, hv, w⟩ := w
  refine V_get X flX12_7 dX12_ends_17 hh hv ?_
  refine V_bipush (y := 11) X dX12_ends_20 (by decide) ?_
  refine V_iconst (y := 0) X dX12_ends_22 (by decide) ?_
  obtain ⟨a6, rfl, w⟩ := w
  obtain ⟨N9, g9, hh, hi, w⟩ := w
  refine V_iast X dX12_ends_23 hh hi ?_
  generalize va_up _ _ _ = h7 at w ⊢
  refine V_aloadr_n X dX12_ends_24 0 rfl ?_
  obtain ⟨fs, r8, hh, hv, w⟩ := w
  refine V_get X flX12_7 dX12_ends_25 hh hv ?_
  refine V_bipush (y := 20) X dX12_ends_28 (by decide) ?_
  refine V_iconst (y := 0) X dX12_ends_30 (by decide) ?_
  obtain ⟨a9, rfl, w⟩ := w
  obtain ⟨N9, g9, hh, hi, w⟩ := w
  refine V_iast X dX12_ends_31 hh hi ?_
  generalize va_up _ _ _ = h10 at w ⊢
  refine V_aloadr_n X dX12_ends_32 0 rfl ?_
  obtain ⟨fs, r11, hh, hv, w⟩ := w
  refine V_get X flX12_7 dX12_ends_33 hh hv ?_
  refine V_bipush (y := 21) X dX12_ends_36 (by decide) ?_
  refine V_iconst (y := 0) X dX12_ends_38 (by decide) ?_
  obtain ⟨a12, rfl, w⟩ := w
  obtain ⟨N9, g9, hh, hi, w⟩ := w
  refine V_iast X dX12_ends_39 hh hi ?_
  generalize va_up _ _ _ = h13 at w ⊢
  exact V_vret X rfl dX12_ends_40 (Nat.le_of_ble_eq_true rfl) (Nat.le_of_ble_eq_true rfl) w
theorem cX12_ends_ok {l : Launch} {G : gG} {h : gH} (hls : l.stackTraces = false) {Qn : gH → Prop} {v0 : Nat} (w : vX12_ends Qn h v0) : gMv l yX12_ends cX12_ends 1 none rmX12_ends rmX12_ends.cells rmX12_ends.slots G h [.ref v0] Qn := by
  exact gMv.of (by decide +kernel) hls (Nat.le_of_ble_eq_true rfl) rfl rfl (fun p e s m below meth c A X hnm => tX12_ends X w)
/-! AnimationControllerModel.goesTo(I)V -/
abbrev rmX12_goesTo : Room := { frames := 2, cells := 0, slots := 0, locals := 43 }
def vX12_goesTo_b69  (Qn : gH → Prop) (h : gH) (v0 : Nat) (v1 : Int32) : Prop := io h v0 15 (vX12_of (fun x2 h1 => ((¬ (x2 : Int32) = 0) → (gr h1 v0 15 0 (fun r3 => nn r3 (fun a4 => si h1 a4 8 1 (fun h5 => gr h5 v0 15 0 (fun r6 => nn r6 (fun a7 => si h5 a7 9 v1 (fun h8 => gr h8 v0 15 0 (fun r9 => nn r9 (fun a10 => si h8 a10 10 0 (fun h11 => Qn h11))))))))))) ∧ (((x2 : Int32) = 0) → (io h1 v0 15 (vX12_ends (fun h12 => Qn h12) h1 v0 )))) h v0 v1 2)
set_option maxRecDepth 100000 in
set_option maxHeartbeats 4000000 in
theorem tX12_goesTo_b69 {p : Program} {l : Launch} {e : Env} {s : State} {m : MethodId} {args : Array Value} {below : List Frame} {meth : Method} {c : Code} {G : gG} {A : Nat → Prop} {Qn : gH → Prop} (X : gC p l s m args meth c G A cX12_goesTo 4 none RX12)   {h : gH} {v0 : Nat} {v1 : Int32} (w : vX12_goesTo_b69  Qn h v0 v1) : V p l e rmX12_goesTo s m args below meth c (MQ below (va_Qv Qn (gB G A) A) args s rmX12_goesTo.cells rmX12_goesTo.slots A) G A 4 h 0 0 69 [(0, .ref v0), (1, .int v1)] [] := by
  refine V_aloadr_n X dX12_goesTo_69 0 rfl ?_
  refine V_iload_n X dX12_goesTo_70 1 rfl ?_
  refine V_iconst (y := 2) X dX12_goesTo_71 (by decide) ?_
  obtain ⟨fs, hh, w⟩ := w
  refine V_callVi (As := [.int v1, .int 2]) (rest := []) (k1 := 0) (n1 := 0) X (cX12_of_ok X.2.2.2.2.2.2.2.2.1 w) lkX12_177 hh (q9 := (RX12, TX12, 42)) rfl rfl dX12_goesTo_72 ⟨Nat.le_of_ble_eq_true rfl, Nat.le_of_ble_eq_true rfl⟩ rfl (Nat.le_of_ble_eq_true rfl) ⟨Nat.le_of_ble_eq_true rfl, Nat.le_of_ble_eq_true rfl⟩ (Nat.le_of_ble_eq_true rfl) (Nat.le_of_ble_eq_true rfl) (fun x2 h1 w9 => ?_)
  replace w := w9
  clear w9
  obtain ⟨w1, w2⟩ := w
  refine V_if_ne (tgt := 83) X dX12_goesTo_75 (by decide) (fun z => ?_) (fun z => ?_)
  · replace w := w1 z
    clear w1 w2
    refine V_aloadr_n X dX12_goesTo_83 0 rfl ?_
    obtain ⟨fs, r3, hh, hv, w⟩ := w
    refine V_get X flX12_7 dX12_goesTo_84 hh hv ?_
    refine V_bipush (y := 8) X dX12_goesTo_87 (by decide) ?_
    refine V_iconst (y := 1) X dX12_goesTo_89 (by decide) ?_
    obtain ⟨a4, rfl, w⟩ := w
    obtain ⟨N9, g9, hh, hi, w⟩ := w
    refine V_iast X dX12_goesTo_90 hh hi ?_
    generalize va_up _ _ _ = h5 at w ⊢
    refine V_aloadr_n X dX12_goesTo_91 0 rfl ?_
    obtain ⟨fs, r6, hh, hv, w⟩ := w
    refine V_get X flX12_7 dX12_goesTo_92 hh hv ?_
    refine V_bipush (y := 9) X dX12_goesTo_95 (by decide) ?_
    refine V_iload_n X dX12_goesTo_97 1 rfl ?_
    obtain ⟨a7, rfl, w⟩ := w
    obtain ⟨N9, g9, hh, hi, w⟩ := w
    refine V_iast X dX12_goesTo_98 hh hi ?_
    generalize va_up _ _ _ = h8 at w ⊢
    refine V_aloadr_n X dX12_goesTo_99 0 rfl ?_
    obtain ⟨fs, r9, hh, hv, w⟩ := w
    refine V_get X flX12_7 dX12_goesTo_100 hh hv ?_
    refine V_bipush (y := 10) X dX12_goesTo_103 (by decide) ?_
    refine V_iconst (y := 0) X dX12_goesTo_105 (by decide) ?_
    obtain ⟨a10, rfl, w⟩ := w
    obtain ⟨N9, g9, hh, hi, w⟩ := w
    refine V_iast X dX12_goesTo_106 hh hi ?_
    generalize va_up _ _ _ = h11 at w ⊢
    exact V_vret X rfl dX12_goesTo_107 (Nat.le_of_ble_eq_true rfl) (Nat.le_of_ble_eq_true rfl) w
  · replace w := w2 z
    clear w1 w2
    refine V_aloadr_n X dX12_goesTo_78 0 rfl ?_
    obtain ⟨fs, hh, w⟩ := w
    refine V_callVv (As := []) (rest := []) (k1 := 0) (n1 := 0) X (cX12_ends_ok X.2.2.2.2.2.2.2.2.1 w) lkX12_330 hh (q9 := (RX12, TX12, 42)) rfl rfl dX12_goesTo_79 ⟨Nat.le_of_ble_eq_true rfl, Nat.le_of_ble_eq_true rfl⟩ rfl (Nat.le_of_ble_eq_true rfl) ⟨Nat.le_of_ble_eq_true rfl, Nat.le_of_ble_eq_true rfl⟩ (Nat.le_of_ble_eq_true rfl) (Nat.le_of_ble_eq_true rfl) (fun h12 w9 => ?_)
    replace w := w9
    clear w9
    exact V_vret X rfl dX12_goesTo_82 (Nat.le_of_ble_eq_true rfl) (Nat.le_of_ble_eq_true rfl) w
def vX12_goesTo_b68  (Qn : gH → Prop) (h : gH) (v0 : Nat) (v1 : Int32) (s0 : Int32) (s1 : Int32) (s2 : Option Nat) : Prop := nn s2 (fun a1 => si h a1 s1 s0 (fun h2 => vX12_goesTo_b69  Qn h2 v0 v1))
set_option maxRecDepth 100000 in
set_option maxHeartbeats 4000000 in
theorem tX12_goesTo_b68 {p : Program} {l : Launch} {e : Env} {s : State} {m : MethodId} {args : Array Value} {below : List Frame} {meth : Method} {c : Code} {G : gG} {A : Nat → Prop} {Qn : gH → Prop} (X : gC p l s m args meth c G A cX12_goesTo 4 none RX12)   {h : gH} {v0 : Nat} {v1 : Int32} {s0 : Int32} {s1 : Int32} {s2 : Option Nat} (w : vX12_goesTo_b68  Qn h v0 v1 s0 s1 s2) : V p l e rmX12_goesTo s m args below meth c (MQ below (va_Qv Qn (gB G A) A) args s rmX12_goesTo.cells rmX12_goesTo.slots A) G A 4 h 0 0 68 [(0, .ref v0), (1, .int v1)] [.int s0, .int s1, va_rf s2] := by
  obtain ⟨a1, rfl, w⟩ := w
  obtain ⟨N9, g9, hh, hi, w⟩ := w
  refine V_iast X dX12_goesTo_68 hh hi ?_
  generalize va_up _ _ _ = h2 at w ⊢
  exact V.sub [0, 1] rfl (tX12_goesTo_b69 X  w)
def vX12_goesTo_b67  (Qn : gH → Prop) (h : gH) (v0 : Nat) (v1 : Int32) (v3 : Int32) (s0 : Int32) (s1 : Option Nat) : Prop := vX12_goesTo_b68  Qn h v0 v1 v3 s0 s1
set_option maxRecDepth 100000 in
set_option maxHeartbeats 4000000 in
theorem tX12_goesTo_b67 {p : Program} {l : Launch} {e : Env} {s : State} {m : MethodId} {args : Array Value} {below : List Frame} {meth : Method} {c : Code} {G : gG} {A : Nat → Prop} {Qn : gH → Prop} (X : gC p l s m args meth c G A cX12_goesTo 4 none RX12)   {h : gH} {v0 : Nat} {v1 : Int32} {v3 : Int32} {s0 : Int32} {s1 : Option Nat} (w : vX12_goesTo_b67  Qn h v0 v1 v3 s0 s1) : V p l e rmX12_goesTo s m args below meth c (MQ below (va_Qv Qn (gB G A) A) args s rmX12_goesTo.cells rmX12_goesTo.slots A) G A 4 h 0 0 67 [(0, .ref v0), (1, .int v1), (3, .int v3)] [.int s0, va_rf s1] := by
  refine V_iload_n X dX12_goesTo_67 2 rfl ?_
  exact V.sub [0, 1] rfl (tX12_goesTo_b68 X  w)
def vX12_goesTo  (Qn : gH → Prop) (h : gH) (v0 : Nat) (v1 : Int32) : Prop := io h v0 15 (vX12_of (fun x2 h1 => io h1 v0 15 (vX12_of (fun x4 h3 => io h3 v0 15 (vX12_track (fun h5 => io h5 v0 15 (vX12_isSynced (fun x7 h6 => (((x7 : Int32) = 0) → (vX12_goesTo_b69  Qn h6 v0 v1)) ∧ ((¬ (x7 : Int32) = 0) → (gr h6 v0 15 0 (fun r8 => nn r8 (fun a9 => li h6 a9 14 (fun x10 => gr h6 v0 15 0 (fun r11 => ((¬ (x10 : Int32) = 1000000) → (vX12_goesTo_b67  Qn h6 v0 v1 x10 18 r11)) ∧ (((x10 : Int32) = 1000000) → (gr h6 v0 15 17 (fun r12 => nn r12 (fun a13 => lz h6 a13 x2 (fun x14 => (((x14 : Int32) = 0) → (vX12_goesTo_b67  Qn h6 v0 v1 x10 18 r11)) ∧ ((¬ (x14 : Int32) = 0) → (vX12_goesTo_b68  Qn h6 v0 v1 999999 18 r11)))))))))))))) h5 v0 )) h3 v0 16 x2 (x4 * 10000))) h1 v0 v1 4)) h v0 v1 1)
set_option maxRecDepth 100000 in
set_option maxHeartbeats 4000000 in
theorem tX12_goesTo {p : Program} {l : Launch} {e : Env} {s : State} {m : MethodId} {args : Array Value} {below : List Frame} {meth : Method} {c : Code} {G : gG} {A : Nat → Prop} {Qn : gH → Prop} (X : gC p l s m args meth c G A cX12_goesTo 4 none RX12)   {h : gH} {v0 : Nat} {v1 : Int32} (w : vX12_goesTo  Qn h v0 v1) : V p l e rmX12_goesTo s m args below meth c (MQ below (va_Qv Qn (gB G A) A) args s rmX12_goesTo.cells rmX12_goesTo.slots A) G A 4 h 0 0 0 [(0, .ref v0), (1, .int v1)] [] := by
  refine V_aloadr_n X dX12_goesTo_0 0 rfl ?_
  refine V_iload_n X dX12_goesTo_1 1 rfl ?_
  refine V_iconst (y := 1) X dX12_goesTo_2 (by decide) ?_
  obtain ⟨fs, hh, w⟩ := w
  refine V_callVi (As := [.int v1, .int 1]) (rest := []) (k1 := 0) (n1 := 0) X (cX12_of_ok X.2.2.2.2.2.2.2.2.1 w) lkX12_177 hh (q9 := (RX12, TX12, 42)) rfl rfl dX12_goesTo_3 ⟨Nat.le_of_ble_eq_true rfl, Nat.le_of_ble_eq_true rfl⟩ rfl (Nat.le_of_ble_eq_true rfl) ⟨Nat.le_of_ble_eq_true rfl, Nat.le_of_ble_eq_true rfl⟩ (Nat.le_of_ble_eq_true rfl) (Nat.le_of_ble_eq_true rfl) (fun x2 h1 w9 => ?_)
  replace w := w9
  clear w9
  refine V_istore_n X dX12_goesTo_6 rfl (by decide) rfl ?_
  refine V_aloadr_n X dX12_goesTo_7 1 rfl ?_
  refine V_bipush (y := 16) X dX12_goesTo_8 (by decide) ?_
  refine V_iload_n X dX12_goesTo_10 0 rfl ?_
  refine V_aloadr_n X dX12_goesTo_11 1 rfl ?_
  refine V_iload_n X dX12_goesTo_12 2 rfl ?_
  refine V_iconst (y := 4) X dX12_goesTo_13 (by decide) ?_
  obtain ⟨fs, hh, w⟩ := w
  refine V_callVi (As := [.int v1, .int 4]) (rest := [.int x2, .int 16, .ref v0]) (k1 := 0) (n1 := 0) X (cX12_of_ok X.2.2.2.2.2.2.2.2.1 w) lkX12_177 hh (q9 := (RX12, TX12, 42)) rfl rfl dX12_goesTo_14 ⟨Nat.le_of_ble_eq_true rfl, Nat.le_of_ble_eq_true rfl⟩ rfl (Nat.le_of_ble_eq_true rfl) ⟨Nat.le_of_ble_eq_true rfl, Nat.le_of_ble_eq_true rfl⟩ (Nat.le_of_ble_eq_true rfl) (Nat.le_of_ble_eq_true rfl) (fun x4 h3 w9 => ?_)
  replace w := w9
  clear w9
  refine V_sipush (y := 10000) X dX12_goesTo_17 (by decide) ?_
  refine V_imul X dX12_goesTo_20 ?_
  obtain ⟨fs, hh, w⟩ := w
  refine V_callVv (As := [.int 16, .int x2, .int (x4 * 10000)]) (rest := []) (k1 := 0) (n1 := 0) X (cX12_track_ok X.2.2.2.2.2.2.2.2.1 w) lkX12_155 hh (q9 := (RX12, TX12, 42)) rfl rfl dX12_goesTo_21 ⟨Nat.le_of_ble_eq_true rfl, Nat.le_of_ble_eq_true rfl⟩ rfl (Nat.le_of_ble_eq_true rfl) ⟨Nat.le_of_ble_eq_true rfl, Nat.le_of_ble_eq_true rfl⟩ (Nat.le_of_ble_eq_true rfl) (Nat.le_of_ble_eq_true rfl) (fun h5 w9 => ?_)
  replace w := w9
  clear w9
  refine V_aloadr_n X dX12_goesTo_24 1 rfl ?_
  obtain ⟨fs, hh, w⟩ := w
  refine V_callVi (As := []) (rest := []) (k1 := 0) (n1 := 0) X (cX12_isSynced_ok X.2.2.2.2.2.2.2.2.1 w) lkX12_325 hh (q9 := (RX12, TX12, 42)) rfl rfl dX12_goesTo_25 ⟨Nat.le_of_ble_eq_true rfl, Nat.le_of_ble_eq_true rfl⟩ rfl (Nat.le_of_ble_eq_true rfl) ⟨Nat.le_of_ble_eq_true rfl, Nat.le_of_ble_eq_true rfl⟩ (Nat.le_of_ble_eq_true rfl) (Nat.le_of_ble_eq_true rfl) (fun x7 h6 w9 => ?_)
  replace w := w9
  clear w9
  obtain ⟨w1, w2⟩ := w
  refine V_if_eq (tgt := 69) X dX12_goesTo_28 (by decide) (fun z => ?_) (fun z => ?_)
  · replace w := w1 z
    clear w1 w2
    exact V.sub [1, 2] rfl (tX12_goesTo_b69 X  w)
  · replace w := w2 z
    clear w1 w2
    refine V_aloadr_n X dX12_goesTo_31 1 rfl ?_
    obtain ⟨fs, r8, hh, hv, w⟩ := w
    refine V_get X flX12_7 dX12_goesTo_32 hh hv ?_
    refine V_bipush (y := 14) X dX12_goesTo_35 (by decide) ?_
    obtain ⟨a9, rfl, w⟩ := w
    obtain ⟨N9, g9, hh, hi, w⟩ := w
    refine V_iald X dX12_goesTo_37 hh hi ?_
    generalize g9 _ = x10 at w ⊢
    refine V_istore_n X dX12_goesTo_38 rfl (by decide) rfl ?_
    refine V_aloadr_n X dX12_goesTo_39 2 rfl ?_
    obtain ⟨fs, r11, hh, hv, w⟩ := w
    refine V_get X flX12_7 dX12_goesTo_40 hh hv ?_
    refine V_bipush (y := 18) X dX12_goesTo_43 (by decide) ?_
    refine V_iload_n X dX12_goesTo_45 0 rfl ?_
    refine V_ldcw (y := 1000000) X dX12_goesTo_46 kw_2040 ?_
    obtain ⟨w1, w2⟩ := w
    refine V_icmp_ne (tgt := 67) X dX12_goesTo_49 (by decide) (fun z => ?_) (fun z => ?_)
    · replace w := w1 z
      clear w1 w2
      exact V.sub [2, 3, 0] rfl (tX12_goesTo_b67 X  w)
    · replace w := w2 z
      clear w1 w2
      refine V_aloadr_n X dX12_goesTo_52 2 rfl ?_
      obtain ⟨fs, r12, hh, hv, w⟩ := w
      refine V_get X flX12_53 dX12_goesTo_53 hh hv ?_
      refine V_iload_n X dX12_goesTo_56 1 rfl ?_
      obtain ⟨a13, rfl, w⟩ := w
      obtain ⟨N9, g9, hh, hi, w⟩ := w
      refine V_zald X dX12_goesTo_57 hh hi ?_
      generalize g9 _ = x14 at w ⊢
      obtain ⟨w1, w2⟩ := w
      refine V_if_eq (tgt := 67) X dX12_goesTo_58 (by decide) (fun z => ?_) (fun z => ?_)
      · replace w := w1 z
        clear w1 w2
        exact V.sub [2, 3, 0] rfl (tX12_goesTo_b67 X  w)
      · replace w := w2 z
        clear w1 w2
        refine V_ldcw (y := 999999) X dX12_goesTo_61 kw_2041 ?_
        refine V_goto (tgt := 68) X dX12_goesTo_64 (by decide) ?_
        exact V.sub [2, 3] rfl (tX12_goesTo_b68 X  w)
theorem cX12_goesTo_ok {l : Launch} {G : gG} {h : gH} (hls : l.stackTraces = false) {Qn : gH → Prop} {v0 : Nat} {v1 : Int32} (w : vX12_goesTo Qn h v0 v1) : gMv l yX12_goesTo cX12_goesTo 4 none rmX12_goesTo rmX12_goesTo.cells rmX12_goesTo.slots G h [.ref v0, .int v1] Qn := by
  exact gMv.of (by decide +kernel) hls (Nat.le_of_ble_eq_true rfl) rfl rfl (fun p e s m below meth c A X hnm => tX12_goesTo X w)
/-! AnimationControllerModel.takes()Z -/
abbrev rmX12_takes : Room := { frames := 5, cells := 0, slots := 0, locals := 126 }
def vX12_takes_b187  (Qn : Int32 → gH → Prop) (h : gH) (v0 : Nat) (v3 : Int32) : Prop := io h v0 15 (vX12_goesTo (fun h1 => Qn 1 h1) h v0 v3)
set_option maxRecDepth 100000 in
set_option maxHeartbeats 4000000 in
theorem tX12_takes_b187 {p : Program} {l : Launch} {e : Env} {s : State} {m : MethodId} {args : Array Value} {below : List Frame} {meth : Method} {c : Code} {G : gG} {A : Nat → Prop} {Qn : Int32 → gH → Prop} (X : gC p l s m args meth c G A cX12_takes 6 (some FieldType.boolean) RX12)   {h : gH} {v0 : Nat} {v3 : Int32} (w : vX12_takes_b187  Qn h v0 v3) : V p l e rmX12_takes s m args below meth c (MQ below (va_Qi Qn (gB G A) A) args s rmX12_takes.cells rmX12_takes.slots A) G A 6 h 0 0 187 [(0, .ref v0), (3, .int v3)] [] := by
  refine V_aloadr_n X dX12_takes_187 0 rfl ?_
  refine V_iload_n X dX12_takes_188 1 rfl ?_
  obtain ⟨fs, hh, w⟩ := w
  refine V_callVv (As := [.int v3]) (rest := []) (k1 := 0) (n1 := 0) X (cX12_goesTo_ok X.2.2.2.2.2.2.2.2.1 w) lkX12_319 hh (q9 := (RX12, TX12, 42)) rfl rfl dX12_takes_189 ⟨Nat.le_of_ble_eq_true rfl, Nat.le_of_ble_eq_true rfl⟩ rfl (Nat.le_of_ble_eq_true rfl) ⟨Nat.le_of_ble_eq_true rfl, Nat.le_of_ble_eq_true rfl⟩ (Nat.le_of_ble_eq_true rfl) (Nat.le_of_ble_eq_true rfl) (fun h1 w9 => ?_)
  replace w := w9
  clear w9
  refine V_iconst (y := 1) X dX12_takes_192 (by decide) ?_
  exact V_zret X rfl rfl dX12_takes_193 (Nat.le_of_ble_eq_true rfl) (Nat.le_of_ble_eq_true rfl) w
def vX12_takes_b137 (k74 : gH → Nat → Int32 → Int32 → Int32 → Prop) (Qn : Int32 → gH → Prop) (h : gH) (v0 : Nat) (v2 : Int32) (v3 : Int32) (v4 : Int32) (s0 : Int32) (s1 : Int32) (s2 : Option Nat) : Prop := nn s2 (fun a1 => si h a1 s1 s0 (fun h2 => k74 h2 v0 v2 v3 (v4 + 1)))
set_option maxRecDepth 100000 in
set_option maxHeartbeats 4000000 in
theorem tX12_takes_b137 {p : Program} {l : Launch} {e : Env} {s : State} {m : MethodId} {args : Array Value} {below : List Frame} {meth : Method} {c : Code} {G : gG} {A : Nat → Prop} {Qn : Int32 → gH → Prop} (X : gC p l s m args meth c G A cX12_takes 6 (some FieldType.boolean) RX12) {k74 : gH → Nat → Int32 → Int32 → Int32 → Prop} (H74 : ∀ (h : gH) (v0 : Nat) (v2 : Int32) (v3 : Int32) (v4 : Int32), k74 h v0 v2 v3 v4 → V p l e rmX12_takes s m args below meth c (MQ below (va_Qi Qn (gB G A) A) args s rmX12_takes.cells rmX12_takes.slots A) G A 6 h 0 0 74 [(0, .ref v0), (2, .int v2), (3, .int v3), (4, .int v4)] []) {h : gH} {v0 : Nat} {v2 : Int32} {v3 : Int32} {v4 : Int32} {s0 : Int32} {s1 : Int32} {s2 : Option Nat} (w : vX12_takes_b137 k74 Qn h v0 v2 v3 v4 s0 s1 s2) : V p l e rmX12_takes s m args below meth c (MQ below (va_Qi Qn (gB G A) A) args s rmX12_takes.cells rmX12_takes.slots A) G A 6 h 0 0 137 [(0, .ref v0), (2, .int v2), (3, .int v3), (4, .int v4)] [.int s0, .int s1, va_rf s2] := by
  obtain ⟨a1, rfl, w⟩ := w
  obtain ⟨N9, g9, hh, hi, w⟩ := w
  refine V_iast X dX12_takes_137 hh hi ?_
  generalize va_up _ _ _ = h2 at w ⊢
  refine V_iinc (y := (v4 + 1)) X dX12_takes_138 3 rfl (by first | rfl | (congr 1)) (by decide) rfl ?_
  refine V_goto (tgt := 74) X dX12_takes_141 (by decide) ?_
  exact V.sub [1, 2, 3, 0] rfl (H74 _ _ _ _ _ w)
def vX12_takes_b74_o (k74 : gH → Nat → Int32 → Int32 → Int32 → Prop) (Qn : Int32 → gH → Prop) (h : gH) (v0 : Nat) (v2 : Int32) (v3 : Int32) (v4 : Int32) : Prop := io h v0 15 (vX12_of (fun x2 h1 => ((x2 ≤ (v4 : Int32)) → (gr h1 v0 15 0 (fun r3 => nn r3 (fun a4 => li h1 a4 8 (fun x5 => ((¬ (x5 : Int32) = 1) → (gr h1 v0 15 0 (fun r6 => nn r6 (fun a7 => si h1 a7 11 0 (fun h8 => gr h8 v0 15 0 (fun r9 => nn r9 (fun a10 => si h8 a10 20 0 (fun h11 => gr h11 v0 15 0 (fun r12 => nn r12 (fun a13 => si h11 a13 21 0 (fun h14 => vX12_takes_b187  Qn h14 v0 v3))))))))))) ∧ (((x5 : Int32) = 1) → (io h1 v0 15 (vX12_freezes (fun h15 => vX12_takes_b187  Qn h15 v0 v3) h1 v0 v2)))))))) ∧ ((¬ x2 ≤ (v4 : Int32)) → (gr h1 v0 15 20 (fun r16 => nn r16 (fun a17 => li h1 a17 (((17 * v3) + 8) + (3 * v4)) (fun x18 => gr h1 v0 15 0 (fun r19 => gr h1 v0 15 2 (fun r20 => nn r20 (fun a21 => li h1 a21 x18 (fun x22 => ((¬ (x22 : Int32) = 2) → (gr h1 v0 15 0 (fun r23 => nn r23 (fun a24 => li h1 a24 (0 + x18) (fun x25 => vX12_takes_b137 k74 Qn h1 v0 v2 v3 v4 x25 (0 + x18) r19))))) ∧ (((x22 : Int32) = 2) → (vX12_takes_b137 k74 Qn h1 v0 v2 v3 v4 0 (0 + x18) r19)))))))))))) h v0 v3 7)
set_option maxRecDepth 100000 in
set_option maxHeartbeats 4000000 in
theorem tX12_takes_b74_o {p : Program} {l : Launch} {e : Env} {s : State} {m : MethodId} {args : Array Value} {below : List Frame} {meth : Method} {c : Code} {G : gG} {A : Nat → Prop} {Qn : Int32 → gH → Prop} (X : gC p l s m args meth c G A cX12_takes 6 (some FieldType.boolean) RX12) {k74 : gH → Nat → Int32 → Int32 → Int32 → Prop} (H74 : ∀ (h : gH) (v0 : Nat) (v2 : Int32) (v3 : Int32) (v4 : Int32), k74 h v0 v2 v3 v4 → V p l e rmX12_takes s m args below meth c (MQ below (va_Qi Qn (gB G A) A) args s rmX12_takes.cells rmX12_takes.slots A) G A 6 h 0 0 74 [(0, .ref v0), (2, .int v2), (3, .int v3), (4, .int v4)] []) {h : gH} {v0 : Nat} {v2 : Int32} {v3 : Int32} {v4 : Int32} (w : vX12_takes_b74_o k74 Qn h v0 v2 v3 v4) : V p l e rmX12_takes s m args below meth c (MQ below (va_Qi Qn (gB G A) A) args s rmX12_takes.cells rmX12_takes.slots A) G A 6 h 0 0 74 [(0, .ref v0), (2, .int v2), (3, .int v3), (4, .int v4)] [] := by
  refine V_iload X dX12_takes_74 3 rfl ?_
  refine V_aloadr_n X dX12_takes_76 0 rfl ?_
  refine V_iload_n X dX12_takes_77 2 rfl ?_
  refine V_bipush (y := 7) X dX12_takes_78 (by decide) ?_
  obtain ⟨fs, hh, w⟩ := w
  refine V_callVi (As := [.int v3, .int 7]) (rest := [.int v4]) (k1 := 0) (n1 := 0) X (cX12_of_ok X.2.2.2.2.2.2.2.2.1 w) lkX12_177 hh (q9 := (RX12, TX12, 42)) rfl rfl dX12_takes_80 ⟨Nat.le_of_ble_eq_true rfl, Nat.le_of_ble_eq_true rfl⟩ rfl (Nat.le_of_ble_eq_true rfl) ⟨Nat.le_of_ble_eq_true rfl, Nat.le_of_ble_eq_true rfl⟩ (Nat.le_of_ble_eq_true rfl) (Nat.le_of_ble_eq_true rfl) (fun x2 h1 w9 => ?_)
  replace w := w9
  clear w9
  obtain ⟨w1, w2⟩ := w
  refine V_icmp_ge (tgt := 144) X dX12_takes_83 (by decide) (fun z => ?_) (fun z => ?_)
  · replace w := w1 z
    clear w1 w2
    refine V_aloadr_n X dX12_takes_144 0 rfl ?_
    obtain ⟨fs, r3, hh, hv, w⟩ := w
    refine V_get X flX12_7 dX12_takes_145 hh hv ?_
    refine V_bipush (y := 8) X dX12_takes_148 (by decide) ?_
    obtain ⟨a4, rfl, w⟩ := w
    obtain ⟨N9, g9, hh, hi, w⟩ := w
    refine V_iald X dX12_takes_150 hh hi ?_
    generalize g9 _ = x5 at w ⊢
    refine V_iconst (y := 1) X dX12_takes_151 (by decide) ?_
    obtain ⟨w1, w2⟩ := w
    refine V_icmp_ne (tgt := 163) X dX12_takes_152 (by decide) (fun z => ?_) (fun z => ?_)
    · replace w := w1 z
      clear w1 w2
      refine V_aloadr_n X dX12_takes_163 0 rfl ?_
      obtain ⟨fs, r6, hh, hv, w⟩ := w
      refine V_get X flX12_7 dX12_takes_164 hh hv ?_
      refine V_bipush (y := 11) X dX12_takes_167 (by decide) ?_
      refine V_iconst (y := 0) X dX12_takes_169 (by decide) ?_
      obtain ⟨a7, rfl, w⟩ := w
      obtain ⟨N9, g9, hh, hi, w⟩ := w
      refine V_iast X dX12_takes_170 hh hi ?_
      generalize va_up _ _ _ = h8 at w ⊢
      refine V_aloadr_n X dX12_takes_171 0 rfl ?_
      obtain ⟨fs, r9, hh, hv, w⟩ := w
      refine V_get X flX12_7 dX12_takes_172 hh hv ?_
      refine V_bipush (y := 20) X dX12_takes_175 (by decide) ?_
      refine V_iconst (y := 0) X dX12_takes_177 (by decide) ?_
      obtain ⟨a10, rfl, w⟩ := w
      obtain ⟨N9, g9, hh, hi, w⟩ := w
      refine V_iast X dX12_takes_178 hh hi ?_
      generalize va_up _ _ _ = h11 at w ⊢
      refine V_aloadr_n X dX12_takes_179 0 rfl ?_
      obtain ⟨fs, r12, hh, hv, w⟩ := w
      refine V_get X flX12_7 dX12_takes_180 hh hv ?_
      refine V_bipush (y := 21) X dX12_takes_183 (by decide) ?_
      refine V_iconst (y := 0) X dX12_takes_185 (by decide) ?_
      obtain ⟨a13, rfl, w⟩ := w
      obtain ⟨N9, g9, hh, hi, w⟩ := w
      refine V_iast X dX12_takes_186 hh hi ?_
      generalize va_up _ _ _ = h14 at w ⊢
      exact V.sub [0, 2] rfl (tX12_takes_b187 X  w)
    · replace w := w2 z
      clear w1 w2
      refine V_aloadr_n X dX12_takes_155 0 rfl ?_
      refine V_iload_n X dX12_takes_156 1 rfl ?_
      obtain ⟨fs, hh, w⟩ := w
      refine V_callVv (As := [.int v2]) (rest := []) (k1 := 0) (n1 := 0) X (cX12_freezes_ok X.2.2.2.2.2.2.2.2.1 w) lkX12_316 hh (q9 := (RX12, TX12, 42)) rfl rfl dX12_takes_157 ⟨Nat.le_of_ble_eq_true rfl, Nat.le_of_ble_eq_true rfl⟩ rfl (Nat.le_of_ble_eq_true rfl) ⟨Nat.le_of_ble_eq_true rfl, Nat.le_of_ble_eq_true rfl⟩ (Nat.le_of_ble_eq_true rfl) (Nat.le_of_ble_eq_true rfl) (fun h15 w9 => ?_)
      replace w := w9
      clear w9
      refine V_goto (tgt := 187) X dX12_takes_160 (by decide) ?_
      exact V.sub [0, 2] rfl (tX12_takes_b187 X  w)
  · replace w := w2 z
    clear w1 w2
    refine V_aloadr_n X dX12_takes_86 0 rfl ?_
    obtain ⟨fs, r16, hh, hv, w⟩ := w
    refine V_get X flX12_59 dX12_takes_87 hh hv ?_
    refine V_bipush (y := 17) X dX12_takes_90 (by decide) ?_
    refine V_iload_n X dX12_takes_92 2 rfl ?_
    refine V_imul X dX12_takes_93 ?_
    refine V_bipush (y := 8) X dX12_takes_94 (by decide) ?_
    refine V_iadd X dX12_takes_96 ?_
    refine V_iconst (y := 3) X dX12_takes_97 (by decide) ?_
    refine V_iload X dX12_takes_98 3 rfl ?_
    refine V_imul X dX12_takes_100 ?_
    refine V_iadd X dX12_takes_101 ?_
    obtain ⟨a17, rfl, w⟩ := w
    obtain ⟨N9, g9, hh, hi, w⟩ := w
    refine V_iald X dX12_takes_102 hh hi ?_
    generalize g9 _ = x18 at w ⊢
    refine V_istore X dX12_takes_103 (by decide) rfl ?_
    refine V_aloadr_n X dX12_takes_105 1 rfl ?_
    obtain ⟨fs, r19, hh, hv, w⟩ := w
    refine V_get X flX12_7 dX12_takes_106 hh hv ?_
    refine V_iconst (y := 0) X dX12_takes_109 (by decide) ?_
    refine V_iload X dX12_takes_110 0 rfl ?_
    refine V_iadd X dX12_takes_112 ?_
    refine V_aloadr_n X dX12_takes_113 1 rfl ?_
    obtain ⟨fs, r20, hh, hv, w⟩ := w
    refine V_get X flX12_17 dX12_takes_114 hh hv ?_
    refine V_iload X dX12_takes_117 0 rfl ?_
    obtain ⟨a21, rfl, w⟩ := w
    obtain ⟨N9, g9, hh, hi, w⟩ := w
    refine V_iald X dX12_takes_119 hh hi ?_
    generalize g9 _ = x22 at w ⊢
    refine V_iconst (y := 2) X dX12_takes_120 (by decide) ?_
    obtain ⟨w1, w2⟩ := w
    refine V_icmp_ne (tgt := 128) X dX12_takes_121 (by decide) (fun z => ?_) (fun z => ?_)
    · replace w := w1 z
      clear w1 w2
      refine V_aloadr_n X dX12_takes_128 1 rfl ?_
      obtain ⟨fs, r23, hh, hv, w⟩ := w
      refine V_get X flX12_7 dX12_takes_129 hh hv ?_
      refine V_iconst (y := 0) X dX12_takes_132 (by decide) ?_
      refine V_iload X dX12_takes_133 0 rfl ?_
      refine V_iadd X dX12_takes_135 ?_
      obtain ⟨a24, rfl, w⟩ := w
      obtain ⟨N9, g9, hh, hi, w⟩ := w
      refine V_iald X dX12_takes_136 hh hi ?_
      generalize g9 _ = x25 at w ⊢
      exact V.sub [1, 2, 3, 4] rfl (tX12_takes_b137 X H74 w)
    · replace w := w2 z
      clear w1 w2
      refine V_iconst (y := 0) X dX12_takes_124 (by decide) ?_
      refine V_goto (tgt := 137) X dX12_takes_125 (by decide) ?_
      exact V.sub [1, 2, 3, 4] rfl (tX12_takes_b137 X H74 w)
def vX12_takes_b74  (Qn : Int32 → gH → Prop) (n : Nat) : gH → Nat → Int32 → Int32 → Int32 → Prop := Nat.rec (motive := fun _ => gH → Nat → Int32 → Int32 → Int32 → Prop) (fun _ _ _ _ _ => False) (fun _ k74 => vX12_takes_b74_o k74 Qn) n
theorem tX12_takes_b74 {p : Program} {l : Launch} {e : Env} {s : State} {m : MethodId} {args : Array Value} {below : List Frame} {meth : Method} {c : Code} {G : gG} {A : Nat → Prop} {Qn : Int32 → gH → Prop} (X : gC p l s m args meth c G A cX12_takes 6 (some FieldType.boolean) RX12)   : ∀ (n : Nat) (h : gH) (v0 : Nat) (v2 : Int32) (v3 : Int32) (v4 : Int32) (w : vX12_takes_b74  Qn n h v0 v2 v3 v4), V p l e rmX12_takes s m args below meth c (MQ below (va_Qi Qn (gB G A) A) args s rmX12_takes.cells rmX12_takes.slots A) G A 6 h 0 0 74 [(0, .ref v0), (2, .int v2), (3, .int v3), (4, .int v4)] [] := by
  intro n
  induction n with
  | zero => intro h v0 v2 v3 v4 w; exact False.elim w
  | succ n ih => intro h v0 v2 v3 v4 w; exact tX12_takes_b74_o X ih w
def vX12_takes_b64  (Qn : Int32 → gH → Prop) (h : gH) (v0 : Nat) (v2 : Int32) (v3 : Int32) : Prop := ((¬ (v3 : Int32) = (-1)) → (∃ n : Nat, vX12_takes_b74  Qn n h v0 v2 v3 0)) ∧ (((v3 : Int32) = (-1)) → (Qn 0 h))
set_option maxRecDepth 100000 in
set_option maxHeartbeats 4000000 in
theorem tX12_takes_b64 {p : Program} {l : Launch} {e : Env} {s : State} {m : MethodId} {args : Array Value} {below : List Frame} {meth : Method} {c : Code} {G : gG} {A : Nat → Prop} {Qn : Int32 → gH → Prop} (X : gC p l s m args meth c G A cX12_takes 6 (some FieldType.boolean) RX12)   {h : gH} {v0 : Nat} {v2 : Int32} {v3 : Int32} (w : vX12_takes_b64  Qn h v0 v2 v3) : V p l e rmX12_takes s m args below meth c (MQ below (va_Qi Qn (gB G A) A) args s rmX12_takes.cells rmX12_takes.slots A) G A 6 h 0 0 64 [(0, .ref v0), (2, .int v2), (3, .int v3)] [] := by
  refine V_iload_n X dX12_takes_64 2 rfl ?_
  refine V_iconst (y := (-1)) X dX12_takes_65 (by decide) ?_
  obtain ⟨w1, w2⟩ := w
  refine V_icmp_ne (tgt := 71) X dX12_takes_66 (by decide) (fun z => ?_) (fun z => ?_)
  · replace w := w1 z
    clear w1 w2
    refine V_iconst (y := 0) X dX12_takes_71 (by decide) ?_
    refine V_istore X dX12_takes_72 (by decide) rfl ?_
    obtain ⟨n9, w⟩ := w
    exact V.sub [1, 2, 3, 0] rfl (tX12_takes_b74 X  n9 _ _ _ _ _ w)
  · replace w := w2 z
    clear w1 w2
    refine V_iconst (y := 0) X dX12_takes_69 (by decide) ?_
    exact V_zret X rfl rfl dX12_takes_70 (Nat.le_of_ble_eq_true rfl) (Nat.le_of_ble_eq_true rfl) w
def vX12_takes_b42  (Qn : Int32 → gH → Prop) (h : gH) (v0 : Nat) (s0 : Int32) : Prop := io h v0 15 (vX12_firstOf (fun x2 h1 => ((¬ (x2 : Int32) = (-1)) → (vX12_takes_b64  Qn h1 v0 s0 x2)) ∧ (((x2 : Int32) = (-1)) → (io h1 v0 15 (vX12_firstOf (fun x4 h3 => vX12_takes_b64  Qn h3 v0 (3 - s0) x4) h1 v0 (3 - s0))))) h v0 s0)
set_option maxRecDepth 100000 in
set_option maxHeartbeats 4000000 in
theorem tX12_takes_b42 {p : Program} {l : Launch} {e : Env} {s : State} {m : MethodId} {args : Array Value} {below : List Frame} {meth : Method} {c : Code} {G : gG} {A : Nat → Prop} {Qn : Int32 → gH → Prop} (X : gC p l s m args meth c G A cX12_takes 6 (some FieldType.boolean) RX12)   {h : gH} {v0 : Nat} {s0 : Int32} (w : vX12_takes_b42  Qn h v0 s0) : V p l e rmX12_takes s m args below meth c (MQ below (va_Qi Qn (gB G A) A) args s rmX12_takes.cells rmX12_takes.slots A) G A 6 h 0 0 42 [(0, .ref v0)] [.int s0] := by
  refine V_istore_n X dX12_takes_42 rfl (by decide) rfl ?_
  refine V_aloadr_n X dX12_takes_43 1 rfl ?_
  refine V_iload_n X dX12_takes_44 0 rfl ?_
  obtain ⟨fs, hh, w⟩ := w
  refine V_callVi (As := [.int s0]) (rest := []) (k1 := 0) (n1 := 0) X (cX12_firstOf_ok X.2.2.2.2.2.2.2.2.1 w) lkX12_313 hh (q9 := (RX12, TX12, 42)) rfl rfl dX12_takes_45 ⟨Nat.le_of_ble_eq_true rfl, Nat.le_of_ble_eq_true rfl⟩ rfl (Nat.le_of_ble_eq_true rfl) ⟨Nat.le_of_ble_eq_true rfl, Nat.le_of_ble_eq_true rfl⟩ (Nat.le_of_ble_eq_true rfl) (Nat.le_of_ble_eq_true rfl) (fun x2 h1 w9 => ?_)
  replace w := w9
  clear w9
  refine V_istore_n X dX12_takes_48 rfl (by decide) rfl ?_
  refine V_iload_n X dX12_takes_49 0 rfl ?_
  refine V_iconst (y := (-1)) X dX12_takes_50 (by decide) ?_
  obtain ⟨w1, w2⟩ := w
  refine V_icmp_ne (tgt := 64) X dX12_takes_51 (by decide) (fun z => ?_) (fun z => ?_)
  · replace w := w1 z
    clear w1 w2
    exact V.sub [2, 1, 0] rfl (tX12_takes_b64 X  w)
  · replace w := w2 z
    clear w1 w2
    refine V_iconst (y := 3) X dX12_takes_54 (by decide) ?_
    refine V_iload_n X dX12_takes_55 1 rfl ?_
    refine V_isub X dX12_takes_56 ?_
    refine V_istore_n X dX12_takes_57 rfl (by decide) rfl ?_
    refine V_aloadr_n X dX12_takes_58 2 rfl ?_
    refine V_iload_n X dX12_takes_59 0 rfl ?_
    obtain ⟨fs, hh, w⟩ := w
    refine V_callVi (As := [.int (3 - s0)]) (rest := []) (k1 := 0) (n1 := 0) X (cX12_firstOf_ok X.2.2.2.2.2.2.2.2.1 w) lkX12_313 hh (q9 := (RX12, TX12, 42)) rfl rfl dX12_takes_60 ⟨Nat.le_of_ble_eq_true rfl, Nat.le_of_ble_eq_true rfl⟩ rfl (Nat.le_of_ble_eq_true rfl) ⟨Nat.le_of_ble_eq_true rfl, Nat.le_of_ble_eq_true rfl⟩ (Nat.le_of_ble_eq_true rfl) (Nat.le_of_ble_eq_true rfl) (fun x4 h3 w9 => ?_)
    replace w := w9
    clear w9
    refine V_istore_n X dX12_takes_63 rfl (by decide) rfl ?_
    exact V.sub [2, 1, 0] rfl (tX12_takes_b64 X  w)
def vX12_takes_b32  (Qn : Int32 → gH → Prop) (h : gH) (v0 : Nat) (s0 : Int32) : Prop := (((s0 : Int32) = 0) → (vX12_takes_b42  Qn h v0 1)) ∧ ((¬ (s0 : Int32) = 0) → (vX12_takes_b42  Qn h v0 2))
set_option maxRecDepth 100000 in
set_option maxHeartbeats 4000000 in
theorem tX12_takes_b32 {p : Program} {l : Launch} {e : Env} {s : State} {m : MethodId} {args : Array Value} {below : List Frame} {meth : Method} {c : Code} {G : gG} {A : Nat → Prop} {Qn : Int32 → gH → Prop} (X : gC p l s m args meth c G A cX12_takes 6 (some FieldType.boolean) RX12)   {h : gH} {v0 : Nat} {s0 : Int32} (w : vX12_takes_b32  Qn h v0 s0) : V p l e rmX12_takes s m args below meth c (MQ below (va_Qi Qn (gB G A) A) args s rmX12_takes.cells rmX12_takes.slots A) G A 6 h 0 0 32 [(0, .ref v0)] [.int s0] := by
  refine V_istore_n X dX12_takes_32 rfl (by decide) rfl ?_
  refine V_iload_n X dX12_takes_33 0 rfl ?_
  obtain ⟨w1, w2⟩ := w
  refine V_if_eq (tgt := 41) X dX12_takes_34 (by decide) (fun z => ?_) (fun z => ?_)
  · replace w := w1 z
    clear w1 w2
    refine V_iconst (y := 1) X dX12_takes_41 (by decide) ?_
    exact V.sub [1] rfl (tX12_takes_b42 X  w)
  · replace w := w2 z
    clear w1 w2
    refine V_iconst (y := 2) X dX12_takes_37 (by decide) ?_
    refine V_goto (tgt := 42) X dX12_takes_38 (by decide) ?_
    exact V.sub [1] rfl (tX12_takes_b42 X  w)
def vX12_takes_b31  (Qn : Int32 → gH → Prop) (h : gH) (v0 : Nat) : Prop := vX12_takes_b32  Qn h v0 0
set_option maxRecDepth 100000 in
set_option maxHeartbeats 4000000 in
theorem tX12_takes_b31 {p : Program} {l : Launch} {e : Env} {s : State} {m : MethodId} {args : Array Value} {below : List Frame} {meth : Method} {c : Code} {G : gG} {A : Nat → Prop} {Qn : Int32 → gH → Prop} (X : gC p l s m args meth c G A cX12_takes 6 (some FieldType.boolean) RX12)   {h : gH} {v0 : Nat} (w : vX12_takes_b31  Qn h v0) : V p l e rmX12_takes s m args below meth c (MQ below (va_Qi Qn (gB G A) A) args s rmX12_takes.cells rmX12_takes.slots A) G A 6 h 0 0 31 [(0, .ref v0)] [] := by
  refine V_iconst (y := 0) X dX12_takes_31 (by decide) ?_
  exact V.sub [0] rfl (tX12_takes_b32 X  w)
def vX12_takes  (Qn : Int32 → gH → Prop) (h : gH) (v0 : Nat) : Prop := gr h v0 15 0 (fun r1 => nn r1 (fun a2 => li h a2 8 (fun x3 => ((¬ (x3 : Int32) = 1) → (vX12_takes_b31  Qn h v0)) ∧ (((x3 : Int32) = 1) → (gr h v0 15 0 (fun r4 => nn r4 (fun a5 => li h a5 9 (fun x6 => io h v0 15 (vX12_of (fun x8 h7 => ((¬ (x8 : Int32) = 4) → (vX12_takes_b31  Qn h7 v0)) ∧ (((x8 : Int32) = 4) → (vX12_takes_b32  Qn h7 v0 1))) h v0 x6 5)))))))))
set_option maxRecDepth 100000 in
set_option maxHeartbeats 4000000 in
theorem tX12_takes {p : Program} {l : Launch} {e : Env} {s : State} {m : MethodId} {args : Array Value} {below : List Frame} {meth : Method} {c : Code} {G : gG} {A : Nat → Prop} {Qn : Int32 → gH → Prop} (X : gC p l s m args meth c G A cX12_takes 6 (some FieldType.boolean) RX12)   {h : gH} {v0 : Nat} (w : vX12_takes  Qn h v0) : V p l e rmX12_takes s m args below meth c (MQ below (va_Qi Qn (gB G A) A) args s rmX12_takes.cells rmX12_takes.slots A) G A 6 h 0 0 0 [(0, .ref v0)] [] := by
  refine V_aloadr_n X dX12_takes_0 0 rfl ?_
  obtain ⟨fs, r1, hh, hv, w⟩ := w
  refine V_get X flX12_7 dX12_takes_1 hh hv ?_
  refine V_bipush (y := 8) X dX12_takes_4 (by decide) ?_
  obtain ⟨a2, rfl, w⟩ := w
  obtain ⟨N9, g9, hh, hi, w⟩ := w
  refine V_iald X dX12_takes_6 hh hi ?_
  generalize g9 _ = x3 at w ⊢
  refine V_iconst (y := 1) X dX12_takes_7 (by decide) ?_
  obtain ⟨w1, w2⟩ := w
  refine V_icmp_ne (tgt := 31) X dX12_takes_8 (by decide) (fun z => ?_) (fun z => ?_)
  · replace w := w1 z
    clear w1 w2
    exact V.sub [0] rfl (tX12_takes_b31 X  w)
  · replace w := w2 z
    clear w1 w2
    refine V_aloadr_n X dX12_takes_11 0 rfl ?_
    refine V_aloadr_n X dX12_takes_12 0 rfl ?_
    obtain ⟨fs, r4, hh, hv, w⟩ := w
    refine V_get X flX12_7 dX12_takes_13 hh hv ?_
    refine V_bipush (y := 9) X dX12_takes_16 (by decide) ?_
    obtain ⟨a5, rfl, w⟩ := w
    obtain ⟨N9, g9, hh, hi, w⟩ := w
    refine V_iald X dX12_takes_18 hh hi ?_
    generalize g9 _ = x6 at w ⊢
    refine V_iconst (y := 5) X dX12_takes_19 (by decide) ?_
    obtain ⟨fs, hh, w⟩ := w
    refine V_callVi (As := [.int x6, .int 5]) (rest := []) (k1 := 0) (n1 := 0) X (cX12_of_ok X.2.2.2.2.2.2.2.2.1 w) lkX12_177 hh (q9 := (RX12, TX12, 42)) rfl rfl dX12_takes_20 ⟨Nat.le_of_ble_eq_true rfl, Nat.le_of_ble_eq_true rfl⟩ rfl (Nat.le_of_ble_eq_true rfl) ⟨Nat.le_of_ble_eq_true rfl, Nat.le_of_ble_eq_true rfl⟩ (Nat.le_of_ble_eq_true rfl) (Nat.le_of_ble_eq_true rfl) (fun x8 h7 w9 => ?_)
    replace w := w9
    clear w9
    refine V_iconst (y := 4) X dX12_takes_23 (by decide) ?_
    obtain ⟨w1, w2⟩ := w
    refine V_icmp_ne (tgt := 31) X dX12_takes_24 (by decide) (fun z => ?_) (fun z => ?_)
    · replace w := w1 z
      clear w1 w2
      exact V.sub [0] rfl (tX12_takes_b31 X  w)
    · replace w := w2 z
      clear w1 w2
      refine V_iconst (y := 1) X dX12_takes_27 (by decide) ?_
      refine V_goto (tgt := 32) X dX12_takes_28 (by decide) ?_
      exact V.sub [0] rfl (tX12_takes_b32 X  w)
theorem cX12_takes_ok {l : Launch} {G : gG} {h : gH} (hls : l.stackTraces = false) {Qn : Int32 → gH → Prop} {v0 : Nat} (w : vX12_takes Qn h v0) : gMi l yX12_takes cX12_takes 6 (some FieldType.boolean) rmX12_takes rmX12_takes.cells rmX12_takes.slots G h [.ref v0] Qn := by
  exact gMi.of (by decide +kernel) hls (Nat.le_of_ble_eq_true rfl) rfl rfl (fun p e s m below meth c A X hnm => tX12_takes X w)
/-! AnimationControllerModel.isCrossed(JJZJZ)Z -/
abbrev rmX12_isCrossed : Room := { frames := 0, cells := 0, slots := 0, locals := 0 }
def vX12_isCrossed_b76  (Qn : Int32 → gH → Prop) (h : gH) (s0 : Int32) : Prop := gZ s0 ∧ Qn s0 h
set_option maxRecDepth 100000 in
set_option maxHeartbeats 4000000 in
theorem tX12_isCrossed_b76 {p : Program} {l : Launch} {e : Env} {s : State} {m : MethodId} {args : Array Value} {below : List Frame} {meth : Method} {c : Code} {G : gG} {A : Nat → Prop} {Qn : Int32 → gH → Prop} (X : gC p l s m args meth c G A cX12_isCrossed 14 (some FieldType.boolean) RX12)   {h : gH} {s0 : Int32} (w : vX12_isCrossed_b76  Qn h s0) : V p l e rmX12_isCrossed s m args below meth c (MQ below (va_Qi Qn (gB G A) A) args s rmX12_isCrossed.cells rmX12_isCrossed.slots A) G A 14 h 0 0 76 [] [.int s0] := by
  obtain ⟨hz, w⟩ := w
  exact V_zret X rfl hz.1 dX12_isCrossed_76 (Nat.le_of_ble_eq_true rfl) (Nat.le_of_ble_eq_true rfl) w
def vX12_isCrossed_b75  (Qn : Int32 → gH → Prop) (h : gH)  : Prop := vX12_isCrossed_b76  Qn h 0
set_option maxRecDepth 100000 in
set_option maxHeartbeats 4000000 in
theorem tX12_isCrossed_b75 {p : Program} {l : Launch} {e : Env} {s : State} {m : MethodId} {args : Array Value} {below : List Frame} {meth : Method} {c : Code} {G : gG} {A : Nat → Prop} {Qn : Int32 → gH → Prop} (X : gC p l s m args meth c G A cX12_isCrossed 14 (some FieldType.boolean) RX12)   {h : gH}  (w : vX12_isCrossed_b75  Qn h ) : V p l e rmX12_isCrossed s m args below meth c (MQ below (va_Qi Qn (gB G A) A) args s rmX12_isCrossed.cells rmX12_isCrossed.slots A) G A 14 h 0 0 75 [] [] := by
  refine V_iconst (y := 0) X dX12_isCrossed_75 (by decide) ?_
  exact V.sub [] rfl (tX12_isCrossed_b76 X  w)
def vX12_isCrossed_b45  (Qn : Int32 → gH → Prop) (h : gH) (v0 : Int64) (v5 : Int64) (v8 : Int64) (v10 : Int64) : Prop := (((((v10 * 1000000) + v0) : Int64) < v8) → (vX12_isCrossed_b75  Qn h )) ∧ ((¬ (((v10 * 1000000) + v0) : Int64) < v8) → (((v5 < (((v10 * 1000000) + v0) : Int64)) → (vX12_isCrossed_b75  Qn h )) ∧ ((¬ v5 < (((v10 * 1000000) + v0) : Int64)) → (vX12_isCrossed_b76  Qn h 1))))
set_option maxRecDepth 100000 in
set_option maxHeartbeats 4000000 in
theorem tX12_isCrossed_b45 {p : Program} {l : Launch} {e : Env} {s : State} {m : MethodId} {args : Array Value} {below : List Frame} {meth : Method} {c : Code} {G : gG} {A : Nat → Prop} {Qn : Int32 → gH → Prop} (X : gC p l s m args meth c G A cX12_isCrossed 14 (some FieldType.boolean) RX12)   {h : gH} {v0 : Int64} {v5 : Int64} {v8 : Int64} {v10 : Int64} (w : vX12_isCrossed_b45  Qn h v0 v5 v8 v10) : V p l e rmX12_isCrossed s m args below meth c (MQ below (va_Qi Qn (gB G A) A) args s rmX12_isCrossed.cells rmX12_isCrossed.slots A) G A 14 h 0 0 45 [(0, .long v0), (5, .long v5), (8, .long v8), (10, .long v10)] [] := by
  refine V_lload X dX12_isCrossed_45 3 rfl ?_
  refine V_ldc2 (y := 1000000) X dX12_isCrossed_47 kw_1930 ?_
  refine V_lmul X dX12_isCrossed_50 ?_
  refine V_lload_n X dX12_isCrossed_51 0 rfl ?_
  refine V_ladd X dX12_isCrossed_52 ?_
  refine V_lstore X dX12_isCrossed_53 (by decide) rfl ?_
  refine V_lload X dX12_isCrossed_55 0 rfl ?_
  refine V_lload X dX12_isCrossed_57 3 rfl ?_
  refine V_lcmp X dX12_isCrossed_59 ?_
  obtain ⟨w1, w2⟩ := w
  refine V_if_lt (tgt := 75) X dX12_isCrossed_60 (by decide) (fun z => ?_) (fun z => ?_)
  · replace w := w1 ((lg_cmp_lt _ _).mp z)
    clear w1 w2
    exact V.sub [] rfl (tX12_isCrossed_b75 X  w)
  · replace w := w2 (fun z9 => z ((lg_cmp_lt _ _).mpr z9))
    clear w1 w2
    refine V_lload X dX12_isCrossed_63 0 rfl ?_
    refine V_lload X dX12_isCrossed_65 2 rfl ?_
    refine V_lcmp X dX12_isCrossed_67 ?_
    obtain ⟨w1, w2⟩ := w
    refine V_if_gt (tgt := 75) X dX12_isCrossed_68 (by decide) (fun z => ?_) (fun z => ?_)
    · replace w := w1 ((lg_cmp_gt _ _).mp z)
      clear w1 w2
      exact V.sub [] rfl (tX12_isCrossed_b75 X  w)
    · replace w := w2 (fun z9 => z ((lg_cmp_gt _ _).mpr z9))
      clear w1 w2
      refine V_iconst (y := 1) X dX12_isCrossed_71 (by decide) ?_
      refine V_goto (tgt := 76) X dX12_isCrossed_72 (by decide) ?_
      exact V.sub [] rfl (tX12_isCrossed_b76 X  w)
def vX12_isCrossed_b12  (Qn : Int32 → gH → Prop) (h : gH) (v0 : Int64) (v5 : Int64) (v7 : Int32) (s0 : Int64) : Prop := (((v7 : Int32) = 0) → (vX12_isCrossed_b45  Qn h v0 v5 s0 0)) ∧ ((¬ (v7 : Int32) = 0) → ((((s0 : Int64) ≤ v0) → (vX12_isCrossed_b45  Qn h v0 v5 s0 0)) ∧ ((¬ (s0 : Int64) ≤ v0) → (¬ (1000000 : Int64) = 0 ∧ (vX12_isCrossed_b45  Qn h v0 v5 s0 ((((s0 - v0) + 1000000) - 1) / 1000000))))))
set_option maxRecDepth 100000 in
set_option maxHeartbeats 4000000 in
theorem tX12_isCrossed_b12 {p : Program} {l : Launch} {e : Env} {s : State} {m : MethodId} {args : Array Value} {below : List Frame} {meth : Method} {c : Code} {G : gG} {A : Nat → Prop} {Qn : Int32 → gH → Prop} (X : gC p l s m args meth c G A cX12_isCrossed 14 (some FieldType.boolean) RX12)   {h : gH} {v0 : Int64} {v5 : Int64} {v7 : Int32} {s0 : Int64} (w : vX12_isCrossed_b12  Qn h v0 v5 v7 s0) : V p l e rmX12_isCrossed s m args below meth c (MQ below (va_Qi Qn (gB G A) A) args s rmX12_isCrossed.cells rmX12_isCrossed.slots A) G A 14 h 0 0 12 [(0, .long v0), (5, .long v5), (7, .int v7)] [.long s0] := by
  refine V_lstore X dX12_isCrossed_12 (by decide) rfl ?_
  refine V_lconst (y := 0) X dX12_isCrossed_14 (by decide) ?_
  refine V_lstore X dX12_isCrossed_15 (by decide) rfl ?_
  refine V_iload X dX12_isCrossed_17 4 rfl ?_
  obtain ⟨w1, w2⟩ := w
  refine V_if_eq (tgt := 45) X dX12_isCrossed_19 (by decide) (fun z => ?_) (fun z => ?_)
  · replace w := w1 z
    clear w1 w2
    exact V.sub [2, 3, 1, 0] rfl (tX12_isCrossed_b45 X  w)
  · replace w := w2 z
    clear w1 w2
    refine V_lload X dX12_isCrossed_22 1 rfl ?_
    refine V_lload_n X dX12_isCrossed_24 2 rfl ?_
    refine V_lcmp X dX12_isCrossed_25 ?_
    obtain ⟨w1, w2⟩ := w
    refine V_if_le (tgt := 45) X dX12_isCrossed_26 (by decide) (fun z => ?_) (fun z => ?_)
    · replace w := w1 ((lg_cmp_le _ _).mp z)
      clear w1 w2
      exact V.sub [2, 3, 1, 0] rfl (tX12_isCrossed_b45 X  w)
    · replace w := w2 (fun z9 => z ((lg_cmp_le _ _).mpr z9))
      clear w1 w2
      refine V_lload X dX12_isCrossed_29 1 rfl ?_
      refine V_lload_n X dX12_isCrossed_31 2 rfl ?_
      refine V_lsub X dX12_isCrossed_32 ?_
      refine V_ldc2 (y := 1000000) X dX12_isCrossed_33 kw_1930 ?_
      refine V_ladd X dX12_isCrossed_36 ?_
      refine V_lconst (y := 1) X dX12_isCrossed_37 (by decide) ?_
      refine V_lsub X dX12_isCrossed_38 ?_
      refine V_ldc2 (y := 1000000) X dX12_isCrossed_39 kw_1930 ?_
      obtain ⟨z0, w⟩ := w
      refine V_ldiv X dX12_isCrossed_42 z0 ?_
      refine V_lstore X dX12_isCrossed_43 (by decide) rfl ?_
      exact V.sub [2, 3, 1, 0] rfl (tX12_isCrossed_b45 X  w)
def vX12_isCrossed  (Qn : Int32 → gH → Prop) (h : gH) (v0 : Int64) (v2 : Int64) (v4 : Int32) (v5 : Int64) (v7 : Int32) : Prop := (((v4 : Int32) = 0) → (vX12_isCrossed_b12  Qn h v0 v5 v7 (v2 + 1))) ∧ ((¬ (v4 : Int32) = 0) → (vX12_isCrossed_b12  Qn h v0 v5 v7 v2))
set_option maxRecDepth 100000 in
set_option maxHeartbeats 4000000 in
theorem tX12_isCrossed {p : Program} {l : Launch} {e : Env} {s : State} {m : MethodId} {args : Array Value} {below : List Frame} {meth : Method} {c : Code} {G : gG} {A : Nat → Prop} {Qn : Int32 → gH → Prop} (X : gC p l s m args meth c G A cX12_isCrossed 14 (some FieldType.boolean) RX12)   {h : gH} {v0 : Int64} {v2 : Int64} {v4 : Int32} {v5 : Int64} {v7 : Int32} (w : vX12_isCrossed  Qn h v0 v2 v4 v5 v7) : V p l e rmX12_isCrossed s m args below meth c (MQ below (va_Qi Qn (gB G A) A) args s rmX12_isCrossed.cells rmX12_isCrossed.slots A) G A 14 h 0 0 0 [(0, .long v0), (2, .long v2), (4, .int v4), (5, .long v5), (7, .int v7)] [] := by
  refine V_iload X dX12_isCrossed_0 2 rfl ?_
  obtain ⟨w1, w2⟩ := w
  refine V_if_eq (tgt := 9) X dX12_isCrossed_2 (by decide) (fun z => ?_) (fun z => ?_)
  · replace w := w1 z
    clear w1 w2
    refine V_lload_n X dX12_isCrossed_9 1 rfl ?_
    refine V_lconst (y := 1) X dX12_isCrossed_10 (by decide) ?_
    refine V_ladd X dX12_isCrossed_11 ?_
    exact V.sub [0, 3, 4] rfl (tX12_isCrossed_b12 X  w)
  · replace w := w2 z
    clear w1 w2
    refine V_lload_n X dX12_isCrossed_5 1 rfl ?_
    refine V_goto (tgt := 12) X dX12_isCrossed_6 (by decide) ?_
    exact V.sub [0, 3, 4] rfl (tX12_isCrossed_b12 X  w)
theorem cX12_isCrossed_ok {l : Launch} {G : gG} {h : gH} (hls : l.stackTraces = false) {Qn : Int32 → gH → Prop} {v0 : Int64} {v2 : Int64} {v4 : Int32} {v5 : Int64} {v7 : Int32} (w : vX12_isCrossed Qn h v0 v2 v4 v5 v7) : gMi l yX12_isCrossed cX12_isCrossed 14 (some FieldType.boolean) rmX12_isCrossed rmX12_isCrossed.cells rmX12_isCrossed.slots G h [.long v0, .long v2, .int v4, .long v5, .int v7] Qn := by
  exact gMi.of (by decide +kernel) hls (Nat.le_of_ble_eq_true rfl) rfl rfl (fun p e s m below meth c A X hnm => tX12_isCrossed X w)
/-! AnimationControllerModel.notes(IIII)V -/
abbrev rmX12_notes : Room := { frames := 0, cells := 0, slots := 0, locals := 0 }
def vX12_notes_b65  (Qn : gH → Prop) (h : gH) (v0 : Nat) (v1 : Int32) (v2 : Int32) (v3 : Int32) (v4 : Int32) : Prop := gr h v0 15 0 (fun r1 => nn r1 (fun a2 => li h a2 166 (fun x3 => gr h v0 15 0 (fun r4 => nn r4 (fun a5 => si h a5 (167 + (4 * x3)) v1 (fun h6 => gr h6 v0 15 0 (fun r7 => nn r7 (fun a8 => si h6 a8 ((167 + (4 * x3)) + 1) v2 (fun h9 => gr h9 v0 15 0 (fun r10 => nn r10 (fun a11 => si h9 a11 ((167 + (4 * x3)) + 2) v3 (fun h12 => gr h12 v0 15 0 (fun r13 => nn r13 (fun a14 => si h12 a14 ((167 + (4 * x3)) + 3) v4 (fun h15 => gr h15 v0 15 0 (fun r16 => nn r16 (fun a17 => li h15 a17 166 (fun x18 => si h15 a17 166 (x18 + 1) (fun h19 => gr h19 v0 15 0 (fun r20 => nn r20 (fun a21 => li h19 a21 288 (fun x22 => si h19 a21 288 (x22 + 1) (fun h23 => Qn h23)))))))))))))))))))))))
set_option maxRecDepth 100000 in
set_option maxHeartbeats 4000000 in
theorem tX12_notes_b65 {p : Program} {l : Launch} {e : Env} {s : State} {m : MethodId} {args : Array Value} {below : List Frame} {meth : Method} {c : Code} {G : gG} {A : Nat → Prop} {Qn : gH → Prop} (X : gC p l s m args meth c G A cX12_notes 6 none RX12)   {h : gH} {v0 : Nat} {v1 : Int32} {v2 : Int32} {v3 : Int32} {v4 : Int32} (w : vX12_notes_b65  Qn h v0 v1 v2 v3 v4) : V p l e rmX12_notes s m args below meth c (MQ below (va_Qv Qn (gB G A) A) args s rmX12_notes.cells rmX12_notes.slots A) G A 6 h 0 0 65 [(0, .ref v0), (1, .int v1), (2, .int v2), (3, .int v3), (4, .int v4)] [] := by
  refine V_sipush (y := 167) X dX12_notes_65 (by decide) ?_
  refine V_iconst (y := 4) X dX12_notes_68 (by decide) ?_
  refine V_aloadr_n X dX12_notes_69 0 rfl ?_
  obtain ⟨fs, r1, hh, hv, w⟩ := w
  refine V_get X flX12_7 dX12_notes_70 hh hv ?_
  refine V_sipush (y := 166) X dX12_notes_73 (by decide) ?_
  obtain ⟨a2, rfl, w⟩ := w
  obtain ⟨N9, g9, hh, hi, w⟩ := w
  refine V_iald X dX12_notes_76 hh hi ?_
  generalize g9 _ = x3 at w ⊢
  refine V_imul X dX12_notes_77 ?_
  refine V_iadd X dX12_notes_78 ?_
  refine V_istore X dX12_notes_79 (by decide) rfl ?_
  refine V_aloadr_n X dX12_notes_81 1 rfl ?_
  obtain ⟨fs, r4, hh, hv, w⟩ := w
  refine V_get X flX12_7 dX12_notes_82 hh hv ?_
  refine V_iload X dX12_notes_85 0 rfl ?_
  refine V_iload_n X dX12_notes_87 2 rfl ?_
  obtain ⟨a5, rfl, w⟩ := w
  obtain ⟨N9, g9, hh, hi, w⟩ := w
  refine V_iast X dX12_notes_88 hh hi ?_
  generalize va_up _ _ _ = h6 at w ⊢
  refine V_aloadr_n X dX12_notes_89 1 rfl ?_
  obtain ⟨fs, r7, hh, hv, w⟩ := w
  refine V_get X flX12_7 dX12_notes_90 hh hv ?_
  refine V_iload X dX12_notes_93 0 rfl ?_
  refine V_iconst (y := 1) X dX12_notes_95 (by decide) ?_
  refine V_iadd X dX12_notes_96 ?_
  refine V_iload_n X dX12_notes_97 3 rfl ?_
  obtain ⟨a8, rfl, w⟩ := w
  obtain ⟨N9, g9, hh, hi, w⟩ := w
  refine V_iast X dX12_notes_98 hh hi ?_
  generalize va_up _ _ _ = h9 at w ⊢
  refine V_aloadr_n X dX12_notes_99 1 rfl ?_
  obtain ⟨fs, r10, hh, hv, w⟩ := w
  refine V_get X flX12_7 dX12_notes_100 hh hv ?_
  refine V_iload X dX12_notes_103 0 rfl ?_
  refine V_iconst (y := 2) X dX12_notes_105 (by decide) ?_
  refine V_iadd X dX12_notes_106 ?_
  refine V_iload_n X dX12_notes_107 4 rfl ?_
  obtain ⟨a11, rfl, w⟩ := w
  obtain ⟨N9, g9, hh, hi, w⟩ := w
  refine V_iast X dX12_notes_108 hh hi ?_
  generalize va_up _ _ _ = h12 at w ⊢
  refine V_aloadr_n X dX12_notes_109 1 rfl ?_
  obtain ⟨fs, r13, hh, hv, w⟩ := w
  refine V_get X flX12_7 dX12_notes_110 hh hv ?_
  refine V_iload X dX12_notes_113 0 rfl ?_
  refine V_iconst (y := 3) X dX12_notes_115 (by decide) ?_
  refine V_iadd X dX12_notes_116 ?_
  refine V_iload X dX12_notes_117 5 rfl ?_
  obtain ⟨a14, rfl, w⟩ := w
  obtain ⟨N9, g9, hh, hi, w⟩ := w
  refine V_iast X dX12_notes_119 hh hi ?_
  generalize va_up _ _ _ = h15 at w ⊢
  refine V_aloadr_n X dX12_notes_120 1 rfl ?_
  obtain ⟨fs, r16, hh, hv, w⟩ := w
  refine V_get X flX12_7 dX12_notes_121 hh hv ?_
  refine V_sipush (y := 166) X dX12_notes_124 (by decide) ?_
  refine V_dup2 X dX12_notes_127 rfl (va_cat1 _) ?_
  obtain ⟨a17, rfl, w⟩ := w
  obtain ⟨N9, g9, hh, hi, w⟩ := w
  refine V_iald X dX12_notes_128 hh hi ?_
  generalize g9 _ = x18 at w ⊢
  refine V_iconst (y := 1) X dX12_notes_129 (by decide) ?_
  refine V_iadd X dX12_notes_130 ?_
  obtain ⟨N9, g9, hh, hi, w⟩ := w
  refine V_iast X dX12_notes_131 hh hi ?_
  generalize va_up _ _ _ = h19 at w ⊢
  refine V_aloadr_n X dX12_notes_132 1 rfl ?_
  obtain ⟨fs, r20, hh, hv, w⟩ := w
  refine V_get X flX12_7 dX12_notes_133 hh hv ?_
  refine V_sipush (y := 288) X dX12_notes_136 (by decide) ?_
  refine V_dup2 X dX12_notes_139 rfl (va_cat1 _) ?_
  obtain ⟨a21, rfl, w⟩ := w
  obtain ⟨N9, g9, hh, hi, w⟩ := w
  refine V_iald X dX12_notes_140 hh hi ?_
  generalize g9 _ = x22 at w ⊢
  refine V_iconst (y := 1) X dX12_notes_141 (by decide) ?_
  refine V_iadd X dX12_notes_142 ?_
  obtain ⟨N9, g9, hh, hi, w⟩ := w
  refine V_iast X dX12_notes_143 hh hi ?_
  generalize va_up _ _ _ = h23 at w ⊢
  exact V_vret X rfl dX12_notes_144 (Nat.le_of_ble_eq_true rfl) (Nat.le_of_ble_eq_true rfl) w
def vX12_notes_b16_o (k16 : gH → Nat → Int32 → Int32 → Int32 → Int32 → Int32 → Prop) (Qn : gH → Prop) (h : gH) (v0 : Nat) (v1 : Int32) (v2 : Int32) (v3 : Int32) (v4 : Int32) (v5 : Int32) : Prop := ((116 ≤ (v5 : Int32)) → (gr h v0 15 0 (fun r1 => nn r1 (fun a2 => li h a2 166 (fun x3 => si h a2 166 (x3 - 1) (fun h4 => vX12_notes_b65  Qn h4 v0 v1 v2 v3 v4)))))) ∧ ((¬ 116 ≤ (v5 : Int32)) → (gr h v0 15 0 (fun r5 => gr h v0 15 0 (fun r6 => nn r6 (fun a7 => li h a7 ((167 + v5) + 4) (fun x8 => nn r5 (fun a9 => si h a9 (167 + v5) x8 (fun h10 => k16 h10 v0 v1 v2 v3 v4 (v5 + 1)))))))))
set_option maxRecDepth 100000 in
set_option maxHeartbeats 4000000 in
theorem tX12_notes_b16_o {p : Program} {l : Launch} {e : Env} {s : State} {m : MethodId} {args : Array Value} {below : List Frame} {meth : Method} {c : Code} {G : gG} {A : Nat → Prop} {Qn : gH → Prop} (X : gC p l s m args meth c G A cX12_notes 6 none RX12) {k16 : gH → Nat → Int32 → Int32 → Int32 → Int32 → Int32 → Prop} (H16 : ∀ (h : gH) (v0 : Nat) (v1 : Int32) (v2 : Int32) (v3 : Int32) (v4 : Int32) (v5 : Int32), k16 h v0 v1 v2 v3 v4 v5 → V p l e rmX12_notes s m args below meth c (MQ below (va_Qv Qn (gB G A) A) args s rmX12_notes.cells rmX12_notes.slots A) G A 6 h 0 0 16 [(0, .ref v0), (1, .int v1), (2, .int v2), (3, .int v3), (4, .int v4), (5, .int v5)] []) {h : gH} {v0 : Nat} {v1 : Int32} {v2 : Int32} {v3 : Int32} {v4 : Int32} {v5 : Int32} (w : vX12_notes_b16_o k16 Qn h v0 v1 v2 v3 v4 v5) : V p l e rmX12_notes s m args below meth c (MQ below (va_Qv Qn (gB G A) A) args s rmX12_notes.cells rmX12_notes.slots A) G A 6 h 0 0 16 [(0, .ref v0), (1, .int v1), (2, .int v2), (3, .int v3), (4, .int v4), (5, .int v5)] [] := by
  refine V_iload X dX12_notes_16 5 rfl ?_
  refine V_bipush (y := 116) X dX12_notes_18 (by decide) ?_
  obtain ⟨w1, w2⟩ := w
  refine V_icmp_ge (tgt := 53) X dX12_notes_20 (by decide) (fun z => ?_) (fun z => ?_)
  · replace w := w1 z
    clear w1 w2
    refine V_aloadr_n X dX12_notes_53 0 rfl ?_
    obtain ⟨fs, r1, hh, hv, w⟩ := w
    refine V_get X flX12_7 dX12_notes_54 hh hv ?_
    refine V_sipush (y := 166) X dX12_notes_57 (by decide) ?_
    refine V_dup2 X dX12_notes_60 rfl (va_cat1 _) ?_
    obtain ⟨a2, rfl, w⟩ := w
    obtain ⟨N9, g9, hh, hi, w⟩ := w
    refine V_iald X dX12_notes_61 hh hi ?_
    generalize g9 _ = x3 at w ⊢
    refine V_iconst (y := 1) X dX12_notes_62 (by decide) ?_
    refine V_isub X dX12_notes_63 ?_
    obtain ⟨N9, g9, hh, hi, w⟩ := w
    refine V_iast X dX12_notes_64 hh hi ?_
    generalize va_up _ _ _ = h4 at w ⊢
    exact V.sub [0, 1, 2, 3, 4] rfl (tX12_notes_b65 X  w)
  · replace w := w2 z
    clear w1 w2
    refine V_aloadr_n X dX12_notes_23 0 rfl ?_
    obtain ⟨fs, r5, hh, hv, w⟩ := w
    refine V_get X flX12_7 dX12_notes_24 hh hv ?_
    refine V_sipush (y := 167) X dX12_notes_27 (by decide) ?_
    refine V_iload X dX12_notes_30 5 rfl ?_
    refine V_iadd X dX12_notes_32 ?_
    refine V_aloadr_n X dX12_notes_33 0 rfl ?_
    obtain ⟨fs, r6, hh, hv, w⟩ := w
    refine V_get X flX12_7 dX12_notes_34 hh hv ?_
    refine V_sipush (y := 167) X dX12_notes_37 (by decide) ?_
    refine V_iload X dX12_notes_40 5 rfl ?_
    refine V_iadd X dX12_notes_42 ?_
    refine V_iconst (y := 4) X dX12_notes_43 (by decide) ?_
    refine V_iadd X dX12_notes_44 ?_
    obtain ⟨a7, rfl, w⟩ := w
    obtain ⟨N9, g9, hh, hi, w⟩ := w
    refine V_iald X dX12_notes_45 hh hi ?_
    generalize g9 _ = x8 at w ⊢
    obtain ⟨a9, rfl, w⟩ := w
    obtain ⟨N9, g9, hh, hi, w⟩ := w
    refine V_iast X dX12_notes_46 hh hi ?_
    generalize va_up _ _ _ = h10 at w ⊢
    refine V_iinc (y := (v5 + 1)) X dX12_notes_47 5 rfl (by first | rfl | (congr 1)) (by decide) rfl ?_
    refine V_goto (tgt := 16) X dX12_notes_50 (by decide) ?_
    exact V.sub [1, 2, 3, 4, 5, 0] rfl (H16 _ _ _ _ _ _ _ w)
def vX12_notes_b16  (Qn : gH → Prop) (n : Nat) : gH → Nat → Int32 → Int32 → Int32 → Int32 → Int32 → Prop := Nat.rec (motive := fun _ => gH → Nat → Int32 → Int32 → Int32 → Int32 → Int32 → Prop) (fun _ _ _ _ _ _ _ => False) (fun _ k16 => vX12_notes_b16_o k16 Qn) n
theorem tX12_notes_b16 {p : Program} {l : Launch} {e : Env} {s : State} {m : MethodId} {args : Array Value} {below : List Frame} {meth : Method} {c : Code} {G : gG} {A : Nat → Prop} {Qn : gH → Prop} (X : gC p l s m args meth c G A cX12_notes 6 none RX12)   : ∀ (n : Nat) (h : gH) (v0 : Nat) (v1 : Int32) (v2 : Int32) (v3 : Int32) (v4 : Int32) (v5 : Int32) (w : vX12_notes_b16  Qn n h v0 v1 v2 v3 v4 v5), V p l e rmX12_notes s m args below meth c (MQ below (va_Qv Qn (gB G A) A) args s rmX12_notes.cells rmX12_notes.slots A) G A 6 h 0 0 16 [(0, .ref v0), (1, .int v1), (2, .int v2), (3, .int v3), (4, .int v4), (5, .int v5)] [] := by
  intro n
  induction n with
  | zero => intro h v0 v1 v2 v3 v4 v5 w; exact False.elim w
  | succ n ih => intro h v0 v1 v2 v3 v4 v5 w; exact tX12_notes_b16_o X ih w
def vX12_notes  (Qn : gH → Prop) (h : gH) (v0 : Nat) (v1 : Int32) (v2 : Int32) (v3 : Int32) (v4 : Int32) : Prop := gr h v0 15 0 (fun r1 => nn r1 (fun a2 => li h a2 166 (fun x3 => ((¬ (x3 : Int32) = 30) → (vX12_notes_b65  Qn h v0 v1 v2 v3 v4)) ∧ (((x3 : Int32) = 30) → (∃ n : Nat, vX12_notes_b16  Qn n h v0 v1 v2 v3 v4 0)))))
set_option maxRecDepth 100000 in
set_option maxHeartbeats 4000000 in
theorem tX12_notes {p : Program} {l : Launch} {e : Env} {s : State} {m : MethodId} {args : Array Value} {below : List Frame} {meth : Method} {c : Code} {G : gG} {A : Nat → Prop} {Qn : gH → Prop} (X : gC p l s m args meth c G A cX12_notes 6 none RX12)   {h : gH} {v0 : Nat} {v1 : Int32} {v2 : Int32} {v3 : Int32} {v4 : Int32} (w : vX12_notes  Qn h v0 v1 v2 v3 v4) : V p l e rmX12_notes s m args below meth c (MQ below (va_Qv Qn (gB G A) A) args s rmX12_notes.cells rmX12_notes.slots A) G A 6 h 0 0 0 [(0, .ref v0), (1, .int v1), (2, .int v2), (3, .int v3), (4, .int v4)] [] := by
  refine V_aloadr_n X dX12_notes_0 0 rfl ?_
  obtain ⟨fs, r1, hh, hv, w⟩ := w
  refine V_get X flX12_7 dX12_notes_1 hh hv ?_
  refine V_sipush (y := 166) X dX12_notes_4 (by decide) ?_
  obtain ⟨a2, rfl, w⟩ := w
  obtain ⟨N9, g9, hh, hi, w⟩ := w
  refine V_iald X dX12_notes_7 hh hi ?_
  generalize g9 _ = x3 at w ⊢
  refine V_bipush (y := 30) X dX12_notes_8 (by decide) ?_
  obtain ⟨w1, w2⟩ := w
  refine V_icmp_ne (tgt := 65) X dX12_notes_10 (by decide) (fun z => ?_) (fun z => ?_)
  · replace w := w1 z
    clear w1 w2
    exact V.sub [0, 1, 2, 3, 4] rfl (tX12_notes_b65 X  w)
  · replace w := w2 z
    clear w1 w2
    refine V_iconst (y := 0) X dX12_notes_13 (by decide) ?_
    refine V_istore X dX12_notes_14 (by decide) rfl ?_
    obtain ⟨n9, w⟩ := w
    exact V.sub [1, 2, 3, 4, 5, 0] rfl (tX12_notes_b16 X  n9 _ _ _ _ _ _ _ w)
theorem cX12_notes_ok {l : Launch} {G : gG} {h : gH} (hls : l.stackTraces = false) {Qn : gH → Prop} {v0 : Nat} {v1 : Int32} {v2 : Int32} {v3 : Int32} {v4 : Int32} (w : vX12_notes Qn h v0 v1 v2 v3 v4) : gMv l yX12_notes cX12_notes 6 none rmX12_notes rmX12_notes.cells rmX12_notes.slots G h [.ref v0, .int v1, .int v2, .int v3, .int v4] Qn := by
  exact gMv.of (by decide +kernel) hls (Nat.le_of_ble_eq_true rfl) rfl rfl (fun p e s m below meth c A X hnm => tX12_notes X w)
/-! AnimationControllerModel.fires(IJZJJI)V -/
abbrev rmX12_fires : Room := { frames := 2, cells := 0, slots := 0, locals := 56 }
def vX12_fires_b161 (k15 : gH → Nat → Int32 → Int64 → Int32 → Int64 → Int32 → Int32 → Prop) (Qn : gH → Prop) (h : gH) (v0 : Nat) (v1 : Int32) (v2 : Int64) (v4 : Int32) (v5 : Int64) (v9 : Int32) (v10 : Int32) : Prop := k15 h v0 v1 v2 v4 v5 v9 (v10 + 1)
set_option maxRecDepth 100000 in
set_option maxHeartbeats 4000000 in
theorem tX12_fires_b161 {p : Program} {l : Launch} {e : Env} {s : State} {m : MethodId} {args : Array Value} {below : List Frame} {meth : Method} {c : Code} {G : gG} {A : Nat → Prop} {Qn : gH → Prop} (X : gC p l s m args meth c G A cX12_fires 15 none RX12) {k15 : gH → Nat → Int32 → Int64 → Int32 → Int64 → Int32 → Int32 → Prop} (H15 : ∀ (h : gH) (v0 : Nat) (v1 : Int32) (v2 : Int64) (v4 : Int32) (v5 : Int64) (v9 : Int32) (v10 : Int32), k15 h v0 v1 v2 v4 v5 v9 v10 → V p l e rmX12_fires s m args below meth c (MQ below (va_Qv Qn (gB G A) A) args s rmX12_fires.cells rmX12_fires.slots A) G A 15 h 0 0 15 [(0, .ref v0), (1, .int v1), (2, .long v2), (4, .int v4), (5, .long v5), (9, .int v9), (10, .int v10)] []) {h : gH} {v0 : Nat} {v1 : Int32} {v2 : Int64} {v4 : Int32} {v5 : Int64} {v9 : Int32} {v10 : Int32} (w : vX12_fires_b161 k15 Qn h v0 v1 v2 v4 v5 v9 v10) : V p l e rmX12_fires s m args below meth c (MQ below (va_Qv Qn (gB G A) A) args s rmX12_fires.cells rmX12_fires.slots A) G A 15 h 0 0 161 [(0, .ref v0), (1, .int v1), (2, .long v2), (4, .int v4), (5, .long v5), (9, .int v9), (10, .int v10)] [] := by
  refine V_iinc (y := (v10 + 1)) X dX12_fires_161 6 rfl (by first | rfl | (congr 1)) (by decide) rfl ?_
  refine V_goto (tgt := 15) X dX12_fires_164 (by decide) ?_
  exact V.sub [1, 2, 3, 4, 5, 6, 0] rfl (H15 _ _ _ _ _ _ _ _ w)
def vX12_fires_b155 (k15 : gH → Nat → Int32 → Int64 → Int32 → Int64 → Int32 → Int32 → Prop) (k70 : gH → Nat → Int32 → Int64 → Int32 → Int64 → Int32 → Int32 → Int32 → Int32 → Prop) (Qn : gH → Prop) (h : gH) (v0 : Nat) (v1 : Int32) (v2 : Int64) (v4 : Int32) (v5 : Int64) (v9 : Int32) (v10 : Int32) (v11 : Int32) (v12 : Int32) : Prop := k70 h v0 v1 v2 v4 v5 v9 v10 v11 (v12 + 1)
set_option maxRecDepth 100000 in
set_option maxHeartbeats 4000000 in
theorem tX12_fires_b155 {p : Program} {l : Launch} {e : Env} {s : State} {m : MethodId} {args : Array Value} {below : List Frame} {meth : Method} {c : Code} {G : gG} {A : Nat → Prop} {Qn : gH → Prop} (X : gC p l s m args meth c G A cX12_fires 15 none RX12) {k15 : gH → Nat → Int32 → Int64 → Int32 → Int64 → Int32 → Int32 → Prop} {k70 : gH → Nat → Int32 → Int64 → Int32 → Int64 → Int32 → Int32 → Int32 → Int32 → Prop} (H15 : ∀ (h : gH) (v0 : Nat) (v1 : Int32) (v2 : Int64) (v4 : Int32) (v5 : Int64) (v9 : Int32) (v10 : Int32), k15 h v0 v1 v2 v4 v5 v9 v10 → V p l e rmX12_fires s m args below meth c (MQ below (va_Qv Qn (gB G A) A) args s rmX12_fires.cells rmX12_fires.slots A) G A 15 h 0 0 15 [(0, .ref v0), (1, .int v1), (2, .long v2), (4, .int v4), (5, .long v5), (9, .int v9), (10, .int v10)] []) (H70 : ∀ (h : gH) (v0 : Nat) (v1 : Int32) (v2 : Int64) (v4 : Int32) (v5 : Int64) (v9 : Int32) (v10 : Int32) (v11 : Int32) (v12 : Int32), k70 h v0 v1 v2 v4 v5 v9 v10 v11 v12 → V p l e rmX12_fires s m args below meth c (MQ below (va_Qv Qn (gB G A) A) args s rmX12_fires.cells rmX12_fires.slots A) G A 15 h 0 0 70 [(0, .ref v0), (1, .int v1), (2, .long v2), (4, .int v4), (5, .long v5), (9, .int v9), (10, .int v10), (11, .int v11), (12, .int v12)] []) {h : gH} {v0 : Nat} {v1 : Int32} {v2 : Int64} {v4 : Int32} {v5 : Int64} {v9 : Int32} {v10 : Int32} {v11 : Int32} {v12 : Int32} (w : vX12_fires_b155 k15 k70 Qn h v0 v1 v2 v4 v5 v9 v10 v11 v12) : V p l e rmX12_fires s m args below meth c (MQ below (va_Qv Qn (gB G A) A) args s rmX12_fires.cells rmX12_fires.slots A) G A 15 h 0 0 155 [(0, .ref v0), (1, .int v1), (2, .long v2), (4, .int v4), (5, .long v5), (9, .int v9), (10, .int v10), (11, .int v11), (12, .int v12)] [] := by
  refine V_iinc (y := (v12 + 1)) X dX12_fires_155 8 rfl (by first | rfl | (congr 1)) (by decide) rfl ?_
  refine V_goto (tgt := 70) X dX12_fires_158 (by decide) ?_
  exact V.sub [1, 2, 3, 4, 5, 6, 7, 8, 0] rfl (H70 _ _ _ _ _ _ _ _ _ _ w)
def vX12_fires_b70_o (k15 : gH → Nat → Int32 → Int64 → Int32 → Int64 → Int32 → Int32 → Prop) (k70 : gH → Nat → Int32 → Int64 → Int32 → Int64 → Int32 → Int32 → Int32 → Int32 → Prop) (Qn : gH → Prop) (h : gH) (v0 : Nat) (v1 : Int32) (v2 : Int64) (v4 : Int32) (v5 : Int64) (v9 : Int32) (v10 : Int32) (v11 : Int32) (v12 : Int32) : Prop := gr h v0 15 5 (fun r1 => nn r1 (fun a2 => li h a2 v10 (fun x3 => ((x3 ≤ (v12 : Int32)) → (vX12_fires_b161 k15 Qn h v0 v1 v2 v4 v5 v9 v10)) ∧ ((¬ x3 ≤ (v12 : Int32)) → ((((v11 : Int32) = 0) → (vX12_fires_b161 k15 Qn h v0 v1 v2 v4 v5 v9 v10)) ∧ ((¬ (v11 : Int32) = 0) → (gr h v0 15 6 (fun r4 => nn r4 (fun a5 => li h a5 ((5 * v10) + v12) (fun x6 => gr h v0 15 4 (fun r7 => nn r7 (fun a8 => li h a8 v10 (fun x9 => ¬ ((Int32.toInt64 x9) : Int64) = 0 ∧ (gr h v0 15 17 (fun r10 => nn r10 (fun a11 => lz h a11 v1 (fun x12 => vX12_isCrossed (fun x14 h13 => (((x14 : Int32) = 0) → (vX12_fires_b155 k15 k70 Qn h13 v0 v1 v2 v4 v5 v9 v10 v11 v12)) ∧ ((¬ (x14 : Int32) = 0) → (gr h13 v0 15 7 (fun r15 => nn r15 (fun a16 => li h13 a16 ((5 * v10) + v12) (fun x17 => io h13 v0 15 (vX12_notes (fun h18 => vX12_fires_b155 k15 k70 Qn h18 v0 v1 v2 v4 v5 v9 v10 v11 v12) h13 v0 v9 x17 v10 v1))))))) h (((Int32.toInt64 x6) * 1000000) / (Int32.toInt64 x9)) v2 v4 v5 x12)))))))))))))))))
set_option maxRecDepth 100000 in
set_option maxHeartbeats 4000000 in
theorem tX12_fires_b70_o {p : Program} {l : Launch} {e : Env} {s : State} {m : MethodId} {args : Array Value} {below : List Frame} {meth : Method} {c : Code} {G : gG} {A : Nat → Prop} {Qn : gH → Prop} (X : gC p l s m args meth c G A cX12_fires 15 none RX12) {k15 : gH → Nat → Int32 → Int64 → Int32 → Int64 → Int32 → Int32 → Prop} {k70 : gH → Nat → Int32 → Int64 → Int32 → Int64 → Int32 → Int32 → Int32 → Int32 → Prop} (H15 : ∀ (h : gH) (v0 : Nat) (v1 : Int32) (v2 : Int64) (v4 : Int32) (v5 : Int64) (v9 : Int32) (v10 : Int32), k15 h v0 v1 v2 v4 v5 v9 v10 → V p l e rmX12_fires s m args below meth c (MQ below (va_Qv Qn (gB G A) A) args s rmX12_fires.cells rmX12_fires.slots A) G A 15 h 0 0 15 [(0, .ref v0), (1, .int v1), (2, .long v2), (4, .int v4), (5, .long v5), (9, .int v9), (10, .int v10)] []) (H70 : ∀ (h : gH) (v0 : Nat) (v1 : Int32) (v2 : Int64) (v4 : Int32) (v5 : Int64) (v9 : Int32) (v10 : Int32) (v11 : Int32) (v12 : Int32), k70 h v0 v1 v2 v4 v5 v9 v10 v11 v12 → V p l e rmX12_fires s m args below meth c (MQ below (va_Qv Qn (gB G A) A) args s rmX12_fires.cells rmX12_fires.slots A) G A 15 h 0 0 70 [(0, .ref v0), (1, .int v1), (2, .long v2), (4, .int v4), (5, .long v5), (9, .int v9), (10, .int v10), (11, .int v11), (12, .int v12)] []) {h : gH} {v0 : Nat} {v1 : Int32} {v2 : Int64} {v4 : Int32} {v5 : Int64} {v9 : Int32} {v10 : Int32} {v11 : Int32} {v12 : Int32} (w : vX12_fires_b70_o k15 k70 Qn h v0 v1 v2 v4 v5 v9 v10 v11 v12) : V p l e rmX12_fires s m args below meth c (MQ below (va_Qv Qn (gB G A) A) args s rmX12_fires.cells rmX12_fires.slots A) G A 15 h 0 0 70 [(0, .ref v0), (1, .int v1), (2, .long v2), (4, .int v4), (5, .long v5), (9, .int v9), (10, .int v10), (11, .int v11), (12, .int v12)] [] := by
  refine V_iload X dX12_fires_70 8 rfl ?_
  refine V_aloadr_n X dX12_fires_72 0 rfl ?_
  obtain ⟨fs, r1, hh, hv, w⟩ := w
  refine V_get X flX12_23 dX12_fires_73 hh hv ?_
  refine V_iload X dX12_fires_76 6 rfl ?_
  obtain ⟨a2, rfl, w⟩ := w
  obtain ⟨N9, g9, hh, hi, w⟩ := w
  refine V_iald X dX12_fires_78 hh hi ?_
  generalize g9 _ = x3 at w ⊢
  obtain ⟨w1, w2⟩ := w
  refine V_icmp_ge (tgt := 161) X dX12_fires_79 (by decide) (fun z => ?_) (fun z => ?_)
  · replace w := w1 z
    clear w1 w2
    exact V.sub [0, 1, 2, 3, 4, 5, 6] rfl (tX12_fires_b161 X H15 w)
  · replace w := w2 z
    clear w1 w2
    refine V_iload X dX12_fires_82 7 rfl ?_
    obtain ⟨w1, w2⟩ := w
    refine V_if_eq (tgt := 161) X dX12_fires_84 (by decide) (fun z => ?_) (fun z => ?_)
    · replace w := w1 z
      clear w1 w2
      exact V.sub [0, 1, 2, 3, 4, 5, 6] rfl (tX12_fires_b161 X H15 w)
    · replace w := w2 z
      clear w1 w2
      refine V_aloadr_n X dX12_fires_87 0 rfl ?_
      obtain ⟨fs, r4, hh, hv, w⟩ := w
      refine V_get X flX12_26 dX12_fires_88 hh hv ?_
      refine V_iconst (y := 5) X dX12_fires_91 (by decide) ?_
      refine V_iload X dX12_fires_92 6 rfl ?_
      refine V_imul X dX12_fires_94 ?_
      refine V_iload X dX12_fires_95 8 rfl ?_
      refine V_iadd X dX12_fires_97 ?_
      obtain ⟨a5, rfl, w⟩ := w
      obtain ⟨N9, g9, hh, hi, w⟩ := w
      refine V_iald X dX12_fires_98 hh hi ?_
      generalize g9 _ = x6 at w ⊢
      refine V_i2l X dX12_fires_99 ?_
      refine V_ldc2 (y := 1000000) X dX12_fires_100 kw_1930 ?_
      refine V_lmul X dX12_fires_103 ?_
      refine V_aloadr_n X dX12_fires_104 0 rfl ?_
      obtain ⟨fs, r7, hh, hv, w⟩ := w
      refine V_get X flX12_20 dX12_fires_105 hh hv ?_
      refine V_iload X dX12_fires_108 6 rfl ?_
      obtain ⟨a8, rfl, w⟩ := w
      obtain ⟨N9, g9, hh, hi, w⟩ := w
      refine V_iald X dX12_fires_110 hh hi ?_
      generalize g9 _ = x9 at w ⊢
      refine V_i2l X dX12_fires_111 ?_
      obtain ⟨z0, w⟩ := w
      refine V_ldiv X dX12_fires_112 z0 ?_
      refine V_lstore X dX12_fires_113 (by decide) rfl ?_
      refine V_lload X dX12_fires_115 0 rfl ?_
      refine V_lload_n X dX12_fires_117 3 rfl ?_
      refine V_iload X dX12_fires_118 4 rfl ?_
      refine V_lload X dX12_fires_120 5 rfl ?_
      refine V_aloadr_n X dX12_fires_122 1 rfl ?_
      obtain ⟨fs, r10, hh, hv, w⟩ := w
      refine V_get X flX12_53 dX12_fires_123 hh hv ?_
      refine V_iload_n X dX12_fires_126 2 rfl ?_
      obtain ⟨a11, rfl, w⟩ := w
      obtain ⟨N9, g9, hh, hi, w⟩ := w
      refine V_zald X dX12_fires_127 hh hi ?_
      generalize g9 _ = x12 at w ⊢
      refine V_callSi (As := [.long (((Int32.toInt64 x6) * 1000000) / (Int32.toInt64 x9)), .long v2, .int v4, .long v5, .int x12]) (rest := []) (k1 := 0) (n1 := 0) X (cX12_isCrossed_ok X.2.2.2.2.2.2.2.2.1 w) lkX12_333 dX12_fires_128 ⟨Nat.le_of_ble_eq_true rfl, Nat.le_of_ble_eq_true rfl⟩ rfl (Nat.le_of_ble_eq_true rfl) ⟨Nat.le_of_ble_eq_true rfl, Nat.le_of_ble_eq_true rfl⟩ (Nat.le_of_ble_eq_true rfl) (Nat.le_of_ble_eq_true rfl) (fun x14 h13 w9 => ?_)
      replace w := w9
      clear w9
      obtain ⟨w1, w2⟩ := w
      refine V_if_eq (tgt := 155) X dX12_fires_131 (by decide) (fun z => ?_) (fun z => ?_)
      · replace w := w1 z
        clear w1 w2
        exact V.sub [1, 2, 3, 4, 5, 6, 7, 8, 9] rfl (tX12_fires_b155 X H15 H70 w)
      · replace w := w2 z
        clear w1 w2
        refine V_aloadr_n X dX12_fires_134 1 rfl ?_
        refine V_iload X dX12_fires_135 6 rfl ?_
        refine V_aloadr_n X dX12_fires_137 1 rfl ?_
        obtain ⟨fs, r15, hh, hv, w⟩ := w
        refine V_get X flX12_29 dX12_fires_138 hh hv ?_
        refine V_iconst (y := 5) X dX12_fires_141 (by decide) ?_
        refine V_iload X dX12_fires_142 7 rfl ?_
        refine V_imul X dX12_fires_144 ?_
        refine V_iload X dX12_fires_145 9 rfl ?_
        refine V_iadd X dX12_fires_147 ?_
        obtain ⟨a16, rfl, w⟩ := w
        obtain ⟨N9, g9, hh, hi, w⟩ := w
        refine V_iald X dX12_fires_148 hh hi ?_
        generalize g9 _ = x17 at w ⊢
        refine V_iload X dX12_fires_149 7 rfl ?_
        refine V_iload_n X dX12_fires_151 2 rfl ?_
        obtain ⟨fs, hh, w⟩ := w
        refine V_callVv (As := [.int v9, .int x17, .int v10, .int v1]) (rest := []) (k1 := 0) (n1 := 0) X (cX12_notes_ok X.2.2.2.2.2.2.2.2.1 w) lkX12_337 hh (q9 := (RX12, TX12, 42)) rfl rfl dX12_fires_152 ⟨Nat.le_of_ble_eq_true rfl, Nat.le_of_ble_eq_true rfl⟩ rfl (Nat.le_of_ble_eq_true rfl) ⟨Nat.le_of_ble_eq_true rfl, Nat.le_of_ble_eq_true rfl⟩ (Nat.le_of_ble_eq_true rfl) (Nat.le_of_ble_eq_true rfl) (fun h18 w9 => ?_)
        replace w := w9
        clear w9
        exact V.sub [1, 2, 3, 4, 5, 6, 7, 8, 9] rfl (tX12_fires_b155 X H15 H70 w)
def vX12_fires_b70 (k15 : gH → Nat → Int32 → Int64 → Int32 → Int64 → Int32 → Int32 → Prop) (Qn : gH → Prop) (n : Nat) : gH → Nat → Int32 → Int64 → Int32 → Int64 → Int32 → Int32 → Int32 → Int32 → Prop := Nat.rec (motive := fun _ => gH → Nat → Int32 → Int64 → Int32 → Int64 → Int32 → Int32 → Int32 → Int32 → Prop) (fun _ _ _ _ _ _ _ _ _ _ => False) (fun _ k70 => vX12_fires_b70_o k15 k70 Qn) n
theorem tX12_fires_b70 {p : Program} {l : Launch} {e : Env} {s : State} {m : MethodId} {args : Array Value} {below : List Frame} {meth : Method} {c : Code} {G : gG} {A : Nat → Prop} {Qn : gH → Prop} (X : gC p l s m args meth c G A cX12_fires 15 none RX12) {k15 : gH → Nat → Int32 → Int64 → Int32 → Int64 → Int32 → Int32 → Prop} (H15 : ∀ (h : gH) (v0 : Nat) (v1 : Int32) (v2 : Int64) (v4 : Int32) (v5 : Int64) (v9 : Int32) (v10 : Int32), k15 h v0 v1 v2 v4 v5 v9 v10 → V p l e rmX12_fires s m args below meth c (MQ below (va_Qv Qn (gB G A) A) args s rmX12_fires.cells rmX12_fires.slots A) G A 15 h 0 0 15 [(0, .ref v0), (1, .int v1), (2, .long v2), (4, .int v4), (5, .long v5), (9, .int v9), (10, .int v10)] []) : ∀ (n : Nat) (h : gH) (v0 : Nat) (v1 : Int32) (v2 : Int64) (v4 : Int32) (v5 : Int64) (v9 : Int32) (v10 : Int32) (v11 : Int32) (v12 : Int32) (w : vX12_fires_b70 k15 Qn n h v0 v1 v2 v4 v5 v9 v10 v11 v12), V p l e rmX12_fires s m args below meth c (MQ below (va_Qv Qn (gB G A) A) args s rmX12_fires.cells rmX12_fires.slots A) G A 15 h 0 0 70 [(0, .ref v0), (1, .int v1), (2, .long v2), (4, .int v4), (5, .long v5), (9, .int v9), (10, .int v10), (11, .int v11), (12, .int v12)] [] := by
  intro n
  induction n with
  | zero => intro h v0 v1 v2 v4 v5 v9 v10 v11 v12 w; exact False.elim w
  | succ n ih => intro h v0 v1 v2 v4 v5 v9 v10 v11 v12 w; exact tX12_fires_b70_o X H15 ih w
def vX12_fires_b65 (k15 : gH → Nat → Int32 → Int64 → Int32 → Int64 → Int32 → Int32 → Prop) (Qn : gH → Prop) (h : gH) (v0 : Nat) (v1 : Int32) (v2 : Int64) (v4 : Int32) (v5 : Int64) (v9 : Int32) (v10 : Int32) (s0 : Int32) : Prop := ∃ n : Nat, vX12_fires_b70 k15 Qn n h v0 v1 v2 v4 v5 v9 v10 s0 0
set_option maxRecDepth 100000 in
set_option maxHeartbeats 4000000 in
theorem tX12_fires_b65 {p : Program} {l : Launch} {e : Env} {s : State} {m : MethodId} {args : Array Value} {below : List Frame} {meth : Method} {c : Code} {G : gG} {A : Nat → Prop} {Qn : gH → Prop} (X : gC p l s m args meth c G A cX12_fires 15 none RX12) {k15 : gH → Nat → Int32 → Int64 → Int32 → Int64 → Int32 → Int32 → Prop} (H15 : ∀ (h : gH) (v0 : Nat) (v1 : Int32) (v2 : Int64) (v4 : Int32) (v5 : Int64) (v9 : Int32) (v10 : Int32), k15 h v0 v1 v2 v4 v5 v9 v10 → V p l e rmX12_fires s m args below meth c (MQ below (va_Qv Qn (gB G A) A) args s rmX12_fires.cells rmX12_fires.slots A) G A 15 h 0 0 15 [(0, .ref v0), (1, .int v1), (2, .long v2), (4, .int v4), (5, .long v5), (9, .int v9), (10, .int v10)] []) {h : gH} {v0 : Nat} {v1 : Int32} {v2 : Int64} {v4 : Int32} {v5 : Int64} {v9 : Int32} {v10 : Int32} {s0 : Int32} (w : vX12_fires_b65 k15 Qn h v0 v1 v2 v4 v5 v9 v10 s0) : V p l e rmX12_fires s m args below meth c (MQ below (va_Qv Qn (gB G A) A) args s rmX12_fires.cells rmX12_fires.slots A) G A 15 h 0 0 65 [(0, .ref v0), (1, .int v1), (2, .long v2), (4, .int v4), (5, .long v5), (9, .int v9), (10, .int v10)] [.int s0] := by
  refine V_istore X dX12_fires_65 (by decide) rfl ?_
  refine V_iconst (y := 0) X dX12_fires_67 (by decide) ?_
  refine V_istore X dX12_fires_68 (by decide) rfl ?_
  obtain ⟨n9, w⟩ := w
  exact V.sub [2, 3, 4, 5, 6, 7, 8, 1, 0] rfl (tX12_fires_b70 X H15 n9 _ _ _ _ _ _ _ _ _ _ w)
def vX12_fires_b64 (k15 : gH → Nat → Int32 → Int64 → Int32 → Int64 → Int32 → Int32 → Prop) (Qn : gH → Prop) (h : gH) (v0 : Nat) (v1 : Int32) (v2 : Int64) (v4 : Int32) (v5 : Int64) (v9 : Int32) (v10 : Int32) : Prop := vX12_fires_b65 k15 Qn h v0 v1 v2 v4 v5 v9 v10 0
set_option maxRecDepth 100000 in
set_option maxHeartbeats 4000000 in
theorem tX12_fires_b64 {p : Program} {l : Launch} {e : Env} {s : State} {m : MethodId} {args : Array Value} {below : List Frame} {meth : Method} {c : Code} {G : gG} {A : Nat → Prop} {Qn : gH → Prop} (X : gC p l s m args meth c G A cX12_fires 15 none RX12) {k15 : gH → Nat → Int32 → Int64 → Int32 → Int64 → Int32 → Int32 → Prop} (H15 : ∀ (h : gH) (v0 : Nat) (v1 : Int32) (v2 : Int64) (v4 : Int32) (v5 : Int64) (v9 : Int32) (v10 : Int32), k15 h v0 v1 v2 v4 v5 v9 v10 → V p l e rmX12_fires s m args below meth c (MQ below (va_Qv Qn (gB G A) A) args s rmX12_fires.cells rmX12_fires.slots A) G A 15 h 0 0 15 [(0, .ref v0), (1, .int v1), (2, .long v2), (4, .int v4), (5, .long v5), (9, .int v9), (10, .int v10)] []) {h : gH} {v0 : Nat} {v1 : Int32} {v2 : Int64} {v4 : Int32} {v5 : Int64} {v9 : Int32} {v10 : Int32} (w : vX12_fires_b64 k15 Qn h v0 v1 v2 v4 v5 v9 v10) : V p l e rmX12_fires s m args below meth c (MQ below (va_Qv Qn (gB G A) A) args s rmX12_fires.cells rmX12_fires.slots A) G A 15 h 0 0 64 [(0, .ref v0), (1, .int v1), (2, .long v2), (4, .int v4), (5, .long v5), (9, .int v9), (10, .int v10)] [] := by
  refine V_iconst (y := 0) X dX12_fires_64 (by decide) ?_
  exact V.sub [0, 1, 2, 3, 4, 5, 6] rfl (tX12_fires_b65 X H15 w)
def vX12_fires_b15_o (k15 : gH → Nat → Int32 → Int64 → Int32 → Int64 → Int32 → Int32 → Prop) (Qn : gH → Prop) (h : gH) (v0 : Nat) (v1 : Int32) (v2 : Int64) (v4 : Int32) (v5 : Int64) (v9 : Int32) (v10 : Int32) : Prop := gi h v0 15 8 (fun x1 => ((x1 ≤ (v10 : Int32)) → (Qn h)) ∧ ((¬ x1 ≤ (v10 : Int32)) → (gr h v0 15 27 (fun r2 => nn r2 (fun a3 => ll h a3 v10 (fun x4 => (((x4 : Int64) ≤ 0) → (vX12_fires_b64 k15 Qn h v0 v1 v2 v4 v5 v9 v10)) ∧ ((¬ (x4 : Int64) ≤ 0) → (gr h v0 15 27 (fun r5 => nn r5 (fun a6 => ll h a6 v10 (fun x7 => gi h v0 15 22 (fun x8 => ((((x7 * 100) : Int64) < ((Int32.toInt64 x8) * 1000000)) → (vX12_fires_b64 k15 Qn h v0 v1 v2 v4 v5 v9 v10)) ∧ ((¬ ((x7 * 100) : Int64) < ((Int32.toInt64 x8) * 1000000)) → (vX12_fires_b65 k15 Qn h v0 v1 v2 v4 v5 v9 v10 1))))))))))))))
set_option maxRecDepth 100000 in
set_option maxHeartbeats 4000000 in
theorem tX12_fires_b15_o {p : Program} {l : Launch} {e : Env} {s : State} {m : MethodId} {args : Array Value} {below : List Frame} {meth : Method} {c : Code} {G : gG} {A : Nat → Prop} {Qn : gH → Prop} (X : gC p l s m args meth c G A cX12_fires 15 none RX12) {k15 : gH → Nat → Int32 → Int64 → Int32 → Int64 → Int32 → Int32 → Prop} (H15 : ∀ (h : gH) (v0 : Nat) (v1 : Int32) (v2 : Int64) (v4 : Int32) (v5 : Int64) (v9 : Int32) (v10 : Int32), k15 h v0 v1 v2 v4 v5 v9 v10 → V p l e rmX12_fires s m args below meth c (MQ below (va_Qv Qn (gB G A) A) args s rmX12_fires.cells rmX12_fires.slots A) G A 15 h 0 0 15 [(0, .ref v0), (1, .int v1), (2, .long v2), (4, .int v4), (5, .long v5), (9, .int v9), (10, .int v10)] []) {h : gH} {v0 : Nat} {v1 : Int32} {v2 : Int64} {v4 : Int32} {v5 : Int64} {v9 : Int32} {v10 : Int32} (w : vX12_fires_b15_o k15 Qn h v0 v1 v2 v4 v5 v9 v10) : V p l e rmX12_fires s m args below meth c (MQ below (va_Qv Qn (gB G A) A) args s rmX12_fires.cells rmX12_fires.slots A) G A 15 h 0 0 15 [(0, .ref v0), (1, .int v1), (2, .long v2), (4, .int v4), (5, .long v5), (9, .int v9), (10, .int v10)] [] := by
  refine V_iload X dX12_fires_15 6 rfl ?_
  refine V_aloadr_n X dX12_fires_17 0 rfl ?_
  obtain ⟨fs, x1, hh, hv, w⟩ := w
  refine V_get X flX12_120 dX12_fires_18 hh hv ?_
  obtain ⟨w1, w2⟩ := w
  refine V_icmp_ge (tgt := 167) X dX12_fires_21 (by decide) (fun z => ?_) (fun z => ?_)
  · replace w := w1 z
    clear w1 w2
    exact V_vret X rfl dX12_fires_167 (Nat.le_of_ble_eq_true rfl) (Nat.le_of_ble_eq_true rfl) w
  · replace w := w2 z
    clear w1 w2
    refine V_aloadr_n X dX12_fires_24 0 rfl ?_
    obtain ⟨fs, r2, hh, hv, w⟩ := w
    refine V_get X flX12_72 dX12_fires_25 hh hv ?_
    refine V_iload X dX12_fires_28 6 rfl ?_
    obtain ⟨a3, rfl, w⟩ := w
    obtain ⟨N9, g9, hh, hi, w⟩ := w
    refine V_lald X dX12_fires_30 hh hi ?_
    generalize g9 _ = x4 at w ⊢
    refine V_lconst (y := 0) X dX12_fires_31 (by decide) ?_
    refine V_lcmp X dX12_fires_32 ?_
    obtain ⟨w1, w2⟩ := w
    refine V_if_le (tgt := 64) X dX12_fires_33 (by decide) (fun z => ?_) (fun z => ?_)
    · replace w := w1 ((lg_cmp_le _ _).mp z)
      clear w1 w2
      exact V.sub [0, 1, 2, 3, 4, 5, 6] rfl (tX12_fires_b64 X H15 w)
    · replace w := w2 (fun z9 => z ((lg_cmp_le _ _).mpr z9))
      clear w1 w2
      refine V_aloadr_n X dX12_fires_36 0 rfl ?_
      obtain ⟨fs, r5, hh, hv, w⟩ := w
      refine V_get X flX12_72 dX12_fires_37 hh hv ?_
      refine V_iload X dX12_fires_40 6 rfl ?_
      obtain ⟨a6, rfl, w⟩ := w
      obtain ⟨N9, g9, hh, hi, w⟩ := w
      refine V_lald X dX12_fires_42 hh hi ?_
      generalize g9 _ = x7 at w ⊢
      refine V_ldc2 (y := 100) X dX12_fires_43 kw_1762 ?_
      refine V_lmul X dX12_fires_46 ?_
      refine V_aloadr_n X dX12_fires_47 0 rfl ?_
      obtain ⟨fs, x8, hh, hv, w⟩ := w
      refine V_get X flX12_62 dX12_fires_48 hh hv ?_
      refine V_i2l X dX12_fires_51 ?_
      refine V_ldc2 (y := 1000000) X dX12_fires_52 kw_1930 ?_
      refine V_lmul X dX12_fires_55 ?_
      refine V_lcmp X dX12_fires_56 ?_
      obtain ⟨w1, w2⟩ := w
      refine V_if_lt (tgt := 64) X dX12_fires_57 (by decide) (fun z => ?_) (fun z => ?_)
      · replace w := w1 ((lg_cmp_lt _ _).mp z)
        clear w1 w2
        exact V.sub [0, 1, 2, 3, 4, 5, 6] rfl (tX12_fires_b64 X H15 w)
      · replace w := w2 (fun z9 => z ((lg_cmp_lt _ _).mpr z9))
        clear w1 w2
        refine V_iconst (y := 1) X dX12_fires_60 (by decide) ?_
        refine V_goto (tgt := 65) X dX12_fires_61 (by decide) ?_
        exact V.sub [0, 1, 2, 3, 4, 5, 6] rfl (tX12_fires_b65 X H15 w)
def vX12_fires_b15  (Qn : gH → Prop) (n : Nat) : gH → Nat → Int32 → Int64 → Int32 → Int64 → Int32 → Int32 → Prop := Nat.rec (motive := fun _ => gH → Nat → Int32 → Int64 → Int32 → Int64 → Int32 → Int32 → Prop) (fun _ _ _ _ _ _ _ _ => False) (fun _ k15 => vX12_fires_b15_o k15 Qn) n
theorem tX12_fires_b15 {p : Program} {l : Launch} {e : Env} {s : State} {m : MethodId} {args : Array Value} {below : List Frame} {meth : Method} {c : Code} {G : gG} {A : Nat → Prop} {Qn : gH → Prop} (X : gC p l s m args meth c G A cX12_fires 15 none RX12)   : ∀ (n : Nat) (h : gH) (v0 : Nat) (v1 : Int32) (v2 : Int64) (v4 : Int32) (v5 : Int64) (v9 : Int32) (v10 : Int32) (w : vX12_fires_b15  Qn n h v0 v1 v2 v4 v5 v9 v10), V p l e rmX12_fires s m args below meth c (MQ below (va_Qv Qn (gB G A) A) args s rmX12_fires.cells rmX12_fires.slots A) G A 15 h 0 0 15 [(0, .ref v0), (1, .int v1), (2, .long v2), (4, .int v4), (5, .long v5), (9, .int v9), (10, .int v10)] [] := by
  intro n
  induction n with
  | zero => intro h v0 v1 v2 v4 v5 v9 v10 w; exact False.elim w
  | succ n ih => intro h v0 v1 v2 v4 v5 v9 v10 w; exact tX12_fires_b15_o X ih w
def vX12_fires  (Qn : gH → Prop) (h : gH) (v0 : Nat) (v1 : Int32) (v2 : Int64) (v4 : Int32) (v5 : Int64) (v7 : Int64) (v9 : Int32) : Prop := gr h v0 15 15 (fun r1 => nn r1 (fun a2 => li h a2 v1 (fun x3 => io h v0 15 (vX12_blends (fun h4 => ∃ n : Nat, vX12_fires_b15  Qn n h4 v0 v1 v2 v4 v5 v9 0) h v0 x3 v7))))
set_option maxRecDepth 100000 in
set_option maxHeartbeats 4000000 in
theorem tX12_fires {p : Program} {l : Launch} {e : Env} {s : State} {m : MethodId} {args : Array Value} {below : List Frame} {meth : Method} {c : Code} {G : gG} {A : Nat → Prop} {Qn : gH → Prop} (X : gC p l s m args meth c G A cX12_fires 15 none RX12)   {h : gH} {v0 : Nat} {v1 : Int32} {v2 : Int64} {v4 : Int32} {v5 : Int64} {v7 : Int64} {v9 : Int32} (w : vX12_fires  Qn h v0 v1 v2 v4 v5 v7 v9) : V p l e rmX12_fires s m args below meth c (MQ below (va_Qv Qn (gB G A) A) args s rmX12_fires.cells rmX12_fires.slots A) G A 15 h 0 0 0 [(0, .ref v0), (1, .int v1), (2, .long v2), (4, .int v4), (5, .long v5), (7, .long v7), (9, .int v9)] [] := by
  refine V_aloadr_n X dX12_fires_0 0 rfl ?_
  refine V_aloadr_n X dX12_fires_1 0 rfl ?_
  obtain ⟨fs, r1, hh, hv, w⟩ := w
  refine V_get X flX12_47 dX12_fires_2 hh hv ?_
  refine V_iload_n X dX12_fires_5 1 rfl ?_
  obtain ⟨a2, rfl, w⟩ := w
  obtain ⟨N9, g9, hh, hi, w⟩ := w
  refine V_iald X dX12_fires_6 hh hi ?_
  generalize g9 _ = x3 at w ⊢
  refine V_lload X dX12_fires_7 5 rfl ?_
  obtain ⟨fs, hh, w⟩ := w
  refine V_callVv (As := [.int x3, .long v7]) (rest := []) (k1 := 0) (n1 := 0) X (cX12_blends_ok X.2.2.2.2.2.2.2.2.1 w) lkX12_253 hh (q9 := (RX12, TX12, 42)) rfl rfl dX12_fires_9 ⟨Nat.le_of_ble_eq_true rfl, Nat.le_of_ble_eq_true rfl⟩ rfl (Nat.le_of_ble_eq_true rfl) ⟨Nat.le_of_ble_eq_true rfl, Nat.le_of_ble_eq_true rfl⟩ (Nat.le_of_ble_eq_true rfl) (Nat.le_of_ble_eq_true rfl) (fun h4 w9 => ?_)
  replace w := w9
  clear w9
  refine V_iconst (y := 0) X dX12_fires_12 (by decide) ?_
  refine V_istore X dX12_fires_13 (by decide) rfl ?_
  obtain ⟨n9, w⟩ := w
  exact V.sub [1, 2, 3, 4, 5, 7, 0] rfl (tX12_fires_b15 X  n9 _ _ _ _ _ _ _ _ w)
theorem cX12_fires_ok {l : Launch} {G : gG} {h : gH} (hls : l.stackTraces = false) {Qn : gH → Prop} {v0 : Nat} {v1 : Int32} {v2 : Int64} {v4 : Int32} {v5 : Int64} {v7 : Int64} {v9 : Int32} (w : vX12_fires Qn h v0 v1 v2 v4 v5 v7 v9) : gMv l yX12_fires cX12_fires 15 none rmX12_fires rmX12_fires.cells rmX12_fires.slots G h [.ref v0, .int v1, .long v2, .int v4, .long v5, .long v7, .int v9] Qn := by
  exact gMv.of (by decide +kernel) hls (Nat.le_of_ble_eq_true rfl) rfl rfl (fun p e s m below meth c A X hnm => tX12_fires X w)
/-! AnimationControllerModel.advancesBoth()V -/
abbrev rmX12_advancesBoth : Room := { frames := 4, cells := 0, slots := 0, locals := 102 }
def vX12_advancesBoth_b142  (Qn : gH → Prop) (h : gH) (v0 : Nat) : Prop := io h v0 15 (vX12_stepOf (fun x2 h1 => io h1 v0 15 (vX12_advances (fun h3 => Qn h3) h1 v0 16 x2)) h v0 16)
set_option maxRecDepth 100000 in
set_option maxHeartbeats 4000000 in
theorem tX12_advancesBoth_b142 {p : Program} {l : Launch} {e : Env} {s : State} {m : MethodId} {args : Array Value} {below : List Frame} {meth : Method} {c : Code} {G : gG} {A : Nat → Prop} {Qn : gH → Prop} (X : gC p l s m args meth c G A cX12_advancesBoth 11 none RX12)   {h : gH} {v0 : Nat} (w : vX12_advancesBoth_b142  Qn h v0) : V p l e rmX12_advancesBoth s m args below meth c (MQ below (va_Qv Qn (gB G A) A) args s rmX12_advancesBoth.cells rmX12_advancesBoth.slots A) G A 11 h 0 0 142 [(0, .ref v0)] [] := by
  refine V_aloadr_n X dX12_advancesBoth_142 0 rfl ?_
  refine V_bipush (y := 16) X dX12_advancesBoth_143 (by decide) ?_
  refine V_aloadr_n X dX12_advancesBoth_145 0 rfl ?_
  refine V_bipush (y := 16) X dX12_advancesBoth_146 (by decide) ?_
  obtain ⟨fs, hh, w⟩ := w
  refine V_callVl (As := [.int 16]) (rest := [.int 16, .ref v0]) (k1 := 0) (n1 := 0) X (cX12_stepOf_ok X.2.2.2.2.2.2.2.2.1 w) lkX12_343 hh (q9 := (RX12, TX12, 42)) rfl rfl dX12_advancesBoth_148 ⟨Nat.le_of_ble_eq_true rfl, Nat.le_of_ble_eq_true rfl⟩ rfl (Nat.le_of_ble_eq_true rfl) ⟨Nat.le_of_ble_eq_true rfl, Nat.le_of_ble_eq_true rfl⟩ (Nat.le_of_ble_eq_true rfl) (Nat.le_of_ble_eq_true rfl) (fun x2 h1 w9 => ?_)
  replace w := w9
  clear w9
  obtain ⟨fs, hh, w⟩ := w
  refine V_callVv (As := [.int 16, .long x2]) (rest := []) (k1 := 0) (n1 := 0) X (cX12_advances_ok X.2.2.2.2.2.2.2.2.1 w) lkX12_346 hh (q9 := (RX12, TX12, 42)) rfl rfl dX12_advancesBoth_151 ⟨Nat.le_of_ble_eq_true rfl, Nat.le_of_ble_eq_true rfl⟩ rfl (Nat.le_of_ble_eq_true rfl) ⟨Nat.le_of_ble_eq_true rfl, Nat.le_of_ble_eq_true rfl⟩ (Nat.le_of_ble_eq_true rfl) (Nat.le_of_ble_eq_true rfl) (fun h3 w9 => ?_)
  replace w := w9
  clear w9
  exact V_vret X rfl dX12_advancesBoth_154 (Nat.le_of_ble_eq_true rfl) (Nat.le_of_ble_eq_true rfl) w
def vX12_advancesBoth  (Qn : gH → Prop) (h : gH) (v0 : Nat) : Prop := io h v0 15 (vX12_isSynced (fun x2 h1 => (((x2 : Int32) = 0) → (gr h1 v0 15 0 (fun r3 => nn r3 (fun a4 => li h1 a4 20 (fun x5 => ((¬ (x5 : Int32) = 0) → (vX12_advancesBoth_b142  Qn h1 v0)) ∧ (((x5 : Int32) = 0) → (io h1 v0 15 (vX12_stepOf (fun x7 h6 => io h6 v0 15 (vX12_advances (fun h8 => vX12_advancesBoth_b142  Qn h8 v0) h6 v0 12 x7)) h1 v0 12)))))))) ∧ ((¬ (x2 : Int32) = 0) → (io h1 v0 15 (vX12_shareOfTarget (fun x10 h9 => gr h9 v0 15 16 (fun r11 => gr h9 v0 15 0 (fun r12 => nn r12 (fun a13 => li h9 a13 12 (fun x14 => nn r11 (fun a15 => li h9 a15 x14 (fun x16 => gr h9 v0 15 16 (fun r17 => gr h9 v0 15 0 (fun r18 => nn r18 (fun a19 => li h9 a19 16 (fun x20 => nn r17 (fun a21 => li h9 a21 x20 (fun x22 => ¬ (1000000 : Int64) = 0 ∧ (gr h9 v0 15 0 (fun r23 => nn r23 (fun a24 => li h9 a24 12 (fun x25 => io h9 v0 15 (vX12_lengthOf (fun x27 h26 => gr h26 v0 15 0 (fun r28 => nn r28 (fun a29 => li h26 a29 16 (fun x30 => io h26 v0 15 (vX12_lengthOf (fun x32 h31 => ¬ (1000000 : Int64) = 0 ∧ (¬ ((100 * ((((1000000 - x10) * x27) + (x10 * x32)) / 1000000)) : Int64) = 0 ∧ (io h31 v0 15 (vX12_advances (fun h33 => io h33 v0 15 (vX12_advances (fun h34 => Qn h34) h33 v0 16 ((1000000 * ((((1000000 - x10) * (Int32.toInt64 x16)) + (x10 * (Int32.toInt64 x22))) / 1000000)) / (100 * ((((1000000 - x10) * x27) + (x10 * x32)) / 1000000))))) h31 v0 12 ((1000000 * ((((1000000 - x10) * (Int32.toInt64 x16)) + (x10 * (Int32.toInt64 x22))) / 1000000)) / (100 * ((((1000000 - x10) * x27) + (x10 * x32)) / 1000000))))))) h26 v0 x30))))) h9 v0 x25)))))))))))))))))) h1 v0 )))) h v0 )
set_option maxRecDepth 100000 in
set_option maxHeartbeats 4000000 in
theorem tX12_advancesBoth {p : Program} {l : Launch} {e : Env} {s : State} {m : MethodId} {args : Array Value} {below : List Frame} {meth : Method} {c : Code} {G : gG} {A : Nat → Prop} {Qn : gH → Prop} (X : gC p l s m args meth c G A cX12_advancesBoth 11 none RX12)   {h : gH} {v0 : Nat} (w : vX12_advancesBoth  Qn h v0) : V p l e rmX12_advancesBoth s m args below meth c (MQ below (va_Qv Qn (gB G A) A) args s rmX12_advancesBoth.cells rmX12_advancesBoth.slots A) G A 11 h 0 0 0 [(0, .ref v0)] [] := by
  refine V_aloadr_n X dX12_advancesBoth_0 0 rfl ?_
  obtain ⟨fs, hh, w⟩ := w
  refine V_callVi (As := []) (rest := []) (k1 := 0) (n1 := 0) X (cX12_isSynced_ok X.2.2.2.2.2.2.2.2.1 w) lkX12_325 hh (q9 := (RX12, TX12, 42)) rfl rfl dX12_advancesBoth_1 ⟨Nat.le_of_ble_eq_true rfl, Nat.le_of_ble_eq_true rfl⟩ rfl (Nat.le_of_ble_eq_true rfl) ⟨Nat.le_of_ble_eq_true rfl, Nat.le_of_ble_eq_true rfl⟩ (Nat.le_of_ble_eq_true rfl) (Nat.le_of_ble_eq_true rfl) (fun x2 h1 w9 => ?_)
  replace w := w9
  clear w9
  obtain ⟨w1, w2⟩ := w
  refine V_if_eq (tgt := 120) X dX12_advancesBoth_4 (by decide) (fun z => ?_) (fun z => ?_)
  · replace w := w1 z
    clear w1 w2
    refine V_aloadr_n X dX12_advancesBoth_120 0 rfl ?_
    obtain ⟨fs, r3, hh, hv, w⟩ := w
    refine V_get X flX12_7 dX12_advancesBoth_121 hh hv ?_
    refine V_bipush (y := 20) X dX12_advancesBoth_124 (by decide) ?_
    obtain ⟨a4, rfl, w⟩ := w
    obtain ⟨N9, g9, hh, hi, w⟩ := w
    refine V_iald X dX12_advancesBoth_126 hh hi ?_
    generalize g9 _ = x5 at w ⊢
    obtain ⟨w1, w2⟩ := w
    refine V_if_ne (tgt := 142) X dX12_advancesBoth_127 (by decide) (fun z => ?_) (fun z => ?_)
    · replace w := w1 z
      clear w1 w2
      exact V.sub [0] rfl (tX12_advancesBoth_b142 X  w)
    · replace w := w2 z
      clear w1 w2
      refine V_aloadr_n X dX12_advancesBoth_130 0 rfl ?_
      refine V_bipush (y := 12) X dX12_advancesBoth_131 (by decide) ?_
      refine V_aloadr_n X dX12_advancesBoth_133 0 rfl ?_
      refine V_bipush (y := 12) X dX12_advancesBoth_134 (by decide) ?_
      obtain ⟨fs, hh, w⟩ := w
      refine V_callVl (As := [.int 12]) (rest := [.int 12, .ref v0]) (k1 := 0) (n1 := 0) X (cX12_stepOf_ok X.2.2.2.2.2.2.2.2.1 w) lkX12_343 hh (q9 := (RX12, TX12, 42)) rfl rfl dX12_advancesBoth_136 ⟨Nat.le_of_ble_eq_true rfl, Nat.le_of_ble_eq_true rfl⟩ rfl (Nat.le_of_ble_eq_true rfl) ⟨Nat.le_of_ble_eq_true rfl, Nat.le_of_ble_eq_true rfl⟩ (Nat.le_of_ble_eq_true rfl) (Nat.le_of_ble_eq_true rfl) (fun x7 h6 w9 => ?_)
      replace w := w9
      clear w9
      obtain ⟨fs, hh, w⟩ := w
      refine V_callVv (As := [.int 12, .long x7]) (rest := []) (k1 := 0) (n1 := 0) X (cX12_advances_ok X.2.2.2.2.2.2.2.2.1 w) lkX12_346 hh (q9 := (RX12, TX12, 42)) rfl rfl dX12_advancesBoth_139 ⟨Nat.le_of_ble_eq_true rfl, Nat.le_of_ble_eq_true rfl⟩ rfl (Nat.le_of_ble_eq_true rfl) ⟨Nat.le_of_ble_eq_true rfl, Nat.le_of_ble_eq_true rfl⟩ (Nat.le_of_ble_eq_true rfl) (Nat.le_of_ble_eq_true rfl) (fun h8 w9 => ?_)
      replace w := w9
      clear w9
      exact V.sub [0] rfl (tX12_advancesBoth_b142 X  w)
  · replace w := w2 z
    clear w1 w2
    refine V_aloadr_n X dX12_advancesBoth_7 0 rfl ?_
    obtain ⟨fs, hh, w⟩ := w
    refine V_callVl (As := []) (rest := []) (k1 := 0) (n1 := 0) X (cX12_shareOfTarget_ok X.2.2.2.2.2.2.2.2.1 w) lkX12_275 hh (q9 := (RX12, TX12, 42)) rfl rfl dX12_advancesBoth_8 ⟨Nat.le_of_ble_eq_true rfl, Nat.le_of_ble_eq_true rfl⟩ rfl (Nat.le_of_ble_eq_true rfl) ⟨Nat.le_of_ble_eq_true rfl, Nat.le_of_ble_eq_true rfl⟩ (Nat.le_of_ble_eq_true rfl) (Nat.le_of_ble_eq_true rfl) (fun x10 h9 w9 => ?_)
    replace w := w9
    clear w9
    refine V_lstore_n X dX12_advancesBoth_11 rfl (by decide) rfl ?_
    refine V_ldc2 (y := 1000000) X dX12_advancesBoth_12 kw_1930 ?_
    refine V_lload_n X dX12_advancesBoth_15 0 rfl ?_
    refine V_lsub X dX12_advancesBoth_16 ?_
    refine V_lstore_n X dX12_advancesBoth_17 rfl (by decide) rfl ?_
    refine V_lload_n X dX12_advancesBoth_18 0 rfl ?_
    refine V_aloadr_n X dX12_advancesBoth_19 2 rfl ?_
    obtain ⟨fs, r11, hh, hv, w⟩ := w
    refine V_get X flX12_50 dX12_advancesBoth_20 hh hv ?_
    refine V_aloadr_n X dX12_advancesBoth_23 2 rfl ?_
    obtain ⟨fs, r12, hh, hv, w⟩ := w
    refine V_get X flX12_7 dX12_advancesBoth_24 hh hv ?_
    refine V_bipush (y := 12) X dX12_advancesBoth_27 (by decide) ?_
    obtain ⟨a13, rfl, w⟩ := w
    obtain ⟨N9, g9, hh, hi, w⟩ := w
    refine V_iald X dX12_advancesBoth_29 hh hi ?_
    generalize g9 _ = x14 at w ⊢
    obtain ⟨a15, rfl, w⟩ := w
    obtain ⟨N9, g9, hh, hi, w⟩ := w
    refine V_iald X dX12_advancesBoth_30 hh hi ?_
    generalize g9 _ = x16 at w ⊢
    refine V_i2l X dX12_advancesBoth_31 ?_
    refine V_lmul X dX12_advancesBoth_32 ?_
    refine V_lload_n X dX12_advancesBoth_33 1 rfl ?_
    refine V_aloadr_n X dX12_advancesBoth_34 2 rfl ?_
    obtain ⟨fs, r17, hh, hv, w⟩ := w
    refine V_get X flX12_50 dX12_advancesBoth_35 hh hv ?_
    refine V_aloadr_n X dX12_advancesBoth_38 2 rfl ?_
    obtain ⟨fs, r18, hh, hv, w⟩ := w
    refine V_get X flX12_7 dX12_advancesBoth_39 hh hv ?_
    refine V_bipush (y := 16) X dX12_advancesBoth_42 (by decide) ?_
    obtain ⟨a19, rfl, w⟩ := w
    obtain ⟨N9, g9, hh, hi, w⟩ := w
    refine V_iald X dX12_advancesBoth_44 hh hi ?_
    generalize g9 _ = x20 at w ⊢
    obtain ⟨a21, rfl, w⟩ := w
    obtain ⟨N9, g9, hh, hi, w⟩ := w
    refine V_iald X dX12_advancesBoth_45 hh hi ?_
    generalize g9 _ = x22 at w ⊢
    refine V_i2l X dX12_advancesBoth_46 ?_
    refine V_lmul X dX12_advancesBoth_47 ?_
    refine V_ladd X dX12_advancesBoth_48 ?_
    refine V_ldc2 (y := 1000000) X dX12_advancesBoth_49 kw_1930 ?_
    obtain ⟨z0, w⟩ := w
    refine V_ldiv X dX12_advancesBoth_52 z0 ?_
    refine V_lstore X dX12_advancesBoth_53 (by decide) rfl ?_
    refine V_lload_n X dX12_advancesBoth_55 1 rfl ?_
    refine V_aloadr_n X dX12_advancesBoth_56 3 rfl ?_
    refine V_aloadr_n X dX12_advancesBoth_57 3 rfl ?_
    obtain ⟨fs, r23, hh, hv, w⟩ := w
    refine V_get X flX12_7 dX12_advancesBoth_58 hh hv ?_
    refine V_bipush (y := 12) X dX12_advancesBoth_61 (by decide) ?_
    obtain ⟨a24, rfl, w⟩ := w
    obtain ⟨N9, g9, hh, hi, w⟩ := w
    refine V_iald X dX12_advancesBoth_63 hh hi ?_
    generalize g9 _ = x25 at w ⊢
    obtain ⟨fs, hh, w⟩ := w
    refine V_callVl (As := [.int x25]) (rest := [.long (1000000 - x10)]) (k1 := 0) (n1 := 0) X (cX12_lengthOf_ok X.2.2.2.2.2.2.2.2.1 w) lkX12_262 hh (q9 := (RX12, TX12, 42)) rfl rfl dX12_advancesBoth_64 ⟨Nat.le_of_ble_eq_true rfl, Nat.le_of_ble_eq_true rfl⟩ rfl (Nat.le_of_ble_eq_true rfl) ⟨Nat.le_of_ble_eq_true rfl, Nat.le_of_ble_eq_true rfl⟩ (Nat.le_of_ble_eq_true rfl) (Nat.le_of_ble_eq_true rfl) (fun x27 h26 w9 => ?_)
    replace w := w9
    clear w9
    refine V_lmul X dX12_advancesBoth_67 ?_
    refine V_lload_n X dX12_advancesBoth_68 2 rfl ?_
    refine V_aloadr_n X dX12_advancesBoth_69 3 rfl ?_
    refine V_aloadr_n X dX12_advancesBoth_70 3 rfl ?_
    obtain ⟨fs, r28, hh, hv, w⟩ := w
    refine V_get X flX12_7 dX12_advancesBoth_71 hh hv ?_
    refine V_bipush (y := 16) X dX12_advancesBoth_74 (by decide) ?_
    obtain ⟨a29, rfl, w⟩ := w
    obtain ⟨N9, g9, hh, hi, w⟩ := w
    refine V_iald X dX12_advancesBoth_76 hh hi ?_
    generalize g9 _ = x30 at w ⊢
    obtain ⟨fs, hh, w⟩ := w
    refine V_callVl (As := [.int x30]) (rest := [.long x10, .long ((1000000 - x10) * x27)]) (k1 := 0) (n1 := 0) X (cX12_lengthOf_ok X.2.2.2.2.2.2.2.2.1 w) lkX12_262 hh (q9 := (RX12, TX12, 42)) rfl rfl dX12_advancesBoth_77 ⟨Nat.le_of_ble_eq_true rfl, Nat.le_of_ble_eq_true rfl⟩ rfl (Nat.le_of_ble_eq_true rfl) ⟨Nat.le_of_ble_eq_true rfl, Nat.le_of_ble_eq_true rfl⟩ (Nat.le_of_ble_eq_true rfl) (Nat.le_of_ble_eq_true rfl) (fun x32 h31 w9 => ?_)
    replace w := w9
    clear w9
    refine V_lmul X dX12_advancesBoth_80 ?_
    refine V_ladd X dX12_advancesBoth_81 ?_
    refine V_ldc2 (y := 1000000) X dX12_advancesBoth_82 kw_1930 ?_
    obtain ⟨z0, w⟩ := w
    refine V_ldiv X dX12_advancesBoth_85 z0 ?_
    refine V_lstore X dX12_advancesBoth_86 (by decide) rfl ?_
    refine V_ldc2 (y := 1000000) X dX12_advancesBoth_88 kw_1930 ?_
    refine V_lload X dX12_advancesBoth_91 1 rfl ?_
    refine V_lmul X dX12_advancesBoth_93 ?_
    refine V_ldc2 (y := 100) X dX12_advancesBoth_94 kw_1762 ?_
    refine V_lload X dX12_advancesBoth_97 0 rfl ?_
    refine V_lmul X dX12_advancesBoth_99 ?_
    obtain ⟨z0, w⟩ := w
    refine V_ldiv X dX12_advancesBoth_100 z0 ?_
    refine V_lstore X dX12_advancesBoth_101 (by decide) rfl ?_
    refine V_aloadr_n X dX12_advancesBoth_103 5 rfl ?_
    refine V_bipush (y := 12) X dX12_advancesBoth_104 (by decide) ?_
    refine V_lload X dX12_advancesBoth_106 0 rfl ?_
    obtain ⟨fs, hh, w⟩ := w
    refine V_callVv (As := [.int 12, .long ((1000000 * ((((1000000 - x10) * (Int32.toInt64 x16)) + (x10 * (Int32.toInt64 x22))) / 1000000)) / (100 * ((((1000000 - x10) * x27) + (x10 * x32)) / 1000000)))]) (rest := []) (k1 := 0) (n1 := 0) X (cX12_advances_ok X.2.2.2.2.2.2.2.2.1 w) lkX12_346 hh (q9 := (RX12, TX12, 42)) rfl rfl dX12_advancesBoth_108 ⟨Nat.le_of_ble_eq_true rfl, Nat.le_of_ble_eq_true rfl⟩ rfl (Nat.le_of_ble_eq_true rfl) ⟨Nat.le_of_ble_eq_true rfl, Nat.le_of_ble_eq_true rfl⟩ (Nat.le_of_ble_eq_true rfl) (Nat.le_of_ble_eq_true rfl) (fun h33 w9 => ?_)
    replace w := w9
    clear w9
    refine V_aloadr_n X dX12_advancesBoth_111 5 rfl ?_
    refine V_bipush (y := 16) X dX12_advancesBoth_112 (by decide) ?_
    refine V_lload X dX12_advancesBoth_114 0 rfl ?_
    obtain ⟨fs, hh, w⟩ := w
    refine V_callVv (As := [.int 16, .long ((1000000 * ((((1000000 - x10) * (Int32.toInt64 x16)) + (x10 * (Int32.toInt64 x22))) / 1000000)) / (100 * ((((1000000 - x10) * x27) + (x10 * x32)) / 1000000)))]) (rest := []) (k1 := 0) (n1 := 0) X (cX12_advances_ok X.2.2.2.2.2.2.2.2.1 w) lkX12_346 hh (q9 := (RX12, TX12, 42)) rfl rfl dX12_advancesBoth_116 ⟨Nat.le_of_ble_eq_true rfl, Nat.le_of_ble_eq_true rfl⟩ rfl (Nat.le_of_ble_eq_true rfl) ⟨Nat.le_of_ble_eq_true rfl, Nat.le_of_ble_eq_true rfl⟩ (Nat.le_of_ble_eq_true rfl) (Nat.le_of_ble_eq_true rfl) (fun h34 w9 => ?_)
    replace w := w9
    clear w9
    exact V_vret X rfl dX12_advancesBoth_119 (Nat.le_of_ble_eq_true rfl) (Nat.le_of_ble_eq_true rfl) w
theorem cX12_advancesBoth_ok {l : Launch} {G : gG} {h : gH} (hls : l.stackTraces = false) {Qn : gH → Prop} {v0 : Nat} (w : vX12_advancesBoth Qn h v0) : gMv l yX12_advancesBoth cX12_advancesBoth 11 none rmX12_advancesBoth rmX12_advancesBoth.cells rmX12_advancesBoth.slots G h [.ref v0] Qn := by
  exact gMv.of (by decide +kernel) hls (Nat.le_of_ble_eq_true rfl) rfl rfl (fun p e s m below meth c A X hnm => tX12_advancesBoth X w)
/-! AnimationControllerModel.ticks()V -/
abbrev rmX12_ticks : Room := { frames := 6, cells := 0, slots := 0, locals := 151 }
def vX12_ticks_b254  (Qn : gH → Prop) (h : gH) (v0 : Nat) (v2 : Int32) (v5 : Int64) (v8 : Int32) (v12 : Int64) (v14 : Int64) : Prop := gr h v0 15 0 (fun r1 => nn r1 (fun a2 => li h a2 287 (fun x3 => io h v0 15 (vX12_fires (fun h4 => Qn h4) h v0 v2 v5 v8 v12 v14 x3))))
set_option maxRecDepth 100000 in
set_option maxHeartbeats 4000000 in
theorem tX12_ticks_b254 {p : Program} {l : Launch} {e : Env} {s : State} {m : MethodId} {args : Array Value} {below : List Frame} {meth : Method} {c : Code} {G : gG} {A : Nat → Prop} {Qn : gH → Prop} (X : gC p l s m args meth c G A cX12_ticks 16 none RX12)   {h : gH} {v0 : Nat} {v2 : Int32} {v5 : Int64} {v8 : Int32} {v12 : Int64} {v14 : Int64} (w : vX12_ticks_b254  Qn h v0 v2 v5 v8 v12 v14) : V p l e rmX12_ticks s m args below meth c (MQ below (va_Qv Qn (gB G A) A) args s rmX12_ticks.cells rmX12_ticks.slots A) G A 16 h 0 0 254 [(0, .ref v0), (2, .int v2), (5, .long v5), (8, .int v8), (12, .long v12), (14, .long v14)] [] := by
  refine V_aloadr_n X dX12_ticks_254 0 rfl ?_
  refine V_iload_n X dX12_ticks_255 1 rfl ?_
  refine V_lload X dX12_ticks_256 2 rfl ?_
  refine V_iload X dX12_ticks_258 3 rfl ?_
  refine V_lload X dX12_ticks_260 4 rfl ?_
  refine V_lload X dX12_ticks_262 5 rfl ?_
  refine V_aloadr_n X dX12_ticks_264 0 rfl ?_
  obtain ⟨fs, r1, hh, hv, w⟩ := w
  refine V_get X flX12_7 dX12_ticks_265 hh hv ?_
  refine V_sipush (y := 287) X dX12_ticks_268 (by decide) ?_
  obtain ⟨a2, rfl, w⟩ := w
  obtain ⟨N9, g9, hh, hi, w⟩ := w
  refine V_iald X dX12_ticks_271 hh hi ?_
  generalize g9 _ = x3 at w ⊢
  obtain ⟨fs, hh, w⟩ := w
  refine V_callVv (As := [.int v2, .long v5, .int v8, .long v12, .long v14, .int x3]) (rest := []) (k1 := 0) (n1 := 0) X (cX12_fires_ok X.2.2.2.2.2.2.2.2.1 w) lkX12_349 hh (q9 := (RX12, TX12, 42)) rfl rfl dX12_ticks_272 ⟨Nat.le_of_ble_eq_true rfl, Nat.le_of_ble_eq_true rfl⟩ rfl (Nat.le_of_ble_eq_true rfl) ⟨Nat.le_of_ble_eq_true rfl, Nat.le_of_ble_eq_true rfl⟩ (Nat.le_of_ble_eq_true rfl) (Nat.le_of_ble_eq_true rfl) (fun h4 w9 => ?_)
  replace w := w9
  clear w9
  exact V_vret X rfl dX12_ticks_275 (Nat.le_of_ble_eq_true rfl) (Nat.le_of_ble_eq_true rfl) w
def vX12_ticks_b225  (Qn : gH → Prop) (h : gH) (v0 : Nat) (v1 : Int32) (v2 : Int32) (v3 : Int64) (v5 : Int64) (v7 : Int32) (v8 : Int32) (v9 : Int32) (v10 : Int64) (v12 : Int64) (v14 : Int64) : Prop := (((v9 : Int32) = 0) → (vX12_ticks_b254  Qn h v0 v2 v5 v8 v12 v14)) ∧ ((¬ (v9 : Int32) = 0) → (gr h v0 15 0 (fun r1 => nn r1 (fun a2 => li h a2 287 (fun x3 => io h v0 15 (vX12_fires (fun h4 => vX12_ticks_b254  Qn h4 v0 v2 v5 v8 v12 v14) h v0 v1 v3 v7 v10 (1000000 - v14) x3))))))
set_option maxRecDepth 100000 in
set_option maxHeartbeats 4000000 in
theorem tX12_ticks_b225 {p : Program} {l : Launch} {e : Env} {s : State} {m : MethodId} {args : Array Value} {below : List Frame} {meth : Method} {c : Code} {G : gG} {A : Nat → Prop} {Qn : gH → Prop} (X : gC p l s m args meth c G A cX12_ticks 16 none RX12)   {h : gH} {v0 : Nat} {v1 : Int32} {v2 : Int32} {v3 : Int64} {v5 : Int64} {v7 : Int32} {v8 : Int32} {v9 : Int32} {v10 : Int64} {v12 : Int64} {v14 : Int64} (w : vX12_ticks_b225  Qn h v0 v1 v2 v3 v5 v7 v8 v9 v10 v12 v14) : V p l e rmX12_ticks s m args below meth c (MQ below (va_Qv Qn (gB G A) A) args s rmX12_ticks.cells rmX12_ticks.slots A) G A 16 h 0 0 225 [(0, .ref v0), (1, .int v1), (2, .int v2), (3, .long v3), (5, .long v5), (7, .int v7), (8, .int v8), (9, .int v9), (10, .long v10), (12, .long v12), (14, .long v14)] [] := by
  refine V_iload X dX12_ticks_225 7 rfl ?_
  obtain ⟨w1, w2⟩ := w
  refine V_if_eq (tgt := 254) X dX12_ticks_227 (by decide) (fun z => ?_) (fun z => ?_)
  · replace w := w1 z
    clear w1 w2
    exact V.sub [0, 2, 4, 6, 9, 10] rfl (tX12_ticks_b254 X  w)
  · replace w := w2 z
    clear w1 w2
    refine V_aloadr_n X dX12_ticks_230 0 rfl ?_
    refine V_iload_n X dX12_ticks_231 1 rfl ?_
    refine V_lload_n X dX12_ticks_232 3 rfl ?_
    refine V_iload X dX12_ticks_233 5 rfl ?_
    refine V_lload X dX12_ticks_235 8 rfl ?_
    refine V_ldc2 (y := 1000000) X dX12_ticks_237 kw_1930 ?_
    refine V_lload X dX12_ticks_240 10 rfl ?_
    refine V_lsub X dX12_ticks_242 ?_
    refine V_aloadr_n X dX12_ticks_243 0 rfl ?_
    obtain ⟨fs, r1, hh, hv, w⟩ := w
    refine V_get X flX12_7 dX12_ticks_244 hh hv ?_
    refine V_sipush (y := 287) X dX12_ticks_247 (by decide) ?_
    obtain ⟨a2, rfl, w⟩ := w
    obtain ⟨N9, g9, hh, hi, w⟩ := w
    refine V_iald X dX12_ticks_250 hh hi ?_
    generalize g9 _ = x3 at w ⊢
    obtain ⟨fs, hh, w⟩ := w
    refine V_callVv (As := [.int v1, .long v3, .int v7, .long v10, .long (1000000 - v14), .int x3]) (rest := []) (k1 := 0) (n1 := 0) X (cX12_fires_ok X.2.2.2.2.2.2.2.2.1 w) lkX12_349 hh (q9 := (RX12, TX12, 42)) rfl rfl dX12_ticks_251 ⟨Nat.le_of_ble_eq_true rfl, Nat.le_of_ble_eq_true rfl⟩ rfl (Nat.le_of_ble_eq_true rfl) ⟨Nat.le_of_ble_eq_true rfl, Nat.le_of_ble_eq_true rfl⟩ (Nat.le_of_ble_eq_true rfl) (Nat.le_of_ble_eq_true rfl) (fun h4 w9 => ?_)
    replace w := w9
    clear w9
    exact V.sub [0, 2, 4, 6, 9, 10] rfl (tX12_ticks_b254 X  w)
def vX12_ticks_b160  (Qn : gH → Prop) (h : gH) (v0 : Nat) (v1 : Int32) (v2 : Int32) (v3 : Int64) (v5 : Int64) (v7 : Int32) (v8 : Int32) (s0 : Int32) : Prop := io h v0 15 (vX12_advancesBoth (fun h1 => io h1 v0 15 (vX12_progressOf (fun x3 h2 => io h2 v0 15 (vX12_progressOf (fun x5 h4 => gr h4 v0 15 0 (fun r6 => nn r6 (fun a7 => li h4 a7 10 (fun x8 => si h4 a7 10 (x8 + 1) (fun h9 => io h9 v0 15 (vX12_shareOfTarget (fun x11 h10 => gr h10 v0 15 0 (fun r12 => nn r12 (fun a13 => li h10 a13 10 (fun x14 => gr h10 v0 15 0 (fun r15 => nn r15 (fun a16 => li h10 a16 9 (fun x17 => io h10 v0 15 (vX12_of (fun x19 h18 => ((¬ (x14 : Int32) = x19) → (vX12_ticks_b225  Qn h18 v0 v1 v2 v3 v5 v7 v8 s0 x3 x5 x11)) ∧ (((x14 : Int32) = x19) → (io h18 v0 15 (vX12_ends (fun h20 => vX12_ticks_b225  Qn h20 v0 v1 v2 v3 v5 v7 v8 s0 x3 x5 x11) h18 v0 )))) h10 v0 x17 2)))))))) h9 v0 )))))) h2 v0 16)) h1 v0 12)) h v0 )
set_option maxRecDepth 100000 in
set_option maxHeartbeats 4000000 in
theorem tX12_ticks_b160 {p : Program} {l : Launch} {e : Env} {s : State} {m : MethodId} {args : Array Value} {below : List Frame} {meth : Method} {c : Code} {G : gG} {A : Nat → Prop} {Qn : gH → Prop} (X : gC p l s m args meth c G A cX12_ticks 16 none RX12)   {h : gH} {v0 : Nat} {v1 : Int32} {v2 : Int32} {v3 : Int64} {v5 : Int64} {v7 : Int32} {v8 : Int32} {s0 : Int32} (w : vX12_ticks_b160  Qn h v0 v1 v2 v3 v5 v7 v8 s0) : V p l e rmX12_ticks s m args below meth c (MQ below (va_Qv Qn (gB G A) A) args s rmX12_ticks.cells rmX12_ticks.slots A) G A 16 h 0 0 160 [(0, .ref v0), (1, .int v1), (2, .int v2), (3, .long v3), (5, .long v5), (7, .int v7), (8, .int v8)] [.int s0] := by
  refine V_istore X dX12_ticks_160 (by decide) rfl ?_
  refine V_aloadr_n X dX12_ticks_162 1 rfl ?_
  obtain ⟨fs, hh, w⟩ := w
  refine V_callVv (As := []) (rest := []) (k1 := 0) (n1 := 0) X (cX12_advancesBoth_ok X.2.2.2.2.2.2.2.2.1 w) lkX12_353 hh (q9 := (RX12, TX12, 42)) rfl rfl dX12_ticks_163 ⟨Nat.le_of_ble_eq_true rfl, Nat.le_of_ble_eq_true rfl⟩ rfl (Nat.le_of_ble_eq_true rfl) ⟨Nat.le_of_ble_eq_true rfl, Nat.le_of_ble_eq_true rfl⟩ (Nat.le_of_ble_eq_true rfl) (Nat.le_of_ble_eq_true rfl) (fun h1 w9 => ?_)
  replace w := w9
  clear w9
  refine V_aloadr_n X dX12_ticks_166 1 rfl ?_
  refine V_bipush (y := 12) X dX12_ticks_167 (by decide) ?_
  obtain ⟨fs, hh, w⟩ := w
  refine V_callVl (As := [.int 12]) (rest := []) (k1 := 0) (n1 := 0) X (cX12_progressOf_ok X.2.2.2.2.2.2.2.2.1 w) lkX12_257 hh (q9 := (RX12, TX12, 42)) rfl rfl dX12_ticks_169 ⟨Nat.le_of_ble_eq_true rfl, Nat.le_of_ble_eq_true rfl⟩ rfl (Nat.le_of_ble_eq_true rfl) ⟨Nat.le_of_ble_eq_true rfl, Nat.le_of_ble_eq_true rfl⟩ (Nat.le_of_ble_eq_true rfl) (Nat.le_of_ble_eq_true rfl) (fun x3 h2 w9 => ?_)
  replace w := w9
  clear w9
  refine V_lstore X dX12_ticks_172 (by decide) rfl ?_
  refine V_aloadr_n X dX12_ticks_174 2 rfl ?_
  refine V_bipush (y := 16) X dX12_ticks_175 (by decide) ?_
  obtain ⟨fs, hh, w⟩ := w
  refine V_callVl (As := [.int 16]) (rest := []) (k1 := 0) (n1 := 0) X (cX12_progressOf_ok X.2.2.2.2.2.2.2.2.1 w) lkX12_257 hh (q9 := (RX12, TX12, 42)) rfl rfl dX12_ticks_177 ⟨Nat.le_of_ble_eq_true rfl, Nat.le_of_ble_eq_true rfl⟩ rfl (Nat.le_of_ble_eq_true rfl) ⟨Nat.le_of_ble_eq_true rfl, Nat.le_of_ble_eq_true rfl⟩ (Nat.le_of_ble_eq_true rfl) (Nat.le_of_ble_eq_true rfl) (fun x5 h4 w9 => ?_)
  replace w := w9
  clear w9
  refine V_lstore X dX12_ticks_180 (by decide) rfl ?_
  refine V_aloadr_n X dX12_ticks_182 3 rfl ?_
  obtain ⟨fs, r6, hh, hv, w⟩ := w
  refine V_get X flX12_7 dX12_ticks_183 hh hv ?_
  refine V_bipush (y := 10) X dX12_ticks_186 (by decide) ?_
  refine V_dup2 X dX12_ticks_188 rfl (va_cat1 _) ?_
  obtain ⟨a7, rfl, w⟩ := w
  obtain ⟨N9, g9, hh, hi, w⟩ := w
  refine V_iald X dX12_ticks_189 hh hi ?_
  generalize g9 _ = x8 at w ⊢
  refine V_iconst (y := 1) X dX12_ticks_190 (by decide) ?_
  refine V_iadd X dX12_ticks_191 ?_
  obtain ⟨N9, g9, hh, hi, w⟩ := w
  refine V_iast X dX12_ticks_192 hh hi ?_
  generalize va_up _ _ _ = h9 at w ⊢
  refine V_aloadr_n X dX12_ticks_193 3 rfl ?_
  obtain ⟨fs, hh, w⟩ := w
  refine V_callVl (As := []) (rest := []) (k1 := 0) (n1 := 0) X (cX12_shareOfTarget_ok X.2.2.2.2.2.2.2.2.1 w) lkX12_275 hh (q9 := (RX12, TX12, 42)) rfl rfl dX12_ticks_194 ⟨Nat.le_of_ble_eq_true rfl, Nat.le_of_ble_eq_true rfl⟩ rfl (Nat.le_of_ble_eq_true rfl) ⟨Nat.le_of_ble_eq_true rfl, Nat.le_of_ble_eq_true rfl⟩ (Nat.le_of_ble_eq_true rfl) (Nat.le_of_ble_eq_true rfl) (fun x11 h10 w9 => ?_)
  replace w := w9
  clear w9
  refine V_lstore X dX12_ticks_197 (by decide) rfl ?_
  refine V_aloadr_n X dX12_ticks_199 4 rfl ?_
  obtain ⟨fs, r12, hh, hv, w⟩ := w
  refine V_get X flX12_7 dX12_ticks_200 hh hv ?_
  refine V_bipush (y := 10) X dX12_ticks_203 (by decide) ?_
  obtain ⟨a13, rfl, w⟩ := w
  obtain ⟨N9, g9, hh, hi, w⟩ := w
  refine V_iald X dX12_ticks_205 hh hi ?_
  generalize g9 _ = x14 at w ⊢
  refine V_aloadr_n X dX12_ticks_206 4 rfl ?_
  refine V_aloadr_n X dX12_ticks_207 4 rfl ?_
  obtain ⟨fs, r15, hh, hv, w⟩ := w
  refine V_get X flX12_7 dX12_ticks_208 hh hv ?_
  refine V_bipush (y := 9) X dX12_ticks_211 (by decide) ?_
  obtain ⟨a16, rfl, w⟩ := w
  obtain ⟨N9, g9, hh, hi, w⟩ := w
  refine V_iald X dX12_ticks_213 hh hi ?_
  generalize g9 _ = x17 at w ⊢
  refine V_iconst (y := 2) X dX12_ticks_214 (by decide) ?_
  obtain ⟨fs, hh, w⟩ := w
  refine V_callVi (As := [.int x17, .int 2]) (rest := [.int x14]) (k1 := 0) (n1 := 0) X (cX12_of_ok X.2.2.2.2.2.2.2.2.1 w) lkX12_177 hh (q9 := (RX12, TX12, 42)) rfl rfl dX12_ticks_215 ⟨Nat.le_of_ble_eq_true rfl, Nat.le_of_ble_eq_true rfl⟩ rfl (Nat.le_of_ble_eq_true rfl) ⟨Nat.le_of_ble_eq_true rfl, Nat.le_of_ble_eq_true rfl⟩ (Nat.le_of_ble_eq_true rfl) (Nat.le_of_ble_eq_true rfl) (fun x19 h18 w9 => ?_)
  replace w := w9
  clear w9
  obtain ⟨w1, w2⟩ := w
  refine V_icmp_ne (tgt := 225) X dX12_ticks_218 (by decide) (fun z => ?_) (fun z => ?_)
  · replace w := w1 z
    clear w1 w2
    exact V.sub [4, 5, 6, 7, 8, 9, 10, 3, 2, 1, 0] rfl (tX12_ticks_b225 X  w)
  · replace w := w2 z
    clear w1 w2
    refine V_aloadr_n X dX12_ticks_221 4 rfl ?_
    obtain ⟨fs, hh, w⟩ := w
    refine V_callVv (As := []) (rest := []) (k1 := 0) (n1 := 0) X (cX12_ends_ok X.2.2.2.2.2.2.2.2.1 w) lkX12_330 hh (q9 := (RX12, TX12, 42)) rfl rfl dX12_ticks_222 ⟨Nat.le_of_ble_eq_true rfl, Nat.le_of_ble_eq_true rfl⟩ rfl (Nat.le_of_ble_eq_true rfl) ⟨Nat.le_of_ble_eq_true rfl, Nat.le_of_ble_eq_true rfl⟩ (Nat.le_of_ble_eq_true rfl) (Nat.le_of_ble_eq_true rfl) (fun h20 w9 => ?_)
    replace w := w9
    clear w9
    exact V.sub [4, 5, 6, 7, 8, 9, 10, 3, 2, 1, 0] rfl (tX12_ticks_b225 X  w)
def vX12_ticks_b95  (Qn : gH → Prop) (h : gH) (v0 : Nat) (v1 : Int32) (v2 : Int32) (v3 : Int64) (v5 : Int64) (v7 : Int32) (s0 : Int32) : Prop := gr h v0 15 0 (fun r1 => nn r1 (fun a2 => li h a2 8 (fun x3 => ((¬ (x3 : Int32) = 0) → (gr h v0 15 0 (fun r4 => nn r4 (fun a5 => li h a5 20 (fun x6 => ((¬ (x6 : Int32) = 0) → (vX12_ticks_b160  Qn h v0 v1 v2 v3 v5 v7 s0 0)) ∧ (((x6 : Int32) = 0) → (vX12_ticks_b160  Qn h v0 v1 v2 v3 v5 v7 s0 1))))))) ∧ (((x3 : Int32) = 0) → (io h v0 15 (vX12_stepOf (fun x8 h7 => io h7 v0 15 (vX12_advances (fun h9 => io h9 v0 15 (vX12_progressOf (fun x11 h10 => gr h10 v0 15 0 (fun r12 => nn r12 (fun a13 => li h10 a13 287 (fun x14 => io h10 v0 15 (vX12_fires (fun h15 => Qn h15) h10 v0 v1 v3 v7 x11 1000000 x14))))) h9 v0 12)) h7 v0 12 x8)) h v0 12))))))
set_option maxRecDepth 100000 in
set_option maxHeartbeats 4000000 in
theorem tX12_ticks_b95 {p : Program} {l : Launch} {e : Env} {s : State} {m : MethodId} {args : Array Value} {below : List Frame} {meth : Method} {c : Code} {G : gG} {A : Nat → Prop} {Qn : gH → Prop} (X : gC p l s m args meth c G A cX12_ticks 16 none RX12)   {h : gH} {v0 : Nat} {v1 : Int32} {v2 : Int32} {v3 : Int64} {v5 : Int64} {v7 : Int32} {s0 : Int32} (w : vX12_ticks_b95  Qn h v0 v1 v2 v3 v5 v7 s0) : V p l e rmX12_ticks s m args below meth c (MQ below (va_Qv Qn (gB G A) A) args s rmX12_ticks.cells rmX12_ticks.slots A) G A 16 h 0 0 95 [(0, .ref v0), (1, .int v1), (2, .int v2), (3, .long v3), (5, .long v5), (7, .int v7)] [.int s0] := by
  refine V_istore X dX12_ticks_95 (by decide) rfl ?_
  refine V_aloadr_n X dX12_ticks_97 1 rfl ?_
  obtain ⟨fs, r1, hh, hv, w⟩ := w
  refine V_get X flX12_7 dX12_ticks_98 hh hv ?_
  refine V_bipush (y := 8) X dX12_ticks_101 (by decide) ?_
  obtain ⟨a2, rfl, w⟩ := w
  obtain ⟨N9, g9, hh, hi, w⟩ := w
  refine V_iald X dX12_ticks_103 hh hi ?_
  generalize g9 _ = x3 at w ⊢
  obtain ⟨w1, w2⟩ := w
  refine V_if_ne (tgt := 145) X dX12_ticks_104 (by decide) (fun z => ?_) (fun z => ?_)
  · replace w := w1 z
    clear w1 w2
    refine V_aloadr_n X dX12_ticks_145 1 rfl ?_
    obtain ⟨fs, r4, hh, hv, w⟩ := w
    refine V_get X flX12_7 dX12_ticks_146 hh hv ?_
    refine V_bipush (y := 20) X dX12_ticks_149 (by decide) ?_
    obtain ⟨a5, rfl, w⟩ := w
    obtain ⟨N9, g9, hh, hi, w⟩ := w
    refine V_iald X dX12_ticks_151 hh hi ?_
    generalize g9 _ = x6 at w ⊢
    obtain ⟨w1, w2⟩ := w
    refine V_if_ne (tgt := 159) X dX12_ticks_152 (by decide) (fun z => ?_) (fun z => ?_)
    · replace w := w1 z
      clear w1 w2
      refine V_iconst (y := 0) X dX12_ticks_159 (by decide) ?_
      exact V.sub [1, 2, 3, 4, 5, 6, 0] rfl (tX12_ticks_b160 X  w)
    · replace w := w2 z
      clear w1 w2
      refine V_iconst (y := 1) X dX12_ticks_155 (by decide) ?_
      refine V_goto (tgt := 160) X dX12_ticks_156 (by decide) ?_
      exact V.sub [1, 2, 3, 4, 5, 6, 0] rfl (tX12_ticks_b160 X  w)
  · replace w := w2 z
    clear w1 w2
    refine V_aloadr_n X dX12_ticks_107 1 rfl ?_
    refine V_bipush (y := 12) X dX12_ticks_108 (by decide) ?_
    refine V_aloadr_n X dX12_ticks_110 1 rfl ?_
    refine V_bipush (y := 12) X dX12_ticks_111 (by decide) ?_
    obtain ⟨fs, hh, w⟩ := w
    refine V_callVl (As := [.int 12]) (rest := [.int 12, .ref v0]) (k1 := 0) (n1 := 0) X (cX12_stepOf_ok X.2.2.2.2.2.2.2.2.1 w) lkX12_343 hh (q9 := (RX12, TX12, 42)) rfl rfl dX12_ticks_113 ⟨Nat.le_of_ble_eq_true rfl, Nat.le_of_ble_eq_true rfl⟩ rfl (Nat.le_of_ble_eq_true rfl) ⟨Nat.le_of_ble_eq_true rfl, Nat.le_of_ble_eq_true rfl⟩ (Nat.le_of_ble_eq_true rfl) (Nat.le_of_ble_eq_true rfl) (fun x8 h7 w9 => ?_)
    replace w := w9
    clear w9
    obtain ⟨fs, hh, w⟩ := w
    refine V_callVv (As := [.int 12, .long x8]) (rest := []) (k1 := 0) (n1 := 0) X (cX12_advances_ok X.2.2.2.2.2.2.2.2.1 w) lkX12_346 hh (q9 := (RX12, TX12, 42)) rfl rfl dX12_ticks_116 ⟨Nat.le_of_ble_eq_true rfl, Nat.le_of_ble_eq_true rfl⟩ rfl (Nat.le_of_ble_eq_true rfl) ⟨Nat.le_of_ble_eq_true rfl, Nat.le_of_ble_eq_true rfl⟩ (Nat.le_of_ble_eq_true rfl) (Nat.le_of_ble_eq_true rfl) (fun h9 w9 => ?_)
    replace w := w9
    clear w9
    refine V_aloadr_n X dX12_ticks_119 1 rfl ?_
    refine V_iload_n X dX12_ticks_120 2 rfl ?_
    refine V_lload_n X dX12_ticks_121 4 rfl ?_
    refine V_iload X dX12_ticks_122 6 rfl ?_
    refine V_aloadr_n X dX12_ticks_124 1 rfl ?_
    refine V_bipush (y := 12) X dX12_ticks_125 (by decide) ?_
    obtain ⟨fs, hh, w⟩ := w
    refine V_callVl (As := [.int 12]) (rest := [.int v7, .long v3, .int v1, .ref v0]) (k1 := 0) (n1 := 0) X (cX12_progressOf_ok X.2.2.2.2.2.2.2.2.1 w) lkX12_257 hh (q9 := (RX12, TX12, 42)) rfl rfl dX12_ticks_127 ⟨Nat.le_of_ble_eq_true rfl, Nat.le_of_ble_eq_true rfl⟩ rfl (Nat.le_of_ble_eq_true rfl) ⟨Nat.le_of_ble_eq_true rfl, Nat.le_of_ble_eq_true rfl⟩ (Nat.le_of_ble_eq_true rfl) (Nat.le_of_ble_eq_true rfl) (fun x11 h10 w9 => ?_)
    replace w := w9
    clear w9
    refine V_ldc2 (y := 1000000) X dX12_ticks_130 kw_1930 ?_
    refine V_aloadr_n X dX12_ticks_133 1 rfl ?_
    obtain ⟨fs, r12, hh, hv, w⟩ := w
    refine V_get X flX12_7 dX12_ticks_134 hh hv ?_
    refine V_sipush (y := 287) X dX12_ticks_137 (by decide) ?_
    obtain ⟨a13, rfl, w⟩ := w
    obtain ⟨N9, g9, hh, hi, w⟩ := w
    refine V_iald X dX12_ticks_140 hh hi ?_
    generalize g9 _ = x14 at w ⊢
    obtain ⟨fs, hh, w⟩ := w
    refine V_callVv (As := [.int v1, .long v3, .int v7, .long x11, .long 1000000, .int x14]) (rest := []) (k1 := 0) (n1 := 0) X (cX12_fires_ok X.2.2.2.2.2.2.2.2.1 w) lkX12_349 hh (q9 := (RX12, TX12, 42)) rfl rfl dX12_ticks_141 ⟨Nat.le_of_ble_eq_true rfl, Nat.le_of_ble_eq_true rfl⟩ rfl (Nat.le_of_ble_eq_true rfl) ⟨Nat.le_of_ble_eq_true rfl, Nat.le_of_ble_eq_true rfl⟩ (Nat.le_of_ble_eq_true rfl) (Nat.le_of_ble_eq_true rfl) (fun h15 w9 => ?_)
    replace w := w9
    clear w9
    exact V_vret X rfl dX12_ticks_144 (Nat.le_of_ble_eq_true rfl) (Nat.le_of_ble_eq_true rfl) w
def vX12_ticks_b77  (Qn : gH → Prop) (h : gH) (v0 : Nat) (v1 : Int32) (v2 : Int32) (v3 : Int64) (v5 : Int64) (s0 : Int32) : Prop := gr h v0 15 0 (fun r1 => nn r1 (fun a2 => li h a2 19 (fun x3 => ((¬ (x3 : Int32) = 1) → (vX12_ticks_b95  Qn h v0 v1 v2 v3 v5 s0 0)) ∧ (((x3 : Int32) = 1) → (vX12_ticks_b95  Qn h v0 v1 v2 v3 v5 s0 1)))))
set_option maxRecDepth 100000 in
set_option maxHeartbeats 4000000 in
theorem tX12_ticks_b77 {p : Program} {l : Launch} {e : Env} {s : State} {m : MethodId} {args : Array Value} {below : List Frame} {meth : Method} {c : Code} {G : gG} {A : Nat → Prop} {Qn : gH → Prop} (X : gC p l s m args meth c G A cX12_ticks 16 none RX12)   {h : gH} {v0 : Nat} {v1 : Int32} {v2 : Int32} {v3 : Int64} {v5 : Int64} {s0 : Int32} (w : vX12_ticks_b77  Qn h v0 v1 v2 v3 v5 s0) : V p l e rmX12_ticks s m args below meth c (MQ below (va_Qv Qn (gB G A) A) args s rmX12_ticks.cells rmX12_ticks.slots A) G A 16 h 0 0 77 [(0, .ref v0), (1, .int v1), (2, .int v2), (3, .long v3), (5, .long v5)] [.int s0] := by
  refine V_istore X dX12_ticks_77 (by decide) rfl ?_
  refine V_aloadr_n X dX12_ticks_79 1 rfl ?_
  obtain ⟨fs, r1, hh, hv, w⟩ := w
  refine V_get X flX12_7 dX12_ticks_80 hh hv ?_
  refine V_bipush (y := 19) X dX12_ticks_83 (by decide) ?_
  obtain ⟨a2, rfl, w⟩ := w
  obtain ⟨N9, g9, hh, hi, w⟩ := w
  refine V_iald X dX12_ticks_85 hh hi ?_
  generalize g9 _ = x3 at w ⊢
  refine V_iconst (y := 1) X dX12_ticks_86 (by decide) ?_
  obtain ⟨w1, w2⟩ := w
  refine V_icmp_ne (tgt := 94) X dX12_ticks_87 (by decide) (fun z => ?_) (fun z => ?_)
  · replace w := w1 z
    clear w1 w2
    refine V_iconst (y := 0) X dX12_ticks_94 (by decide) ?_
    exact V.sub [1, 2, 3, 4, 5, 0] rfl (tX12_ticks_b95 X  w)
  · replace w := w2 z
    clear w1 w2
    refine V_iconst (y := 1) X dX12_ticks_90 (by decide) ?_
    refine V_goto (tgt := 95) X dX12_ticks_91 (by decide) ?_
    exact V.sub [1, 2, 3, 4, 5, 0] rfl (tX12_ticks_b95 X  w)
def vX12_ticks_b14_o (k14 : gH → Nat → Int32 → Prop) (Qn : gH → Prop) (h : gH) (v0 : Nat) (v1 : Int32) : Prop := ((4 ≤ (v1 : Int32)) → (gr h v0 15 0 (fun r1 => nn r1 (fun a2 => li h a2 12 (fun x3 => gr h v0 15 0 (fun r4 => nn r4 (fun a5 => li h a5 16 (fun x6 => io h v0 15 (vX12_progressOf (fun x8 h7 => io h7 v0 15 (vX12_progressOf (fun x10 h9 => gr h9 v0 15 0 (fun r11 => nn r11 (fun a12 => li h9 a12 15 (fun x13 => ((¬ (x13 : Int32) = 1) → (vX12_ticks_b77  Qn h9 v0 x3 x6 x8 x10 0)) ∧ (((x13 : Int32) = 1) → (vX12_ticks_b77  Qn h9 v0 x3 x6 x8 x10 1)))))) h7 v0 16)) h v0 12))))))))) ∧ ((¬ 4 ≤ (v1 : Int32)) → (io h v0 15 (vX12_takes (fun x15 h14 => k14 h14 v0 (v1 + 1)) h v0 )))
set_option maxRecDepth 100000 in
set_option maxHeartbeats 4000000 in
theorem tX12_ticks_b14_o {p : Program} {l : Launch} {e : Env} {s : State} {m : MethodId} {args : Array Value} {below : List Frame} {meth : Method} {c : Code} {G : gG} {A : Nat → Prop} {Qn : gH → Prop} (X : gC p l s m args meth c G A cX12_ticks 16 none RX12) {k14 : gH → Nat → Int32 → Prop} (H14 : ∀ (h : gH) (v0 : Nat) (v1 : Int32), k14 h v0 v1 → V p l e rmX12_ticks s m args below meth c (MQ below (va_Qv Qn (gB G A) A) args s rmX12_ticks.cells rmX12_ticks.slots A) G A 16 h 0 0 14 [(0, .ref v0), (1, .int v1)] []) {h : gH} {v0 : Nat} {v1 : Int32} (w : vX12_ticks_b14_o k14 Qn h v0 v1) : V p l e rmX12_ticks s m args below meth c (MQ below (va_Qv Qn (gB G A) A) args s rmX12_ticks.cells rmX12_ticks.slots A) G A 16 h 0 0 14 [(0, .ref v0), (1, .int v1)] [] := by
  refine V_iload_n X dX12_ticks_14 1 rfl ?_
  refine V_iconst (y := 4) X dX12_ticks_15 (by decide) ?_
  obtain ⟨w1, w2⟩ := w
  refine V_icmp_ge (tgt := 30) X dX12_ticks_16 (by decide) (fun z => ?_) (fun z => ?_)
  · replace w := w1 z
    clear w1 w2
    refine V_aloadr_n X dX12_ticks_30 0 rfl ?_
    obtain ⟨fs, r1, hh, hv, w⟩ := w
    refine V_get X flX12_7 dX12_ticks_31 hh hv ?_
    refine V_bipush (y := 12) X dX12_ticks_34 (by decide) ?_
    obtain ⟨a2, rfl, w⟩ := w
    obtain ⟨N9, g9, hh, hi, w⟩ := w
    refine V_iald X dX12_ticks_36 hh hi ?_
    generalize g9 _ = x3 at w ⊢
    refine V_istore_n X dX12_ticks_37 rfl (by decide) rfl ?_
    refine V_aloadr_n X dX12_ticks_38 1 rfl ?_
    obtain ⟨fs, r4, hh, hv, w⟩ := w
    refine V_get X flX12_7 dX12_ticks_39 hh hv ?_
    refine V_bipush (y := 16) X dX12_ticks_42 (by decide) ?_
    obtain ⟨a5, rfl, w⟩ := w
    obtain ⟨N9, g9, hh, hi, w⟩ := w
    refine V_iald X dX12_ticks_44 hh hi ?_
    generalize g9 _ = x6 at w ⊢
    refine V_istore_n X dX12_ticks_45 rfl (by decide) rfl ?_
    refine V_aloadr_n X dX12_ticks_46 2 rfl ?_
    refine V_bipush (y := 12) X dX12_ticks_47 (by decide) ?_
    obtain ⟨fs, hh, w⟩ := w
    refine V_callVl (As := [.int 12]) (rest := []) (k1 := 0) (n1 := 0) X (cX12_progressOf_ok X.2.2.2.2.2.2.2.2.1 w) lkX12_257 hh (q9 := (RX12, TX12, 42)) rfl rfl dX12_ticks_49 ⟨Nat.le_of_ble_eq_true rfl, Nat.le_of_ble_eq_true rfl⟩ rfl (Nat.le_of_ble_eq_true rfl) ⟨Nat.le_of_ble_eq_true rfl, Nat.le_of_ble_eq_true rfl⟩ (Nat.le_of_ble_eq_true rfl) (Nat.le_of_ble_eq_true rfl) (fun x8 h7 w9 => ?_)
    replace w := w9
    clear w9
    refine V_lstore_n X dX12_ticks_52 rfl (by decide) rfl ?_
    refine V_aloadr_n X dX12_ticks_53 3 rfl ?_
    refine V_bipush (y := 16) X dX12_ticks_54 (by decide) ?_
    obtain ⟨fs, hh, w⟩ := w
    refine V_callVl (As := [.int 16]) (rest := []) (k1 := 0) (n1 := 0) X (cX12_progressOf_ok X.2.2.2.2.2.2.2.2.1 w) lkX12_257 hh (q9 := (RX12, TX12, 42)) rfl rfl dX12_ticks_56 ⟨Nat.le_of_ble_eq_true rfl, Nat.le_of_ble_eq_true rfl⟩ rfl (Nat.le_of_ble_eq_true rfl) ⟨Nat.le_of_ble_eq_true rfl, Nat.le_of_ble_eq_true rfl⟩ (Nat.le_of_ble_eq_true rfl) (Nat.le_of_ble_eq_true rfl) (fun x10 h9 w9 => ?_)
    replace w := w9
    clear w9
    refine V_lstore X dX12_ticks_59 (by decide) rfl ?_
    refine V_aloadr_n X dX12_ticks_61 4 rfl ?_
    obtain ⟨fs, r11, hh, hv, w⟩ := w
    refine V_get X flX12_7 dX12_ticks_62 hh hv ?_
    refine V_bipush (y := 15) X dX12_ticks_65 (by decide) ?_
    obtain ⟨a12, rfl, w⟩ := w
    obtain ⟨N9, g9, hh, hi, w⟩ := w
    refine V_iald X dX12_ticks_67 hh hi ?_
    generalize g9 _ = x13 at w ⊢
    refine V_iconst (y := 1) X dX12_ticks_68 (by decide) ?_
    obtain ⟨w1, w2⟩ := w
    refine V_icmp_ne (tgt := 76) X dX12_ticks_69 (by decide) (fun z => ?_) (fun z => ?_)
    · replace w := w1 z
      clear w1 w2
      refine V_iconst (y := 0) X dX12_ticks_76 (by decide) ?_
      exact V.sub [4, 3, 2, 1, 0] rfl (tX12_ticks_b77 X  w)
    · replace w := w2 z
      clear w1 w2
      refine V_iconst (y := 1) X dX12_ticks_72 (by decide) ?_
      refine V_goto (tgt := 77) X dX12_ticks_73 (by decide) ?_
      exact V.sub [4, 3, 2, 1, 0] rfl (tX12_ticks_b77 X  w)
  · replace w := w2 z
    clear w1 w2
    refine V_aloadr_n X dX12_ticks_19 0 rfl ?_
    obtain ⟨fs, hh, w⟩ := w
    refine V_callVi (As := []) (rest := []) (k1 := 0) (n1 := 0) X (cX12_takes_ok X.2.2.2.2.2.2.2.2.1 w) lkX12_340 hh (q9 := (RX12, TX12, 42)) rfl rfl dX12_ticks_20 ⟨Nat.le_of_ble_eq_true rfl, Nat.le_of_ble_eq_true rfl⟩ rfl (Nat.le_of_ble_eq_true rfl) ⟨Nat.le_of_ble_eq_true rfl, Nat.le_of_ble_eq_true rfl⟩ (Nat.le_of_ble_eq_true rfl) (Nat.le_of_ble_eq_true rfl) (fun x15 h14 w9 => ?_)
    replace w := w9
    clear w9
    refine V_istore_n X dX12_ticks_23 rfl (by decide) rfl ?_
    refine V_iinc (y := (v1 + 1)) X dX12_ticks_24 2 rfl (by first | rfl | (congr 1)) (by decide) rfl ?_
    refine V_goto (tgt := 14) X dX12_ticks_27 (by decide) ?_
    exact V.sub [2, 0] rfl (H14 _ _ _ w)
def vX12_ticks_b14  (Qn : gH → Prop) (n : Nat) : gH → Nat → Int32 → Prop := Nat.rec (motive := fun _ => gH → Nat → Int32 → Prop) (fun _ _ _ => False) (fun _ k14 => vX12_ticks_b14_o k14 Qn) n
theorem tX12_ticks_b14 {p : Program} {l : Launch} {e : Env} {s : State} {m : MethodId} {args : Array Value} {below : List Frame} {meth : Method} {c : Code} {G : gG} {A : Nat → Prop} {Qn : gH → Prop} (X : gC p l s m args meth c G A cX12_ticks 16 none RX12)   : ∀ (n : Nat) (h : gH) (v0 : Nat) (v1 : Int32) (w : vX12_ticks_b14  Qn n h v0 v1), V p l e rmX12_ticks s m args below meth c (MQ below (va_Qv Qn (gB G A) A) args s rmX12_ticks.cells rmX12_ticks.slots A) G A 16 h 0 0 14 [(0, .ref v0), (1, .int v1)] [] := by
  intro n
  induction n with
  | zero => intro h v0 v1 w; exact False.elim w
  | succ n ih => intro h v0 v1 w; exact tX12_ticks_b14_o X ih w
def vX12_ticks  (Qn : gH → Prop) (h : gH) (v0 : Nat) : Prop := gr h v0 15 0 (fun r1 => nn r1 (fun a2 => li h a2 287 (fun x3 => si h a2 287 (x3 + 1) (fun h4 => ∃ n : Nat, vX12_ticks_b14  Qn n h4 v0 0))))
set_option maxRecDepth 100000 in
set_option maxHeartbeats 4000000 in
theorem tX12_ticks {p : Program} {l : Launch} {e : Env} {s : State} {m : MethodId} {args : Array Value} {below : List Frame} {meth : Method} {c : Code} {G : gG} {A : Nat → Prop} {Qn : gH → Prop} (X : gC p l s m args meth c G A cX12_ticks 16 none RX12)   {h : gH} {v0 : Nat} (w : vX12_ticks  Qn h v0) : V p l e rmX12_ticks s m args below meth c (MQ below (va_Qv Qn (gB G A) A) args s rmX12_ticks.cells rmX12_ticks.slots A) G A 16 h 0 0 0 [(0, .ref v0)] [] := by
  refine V_aloadr_n X dX12_ticks_0 0 rfl ?_
  obtain ⟨fs, r1, hh, hv, w⟩ := w
  refine V_get X flX12_7 dX12_ticks_1 hh hv ?_
  refine V_sipush (y := 287) X dX12_ticks_4 (by decide) ?_
  refine V_dup2 X dX12_ticks_7 rfl (va_cat1 _) ?_
  obtain ⟨a2, rfl, w⟩ := w
  obtain ⟨N9, g9, hh, hi, w⟩ := w
  refine V_iald X dX12_ticks_8 hh hi ?_
  generalize g9 _ = x3 at w ⊢
  refine V_iconst (y := 1) X dX12_ticks_9 (by decide) ?_
  refine V_iadd X dX12_ticks_10 ?_
  obtain ⟨N9, g9, hh, hi, w⟩ := w
  refine V_iast X dX12_ticks_11 hh hi ?_
  generalize va_up _ _ _ = h4 at w ⊢
  refine V_iconst (y := 0) X dX12_ticks_12 (by decide) ?_
  refine V_istore_n X dX12_ticks_13 rfl (by decide) rfl ?_
  obtain ⟨n9, w⟩ := w
  exact V.sub [1, 0] rfl (tX12_ticks_b14 X  n9 _ _ _ w)
theorem cX12_ticks_ok {l : Launch} {G : gG} {h : gH} (hls : l.stackTraces = false) {Qn : gH → Prop} {v0 : Nat} (w : vX12_ticks Qn h v0) : gMv l yX12_ticks cX12_ticks 16 none rmX12_ticks rmX12_ticks.cells rmX12_ticks.slots G h [.ref v0] Qn := by
  exact gMv.of (by decide +kernel) hls (Nat.le_of_ble_eq_true rfl) rfl rfl (fun p e s m below meth c A X hnm => tX12_ticks X w)
