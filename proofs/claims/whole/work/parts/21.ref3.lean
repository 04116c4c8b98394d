/-! AnimationControllerModel.sets(II)V -/
abbrev rmX12_sets : Room := { frames := 0, cells := 0, slots := 0, locals := 0 }
def vX12_sets_b31  (Qn : gH → Prop) (h : gH)  : Prop := Qn h
set_option maxRecDepth 100000 in
set_option maxHeartbeats 4000000 in
theorem tX12_sets_b31 {p : Program} {l : Launch} {e : Env} {s : State} {m : MethodId} {args : Array Value} {below : List Frame} {meth : Method} {c : Code} {G : gG} {A : Nat → Prop} {Qn : gH → Prop} (X : gC p l s m args meth c G A cX12_sets 3 none RX12)   {h : gH}  (w : vX12_sets_b31  Qn h ) : V p l e rmX12_sets s m args below meth c (MQ below (va_Qv Qn (gB G A) A) args s rmX12_sets.cells rmX12_sets.slots A) G A 3 h 0 0 31 [] [] := by
  exact V_vret X rfl dX12_sets_31 (Nat.le_of_ble_eq_true rfl) (Nat.le_of_ble_eq_true rfl) w
def vX12_sets  (Qn : gH → Prop) (h : gH) (v0 : Nat) (v1 : Int32) (v2 : Int32) : Prop := gi h v0 15 31 (fun x1 => (((x1 : Int32) = 0) → (vX12_sets_b31  Qn h )) ∧ ((¬ (x1 : Int32) = 0) → (gi h v0 15 32 (fun x2 => (((x2 : Int32) = 0) → (vX12_sets_b31  Qn h )) ∧ ((¬ (x2 : Int32) = 0) → (gr h v0 15 20 (fun r3 => gi h v0 15 21 (fun x4 => nn r3 (fun a5 => si h a5 ((17 * (x4 - 1)) + v1) v2 (fun h6 => vX12_sets_b31  Qn h6 ))))))))))
set_option maxRecDepth 100000 in
set_option maxHeartbeats 4000000 in
theorem tX12_sets {p : Program} {l : Launch} {e : Env} {s : State} {m : MethodId} {args : Array Value} {below : List Frame} {meth : Method} {c : Code} {G : gG} {A : Nat → Prop} {Qn : gH → Prop} (X : gC p l s m args meth c G A cX12_sets 3 none RX12)   {h : gH} {v0 : Nat} {v1 : Int32} {v2 : Int32} (w : vX12_sets  Qn h v0 v1 v2) : V p l e rmX12_sets s m args below meth c (MQ below (va_Qv Qn (gB G A) A) args s rmX12_sets.cells rmX12_sets.slots A) G A 3 h 0 0 0 [(0, .ref v0), (1, .int v1), (2, .int v2)] [] := by
  refine V_aloadr_n X dX12_sets_0 0 rfl ?_
  obtain ⟨fs, x1, hh, hv, w⟩ := w
  refine V_get X flX12_197 dX12_sets_1 hh hv ?_
  obtain ⟨w1, w2⟩ := w
  refine V_if_eq (tgt := 31) X dX12_sets_4 (by decide) (fun z => ?_) (fun z => ?_)
  · replace w := w1 z
    clear w1 w2
    exact V.sub [] rfl (tX12_sets_b31 X  w)
  · replace w := w2 z
    clear w1 w2
    refine V_aloadr_n X dX12_sets_7 0 rfl ?_
    obtain ⟨fs, x2, hh, hv, w⟩ := w
    refine V_get X flX12_211 dX12_sets_8 hh hv ?_
    obtain ⟨w1, w2⟩ := w
    refine V_if_eq (tgt := 31) X dX12_sets_11 (by decide) (fun z => ?_) (fun z => ?_)
    · replace w := w1 z
      clear w1 w2
      exact V.sub [] rfl (tX12_sets_b31 X  w)
    · replace w := w2 z
      clear w1 w2
      refine V_aloadr_n X dX12_sets_14 0 rfl ?_
      obtain ⟨fs, r3, hh, hv, w⟩ := w
      refine V_get X flX12_59 dX12_sets_15 hh hv ?_
      refine V_bipush (y := 17) X dX12_sets_18 (by decide) ?_
      refine V_aloadr_n X dX12_sets_20 0 rfl ?_
      obtain ⟨fs, x4, hh, hv, w⟩ := w
      refine V_get X flX12_159 dX12_sets_21 hh hv ?_
      refine V_iconst (y := 1) X dX12_sets_24 (by decide) ?_
      refine V_isub X dX12_sets_25 ?_
      refine V_imul X dX12_sets_26 ?_
      refine V_iload_n X dX12_sets_27 1 rfl ?_
      refine V_iadd X dX12_sets_28 ?_
      refine V_iload_n X dX12_sets_29 2 rfl ?_
      obtain ⟨a5, rfl, w⟩ := w
      obtain ⟨N9, g9, hh, hi, w⟩ := w
      refine V_iast X dX12_sets_30 hh hi ?_
      generalize va_up _ _ _ = h6 at w ⊢
      exact V.sub [] rfl (tX12_sets_b31 X  w)
theorem cX12_sets_ok {l : Launch} {G : gG} {h : gH} (hls : l.stackTraces = false) {Qn : gH → Prop} {v0 : Nat} {v1 : Int32} {v2 : Int32} (w : vX12_sets Qn h v0 v1 v2) : gMv l yX12_sets cX12_sets 3 none rmX12_sets rmX12_sets.cells rmX12_sets.slots G h [.ref v0, .int v1, .int v2] Qn := by
  exact gMv.of (by decide +kernel) hls (Nat.le_of_ble_eq_true rfl) rfl rfl (fun p e s m below meth c A X hnm => tX12_sets X w)
/-! AnimationControllerModel.readsAttribute()V -/
abbrev rmX12_readsAttribute : Room := { frames := 3, cells := 0, slots := 0, locals := 74 }
def vX12_readsAttribute_b240  (Qn : gH → Prop) (h : gH)  : Prop := Qn h
set_option maxRecDepth 100000 in
set_option maxHeartbeats 4000000 in
theorem tX12_readsAttribute_b240 {p : Program} {l : Launch} {e : Env} {s : State} {m : MethodId} {args : Array Value} {below : List Frame} {meth : Method} {c : Code} {G : gG} {A : Nat → Prop} {Qn : gH → Prop} (X : gC p l s m args meth c G A cX12_readsAttribute 2 none RX12)   {h : gH}  (w : vX12_readsAttribute_b240  Qn h ) : V p l e rmX12_readsAttribute s m args below meth c (MQ below (va_Qv Qn (gB G A) A) args s rmX12_readsAttribute.cells rmX12_readsAttribute.slots A) G A 2 h 0 0 240 [] [] := by
  exact V_vret X rfl dX12_readsAttribute_240 (Nat.le_of_ble_eq_true rfl) (Nat.le_of_ble_eq_true rfl) w
def vX12_readsAttribute_b233  (Qn : gH → Prop) (h : gH) (v0 : Nat) (s0 : Int32) (s1 : Nat) : Prop := gi h v0 15 33 (fun x1 => io h s1 15 (vX12_sets (fun h2 => vX12_readsAttribute_b240  Qn h2 ) h s1 s0 x1))
set_option maxRecDepth 100000 in
set_option maxHeartbeats 4000000 in
theorem tX12_readsAttribute_b233 {p : Program} {l : Launch} {e : Env} {s : State} {m : MethodId} {args : Array Value} {below : List Frame} {meth : Method} {c : Code} {G : gG} {A : Nat → Prop} {Qn : gH → Prop} (X : gC p l s m args meth c G A cX12_readsAttribute 2 none RX12)   {h : gH} {v0 : Nat} {s0 : Int32} {s1 : Nat} (w : vX12_readsAttribute_b233  Qn h v0 s0 s1) : V p l e rmX12_readsAttribute s m args below meth c (MQ below (va_Qv Qn (gB G A) A) args s rmX12_readsAttribute.cells rmX12_readsAttribute.slots A) G A 2 h 0 0 233 [(0, .ref v0)] [.int s0, .ref s1] := by
  refine V_aloadr_n X dX12_readsAttribute_233 0 rfl ?_
  obtain ⟨fs, x1, hh, hv, w⟩ := w
  refine V_get X flX12_208 dX12_readsAttribute_234 hh hv ?_
  obtain ⟨fs, hh, w⟩ := w
  refine V_callVv (As := [.int s0, .int x1]) (rest := []) (k1 := 0) (n1 := 0) X (cX12_sets_ok X.2.2.2.2.2.2.2.2.1 w) lkX12_240 hh (q9 := (RX12, TX12, 42)) rfl rfl dX12_readsAttribute_237 ⟨Nat.le_of_ble_eq_true rfl, Nat.le_of_ble_eq_true rfl⟩ rfl (Nat.le_of_ble_eq_true rfl) ⟨Nat.le_of_ble_eq_true rfl, Nat.le_of_ble_eq_true rfl⟩ (Nat.le_of_ble_eq_true rfl) (Nat.le_of_ble_eq_true rfl) (fun h2 w9 => ?_)
  replace w := w9
  clear w9
  exact V.sub [] rfl (tX12_readsAttribute_b240 X  w)
def vX12_readsAttribute_b211  (Qn : gH → Prop) (h : gH) (v0 : Nat) (v1 : Int32) (s0 : Int32) (s1 : Nat) : Prop := io h s1 15 (vX12_readsNumber (fun h1 => ((¬ (v1 : Int32) = 0) → (((¬ (v1 : Int32) = 1) → (vX12_readsAttribute_b233  Qn h1 v0 5 v0)) ∧ (((v1 : Int32) = 1) → (vX12_readsAttribute_b233  Qn h1 v0 4 v0)))) ∧ (((v1 : Int32) = 0) → (vX12_readsAttribute_b233  Qn h1 v0 3 v0))) h s1 s0)
set_option maxRecDepth 100000 in
set_option maxHeartbeats 4000000 in
theorem tX12_readsAttribute_b211 {p : Program} {l : Launch} {e : Env} {s : State} {m : MethodId} {args : Array Value} {below : List Frame} {meth : Method} {c : Code} {G : gG} {A : Nat → Prop} {Qn : gH → Prop} (X : gC p l s m args meth c G A cX12_readsAttribute 2 none RX12)   {h : gH} {v0 : Nat} {v1 : Int32} {s0 : Int32} {s1 : Nat} (w : vX12_readsAttribute_b211  Qn h v0 v1 s0 s1) : V p l e rmX12_readsAttribute s m args below meth c (MQ below (va_Qv Qn (gB G A) A) args s rmX12_readsAttribute.cells rmX12_readsAttribute.slots A) G A 2 h 0 0 211 [(0, .ref v0), (1, .int v1)] [.int s0, .ref s1] := by
  obtain ⟨fs, hh, w⟩ := w
  refine V_callVv (As := [.int s0]) (rest := []) (k1 := 0) (n1 := 0) X (cX12_readsNumber_ok X.2.2.2.2.2.2.2.2.1 w) lkX12_225 hh (q9 := (RX12, TX12, 42)) rfl rfl dX12_readsAttribute_211 ⟨Nat.le_of_ble_eq_true rfl, Nat.le_of_ble_eq_true rfl⟩ rfl (Nat.le_of_ble_eq_true rfl) ⟨Nat.le_of_ble_eq_true rfl, Nat.le_of_ble_eq_true rfl⟩ (Nat.le_of_ble_eq_true rfl) (Nat.le_of_ble_eq_true rfl) (fun h1 w9 => ?_)
  replace w := w9
  clear w9
  refine V_aloadr_n X dX12_readsAttribute_214 0 rfl ?_
  refine V_iload_n X dX12_readsAttribute_215 1 rfl ?_
  obtain ⟨w1, w2⟩ := w
  refine V_if_ne (tgt := 223) X dX12_readsAttribute_216 (by decide) (fun z => ?_) (fun z => ?_)
  · replace w := w1 z
    clear w1 w2
    refine V_iload_n X dX12_readsAttribute_223 1 rfl ?_
    refine V_iconst (y := 1) X dX12_readsAttribute_224 (by decide) ?_
    obtain ⟨w1, w2⟩ := w
    refine V_icmp_ne (tgt := 232) X dX12_readsAttribute_225 (by decide) (fun z => ?_) (fun z => ?_)
    · replace w := w1 z
      clear w1 w2
      refine V_iconst (y := 5) X dX12_readsAttribute_232 (by decide) ?_
      exact V.sub [0] rfl (tX12_readsAttribute_b233 X  w)
    · replace w := w2 z
      clear w1 w2
      refine V_iconst (y := 4) X dX12_readsAttribute_228 (by decide) ?_
      refine V_goto (tgt := 233) X dX12_readsAttribute_229 (by decide) ?_
      exact V.sub [0] rfl (tX12_readsAttribute_b233 X  w)
  · replace w := w2 z
    clear w1 w2
    refine V_iconst (y := 3) X dX12_readsAttribute_219 (by decide) ?_
    refine V_goto (tgt := 233) X dX12_readsAttribute_220 (by decide) ?_
    exact V.sub [0] rfl (tX12_readsAttribute_b233 X  w)
def vX12_readsAttribute_b148  (Qn : gH → Prop) (h : gH) (v0 : Nat) (v1 : Int32) (s0 : Int32) (s1 : Int32) (s2 : Nat) : Prop := pv h s2 15 35 (.int (s1 ||| s0)) (fun h1 => ((¬ (v1 : Int32) = 4) → (((¬ (v1 : Int32) = 3) → (((¬ (v1 : Int32) = 0) → (((¬ (v1 : Int32) = 1) → (vX12_readsAttribute_b211  Qn h1 v0 v1 4 v0)) ∧ (((v1 : Int32) = 1) → (vX12_readsAttribute_b211  Qn h1 v0 v1 99 v0)))) ∧ (((v1 : Int32) = 0) → (vX12_readsAttribute_b211  Qn h1 v0 v1 300 v0)))) ∧ (((v1 : Int32) = 3) → (io h1 v0 15 (vX12_sets (fun h2 => vX12_readsAttribute_b240  Qn h2 ) h1 v0 6 1))))) ∧ (((v1 : Int32) = 4) → (gi h1 v0 15 36 (fun x3 => pv h1 v0 15 36 (.int (x3 + 1)) (fun h4 => io h4 v0 15 (vX12_readsCondition (fun h5 => vX12_readsAttribute_b240  Qn h5 ) h4 v0 ))))))
set_option maxRecDepth 100000 in
set_option maxHeartbeats 4000000 in
theorem tX12_readsAttribute_b148 {p : Program} {l : Launch} {e : Env} {s : State} {m : MethodId} {args : Array Value} {below : List Frame} {meth : Method} {c : Code} {G : gG} {A : Nat → Prop} {Qn : gH → Prop} (X : gC p l s m args meth c G A cX12_readsAttribute 2 none RX12)   {h : gH} {v0 : Nat} {v1 : Int32} {s0 : Int32} {s1 : Int32} {s2 : Nat} (w : vX12_readsAttribute_b148  Qn h v0 v1 s0 s1 s2) : V p l e rmX12_readsAttribute s m args below meth c (MQ below (va_Qv Qn (gB G A) A) args s rmX12_readsAttribute.cells rmX12_readsAttribute.slots A) G A 2 h 0 0 148 [(0, .ref v0), (1, .int v1)] [.int s0, .int s1, .ref s2] := by
  refine V_ior X dX12_readsAttribute_148 ?_
  obtain ⟨fs, hh, hv, w⟩ := w
  refine V_put X flX12_228 dX12_readsAttribute_149 hh hv rfl rfl ?_
  generalize va_up _ _ _ = h1 at w ⊢
  refine V_iload_n X dX12_readsAttribute_152 1 rfl ?_
  refine V_iconst (y := 4) X dX12_readsAttribute_153 (by decide) ?_
  obtain ⟨w1, w2⟩ := w
  refine V_icmp_ne (tgt := 174) X dX12_readsAttribute_154 (by decide) (fun z => ?_) (fun z => ?_)
  · replace w := w1 z
    clear w1 w2
    refine V_iload_n X dX12_readsAttribute_174 1 rfl ?_
    refine V_iconst (y := 3) X dX12_readsAttribute_175 (by decide) ?_
    obtain ⟨w1, w2⟩ := w
    refine V_icmp_ne (tgt := 189) X dX12_readsAttribute_176 (by decide) (fun z => ?_) (fun z => ?_)
    · replace w := w1 z
      clear w1 w2
      refine V_aloadr_n X dX12_readsAttribute_189 0 rfl ?_
      refine V_iload_n X dX12_readsAttribute_190 1 rfl ?_
      obtain ⟨w1, w2⟩ := w
      refine V_if_ne (tgt := 200) X dX12_readsAttribute_191 (by decide) (fun z => ?_) (fun z => ?_)
      · replace w := w1 z
        clear w1 w2
        refine V_iload_n X dX12_readsAttribute_200 1 rfl ?_
        refine V_iconst (y := 1) X dX12_readsAttribute_201 (by decide) ?_
        obtain ⟨w1, w2⟩ := w
        refine V_icmp_ne (tgt := 210) X dX12_readsAttribute_202 (by decide) (fun z => ?_) (fun z => ?_)
        · replace w := w1 z
          clear w1 w2
          refine V_iconst (y := 4) X dX12_readsAttribute_210 (by decide) ?_
          exact V.sub [0, 1] rfl (tX12_readsAttribute_b211 X  w)
        · replace w := w2 z
          clear w1 w2
          refine V_bipush (y := 99) X dX12_readsAttribute_205 (by decide) ?_
          refine V_goto (tgt := 211) X dX12_readsAttribute_207 (by decide) ?_
          exact V.sub [0, 1] rfl (tX12_readsAttribute_b211 X  w)
      · replace w := w2 z
        clear w1 w2
        refine V_sipush (y := 300) X dX12_readsAttribute_194 (by decide) ?_
        refine V_goto (tgt := 211) X dX12_readsAttribute_197 (by decide) ?_
        exact V.sub [0, 1] rfl (tX12_readsAttribute_b211 X  w)
    · replace w := w2 z
      clear w1 w2
      refine V_aloadr_n X dX12_readsAttribute_179 0 rfl ?_
      refine V_bipush (y := 6) X dX12_readsAttribute_180 (by decide) ?_
      refine V_iconst (y := 1) X dX12_readsAttribute_182 (by decide) ?_
      obtain ⟨fs, hh, w⟩ := w
      refine V_callVv (As := [.int 6, .int 1]) (rest := []) (k1 := 0) (n1 := 0) X (cX12_sets_ok X.2.2.2.2.2.2.2.2.1 w) lkX12_240 hh (q9 := (RX12, TX12, 42)) rfl rfl dX12_readsAttribute_183 ⟨Nat.le_of_ble_eq_true rfl, Nat.le_of_ble_eq_true rfl⟩ rfl (Nat.le_of_ble_eq_true rfl) ⟨Nat.le_of_ble_eq_true rfl, Nat.le_of_ble_eq_true rfl⟩ (Nat.le_of_ble_eq_true rfl) (Nat.le_of_ble_eq_true rfl) (fun h2 w9 => ?_)
      replace w := w9
      clear w9
      refine V_goto (tgt := 240) X dX12_readsAttribute_186 (by decide) ?_
      exact V.sub [] rfl (tX12_readsAttribute_b240 X  w)
  · replace w := w2 z
    clear w1 w2
    refine V_aloadr_n X dX12_readsAttribute_157 0 rfl ?_
    refine V_dup X dX12_readsAttribute_158 rfl ?_
    obtain ⟨fs, x3, hh, hv, w⟩ := w
    refine V_get X flX12_231 dX12_readsAttribute_159 hh hv ?_
    refine V_iconst (y := 1) X dX12_readsAttribute_162 (by decide) ?_
    refine V_iadd X dX12_readsAttribute_163 ?_
    obtain ⟨fs, hh, hv, w⟩ := w
    refine V_put X flX12_231 dX12_readsAttribute_164 hh hv rfl rfl ?_
    generalize va_up _ _ _ = h4 at w ⊢
    refine V_aloadr_n X dX12_readsAttribute_167 0 rfl ?_
    obtain ⟨fs, hh, w⟩ := w
    refine V_callVv (As := []) (rest := []) (k1 := 0) (n1 := 0) X (cX12_readsCondition_ok X.2.2.2.2.2.2.2.2.1 w) lkX12_237 hh (q9 := (RX12, TX12, 42)) rfl rfl dX12_readsAttribute_168 ⟨Nat.le_of_ble_eq_true rfl, Nat.le_of_ble_eq_true rfl⟩ rfl (Nat.le_of_ble_eq_true rfl) ⟨Nat.le_of_ble_eq_true rfl, Nat.le_of_ble_eq_true rfl⟩ (Nat.le_of_ble_eq_true rfl) (Nat.le_of_ble_eq_true rfl) (fun h5 w9 => ?_)
    replace w := w9
    clear w9
    refine V_goto (tgt := 240) X dX12_readsAttribute_171 (by decide) ?_
    exact V.sub [] rfl (tX12_readsAttribute_b240 X  w)
def vX12_readsAttribute_b110  (Qn : gH → Prop) (h : gH) (v0 : Nat) (v1 : Int32) (s0 : Int32) (s1 : Nat) : Prop := gZ s0 ∧ (pv h s1 15 31 (.int s0) (fun h1 => gi h1 v0 15 31 (fun x2 => ((¬ (x2 : Int32) = 0) → (gi h1 v0 15 30 (fun x3 => pv h1 v0 15 30 (.int (x3 + 1)) (fun h4 => gi h4 v0 15 35 (fun x5 => ((4 ≤ (v1 : Int32)) → (vX12_readsAttribute_b148  Qn h4 v0 v1 0 x5 v0)) ∧ ((¬ 4 ≤ (v1 : Int32)) → (vX12_readsAttribute_b148  Qn h4 v0 v1 (1 <<< (v1 &&& 31)) x5 v0))))))) ∧ (((x2 : Int32) = 0) → (Qn h1)))))
set_option maxRecDepth 100000 in
set_option maxHeartbeats 4000000 in
theorem tX12_readsAttribute_b110 {p : Program} {l : Launch} {e : Env} {s : State} {m : MethodId} {args : Array Value} {below : List Frame} {meth : Method} {c : Code} {G : gG} {A : Nat → Prop} {Qn : gH → Prop} (X : gC p l s m args meth c G A cX12_readsAttribute 2 none RX12)   {h : gH} {v0 : Nat} {v1 : Int32} {s0 : Int32} {s1 : Nat} (w : vX12_readsAttribute_b110  Qn h v0 v1 s0 s1) : V p l e rmX12_readsAttribute s m args below meth c (MQ below (va_Qv Qn (gB G A) A) args s rmX12_readsAttribute.cells rmX12_readsAttribute.slots A) G A 2 h 0 0 110 [(0, .ref v0), (1, .int v1)] [.int s0, .ref s1] := by
  obtain ⟨hz, w⟩ := w
  obtain ⟨fs, hh, hv, w⟩ := w
  refine V_put X flX12_197 dX12_readsAttribute_110 hh hv hz.1 hz.2 ?_
  generalize va_up _ _ _ = h1 at w ⊢
  refine V_aloadr_n X dX12_readsAttribute_113 0 rfl ?_
  obtain ⟨fs, x2, hh, hv, w⟩ := w
  refine V_get X flX12_197 dX12_readsAttribute_114 hh hv ?_
  obtain ⟨w1, w2⟩ := w
  refine V_if_ne (tgt := 121) X dX12_readsAttribute_117 (by decide) (fun z => ?_) (fun z => ?_)
  · replace w := w1 z
    clear w1 w2
    refine V_aloadr_n X dX12_readsAttribute_121 0 rfl ?_
    refine V_dup X dX12_readsAttribute_122 rfl ?_
    obtain ⟨fs, x3, hh, hv, w⟩ := w
    refine V_get X flX12_191 dX12_readsAttribute_123 hh hv ?_
    refine V_iconst (y := 1) X dX12_readsAttribute_126 (by decide) ?_
    refine V_iadd X dX12_readsAttribute_127 ?_
    obtain ⟨fs, hh, hv, w⟩ := w
    refine V_put X flX12_191 dX12_readsAttribute_128 hh hv rfl rfl ?_
    generalize va_up _ _ _ = h4 at w ⊢
    refine V_aloadr_n X dX12_readsAttribute_131 0 rfl ?_
    refine V_dup X dX12_readsAttribute_132 rfl ?_
    obtain ⟨fs, x5, hh, hv, w⟩ := w
    refine V_get X flX12_228 dX12_readsAttribute_133 hh hv ?_
    refine V_iload_n X dX12_readsAttribute_136 1 rfl ?_
    refine V_iconst (y := 4) X dX12_readsAttribute_137 (by decide) ?_
    obtain ⟨w1, w2⟩ := w
    refine V_icmp_ge (tgt := 147) X dX12_readsAttribute_138 (by decide) (fun z => ?_) (fun z => ?_)
    · replace w := w1 z
      clear w1 w2
      refine V_iconst (y := 0) X dX12_readsAttribute_147 (by decide) ?_
      exact V.sub [0, 1] rfl (tX12_readsAttribute_b148 X  w)
    · replace w := w2 z
      clear w1 w2
      refine V_iconst (y := 1) X dX12_readsAttribute_141 (by decide) ?_
      refine V_iload_n X dX12_readsAttribute_142 1 rfl ?_
      refine V_ishl X dX12_readsAttribute_143 ?_
      refine V_goto (tgt := 148) X dX12_readsAttribute_144 (by decide) ?_
      exact V.sub [0, 1] rfl (tX12_readsAttribute_b148 X  w)
  · replace w := w2 z
    clear w1 w2
    exact V_vret X rfl dX12_readsAttribute_120 (Nat.le_of_ble_eq_true rfl) (Nat.le_of_ble_eq_true rfl) w
def vX12_readsAttribute_b109  (Qn : gH → Prop) (h : gH) (v0 : Nat) (v1 : Int32) (s0 : Nat) : Prop := vX12_readsAttribute_b110  Qn h v0 v1 0 s0
set_option maxRecDepth 100000 in
set_option maxHeartbeats 4000000 in
theorem tX12_readsAttribute_b109 {p : Program} {l : Launch} {e : Env} {s : State} {m : MethodId} {args : Array Value} {below : List Frame} {meth : Method} {c : Code} {G : gG} {A : Nat → Prop} {Qn : gH → Prop} (X : gC p l s m args meth c G A cX12_readsAttribute 2 none RX12)   {h : gH} {v0 : Nat} {v1 : Int32} {s0 : Nat} (w : vX12_readsAttribute_b109  Qn h v0 v1 s0) : V p l e rmX12_readsAttribute s m args below meth c (MQ below (va_Qv Qn (gB G A) A) args s rmX12_readsAttribute.cells rmX12_readsAttribute.slots A) G A 2 h 0 0 109 [(0, .ref v0), (1, .int v1)] [.ref s0] := by
  refine V_iconst (y := 0) X dX12_readsAttribute_109 (by decide) ?_
  exact V.sub [0, 1] rfl (tX12_readsAttribute_b110 X  w)
def vX12_readsAttribute_b66  (Qn : gH → Prop) (h : gH) (v0 : Nat) (s0 : Int32) : Prop := ((4 ≤ (s0 : Int32)) → (((¬ (s0 : Int32) = 4) → (vX12_readsAttribute_b109  Qn h v0 s0 v0)) ∧ (((s0 : Int32) = 4) → (gi h v0 15 36 (fun x1 => ((3 ≤ (x1 : Int32)) → (vX12_readsAttribute_b109  Qn h v0 s0 v0)) ∧ ((¬ 3 ≤ (x1 : Int32)) → (vX12_readsAttribute_b110  Qn h v0 s0 1 v0))))))) ∧ ((¬ 4 ≤ (s0 : Int32)) → (gi h v0 15 35 (fun x2 => ((¬ (((x2 >>> (s0 &&& 31)) &&& 1) : Int32) = 0) → (vX12_readsAttribute_b110  Qn h v0 s0 0 v0)) ∧ (((((x2 >>> (s0 &&& 31)) &&& 1) : Int32) = 0) → (vX12_readsAttribute_b110  Qn h v0 s0 1 v0)))))
set_option maxRecDepth 100000 in
set_option maxHeartbeats 4000000 in
theorem tX12_readsAttribute_b66 {p : Program} {l : Launch} {e : Env} {s : State} {m : MethodId} {args : Array Value} {below : List Frame} {meth : Method} {c : Code} {G : gG} {A : Nat → Prop} {Qn : gH → Prop} (X : gC p l s m args meth c G A cX12_readsAttribute 2 none RX12)   {h : gH} {v0 : Nat} {s0 : Int32} (w : vX12_readsAttribute_b66  Qn h v0 s0) : V p l e rmX12_readsAttribute s m args below meth c (MQ below (va_Qv Qn (gB G A) A) args s rmX12_readsAttribute.cells rmX12_readsAttribute.slots A) G A 2 h 0 0 66 [(0, .ref v0)] [.int s0] := by
  refine V_istore_n X dX12_readsAttribute_66 rfl (by decide) rfl ?_
  refine V_aloadr_n X dX12_readsAttribute_67 1 rfl ?_
  refine V_iload_n X dX12_readsAttribute_68 0 rfl ?_
  refine V_iconst (y := 4) X dX12_readsAttribute_69 (by decide) ?_
  obtain ⟨w1, w2⟩ := w
  refine V_icmp_ge (tgt := 92) X dX12_readsAttribute_70 (by decide) (fun z => ?_) (fun z => ?_)
  · replace w := w1 z
    clear w1 w2
    refine V_iload_n X dX12_readsAttribute_92 0 rfl ?_
    refine V_iconst (y := 4) X dX12_readsAttribute_93 (by decide) ?_
    obtain ⟨w1, w2⟩ := w
    refine V_icmp_ne (tgt := 109) X dX12_readsAttribute_94 (by decide) (fun z => ?_) (fun z => ?_)
    · replace w := w1 z
      clear w1 w2
      exact V.sub [1, 0] rfl (tX12_readsAttribute_b109 X  w)
    · replace w := w2 z
      clear w1 w2
      refine V_aloadr_n X dX12_readsAttribute_97 1 rfl ?_
      obtain ⟨fs, x1, hh, hv, w⟩ := w
      refine V_get X flX12_231 dX12_readsAttribute_98 hh hv ?_
      refine V_iconst (y := 3) X dX12_readsAttribute_101 (by decide) ?_
      obtain ⟨w1, w2⟩ := w
      refine V_icmp_ge (tgt := 109) X dX12_readsAttribute_102 (by decide) (fun z => ?_) (fun z => ?_)
      · replace w := w1 z
        clear w1 w2
        exact V.sub [1, 0] rfl (tX12_readsAttribute_b109 X  w)
      · replace w := w2 z
        clear w1 w2
        refine V_iconst (y := 1) X dX12_readsAttribute_105 (by decide) ?_
        refine V_goto (tgt := 110) X dX12_readsAttribute_106 (by decide) ?_
        exact V.sub [1, 0] rfl (tX12_readsAttribute_b110 X  w)
  · replace w := w2 z
    clear w1 w2
    refine V_aloadr_n X dX12_readsAttribute_73 1 rfl ?_
    obtain ⟨fs, x2, hh, hv, w⟩ := w
    refine V_get X flX12_228 dX12_readsAttribute_74 hh hv ?_
    refine V_iload_n X dX12_readsAttribute_77 0 rfl ?_
    refine V_ishr X dX12_readsAttribute_78 ?_
    refine V_iconst (y := 1) X dX12_readsAttribute_79 (by decide) ?_
    refine V_iand X dX12_readsAttribute_80 ?_
    obtain ⟨w1, w2⟩ := w
    refine V_if_ne (tgt := 88) X dX12_readsAttribute_81 (by decide) (fun z => ?_) (fun z => ?_)
    · replace w := w1 z
      clear w1 w2
      refine V_iconst (y := 0) X dX12_readsAttribute_88 (by decide) ?_
      refine V_goto (tgt := 110) X dX12_readsAttribute_89 (by decide) ?_
      exact V.sub [1, 0] rfl (tX12_readsAttribute_b110 X  w)
    · replace w := w2 z
      clear w1 w2
      refine V_iconst (y := 1) X dX12_readsAttribute_84 (by decide) ?_
      refine V_goto (tgt := 110) X dX12_readsAttribute_85 (by decide) ?_
      exact V.sub [1, 0] rfl (tX12_readsAttribute_b110 X  w)
def vX12_readsAttribute  (Qn : gH → Prop) (h : gH) (v0 : Nat) : Prop := io h v0 15 (vX12_here (fun x2 h1 => (((x2 : Int32) = 0) → (io h1 v0 15 (vX12_here (fun x4 h3 => (((x4 : Int32) = 0) → (io h3 v0 15 (vX12_here (fun x6 h5 => (((x6 : Int32) = 0) → (io h5 v0 15 (vX12_here (fun x8 h7 => (((x8 : Int32) = 0) → (io h7 v0 15 (vX12_here (fun x10 h9 => (((x10 : Int32) = 0) → (vX12_readsAttribute_b66  Qn h9 v0 5)) ∧ ((¬ (x10 : Int32) = 0) → (vX12_readsAttribute_b66  Qn h9 v0 4))) h7 v0 63))) ∧ ((¬ (x8 : Int32) = 0) → (vX12_readsAttribute_b66  Qn h7 v0 3))) h5 v0 111))) ∧ ((¬ (x6 : Int32) = 0) → (vX12_readsAttribute_b66  Qn h5 v0 2))) h3 v0 33))) ∧ ((¬ (x4 : Int32) = 0) → (vX12_readsAttribute_b66  Qn h3 v0 1))) h1 v0 43))) ∧ ((¬ (x2 : Int32) = 0) → (vX12_readsAttribute_b66  Qn h1 v0 0))) h v0 64)
set_option maxRecDepth 100000 in
set_option maxHeartbeats 4000000 in
theorem tX12_readsAttribute {p : Program} {l : Launch} {e : Env} {s : State} {m : MethodId} {args : Array Value} {below : List Frame} {meth : Method} {c : Code} {G : gG} {A : Nat → Prop} {Qn : gH → Prop} (X : gC p l s m args meth c G A cX12_readsAttribute 2 none RX12)   {h : gH} {v0 : Nat} (w : vX12_readsAttribute  Qn h v0) : V p l e rmX12_readsAttribute s m args below meth c (MQ below (va_Qv Qn (gB G A) A) args s rmX12_readsAttribute.cells rmX12_readsAttribute.slots A) G A 2 h 0 0 0 [(0, .ref v0)] [] := by
  refine V_aloadr_n X dX12_readsAttribute_0 0 rfl ?_
  refine V_bipush (y := 64) X dX12_readsAttribute_1 (by decide) ?_
  obtain ⟨fs, hh, w⟩ := w
  refine V_callVi (As := [.int 64]) (rest := []) (k1 := 0) (n1 := 0) X (cX12_here_ok X.2.2.2.2.2.2.2.2.1 w) lkX12_201 hh (q9 := (RX12, TX12, 42)) rfl rfl dX12_readsAttribute_3 ⟨Nat.le_of_ble_eq_true rfl, Nat.le_of_ble_eq_true rfl⟩ rfl (Nat.le_of_ble_eq_true rfl) ⟨Nat.le_of_ble_eq_true rfl, Nat.le_of_ble_eq_true rfl⟩ (Nat.le_of_ble_eq_true rfl) (Nat.le_of_ble_eq_true rfl) (fun x2 h1 w9 => ?_)
  replace w := w9
  clear w9
  obtain ⟨w1, w2⟩ := w
  refine V_if_eq (tgt := 13) X dX12_readsAttribute_6 (by decide) (fun z => ?_) (fun z => ?_)
  · replace w := w1 z
    clear w1 w2
    refine V_aloadr_n X dX12_readsAttribute_13 0 rfl ?_
    refine V_bipush (y := 43) X dX12_readsAttribute_14 (by decide) ?_
    obtain ⟨fs, hh, w⟩ := w
    refine V_callVi (As := [.int 43]) (rest := []) (k1 := 0) (n1 := 0) X (cX12_here_ok X.2.2.2.2.2.2.2.2.1 w) lkX12_201 hh (q9 := (RX12, TX12, 42)) rfl rfl dX12_readsAttribute_16 ⟨Nat.le_of_ble_eq_true rfl, Nat.le_of_ble_eq_true rfl⟩ rfl (Nat.le_of_ble_eq_true rfl) ⟨Nat.le_of_ble_eq_true rfl, Nat.le_of_ble_eq_true rfl⟩ (Nat.le_of_ble_eq_true rfl) (Nat.le_of_ble_eq_true rfl) (fun x4 h3 w9 => ?_)
    replace w := w9
    clear w9
    obtain ⟨w1, w2⟩ := w
    refine V_if_eq (tgt := 26) X dX12_readsAttribute_19 (by decide) (fun z => ?_) (fun z => ?_)
    · replace w := w1 z
      clear w1 w2
      refine V_aloadr_n X dX12_readsAttribute_26 0 rfl ?_
      refine V_bipush (y := 33) X dX12_readsAttribute_27 (by decide) ?_
      obtain ⟨fs, hh, w⟩ := w
      refine V_callVi (As := [.int 33]) (rest := []) (k1 := 0) (n1 := 0) X (cX12_here_ok X.2.2.2.2.2.2.2.2.1 w) lkX12_201 hh (q9 := (RX12, TX12, 42)) rfl rfl dX12_readsAttribute_29 ⟨Nat.le_of_ble_eq_true rfl, Nat.le_of_ble_eq_true rfl⟩ rfl (Nat.le_of_ble_eq_true rfl) ⟨Nat.le_of_ble_eq_true rfl, Nat.le_of_ble_eq_true rfl⟩ (Nat.le_of_ble_eq_true rfl) (Nat.le_of_ble_eq_true rfl) (fun x6 h5 w9 => ?_)
      replace w := w9
      clear w9
      obtain ⟨w1, w2⟩ := w
      refine V_if_eq (tgt := 39) X dX12_readsAttribute_32 (by decide) (fun z => ?_) (fun z => ?_)
      · replace w := w1 z
        clear w1 w2
        refine V_aloadr_n X dX12_readsAttribute_39 0 rfl ?_
        refine V_bipush (y := 111) X dX12_readsAttribute_40 (by decide) ?_
        obtain ⟨fs, hh, w⟩ := w
        refine V_callVi (As := [.int 111]) (rest := []) (k1 := 0) (n1 := 0) X (cX12_here_ok X.2.2.2.2.2.2.2.2.1 w) lkX12_201 hh (q9 := (RX12, TX12, 42)) rfl rfl dX12_readsAttribute_42 ⟨Nat.le_of_ble_eq_true rfl, Nat.le_of_ble_eq_true rfl⟩ rfl (Nat.le_of_ble_eq_true rfl) ⟨Nat.le_of_ble_eq_true rfl, Nat.le_of_ble_eq_true rfl⟩ (Nat.le_of_ble_eq_true rfl) (Nat.le_of_ble_eq_true rfl) (fun x8 h7 w9 => ?_)
        replace w := w9
        clear w9
        obtain ⟨w1, w2⟩ := w
        refine V_if_eq (tgt := 52) X dX12_readsAttribute_45 (by decide) (fun z => ?_) (fun z => ?_)
        · replace w := w1 z
          clear w1 w2
          refine V_aloadr_n X dX12_readsAttribute_52 0 rfl ?_
          refine V_bipush (y := 63) X dX12_readsAttribute_53 (by decide) ?_
          obtain ⟨fs, hh, w⟩ := w
          refine V_callVi (As := [.int 63]) (rest := []) (k1 := 0) (n1 := 0) X (cX12_here_ok X.2.2.2.2.2.2.2.2.1 w) lkX12_201 hh (q9 := (RX12, TX12, 42)) rfl rfl dX12_readsAttribute_55 ⟨Nat.le_of_ble_eq_true rfl, Nat.le_of_ble_eq_true rfl⟩ rfl (Nat.le_of_ble_eq_true rfl) ⟨Nat.le_of_ble_eq_true rfl, Nat.le_of_ble_eq_true rfl⟩ (Nat.le_of_ble_eq_true rfl) (Nat.le_of_ble_eq_true rfl) (fun x10 h9 w9 => ?_)
          replace w := w9
          clear w9
          obtain ⟨w1, w2⟩ := w
          refine V_if_eq (tgt := 65) X dX12_readsAttribute_58 (by decide) (fun z => ?_) (fun z => ?_)
          · replace w := w1 z
            clear w1 w2
            refine V_iconst (y := 5) X dX12_readsAttribute_65 (by decide) ?_
            exact V.sub [0] rfl (tX12_readsAttribute_b66 X  w)
          · replace w := w2 z
            clear w1 w2
            refine V_iconst (y := 4) X dX12_readsAttribute_61 (by decide) ?_
            refine V_goto (tgt := 66) X dX12_readsAttribute_62 (by decide) ?_
            exact V.sub [0] rfl (tX12_readsAttribute_b66 X  w)
        · replace w := w2 z
          clear w1 w2
          refine V_iconst (y := 3) X dX12_readsAttribute_48 (by decide) ?_
          refine V_goto (tgt := 66) X dX12_readsAttribute_49 (by decide) ?_
          exact V.sub [0] rfl (tX12_readsAttribute_b66 X  w)
      · replace w := w2 z
        clear w1 w2
        refine V_iconst (y := 2) X dX12_readsAttribute_35 (by decide) ?_
        refine V_goto (tgt := 66) X dX12_readsAttribute_36 (by decide) ?_
        exact V.sub [0] rfl (tX12_readsAttribute_b66 X  w)
    · replace w := w2 z
      clear w1 w2
      refine V_iconst (y := 1) X dX12_readsAttribute_22 (by decide) ?_
      refine V_goto (tgt := 66) X dX12_readsAttribute_23 (by decide) ?_
      exact V.sub [0] rfl (tX12_readsAttribute_b66 X  w)
  · replace w := w2 z
    clear w1 w2
    refine V_iconst (y := 0) X dX12_readsAttribute_9 (by decide) ?_
    refine V_goto (tgt := 66) X dX12_readsAttribute_10 (by decide) ?_
    exact V.sub [0] rfl (tX12_readsAttribute_b66 X  w)
theorem cX12_readsAttribute_ok {l : Launch} {G : gG} {h : gH} (hls : l.stackTraces = false) {Qn : gH → Prop} {v0 : Nat} (w : vX12_readsAttribute Qn h v0) : gMv l yX12_readsAttribute cX12_readsAttribute 2 none rmX12_readsAttribute rmX12_readsAttribute.cells rmX12_readsAttribute.slots G h [.ref v0] Qn := by
  exact gMv.of (by decide +kernel) hls (Nat.le_of_ble_eq_true rfl) rfl rfl (fun p e s m below meth c A X hnm => tX12_readsAttribute X w)
/-! AnimationControllerModel.readsTransition()V -/
abbrev rmX12_readsTransition : Room := { frames := 4, cells := 0, slots := 0, locals := 95 }
def vX12_readsTransition_b164  (Qn : gH → Prop) (h : gH)  : Prop := Qn h
set_option maxRecDepth 100000 in
set_option maxHeartbeats 4000000 in
theorem tX12_readsTransition_b164 {p : Program} {l : Launch} {e : Env} {s : State} {m : MethodId} {args : Array Value} {below : List Frame} {meth : Method} {c : Code} {G : gG} {A : Nat → Prop} {Qn : gH → Prop} (X : gC p l s m args meth c G A cX12_readsTransition 3 none RX12)   {h : gH}  (w : vX12_readsTransition_b164  Qn h ) : V p l e rmX12_readsTransition s m args below meth c (MQ below (va_Qv Qn (gB G A) A) args s rmX12_readsTransition.cells rmX12_readsTransition.slots A) G A 3 h 0 0 164 [] [] := by
  exact V_vret X rfl dX12_readsTransition_164 (Nat.le_of_ble_eq_true rfl) (Nat.le_of_ble_eq_true rfl) w
def vX12_readsTransition_b126_o (k126 : gH → Nat → Prop) (Qn : gH → Prop) (h : gH) (v0 : Nat) : Prop := gi h v0 15 31 (fun x1 => (((x1 : Int32) = 0) → (vX12_readsTransition_b164  Qn h )) ∧ ((¬ (x1 : Int32) = 0) → (gi h v0 15 30 (fun x2 => gi h v0 15 24 (fun x3 => ((x3 ≤ (x2 : Int32)) → (vX12_readsTransition_b164  Qn h )) ∧ ((¬ x3 ≤ (x2 : Int32)) → (io h v0 15 (vX12_here (fun x5 h4 => ((¬ (x5 : Int32) = 0) → (vX12_readsTransition_b164  Qn h4 )) ∧ (((x5 : Int32) = 0) → (io h4 v0 15 (vX12_readsAttribute (fun h6 => io h6 v0 15 (vX12_skips (fun h7 => k126 h7 v0) h6 v0 )) h4 v0 )))) h v0 59))))))))
set_option maxRecDepth 100000 in
set_option maxHeartbeats 4000000 in
theorem tX12_readsTransition_b126_o {p : Program} {l : Launch} {e : Env} {s : State} {m : MethodId} {args : Array Value} {below : List Frame} {meth : Method} {c : Code} {G : gG} {A : Nat → Prop} {Qn : gH → Prop} (X : gC p l s m args meth c G A cX12_readsTransition 3 none RX12) {k126 : gH → Nat → Prop} (H126 : ∀ (h : gH) (v0 : Nat), k126 h v0 → V p l e rmX12_readsTransition s m args below meth c (MQ below (va_Qv Qn (gB G A) A) args s rmX12_readsTransition.cells rmX12_readsTransition.slots A) G A 3 h 0 0 126 [(0, .ref v0)] []) {h : gH} {v0 : Nat} (w : vX12_readsTransition_b126_o k126 Qn h v0) : V p l e rmX12_readsTransition s m args below meth c (MQ below (va_Qv Qn (gB G A) A) args s rmX12_readsTransition.cells rmX12_readsTransition.slots A) G A 3 h 0 0 126 [(0, .ref v0)] [] := by
  refine V_aloadr_n X dX12_readsTransition_126 0 rfl ?_
  obtain ⟨fs, x1, hh, hv, w⟩ := w
  refine V_get X flX12_197 dX12_readsTransition_127 hh hv ?_
  obtain ⟨w1, w2⟩ := w
  refine V_if_eq (tgt := 164) X dX12_readsTransition_130 (by decide) (fun z => ?_) (fun z => ?_)
  · replace w := w1 z
    clear w1 w2
    exact V.sub [] rfl (tX12_readsTransition_b164 X  w)
  · replace w := w2 z
    clear w1 w2
    refine V_aloadr_n X dX12_readsTransition_133 0 rfl ?_
    obtain ⟨fs, x2, hh, hv, w⟩ := w
    refine V_get X flX12_191 dX12_readsTransition_134 hh hv ?_
    refine V_aloadr_n X dX12_readsTransition_137 0 rfl ?_
    obtain ⟨fs, x3, hh, hv, w⟩ := w
    refine V_get X flX12_188 dX12_readsTransition_138 hh hv ?_
    obtain ⟨w1, w2⟩ := w
    refine V_icmp_ge (tgt := 164) X dX12_readsTransition_141 (by decide) (fun z => ?_) (fun z => ?_)
    · replace w := w1 z
      clear w1 w2
      exact V.sub [] rfl (tX12_readsTransition_b164 X  w)
    · replace w := w2 z
      clear w1 w2
      refine V_aloadr_n X dX12_readsTransition_144 0 rfl ?_
      refine V_bipush (y := 59) X dX12_readsTransition_145 (by decide) ?_
      obtain ⟨fs, hh, w⟩ := w
      refine V_callVi (As := [.int 59]) (rest := []) (k1 := 0) (n1 := 0) X (cX12_here_ok X.2.2.2.2.2.2.2.2.1 w) lkX12_201 hh (q9 := (RX12, TX12, 42)) rfl rfl dX12_readsTransition_147 ⟨Nat.le_of_ble_eq_true rfl, Nat.le_of_ble_eq_true rfl⟩ rfl (Nat.le_of_ble_eq_true rfl) ⟨Nat.le_of_ble_eq_true rfl, Nat.le_of_ble_eq_true rfl⟩ (Nat.le_of_ble_eq_true rfl) (Nat.le_of_ble_eq_true rfl) (fun x5 h4 w9 => ?_)
      replace w := w9
      clear w9
      obtain ⟨w1, w2⟩ := w
      refine V_if_ne (tgt := 164) X dX12_readsTransition_150 (by decide) (fun z => ?_) (fun z => ?_)
      · replace w := w1 z
        clear w1 w2
        exact V.sub [] rfl (tX12_readsTransition_b164 X  w)
      · replace w := w2 z
        clear w1 w2
        refine V_aloadr_n X dX12_readsTransition_153 0 rfl ?_
        obtain ⟨fs, hh, w⟩ := w
        refine V_callVv (As := []) (rest := []) (k1 := 0) (n1 := 0) X (cX12_readsAttribute_ok X.2.2.2.2.2.2.2.2.1 w) lkX12_234 hh (q9 := (RX12, TX12, 42)) rfl rfl dX12_readsTransition_154 ⟨Nat.le_of_ble_eq_true rfl, Nat.le_of_ble_eq_true rfl⟩ rfl (Nat.le_of_ble_eq_true rfl) ⟨Nat.le_of_ble_eq_true rfl, Nat.le_of_ble_eq_true rfl⟩ (Nat.le_of_ble_eq_true rfl) (Nat.le_of_ble_eq_true rfl) (fun h6 w9 => ?_)
        replace w := w9
        clear w9
        refine V_aloadr_n X dX12_readsTransition_157 0 rfl ?_
        obtain ⟨fs, hh, w⟩ := w
        refine V_callVv (As := []) (rest := []) (k1 := 0) (n1 := 0) X (cX12_skips_ok X.2.2.2.2.2.2.2.2.1 w) lkX12_194 hh (q9 := (RX12, TX12, 42)) rfl rfl dX12_readsTransition_158 ⟨Nat.le_of_ble_eq_true rfl, Nat.le_of_ble_eq_true rfl⟩ rfl (Nat.le_of_ble_eq_true rfl) ⟨Nat.le_of_ble_eq_true rfl, Nat.le_of_ble_eq_true rfl⟩ (Nat.le_of_ble_eq_true rfl) (Nat.le_of_ble_eq_true rfl) (fun h7 w9 => ?_)
        replace w := w9
        clear w9
        refine V_goto (tgt := 126) X dX12_readsTransition_161 (by decide) ?_
        exact V.sub [0] rfl (H126 _ _ w)
def vX12_readsTransition_b126  (Qn : gH → Prop) (n : Nat) : gH → Nat → Prop := Nat.rec (motive := fun _ => gH → Nat → Prop) (fun _ _ => False) (fun _ k126 => vX12_readsTransition_b126_o k126 Qn) n
theorem tX12_readsTransition_b126 {p : Program} {l : Launch} {e : Env} {s : State} {m : MethodId} {args : Array Value} {below : List Frame} {meth : Method} {c : Code} {G : gG} {A : Nat → Prop} {Qn : gH → Prop} (X : gC p l s m args meth c G A cX12_readsTransition 3 none RX12)   : ∀ (n : Nat) (h : gH) (v0 : Nat) (w : vX12_readsTransition_b126  Qn n h v0), V p l e rmX12_readsTransition s m args below meth c (MQ below (va_Qv Qn (gB G A) A) args s rmX12_readsTransition.cells rmX12_readsTransition.slots A) G A 3 h 0 0 126 [(0, .ref v0)] [] := by
  intro n
  induction n with
  | zero => intro h v0 w; exact False.elim w
  | succ n ih => intro h v0 w; exact tX12_readsTransition_b126_o X ih w
def vX12_readsTransition_b114  (Qn : gH → Prop) (h : gH) (v0 : Nat) (s0 : Int32) (s1 : Nat) : Prop := pv h s1 15 35 (.int s0) (fun h1 => pv h1 v0 15 36 (.int 0) (fun h2 => io h2 v0 15 (vX12_skips (fun h3 => ∃ n : Nat, vX12_readsTransition_b126  Qn n h3 v0) h2 v0 )))
set_option maxRecDepth 100000 in
set_option maxHeartbeats 4000000 in
theorem tX12_readsTransition_b114 {p : Program} {l : Launch} {e : Env} {s : State} {m : MethodId} {args : Array Value} {below : List Frame} {meth : Method} {c : Code} {G : gG} {A : Nat → Prop} {Qn : gH → Prop} (X : gC p l s m args meth c G A cX12_readsTransition 3 none RX12)   {h : gH} {v0 : Nat} {s0 : Int32} {s1 : Nat} (w : vX12_readsTransition_b114  Qn h v0 s0 s1) : V p l e rmX12_readsTransition s m args below meth c (MQ below (va_Qv Qn (gB G A) A) args s rmX12_readsTransition.cells rmX12_readsTransition.slots A) G A 3 h 0 0 114 [(0, .ref v0)] [.int s0, .ref s1] := by
  obtain ⟨fs, hh, hv, w⟩ := w
  refine V_put X flX12_228 dX12_readsTransition_114 hh hv rfl rfl ?_
  generalize va_up _ _ _ = h1 at w ⊢
  refine V_aloadr_n X dX12_readsTransition_117 0 rfl ?_
  refine V_iconst (y := 0) X dX12_readsTransition_118 (by decide) ?_
  obtain ⟨fs, hh, hv, w⟩ := w
  refine V_put X flX12_231 dX12_readsTransition_119 hh hv rfl rfl ?_
  generalize va_up _ _ _ = h2 at w ⊢
  refine V_aloadr_n X dX12_readsTransition_122 0 rfl ?_
  obtain ⟨fs, hh, w⟩ := w
  refine V_callVv (As := []) (rest := []) (k1 := 0) (n1 := 0) X (cX12_skips_ok X.2.2.2.2.2.2.2.2.1 w) lkX12_194 hh (q9 := (RX12, TX12, 42)) rfl rfl dX12_readsTransition_123 ⟨Nat.le_of_ble_eq_true rfl, Nat.le_of_ble_eq_true rfl⟩ rfl (Nat.le_of_ble_eq_true rfl) ⟨Nat.le_of_ble_eq_true rfl, Nat.le_of_ble_eq_true rfl⟩ (Nat.le_of_ble_eq_true rfl) (Nat.le_of_ble_eq_true rfl) (fun h3 w9 => ?_)
  replace w := w9
  clear w9
  obtain ⟨n9, w⟩ := w
  exact V.sub [0] rfl (tX12_readsTransition_b126 X  n9 _ _ w)
def vX12_readsTransition_b103  (Qn : gH → Prop) (h : gH) (v0 : Nat) (v1 : Int32) : Prop := ((¬ (v1 : Int32) = (-1)) → (vX12_readsTransition_b114  Qn h v0 0 v0)) ∧ (((v1 : Int32) = (-1)) → (vX12_readsTransition_b114  Qn h v0 1 v0))
set_option maxRecDepth 100000 in
set_option maxHeartbeats 4000000 in
theorem tX12_readsTransition_b103 {p : Program} {l : Launch} {e : Env} {s : State} {m : MethodId} {args : Array Value} {below : List Frame} {meth : Method} {c : Code} {G : gG} {A : Nat → Prop} {Qn : gH → Prop} (X : gC p l s m args meth c G A cX12_readsTransition 3 none RX12)   {h : gH} {v0 : Nat} {v1 : Int32} (w : vX12_readsTransition_b103  Qn h v0 v1) : V p l e rmX12_readsTransition s m args below meth c (MQ below (va_Qv Qn (gB G A) A) args s rmX12_readsTransition.cells rmX12_readsTransition.slots A) G A 3 h 0 0 103 [(0, .ref v0), (1, .int v1)] [] := by
  refine V_aloadr_n X dX12_readsTransition_103 0 rfl ?_
  refine V_iload_n X dX12_readsTransition_104 1 rfl ?_
  refine V_iconst (y := (-1)) X dX12_readsTransition_105 (by decide) ?_
  obtain ⟨w1, w2⟩ := w
  refine V_icmp_ne (tgt := 113) X dX12_readsTransition_106 (by decide) (fun z => ?_) (fun z => ?_)
  · replace w := w1 z
    clear w1 w2
    refine V_iconst (y := 0) X dX12_readsTransition_113 (by decide) ?_
    exact V.sub [0] rfl (tX12_readsTransition_b114 X  w)
  · replace w := w2 z
    clear w1 w2
    refine V_iconst (y := 1) X dX12_readsTransition_109 (by decide) ?_
    refine V_goto (tgt := 114) X dX12_readsTransition_110 (by decide) ?_
    exact V.sub [0] rfl (tX12_readsTransition_b114 X  w)
def vX12_readsTransition_b46  (Qn : gH → Prop) (h : gH) (v0 : Nat) (s0 : Int32) (s1 : Nat) : Prop := gZ s0 ∧ (pv h s1 15 31 (.int s0) (fun h1 => io h1 v0 15 (vX12_readsState (fun x3 h2 => io h2 v0 15 (vX12_reads (fun h4 => io h4 v0 15 (vX12_readsState (fun x6 h5 => io h5 v0 15 (vX12_reads (fun h7 => io h7 v0 15 (vX12_readsNumber (fun h8 => gi h8 v0 15 31 (fun x9 => (((x9 : Int32) = 0) → (vX12_readsTransition_b103  Qn h8 v0 x3)) ∧ ((¬ (x9 : Int32) = 0) → (gi h8 v0 15 32 (fun x10 => (((x10 : Int32) = 0) → (vX12_readsTransition_b103  Qn h8 v0 x3)) ∧ ((¬ (x10 : Int32) = 0) → (gi h8 v0 15 33 (fun x11 => io h8 v0 15 (vX12_newTransition (fun h12 => vX12_readsTransition_b103  Qn h12 v0 x3) h8 v0 x3 x6 x11))))))))) h7 v0 60)) h5 v0 47)) h4 v0 0)) h2 v0 62)) h1 v0 1)))
set_option maxRecDepth 100000 in
set_option maxHeartbeats 4000000 in
theorem tX12_readsTransition_b46 {p : Program} {l : Launch} {e : Env} {s : State} {m : MethodId} {args : Array Value} {below : List Frame} {meth : Method} {c : Code} {G : gG} {A : Nat → Prop} {Qn : gH → Prop} (X : gC p l s m args meth c G A cX12_readsTransition 3 none RX12)   {h : gH} {v0 : Nat} {s0 : Int32} {s1 : Nat} (w : vX12_readsTransition_b46  Qn h v0 s0 s1) : V p l e rmX12_readsTransition s m args below meth c (MQ below (va_Qv Qn (gB G A) A) args s rmX12_readsTransition.cells rmX12_readsTransition.slots A) G A 3 h 0 0 46 [(0, .ref v0)] [.int s0, .ref s1] := by
  obtain ⟨hz, w⟩ := w
  obtain ⟨fs, hh, hv, w⟩ := w
  refine V_put X flX12_197 dX12_readsTransition_46 hh hv hz.1 hz.2 ?_
  generalize va_up _ _ _ = h1 at w ⊢
  refine V_aloadr_n X dX12_readsTransition_49 0 rfl ?_
  refine V_iconst (y := 1) X dX12_readsTransition_50 (by decide) ?_
  obtain ⟨fs, hh, w⟩ := w
  refine V_callVi (As := [.int 1]) (rest := []) (k1 := 0) (n1 := 0) X (cX12_readsState_ok X.2.2.2.2.2.2.2.2.1 w) lkX12_217 hh (q9 := (RX12, TX12, 42)) rfl rfl dX12_readsTransition_51 ⟨Nat.le_of_ble_eq_true rfl, Nat.le_of_ble_eq_true rfl⟩ rfl (Nat.le_of_ble_eq_true rfl) ⟨Nat.le_of_ble_eq_true rfl, Nat.le_of_ble_eq_true rfl⟩ (Nat.le_of_ble_eq_true rfl) (Nat.le_of_ble_eq_true rfl) (fun x3 h2 w9 => ?_)
  replace w := w9
  clear w9
  refine V_istore_n X dX12_readsTransition_54 rfl (by decide) rfl ?_
  refine V_aloadr_n X dX12_readsTransition_55 1 rfl ?_
  refine V_bipush (y := 62) X dX12_readsTransition_56 (by decide) ?_
  obtain ⟨fs, hh, w⟩ := w
  refine V_callVv (As := [.int 62]) (rest := []) (k1 := 0) (n1 := 0) X (cX12_reads_ok X.2.2.2.2.2.2.2.2.1 w) lkX12_221 hh (q9 := (RX12, TX12, 42)) rfl rfl dX12_readsTransition_58 ⟨Nat.le_of_ble_eq_true rfl, Nat.le_of_ble_eq_true rfl⟩ rfl (Nat.le_of_ble_eq_true rfl) ⟨Nat.le_of_ble_eq_true rfl, Nat.le_of_ble_eq_true rfl⟩ (Nat.le_of_ble_eq_true rfl) (Nat.le_of_ble_eq_true rfl) (fun h4 w9 => ?_)
  replace w := w9
  clear w9
  refine V_aloadr_n X dX12_readsTransition_61 1 rfl ?_
  refine V_iconst (y := 0) X dX12_readsTransition_62 (by decide) ?_
  obtain ⟨fs, hh, w⟩ := w
  refine V_callVi (As := [.int 0]) (rest := []) (k1 := 0) (n1 := 0) X (cX12_readsState_ok X.2.2.2.2.2.2.2.2.1 w) lkX12_217 hh (q9 := (RX12, TX12, 42)) rfl rfl dX12_readsTransition_63 ⟨Nat.le_of_ble_eq_true rfl, Nat.le_of_ble_eq_true rfl⟩ rfl (Nat.le_of_ble_eq_true rfl) ⟨Nat.le_of_ble_eq_true rfl, Nat.le_of_ble_eq_true rfl⟩ (Nat.le_of_ble_eq_true rfl) (Nat.le_of_ble_eq_true rfl) (fun x6 h5 w9 => ?_)
  replace w := w9
  clear w9
  refine V_istore_n X dX12_readsTransition_66 rfl (by decide) rfl ?_
  refine V_aloadr_n X dX12_readsTransition_67 2 rfl ?_
  refine V_bipush (y := 47) X dX12_readsTransition_68 (by decide) ?_
  obtain ⟨fs, hh, w⟩ := w
  refine V_callVv (As := [.int 47]) (rest := []) (k1 := 0) (n1 := 0) X (cX12_reads_ok X.2.2.2.2.2.2.2.2.1 w) lkX12_221 hh (q9 := (RX12, TX12, 42)) rfl rfl dX12_readsTransition_70 ⟨Nat.le_of_ble_eq_true rfl, Nat.le_of_ble_eq_true rfl⟩ rfl (Nat.le_of_ble_eq_true rfl) ⟨Nat.le_of_ble_eq_true rfl, Nat.le_of_ble_eq_true rfl⟩ (Nat.le_of_ble_eq_true rfl) (Nat.le_of_ble_eq_true rfl) (fun h7 w9 => ?_)
  replace w := w9
  clear w9
  refine V_aloadr_n X dX12_readsTransition_73 2 rfl ?_
  refine V_bipush (y := 60) X dX12_readsTransition_74 (by decide) ?_
  obtain ⟨fs, hh, w⟩ := w
  refine V_callVv (As := [.int 60]) (rest := []) (k1 := 0) (n1 := 0) X (cX12_readsNumber_ok X.2.2.2.2.2.2.2.2.1 w) lkX12_225 hh (q9 := (RX12, TX12, 42)) rfl rfl dX12_readsTransition_76 ⟨Nat.le_of_ble_eq_true rfl, Nat.le_of_ble_eq_true rfl⟩ rfl (Nat.le_of_ble_eq_true rfl) ⟨Nat.le_of_ble_eq_true rfl, Nat.le_of_ble_eq_true rfl⟩ (Nat.le_of_ble_eq_true rfl) (Nat.le_of_ble_eq_true rfl) (fun h8 w9 => ?_)
  replace w := w9
  clear w9
  refine V_aloadr_n X dX12_readsTransition_79 2 rfl ?_
  obtain ⟨fs, x9, hh, hv, w⟩ := w
  refine V_get X flX12_197 dX12_readsTransition_80 hh hv ?_
  obtain ⟨w1, w2⟩ := w
  refine V_if_eq (tgt := 103) X dX12_readsTransition_83 (by decide) (fun z => ?_) (fun z => ?_)
  · replace w := w1 z
    clear w1 w2
    exact V.sub [2, 1] rfl (tX12_readsTransition_b103 X  w)
  · replace w := w2 z
    clear w1 w2
    refine V_aloadr_n X dX12_readsTransition_86 2 rfl ?_
    obtain ⟨fs, x10, hh, hv, w⟩ := w
    refine V_get X flX12_211 dX12_readsTransition_87 hh hv ?_
    obtain ⟨w1, w2⟩ := w
    refine V_if_eq (tgt := 103) X dX12_readsTransition_90 (by decide) (fun z => ?_) (fun z => ?_)
    · replace w := w1 z
      clear w1 w2
      exact V.sub [2, 1] rfl (tX12_readsTransition_b103 X  w)
    · replace w := w2 z
      clear w1 w2
      refine V_aloadr_n X dX12_readsTransition_93 2 rfl ?_
      refine V_iload_n X dX12_readsTransition_94 1 rfl ?_
      refine V_iload_n X dX12_readsTransition_95 0 rfl ?_
      refine V_aloadr_n X dX12_readsTransition_96 2 rfl ?_
      obtain ⟨fs, x11, hh, hv, w⟩ := w
      refine V_get X flX12_208 dX12_readsTransition_97 hh hv ?_
      obtain ⟨fs, hh, w⟩ := w
      refine V_callVv (As := [.int x3, .int x6, .int x11]) (rest := []) (k1 := 0) (n1 := 0) X (cX12_newTransition_ok X.2.2.2.2.2.2.2.2.1 w) lkX12_167 hh (q9 := (RX12, TX12, 42)) rfl rfl dX12_readsTransition_100 ⟨Nat.le_of_ble_eq_true rfl, Nat.le_of_ble_eq_true rfl⟩ rfl (Nat.le_of_ble_eq_true rfl) ⟨Nat.le_of_ble_eq_true rfl, Nat.le_of_ble_eq_true rfl⟩ (Nat.le_of_ble_eq_true rfl) (Nat.le_of_ble_eq_true rfl) (fun h12 w9 => ?_)
      replace w := w9
      clear w9
      exact V.sub [2, 1] rfl (tX12_readsTransition_b103 X  w)
def vX12_readsTransition_b45  (Qn : gH → Prop) (h : gH) (v0 : Nat) (s0 : Nat) : Prop := vX12_readsTransition_b46  Qn h v0 0 s0
set_option maxRecDepth 100000 in
set_option maxHeartbeats 4000000 in
theorem tX12_readsTransition_b45 {p : Program} {l : Launch} {e : Env} {s : State} {m : MethodId} {args : Array Value} {below : List Frame} {meth : Method} {c : Code} {G : gG} {A : Nat → Prop} {Qn : gH → Prop} (X : gC p l s m args meth c G A cX12_readsTransition 3 none RX12)   {h : gH} {v0 : Nat} {s0 : Nat} (w : vX12_readsTransition_b45  Qn h v0 s0) : V p l e rmX12_readsTransition s m args below meth c (MQ below (va_Qv Qn (gB G A) A) args s rmX12_readsTransition.cells rmX12_readsTransition.slots A) G A 3 h 0 0 45 [(0, .ref v0)] [.ref s0] := by
  refine V_iconst (y := 0) X dX12_readsTransition_45 (by decide) ?_
  exact V.sub [0] rfl (tX12_readsTransition_b46 X  w)
def vX12_readsTransition_b35  (Qn : gH → Prop) (h : gH) (v0 : Nat) (s0 : Int32) (s1 : Int32) (s2 : Nat) : Prop := ((24 ≤ ((s1 + s0) : Int32)) → (vX12_readsTransition_b45  Qn h v0 s2)) ∧ ((¬ 24 ≤ ((s1 + s0) : Int32)) → (vX12_readsTransition_b46  Qn h v0 1 s2))
set_option maxRecDepth 100000 in
set_option maxHeartbeats 4000000 in
theorem tX12_readsTransition_b35 {p : Program} {l : Launch} {e : Env} {s : State} {m : MethodId} {args : Array Value} {below : List Frame} {meth : Method} {c : Code} {G : gG} {A : Nat → Prop} {Qn : gH → Prop} (X : gC p l s m args meth c G A cX12_readsTransition 3 none RX12)   {h : gH} {v0 : Nat} {s0 : Int32} {s1 : Int32} {s2 : Nat} (w : vX12_readsTransition_b35  Qn h v0 s0 s1 s2) : V p l e rmX12_readsTransition s m args below meth c (MQ below (va_Qv Qn (gB G A) A) args s rmX12_readsTransition.cells rmX12_readsTransition.slots A) G A 3 h 0 0 35 [(0, .ref v0)] [.int s0, .int s1, .ref s2] := by
  refine V_iadd X dX12_readsTransition_35 ?_
  refine V_bipush (y := 24) X dX12_readsTransition_36 (by decide) ?_
  obtain ⟨w1, w2⟩ := w
  refine V_icmp_ge (tgt := 45) X dX12_readsTransition_38 (by decide) (fun z => ?_) (fun z => ?_)
  · replace w := w1 z
    clear w1 w2
    exact V.sub [0] rfl (tX12_readsTransition_b45 X  w)
  · replace w := w2 z
    clear w1 w2
    refine V_iconst (y := 1) X dX12_readsTransition_41 (by decide) ?_
    refine V_goto (tgt := 46) X dX12_readsTransition_42 (by decide) ?_
    exact V.sub [0] rfl (tX12_readsTransition_b46 X  w)
def vX12_readsTransition  (Qn : gH → Prop) (h : gH) (v0 : Nat) : Prop := io h v0 15 (vX12_skips (fun h1 => gi h1 v0 15 30 (fun x2 => gi h1 v0 15 24 (fun x3 => ((x3 ≤ (x2 : Int32)) → (vX12_readsTransition_b45  Qn h1 v0 v0)) ∧ ((¬ x3 ≤ (x2 : Int32)) → (gi h1 v0 15 21 (fun x4 => gi h1 v0 15 32 (fun x5 => (((x5 : Int32) = 0) → (gi h1 v0 15 34 (fun x6 => vX12_readsTransition_b35  Qn h1 v0 x6 x4 v0))) ∧ ((¬ (x5 : Int32) = 0) → (vX12_readsTransition_b35  Qn h1 v0 0 x4 v0))))))))) h v0 )
set_option maxRecDepth 100000 in
set_option maxHeartbeats 4000000 in
theorem tX12_readsTransition {p : Program} {l : Launch} {e : Env} {s : State} {m : MethodId} {args : Array Value} {below : List Frame} {meth : Method} {c : Code} {G : gG} {A : Nat → Prop} {Qn : gH → Prop} (X : gC p l s m args meth c G A cX12_readsTransition 3 none RX12)   {h : gH} {v0 : Nat} (w : vX12_readsTransition  Qn h v0) : V p l e rmX12_readsTransition s m args below meth c (MQ below (va_Qv Qn (gB G A) A) args s rmX12_readsTransition.cells rmX12_readsTransition.slots A) G A 3 h 0 0 0 [(0, .ref v0)] [] := by
  refine V_aloadr_n X dX12_readsTransition_0 0 rfl ?_
  obtain ⟨fs, hh, w⟩ := w
  refine V_callVv (As := []) (rest := []) (k1 := 0) (n1 := 0) X (cX12_skips_ok X.2.2.2.2.2.2.2.2.1 w) lkX12_194 hh (q9 := (RX12, TX12, 42)) rfl rfl dX12_readsTransition_1 ⟨Nat.le_of_ble_eq_true rfl, Nat.le_of_ble_eq_true rfl⟩ rfl (Nat.le_of_ble_eq_true rfl) ⟨Nat.le_of_ble_eq_true rfl, Nat.le_of_ble_eq_true rfl⟩ (Nat.le_of_ble_eq_true rfl) (Nat.le_of_ble_eq_true rfl) (fun h1 w9 => ?_)
  replace w := w9
  clear w9
  refine V_aloadr_n X dX12_readsTransition_4 0 rfl ?_
  refine V_aloadr_n X dX12_readsTransition_5 0 rfl ?_
  obtain ⟨fs, x2, hh, hv, w⟩ := w
  refine V_get X flX12_191 dX12_readsTransition_6 hh hv ?_
  refine V_aloadr_n X dX12_readsTransition_9 0 rfl ?_
  obtain ⟨fs, x3, hh, hv, w⟩ := w
  refine V_get X flX12_188 dX12_readsTransition_10 hh hv ?_
  obtain ⟨w1, w2⟩ := w
  refine V_icmp_ge (tgt := 45) X dX12_readsTransition_13 (by decide) (fun z => ?_) (fun z => ?_)
  · replace w := w1 z
    clear w1 w2
    exact V.sub [0] rfl (tX12_readsTransition_b45 X  w)
  · replace w := w2 z
    clear w1 w2
    refine V_aloadr_n X dX12_readsTransition_16 0 rfl ?_
    obtain ⟨fs, x4, hh, hv, w⟩ := w
    refine V_get X flX12_159 dX12_readsTransition_17 hh hv ?_
    refine V_aloadr_n X dX12_readsTransition_20 0 rfl ?_
    obtain ⟨fs, x5, hh, hv, w⟩ := w
    refine V_get X flX12_211 dX12_readsTransition_21 hh hv ?_
    obtain ⟨w1, w2⟩ := w
    refine V_if_eq (tgt := 31) X dX12_readsTransition_24 (by decide) (fun z => ?_) (fun z => ?_)
    · replace w := w1 z
      clear w1 w2
      refine V_aloadr_n X dX12_readsTransition_31 0 rfl ?_
      obtain ⟨fs, x6, hh, hv, w⟩ := w
      refine V_get X flX12_214 dX12_readsTransition_32 hh hv ?_
      exact V.sub [0] rfl (tX12_readsTransition_b35 X  w)
    · replace w := w2 z
      clear w1 w2
      refine V_iconst (y := 0) X dX12_readsTransition_27 (by decide) ?_
      refine V_goto (tgt := 35) X dX12_readsTransition_28 (by decide) ?_
      exact V.sub [0] rfl (tX12_readsTransition_b35 X  w)
theorem cX12_readsTransition_ok {l : Launch} {G : gG} {h : gH} (hls : l.stackTraces = false) {Qn : gH → Prop} {v0 : Nat} (w : vX12_readsTransition Qn h v0) : gMv l yX12_readsTransition cX12_readsTransition 3 none rmX12_readsTransition rmX12_readsTransition.cells rmX12_readsTransition.slots G h [.ref v0] Qn := by
  exact gMv.of (by decide +kernel) hls (Nat.le_of_ble_eq_true rfl) rfl rfl (fun p e s m below meth c A X hnm => tX12_readsTransition X w)
/-! AnimationControllerModel.readsAll(Z)Z -/
abbrev rmX12_readsAll : Room := { frames := 5, cells := 0, slots := 0, locals := 117 }
def vX12_readsAll_b82  (Qn : Int32 → gH → Prop) (h : gH) (v0 : Nat) : Prop := gi h v0 15 31 (fun x1 => gZ x1 ∧ Qn x1 h)
set_option maxRecDepth 100000 in
set_option maxHeartbeats 4000000 in
theorem tX12_readsAll_b82 {p : Program} {l : Launch} {e : Env} {s : State} {m : MethodId} {args : Array Value} {below : List Frame} {meth : Method} {c : Code} {G : gG} {A : Nat → Prop} {Qn : Int32 → gH → Prop} (X : gC p l s m args meth c G A cX12_readsAll 2 (some FieldType.boolean) RX12)   {h : gH} {v0 : Nat} (w : vX12_readsAll_b82  Qn h v0) : V p l e rmX12_readsAll s m args below meth c (MQ below (va_Qi Qn (gB G A) A) args s rmX12_readsAll.cells rmX12_readsAll.slots A) G A 2 h 0 0 82 [(0, .ref v0)] [] := by
  refine V_aloadr_n X dX12_readsAll_82 0 rfl ?_
  obtain ⟨fs, x1, hh, hv, w⟩ := w
  refine V_get X flX12_197 dX12_readsAll_83 hh hv ?_
  obtain ⟨hz, w⟩ := w
  exact V_zret X rfl hz.1 dX12_readsAll_86 (Nat.le_of_ble_eq_true rfl) (Nat.le_of_ble_eq_true rfl) w
def vX12_readsAll_b33_o (k33 : gH → Nat → Prop) (Qn : Int32 → gH → Prop) (h : gH) (v0 : Nat) : Prop := gi h v0 15 31 (fun x1 => (((x1 : Int32) = 0) → (vX12_readsAll_b82  Qn h v0)) ∧ ((¬ (x1 : Int32) = 0) → (gi h v0 15 30 (fun x2 => gi h v0 15 24 (fun x3 => ((x3 ≤ (x2 : Int32)) → (vX12_readsAll_b82  Qn h v0)) ∧ ((¬ x3 ≤ (x2 : Int32)) → (gi h v0 15 30 (fun x4 => pv h v0 15 30 (.int (x4 + 1)) (fun h5 => io h5 v0 15 (vX12_readsTransition (fun h6 => gi h6 v0 15 34 (fun x7 => pv h6 v0 15 34 (.int (x7 + 1)) (fun h8 => io h8 v0 15 (vX12_skips (fun h9 => k33 h9 v0) h8 v0 )))) h5 v0 ))))))))))
set_option maxRecDepth 100000 in
set_option maxHeartbeats 4000000 in
theorem tX12_readsAll_b33_o {p : Program} {l : Launch} {e : Env} {s : State} {m : MethodId} {args : Array Value} {below : List Frame} {meth : Method} {c : Code} {G : gG} {A : Nat → Prop} {Qn : Int32 → gH → Prop} (X : gC p l s m args meth c G A cX12_readsAll 2 (some FieldType.boolean) RX12) {k33 : gH → Nat → Prop} (H33 : ∀ (h : gH) (v0 : Nat), k33 h v0 → V p l e rmX12_readsAll s m args below meth c (MQ below (va_Qi Qn (gB G A) A) args s rmX12_readsAll.cells rmX12_readsAll.slots A) G A 2 h 0 0 33 [(0, .ref v0)] []) {h : gH} {v0 : Nat} (w : vX12_readsAll_b33_o k33 Qn h v0) : V p l e rmX12_readsAll s m args below meth c (MQ below (va_Qi Qn (gB G A) A) args s rmX12_readsAll.cells rmX12_readsAll.slots A) G A 2 h 0 0 33 [(0, .ref v0)] [] := by
  refine V_aloadr_n X dX12_readsAll_33 0 rfl ?_
  obtain ⟨fs, x1, hh, hv, w⟩ := w
  refine V_get X flX12_197 dX12_readsAll_34 hh hv ?_
  obtain ⟨w1, w2⟩ := w
  refine V_if_eq (tgt := 82) X dX12_readsAll_37 (by decide) (fun z => ?_) (fun z => ?_)
  · replace w := w1 z
    clear w1 w2
    exact V.sub [0] rfl (tX12_readsAll_b82 X  w)
  · replace w := w2 z
    clear w1 w2
    refine V_aloadr_n X dX12_readsAll_40 0 rfl ?_
    obtain ⟨fs, x2, hh, hv, w⟩ := w
    refine V_get X flX12_191 dX12_readsAll_41 hh hv ?_
    refine V_aloadr_n X dX12_readsAll_44 0 rfl ?_
    obtain ⟨fs, x3, hh, hv, w⟩ := w
    refine V_get X flX12_188 dX12_readsAll_45 hh hv ?_
    obtain ⟨w1, w2⟩ := w
    refine V_icmp_ge (tgt := 82) X dX12_readsAll_48 (by decide) (fun z => ?_) (fun z => ?_)
    · replace w := w1 z
      clear w1 w2
      exact V.sub [0] rfl (tX12_readsAll_b82 X  w)
    · replace w := w2 z
      clear w1 w2
      refine V_aloadr_n X dX12_readsAll_51 0 rfl ?_
      refine V_dup X dX12_readsAll_52 rfl ?_
      obtain ⟨fs, x4, hh, hv, w⟩ := w
      refine V_get X flX12_191 dX12_readsAll_53 hh hv ?_
      refine V_iconst (y := 1) X dX12_readsAll_56 (by decide) ?_
      refine V_iadd X dX12_readsAll_57 ?_
      obtain ⟨fs, hh, hv, w⟩ := w
      refine V_put X flX12_191 dX12_readsAll_58 hh hv rfl rfl ?_
      generalize va_up _ _ _ = h5 at w ⊢
      refine V_aloadr_n X dX12_readsAll_61 0 rfl ?_
      obtain ⟨fs, hh, w⟩ := w
      refine V_callVv (As := []) (rest := []) (k1 := 0) (n1 := 0) X (cX12_readsTransition_ok X.2.2.2.2.2.2.2.2.1 w) lkX12_244 hh (q9 := (RX12, TX12, 42)) rfl rfl dX12_readsAll_62 ⟨Nat.le_of_ble_eq_true rfl, Nat.le_of_ble_eq_true rfl⟩ rfl (Nat.le_of_ble_eq_true rfl) ⟨Nat.le_of_ble_eq_true rfl, Nat.le_of_ble_eq_true rfl⟩ (Nat.le_of_ble_eq_true rfl) (Nat.le_of_ble_eq_true rfl) (fun h6 w9 => ?_)
      replace w := w9
      clear w9
      refine V_aloadr_n X dX12_readsAll_65 0 rfl ?_
      refine V_dup X dX12_readsAll_66 rfl ?_
      obtain ⟨fs, x7, hh, hv, w⟩ := w
      refine V_get X flX12_214 dX12_readsAll_67 hh hv ?_
      refine V_iconst (y := 1) X dX12_readsAll_70 (by decide) ?_
      refine V_iadd X dX12_readsAll_71 ?_
      obtain ⟨fs, hh, hv, w⟩ := w
      refine V_put X flX12_214 dX12_readsAll_72 hh hv rfl rfl ?_
      generalize va_up _ _ _ = h8 at w ⊢
      refine V_aloadr_n X dX12_readsAll_75 0 rfl ?_
      obtain ⟨fs, hh, w⟩ := w
      refine V_callVv (As := []) (rest := []) (k1 := 0) (n1 := 0) X (cX12_skips_ok X.2.2.2.2.2.2.2.2.1 w) lkX12_194 hh (q9 := (RX12, TX12, 42)) rfl rfl dX12_readsAll_76 ⟨Nat.le_of_ble_eq_true rfl, Nat.le_of_ble_eq_true rfl⟩ rfl (Nat.le_of_ble_eq_true rfl) ⟨Nat.le_of_ble_eq_true rfl, Nat.le_of_ble_eq_true rfl⟩ (Nat.le_of_ble_eq_true rfl) (Nat.le_of_ble_eq_true rfl) (fun h9 w9 => ?_)
      replace w := w9
      clear w9
      refine V_goto (tgt := 33) X dX12_readsAll_79 (by decide) ?_
      exact V.sub [0] rfl (H33 _ _ w)
def vX12_readsAll_b33  (Qn : Int32 → gH → Prop) (n : Nat) : gH → Nat → Prop := Nat.rec (motive := fun _ => gH → Nat → Prop) (fun _ _ => False) (fun _ k33 => vX12_readsAll_b33_o k33 Qn) n
theorem tX12_readsAll_b33 {p : Program} {l : Launch} {e : Env} {s : State} {m : MethodId} {args : Array Value} {below : List Frame} {meth : Method} {c : Code} {G : gG} {A : Nat → Prop} {Qn : Int32 → gH → Prop} (X : gC p l s m args meth c G A cX12_readsAll 2 (some FieldType.boolean) RX12)   : ∀ (n : Nat) (h : gH) (v0 : Nat) (w : vX12_readsAll_b33  Qn n h v0), V p l e rmX12_readsAll s m args below meth c (MQ below (va_Qi Qn (gB G A) A) args s rmX12_readsAll.cells rmX12_readsAll.slots A) G A 2 h 0 0 33 [(0, .ref v0)] [] := by
  intro n
  induction n with
  | zero => intro h v0 w; exact False.elim w
  | succ n ih => intro h v0 w; exact tX12_readsAll_b33_o X ih w
def vX12_readsAll  (Qn : Int32 → gH → Prop) (h : gH) (v0 : Nat) (v1 : Int32) : Prop := gZ v1 ∧ (pv h v0 15 32 (.int v1) (fun h1 => pv h1 v0 15 30 (.int 0) (fun h2 => pv h2 v0 15 34 (.int 0) (fun h3 => io h3 v0 15 (vX12_readsTransition (fun h4 => gi h4 v0 15 34 (fun x5 => pv h4 v0 15 34 (.int (x5 + 1)) (fun h6 => io h6 v0 15 (vX12_skips (fun h7 => ∃ n : Nat, vX12_readsAll_b33  Qn n h7 v0) h6 v0 )))) h3 v0 )))))
set_option maxRecDepth 100000 in
set_option maxHeartbeats 4000000 in
theorem tX12_readsAll {p : Program} {l : Launch} {e : Env} {s : State} {m : MethodId} {args : Array Value} {below : List Frame} {meth : Method} {c : Code} {G : gG} {A : Nat → Prop} {Qn : Int32 → gH → Prop} (X : gC p l s m args meth c G A cX12_readsAll 2 (some FieldType.boolean) RX12)   {h : gH} {v0 : Nat} {v1 : Int32} (w : vX12_readsAll  Qn h v0 v1) : V p l e rmX12_readsAll s m args below meth c (MQ below (va_Qi Qn (gB G A) A) args s rmX12_readsAll.cells rmX12_readsAll.slots A) G A 2 h 0 0 0 [(0, .ref v0), (1, .int v1)] [] := by
  refine V_aloadr_n X dX12_readsAll_0 0 rfl ?_
  refine V_iload_n X dX12_readsAll_1 1 rfl ?_
  obtain ⟨hz, w⟩ := w
  obtain ⟨fs, hh, hv, w⟩ := w
  refine V_put X flX12_211 dX12_readsAll_2 hh hv hz.1 hz.2 ?_
  generalize va_up _ _ _ = h1 at w ⊢
  refine V_aloadr_n X dX12_readsAll_5 0 rfl ?_
  refine V_iconst (y := 0) X dX12_readsAll_6 (by decide) ?_
  obtain ⟨fs, hh, hv, w⟩ := w
  refine V_put X flX12_191 dX12_readsAll_7 hh hv rfl rfl ?_
  generalize va_up _ _ _ = h2 at w ⊢
  refine V_aloadr_n X dX12_readsAll_10 0 rfl ?_
  refine V_iconst (y := 0) X dX12_readsAll_11 (by decide) ?_
  obtain ⟨fs, hh, hv, w⟩ := w
  refine V_put X flX12_214 dX12_readsAll_12 hh hv rfl rfl ?_
  generalize va_up _ _ _ = h3 at w ⊢
  refine V_aloadr_n X dX12_readsAll_15 0 rfl ?_
  obtain ⟨fs, hh, w⟩ := w
  refine V_callVv (As := []) (rest := []) (k1 := 0) (n1 := 0) X (cX12_readsTransition_ok X.2.2.2.2.2.2.2.2.1 w) lkX12_244 hh (q9 := (RX12, TX12, 42)) rfl rfl dX12_readsAll_16 ⟨Nat.le_of_ble_eq_true rfl, Nat.le_of_ble_eq_true rfl⟩ rfl (Nat.le_of_ble_eq_true rfl) ⟨Nat.le_of_ble_eq_true rfl, Nat.le_of_ble_eq_true rfl⟩ (Nat.le_of_ble_eq_true rfl) (Nat.le_of_ble_eq_true rfl) (fun h4 w9 => ?_)
  replace w := w9
  clear w9
  refine V_aloadr_n X dX12_readsAll_19 0 rfl ?_
  refine V_dup X dX12_readsAll_20 rfl ?_
  obtain ⟨fs, x5, hh, hv, w⟩ := w
  refine V_get X flX12_214 dX12_readsAll_21 hh hv ?_
  refine V_iconst (y := 1) X dX12_readsAll_24 (by decide) ?_
  refine V_iadd X dX12_readsAll_25 ?_
  obtain ⟨fs, hh, hv, w⟩ := w
  refine V_put X flX12_214 dX12_readsAll_26 hh hv rfl rfl ?_
  generalize va_up _ _ _ = h6 at w ⊢
  refine V_aloadr_n X dX12_readsAll_29 0 rfl ?_
  obtain ⟨fs, hh, w⟩ := w
  refine V_callVv (As := []) (rest := []) (k1 := 0) (n1 := 0) X (cX12_skips_ok X.2.2.2.2.2.2.2.2.1 w) lkX12_194 hh (q9 := (RX12, TX12, 42)) rfl rfl dX12_readsAll_30 ⟨Nat.le_of_ble_eq_true rfl, Nat.le_of_ble_eq_true rfl⟩ rfl (Nat.le_of_ble_eq_true rfl) ⟨Nat.le_of_ble_eq_true rfl, Nat.le_of_ble_eq_true rfl⟩ (Nat.le_of_ble_eq_true rfl) (Nat.le_of_ble_eq_true rfl) (fun h7 w9 => ?_)
  replace w := w9
  clear w9
  obtain ⟨n9, w⟩ := w
  exact V.sub [0] rfl (tX12_readsAll_b33 X  n9 _ _ w)
theorem cX12_readsAll_ok {l : Launch} {G : gG} {h : gH} (hls : l.stackTraces = false) {Qn : Int32 → gH → Prop} {v0 : Nat} {v1 : Int32} (w : vX12_readsAll Qn h v0 v1) : gMi l yX12_readsAll cX12_readsAll 2 (some FieldType.boolean) rmX12_readsAll rmX12_readsAll.cells rmX12_readsAll.slots G h [.ref v0, .int v1] Qn := by
  exact gMi.of (by decide +kernel) hls (Nat.le_of_ble_eq_true rfl) rfl rfl (fun p e s m below meth c A X hnm => tX12_readsAll X w)
/-! AnimationControllerModel.fault()I -/
abbrev rmX12_fault : Room := { frames := 6, cells := 0, slots := 0, locals := 138 }
def vX12_fault_b21  (Qn : Int32 → gH → Prop) (h : gH) (s0 : Int32) : Prop := Qn s0 h
set_option maxRecDepth 100000 in
set_option maxHeartbeats 4000000 in
theorem tX12_fault_b21 {p : Program} {l : Launch} {e : Env} {s : State} {m : MethodId} {args : Array Value} {below : List Frame} {meth : Method} {c : Code} {G : gG} {A : Nat → Prop} {Qn : Int32 → gH → Prop} (X : gC p l s m args meth c G A cX12_fault 1 (some FieldType.int) RX12)   {h : gH} {s0 : Int32} (w : vX12_fault_b21  Qn h s0) : V p l e rmX12_fault s m args below meth c (MQ below (va_Qi Qn (gB G A) A) args s rmX12_fault.cells rmX12_fault.slots A) G A 1 h 0 0 21 [] [.int s0] := by
  exact V_iret X rfl dX12_fault_21 (Nat.le_of_ble_eq_true rfl) (Nat.le_of_ble_eq_true rfl) w
def vX12_fault  (Qn : Int32 → gH → Prop) (h : gH) (v0 : Nat) : Prop := pv h v0 15 25 (.int 0) (fun h1 => io h1 v0 15 (vX12_readsAll (fun x3 h2 => (((x3 : Int32) = 0) → (gi h2 v0 15 30 (fun x4 => vX12_fault_b21  Qn h2 x4))) ∧ ((¬ (x3 : Int32) = 0) → (vX12_fault_b21  Qn h2 (-1)))) h1 v0 0))
set_option maxRecDepth 100000 in
set_option maxHeartbeats 4000000 in
theorem tX12_fault {p : Program} {l : Launch} {e : Env} {s : State} {m : MethodId} {args : Array Value} {below : List Frame} {meth : Method} {c : Code} {G : gG} {A : Nat → Prop} {Qn : Int32 → gH → Prop} (X : gC p l s m args meth c G A cX12_fault 1 (some FieldType.int) RX12)   {h : gH} {v0 : Nat} (w : vX12_fault  Qn h v0) : V p l e rmX12_fault s m args below meth c (MQ below (va_Qi Qn (gB G A) A) args s rmX12_fault.cells rmX12_fault.slots A) G A 1 h 0 0 0 [(0, .ref v0)] [] := by
  refine V_aloadr_n X dX12_fault_0 0 rfl ?_
  refine V_iconst (y := 0) X dX12_fault_1 (by decide) ?_
  obtain ⟨fs, hh, hv, w⟩ := w
  refine V_put X flX12_94 dX12_fault_2 hh hv rfl rfl ?_
  generalize va_up _ _ _ = h1 at w ⊢
  refine V_aloadr_n X dX12_fault_5 0 rfl ?_
  refine V_iconst (y := 0) X dX12_fault_6 (by decide) ?_
  obtain ⟨fs, hh, w⟩ := w
  refine V_callVi (As := [.int 0]) (rest := []) (k1 := 0) (n1 := 0) X (cX12_readsAll_ok X.2.2.2.2.2.2.2.2.1 w) lkX12_247 hh (q9 := (RX12, TX12, 42)) rfl rfl dX12_fault_7 ⟨Nat.le_of_ble_eq_true rfl, Nat.le_of_ble_eq_true rfl⟩ rfl (Nat.le_of_ble_eq_true rfl) ⟨Nat.le_of_ble_eq_true rfl, Nat.le_of_ble_eq_true rfl⟩ (Nat.le_of_ble_eq_true rfl) (Nat.le_of_ble_eq_true rfl) (fun x3 h2 w9 => ?_)
  replace w := w9
  clear w9
  obtain ⟨w1, w2⟩ := w
  refine V_if_eq (tgt := 17) X dX12_fault_10 (by decide) (fun z => ?_) (fun z => ?_)
  · replace w := w1 z
    clear w1 w2
    refine V_aloadr_n X dX12_fault_17 0 rfl ?_
    obtain ⟨fs, x4, hh, hv, w⟩ := w
    refine V_get X flX12_191 dX12_fault_18 hh hv ?_
    exact V.sub [] rfl (tX12_fault_b21 X  w)
  · replace w := w2 z
    clear w1 w2
    refine V_iconst (y := (-1)) X dX12_fault_13 (by decide) ?_
    refine V_goto (tgt := 21) X dX12_fault_14 (by decide) ?_
    exact V.sub [] rfl (tX12_fault_b21 X  w)
theorem cX12_fault_ok {l : Launch} {G : gG} {h : gH} (hls : l.stackTraces = false) {Qn : Int32 → gH → Prop} {v0 : Nat} (w : vX12_fault Qn h v0) : gMi l yX12_fault cX12_fault 1 (some FieldType.int) rmX12_fault rmX12_fault.cells rmX12_fault.slots G h [.ref v0] Qn := by
  exact gMi.of (by decide +kernel) hls (Nat.le_of_ble_eq_true rfl) rfl rfl (fun p e s m below meth c A X hnm => tX12_fault X w)
/-! AnimationControllerModel.load()I -/
abbrev rmX12_load : Room := { frames := 6, cells := 0, slots := 0, locals := 138 }
def vX12_load  (Qn : Int32 → gH → Prop) (h : gH) (v0 : Nat) : Prop := pv h v0 15 25 (.int 0) (fun h1 => io h1 v0 15 (vX12_readsAll (fun x3 h2 => ((¬ (x3 : Int32) = 0) → (io h2 v0 15 (vX12_readsAll (fun x5 h4 => pv h4 v0 15 24 (.int 0) (fun h6 => gi h6 v0 15 34 (fun x7 => Qn x7 h6))) h2 v0 1))) ∧ (((x3 : Int32) = 0) → (io h2 v0 15 (vX12_fails (fun x9 h8 => Qn x9 h8) h2 v0 1)))) h1 v0 0))
set_option maxRecDepth 100000 in
set_option maxHeartbeats 4000000 in
theorem tX12_load {p : Program} {l : Launch} {e : Env} {s : State} {m : MethodId} {args : Array Value} {below : List Frame} {meth : Method} {c : Code} {G : gG} {A : Nat → Prop} {Qn : Int32 → gH → Prop} (X : gC p l s m args meth c G A cX12_load 1 (some FieldType.int) RX12)   {h : gH} {v0 : Nat} (w : vX12_load  Qn h v0) : V p l e rmX12_load s m args below meth c (MQ below (va_Qi Qn (gB G A) A) args s rmX12_load.cells rmX12_load.slots A) G A 1 h 0 0 0 [(0, .ref v0)] [] := by
  refine V_aloadr_n X dX12_load_0 0 rfl ?_
  refine V_iconst (y := 0) X dX12_load_1 (by decide) ?_
  obtain ⟨fs, hh, hv, w⟩ := w
  refine V_put X flX12_94 dX12_load_2 hh hv rfl rfl ?_
  generalize va_up _ _ _ = h1 at w ⊢
  refine V_aloadr_n X dX12_load_5 0 rfl ?_
  refine V_iconst (y := 0) X dX12_load_6 (by decide) ?_
  obtain ⟨fs, hh, w⟩ := w
  refine V_callVi (As := [.int 0]) (rest := []) (k1 := 0) (n1 := 0) X (cX12_readsAll_ok X.2.2.2.2.2.2.2.2.1 w) lkX12_247 hh (q9 := (RX12, TX12, 42)) rfl rfl dX12_load_7 ⟨Nat.le_of_ble_eq_true rfl, Nat.le_of_ble_eq_true rfl⟩ rfl (Nat.le_of_ble_eq_true rfl) ⟨Nat.le_of_ble_eq_true rfl, Nat.le_of_ble_eq_true rfl⟩ (Nat.le_of_ble_eq_true rfl) (Nat.le_of_ble_eq_true rfl) (fun x3 h2 w9 => ?_)
  replace w := w9
  clear w9
  obtain ⟨w1, w2⟩ := w
  refine V_if_ne (tgt := 19) X dX12_load_10 (by decide) (fun z => ?_) (fun z => ?_)
  · replace w := w1 z
    clear w1 w2
    refine V_aloadr_n X dX12_load_19 0 rfl ?_
    refine V_iconst (y := 1) X dX12_load_20 (by decide) ?_
    obtain ⟨fs, hh, w⟩ := w
    refine V_callVi (As := [.int 1]) (rest := []) (k1 := 0) (n1 := 0) X (cX12_readsAll_ok X.2.2.2.2.2.2.2.2.1 w) lkX12_247 hh (q9 := (RX12, TX12, 42)) rfl rfl dX12_load_21 ⟨Nat.le_of_ble_eq_true rfl, Nat.le_of_ble_eq_true rfl⟩ rfl (Nat.le_of_ble_eq_true rfl) ⟨Nat.le_of_ble_eq_true rfl, Nat.le_of_ble_eq_true rfl⟩ (Nat.le_of_ble_eq_true rfl) (Nat.le_of_ble_eq_true rfl) (fun x5 h4 w9 => ?_)
    replace w := w9
    clear w9
    refine V_pop X dX12_load_24 rfl ?_
    refine V_aloadr_n X dX12_load_25 0 rfl ?_
    refine V_iconst (y := 0) X dX12_load_26 (by decide) ?_
    obtain ⟨fs, hh, hv, w⟩ := w
    refine V_put X flX12_188 dX12_load_27 hh hv rfl rfl ?_
    generalize va_up _ _ _ = h6 at w ⊢
    refine V_aloadr_n X dX12_load_30 0 rfl ?_
    obtain ⟨fs, x7, hh, hv, w⟩ := w
    refine V_get X flX12_214 dX12_load_31 hh hv ?_
    exact V_iret X rfl dX12_load_34 (Nat.le_of_ble_eq_true rfl) (Nat.le_of_ble_eq_true rfl) w
  · replace w := w2 z
    clear w1 w2
    refine V_aloadr_n X dX12_load_13 0 rfl ?_
    refine V_iconst (y := 1) X dX12_load_14 (by decide) ?_
    obtain ⟨fs, hh, w⟩ := w
    refine V_callVi (As := [.int 1]) (rest := []) (k1 := 0) (n1 := 0) X (cX12_fails_ok X.2.2.2.2.2.2.2.2.1 w) lkX12_103 hh (q9 := (RX12, TX12, 42)) rfl rfl dX12_load_15 ⟨Nat.le_of_ble_eq_true rfl, Nat.le_of_ble_eq_true rfl⟩ rfl (Nat.le_of_ble_eq_true rfl) ⟨Nat.le_of_ble_eq_true rfl, Nat.le_of_ble_eq_true rfl⟩ (Nat.le_of_ble_eq_true rfl) (Nat.le_of_ble_eq_true rfl) (fun x9 h8 w9 => ?_)
    replace w := w9
    clear w9
    exact V_iret X rfl dX12_load_18 (Nat.le_of_ble_eq_true rfl) (Nat.le_of_ble_eq_true rfl) w
theorem cX12_load_ok {l : Launch} {G : gG} {h : gH} (hls : l.stackTraces = false) {Qn : Int32 → gH → Prop} {v0 : Nat} (w : vX12_load Qn h v0) : gMi l yX12_load cX12_load 1 (some FieldType.int) rmX12_load rmX12_load.cells rmX12_load.slots G h [.ref v0] Qn := by
  exact gMi.of (by decide +kernel) hls (Nat.le_of_ble_eq_true rfl) rfl rfl (fun p e s m below meth c A X hnm => tX12_load X w)
/-! AnimationControllerModel.lengthOf(I)J -/
abbrev rmX12_lengthOf : Room := { frames := 2, cells := 0, slots := 0, locals := 56 }
def vX12_lengthOf_b71  (Qn : Int64 → gH → Prop) (h : gH) (s0 : Int64) : Prop := Qn s0 h
set_option maxRecDepth 100000 in
set_option maxHeartbeats 4000000 in
theorem tX12_lengthOf_b71 {p : Program} {l : Launch} {e : Env} {s : State} {m : MethodId} {args : Array Value} {below : List Frame} {meth : Method} {c : Code} {G : gG} {A : Nat → Prop} {Qn : Int64 → gH → Prop} (X : gC p l s m args meth c G A cX12_lengthOf 5 (some FieldType.long) RX12)   {h : gH} {s0 : Int64} (w : vX12_lengthOf_b71  Qn h s0) : V p l e rmX12_lengthOf s m args below meth c (MQ below (va_Ql Qn (gB G A) A) args s rmX12_lengthOf.cells rmX12_lengthOf.slots A) G A 5 h 0 0 71 [] [.long s0] := by
  exact V_lret X rfl dX12_lengthOf_71 (Nat.le_of_ble_eq_true rfl) (Nat.le_of_ble_eq_true rfl) w
def vX12_lengthOf_b18_o (k18 : gH → Nat → Int64 → Int32 → Prop) (Qn : Int64 → gH → Prop) (h : gH) (v0 : Nat) (v2 : Int64) (v4 : Int32) : Prop := gi h v0 15 8 (fun x1 => ((x1 ≤ (v4 : Int32)) → (¬ (1000000 : Int64) = 0 ∧ (((1 ≤ ((v2 / 1000000) : Int64)) → (¬ (1000000 : Int64) = 0 ∧ (vX12_lengthOf_b71  Qn h (v2 / 1000000)))) ∧ ((¬ 1 ≤ ((v2 / 1000000) : Int64)) → (vX12_lengthOf_b71  Qn h 1))))) ∧ ((¬ x1 ≤ (v4 : Int32)) → (gr h v0 15 27 (fun r2 => nn r2 (fun a3 => ll h a3 v4 (fun x4 => gr h v0 15 4 (fun r5 => nn r5 (fun a6 => li h a6 v4 (fun x7 => k18 h v0 (v2 + (x4 * (Int32.toInt64 x7))) (v4 + 1))))))))))
set_option maxRecDepth 100000 in
set_option maxHeartbeats 4000000 in
theorem tX12_lengthOf_b18_o {p : Program} {l : Launch} {e : Env} {s : State} {m : MethodId} {args : Array Value} {below : List Frame} {meth : Method} {c : Code} {G : gG} {A : Nat → Prop} {Qn : Int64 → gH → Prop} (X : gC p l s m args meth c G A cX12_lengthOf 5 (some FieldType.long) RX12) {k18 : gH → Nat → Int64 → Int32 → Prop} (H18 : ∀ (h : gH) (v0 : Nat) (v2 : Int64) (v4 : Int32), k18 h v0 v2 v4 → V p l e rmX12_lengthOf s m args below meth c (MQ below (va_Ql Qn (gB G A) A) args s rmX12_lengthOf.cells rmX12_lengthOf.slots A) G A 5 h 0 0 18 [(0, .ref v0), (2, .long v2), (4, .int v4)] []) {h : gH} {v0 : Nat} {v2 : Int64} {v4 : Int32} (w : vX12_lengthOf_b18_o k18 Qn h v0 v2 v4) : V p l e rmX12_lengthOf s m args below meth c (MQ below (va_Ql Qn (gB G A) A) args s rmX12_lengthOf.cells rmX12_lengthOf.slots A) G A 5 h 0 0 18 [(0, .ref v0), (2, .long v2), (4, .int v4)] [] := by
  refine V_iload X dX12_lengthOf_18 2 rfl ?_
  refine V_aloadr_n X dX12_lengthOf_20 0 rfl ?_
  obtain ⟨fs, x1, hh, hv, w⟩ := w
  refine V_get X flX12_120 dX12_lengthOf_21 hh hv ?_
  obtain ⟨w1, w2⟩ := w
  refine V_icmp_ge (tgt := 52) X dX12_lengthOf_24 (by decide) (fun z => ?_) (fun z => ?_)
  · replace w := w1 z
    clear w1 w2
    refine V_lload_n X dX12_lengthOf_52 1 rfl ?_
    refine V_ldc2 (y := 1000000) X dX12_lengthOf_53 kw_1930 ?_
    obtain ⟨z0, w⟩ := w
    refine V_ldiv X dX12_lengthOf_56 z0 ?_
    refine V_lconst (y := 1) X dX12_lengthOf_57 (by decide) ?_
    refine V_lcmp X dX12_lengthOf_58 ?_
    obtain ⟨w1, w2⟩ := w
    refine V_if_ge (tgt := 66) X dX12_lengthOf_59 (by decide) (fun z => ?_) (fun z => ?_)
    · replace w := w1 ((lg_cmp_ge _ _).mp z)
      clear w1 w2
      refine V_lload_n X dX12_lengthOf_66 1 rfl ?_
      refine V_ldc2 (y := 1000000) X dX12_lengthOf_67 kw_1930 ?_
      obtain ⟨z0, w⟩ := w
      refine V_ldiv X dX12_lengthOf_70 z0 ?_
      exact V.sub [] rfl (tX12_lengthOf_b71 X  w)
    · replace w := w2 (fun z9 => z ((lg_cmp_ge _ _).mpr z9))
      clear w1 w2
      refine V_lconst (y := 1) X dX12_lengthOf_62 (by decide) ?_
      refine V_goto (tgt := 71) X dX12_lengthOf_63 (by decide) ?_
      exact V.sub [] rfl (tX12_lengthOf_b71 X  w)
  · replace w := w2 z
    clear w1 w2
    refine V_lload_n X dX12_lengthOf_27 1 rfl ?_
    refine V_aloadr_n X dX12_lengthOf_28 0 rfl ?_
    obtain ⟨fs, r2, hh, hv, w⟩ := w
    refine V_get X flX12_72 dX12_lengthOf_29 hh hv ?_
    refine V_iload X dX12_lengthOf_32 2 rfl ?_
    obtain ⟨a3, rfl, w⟩ := w
    obtain ⟨N9, g9, hh, hi, w⟩ := w
    refine V_lald X dX12_lengthOf_34 hh hi ?_
    generalize g9 _ = x4 at w ⊢
    refine V_aloadr_n X dX12_lengthOf_35 0 rfl ?_
    obtain ⟨fs, r5, hh, hv, w⟩ := w
    refine V_get X flX12_20 dX12_lengthOf_36 hh hv ?_
    refine V_iload X dX12_lengthOf_39 2 rfl ?_
    obtain ⟨a6, rfl, w⟩ := w
    obtain ⟨N9, g9, hh, hi, w⟩ := w
    refine V_iald X dX12_lengthOf_41 hh hi ?_
    generalize g9 _ = x7 at w ⊢
    refine V_i2l X dX12_lengthOf_42 ?_
    refine V_lmul X dX12_lengthOf_43 ?_
    refine V_ladd X dX12_lengthOf_44 ?_
    refine V_lstore_n X dX12_lengthOf_45 rfl (by decide) rfl ?_
    refine V_iinc (y := (v4 + 1)) X dX12_lengthOf_46 2 rfl (by first | rfl | (congr 1)) (by decide) rfl ?_
    refine V_goto (tgt := 18) X dX12_lengthOf_49 (by decide) ?_
    exact V.sub [2, 1, 0] rfl (H18 _ _ _ _ w)
def vX12_lengthOf_b18  (Qn : Int64 → gH → Prop) (n : Nat) : gH → Nat → Int64 → Int32 → Prop := Nat.rec (motive := fun _ => gH → Nat → Int64 → Int32 → Prop) (fun _ _ _ _ => False) (fun _ k18 => vX12_lengthOf_b18_o k18 Qn) n
theorem tX12_lengthOf_b18 {p : Program} {l : Launch} {e : Env} {s : State} {m : MethodId} {args : Array Value} {below : List Frame} {meth : Method} {c : Code} {G : gG} {A : Nat → Prop} {Qn : Int64 → gH → Prop} (X : gC p l s m args meth c G A cX12_lengthOf 5 (some FieldType.long) RX12)   : ∀ (n : Nat) (h : gH) (v0 : Nat) (v2 : Int64) (v4 : Int32) (w : vX12_lengthOf_b18  Qn n h v0 v2 v4), V p l e rmX12_lengthOf s m args below meth c (MQ below (va_Ql Qn (gB G A) A) args s rmX12_lengthOf.cells rmX12_lengthOf.slots A) G A 5 h 0 0 18 [(0, .ref v0), (2, .long v2), (4, .int v4)] [] := by
  intro n
  induction n with
  | zero => intro h v0 v2 v4 w; exact False.elim w
  | succ n ih => intro h v0 v2 v4 w; exact tX12_lengthOf_b18_o X ih w
def vX12_lengthOf  (Qn : Int64 → gH → Prop) (h : gH) (v0 : Nat) (v1 : Int32) : Prop := gr h v0 15 15 (fun r1 => nn r1 (fun a2 => li h a2 v1 (fun x3 => io h v0 15 (vX12_blends (fun h4 => ∃ n : Nat, vX12_lengthOf_b18  Qn n h4 v0 0 0) h v0 x3 1000000))))
set_option maxRecDepth 100000 in
set_option maxHeartbeats 4000000 in
theorem tX12_lengthOf {p : Program} {l : Launch} {e : Env} {s : State} {m : MethodId} {args : Array Value} {below : List Frame} {meth : Method} {c : Code} {G : gG} {A : Nat → Prop} {Qn : Int64 → gH → Prop} (X : gC p l s m args meth c G A cX12_lengthOf 5 (some FieldType.long) RX12)   {h : gH} {v0 : Nat} {v1 : Int32} (w : vX12_lengthOf  Qn h v0 v1) : V p l e rmX12_lengthOf s m args below meth c (MQ below (va_Ql Qn (gB G A) A) args s rmX12_lengthOf.cells rmX12_lengthOf.slots A) G A 5 h 0 0 0 [(0, .ref v0), (1, .int v1)] [] := by
  refine V_aloadr_n X dX12_lengthOf_0 0 rfl ?_
  refine V_aloadr_n X dX12_lengthOf_1 0 rfl ?_
  obtain ⟨fs, r1, hh, hv, w⟩ := w
  refine V_get X flX12_47 dX12_lengthOf_2 hh hv ?_
  refine V_iload_n X dX12_lengthOf_5 1 rfl ?_
  obtain ⟨a2, rfl, w⟩ := w
  obtain ⟨N9, g9, hh, hi, w⟩ := w
  refine V_iald X dX12_lengthOf_6 hh hi ?_
  generalize g9 _ = x3 at w ⊢
  refine V_ldc2 (y := 1000000) X dX12_lengthOf_7 kw_1930 ?_
  obtain ⟨fs, hh, w⟩ := w
  refine V_callVv (As := [.int x3, .long 1000000]) (rest := []) (k1 := 0) (n1 := 0) X (cX12_blends_ok X.2.2.2.2.2.2.2.2.1 w) lkX12_253 hh (q9 := (RX12, TX12, 42)) rfl rfl dX12_lengthOf_10 ⟨Nat.le_of_ble_eq_true rfl, Nat.le_of_ble_eq_true rfl⟩ rfl (Nat.le_of_ble_eq_true rfl) ⟨Nat.le_of_ble_eq_true rfl, Nat.le_of_ble_eq_true rfl⟩ (Nat.le_of_ble_eq_true rfl) (Nat.le_of_ble_eq_true rfl) (fun h4 w9 => ?_)
  replace w := w9
  clear w9
  refine V_lconst (y := 0) X dX12_lengthOf_13 (by decide) ?_
  refine V_lstore_n X dX12_lengthOf_14 rfl (by decide) rfl ?_
  refine V_iconst (y := 0) X dX12_lengthOf_15 (by decide) ?_
  refine V_istore X dX12_lengthOf_16 (by decide) rfl ?_
  obtain ⟨n9, w⟩ := w
  exact V.sub [2, 1, 0] rfl (tX12_lengthOf_b18 X  n9 _ _ _ _ w)
theorem cX12_lengthOf_ok {l : Launch} {G : gG} {h : gH} (hls : l.stackTraces = false) {Qn : Int64 → gH → Prop} {v0 : Nat} {v1 : Int32} (w : vX12_lengthOf Qn h v0 v1) : gMl l yX12_lengthOf cX12_lengthOf 5 (some FieldType.long) rmX12_lengthOf rmX12_lengthOf.cells rmX12_lengthOf.slots G h [.ref v0, .int v1] Qn := by
  exact gMl.of (by decide +kernel) hls (Nat.le_of_ble_eq_true rfl) rfl rfl (fun p e s m below meth c A X hnm => tX12_lengthOf X w)
/-! AnimationControllerModel.progressOf(I)J -/
abbrev rmX12_progressOf : Room := { frames := 0, cells := 0, slots := 0, locals := 0 }
def vX12_progressOf  (Qn : Int64 → gH → Prop) (h : gH) (v0 : Nat) (v1 : Int32) : Prop := gr h v0 15 0 (fun r1 => nn r1 (fun a2 => li h a2 (v1 + 1) (fun x3 => gr h v0 15 0 (fun r4 => nn r4 (fun a5 => li h a5 (v1 + 2) (fun x6 => Qn (((Int32.toInt64 x3) * 1000000) + (Int32.toInt64 x6)) h))))))
set_option maxRecDepth 100000 in
set_option maxHeartbeats 4000000 in
theorem tX12_progressOf {p : Program} {l : Launch} {e : Env} {s : State} {m : MethodId} {args : Array Value} {below : List Frame} {meth : Method} {c : Code} {G : gG} {A : Nat → Prop} {Qn : Int64 → gH → Prop} (X : gC p l s m args meth c G A cX12_progressOf 2 (some FieldType.long) RX12)   {h : gH} {v0 : Nat} {v1 : Int32} (w : vX12_progressOf  Qn h v0 v1) : V p l e rmX12_progressOf s m args below meth c (MQ below (va_Ql Qn (gB G A) A) args s rmX12_progressOf.cells rmX12_progressOf.slots A) G A 2 h 0 0 0 [(0, .ref v0), (1, .int v1)] [] := by
  refine V_aloadr_n X dX12_progressOf_0 0 rfl ?_
  obtain ⟨fs, r1, hh, hv, w⟩ := w
  refine V_get X flX12_7 dX12_progressOf_1 hh hv ?_
  refine V_iload_n X dX12_progressOf_4 1 rfl ?_
  refine V_iconst (y := 1) X dX12_progressOf_5 (by decide) ?_
  refine V_iadd X dX12_progressOf_6 ?_
  obtain ⟨a2, rfl, w⟩ := w
  obtain ⟨N9, g9, hh, hi, w⟩ := w
  refine V_iald X dX12_progressOf_7 hh hi ?_
  generalize g9 _ = x3 at w ⊢
  refine V_i2l X dX12_progressOf_8 ?_
  refine V_ldc2 (y := 1000000) X dX12_progressOf_9 kw_1930 ?_
  refine V_lmul X dX12_progressOf_12 ?_
  refine V_aloadr_n X dX12_progressOf_13 0 rfl ?_
  obtain ⟨fs, r4, hh, hv, w⟩ := w
  refine V_get X flX12_7 dX12_progressOf_14 hh hv ?_
  refine V_iload_n X dX12_progressOf_17 1 rfl ?_
  refine V_iconst (y := 2) X dX12_progressOf_18 (by decide) ?_
  refine V_iadd X dX12_progressOf_19 ?_
  obtain ⟨a5, rfl, w⟩ := w
  obtain ⟨N9, g9, hh, hi, w⟩ := w
  refine V_iald X dX12_progressOf_20 hh hi ?_
  generalize g9 _ = x6 at w ⊢
  refine V_i2l X dX12_progressOf_21 ?_
  refine V_ladd X dX12_progressOf_22 ?_
  exact V_lret X rfl dX12_progressOf_23 (Nat.le_of_ble_eq_true rfl) (Nat.le_of_ble_eq_true rfl) w
theorem cX12_progressOf_ok {l : Launch} {G : gG} {h : gH} (hls : l.stackTraces = false) {Qn : Int64 → gH → Prop} {v0 : Nat} {v1 : Int32} (w : vX12_progressOf Qn h v0 v1) : gMl l yX12_progressOf cX12_progressOf 2 (some FieldType.long) rmX12_progressOf rmX12_progressOf.cells rmX12_progressOf.slots G h [.ref v0, .int v1] Qn := by
  exact gMl.of (by decide +kernel) hls (Nat.le_of_ble_eq_true rfl) rfl rfl (fun p e s m below meth c A X hnm => tX12_progressOf X w)
/-! AnimationControllerModel.advances(IJ)V -/
abbrev rmX12_advances : Room := { frames := 1, cells := 0, slots := 0, locals := 21 }
def vX12_advances_b97  (Qn : gH → Prop) (h : gH) (v0 : Nat) (v1 : Int32) : Prop := gr h v0 15 0 (fun r1 => nn r1 (fun a2 => si h a2 (v1 + 3) 0 (fun h3 => Qn h3)))
set_option maxRecDepth 100000 in
set_option maxHeartbeats 4000000 in
theorem tX12_advances_b97 {p : Program} {l : Launch} {e : Env} {s : State} {m : MethodId} {args : Array Value} {below : List Frame} {meth : Method} {c : Code} {G : gG} {A : Nat → Prop} {Qn : gH → Prop} (X : gC p l s m args meth c G A cX12_advances 6 none RX12)   {h : gH} {v0 : Nat} {v1 : Int32} (w : vX12_advances_b97  Qn h v0 v1) : V p l e rmX12_advances s m args below meth c (MQ below (va_Qv Qn (gB G A) A) args s rmX12_advances.cells rmX12_advances.slots A) G A 6 h 0 0 97 [(0, .ref v0), (1, .int v1)] [] := by
  refine V_aloadr_n X dX12_advances_97 0 rfl ?_
  obtain ⟨fs, r1, hh, hv, w⟩ := w
  refine V_get X flX12_7 dX12_advances_98 hh hv ?_
  refine V_iload_n X dX12_advances_101 1 rfl ?_
  refine V_iconst (y := 3) X dX12_advances_102 (by decide) ?_
  refine V_iadd X dX12_advances_103 ?_
  refine V_iconst (y := 0) X dX12_advances_104 (by decide) ?_
  obtain ⟨a2, rfl, w⟩ := w
  obtain ⟨N9, g9, hh, hi, w⟩ := w
  refine V_iast X dX12_advances_105 hh hi ?_
  generalize va_up _ _ _ = h3 at w ⊢
  exact V_vret X rfl dX12_advances_106 (Nat.le_of_ble_eq_true rfl) (Nat.le_of_ble_eq_true rfl) w
def vX12_advances_b96  (Qn : gH → Prop) (h : gH) (v0 : Nat) (v1 : Int32) (s0 : Int32) (s1 : Int32) (s2 : Option Nat) : Prop := nn s2 (fun a1 => si h a1 s1 s0 (fun h2 => vX12_advances_b97  Qn h2 v0 v1))
set_option maxRecDepth 100000 in
set_option maxHeartbeats 4000000 in
theorem tX12_advances_b96 {p : Program} {l : Launch} {e : Env} {s : State} {m : MethodId} {args : Array Value} {below : List Frame} {meth : Method} {c : Code} {G : gG} {A : Nat → Prop} {Qn : gH → Prop} (X : gC p l s m args meth c G A cX12_advances 6 none RX12)   {h : gH} {v0 : Nat} {v1 : Int32} {s0 : Int32} {s1 : Int32} {s2 : Option Nat} (w : vX12_advances_b96  Qn h v0 v1 s0 s1 s2) : V p l e rmX12_advances s m args below meth c (MQ below (va_Qv Qn (gB G A) A) args s rmX12_advances.cells rmX12_advances.slots A) G A 6 h 0 0 96 [(0, .ref v0), (1, .int v1)] [.int s0, .int s1, va_rf s2] := by
  obtain ⟨a1, rfl, w⟩ := w
  obtain ⟨N9, g9, hh, hi, w⟩ := w
  refine V_iast X dX12_advances_96 hh hi ?_
  generalize va_up _ _ _ = h2 at w ⊢
  exact V.sub [0, 1] rfl (tX12_advances_b97 X  w)
def vX12_advances  (Qn : gH → Prop) (h : gH) (v0 : Nat) (v1 : Int32) (v2 : Int64) : Prop := gr h v0 15 17 (fun r1 => gr h v0 15 0 (fun r2 => nn r2 (fun a3 => li h a3 (v1 + 0) (fun x4 => nn r1 (fun a5 => lz h a5 x4 (fun x6 => (((x6 : Int32) = 0) → (gr h v0 15 0 (fun r7 => nn r7 (fun a8 => li h a8 (v1 + 2) (fun x9 => gr h v0 15 0 (fun r10 => (((((Int32.toInt64 x9) + v2) : Int64) ≤ 1000000) → (vX12_advances_b96  Qn h v0 v1 (Int64.toInt32 ((Int32.toInt64 x9) + v2)) (v1 + 2) r10)) ∧ ((¬ (((Int32.toInt64 x9) + v2) : Int64) ≤ 1000000) → (vX12_advances_b96  Qn h v0 v1 1000000 (v1 + 2) r10)))))))) ∧ ((¬ (x6 : Int32) = 0) → (io h v0 15 (vX12_progressOf (fun x12 h11 => gr h11 v0 15 0 (fun r13 => ¬ (1000000 : Int64) = 0 ∧ (nn r13 (fun a14 => si h11 a14 (v1 + 1) (Int64.toInt32 ((x12 + v2) / 1000000)) (fun h15 => gr h15 v0 15 0 (fun r16 => ¬ (1000000 : Int64) = 0 ∧ (nn r16 (fun a17 => si h15 a17 (v1 + 2) (Int64.toInt32 ((x12 + v2) - (x12 + v2) / 1000000 * 1000000)) (fun h18 => vX12_advances_b97  Qn h18 v0 v1))))))))) h v0 v1)))))))))
set_option maxRecDepth 100000 in
set_option maxHeartbeats 4000000 in
theorem tX12_advances {p : Program} {l : Launch} {e : Env} {s : State} {m : MethodId} {args : Array Value} {below : List Frame} {meth : Method} {c : Code} {G : gG} {A : Nat → Prop} {Qn : gH → Prop} (X : gC p l s m args meth c G A cX12_advances 6 none RX12)   {h : gH} {v0 : Nat} {v1 : Int32} {v2 : Int64} (w : vX12_advances  Qn h v0 v1 v2) : V p l e rmX12_advances s m args below meth c (MQ below (va_Qv Qn (gB G A) A) args s rmX12_advances.cells rmX12_advances.slots A) G A 6 h 0 0 0 [(0, .ref v0), (1, .int v1), (2, .long v2)] [] := by
  refine V_aloadr_n X dX12_advances_0 0 rfl ?_
  obtain ⟨fs, r1, hh, hv, w⟩ := w
  refine V_get X flX12_53 dX12_advances_1 hh hv ?_
  refine V_aloadr_n X dX12_advances_4 0 rfl ?_
  obtain ⟨fs, r2, hh, hv, w⟩ := w
  refine V_get X flX12_7 dX12_advances_5 hh hv ?_
  refine V_iload_n X dX12_advances_8 1 rfl ?_
  refine V_iconst (y := 0) X dX12_advances_9 (by decide) ?_
  refine V_iadd X dX12_advances_10 ?_
  obtain ⟨a3, rfl, w⟩ := w
  obtain ⟨N9, g9, hh, hi, w⟩ := w
  refine V_iald X dX12_advances_11 hh hi ?_
  generalize g9 _ = x4 at w ⊢
  obtain ⟨a5, rfl, w⟩ := w
  obtain ⟨N9, g9, hh, hi, w⟩ := w
  refine V_zald X dX12_advances_12 hh hi ?_
  generalize g9 _ = x6 at w ⊢
  obtain ⟨w1, w2⟩ := w
  refine V_if_eq (tgt := 58) X dX12_advances_13 (by decide) (fun z => ?_) (fun z => ?_)
  · replace w := w1 z
    clear w1 w2
    refine V_aloadr_n X dX12_advances_58 0 rfl ?_
    obtain ⟨fs, r7, hh, hv, w⟩ := w
    refine V_get X flX12_7 dX12_advances_59 hh hv ?_
    refine V_iload_n X dX12_advances_62 1 rfl ?_
    refine V_iconst (y := 2) X dX12_advances_63 (by decide) ?_
    refine V_iadd X dX12_advances_64 ?_
    obtain ⟨a8, rfl, w⟩ := w
    obtain ⟨N9, g9, hh, hi, w⟩ := w
    refine V_iald X dX12_advances_65 hh hi ?_
    generalize g9 _ = x9 at w ⊢
    refine V_i2l X dX12_advances_66 ?_
    refine V_lload_n X dX12_advances_67 2 rfl ?_
    refine V_ladd X dX12_advances_68 ?_
    refine V_lstore X dX12_advances_69 (by decide) rfl ?_
    refine V_aloadr_n X dX12_advances_71 1 rfl ?_
    obtain ⟨fs, r10, hh, hv, w⟩ := w
    refine V_get X flX12_7 dX12_advances_72 hh hv ?_
    refine V_iload_n X dX12_advances_75 2 rfl ?_
    refine V_iconst (y := 2) X dX12_advances_76 (by decide) ?_
    refine V_iadd X dX12_advances_77 ?_
    refine V_lload X dX12_advances_78 0 rfl ?_
    refine V_ldc2 (y := 1000000) X dX12_advances_80 kw_1930 ?_
    refine V_lcmp X dX12_advances_83 ?_
    obtain ⟨w1, w2⟩ := w
    refine V_if_le (tgt := 93) X dX12_advances_84 (by decide) (fun z => ?_) (fun z => ?_)
    · replace w := w1 ((lg_cmp_le _ _).mp z)
      clear w1 w2
      refine V_lload X dX12_advances_93 0 rfl ?_
      refine V_l2i X dX12_advances_95 ?_
      exact V.sub [1, 2] rfl (tX12_advances_b96 X  w)
    · replace w := w2 (fun z9 => z ((lg_cmp_le _ _).mpr z9))
      clear w1 w2
      refine V_ldcw (y := 1000000) X dX12_advances_87 kw_2040 ?_
      refine V_goto (tgt := 96) X dX12_advances_90 (by decide) ?_
      exact V.sub [1, 2] rfl (tX12_advances_b96 X  w)
  · replace w := w2 z
    clear w1 w2
    refine V_aloadr_n X dX12_advances_16 0 rfl ?_
    refine V_iload_n X dX12_advances_17 1 rfl ?_
    obtain ⟨fs, hh, w⟩ := w
    refine V_callVl (As := [.int v1]) (rest := []) (k1 := 0) (n1 := 0) X (cX12_progressOf_ok X.2.2.2.2.2.2.2.2.1 w) lkX12_257 hh (q9 := (RX12, TX12, 42)) rfl rfl dX12_advances_18 ⟨Nat.le_of_ble_eq_true rfl, Nat.le_of_ble_eq_true rfl⟩ rfl (Nat.le_of_ble_eq_true rfl) ⟨Nat.le_of_ble_eq_true rfl, Nat.le_of_ble_eq_true rfl⟩ (Nat.le_of_ble_eq_true rfl) (Nat.le_of_ble_eq_true rfl) (fun x12 h11 w9 => ?_)
    replace w := w9
    clear w9
    refine V_lload_n X dX12_advances_21 2 rfl ?_
    refine V_ladd X dX12_advances_22 ?_
    refine V_lstore X dX12_advances_23 (by decide) rfl ?_
    refine V_aloadr_n X dX12_advances_25 1 rfl ?_
    obtain ⟨fs, r13, hh, hv, w⟩ := w
    refine V_get X flX12_7 dX12_advances_26 hh hv ?_
    refine V_iload_n X dX12_advances_29 2 rfl ?_
    refine V_iconst (y := 1) X dX12_advances_30 (by decide) ?_
    refine V_iadd X dX12_advances_31 ?_
    refine V_lload X dX12_advances_32 0 rfl ?_
    refine V_ldc2 (y := 1000000) X dX12_advances_34 kw_1930 ?_
    obtain ⟨z0, w⟩ := w
    refine V_ldiv X dX12_advances_37 z0 ?_
    refine V_l2i X dX12_advances_38 ?_
    obtain ⟨a14, rfl, w⟩ := w
    obtain ⟨N9, g9, hh, hi, w⟩ := w
    refine V_iast X dX12_advances_39 hh hi ?_
    generalize va_up _ _ _ = h15 at w ⊢
    refine V_aloadr_n X dX12_advances_40 1 rfl ?_
    obtain ⟨fs, r16, hh, hv, w⟩ := w
    refine V_get X flX12_7 dX12_advances_41 hh hv ?_
    refine V_iload_n X dX12_advances_44 2 rfl ?_
    refine V_iconst (y := 2) X dX12_advances_45 (by decide) ?_
    refine V_iadd X dX12_advances_46 ?_
    refine V_lload X dX12_advances_47 0 rfl ?_
    refine V_ldc2 (y := 1000000) X dX12_advances_49 kw_1930 ?_
    obtain ⟨z0, w⟩ := w
    refine V_lrem X dX12_advances_52 z0 ?_
    refine V_l2i X dX12_advances_53 ?_
    obtain ⟨a17, rfl, w⟩ := w
    obtain ⟨N9, g9, hh, hi, w⟩ := w
    refine V_iast X dX12_advances_54 hh hi ?_
    generalize va_up _ _ _ = h18 at w ⊢
    refine V_goto (tgt := 97) X dX12_advances_55 (by decide) ?_
    exact V.sub [1, 2] rfl (tX12_advances_b97 X  w)
theorem cX12_advances_ok {l : Launch} {G : gG} {h : gH} (hls : l.stackTraces = false) {Qn : gH → Prop} {v0 : Nat} {v1 : Int32} {v2 : Int64} (w : vX12_advances Qn h v0 v1 v2) : gMv l yX12_advances cX12_advances 6 none rmX12_advances rmX12_advances.cells rmX12_advances.slots G h [.ref v0, .int v1, .long v2] Qn := by
  exact gMv.of (by decide +kernel) hls (Nat.le_of_ble_eq_true rfl) rfl rfl (fun p e s m below meth c A X hnm => tX12_advances X w)
/-! AnimationControllerModel.stepOf(I)J -/
abbrev rmX12_stepOf : Room := { frames := 3, cells := 0, slots := 0, locals := 80 }
def vX12_stepOf  (Qn : Int64 → gH → Prop) (h : gH) (v0 : Nat) (v1 : Int32) : Prop := gr h v0 15 0 (fun r1 => nn r1 (fun a2 => li h a2 (v1 + 0) (fun x3 => gr h v0 15 16 (fun r4 => nn r4 (fun a5 => li h a5 x3 (fun x6 => io h v0 15 (vX12_lengthOf (fun x8 h7 => ¬ ((100 * x8) : Int64) = 0 ∧ (Qn ((1000000 * (Int32.toInt64 x6)) / (100 * x8)) h7)) h v0 x3)))))))
set_option maxRecDepth 100000 in
set_option maxHeartbeats 4000000 in
theorem tX12_stepOf {p : Program} {l : Launch} {e : Env} {s : State} {m : MethodId} {args : Array Value} {below : List Frame} {meth : Method} {c : Code} {G : gG} {A : Nat → Prop} {Qn : Int64 → gH → Prop} (X : gC p l s m args meth c G A cX12_stepOf 3 (some FieldType.long) RX12)   {h : gH} {v0 : Nat} {v1 : Int32} (w : vX12_stepOf  Qn h v0 v1) : V p l e rmX12_stepOf s m args below meth c (MQ below (va_Ql Qn (gB G A) A) args s rmX12_stepOf.cells rmX12_stepOf.slots A) G A 3 h 0 0 0 [(0, .ref v0), (1, .int v1)] [] := by
  refine V_aloadr_n X dX12_stepOf_0 0 rfl ?_
  obtain ⟨fs, r1, hh, hv, w⟩ := w
  refine V_get X flX12_7 dX12_stepOf_1 hh hv ?_
  refine V_iload_n X dX12_stepOf_4 1 rfl ?_
  refine V_iconst (y := 0) X dX12_stepOf_5 (by decide) ?_
  refine V_iadd X dX12_stepOf_6 ?_
  obtain ⟨a2, rfl, w⟩ := w
  obtain ⟨N9, g9, hh, hi, w⟩ := w
  refine V_iald X dX12_stepOf_7 hh hi ?_
  generalize g9 _ = x3 at w ⊢
  refine V_istore_n X dX12_stepOf_8 rfl (by decide) rfl ?_
  refine V_ldc2 (y := 1000000) X dX12_stepOf_9 kw_1930 ?_
  refine V_aloadr_n X dX12_stepOf_12 1 rfl ?_
  obtain ⟨fs, r4, hh, hv, w⟩ := w
  refine V_get X flX12_50 dX12_stepOf_13 hh hv ?_
  refine V_iload_n X dX12_stepOf_16 0 rfl ?_
  obtain ⟨a5, rfl, w⟩ := w
  obtain ⟨N9, g9, hh, hi, w⟩ := w
  refine V_iald X dX12_stepOf_17 hh hi ?_
  generalize g9 _ = x6 at w ⊢
  refine V_i2l X dX12_stepOf_18 ?_
  refine V_lmul X dX12_stepOf_19 ?_
  refine V_ldc2 (y := 100) X dX12_stepOf_20 kw_1762 ?_
  refine V_aloadr_n X dX12_stepOf_23 1 rfl ?_
  refine V_iload_n X dX12_stepOf_24 0 rfl ?_
  obtain ⟨fs, hh, w⟩ := w
  refine V_callVl (As := [.int x3]) (rest := [.long 100, .long (1000000 * (Int32.toInt64 x6))]) (k1 := 0) (n1 := 0) X (cX12_lengthOf_ok X.2.2.2.2.2.2.2.2.1 w) lkX12_262 hh (q9 := (RX12, TX12, 42)) rfl rfl dX12_stepOf_25 ⟨Nat.le_of_ble_eq_true rfl, Nat.le_of_ble_eq_true rfl⟩ rfl (Nat.le_of_ble_eq_true rfl) ⟨Nat.le_of_ble_eq_true rfl, Nat.le_of_ble_eq_true rfl⟩ (Nat.le_of_ble_eq_true rfl) (Nat.le_of_ble_eq_true rfl) (fun x8 h7 w9 => ?_)
  replace w := w9
  clear w9
  refine V_lmul X dX12_stepOf_28 ?_
  obtain ⟨z0, w⟩ := w
  refine V_ldiv X dX12_stepOf_29 z0 ?_
  exact V_lret X rfl dX12_stepOf_30 (Nat.le_of_ble_eq_true rfl) (Nat.le_of_ble_eq_true rfl) w
theorem cX12_stepOf_ok {l : Launch} {G : gG} {h : gH} (hls : l.stackTraces = false) {Qn : Int64 → gH → Prop} {v0 : Nat} {v1 : Int32} (w : vX12_stepOf Qn h v0 v1) : gMl l yX12_stepOf cX12_stepOf 3 (some FieldType.long) rmX12_stepOf rmX12_stepOf.cells rmX12_stepOf.slots G h [.ref v0, .int v1] Qn := by
  exact gMl.of (by decide +kernel) hls (Nat.le_of_ble_eq_true rfl) rfl rfl (fun p e s m below meth c A X hnm => tX12_stepOf X w)
/-! AnimationControllerModel.shareOfTarget()J -/
abbrev rmX12_shareOfTarget : Room := { frames := 1, cells := 0, slots := 0, locals := 22 }
def vX12_shareOfTarget  (Qn : Int64 → gH → Prop) (h : gH) (v0 : Nat) : Prop := gr h v0 15 0 (fun r1 => nn r1 (fun a2 => li h a2 10 (fun x3 => gr h v0 15 0 (fun r4 => nn r4 (fun a5 => li h a5 9 (fun x6 => io h v0 15 (vX12_of (fun x8 h7 => ¬ ((Int32.toInt64 x8) : Int64) = 0 ∧ (Qn ((1000000 * (Int32.toInt64 x3)) / (Int32.toInt64 x8)) h7)) h v0 x6 2)))))))
set_option maxRecDepth 100000 in
set_option maxHeartbeats 4000000 in
theorem tX12_shareOfTarget {p : Program} {l : Launch} {e : Env} {s : State} {m : MethodId} {args : Array Value} {below : List Frame} {meth : Method} {c : Code} {G : gG} {A : Nat → Prop} {Qn : Int64 → gH → Prop} (X : gC p l s m args meth c G A cX12_shareOfTarget 1 (some FieldType.long) RX12)   {h : gH} {v0 : Nat} (w : vX12_shareOfTarget  Qn h v0) : V p l e rmX12_shareOfTarget s m args below meth c (MQ below (va_Ql Qn (gB G A) A) args s rmX12_shareOfTarget.cells rmX12_shareOfTarget.slots A) G A 1 h 0 0 0 [(0, .ref v0)] [] := by
  refine V_ldc2 (y := 1000000) X dX12_shareOfTarget_0 kw_1930 ?_
  refine V_aloadr_n X dX12_shareOfTarget_3 0 rfl ?_
  obtain ⟨fs, r1, hh, hv, w⟩ := w
  refine V_get X flX12_7 dX12_shareOfTarget_4 hh hv ?_
  refine V_bipush (y := 10) X dX12_shareOfTarget_7 (by decide) ?_
  obtain ⟨a2, rfl, w⟩ := w
  obtain ⟨N9, g9, hh, hi, w⟩ := w
  refine V_iald X dX12_shareOfTarget_9 hh hi ?_
  generalize g9 _ = x3 at w ⊢
  refine V_i2l X dX12_shareOfTarget_10 ?_
  refine V_lmul X dX12_shareOfTarget_11 ?_
  refine V_aloadr_n X dX12_shareOfTarget_12 0 rfl ?_
  refine V_aloadr_n X dX12_shareOfTarget_13 0 rfl ?_
  obtain ⟨fs, r4, hh, hv, w⟩ := w
  refine V_get X flX12_7 dX12_shareOfTarget_14 hh hv ?_
  refine V_bipush (y := 9) X dX12_shareOfTarget_17 (by decide) ?_
  obtain ⟨a5, rfl, w⟩ := w
  obtain ⟨N9, g9, hh, hi, w⟩ := w
  refine V_iald X dX12_shareOfTarget_19 hh hi ?_
  generalize g9 _ = x6 at w ⊢
  refine V_iconst (y := 2) X dX12_shareOfTarget_20 (by decide) ?_
  obtain ⟨fs, hh, w⟩ := w
  refine V_callVi (As := [.int x6, .int 2]) (rest := [.long (1000000 * (Int32.toInt64 x3))]) (k1 := 0) (n1 := 0) X (cX12_of_ok X.2.2.2.2.2.2.2.2.1 w) lkX12_177 hh (q9 := (RX12, TX12, 42)) rfl rfl dX12_shareOfTarget_21 ⟨Nat.le_of_ble_eq_true rfl, Nat.le_of_ble_eq_true rfl⟩ rfl (Nat.le_of_ble_eq_true rfl) ⟨Nat.le_of_ble_eq_true rfl, Nat.le_of_ble_eq_true rfl⟩ (Nat.le_of_ble_eq_true rfl) (Nat.le_of_ble_eq_true rfl) (fun x8 h7 w9 => ?_)
  replace w := w9
  clear w9
  refine V_i2l X dX12_shareOfTarget_24 ?_
  obtain ⟨z0, w⟩ := w
  refine V_ldiv X dX12_shareOfTarget_25 z0 ?_
  exact V_lret X rfl dX12_shareOfTarget_26 (Nat.le_of_ble_eq_true rfl) (Nat.le_of_ble_eq_true rfl) w
theorem cX12_shareOfTarget_ok {l : Launch} {G : gG} {h : gH} (hls : l.stackTraces = false) {Qn : Int64 → gH → Prop} {v0 : Nat} (w : vX12_shareOfTarget Qn h v0) : gMl l yX12_shareOfTarget cX12_shareOfTarget 1 (some FieldType.long) rmX12_shareOfTarget rmX12_shareOfTarget.cells rmX12_shareOfTarget.slots G h [.ref v0] Qn := by
  exact gMl.of (by decide +kernel) hls (Nat.le_of_ble_eq_true rfl) rfl rfl (fun p e s m below meth c A X hnm => tX12_shareOfTarget X w)
/-! AnimationControllerModel.isSynced()Z -/
abbrev rmX12_isSynced : Room := { frames := 0, cells := 0, slots := 0, locals := 0 }
def vX12_isSynced_b48  (Qn : Int32 → gH → Prop) (h : gH) (s0 : Int32) : Prop := gZ s0 ∧ Qn s0 h
set_option maxRecDepth 100000 in
set_option maxHeartbeats 4000000 in
theorem tX12_isSynced_b48 {p : Program} {l : Launch} {e : Env} {s : State} {m : MethodId} {args : Array Value} {below : List Frame} {meth : Method} {c : Code} {G : gG} {A : Nat → Prop} {Qn : Int32 → gH → Prop} (X : gC p l s m args meth c G A cX12_isSynced 2 (some FieldType.boolean) RX12)   {h : gH} {s0 : Int32} (w : vX12_isSynced_b48  Qn h s0) : V p l e rmX12_isSynced s m args below meth c (MQ below (va_Qi Qn (gB G A) A) args s rmX12_isSynced.cells rmX12_isSynced.slots A) G A 2 h 0 0 48 [] [.int s0] := by
  obtain ⟨hz, w⟩ := w
  exact V_zret X rfl hz.1 dX12_isSynced_48 (Nat.le_of_ble_eq_true rfl) (Nat.le_of_ble_eq_true rfl) w
def vX12_isSynced_b47  (Qn : Int32 → gH → Prop) (h : gH)  : Prop := vX12_isSynced_b48  Qn h 0
set_option maxRecDepth 100000 in
set_option maxHeartbeats 4000000 in
theorem tX12_isSynced_b47 {p : Program} {l : Launch} {e : Env} {s : State} {m : MethodId} {args : Array Value} {below : List Frame} {meth : Method} {c : Code} {G : gG} {A : Nat → Prop} {Qn : Int32 → gH → Prop} (X : gC p l s m args meth c G A cX12_isSynced 2 (some FieldType.boolean) RX12)   {h : gH}  (w : vX12_isSynced_b47  Qn h ) : V p l e rmX12_isSynced s m args below meth c (MQ below (va_Qi Qn (gB G A) A) args s rmX12_isSynced.cells rmX12_isSynced.slots A) G A 2 h 0 0 47 [] [] := by
  refine V_iconst (y := 0) X dX12_isSynced_47 (by decide) ?_
  exact V.sub [] rfl (tX12_isSynced_b48 X  w)
def vX12_isSynced  (Qn : Int32 → gH → Prop) (h : gH) (v0 : Nat) : Prop := gr h v0 15 18 (fun r1 => gr h v0 15 0 (fun r2 => nn r2 (fun a3 => li h a3 12 (fun x4 => nn r1 (fun a5 => li h a5 x4 (fun x6 => gr h v0 15 0 (fun r7 => nn r7 (fun a8 => li h a8 20 (fun x9 => ((¬ (x9 : Int32) = 0) → (vX12_isSynced_b47  Qn h )) ∧ (((x9 : Int32) = 0) → ((((x6 : Int32) = 0) → (vX12_isSynced_b47  Qn h )) ∧ ((¬ (x6 : Int32) = 0) → (gr h v0 15 18 (fun r10 => gr h v0 15 0 (fun r11 => nn r11 (fun a12 => li h a12 16 (fun x13 => nn r10 (fun a14 => li h a14 x13 (fun x15 => ((¬ (x6 : Int32) = x15) → (vX12_isSynced_b47  Qn h )) ∧ (((x6 : Int32) = x15) → (vX12_isSynced_b48  Qn h 1)))))))))))))))))))))
set_option maxRecDepth 100000 in
set_option maxHeartbeats 4000000 in
theorem tX12_isSynced {p : Program} {l : Launch} {e : Env} {s : State} {m : MethodId} {args : Array Value} {below : List Frame} {meth : Method} {c : Code} {G : gG} {A : Nat → Prop} {Qn : Int32 → gH → Prop} (X : gC p l s m args meth c G A cX12_isSynced 2 (some FieldType.boolean) RX12)   {h : gH} {v0 : Nat} (w : vX12_isSynced  Qn h v0) : V p l e rmX12_isSynced s m args below meth c (MQ below (va_Qi Qn (gB G A) A) args s rmX12_isSynced.cells rmX12_isSynced.slots A) G A 2 h 0 0 0 [(0, .ref v0)] [] := by
  refine V_aloadr_n X dX12_isSynced_0 0 rfl ?_
  obtain ⟨fs, r1, hh, hv, w⟩ := w
  refine V_get X flX12_56 dX12_isSynced_1 hh hv ?_
  refine V_aloadr_n X dX12_isSynced_4 0 rfl ?_
  obtain ⟨fs, r2, hh, hv, w⟩ := w
  refine V_get X flX12_7 dX12_isSynced_5 hh hv ?_
  refine V_bipush (y := 12) X dX12_isSynced_8 (by decide) ?_
  obtain ⟨a3, rfl, w⟩ := w
  obtain ⟨N9, g9, hh, hi, w⟩ := w
  refine V_iald X dX12_isSynced_10 hh hi ?_
  generalize g9 _ = x4 at w ⊢
  obtain ⟨a5, rfl, w⟩ := w
  obtain ⟨N9, g9, hh, hi, w⟩ := w
  refine V_iald X dX12_isSynced_11 hh hi ?_
  generalize g9 _ = x6 at w ⊢
  refine V_istore_n X dX12_isSynced_12 rfl (by decide) rfl ?_
  refine V_aloadr_n X dX12_isSynced_13 1 rfl ?_
  obtain ⟨fs, r7, hh, hv, w⟩ := w
  refine V_get X flX12_7 dX12_isSynced_14 hh hv ?_
  refine V_bipush (y := 20) X dX12_isSynced_17 (by decide) ?_
  obtain ⟨a8, rfl, w⟩ := w
  obtain ⟨N9, g9, hh, hi, w⟩ := w
  refine V_iald X dX12_isSynced_19 hh hi ?_
  generalize g9 _ = x9 at w ⊢
  obtain ⟨w1, w2⟩ := w
  refine V_if_ne (tgt := 47) X dX12_isSynced_20 (by decide) (fun z => ?_) (fun z => ?_)
  · replace w := w1 z
    clear w1 w2
    exact V.sub [] rfl (tX12_isSynced_b47 X  w)
  · replace w := w2 z
    clear w1 w2
    refine V_iload_n X dX12_isSynced_23 0 rfl ?_
    obtain ⟨w1, w2⟩ := w
    refine V_if_eq (tgt := 47) X dX12_isSynced_24 (by decide) (fun z => ?_) (fun z => ?_)
    · replace w := w1 z
      clear w1 w2
      exact V.sub [] rfl (tX12_isSynced_b47 X  w)
    · replace w := w2 z
      clear w1 w2
      refine V_iload_n X dX12_isSynced_27 0 rfl ?_
      refine V_aloadr_n X dX12_isSynced_28 1 rfl ?_
      obtain ⟨fs, r10, hh, hv, w⟩ := w
      refine V_get X flX12_56 dX12_isSynced_29 hh hv ?_
      refine V_aloadr_n X dX12_isSynced_32 1 rfl ?_
      obtain ⟨fs, r11, hh, hv, w⟩ := w
      refine V_get X flX12_7 dX12_isSynced_33 hh hv ?_
      refine V_bipush (y := 16) X dX12_isSynced_36 (by decide) ?_
      obtain ⟨a12, rfl, w⟩ := w
      obtain ⟨N9, g9, hh, hi, w⟩ := w
      refine V_iald X dX12_isSynced_38 hh hi ?_
      generalize g9 _ = x13 at w ⊢
      obtain ⟨a14, rfl, w⟩ := w
      obtain ⟨N9, g9, hh, hi, w⟩ := w
      refine V_iald X dX12_isSynced_39 hh hi ?_
      generalize g9 _ = x15 at w ⊢
      obtain ⟨w1, w2⟩ := w
      refine V_icmp_ne (tgt := 47) X dX12_isSynced_40 (by decide) (fun z => ?_) (fun z => ?_)
      · replace w := w1 z
        clear w1 w2
        exact V.sub [] rfl (tX12_isSynced_b47 X  w)
      · replace w := w2 z
        clear w1 w2
        refine V_iconst (y := 1) X dX12_isSynced_43 (by decide) ?_
        refine V_goto (tgt := 48) X dX12_isSynced_44 (by decide) ?_
        exact V.sub [] rfl (tX12_isSynced_b48 X  w)
theorem cX12_isSynced_ok {l : Launch} {G : gG} {h : gH} (hls : l.stackTraces = false) {Qn : Int32 → gH → Prop} {v0 : Nat} (w : vX12_isSynced Qn h v0) : gMi l yX12_isSynced cX12_isSynced 2 (some FieldType.boolean) rmX12_isSynced rmX12_isSynced.cells rmX12_isSynced.slots G h [.ref v0] Qn := by
  exact gMi.of (by decide +kernel) hls (Nat.le_of_ble_eq_true rfl) rfl rfl (fun p e s m below meth c A X hnm => tX12_isSynced X w)
/-! AnimationControllerModel.addsEntry(IIJ)V -/
abbrev rmX12_addsEntry : Room := { frames := 0, cells := 0, slots := 0, locals := 0 }
def vX12_addsEntry_b100_o (k100 : gH → Nat → Int32 → Int32 → Int64 → Int32 → Int32 → Prop) (Qn : gH → Prop) (h : gH) (v0 : Nat) (v1 : Int32) (v2 : Int32) (v3 : Int64) (v5 : Int32) (v6 : Int32) : Prop := (((v6 : Int32) ≤ v5) → (gr h v0 15 37 (fun r1 => nn r1 (fun a2 => si h a2 v5 v1 (fun h3 => gr h3 v0 15 38 (fun r4 => nn r4 (fun a5 => si h3 a5 v5 v2 (fun h6 => gr h6 v0 15 39 (fun r7 => nn r7 (fun a8 => sl h6 a8 v5 v3 (fun h9 => gi h9 v0 15 40 (fun x10 => pv h9 v0 15 40 (.int (x10 + 1)) (fun h11 => Qn h11))))))))))))) ∧ ((¬ (v6 : Int32) ≤ v5) → (gr h v0 15 37 (fun r12 => gr h v0 15 37 (fun r13 => nn r13 (fun a14 => li h a14 (v6 - 1) (fun x15 => nn r12 (fun a16 => si h a16 v6 x15 (fun h17 => gr h17 v0 15 38 (fun r18 => gr h17 v0 15 38 (fun r19 => nn r19 (fun a20 => li h17 a20 (v6 - 1) (fun x21 => nn r18 (fun a22 => si h17 a22 v6 x21 (fun h23 => gr h23 v0 15 39 (fun r24 => gr h23 v0 15 39 (fun r25 => nn r25 (fun a26 => ll h23 a26 (v6 - 1) (fun x27 => nn r24 (fun a28 => sl h23 a28 v6 x27 (fun h29 => k100 h29 v0 v1 v2 v3 v5 (v6 + (-1))))))))))))))))))))))
set_option maxRecDepth 100000 in
set_option maxHeartbeats 4000000 in
theorem tX12_addsEntry_b100_o {p : Program} {l : Launch} {e : Env} {s : State} {m : MethodId} {args : Array Value} {below : List Frame} {meth : Method} {c : Code} {G : gG} {A : Nat → Prop} {Qn : gH → Prop} (X : gC p l s m args meth c G A cX12_addsEntry 7 none RX12) {k100 : gH → Nat → Int32 → Int32 → Int64 → Int32 → Int32 → Prop} (H100 : ∀ (h : gH) (v0 : Nat) (v1 : Int32) (v2 : Int32) (v3 : Int64) (v5 : Int32) (v6 : Int32), k100 h v0 v1 v2 v3 v5 v6 → V p l e rmX12_addsEntry s m args below meth c (MQ below (va_Qv Qn (gB G A) A) args s rmX12_addsEntry.cells rmX12_addsEntry.slots A) G A 7 h 0 0 100 [(0, .ref v0), (1, .int v1), (2, .int v2), (3, .long v3), (5, .int v5), (6, .int v6)] []) {h : gH} {v0 : Nat} {v1 : Int32} {v2 : Int32} {v3 : Int64} {v5 : Int32} {v6 : Int32} (w : vX12_addsEntry_b100_o k100 Qn h v0 v1 v2 v3 v5 v6) : V p l e rmX12_addsEntry s m args below meth c (MQ below (va_Qv Qn (gB G A) A) args s rmX12_addsEntry.cells rmX12_addsEntry.slots A) G A 7 h 0 0 100 [(0, .ref v0), (1, .int v1), (2, .int v2), (3, .long v3), (5, .int v5), (6, .int v6)] [] := by
  refine V_iload X dX12_addsEntry_100 5 rfl ?_
  refine V_iload X dX12_addsEntry_102 4 rfl ?_
  obtain ⟨w1, w2⟩ := w
  refine V_icmp_le (tgt := 161) X dX12_addsEntry_104 (by decide) (fun z => ?_) (fun z => ?_)
  · replace w := w1 z
    clear w1 w2
    refine V_aloadr_n X dX12_addsEntry_161 0 rfl ?_
    obtain ⟨fs, r1, hh, hv, w⟩ := w
    refine V_get X flX12_82 dX12_addsEntry_162 hh hv ?_
    refine V_iload X dX12_addsEntry_165 4 rfl ?_
    refine V_iload_n X dX12_addsEntry_167 1 rfl ?_
    obtain ⟨a2, rfl, w⟩ := w
    obtain ⟨N9, g9, hh, hi, w⟩ := w
    refine V_iast X dX12_addsEntry_168 hh hi ?_
    generalize va_up _ _ _ = h3 at w ⊢
    refine V_aloadr_n X dX12_addsEntry_169 0 rfl ?_
    obtain ⟨fs, r4, hh, hv, w⟩ := w
    refine V_get X flX12_85 dX12_addsEntry_170 hh hv ?_
    refine V_iload X dX12_addsEntry_173 4 rfl ?_
    refine V_iload_n X dX12_addsEntry_175 2 rfl ?_
    obtain ⟨a5, rfl, w⟩ := w
    obtain ⟨N9, g9, hh, hi, w⟩ := w
    refine V_iast X dX12_addsEntry_176 hh hi ?_
    generalize va_up _ _ _ = h6 at w ⊢
    refine V_aloadr_n X dX12_addsEntry_177 0 rfl ?_
    obtain ⟨fs, r7, hh, hv, w⟩ := w
    refine V_get X flX12_88 dX12_addsEntry_178 hh hv ?_
    refine V_iload X dX12_addsEntry_181 4 rfl ?_
    refine V_lload_n X dX12_addsEntry_183 3 rfl ?_
    obtain ⟨a8, rfl, w⟩ := w
    obtain ⟨N9, g9, hh, hi, w⟩ := w
    refine V_last X dX12_addsEntry_184 hh hi ?_
    generalize va_up _ _ _ = h9 at w ⊢
    refine V_aloadr_n X dX12_addsEntry_185 0 rfl ?_
    refine V_dup X dX12_addsEntry_186 rfl ?_
    obtain ⟨fs, x10, hh, hv, w⟩ := w
    refine V_get X flX12_265 dX12_addsEntry_187 hh hv ?_
    refine V_iconst (y := 1) X dX12_addsEntry_190 (by decide) ?_
    refine V_iadd X dX12_addsEntry_191 ?_
    obtain ⟨fs, hh, hv, w⟩ := w
    refine V_put X flX12_265 dX12_addsEntry_192 hh hv rfl rfl ?_
    generalize va_up _ _ _ = h11 at w ⊢
    exact V_vret X rfl dX12_addsEntry_195 (Nat.le_of_ble_eq_true rfl) (Nat.le_of_ble_eq_true rfl) w
  · replace w := w2 z
    clear w1 w2
    refine V_aloadr_n X dX12_addsEntry_107 0 rfl ?_
    obtain ⟨fs, r12, hh, hv, w⟩ := w
    refine V_get X flX12_82 dX12_addsEntry_108 hh hv ?_
    refine V_iload X dX12_addsEntry_111 5 rfl ?_
    refine V_aloadr_n X dX12_addsEntry_113 0 rfl ?_
    obtain ⟨fs, r13, hh, hv, w⟩ := w
    refine V_get X flX12_82 dX12_addsEntry_114 hh hv ?_
    refine V_iload X dX12_addsEntry_117 5 rfl ?_
    refine V_iconst (y := 1) X dX12_addsEntry_119 (by decide) ?_
    refine V_isub X dX12_addsEntry_120 ?_
    obtain ⟨a14, rfl, w⟩ := w
    obtain ⟨N9, g9, hh, hi, w⟩ := w
    refine V_iald X dX12_addsEntry_121 hh hi ?_
    generalize g9 _ = x15 at w ⊢
    obtain ⟨a16, rfl, w⟩ := w
    obtain ⟨N9, g9, hh, hi, w⟩ := w
    refine V_iast X dX12_addsEntry_122 hh hi ?_
    generalize va_up _ _ _ = h17 at w ⊢
    refine V_aloadr_n X dX12_addsEntry_123 0 rfl ?_
    obtain ⟨fs, r18, hh, hv, w⟩ := w
    refine V_get X flX12_85 dX12_addsEntry_124 hh hv ?_
    refine V_iload X dX12_addsEntry_127 5 rfl ?_
    refine V_aloadr_n X dX12_addsEntry_129 0 rfl ?_
    obtain ⟨fs, r19, hh, hv, w⟩ := w
    refine V_get X flX12_85 dX12_addsEntry_130 hh hv ?_
    refine V_iload X dX12_addsEntry_133 5 rfl ?_
    refine V_iconst (y := 1) X dX12_addsEntry_135 (by decide) ?_
    refine V_isub X dX12_addsEntry_136 ?_
    obtain ⟨a20, rfl, w⟩ := w
    obtain ⟨N9, g9, hh, hi, w⟩ := w
    refine V_iald X dX12_addsEntry_137 hh hi ?_
    generalize g9 _ = x21 at w ⊢
    obtain ⟨a22, rfl, w⟩ := w
    obtain ⟨N9, g9, hh, hi, w⟩ := w
    refine V_iast X dX12_addsEntry_138 hh hi ?_
    generalize va_up _ _ _ = h23 at w ⊢
    refine V_aloadr_n X dX12_addsEntry_139 0 rfl ?_
    obtain ⟨fs, r24, hh, hv, w⟩ := w
    refine V_get X flX12_88 dX12_addsEntry_140 hh hv ?_
    refine V_iload X dX12_addsEntry_143 5 rfl ?_
    refine V_aloadr_n X dX12_addsEntry_145 0 rfl ?_
    obtain ⟨fs, r25, hh, hv, w⟩ := w
    refine V_get X flX12_88 dX12_addsEntry_146 hh hv ?_
    refine V_iload X dX12_addsEntry_149 5 rfl ?_
    refine V_iconst (y := 1) X dX12_addsEntry_151 (by decide) ?_
    refine V_isub X dX12_addsEntry_152 ?_
    obtain ⟨a26, rfl, w⟩ := w
    obtain ⟨N9, g9, hh, hi, w⟩ := w
    refine V_lald X dX12_addsEntry_153 hh hi ?_
    generalize g9 _ = x27 at w ⊢
    obtain ⟨a28, rfl, w⟩ := w
    obtain ⟨N9, g9, hh, hi, w⟩ := w
    refine V_last X dX12_addsEntry_154 hh hi ?_
    generalize va_up _ _ _ = h29 at w ⊢
    refine V_iinc (y := (v6 + (-1))) X dX12_addsEntry_155 5 rfl (by first | rfl | (congr 1)) (by decide) rfl ?_
    refine V_goto (tgt := 100) X dX12_addsEntry_158 (by decide) ?_
    exact V.sub [1, 2, 3, 4, 5, 0] rfl (H100 _ _ _ _ _ _ _ w)
def vX12_addsEntry_b100  (Qn : gH → Prop) (n : Nat) : gH → Nat → Int32 → Int32 → Int64 → Int32 → Int32 → Prop := Nat.rec (motive := fun _ => gH → Nat → Int32 → Int32 → Int64 → Int32 → Int32 → Prop) (fun _ _ _ _ _ _ _ => False) (fun _ k100 => vX12_addsEntry_b100_o k100 Qn) n
theorem tX12_addsEntry_b100 {p : Program} {l : Launch} {e : Env} {s : State} {m : MethodId} {args : Array Value} {below : List Frame} {meth : Method} {c : Code} {G : gG} {A : Nat → Prop} {Qn : gH → Prop} (X : gC p l s m args meth c G A cX12_addsEntry 7 none RX12)   : ∀ (n : Nat) (h : gH) (v0 : Nat) (v1 : Int32) (v2 : Int32) (v3 : Int64) (v5 : Int32) (v6 : Int32) (w : vX12_addsEntry_b100  Qn n h v0 v1 v2 v3 v5 v6), V p l e rmX12_addsEntry s m args below meth c (MQ below (va_Qv Qn (gB G A) A) args s rmX12_addsEntry.cells rmX12_addsEntry.slots A) G A 7 h 0 0 100 [(0, .ref v0), (1, .int v1), (2, .int v2), (3, .long v3), (5, .int v5), (6, .int v6)] [] := by
  intro n
  induction n with
  | zero => intro h v0 v1 v2 v3 v5 v6 w; exact False.elim w
  | succ n ih => intro h v0 v1 v2 v3 v5 v6 w; exact tX12_addsEntry_b100_o X ih w
def vX12_addsEntry_b94  (Qn : gH → Prop) (h : gH) (v0 : Nat) (v1 : Int32) (v2 : Int32) (v3 : Int64) (v5 : Int32) : Prop := gi h v0 15 40 (fun x1 => ∃ n : Nat, vX12_addsEntry_b100  Qn n h v0 v1 v2 v3 v5 x1)
set_option maxRecDepth 100000 in
set_option maxHeartbeats 4000000 in
theorem tX12_addsEntry_b94 {p : Program} {l : Launch} {e : Env} {s : State} {m : MethodId} {args : Array Value} {below : List Frame} {meth : Method} {c : Code} {G : gG} {A : Nat → Prop} {Qn : gH → Prop} (X : gC p l s m args meth c G A cX12_addsEntry 7 none RX12)   {h : gH} {v0 : Nat} {v1 : Int32} {v2 : Int32} {v3 : Int64} {v5 : Int32} (w : vX12_addsEntry_b94  Qn h v0 v1 v2 v3 v5) : V p l e rmX12_addsEntry s m args below meth c (MQ below (va_Qv Qn (gB G A) A) args s rmX12_addsEntry.cells rmX12_addsEntry.slots A) G A 7 h 0 0 94 [(0, .ref v0), (1, .int v1), (2, .int v2), (3, .long v3), (5, .int v5)] [] := by
  refine V_aloadr_n X dX12_addsEntry_94 0 rfl ?_
  obtain ⟨fs, x1, hh, hv, w⟩ := w
  refine V_get X flX12_265 dX12_addsEntry_95 hh hv ?_
  refine V_istore X dX12_addsEntry_98 (by decide) rfl ?_
  obtain ⟨n9, w⟩ := w
  exact V.sub [1, 2, 3, 4, 5, 0] rfl (tX12_addsEntry_b100 X  n9 _ _ _ _ _ _ _ w)
def vX12_addsEntry_b51  (Qn : gH → Prop) (h : gH) (v0 : Nat) (v1 : Int32) (v2 : Int32) (v3 : Int64) (v5 : Int32) : Prop := gi h v0 15 40 (fun x1 => ((x1 ≤ (v5 : Int32)) → (vX12_addsEntry_b94  Qn h v0 v1 v2 v3 v5)) ∧ ((¬ x1 ≤ (v5 : Int32)) → (gr h v0 15 37 (fun r2 => nn r2 (fun a3 => li h a3 v5 (fun x4 => ((¬ (x4 : Int32) = v1) → (vX12_addsEntry_b94  Qn h v0 v1 v2 v3 v5)) ∧ (((x4 : Int32) = v1) → (gr h v0 15 38 (fun r5 => nn r5 (fun a6 => li h a6 v5 (fun x7 => ((¬ (x7 : Int32) = v2) → (vX12_addsEntry_b94  Qn h v0 v1 v2 v3 v5)) ∧ (((x7 : Int32) = v2) → (gr h v0 15 39 (fun r8 => nn r8 (fun a9 => ll h a9 v5 (fun x10 => sl h a9 v5 (x10 + v3) (fun h11 => Qn h11)))))))))))))))))
set_option maxRecDepth 100000 in
set_option maxHeartbeats 4000000 in
theorem tX12_addsEntry_b51 {p : Program} {l : Launch} {e : Env} {s : State} {m : MethodId} {args : Array Value} {below : List Frame} {meth : Method} {c : Code} {G : gG} {A : Nat → Prop} {Qn : gH → Prop} (X : gC p l s m args meth c G A cX12_addsEntry 7 none RX12)   {h : gH} {v0 : Nat} {v1 : Int32} {v2 : Int32} {v3 : Int64} {v5 : Int32} (w : vX12_addsEntry_b51  Qn h v0 v1 v2 v3 v5) : V p l e rmX12_addsEntry s m args below meth c (MQ below (va_Qv Qn (gB G A) A) args s rmX12_addsEntry.cells rmX12_addsEntry.slots A) G A 7 h 0 0 51 [(0, .ref v0), (1, .int v1), (2, .int v2), (3, .long v3), (5, .int v5)] [] := by
  refine V_iload X dX12_addsEntry_51 4 rfl ?_
  refine V_aloadr_n X dX12_addsEntry_53 0 rfl ?_
  obtain ⟨fs, x1, hh, hv, w⟩ := w
  refine V_get X flX12_265 dX12_addsEntry_54 hh hv ?_
  obtain ⟨w1, w2⟩ := w
  refine V_icmp_ge (tgt := 94) X dX12_addsEntry_57 (by decide) (fun z => ?_) (fun z => ?_)
  · replace w := w1 z
    clear w1 w2
    exact V.sub [0, 1, 2, 3, 4] rfl (tX12_addsEntry_b94 X  w)
  · replace w := w2 z
    clear w1 w2
    refine V_aloadr_n X dX12_addsEntry_60 0 rfl ?_
    obtain ⟨fs, r2, hh, hv, w⟩ := w
    refine V_get X flX12_82 dX12_addsEntry_61 hh hv ?_
    refine V_iload X dX12_addsEntry_64 4 rfl ?_
    obtain ⟨a3, rfl, w⟩ := w
    obtain ⟨N9, g9, hh, hi, w⟩ := w
    refine V_iald X dX12_addsEntry_66 hh hi ?_
    generalize g9 _ = x4 at w ⊢
    refine V_iload_n X dX12_addsEntry_67 1 rfl ?_
    obtain ⟨w1, w2⟩ := w
    refine V_icmp_ne (tgt := 94) X dX12_addsEntry_68 (by decide) (fun z => ?_) (fun z => ?_)
    · replace w := w1 z
      clear w1 w2
      exact V.sub [0, 1, 2, 3, 4] rfl (tX12_addsEntry_b94 X  w)
    · replace w := w2 z
      clear w1 w2
      refine V_aloadr_n X dX12_addsEntry_71 0 rfl ?_
      obtain ⟨fs, r5, hh, hv, w⟩ := w
      refine V_get X flX12_85 dX12_addsEntry_72 hh hv ?_
      refine V_iload X dX12_addsEntry_75 4 rfl ?_
      obtain ⟨a6, rfl, w⟩ := w
      obtain ⟨N9, g9, hh, hi, w⟩ := w
      refine V_iald X dX12_addsEntry_77 hh hi ?_
      generalize g9 _ = x7 at w ⊢
      refine V_iload_n X dX12_addsEntry_78 2 rfl ?_
      obtain ⟨w1, w2⟩ := w
      refine V_icmp_ne (tgt := 94) X dX12_addsEntry_79 (by decide) (fun z => ?_) (fun z => ?_)
      · replace w := w1 z
        clear w1 w2
        exact V.sub [0, 1, 2, 3, 4] rfl (tX12_addsEntry_b94 X  w)
      · replace w := w2 z
        clear w1 w2
        refine V_aloadr_n X dX12_addsEntry_82 0 rfl ?_
        obtain ⟨fs, r8, hh, hv, w⟩ := w
        refine V_get X flX12_88 dX12_addsEntry_83 hh hv ?_
        refine V_iload X dX12_addsEntry_86 4 rfl ?_
        refine V_dup2 X dX12_addsEntry_88 rfl (va_cat1 _) ?_
        obtain ⟨a9, rfl, w⟩ := w
        obtain ⟨N9, g9, hh, hi, w⟩ := w
        refine V_lald X dX12_addsEntry_89 hh hi ?_
        generalize g9 _ = x10 at w ⊢
        refine V_lload_n X dX12_addsEntry_90 3 rfl ?_
        refine V_ladd X dX12_addsEntry_91 ?_
        obtain ⟨N9, g9, hh, hi, w⟩ := w
        refine V_last X dX12_addsEntry_92 hh hi ?_
        generalize va_up _ _ _ = h11 at w ⊢
        exact V_vret X rfl dX12_addsEntry_93 (Nat.le_of_ble_eq_true rfl) (Nat.le_of_ble_eq_true rfl) w
def vX12_addsEntry_b45 (k3 : gH → Nat → Int32 → Int32 → Int64 → Int32 → Prop) (Qn : gH → Prop) (h : gH) (v0 : Nat) (v1 : Int32) (v2 : Int32) (v3 : Int64) (v5 : Int32) : Prop := k3 h v0 v1 v2 v3 (v5 + 1)
set_option maxRecDepth 100000 in
set_option maxHeartbeats 4000000 in
theorem tX12_addsEntry_b45 {p : Program} {l : Launch} {e : Env} {s : State} {m : MethodId} {args : Array Value} {below : List Frame} {meth : Method} {c : Code} {G : gG} {A : Nat → Prop} {Qn : gH → Prop} (X : gC p l s m args meth c G A cX12_addsEntry 7 none RX12) {k3 : gH → Nat → Int32 → Int32 → Int64 → Int32 → Prop} (H3 : ∀ (h : gH) (v0 : Nat) (v1 : Int32) (v2 : Int32) (v3 : Int64) (v5 : Int32), k3 h v0 v1 v2 v3 v5 → V p l e rmX12_addsEntry s m args below meth c (MQ below (va_Qv Qn (gB G A) A) args s rmX12_addsEntry.cells rmX12_addsEntry.slots A) G A 7 h 0 0 3 [(0, .ref v0), (1, .int v1), (2, .int v2), (3, .long v3), (5, .int v5)] []) {h : gH} {v0 : Nat} {v1 : Int32} {v2 : Int32} {v3 : Int64} {v5 : Int32} (w : vX12_addsEntry_b45 k3 Qn h v0 v1 v2 v3 v5) : V p l e rmX12_addsEntry s m args below meth c (MQ below (va_Qv Qn (gB G A) A) args s rmX12_addsEntry.cells rmX12_addsEntry.slots A) G A 7 h 0 0 45 [(0, .ref v0), (1, .int v1), (2, .int v2), (3, .long v3), (5, .int v5)] [] := by
  refine V_iinc (y := (v5 + 1)) X dX12_addsEntry_45 4 rfl (by first | rfl | (congr 1)) (by decide) rfl ?_
  refine V_goto (tgt := 3) X dX12_addsEntry_48 (by decide) ?_
  exact V.sub [1, 2, 3, 4, 0] rfl (H3 _ _ _ _ _ _ w)
def vX12_addsEntry_b3_o (k3 : gH → Nat → Int32 → Int32 → Int64 → Int32 → Prop) (Qn : gH → Prop) (h : gH) (v0 : Nat) (v1 : Int32) (v2 : Int32) (v3 : Int64) (v5 : Int32) : Prop := gi h v0 15 40 (fun x1 => ((x1 ≤ (v5 : Int32)) → (vX12_addsEntry_b51  Qn h v0 v1 v2 v3 v5)) ∧ ((¬ x1 ≤ (v5 : Int32)) → (gr h v0 15 37 (fun r2 => nn r2 (fun a3 => li h a3 v5 (fun x4 => (((x4 : Int32) < v1) → (vX12_addsEntry_b45 k3 Qn h v0 v1 v2 v3 v5)) ∧ ((¬ (x4 : Int32) < v1) → (gr h v0 15 37 (fun r5 => nn r5 (fun a6 => li h a6 v5 (fun x7 => ((¬ (x7 : Int32) = v1) → (vX12_addsEntry_b51  Qn h v0 v1 v2 v3 v5)) ∧ (((x7 : Int32) = v1) → (gr h v0 15 38 (fun r8 => nn r8 (fun a9 => li h a9 v5 (fun x10 => ((v2 ≤ (x10 : Int32)) → (vX12_addsEntry_b51  Qn h v0 v1 v2 v3 v5)) ∧ ((¬ v2 ≤ (x10 : Int32)) → (vX12_addsEntry_b45 k3 Qn h v0 v1 v2 v3 v5))))))))))))))))))
set_option maxRecDepth 100000 in
set_option maxHeartbeats 4000000 in
theorem tX12_addsEntry_b3_o {p : Program} {l : Launch} {e : Env} {s : State} {m : MethodId} {args : Array Value} {below : List Frame} {meth : Method} {c : Code} {G : gG} {A : Nat → Prop} {Qn : gH → Prop} (X : gC p l s m args meth c G A cX12_addsEntry 7 none RX12) {k3 : gH → Nat → Int32 → Int32 → Int64 → Int32 → Prop} (H3 : ∀ (h : gH) (v0 : Nat) (v1 : Int32) (v2 : Int32) (v3 : Int64) (v5 : Int32), k3 h v0 v1 v2 v3 v5 → V p l e rmX12_addsEntry s m args below meth c (MQ below (va_Qv Qn (gB G A) A) args s rmX12_addsEntry.cells rmX12_addsEntry.slots A) G A 7 h 0 0 3 [(0, .ref v0), (1, .int v1), (2, .int v2), (3, .long v3), (5, .int v5)] []) {h : gH} {v0 : Nat} {v1 : Int32} {v2 : Int32} {v3 : Int64} {v5 : Int32} (w : vX12_addsEntry_b3_o k3 Qn h v0 v1 v2 v3 v5) : V p l e rmX12_addsEntry s m args below meth c (MQ below (va_Qv Qn (gB G A) A) args s rmX12_addsEntry.cells rmX12_addsEntry.slots A) G A 7 h 0 0 3 [(0, .ref v0), (1, .int v1), (2, .int v2), (3, .long v3), (5, .int v5)] [] := by
  refine V_iload X dX12_addsEntry_3 4 rfl ?_
  refine V_aloadr_n X dX12_addsEntry_5 0 rfl ?_
  obtain ⟨fs, x1, hh, hv, w⟩ := w
  refine V_get X flX12_265 dX12_addsEntry_6 hh hv ?_
  obtain ⟨w1, w2⟩ := w
  refine V_icmp_ge (tgt := 51) X dX12_addsEntry_9 (by decide) (fun z => ?_) (fun z => ?_)
  · replace w := w1 z
    clear w1 w2
    exact V.sub [0, 1, 2, 3, 4] rfl (tX12_addsEntry_b51 X  w)
  · replace w := w2 z
    clear w1 w2
    refine V_aloadr_n X dX12_addsEntry_12 0 rfl ?_
    obtain ⟨fs, r2, hh, hv, w⟩ := w
    refine V_get X flX12_82 dX12_addsEntry_13 hh hv ?_
    refine V_iload X dX12_addsEntry_16 4 rfl ?_
    obtain ⟨a3, rfl, w⟩ := w
    obtain ⟨N9, g9, hh, hi, w⟩ := w
    refine V_iald X dX12_addsEntry_18 hh hi ?_
    generalize g9 _ = x4 at w ⊢
    refine V_iload_n X dX12_addsEntry_19 1 rfl ?_
    obtain ⟨w1, w2⟩ := w
    refine V_icmp_lt (tgt := 45) X dX12_addsEntry_20 (by decide) (fun z => ?_) (fun z => ?_)
    · replace w := w1 z
      clear w1 w2
      exact V.sub [0, 1, 2, 3, 4] rfl (tX12_addsEntry_b45 X H3 w)
    · replace w := w2 z
      clear w1 w2
      refine V_aloadr_n X dX12_addsEntry_23 0 rfl ?_
      obtain ⟨fs, r5, hh, hv, w⟩ := w
      refine V_get X flX12_82 dX12_addsEntry_24 hh hv ?_
      refine V_iload X dX12_addsEntry_27 4 rfl ?_
      obtain ⟨a6, rfl, w⟩ := w
      obtain ⟨N9, g9, hh, hi, w⟩ := w
      refine V_iald X dX12_addsEntry_29 hh hi ?_
      generalize g9 _ = x7 at w ⊢
      refine V_iload_n X dX12_addsEntry_30 1 rfl ?_
      obtain ⟨w1, w2⟩ := w
      refine V_icmp_ne (tgt := 51) X dX12_addsEntry_31 (by decide) (fun z => ?_) (fun z => ?_)
      · replace w := w1 z
        clear w1 w2
        exact V.sub [0, 1, 2, 3, 4] rfl (tX12_addsEntry_b51 X  w)
      · replace w := w2 z
        clear w1 w2
        refine V_aloadr_n X dX12_addsEntry_34 0 rfl ?_
        obtain ⟨fs, r8, hh, hv, w⟩ := w
        refine V_get X flX12_85 dX12_addsEntry_35 hh hv ?_
        refine V_iload X dX12_addsEntry_38 4 rfl ?_
        obtain ⟨a9, rfl, w⟩ := w
        obtain ⟨N9, g9, hh, hi, w⟩ := w
        refine V_iald X dX12_addsEntry_40 hh hi ?_
        generalize g9 _ = x10 at w ⊢
        refine V_iload_n X dX12_addsEntry_41 2 rfl ?_
        obtain ⟨w1, w2⟩ := w
        refine V_icmp_ge (tgt := 51) X dX12_addsEntry_42 (by decide) (fun z => ?_) (fun z => ?_)
        · replace w := w1 z
          clear w1 w2
          exact V.sub [0, 1, 2, 3, 4] rfl (tX12_addsEntry_b51 X  w)
        · replace w := w2 z
          clear w1 w2
          exact V.sub [0, 1, 2, 3, 4] rfl (tX12_addsEntry_b45 X H3 w)
def vX12_addsEntry_b3  (Qn : gH → Prop) (n : Nat) : gH → Nat → Int32 → Int32 → Int64 → Int32 → Prop := Nat.rec (motive := fun _ => gH → Nat → Int32 → Int32 → Int64 → Int32 → Prop) (fun _ _ _ _ _ _ => False) (fun _ k3 => vX12_addsEntry_b3_o k3 Qn) n
theorem tX12_addsEntry_b3 {p : Program} {l : Launch} {e : Env} {s : State} {m : MethodId} {args : Array Value} {below : List Frame} {meth : Method} {c : Code} {G : gG} {A : Nat → Prop} {Qn : gH → Prop} (X : gC p l s m args meth c G A cX12_addsEntry 7 none RX12)   : ∀ (n : Nat) (h : gH) (v0 : Nat) (v1 : Int32) (v2 : Int32) (v3 : Int64) (v5 : Int32) (w : vX12_addsEntry_b3  Qn n h v0 v1 v2 v3 v5), V p l e rmX12_addsEntry s m args below meth c (MQ below (va_Qv Qn (gB G A) A) args s rmX12_addsEntry.cells rmX12_addsEntry.slots A) G A 7 h 0 0 3 [(0, .ref v0), (1, .int v1), (2, .int v2), (3, .long v3), (5, .int v5)] [] := by
  intro n
  induction n with
  | zero => intro h v0 v1 v2 v3 v5 w; exact False.elim w
  | succ n ih => intro h v0 v1 v2 v3 v5 w; exact tX12_addsEntry_b3_o X ih w
def vX12_addsEntry  (Qn : gH → Prop) (h : gH) (v0 : Nat) (v1 : Int32) (v2 : Int32) (v3 : Int64) : Prop := ∃ n : Nat, vX12_addsEntry_b3  Qn n h v0 v1 v2 v3 0
set_option maxRecDepth 100000 in
set_option maxHeartbeats 4000000 in
theorem tX12_addsEntry {p : Program} {l : Launch} {e : Env} {s : State} {m : MethodId} {args : Array Value} {below : List Frame} {meth : Method} {c : Code} {G : gG} {A : Nat → Prop} {Qn : gH → Prop} (X : gC p l s m args meth c G A cX12_addsEntry 7 none RX12)   {h : gH} {v0 : Nat} {v1 : Int32} {v2 : Int32} {v3 : Int64} (w : vX12_addsEntry  Qn h v0 v1 v2 v3) : V p l e rmX12_addsEntry s m args below meth c (MQ below (va_Qv Qn (gB G A) A) args s rmX12_addsEntry.cells rmX12_addsEntry.slots A) G A 7 h 0 0 0 [(0, .ref v0), (1, .int v1), (2, .int v2), (3, .long v3)] [] := by
  refine V_iconst (y := 0) X dX12_addsEntry_0 (by decide) ?_
  refine V_istore X dX12_addsEntry_1 (by decide) rfl ?_
  obtain ⟨n9, w⟩ := w
  exact V.sub [1, 2, 3, 4, 0] rfl (tX12_addsEntry_b3 X  n9 _ _ _ _ _ _ w)
theorem cX12_addsEntry_ok {l : Launch} {G : gG} {h : gH} (hls : l.stackTraces = false) {Qn : gH → Prop} {v0 : Nat} {v1 : Int32} {v2 : Int32} {v3 : Int64} (w : vX12_addsEntry Qn h v0 v1 v2 v3) : gMv l yX12_addsEntry cX12_addsEntry 7 none rmX12_addsEntry rmX12_addsEntry.cells rmX12_addsEntry.slots G h [.ref v0, .int v1, .int v2, .long v3] Qn := by
  exact gMv.of (by decide +kernel) hls (Nat.le_of_ble_eq_true rfl) rfl rfl (fun p e s m below meth c A X hnm => tX12_addsEntry X w)
/-! AnimationControllerModel.addsTrack(IJ)V -/
abbrev rmX12_addsTrack : Room := { frames := 2, cells := 0, slots := 0, locals := 56 }
def vX12_addsTrack_b110 (k21 : gH → Nat → Int32 → Int32 → Prop) (Qn : gH → Prop) (h : gH) (v0 : Nat) (v1 : Int32) (v4 : Int32) : Prop := k21 h v0 v1 (v4 + 1)
set_option maxRecDepth 100000 in
set_option maxHeartbeats 4000000 in
theorem tX12_addsTrack_b110 {p : Program} {l : Launch} {e : Env} {s : State} {m : MethodId} {args : Array Value} {below : List Frame} {meth : Method} {c : Code} {G : gG} {A : Nat → Prop} {Qn : gH → Prop} (X : gC p l s m args meth c G A cX12_addsTrack 7 none RX12) {k21 : gH → Nat → Int32 → Int32 → Prop} (H21 : ∀ (h : gH) (v0 : Nat) (v1 : Int32) (v4 : Int32), k21 h v0 v1 v4 → V p l e rmX12_addsTrack s m args below meth c (MQ below (va_Qv Qn (gB G A) A) args s rmX12_addsTrack.cells rmX12_addsTrack.slots A) G A 7 h 0 0 21 [(0, .ref v0), (1, .int v1), (4, .int v4)] []) {h : gH} {v0 : Nat} {v1 : Int32} {v4 : Int32} (w : vX12_addsTrack_b110 k21 Qn h v0 v1 v4) : V p l e rmX12_addsTrack s m args below meth c (MQ below (va_Qv Qn (gB G A) A) args s rmX12_addsTrack.cells rmX12_addsTrack.slots A) G A 7 h 0 0 110 [(0, .ref v0), (1, .int v1), (4, .int v4)] [] := by
  refine V_iinc (y := (v4 + 1)) X dX12_addsTrack_110 2 rfl (by first | rfl | (congr 1)) (by decide) rfl ?_
  refine V_goto (tgt := 21) X dX12_addsTrack_113 (by decide) ?_
  exact V.sub [1, 2, 0] rfl (H21 _ _ _ _ w)
def vX12_addsTrack_b100 (k21 : gH → Nat → Int32 → Int32 → Prop) (Qn : gH → Prop) (h : gH) (v0 : Nat) (v1 : Int32) (v4 : Int32) (s0 : Int32) (s1 : Int32) (s2 : Nat) : Prop := gr h v0 15 27 (fun r1 => nn r1 (fun a2 => ll h a2 v4 (fun x3 => io h s2 15 (vX12_addsEntry (fun h4 => vX12_addsTrack_b110 k21 Qn h4 v0 v1 v4) h s2 s1 s0 x3))))
set_option maxRecDepth 100000 in
set_option maxHeartbeats 4000000 in
theorem tX12_addsTrack_b100 {p : Program} {l : Launch} {e : Env} {s : State} {m : MethodId} {args : Array Value} {below : List Frame} {meth : Method} {c : Code} {G : gG} {A : Nat → Prop} {Qn : gH → Prop} (X : gC p l s m args meth c G A cX12_addsTrack 7 none RX12) {k21 : gH → Nat → Int32 → Int32 → Prop} (H21 : ∀ (h : gH) (v0 : Nat) (v1 : Int32) (v4 : Int32), k21 h v0 v1 v4 → V p l e rmX12_addsTrack s m args below meth c (MQ below (va_Qv Qn (gB G A) A) args s rmX12_addsTrack.cells rmX12_addsTrack.slots A) G A 7 h 0 0 21 [(0, .ref v0), (1, .int v1), (4, .int v4)] []) {h : gH} {v0 : Nat} {v1 : Int32} {v4 : Int32} {s0 : Int32} {s1 : Int32} {s2 : Nat} (w : vX12_addsTrack_b100 k21 Qn h v0 v1 v4 s0 s1 s2) : V p l e rmX12_addsTrack s m args below meth c (MQ below (va_Qv Qn (gB G A) A) args s rmX12_addsTrack.cells rmX12_addsTrack.slots A) G A 7 h 0 0 100 [(0, .ref v0), (1, .int v1), (4, .int v4)] [.int s0, .int s1, .ref s2] := by
  refine V_aloadr_n X dX12_addsTrack_100 0 rfl ?_
  obtain ⟨fs, r1, hh, hv, w⟩ := w
  refine V_get X flX12_72 dX12_addsTrack_101 hh hv ?_
  refine V_iload X dX12_addsTrack_104 2 rfl ?_
  obtain ⟨a2, rfl, w⟩ := w
  obtain ⟨N9, g9, hh, hi, w⟩ := w
  refine V_lald X dX12_addsTrack_106 hh hi ?_
  generalize g9 _ = x3 at w ⊢
  obtain ⟨fs, hh, w⟩ := w
  refine V_callVv (As := [.int s1, .int s0, .long x3]) (rest := []) (k1 := 0) (n1 := 0) X (cX12_addsEntry_ok X.2.2.2.2.2.2.2.2.1 w) lkX12_268 hh (q9 := (RX12, TX12, 42)) rfl rfl dX12_addsTrack_107 ⟨Nat.le_of_ble_eq_true rfl, Nat.le_of_ble_eq_true rfl⟩ rfl (Nat.le_of_ble_eq_true rfl) ⟨Nat.le_of_ble_eq_true rfl, Nat.le_of_ble_eq_true rfl⟩ (Nat.le_of_ble_eq_true rfl) (Nat.le_of_ble_eq_true rfl) (fun h4 w9 => ?_)
  replace w := w9
  clear w9
  exact V.sub [0, 1, 2] rfl (tX12_addsTrack_b110 X H21 w)
def vX12_addsTrack_b21_o (k21 : gH → Nat → Int32 → Int32 → Prop) (Qn : gH → Prop) (h : gH) (v0 : Nat) (v1 : Int32) (v4 : Int32) : Prop := gi h v0 15 8 (fun x1 => ((x1 ≤ (v4 : Int32)) → (Qn h)) ∧ ((¬ x1 ≤ (v4 : Int32)) → (gr h v0 15 27 (fun r2 => nn r2 (fun a3 => ll h a3 v4 (fun x4 => (((x4 : Int64) ≤ 0) → (vX12_addsTrack_b110 k21 Qn h v0 v1 v4)) ∧ ((¬ (x4 : Int64) ≤ 0) → (gr h v0 15 0 (fun r5 => nn r5 (fun a6 => li h a6 (v1 + 2) (fun x7 => gr h v0 15 4 (fun r8 => nn r8 (fun a9 => li h a9 v4 (fun x10 => ¬ (1000000 : Int64) = 0 ∧ (gr h v0 15 4 (fun r11 => nn r11 (fun a12 => li h a12 v4 (fun x13 => ((((((Int32.toInt64 x7) * (Int32.toInt64 x10)) / 1000000) : Int64) ≤ (Int32.toInt64 (x13 - 1))) → (vX12_addsTrack_b100 k21 Qn h v0 v1 v4 (Int64.toInt32 (((Int32.toInt64 x7) * (Int32.toInt64 x10)) / 1000000)) v4 v0)) ∧ ((¬ ((((Int32.toInt64 x7) * (Int32.toInt64 x10)) / 1000000) : Int64) ≤ (Int32.toInt64 (x13 - 1))) → (gr h v0 15 4 (fun r14 => nn r14 (fun a15 => li h a15 v4 (fun x16 => vX12_addsTrack_b100 k21 Qn h v0 v1 v4 (x16 - 1) v4 v0)))))))))))))))))))))))
set_option maxRecDepth 100000 in
set_option maxHeartbeats 4000000 in
theorem tX12_addsTrack_b21_o {p : Program} {l : Launch} {e : Env} {s : State} {m : MethodId} {args : Array Value} {below : List Frame} {meth : Method} {c : Code} {G : gG} {A : Nat → Prop} {Qn : gH → Prop} (X : gC p l s m args meth c G A cX12_addsTrack 7 none RX12) {k21 : gH → Nat → Int32 → Int32 → Prop} (H21 : ∀ (h : gH) (v0 : Nat) (v1 : Int32) (v4 : Int32), k21 h v0 v1 v4 → V p l e rmX12_addsTrack s m args below meth c (MQ below (va_Qv Qn (gB G A) A) args s rmX12_addsTrack.cells rmX12_addsTrack.slots A) G A 7 h 0 0 21 [(0, .ref v0), (1, .int v1), (4, .int v4)] []) {h : gH} {v0 : Nat} {v1 : Int32} {v4 : Int32} (w : vX12_addsTrack_b21_o k21 Qn h v0 v1 v4) : V p l e rmX12_addsTrack s m args below meth c (MQ below (va_Qv Qn (gB G A) A) args s rmX12_addsTrack.cells rmX12_addsTrack.slots A) G A 7 h 0 0 21 [(0, .ref v0), (1, .int v1), (4, .int v4)] [] := by
  refine V_iload X dX12_addsTrack_21 2 rfl ?_
  refine V_aloadr_n X dX12_addsTrack_23 0 rfl ?_
  obtain ⟨fs, x1, hh, hv, w⟩ := w
  refine V_get X flX12_120 dX12_addsTrack_24 hh hv ?_
  obtain ⟨w1, w2⟩ := w
  refine V_icmp_ge (tgt := 116) X dX12_addsTrack_27 (by decide) (fun z => ?_) (fun z => ?_)
  · replace w := w1 z
    clear w1 w2
    exact V_vret X rfl dX12_addsTrack_116 (Nat.le_of_ble_eq_true rfl) (Nat.le_of_ble_eq_true rfl) w
  · replace w := w2 z
    clear w1 w2
    refine V_aloadr_n X dX12_addsTrack_30 0 rfl ?_
    obtain ⟨fs, r2, hh, hv, w⟩ := w
    refine V_get X flX12_72 dX12_addsTrack_31 hh hv ?_
    refine V_iload X dX12_addsTrack_34 2 rfl ?_
    obtain ⟨a3, rfl, w⟩ := w
    obtain ⟨N9, g9, hh, hi, w⟩ := w
    refine V_lald X dX12_addsTrack_36 hh hi ?_
    generalize g9 _ = x4 at w ⊢
    refine V_lconst (y := 0) X dX12_addsTrack_37 (by decide) ?_
    refine V_lcmp X dX12_addsTrack_38 ?_
    obtain ⟨w1, w2⟩ := w
    refine V_if_le (tgt := 110) X dX12_addsTrack_39 (by decide) (fun z => ?_) (fun z => ?_)
    · replace w := w1 ((lg_cmp_le _ _).mp z)
      clear w1 w2
      exact V.sub [0, 1, 2] rfl (tX12_addsTrack_b110 X H21 w)
    · replace w := w2 (fun z9 => z ((lg_cmp_le _ _).mpr z9))
      clear w1 w2
      refine V_aloadr_n X dX12_addsTrack_42 0 rfl ?_
      obtain ⟨fs, r5, hh, hv, w⟩ := w
      refine V_get X flX12_7 dX12_addsTrack_43 hh hv ?_
      refine V_iload_n X dX12_addsTrack_46 1 rfl ?_
      refine V_iconst (y := 2) X dX12_addsTrack_47 (by decide) ?_
      refine V_iadd X dX12_addsTrack_48 ?_
      obtain ⟨a6, rfl, w⟩ := w
      obtain ⟨N9, g9, hh, hi, w⟩ := w
      refine V_iald X dX12_addsTrack_49 hh hi ?_
      generalize g9 _ = x7 at w ⊢
      refine V_i2l X dX12_addsTrack_50 ?_
      refine V_aloadr_n X dX12_addsTrack_51 0 rfl ?_
      obtain ⟨fs, r8, hh, hv, w⟩ := w
      refine V_get X flX12_20 dX12_addsTrack_52 hh hv ?_
      refine V_iload X dX12_addsTrack_55 2 rfl ?_
      obtain ⟨a9, rfl, w⟩ := w
      obtain ⟨N9, g9, hh, hi, w⟩ := w
      refine V_iald X dX12_addsTrack_57 hh hi ?_
      generalize g9 _ = x10 at w ⊢
      refine V_i2l X dX12_addsTrack_58 ?_
      refine V_lmul X dX12_addsTrack_59 ?_
      refine V_ldc2 (y := 1000000) X dX12_addsTrack_60 kw_1930 ?_
      obtain ⟨z0, w⟩ := w
      refine V_ldiv X dX12_addsTrack_63 z0 ?_
      refine V_lstore X dX12_addsTrack_64 (by decide) rfl ?_
      refine V_aloadr_n X dX12_addsTrack_66 1 rfl ?_
      refine V_iload X dX12_addsTrack_67 3 rfl ?_
      refine V_lload X dX12_addsTrack_69 0 rfl ?_
      refine V_aloadr_n X dX12_addsTrack_71 1 rfl ?_
      obtain ⟨fs, r11, hh, hv, w⟩ := w
      refine V_get X flX12_20 dX12_addsTrack_72 hh hv ?_
      refine V_iload X dX12_addsTrack_75 3 rfl ?_
      obtain ⟨a12, rfl, w⟩ := w
      obtain ⟨N9, g9, hh, hi, w⟩ := w
      refine V_iald X dX12_addsTrack_77 hh hi ?_
      generalize g9 _ = x13 at w ⊢
      refine V_iconst (y := 1) X dX12_addsTrack_78 (by decide) ?_
      refine V_isub X dX12_addsTrack_79 ?_
      refine V_i2l X dX12_addsTrack_80 ?_
      refine V_lcmp X dX12_addsTrack_81 ?_
      obtain ⟨w1, w2⟩ := w
      refine V_if_le (tgt := 97) X dX12_addsTrack_82 (by decide) (fun z => ?_) (fun z => ?_)
      · replace w := w1 ((lg_cmp_le _ _).mp z)
        clear w1 w2
        refine V_lload X dX12_addsTrack_97 0 rfl ?_
        refine V_l2i X dX12_addsTrack_99 ?_
        exact V.sub [1, 2, 3] rfl (tX12_addsTrack_b100 X H21 w)
      · replace w := w2 (fun z9 => z ((lg_cmp_le _ _).mpr z9))
        clear w1 w2
        refine V_aloadr_n X dX12_addsTrack_85 1 rfl ?_
        obtain ⟨fs, r14, hh, hv, w⟩ := w
        refine V_get X flX12_20 dX12_addsTrack_86 hh hv ?_
        refine V_iload X dX12_addsTrack_89 3 rfl ?_
        obtain ⟨a15, rfl, w⟩ := w
        obtain ⟨N9, g9, hh, hi, w⟩ := w
        refine V_iald X dX12_addsTrack_91 hh hi ?_
        generalize g9 _ = x16 at w ⊢
        refine V_iconst (y := 1) X dX12_addsTrack_92 (by decide) ?_
        refine V_isub X dX12_addsTrack_93 ?_
        refine V_goto (tgt := 100) X dX12_addsTrack_94 (by decide) ?_
        exact V.sub [1, 2, 3] rfl (tX12_addsTrack_b100 X H21 w)
def vX12_addsTrack_b21  (Qn : gH → Prop) (n : Nat) : gH → Nat → Int32 → Int32 → Prop := Nat.rec (motive := fun _ => gH → Nat → Int32 → Int32 → Prop) (fun _ _ _ _ => False) (fun _ k21 => vX12_addsTrack_b21_o k21 Qn) n
theorem tX12_addsTrack_b21 {p : Program} {l : Launch} {e : Env} {s : State} {m : MethodId} {args : Array Value} {below : List Frame} {meth : Method} {c : Code} {G : gG} {A : Nat → Prop} {Qn : gH → Prop} (X : gC p l s m args meth c G A cX12_addsTrack 7 none RX12)   : ∀ (n : Nat) (h : gH) (v0 : Nat) (v1 : Int32) (v4 : Int32) (w : vX12_addsTrack_b21  Qn n h v0 v1 v4), V p l e rmX12_addsTrack s m args below meth c (MQ below (va_Qv Qn (gB G A) A) args s rmX12_addsTrack.cells rmX12_addsTrack.slots A) G A 7 h 0 0 21 [(0, .ref v0), (1, .int v1), (4, .int v4)] [] := by
  intro n
  induction n with
  | zero => intro h v0 v1 v4 w; exact False.elim w
  | succ n ih => intro h v0 v1 v4 w; exact tX12_addsTrack_b21_o X ih w
def vX12_addsTrack  (Qn : gH → Prop) (h : gH) (v0 : Nat) (v1 : Int32) (v2 : Int64) : Prop := gr h v0 15 15 (fun r1 => gr h v0 15 0 (fun r2 => nn r2 (fun a3 => li h a3 (v1 + 0) (fun x4 => nn r1 (fun a5 => li h a5 x4 (fun x6 => io h v0 15 (vX12_blends (fun h7 => ∃ n : Nat, vX12_addsTrack_b21  Qn n h7 v0 v1 0) h v0 x6 v2)))))))
set_option maxRecDepth 100000 in
set_option maxHeartbeats 4000000 in
theorem tX12_addsTrack {p : Program} {l : Launch} {e : Env} {s : State} {m : MethodId} {args : Array Value} {below : List Frame} {meth : Method} {c : Code} {G : gG} {A : Nat → Prop} {Qn : gH → Prop} (X : gC p l s m args meth c G A cX12_addsTrack 7 none RX12)   {h : gH} {v0 : Nat} {v1 : Int32} {v2 : Int64} (w : vX12_addsTrack  Qn h v0 v1 v2) : V p l e rmX12_addsTrack s m args below meth c (MQ below (va_Qv Qn (gB G A) A) args s rmX12_addsTrack.cells rmX12_addsTrack.slots A) G A 7 h 0 0 0 [(0, .ref v0), (1, .int v1), (2, .long v2)] [] := by
  refine V_aloadr_n X dX12_addsTrack_0 0 rfl ?_
  refine V_aloadr_n X dX12_addsTrack_1 0 rfl ?_
  obtain ⟨fs, r1, hh, hv, w⟩ := w
  refine V_get X flX12_47 dX12_addsTrack_2 hh hv ?_
  refine V_aloadr_n X dX12_addsTrack_5 0 rfl ?_
  obtain ⟨fs, r2, hh, hv, w⟩ := w
  refine V_get X flX12_7 dX12_addsTrack_6 hh hv ?_
  refine V_iload_n X dX12_addsTrack_9 1 rfl ?_
  refine V_iconst (y := 0) X dX12_addsTrack_10 (by decide) ?_
  refine V_iadd X dX12_addsTrack_11 ?_
  obtain ⟨a3, rfl, w⟩ := w
  obtain ⟨N9, g9, hh, hi, w⟩ := w
  refine V_iald X dX12_addsTrack_12 hh hi ?_
  generalize g9 _ = x4 at w ⊢
  obtain ⟨a5, rfl, w⟩ := w
  obtain ⟨N9, g9, hh, hi, w⟩ := w
  refine V_iald X dX12_addsTrack_13 hh hi ?_
  generalize g9 _ = x6 at w ⊢
  refine V_lload_n X dX12_addsTrack_14 2 rfl ?_
  obtain ⟨fs, hh, w⟩ := w
  refine V_callVv (As := [.int x6, .long v2]) (rest := []) (k1 := 0) (n1 := 0) X (cX12_blends_ok X.2.2.2.2.2.2.2.2.1 w) lkX12_253 hh (q9 := (RX12, TX12, 42)) rfl rfl dX12_addsTrack_15 ⟨Nat.le_of_ble_eq_true rfl, Nat.le_of_ble_eq_true rfl⟩ rfl (Nat.le_of_ble_eq_true rfl) ⟨Nat.le_of_ble_eq_true rfl, Nat.le_of_ble_eq_true rfl⟩ (Nat.le_of_ble_eq_true rfl) (Nat.le_of_ble_eq_true rfl) (fun h7 w9 => ?_)
  replace w := w9
  clear w9
  refine V_iconst (y := 0) X dX12_addsTrack_18 (by decide) ?_
  refine V_istore X dX12_addsTrack_19 (by decide) rfl ?_
  obtain ⟨n9, w⟩ := w
  exact V.sub [1, 2, 0] rfl (tX12_addsTrack_b21 X  n9 _ _ _ _ w)
theorem cX12_addsTrack_ok {l : Launch} {G : gG} {h : gH} (hls : l.stackTraces = false) {Qn : gH → Prop} {v0 : Nat} {v1 : Int32} {v2 : Int64} (w : vX12_addsTrack Qn h v0 v1 v2) : gMv l yX12_addsTrack cX12_addsTrack 7 none rmX12_addsTrack rmX12_addsTrack.cells rmX12_addsTrack.slots G h [.ref v0, .int v1, .long v2] Qn := by
  exact gMv.of (by decide +kernel) hls (Nat.le_of_ble_eq_true rfl) rfl rfl (fun p e s m below meth c A X hnm => tX12_addsTrack X w)
/-! AnimationControllerModel.addsFrozen(J)V -/
abbrev rmX12_addsFrozen : Room := { frames := 1, cells := 0, slots := 0, locals := 26 }
def vX12_addsFrozen_b135 (k50 : gH → Nat → Int64 → Int64 → Int32 → Prop) (Qn : gH → Prop) (h : gH) (v0 : Nat) (v1 : Int64) (v3 : Int64) (v5 : Int32) : Prop := k50 h v0 v1 v3 (v5 + 1)
set_option maxRecDepth 100000 in
set_option maxHeartbeats 4000000 in
theorem tX12_addsFrozen_b135 {p : Program} {l : Launch} {e : Env} {s : State} {m : MethodId} {args : Array Value} {below : List Frame} {meth : Method} {c : Code} {G : gG} {A : Nat → Prop} {Qn : gH → Prop} (X : gC p l s m args meth c G A cX12_addsFrozen 8 none RX12) {k50 : gH → Nat → Int64 → Int64 → Int32 → Prop} (H50 : ∀ (h : gH) (v0 : Nat) (v1 : Int64) (v3 : Int64) (v5 : Int32), k50 h v0 v1 v3 v5 → V p l e rmX12_addsFrozen s m args below meth c (MQ below (va_Qv Qn (gB G A) A) args s rmX12_addsFrozen.cells rmX12_addsFrozen.slots A) G A 8 h 0 0 50 [(0, .ref v0), (1, .long v1), (3, .long v3), (5, .int v5)] []) {h : gH} {v0 : Nat} {v1 : Int64} {v3 : Int64} {v5 : Int32} (w : vX12_addsFrozen_b135 k50 Qn h v0 v1 v3 v5) : V p l e rmX12_addsFrozen s m args below meth c (MQ below (va_Qv Qn (gB G A) A) args s rmX12_addsFrozen.cells rmX12_addsFrozen.slots A) G A 8 h 0 0 135 [(0, .ref v0), (1, .long v1), (3, .long v3), (5, .int v5)] [] := by
  refine V_iinc (y := (v5 + 1)) X dX12_addsFrozen_135 3 rfl (by first | rfl | (congr 1)) (by decide) rfl ?_
  refine V_goto (tgt := 50) X dX12_addsFrozen_138 (by decide) ?_
  exact V.sub [1, 2, 3, 0] rfl (H50 _ _ _ _ _ w)
def vX12_addsFrozen_b93 (k50 : gH → Nat → Int64 → Int64 → Int32 → Prop) (Qn : gH → Prop) (h : gH) (v0 : Nat) (v1 : Int64) (v3 : Int64) (v5 : Int32) (s0 : Int64) (s1 : Int64) : Prop := ((((s1 + s0) : Int64) ≤ 0) → (vX12_addsFrozen_b135 k50 Qn h v0 v1 v3 v5)) ∧ ((¬ ((s1 + s0) : Int64) ≤ 0) → (gr h v0 15 0 (fun r1 => nn r1 (fun a2 => li h a2 (22 + (3 * v5)) (fun x3 => gr h v0 15 0 (fun r4 => nn r4 (fun a5 => li h a5 ((22 + (3 * v5)) + 1) (fun x6 => io h v0 15 (vX12_addsEntry (fun h7 => vX12_addsFrozen_b135 k50 Qn h7 v0 v1 v3 v5) h v0 x3 x6 (s1 + s0))))))))))
set_option maxRecDepth 100000 in
set_option maxHeartbeats 4000000 in
theorem tX12_addsFrozen_b93 {p : Program} {l : Launch} {e : Env} {s : State} {m : MethodId} {args : Array Value} {below : List Frame} {meth : Method} {c : Code} {G : gG} {A : Nat → Prop} {Qn : gH → Prop} (X : gC p l s m args meth c G A cX12_addsFrozen 8 none RX12) {k50 : gH → Nat → Int64 → Int64 → Int32 → Prop} (H50 : ∀ (h : gH) (v0 : Nat) (v1 : Int64) (v3 : Int64) (v5 : Int32), k50 h v0 v1 v3 v5 → V p l e rmX12_addsFrozen s m args below meth c (MQ below (va_Qv Qn (gB G A) A) args s rmX12_addsFrozen.cells rmX12_addsFrozen.slots A) G A 8 h 0 0 50 [(0, .ref v0), (1, .long v1), (3, .long v3), (5, .int v5)] []) {h : gH} {v0 : Nat} {v1 : Int64} {v3 : Int64} {v5 : Int32} {s0 : Int64} {s1 : Int64} (w : vX12_addsFrozen_b93 k50 Qn h v0 v1 v3 v5 s0 s1) : V p l e rmX12_addsFrozen s m args below meth c (MQ below (va_Qv Qn (gB G A) A) args s rmX12_addsFrozen.cells rmX12_addsFrozen.slots A) G A 8 h 0 0 93 [(0, .ref v0), (1, .long v1), (3, .long v3), (5, .int v5)] [.long s0, .long s1] := by
  refine V_ladd X dX12_addsFrozen_93 ?_
  refine V_lstore X dX12_addsFrozen_94 (by decide) rfl ?_
  refine V_lload X dX12_addsFrozen_96 0 rfl ?_
  refine V_lconst (y := 0) X dX12_addsFrozen_98 (by decide) ?_
  refine V_lcmp X dX12_addsFrozen_99 ?_
  obtain ⟨w1, w2⟩ := w
  refine V_if_le (tgt := 135) X dX12_addsFrozen_100 (by decide) (fun z => ?_) (fun z => ?_)
  · replace w := w1 ((lg_cmp_le _ _).mp z)
    clear w1 w2
    exact V.sub [1, 2, 3, 4] rfl (tX12_addsFrozen_b135 X H50 w)
  · replace w := w2 (fun z9 => z ((lg_cmp_le _ _).mpr z9))
    clear w1 w2
    refine V_aloadr_n X dX12_addsFrozen_103 1 rfl ?_
    refine V_aloadr_n X dX12_addsFrozen_104 1 rfl ?_
    obtain ⟨fs, r1, hh, hv, w⟩ := w
    refine V_get X flX12_7 dX12_addsFrozen_105 hh hv ?_
    refine V_bipush (y := 22) X dX12_addsFrozen_108 (by decide) ?_
    refine V_iconst (y := 3) X dX12_addsFrozen_110 (by decide) ?_
    refine V_iload X dX12_addsFrozen_111 4 rfl ?_
    refine V_imul X dX12_addsFrozen_113 ?_
    refine V_iadd X dX12_addsFrozen_114 ?_
    obtain ⟨a2, rfl, w⟩ := w
    obtain ⟨N9, g9, hh, hi, w⟩ := w
    refine V_iald X dX12_addsFrozen_115 hh hi ?_
    generalize g9 _ = x3 at w ⊢
    refine V_aloadr_n X dX12_addsFrozen_116 1 rfl ?_
    obtain ⟨fs, r4, hh, hv, w⟩ := w
    refine V_get X flX12_7 dX12_addsFrozen_117 hh hv ?_
    refine V_bipush (y := 22) X dX12_addsFrozen_120 (by decide) ?_
    refine V_iconst (y := 3) X dX12_addsFrozen_122 (by decide) ?_
    refine V_iload X dX12_addsFrozen_123 4 rfl ?_
    refine V_imul X dX12_addsFrozen_125 ?_
    refine V_iadd X dX12_addsFrozen_126 ?_
    refine V_iconst (y := 1) X dX12_addsFrozen_127 (by decide) ?_
    refine V_iadd X dX12_addsFrozen_128 ?_
    obtain ⟨a5, rfl, w⟩ := w
    obtain ⟨N9, g9, hh, hi, w⟩ := w
    refine V_iald X dX12_addsFrozen_129 hh hi ?_
    generalize g9 _ = x6 at w ⊢
    refine V_lload X dX12_addsFrozen_130 0 rfl ?_
    obtain ⟨fs, hh, w⟩ := w
    refine V_callVv (As := [.int x3, .int x6, .long (s1 + s0)]) (rest := []) (k1 := 0) (n1 := 0) X (cX12_addsEntry_ok X.2.2.2.2.2.2.2.2.1 w) lkX12_268 hh (q9 := (RX12, TX12, 42)) rfl rfl dX12_addsFrozen_132 ⟨Nat.le_of_ble_eq_true rfl, Nat.le_of_ble_eq_true rfl⟩ rfl (Nat.le_of_ble_eq_true rfl) ⟨Nat.le_of_ble_eq_true rfl, Nat.le_of_ble_eq_true rfl⟩ (Nat.le_of_ble_eq_true rfl) (Nat.le_of_ble_eq_true rfl) (fun h7 w9 => ?_)
    replace w := w9
    clear w9
    exact V.sub [1, 2, 3, 4] rfl (tX12_addsFrozen_b135 X H50 w)
def vX12_addsFrozen_b50_o (k50 : gH → Nat → Int64 → Int64 → Int32 → Prop) (Qn : gH → Prop) (h : gH) (v0 : Nat) (v1 : Int64) (v3 : Int64) (v5 : Int32) : Prop := gr h v0 15 0 (fun r1 => nn r1 (fun a2 => li h a2 21 (fun x3 => ((x3 ≤ (v5 : Int32)) → (Qn h)) ∧ ((¬ x3 ≤ (v5 : Int32)) → (gr h v0 15 0 (fun r4 => nn r4 (fun a5 => li h a5 ((22 + (3 * v5)) + 2) (fun x6 => ¬ (1000000 : Int64) = 0 ∧ (((¬ (v5 : Int32) = 0) → (vX12_addsFrozen_b93 k50 Qn h v0 v1 v3 v5 0 (((Int32.toInt64 x6) * v1) / 1000000))) ∧ (((v5 : Int32) = 0) → (vX12_addsFrozen_b93 k50 Qn h v0 v1 v3 v5 v3 (((Int32.toInt64 x6) * v1) / 1000000))))))))))))
set_option maxRecDepth 100000 in
set_option maxHeartbeats 4000000 in
theorem tX12_addsFrozen_b50_o {p : Program} {l : Launch} {e : Env} {s : State} {m : MethodId} {args : Array Value} {below : List Frame} {meth : Method} {c : Code} {G : gG} {A : Nat → Prop} {Qn : gH → Prop} (X : gC p l s m args meth c G A cX12_addsFrozen 8 none RX12) {k50 : gH → Nat → Int64 → Int64 → Int32 → Prop} (H50 : ∀ (h : gH) (v0 : Nat) (v1 : Int64) (v3 : Int64) (v5 : Int32), k50 h v0 v1 v3 v5 → V p l e rmX12_addsFrozen s m args below meth c (MQ below (va_Qv Qn (gB G A) A) args s rmX12_addsFrozen.cells rmX12_addsFrozen.slots A) G A 8 h 0 0 50 [(0, .ref v0), (1, .long v1), (3, .long v3), (5, .int v5)] []) {h : gH} {v0 : Nat} {v1 : Int64} {v3 : Int64} {v5 : Int32} (w : vX12_addsFrozen_b50_o k50 Qn h v0 v1 v3 v5) : V p l e rmX12_addsFrozen s m args below meth c (MQ below (va_Qv Qn (gB G A) A) args s rmX12_addsFrozen.cells rmX12_addsFrozen.slots A) G A 8 h 0 0 50 [(0, .ref v0), (1, .long v1), (3, .long v3), (5, .int v5)] [] := by
  refine V_iload X dX12_addsFrozen_50 3 rfl ?_
  refine V_aloadr_n X dX12_addsFrozen_52 0 rfl ?_
  obtain ⟨fs, r1, hh, hv, w⟩ := w
  refine V_get X flX12_7 dX12_addsFrozen_53 hh hv ?_
  refine V_bipush (y := 21) X dX12_addsFrozen_56 (by decide) ?_
  obtain ⟨a2, rfl, w⟩ := w
  obtain ⟨N9, g9, hh, hi, w⟩ := w
  refine V_iald X dX12_addsFrozen_58 hh hi ?_
  generalize g9 _ = x3 at w ⊢
  obtain ⟨w1, w2⟩ := w
  refine V_icmp_ge (tgt := 141) X dX12_addsFrozen_59 (by decide) (fun z => ?_) (fun z => ?_)
  · replace w := w1 z
    clear w1 w2
    exact V_vret X rfl dX12_addsFrozen_141 (Nat.le_of_ble_eq_true rfl) (Nat.le_of_ble_eq_true rfl) w
  · replace w := w2 z
    clear w1 w2
    refine V_aloadr_n X dX12_addsFrozen_62 0 rfl ?_
    obtain ⟨fs, r4, hh, hv, w⟩ := w
    refine V_get X flX12_7 dX12_addsFrozen_63 hh hv ?_
    refine V_bipush (y := 22) X dX12_addsFrozen_66 (by decide) ?_
    refine V_iconst (y := 3) X dX12_addsFrozen_68 (by decide) ?_
    refine V_iload X dX12_addsFrozen_69 3 rfl ?_
    refine V_imul X dX12_addsFrozen_71 ?_
    refine V_iadd X dX12_addsFrozen_72 ?_
    refine V_iconst (y := 2) X dX12_addsFrozen_73 (by decide) ?_
    refine V_iadd X dX12_addsFrozen_74 ?_
    obtain ⟨a5, rfl, w⟩ := w
    obtain ⟨N9, g9, hh, hi, w⟩ := w
    refine V_iald X dX12_addsFrozen_75 hh hi ?_
    generalize g9 _ = x6 at w ⊢
    refine V_i2l X dX12_addsFrozen_76 ?_
    refine V_lload_n X dX12_addsFrozen_77 1 rfl ?_
    refine V_lmul X dX12_addsFrozen_78 ?_
    refine V_ldc2 (y := 1000000) X dX12_addsFrozen_79 kw_1930 ?_
    obtain ⟨z0, w⟩ := w
    refine V_ldiv X dX12_addsFrozen_82 z0 ?_
    refine V_iload X dX12_addsFrozen_83 3 rfl ?_
    obtain ⟨w1, w2⟩ := w
    refine V_if_ne (tgt := 92) X dX12_addsFrozen_85 (by decide) (fun z => ?_) (fun z => ?_)
    · replace w := w1 z
      clear w1 w2
      refine V_lconst (y := 0) X dX12_addsFrozen_92 (by decide) ?_
      exact V.sub [0, 1, 2, 3] rfl (tX12_addsFrozen_b93 X H50 w)
    · replace w := w2 z
      clear w1 w2
      refine V_lload_n X dX12_addsFrozen_88 2 rfl ?_
      refine V_goto (tgt := 93) X dX12_addsFrozen_89 (by decide) ?_
      exact V.sub [0, 1, 2, 3] rfl (tX12_addsFrozen_b93 X H50 w)
def vX12_addsFrozen_b50  (Qn : gH → Prop) (n : Nat) : gH → Nat → Int64 → Int64 → Int32 → Prop := Nat.rec (motive := fun _ => gH → Nat → Int64 → Int64 → Int32 → Prop) (fun _ _ _ _ _ => False) (fun _ k50 => vX12_addsFrozen_b50_o k50 Qn) n
theorem tX12_addsFrozen_b50 {p : Program} {l : Launch} {e : Env} {s : State} {m : MethodId} {args : Array Value} {below : List Frame} {meth : Method} {c : Code} {G : gG} {A : Nat → Prop} {Qn : gH → Prop} (X : gC p l s m args meth c G A cX12_addsFrozen 8 none RX12)   : ∀ (n : Nat) (h : gH) (v0 : Nat) (v1 : Int64) (v3 : Int64) (v5 : Int32) (w : vX12_addsFrozen_b50  Qn n h v0 v1 v3 v5), V p l e rmX12_addsFrozen s m args below meth c (MQ below (va_Qv Qn (gB G A) A) args s rmX12_addsFrozen.cells rmX12_addsFrozen.slots A) G A 8 h 0 0 50 [(0, .ref v0), (1, .long v1), (3, .long v3), (5, .int v5)] [] := by
  intro n
  induction n with
  | zero => intro h v0 v1 v3 v5 w; exact False.elim w
  | succ n ih => intro h v0 v1 v3 v5 w; exact tX12_addsFrozen_b50_o X ih w
def vX12_addsFrozen_b5_o (k5 : gH → Nat → Int64 → Int64 → Int32 → Prop) (Qn : gH → Prop) (h : gH) (v0 : Nat) (v1 : Int64) (v3 : Int64) (v5 : Int32) : Prop := gr h v0 15 0 (fun r1 => nn r1 (fun a2 => li h a2 21 (fun x3 => ((x3 ≤ (v5 : Int32)) → (∃ n : Nat, vX12_addsFrozen_b50  Qn n h v0 v1 v3 0)) ∧ ((¬ x3 ≤ (v5 : Int32)) → (gr h v0 15 0 (fun r4 => nn r4 (fun a5 => li h a5 ((22 + (3 * v5)) + 2) (fun x6 => ¬ (1000000 : Int64) = 0 ∧ (k5 h v0 v1 (v3 - (((Int32.toInt64 x6) * v1) / 1000000)) (v5 + 1))))))))))
set_option maxRecDepth 100000 in
set_option maxHeartbeats 4000000 in
theorem tX12_addsFrozen_b5_o {p : Program} {l : Launch} {e : Env} {s : State} {m : MethodId} {args : Array Value} {below : List Frame} {meth : Method} {c : Code} {G : gG} {A : Nat → Prop} {Qn : gH → Prop} (X : gC p l s m args meth c G A cX12_addsFrozen 8 none RX12) {k5 : gH → Nat → Int64 → Int64 → Int32 → Prop} (H5 : ∀ (h : gH) (v0 : Nat) (v1 : Int64) (v3 : Int64) (v5 : Int32), k5 h v0 v1 v3 v5 → V p l e rmX12_addsFrozen s m args below meth c (MQ below (va_Qv Qn (gB G A) A) args s rmX12_addsFrozen.cells rmX12_addsFrozen.slots A) G A 8 h 0 0 5 [(0, .ref v0), (1, .long v1), (3, .long v3), (5, .int v5)] []) {h : gH} {v0 : Nat} {v1 : Int64} {v3 : Int64} {v5 : Int32} (w : vX12_addsFrozen_b5_o k5 Qn h v0 v1 v3 v5) : V p l e rmX12_addsFrozen s m args below meth c (MQ below (va_Qv Qn (gB G A) A) args s rmX12_addsFrozen.cells rmX12_addsFrozen.slots A) G A 8 h 0 0 5 [(0, .ref v0), (1, .long v1), (3, .long v3), (5, .int v5)] [] := by
  refine V_iload X dX12_addsFrozen_5 3 rfl ?_
  refine V_aloadr_n X dX12_addsFrozen_7 0 rfl ?_
  obtain ⟨fs, r1, hh, hv, w⟩ := w
  refine V_get X flX12_7 dX12_addsFrozen_8 hh hv ?_
  refine V_bipush (y := 21) X dX12_addsFrozen_11 (by decide) ?_
  obtain ⟨a2, rfl, w⟩ := w
  obtain ⟨N9, g9, hh, hi, w⟩ := w
  refine V_iald X dX12_addsFrozen_13 hh hi ?_
  generalize g9 _ = x3 at w ⊢
  obtain ⟨w1, w2⟩ := w
  refine V_icmp_ge (tgt := 47) X dX12_addsFrozen_14 (by decide) (fun z => ?_) (fun z => ?_)
  · replace w := w1 z
    clear w1 w2
    refine V_iconst (y := 0) X dX12_addsFrozen_47 (by decide) ?_
    refine V_istore X dX12_addsFrozen_48 (by decide) rfl ?_
    obtain ⟨n9, w⟩ := w
    exact V.sub [1, 2, 3, 0] rfl (tX12_addsFrozen_b50 X  n9 _ _ _ _ _ w)
  · replace w := w2 z
    clear w1 w2
    refine V_lload_n X dX12_addsFrozen_17 2 rfl ?_
    refine V_aloadr_n X dX12_addsFrozen_18 0 rfl ?_
    obtain ⟨fs, r4, hh, hv, w⟩ := w
    refine V_get X flX12_7 dX12_addsFrozen_19 hh hv ?_
    refine V_bipush (y := 22) X dX12_addsFrozen_22 (by decide) ?_
    refine V_iconst (y := 3) X dX12_addsFrozen_24 (by decide) ?_
    refine V_iload X dX12_addsFrozen_25 3 rfl ?_
    refine V_imul X dX12_addsFrozen_27 ?_
    refine V_iadd X dX12_addsFrozen_28 ?_
    refine V_iconst (y := 2) X dX12_addsFrozen_29 (by decide) ?_
    refine V_iadd X dX12_addsFrozen_30 ?_
    obtain ⟨a5, rfl, w⟩ := w
    obtain ⟨N9, g9, hh, hi, w⟩ := w
    refine V_iald X dX12_addsFrozen_31 hh hi ?_
    generalize g9 _ = x6 at w ⊢
    refine V_i2l X dX12_addsFrozen_32 ?_
    refine V_lload_n X dX12_addsFrozen_33 1 rfl ?_
    refine V_lmul X dX12_addsFrozen_34 ?_
    refine V_ldc2 (y := 1000000) X dX12_addsFrozen_35 kw_1930 ?_
    obtain ⟨z0, w⟩ := w
    refine V_ldiv X dX12_addsFrozen_38 z0 ?_
    refine V_lsub X dX12_addsFrozen_39 ?_
    refine V_lstore_n X dX12_addsFrozen_40 rfl (by decide) rfl ?_
    refine V_iinc (y := (v5 + 1)) X dX12_addsFrozen_41 3 rfl (by first | rfl | (congr 1)) (by decide) rfl ?_
    refine V_goto (tgt := 5) X dX12_addsFrozen_44 (by decide) ?_
    exact V.sub [2, 3, 1, 0] rfl (H5 _ _ _ _ _ w)
def vX12_addsFrozen_b5  (Qn : gH → Prop) (n : Nat) : gH → Nat → Int64 → Int64 → Int32 → Prop := Nat.rec (motive := fun _ => gH → Nat → Int64 → Int64 → Int32 → Prop) (fun _ _ _ _ _ => False) (fun _ k5 => vX12_addsFrozen_b5_o k5 Qn) n
theorem tX12_addsFrozen_b5 {p : Program} {l : Launch} {e : Env} {s : State} {m : MethodId} {args : Array Value} {below : List Frame} {meth : Method} {c : Code} {G : gG} {A : Nat → Prop} {Qn : gH → Prop} (X : gC p l s m args meth c G A cX12_addsFrozen 8 none RX12)   : ∀ (n : Nat) (h : gH) (v0 : Nat) (v1 : Int64) (v3 : Int64) (v5 : Int32) (w : vX12_addsFrozen_b5  Qn n h v0 v1 v3 v5), V p l e rmX12_addsFrozen s m args below meth c (MQ below (va_Qv Qn (gB G A) A) args s rmX12_addsFrozen.cells rmX12_addsFrozen.slots A) G A 8 h 0 0 5 [(0, .ref v0), (1, .long v1), (3, .long v3), (5, .int v5)] [] := by
  intro n
  induction n with
  | zero => intro h v0 v1 v3 v5 w; exact False.elim w
  | succ n ih => intro h v0 v1 v3 v5 w; exact tX12_addsFrozen_b5_o X ih w
def vX12_addsFrozen  (Qn : gH → Prop) (h : gH) (v0 : Nat) (v1 : Int64) : Prop := ∃ n : Nat, vX12_addsFrozen_b5  Qn n h v0 v1 v1 0
set_option maxRecDepth 100000 in
set_option maxHeartbeats 4000000 in
theorem tX12_addsFrozen {p : Program} {l : Launch} {e : Env} {s : State} {m : MethodId} {args : Array Value} {below : List Frame} {meth : Method} {c : Code} {G : gG} {A : Nat → Prop} {Qn : gH → Prop} (X : gC p l s m args meth c G A cX12_addsFrozen 8 none RX12)   {h : gH} {v0 : Nat} {v1 : Int64} (w : vX12_addsFrozen  Qn h v0 v1) : V p l e rmX12_addsFrozen s m args below meth c (MQ below (va_Qv Qn (gB G A) A) args s rmX12_addsFrozen.cells rmX12_addsFrozen.slots A) G A 8 h 0 0 0 [(0, .ref v0), (1, .long v1)] [] := by
  refine V_lload_n X dX12_addsFrozen_0 1 rfl ?_
  refine V_lstore_n X dX12_addsFrozen_1 rfl (by decide) rfl ?_
  refine V_iconst (y := 0) X dX12_addsFrozen_2 (by decide) ?_
  refine V_istore X dX12_addsFrozen_3 (by decide) rfl ?_
  obtain ⟨n9, w⟩ := w
  exact V.sub [2, 3, 1, 0] rfl (tX12_addsFrozen_b5 X  n9 _ _ _ _ _ w)
theorem cX12_addsFrozen_ok {l : Launch} {G : gG} {h : gH} (hls : l.stackTraces = false) {Qn : gH → Prop} {v0 : Nat} {v1 : Int64} (w : vX12_addsFrozen Qn h v0 v1) : gMv l yX12_addsFrozen cX12_addsFrozen 8 none rmX12_addsFrozen rmX12_addsFrozen.cells rmX12_addsFrozen.slots G h [.ref v0, .long v1] Qn := by
  exact gMv.of (by decide +kernel) hls (Nat.le_of_ble_eq_true rfl) rfl rfl (fun p e s m below meth c A X hnm => tX12_addsFrozen X w)
/-! AnimationControllerModel.poses()V -/
abbrev rmX12_poses : Room := { frames := 3, cells := 0, slots := 0, locals := 82 }
def vX12_poses_b72  (Qn : gH → Prop) (h : gH) (v0 : Nat) (v1 : Int64) : Prop := io h v0 15 (vX12_addsTrack (fun h1 => Qn h1) h v0 16 v1)
set_option maxRecDepth 100000 in
set_option maxHeartbeats 4000000 in
theorem tX12_poses_b72 {p : Program} {l : Launch} {e : Env} {s : State} {m : MethodId} {args : Array Value} {below : List Frame} {meth : Method} {c : Code} {G : gG} {A : Nat → Prop} {Qn : gH → Prop} (X : gC p l s m args meth c G A cX12_poses 3 none RX12)   {h : gH} {v0 : Nat} {v1 : Int64} (w : vX12_poses_b72  Qn h v0 v1) : V p l e rmX12_poses s m args below meth c (MQ below (va_Qv Qn (gB G A) A) args s rmX12_poses.cells rmX12_poses.slots A) G A 3 h 0 0 72 [(0, .ref v0), (1, .long v1)] [] := by
  refine V_aloadr_n X dX12_poses_72 0 rfl ?_
  refine V_bipush (y := 16) X dX12_poses_73 (by decide) ?_
  refine V_lload_n X dX12_poses_75 1 rfl ?_
  obtain ⟨fs, hh, w⟩ := w
  refine V_callVv (As := [.int 16, .long v1]) (rest := []) (k1 := 0) (n1 := 0) X (cX12_addsTrack_ok X.2.2.2.2.2.2.2.2.1 w) lkX12_272 hh (q9 := (RX12, TX12, 42)) rfl rfl dX12_poses_76 ⟨Nat.le_of_ble_eq_true rfl, Nat.le_of_ble_eq_true rfl⟩ rfl (Nat.le_of_ble_eq_true rfl) ⟨Nat.le_of_ble_eq_true rfl, Nat.le_of_ble_eq_true rfl⟩ (Nat.le_of_ble_eq_true rfl) (Nat.le_of_ble_eq_true rfl) (fun h1 w9 => ?_)
  replace w := w9
  clear w9
  exact V_vret X rfl dX12_poses_79 (Nat.le_of_ble_eq_true rfl) (Nat.le_of_ble_eq_true rfl) w
def vX12_poses  (Qn : gH → Prop) (h : gH) (v0 : Nat) : Prop := pv h v0 15 40 (.int 0) (fun h1 => gi h1 v0 15 19 (fun x2 => ((¬ (x2 : Int32) = 0) → (gr h1 v0 15 0 (fun r3 => nn r3 (fun a4 => li h1 a4 8 (fun x5 => ((¬ (x5 : Int32) = 0) → (io h1 v0 15 (vX12_shareOfTarget (fun x7 h6 => gr h6 v0 15 0 (fun r8 => nn r8 (fun a9 => li h6 a9 20 (fun x10 => ((¬ (x10 : Int32) = 1) → (io h6 v0 15 (vX12_addsTrack (fun h11 => vX12_poses_b72  Qn h11 v0 x7) h6 v0 12 (1000000 - x7)))) ∧ (((x10 : Int32) = 1) → (io h6 v0 15 (vX12_addsFrozen (fun h12 => vX12_poses_b72  Qn h12 v0 x7) h6 v0 (1000000 - x7)))))))) h1 v0 ))) ∧ (((x5 : Int32) = 0) → (io h1 v0 15 (vX12_addsTrack (fun h13 => Qn h13) h1 v0 12 1000000)))))))) ∧ (((x2 : Int32) = 0) → (Qn h1))))
set_option maxRecDepth 100000 in
set_option maxHeartbeats 4000000 in
theorem tX12_poses {p : Program} {l : Launch} {e : Env} {s : State} {m : MethodId} {args : Array Value} {below : List Frame} {meth : Method} {c : Code} {G : gG} {A : Nat → Prop} {Qn : gH → Prop} (X : gC p l s m args meth c G A cX12_poses 3 none RX12)   {h : gH} {v0 : Nat} (w : vX12_poses  Qn h v0) : V p l e rmX12_poses s m args below meth c (MQ below (va_Qv Qn (gB G A) A) args s rmX12_poses.cells rmX12_poses.slots A) G A 3 h 0 0 0 [(0, .ref v0)] [] := by
  refine V_aloadr_n X dX12_poses_0 0 rfl ?_
  refine V_iconst (y := 0) X dX12_poses_1 (by decide) ?_
  obtain ⟨fs, hh, hv, w⟩ := w
  refine V_put X flX12_265 dX12_poses_2 hh hv rfl rfl ?_
  generalize va_up _ _ _ = h1 at w ⊢
  refine V_aloadr_n X dX12_poses_5 0 rfl ?_
  obtain ⟨fs, x2, hh, hv, w⟩ := w
  refine V_get X flX12_145 dX12_poses_6 hh hv ?_
  obtain ⟨w1, w2⟩ := w
  refine V_if_ne (tgt := 13) X dX12_poses_9 (by decide) (fun z => ?_) (fun z => ?_)
  · replace w := w1 z
    clear w1 w2
    refine V_aloadr_n X dX12_poses_13 0 rfl ?_
    obtain ⟨fs, r3, hh, hv, w⟩ := w
    refine V_get X flX12_7 dX12_poses_14 hh hv ?_
    refine V_bipush (y := 8) X dX12_poses_17 (by decide) ?_
    obtain ⟨a4, rfl, w⟩ := w
    obtain ⟨N9, g9, hh, hi, w⟩ := w
    refine V_iald X dX12_poses_19 hh hi ?_
    generalize g9 _ = x5 at w ⊢
    obtain ⟨w1, w2⟩ := w
    refine V_if_ne (tgt := 33) X dX12_poses_20 (by decide) (fun z => ?_) (fun z => ?_)
    · replace w := w1 z
      clear w1 w2
      refine V_aloadr_n X dX12_poses_33 0 rfl ?_
      obtain ⟨fs, hh, w⟩ := w
      refine V_callVl (As := []) (rest := []) (k1 := 0) (n1 := 0) X (cX12_shareOfTarget_ok X.2.2.2.2.2.2.2.2.1 w) lkX12_275 hh (q9 := (RX12, TX12, 42)) rfl rfl dX12_poses_34 ⟨Nat.le_of_ble_eq_true rfl, Nat.le_of_ble_eq_true rfl⟩ rfl (Nat.le_of_ble_eq_true rfl) ⟨Nat.le_of_ble_eq_true rfl, Nat.le_of_ble_eq_true rfl⟩ (Nat.le_of_ble_eq_true rfl) (Nat.le_of_ble_eq_true rfl) (fun x7 h6 w9 => ?_)
      replace w := w9
      clear w9
      refine V_lstore_n X dX12_poses_37 rfl (by decide) rfl ?_
      refine V_aloadr_n X dX12_poses_38 1 rfl ?_
      obtain ⟨fs, r8, hh, hv, w⟩ := w
      refine V_get X flX12_7 dX12_poses_39 hh hv ?_
      refine V_bipush (y := 20) X dX12_poses_42 (by decide) ?_
      obtain ⟨a9, rfl, w⟩ := w
      obtain ⟨N9, g9, hh, hi, w⟩ := w
      refine V_iald X dX12_poses_44 hh hi ?_
      generalize g9 _ = x10 at w ⊢
      refine V_iconst (y := 1) X dX12_poses_45 (by decide) ?_
      obtain ⟨w1, w2⟩ := w
      refine V_icmp_ne (tgt := 61) X dX12_poses_46 (by decide) (fun z => ?_) (fun z => ?_)
      · replace w := w1 z
        clear w1 w2
        refine V_aloadr_n X dX12_poses_61 1 rfl ?_
        refine V_bipush (y := 12) X dX12_poses_62 (by decide) ?_
        refine V_ldc2 (y := 1000000) X dX12_poses_64 kw_1930 ?_
        refine V_lload_n X dX12_poses_67 0 rfl ?_
        refine V_lsub X dX12_poses_68 ?_
        obtain ⟨fs, hh, w⟩ := w
        refine V_callVv (As := [.int 12, .long (1000000 - x7)]) (rest := []) (k1 := 0) (n1 := 0) X (cX12_addsTrack_ok X.2.2.2.2.2.2.2.2.1 w) lkX12_272 hh (q9 := (RX12, TX12, 42)) rfl rfl dX12_poses_69 ⟨Nat.le_of_ble_eq_true rfl, Nat.le_of_ble_eq_true rfl⟩ rfl (Nat.le_of_ble_eq_true rfl) ⟨Nat.le_of_ble_eq_true rfl, Nat.le_of_ble_eq_true rfl⟩ (Nat.le_of_ble_eq_true rfl) (Nat.le_of_ble_eq_true rfl) (fun h11 w9 => ?_)
        replace w := w9
        clear w9
        exact V.sub [1, 0] rfl (tX12_poses_b72 X  w)
      · replace w := w2 z
        clear w1 w2
        refine V_aloadr_n X dX12_poses_49 1 rfl ?_
        refine V_ldc2 (y := 1000000) X dX12_poses_50 kw_1930 ?_
        refine V_lload_n X dX12_poses_53 0 rfl ?_
        refine V_lsub X dX12_poses_54 ?_
        obtain ⟨fs, hh, w⟩ := w
        refine V_callVv (As := [.long (1000000 - x7)]) (rest := []) (k1 := 0) (n1 := 0) X (cX12_addsFrozen_ok X.2.2.2.2.2.2.2.2.1 w) lkX12_279 hh (q9 := (RX12, TX12, 42)) rfl rfl dX12_poses_55 ⟨Nat.le_of_ble_eq_true rfl, Nat.le_of_ble_eq_true rfl⟩ rfl (Nat.le_of_ble_eq_true rfl) ⟨Nat.le_of_ble_eq_true rfl, Nat.le_of_ble_eq_true rfl⟩ (Nat.le_of_ble_eq_true rfl) (Nat.le_of_ble_eq_true rfl) (fun h12 w9 => ?_)
        replace w := w9
        clear w9
        refine V_goto (tgt := 72) X dX12_poses_58 (by decide) ?_
        exact V.sub [1, 0] rfl (tX12_poses_b72 X  w)
    · replace w := w2 z
      clear w1 w2
      refine V_aloadr_n X dX12_poses_23 0 rfl ?_
      refine V_bipush (y := 12) X dX12_poses_24 (by decide) ?_
      refine V_ldc2 (y := 1000000) X dX12_poses_26 kw_1930 ?_
      obtain ⟨fs, hh, w⟩ := w
      refine V_callVv (As := [.int 12, .long 1000000]) (rest := []) (k1 := 0) (n1 := 0) X (cX12_addsTrack_ok X.2.2.2.2.2.2.2.2.1 w) lkX12_272 hh (q9 := (RX12, TX12, 42)) rfl rfl dX12_poses_29 ⟨Nat.le_of_ble_eq_true rfl, Nat.le_of_ble_eq_true rfl⟩ rfl (Nat.le_of_ble_eq_true rfl) ⟨Nat.le_of_ble_eq_true rfl, Nat.le_of_ble_eq_true rfl⟩ (Nat.le_of_ble_eq_true rfl) (Nat.le_of_ble_eq_true rfl) (fun h13 w9 => ?_)
      replace w := w9
      clear w9
      exact V_vret X rfl dX12_poses_32 (Nat.le_of_ble_eq_true rfl) (Nat.le_of_ble_eq_true rfl) w
  · replace w := w2 z
    clear w1 w2
    exact V_vret X rfl dX12_poses_12 (Nat.le_of_ble_eq_true rfl) (Nat.le_of_ble_eq_true rfl) w
theorem cX12_poses_ok {l : Launch} {G : gG} {h : gH} (hls : l.stackTraces = false) {Qn : gH → Prop} {v0 : Nat} (w : vX12_poses Qn h v0) : gMv l yX12_poses cX12_poses 3 none rmX12_poses rmX12_poses.cells rmX12_poses.slots G h [.ref v0] Qn := by
  exact gMv.of (by decide +kernel) hls (Nat.le_of_ble_eq_true rfl) rfl rfl (fun p e s m below meth c A X hnm => tX12_poses X w)
/-! AnimationControllerModel.poseSize()I -/
abbrev rmX12_poseSize : Room := { frames := 4, cells := 0, slots := 0, locals := 104 }
def vX12_poseSize  (Qn : Int32 → gH → Prop) (h : gH) (v0 : Nat) : Prop := pv h v0 15 25 (.int 0) (fun h1 => io h1 v0 15 (vX12_poses (fun h2 => gi h2 v0 15 40 (fun x3 => Qn x3 h2)) h1 v0 ))
set_option maxRecDepth 100000 in
set_option maxHeartbeats 4000000 in
theorem tX12_poseSize {p : Program} {l : Launch} {e : Env} {s : State} {m : MethodId} {args : Array Value} {below : List Frame} {meth : Method} {c : Code} {G : gG} {A : Nat → Prop} {Qn : Int32 → gH → Prop} (X : gC p l s m args meth c G A cX12_poseSize 1 (some FieldType.int) RX12)   {h : gH} {v0 : Nat} (w : vX12_poseSize  Qn h v0) : V p l e rmX12_poseSize s m args below meth c (MQ below (va_Qi Qn (gB G A) A) args s rmX12_poseSize.cells rmX12_poseSize.slots A) G A 1 h 0 0 0 [(0, .ref v0)] [] := by
  refine V_aloadr_n X dX12_poseSize_0 0 rfl ?_
  refine V_iconst (y := 0) X dX12_poseSize_1 (by decide) ?_
  obtain ⟨fs, hh, hv, w⟩ := w
  refine V_put X flX12_94 dX12_poseSize_2 hh hv rfl rfl ?_
  generalize va_up _ _ _ = h1 at w ⊢
  refine V_aloadr_n X dX12_poseSize_5 0 rfl ?_
  obtain ⟨fs, hh, w⟩ := w
  refine V_callVv (As := []) (rest := []) (k1 := 0) (n1 := 0) X (cX12_poses_ok X.2.2.2.2.2.2.2.2.1 w) lkX12_283 hh (q9 := (RX12, TX12, 42)) rfl rfl dX12_poseSize_6 ⟨Nat.le_of_ble_eq_true rfl, Nat.le_of_ble_eq_true rfl⟩ rfl (Nat.le_of_ble_eq_true rfl) ⟨Nat.le_of_ble_eq_true rfl, Nat.le_of_ble_eq_true rfl⟩ (Nat.le_of_ble_eq_true rfl) (Nat.le_of_ble_eq_true rfl) (fun h2 w9 => ?_)
  replace w := w9
  clear w9
  refine V_aloadr_n X dX12_poseSize_9 0 rfl ?_
  obtain ⟨fs, x3, hh, hv, w⟩ := w
  refine V_get X flX12_265 dX12_poseSize_10 hh hv ?_
  exact V_iret X rfl dX12_poseSize_13 (Nat.le_of_ble_eq_true rfl) (Nat.le_of_ble_eq_true rfl) w
theorem cX12_poseSize_ok {l : Launch} {G : gG} {h : gH} (hls : l.stackTraces = false) {Qn : Int32 → gH → Prop} {v0 : Nat} (w : vX12_poseSize Qn h v0) : gMi l yX12_poseSize cX12_poseSize 1 (some FieldType.int) rmX12_poseSize rmX12_poseSize.cells rmX12_poseSize.slots G h [.ref v0] Qn := by
  exact gMi.of (by decide +kernel) hls (Nat.le_of_ble_eq_true rfl) rfl rfl (fun p e s m below meth c A X hnm => tX12_poseSize X w)
/-! AnimationControllerModel.hasEntry(I)Z -/
abbrev rmX12_hasEntry : Room := { frames := 4, cells := 0, slots := 0, locals := 104 }
def vX12_hasEntry  (Qn : Int32 → gH → Prop) (h : gH) (v0 : Nat) (v1 : Int32) : Prop := pv h v0 15 25 (.int 0) (fun h1 => io h1 v0 15 (vX12_poses (fun h2 => gi h2 v0 15 40 (fun x3 => vX12_in (fun x5 h4 => gZ x5 ∧ Qn x5 h4) h2 (Int32.toInt64 v1) 0 (Int32.toInt64 (x3 - 1)))) h1 v0 ))
set_option maxRecDepth 100000 in
set_option maxHeartbeats 4000000 in
theorem tX12_hasEntry {p : Program} {l : Launch} {e : Env} {s : State} {m : MethodId} {args : Array Value} {below : List Frame} {meth : Method} {c : Code} {G : gG} {A : Nat → Prop} {Qn : Int32 → gH → Prop} (X : gC p l s m args meth c G A cX12_hasEntry 2 (some FieldType.boolean) RX12)   {h : gH} {v0 : Nat} {v1 : Int32} (w : vX12_hasEntry  Qn h v0 v1) : V p l e rmX12_hasEntry s m args below meth c (MQ below (va_Qi Qn (gB G A) A) args s rmX12_hasEntry.cells rmX12_hasEntry.slots A) G A 2 h 0 0 0 [(0, .ref v0), (1, .int v1)] [] := by
  refine V_aloadr_n X dX12_hasEntry_0 0 rfl ?_
  refine V_iconst (y := 0) X dX12_hasEntry_1 (by decide) ?_
  obtain ⟨fs, hh, hv, w⟩ := w
  refine V_put X flX12_94 dX12_hasEntry_2 hh hv rfl rfl ?_
  generalize va_up _ _ _ = h1 at w ⊢
  refine V_aloadr_n X dX12_hasEntry_5 0 rfl ?_
  obtain ⟨fs, hh, w⟩ := w
  refine V_callVv (As := []) (rest := []) (k1 := 0) (n1 := 0) X (cX12_poses_ok X.2.2.2.2.2.2.2.2.1 w) lkX12_283 hh (q9 := (RX12, TX12, 42)) rfl rfl dX12_hasEntry_6 ⟨Nat.le_of_ble_eq_true rfl, Nat.le_of_ble_eq_true rfl⟩ rfl (Nat.le_of_ble_eq_true rfl) ⟨Nat.le_of_ble_eq_true rfl, Nat.le_of_ble_eq_true rfl⟩ (Nat.le_of_ble_eq_true rfl) (Nat.le_of_ble_eq_true rfl) (fun h2 w9 => ?_)
  replace w := w9
  clear w9
  refine V_iload_n X dX12_hasEntry_9 1 rfl ?_
  refine V_i2l X dX12_hasEntry_10 ?_
  refine V_lconst (y := 0) X dX12_hasEntry_11 (by decide) ?_
  refine V_aloadr_n X dX12_hasEntry_12 0 rfl ?_
  obtain ⟨fs, x3, hh, hv, w⟩ := w
  refine V_get X flX12_265 dX12_hasEntry_13 hh hv ?_
  refine V_iconst (y := 1) X dX12_hasEntry_16 (by decide) ?_
  refine V_isub X dX12_hasEntry_17 ?_
  refine V_i2l X dX12_hasEntry_18 ?_
  refine V_callSi (As := [.long (Int32.toInt64 v1), .long 0, .long (Int32.toInt64 (x3 - 1))]) (rest := []) (k1 := 0) (n1 := 0) X (cX12_in_ok X.2.2.2.2.2.2.2.2.1 w) lkX12_99 dX12_hasEntry_19 ⟨Nat.le_of_ble_eq_true rfl, Nat.le_of_ble_eq_true rfl⟩ rfl (Nat.le_of_ble_eq_true rfl) ⟨Nat.le_of_ble_eq_true rfl, Nat.le_of_ble_eq_true rfl⟩ (Nat.le_of_ble_eq_true rfl) (Nat.le_of_ble_eq_true rfl) (fun x5 h4 w9 => ?_)
  replace w := w9
  clear w9
  obtain ⟨hz, w⟩ := w
  exact V_zret X rfl hz.1 dX12_hasEntry_22 (Nat.le_of_ble_eq_true rfl) (Nat.le_of_ble_eq_true rfl) w
theorem cX12_hasEntry_ok {l : Launch} {G : gG} {h : gH} (hls : l.stackTraces = false) {Qn : Int32 → gH → Prop} {v0 : Nat} {v1 : Int32} (w : vX12_hasEntry Qn h v0 v1) : gMi l yX12_hasEntry cX12_hasEntry 2 (some FieldType.boolean) rmX12_hasEntry rmX12_hasEntry.cells rmX12_hasEntry.slots G h [.ref v0, .int v1] Qn := by
  exact gMi.of (by decide +kernel) hls (Nat.le_of_ble_eq_true rfl) rfl rfl (fun p e s m below meth c A X hnm => tX12_hasEntry X w)
/-! AnimationControllerModel.poseClip(I)I -/
abbrev rmX12_poseClip : Room := { frames := 5, cells := 0, slots := 0, locals := 125 }
def vX12_poseClip_b22  (Qn : Int32 → gH → Prop) (h : gH) (s0 : Int32) : Prop := Qn s0 h
set_option maxRecDepth 100000 in
set_option maxHeartbeats 4000000 in
theorem tX12_poseClip_b22 {p : Program} {l : Launch} {e : Env} {s : State} {m : MethodId} {args : Array Value} {below : List Frame} {meth : Method} {c : Code} {G : gG} {A : Nat → Prop} {Qn : Int32 → gH → Prop} (X : gC p l s m args meth c G A cX12_poseClip 2 (some FieldType.int) RX12)   {h : gH} {s0 : Int32} (w : vX12_poseClip_b22  Qn h s0) : V p l e rmX12_poseClip s m args below meth c (MQ below (va_Qi Qn (gB G A) A) args s rmX12_poseClip.cells rmX12_poseClip.slots A) G A 2 h 0 0 22 [] [.int s0] := by
  exact V_iret X rfl dX12_poseClip_22 (Nat.le_of_ble_eq_true rfl) (Nat.le_of_ble_eq_true rfl) w
def vX12_poseClip  (Qn : Int32 → gH → Prop) (h : gH) (v0 : Nat) (v1 : Int32) : Prop := io h v0 15 (vX12_hasEntry (fun x2 h1 => (((x2 : Int32) = 0) → (io h1 v0 15 (vX12_fails (fun x4 h3 => vX12_poseClip_b22  Qn h3 x4) h1 v0 1))) ∧ ((¬ (x2 : Int32) = 0) → (gr h1 v0 15 37 (fun r5 => nn r5 (fun a6 => li h1 a6 v1 (fun x7 => vX12_poseClip_b22  Qn h1 x7)))))) h v0 v1)
set_option maxRecDepth 100000 in
set_option maxHeartbeats 4000000 in
theorem tX12_poseClip {p : Program} {l : Launch} {e : Env} {s : State} {m : MethodId} {args : Array Value} {below : List Frame} {meth : Method} {c : Code} {G : gG} {A : Nat → Prop} {Qn : Int32 → gH → Prop} (X : gC p l s m args meth c G A cX12_poseClip 2 (some FieldType.int) RX12)   {h : gH} {v0 : Nat} {v1 : Int32} (w : vX12_poseClip  Qn h v0 v1) : V p l e rmX12_poseClip s m args below meth c (MQ below (va_Qi Qn (gB G A) A) args s rmX12_poseClip.cells rmX12_poseClip.slots A) G A 2 h 0 0 0 [(0, .ref v0), (1, .int v1)] [] := by
  refine V_aloadr_n X dX12_poseClip_0 0 rfl ?_
  refine V_iload_n X dX12_poseClip_1 1 rfl ?_
  obtain ⟨fs, hh, w⟩ := w
  refine V_callVi (As := [.int v1]) (rest := []) (k1 := 0) (n1 := 0) X (cX12_hasEntry_ok X.2.2.2.2.2.2.2.2.1 w) lkX12_286 hh (q9 := (RX12, TX12, 42)) rfl rfl dX12_poseClip_2 ⟨Nat.le_of_ble_eq_true rfl, Nat.le_of_ble_eq_true rfl⟩ rfl (Nat.le_of_ble_eq_true rfl) ⟨Nat.le_of_ble_eq_true rfl, Nat.le_of_ble_eq_true rfl⟩ (Nat.le_of_ble_eq_true rfl) (Nat.le_of_ble_eq_true rfl) (fun x2 h1 w9 => ?_)
  replace w := w9
  clear w9
  obtain ⟨w1, w2⟩ := w
  refine V_if_eq (tgt := 17) X dX12_poseClip_5 (by decide) (fun z => ?_) (fun z => ?_)
  · replace w := w1 z
    clear w1 w2
    refine V_aloadr_n X dX12_poseClip_17 0 rfl ?_
    refine V_iconst (y := 1) X dX12_poseClip_18 (by decide) ?_
    obtain ⟨fs, hh, w⟩ := w
    refine V_callVi (As := [.int 1]) (rest := []) (k1 := 0) (n1 := 0) X (cX12_fails_ok X.2.2.2.2.2.2.2.2.1 w) lkX12_103 hh (q9 := (RX12, TX12, 42)) rfl rfl dX12_poseClip_19 ⟨Nat.le_of_ble_eq_true rfl, Nat.le_of_ble_eq_true rfl⟩ rfl (Nat.le_of_ble_eq_true rfl) ⟨Nat.le_of_ble_eq_true rfl, Nat.le_of_ble_eq_true rfl⟩ (Nat.le_of_ble_eq_true rfl) (Nat.le_of_ble_eq_true rfl) (fun x4 h3 w9 => ?_)
    replace w := w9
    clear w9
    exact V.sub [] rfl (tX12_poseClip_b22 X  w)
  · replace w := w2 z
    clear w1 w2
    refine V_aloadr_n X dX12_poseClip_8 0 rfl ?_
    obtain ⟨fs, r5, hh, hv, w⟩ := w
    refine V_get X flX12_82 dX12_poseClip_9 hh hv ?_
    refine V_iload_n X dX12_poseClip_12 1 rfl ?_
    obtain ⟨a6, rfl, w⟩ := w
    obtain ⟨N9, g9, hh, hi, w⟩ := w
    refine V_iald X dX12_poseClip_13 hh hi ?_
    generalize g9 _ = x7 at w ⊢
    refine V_goto (tgt := 22) X dX12_poseClip_14 (by decide) ?_
    exact V.sub [] rfl (tX12_poseClip_b22 X  w)
theorem cX12_poseClip_ok {l : Launch} {G : gG} {h : gH} (hls : l.stackTraces = false) {Qn : Int32 → gH → Prop} {v0 : Nat} {v1 : Int32} (w : vX12_poseClip Qn h v0 v1) : gMi l yX12_poseClip cX12_poseClip 2 (some FieldType.int) rmX12_poseClip rmX12_poseClip.cells rmX12_poseClip.slots G h [.ref v0, .int v1] Qn := by
  exact gMi.of (by decide +kernel) hls (Nat.le_of_ble_eq_true rfl) rfl rfl (fun p e s m below meth c A X hnm => tX12_poseClip X w)
/-! AnimationControllerModel.poseTime(I)I -/
abbrev rmX12_poseTime : Room := { frames := 5, cells := 0, slots := 0, locals := 125 }
def vX12_poseTime_b22  (Qn : Int32 → gH → Prop) (h : gH) (s0 : Int32) : Prop := Qn s0 h
set_option maxRecDepth 100000 in
set_option maxHeartbeats 4000000 in
theorem tX12_poseTime_b22 {p : Program} {l : Launch} {e : Env} {s : State} {m : MethodId} {args : Array Value} {below : List Frame} {meth : Method} {c : Code} {G : gG} {A : Nat → Prop} {Qn : Int32 → gH → Prop} (X : gC p l s m args meth c G A cX12_poseTime 2 (some FieldType.int) RX12)   {h : gH} {s0 : Int32} (w : vX12_poseTime_b22  Qn h s0) : V p l e rmX12_poseTime s m args below meth c (MQ below (va_Qi Qn (gB G A) A) args s rmX12_poseTime.cells rmX12_poseTime.slots A) G A 2 h 0 0 22 [] [.int s0] := by
  exact V_iret X rfl dX12_poseTime_22 (Nat.le_of_ble_eq_true rfl) (Nat.le_of_ble_eq_true rfl) w
def vX12_poseTime  (Qn : Int32 → gH → Prop) (h : gH) (v0 : Nat) (v1 : Int32) : Prop := io h v0 15 (vX12_hasEntry (fun x2 h1 => (((x2 : Int32) = 0) → (io h1 v0 15 (vX12_fails (fun x4 h3 => vX12_poseTime_b22  Qn h3 x4) h1 v0 1))) ∧ ((¬ (x2 : Int32) = 0) → (gr h1 v0 15 38 (fun r5 => nn r5 (fun a6 => li h1 a6 v1 (fun x7 => vX12_poseTime_b22  Qn h1 x7)))))) h v0 v1)
set_option maxRecDepth 100000 in
set_option maxHeartbeats 4000000 in
theorem tX12_poseTime {p : Program} {l : Launch} {e : Env} {s : State} {m : MethodId} {args : Array Value} {below : List Frame} {meth : Method} {c : Code} {G : gG} {A : Nat → Prop} {Qn : Int32 → gH → Prop} (X : gC p l s m args meth c G A cX12_poseTime 2 (some FieldType.int) RX12)   {h : gH} {v0 : Nat} {v1 : Int32} (w : vX12_poseTime  Qn h v0 v1) : V p l e rmX12_poseTime s m args below meth c (MQ below (va_Qi Qn (gB G A) A) args s rmX12_poseTime.cells rmX12_poseTime.slots A) G A 2 h 0 0 0 [(0, .ref v0), (1, .int v1)] [] := by
  refine V_aloadr_n X dX12_poseTime_0 0 rfl ?_
  refine V_iload_n X dX12_poseTime_1 1 rfl ?_
  obtain ⟨fs, hh, w⟩ := w
  refine V_callVi (As := [.int v1]) (rest := []) (k1 := 0) (n1 := 0) X (cX12_hasEntry_ok X.2.2.2.2.2.2.2.2.1 w) lkX12_286 hh (q9 := (RX12, TX12, 42)) rfl rfl dX12_poseTime_2 ⟨Nat.le_of_ble_eq_true rfl, Nat.le_of_ble_eq_true rfl⟩ rfl (Nat.le_of_ble_eq_true rfl) ⟨Nat.le_of_ble_eq_true rfl, Nat.le_of_ble_eq_true rfl⟩ (Nat.le_of_ble_eq_true rfl) (Nat.le_of_ble_eq_true rfl) (fun x2 h1 w9 => ?_)
  replace w := w9
  clear w9
  obtain ⟨w1, w2⟩ := w
  refine V_if_eq (tgt := 17) X dX12_poseTime_5 (by decide) (fun z => ?_) (fun z => ?_)
  · replace w := w1 z
    clear w1 w2
    refine V_aloadr_n X dX12_poseTime_17 0 rfl ?_
    refine V_iconst (y := 1) X dX12_poseTime_18 (by decide) ?_
    obtain ⟨fs, hh, w⟩ := w
    refine V_callVi (As := [.int 1]) (rest := []) (k1 := 0) (n1 := 0) X (cX12_fails_ok X.2.2.2.2.2.2.2.2.1 w) lkX12_103 hh (q9 := (RX12, TX12, 42)) rfl rfl dX12_poseTime_19 ⟨Nat.le_of_ble_eq_true rfl, Nat.le_of_ble_eq_true rfl⟩ rfl (Nat.le_of_ble_eq_true rfl) ⟨Nat.le_of_ble_eq_true rfl, Nat.le_of_ble_eq_true rfl⟩ (Nat.le_of_ble_eq_true rfl) (Nat.le_of_ble_eq_true rfl) (fun x4 h3 w9 => ?_)
    replace w := w9
    clear w9
    exact V.sub [] rfl (tX12_poseTime_b22 X  w)
  · replace w := w2 z
    clear w1 w2
    refine V_aloadr_n X dX12_poseTime_8 0 rfl ?_
    obtain ⟨fs, r5, hh, hv, w⟩ := w
    refine V_get X flX12_85 dX12_poseTime_9 hh hv ?_
    refine V_iload_n X dX12_poseTime_12 1 rfl ?_
    obtain ⟨a6, rfl, w⟩ := w
    obtain ⟨N9, g9, hh, hi, w⟩ := w
    refine V_iald X dX12_poseTime_13 hh hi ?_
    generalize g9 _ = x7 at w ⊢
    refine V_goto (tgt := 22) X dX12_poseTime_14 (by decide) ?_
    exact V.sub [] rfl (tX12_poseTime_b22 X  w)
theorem cX12_poseTime_ok {l : Launch} {G : gG} {h : gH} (hls : l.stackTraces = false) {Qn : Int32 → gH → Prop} {v0 : Nat} {v1 : Int32} (w : vX12_poseTime Qn h v0 v1) : gMi l yX12_poseTime cX12_poseTime 2 (some FieldType.int) rmX12_poseTime rmX12_poseTime.cells rmX12_poseTime.slots G h [.ref v0, .int v1] Qn := by
  exact gMi.of (by decide +kernel) hls (Nat.le_of_ble_eq_true rfl) rfl rfl (fun p e s m below meth c A X hnm => tX12_poseTime X w)
/-! AnimationControllerModel.poseWeight(I)I -/
abbrev rmX12_poseWeight : Room := { frames := 5, cells := 0, slots := 0, locals := 125 }
def vX12_poseWeight_b23  (Qn : Int32 → gH → Prop) (h : gH) (s0 : Int32) : Prop := Qn s0 h
set_option maxRecDepth 100000 in
set_option maxHeartbeats 4000000 in
theorem tX12_poseWeight_b23 {p : Program} {l : Launch} {e : Env} {s : State} {m : MethodId} {args : Array Value} {below : List Frame} {meth : Method} {c : Code} {G : gG} {A : Nat → Prop} {Qn : Int32 → gH → Prop} (X : gC p l s m args meth c G A cX12_poseWeight 2 (some FieldType.int) RX12)   {h : gH} {s0 : Int32} (w : vX12_poseWeight_b23  Qn h s0) : V p l e rmX12_poseWeight s m args below meth c (MQ below (va_Qi Qn (gB G A) A) args s rmX12_poseWeight.cells rmX12_poseWeight.slots A) G A 2 h 0 0 23 [] [.int s0] := by
  exact V_iret X rfl dX12_poseWeight_23 (Nat.le_of_ble_eq_true rfl) (Nat.le_of_ble_eq_true rfl) w
def vX12_poseWeight  (Qn : Int32 → gH → Prop) (h : gH) (v0 : Nat) (v1 : Int32) : Prop := io h v0 15 (vX12_hasEntry (fun x2 h1 => (((x2 : Int32) = 0) → (io h1 v0 15 (vX12_fails (fun x4 h3 => vX12_poseWeight_b23  Qn h3 x4) h1 v0 1))) ∧ ((¬ (x2 : Int32) = 0) → (gr h1 v0 15 39 (fun r5 => nn r5 (fun a6 => ll h1 a6 v1 (fun x7 => vX12_poseWeight_b23  Qn h1 (Int64.toInt32 x7))))))) h v0 v1)
set_option maxRecDepth 100000 in
set_option maxHeartbeats 4000000 in
theorem tX12_poseWeight {p : Program} {l : Launch} {e : Env} {s : State} {m : MethodId} {args : Array Value} {below : List Frame} {meth : Method} {c : Code} {G : gG} {A : Nat → Prop} {Qn : Int32 → gH → Prop} (X : gC p l s m args meth c G A cX12_poseWeight 2 (some FieldType.int) RX12)   {h : gH} {v0 : Nat} {v1 : Int32} (w : vX12_poseWeight  Qn h v0 v1) : V p l e rmX12_poseWeight s m args below meth c (MQ below (va_Qi Qn (gB G A) A) args s rmX12_poseWeight.cells rmX12_poseWeight.slots A) G A 2 h 0 0 0 [(0, .ref v0), (1, .int v1)] [] := by
  refine V_aloadr_n X dX12_poseWeight_0 0 rfl ?_
  refine V_iload_n X dX12_poseWeight_1 1 rfl ?_
  obtain ⟨fs, hh, w⟩ := w
  refine V_callVi (As := [.int v1]) (rest := []) (k1 := 0) (n1 := 0) X (cX12_hasEntry_ok X.2.2.2.2.2.2.2.2.1 w) lkX12_286 hh (q9 := (RX12, TX12, 42)) rfl rfl dX12_poseWeight_2 ⟨Nat.le_of_ble_eq_true rfl, Nat.le_of_ble_eq_true rfl⟩ rfl (Nat.le_of_ble_eq_true rfl) ⟨Nat.le_of_ble_eq_true rfl, Nat.le_of_ble_eq_true rfl⟩ (Nat.le_of_ble_eq_true rfl) (Nat.le_of_ble_eq_true rfl) (fun x2 h1 w9 => ?_)
  replace w := w9
  clear w9
  obtain ⟨w1, w2⟩ := w
  refine V_if_eq (tgt := 18) X dX12_poseWeight_5 (by decide) (fun z => ?_) (fun z => ?_)
  · replace w := w1 z
    clear w1 w2
    refine V_aloadr_n X dX12_poseWeight_18 0 rfl ?_
    refine V_iconst (y := 1) X dX12_poseWeight_19 (by decide) ?_
    obtain ⟨fs, hh, w⟩ := w
    refine V_callVi (As := [.int 1]) (rest := []) (k1 := 0) (n1 := 0) X (cX12_fails_ok X.2.2.2.2.2.2.2.2.1 w) lkX12_103 hh (q9 := (RX12, TX12, 42)) rfl rfl dX12_poseWeight_20 ⟨Nat.le_of_ble_eq_true rfl, Nat.le_of_ble_eq_true rfl⟩ rfl (Nat.le_of_ble_eq_true rfl) ⟨Nat.le_of_ble_eq_true rfl, Nat.le_of_ble_eq_true rfl⟩ (Nat.le_of_ble_eq_true rfl) (Nat.le_of_ble_eq_true rfl) (fun x4 h3 w9 => ?_)
    replace w := w9
    clear w9
    exact V.sub [] rfl (tX12_poseWeight_b23 X  w)
  · replace w := w2 z
    clear w1 w2
    refine V_aloadr_n X dX12_poseWeight_8 0 rfl ?_
    obtain ⟨fs, r5, hh, hv, w⟩ := w
    refine V_get X flX12_88 dX12_poseWeight_9 hh hv ?_
    refine V_iload_n X dX12_poseWeight_12 1 rfl ?_
    obtain ⟨a6, rfl, w⟩ := w
    obtain ⟨N9, g9, hh, hi, w⟩ := w
    refine V_lald X dX12_poseWeight_13 hh hi ?_
    generalize g9 _ = x7 at w ⊢
    refine V_l2i X dX12_poseWeight_14 ?_
    refine V_goto (tgt := 23) X dX12_poseWeight_15 (by decide) ?_
    exact V.sub [] rfl (tX12_poseWeight_b23 X  w)
theorem cX12_poseWeight_ok {l : Launch} {G : gG} {h : gH} (hls : l.stackTraces = false) {Qn : Int32 → gH → Prop} {v0 : Nat} {v1 : Int32} (w : vX12_poseWeight Qn h v0 v1) : gMi l yX12_poseWeight cX12_poseWeight 2 (some FieldType.int) rmX12_poseWeight rmX12_poseWeight.cells rmX12_poseWeight.slots G h [.ref v0, .int v1] Qn := by
  exact gMi.of (by decide +kernel) hls (Nat.le_of_ble_eq_true rfl) rfl rfl (fun p e s m below meth c A X hnm => tX12_poseWeight X w)
/-! AnimationControllerModel.inList(II)Z -/
abbrev rmX12_inList : Room := { frames := 1, cells := 0, slots := 0, locals := 22 }
def vX12_inList_b25  (Qn : Int32 → gH → Prop) (h : gH) (s0 : Int32) : Prop := gZ s0 ∧ Qn s0 h
set_option maxRecDepth 100000 in
set_option maxHeartbeats 4000000 in
theorem tX12_inList_b25 {p : Program} {l : Launch} {e : Env} {s : State} {m : MethodId} {args : Array Value} {below : List Frame} {meth : Method} {c : Code} {G : gG} {A : Nat → Prop} {Qn : Int32 → gH → Prop} (X : gC p l s m args meth c G A cX12_inList 3 (some FieldType.boolean) RX12)   {h : gH} {s0 : Int32} (w : vX12_inList_b25  Qn h s0) : V p l e rmX12_inList s m args below meth c (MQ below (va_Qi Qn (gB G A) A) args s rmX12_inList.cells rmX12_inList.slots A) G A 3 h 0 0 25 [] [.int s0] := by
  obtain ⟨hz, w⟩ := w
  exact V_zret X rfl hz.1 dX12_inList_25 (Nat.le_of_ble_eq_true rfl) (Nat.le_of_ble_eq_true rfl) w
def vX12_inList_b20  (Qn : Int32 → gH → Prop) (h : gH)  : Prop := vX12_inList_b25  Qn h 1
set_option maxRecDepth 100000 in
set_option maxHeartbeats 4000000 in
theorem tX12_inList_b20 {p : Program} {l : Launch} {e : Env} {s : State} {m : MethodId} {args : Array Value} {below : List Frame} {meth : Method} {c : Code} {G : gG} {A : Nat → Prop} {Qn : Int32 → gH → Prop} (X : gC p l s m args meth c G A cX12_inList 3 (some FieldType.boolean) RX12)   {h : gH}  (w : vX12_inList_b20  Qn h ) : V p l e rmX12_inList s m args below meth c (MQ below (va_Qi Qn (gB G A) A) args s rmX12_inList.cells rmX12_inList.slots A) G A 3 h 0 0 20 [] [] := by
  refine V_iconst (y := 1) X dX12_inList_20 (by decide) ?_
  refine V_goto (tgt := 25) X dX12_inList_21 (by decide) ?_
  exact V.sub [] rfl (tX12_inList_b25 X  w)
def vX12_inList  (Qn : Int32 → gH → Prop) (h : gH) (v0 : Nat) (v1 : Int32) (v2 : Int32) : Prop := io h v0 15 (vX12_of (fun x2 h1 => (((x2 : Int32) = (-1)) → (vX12_inList_b20  Qn h1 )) ∧ ((¬ (x2 : Int32) = (-1)) → (io h1 v0 15 (vX12_of (fun x4 h3 => ((¬ (x4 : Int32) = v2) → (vX12_inList_b25  Qn h3 0)) ∧ (((x4 : Int32) = v2) → (vX12_inList_b20  Qn h3 ))) h1 v0 v1 0)))) h v0 v1 0)
set_option maxRecDepth 100000 in
set_option maxHeartbeats 4000000 in
theorem tX12_inList {p : Program} {l : Launch} {e : Env} {s : State} {m : MethodId} {args : Array Value} {below : List Frame} {meth : Method} {c : Code} {G : gG} {A : Nat → Prop} {Qn : Int32 → gH → Prop} (X : gC p l s m args meth c G A cX12_inList 3 (some FieldType.boolean) RX12)   {h : gH} {v0 : Nat} {v1 : Int32} {v2 : Int32} (w : vX12_inList  Qn h v0 v1 v2) : V p l e rmX12_inList s m args below meth c (MQ below (va_Qi Qn (gB G A) A) args s rmX12_inList.cells rmX12_inList.slots A) G A 3 h 0 0 0 [(0, .ref v0), (1, .int v1), (2, .int v2)] [] := by
  refine V_aloadr_n X dX12_inList_0 0 rfl ?_
  refine V_iload_n X dX12_inList_1 1 rfl ?_
  refine V_iconst (y := 0) X dX12_inList_2 (by decide) ?_
  obtain ⟨fs, hh, w⟩ := w
  refine V_callVi (As := [.int v1, .int 0]) (rest := []) (k1 := 0) (n1 := 0) X (cX12_of_ok X.2.2.2.2.2.2.2.2.1 w) lkX12_177 hh (q9 := (RX12, TX12, 42)) rfl rfl dX12_inList_3 ⟨Nat.le_of_ble_eq_true rfl, Nat.le_of_ble_eq_true rfl⟩ rfl (Nat.le_of_ble_eq_true rfl) ⟨Nat.le_of_ble_eq_true rfl, Nat.le_of_ble_eq_true rfl⟩ (Nat.le_of_ble_eq_true rfl) (Nat.le_of_ble_eq_true rfl) (fun x2 h1 w9 => ?_)
  replace w := w9
  clear w9
  refine V_iconst (y := (-1)) X dX12_inList_6 (by decide) ?_
  obtain ⟨w1, w2⟩ := w
  refine V_icmp_eq (tgt := 20) X dX12_inList_7 (by decide) (fun z => ?_) (fun z => ?_)
  · replace w := w1 z
    clear w1 w2
    exact V.sub [] rfl (tX12_inList_b20 X  w)
  · replace w := w2 z
    clear w1 w2
    refine V_aloadr_n X dX12_inList_10 0 rfl ?_
    refine V_iload_n X dX12_inList_11 1 rfl ?_
    refine V_iconst (y := 0) X dX12_inList_12 (by decide) ?_
    obtain ⟨fs, hh, w⟩ := w
    refine V_callVi (As := [.int v1, .int 0]) (rest := []) (k1 := 0) (n1 := 0) X (cX12_of_ok X.2.2.2.2.2.2.2.2.1 w) lkX12_177 hh (q9 := (RX12, TX12, 42)) rfl rfl dX12_inList_13 ⟨Nat.le_of_ble_eq_true rfl, Nat.le_of_ble_eq_true rfl⟩ rfl (Nat.le_of_ble_eq_true rfl) ⟨Nat.le_of_ble_eq_true rfl, Nat.le_of_ble_eq_true rfl⟩ (Nat.le_of_ble_eq_true rfl) (Nat.le_of_ble_eq_true rfl) (fun x4 h3 w9 => ?_)
    replace w := w9
    clear w9
    refine V_iload_n X dX12_inList_16 2 rfl ?_
    obtain ⟨w1, w2⟩ := w
    refine V_icmp_ne (tgt := 24) X dX12_inList_17 (by decide) (fun z => ?_) (fun z => ?_)
    · replace w := w1 z
      clear w1 w2
      refine V_iconst (y := 0) X dX12_inList_24 (by decide) ?_
      exact V.sub [] rfl (tX12_inList_b25 X  w)
    · replace w := w2 z
      clear w1 w2
      exact V.sub [] rfl (tX12_inList_b20 X  w)
theorem cX12_inList_ok {l : Launch} {G : gG} {h : gH} (hls : l.stackTraces = false) {Qn : Int32 → gH → Prop} {v0 : Nat} {v1 : Int32} {v2 : Int32} (w : vX12_inList Qn h v0 v1 v2) : gMi l yX12_inList cX12_inList 3 (some FieldType.boolean) rmX12_inList rmX12_inList.cells rmX12_inList.slots G h [.ref v0, .int v1, .int v2] Qn := by
  exact gMi.of (by decide +kernel) hls (Nat.le_of_ble_eq_true rfl) rfl rfl (fun p e s m below meth c A X hnm => tX12_inList X w)
/-! AnimationControllerModel.isBack(II)Z -/
abbrev rmX12_isBack : Room := { frames := 1, cells := 0, slots := 0, locals := 22 }
def vX12_isBack_b25  (Qn : Int32 → gH → Prop) (h : gH) (s0 : Int32) : Prop := gZ s0 ∧ Qn s0 h
set_option maxRecDepth 100000 in
set_option maxHeartbeats 4000000 in
theorem tX12_isBack_b25 {p : Program} {l : Launch} {e : Env} {s : State} {m : MethodId} {args : Array Value} {below : List Frame} {meth : Method} {c : Code} {G : gG} {A : Nat → Prop} {Qn : Int32 → gH → Prop} (X : gC p l s m args meth c G A cX12_isBack 3 (some FieldType.boolean) RX12)   {h : gH} {s0 : Int32} (w : vX12_isBack_b25  Qn h s0) : V p l e rmX12_isBack s m args below meth c (MQ below (va_Qi Qn (gB G A) A) args s rmX12_isBack.cells rmX12_isBack.slots A) G A 3 h 0 0 25 [] [.int s0] := by
  obtain ⟨hz, w⟩ := w
  exact V_zret X rfl hz.1 dX12_isBack_25 (Nat.le_of_ble_eq_true rfl) (Nat.le_of_ble_eq_true rfl) w
def vX12_isBack_b24  (Qn : Int32 → gH → Prop) (h : gH)  : Prop := vX12_isBack_b25  Qn h 0
set_option maxRecDepth 100000 in
set_option maxHeartbeats 4000000 in
theorem tX12_isBack_b24 {p : Program} {l : Launch} {e : Env} {s : State} {m : MethodId} {args : Array Value} {below : List Frame} {meth : Method} {c : Code} {G : gG} {A : Nat → Prop} {Qn : Int32 → gH → Prop} (X : gC p l s m args meth c G A cX12_isBack 3 (some FieldType.boolean) RX12)   {h : gH}  (w : vX12_isBack_b24  Qn h ) : V p l e rmX12_isBack s m args below meth c (MQ below (va_Qi Qn (gB G A) A) args s rmX12_isBack.cells rmX12_isBack.slots A) G A 3 h 0 0 24 [] [] := by
  refine V_iconst (y := 0) X dX12_isBack_24 (by decide) ?_
  exact V.sub [] rfl (tX12_isBack_b25 X  w)
def vX12_isBack  (Qn : Int32 → gH → Prop) (h : gH) (v0 : Nat) (v1 : Int32) (v2 : Int32) : Prop := io h v0 15 (vX12_of (fun x2 h1 => ((¬ (x2 : Int32) = (-1)) → (vX12_isBack_b24  Qn h1 )) ∧ (((x2 : Int32) = (-1)) → (io h1 v0 15 (vX12_of (fun x4 h3 => ((¬ (x4 : Int32) = v2) → (vX12_isBack_b24  Qn h3 )) ∧ (((x4 : Int32) = v2) → (vX12_isBack_b25  Qn h3 1))) h1 v0 v1 1)))) h v0 v1 0)
set_option maxRecDepth 100000 in
set_option maxHeartbeats 4000000 in
theorem tX12_isBack {p : Program} {l : Launch} {e : Env} {s : State} {m : MethodId} {args : Array Value} {below : List Frame} {meth : Method} {c : Code} {G : gG} {A : Nat → Prop} {Qn : Int32 → gH → Prop} (X : gC p l s m args meth c G A cX12_isBack 3 (some FieldType.boolean) RX12)   {h : gH} {v0 : Nat} {v1 : Int32} {v2 : Int32} (w : vX12_isBack  Qn h v0 v1 v2) : V p l e rmX12_isBack s m args below meth c (MQ below (va_Qi Qn (gB G A) A) args s rmX12_isBack.cells rmX12_isBack.slots A) G A 3 h 0 0 0 [(0, .ref v0), (1, .int v1), (2, .int v2)] [] := by
  refine V_aloadr_n X dX12_isBack_0 0 rfl ?_
  refine V_iload_n X dX12_isBack_1 1 rfl ?_
  refine V_iconst (y := 0) X dX12_isBack_2 (by decide) ?_
  obtain ⟨fs, hh, w⟩ := w
  refine V_callVi (As := [.int v1, .int 0]) (rest := []) (k1 := 0) (n1 := 0) X (cX12_of_ok X.2.2.2.2.2.2.2.2.1 w) lkX12_177 hh (q9 := (RX12, TX12, 42)) rfl rfl dX12_isBack_3 ⟨Nat.le_of_ble_eq_true rfl, Nat.le_of_ble_eq_true rfl⟩ rfl (Nat.le_of_ble_eq_true rfl) ⟨Nat.le_of_ble_eq_true rfl, Nat.le_of_ble_eq_true rfl⟩ (Nat.le_of_ble_eq_true rfl) (Nat.le_of_ble_eq_true rfl) (fun x2 h1 w9 => ?_)
  replace w := w9
  clear w9
  refine V_iconst (y := (-1)) X dX12_isBack_6 (by decide) ?_
  obtain ⟨w1, w2⟩ := w
  refine V_icmp_ne (tgt := 24) X dX12_isBack_7 (by decide) (fun z => ?_) (fun z => ?_)
  · replace w := w1 z
    clear w1 w2
    exact V.sub [] rfl (tX12_isBack_b24 X  w)
  · replace w := w2 z
    clear w1 w2
    refine V_aloadr_n X dX12_isBack_10 0 rfl ?_
    refine V_iload_n X dX12_isBack_11 1 rfl ?_
    refine V_iconst (y := 1) X dX12_isBack_12 (by decide) ?_
    obtain ⟨fs, hh, w⟩ := w
    refine V_callVi (As := [.int v1, .int 1]) (rest := []) (k1 := 0) (n1 := 0) X (cX12_of_ok X.2.2.2.2.2.2.2.2.1 w) lkX12_177 hh (q9 := (RX12, TX12, 42)) rfl rfl dX12_isBack_13 ⟨Nat.le_of_ble_eq_true rfl, Nat.le_of_ble_eq_true rfl⟩ rfl (Nat.le_of_ble_eq_true rfl) ⟨Nat.le_of_ble_eq_true rfl, Nat.le_of_ble_eq_true rfl⟩ (Nat.le_of_ble_eq_true rfl) (Nat.le_of_ble_eq_true rfl) (fun x4 h3 w9 => ?_)
    replace w := w9
    clear w9
    refine V_iload_n X dX12_isBack_16 2 rfl ?_
    obtain ⟨w1, w2⟩ := w
    refine V_icmp_ne (tgt := 24) X dX12_isBack_17 (by decide) (fun z => ?_) (fun z => ?_)
    · replace w := w1 z
      clear w1 w2
      exact V.sub [] rfl (tX12_isBack_b24 X  w)
    · replace w := w2 z
      clear w1 w2
      refine V_iconst (y := 1) X dX12_isBack_20 (by decide) ?_
      refine V_goto (tgt := 25) X dX12_isBack_21 (by decide) ?_
      exact V.sub [] rfl (tX12_isBack_b25 X  w)
theorem cX12_isBack_ok {l : Launch} {G : gG} {h : gH} (hls : l.stackTraces = false) {Qn : Int32 → gH → Prop} {v0 : Nat} {v1 : Int32} {v2 : Int32} (w : vX12_isBack Qn h v0 v1 v2) : gMi l yX12_isBack cX12_isBack 3 (some FieldType.boolean) rmX12_isBack rmX12_isBack.cells rmX12_isBack.slots G h [.ref v0, .int v1, .int v2] Qn := by
  exact gMi.of (by decide +kernel) hls (Nat.le_of_ble_eq_true rfl) rfl rfl (fun p e s m below meth c A X hnm => tX12_isBack X w)
/-! AnimationControllerModel.inSource(I)Z -/
abbrev rmX12_inSource : Room := { frames := 2, cells := 0, slots := 0, locals := 44 }
def vX12_inSource_b63  (Qn : Int32 → gH → Prop) (h : gH) (s0 : Int32) : Prop := gZ s0 ∧ Qn s0 h
set_option maxRecDepth 100000 in
set_option maxHeartbeats 4000000 in
theorem tX12_inSource_b63 {p : Program} {l : Launch} {e : Env} {s : State} {m : MethodId} {args : Array Value} {below : List Frame} {meth : Method} {c : Code} {G : gG} {A : Nat → Prop} {Qn : Int32 → gH → Prop} (X : gC p l s m args meth c G A cX12_inSource 3 (some FieldType.boolean) RX12)   {h : gH} {s0 : Int32} (w : vX12_inSource_b63  Qn h s0) : V p l e rmX12_inSource s m args below meth c (MQ below (va_Qi Qn (gB G A) A) args s rmX12_inSource.cells rmX12_inSource.slots A) G A 3 h 0 0 63 [] [.int s0] := by
  obtain ⟨hz, w⟩ := w
  exact V_zret X rfl hz.1 dX12_inSource_63 (Nat.le_of_ble_eq_true rfl) (Nat.le_of_ble_eq_true rfl) w
def vX12_inSource_b62  (Qn : Int32 → gH → Prop) (h : gH)  : Prop := vX12_inSource_b63  Qn h 0
set_option maxRecDepth 100000 in
set_option maxHeartbeats 4000000 in
theorem tX12_inSource_b62 {p : Program} {l : Launch} {e : Env} {s : State} {m : MethodId} {args : Array Value} {below : List Frame} {meth : Method} {c : Code} {G : gG} {A : Nat → Prop} {Qn : Int32 → gH → Prop} (X : gC p l s m args meth c G A cX12_inSource 3 (some FieldType.boolean) RX12)   {h : gH}  (w : vX12_inSource_b62  Qn h ) : V p l e rmX12_inSource s m args below meth c (MQ below (va_Qi Qn (gB G A) A) args s rmX12_inSource.cells rmX12_inSource.slots A) G A 3 h 0 0 62 [] [] := by
  refine V_iconst (y := 0) X dX12_inSource_62 (by decide) ?_
  exact V.sub [] rfl (tX12_inSource_b63 X  w)
def vX12_inSource_b58  (Qn : Int32 → gH → Prop) (h : gH)  : Prop := vX12_inSource_b63  Qn h 1
set_option maxRecDepth 100000 in
set_option maxHeartbeats 4000000 in
theorem tX12_inSource_b58 {p : Program} {l : Launch} {e : Env} {s : State} {m : MethodId} {args : Array Value} {below : List Frame} {meth : Method} {c : Code} {G : gG} {A : Nat → Prop} {Qn : Int32 → gH → Prop} (X : gC p l s m args meth c G A cX12_inSource 3 (some FieldType.boolean) RX12)   {h : gH}  (w : vX12_inSource_b58  Qn h ) : V p l e rmX12_inSource s m args below meth c (MQ below (va_Qi Qn (gB G A) A) args s rmX12_inSource.cells rmX12_inSource.slots A) G A 3 h 0 0 58 [] [] := by
  refine V_iconst (y := 1) X dX12_inSource_58 (by decide) ?_
  refine V_goto (tgt := 63) X dX12_inSource_59 (by decide) ?_
  exact V.sub [] rfl (tX12_inSource_b63 X  w)
def vX12_inSource  (Qn : Int32 → gH → Prop) (h : gH) (v0 : Nat) (v1 : Int32) : Prop := gr h v0 15 0 (fun r1 => nn r1 (fun a2 => li h a2 9 (fun x3 => gr h v0 15 0 (fun r4 => nn r4 (fun a5 => li h a5 12 (fun x6 => io h v0 15 (vX12_inList (fun x8 h7 => (((x8 : Int32) = 0) → (vX12_inSource_b62  Qn h7 )) ∧ ((¬ (x8 : Int32) = 0) → ((((v1 : Int32) = x3) → (vX12_inSource_b62  Qn h7 )) ∧ ((¬ (v1 : Int32) = x3) → (gr h7 v0 15 0 (fun r9 => nn r9 (fun a10 => li h7 a10 16 (fun x11 => io h7 v0 15 (vX12_isBack (fun x13 h12 => ((¬ (x13 : Int32) = 0) → (vX12_inSource_b62  Qn h12 )) ∧ (((x13 : Int32) = 0) → (io h12 v0 15 (vX12_of (fun x15 h14 => (((x15 : Int32) = 0) → (vX12_inSource_b58  Qn h14 )) ∧ ((¬ (x15 : Int32) = 0) → (((x3 ≤ (v1 : Int32)) → (vX12_inSource_b62  Qn h14 )) ∧ ((¬ x3 ≤ (v1 : Int32)) → (vX12_inSource_b58  Qn h14 ))))) h12 v0 x3 6)))) h7 v0 v1 x11))))))))) h v0 v1 x6)))))))
set_option maxRecDepth 100000 in
set_option maxHeartbeats 4000000 in
theorem tX12_inSource {p : Program} {l : Launch} {e : Env} {s : State} {m : MethodId} {args : Array Value} {below : List Frame} {meth : Method} {c : Code} {G : gG} {A : Nat → Prop} {Qn : Int32 → gH → Prop} (X : gC p l s m args meth c G A cX12_inSource 3 (some FieldType.boolean) RX12)   {h : gH} {v0 : Nat} {v1 : Int32} (w : vX12_inSource  Qn h v0 v1) : V p l e rmX12_inSource s m args below meth c (MQ below (va_Qi Qn (gB G A) A) args s rmX12_inSource.cells rmX12_inSource.slots A) G A 3 h 0 0 0 [(0, .ref v0), (1, .int v1)] [] := by
  refine V_aloadr_n X dX12_inSource_0 0 rfl ?_
  obtain ⟨fs, r1, hh, hv, w⟩ := w
  refine V_get X flX12_7 dX12_inSource_1 hh hv ?_
  refine V_bipush (y := 9) X dX12_inSource_4 (by decide) ?_
  obtain ⟨a2, rfl, w⟩ := w
  obtain ⟨N9, g9, hh, hi, w⟩ := w
  refine V_iald X dX12_inSource_6 hh hi ?_
  generalize g9 _ = x3 at w ⊢
  refine V_istore_n X dX12_inSource_7 rfl (by decide) rfl ?_
  refine V_aloadr_n X dX12_inSource_8 1 rfl ?_
  refine V_iload_n X dX12_inSource_9 2 rfl ?_
  refine V_aloadr_n X dX12_inSource_10 1 rfl ?_
  obtain ⟨fs, r4, hh, hv, w⟩ := w
  refine V_get X flX12_7 dX12_inSource_11 hh hv ?_
  refine V_bipush (y := 12) X dX12_inSource_14 (by decide) ?_
  obtain ⟨a5, rfl, w⟩ := w
  obtain ⟨N9, g9, hh, hi, w⟩ := w
  refine V_iald X dX12_inSource_16 hh hi ?_
  generalize g9 _ = x6 at w ⊢
  obtain ⟨fs, hh, w⟩ := w
  refine V_callVi (As := [.int v1, .int x6]) (rest := []) (k1 := 0) (n1 := 0) X (cX12_inList_ok X.2.2.2.2.2.2.2.2.1 w) lkX12_289 hh (q9 := (RX12, TX12, 42)) rfl rfl dX12_inSource_17 ⟨Nat.le_of_ble_eq_true rfl, Nat.le_of_ble_eq_true rfl⟩ rfl (Nat.le_of_ble_eq_true rfl) ⟨Nat.le_of_ble_eq_true rfl, Nat.le_of_ble_eq_true rfl⟩ (Nat.le_of_ble_eq_true rfl) (Nat.le_of_ble_eq_true rfl) (fun x8 h7 w9 => ?_)
  replace w := w9
  clear w9
  obtain ⟨w1, w2⟩ := w
  refine V_if_eq (tgt := 62) X dX12_inSource_20 (by decide) (fun z => ?_) (fun z => ?_)
  · replace w := w1 z
    clear w1 w2
    exact V.sub [] rfl (tX12_inSource_b62 X  w)
  · replace w := w2 z
    clear w1 w2
    refine V_iload_n X dX12_inSource_23 2 rfl ?_
    refine V_iload_n X dX12_inSource_24 0 rfl ?_
    obtain ⟨w1, w2⟩ := w
    refine V_icmp_eq (tgt := 62) X dX12_inSource_25 (by decide) (fun z => ?_) (fun z => ?_)
    · replace w := w1 z
      clear w1 w2
      exact V.sub [] rfl (tX12_inSource_b62 X  w)
    · replace w := w2 z
      clear w1 w2
      refine V_aloadr_n X dX12_inSource_28 1 rfl ?_
      refine V_iload_n X dX12_inSource_29 2 rfl ?_
      refine V_aloadr_n X dX12_inSource_30 1 rfl ?_
      obtain ⟨fs, r9, hh, hv, w⟩ := w
      refine V_get X flX12_7 dX12_inSource_31 hh hv ?_
      refine V_bipush (y := 16) X dX12_inSource_34 (by decide) ?_
      obtain ⟨a10, rfl, w⟩ := w
      obtain ⟨N9, g9, hh, hi, w⟩ := w
      refine V_iald X dX12_inSource_36 hh hi ?_
      generalize g9 _ = x11 at w ⊢
      obtain ⟨fs, hh, w⟩ := w
      refine V_callVi (As := [.int v1, .int x11]) (rest := []) (k1 := 0) (n1 := 0) X (cX12_isBack_ok X.2.2.2.2.2.2.2.2.1 w) lkX12_293 hh (q9 := (RX12, TX12, 42)) rfl rfl dX12_inSource_37 ⟨Nat.le_of_ble_eq_true rfl, Nat.le_of_ble_eq_true rfl⟩ rfl (Nat.le_of_ble_eq_true rfl) ⟨Nat.le_of_ble_eq_true rfl, Nat.le_of_ble_eq_true rfl⟩ (Nat.le_of_ble_eq_true rfl) (Nat.le_of_ble_eq_true rfl) (fun x13 h12 w9 => ?_)
      replace w := w9
      clear w9
      obtain ⟨w1, w2⟩ := w
      refine V_if_ne (tgt := 62) X dX12_inSource_40 (by decide) (fun z => ?_) (fun z => ?_)
      · replace w := w1 z
        clear w1 w2
        exact V.sub [] rfl (tX12_inSource_b62 X  w)
      · replace w := w2 z
        clear w1 w2
        refine V_aloadr_n X dX12_inSource_43 1 rfl ?_
        refine V_iload_n X dX12_inSource_44 0 rfl ?_
        refine V_bipush (y := 6) X dX12_inSource_45 (by decide) ?_
        obtain ⟨fs, hh, w⟩ := w
        refine V_callVi (As := [.int x3, .int 6]) (rest := []) (k1 := 0) (n1 := 0) X (cX12_of_ok X.2.2.2.2.2.2.2.2.1 w) lkX12_177 hh (q9 := (RX12, TX12, 42)) rfl rfl dX12_inSource_47 ⟨Nat.le_of_ble_eq_true rfl, Nat.le_of_ble_eq_true rfl⟩ rfl (Nat.le_of_ble_eq_true rfl) ⟨Nat.le_of_ble_eq_true rfl, Nat.le_of_ble_eq_true rfl⟩ (Nat.le_of_ble_eq_true rfl) (Nat.le_of_ble_eq_true rfl) (fun x15 h14 w9 => ?_)
        replace w := w9
        clear w9
        obtain ⟨w1, w2⟩ := w
        refine V_if_eq (tgt := 58) X dX12_inSource_50 (by decide) (fun z => ?_) (fun z => ?_)
        · replace w := w1 z
          clear w1 w2
          exact V.sub [] rfl (tX12_inSource_b58 X  w)
        · replace w := w2 z
          clear w1 w2
          refine V_iload_n X dX12_inSource_53 2 rfl ?_
          refine V_iload_n X dX12_inSource_54 0 rfl ?_
          obtain ⟨w1, w2⟩ := w
          refine V_icmp_ge (tgt := 62) X dX12_inSource_55 (by decide) (fun z => ?_) (fun z => ?_)
          · replace w := w1 z
            clear w1 w2
            exact V.sub [] rfl (tX12_inSource_b62 X  w)
          · replace w := w2 z
            clear w1 w2
            exact V.sub [] rfl (tX12_inSource_b58 X  w)
theorem cX12_inSource_ok {l : Launch} {G : gG} {h : gH} (hls : l.stackTraces = false) {Qn : Int32 → gH → Prop} {v0 : Nat} {v1 : Int32} (w : vX12_inSource Qn h v0 v1) : gMi l yX12_inSource cX12_inSource 3 (some FieldType.boolean) rmX12_inSource rmX12_inSource.cells rmX12_inSource.slots G h [.ref v0, .int v1] Qn := by
  exact gMi.of (by decide +kernel) hls (Nat.le_of_ble_eq_true rfl) rfl rfl (fun p e s m below meth c A X hnm => tX12_inSource X w)
/-! AnimationControllerModel.inTarget(I)Z -/
abbrev rmX12_inTarget : Room := { frames := 2, cells := 0, slots := 0, locals := 44 }
def vX12_inTarget_b46  (Qn : Int32 → gH → Prop) (h : gH) (s0 : Int32) : Prop := gZ s0 ∧ Qn s0 h
set_option maxRecDepth 100000 in
set_option maxHeartbeats 4000000 in
theorem tX12_inTarget_b46 {p : Program} {l : Launch} {e : Env} {s : State} {m : MethodId} {args : Array Value} {below : List Frame} {meth : Method} {c : Code} {G : gG} {A : Nat → Prop} {Qn : Int32 → gH → Prop} (X : gC p l s m args meth c G A cX12_inTarget 2 (some FieldType.boolean) RX12)   {h : gH} {s0 : Int32} (w : vX12_inTarget_b46  Qn h s0) : V p l e rmX12_inTarget s m args below meth c (MQ below (va_Qi Qn (gB G A) A) args s rmX12_inTarget.cells rmX12_inTarget.slots A) G A 2 h 0 0 46 [] [.int s0] := by
  obtain ⟨hz, w⟩ := w
  exact V_zret X rfl hz.1 dX12_inTarget_46 (Nat.le_of_ble_eq_true rfl) (Nat.le_of_ble_eq_true rfl) w
def vX12_inTarget_b45  (Qn : Int32 → gH → Prop) (h : gH)  : Prop := vX12_inTarget_b46  Qn h 0
set_option maxRecDepth 100000 in
set_option maxHeartbeats 4000000 in
theorem tX12_inTarget_b45 {p : Program} {l : Launch} {e : Env} {s : State} {m : MethodId} {args : Array Value} {below : List Frame} {meth : Method} {c : Code} {G : gG} {A : Nat → Prop} {Qn : Int32 → gH → Prop} (X : gC p l s m args meth c G A cX12_inTarget 2 (some FieldType.boolean) RX12)   {h : gH}  (w : vX12_inTarget_b45  Qn h ) : V p l e rmX12_inTarget s m args below meth c (MQ below (va_Qi Qn (gB G A) A) args s rmX12_inTarget.cells rmX12_inTarget.slots A) G A 2 h 0 0 45 [] [] := by
  refine V_iconst (y := 0) X dX12_inTarget_45 (by decide) ?_
  exact V.sub [] rfl (tX12_inTarget_b46 X  w)
def vX12_inTarget  (Qn : Int32 → gH → Prop) (h : gH) (v0 : Nat) (v1 : Int32) : Prop := gr h v0 15 0 (fun r1 => nn r1 (fun a2 => li h a2 16 (fun x3 => io h v0 15 (vX12_inList (fun x5 h4 => (((x5 : Int32) = 0) → (vX12_inTarget_b45  Qn h4 )) ∧ ((¬ (x5 : Int32) = 0) → (gr h4 v0 15 0 (fun r6 => nn r6 (fun a7 => li h4 a7 9 (fun x8 => (((v1 : Int32) = x8) → (vX12_inTarget_b45  Qn h4 )) ∧ ((¬ (v1 : Int32) = x8) → (gr h4 v0 15 0 (fun r9 => nn r9 (fun a10 => li h4 a10 16 (fun x11 => io h4 v0 15 (vX12_isBack (fun x13 h12 => ((¬ (x13 : Int32) = 0) → (vX12_inTarget_b45  Qn h12 )) ∧ (((x13 : Int32) = 0) → (vX12_inTarget_b46  Qn h12 1))) h4 v0 v1 x11)))))))))))) h v0 v1 x3))))
set_option maxRecDepth 100000 in
set_option maxHeartbeats 4000000 in
theorem tX12_inTarget {p : Program} {l : Launch} {e : Env} {s : State} {m : MethodId} {args : Array Value} {below : List Frame} {meth : Method} {c : Code} {G : gG} {A : Nat → Prop} {Qn : Int32 → gH → Prop} (X : gC p l s m args meth c G A cX12_inTarget 2 (some FieldType.boolean) RX12)   {h : gH} {v0 : Nat} {v1 : Int32} (w : vX12_inTarget  Qn h v0 v1) : V p l e rmX12_inTarget s m args below meth c (MQ below (va_Qi Qn (gB G A) A) args s rmX12_inTarget.cells rmX12_inTarget.slots A) G A 2 h 0 0 0 [(0, .ref v0), (1, .int v1)] [] := by
  refine V_aloadr_n X dX12_inTarget_0 0 rfl ?_
  refine V_iload_n X dX12_inTarget_1 1 rfl ?_
  refine V_aloadr_n X dX12_inTarget_2 0 rfl ?_
  obtain ⟨fs, r1, hh, hv, w⟩ := w
  refine V_get X flX12_7 dX12_inTarget_3 hh hv ?_
  refine V_bipush (y := 16) X dX12_inTarget_6 (by decide) ?_
  obtain ⟨a2, rfl, w⟩ := w
  obtain ⟨N9, g9, hh, hi, w⟩ := w
  refine V_iald X dX12_inTarget_8 hh hi ?_
  generalize g9 _ = x3 at w ⊢
  obtain ⟨fs, hh, w⟩ := w
  refine V_callVi (As := [.int v1, .int x3]) (rest := []) (k1 := 0) (n1 := 0) X (cX12_inList_ok X.2.2.2.2.2.2.2.2.1 w) lkX12_289 hh (q9 := (RX12, TX12, 42)) rfl rfl dX12_inTarget_9 ⟨Nat.le_of_ble_eq_true rfl, Nat.le_of_ble_eq_true rfl⟩ rfl (Nat.le_of_ble_eq_true rfl) ⟨Nat.le_of_ble_eq_true rfl, Nat.le_of_ble_eq_true rfl⟩ (Nat.le_of_ble_eq_true rfl) (Nat.le_of_ble_eq_true rfl) (fun x5 h4 w9 => ?_)
  replace w := w9
  clear w9
  obtain ⟨w1, w2⟩ := w
  refine V_if_eq (tgt := 45) X dX12_inTarget_12 (by decide) (fun z => ?_) (fun z => ?_)
  · replace w := w1 z
    clear w1 w2
    exact V.sub [] rfl (tX12_inTarget_b45 X  w)
  · replace w := w2 z
    clear w1 w2
    refine V_iload_n X dX12_inTarget_15 1 rfl ?_
    refine V_aloadr_n X dX12_inTarget_16 0 rfl ?_
    obtain ⟨fs, r6, hh, hv, w⟩ := w
    refine V_get X flX12_7 dX12_inTarget_17 hh hv ?_
    refine V_bipush (y := 9) X dX12_inTarget_20 (by decide) ?_
    obtain ⟨a7, rfl, w⟩ := w
    obtain ⟨N9, g9, hh, hi, w⟩ := w
    refine V_iald X dX12_inTarget_22 hh hi ?_
    generalize g9 _ = x8 at w ⊢
    obtain ⟨w1, w2⟩ := w
    refine V_icmp_eq (tgt := 45) X dX12_inTarget_23 (by decide) (fun z => ?_) (fun z => ?_)
    · replace w := w1 z
      clear w1 w2
      exact V.sub [] rfl (tX12_inTarget_b45 X  w)
    · replace w := w2 z
      clear w1 w2
      refine V_aloadr_n X dX12_inTarget_26 0 rfl ?_
      refine V_iload_n X dX12_inTarget_27 1 rfl ?_
      refine V_aloadr_n X dX12_inTarget_28 0 rfl ?_
      obtain ⟨fs, r9, hh, hv, w⟩ := w
      refine V_get X flX12_7 dX12_inTarget_29 hh hv ?_
      refine V_bipush (y := 16) X dX12_inTarget_32 (by decide) ?_
      obtain ⟨a10, rfl, w⟩ := w
      obtain ⟨N9, g9, hh, hi, w⟩ := w
      refine V_iald X dX12_inTarget_34 hh hi ?_
      generalize g9 _ = x11 at w ⊢
      obtain ⟨fs, hh, w⟩ := w
      refine V_callVi (As := [.int v1, .int x11]) (rest := []) (k1 := 0) (n1 := 0) X (cX12_isBack_ok X.2.2.2.2.2.2.2.2.1 w) lkX12_293 hh (q9 := (RX12, TX12, 42)) rfl rfl dX12_inTarget_35 ⟨Nat.le_of_ble_eq_true rfl, Nat.le_of_ble_eq_true rfl⟩ rfl (Nat.le_of_ble_eq_true rfl) ⟨Nat.le_of_ble_eq_true rfl, Nat.le_of_ble_eq_true rfl⟩ (Nat.le_of_ble_eq_true rfl) (Nat.le_of_ble_eq_true rfl) (fun x13 h12 w9 => ?_)
      replace w := w9
      clear w9
      obtain ⟨w1, w2⟩ := w
      refine V_if_ne (tgt := 45) X dX12_inTarget_38 (by decide) (fun z => ?_) (fun z => ?_)
      · replace w := w1 z
        clear w1 w2
        exact V.sub [] rfl (tX12_inTarget_b45 X  w)
      · replace w := w2 z
        clear w1 w2
        refine V_iconst (y := 1) X dX12_inTarget_41 (by decide) ?_
        refine V_goto (tgt := 46) X dX12_inTarget_42 (by decide) ?_
        exact V.sub [] rfl (tX12_inTarget_b46 X  w)
theorem cX12_inTarget_ok {l : Launch} {G : gG} {h : gH} (hls : l.stackTraces = false) {Qn : Int32 → gH → Prop} {v0 : Nat} {v1 : Int32} (w : vX12_inTarget Qn h v0 v1) : gMi l yX12_inTarget cX12_inTarget 2 (some FieldType.boolean) rmX12_inTarget rmX12_inTarget.cells rmX12_inTarget.slots G h [.ref v0, .int v1] Qn := by
  exact gMi.of (by decide +kernel) hls (Nat.le_of_ble_eq_true rfl) rfl rfl (fun p e s m below meth c A X hnm => tX12_inTarget X w)
