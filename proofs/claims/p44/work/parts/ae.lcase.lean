/-! AnimationControllerLaw.low(II)I -/
abbrev rmL_low : Room := { frames := 0, cells := 0, slots := 0, locals := 0 }
def vL_low (t0 : Nat)  (Qn : Int32 → gH → Prop) (h : gH) (v0 : Int32) (v1 : Int32) : Prop := ¬ (v1 : Int32) = 0 ∧ (Qn ((v0 &&& 2147483647) - (v0 &&& 2147483647) / v1 * v1) h)
set_option maxRecDepth 100000 in
set_option maxHeartbeats 4000000 in
theorem tL_low {p : Program} {l : Launch} {e : Env} {s : State} {m : MethodId} {args : Array Value} {below : List Frame} {meth : Method} {c : Code} {G : gG} {A : Nat → Prop} {Qn : Int32 → gH → Prop} (X : gC p l s m args meth c G A cL_low 2 (some FieldType.int) RL)   {h : gH} {v0 : Int32} {v1 : Int32} (w : vL_low G.2.2.1  Qn h v0 v1) : V p l e rmL_low s m args below meth c (MQ below (va_Qi Qn (gB G A) A) args s rmL_low.cells rmL_low.slots A) G A 2 h (0) (0) 0 [(0, .int v0), (1, .int v1)] [] := by
  refine V_iload_n X dL_low_0 0 rfl ?_
  refine V_ldc (y := 2147483647) X dL_low_1 kw_887 ?_
  refine V_iand X dL_low_3 ?_
  refine V_iload_n X dL_low_4 1 rfl ?_
  obtain ⟨z0, w⟩ := w
  refine V_irem X dL_low_5 z0 ?_
  exact V_iret X rfl dL_low_6 (by show 0 ≤ 0; omega) (by show 0 ≤ 0; omega) w
theorem cL_low_ok {l : Launch} {G : gG} {h : gH} (hls : l.stackTraces = false) {Qn : Int32 → gH → Prop} {v0 : Int32} {v1 : Int32} (w : vL_low G.2.2.1 Qn h v0 v1) : gMi l yL_low cL_low 2 (some FieldType.int) rmL_low rmL_low.cells rmL_low.slots G h [.int v0, .int v1] Qn := by
  exact gMi.of (by decide +kernel) hls (Nat.le_of_ble_eq_true rfl) rfl rfl (fun p e s m below meth c A X hnm => tL_low X w)
/-! AnimationControllerLaw.place(LAnimationController;)I -/
abbrev rmL_place : Room := { frames := 8, cells := 1, slots := 6, locals := 130 }
def vL_place_b18 (t0 : Nat)  (Qn : Int32 → gH → Prop) (h : gH) (s0 : Int32) : Prop := Qn s0 h
set_option maxRecDepth 100000 in
set_option maxHeartbeats 4000000 in
theorem tL_place_b18 {p : Program} {l : Launch} {e : Env} {s : State} {m : MethodId} {args : Array Value} {below : List Frame} {meth : Method} {c : Code} {G : gG} {A : Nat → Prop} {Qn : Int32 → gH → Prop} (X : gC p l s m args meth c G A cL_place 1 (some FieldType.int) RL)   {h : gH} {s0 : Int32} (w : vL_place_b18 G.2.2.1  Qn h s0) : V p l e rmL_place s m args below meth c (MQ below (va_Qi Qn (gB G A) A) args s rmL_place.cells rmL_place.slots A) G A 1 h (1) (6) 18 [] [.int s0] := by
  exact V_iret X rfl dL_place_18 (by show 1 ≤ 1; omega) (by show 6 ≤ 6; omega) w
def vL_place (t0 : Nat)  (Qn : Int32 → gH → Prop) (h : gH) (v0 : Option Nat) : Prop := nn v0 (fun a1 => io h a1 14 (vX11_target t0 (fun x3 h2 => ((0 ≤ (x3 : Int32)) → (io h2 a1 14 (vX11_target t0 (fun x5 h4 => vL_place_b18 t0  Qn h4 x5) h2 a1 ))) ∧ ((¬ 0 ≤ (x3 : Int32)) → (io h2 a1 14 (vX11_state t0 (fun x7 h6 => vL_place_b18 t0  Qn h6 x7) (fun _ _ => False) h2 a1 )))) h a1 ))
set_option maxRecDepth 100000 in
set_option maxHeartbeats 4000000 in
theorem tL_place {p : Program} {l : Launch} {e : Env} {s : State} {m : MethodId} {args : Array Value} {below : List Frame} {meth : Method} {c : Code} {G : gG} {A : Nat → Prop} {Qn : Int32 → gH → Prop} (X : gC p l s m args meth c G A cL_place 1 (some FieldType.int) RL)   {h : gH} {v0 : Option Nat} (w : vL_place G.2.2.1  Qn h v0) : V p l e rmL_place s m args below meth c (MQ below (va_Qi Qn (gB G A) A) args s rmL_place.cells rmL_place.slots A) G A 1 h (0) (0) 0 [(0, va_rf v0)] [] := by
  refine V_aload_n X dL_place_0 0 rfl ?_
  obtain ⟨a1, rfl, w⟩ := w
  obtain ⟨fs, hh, w⟩ := w
  refine V_callVi (As := []) (rest := []) (k1 := 0) (n1 := 0) X (cX11_target_ok X.2.2.2.2.2.2.2.2.1 w) lkL_83 hh (q9 := (RX11, TX11, 7)) rfl rfl dL_place_1 ⟨(Nat.le_of_ble_eq_true rfl), (Nat.le_of_ble_eq_true rfl)⟩ rfl (Nat.le_of_ble_eq_true rfl) ⟨by show 0 + 0 ≤ 1; omega, by show 0 + 0 ≤ 6; omega⟩ (by show 0 + 0 ≤ 0; omega) (by show 0 + 0 ≤ 0; omega) (fun x3 h2 w9 => ?_)
  replace w := w9
  clear w9
  obtain ⟨w1, w2⟩ := w
  refine V_if_ge (tgt := 14) X dL_place_4 (by decide) (fun z => ?_) (fun z => ?_)
  · replace w := w1 z
    clear w1 w2
    refine V_aloadr_n X dL_place_14 0 rfl ?_
    obtain ⟨fs, hh, w⟩ := w
    refine V_callVi (As := []) (rest := []) (k1 := 0) (n1 := 0) X (cX11_target_ok X.2.2.2.2.2.2.2.2.1 w) lkL_83 hh (q9 := (RX11, TX11, 7)) rfl rfl dL_place_15 ⟨(Nat.le_of_ble_eq_true rfl), (Nat.le_of_ble_eq_true rfl)⟩ rfl (Nat.le_of_ble_eq_true rfl) ⟨by show 0 + 0 ≤ 1; omega, by show 0 + 0 ≤ 6; omega⟩ (by show 0 + 0 ≤ 0; omega) (by show 0 + 0 ≤ 0; omega) (fun x5 h4 w9 => ?_)
    replace w := w9
    clear w9
    exact V.widen (k1 := 1) (n1 := 6) (by omega) (by omega) <| V.sub [] rfl (tL_place_b18 X  w)
  · replace w := w2 z
    clear w1 w2
    refine V_aloadr_n X dL_place_7 0 rfl ?_
    obtain ⟨fs, hh, w⟩ := w
    refine V_callZi (As := []) (rest := []) (k1 := 1) (n1 := 6) X (cX11_state_ok X.2.2.2.2.2.2.2.2.1 w) lkL_102 hh (q9 := (RX11, TX11, 7)) rfl rfl dL_place_8 ⟨(Nat.le_of_ble_eq_true rfl), (Nat.le_of_ble_eq_true rfl)⟩ rfl (Nat.le_of_ble_eq_true rfl) ⟨by show 0 + 1 ≤ 1; omega, by show 0 + 6 ≤ 6; omega⟩ (by show 0 + 1 ≤ 1; omega) (by show 0 + 6 ≤ 6; omega) (fun x7 h6 w9 => ?_)
    replace w := w9
    clear w9
    refine V_goto (tgt := 18) X dL_place_11 (by decide) ?_
    exact V.widen (k1 := 1) (n1 := 6) (by omega) (by omega) <| V.sub [] rfl (tL_place_b18 X  w)
theorem cL_place_ok {l : Launch} {G : gG} {h : gH} (hls : l.stackTraces = false) {Qn : Int32 → gH → Prop} {v0 : Option Nat} (w : vL_place G.2.2.1 Qn h v0) : gMi l yL_place cL_place 1 (some FieldType.int) rmL_place rmL_place.cells rmL_place.slots G h [va_rf v0] Qn := by
  cases v0 <;>
  exact gMi.of (by decide +kernel) hls (Nat.le_of_ble_eq_true rfl) rfl rfl (fun p e s m below meth c A X hnm => tL_place X w)
/-! AnimationControllerLaw.tale(LAnimationController;)J -/
abbrev rmL_tale : Room := { frames := 13, cells := 296, slots := 1776, locals := 321 }
def vL_tale_b201_o (t0 : Nat) (k201 : gH → Option Nat → Int64 → Int32 → Int32 → Prop) (Qn : Int64 → gH → Prop) (h : gH) (v0 : Option Nat) (v1 : Int64) (v4 : Int32) (v5 : Int32) : Prop := ((v4 ≤ (v5 : Int32)) → (Qn v1 h)) ∧ ((¬ v4 ≤ (v5 : Int32)) → (nn v0 (fun a1 => io h a1 14 (vX11_event t0 (fun x3 h2 => io h2 a1 14 (vX11_event t0 (fun x5 h4 => io h4 a1 14 (vX11_event t0 (fun x7 h6 => io h6 a1 14 (vX11_event t0 (fun x9 h8 => k201 h8 (some a1) (((((v1 * 79) + ((Int32.toInt64 x3) * 3)) + ((Int32.toInt64 x5) * 5)) + ((Int32.toInt64 x7) * 7)) + (Int32.toInt64 x9)) v4 (v5 + 1)) (fun _ _ => False) h6 a1 v5 3)) (fun _ _ => False) h4 a1 v5 2)) (fun _ _ => False) h2 a1 v5 1)) (fun _ _ => False) h a1 v5 0))))
set_option maxRecDepth 100000 in
set_option maxHeartbeats 4000000 in
theorem tL_tale_b201_o {p : Program} {l : Launch} {e : Env} {s : State} {m : MethodId} {args : Array Value} {below : List Frame} {meth : Method} {c : Code} {G : gG} {A : Nat → Prop} {Qn : Int64 → gH → Prop} (X : gC p l s m args meth c G A cL_tale 6 (some FieldType.long) RL) {j201 : Nat} (hj201 : j201 < 40) {k201 : gH → Option Nat → Int64 → Int32 → Int32 → Prop} (H201 : ∀ (h : gH) (v0 : Option Nat) (v1 : Int64) (v4 : Int32) (v5 : Int32), k201 h v0 v1 v4 v5 → V p l e rmL_tale s m args below meth c (MQ below (va_Ql Qn (gB G A) A) args s rmL_tale.cells rmL_tale.slots A) G A 6 h (132 + 4 * (j201 + 1)) (792 + 24 * (j201 + 1)) 201 [(0, va_rf v0), (1, .long v1), (4, .int v4), (5, .int v5)] []) {h : gH} {v0 : Option Nat} {v1 : Int64} {v4 : Int32} {v5 : Int32} (w : vL_tale_b201_o G.2.2.1 k201 Qn h v0 v1 v4 v5) : V p l e rmL_tale s m args below meth c (MQ below (va_Ql Qn (gB G A) A) args s rmL_tale.cells rmL_tale.slots A) G A 6 h (132 + 4 * j201) (792 + 24 * j201) 201 [(0, va_rf v0), (1, .long v1), (4, .int v4), (5, .int v5)] [] := by
  refine V_iload X dL_tale_201 3 rfl ?_
  refine V_iload X dL_tale_203 2 rfl ?_
  obtain ⟨w1, w2⟩ := w
  refine V_icmp_ge (tgt := 268) X dL_tale_205 (by decide) (fun z => ?_) (fun z => ?_)
  · replace w := w1 z
    clear w1 w2
    refine V_lload_n X dL_tale_268 1 rfl ?_
    exact V_lret X rfl dL_tale_269 (by show 132 + 4 * j201 ≤ 296; omega) (by show 792 + 24 * j201 ≤ 1776; omega) w
  · replace w := w2 z
    clear w1 w2
    refine V_lload_n X dL_tale_208 1 rfl ?_
    refine V_ldc2 (y := 79) X dL_tale_209 kw_1419 ?_
    refine V_lmul X dL_tale_212 ?_
    refine V_aload_n X dL_tale_213 0 rfl ?_
    refine V_iload X dL_tale_214 3 rfl ?_
    refine V_iconst (y := 0) X dL_tale_216 (by decide) ?_
    obtain ⟨a1, rfl, w⟩ := w
    obtain ⟨fs, hh, w⟩ := w
    refine V_callZi (As := [.int v5, .int 0]) (rest := [.long (v1 * 79)]) (k1 := 133 + 4 * j201) (n1 := 798 + 24 * j201) X (cX11_event_ok X.2.2.2.2.2.2.2.2.1 w) lkL_146 hh (q9 := (RX11, TX11, 7)) rfl rfl dL_tale_217 ⟨(Nat.le_of_ble_eq_true rfl), (Nat.le_of_ble_eq_true rfl)⟩ rfl (Nat.le_of_ble_eq_true rfl) ⟨by show 132 + 4 * j201 + 1 ≤ 296; omega, by show 792 + 24 * j201 + 6 ≤ 1776; omega⟩ (by show 132 + 4 * j201 + 1 ≤ 133 + 4 * j201; omega) (by show 792 + 24 * j201 + 6 ≤ 798 + 24 * j201; omega) (fun x3 h2 w9 => ?_)
    replace w := w9
    clear w9
    refine V_i2l X dL_tale_220 ?_
    refine V_ldc2 (y := 3) X dL_tale_221 kw_1430 ?_
    refine V_lmul X dL_tale_224 ?_
    refine V_ladd X dL_tale_225 ?_
    refine V_aloadr_n X dL_tale_226 0 rfl ?_
    refine V_iload X dL_tale_227 3 rfl ?_
    refine V_iconst (y := 1) X dL_tale_229 (by decide) ?_
    obtain ⟨fs, hh, w⟩ := w
    refine V_callZi (As := [.int v5, .int 1]) (rest := [.long ((v1 * 79) + ((Int32.toInt64 x3) * 3))]) (k1 := 134 + 4 * j201) (n1 := 804 + 24 * j201) X (cX11_event_ok X.2.2.2.2.2.2.2.2.1 w) lkL_146 hh (q9 := (RX11, TX11, 7)) rfl rfl dL_tale_230 ⟨(Nat.le_of_ble_eq_true rfl), (Nat.le_of_ble_eq_true rfl)⟩ rfl (Nat.le_of_ble_eq_true rfl) ⟨by show 133 + 4 * j201 + 1 ≤ 296; omega, by show 798 + 24 * j201 + 6 ≤ 1776; omega⟩ (by show 133 + 4 * j201 + 1 ≤ 134 + 4 * j201; omega) (by show 798 + 24 * j201 + 6 ≤ 804 + 24 * j201; omega) (fun x5 h4 w9 => ?_)
    replace w := w9
    clear w9
    refine V_i2l X dL_tale_233 ?_
    refine V_ldc2 (y := 5) X dL_tale_234 kw_1417 ?_
    refine V_lmul X dL_tale_237 ?_
    refine V_ladd X dL_tale_238 ?_
    refine V_aloadr_n X dL_tale_239 0 rfl ?_
    refine V_iload X dL_tale_240 3 rfl ?_
    refine V_iconst (y := 2) X dL_tale_242 (by decide) ?_
    obtain ⟨fs, hh, w⟩ := w
    refine V_callZi (As := [.int v5, .int 2]) (rest := [.long (((v1 * 79) + ((Int32.toInt64 x3) * 3)) + ((Int32.toInt64 x5) * 5))]) (k1 := 135 + 4 * j201) (n1 := 810 + 24 * j201) X (cX11_event_ok X.2.2.2.2.2.2.2.2.1 w) lkL_146 hh (q9 := (RX11, TX11, 7)) rfl rfl dL_tale_243 ⟨(Nat.le_of_ble_eq_true rfl), (Nat.le_of_ble_eq_true rfl)⟩ rfl (Nat.le_of_ble_eq_true rfl) ⟨by show 134 + 4 * j201 + 1 ≤ 296; omega, by show 804 + 24 * j201 + 6 ≤ 1776; omega⟩ (by show 134 + 4 * j201 + 1 ≤ 135 + 4 * j201; omega) (by show 804 + 24 * j201 + 6 ≤ 810 + 24 * j201; omega) (fun x7 h6 w9 => ?_)
    replace w := w9
    clear w9
    refine V_i2l X dL_tale_246 ?_
    refine V_ldc2 (y := 7) X dL_tale_247 kw_1418 ?_
    refine V_lmul X dL_tale_250 ?_
    refine V_ladd X dL_tale_251 ?_
    refine V_aloadr_n X dL_tale_252 0 rfl ?_
    refine V_iload X dL_tale_253 3 rfl ?_
    refine V_iconst (y := 3) X dL_tale_255 (by decide) ?_
    obtain ⟨fs, hh, w⟩ := w
    refine V_callZi (As := [.int v5, .int 3]) (rest := [.long ((((v1 * 79) + ((Int32.toInt64 x3) * 3)) + ((Int32.toInt64 x5) * 5)) + ((Int32.toInt64 x7) * 7))]) (k1 := 136 + 4 * j201) (n1 := 816 + 24 * j201) X (cX11_event_ok X.2.2.2.2.2.2.2.2.1 w) lkL_146 hh (q9 := (RX11, TX11, 7)) rfl rfl dL_tale_256 ⟨(Nat.le_of_ble_eq_true rfl), (Nat.le_of_ble_eq_true rfl)⟩ rfl (Nat.le_of_ble_eq_true rfl) ⟨by show 135 + 4 * j201 + 1 ≤ 296; omega, by show 810 + 24 * j201 + 6 ≤ 1776; omega⟩ (by show 135 + 4 * j201 + 1 ≤ 136 + 4 * j201; omega) (by show 810 + 24 * j201 + 6 ≤ 816 + 24 * j201; omega) (fun x9 h8 w9 => ?_)
    replace w := w9
    clear w9
    refine V_i2l X dL_tale_259 ?_
    refine V_ladd X dL_tale_260 ?_
    refine V_lstore_n (i0 := 1) X dL_tale_261 rfl (by decide) rfl ?_
    refine V_iinc (y := (v5 + 1)) X dL_tale_262 3 rfl (by first | rfl | (congr 1)) (by decide) rfl ?_
    refine V_goto (tgt := 201) X dL_tale_265 (by decide) ?_
    exact V.widen (k1 := 132 + 4 * (j201 + 1)) (n1 := 792 + 24 * (j201 + 1)) (by omega) (by omega) <| V.sub [2, 1, 3, 0] rfl (H201 _ _ _ _ _ w)
def vL_tale_b201 (t0 : Nat)  (Qn : Int64 → gH → Prop) (n : Nat) : gH → Option Nat → Int64 → Int32 → Int32 → Prop := Nat.rec (motive := fun _ => gH → Option Nat → Int64 → Int32 → Int32 → Prop) (fun _ _ _ _ _ => False) (fun _ k201 => vL_tale_b201_o t0 k201 Qn) n
set_option maxRecDepth 100000 in
set_option maxHeartbeats 4000000 in
theorem tL_tale_b201 {p : Program} {l : Launch} {e : Env} {s : State} {m : MethodId} {args : Array Value} {below : List Frame} {meth : Method} {c : Code} {G : gG} {A : Nat → Prop} {Qn : Int64 → gH → Prop} (X : gC p l s m args meth c G A cL_tale 6 (some FieldType.long) RL)   : ∀ (n : Nat) (h : gH) (v0 : Option Nat) (v1 : Int64) (v4 : Int32) (v5 : Int32) (hn : n ≤ 40) (w : vL_tale_b201 G.2.2.1  Qn n h v0 v1 v4 v5), V p l e rmL_tale s m args below meth c (MQ below (va_Ql Qn (gB G A) A) args s rmL_tale.cells rmL_tale.slots A) G A 6 h (132 + 4 * (40 - n)) (792 + 24 * (40 - n)) 201 [(0, va_rf v0), (1, .long v1), (4, .int v4), (5, .int v5)] [] := by
  intro n
  induction n with
  | zero => intro h v0 v1 v4 v5 hn w; exact False.elim w
  | succ n ih =>
    intro h v0 v1 v4 v5 hn w
    have e9 : 40 - n = (40 - (n + 1)) + 1 := by omega
    exact tL_tale_b201_o (j201 := 40 - (n + 1)) X (by omega) (fun h v0 v1 v4 v5 w => by have z := ih h v0 v1 v4 v5 (by omega) w; rw [e9] at z; exact z) w
def vL_tale_b140_o (t0 : Nat) (k140 : gH → Option Nat → Int64 → Int32 → Int32 → Prop) (Qn : Int64 → gH → Prop) (h : gH) (v0 : Option Nat) (v1 : Int64) (v3 : Int32) (v4 : Int32) : Prop := ((v3 ≤ (v4 : Int32)) → (nn v0 (fun a1 => io h a1 14 (vX11_count t0 (fun x3 h2 => vL_tale_b201 t0  Qn 40 h2 (some a1) v1 x3 0) (fun _ _ => False) h a1 6)))) ∧ ((¬ v3 ≤ (v4 : Int32)) → (nn v0 (fun a4 => io h a4 14 (vX11_poseClip t0 (fun x6 h5 => io h5 a4 14 (vX11_poseTime t0 (fun x8 h7 => io h7 a4 14 (vX11_poseWeight t0 (fun x10 h9 => k140 h9 (some a4) ((((v1 * 73) + ((Int32.toInt64 x6) * 5)) + ((Int32.toInt64 x8) * 7)) + (Int32.toInt64 x10)) v3 (v4 + 1)) (fun _ _ => False) h7 a4 v4)) (fun _ _ => False) h5 a4 v4)) (fun _ _ => False) h a4 v4))))
set_option maxRecDepth 100000 in
set_option maxHeartbeats 4000000 in
theorem tL_tale_b140_o {p : Program} {l : Launch} {e : Env} {s : State} {m : MethodId} {args : Array Value} {below : List Frame} {meth : Method} {c : Code} {G : gG} {A : Nat → Prop} {Qn : Int64 → gH → Prop} (X : gC p l s m args meth c G A cL_tale 6 (some FieldType.long) RL) {j140 : Nat} (hj140 : j140 < 40) {k140 : gH → Option Nat → Int64 → Int32 → Int32 → Prop} (H140 : ∀ (h : gH) (v0 : Option Nat) (v1 : Int64) (v3 : Int32) (v4 : Int32), k140 h v0 v1 v3 v4 → V p l e rmL_tale s m args below meth c (MQ below (va_Ql Qn (gB G A) A) args s rmL_tale.cells rmL_tale.slots A) G A 6 h (11 + 3 * (j140 + 1)) (66 + 18 * (j140 + 1)) 140 [(0, va_rf v0), (1, .long v1), (3, .int v3), (4, .int v4)] []) {h : gH} {v0 : Option Nat} {v1 : Int64} {v3 : Int32} {v4 : Int32} (w : vL_tale_b140_o G.2.2.1 k140 Qn h v0 v1 v3 v4) : V p l e rmL_tale s m args below meth c (MQ below (va_Ql Qn (gB G A) A) args s rmL_tale.cells rmL_tale.slots A) G A 6 h (11 + 3 * j140) (66 + 18 * j140) 140 [(0, va_rf v0), (1, .long v1), (3, .int v3), (4, .int v4)] [] := by
  refine V_iload X dL_tale_140 3 rfl ?_
  refine V_iload_n X dL_tale_142 2 rfl ?_
  obtain ⟨w1, w2⟩ := w
  refine V_icmp_ge (tgt := 190) X dL_tale_143 (by decide) (fun z => ?_) (fun z => ?_)
  · replace w := w1 z
    clear w1 w2
    refine V_aload_n X dL_tale_190 0 rfl ?_
    refine V_bipush (y := 6) X dL_tale_191 (by decide) ?_
    obtain ⟨a1, rfl, w⟩ := w
    obtain ⟨fs, hh, w⟩ := w
    refine V_callZi (As := [.int 6]) (rest := []) (k1 := 12 + 3 * j140) (n1 := 72 + 18 * j140) X (cX11_count_ok X.2.2.2.2.2.2.2.2.1 w) lkL_124 hh (q9 := (RX11, TX11, 7)) rfl rfl dL_tale_193 ⟨(Nat.le_of_ble_eq_true rfl), (Nat.le_of_ble_eq_true rfl)⟩ rfl (Nat.le_of_ble_eq_true rfl) ⟨by show 11 + 3 * j140 + 1 ≤ 296; omega, by show 66 + 18 * j140 + 6 ≤ 1776; omega⟩ (by show 11 + 3 * j140 + 1 ≤ 12 + 3 * j140; omega) (by show 66 + 18 * j140 + 6 ≤ 72 + 18 * j140; omega) (fun x3 h2 w9 => ?_)
    replace w := w9
    clear w9
    refine V_istore X dL_tale_196 (by decide) rfl ?_
    refine V_iconst (y := 0) X dL_tale_198 (by decide) ?_
    refine V_istore X dL_tale_199 (by decide) rfl ?_
    exact V.widen (k1 := 132 + 4 * (40 - 40)) (n1 := 792 + 24 * (40 - 40)) (by omega) (by omega) <| V.sub [2, 3, 1, 0] rfl (tL_tale_b201 X  40 _ _ _ _ _ (Nat.le_refl _) w)
  · replace w := w2 z
    clear w1 w2
    refine V_lload_n X dL_tale_146 1 rfl ?_
    refine V_ldc2 (y := 73) X dL_tale_147 kw_1416 ?_
    refine V_lmul X dL_tale_150 ?_
    refine V_aload_n X dL_tale_151 0 rfl ?_
    refine V_iload X dL_tale_152 3 rfl ?_
    obtain ⟨a4, rfl, w⟩ := w
    obtain ⟨fs, hh, w⟩ := w
    refine V_callZi (As := [.int v4]) (rest := [.long (v1 * 73)]) (k1 := 12 + 3 * j140) (n1 := 72 + 18 * j140) X (cX11_poseClip_ok X.2.2.2.2.2.2.2.2.1 w) lkL_71 hh (q9 := (RX11, TX11, 7)) rfl rfl dL_tale_154 ⟨(Nat.le_of_ble_eq_true rfl), (Nat.le_of_ble_eq_true rfl)⟩ rfl (Nat.le_of_ble_eq_true rfl) ⟨by show 11 + 3 * j140 + 1 ≤ 296; omega, by show 66 + 18 * j140 + 6 ≤ 1776; omega⟩ (by show 11 + 3 * j140 + 1 ≤ 12 + 3 * j140; omega) (by show 66 + 18 * j140 + 6 ≤ 72 + 18 * j140; omega) (fun x6 h5 w9 => ?_)
    replace w := w9
    clear w9
    refine V_i2l X dL_tale_157 ?_
    refine V_ldc2 (y := 5) X dL_tale_158 kw_1417 ?_
    refine V_lmul X dL_tale_161 ?_
    refine V_ladd X dL_tale_162 ?_
    refine V_aloadr_n X dL_tale_163 0 rfl ?_
    refine V_iload X dL_tale_164 3 rfl ?_
    obtain ⟨fs, hh, w⟩ := w
    refine V_callZi (As := [.int v4]) (rest := [.long ((v1 * 73) + ((Int32.toInt64 x6) * 5))]) (k1 := 13 + 3 * j140) (n1 := 78 + 18 * j140) X (cX11_poseTime_ok X.2.2.2.2.2.2.2.2.1 w) lkL_74 hh (q9 := (RX11, TX11, 7)) rfl rfl dL_tale_166 ⟨(Nat.le_of_ble_eq_true rfl), (Nat.le_of_ble_eq_true rfl)⟩ rfl (Nat.le_of_ble_eq_true rfl) ⟨by show 12 + 3 * j140 + 1 ≤ 296; omega, by show 72 + 18 * j140 + 6 ≤ 1776; omega⟩ (by show 12 + 3 * j140 + 1 ≤ 13 + 3 * j140; omega) (by show 72 + 18 * j140 + 6 ≤ 78 + 18 * j140; omega) (fun x8 h7 w9 => ?_)
    replace w := w9
    clear w9
    refine V_i2l X dL_tale_169 ?_
    refine V_ldc2 (y := 7) X dL_tale_170 kw_1418 ?_
    refine V_lmul X dL_tale_173 ?_
    refine V_ladd X dL_tale_174 ?_
    refine V_aloadr_n X dL_tale_175 0 rfl ?_
    refine V_iload X dL_tale_176 3 rfl ?_
    obtain ⟨fs, hh, w⟩ := w
    refine V_callZi (As := [.int v4]) (rest := [.long (((v1 * 73) + ((Int32.toInt64 x6) * 5)) + ((Int32.toInt64 x8) * 7))]) (k1 := 14 + 3 * j140) (n1 := 84 + 18 * j140) X (cX11_poseWeight_ok X.2.2.2.2.2.2.2.2.1 w) lkL_77 hh (q9 := (RX11, TX11, 7)) rfl rfl dL_tale_178 ⟨(Nat.le_of_ble_eq_true rfl), (Nat.le_of_ble_eq_true rfl)⟩ rfl (Nat.le_of_ble_eq_true rfl) ⟨by show 13 + 3 * j140 + 1 ≤ 296; omega, by show 78 + 18 * j140 + 6 ≤ 1776; omega⟩ (by show 13 + 3 * j140 + 1 ≤ 14 + 3 * j140; omega) (by show 78 + 18 * j140 + 6 ≤ 84 + 18 * j140; omega) (fun x10 h9 w9 => ?_)
    replace w := w9
    clear w9
    refine V_i2l X dL_tale_181 ?_
    refine V_ladd X dL_tale_182 ?_
    refine V_lstore_n (i0 := 1) X dL_tale_183 rfl (by decide) rfl ?_
    refine V_iinc (y := (v4 + 1)) X dL_tale_184 3 rfl (by first | rfl | (congr 1)) (by decide) rfl ?_
    refine V_goto (tgt := 140) X dL_tale_187 (by decide) ?_
    exact V.widen (k1 := 11 + 3 * (j140 + 1)) (n1 := 66 + 18 * (j140 + 1)) (by omega) (by omega) <| V.sub [2, 1, 3, 0] rfl (H140 _ _ _ _ _ w)
def vL_tale_b140 (t0 : Nat)  (Qn : Int64 → gH → Prop) (n : Nat) : gH → Option Nat → Int64 → Int32 → Int32 → Prop := Nat.rec (motive := fun _ => gH → Option Nat → Int64 → Int32 → Int32 → Prop) (fun _ _ _ _ _ => False) (fun _ k140 => vL_tale_b140_o t0 k140 Qn) n
set_option maxRecDepth 100000 in
set_option maxHeartbeats 4000000 in
theorem tL_tale_b140 {p : Program} {l : Launch} {e : Env} {s : State} {m : MethodId} {args : Array Value} {below : List Frame} {meth : Method} {c : Code} {G : gG} {A : Nat → Prop} {Qn : Int64 → gH → Prop} (X : gC p l s m args meth c G A cL_tale 6 (some FieldType.long) RL)   : ∀ (n : Nat) (h : gH) (v0 : Option Nat) (v1 : Int64) (v3 : Int32) (v4 : Int32) (hn : n ≤ 40) (w : vL_tale_b140 G.2.2.1  Qn n h v0 v1 v3 v4), V p l e rmL_tale s m args below meth c (MQ below (va_Ql Qn (gB G A) A) args s rmL_tale.cells rmL_tale.slots A) G A 6 h (11 + 3 * (40 - n)) (66 + 18 * (40 - n)) 140 [(0, va_rf v0), (1, .long v1), (3, .int v3), (4, .int v4)] [] := by
  intro n
  induction n with
  | zero => intro h v0 v1 v3 v4 hn w; exact False.elim w
  | succ n ih =>
    intro h v0 v1 v3 v4 hn w
    have e9 : 40 - n = (40 - (n + 1)) + 1 := by omega
    exact tL_tale_b140_o (j140 := 40 - (n + 1)) X (by omega) (fun h v0 v1 v3 v4 w => by have z := ih h v0 v1 v3 v4 (by omega) w; rw [e9] at z; exact z) w
def vL_tale_b108_o (t0 : Nat) (k108 : gH → Option Nat → Int64 → Int32 → Prop) (Qn : Int64 → gH → Prop) (h : gH) (v0 : Option Nat) (v1 : Int64) (v3 : Int32) : Prop := ((3 ≤ (v3 : Int32)) → (nn v0 (fun a1 => io h a1 14 (vX11_poseSize t0 (fun x3 h2 => vL_tale_b140 t0  Qn 40 h2 (some a1) v1 x3 0) h a1 )))) ∧ ((¬ 3 ≤ (v3 : Int32)) → (nn v0 (fun a4 => io h a4 14 (vX11_value t0 (fun x6 h5 => k108 h5 (some a4) ((v1 * 71) + (Int32.toInt64 x6)) (v3 + 1)) (fun _ _ => False) h a4 v3))))
set_option maxRecDepth 100000 in
set_option maxHeartbeats 4000000 in
theorem tL_tale_b108_o {p : Program} {l : Launch} {e : Env} {s : State} {m : MethodId} {args : Array Value} {below : List Frame} {meth : Method} {c : Code} {G : gG} {A : Nat → Prop} {Qn : Int64 → gH → Prop} (X : gC p l s m args meth c G A cL_tale 6 (some FieldType.long) RL) {j108 : Nat} (hj108 : j108 < 4) {k108 : gH → Option Nat → Int64 → Int32 → Prop} (H108 : ∀ (h : gH) (v0 : Option Nat) (v1 : Int64) (v3 : Int32), k108 h v0 v1 v3 → V p l e rmL_tale s m args below meth c (MQ below (va_Ql Qn (gB G A) A) args s rmL_tale.cells rmL_tale.slots A) G A 6 h (7 + 1 * (j108 + 1)) (42 + 6 * (j108 + 1)) 108 [(0, va_rf v0), (1, .long v1), (3, .int v3)] []) {h : gH} {v0 : Option Nat} {v1 : Int64} {v3 : Int32} (w : vL_tale_b108_o G.2.2.1 k108 Qn h v0 v1 v3) : V p l e rmL_tale s m args below meth c (MQ below (va_Ql Qn (gB G A) A) args s rmL_tale.cells rmL_tale.slots A) G A 6 h (7 + 1 * j108) (42 + 6 * j108) 108 [(0, va_rf v0), (1, .long v1), (3, .int v3)] [] := by
  refine V_iload_n X dL_tale_108 2 rfl ?_
  refine V_iconst (y := 3) X dL_tale_109 (by decide) ?_
  obtain ⟨w1, w2⟩ := w
  refine V_icmp_ge (tgt := 132) X dL_tale_110 (by decide) (fun z => ?_) (fun z => ?_)
  · replace w := w1 z
    clear w1 w2
    refine V_aload_n X dL_tale_132 0 rfl ?_
    obtain ⟨a1, rfl, w⟩ := w
    obtain ⟨fs, hh, w⟩ := w
    refine V_callVi (As := []) (rest := []) (k1 := 7 + 1 * j108) (n1 := 42 + 6 * j108) X (cX11_poseSize_ok X.2.2.2.2.2.2.2.2.1 w) lkL_67 hh (q9 := (RX11, TX11, 7)) rfl rfl dL_tale_133 ⟨(Nat.le_of_ble_eq_true rfl), (Nat.le_of_ble_eq_true rfl)⟩ rfl (Nat.le_of_ble_eq_true rfl) ⟨by show 7 + 1 * j108 + 0 ≤ 296; omega, by show 42 + 6 * j108 + 0 ≤ 1776; omega⟩ (by show 7 + 1 * j108 + 0 ≤ 7 + 1 * j108; omega) (by show 42 + 6 * j108 + 0 ≤ 42 + 6 * j108; omega) (fun x3 h2 w9 => ?_)
    replace w := w9
    clear w9
    refine V_istore_n (i0 := 3) X dL_tale_136 rfl (by decide) rfl ?_
    refine V_iconst (y := 0) X dL_tale_137 (by decide) ?_
    refine V_istore X dL_tale_138 (by decide) rfl ?_
    exact V.widen (k1 := 11 + 3 * (40 - 40)) (n1 := 66 + 18 * (40 - 40)) (by omega) (by omega) <| V.sub [2, 3, 1, 0] rfl (tL_tale_b140 X  40 _ _ _ _ _ (Nat.le_refl _) w)
  · replace w := w2 z
    clear w1 w2
    refine V_lload_n X dL_tale_113 1 rfl ?_
    refine V_ldc2 (y := 71) X dL_tale_114 kw_1415 ?_
    refine V_lmul X dL_tale_117 ?_
    refine V_aload_n X dL_tale_118 0 rfl ?_
    refine V_iload_n X dL_tale_119 2 rfl ?_
    obtain ⟨a4, rfl, w⟩ := w
    obtain ⟨fs, hh, w⟩ := w
    refine V_callZi (As := [.int v3]) (rest := [.long (v1 * 71)]) (k1 := 8 + 1 * j108) (n1 := 48 + 6 * j108) X (cX11_value_ok X.2.2.2.2.2.2.2.2.1 w) lkL_135 hh (q9 := (RX11, TX11, 7)) rfl rfl dL_tale_120 ⟨(Nat.le_of_ble_eq_true rfl), (Nat.le_of_ble_eq_true rfl)⟩ rfl (Nat.le_of_ble_eq_true rfl) ⟨by show 7 + 1 * j108 + 1 ≤ 296; omega, by show 42 + 6 * j108 + 6 ≤ 1776; omega⟩ (by show 7 + 1 * j108 + 1 ≤ 8 + 1 * j108; omega) (by show 42 + 6 * j108 + 6 ≤ 48 + 6 * j108; omega) (fun x6 h5 w9 => ?_)
    replace w := w9
    clear w9
    refine V_i2l X dL_tale_123 ?_
    refine V_ladd X dL_tale_124 ?_
    refine V_lstore_n (i0 := 1) X dL_tale_125 rfl (by decide) rfl ?_
    refine V_iinc (y := (v3 + 1)) X dL_tale_126 2 rfl (by first | rfl | (congr 1)) (by decide) rfl ?_
    refine V_goto (tgt := 108) X dL_tale_129 (by decide) ?_
    exact V.widen (k1 := 7 + 1 * (j108 + 1)) (n1 := 42 + 6 * (j108 + 1)) (by omega) (by omega) <| V.sub [2, 1, 0] rfl (H108 _ _ _ _ w)
def vL_tale_b108 (t0 : Nat)  (Qn : Int64 → gH → Prop) (n : Nat) : gH → Option Nat → Int64 → Int32 → Prop := Nat.rec (motive := fun _ => gH → Option Nat → Int64 → Int32 → Prop) (fun _ _ _ _ => False) (fun _ k108 => vL_tale_b108_o t0 k108 Qn) n
set_option maxRecDepth 100000 in
set_option maxHeartbeats 4000000 in
theorem tL_tale_b108 {p : Program} {l : Launch} {e : Env} {s : State} {m : MethodId} {args : Array Value} {below : List Frame} {meth : Method} {c : Code} {G : gG} {A : Nat → Prop} {Qn : Int64 → gH → Prop} (X : gC p l s m args meth c G A cL_tale 6 (some FieldType.long) RL)   : ∀ (n : Nat) (h : gH) (v0 : Option Nat) (v1 : Int64) (v3 : Int32) (hn : n ≤ 4) (w : vL_tale_b108 G.2.2.1  Qn n h v0 v1 v3), V p l e rmL_tale s m args below meth c (MQ below (va_Ql Qn (gB G A) A) args s rmL_tale.cells rmL_tale.slots A) G A 6 h (7 + 1 * (4 - n)) (42 + 6 * (4 - n)) 108 [(0, va_rf v0), (1, .long v1), (3, .int v3)] [] := by
  intro n
  induction n with
  | zero => intro h v0 v1 v3 hn w; exact False.elim w
  | succ n ih =>
    intro h v0 v1 v3 hn w
    have e9 : 4 - n = (4 - (n + 1)) + 1 := by omega
    exact tL_tale_b108_o (j108 := 4 - (n + 1)) X (by omega) (fun h v0 v1 v3 w => by have z := ih h v0 v1 v3 (by omega) w; rw [e9] at z; exact z) w
def vL_tale_b105 (t0 : Nat)  (Qn : Int64 → gH → Prop) (h : gH) (v0 : Option Nat) (s0 : Int64) : Prop := vL_tale_b108 t0  Qn 4 h v0 s0 0
set_option maxRecDepth 100000 in
set_option maxHeartbeats 4000000 in
theorem tL_tale_b105 {p : Program} {l : Launch} {e : Env} {s : State} {m : MethodId} {args : Array Value} {below : List Frame} {meth : Method} {c : Code} {G : gG} {A : Nat → Prop} {Qn : Int64 → gH → Prop} (X : gC p l s m args meth c G A cL_tale 6 (some FieldType.long) RL)   {h : gH} {v0 : Option Nat} {s0 : Int64} (w : vL_tale_b105 G.2.2.1  Qn h v0 s0) : V p l e rmL_tale s m args below meth c (MQ below (va_Ql Qn (gB G A) A) args s rmL_tale.cells rmL_tale.slots A) G A 6 h (7) (42) 105 [(0, va_rf v0)] [.long s0] := by
  refine V_lstore_n (i0 := 1) X dL_tale_105 rfl (by decide) (by simp [va_cat1] <;> rfl) ?_
  refine V_iconst (y := 0) X dL_tale_106 (by decide) ?_
  refine V_istore_n (i0 := 3) X dL_tale_107 rfl (by decide) rfl ?_
  exact V.widen (k1 := 7 + 1 * (4 - 4)) (n1 := 42 + 6 * (4 - 4)) (by omega) (by omega) <| V.sub [2, 1, 0] rfl (tL_tale_b108 X  4 _ _ _ _ (Nat.le_refl _) w)
def vL_tale (t0 : Nat)  (Qn : Int64 → gH → Prop) (h : gH) (v0 : Option Nat) : Prop := nn v0 (fun a1 => io h a1 14 (vX11_state t0 (fun x3 h2 => io h2 a1 14 (vX11_target t0 (fun x5 h4 => io h4 a1 14 (vX11_transition t0 (fun x7 h6 => io h6 a1 14 (vX11_elapsed t0 (fun x9 h8 => io h8 a1 14 (vX11_progress t0 (fun x11 h10 => io h10 a1 14 (vX11_fired t0 (fun x13 h12 => io h12 a1 14 (vX11_count t0 (fun x15 h14 => io h14 a1 14 (vX11_count t0 (fun x17 h16 => io h16 a1 14 (vX11_target t0 (fun x19 h18 => (((x19 : Int32) < 0) → (vL_tale_b105 t0  Qn h18 (some a1) (((((((((Int32.toInt64 x3) * 31) + ((Int32.toInt64 x5) * 37)) + ((Int32.toInt64 x7) * 41)) + ((Int32.toInt64 x9) * 43)) + (x11 * 47)) + ((Int32.toInt64 x13) * 53)) + ((Int32.toInt64 x15) * 59)) + ((Int32.toInt64 x17) * 61)))) ∧ ((¬ (x19 : Int32) < 0) → (io h18 a1 14 (vX11_progress t0 (fun x21 h20 => vL_tale_b105 t0  Qn h20 (some a1) (((((((((((Int32.toInt64 x3) * 31) + ((Int32.toInt64 x5) * 37)) + ((Int32.toInt64 x7) * 41)) + ((Int32.toInt64 x9) * 43)) + (x11 * 47)) + ((Int32.toInt64 x13) * 53)) + ((Int32.toInt64 x15) * 59)) + ((Int32.toInt64 x17) * 61)) * 67) + x21)) (fun _ _ => False) h18 a1 1)))) h16 a1 )) (fun _ _ => False) h14 a1 6)) (fun _ _ => False) h12 a1 5)) h10 a1 )) (fun _ _ => False) h8 a1 0)) h6 a1 )) h4 a1 )) h2 a1 )) (fun _ _ => False) h a1 ))
set_option maxRecDepth 100000 in
set_option maxHeartbeats 4000000 in
theorem tL_tale {p : Program} {l : Launch} {e : Env} {s : State} {m : MethodId} {args : Array Value} {below : List Frame} {meth : Method} {c : Code} {G : gG} {A : Nat → Prop} {Qn : Int64 → gH → Prop} (X : gC p l s m args meth c G A cL_tale 6 (some FieldType.long) RL)   {h : gH} {v0 : Option Nat} (w : vL_tale G.2.2.1  Qn h v0) : V p l e rmL_tale s m args below meth c (MQ below (va_Ql Qn (gB G A) A) args s rmL_tale.cells rmL_tale.slots A) G A 6 h (0) (0) 0 [(0, va_rf v0)] [] := by
  refine V_aload_n X dL_tale_0 0 rfl ?_
  obtain ⟨a1, rfl, w⟩ := w
  obtain ⟨fs, hh, w⟩ := w
  refine V_callZi (As := []) (rest := []) (k1 := 1) (n1 := 6) X (cX11_state_ok X.2.2.2.2.2.2.2.2.1 w) lkL_102 hh (q9 := (RX11, TX11, 7)) rfl rfl dL_tale_1 ⟨(Nat.le_of_ble_eq_true rfl), (Nat.le_of_ble_eq_true rfl)⟩ rfl (Nat.le_of_ble_eq_true rfl) ⟨by show 0 + 1 ≤ 296; omega, by show 0 + 6 ≤ 1776; omega⟩ (by show 0 + 1 ≤ 1; omega) (by show 0 + 6 ≤ 6; omega) (fun x3 h2 w9 => ?_)
  replace w := w9
  clear w9
  refine V_i2l X dL_tale_4 ?_
  refine V_ldc2 (y := 31) X dL_tale_5 kw_1406 ?_
  refine V_lmul X dL_tale_8 ?_
  refine V_aloadr_n X dL_tale_9 0 rfl ?_
  obtain ⟨fs, hh, w⟩ := w
  refine V_callVi (As := []) (rest := [.long ((Int32.toInt64 x3) * 31)]) (k1 := 1) (n1 := 6) X (cX11_target_ok X.2.2.2.2.2.2.2.2.1 w) lkL_83 hh (q9 := (RX11, TX11, 7)) rfl rfl dL_tale_10 ⟨(Nat.le_of_ble_eq_true rfl), (Nat.le_of_ble_eq_true rfl)⟩ rfl (Nat.le_of_ble_eq_true rfl) ⟨by show 1 + 0 ≤ 296; omega, by show 6 + 0 ≤ 1776; omega⟩ (by show 1 + 0 ≤ 1; omega) (by show 6 + 0 ≤ 6; omega) (fun x5 h4 w9 => ?_)
  replace w := w9
  clear w9
  refine V_i2l X dL_tale_13 ?_
  refine V_ldc2 (y := 37) X dL_tale_14 kw_1407 ?_
  refine V_lmul X dL_tale_17 ?_
  refine V_ladd X dL_tale_18 ?_
  refine V_aloadr_n X dL_tale_19 0 rfl ?_
  obtain ⟨fs, hh, w⟩ := w
  refine V_callVi (As := []) (rest := [.long (((Int32.toInt64 x3) * 31) + ((Int32.toInt64 x5) * 37))]) (k1 := 1) (n1 := 6) X (cX11_transition_ok X.2.2.2.2.2.2.2.2.1 w) lkL_80 hh (q9 := (RX11, TX11, 7)) rfl rfl dL_tale_20 ⟨(Nat.le_of_ble_eq_true rfl), (Nat.le_of_ble_eq_true rfl)⟩ rfl (Nat.le_of_ble_eq_true rfl) ⟨by show 1 + 0 ≤ 296; omega, by show 6 + 0 ≤ 1776; omega⟩ (by show 1 + 0 ≤ 1; omega) (by show 6 + 0 ≤ 6; omega) (fun x7 h6 w9 => ?_)
  replace w := w9
  clear w9
  refine V_i2l X dL_tale_23 ?_
  refine V_ldc2 (y := 41) X dL_tale_24 kw_1408 ?_
  refine V_lmul X dL_tale_27 ?_
  refine V_ladd X dL_tale_28 ?_
  refine V_aloadr_n X dL_tale_29 0 rfl ?_
  obtain ⟨fs, hh, w⟩ := w
  refine V_callVi (As := []) (rest := [.long ((((Int32.toInt64 x3) * 31) + ((Int32.toInt64 x5) * 37)) + ((Int32.toInt64 x7) * 41))]) (k1 := 1) (n1 := 6) X (cX11_elapsed_ok X.2.2.2.2.2.2.2.2.1 w) lkL_86 hh (q9 := (RX11, TX11, 7)) rfl rfl dL_tale_30 ⟨(Nat.le_of_ble_eq_true rfl), (Nat.le_of_ble_eq_true rfl)⟩ rfl (Nat.le_of_ble_eq_true rfl) ⟨by show 1 + 0 ≤ 296; omega, by show 6 + 0 ≤ 1776; omega⟩ (by show 1 + 0 ≤ 1; omega) (by show 6 + 0 ≤ 6; omega) (fun x9 h8 w9 => ?_)
  replace w := w9
  clear w9
  refine V_i2l X dL_tale_33 ?_
  refine V_ldc2 (y := 43) X dL_tale_34 kw_1409 ?_
  refine V_lmul X dL_tale_37 ?_
  refine V_ladd X dL_tale_38 ?_
  refine V_aloadr_n X dL_tale_39 0 rfl ?_
  refine V_iconst (y := 0) X dL_tale_40 (by decide) ?_
  obtain ⟨fs, hh, w⟩ := w
  refine V_callZl (As := [.int 0]) (rest := [.long (((((Int32.toInt64 x3) * 31) + ((Int32.toInt64 x5) * 37)) + ((Int32.toInt64 x7) * 41)) + ((Int32.toInt64 x9) * 43))]) (k1 := 3) (n1 := 18) X (cX11_progress_ok X.2.2.2.2.2.2.2.2.1 w) lkL_113 hh (q9 := (RX11, TX11, 7)) rfl rfl dL_tale_41 ⟨(Nat.le_of_ble_eq_true rfl), (Nat.le_of_ble_eq_true rfl)⟩ rfl (Nat.le_of_ble_eq_true rfl) ⟨by show 1 + 2 ≤ 296; omega, by show 6 + 12 ≤ 1776; omega⟩ (by show 1 + 2 ≤ 3; omega) (by show 6 + 12 ≤ 18; omega) (fun x11 h10 w9 => ?_)
  replace w := w9
  clear w9
  refine V_ldc2 (y := 47) X dL_tale_44 kw_1410 ?_
  refine V_lmul X dL_tale_47 ?_
  refine V_ladd X dL_tale_48 ?_
  refine V_aloadr_n X dL_tale_49 0 rfl ?_
  obtain ⟨fs, hh, w⟩ := w
  refine V_callVi (As := []) (rest := [.long ((((((Int32.toInt64 x3) * 31) + ((Int32.toInt64 x5) * 37)) + ((Int32.toInt64 x7) * 41)) + ((Int32.toInt64 x9) * 43)) + (x11 * 47))]) (k1 := 3) (n1 := 18) X (cX11_fired_ok X.2.2.2.2.2.2.2.2.1 w) lkL_119 hh (q9 := (RX11, TX11, 7)) rfl rfl dL_tale_50 ⟨(Nat.le_of_ble_eq_true rfl), (Nat.le_of_ble_eq_true rfl)⟩ rfl (Nat.le_of_ble_eq_true rfl) ⟨by show 3 + 0 ≤ 296; omega, by show 18 + 0 ≤ 1776; omega⟩ (by show 3 + 0 ≤ 3; omega) (by show 18 + 0 ≤ 18; omega) (fun x13 h12 w9 => ?_)
  replace w := w9
  clear w9
  refine V_i2l X dL_tale_53 ?_
  refine V_ldc2 (y := 53) X dL_tale_54 kw_1411 ?_
  refine V_lmul X dL_tale_57 ?_
  refine V_ladd X dL_tale_58 ?_
  refine V_aloadr_n X dL_tale_59 0 rfl ?_
  refine V_iconst (y := 5) X dL_tale_60 (by decide) ?_
  obtain ⟨fs, hh, w⟩ := w
  refine V_callZi (As := [.int 5]) (rest := [.long (((((((Int32.toInt64 x3) * 31) + ((Int32.toInt64 x5) * 37)) + ((Int32.toInt64 x7) * 41)) + ((Int32.toInt64 x9) * 43)) + (x11 * 47)) + ((Int32.toInt64 x13) * 53))]) (k1 := 4) (n1 := 24) X (cX11_count_ok X.2.2.2.2.2.2.2.2.1 w) lkL_124 hh (q9 := (RX11, TX11, 7)) rfl rfl dL_tale_61 ⟨(Nat.le_of_ble_eq_true rfl), (Nat.le_of_ble_eq_true rfl)⟩ rfl (Nat.le_of_ble_eq_true rfl) ⟨by show 3 + 1 ≤ 296; omega, by show 18 + 6 ≤ 1776; omega⟩ (by show 3 + 1 ≤ 4; omega) (by show 18 + 6 ≤ 24; omega) (fun x15 h14 w9 => ?_)
  replace w := w9
  clear w9
  refine V_i2l X dL_tale_64 ?_
  refine V_ldc2 (y := 59) X dL_tale_65 kw_1412 ?_
  refine V_lmul X dL_tale_68 ?_
  refine V_ladd X dL_tale_69 ?_
  refine V_aloadr_n X dL_tale_70 0 rfl ?_
  refine V_bipush (y := 6) X dL_tale_71 (by decide) ?_
  obtain ⟨fs, hh, w⟩ := w
  refine V_callZi (As := [.int 6]) (rest := [.long ((((((((Int32.toInt64 x3) * 31) + ((Int32.toInt64 x5) * 37)) + ((Int32.toInt64 x7) * 41)) + ((Int32.toInt64 x9) * 43)) + (x11 * 47)) + ((Int32.toInt64 x13) * 53)) + ((Int32.toInt64 x15) * 59))]) (k1 := 5) (n1 := 30) X (cX11_count_ok X.2.2.2.2.2.2.2.2.1 w) lkL_124 hh (q9 := (RX11, TX11, 7)) rfl rfl dL_tale_73 ⟨(Nat.le_of_ble_eq_true rfl), (Nat.le_of_ble_eq_true rfl)⟩ rfl (Nat.le_of_ble_eq_true rfl) ⟨by show 4 + 1 ≤ 296; omega, by show 24 + 6 ≤ 1776; omega⟩ (by show 4 + 1 ≤ 5; omega) (by show 24 + 6 ≤ 30; omega) (fun x17 h16 w9 => ?_)
  replace w := w9
  clear w9
  refine V_i2l X dL_tale_76 ?_
  refine V_ldc2 (y := 61) X dL_tale_77 kw_1413 ?_
  refine V_lmul X dL_tale_80 ?_
  refine V_ladd X dL_tale_81 ?_
  refine V_lstore_n (i0 := 1) X dL_tale_82 rfl (by decide) rfl ?_
  refine V_aloadr_n X dL_tale_83 1 rfl ?_
  obtain ⟨fs, hh, w⟩ := w
  refine V_callVi (As := []) (rest := []) (k1 := 5) (n1 := 30) X (cX11_target_ok X.2.2.2.2.2.2.2.2.1 w) lkL_83 hh (q9 := (RX11, TX11, 7)) rfl rfl dL_tale_84 ⟨(Nat.le_of_ble_eq_true rfl), (Nat.le_of_ble_eq_true rfl)⟩ rfl (Nat.le_of_ble_eq_true rfl) ⟨by show 5 + 0 ≤ 296; omega, by show 30 + 0 ≤ 1776; omega⟩ (by show 5 + 0 ≤ 5; omega) (by show 30 + 0 ≤ 30; omega) (fun x19 h18 w9 => ?_)
  replace w := w9
  clear w9
  obtain ⟨w1, w2⟩ := w
  refine V_if_lt (tgt := 104) X dL_tale_87 (by decide) (fun z => ?_) (fun z => ?_)
  · replace w := w1 z
    clear w1 w2
    refine V_lload_n X dL_tale_104 0 rfl ?_
    exact V.widen (k1 := 7) (n1 := 42) (by omega) (by omega) <| V.sub [1] rfl (tL_tale_b105 X  w)
  · replace w := w2 z
    clear w1 w2
    refine V_lload_n X dL_tale_90 0 rfl ?_
    refine V_ldc2 (y := 67) X dL_tale_91 kw_1414 ?_
    refine V_lmul X dL_tale_94 ?_
    refine V_aloadr_n X dL_tale_95 1 rfl ?_
    refine V_iconst (y := 1) X dL_tale_96 (by decide) ?_
    obtain ⟨fs, hh, w⟩ := w
    refine V_callZl (As := [.int 1]) (rest := [.long ((((((((((Int32.toInt64 x3) * 31) + ((Int32.toInt64 x5) * 37)) + ((Int32.toInt64 x7) * 41)) + ((Int32.toInt64 x9) * 43)) + (x11 * 47)) + ((Int32.toInt64 x13) * 53)) + ((Int32.toInt64 x15) * 59)) + ((Int32.toInt64 x17) * 61)) * 67)]) (k1 := 7) (n1 := 42) X (cX11_progress_ok X.2.2.2.2.2.2.2.2.1 w) lkL_113 hh (q9 := (RX11, TX11, 7)) rfl rfl dL_tale_97 ⟨(Nat.le_of_ble_eq_true rfl), (Nat.le_of_ble_eq_true rfl)⟩ rfl (Nat.le_of_ble_eq_true rfl) ⟨by show 5 + 2 ≤ 296; omega, by show 30 + 12 ≤ 1776; omega⟩ (by show 5 + 2 ≤ 7; omega) (by show 30 + 12 ≤ 42; omega) (fun x21 h20 w9 => ?_)
    replace w := w9
    clear w9
    refine V_ladd X dL_tale_100 ?_
    refine V_goto (tgt := 105) X dL_tale_101 (by decide) ?_
    exact V.widen (k1 := 7) (n1 := 42) (by omega) (by omega) <| V.sub [1] rfl (tL_tale_b105 X  w)
theorem cL_tale_ok {l : Launch} {G : gG} {h : gH} (hls : l.stackTraces = false) {Qn : Int64 → gH → Prop} {v0 : Option Nat} (w : vL_tale G.2.2.1 Qn h v0) : gMl l yL_tale cL_tale 6 (some FieldType.long) rmL_tale rmL_tale.cells rmL_tale.slots G h [va_rf v0] Qn := by
  cases v0 <;>
  exact gMl.of (by decide +kernel) hls (Nat.le_of_ble_eq_true rfl) rfl rfl (fun p e s m below meth c A X hnm => tL_tale X w)
/-! AnimationControllerLaw.lengthsFit(LAnimationController;[I)Z -/
abbrev rmL_lengthsFit : Room := { frames := 11, cells := 67, slots := 402, locals := 278 }
def vL_lengthsFit_b123 (t0 : Nat)  (Qn : Int32 → gH → Prop) (h : gH)  : Prop := Qn 0 h
set_option maxRecDepth 100000 in
set_option maxHeartbeats 4000000 in
theorem tL_lengthsFit_b123 {p : Program} {l : Launch} {e : Env} {s : State} {m : MethodId} {args : Array Value} {below : List Frame} {meth : Method} {c : Code} {G : gG} {A : Nat → Prop} {Qn : Int32 → gH → Prop} (X : gC p l s m args meth c G A cL_lengthsFit 8 (some FieldType.boolean) RL)   {h : gH}  (w : vL_lengthsFit_b123 G.2.2.1  Qn h ) : V p l e rmL_lengthsFit s m args below meth c (MQ below (va_Qi Qn (gB G A) A) args s rmL_lengthsFit.cells rmL_lengthsFit.slots A) G A 8 h (55) (330) 123 [] [] := by
  refine V_iconst (y := 0) X dL_lengthsFit_123 (by decide) ?_
  exact V_zret X rfl rfl dL_lengthsFit_124 (by show 55 ≤ 67; omega) (by show 330 ≤ 402; omega) w
def vL_lengthsFit_b88 (t0 : Nat) (k2 : gH → Option Nat → Option Nat → Int32 → Prop) (k20 : gH → Option Nat → Option Nat → Int32 → Int32 → Int32 → Int32 → Int32 → Prop) (Qn : Int32 → gH → Prop) (h : gH) (v0 : Option Nat) (v1 : Option Nat) (v2 : Int32) (v3 : Int32) (v4 : Int32) (v6 : Int32) (s0 : Int32) : Prop := k20 h v0 v1 v2 v3 v4 s0 (v6 + 1)
set_option maxRecDepth 100000 in
set_option maxHeartbeats 4000000 in
theorem tL_lengthsFit_b88 {p : Program} {l : Launch} {e : Env} {s : State} {m : MethodId} {args : Array Value} {below : List Frame} {meth : Method} {c : Code} {G : gG} {A : Nat → Prop} {Qn : Int32 → gH → Prop} (X : gC p l s m args meth c G A cL_lengthsFit 8 (some FieldType.boolean) RL) {j2 : Nat} (hj2 : j2 < 5) {j20 : Nat} (hj20 : j20 < 5) {k2 : gH → Option Nat → Option Nat → Int32 → Prop} {k20 : gH → Option Nat → Option Nat → Int32 → Int32 → Int32 → Int32 → Int32 → Prop} (H2 : ∀ (h : gH) (v0 : Option Nat) (v1 : Option Nat) (v2 : Int32), k2 h v0 v1 v2 → V p l e rmL_lengthsFit s m args below meth c (MQ below (va_Qi Qn (gB G A) A) args s rmL_lengthsFit.cells rmL_lengthsFit.slots A) G A 8 h (0 + 11 * (j2 + 1)) (0 + 66 * (j2 + 1)) 2 [(0, va_rf v0), (1, va_rf v1), (2, .int v2)] []) (H20 : ∀ (h : gH) (v0 : Option Nat) (v1 : Option Nat) (v2 : Int32) (v3 : Int32) (v4 : Int32) (v5 : Int32) (v6 : Int32), k20 h v0 v1 v2 v3 v4 v5 v6 → V p l e rmL_lengthsFit s m args below meth c (MQ below (va_Qi Qn (gB G A) A) args s rmL_lengthsFit.cells rmL_lengthsFit.slots A) G A 8 h (0 + 11 * j2 + 2 * (j20 + 1)) (0 + 66 * j2 + 12 * (j20 + 1)) 20 [(0, va_rf v0), (1, va_rf v1), (2, .int v2), (3, .int v3), (4, .int v4), (5, .int v5), (6, .int v6)] []) {h : gH} {v0 : Option Nat} {v1 : Option Nat} {v2 : Int32} {v3 : Int32} {v4 : Int32} {v6 : Int32} {s0 : Int32} (w : vL_lengthsFit_b88 G.2.2.1 k2 k20 Qn h v0 v1 v2 v3 v4 v6 s0) : V p l e rmL_lengthsFit s m args below meth c (MQ below (va_Qi Qn (gB G A) A) args s rmL_lengthsFit.cells rmL_lengthsFit.slots A) G A 8 h (2 + 11 * j2 + 2 * j20) (12 + 66 * j2 + 12 * j20) 88 [(0, va_rf v0), (1, va_rf v1), (2, .int v2), (3, .int v3), (4, .int v4), (6, .int v6)] [.int s0] := by
  refine V_istore X dL_lengthsFit_88 (by decide) rfl ?_
  refine V_iinc (y := (v6 + 1)) X dL_lengthsFit_90 6 rfl (by first | rfl | (congr 1)) (by decide) rfl ?_
  refine V_goto (tgt := 20) X dL_lengthsFit_93 (by decide) ?_
  exact V.widen (k1 := 0 + 11 * j2 + 2 * (j20 + 1)) (n1 := 0 + 66 * j2 + 12 * (j20 + 1)) (by omega) (by omega) <| V.sub [2, 3, 4, 5, 6, 1, 0] rfl (H20 _ _ _ _ _ _ _ _ w)
def vL_lengthsFit_b86 (t0 : Nat) (k2 : gH → Option Nat → Option Nat → Int32 → Prop) (k20 : gH → Option Nat → Option Nat → Int32 → Int32 → Int32 → Int32 → Int32 → Prop) (Qn : Int32 → gH → Prop) (h : gH) (v0 : Option Nat) (v1 : Option Nat) (v2 : Int32) (v3 : Int32) (v4 : Int32) (v5 : Int32) (v6 : Int32) : Prop := vL_lengthsFit_b88 t0 k2 k20 Qn h v0 v1 v2 v3 v4 v6 v5
set_option maxRecDepth 100000 in
set_option maxHeartbeats 4000000 in
theorem tL_lengthsFit_b86 {p : Program} {l : Launch} {e : Env} {s : State} {m : MethodId} {args : Array Value} {below : List Frame} {meth : Method} {c : Code} {G : gG} {A : Nat → Prop} {Qn : Int32 → gH → Prop} (X : gC p l s m args meth c G A cL_lengthsFit 8 (some FieldType.boolean) RL) {j2 : Nat} (hj2 : j2 < 5) {j20 : Nat} (hj20 : j20 < 5) {k2 : gH → Option Nat → Option Nat → Int32 → Prop} {k20 : gH → Option Nat → Option Nat → Int32 → Int32 → Int32 → Int32 → Int32 → Prop} (H2 : ∀ (h : gH) (v0 : Option Nat) (v1 : Option Nat) (v2 : Int32), k2 h v0 v1 v2 → V p l e rmL_lengthsFit s m args below meth c (MQ below (va_Qi Qn (gB G A) A) args s rmL_lengthsFit.cells rmL_lengthsFit.slots A) G A 8 h (0 + 11 * (j2 + 1)) (0 + 66 * (j2 + 1)) 2 [(0, va_rf v0), (1, va_rf v1), (2, .int v2)] []) (H20 : ∀ (h : gH) (v0 : Option Nat) (v1 : Option Nat) (v2 : Int32) (v3 : Int32) (v4 : Int32) (v5 : Int32) (v6 : Int32), k20 h v0 v1 v2 v3 v4 v5 v6 → V p l e rmL_lengthsFit s m args below meth c (MQ below (va_Qi Qn (gB G A) A) args s rmL_lengthsFit.cells rmL_lengthsFit.slots A) G A 8 h (0 + 11 * j2 + 2 * (j20 + 1)) (0 + 66 * j2 + 12 * (j20 + 1)) 20 [(0, va_rf v0), (1, va_rf v1), (2, .int v2), (3, .int v3), (4, .int v4), (5, .int v5), (6, .int v6)] []) {h : gH} {v0 : Option Nat} {v1 : Option Nat} {v2 : Int32} {v3 : Int32} {v4 : Int32} {v5 : Int32} {v6 : Int32} (w : vL_lengthsFit_b86 G.2.2.1 k2 k20 Qn h v0 v1 v2 v3 v4 v5 v6) : V p l e rmL_lengthsFit s m args below meth c (MQ below (va_Qi Qn (gB G A) A) args s rmL_lengthsFit.cells rmL_lengthsFit.slots A) G A 8 h (2 + 11 * j2 + 2 * j20) (12 + 66 * j2 + 12 * j20) 86 [(0, va_rf v0), (1, va_rf v1), (2, .int v2), (3, .int v3), (4, .int v4), (5, .int v5), (6, .int v6)] [] := by
  refine V_iload X dL_lengthsFit_86 5 rfl ?_
  exact V.widen (k1 := 2 + 11 * j2 + 2 * j20) (n1 := 12 + 66 * j2 + 12 * j20) (by omega) (by omega) <| V.sub [0, 1, 2, 3, 4, 6] rfl (tL_lengthsFit_b88 X hj2 hj20 H2 H20 w)
def vL_lengthsFit_b63 (t0 : Nat) (k2 : gH → Option Nat → Option Nat → Int32 → Prop) (k20 : gH → Option Nat → Option Nat → Int32 → Int32 → Int32 → Int32 → Int32 → Prop) (Qn : Int32 → gH → Prop) (h : gH) (v0 : Option Nat) (v1 : Option Nat) (v2 : Int32) (v3 : Int32) (v5 : Int32) (v6 : Int32) (v7 : Int32) (s0 : Int32) : Prop := (((v7 : Int32) ≤ 0) → (vL_lengthsFit_b86 t0 k2 k20 Qn h v0 v1 v2 v3 s0 v5 v6)) ∧ ((¬ (v7 : Int32) ≤ 0) → (nn v1 (fun a1 => li h a1 v6 (fun x2 => (((x2 : Int32) ≤ v5) → (vL_lengthsFit_b86 t0 k2 k20 Qn h v0 (some a1) v2 v3 s0 v5 v6)) ∧ ((¬ (x2 : Int32) ≤ v5) → (li h a1 v6 (fun x3 => vL_lengthsFit_b88 t0 k2 k20 Qn h v0 (some a1) v2 v3 s0 v6 x3)))))))
set_option maxRecDepth 100000 in
set_option maxHeartbeats 4000000 in
theorem tL_lengthsFit_b63 {p : Program} {l : Launch} {e : Env} {s : State} {m : MethodId} {args : Array Value} {below : List Frame} {meth : Method} {c : Code} {G : gG} {A : Nat → Prop} {Qn : Int32 → gH → Prop} (X : gC p l s m args meth c G A cL_lengthsFit 8 (some FieldType.boolean) RL) {j2 : Nat} (hj2 : j2 < 5) {j20 : Nat} (hj20 : j20 < 5) {k2 : gH → Option Nat → Option Nat → Int32 → Prop} {k20 : gH → Option Nat → Option Nat → Int32 → Int32 → Int32 → Int32 → Int32 → Prop} (H2 : ∀ (h : gH) (v0 : Option Nat) (v1 : Option Nat) (v2 : Int32), k2 h v0 v1 v2 → V p l e rmL_lengthsFit s m args below meth c (MQ below (va_Qi Qn (gB G A) A) args s rmL_lengthsFit.cells rmL_lengthsFit.slots A) G A 8 h (0 + 11 * (j2 + 1)) (0 + 66 * (j2 + 1)) 2 [(0, va_rf v0), (1, va_rf v1), (2, .int v2)] []) (H20 : ∀ (h : gH) (v0 : Option Nat) (v1 : Option Nat) (v2 : Int32) (v3 : Int32) (v4 : Int32) (v5 : Int32) (v6 : Int32), k20 h v0 v1 v2 v3 v4 v5 v6 → V p l e rmL_lengthsFit s m args below meth c (MQ below (va_Qi Qn (gB G A) A) args s rmL_lengthsFit.cells rmL_lengthsFit.slots A) G A 8 h (0 + 11 * j2 + 2 * (j20 + 1)) (0 + 66 * j2 + 12 * (j20 + 1)) 20 [(0, va_rf v0), (1, va_rf v1), (2, .int v2), (3, .int v3), (4, .int v4), (5, .int v5), (6, .int v6)] []) {h : gH} {v0 : Option Nat} {v1 : Option Nat} {v2 : Int32} {v3 : Int32} {v5 : Int32} {v6 : Int32} {v7 : Int32} {s0 : Int32} (w : vL_lengthsFit_b63 G.2.2.1 k2 k20 Qn h v0 v1 v2 v3 v5 v6 v7 s0) : V p l e rmL_lengthsFit s m args below meth c (MQ below (va_Qi Qn (gB G A) A) args s rmL_lengthsFit.cells rmL_lengthsFit.slots A) G A 8 h (2 + 11 * j2 + 2 * j20) (12 + 66 * j2 + 12 * j20) 63 [(0, va_rf v0), (1, va_rf v1), (2, .int v2), (3, .int v3), (5, .int v5), (6, .int v6), (7, .int v7)] [.int s0] := by
  refine V_istore X dL_lengthsFit_63 (by decide) rfl ?_
  refine V_iload X dL_lengthsFit_65 7 rfl ?_
  obtain ⟨w1, w2⟩ := w
  refine V_if_le (tgt := 86) X dL_lengthsFit_67 (by decide) (fun z => ?_) (fun z => ?_)
  · replace w := w1 z
    clear w1 w2
    exact V.widen (k1 := 2 + 11 * j2 + 2 * j20) (n1 := 12 + 66 * j2 + 12 * j20) (by omega) (by omega) <| V.sub [1, 2, 3, 4, 0, 5, 6] rfl (tL_lengthsFit_b86 X hj2 hj20 H2 H20 w)
  · replace w := w2 z
    clear w1 w2
    refine V_aload_n X dL_lengthsFit_70 2 rfl ?_
    refine V_iload X dL_lengthsFit_71 6 rfl ?_
    obtain ⟨a1, rfl, w⟩ := w
    obtain ⟨N9, g9, hh, hi, w⟩ := w
    refine V_iald X dL_lengthsFit_73 hh hi ?_
    generalize g9 _ = x2 at w ⊢
    refine V_iload X dL_lengthsFit_74 5 rfl ?_
    obtain ⟨w1, w2⟩ := w
    refine V_icmp_le (tgt := 86) X dL_lengthsFit_76 (by decide) (fun z => ?_) (fun z => ?_)
    · replace w := w1 z
      clear w1 w2
      exact V.widen (k1 := 2 + 11 * j2 + 2 * j20) (n1 := 12 + 66 * j2 + 12 * j20) (by omega) (by omega) <| V.sub [1, 2, 3, 4, 0, 5, 6] rfl (tL_lengthsFit_b86 X hj2 hj20 H2 H20 w)
    · replace w := w2 z
      clear w1 w2
      refine V_aloadr_n X dL_lengthsFit_79 2 rfl ?_
      refine V_iload X dL_lengthsFit_80 6 rfl ?_
      obtain ⟨N9, g9, hh, hi, w⟩ := w
      refine V_iald X dL_lengthsFit_82 hh hi ?_
      generalize g9 _ = x3 at w ⊢
      refine V_goto (tgt := 88) X dL_lengthsFit_83 (by decide) ?_
      exact V.widen (k1 := 2 + 11 * j2 + 2 * j20) (n1 := 12 + 66 * j2 + 12 * j20) (by omega) (by omega) <| V.sub [1, 2, 3, 4, 0, 6] rfl (tL_lengthsFit_b88 X hj2 hj20 H2 H20 w)
def vL_lengthsFit_b61 (t0 : Nat) (k2 : gH → Option Nat → Option Nat → Int32 → Prop) (k20 : gH → Option Nat → Option Nat → Int32 → Int32 → Int32 → Int32 → Int32 → Prop) (Qn : Int32 → gH → Prop) (h : gH) (v0 : Option Nat) (v1 : Option Nat) (v2 : Int32) (v3 : Int32) (v4 : Int32) (v5 : Int32) (v6 : Int32) (v7 : Int32) : Prop := vL_lengthsFit_b63 t0 k2 k20 Qn h v0 v1 v2 v3 v5 v6 v7 v4
set_option maxRecDepth 100000 in
set_option maxHeartbeats 4000000 in
theorem tL_lengthsFit_b61 {p : Program} {l : Launch} {e : Env} {s : State} {m : MethodId} {args : Array Value} {below : List Frame} {meth : Method} {c : Code} {G : gG} {A : Nat → Prop} {Qn : Int32 → gH → Prop} (X : gC p l s m args meth c G A cL_lengthsFit 8 (some FieldType.boolean) RL) {j2 : Nat} (hj2 : j2 < 5) {j20 : Nat} (hj20 : j20 < 5) {k2 : gH → Option Nat → Option Nat → Int32 → Prop} {k20 : gH → Option Nat → Option Nat → Int32 → Int32 → Int32 → Int32 → Int32 → Prop} (H2 : ∀ (h : gH) (v0 : Option Nat) (v1 : Option Nat) (v2 : Int32), k2 h v0 v1 v2 → V p l e rmL_lengthsFit s m args below meth c (MQ below (va_Qi Qn (gB G A) A) args s rmL_lengthsFit.cells rmL_lengthsFit.slots A) G A 8 h (0 + 11 * (j2 + 1)) (0 + 66 * (j2 + 1)) 2 [(0, va_rf v0), (1, va_rf v1), (2, .int v2)] []) (H20 : ∀ (h : gH) (v0 : Option Nat) (v1 : Option Nat) (v2 : Int32) (v3 : Int32) (v4 : Int32) (v5 : Int32) (v6 : Int32), k20 h v0 v1 v2 v3 v4 v5 v6 → V p l e rmL_lengthsFit s m args below meth c (MQ below (va_Qi Qn (gB G A) A) args s rmL_lengthsFit.cells rmL_lengthsFit.slots A) G A 8 h (0 + 11 * j2 + 2 * (j20 + 1)) (0 + 66 * j2 + 12 * (j20 + 1)) 20 [(0, va_rf v0), (1, va_rf v1), (2, .int v2), (3, .int v3), (4, .int v4), (5, .int v5), (6, .int v6)] []) {h : gH} {v0 : Option Nat} {v1 : Option Nat} {v2 : Int32} {v3 : Int32} {v4 : Int32} {v5 : Int32} {v6 : Int32} {v7 : Int32} (w : vL_lengthsFit_b61 G.2.2.1 k2 k20 Qn h v0 v1 v2 v3 v4 v5 v6 v7) : V p l e rmL_lengthsFit s m args below meth c (MQ below (va_Qi Qn (gB G A) A) args s rmL_lengthsFit.cells rmL_lengthsFit.slots A) G A 8 h (2 + 11 * j2 + 2 * j20) (12 + 66 * j2 + 12 * j20) 61 [(0, va_rf v0), (1, va_rf v1), (2, .int v2), (3, .int v3), (4, .int v4), (5, .int v5), (6, .int v6), (7, .int v7)] [] := by
  refine V_iload X dL_lengthsFit_61 4 rfl ?_
  exact V.widen (k1 := 2 + 11 * j2 + 2 * j20) (n1 := 12 + 66 * j2 + 12 * j20) (by omega) (by omega) <| V.sub [0, 1, 2, 3, 5, 6, 7] rfl (tL_lengthsFit_b63 X hj2 hj20 H2 H20 w)
def vL_lengthsFit_b20_o (t0 : Nat) (k2 : gH → Option Nat → Option Nat → Int32 → Prop) (k20 : gH → Option Nat → Option Nat → Int32 → Int32 → Int32 → Int32 → Int32 → Prop) (Qn : Int32 → gH → Prop) (h : gH) (v0 : Option Nat) (v1 : Option Nat) (v2 : Int32) (v3 : Int32) (v4 : Int32) (v5 : Int32) (v6 : Int32) : Prop := ((4 ≤ (v6 : Int32)) → (nn v0 (fun a1 => io h a1 14 (vX11_stateLength t0 (fun x3 h2 => ((¬ (v3 : Int32) = 1000000) → (vL_lengthsFit_b123 t0  Qn h2 )) ∧ (((v3 : Int32) = 1000000) → ((((x3 : Int32) < v4) → (vL_lengthsFit_b123 t0  Qn h2 )) ∧ ((¬ (x3 : Int32) < v4) → ((((x3 : Int32) ≤ v5) → (k2 h2 (some a1) v1 (v2 + 1))) ∧ ((¬ (x3 : Int32) ≤ v5) → (vL_lengthsFit_b123 t0  Qn h2 ))))))) (fun _ _ => False) h a1 v2)))) ∧ ((¬ 4 ≤ (v6 : Int32)) → (nn v0 (fun a4 => io h a4 14 (vX11_partWeight t0 (fun x6 h5 => (((x6 : Int32) ≤ 0) → (vL_lengthsFit_b61 t0 k2 k20 Qn h5 (some a4) v1 v2 (v3 + x6) v4 v5 v6 x6)) ∧ ((¬ (x6 : Int32) ≤ 0) → (nn v1 (fun a7 => li h5 a7 v6 (fun x8 => ((v4 ≤ (x8 : Int32)) → (vL_lengthsFit_b61 t0 k2 k20 Qn h5 (some a4) (some a7) v2 (v3 + x6) v4 v5 v6 x6)) ∧ ((¬ v4 ≤ (x8 : Int32)) → (li h5 a7 v6 (fun x9 => vL_lengthsFit_b63 t0 k2 k20 Qn h5 (some a4) (some a7) v2 (v3 + x6) v5 v6 x6 x9)))))))) (fun _ _ => False) h a4 v2 v6))))
set_option maxRecDepth 100000 in
set_option maxHeartbeats 4000000 in
theorem tL_lengthsFit_b20_o {p : Program} {l : Launch} {e : Env} {s : State} {m : MethodId} {args : Array Value} {below : List Frame} {meth : Method} {c : Code} {G : gG} {A : Nat → Prop} {Qn : Int32 → gH → Prop} (X : gC p l s m args meth c G A cL_lengthsFit 8 (some FieldType.boolean) RL) {j2 : Nat} (hj2 : j2 < 5) {j20 : Nat} (hj20 : j20 < 5) {k2 : gH → Option Nat → Option Nat → Int32 → Prop} {k20 : gH → Option Nat → Option Nat → Int32 → Int32 → Int32 → Int32 → Int32 → Prop} (H2 : ∀ (h : gH) (v0 : Option Nat) (v1 : Option Nat) (v2 : Int32), k2 h v0 v1 v2 → V p l e rmL_lengthsFit s m args below meth c (MQ below (va_Qi Qn (gB G A) A) args s rmL_lengthsFit.cells rmL_lengthsFit.slots A) G A 8 h (0 + 11 * (j2 + 1)) (0 + 66 * (j2 + 1)) 2 [(0, va_rf v0), (1, va_rf v1), (2, .int v2)] []) (H20 : ∀ (h : gH) (v0 : Option Nat) (v1 : Option Nat) (v2 : Int32) (v3 : Int32) (v4 : Int32) (v5 : Int32) (v6 : Int32), k20 h v0 v1 v2 v3 v4 v5 v6 → V p l e rmL_lengthsFit s m args below meth c (MQ below (va_Qi Qn (gB G A) A) args s rmL_lengthsFit.cells rmL_lengthsFit.slots A) G A 8 h (0 + 11 * j2 + 2 * (j20 + 1)) (0 + 66 * j2 + 12 * (j20 + 1)) 20 [(0, va_rf v0), (1, va_rf v1), (2, .int v2), (3, .int v3), (4, .int v4), (5, .int v5), (6, .int v6)] []) {h : gH} {v0 : Option Nat} {v1 : Option Nat} {v2 : Int32} {v3 : Int32} {v4 : Int32} {v5 : Int32} {v6 : Int32} (w : vL_lengthsFit_b20_o G.2.2.1 k2 k20 Qn h v0 v1 v2 v3 v4 v5 v6) : V p l e rmL_lengthsFit s m args below meth c (MQ below (va_Qi Qn (gB G A) A) args s rmL_lengthsFit.cells rmL_lengthsFit.slots A) G A 8 h (0 + 11 * j2 + 2 * j20) (0 + 66 * j2 + 12 * j20) 20 [(0, va_rf v0), (1, va_rf v1), (2, .int v2), (3, .int v3), (4, .int v4), (5, .int v5), (6, .int v6)] [] := by
  refine V_iload X dL_lengthsFit_20 6 rfl ?_
  refine V_iconst (y := 4) X dL_lengthsFit_22 (by decide) ?_
  obtain ⟨w1, w2⟩ := w
  refine V_icmp_ge (tgt := 96) X dL_lengthsFit_23 (by decide) (fun z => ?_) (fun z => ?_)
  · replace w := w1 z
    clear w1 w2
    refine V_aload_n X dL_lengthsFit_96 0 rfl ?_
    refine V_iload_n X dL_lengthsFit_97 2 rfl ?_
    obtain ⟨a1, rfl, w⟩ := w
    obtain ⟨fs, hh, w⟩ := w
    refine V_callZi (As := [.int v2]) (rest := []) (k1 := 1 + 11 * j2 + 2 * j20) (n1 := 6 + 66 * j2 + 12 * j20) X (cX11_stateLength_ok X.2.2.2.2.2.2.2.2.1 w) lkL_98 hh (q9 := (RX11, TX11, 7)) rfl rfl dL_lengthsFit_98 ⟨(Nat.le_of_ble_eq_true rfl), (Nat.le_of_ble_eq_true rfl)⟩ rfl (Nat.le_of_ble_eq_true rfl) ⟨by show 0 + 11 * j2 + 2 * j20 + 1 ≤ 67; omega, by show 0 + 66 * j2 + 12 * j20 + 6 ≤ 402; omega⟩ (by show 0 + 11 * j2 + 2 * j20 + 1 ≤ 1 + 11 * j2 + 2 * j20; omega) (by show 0 + 66 * j2 + 12 * j20 + 6 ≤ 6 + 66 * j2 + 12 * j20; omega) (fun x3 h2 w9 => ?_)
    replace w := w9
    clear w9
    refine V_istore X dL_lengthsFit_101 (by decide) rfl ?_
    refine V_iload_n X dL_lengthsFit_103 4 rfl ?_
    refine V_ldc (y := 1000000) X dL_lengthsFit_104 kw_1402 ?_
    obtain ⟨w1, w2⟩ := w
    refine V_icmp_ne (tgt := 123) X dL_lengthsFit_106 (by decide) (fun z => ?_) (fun z => ?_)
    · replace w := w1 z
      clear w1 w2
      exact V.widen (k1 := 55) (n1 := 330) (by omega) (by omega) <| V.sub [] rfl (tL_lengthsFit_b123 X  w)
    · replace w := w2 z
      clear w1 w2
      refine V_iload X dL_lengthsFit_109 0 rfl ?_
      refine V_iload X dL_lengthsFit_111 5 rfl ?_
      obtain ⟨w1, w2⟩ := w
      refine V_icmp_lt (tgt := 123) X dL_lengthsFit_113 (by decide) (fun z => ?_) (fun z => ?_)
      · replace w := w1 z
        clear w1 w2
        exact V.widen (k1 := 55) (n1 := 330) (by omega) (by omega) <| V.sub [] rfl (tL_lengthsFit_b123 X  w)
      · replace w := w2 z
        clear w1 w2
        refine V_iload X dL_lengthsFit_116 0 rfl ?_
        refine V_iload X dL_lengthsFit_118 6 rfl ?_
        obtain ⟨w1, w2⟩ := w
        refine V_icmp_le (tgt := 125) X dL_lengthsFit_120 (by decide) (fun z => ?_) (fun z => ?_)
        · replace w := w1 z
          clear w1 w2
          refine V_iinc (y := (v2 + 1)) X dL_lengthsFit_125 3 rfl (by first | rfl | (congr 1)) (by decide) (by simp [va_cat1] <;> rfl) ?_
          refine V_goto (tgt := 2) X dL_lengthsFit_128 (by decide) ?_
          exact V.widen (k1 := 0 + 11 * (j2 + 1)) (n1 := 0 + 66 * (j2 + 1)) (by omega) (by omega) <| V.sub [2, 3, 0] rfl (H2 _ _ _ _ w)
        · replace w := w2 z
          clear w1 w2
          exact V.widen (k1 := 55) (n1 := 330) (by omega) (by omega) <| V.sub [] rfl (tL_lengthsFit_b123 X  w)
  · replace w := w2 z
    clear w1 w2
    refine V_aload_n X dL_lengthsFit_26 0 rfl ?_
    refine V_iload_n X dL_lengthsFit_27 2 rfl ?_
    refine V_iload X dL_lengthsFit_28 6 rfl ?_
    obtain ⟨a4, rfl, w⟩ := w
    obtain ⟨fs, hh, w⟩ := w
    refine V_callZi (As := [.int v2, .int v6]) (rest := []) (k1 := 2 + 11 * j2 + 2 * j20) (n1 := 12 + 66 * j2 + 12 * j20) X (cX11_partWeight_ok X.2.2.2.2.2.2.2.2.1 w) lkL_95 hh (q9 := (RX11, TX11, 7)) rfl rfl dL_lengthsFit_30 ⟨(Nat.le_of_ble_eq_true rfl), (Nat.le_of_ble_eq_true rfl)⟩ rfl (Nat.le_of_ble_eq_true rfl) ⟨by show 0 + 11 * j2 + 2 * j20 + 2 ≤ 67; omega, by show 0 + 66 * j2 + 12 * j20 + 12 ≤ 402; omega⟩ (by show 0 + 11 * j2 + 2 * j20 + 2 ≤ 2 + 11 * j2 + 2 * j20; omega) (by show 0 + 66 * j2 + 12 * j20 + 12 ≤ 12 + 66 * j2 + 12 * j20; omega) (fun x6 h5 w9 => ?_)
    replace w := w9
    clear w9
    refine V_istore X dL_lengthsFit_33 (by decide) rfl ?_
    refine V_iload_n X dL_lengthsFit_35 4 rfl ?_
    refine V_iload X dL_lengthsFit_36 0 rfl ?_
    refine V_iadd X dL_lengthsFit_38 ?_
    refine V_istore_n (i0 := 3) X dL_lengthsFit_39 rfl (by decide) rfl ?_
    refine V_iload X dL_lengthsFit_40 1 rfl ?_
    obtain ⟨w1, w2⟩ := w
    refine V_if_le (tgt := 61) X dL_lengthsFit_42 (by decide) (fun z => ?_) (fun z => ?_)
    · replace w := w1 z
      clear w1 w2
      exact V.widen (k1 := 2 + 11 * j2 + 2 * j20) (n1 := 12 + 66 * j2 + 12 * j20) (by omega) (by omega) <| V.sub [2, 3, 4, 0, 5, 6, 7, 1] rfl (tL_lengthsFit_b61 X hj2 hj20 H2 H20 w)
    · replace w := w2 z
      clear w1 w2
      refine V_aload_n X dL_lengthsFit_45 3 rfl ?_
      refine V_iload X dL_lengthsFit_46 7 rfl ?_
      obtain ⟨a7, rfl, w⟩ := w
      obtain ⟨N9, g9, hh, hi, w⟩ := w
      refine V_iald X dL_lengthsFit_48 hh hi ?_
      generalize g9 _ = x8 at w ⊢
      refine V_iload X dL_lengthsFit_49 5 rfl ?_
      obtain ⟨w1, w2⟩ := w
      refine V_icmp_ge (tgt := 61) X dL_lengthsFit_51 (by decide) (fun z => ?_) (fun z => ?_)
      · replace w := w1 z
        clear w1 w2
        exact V.widen (k1 := 2 + 11 * j2 + 2 * j20) (n1 := 12 + 66 * j2 + 12 * j20) (by omega) (by omega) <| V.sub [2, 3, 4, 0, 5, 6, 7, 1] rfl (tL_lengthsFit_b61 X hj2 hj20 H2 H20 w)
      · replace w := w2 z
        clear w1 w2
        refine V_aloadr_n X dL_lengthsFit_54 3 rfl ?_
        refine V_iload X dL_lengthsFit_55 7 rfl ?_
        obtain ⟨N9, g9, hh, hi, w⟩ := w
        refine V_iald X dL_lengthsFit_57 hh hi ?_
        generalize g9 _ = x9 at w ⊢
        refine V_goto (tgt := 63) X dL_lengthsFit_58 (by decide) ?_
        exact V.widen (k1 := 2 + 11 * j2 + 2 * j20) (n1 := 12 + 66 * j2 + 12 * j20) (by omega) (by omega) <| V.sub [2, 3, 4, 0, 6, 7, 1] rfl (tL_lengthsFit_b63 X hj2 hj20 H2 H20 w)
def vL_lengthsFit_b20 (t0 : Nat) (k2 : gH → Option Nat → Option Nat → Int32 → Prop) (Qn : Int32 → gH → Prop) (n : Nat) : gH → Option Nat → Option Nat → Int32 → Int32 → Int32 → Int32 → Int32 → Prop := Nat.rec (motive := fun _ => gH → Option Nat → Option Nat → Int32 → Int32 → Int32 → Int32 → Int32 → Prop) (fun _ _ _ _ _ _ _ _ => False) (fun _ k20 => vL_lengthsFit_b20_o t0 k2 k20 Qn) n
set_option maxRecDepth 100000 in
set_option maxHeartbeats 4000000 in
theorem tL_lengthsFit_b20 {p : Program} {l : Launch} {e : Env} {s : State} {m : MethodId} {args : Array Value} {below : List Frame} {meth : Method} {c : Code} {G : gG} {A : Nat → Prop} {Qn : Int32 → gH → Prop} (X : gC p l s m args meth c G A cL_lengthsFit 8 (some FieldType.boolean) RL) {j2 : Nat} (hj2 : j2 < 5) {k2 : gH → Option Nat → Option Nat → Int32 → Prop} (H2 : ∀ (h : gH) (v0 : Option Nat) (v1 : Option Nat) (v2 : Int32), k2 h v0 v1 v2 → V p l e rmL_lengthsFit s m args below meth c (MQ below (va_Qi Qn (gB G A) A) args s rmL_lengthsFit.cells rmL_lengthsFit.slots A) G A 8 h (0 + 11 * (j2 + 1)) (0 + 66 * (j2 + 1)) 2 [(0, va_rf v0), (1, va_rf v1), (2, .int v2)] []) : ∀ (n : Nat) (h : gH) (v0 : Option Nat) (v1 : Option Nat) (v2 : Int32) (v3 : Int32) (v4 : Int32) (v5 : Int32) (v6 : Int32) (hn : n ≤ 5) (w : vL_lengthsFit_b20 G.2.2.1 k2 Qn n h v0 v1 v2 v3 v4 v5 v6), V p l e rmL_lengthsFit s m args below meth c (MQ below (va_Qi Qn (gB G A) A) args s rmL_lengthsFit.cells rmL_lengthsFit.slots A) G A 8 h (0 + 11 * j2 + 2 * (5 - n)) (0 + 66 * j2 + 12 * (5 - n)) 20 [(0, va_rf v0), (1, va_rf v1), (2, .int v2), (3, .int v3), (4, .int v4), (5, .int v5), (6, .int v6)] [] := by
  intro n
  induction n with
  | zero => intro h v0 v1 v2 v3 v4 v5 v6 hn w; exact False.elim w
  | succ n ih =>
    intro h v0 v1 v2 v3 v4 v5 v6 hn w
    have e9 : 5 - n = (5 - (n + 1)) + 1 := by omega
    exact tL_lengthsFit_b20_o (j20 := 5 - (n + 1)) X hj2 (by omega) H2 (fun h v0 v1 v2 v3 v4 v5 v6 w => by have z := ih h v0 v1 v2 v3 v4 v5 v6 (by omega) w; rw [e9] at z; exact z) w
def vL_lengthsFit_b2_o (t0 : Nat) (k2 : gH → Option Nat → Option Nat → Int32 → Prop) (Qn : Int32 → gH → Prop) (h : gH) (v0 : Option Nat) (v1 : Option Nat) (v2 : Int32) : Prop := ((4 ≤ (v2 : Int32)) → (Qn 1 h)) ∧ ((¬ 4 ≤ (v2 : Int32)) → (vL_lengthsFit_b20 t0 k2 Qn 5 h v0 v1 v2 0 1000 0 0))
set_option maxRecDepth 100000 in
set_option maxHeartbeats 4000000 in
theorem tL_lengthsFit_b2_o {p : Program} {l : Launch} {e : Env} {s : State} {m : MethodId} {args : Array Value} {below : List Frame} {meth : Method} {c : Code} {G : gG} {A : Nat → Prop} {Qn : Int32 → gH → Prop} (X : gC p l s m args meth c G A cL_lengthsFit 8 (some FieldType.boolean) RL) {j2 : Nat} (hj2 : j2 < 5) {k2 : gH → Option Nat → Option Nat → Int32 → Prop} (H2 : ∀ (h : gH) (v0 : Option Nat) (v1 : Option Nat) (v2 : Int32), k2 h v0 v1 v2 → V p l e rmL_lengthsFit s m args below meth c (MQ below (va_Qi Qn (gB G A) A) args s rmL_lengthsFit.cells rmL_lengthsFit.slots A) G A 8 h (0 + 11 * (j2 + 1)) (0 + 66 * (j2 + 1)) 2 [(0, va_rf v0), (1, va_rf v1), (2, .int v2)] []) {h : gH} {v0 : Option Nat} {v1 : Option Nat} {v2 : Int32} (w : vL_lengthsFit_b2_o G.2.2.1 k2 Qn h v0 v1 v2) : V p l e rmL_lengthsFit s m args below meth c (MQ below (va_Qi Qn (gB G A) A) args s rmL_lengthsFit.cells rmL_lengthsFit.slots A) G A 8 h (0 + 11 * j2) (0 + 66 * j2) 2 [(0, va_rf v0), (1, va_rf v1), (2, .int v2)] [] := by
  refine V_iload_n X dL_lengthsFit_2 2 rfl ?_
  refine V_iconst (y := 4) X dL_lengthsFit_3 (by decide) ?_
  obtain ⟨w1, w2⟩ := w
  refine V_icmp_ge (tgt := 131) X dL_lengthsFit_4 (by decide) (fun z => ?_) (fun z => ?_)
  · replace w := w1 z
    clear w1 w2
    refine V_iconst (y := 1) X dL_lengthsFit_131 (by decide) ?_
    exact V_zret X rfl rfl dL_lengthsFit_132 (by show 0 + 11 * j2 ≤ 67; omega) (by show 0 + 66 * j2 ≤ 402; omega) w
  · replace w := w2 z
    clear w1 w2
    refine V_iconst (y := 0) X dL_lengthsFit_7 (by decide) ?_
    refine V_istore_n (i0 := 3) X dL_lengthsFit_8 rfl (by decide) rfl ?_
    refine V_sipush (y := 1000) X dL_lengthsFit_9 (by decide) ?_
    refine V_istore X dL_lengthsFit_12 (by decide) rfl ?_
    refine V_iconst (y := 0) X dL_lengthsFit_14 (by decide) ?_
    refine V_istore X dL_lengthsFit_15 (by decide) rfl ?_
    refine V_iconst (y := 0) X dL_lengthsFit_17 (by decide) ?_
    refine V_istore X dL_lengthsFit_18 (by decide) rfl ?_
    exact V.widen (k1 := 0 + 11 * j2 + 2 * (5 - 5)) (n1 := 0 + 66 * j2 + 12 * (5 - 5)) (by omega) (by omega) <| V.sub [4, 5, 6, 3, 2, 1, 0] rfl (tL_lengthsFit_b20 X hj2 H2 5 _ _ _ _ _ _ _ _ (Nat.le_refl _) w)
def vL_lengthsFit_b2 (t0 : Nat)  (Qn : Int32 → gH → Prop) (n : Nat) : gH → Option Nat → Option Nat → Int32 → Prop := Nat.rec (motive := fun _ => gH → Option Nat → Option Nat → Int32 → Prop) (fun _ _ _ _ => False) (fun _ k2 => vL_lengthsFit_b2_o t0 k2 Qn) n
set_option maxRecDepth 100000 in
set_option maxHeartbeats 4000000 in
theorem tL_lengthsFit_b2 {p : Program} {l : Launch} {e : Env} {s : State} {m : MethodId} {args : Array Value} {below : List Frame} {meth : Method} {c : Code} {G : gG} {A : Nat → Prop} {Qn : Int32 → gH → Prop} (X : gC p l s m args meth c G A cL_lengthsFit 8 (some FieldType.boolean) RL)   : ∀ (n : Nat) (h : gH) (v0 : Option Nat) (v1 : Option Nat) (v2 : Int32) (hn : n ≤ 5) (w : vL_lengthsFit_b2 G.2.2.1  Qn n h v0 v1 v2), V p l e rmL_lengthsFit s m args below meth c (MQ below (va_Qi Qn (gB G A) A) args s rmL_lengthsFit.cells rmL_lengthsFit.slots A) G A 8 h (0 + 11 * (5 - n)) (0 + 66 * (5 - n)) 2 [(0, va_rf v0), (1, va_rf v1), (2, .int v2)] [] := by
  intro n
  induction n with
  | zero => intro h v0 v1 v2 hn w; exact False.elim w
  | succ n ih =>
    intro h v0 v1 v2 hn w
    have e9 : 5 - n = (5 - (n + 1)) + 1 := by omega
    exact tL_lengthsFit_b2_o (j2 := 5 - (n + 1)) X (by omega) (fun h v0 v1 v2 w => by have z := ih h v0 v1 v2 (by omega) w; rw [e9] at z; exact z) w
def vL_lengthsFit (t0 : Nat)  (Qn : Int32 → gH → Prop) (h : gH) (v0 : Option Nat) (v1 : Option Nat) : Prop := vL_lengthsFit_b2 t0  Qn 5 h v0 v1 0
set_option maxRecDepth 100000 in
set_option maxHeartbeats 4000000 in
theorem tL_lengthsFit {p : Program} {l : Launch} {e : Env} {s : State} {m : MethodId} {args : Array Value} {below : List Frame} {meth : Method} {c : Code} {G : gG} {A : Nat → Prop} {Qn : Int32 → gH → Prop} (X : gC p l s m args meth c G A cL_lengthsFit 8 (some FieldType.boolean) RL)   {h : gH} {v0 : Option Nat} {v1 : Option Nat} (w : vL_lengthsFit G.2.2.1  Qn h v0 v1) : V p l e rmL_lengthsFit s m args below meth c (MQ below (va_Qi Qn (gB G A) A) args s rmL_lengthsFit.cells rmL_lengthsFit.slots A) G A 8 h (0) (0) 0 [(0, va_rf v0), (1, va_rf v1)] [] := by
  refine V_iconst (y := 0) X dL_lengthsFit_0 (by decide) ?_
  refine V_istore_n (i0 := 2) X dL_lengthsFit_1 rfl (by decide) (by simp [va_cat1] <;> rfl) ?_
  exact V.widen (k1 := 0 + 11 * (5 - 5)) (n1 := 0 + 66 * (5 - 5)) (by omega) (by omega) <| V.sub [1, 2, 0] rfl (tL_lengthsFit_b2 X  5 _ _ _ _ (Nat.le_refl _) w)
theorem cL_lengthsFit_ok {l : Launch} {G : gG} {h : gH} (hls : l.stackTraces = false) {Qn : Int32 → gH → Prop} {v0 : Option Nat} {v1 : Option Nat} (w : vL_lengthsFit G.2.2.1 Qn h v0 v1) : gMi l yL_lengthsFit cL_lengthsFit 8 (some FieldType.boolean) rmL_lengthsFit rmL_lengthsFit.cells rmL_lengthsFit.slots G h [va_rf v0, va_rf v1] Qn := by
  cases v0 <;>
  cases v1 <;>
  exact gMi.of (by decide +kernel) hls (Nat.le_of_ble_eq_true rfl) rfl rfl (fun p e s m below meth c A X hnm => tL_lengthsFit X w)
/-! AnimationControllerLaw.poseFits(LAnimationController;[I)Z -/
abbrev rmL_poseFits : Room := { frames := 13, cells := 287, slots := 1722, locals := 321 }
def vL_poseFits_b224 (t0 : Nat)  (Qn : Int32 → gH → Prop) (h : gH) (s0 : Int32) : Prop := gZ s0 ∧ Qn s0 h
set_option maxRecDepth 100000 in
set_option maxHeartbeats 4000000 in
theorem tL_poseFits_b224 {p : Program} {l : Launch} {e : Env} {s : State} {m : MethodId} {args : Array Value} {below : List Frame} {meth : Method} {c : Code} {G : gG} {A : Nat → Prop} {Qn : Int32 → gH → Prop} (X : gC p l s m args meth c G A cL_poseFits 8 (some FieldType.boolean) RL)   {h : gH} {s0 : Int32} (w : vL_poseFits_b224 G.2.2.1  Qn h s0) : V p l e rmL_poseFits s m args below meth c (MQ below (va_Qi Qn (gB G A) A) args s rmL_poseFits.cells rmL_poseFits.slots A) G A 8 h (280) (1680) 224 [] [.int s0] := by
  obtain ⟨hz, w⟩ := w
  exact V_zret X rfl hz.1 dL_poseFits_224 (by show 280 ≤ 287; omega) (by show 1680 ≤ 1722; omega) w
def vL_poseFits_b223 (t0 : Nat)  (Qn : Int32 → gH → Prop) (h : gH)  : Prop := vL_poseFits_b224 t0  Qn h 0
set_option maxRecDepth 100000 in
set_option maxHeartbeats 4000000 in
theorem tL_poseFits_b223 {p : Program} {l : Launch} {e : Env} {s : State} {m : MethodId} {args : Array Value} {below : List Frame} {meth : Method} {c : Code} {G : gG} {A : Nat → Prop} {Qn : Int32 → gH → Prop} (X : gC p l s m args meth c G A cL_poseFits 8 (some FieldType.boolean) RL)   {h : gH}  (w : vL_poseFits_b223 G.2.2.1  Qn h ) : V p l e rmL_poseFits s m args below meth c (MQ below (va_Qi Qn (gB G A) A) args s rmL_poseFits.cells rmL_poseFits.slots A) G A 8 h (280) (1680) 223 [] [] := by
  refine V_iconst (y := 0) X dL_poseFits_223 (by decide) ?_
  exact V.widen (k1 := 280) (n1 := 1680) (by omega) (by omega) <| V.sub [] rfl (tL_poseFits_b224 X  w)
def vL_poseFits_b204 (t0 : Nat)  (Qn : Int32 → gH → Prop) (h : gH) (v3 : Int64) (s0 : Int32) : Prop := (((s0 : Int32) = 0) → (vL_poseFits_b223 t0  Qn h )) ∧ ((¬ (s0 : Int32) = 0) → (((¬ (v3 : Int64) = 1000000) → (vL_poseFits_b223 t0  Qn h )) ∧ (((v3 : Int64) = 1000000) → (vL_poseFits_b224 t0  Qn h 1))))
set_option maxRecDepth 100000 in
set_option maxHeartbeats 4000000 in
theorem tL_poseFits_b204 {p : Program} {l : Launch} {e : Env} {s : State} {m : MethodId} {args : Array Value} {below : List Frame} {meth : Method} {c : Code} {G : gG} {A : Nat → Prop} {Qn : Int32 → gH → Prop} (X : gC p l s m args meth c G A cL_poseFits 8 (some FieldType.boolean) RL)   {h : gH} {v3 : Int64} {s0 : Int32} (w : vL_poseFits_b204 G.2.2.1  Qn h v3 s0) : V p l e rmL_poseFits s m args below meth c (MQ below (va_Qi Qn (gB G A) A) args s rmL_poseFits.cells rmL_poseFits.slots A) G A 8 h (280) (1680) 204 [(3, .long v3)] [.int s0] := by
  refine V_istore X dL_poseFits_204 (by decide) rfl ?_
  refine V_iload X dL_poseFits_206 0 rfl ?_
  obtain ⟨w1, w2⟩ := w
  refine V_if_eq (tgt := 223) X dL_poseFits_208 (by decide) (fun z => ?_) (fun z => ?_)
  · replace w := w1 z
    clear w1 w2
    exact V.widen (k1 := 280) (n1 := 1680) (by omega) (by omega) <| V.sub [] rfl (tL_poseFits_b223 X  w)
  · replace w := w2 z
    clear w1 w2
    refine V_lload_n X dL_poseFits_211 1 rfl ?_
    refine V_ldc2 (y := 1000000) X dL_poseFits_212 kw_1386 ?_
    refine V_lcmp X dL_poseFits_215 ?_
    obtain ⟨w1, w2⟩ := w
    refine V_if_ne (tgt := 223) X dL_poseFits_216 (by decide) (fun z => ?_) (fun z => ?_)
    · replace w := w1 (fun z9 => z ((lg_cmp_eq _ _).mpr z9))
      clear w1 w2
      exact V.widen (k1 := 280) (n1 := 1680) (by omega) (by omega) <| V.sub [] rfl (tL_poseFits_b223 X  w)
    · replace w := w2 ((lg_cmp_eq _ _).mp z)
      clear w1 w2
      refine V_iconst (y := 1) X dL_poseFits_219 (by decide) ?_
      refine V_goto (tgt := 224) X dL_poseFits_220 (by decide) ?_
      exact V.widen (k1 := 280) (n1 := 1680) (by omega) (by omega) <| V.sub [] rfl (tL_poseFits_b224 X  w)
def vL_poseFits_b203 (t0 : Nat)  (Qn : Int32 → gH → Prop) (h : gH) (v3 : Int64) : Prop := vL_poseFits_b204 t0  Qn h v3 0
set_option maxRecDepth 100000 in
set_option maxHeartbeats 4000000 in
theorem tL_poseFits_b203 {p : Program} {l : Launch} {e : Env} {s : State} {m : MethodId} {args : Array Value} {below : List Frame} {meth : Method} {c : Code} {G : gG} {A : Nat → Prop} {Qn : Int32 → gH → Prop} (X : gC p l s m args meth c G A cL_poseFits 8 (some FieldType.boolean) RL)   {h : gH} {v3 : Int64} (w : vL_poseFits_b203 G.2.2.1  Qn h v3) : V p l e rmL_poseFits s m args below meth c (MQ below (va_Qi Qn (gB G A) A) args s rmL_poseFits.cells rmL_poseFits.slots A) G A 8 h (280) (1680) 203 [(3, .long v3)] [] := by
  refine V_iconst (y := 0) X dL_poseFits_203 (by decide) ?_
  exact V.widen (k1 := 280) (n1 := 1680) (by omega) (by omega) <| V.sub [0] rfl (tL_poseFits_b204 X  w)
def vL_poseFits_b165 (t0 : Nat)  (Qn : Int32 → gH → Prop) (h : gH) (v3 : Int64) : Prop := vL_poseFits_b204 t0  Qn h v3 0
set_option maxRecDepth 100000 in
set_option maxHeartbeats 4000000 in
theorem tL_poseFits_b165 {p : Program} {l : Launch} {e : Env} {s : State} {m : MethodId} {args : Array Value} {below : List Frame} {meth : Method} {c : Code} {G : gG} {A : Nat → Prop} {Qn : Int32 → gH → Prop} (X : gC p l s m args meth c G A cL_poseFits 8 (some FieldType.boolean) RL)   {h : gH} {v3 : Int64} (w : vL_poseFits_b165 G.2.2.1  Qn h v3) : V p l e rmL_poseFits s m args below meth c (MQ below (va_Qi Qn (gB G A) A) args s rmL_poseFits.cells rmL_poseFits.slots A) G A 8 h (280) (1680) 165 [(3, .long v3)] [] := by
  refine V_iconst (y := 0) X dL_poseFits_165 (by decide) ?_
  refine V_goto (tgt := 204) X dL_poseFits_166 (by decide) ?_
  exact V.widen (k1 := 280) (n1 := 1680) (by omega) (by omega) <| V.sub [0] rfl (tL_poseFits_b204 X  w)
def vL_poseFits_b131 (t0 : Nat)  (Qn : Int32 → gH → Prop) (h : gH) (v0 : Option Nat) (v1 : Option Nat) (v3 : Int64) (s0 : Int32) : Prop := (((s0 : Int32) = 0) → (nn v0 (fun a1 => io h a1 14 (vX11_elapsed t0 (fun x3 h2 => (((x3 : Int32) < 0) → (vL_poseFits_b203 t0  Qn h2 v3)) ∧ ((¬ (x3 : Int32) < 0) → (io h2 a1 14 (vX11_elapsed t0 (fun x5 h4 => io h4 a1 14 (vX11_transition t0 (fun x7 h6 => nn v1 (fun a8 => li h6 a8 (10 + x7) (fun x9 => ((x9 ≤ (x5 : Int32)) → (vL_poseFits_b203 t0  Qn h6 v3)) ∧ ((¬ x9 ≤ (x5 : Int32)) → (io h6 a1 14 (vX11_target t0 (fun x11 h10 => (((x11 : Int32) < 0) → (vL_poseFits_b203 t0  Qn h10 v3)) ∧ ((¬ (x11 : Int32) < 0) → (vL_poseFits_b204 t0  Qn h10 v3 1))) h6 a1 )))))) h4 a1 )) h2 a1 )))) h a1 )))) ∧ ((¬ (s0 : Int32) = 0) → (nn v0 (fun a12 => io h a12 14 (vX11_target t0 (fun x14 h13 => ((¬ (x14 : Int32) = (-1)) → (vL_poseFits_b165 t0  Qn h13 v3)) ∧ (((x14 : Int32) = (-1)) → (io h13 a12 14 (vX11_elapsed t0 (fun x16 h15 => ((¬ (x16 : Int32) = (-1)) → (vL_poseFits_b165 t0  Qn h15 v3)) ∧ (((x16 : Int32) = (-1)) → (io h15 a12 14 (vX11_isFrozen t0 (fun x18 h17 => ((¬ (x18 : Int32) = 0) → (vL_poseFits_b165 t0  Qn h17 v3)) ∧ (((x18 : Int32) = 0) → (vL_poseFits_b204 t0  Qn h17 v3 1))) h15 a12 )))) h13 a12 )))) h a12 ))))
set_option maxRecDepth 100000 in
set_option maxHeartbeats 4000000 in
theorem tL_poseFits_b131 {p : Program} {l : Launch} {e : Env} {s : State} {m : MethodId} {args : Array Value} {below : List Frame} {meth : Method} {c : Code} {G : gG} {A : Nat → Prop} {Qn : Int32 → gH → Prop} (X : gC p l s m args meth c G A cL_poseFits 8 (some FieldType.boolean) RL)   {h : gH} {v0 : Option Nat} {v1 : Option Nat} {v3 : Int64} {s0 : Int32} (w : vL_poseFits_b131 G.2.2.1  Qn h v0 v1 v3 s0) : V p l e rmL_poseFits s m args below meth c (MQ below (va_Qi Qn (gB G A) A) args s rmL_poseFits.cells rmL_poseFits.slots A) G A 8 h (280) (1680) 131 [(0, va_rf v0), (1, va_rf v1), (3, .long v3)] [.int s0] := by
  refine V_istore X dL_poseFits_131 (by decide) rfl ?_
  refine V_iload X dL_poseFits_133 0 rfl ?_
  obtain ⟨w1, w2⟩ := w
  refine V_if_eq (tgt := 169) X dL_poseFits_135 (by decide) (fun z => ?_) (fun z => ?_)
  · replace w := w1 z
    clear w1 w2
    refine V_aload_n X dL_poseFits_169 1 rfl ?_
    obtain ⟨a1, rfl, w⟩ := w
    obtain ⟨fs, hh, w⟩ := w
    refine V_callVi (As := []) (rest := []) (k1 := 280) (n1 := 1680) X (cX11_elapsed_ok X.2.2.2.2.2.2.2.2.1 w) lkL_86 hh (q9 := (RX11, TX11, 7)) rfl rfl dL_poseFits_170 ⟨(Nat.le_of_ble_eq_true rfl), (Nat.le_of_ble_eq_true rfl)⟩ rfl (Nat.le_of_ble_eq_true rfl) ⟨by show 280 + 0 ≤ 287; omega, by show 1680 + 0 ≤ 1722; omega⟩ (by show 280 + 0 ≤ 280; omega) (by show 1680 + 0 ≤ 1680; omega) (fun x3 h2 w9 => ?_)
    replace w := w9
    clear w9
    obtain ⟨w1, w2⟩ := w
    refine V_if_lt (tgt := 203) X dL_poseFits_173 (by decide) (fun z => ?_) (fun z => ?_)
    · replace w := w1 z
      clear w1 w2
      exact V.widen (k1 := 280) (n1 := 1680) (by omega) (by omega) <| V.sub [3] rfl (tL_poseFits_b203 X  w)
    · replace w := w2 z
      clear w1 w2
      refine V_aloadr_n X dL_poseFits_176 1 rfl ?_
      obtain ⟨fs, hh, w⟩ := w
      refine V_callVi (As := []) (rest := []) (k1 := 280) (n1 := 1680) X (cX11_elapsed_ok X.2.2.2.2.2.2.2.2.1 w) lkL_86 hh (q9 := (RX11, TX11, 7)) rfl rfl dL_poseFits_177 ⟨(Nat.le_of_ble_eq_true rfl), (Nat.le_of_ble_eq_true rfl)⟩ rfl (Nat.le_of_ble_eq_true rfl) ⟨by show 280 + 0 ≤ 287; omega, by show 1680 + 0 ≤ 1722; omega⟩ (by show 280 + 0 ≤ 280; omega) (by show 1680 + 0 ≤ 1680; omega) (fun x5 h4 w9 => ?_)
      replace w := w9
      clear w9
      refine V_aload_n X dL_poseFits_180 2 rfl ?_
      refine V_bipush (y := 10) X dL_poseFits_181 (by decide) ?_
      refine V_aloadr_n X dL_poseFits_183 1 rfl ?_
      obtain ⟨fs, hh, w⟩ := w
      refine V_callVi (As := []) (rest := [.int 10, va_rf v1, .int x5]) (k1 := 280) (n1 := 1680) X (cX11_transition_ok X.2.2.2.2.2.2.2.2.1 w) lkL_80 hh (q9 := (RX11, TX11, 7)) rfl rfl dL_poseFits_184 ⟨(Nat.le_of_ble_eq_true rfl), (Nat.le_of_ble_eq_true rfl)⟩ rfl (va_len _ 4 (Nat.le_of_ble_eq_true rfl)) ⟨by show 280 + 0 ≤ 287; omega, by show 1680 + 0 ≤ 1722; omega⟩ (by show 280 + 0 ≤ 280; omega) (by show 1680 + 0 ≤ 1680; omega) (fun x7 h6 w9 => ?_)
      replace w := w9
      clear w9
      refine V_iadd X dL_poseFits_187 ?_
      obtain ⟨a8, rfl, w⟩ := w
      obtain ⟨N9, g9, hh, hi, w⟩ := w
      refine V_iald X dL_poseFits_188 hh hi ?_
      generalize g9 _ = x9 at w ⊢
      obtain ⟨w1, w2⟩ := w
      refine V_icmp_ge (tgt := 203) X dL_poseFits_189 (by decide) (fun z => ?_) (fun z => ?_)
      · replace w := w1 z
        clear w1 w2
        exact V.widen (k1 := 280) (n1 := 1680) (by omega) (by omega) <| V.sub [3] rfl (tL_poseFits_b203 X  w)
      · replace w := w2 z
        clear w1 w2
        refine V_aloadr_n X dL_poseFits_192 1 rfl ?_
        obtain ⟨fs, hh, w⟩ := w
        refine V_callVi (As := []) (rest := []) (k1 := 280) (n1 := 1680) X (cX11_target_ok X.2.2.2.2.2.2.2.2.1 w) lkL_83 hh (q9 := (RX11, TX11, 7)) rfl rfl dL_poseFits_193 ⟨(Nat.le_of_ble_eq_true rfl), (Nat.le_of_ble_eq_true rfl)⟩ rfl (Nat.le_of_ble_eq_true rfl) ⟨by show 280 + 0 ≤ 287; omega, by show 1680 + 0 ≤ 1722; omega⟩ (by show 280 + 0 ≤ 280; omega) (by show 1680 + 0 ≤ 1680; omega) (fun x11 h10 w9 => ?_)
        replace w := w9
        clear w9
        obtain ⟨w1, w2⟩ := w
        refine V_if_lt (tgt := 203) X dL_poseFits_196 (by decide) (fun z => ?_) (fun z => ?_)
        · replace w := w1 z
          clear w1 w2
          exact V.widen (k1 := 280) (n1 := 1680) (by omega) (by omega) <| V.sub [3] rfl (tL_poseFits_b203 X  w)
        · replace w := w2 z
          clear w1 w2
          refine V_iconst (y := 1) X dL_poseFits_199 (by decide) ?_
          refine V_goto (tgt := 204) X dL_poseFits_200 (by decide) ?_
          exact V.widen (k1 := 280) (n1 := 1680) (by omega) (by omega) <| V.sub [3] rfl (tL_poseFits_b204 X  w)
  · replace w := w2 z
    clear w1 w2
    refine V_aload_n X dL_poseFits_138 1 rfl ?_
    obtain ⟨a12, rfl, w⟩ := w
    obtain ⟨fs, hh, w⟩ := w
    refine V_callVi (As := []) (rest := []) (k1 := 280) (n1 := 1680) X (cX11_target_ok X.2.2.2.2.2.2.2.2.1 w) lkL_83 hh (q9 := (RX11, TX11, 7)) rfl rfl dL_poseFits_139 ⟨(Nat.le_of_ble_eq_true rfl), (Nat.le_of_ble_eq_true rfl)⟩ rfl (Nat.le_of_ble_eq_true rfl) ⟨by show 280 + 0 ≤ 287; omega, by show 1680 + 0 ≤ 1722; omega⟩ (by show 280 + 0 ≤ 280; omega) (by show 1680 + 0 ≤ 1680; omega) (fun x14 h13 w9 => ?_)
    replace w := w9
    clear w9
    refine V_iconst (y := (-1)) X dL_poseFits_142 (by decide) ?_
    obtain ⟨w1, w2⟩ := w
    refine V_icmp_ne (tgt := 165) X dL_poseFits_143 (by decide) (fun z => ?_) (fun z => ?_)
    · replace w := w1 z
      clear w1 w2
      exact V.widen (k1 := 280) (n1 := 1680) (by omega) (by omega) <| V.sub [3] rfl (tL_poseFits_b165 X  w)
    · replace w := w2 z
      clear w1 w2
      refine V_aloadr_n X dL_poseFits_146 1 rfl ?_
      obtain ⟨fs, hh, w⟩ := w
      refine V_callVi (As := []) (rest := []) (k1 := 280) (n1 := 1680) X (cX11_elapsed_ok X.2.2.2.2.2.2.2.2.1 w) lkL_86 hh (q9 := (RX11, TX11, 7)) rfl rfl dL_poseFits_147 ⟨(Nat.le_of_ble_eq_true rfl), (Nat.le_of_ble_eq_true rfl)⟩ rfl (Nat.le_of_ble_eq_true rfl) ⟨by show 280 + 0 ≤ 287; omega, by show 1680 + 0 ≤ 1722; omega⟩ (by show 280 + 0 ≤ 280; omega) (by show 1680 + 0 ≤ 1680; omega) (fun x16 h15 w9 => ?_)
      replace w := w9
      clear w9
      refine V_iconst (y := (-1)) X dL_poseFits_150 (by decide) ?_
      obtain ⟨w1, w2⟩ := w
      refine V_icmp_ne (tgt := 165) X dL_poseFits_151 (by decide) (fun z => ?_) (fun z => ?_)
      · replace w := w1 z
        clear w1 w2
        exact V.widen (k1 := 280) (n1 := 1680) (by omega) (by omega) <| V.sub [3] rfl (tL_poseFits_b165 X  w)
      · replace w := w2 z
        clear w1 w2
        refine V_aloadr_n X dL_poseFits_154 1 rfl ?_
        obtain ⟨fs, hh, w⟩ := w
        refine V_callVi (As := []) (rest := []) (k1 := 280) (n1 := 1680) X (cX11_isFrozen_ok X.2.2.2.2.2.2.2.2.1 w) lkL_89 hh (q9 := (RX11, TX11, 7)) rfl rfl dL_poseFits_155 ⟨(Nat.le_of_ble_eq_true rfl), (Nat.le_of_ble_eq_true rfl)⟩ rfl (Nat.le_of_ble_eq_true rfl) ⟨by show 280 + 0 ≤ 287; omega, by show 1680 + 0 ≤ 1722; omega⟩ (by show 280 + 0 ≤ 280; omega) (by show 1680 + 0 ≤ 1680; omega) (fun x18 h17 w9 => ?_)
        replace w := w9
        clear w9
        obtain ⟨w1, w2⟩ := w
        refine V_if_ne (tgt := 165) X dL_poseFits_158 (by decide) (fun z => ?_) (fun z => ?_)
        · replace w := w1 z
          clear w1 w2
          exact V.widen (k1 := 280) (n1 := 1680) (by omega) (by omega) <| V.sub [3] rfl (tL_poseFits_b165 X  w)
        · replace w := w2 z
          clear w1 w2
          refine V_iconst (y := 1) X dL_poseFits_161 (by decide) ?_
          refine V_goto (tgt := 204) X dL_poseFits_162 (by decide) ?_
          exact V.widen (k1 := 280) (n1 := 1680) (by omega) (by omega) <| V.sub [3] rfl (tL_poseFits_b204 X  w)
def vL_poseFits_b55 (t0 : Nat)  (Qn : Int32 → gH → Prop) (h : gH)  : Prop := Qn 0 h
set_option maxRecDepth 100000 in
set_option maxHeartbeats 4000000 in
theorem tL_poseFits_b55 {p : Program} {l : Launch} {e : Env} {s : State} {m : MethodId} {args : Array Value} {below : List Frame} {meth : Method} {c : Code} {G : gG} {A : Nat → Prop} {Qn : Int32 → gH → Prop} (X : gC p l s m args meth c G A cL_poseFits 8 (some FieldType.boolean) RL)   {h : gH}  (w : vL_poseFits_b55 G.2.2.1  Qn h ) : V p l e rmL_poseFits s m args below meth c (MQ below (va_Qi Qn (gB G A) A) args s rmL_poseFits.cells rmL_poseFits.slots A) G A 8 h (280) (1680) 55 [] [] := by
  refine V_iconst (y := 0) X dL_poseFits_55 (by decide) ?_
  exact V_zret X rfl rfl dL_poseFits_56 (by show 280 ≤ 287; omega) (by show 1680 ≤ 1722; omega) w
def vL_poseFits_b103 (t0 : Nat) (k10 : gH → Option Nat → Option Nat → Int32 → Int64 → Int32 → Prop) (Qn : Int32 → gH → Prop) (h : gH) (v0 : Option Nat) (v1 : Option Nat) (v2 : Int32) (v3 : Int64) (v5 : Int32) : Prop := nn v0 (fun a1 => io h a1 14 (vX11_poseWeight t0 (fun x3 h2 => k10 h2 (some a1) v1 v2 (v3 + (Int32.toInt64 x3)) (v5 + 1)) (fun _ _ => False) h a1 v5))
set_option maxRecDepth 100000 in
set_option maxHeartbeats 4000000 in
theorem tL_poseFits_b103 {p : Program} {l : Launch} {e : Env} {s : State} {m : MethodId} {args : Array Value} {below : List Frame} {meth : Method} {c : Code} {G : gG} {A : Nat → Prop} {Qn : Int32 → gH → Prop} (X : gC p l s m args meth c G A cL_poseFits 8 (some FieldType.boolean) RL) {j10 : Nat} (hj10 : j10 < 40) {k10 : gH → Option Nat → Option Nat → Int32 → Int64 → Int32 → Prop} (H10 : ∀ (h : gH) (v0 : Option Nat) (v1 : Option Nat) (v2 : Int32) (v3 : Int64) (v5 : Int32), k10 h v0 v1 v2 v3 v5 → V p l e rmL_poseFits s m args below meth c (MQ below (va_Qi Qn (gB G A) A) args s rmL_poseFits.cells rmL_poseFits.slots A) G A 8 h (0 + 7 * (j10 + 1)) (0 + 42 * (j10 + 1)) 10 [(0, va_rf v0), (1, va_rf v1), (2, .int v2), (3, .long v3), (5, .int v5)] []) {h : gH} {v0 : Option Nat} {v1 : Option Nat} {v2 : Int32} {v3 : Int64} {v5 : Int32} (w : vL_poseFits_b103 G.2.2.1 k10 Qn h v0 v1 v2 v3 v5) : V p l e rmL_poseFits s m args below meth c (MQ below (va_Qi Qn (gB G A) A) args s rmL_poseFits.cells rmL_poseFits.slots A) G A 8 h (6 + 7 * j10) (36 + 42 * j10) 103 [(0, va_rf v0), (1, va_rf v1), (2, .int v2), (3, .long v3), (5, .int v5)] [] := by
  refine V_lload_n X dL_poseFits_103 3 rfl ?_
  refine V_aload_n X dL_poseFits_104 0 rfl ?_
  refine V_iload X dL_poseFits_105 4 rfl ?_
  obtain ⟨a1, rfl, w⟩ := w
  obtain ⟨fs, hh, w⟩ := w
  refine V_callZi (As := [.int v5]) (rest := [.long v3]) (k1 := 7 + 7 * j10) (n1 := 42 + 42 * j10) X (cX11_poseWeight_ok X.2.2.2.2.2.2.2.2.1 w) lkL_77 hh (q9 := (RX11, TX11, 7)) rfl rfl dL_poseFits_107 ⟨(Nat.le_of_ble_eq_true rfl), (Nat.le_of_ble_eq_true rfl)⟩ rfl (Nat.le_of_ble_eq_true rfl) ⟨by show 6 + 7 * j10 + 1 ≤ 287; omega, by show 36 + 42 * j10 + 6 ≤ 1722; omega⟩ (by show 6 + 7 * j10 + 1 ≤ 7 + 7 * j10; omega) (by show 36 + 42 * j10 + 6 ≤ 42 + 42 * j10; omega) (fun x3 h2 w9 => ?_)
  replace w := w9
  clear w9
  refine V_i2l X dL_poseFits_110 ?_
  refine V_ladd X dL_poseFits_111 ?_
  refine V_lstore_n (i0 := 3) X dL_poseFits_112 rfl (by decide) rfl ?_
  refine V_iinc (y := (v5 + 1)) X dL_poseFits_113 4 rfl (by first | rfl | (congr 1)) (by decide) rfl ?_
  refine V_goto (tgt := 10) X dL_poseFits_116 (by decide) ?_
  exact V.widen (k1 := 0 + 7 * (j10 + 1)) (n1 := 0 + 42 * (j10 + 1)) (by omega) (by omega) <| V.sub [2, 3, 4, 1, 0] rfl (H10 _ _ _ _ _ _ w)
def vL_poseFits_b101 (t0 : Nat)  (Qn : Int32 → gH → Prop) (h : gH)  : Prop := Qn 0 h
set_option maxRecDepth 100000 in
set_option maxHeartbeats 4000000 in
theorem tL_poseFits_b101 {p : Program} {l : Launch} {e : Env} {s : State} {m : MethodId} {args : Array Value} {below : List Frame} {meth : Method} {c : Code} {G : gG} {A : Nat → Prop} {Qn : Int32 → gH → Prop} (X : gC p l s m args meth c G A cL_poseFits 8 (some FieldType.boolean) RL)   {h : gH}  (w : vL_poseFits_b101 G.2.2.1  Qn h ) : V p l e rmL_poseFits s m args below meth c (MQ below (va_Qi Qn (gB G A) A) args s rmL_poseFits.cells rmL_poseFits.slots A) G A 8 h (280) (1680) 101 [] [] := by
  refine V_iconst (y := 0) X dL_poseFits_101 (by decide) ?_
  exact V_zret X rfl rfl dL_poseFits_102 (by show 280 ≤ 287; omega) (by show 1680 ≤ 1722; omega) w
def vL_poseFits_b10_o (t0 : Nat) (k10 : gH → Option Nat → Option Nat → Int32 → Int64 → Int32 → Prop) (Qn : Int32 → gH → Prop) (h : gH) (v0 : Option Nat) (v1 : Option Nat) (v2 : Int32) (v3 : Int64) (v5 : Int32) : Prop := ((v2 ≤ (v5 : Int32)) → (nn v0 (fun a1 => io h a1 14 (vX11_transition t0 (fun x3 h2 => ((0 ≤ (x3 : Int32)) → (vL_poseFits_b131 t0  Qn h2 (some a1) v1 v3 0)) ∧ ((¬ 0 ≤ (x3 : Int32)) → (vL_poseFits_b131 t0  Qn h2 (some a1) v1 v3 1))) h a1 )))) ∧ ((¬ v2 ≤ (v5 : Int32)) → (nn v0 (fun a4 => io h a4 14 (vX11_poseClip t0 (fun x6 h5 => io h5 a4 14 (vX11_poseTime t0 (fun x8 h7 => io h7 a4 14 (vX11_poseWeight t0 (fun x10 h9 => (((x10 : Int32) ≤ 0) → (vL_poseFits_b55 t0  Qn h9 )) ∧ ((¬ (x10 : Int32) ≤ 0) → ((((x8 : Int32) < 0) → (vL_poseFits_b55 t0  Qn h9 )) ∧ ((¬ (x8 : Int32) < 0) → (nn v1 (fun a11 => li h9 a11 x6 (fun x12 => (((x8 : Int32) < x12) → ((((v5 : Int32) ≤ 0) → (vL_poseFits_b103 t0 k10 Qn h9 (some a4) (some a11) v2 v3 v5)) ∧ ((¬ (v5 : Int32) ≤ 0) → (io h9 a4 14 (vX11_poseClip t0 (fun x14 h13 => ((x6 < (x14 : Int32)) → (vL_poseFits_b101 t0  Qn h13 )) ∧ ((¬ x6 < (x14 : Int32)) → (io h13 a4 14 (vX11_poseClip t0 (fun x16 h15 => ((¬ (x16 : Int32) = x6) → (vL_poseFits_b103 t0 k10 Qn h15 (some a4) (some a11) v2 v3 v5)) ∧ (((x16 : Int32) = x6) → (io h15 a4 14 (vX11_poseTime t0 (fun x18 h17 => (((x18 : Int32) < x8) → (vL_poseFits_b103 t0 k10 Qn h17 (some a4) (some a11) v2 v3 v5)) ∧ ((¬ (x18 : Int32) < x8) → (vL_poseFits_b101 t0  Qn h17 ))) (fun _ _ => False) h15 a4 (v5 - 1))))) (fun _ _ => False) h13 a4 (v5 - 1))))) (fun _ _ => False) h9 a4 (v5 - 1)))))) ∧ ((¬ (x8 : Int32) < x12) → (vL_poseFits_b55 t0  Qn h9 ))))))))) (fun _ _ => False) h7 a4 v5)) (fun _ _ => False) h5 a4 v5)) (fun _ _ => False) h a4 v5))))
set_option maxRecDepth 100000 in
set_option maxHeartbeats 4000000 in
theorem tL_poseFits_b10_o {p : Program} {l : Launch} {e : Env} {s : State} {m : MethodId} {args : Array Value} {below : List Frame} {meth : Method} {c : Code} {G : gG} {A : Nat → Prop} {Qn : Int32 → gH → Prop} (X : gC p l s m args meth c G A cL_poseFits 8 (some FieldType.boolean) RL) {j10 : Nat} (hj10 : j10 < 40) {k10 : gH → Option Nat → Option Nat → Int32 → Int64 → Int32 → Prop} (H10 : ∀ (h : gH) (v0 : Option Nat) (v1 : Option Nat) (v2 : Int32) (v3 : Int64) (v5 : Int32), k10 h v0 v1 v2 v3 v5 → V p l e rmL_poseFits s m args below meth c (MQ below (va_Qi Qn (gB G A) A) args s rmL_poseFits.cells rmL_poseFits.slots A) G A 8 h (0 + 7 * (j10 + 1)) (0 + 42 * (j10 + 1)) 10 [(0, va_rf v0), (1, va_rf v1), (2, .int v2), (3, .long v3), (5, .int v5)] []) {h : gH} {v0 : Option Nat} {v1 : Option Nat} {v2 : Int32} {v3 : Int64} {v5 : Int32} (w : vL_poseFits_b10_o G.2.2.1 k10 Qn h v0 v1 v2 v3 v5) : V p l e rmL_poseFits s m args below meth c (MQ below (va_Qi Qn (gB G A) A) args s rmL_poseFits.cells rmL_poseFits.slots A) G A 8 h (0 + 7 * j10) (0 + 42 * j10) 10 [(0, va_rf v0), (1, va_rf v1), (2, .int v2), (3, .long v3), (5, .int v5)] [] := by
  refine V_iload X dL_poseFits_10 4 rfl ?_
  refine V_iload_n X dL_poseFits_12 2 rfl ?_
  obtain ⟨w1, w2⟩ := w
  refine V_icmp_ge (tgt := 119) X dL_poseFits_13 (by decide) (fun z => ?_) (fun z => ?_)
  · replace w := w1 z
    clear w1 w2
    refine V_aload_n X dL_poseFits_119 0 rfl ?_
    obtain ⟨a1, rfl, w⟩ := w
    obtain ⟨fs, hh, w⟩ := w
    refine V_callVi (As := []) (rest := []) (k1 := 0 + 7 * j10) (n1 := 0 + 42 * j10) X (cX11_transition_ok X.2.2.2.2.2.2.2.2.1 w) lkL_80 hh (q9 := (RX11, TX11, 7)) rfl rfl dL_poseFits_120 ⟨(Nat.le_of_ble_eq_true rfl), (Nat.le_of_ble_eq_true rfl)⟩ rfl (Nat.le_of_ble_eq_true rfl) ⟨by show 0 + 7 * j10 + 0 ≤ 287; omega, by show 0 + 42 * j10 + 0 ≤ 1722; omega⟩ (by show 0 + 7 * j10 + 0 ≤ 0 + 7 * j10; omega) (by show 0 + 42 * j10 + 0 ≤ 0 + 42 * j10; omega) (fun x3 h2 w9 => ?_)
    replace w := w9
    clear w9
    obtain ⟨w1, w2⟩ := w
    refine V_if_ge (tgt := 130) X dL_poseFits_123 (by decide) (fun z => ?_) (fun z => ?_)
    · replace w := w1 z
      clear w1 w2
      refine V_iconst (y := 0) X dL_poseFits_130 (by decide) ?_
      exact V.widen (k1 := 280) (n1 := 1680) (by omega) (by omega) <| V.sub [0, 1, 3] rfl (tL_poseFits_b131 X  w)
    · replace w := w2 z
      clear w1 w2
      refine V_iconst (y := 1) X dL_poseFits_126 (by decide) ?_
      refine V_goto (tgt := 131) X dL_poseFits_127 (by decide) ?_
      exact V.widen (k1 := 280) (n1 := 1680) (by omega) (by omega) <| V.sub [0, 1, 3] rfl (tL_poseFits_b131 X  w)
  · replace w := w2 z
    clear w1 w2
    refine V_aload_n X dL_poseFits_16 0 rfl ?_
    refine V_iload X dL_poseFits_17 4 rfl ?_
    obtain ⟨a4, rfl, w⟩ := w
    obtain ⟨fs, hh, w⟩ := w
    refine V_callZi (As := [.int v5]) (rest := []) (k1 := 1 + 7 * j10) (n1 := 6 + 42 * j10) X (cX11_poseClip_ok X.2.2.2.2.2.2.2.2.1 w) lkL_71 hh (q9 := (RX11, TX11, 7)) rfl rfl dL_poseFits_19 ⟨(Nat.le_of_ble_eq_true rfl), (Nat.le_of_ble_eq_true rfl)⟩ rfl (Nat.le_of_ble_eq_true rfl) ⟨by show 0 + 7 * j10 + 1 ≤ 287; omega, by show 0 + 42 * j10 + 6 ≤ 1722; omega⟩ (by show 0 + 7 * j10 + 1 ≤ 1 + 7 * j10; omega) (by show 0 + 42 * j10 + 6 ≤ 6 + 42 * j10; omega) (fun x6 h5 w9 => ?_)
    replace w := w9
    clear w9
    refine V_istore X dL_poseFits_22 (by decide) rfl ?_
    refine V_aloadr_n X dL_poseFits_24 1 rfl ?_
    refine V_iload X dL_poseFits_25 5 rfl ?_
    obtain ⟨fs, hh, w⟩ := w
    refine V_callZi (As := [.int v5]) (rest := []) (k1 := 2 + 7 * j10) (n1 := 12 + 42 * j10) X (cX11_poseTime_ok X.2.2.2.2.2.2.2.2.1 w) lkL_74 hh (q9 := (RX11, TX11, 7)) rfl rfl dL_poseFits_27 ⟨(Nat.le_of_ble_eq_true rfl), (Nat.le_of_ble_eq_true rfl)⟩ rfl (Nat.le_of_ble_eq_true rfl) ⟨by show 1 + 7 * j10 + 1 ≤ 287; omega, by show 6 + 42 * j10 + 6 ≤ 1722; omega⟩ (by show 1 + 7 * j10 + 1 ≤ 2 + 7 * j10; omega) (by show 6 + 42 * j10 + 6 ≤ 12 + 42 * j10; omega) (fun x8 h7 w9 => ?_)
    replace w := w9
    clear w9
    refine V_istore X dL_poseFits_30 (by decide) rfl ?_
    refine V_aloadr_n X dL_poseFits_32 2 rfl ?_
    refine V_iload X dL_poseFits_33 6 rfl ?_
    obtain ⟨fs, hh, w⟩ := w
    refine V_callZi (As := [.int v5]) (rest := []) (k1 := 3 + 7 * j10) (n1 := 18 + 42 * j10) X (cX11_poseWeight_ok X.2.2.2.2.2.2.2.2.1 w) lkL_77 hh (q9 := (RX11, TX11, 7)) rfl rfl dL_poseFits_35 ⟨(Nat.le_of_ble_eq_true rfl), (Nat.le_of_ble_eq_true rfl)⟩ rfl (Nat.le_of_ble_eq_true rfl) ⟨by show 2 + 7 * j10 + 1 ≤ 287; omega, by show 12 + 42 * j10 + 6 ≤ 1722; omega⟩ (by show 2 + 7 * j10 + 1 ≤ 3 + 7 * j10; omega) (by show 12 + 42 * j10 + 6 ≤ 18 + 42 * j10; omega) (fun x10 h9 w9 => ?_)
    replace w := w9
    clear w9
    obtain ⟨w1, w2⟩ := w
    refine V_if_le (tgt := 55) X dL_poseFits_38 (by decide) (fun z => ?_) (fun z => ?_)
    · replace w := w1 z
      clear w1 w2
      exact V.widen (k1 := 280) (n1 := 1680) (by omega) (by omega) <| V.sub [] rfl (tL_poseFits_b55 X  w)
    · replace w := w2 z
      clear w1 w2
      refine V_iload X dL_poseFits_41 0 rfl ?_
      obtain ⟨w1, w2⟩ := w
      refine V_if_lt (tgt := 55) X dL_poseFits_43 (by decide) (fun z => ?_) (fun z => ?_)
      · replace w := w1 z
        clear w1 w2
        exact V.widen (k1 := 280) (n1 := 1680) (by omega) (by omega) <| V.sub [] rfl (tL_poseFits_b55 X  w)
      · replace w := w2 z
        clear w1 w2
        refine V_iload X dL_poseFits_46 0 rfl ?_
        refine V_aload_n X dL_poseFits_48 3 rfl ?_
        refine V_iload X dL_poseFits_49 1 rfl ?_
        obtain ⟨a11, rfl, w⟩ := w
        obtain ⟨N9, g9, hh, hi, w⟩ := w
        refine V_iald X dL_poseFits_51 hh hi ?_
        generalize g9 _ = x12 at w ⊢
        obtain ⟨w1, w2⟩ := w
        refine V_icmp_lt (tgt := 57) X dL_poseFits_52 (by decide) (fun z => ?_) (fun z => ?_)
        · replace w := w1 z
          clear w1 w2
          refine V_iload X dL_poseFits_57 6 rfl ?_
          obtain ⟨w1, w2⟩ := w
          refine V_if_le (tgt := 103) X dL_poseFits_59 (by decide) (fun z => ?_) (fun z => ?_)
          · replace w := w1 z
            clear w1 w2
            exact V.widen (k1 := 6 + 7 * j10) (n1 := 36 + 42 * j10) (by omega) (by omega) <| V.sub [2, 3, 4, 5, 6] rfl (tL_poseFits_b103 X hj10 H10 w)
          · replace w := w2 z
            clear w1 w2
            refine V_aloadr_n X dL_poseFits_62 2 rfl ?_
            refine V_iload X dL_poseFits_63 6 rfl ?_
            refine V_iconst (y := 1) X dL_poseFits_65 (by decide) ?_
            refine V_isub X dL_poseFits_66 ?_
            obtain ⟨fs, hh, w⟩ := w
            refine V_callZi (As := [.int (v5 - 1)]) (rest := []) (k1 := 4 + 7 * j10) (n1 := 24 + 42 * j10) X (cX11_poseClip_ok X.2.2.2.2.2.2.2.2.1 w) lkL_71 hh (q9 := (RX11, TX11, 7)) rfl rfl dL_poseFits_67 ⟨(Nat.le_of_ble_eq_true rfl), (Nat.le_of_ble_eq_true rfl)⟩ rfl (Nat.le_of_ble_eq_true rfl) ⟨by show 3 + 7 * j10 + 1 ≤ 287; omega, by show 18 + 42 * j10 + 6 ≤ 1722; omega⟩ (by show 3 + 7 * j10 + 1 ≤ 4 + 7 * j10; omega) (by show 18 + 42 * j10 + 6 ≤ 24 + 42 * j10; omega) (fun x14 h13 w9 => ?_)
            replace w := w9
            clear w9
            refine V_iload X dL_poseFits_70 1 rfl ?_
            obtain ⟨w1, w2⟩ := w
            refine V_icmp_gt (tgt := 101) X dL_poseFits_72 (by decide) (fun z => ?_) (fun z => ?_)
            · replace w := w1 z
              clear w1 w2
              exact V.widen (k1 := 280) (n1 := 1680) (by omega) (by omega) <| V.sub [] rfl (tL_poseFits_b101 X  w)
            · replace w := w2 z
              clear w1 w2
              refine V_aloadr_n X dL_poseFits_75 2 rfl ?_
              refine V_iload X dL_poseFits_76 6 rfl ?_
              refine V_iconst (y := 1) X dL_poseFits_78 (by decide) ?_
              refine V_isub X dL_poseFits_79 ?_
              obtain ⟨fs, hh, w⟩ := w
              refine V_callZi (As := [.int (v5 - 1)]) (rest := []) (k1 := 5 + 7 * j10) (n1 := 30 + 42 * j10) X (cX11_poseClip_ok X.2.2.2.2.2.2.2.2.1 w) lkL_71 hh (q9 := (RX11, TX11, 7)) rfl rfl dL_poseFits_80 ⟨(Nat.le_of_ble_eq_true rfl), (Nat.le_of_ble_eq_true rfl)⟩ rfl (Nat.le_of_ble_eq_true rfl) ⟨by show 4 + 7 * j10 + 1 ≤ 287; omega, by show 24 + 42 * j10 + 6 ≤ 1722; omega⟩ (by show 4 + 7 * j10 + 1 ≤ 5 + 7 * j10; omega) (by show 24 + 42 * j10 + 6 ≤ 30 + 42 * j10; omega) (fun x16 h15 w9 => ?_)
              replace w := w9
              clear w9
              refine V_iload X dL_poseFits_83 1 rfl ?_
              obtain ⟨w1, w2⟩ := w
              refine V_icmp_ne (tgt := 103) X dL_poseFits_85 (by decide) (fun z => ?_) (fun z => ?_)
              · replace w := w1 z
                clear w1 w2
                exact V.widen (k1 := 6 + 7 * j10) (n1 := 36 + 42 * j10) (by omega) (by omega) <| V.sub [2, 3, 4, 5, 6] rfl (tL_poseFits_b103 X hj10 H10 w)
              · replace w := w2 z
                clear w1 w2
                refine V_aloadr_n X dL_poseFits_88 2 rfl ?_
                refine V_iload X dL_poseFits_89 6 rfl ?_
                refine V_iconst (y := 1) X dL_poseFits_91 (by decide) ?_
                refine V_isub X dL_poseFits_92 ?_
                obtain ⟨fs, hh, w⟩ := w
                refine V_callZi (As := [.int (v5 - 1)]) (rest := []) (k1 := 6 + 7 * j10) (n1 := 36 + 42 * j10) X (cX11_poseTime_ok X.2.2.2.2.2.2.2.2.1 w) lkL_74 hh (q9 := (RX11, TX11, 7)) rfl rfl dL_poseFits_93 ⟨(Nat.le_of_ble_eq_true rfl), (Nat.le_of_ble_eq_true rfl)⟩ rfl (Nat.le_of_ble_eq_true rfl) ⟨by show 5 + 7 * j10 + 1 ≤ 287; omega, by show 30 + 42 * j10 + 6 ≤ 1722; omega⟩ (by show 5 + 7 * j10 + 1 ≤ 6 + 7 * j10; omega) (by show 30 + 42 * j10 + 6 ≤ 36 + 42 * j10; omega) (fun x18 h17 w9 => ?_)
                replace w := w9
                clear w9
                refine V_iload X dL_poseFits_96 0 rfl ?_
                obtain ⟨w1, w2⟩ := w
                refine V_icmp_lt (tgt := 103) X dL_poseFits_98 (by decide) (fun z => ?_) (fun z => ?_)
                · replace w := w1 z
                  clear w1 w2
                  exact V.widen (k1 := 6 + 7 * j10) (n1 := 36 + 42 * j10) (by omega) (by omega) <| V.sub [2, 3, 4, 5, 6] rfl (tL_poseFits_b103 X hj10 H10 w)
                · replace w := w2 z
                  clear w1 w2
                  exact V.widen (k1 := 280) (n1 := 1680) (by omega) (by omega) <| V.sub [] rfl (tL_poseFits_b101 X  w)
        · replace w := w2 z
          clear w1 w2
          exact V.widen (k1 := 280) (n1 := 1680) (by omega) (by omega) <| V.sub [] rfl (tL_poseFits_b55 X  w)
def vL_poseFits_b10 (t0 : Nat)  (Qn : Int32 → gH → Prop) (n : Nat) : gH → Option Nat → Option Nat → Int32 → Int64 → Int32 → Prop := Nat.rec (motive := fun _ => gH → Option Nat → Option Nat → Int32 → Int64 → Int32 → Prop) (fun _ _ _ _ _ _ => False) (fun _ k10 => vL_poseFits_b10_o t0 k10 Qn) n
set_option maxRecDepth 100000 in
set_option maxHeartbeats 4000000 in
theorem tL_poseFits_b10 {p : Program} {l : Launch} {e : Env} {s : State} {m : MethodId} {args : Array Value} {below : List Frame} {meth : Method} {c : Code} {G : gG} {A : Nat → Prop} {Qn : Int32 → gH → Prop} (X : gC p l s m args meth c G A cL_poseFits 8 (some FieldType.boolean) RL)   : ∀ (n : Nat) (h : gH) (v0 : Option Nat) (v1 : Option Nat) (v2 : Int32) (v3 : Int64) (v5 : Int32) (hn : n ≤ 40) (w : vL_poseFits_b10 G.2.2.1  Qn n h v0 v1 v2 v3 v5), V p l e rmL_poseFits s m args below meth c (MQ below (va_Qi Qn (gB G A) A) args s rmL_poseFits.cells rmL_poseFits.slots A) G A 8 h (0 + 7 * (40 - n)) (0 + 42 * (40 - n)) 10 [(0, va_rf v0), (1, va_rf v1), (2, .int v2), (3, .long v3), (5, .int v5)] [] := by
  intro n
  induction n with
  | zero => intro h v0 v1 v2 v3 v5 hn w; exact False.elim w
  | succ n ih =>
    intro h v0 v1 v2 v3 v5 hn w
    have e9 : 40 - n = (40 - (n + 1)) + 1 := by omega
    exact tL_poseFits_b10_o (j10 := 40 - (n + 1)) X (by omega) (fun h v0 v1 v2 v3 v5 w => by have z := ih h v0 v1 v2 v3 v5 (by omega) w; rw [e9] at z; exact z) w
def vL_poseFits (t0 : Nat)  (Qn : Int32 → gH → Prop) (h : gH) (v0 : Option Nat) (v1 : Option Nat) : Prop := nn v0 (fun a1 => io h a1 14 (vX11_poseSize t0 (fun x3 h2 => vL_poseFits_b10 t0  Qn 40 h2 (some a1) v1 x3 0 0) h a1 ))
set_option maxRecDepth 100000 in
set_option maxHeartbeats 4000000 in
theorem tL_poseFits {p : Program} {l : Launch} {e : Env} {s : State} {m : MethodId} {args : Array Value} {below : List Frame} {meth : Method} {c : Code} {G : gG} {A : Nat → Prop} {Qn : Int32 → gH → Prop} (X : gC p l s m args meth c G A cL_poseFits 8 (some FieldType.boolean) RL)   {h : gH} {v0 : Option Nat} {v1 : Option Nat} (w : vL_poseFits G.2.2.1  Qn h v0 v1) : V p l e rmL_poseFits s m args below meth c (MQ below (va_Qi Qn (gB G A) A) args s rmL_poseFits.cells rmL_poseFits.slots A) G A 8 h (0) (0) 0 [(0, va_rf v0), (1, va_rf v1)] [] := by
  refine V_aload_n X dL_poseFits_0 0 rfl ?_
  obtain ⟨a1, rfl, w⟩ := w
  obtain ⟨fs, hh, w⟩ := w
  refine V_callVi (As := []) (rest := []) (k1 := 0) (n1 := 0) X (cX11_poseSize_ok X.2.2.2.2.2.2.2.2.1 w) lkL_67 hh (q9 := (RX11, TX11, 7)) rfl rfl dL_poseFits_1 ⟨(Nat.le_of_ble_eq_true rfl), (Nat.le_of_ble_eq_true rfl)⟩ rfl (Nat.le_of_ble_eq_true rfl) ⟨by show 0 + 0 ≤ 287; omega, by show 0 + 0 ≤ 1722; omega⟩ (by show 0 + 0 ≤ 0; omega) (by show 0 + 0 ≤ 0; omega) (fun x3 h2 w9 => ?_)
  replace w := w9
  clear w9
  refine V_istore_n (i0 := 2) X dL_poseFits_4 rfl (by decide) (by simp [va_cat1] <;> rfl) ?_
  refine V_lconst (y := 0) X dL_poseFits_5 (by decide) ?_
  refine V_lstore_n (i0 := 3) X dL_poseFits_6 rfl (by decide) rfl ?_
  refine V_iconst (y := 0) X dL_poseFits_7 (by decide) ?_
  refine V_istore X dL_poseFits_8 (by decide) rfl ?_
  exact V.widen (k1 := 0 + 7 * (40 - 40)) (n1 := 0 + 42 * (40 - 40)) (by omega) (by omega) <| V.sub [3, 4, 2, 1, 0] rfl (tL_poseFits_b10 X  40 _ _ _ _ _ _ (Nat.le_refl _) w)
theorem cL_poseFits_ok {l : Launch} {G : gG} {h : gH} (hls : l.stackTraces = false) {Qn : Int32 → gH → Prop} {v0 : Option Nat} {v1 : Option Nat} (w : vL_poseFits G.2.2.1 Qn h v0 v1) : gMi l yL_poseFits cL_poseFits 8 (some FieldType.boolean) rmL_poseFits rmL_poseFits.cells rmL_poseFits.slots G h [va_rf v0, va_rf v1] Qn := by
  cases v0 <;>
  cases v1 <;>
  exact gMi.of (by decide +kernel) hls (Nat.le_of_ble_eq_true rfl) rfl rfl (fun p e s m below meth c A X hnm => tL_poseFits X w)
/-! AnimationControllerLaw.builds(LAnimationController;[I[I)V -/
abbrev rmL_builds : Room := { frames := 8, cells := 313, slots := 3759, locals := 219 }
def vL_builds_b550 (t0 : Nat) (k326 : gH → Option Nat → Option Nat → Int32 → Prop) (Qn : gH → Prop) (h : gH) (v0 : Option Nat) (v1 : Option Nat) (v4 : Int32) : Prop := k326 h v0 v1 (v4 + 1)
set_option maxRecDepth 100000 in
set_option maxHeartbeats 4000000 in
theorem tL_builds_b550 {p : Program} {l : Launch} {e : Env} {s : State} {m : MethodId} {args : Array Value} {below : List Frame} {meth : Method} {c : Code} {G : gG} {A : Nat → Prop} {b L : Nat} {xs : Nat → Int32} {Qn : gH → Prop} (X : gC p l s m args meth c G A cL_builds 8 none RL) (hX : va_X b L xs s s.heap) (hbl : b < s.heap.size) (hbA : ¬ A b) (hL : L ≤ 260) {j326 : Nat} (hj326 : j326 < 11) {k326 : gH → Option Nat → Option Nat → Int32 → Prop} (H326 : ∀ (h : gH) (v0 : Option Nat) (v1 : Option Nat) (v4 : Int32), k326 h v0 v1 v4 → V p l e rmL_builds s m args below meth c (MQ below (va_Qv Qn (gB G A) A) args s rmL_builds.cells rmL_builds.slots A) G A 8 h (145 + 14 * (j326 + 1)) (2091 + 139 * (j326 + 1)) 326 [(0, va_rf v0), (1, va_rf v1), (2, .ref b), (4, .int v4)] []) {h : gH} {v0 : Option Nat} {v1 : Option Nat} {v4 : Int32} (w : vL_builds_b550 G.2.2.1 k326 Qn h v0 v1 v4) : V p l e rmL_builds s m args below meth c (MQ below (va_Qv Qn (gB G A) A) args s rmL_builds.cells rmL_builds.slots A) G A 8 h (159 + 14 * j326) (2230 + 139 * j326) 550 [(0, va_rf v0), (1, va_rf v1), (2, .ref b), (4, .int v4)] [] := by
  refine V_iinc (y := (v4 + 1)) X dL_builds_550 3 rfl (by first | rfl | (congr 1)) (by decide) rfl ?_
  refine V_goto (tgt := 326) X dL_builds_553 (by decide) ?_
  exact V.widen (k1 := 145 + 14 * (j326 + 1)) (n1 := 2091 + 139 * (j326 + 1)) (by omega) (by omega) <| V.sub [1, 2, 3, 0] rfl (H326 _ _ _ _ w)
def vL_builds_b546 (t0 : Nat) (k326 : gH → Option Nat → Option Nat → Int32 → Prop) (Qn : gH → Prop) (h : gH) (v0 : Option Nat) (v1 : Option Nat) (v4 : Int32) (s0 : Int32) (s1 : Int32) (s2 : Int32) (s3 : Int32) (s4 : Option Nat) : Prop := nn s4 (fun a1 => io h a1 14 (vX11_addCondition t0 (fun x3 h2 => vL_builds_b550 t0 k326 Qn h2 v0 v1 v4) (fun _ _ => False) h a1 s3 s2 s1 s0))
set_option maxRecDepth 100000 in
set_option maxHeartbeats 4000000 in
theorem tL_builds_b546 {p : Program} {l : Launch} {e : Env} {s : State} {m : MethodId} {args : Array Value} {below : List Frame} {meth : Method} {c : Code} {G : gG} {A : Nat → Prop} {b L : Nat} {xs : Nat → Int32} {Qn : gH → Prop} (X : gC p l s m args meth c G A cL_builds 8 none RL) (hX : va_X b L xs s s.heap) (hbl : b < s.heap.size) (hbA : ¬ A b) (hL : L ≤ 260) {j326 : Nat} (hj326 : j326 < 11) {k326 : gH → Option Nat → Option Nat → Int32 → Prop} (H326 : ∀ (h : gH) (v0 : Option Nat) (v1 : Option Nat) (v4 : Int32), k326 h v0 v1 v4 → V p l e rmL_builds s m args below meth c (MQ below (va_Qv Qn (gB G A) A) args s rmL_builds.cells rmL_builds.slots A) G A 8 h (145 + 14 * (j326 + 1)) (2091 + 139 * (j326 + 1)) 326 [(0, va_rf v0), (1, va_rf v1), (2, .ref b), (4, .int v4)] []) {h : gH} {v0 : Option Nat} {v1 : Option Nat} {v4 : Int32} {s0 : Int32} {s1 : Int32} {s2 : Int32} {s3 : Int32} {s4 : Option Nat} (w : vL_builds_b546 G.2.2.1 k326 Qn h v0 v1 v4 s0 s1 s2 s3 s4) : V p l e rmL_builds s m args below meth c (MQ below (va_Qv Qn (gB G A) A) args s rmL_builds.cells rmL_builds.slots A) G A 8 h (156 + 14 * j326) (2212 + 139 * j326) 546 [(0, va_rf v0), (1, va_rf v1), (2, .ref b), (4, .int v4)] [.int s0, .int s1, .int s2, .int s3, va_rf s4] := by
  obtain ⟨a1, rfl, w⟩ := w
  obtain ⟨fs, hh, w⟩ := w
  refine V_callZi (As := [.int s3, .int s2, .int s1, .int s0]) (rest := []) (k1 := 159 + 14 * j326) (n1 := 2230 + 139 * j326) X (cX11_addCondition_ok X.2.2.2.2.2.2.2.2.1 w) lkL_63 hh (q9 := (RX11, TX11, 7)) rfl rfl dL_builds_546 ⟨(Nat.le_of_ble_eq_true rfl), (Nat.le_of_ble_eq_true rfl)⟩ rfl (Nat.le_of_ble_eq_true rfl) ⟨by show 156 + 14 * j326 + 3 ≤ 313; omega, by show 2212 + 139 * j326 + 18 ≤ 3759; omega⟩ (by show 156 + 14 * j326 + 3 ≤ 159 + 14 * j326; omega) (by show 2212 + 139 * j326 + 18 ≤ 2230 + 139 * j326; omega) (fun x3 h2 w9 => ?_)
  replace w := w9
  clear w9
  refine V_pop X dL_builds_549 rfl ?_
  exact V.widen (k1 := 159 + 14 * j326) (n1 := 2230 + 139 * j326) (by omega) (by omega) <| V.sub [0, 1, 2, 3] rfl (tL_builds_b550 X hX hbl hbA hL hj326 H326 w)
def vL_builds_b524 (t0 : Nat) (k326 : gH → Option Nat → Option Nat → Int32 → Prop) (Qn : gH → Prop) (h : gH) (v0 : Option Nat) (v1 : Option Nat) (v4 : Int32) (v5 : Int32) (v7 : Int32) (s0 : Int32) (s1 : Int32) (s2 : Int32) (s3 : Option Nat) : Prop := ((¬ (v7 : Int32) = 0) → (vL_builds_b546 t0 k326 Qn h v0 v1 v4 1 s0 s1 s2 s3)) ∧ (((v7 : Int32) = 0) → (vL_low t0 (fun x2 h1 => vL_builds_b546 t0 k326 Qn h1 v0 v1 v4 (x2 - 20) s0 s1 s2 s3) h (v5 >>> (24 &&& 31)) 41))
set_option maxRecDepth 100000 in
set_option maxHeartbeats 4000000 in
theorem tL_builds_b524 {p : Program} {l : Launch} {e : Env} {s : State} {m : MethodId} {args : Array Value} {below : List Frame} {meth : Method} {c : Code} {G : gG} {A : Nat → Prop} {b L : Nat} {xs : Nat → Int32} {Qn : gH → Prop} (X : gC p l s m args meth c G A cL_builds 8 none RL) (hX : va_X b L xs s s.heap) (hbl : b < s.heap.size) (hbA : ¬ A b) (hL : L ≤ 260) {j326 : Nat} (hj326 : j326 < 11) {k326 : gH → Option Nat → Option Nat → Int32 → Prop} (H326 : ∀ (h : gH) (v0 : Option Nat) (v1 : Option Nat) (v4 : Int32), k326 h v0 v1 v4 → V p l e rmL_builds s m args below meth c (MQ below (va_Qv Qn (gB G A) A) args s rmL_builds.cells rmL_builds.slots A) G A 8 h (145 + 14 * (j326 + 1)) (2091 + 139 * (j326 + 1)) 326 [(0, va_rf v0), (1, va_rf v1), (2, .ref b), (4, .int v4)] []) {h : gH} {v0 : Option Nat} {v1 : Option Nat} {v4 : Int32} {v5 : Int32} {v7 : Int32} {s0 : Int32} {s1 : Int32} {s2 : Int32} {s3 : Option Nat} (w : vL_builds_b524 G.2.2.1 k326 Qn h v0 v1 v4 v5 v7 s0 s1 s2 s3) : V p l e rmL_builds s m args below meth c (MQ below (va_Qv Qn (gB G A) A) args s rmL_builds.cells rmL_builds.slots A) G A 8 h (156 + 14 * j326) (2212 + 139 * j326) 524 [(0, va_rf v0), (1, va_rf v1), (2, .ref b), (4, .int v4), (5, .int v5), (7, .int v7)] [.int s0, .int s1, .int s2, va_rf s3] := by
  refine V_iload X dL_builds_524 5 rfl ?_
  obtain ⟨w1, w2⟩ := w
  refine V_if_ne (tgt := 545) X dL_builds_526 (by decide) (fun z => ?_) (fun z => ?_)
  · replace w := w1 z
    clear w1 w2
    refine V_iconst (y := 1) X dL_builds_545 (by decide) ?_
    exact V.widen (k1 := 156 + 14 * j326) (n1 := 2212 + 139 * j326) (by omega) (by omega) <| V.sub [0, 1, 2, 3] rfl (tL_builds_b546 X hX hbl hbA hL hj326 H326 w)
  · replace w := w2 z
    clear w1 w2
    refine V_iload X dL_builds_529 4 rfl ?_
    refine V_bipush (y := 24) X dL_builds_531 (by decide) ?_
    refine V_ishr X dL_builds_533 ?_
    refine V_bipush (y := 41) X dL_builds_534 (by decide) ?_
    refine V_callSi (As := [.int (v5 >>> (24 &&& 31)), .int 41]) (rest := [.int s0, .int s1, .int s2, va_rf s3]) (k1 := 156 + 14 * j326) (n1 := 2212 + 139 * j326) X (cL_low_ok X.2.2.2.2.2.2.2.2.1 w) lkL_40 dL_builds_536 ⟨(Nat.le_of_ble_eq_true rfl), (Nat.le_of_ble_eq_true rfl)⟩ rfl (va_len _ 4 (Nat.le_of_ble_eq_true rfl)) ⟨by show 156 + 14 * j326 + 0 ≤ 313; omega, by show 2212 + 139 * j326 + 0 ≤ 3759; omega⟩ (by show 156 + 14 * j326 + 0 ≤ 156 + 14 * j326; omega) (by show 2212 + 139 * j326 + 0 ≤ 2212 + 139 * j326; omega) (fun x2 h1 w9 => ?_)
    replace w := w9
    clear w9
    refine V_bipush (y := 20) X dL_builds_539 (by decide) ?_
    refine V_isub X dL_builds_541 ?_
    refine V_goto (tgt := 546) X dL_builds_542 (by decide) ?_
    exact V.widen (k1 := 156 + 14 * j326) (n1 := 2212 + 139 * j326) (by omega) (by omega) <| V.sub [0, 1, 2, 3] rfl (tL_builds_b546 X hX hbl hbA hL hj326 H326 w)
def vL_builds_b480 (t0 : Nat) (k326 : gH → Option Nat → Option Nat → Int32 → Prop) (Qn : gH → Prop) (h : gH) (v0 : Option Nat) (v1 : Option Nat) (v4 : Int32) (v5 : Int32) (s0 : Int32) (s1 : Int32) (s2 : Int32) (s3 : Option Nat) : Prop := nn s3 (fun a1 => io h a1 14 (vX11_setInterruption t0 (fun x3 h2 => vL_low t0 (fun x5 h4 => ((3 ≤ (x5 : Int32)) → (vL_builds_b550 t0 k326 Qn h4 v0 v1 v4)) ∧ ((¬ 3 ≤ (x5 : Int32)) → (((¬ (x5 : Int32) = 0) → (vL_builds_b524 t0 k326 Qn h4 v0 v1 v4 v5 x5 2 x5 v4 v0)) ∧ (((x5 : Int32) = 0) → (vL_low t0 (fun x7 h6 => vL_builds_b524 t0 k326 Qn h6 v0 v1 v4 v5 x5 x7 x5 v4 v0) h4 (v5 >>> (23 &&& 31)) 4))))) h2 (v5 >>> (21 &&& 31)) 4) (fun _ _ => False) h a1 s2 s1 s0))
set_option maxRecDepth 100000 in
set_option maxHeartbeats 4000000 in
theorem tL_builds_b480 {p : Program} {l : Launch} {e : Env} {s : State} {m : MethodId} {args : Array Value} {below : List Frame} {meth : Method} {c : Code} {G : gG} {A : Nat → Prop} {b L : Nat} {xs : Nat → Int32} {Qn : gH → Prop} (X : gC p l s m args meth c G A cL_builds 8 none RL) (hX : va_X b L xs s s.heap) (hbl : b < s.heap.size) (hbA : ¬ A b) (hL : L ≤ 260) {j326 : Nat} (hj326 : j326 < 11) {k326 : gH → Option Nat → Option Nat → Int32 → Prop} (H326 : ∀ (h : gH) (v0 : Option Nat) (v1 : Option Nat) (v4 : Int32), k326 h v0 v1 v4 → V p l e rmL_builds s m args below meth c (MQ below (va_Qv Qn (gB G A) A) args s rmL_builds.cells rmL_builds.slots A) G A 8 h (145 + 14 * (j326 + 1)) (2091 + 139 * (j326 + 1)) 326 [(0, va_rf v0), (1, va_rf v1), (2, .ref b), (4, .int v4)] []) {h : gH} {v0 : Option Nat} {v1 : Option Nat} {v4 : Int32} {v5 : Int32} {s0 : Int32} {s1 : Int32} {s2 : Int32} {s3 : Option Nat} (w : vL_builds_b480 G.2.2.1 k326 Qn h v0 v1 v4 v5 s0 s1 s2 s3) : V p l e rmL_builds s m args below meth c (MQ below (va_Qv Qn (gB G A) A) args s rmL_builds.cells rmL_builds.slots A) G A 8 h (154 + 14 * j326) (2200 + 139 * j326) 480 [(0, va_rf v0), (1, va_rf v1), (2, .ref b), (4, .int v4), (5, .int v5)] [.int s0, .int s1, .int s2, va_rf s3] := by
  obtain ⟨a1, rfl, w⟩ := w
  obtain ⟨fs, hh, w⟩ := w
  refine V_callZi (As := [.int s2, .int s1, .int s0]) (rest := []) (k1 := 156 + 14 * j326) (n1 := 2212 + 139 * j326) X (cX11_setInterruption_ok X.2.2.2.2.2.2.2.2.1 w) lkL_59 hh (q9 := (RX11, TX11, 7)) rfl rfl dL_builds_480 ⟨(Nat.le_of_ble_eq_true rfl), (Nat.le_of_ble_eq_true rfl)⟩ rfl (Nat.le_of_ble_eq_true rfl) ⟨by show 154 + 14 * j326 + 2 ≤ 313; omega, by show 2200 + 139 * j326 + 12 ≤ 3759; omega⟩ (by show 154 + 14 * j326 + 2 ≤ 156 + 14 * j326; omega) (by show 2200 + 139 * j326 + 12 ≤ 2212 + 139 * j326; omega) (fun x3 h2 w9 => ?_)
  replace w := w9
  clear w9
  refine V_pop X dL_builds_483 rfl ?_
  refine V_iload X dL_builds_484 4 rfl ?_
  refine V_bipush (y := 21) X dL_builds_486 (by decide) ?_
  refine V_ishr X dL_builds_488 ?_
  refine V_iconst (y := 4) X dL_builds_489 (by decide) ?_
  refine V_callSi (As := [.int (v5 >>> (21 &&& 31)), .int 4]) (rest := []) (k1 := 156 + 14 * j326) (n1 := 2212 + 139 * j326) X (cL_low_ok X.2.2.2.2.2.2.2.2.1 w) lkL_40 dL_builds_490 ⟨(Nat.le_of_ble_eq_true rfl), (Nat.le_of_ble_eq_true rfl)⟩ rfl (Nat.le_of_ble_eq_true rfl) ⟨by show 156 + 14 * j326 + 0 ≤ 313; omega, by show 2212 + 139 * j326 + 0 ≤ 3759; omega⟩ (by show 156 + 14 * j326 + 0 ≤ 156 + 14 * j326; omega) (by show 2212 + 139 * j326 + 0 ≤ 2212 + 139 * j326; omega) (fun x5 h4 w9 => ?_)
  replace w := w9
  clear w9
  refine V_istore X dL_builds_493 (by decide) rfl ?_
  refine V_iload X dL_builds_495 0 rfl ?_
  refine V_iconst (y := 3) X dL_builds_497 (by decide) ?_
  obtain ⟨w1, w2⟩ := w
  refine V_icmp_ge (tgt := 550) X dL_builds_498 (by decide) (fun z => ?_) (fun z => ?_)
  · replace w := w1 z
    clear w1 w2
    exact V.widen (k1 := 159 + 14 * j326) (n1 := 2230 + 139 * j326) (by omega) (by omega) <| V.sub [1, 2, 3, 4] rfl (tL_builds_b550 X hX hbl hbA hL hj326 H326 w)
  · replace w := w2 z
    clear w1 w2
    refine V_aload_n X dL_builds_501 1 rfl ?_
    refine V_iload X dL_builds_502 4 rfl ?_
    refine V_iload X dL_builds_504 0 rfl ?_
    refine V_iload X dL_builds_506 0 rfl ?_
    obtain ⟨w1, w2⟩ := w
    refine V_if_ne (tgt := 523) X dL_builds_508 (by decide) (fun z => ?_) (fun z => ?_)
    · replace w := w1 z
      clear w1 w2
      refine V_iconst (y := 2) X dL_builds_523 (by decide) ?_
      exact V.widen (k1 := 156 + 14 * j326) (n1 := 2212 + 139 * j326) (by omega) (by omega) <| V.sub [1, 2, 3, 4, 5, 0] rfl (tL_builds_b524 X hX hbl hbA hL hj326 H326 w)
    · replace w := w2 z
      clear w1 w2
      refine V_iload X dL_builds_511 5 rfl ?_
      refine V_bipush (y := 23) X dL_builds_513 (by decide) ?_
      refine V_ishr X dL_builds_515 ?_
      refine V_iconst (y := 4) X dL_builds_516 (by decide) ?_
      refine V_callSi (As := [.int (v5 >>> (23 &&& 31)), .int 4]) (rest := [.int x5, .int v4, va_rf v0]) (k1 := 156 + 14 * j326) (n1 := 2212 + 139 * j326) X (cL_low_ok X.2.2.2.2.2.2.2.2.1 w) lkL_40 dL_builds_517 ⟨(Nat.le_of_ble_eq_true rfl), (Nat.le_of_ble_eq_true rfl)⟩ rfl (va_len _ 4 (Nat.le_of_ble_eq_true rfl)) ⟨by show 156 + 14 * j326 + 0 ≤ 313; omega, by show 2212 + 139 * j326 + 0 ≤ 3759; omega⟩ (by show 156 + 14 * j326 + 0 ≤ 156 + 14 * j326; omega) (by show 2212 + 139 * j326 + 0 ≤ 2212 + 139 * j326; omega) (fun x7 h6 w9 => ?_)
      replace w := w9
      clear w9
      refine V_goto (tgt := 524) X dL_builds_520 (by decide) ?_
      exact V.widen (k1 := 156 + 14 * j326) (n1 := 2212 + 139 * j326) (by omega) (by omega) <| V.sub [1, 2, 3, 4, 5, 0] rfl (tL_builds_b524 X hX hbl hbA hL hj326 H326 w)
def vL_builds_b438 (t0 : Nat) (k326 : gH → Option Nat → Option Nat → Int32 → Prop) (Qn : gH → Prop) (h : gH) (v0 : Option Nat) (v1 : Option Nat) (v4 : Int32) (v5 : Int32) (s0 : Int32) (s1 : Int32) (s2 : Option Nat) : Prop := vL_low t0 (fun x2 h1 => nn s2 (fun a3 => io h1 a3 14 (vX11_setTiming t0 (fun x5 h4 => vL_low t0 (fun x7 h6 => ((¬ (((v5 >>> (20 &&& 31)) &&& 1) : Int32) = 1) → (vL_builds_b480 t0 k326 Qn h6 v0 v1 v4 v5 0 x7 v4 v0)) ∧ (((((v5 >>> (20 &&& 31)) &&& 1) : Int32) = 1) → (vL_builds_b480 t0 k326 Qn h6 v0 v1 v4 v5 1 x7 v4 v0))) h4 (v5 >>> (17 &&& 31)) 5) (fun _ _ => False) h1 a3 s1 s0 x2))) h (v5 >>> (14 &&& 31)) 100
set_option maxRecDepth 100000 in
set_option maxHeartbeats 4000000 in
theorem tL_builds_b438 {p : Program} {l : Launch} {e : Env} {s : State} {m : MethodId} {args : Array Value} {below : List Frame} {meth : Method} {c : Code} {G : gG} {A : Nat → Prop} {b L : Nat} {xs : Nat → Int32} {Qn : gH → Prop} (X : gC p l s m args meth c G A cL_builds 8 none RL) (hX : va_X b L xs s s.heap) (hbl : b < s.heap.size) (hbA : ¬ A b) (hL : L ≤ 260) {j326 : Nat} (hj326 : j326 < 11) {k326 : gH → Option Nat → Option Nat → Int32 → Prop} (H326 : ∀ (h : gH) (v0 : Option Nat) (v1 : Option Nat) (v4 : Int32), k326 h v0 v1 v4 → V p l e rmL_builds s m args below meth c (MQ below (va_Qv Qn (gB G A) A) args s rmL_builds.cells rmL_builds.slots A) G A 8 h (145 + 14 * (j326 + 1)) (2091 + 139 * (j326 + 1)) 326 [(0, va_rf v0), (1, va_rf v1), (2, .ref b), (4, .int v4)] []) {h : gH} {v0 : Option Nat} {v1 : Option Nat} {v4 : Int32} {v5 : Int32} {s0 : Int32} {s1 : Int32} {s2 : Option Nat} (w : vL_builds_b438 G.2.2.1 k326 Qn h v0 v1 v4 v5 s0 s1 s2) : V p l e rmL_builds s m args below meth c (MQ below (va_Qv Qn (gB G A) A) args s rmL_builds.cells rmL_builds.slots A) G A 8 h (152 + 14 * j326) (2188 + 139 * j326) 438 [(0, va_rf v0), (1, va_rf v1), (2, .ref b), (4, .int v4), (5, .int v5)] [.int s0, .int s1, va_rf s2] := by
  refine V_iload X dL_builds_438 4 rfl ?_
  refine V_bipush (y := 14) X dL_builds_440 (by decide) ?_
  refine V_ishr X dL_builds_442 ?_
  refine V_bipush (y := 100) X dL_builds_443 (by decide) ?_
  refine V_callSi (As := [.int (v5 >>> (14 &&& 31)), .int 100]) (rest := [.int s0, .int s1, va_rf s2]) (k1 := 152 + 14 * j326) (n1 := 2188 + 139 * j326) X (cL_low_ok X.2.2.2.2.2.2.2.2.1 w) lkL_40 dL_builds_445 ⟨(Nat.le_of_ble_eq_true rfl), (Nat.le_of_ble_eq_true rfl)⟩ rfl (va_len _ 4 (Nat.le_of_ble_eq_true rfl)) ⟨by show 152 + 14 * j326 + 0 ≤ 313; omega, by show 2188 + 139 * j326 + 0 ≤ 3759; omega⟩ (by show 152 + 14 * j326 + 0 ≤ 152 + 14 * j326; omega) (by show 2188 + 139 * j326 + 0 ≤ 2188 + 139 * j326; omega) (fun x2 h1 w9 => ?_)
  replace w := w9
  clear w9
  obtain ⟨a3, rfl, w⟩ := w
  obtain ⟨fs, hh, w⟩ := w
  refine V_callZi (As := [.int s1, .int s0, .int x2]) (rest := []) (k1 := 154 + 14 * j326) (n1 := 2200 + 139 * j326) X (cX11_setTiming_ok X.2.2.2.2.2.2.2.2.1 w) lkL_56 hh (q9 := (RX11, TX11, 7)) rfl rfl dL_builds_448 ⟨(Nat.le_of_ble_eq_true rfl), (Nat.le_of_ble_eq_true rfl)⟩ rfl (Nat.le_of_ble_eq_true rfl) ⟨by show 152 + 14 * j326 + 2 ≤ 313; omega, by show 2188 + 139 * j326 + 12 ≤ 3759; omega⟩ (by show 152 + 14 * j326 + 2 ≤ 154 + 14 * j326; omega) (by show 2188 + 139 * j326 + 12 ≤ 2200 + 139 * j326; omega) (fun x5 h4 w9 => ?_)
  replace w := w9
  clear w9
  refine V_pop X dL_builds_451 rfl ?_
  refine V_aload_n X dL_builds_452 0 rfl ?_
  refine V_iload X dL_builds_453 3 rfl ?_
  refine V_iload X dL_builds_455 4 rfl ?_
  refine V_bipush (y := 17) X dL_builds_457 (by decide) ?_
  refine V_ishr X dL_builds_459 ?_
  refine V_iconst (y := 5) X dL_builds_460 (by decide) ?_
  refine V_callSi (As := [.int (v5 >>> (17 &&& 31)), .int 5]) (rest := [.int v4, va_rf v0]) (k1 := 154 + 14 * j326) (n1 := 2200 + 139 * j326) X (cL_low_ok X.2.2.2.2.2.2.2.2.1 w) lkL_40 dL_builds_461 ⟨(Nat.le_of_ble_eq_true rfl), (Nat.le_of_ble_eq_true rfl)⟩ rfl (va_len _ 4 (Nat.le_of_ble_eq_true rfl)) ⟨by show 154 + 14 * j326 + 0 ≤ 313; omega, by show 2200 + 139 * j326 + 0 ≤ 3759; omega⟩ (by show 154 + 14 * j326 + 0 ≤ 154 + 14 * j326; omega) (by show 2200 + 139 * j326 + 0 ≤ 2200 + 139 * j326; omega) (fun x7 h6 w9 => ?_)
  replace w := w9
  clear w9
  refine V_iload X dL_builds_464 4 rfl ?_
  refine V_bipush (y := 20) X dL_builds_466 (by decide) ?_
  refine V_ishr X dL_builds_468 ?_
  refine V_iconst (y := 1) X dL_builds_469 (by decide) ?_
  refine V_iand X dL_builds_470 ?_
  refine V_iconst (y := 1) X dL_builds_471 (by decide) ?_
  obtain ⟨w1, w2⟩ := w
  refine V_icmp_ne (tgt := 479) X dL_builds_472 (by decide) (fun z => ?_) (fun z => ?_)
  · replace w := w1 z
    clear w1 w2
    refine V_iconst (y := 0) X dL_builds_479 (by decide) ?_
    exact V.widen (k1 := 154 + 14 * j326) (n1 := 2200 + 139 * j326) (by omega) (by omega) <| V.sub [0, 1, 2, 3, 4] rfl (tL_builds_b480 X hX hbl hbA hL hj326 H326 w)
  · replace w := w2 z
    clear w1 w2
    refine V_iconst (y := 1) X dL_builds_475 (by decide) ?_
    refine V_goto (tgt := 480) X dL_builds_476 (by decide) ?_
    exact V.widen (k1 := 154 + 14 * j326) (n1 := 2200 + 139 * j326) (by omega) (by omega) <| V.sub [0, 1, 2, 3, 4] rfl (tL_builds_b480 X hX hbl hbA hL hj326 H326 w)
def vL_builds_b423 (t0 : Nat) (k326 : gH → Option Nat → Option Nat → Int32 → Prop) (Qn : gH → Prop) (h : gH) (v0 : Option Nat) (v1 : Option Nat) (v4 : Int32) (v5 : Int32) (s0 : Int32) (s1 : Option Nat) : Prop := vL_builds_b438 t0 k326 Qn h v0 v1 v4 v5 (-1) s0 s1
set_option maxRecDepth 100000 in
set_option maxHeartbeats 4000000 in
theorem tL_builds_b423 {p : Program} {l : Launch} {e : Env} {s : State} {m : MethodId} {args : Array Value} {below : List Frame} {meth : Method} {c : Code} {G : gG} {A : Nat → Prop} {b L : Nat} {xs : Nat → Int32} {Qn : gH → Prop} (X : gC p l s m args meth c G A cL_builds 8 none RL) (hX : va_X b L xs s s.heap) (hbl : b < s.heap.size) (hbA : ¬ A b) (hL : L ≤ 260) {j326 : Nat} (hj326 : j326 < 11) {k326 : gH → Option Nat → Option Nat → Int32 → Prop} (H326 : ∀ (h : gH) (v0 : Option Nat) (v1 : Option Nat) (v4 : Int32), k326 h v0 v1 v4 → V p l e rmL_builds s m args below meth c (MQ below (va_Qv Qn (gB G A) A) args s rmL_builds.cells rmL_builds.slots A) G A 8 h (145 + 14 * (j326 + 1)) (2091 + 139 * (j326 + 1)) 326 [(0, va_rf v0), (1, va_rf v1), (2, .ref b), (4, .int v4)] []) {h : gH} {v0 : Option Nat} {v1 : Option Nat} {v4 : Int32} {v5 : Int32} {s0 : Int32} {s1 : Option Nat} (w : vL_builds_b423 G.2.2.1 k326 Qn h v0 v1 v4 v5 s0 s1) : V p l e rmL_builds s m args below meth c (MQ below (va_Qv Qn (gB G A) A) args s rmL_builds.cells rmL_builds.slots A) G A 8 h (152 + 14 * j326) (2188 + 139 * j326) 423 [(0, va_rf v0), (1, va_rf v1), (2, .ref b), (4, .int v4), (5, .int v5)] [.int s0, va_rf s1] := by
  refine V_iconst (y := (-1)) X dL_builds_423 (by decide) ?_
  refine V_goto (tgt := 438) X dL_builds_424 (by decide) ?_
  exact V.widen (k1 := 152 + 14 * j326) (n1 := 2188 + 139 * j326) (by omega) (by omega) <| V.sub [0, 1, 2, 3, 4] rfl (tL_builds_b438 X hX hbl hbA hL hj326 H326 w)
def vL_builds_b364 (t0 : Nat) (k326 : gH → Option Nat → Option Nat → Int32 → Prop) (Qn : gH → Prop) (h : gH) (v0 : Option Nat) (v1 : Option Nat) (v4 : Int32) (v5 : Int32) (s0 : Int32) : Prop := vL_low t0 (fun x2 h1 => nn v1 (fun a3 => si h1 a3 (10 + v4) x2 (fun h4 => vL_low t0 (fun x6 h5 => li h5 a3 (10 + v4) (fun x7 => nn v0 (fun a8 => io h5 a8 14 (vX11_addTransition t0 (fun x10 h9 => (((s0 : Int32) < 0) → (vL_builds_b423 t0 k326 Qn h9 (some a8) (some a3) v4 v5 v4 (some a8))) ∧ ((¬ (s0 : Int32) < 0) → (((¬ (((v5 >>> (11 &&& 31)) &&& 1) : Int32) = 0) → (vL_low t0 (fun x12 h11 => vL_builds_b438 t0 k326 Qn h11 (some a8) (some a3) v4 v5 x12 v4 (some a8)) h9 (v5 >>> (12 &&& 31)) 250)) ∧ (((((v5 >>> (11 &&& 31)) &&& 1) : Int32) = 0) → (vL_builds_b423 t0 k326 Qn h9 (some a8) (some a3) v4 v5 v4 (some a8)))))) (fun _ _ => False) h5 a8 s0 x6 x7)))) h4 (v5 >>> (9 &&& 31)) 4))) h (v5 >>> (5 &&& 31)) 9
set_option maxRecDepth 100000 in
set_option maxHeartbeats 4000000 in
theorem tL_builds_b364 {p : Program} {l : Launch} {e : Env} {s : State} {m : MethodId} {args : Array Value} {below : List Frame} {meth : Method} {c : Code} {G : gG} {A : Nat → Prop} {b L : Nat} {xs : Nat → Int32} {Qn : gH → Prop} (X : gC p l s m args meth c G A cL_builds 8 none RL) (hX : va_X b L xs s s.heap) (hbl : b < s.heap.size) (hbA : ¬ A b) (hL : L ≤ 260) {j326 : Nat} (hj326 : j326 < 11) {k326 : gH → Option Nat → Option Nat → Int32 → Prop} (H326 : ∀ (h : gH) (v0 : Option Nat) (v1 : Option Nat) (v4 : Int32), k326 h v0 v1 v4 → V p l e rmL_builds s m args below meth c (MQ below (va_Qv Qn (gB G A) A) args s rmL_builds.cells rmL_builds.slots A) G A 8 h (145 + 14 * (j326 + 1)) (2091 + 139 * (j326 + 1)) 326 [(0, va_rf v0), (1, va_rf v1), (2, .ref b), (4, .int v4)] []) {h : gH} {v0 : Option Nat} {v1 : Option Nat} {v4 : Int32} {v5 : Int32} {s0 : Int32} (w : vL_builds_b364 G.2.2.1 k326 Qn h v0 v1 v4 v5 s0) : V p l e rmL_builds s m args below meth c (MQ below (va_Qv Qn (gB G A) A) args s rmL_builds.cells rmL_builds.slots A) G A 8 h (145 + 14 * j326) (2091 + 139 * j326) 364 [(0, va_rf v0), (1, va_rf v1), (2, .ref b), (4, .int v4), (5, .int v5)] [.int s0] := by
  refine V_istore X dL_builds_364 (by decide) rfl ?_
  refine V_aload_n X dL_builds_366 2 rfl ?_
  refine V_bipush (y := 10) X dL_builds_367 (by decide) ?_
  refine V_iload X dL_builds_369 4 rfl ?_
  refine V_iadd X dL_builds_371 ?_
  refine V_iload X dL_builds_372 5 rfl ?_
  refine V_iconst (y := 5) X dL_builds_374 (by decide) ?_
  refine V_ishr X dL_builds_375 ?_
  refine V_bipush (y := 9) X dL_builds_376 (by decide) ?_
  refine V_callSi (As := [.int (v5 >>> (5 &&& 31)), .int 9]) (rest := [.int (10 + v4), va_rf v1]) (k1 := 145 + 14 * j326) (n1 := 2091 + 139 * j326) X (cL_low_ok X.2.2.2.2.2.2.2.2.1 w) lkL_40 dL_builds_378 ⟨(Nat.le_of_ble_eq_true rfl), (Nat.le_of_ble_eq_true rfl)⟩ rfl (va_len _ 4 (Nat.le_of_ble_eq_true rfl)) ⟨by show 145 + 14 * j326 + 0 ≤ 313; omega, by show 2091 + 139 * j326 + 0 ≤ 3759; omega⟩ (by show 145 + 14 * j326 + 0 ≤ 145 + 14 * j326; omega) (by show 2091 + 139 * j326 + 0 ≤ 2091 + 139 * j326; omega) (fun x2 h1 w9 => ?_)
  replace w := w9
  clear w9
  obtain ⟨a3, rfl, w⟩ := w
  obtain ⟨N9, g9, hh, hi, w⟩ := w
  refine V_iast X dL_builds_381 hh hi ?_
  generalize va_up _ _ _ = h4 at w ⊢
  refine V_aload_n X dL_builds_382 1 rfl ?_
  refine V_iload X dL_builds_383 0 rfl ?_
  refine V_iload X dL_builds_385 5 rfl ?_
  refine V_bipush (y := 9) X dL_builds_387 (by decide) ?_
  refine V_ishr X dL_builds_389 ?_
  refine V_iconst (y := 4) X dL_builds_390 (by decide) ?_
  refine V_callSi (As := [.int (v5 >>> (9 &&& 31)), .int 4]) (rest := [.int s0, va_rf v0]) (k1 := 145 + 14 * j326) (n1 := 2091 + 139 * j326) X (cL_low_ok X.2.2.2.2.2.2.2.2.1 w) lkL_40 dL_builds_391 ⟨(Nat.le_of_ble_eq_true rfl), (Nat.le_of_ble_eq_true rfl)⟩ rfl (va_len _ 4 (Nat.le_of_ble_eq_true rfl)) ⟨by show 145 + 14 * j326 + 0 ≤ 313; omega, by show 2091 + 139 * j326 + 0 ≤ 3759; omega⟩ (by show 145 + 14 * j326 + 0 ≤ 145 + 14 * j326; omega) (by show 2091 + 139 * j326 + 0 ≤ 2091 + 139 * j326; omega) (fun x6 h5 w9 => ?_)
  replace w := w9
  clear w9
  refine V_aloadr_n X dL_builds_394 2 rfl ?_
  refine V_bipush (y := 10) X dL_builds_395 (by decide) ?_
  refine V_iload X dL_builds_397 4 rfl ?_
  refine V_iadd X dL_builds_399 ?_
  obtain ⟨N9, g9, hh, hi, w⟩ := w
  refine V_iald X dL_builds_400 hh hi ?_
  generalize g9 _ = x7 at w ⊢
  obtain ⟨a8, rfl, w⟩ := w
  obtain ⟨fs, hh, w⟩ := w
  refine V_callZi (As := [.int s0, .int x6, .int x7]) (rest := []) (k1 := 152 + 14 * j326) (n1 := 2188 + 139 * j326) X (cX11_addTransition_ok X.2.2.2.2.2.2.2.2.1 w) lkL_24 hh (q9 := (RX11, TX11, 7)) rfl rfl dL_builds_401 ⟨(Nat.le_of_ble_eq_true rfl), (Nat.le_of_ble_eq_true rfl)⟩ rfl (Nat.le_of_ble_eq_true rfl) ⟨by show 145 + 14 * j326 + 7 ≤ 313; omega, by show 2091 + 139 * j326 + 97 ≤ 3759; omega⟩ (by show 145 + 14 * j326 + 7 ≤ 152 + 14 * j326; omega) (by show 2091 + 139 * j326 + 97 ≤ 2188 + 139 * j326; omega) (fun x10 h9 w9 => ?_)
  replace w := w9
  clear w9
  refine V_pop X dL_builds_404 rfl ?_
  refine V_aloadr_n X dL_builds_405 1 rfl ?_
  refine V_iload X dL_builds_406 4 rfl ?_
  refine V_iload X dL_builds_408 0 rfl ?_
  obtain ⟨w1, w2⟩ := w
  refine V_if_lt (tgt := 423) X dL_builds_410 (by decide) (fun z => ?_) (fun z => ?_)
  · replace w := w1 z
    clear w1 w2
    exact V.widen (k1 := 152 + 14 * j326) (n1 := 2188 + 139 * j326) (by omega) (by omega) <| V.sub [1, 2, 3, 4, 5] rfl (tL_builds_b423 X hX hbl hbA hL hj326 H326 w)
  · replace w := w2 z
    clear w1 w2
    refine V_iload X dL_builds_413 5 rfl ?_
    refine V_bipush (y := 11) X dL_builds_415 (by decide) ?_
    refine V_ishr X dL_builds_417 ?_
    refine V_iconst (y := 1) X dL_builds_418 (by decide) ?_
    refine V_iand X dL_builds_419 ?_
    obtain ⟨w1, w2⟩ := w
    refine V_if_ne (tgt := 427) X dL_builds_420 (by decide) (fun z => ?_) (fun z => ?_)
    · replace w := w1 z
      clear w1 w2
      refine V_iload X dL_builds_427 5 rfl ?_
      refine V_bipush (y := 12) X dL_builds_429 (by decide) ?_
      refine V_ishr X dL_builds_431 ?_
      refine V_sipush (y := 250) X dL_builds_432 (by decide) ?_
      refine V_callSi (As := [.int (v5 >>> (12 &&& 31)), .int 250]) (rest := [.int v4, .ref a8]) (k1 := 152 + 14 * j326) (n1 := 2188 + 139 * j326) X (cL_low_ok X.2.2.2.2.2.2.2.2.1 w) lkL_40 dL_builds_435 ⟨(Nat.le_of_ble_eq_true rfl), (Nat.le_of_ble_eq_true rfl)⟩ rfl (Nat.le_of_ble_eq_true rfl) ⟨by show 152 + 14 * j326 + 0 ≤ 313; omega, by show 2188 + 139 * j326 + 0 ≤ 3759; omega⟩ (by show 152 + 14 * j326 + 0 ≤ 152 + 14 * j326; omega) (by show 2188 + 139 * j326 + 0 ≤ 2188 + 139 * j326; omega) (fun x12 h11 w9 => ?_)
      replace w := w9
      clear w9
      exact V.widen (k1 := 152 + 14 * j326) (n1 := 2188 + 139 * j326) (by omega) (by omega) <| V.sub [1, 2, 3, 4, 5] rfl (tL_builds_b438 X hX hbl hbA hL hj326 H326 w)
    · replace w := w2 z
      clear w1 w2
      exact V.widen (k1 := 152 + 14 * j326) (n1 := 2188 + 139 * j326) (by omega) (by omega) <| V.sub [1, 2, 3, 4, 5] rfl (tL_builds_b423 X hX hbl hbA hL hj326 H326 w)
def vL_builds_b326_o (t0 : Nat) (k326 : gH → Option Nat → Option Nat → Int32 → Prop) (Qn : gH → Prop) (h : gH) (v0 : Option Nat) (v1 : Option Nat) (v4 : Int32) : Prop := nn v1 (fun a1 => li h a1 40 (fun x2 => ((x2 ≤ (v4 : Int32)) → (Qn h)) ∧ ((¬ x2 ≤ (v4 : Int32)) → (vL_cell t0 (fun x4 h3 => ((¬ ((x4 &&& 7) : Int32) = 0) → (vL_builds_b364 t0 k326 Qn h3 v0 (some a1) v4 x4 ((x4 >>> (3 &&& 31)) &&& 3))) ∧ ((((x4 &&& 7) : Int32) = 0) → (vL_builds_b364 t0 k326 Qn h3 v0 (some a1) v4 x4 (-1)))) h (9 + v4)))))
set_option maxRecDepth 100000 in
set_option maxHeartbeats 4000000 in
theorem tL_builds_b326_o {p : Program} {l : Launch} {e : Env} {s : State} {m : MethodId} {args : Array Value} {below : List Frame} {meth : Method} {c : Code} {G : gG} {A : Nat → Prop} {b L : Nat} {xs : Nat → Int32} {Qn : gH → Prop} (X : gC p l s m args meth c G A cL_builds 8 none RL) (hX : va_X b L xs s s.heap) (hbl : b < s.heap.size) (hbA : ¬ A b) (hL : L ≤ 260) {j326 : Nat} (hj326 : j326 < 11) {k326 : gH → Option Nat → Option Nat → Int32 → Prop} (H326 : ∀ (h : gH) (v0 : Option Nat) (v1 : Option Nat) (v4 : Int32), k326 h v0 v1 v4 → V p l e rmL_builds s m args below meth c (MQ below (va_Qv Qn (gB G A) A) args s rmL_builds.cells rmL_builds.slots A) G A 8 h (145 + 14 * (j326 + 1)) (2091 + 139 * (j326 + 1)) 326 [(0, va_rf v0), (1, va_rf v1), (2, .ref b), (4, .int v4)] []) {h : gH} {v0 : Option Nat} {v1 : Option Nat} {v4 : Int32} (w : vL_builds_b326_o G.2.2.1 k326 Qn h v0 v1 v4) : V p l e rmL_builds s m args below meth c (MQ below (va_Qv Qn (gB G A) A) args s rmL_builds.cells rmL_builds.slots A) G A 8 h (145 + 14 * j326) (2091 + 139 * j326) 326 [(0, va_rf v0), (1, va_rf v1), (2, .ref b), (4, .int v4)] [] := by
  refine V_iload X dL_builds_326 3 rfl ?_
  refine V_aload_n X dL_builds_328 1 rfl ?_
  refine V_bipush (y := 40) X dL_builds_329 (by decide) ?_
  obtain ⟨a1, rfl, w⟩ := w
  obtain ⟨N9, g9, hh, hi, w⟩ := w
  refine V_iald X dL_builds_331 hh hi ?_
  generalize g9 _ = x2 at w ⊢
  obtain ⟨w1, w2⟩ := w
  refine V_icmp_ge (tgt := 556) X dL_builds_332 (by decide) (fun z => ?_) (fun z => ?_)
  · replace w := w1 z
    clear w1 w2
    exact V_vret X rfl dL_builds_556 (by show 145 + 14 * j326 ≤ 313; omega) (by show 2091 + 139 * j326 ≤ 3759; omega) w
  · replace w := w2 z
    clear w1 w2
    refine V_aloadr_n X dL_builds_335 2 rfl ?_
    refine V_bipush (y := 9) X dL_builds_336 (by decide) ?_
    refine V_iload X dL_builds_338 3 rfl ?_
    refine V_iadd X dL_builds_340 ?_
    refine V_callSSi (As := [.ref b, .int (9 + v4)]) (rest := []) (k1 := 145 + 14 * j326) (n1 := 2091 + 139 * j326) X hX hbl hbA (cL_cell_ok X.2.2.2.2.2.2.2.2.1 hL w) lkL_34 dL_builds_341 ⟨(Nat.le_of_ble_eq_true rfl), (Nat.le_of_ble_eq_true rfl)⟩ rfl (Nat.le_of_ble_eq_true rfl) ⟨by show 145 + 14 * j326 + 0 ≤ 313; omega, by show 2091 + 139 * j326 + 0 ≤ 3759; omega⟩ (by show 145 + 14 * j326 + 0 ≤ 145 + 14 * j326; omega) (by show 2091 + 139 * j326 + 0 ≤ 2091 + 139 * j326; omega) (fun x4 h3 w9 => ?_)
    replace w := w9
    clear w9
    refine V_istore X dL_builds_344 (by decide) rfl ?_
    refine V_iload X dL_builds_346 0 rfl ?_
    refine V_bipush (y := 7) X dL_builds_348 (by decide) ?_
    refine V_iand X dL_builds_350 ?_
    obtain ⟨w1, w2⟩ := w
    refine V_if_ne (tgt := 358) X dL_builds_351 (by decide) (fun z => ?_) (fun z => ?_)
    · replace w := w1 z
      clear w1 w2
      refine V_iload X dL_builds_358 0 rfl ?_
      refine V_iconst (y := 3) X dL_builds_360 (by decide) ?_
      refine V_ishr X dL_builds_361 ?_
      refine V_iconst (y := 3) X dL_builds_362 (by decide) ?_
      refine V_iand X dL_builds_363 ?_
      exact V.widen (k1 := 145 + 14 * j326) (n1 := 2091 + 139 * j326) (by omega) (by omega) <| V.sub [1, 2, 3, 4, 0] rfl (tL_builds_b364 X hX hbl hbA hL hj326 H326 w)
    · replace w := w2 z
      clear w1 w2
      refine V_iconst (y := (-1)) X dL_builds_354 (by decide) ?_
      refine V_goto (tgt := 364) X dL_builds_355 (by decide) ?_
      exact V.widen (k1 := 145 + 14 * j326) (n1 := 2091 + 139 * j326) (by omega) (by omega) <| V.sub [1, 2, 3, 4, 0] rfl (tL_builds_b364 X hX hbl hbA hL hj326 H326 w)
def vL_builds_b326 (t0 : Nat)  (Qn : gH → Prop) (n : Nat) : gH → Option Nat → Option Nat → Int32 → Prop := Nat.rec (motive := fun _ => gH → Option Nat → Option Nat → Int32 → Prop) (fun _ _ _ _ => False) (fun _ k326 => vL_builds_b326_o t0 k326 Qn) n
set_option maxRecDepth 100000 in
set_option maxHeartbeats 4000000 in
theorem tL_builds_b326 {p : Program} {l : Launch} {e : Env} {s : State} {m : MethodId} {args : Array Value} {below : List Frame} {meth : Method} {c : Code} {G : gG} {A : Nat → Prop} {b L : Nat} {xs : Nat → Int32} {Qn : gH → Prop} (X : gC p l s m args meth c G A cL_builds 8 none RL) (hX : va_X b L xs s s.heap) (hbl : b < s.heap.size) (hbA : ¬ A b) (hL : L ≤ 260)   : ∀ (n : Nat) (h : gH) (v0 : Option Nat) (v1 : Option Nat) (v4 : Int32) (hn : n ≤ 11) (w : vL_builds_b326 G.2.2.1  Qn n h v0 v1 v4), V p l e rmL_builds s m args below meth c (MQ below (va_Qv Qn (gB G A) A) args s rmL_builds.cells rmL_builds.slots A) G A 8 h (145 + 14 * (11 - n)) (2091 + 139 * (11 - n)) 326 [(0, va_rf v0), (1, va_rf v1), (2, .ref b), (4, .int v4)] [] := by
  intro n
  induction n with
  | zero => intro h v0 v1 v4 hn w; exact False.elim w
  | succ n ih =>
    intro h v0 v1 v4 hn w
    have e9 : 11 - n = (11 - (n + 1)) + 1 := by omega
    exact tL_builds_b326_o (j326 := 11 - (n + 1)) X hX hbl hbA hL (by omega) (fun h v0 v1 v4 w => by have z := ih h v0 v1 v4 (by omega) w; rw [e9] at z; exact z) w
def vL_builds_b290 (t0 : Nat) (k239 : gH → Option Nat → Option Nat → Int32 → Int32 → Prop) (Qn : gH → Prop) (h : gH) (v0 : Option Nat) (v1 : Option Nat) (v3 : Int32) (v4 : Int32) (v5 : Int32) (s0 : Int32) (s1 : Int32) (s2 : Int32) (s3 : Option Nat) : Prop := vL_low t0 (fun x2 h1 => nn s3 (fun a3 => io h1 a3 14 (vX11_addState t0 (fun x5 h4 => k239 h4 v0 v1 v3 (v4 + 1)) (fun _ _ => False) h1 a3 s2 s1 s0 x2))) h (v5 >>> (14 &&& 31)) 3
set_option maxRecDepth 100000 in
set_option maxHeartbeats 4000000 in
theorem tL_builds_b290 {p : Program} {l : Launch} {e : Env} {s : State} {m : MethodId} {args : Array Value} {below : List Frame} {meth : Method} {c : Code} {G : gG} {A : Nat → Prop} {b L : Nat} {xs : Nat → Int32} {Qn : gH → Prop} (X : gC p l s m args meth c G A cL_builds 8 none RL) (hX : va_X b L xs s s.heap) (hbl : b < s.heap.size) (hbA : ¬ A b) (hL : L ≤ 260) {j239 : Nat} (hj239 : j239 < 5) {k239 : gH → Option Nat → Option Nat → Int32 → Int32 → Prop} (H239 : ∀ (h : gH) (v0 : Option Nat) (v1 : Option Nat) (v3 : Int32) (v4 : Int32), k239 h v0 v1 v3 v4 → V p l e rmL_builds s m args below meth c (MQ below (va_Qv Qn (gB G A) A) args s rmL_builds.cells rmL_builds.slots A) G A 8 h (130 + 3 * (j239 + 1)) (1716 + 75 * (j239 + 1)) 239 [(0, va_rf v0), (1, va_rf v1), (2, .ref b), (3, .int v3), (4, .int v4)] []) {h : gH} {v0 : Option Nat} {v1 : Option Nat} {v3 : Int32} {v4 : Int32} {v5 : Int32} {s0 : Int32} {s1 : Int32} {s2 : Int32} {s3 : Option Nat} (w : vL_builds_b290 G.2.2.1 k239 Qn h v0 v1 v3 v4 v5 s0 s1 s2 s3) : V p l e rmL_builds s m args below meth c (MQ below (va_Qv Qn (gB G A) A) args s rmL_builds.cells rmL_builds.slots A) G A 8 h (130 + 3 * j239) (1716 + 75 * j239) 290 [(0, va_rf v0), (1, va_rf v1), (2, .ref b), (3, .int v3), (4, .int v4), (5, .int v5)] [.int s0, .int s1, .int s2, va_rf s3] := by
  refine V_iload X dL_builds_290 5 rfl ?_
  refine V_bipush (y := 14) X dL_builds_292 (by decide) ?_
  refine V_ishr X dL_builds_294 ?_
  refine V_iconst (y := 3) X dL_builds_295 (by decide) ?_
  refine V_callSi (As := [.int (v5 >>> (14 &&& 31)), .int 3]) (rest := [.int s0, .int s1, .int s2, va_rf s3]) (k1 := 130 + 3 * j239) (n1 := 1716 + 75 * j239) X (cL_low_ok X.2.2.2.2.2.2.2.2.1 w) lkL_40 dL_builds_296 ⟨(Nat.le_of_ble_eq_true rfl), (Nat.le_of_ble_eq_true rfl)⟩ rfl (va_len _ 4 (Nat.le_of_ble_eq_true rfl)) ⟨by show 130 + 3 * j239 + 0 ≤ 313; omega, by show 1716 + 75 * j239 + 0 ≤ 3759; omega⟩ (by show 130 + 3 * j239 + 0 ≤ 130 + 3 * j239; omega) (by show 1716 + 75 * j239 + 0 ≤ 1716 + 75 * j239; omega) (fun x2 h1 w9 => ?_)
  replace w := w9
  clear w9
  obtain ⟨a3, rfl, w⟩ := w
  obtain ⟨fs, hh, w⟩ := w
  refine V_callZi (As := [.int s2, .int s1, .int s0, .int x2]) (rest := []) (k1 := 133 + 3 * j239) (n1 := 1791 + 75 * j239) X (cX11_addState_ok X.2.2.2.2.2.2.2.2.1 w) lkL_18 hh (q9 := (RX11, TX11, 7)) rfl rfl dL_builds_299 ⟨(Nat.le_of_ble_eq_true rfl), (Nat.le_of_ble_eq_true rfl)⟩ rfl (Nat.le_of_ble_eq_true rfl) ⟨by show 130 + 3 * j239 + 3 ≤ 313; omega, by show 1716 + 75 * j239 + 75 ≤ 3759; omega⟩ (by show 130 + 3 * j239 + 3 ≤ 133 + 3 * j239; omega) (by show 1716 + 75 * j239 + 75 ≤ 1791 + 75 * j239; omega) (fun x5 h4 w9 => ?_)
  replace w := w9
  clear w9
  refine V_pop X dL_builds_302 rfl ?_
  refine V_iinc (y := (v4 + 1)) X dL_builds_303 4 rfl (by first | rfl | (congr 1)) (by decide) rfl ?_
  refine V_goto (tgt := 239) X dL_builds_306 (by decide) ?_
  exact V.widen (k1 := 130 + 3 * (j239 + 1)) (n1 := 1716 + 75 * (j239 + 1)) (by omega) (by omega) <| V.sub [1, 2, 3, 4, 0] rfl (H239 _ _ _ _ _ w)
def vL_builds_b239_o (t0 : Nat) (k239 : gH → Option Nat → Option Nat → Int32 → Int32 → Prop) (Qn : gH → Prop) (h : gH) (v0 : Option Nat) (v1 : Option Nat) (v3 : Int32) (v4 : Int32) : Prop := ((4 ≤ (v4 : Int32)) → (vL_low t0 (fun x2 h1 => nn v1 (fun a3 => si h1 a3 40 (3 + x2) (fun h4 => vL_builds_b326 t0  Qn 11 h4 v0 (some a3) 0))) h (v3 >>> (3 &&& 31)) 7)) ∧ ((¬ 4 ≤ (v4 : Int32)) → (vL_cell t0 (fun x6 h5 => vL_low t0 (fun x8 h7 => vL_low t0 (fun x10 h9 => (((((x6 >>> (12 &&& 31)) &&& 3) : Int32) ≤ 0) → (vL_builds_b290 t0 k239 Qn h9 v0 v1 v3 v4 x6 0 (1 + x10) x8 v0)) ∧ ((¬ (((x6 >>> (12 &&& 31)) &&& 3) : Int32) ≤ 0) → (vL_builds_b290 t0 k239 Qn h9 v0 v1 v3 v4 x6 1 (1 + x10) x8 v0))) h7 (x6 >>> (3 &&& 31)) 400) h5 x6 6) h (5 + v4)))
set_option maxRecDepth 100000 in
set_option maxHeartbeats 4000000 in
theorem tL_builds_b239_o {p : Program} {l : Launch} {e : Env} {s : State} {m : MethodId} {args : Array Value} {below : List Frame} {meth : Method} {c : Code} {G : gG} {A : Nat → Prop} {b L : Nat} {xs : Nat → Int32} {Qn : gH → Prop} (X : gC p l s m args meth c G A cL_builds 8 none RL) (hX : va_X b L xs s s.heap) (hbl : b < s.heap.size) (hbA : ¬ A b) (hL : L ≤ 260) {j239 : Nat} (hj239 : j239 < 5) {k239 : gH → Option Nat → Option Nat → Int32 → Int32 → Prop} (H239 : ∀ (h : gH) (v0 : Option Nat) (v1 : Option Nat) (v3 : Int32) (v4 : Int32), k239 h v0 v1 v3 v4 → V p l e rmL_builds s m args below meth c (MQ below (va_Qv Qn (gB G A) A) args s rmL_builds.cells rmL_builds.slots A) G A 8 h (130 + 3 * (j239 + 1)) (1716 + 75 * (j239 + 1)) 239 [(0, va_rf v0), (1, va_rf v1), (2, .ref b), (3, .int v3), (4, .int v4)] []) {h : gH} {v0 : Option Nat} {v1 : Option Nat} {v3 : Int32} {v4 : Int32} (w : vL_builds_b239_o G.2.2.1 k239 Qn h v0 v1 v3 v4) : V p l e rmL_builds s m args below meth c (MQ below (va_Qv Qn (gB G A) A) args s rmL_builds.cells rmL_builds.slots A) G A 8 h (130 + 3 * j239) (1716 + 75 * j239) 239 [(0, va_rf v0), (1, va_rf v1), (2, .ref b), (3, .int v3), (4, .int v4)] [] := by
  refine V_iload X dL_builds_239 4 rfl ?_
  refine V_iconst (y := 4) X dL_builds_241 (by decide) ?_
  obtain ⟨w1, w2⟩ := w
  refine V_icmp_ge (tgt := 309) X dL_builds_242 (by decide) (fun z => ?_) (fun z => ?_)
  · replace w := w1 z
    clear w1 w2
    refine V_aload_n X dL_builds_309 1 rfl ?_
    refine V_bipush (y := 40) X dL_builds_310 (by decide) ?_
    refine V_iconst (y := 3) X dL_builds_312 (by decide) ?_
    refine V_iload_n X dL_builds_313 3 rfl ?_
    refine V_iconst (y := 3) X dL_builds_314 (by decide) ?_
    refine V_ishr X dL_builds_315 ?_
    refine V_bipush (y := 7) X dL_builds_316 (by decide) ?_
    refine V_callSi (As := [.int (v3 >>> (3 &&& 31)), .int 7]) (rest := [.int 3, .int 40, va_rf v1]) (k1 := 130 + 3 * j239) (n1 := 1716 + 75 * j239) X (cL_low_ok X.2.2.2.2.2.2.2.2.1 w) lkL_40 dL_builds_318 ⟨(Nat.le_of_ble_eq_true rfl), (Nat.le_of_ble_eq_true rfl)⟩ rfl (va_len _ 4 (Nat.le_of_ble_eq_true rfl)) ⟨by show 130 + 3 * j239 + 0 ≤ 313; omega, by show 1716 + 75 * j239 + 0 ≤ 3759; omega⟩ (by show 130 + 3 * j239 + 0 ≤ 130 + 3 * j239; omega) (by show 1716 + 75 * j239 + 0 ≤ 1716 + 75 * j239; omega) (fun x2 h1 w9 => ?_)
    replace w := w9
    clear w9
    refine V_iadd X dL_builds_321 ?_
    obtain ⟨a3, rfl, w⟩ := w
    obtain ⟨N9, g9, hh, hi, w⟩ := w
    refine V_iast X dL_builds_322 hh hi ?_
    generalize va_up _ _ _ = h4 at w ⊢
    refine V_iconst (y := 0) X dL_builds_323 (by decide) ?_
    refine V_istore X dL_builds_324 (by decide) rfl ?_
    exact V.widen (k1 := 145 + 14 * (11 - 11)) (n1 := 2091 + 139 * (11 - 11)) (by omega) (by omega) <| V.sub [1, 2, 3, 0] rfl (tL_builds_b326 X hX hbl hbA hL  11 _ _ _ _ (Nat.le_refl _) w)
  · replace w := w2 z
    clear w1 w2
    refine V_aloadr_n X dL_builds_245 2 rfl ?_
    refine V_iconst (y := 5) X dL_builds_246 (by decide) ?_
    refine V_iload X dL_builds_247 4 rfl ?_
    refine V_iadd X dL_builds_249 ?_
    refine V_callSSi (As := [.ref b, .int (5 + v4)]) (rest := []) (k1 := 130 + 3 * j239) (n1 := 1716 + 75 * j239) X hX hbl hbA (cL_cell_ok X.2.2.2.2.2.2.2.2.1 hL w) lkL_34 dL_builds_250 ⟨(Nat.le_of_ble_eq_true rfl), (Nat.le_of_ble_eq_true rfl)⟩ rfl (Nat.le_of_ble_eq_true rfl) ⟨by show 130 + 3 * j239 + 0 ≤ 313; omega, by show 1716 + 75 * j239 + 0 ≤ 3759; omega⟩ (by show 130 + 3 * j239 + 0 ≤ 130 + 3 * j239; omega) (by show 1716 + 75 * j239 + 0 ≤ 1716 + 75 * j239; omega) (fun x6 h5 w9 => ?_)
    replace w := w9
    clear w9
    refine V_istore X dL_builds_253 (by decide) rfl ?_
    refine V_aload_n X dL_builds_255 1 rfl ?_
    refine V_iload X dL_builds_256 0 rfl ?_
    refine V_bipush (y := 6) X dL_builds_258 (by decide) ?_
    refine V_callSi (As := [.int x6, .int 6]) (rest := [va_rf v0]) (k1 := 130 + 3 * j239) (n1 := 1716 + 75 * j239) X (cL_low_ok X.2.2.2.2.2.2.2.2.1 w) lkL_40 dL_builds_260 ⟨(Nat.le_of_ble_eq_true rfl), (Nat.le_of_ble_eq_true rfl)⟩ rfl (va_len _ 4 (Nat.le_of_ble_eq_true rfl)) ⟨by show 130 + 3 * j239 + 0 ≤ 313; omega, by show 1716 + 75 * j239 + 0 ≤ 3759; omega⟩ (by show 130 + 3 * j239 + 0 ≤ 130 + 3 * j239; omega) (by show 1716 + 75 * j239 + 0 ≤ 1716 + 75 * j239; omega) (fun x8 h7 w9 => ?_)
    replace w := w9
    clear w9
    refine V_iconst (y := 1) X dL_builds_263 (by decide) ?_
    refine V_iload X dL_builds_264 0 rfl ?_
    refine V_iconst (y := 3) X dL_builds_266 (by decide) ?_
    refine V_ishr X dL_builds_267 ?_
    refine V_sipush (y := 400) X dL_builds_268 (by decide) ?_
    refine V_callSi (As := [.int (x6 >>> (3 &&& 31)), .int 400]) (rest := [.int 1, .int x8, va_rf v0]) (k1 := 130 + 3 * j239) (n1 := 1716 + 75 * j239) X (cL_low_ok X.2.2.2.2.2.2.2.2.1 w) lkL_40 dL_builds_271 ⟨(Nat.le_of_ble_eq_true rfl), (Nat.le_of_ble_eq_true rfl)⟩ rfl (va_len _ 4 (Nat.le_of_ble_eq_true rfl)) ⟨by show 130 + 3 * j239 + 0 ≤ 313; omega, by show 1716 + 75 * j239 + 0 ≤ 3759; omega⟩ (by show 130 + 3 * j239 + 0 ≤ 130 + 3 * j239; omega) (by show 1716 + 75 * j239 + 0 ≤ 1716 + 75 * j239; omega) (fun x10 h9 w9 => ?_)
    replace w := w9
    clear w9
    refine V_iadd X dL_builds_274 ?_
    refine V_iload X dL_builds_275 0 rfl ?_
    refine V_bipush (y := 12) X dL_builds_277 (by decide) ?_
    refine V_ishr X dL_builds_279 ?_
    refine V_iconst (y := 3) X dL_builds_280 (by decide) ?_
    refine V_iand X dL_builds_281 ?_
    obtain ⟨w1, w2⟩ := w
    refine V_if_le (tgt := 289) X dL_builds_282 (by decide) (fun z => ?_) (fun z => ?_)
    · replace w := w1 z
      clear w1 w2
      refine V_iconst (y := 0) X dL_builds_289 (by decide) ?_
      exact V.widen (k1 := 130 + 3 * j239) (n1 := 1716 + 75 * j239) (by omega) (by omega) <| V.sub [1, 2, 3, 4, 5, 0] rfl (tL_builds_b290 X hX hbl hbA hL hj239 H239 w)
    · replace w := w2 z
      clear w1 w2
      refine V_iconst (y := 1) X dL_builds_285 (by decide) ?_
      refine V_goto (tgt := 290) X dL_builds_286 (by decide) ?_
      exact V.widen (k1 := 130 + 3 * j239) (n1 := 1716 + 75 * j239) (by omega) (by omega) <| V.sub [1, 2, 3, 4, 5, 0] rfl (tL_builds_b290 X hX hbl hbA hL hj239 H239 w)
def vL_builds_b239 (t0 : Nat)  (Qn : gH → Prop) (n : Nat) : gH → Option Nat → Option Nat → Int32 → Int32 → Prop := Nat.rec (motive := fun _ => gH → Option Nat → Option Nat → Int32 → Int32 → Prop) (fun _ _ _ _ _ => False) (fun _ k239 => vL_builds_b239_o t0 k239 Qn) n
set_option maxRecDepth 100000 in
set_option maxHeartbeats 4000000 in
theorem tL_builds_b239 {p : Program} {l : Launch} {e : Env} {s : State} {m : MethodId} {args : Array Value} {below : List Frame} {meth : Method} {c : Code} {G : gG} {A : Nat → Prop} {b L : Nat} {xs : Nat → Int32} {Qn : gH → Prop} (X : gC p l s m args meth c G A cL_builds 8 none RL) (hX : va_X b L xs s s.heap) (hbl : b < s.heap.size) (hbA : ¬ A b) (hL : L ≤ 260)   : ∀ (n : Nat) (h : gH) (v0 : Option Nat) (v1 : Option Nat) (v3 : Int32) (v4 : Int32) (hn : n ≤ 5) (w : vL_builds_b239 G.2.2.1  Qn n h v0 v1 v3 v4), V p l e rmL_builds s m args below meth c (MQ below (va_Qv Qn (gB G A) A) args s rmL_builds.cells rmL_builds.slots A) G A 8 h (130 + 3 * (5 - n)) (1716 + 75 * (5 - n)) 239 [(0, va_rf v0), (1, va_rf v1), (2, .ref b), (3, .int v3), (4, .int v4)] [] := by
  intro n
  induction n with
  | zero => intro h v0 v1 v3 v4 hn w; exact False.elim w
  | succ n ih =>
    intro h v0 v1 v3 v4 hn w
    have e9 : 5 - n = (5 - (n + 1)) + 1 := by omega
    exact tL_builds_b239_o (j239 := 5 - (n + 1)) X hX hbl hbA hL (by omega) (fun h v0 v1 v3 v4 w => by have z := ih h v0 v1 v3 v4 (by omega) w; rw [e9] at z; exact z) w
def vL_builds_b82_o (t0 : Nat) (k20 : gH → Option Nat → Option Nat → Int32 → Prop) (k82 : gH → Option Nat → Option Nat → Int32 → Int32 → Int32 → Int32 → Prop) (Qn : gH → Prop) (h : gH) (v0 : Option Nat) (v1 : Option Nat) (v3 : Int32) (v4 : Int32) (v5 : Int32) (v6 : Int32) : Prop := ((v5 ≤ (v6 : Int32)) → (nn v0 (fun a1 => io h a1 14 (vX11_addClipNode t0 (fun x3 h2 => k20 h2 (some a1) v1 (v3 + 1)) (fun _ _ => False) h a1 v3)))) ∧ ((¬ v5 ≤ (v6 : Int32)) → (nn v1 (fun a4 => li h a4 v3 (fun x5 => vL_low t0 (fun x7 h6 => nn v0 (fun a8 => io h6 a8 14 (vX11_addEvent t0 (fun x10 h9 => k82 h9 (some a8) (some a4) v3 v4 v5 (v6 + 1)) (fun _ _ => False) h6 a8 v3 x7 ((10 * v3) + v6)))) h (v4 >>> ((13 + (2 * v6)) &&& 31)) x5))))
set_option maxRecDepth 100000 in
set_option maxHeartbeats 4000000 in
theorem tL_builds_b82_o {p : Program} {l : Launch} {e : Env} {s : State} {m : MethodId} {args : Array Value} {below : List Frame} {meth : Method} {c : Code} {G : gG} {A : Nat → Prop} {b L : Nat} {xs : Nat → Int32} {Qn : gH → Prop} (X : gC p l s m args meth c G A cL_builds 8 none RL) (hX : va_X b L xs s s.heap) (hbl : b < s.heap.size) (hbA : ¬ A b) (hL : L ≤ 260) {j20 : Nat} (hj20 : j20 < 5) {j82 : Nat} (hj82 : j82 < 5) {k20 : gH → Option Nat → Option Nat → Int32 → Prop} {k82 : gH → Option Nat → Option Nat → Int32 → Int32 → Int32 → Int32 → Prop} (H20 : ∀ (h : gH) (v0 : Option Nat) (v1 : Option Nat) (v3 : Int32), k20 h v0 v1 v3 → V p l e rmL_builds s m args below meth c (MQ below (va_Qv Qn (gB G A) A) args s rmL_builds.cells rmL_builds.slots A) G A 8 h (3 + 20 * (j20 + 1)) (18 + 228 * (j20 + 1)) 20 [(0, va_rf v0), (1, va_rf v1), (2, .ref b), (3, .int v3)] []) (H82 : ∀ (h : gH) (v0 : Option Nat) (v1 : Option Nat) (v3 : Int32) (v4 : Int32) (v5 : Int32) (v6 : Int32), k82 h v0 v1 v3 v4 v5 v6 → V p l e rmL_builds s m args below meth c (MQ below (va_Qv Qn (gB G A) A) args s rmL_builds.cells rmL_builds.slots A) G A 8 h (7 + 20 * j20 + 2 * (j82 + 1)) (97 + 228 * j20 + 12 * (j82 + 1)) 82 [(0, va_rf v0), (1, va_rf v1), (2, .ref b), (3, .int v3), (4, .int v4), (5, .int v5), (6, .int v6)] []) {h : gH} {v0 : Option Nat} {v1 : Option Nat} {v3 : Int32} {v4 : Int32} {v5 : Int32} {v6 : Int32} (w : vL_builds_b82_o G.2.2.1 k20 k82 Qn h v0 v1 v3 v4 v5 v6) : V p l e rmL_builds s m args below meth c (MQ below (va_Qv Qn (gB G A) A) args s rmL_builds.cells rmL_builds.slots A) G A 8 h (7 + 20 * j20 + 2 * j82) (97 + 228 * j20 + 12 * j82) 82 [(0, va_rf v0), (1, va_rf v1), (2, .ref b), (3, .int v3), (4, .int v4), (5, .int v5), (6, .int v6)] [] := by
  refine V_iload X dL_builds_82 6 rfl ?_
  refine V_iload X dL_builds_84 5 rfl ?_
  obtain ⟨w1, w2⟩ := w
  refine V_icmp_ge (tgt := 124) X dL_builds_86 (by decide) (fun z => ?_) (fun z => ?_)
  · replace w := w1 z
    clear w1 w2
    refine V_aload_n X dL_builds_124 0 rfl ?_
    refine V_iload_n X dL_builds_125 3 rfl ?_
    obtain ⟨a1, rfl, w⟩ := w
    obtain ⟨fs, hh, w⟩ := w
    refine V_callZi (As := [.int v3]) (rest := []) (k1 := 13 + 20 * j20 + 2 * j82) (n1 := 186 + 228 * j20 + 12 * j82) X (cX11_addClipNode_ok X.2.2.2.2.2.2.2.2.1 w) lkL_50 hh (q9 := (RX11, TX11, 7)) rfl rfl dL_builds_126 ⟨(Nat.le_of_ble_eq_true rfl), (Nat.le_of_ble_eq_true rfl)⟩ rfl (Nat.le_of_ble_eq_true rfl) ⟨by show 7 + 20 * j20 + 2 * j82 + 6 ≤ 313; omega, by show 97 + 228 * j20 + 12 * j82 + 89 ≤ 3759; omega⟩ (by show 7 + 20 * j20 + 2 * j82 + 6 ≤ 13 + 20 * j20 + 2 * j82; omega) (by show 97 + 228 * j20 + 12 * j82 + 89 ≤ 186 + 228 * j20 + 12 * j82; omega) (fun x3 h2 w9 => ?_)
    replace w := w9
    clear w9
    refine V_pop X dL_builds_129 rfl ?_
    refine V_iinc (y := (v3 + 1)) X dL_builds_130 3 rfl (by first | rfl | (congr 1)) (by decide) rfl ?_
    refine V_goto (tgt := 20) X dL_builds_133 (by decide) ?_
    exact V.widen (k1 := 3 + 20 * (j20 + 1)) (n1 := 18 + 228 * (j20 + 1)) (by omega) (by omega) <| V.sub [1, 2, 3, 0] rfl (H20 _ _ _ _ w)
  · replace w := w2 z
    clear w1 w2
    refine V_aload_n X dL_builds_89 0 rfl ?_
    refine V_iload_n X dL_builds_90 3 rfl ?_
    refine V_iload X dL_builds_91 4 rfl ?_
    refine V_bipush (y := 13) X dL_builds_93 (by decide) ?_
    refine V_iconst (y := 2) X dL_builds_95 (by decide) ?_
    refine V_iload X dL_builds_96 6 rfl ?_
    refine V_imul X dL_builds_98 ?_
    refine V_iadd X dL_builds_99 ?_
    refine V_ishr X dL_builds_100 ?_
    refine V_aload_n X dL_builds_101 1 rfl ?_
    refine V_iload_n X dL_builds_102 3 rfl ?_
    obtain ⟨a4, rfl, w⟩ := w
    obtain ⟨N9, g9, hh, hi, w⟩ := w
    refine V_iald X dL_builds_103 hh hi ?_
    generalize g9 _ = x5 at w ⊢
    refine V_callSi (As := [.int (v4 >>> ((13 + (2 * v6)) &&& 31)), .int x5]) (rest := [.int v3, va_rf v0]) (k1 := 7 + 20 * j20 + 2 * j82) (n1 := 97 + 228 * j20 + 12 * j82) X (cL_low_ok X.2.2.2.2.2.2.2.2.1 w) lkL_40 dL_builds_104 ⟨(Nat.le_of_ble_eq_true rfl), (Nat.le_of_ble_eq_true rfl)⟩ rfl (va_len _ 4 (Nat.le_of_ble_eq_true rfl)) ⟨by show 7 + 20 * j20 + 2 * j82 + 0 ≤ 313; omega, by show 97 + 228 * j20 + 12 * j82 + 0 ≤ 3759; omega⟩ (by show 7 + 20 * j20 + 2 * j82 + 0 ≤ 7 + 20 * j20 + 2 * j82; omega) (by show 97 + 228 * j20 + 12 * j82 + 0 ≤ 97 + 228 * j20 + 12 * j82; omega) (fun x7 h6 w9 => ?_)
    replace w := w9
    clear w9
    refine V_bipush (y := 10) X dL_builds_107 (by decide) ?_
    refine V_iload_n X dL_builds_109 3 rfl ?_
    refine V_imul X dL_builds_110 ?_
    refine V_iload X dL_builds_111 6 rfl ?_
    refine V_iadd X dL_builds_113 ?_
    obtain ⟨a8, rfl, w⟩ := w
    obtain ⟨fs, hh, w⟩ := w
    refine V_callZi (As := [.int v3, .int x7, .int ((10 * v3) + v6)]) (rest := []) (k1 := 9 + 20 * j20 + 2 * j82) (n1 := 109 + 228 * j20 + 12 * j82) X (cX11_addEvent_ok X.2.2.2.2.2.2.2.2.1 w) lkL_47 hh (q9 := (RX11, TX11, 7)) rfl rfl dL_builds_114 ⟨(Nat.le_of_ble_eq_true rfl), (Nat.le_of_ble_eq_true rfl)⟩ rfl (Nat.le_of_ble_eq_true rfl) ⟨by show 7 + 20 * j20 + 2 * j82 + 2 ≤ 313; omega, by show 97 + 228 * j20 + 12 * j82 + 12 ≤ 3759; omega⟩ (by show 7 + 20 * j20 + 2 * j82 + 2 ≤ 9 + 20 * j20 + 2 * j82; omega) (by show 97 + 228 * j20 + 12 * j82 + 12 ≤ 109 + 228 * j20 + 12 * j82; omega) (fun x10 h9 w9 => ?_)
    replace w := w9
    clear w9
    refine V_pop X dL_builds_117 rfl ?_
    refine V_iinc (y := (v6 + 1)) X dL_builds_118 6 rfl (by first | rfl | (congr 1)) (by decide) rfl ?_
    refine V_goto (tgt := 82) X dL_builds_121 (by decide) ?_
    exact V.widen (k1 := 7 + 20 * j20 + 2 * (j82 + 1)) (n1 := 97 + 228 * j20 + 12 * (j82 + 1)) (by omega) (by omega) <| V.sub [1, 2, 3, 4, 5, 6, 0] rfl (H82 _ _ _ _ _ _ _ w)
def vL_builds_b82 (t0 : Nat) (k20 : gH → Option Nat → Option Nat → Int32 → Prop) (Qn : gH → Prop) (n : Nat) : gH → Option Nat → Option Nat → Int32 → Int32 → Int32 → Int32 → Prop := Nat.rec (motive := fun _ => gH → Option Nat → Option Nat → Int32 → Int32 → Int32 → Int32 → Prop) (fun _ _ _ _ _ _ _ => False) (fun _ k82 => vL_builds_b82_o t0 k20 k82 Qn) n
set_option maxRecDepth 100000 in
set_option maxHeartbeats 4000000 in
theorem tL_builds_b82 {p : Program} {l : Launch} {e : Env} {s : State} {m : MethodId} {args : Array Value} {below : List Frame} {meth : Method} {c : Code} {G : gG} {A : Nat → Prop} {b L : Nat} {xs : Nat → Int32} {Qn : gH → Prop} (X : gC p l s m args meth c G A cL_builds 8 none RL) (hX : va_X b L xs s s.heap) (hbl : b < s.heap.size) (hbA : ¬ A b) (hL : L ≤ 260) {j20 : Nat} (hj20 : j20 < 5) {k20 : gH → Option Nat → Option Nat → Int32 → Prop} (H20 : ∀ (h : gH) (v0 : Option Nat) (v1 : Option Nat) (v3 : Int32), k20 h v0 v1 v3 → V p l e rmL_builds s m args below meth c (MQ below (va_Qv Qn (gB G A) A) args s rmL_builds.cells rmL_builds.slots A) G A 8 h (3 + 20 * (j20 + 1)) (18 + 228 * (j20 + 1)) 20 [(0, va_rf v0), (1, va_rf v1), (2, .ref b), (3, .int v3)] []) : ∀ (n : Nat) (h : gH) (v0 : Option Nat) (v1 : Option Nat) (v3 : Int32) (v4 : Int32) (v5 : Int32) (v6 : Int32) (hn : n ≤ 5) (w : vL_builds_b82 G.2.2.1 k20 Qn n h v0 v1 v3 v4 v5 v6), V p l e rmL_builds s m args below meth c (MQ below (va_Qv Qn (gB G A) A) args s rmL_builds.cells rmL_builds.slots A) G A 8 h (7 + 20 * j20 + 2 * (5 - n)) (97 + 228 * j20 + 12 * (5 - n)) 82 [(0, va_rf v0), (1, va_rf v1), (2, .ref b), (3, .int v3), (4, .int v4), (5, .int v5), (6, .int v6)] [] := by
  intro n
  induction n with
  | zero => intro h v0 v1 v3 v4 v5 v6 hn w; exact False.elim w
  | succ n ih =>
    intro h v0 v1 v3 v4 v5 v6 hn w
    have e9 : 5 - n = (5 - (n + 1)) + 1 := by omega
    exact tL_builds_b82_o (j82 := 5 - (n + 1)) X hX hbl hbA hL hj20 (by omega) H20 (fun h v0 v1 v3 v4 v5 v6 w => by have z := ih h v0 v1 v3 v4 v5 v6 (by omega) w; rw [e9] at z; exact z) w
def vL_builds_b55 (t0 : Nat) (k20 : gH → Option Nat → Option Nat → Int32 → Prop) (Qn : gH → Prop) (h : gH) (v0 : Option Nat) (v1 : Option Nat) (v3 : Int32) (v4 : Int32) (s0 : Int32) (s1 : Int32) (s2 : Int32) (s3 : Int32) (s4 : Option Nat) : Prop := vL_low t0 (fun x2 h1 => nn s4 (fun a3 => si h1 a3 s3 (s2 + x2) (fun h4 => nn v1 (fun a5 => li h4 a5 v3 (fun x6 => nn v0 (fun a7 => io h4 a7 14 (vX11_addClip t0 (fun x9 h8 => vL_low t0 (fun x11 h10 => vL_builds_b82 t0 k20 Qn 5 h10 (some a7) (some a5) v3 v4 x11 0) h8 (v4 >>> (11 &&& 31)) 4) (fun _ _ => False) h4 a7 x6))))))) h s1 s0
set_option maxRecDepth 100000 in
set_option maxHeartbeats 4000000 in
theorem tL_builds_b55 {p : Program} {l : Launch} {e : Env} {s : State} {m : MethodId} {args : Array Value} {below : List Frame} {meth : Method} {c : Code} {G : gG} {A : Nat → Prop} {b L : Nat} {xs : Nat → Int32} {Qn : gH → Prop} (X : gC p l s m args meth c G A cL_builds 8 none RL) (hX : va_X b L xs s s.heap) (hbl : b < s.heap.size) (hbA : ¬ A b) (hL : L ≤ 260) {j20 : Nat} (hj20 : j20 < 5) {k20 : gH → Option Nat → Option Nat → Int32 → Prop} (H20 : ∀ (h : gH) (v0 : Option Nat) (v1 : Option Nat) (v3 : Int32), k20 h v0 v1 v3 → V p l e rmL_builds s m args below meth c (MQ below (va_Qv Qn (gB G A) A) args s rmL_builds.cells rmL_builds.slots A) G A 8 h (3 + 20 * (j20 + 1)) (18 + 228 * (j20 + 1)) 20 [(0, va_rf v0), (1, va_rf v1), (2, .ref b), (3, .int v3)] []) {h : gH} {v0 : Option Nat} {v1 : Option Nat} {v3 : Int32} {v4 : Int32} {s0 : Int32} {s1 : Int32} {s2 : Int32} {s3 : Int32} {s4 : Option Nat} (w : vL_builds_b55 G.2.2.1 k20 Qn h v0 v1 v3 v4 s0 s1 s2 s3 s4) : V p l e rmL_builds s m args below meth c (MQ below (va_Qv Qn (gB G A) A) args s rmL_builds.cells rmL_builds.slots A) G A 8 h (3 + 20 * j20) (18 + 228 * j20) 55 [(0, va_rf v0), (1, va_rf v1), (2, .ref b), (3, .int v3), (4, .int v4)] [.int s0, .int s1, .int s2, .int s3, va_rf s4] := by
  refine V_callSi (As := [.int s1, .int s0]) (rest := [.int s2, .int s3, va_rf s4]) (k1 := 3 + 20 * j20) (n1 := 18 + 228 * j20) X (cL_low_ok X.2.2.2.2.2.2.2.2.1 w) lkL_40 dL_builds_55 ⟨(Nat.le_of_ble_eq_true rfl), (Nat.le_of_ble_eq_true rfl)⟩ rfl (va_len _ 4 (Nat.le_of_ble_eq_true rfl)) ⟨by show 3 + 20 * j20 + 0 ≤ 313; omega, by show 18 + 228 * j20 + 0 ≤ 3759; omega⟩ (by show 3 + 20 * j20 + 0 ≤ 3 + 20 * j20; omega) (by show 18 + 228 * j20 + 0 ≤ 18 + 228 * j20; omega) (fun x2 h1 w9 => ?_)
  replace w := w9
  clear w9
  refine V_iadd X dL_builds_58 ?_
  obtain ⟨a3, rfl, w⟩ := w
  obtain ⟨N9, g9, hh, hi, w⟩ := w
  refine V_iast X dL_builds_59 hh hi ?_
  generalize va_up _ _ _ = h4 at w ⊢
  refine V_aload_n X dL_builds_60 0 rfl ?_
  refine V_aload_n X dL_builds_61 1 rfl ?_
  refine V_iload_n X dL_builds_62 3 rfl ?_
  obtain ⟨a5, rfl, w⟩ := w
  obtain ⟨N9, g9, hh, hi, w⟩ := w
  refine V_iald X dL_builds_63 hh hi ?_
  generalize g9 _ = x6 at w ⊢
  obtain ⟨a7, rfl, w⟩ := w
  obtain ⟨fs, hh, w⟩ := w
  refine V_callZi (As := [.int x6]) (rest := []) (k1 := 7 + 20 * j20) (n1 := 97 + 228 * j20) X (cX11_addClip_ok X.2.2.2.2.2.2.2.2.1 w) lkL_44 hh (q9 := (RX11, TX11, 7)) rfl rfl dL_builds_64 ⟨(Nat.le_of_ble_eq_true rfl), (Nat.le_of_ble_eq_true rfl)⟩ rfl (Nat.le_of_ble_eq_true rfl) ⟨by show 3 + 20 * j20 + 4 ≤ 313; omega, by show 18 + 228 * j20 + 79 ≤ 3759; omega⟩ (by show 3 + 20 * j20 + 4 ≤ 7 + 20 * j20; omega) (by show 18 + 228 * j20 + 79 ≤ 97 + 228 * j20; omega) (fun x9 h8 w9 => ?_)
  replace w := w9
  clear w9
  refine V_pop X dL_builds_67 rfl ?_
  refine V_iload X dL_builds_68 4 rfl ?_
  refine V_bipush (y := 11) X dL_builds_70 (by decide) ?_
  refine V_ishr X dL_builds_72 ?_
  refine V_iconst (y := 4) X dL_builds_73 (by decide) ?_
  refine V_callSi (As := [.int (v4 >>> (11 &&& 31)), .int 4]) (rest := []) (k1 := 7 + 20 * j20) (n1 := 97 + 228 * j20) X (cL_low_ok X.2.2.2.2.2.2.2.2.1 w) lkL_40 dL_builds_74 ⟨(Nat.le_of_ble_eq_true rfl), (Nat.le_of_ble_eq_true rfl)⟩ rfl (Nat.le_of_ble_eq_true rfl) ⟨by show 7 + 20 * j20 + 0 ≤ 313; omega, by show 97 + 228 * j20 + 0 ≤ 3759; omega⟩ (by show 7 + 20 * j20 + 0 ≤ 7 + 20 * j20; omega) (by show 97 + 228 * j20 + 0 ≤ 97 + 228 * j20; omega) (fun x11 h10 w9 => ?_)
  replace w := w9
  clear w9
  refine V_istore X dL_builds_77 (by decide) rfl ?_
  refine V_iconst (y := 0) X dL_builds_79 (by decide) ?_
  refine V_istore X dL_builds_80 (by decide) rfl ?_
  exact V.widen (k1 := 7 + 20 * j20 + 2 * (5 - 5)) (n1 := 97 + 228 * j20 + 12 * (5 - 5)) (by omega) (by omega) <| V.sub [2, 3, 4, 5, 6, 1, 0] rfl (tL_builds_b82 X hX hbl hbA hL hj20 H20 5 _ _ _ _ _ _ _ (Nat.le_refl _) w)
def vL_builds_b20_o (t0 : Nat) (k20 : gH → Option Nat → Option Nat → Int32 → Prop) (Qn : gH → Prop) (h : gH) (v0 : Option Nat) (v1 : Option Nat) (v3 : Int32) : Prop := ((4 ≤ (v3 : Int32)) → (vL_cell t0 (fun x2 h1 => nn v0 (fun a3 => io h1 a3 14 (vX11_addLine t0 (fun x5 h4 => vL_low t0 (fun x7 h6 => io h6 a3 14 (vX11_addChild t0 (fun x9 h8 => vL_low t0 (fun x11 h10 => io h10 a3 14 (vX11_addChild t0 (fun x13 h12 => io h12 a3 14 (vX11_addLine t0 (fun x15 h14 => io h14 a3 14 (vX11_addChild t0 (fun x17 h16 => vL_low t0 (fun x19 h18 => io h18 a3 14 (vX11_addChild t0 (fun x21 h20 => vL_low t0 (fun x23 h22 => io h22 a3 14 (vX11_addChild t0 (fun x25 h24 => vL_builds_b239 t0  Qn 5 h24 (some a3) v1 x2 0) (fun _ _ => False) h22 a3 5 3 (60 + x23))) h20 (x2 >>> (20 &&& 31)) 40) (fun _ _ => False) h18 a3 5 2 (x19 - 50))) h16 (x2 >>> (13 &&& 31)) 100) (fun _ _ => False) h14 a3 5 4 (-100))) (fun _ _ => False) h12 a3 0)) (fun _ _ => False) h10 a3 4 1 (x11 - 40))) h8 (x2 >>> (6 &&& 31)) 90) (fun _ _ => False) h6 a3 4 0 (x7 - 100))) h4 x2 60) (fun _ _ => False) h1 a3 0))) h 4)) ∧ ((¬ 4 ≤ (v3 : Int32)) → (vL_cell t0 (fun x27 h26 => ((¬ (((x27 >>> (9 &&& 31)) &&& 3) : Int32) = 0) → (vL_builds_b55 t0 k20 Qn h26 v0 v1 v3 x27 60 x27 1 v3 v1)) ∧ (((((x27 >>> (9 &&& 31)) &&& 3) : Int32) = 0) → (vL_builds_b55 t0 k20 Qn h26 v0 v1 v3 x27 500 x27 1 v3 v1))) h v3))
set_option maxRecDepth 100000 in
set_option maxHeartbeats 4000000 in
theorem tL_builds_b20_o {p : Program} {l : Launch} {e : Env} {s : State} {m : MethodId} {args : Array Value} {below : List Frame} {meth : Method} {c : Code} {G : gG} {A : Nat → Prop} {b L : Nat} {xs : Nat → Int32} {Qn : gH → Prop} (X : gC p l s m args meth c G A cL_builds 8 none RL) (hX : va_X b L xs s s.heap) (hbl : b < s.heap.size) (hbA : ¬ A b) (hL : L ≤ 260) {j20 : Nat} (hj20 : j20 < 5) {k20 : gH → Option Nat → Option Nat → Int32 → Prop} (H20 : ∀ (h : gH) (v0 : Option Nat) (v1 : Option Nat) (v3 : Int32), k20 h v0 v1 v3 → V p l e rmL_builds s m args below meth c (MQ below (va_Qv Qn (gB G A) A) args s rmL_builds.cells rmL_builds.slots A) G A 8 h (3 + 20 * (j20 + 1)) (18 + 228 * (j20 + 1)) 20 [(0, va_rf v0), (1, va_rf v1), (2, .ref b), (3, .int v3)] []) {h : gH} {v0 : Option Nat} {v1 : Option Nat} {v3 : Int32} (w : vL_builds_b20_o G.2.2.1 k20 Qn h v0 v1 v3) : V p l e rmL_builds s m args below meth c (MQ below (va_Qv Qn (gB G A) A) args s rmL_builds.cells rmL_builds.slots A) G A 8 h (3 + 20 * j20) (18 + 228 * j20) 20 [(0, va_rf v0), (1, va_rf v1), (2, .ref b), (3, .int v3)] [] := by
  refine V_iload_n X dL_builds_20 3 rfl ?_
  refine V_iconst (y := 4) X dL_builds_21 (by decide) ?_
  obtain ⟨w1, w2⟩ := w
  refine V_icmp_ge (tgt := 136) X dL_builds_22 (by decide) (fun z => ?_) (fun z => ?_)
  · replace w := w1 z
    clear w1 w2
    refine V_aloadr_n X dL_builds_136 2 rfl ?_
    refine V_iconst (y := 4) X dL_builds_137 (by decide) ?_
    refine V_callSSi (As := [.ref b, .int 4]) (rest := []) (k1 := 3 + 20 * j20) (n1 := 18 + 228 * j20) X hX hbl hbA (cL_cell_ok X.2.2.2.2.2.2.2.2.1 hL w) lkL_34 dL_builds_138 ⟨(Nat.le_of_ble_eq_true rfl), (Nat.le_of_ble_eq_true rfl)⟩ rfl (Nat.le_of_ble_eq_true rfl) ⟨by show 3 + 20 * j20 + 0 ≤ 313; omega, by show 18 + 228 * j20 + 0 ≤ 3759; omega⟩ (by show 3 + 20 * j20 + 0 ≤ 3 + 20 * j20; omega) (by show 18 + 228 * j20 + 0 ≤ 18 + 228 * j20; omega) (fun x2 h1 w9 => ?_)
    replace w := w9
    clear w9
    refine V_istore_n (i0 := 3) X dL_builds_141 rfl (by decide) rfl ?_
    refine V_aload_n X dL_builds_142 1 rfl ?_
    refine V_iconst (y := 0) X dL_builds_143 (by decide) ?_
    obtain ⟨a3, rfl, w⟩ := w
    obtain ⟨fs, hh, w⟩ := w
    refine V_callZi (As := [.int 0]) (rest := []) (k1 := 9 + 20 * j20) (n1 := 107 + 228 * j20) X (cX11_addLine_ok X.2.2.2.2.2.2.2.2.1 w) lkL_53 hh (q9 := (RX11, TX11, 7)) rfl rfl dL_builds_144 ⟨(Nat.le_of_ble_eq_true rfl), (Nat.le_of_ble_eq_true rfl)⟩ rfl (Nat.le_of_ble_eq_true rfl) ⟨by show 3 + 20 * j20 + 6 ≤ 313; omega, by show 18 + 228 * j20 + 89 ≤ 3759; omega⟩ (by show 3 + 20 * j20 + 6 ≤ 9 + 20 * j20; omega) (by show 18 + 228 * j20 + 89 ≤ 107 + 228 * j20; omega) (fun x5 h4 w9 => ?_)
    replace w := w9
    clear w9
    refine V_pop X dL_builds_147 rfl ?_
    refine V_aloadr_n X dL_builds_148 1 rfl ?_
    refine V_iconst (y := 4) X dL_builds_149 (by decide) ?_
    refine V_iconst (y := 0) X dL_builds_150 (by decide) ?_
    refine V_iload_n X dL_builds_151 0 rfl ?_
    refine V_bipush (y := 60) X dL_builds_152 (by decide) ?_
    refine V_callSi (As := [.int x2, .int 60]) (rest := [.int 0, .int 4, .ref a3]) (k1 := 9 + 20 * j20) (n1 := 107 + 228 * j20) X (cL_low_ok X.2.2.2.2.2.2.2.2.1 w) lkL_40 dL_builds_154 ⟨(Nat.le_of_ble_eq_true rfl), (Nat.le_of_ble_eq_true rfl)⟩ rfl (Nat.le_of_ble_eq_true rfl) ⟨by show 9 + 20 * j20 + 0 ≤ 313; omega, by show 107 + 228 * j20 + 0 ≤ 3759; omega⟩ (by show 9 + 20 * j20 + 0 ≤ 9 + 20 * j20; omega) (by show 107 + 228 * j20 + 0 ≤ 107 + 228 * j20; omega) (fun x7 h6 w9 => ?_)
    replace w := w9
    clear w9
    refine V_bipush (y := 100) X dL_builds_157 (by decide) ?_
    refine V_isub X dL_builds_159 ?_
    obtain ⟨fs, hh, w⟩ := w
    refine V_callZi (As := [.int 4, .int 0, .int (x7 - 100)]) (rest := []) (k1 := 12 + 20 * j20) (n1 := 183 + 228 * j20) X (cX11_addChild_ok X.2.2.2.2.2.2.2.2.1 w) lkL_28 hh (q9 := (RX11, TX11, 7)) rfl rfl dL_builds_160 ⟨(Nat.le_of_ble_eq_true rfl), (Nat.le_of_ble_eq_true rfl)⟩ rfl (Nat.le_of_ble_eq_true rfl) ⟨by show 9 + 20 * j20 + 3 ≤ 313; omega, by show 107 + 228 * j20 + 76 ≤ 3759; omega⟩ (by show 9 + 20 * j20 + 3 ≤ 12 + 20 * j20; omega) (by show 107 + 228 * j20 + 76 ≤ 183 + 228 * j20; omega) (fun x9 h8 w9 => ?_)
    replace w := w9
    clear w9
    refine V_pop X dL_builds_163 rfl ?_
    refine V_aloadr_n X dL_builds_164 1 rfl ?_
    refine V_iconst (y := 4) X dL_builds_165 (by decide) ?_
    refine V_iconst (y := 1) X dL_builds_166 (by decide) ?_
    refine V_iload_n X dL_builds_167 0 rfl ?_
    refine V_bipush (y := 6) X dL_builds_168 (by decide) ?_
    refine V_ishr X dL_builds_170 ?_
    refine V_bipush (y := 90) X dL_builds_171 (by decide) ?_
    refine V_callSi (As := [.int (x2 >>> (6 &&& 31)), .int 90]) (rest := [.int 1, .int 4, .ref a3]) (k1 := 12 + 20 * j20) (n1 := 183 + 228 * j20) X (cL_low_ok X.2.2.2.2.2.2.2.2.1 w) lkL_40 dL_builds_173 ⟨(Nat.le_of_ble_eq_true rfl), (Nat.le_of_ble_eq_true rfl)⟩ rfl (Nat.le_of_ble_eq_true rfl) ⟨by show 12 + 20 * j20 + 0 ≤ 313; omega, by show 183 + 228 * j20 + 0 ≤ 3759; omega⟩ (by show 12 + 20 * j20 + 0 ≤ 12 + 20 * j20; omega) (by show 183 + 228 * j20 + 0 ≤ 183 + 228 * j20; omega) (fun x11 h10 w9 => ?_)
    replace w := w9
    clear w9
    refine V_bipush (y := 40) X dL_builds_176 (by decide) ?_
    refine V_isub X dL_builds_178 ?_
    obtain ⟨fs, hh, w⟩ := w
    refine V_callZi (As := [.int 4, .int 1, .int (x11 - 40)]) (rest := []) (k1 := 15 + 20 * j20) (n1 := 259 + 228 * j20) X (cX11_addChild_ok X.2.2.2.2.2.2.2.2.1 w) lkL_28 hh (q9 := (RX11, TX11, 7)) rfl rfl dL_builds_179 ⟨(Nat.le_of_ble_eq_true rfl), (Nat.le_of_ble_eq_true rfl)⟩ rfl (Nat.le_of_ble_eq_true rfl) ⟨by show 12 + 20 * j20 + 3 ≤ 313; omega, by show 183 + 228 * j20 + 76 ≤ 3759; omega⟩ (by show 12 + 20 * j20 + 3 ≤ 15 + 20 * j20; omega) (by show 183 + 228 * j20 + 76 ≤ 259 + 228 * j20; omega) (fun x13 h12 w9 => ?_)
    replace w := w9
    clear w9
    refine V_pop X dL_builds_182 rfl ?_
    refine V_aloadr_n X dL_builds_183 1 rfl ?_
    refine V_iconst (y := 0) X dL_builds_184 (by decide) ?_
    obtain ⟨fs, hh, w⟩ := w
    refine V_callZi (As := [.int 0]) (rest := []) (k1 := 21 + 20 * j20) (n1 := 348 + 228 * j20) X (cX11_addLine_ok X.2.2.2.2.2.2.2.2.1 w) lkL_53 hh (q9 := (RX11, TX11, 7)) rfl rfl dL_builds_185 ⟨(Nat.le_of_ble_eq_true rfl), (Nat.le_of_ble_eq_true rfl)⟩ rfl (Nat.le_of_ble_eq_true rfl) ⟨by show 15 + 20 * j20 + 6 ≤ 313; omega, by show 259 + 228 * j20 + 89 ≤ 3759; omega⟩ (by show 15 + 20 * j20 + 6 ≤ 21 + 20 * j20; omega) (by show 259 + 228 * j20 + 89 ≤ 348 + 228 * j20; omega) (fun x15 h14 w9 => ?_)
    replace w := w9
    clear w9
    refine V_pop X dL_builds_188 rfl ?_
    refine V_aloadr_n X dL_builds_189 1 rfl ?_
    refine V_iconst (y := 5) X dL_builds_190 (by decide) ?_
    refine V_iconst (y := 4) X dL_builds_191 (by decide) ?_
    refine V_bipush (y := (-100)) X dL_builds_192 (by decide) ?_
    obtain ⟨fs, hh, w⟩ := w
    refine V_callZi (As := [.int 5, .int 4, .int (-100)]) (rest := []) (k1 := 24 + 20 * j20) (n1 := 424 + 228 * j20) X (cX11_addChild_ok X.2.2.2.2.2.2.2.2.1 w) lkL_28 hh (q9 := (RX11, TX11, 7)) rfl rfl dL_builds_194 ⟨(Nat.le_of_ble_eq_true rfl), (Nat.le_of_ble_eq_true rfl)⟩ rfl (Nat.le_of_ble_eq_true rfl) ⟨by show 21 + 20 * j20 + 3 ≤ 313; omega, by show 348 + 228 * j20 + 76 ≤ 3759; omega⟩ (by show 21 + 20 * j20 + 3 ≤ 24 + 20 * j20; omega) (by show 348 + 228 * j20 + 76 ≤ 424 + 228 * j20; omega) (fun x17 h16 w9 => ?_)
    replace w := w9
    clear w9
    refine V_pop X dL_builds_197 rfl ?_
    refine V_aloadr_n X dL_builds_198 1 rfl ?_
    refine V_iconst (y := 5) X dL_builds_199 (by decide) ?_
    refine V_iconst (y := 2) X dL_builds_200 (by decide) ?_
    refine V_iload_n X dL_builds_201 0 rfl ?_
    refine V_bipush (y := 13) X dL_builds_202 (by decide) ?_
    refine V_ishr X dL_builds_204 ?_
    refine V_bipush (y := 100) X dL_builds_205 (by decide) ?_
    refine V_callSi (As := [.int (x2 >>> (13 &&& 31)), .int 100]) (rest := [.int 2, .int 5, .ref a3]) (k1 := 24 + 20 * j20) (n1 := 424 + 228 * j20) X (cL_low_ok X.2.2.2.2.2.2.2.2.1 w) lkL_40 dL_builds_207 ⟨(Nat.le_of_ble_eq_true rfl), (Nat.le_of_ble_eq_true rfl)⟩ rfl (Nat.le_of_ble_eq_true rfl) ⟨by show 24 + 20 * j20 + 0 ≤ 313; omega, by show 424 + 228 * j20 + 0 ≤ 3759; omega⟩ (by show 24 + 20 * j20 + 0 ≤ 24 + 20 * j20; omega) (by show 424 + 228 * j20 + 0 ≤ 424 + 228 * j20; omega) (fun x19 h18 w9 => ?_)
    replace w := w9
    clear w9
    refine V_bipush (y := 50) X dL_builds_210 (by decide) ?_
    refine V_isub X dL_builds_212 ?_
    obtain ⟨fs, hh, w⟩ := w
    refine V_callZi (As := [.int 5, .int 2, .int (x19 - 50)]) (rest := []) (k1 := 27 + 20 * j20) (n1 := 500 + 228 * j20) X (cX11_addChild_ok X.2.2.2.2.2.2.2.2.1 w) lkL_28 hh (q9 := (RX11, TX11, 7)) rfl rfl dL_builds_213 ⟨(Nat.le_of_ble_eq_true rfl), (Nat.le_of_ble_eq_true rfl)⟩ rfl (Nat.le_of_ble_eq_true rfl) ⟨by show 24 + 20 * j20 + 3 ≤ 313; omega, by show 424 + 228 * j20 + 76 ≤ 3759; omega⟩ (by show 24 + 20 * j20 + 3 ≤ 27 + 20 * j20; omega) (by show 424 + 228 * j20 + 76 ≤ 500 + 228 * j20; omega) (fun x21 h20 w9 => ?_)
    replace w := w9
    clear w9
    refine V_pop X dL_builds_216 rfl ?_
    refine V_aloadr_n X dL_builds_217 1 rfl ?_
    refine V_iconst (y := 5) X dL_builds_218 (by decide) ?_
    refine V_iconst (y := 3) X dL_builds_219 (by decide) ?_
    refine V_bipush (y := 60) X dL_builds_220 (by decide) ?_
    refine V_iload_n X dL_builds_222 0 rfl ?_
    refine V_bipush (y := 20) X dL_builds_223 (by decide) ?_
    refine V_ishr X dL_builds_225 ?_
    refine V_bipush (y := 40) X dL_builds_226 (by decide) ?_
    refine V_callSi (As := [.int (x2 >>> (20 &&& 31)), .int 40]) (rest := [.int 60, .int 3, .int 5, .ref a3]) (k1 := 27 + 20 * j20) (n1 := 500 + 228 * j20) X (cL_low_ok X.2.2.2.2.2.2.2.2.1 w) lkL_40 dL_builds_228 ⟨(Nat.le_of_ble_eq_true rfl), (Nat.le_of_ble_eq_true rfl)⟩ rfl (Nat.le_of_ble_eq_true rfl) ⟨by show 27 + 20 * j20 + 0 ≤ 313; omega, by show 500 + 228 * j20 + 0 ≤ 3759; omega⟩ (by show 27 + 20 * j20 + 0 ≤ 27 + 20 * j20; omega) (by show 500 + 228 * j20 + 0 ≤ 500 + 228 * j20; omega) (fun x23 h22 w9 => ?_)
    replace w := w9
    clear w9
    refine V_iadd X dL_builds_231 ?_
    obtain ⟨fs, hh, w⟩ := w
    refine V_callZi (As := [.int 5, .int 3, .int (60 + x23)]) (rest := []) (k1 := 30 + 20 * j20) (n1 := 576 + 228 * j20) X (cX11_addChild_ok X.2.2.2.2.2.2.2.2.1 w) lkL_28 hh (q9 := (RX11, TX11, 7)) rfl rfl dL_builds_232 ⟨(Nat.le_of_ble_eq_true rfl), (Nat.le_of_ble_eq_true rfl)⟩ rfl (Nat.le_of_ble_eq_true rfl) ⟨by show 27 + 20 * j20 + 3 ≤ 313; omega, by show 500 + 228 * j20 + 76 ≤ 3759; omega⟩ (by show 27 + 20 * j20 + 3 ≤ 30 + 20 * j20; omega) (by show 500 + 228 * j20 + 76 ≤ 576 + 228 * j20; omega) (fun x25 h24 w9 => ?_)
    replace w := w9
    clear w9
    refine V_pop X dL_builds_235 rfl ?_
    refine V_iconst (y := 0) X dL_builds_236 (by decide) ?_
    refine V_istore X dL_builds_237 (by decide) rfl ?_
    exact V.widen (k1 := 130 + 3 * (5 - 5)) (n1 := 1716 + 75 * (5 - 5)) (by omega) (by omega) <| V.sub [2, 3, 4, 1, 0] rfl (tL_builds_b239 X hX hbl hbA hL  5 _ _ _ _ _ (Nat.le_refl _) w)
  · replace w := w2 z
    clear w1 w2
    refine V_aloadr_n X dL_builds_25 2 rfl ?_
    refine V_iload_n X dL_builds_26 3 rfl ?_
    refine V_callSSi (As := [.ref b, .int v3]) (rest := []) (k1 := 3 + 20 * j20) (n1 := 18 + 228 * j20) X hX hbl hbA (cL_cell_ok X.2.2.2.2.2.2.2.2.1 hL w) lkL_34 dL_builds_27 ⟨(Nat.le_of_ble_eq_true rfl), (Nat.le_of_ble_eq_true rfl)⟩ rfl (Nat.le_of_ble_eq_true rfl) ⟨by show 3 + 20 * j20 + 0 ≤ 313; omega, by show 18 + 228 * j20 + 0 ≤ 3759; omega⟩ (by show 3 + 20 * j20 + 0 ≤ 3 + 20 * j20; omega) (by show 18 + 228 * j20 + 0 ≤ 18 + 228 * j20; omega) (fun x27 h26 w9 => ?_)
    replace w := w9
    clear w9
    refine V_istore X dL_builds_30 (by decide) rfl ?_
    refine V_aload_n X dL_builds_32 2 rfl ?_
    refine V_iload_n X dL_builds_33 4 rfl ?_
    refine V_iconst (y := 1) X dL_builds_34 (by decide) ?_
    refine V_iload X dL_builds_35 0 rfl ?_
    refine V_iload X dL_builds_37 0 rfl ?_
    refine V_bipush (y := 9) X dL_builds_39 (by decide) ?_
    refine V_ishr X dL_builds_41 ?_
    refine V_iconst (y := 3) X dL_builds_42 (by decide) ?_
    refine V_iand X dL_builds_43 ?_
    obtain ⟨w1, w2⟩ := w
    refine V_if_ne (tgt := 53) X dL_builds_44 (by decide) (fun z => ?_) (fun z => ?_)
    · replace w := w1 z
      clear w1 w2
      refine V_bipush (y := 60) X dL_builds_53 (by decide) ?_
      exact V.widen (k1 := 3 + 20 * j20) (n1 := 18 + 228 * j20) (by omega) (by omega) <| V.sub [1, 2, 3, 4, 0] rfl (tL_builds_b55 X hX hbl hbA hL hj20 H20 w)
    · replace w := w2 z
      clear w1 w2
      refine V_sipush (y := 500) X dL_builds_47 (by decide) ?_
      refine V_goto (tgt := 55) X dL_builds_50 (by decide) ?_
      exact V.widen (k1 := 3 + 20 * j20) (n1 := 18 + 228 * j20) (by omega) (by omega) <| V.sub [1, 2, 3, 4, 0] rfl (tL_builds_b55 X hX hbl hbA hL hj20 H20 w)
def vL_builds_b20 (t0 : Nat)  (Qn : gH → Prop) (n : Nat) : gH → Option Nat → Option Nat → Int32 → Prop := Nat.rec (motive := fun _ => gH → Option Nat → Option Nat → Int32 → Prop) (fun _ _ _ _ => False) (fun _ k20 => vL_builds_b20_o t0 k20 Qn) n
set_option maxRecDepth 100000 in
set_option maxHeartbeats 4000000 in
theorem tL_builds_b20 {p : Program} {l : Launch} {e : Env} {s : State} {m : MethodId} {args : Array Value} {below : List Frame} {meth : Method} {c : Code} {G : gG} {A : Nat → Prop} {b L : Nat} {xs : Nat → Int32} {Qn : gH → Prop} (X : gC p l s m args meth c G A cL_builds 8 none RL) (hX : va_X b L xs s s.heap) (hbl : b < s.heap.size) (hbA : ¬ A b) (hL : L ≤ 260)   : ∀ (n : Nat) (h : gH) (v0 : Option Nat) (v1 : Option Nat) (v3 : Int32) (hn : n ≤ 5) (w : vL_builds_b20 G.2.2.1  Qn n h v0 v1 v3), V p l e rmL_builds s m args below meth c (MQ below (va_Qv Qn (gB G A) A) args s rmL_builds.cells rmL_builds.slots A) G A 8 h (3 + 20 * (5 - n)) (18 + 228 * (5 - n)) 20 [(0, va_rf v0), (1, va_rf v1), (2, .ref b), (3, .int v3)] [] := by
  intro n
  induction n with
  | zero => intro h v0 v1 v3 hn w; exact False.elim w
  | succ n ih =>
    intro h v0 v1 v3 hn w
    have e9 : 5 - n = (5 - (n + 1)) + 1 := by omega
    exact tL_builds_b20_o (j20 := 5 - (n + 1)) X hX hbl hbA hL (by omega) (fun h v0 v1 v3 w => by have z := ih h v0 v1 v3 (by omega) w; rw [e9] at z; exact z) w
def vL_builds (t0 : Nat)  (Qn : gH → Prop) (h : gH) (v0 : Option Nat) (v1 : Option Nat) : Prop := nn v0 (fun a1 => io h a1 14 (vX11_addParameter t0 (fun x3 h2 => io h2 a1 14 (vX11_addParameter t0 (fun x5 h4 => io h4 a1 14 (vX11_addParameter t0 (fun x7 h6 => vL_builds_b20 t0  Qn 5 h6 (some a1) v1 0) (fun _ _ => False) h4 a1 2)) (fun _ _ => False) h2 a1 1)) (fun _ _ => False) h a1 0))
set_option maxRecDepth 100000 in
set_option maxHeartbeats 4000000 in
theorem tL_builds {p : Program} {l : Launch} {e : Env} {s : State} {m : MethodId} {args : Array Value} {below : List Frame} {meth : Method} {c : Code} {G : gG} {A : Nat → Prop} {b L : Nat} {xs : Nat → Int32} {Qn : gH → Prop} (X : gC p l s m args meth c G A cL_builds 8 none RL) (hX : va_X b L xs s s.heap) (hbl : b < s.heap.size) (hbA : ¬ A b) (hL : L ≤ 260)   {h : gH} {v0 : Option Nat} {v1 : Option Nat} (w : vL_builds G.2.2.1  Qn h v0 v1) : V p l e rmL_builds s m args below meth c (MQ below (va_Qv Qn (gB G A) A) args s rmL_builds.cells rmL_builds.slots A) G A 8 h (0) (0) 0 [(0, va_rf v0), (1, va_rf v1), (2, .ref b)] [] := by
  refine V_aload_n X dL_builds_0 0 rfl ?_
  refine V_iconst (y := 0) X dL_builds_1 (by decide) ?_
  obtain ⟨a1, rfl, w⟩ := w
  obtain ⟨fs, hh, w⟩ := w
  refine V_callZi (As := [.int 0]) (rest := []) (k1 := 1) (n1 := 6) X (cX11_addParameter_ok X.2.2.2.2.2.2.2.2.1 w) lkL_31 hh (q9 := (RX11, TX11, 7)) rfl rfl dL_builds_2 ⟨(Nat.le_of_ble_eq_true rfl), (Nat.le_of_ble_eq_true rfl)⟩ rfl (Nat.le_of_ble_eq_true rfl) ⟨by show 0 + 1 ≤ 313; omega, by show 0 + 6 ≤ 3759; omega⟩ (by show 0 + 1 ≤ 1; omega) (by show 0 + 6 ≤ 6; omega) (fun x3 h2 w9 => ?_)
  replace w := w9
  clear w9
  refine V_pop X dL_builds_5 rfl ?_
  refine V_aloadr_n X dL_builds_6 0 rfl ?_
  refine V_iconst (y := 1) X dL_builds_7 (by decide) ?_
  obtain ⟨fs, hh, w⟩ := w
  refine V_callZi (As := [.int 1]) (rest := []) (k1 := 2) (n1 := 12) X (cX11_addParameter_ok X.2.2.2.2.2.2.2.2.1 w) lkL_31 hh (q9 := (RX11, TX11, 7)) rfl rfl dL_builds_8 ⟨(Nat.le_of_ble_eq_true rfl), (Nat.le_of_ble_eq_true rfl)⟩ rfl (Nat.le_of_ble_eq_true rfl) ⟨by show 1 + 1 ≤ 313; omega, by show 6 + 6 ≤ 3759; omega⟩ (by show 1 + 1 ≤ 2; omega) (by show 6 + 6 ≤ 12; omega) (fun x5 h4 w9 => ?_)
  replace w := w9
  clear w9
  refine V_pop X dL_builds_11 rfl ?_
  refine V_aloadr_n X dL_builds_12 0 rfl ?_
  refine V_iconst (y := 2) X dL_builds_13 (by decide) ?_
  obtain ⟨fs, hh, w⟩ := w
  refine V_callZi (As := [.int 2]) (rest := []) (k1 := 3) (n1 := 18) X (cX11_addParameter_ok X.2.2.2.2.2.2.2.2.1 w) lkL_31 hh (q9 := (RX11, TX11, 7)) rfl rfl dL_builds_14 ⟨(Nat.le_of_ble_eq_true rfl), (Nat.le_of_ble_eq_true rfl)⟩ rfl (Nat.le_of_ble_eq_true rfl) ⟨by show 2 + 1 ≤ 313; omega, by show 12 + 6 ≤ 3759; omega⟩ (by show 2 + 1 ≤ 3; omega) (by show 12 + 6 ≤ 18; omega) (fun x7 h6 w9 => ?_)
  replace w := w9
  clear w9
  refine V_pop X dL_builds_17 rfl ?_
  refine V_iconst (y := 0) X dL_builds_18 (by decide) ?_
  refine V_istore_n (i0 := 3) X dL_builds_19 rfl (by decide) rfl ?_
  exact V.widen (k1 := 3 + 20 * (5 - 5)) (n1 := 18 + 228 * (5 - 5)) (by omega) (by omega) <| V.sub [1, 2, 3, 0] rfl (tL_builds_b20 X hX hbl hbA hL  5 _ _ _ _ (Nat.le_refl _) w)
theorem cL_builds_ok {l : Launch} {G : gG} {h : gH} (hls : l.stackTraces = false) {b L : Nat} {xs : Nat → Int32} (hL : L ≤ 260) {Qn : gH → Prop} {v0 : Option Nat} {v1 : Option Nat} (w : vL_builds G.2.2.1 Qn h v0 v1) : gSv l yL_builds cL_builds 8 none rmL_builds rmL_builds.cells rmL_builds.slots G h [va_rf v0, va_rf v1, .ref b] b L xs Qn := by
  cases v0 <;>
  cases v1 <;>
  exact gSv.of (by decide +kernel) hls (Nat.le_of_ble_eq_true rfl) rfl rfl (fun p e s m below meth c A X hX hbl hbA => tL_builds X hX hbl hbA hL w)
