/-! AnimationControllerLaw.law([I)Z -/
abbrev rmL_law : Room := { frames := 15, cells := 22787, slots := 140082, locals := 370 }
def vL_law_b40 (t0 : Nat)  (Qn : Int32 → gH → Prop) (h : gH)  : Prop := Qn 0 h
set_option maxRecDepth 100000 in
set_option maxHeartbeats 4000000 in
theorem tL_law_b40 {p : Program} {l : Launch} {e : Env} {s : State} {m : MethodId} {below : List Frame} {meth : Method} {c : Code} {G : gG} {b L : Nat} {xs : Nat → Int32} {Qn : Int32 → gH → Prop} (X : gC p l s m #[Value.ref b] meth c G (fun q => s.heap.size ≤ q) cL_law 19 (some .boolean) RL) (hX : va_X b L xs s s.heap) (hbl : b < s.heap.size) (hbA : ¬ (fun q : Nat => s.heap.size ≤ q) b) (hL : L ≤ 260) (hNc : gNc s) (hQ : ∀ (x : Int32) (h : gH), Qn x h → x = 1)   {h : gH}  (w : vL_law_b40 G.2.2.1  Qn h ) : V p l e room_1 s m #[Value.ref b] below meth c (lw_Z below #[Value.ref b] s) G (fun q => s.heap.size ≤ q) 19 h (127) (2241) 40 [] [] := by
  refine V_iconst (y := 0) X dL_law_40 (by decide) ?_
  exact V_lawret X (hQ _ _ w) (by show 127 ≤ 636012; omega) (by show 2241 ≤ 7193589; omega) dL_law_41
def vL_law_b518 (t0 : Nat)  (Qn : Int32 → gH → Prop) (h : gH)  : Prop := Qn 0 h
set_option maxRecDepth 100000 in
set_option maxHeartbeats 4000000 in
theorem tL_law_b518 {p : Program} {l : Launch} {e : Env} {s : State} {m : MethodId} {below : List Frame} {meth : Method} {c : Code} {G : gG} {b L : Nat} {xs : Nat → Int32} {Qn : Int32 → gH → Prop} (X : gC p l s m #[Value.ref b] meth c G (fun q => s.heap.size ≤ q) cL_law 19 (some .boolean) RL) (hX : va_X b L xs s s.heap) (hbl : b < s.heap.size) (hbA : ¬ (fun q : Nat => s.heap.size ≤ q) b) (hL : L ≤ 260) (hNc : gNc s) (hQ : ∀ (x : Int32) (h : gH), Qn x h → x = 1)   {h : gH}  (w : vL_law_b518 G.2.2.1  Qn h ) : V p l e room_1 s m #[Value.ref b] below meth c (lw_Z below #[Value.ref b] s) G (fun q => s.heap.size ≤ q) 19 h (20624) (127328) 518 [] [] := by
  refine V_iconst (y := 0) X dL_law_518 (by decide) ?_
  exact V_lawret X (hQ _ _ w) (by show 20624 ≤ 636012; omega) (by show 127328 ≤ 7193589; omega) dL_law_519
def vL_law_b579 (t0 : Nat)  (Qn : Int32 → gH → Prop) (h : gH)  : Prop := Qn 0 h
set_option maxRecDepth 100000 in
set_option maxHeartbeats 4000000 in
theorem tL_law_b579 {p : Program} {l : Launch} {e : Env} {s : State} {m : MethodId} {below : List Frame} {meth : Method} {c : Code} {G : gG} {b L : Nat} {xs : Nat → Int32} {Qn : Int32 → gH → Prop} (X : gC p l s m #[Value.ref b] meth c G (fun q => s.heap.size ≤ q) cL_law 19 (some .boolean) RL) (hX : va_X b L xs s s.heap) (hbl : b < s.heap.size) (hbA : ¬ (fun q : Nat => s.heap.size ≤ q) b) (hL : L ≤ 260) (hNc : gNc s) (hQ : ∀ (x : Int32) (h : gH), Qn x h → x = 1)   {h : gH}  (w : vL_law_b579 G.2.2.1  Qn h ) : V p l e room_1 s m #[Value.ref b] below meth c (lw_Z below #[Value.ref b] s) G (fun q => s.heap.size ≤ q) 19 h (20932) (129408) 579 [] [] := by
  refine V_iconst (y := 0) X dL_law_579 (by decide) ?_
  exact V_lawret X (hQ _ _ w) (by show 20932 ≤ 636012; omega) (by show 129408 ≤ 7193589; omega) dL_law_580
def vL_law_b650 (t0 : Nat)  (Qn : Int32 → gH → Prop) (h : gH) (s0 : Int32) : Prop := Qn s0 h
set_option maxRecDepth 100000 in
set_option maxHeartbeats 4000000 in
theorem tL_law_b650 {p : Program} {l : Launch} {e : Env} {s : State} {m : MethodId} {below : List Frame} {meth : Method} {c : Code} {G : gG} {b L : Nat} {xs : Nat → Int32} {Qn : Int32 → gH → Prop} (X : gC p l s m #[Value.ref b] meth c G (fun q => s.heap.size ≤ q) cL_law 19 (some .boolean) RL) (hX : va_X b L xs s s.heap) (hbl : b < s.heap.size) (hbA : ¬ (fun q : Nat => s.heap.size ≤ q) b) (hL : L ≤ 260) (hNc : gNc s) (hQ : ∀ (x : Int32) (h : gH), Qn x h → x = 1)   {h : gH} {s0 : Int32} (w : vL_law_b650 G.2.2.1  Qn h s0) : V p l e room_1 s m #[Value.ref b] below meth c (lw_Z below #[Value.ref b] s) G (fun q => s.heap.size ≤ q) 19 h (20938) (129444) 650 [] [.int s0] := by
  exact V_lawret X (hQ _ _ w) (by show 20938 ≤ 636012; omega) (by show 129444 ≤ 7193589; omega) dL_law_650
def vL_law_b649 (t0 : Nat)  (Qn : Int32 → gH → Prop) (h : gH)  : Prop := vL_law_b650 t0  Qn h 0
set_option maxRecDepth 100000 in
set_option maxHeartbeats 4000000 in
theorem tL_law_b649 {p : Program} {l : Launch} {e : Env} {s : State} {m : MethodId} {below : List Frame} {meth : Method} {c : Code} {G : gG} {b L : Nat} {xs : Nat → Int32} {Qn : Int32 → gH → Prop} (X : gC p l s m #[Value.ref b] meth c G (fun q => s.heap.size ≤ q) cL_law 19 (some .boolean) RL) (hX : va_X b L xs s s.heap) (hbl : b < s.heap.size) (hbA : ¬ (fun q : Nat => s.heap.size ≤ q) b) (hL : L ≤ 260) (hNc : gNc s) (hQ : ∀ (x : Int32) (h : gH), Qn x h → x = 1)   {h : gH}  (w : vL_law_b649 G.2.2.1  Qn h ) : V p l e room_1 s m #[Value.ref b] below meth c (lw_Z below #[Value.ref b] s) G (fun q => s.heap.size ≤ q) 19 h (20938) (129444) 649 [] [] := by
  refine V_iconst (y := 0) X dL_law_649 (by decide) ?_
  exact V.widen (k1 := 20938) (n1 := 129444) (by omega) (by omega) <| V.sub [] rfl (tL_law_b650 X hX hbl hbA hL hNc hQ  w)
def vL_law_b141 (t0 : Nat)  (Qn : Int32 → gH → Prop) (h : gH)  : Prop := Qn 0 h
set_option maxRecDepth 100000 in
set_option maxHeartbeats 4000000 in
theorem tL_law_b141 {p : Program} {l : Launch} {e : Env} {s : State} {m : MethodId} {below : List Frame} {meth : Method} {c : Code} {G : gG} {b L : Nat} {xs : Nat → Int32} {Qn : Int32 → gH → Prop} (X : gC p l s m #[Value.ref b] meth c G (fun q => s.heap.size ≤ q) cL_law 19 (some .boolean) RL) (hX : va_X b L xs s s.heap) (hbl : b < s.heap.size) (hbA : ¬ (fun q : Nat => s.heap.size ≤ q) b) (hL : L ≤ 260) (hNc : gNc s) (hQ : ∀ (x : Int32) (h : gH), Qn x h → x = 1)   {h : gH}  (w : vL_law_b141 G.2.2.1  Qn h ) : V p l e room_1 s m #[Value.ref b] below meth c (lw_Z below #[Value.ref b] s) G (fun q => s.heap.size ≤ q) 19 h (20304) (125184) 141 [] [] := by
  refine V_iconst (y := 0) X dL_law_141 (by decide) ?_
  exact V_lawret X (hQ _ _ w) (by show 20304 ≤ 636012; omega) (by show 125184 ≤ 7193589; omega) dL_law_142
def vL_law_b233 (t0 : Nat)  (Qn : Int32 → gH → Prop) (h : gH)  : Prop := Qn 0 h
set_option maxRecDepth 100000 in
set_option maxHeartbeats 4000000 in
theorem tL_law_b233 {p : Program} {l : Launch} {e : Env} {s : State} {m : MethodId} {below : List Frame} {meth : Method} {c : Code} {G : gG} {b L : Nat} {xs : Nat → Int32} {Qn : Int32 → gH → Prop} (X : gC p l s m #[Value.ref b] meth c G (fun q => s.heap.size ≤ q) cL_law 19 (some .boolean) RL) (hX : va_X b L xs s s.heap) (hbl : b < s.heap.size) (hbA : ¬ (fun q : Nat => s.heap.size ≤ q) b) (hL : L ≤ 260) (hNc : gNc s) (hQ : ∀ (x : Int32) (h : gH), Qn x h → x = 1)   {h : gH}  (w : vL_law_b233 G.2.2.1  Qn h ) : V p l e room_1 s m #[Value.ref b] below meth c (lw_Z below #[Value.ref b] s) G (fun q => s.heap.size ≤ q) 19 h (20304) (125184) 233 [] [] := by
  refine V_iconst (y := 0) X dL_law_233 (by decide) ?_
  exact V_lawret X (hQ _ _ w) (by show 20304 ≤ 636012; omega) (by show 125184 ≤ 7193589; omega) dL_law_234
def vL_law_b300 (t0 : Nat)  (Qn : Int32 → gH → Prop) (h : gH)  : Prop := Qn 0 h
set_option maxRecDepth 100000 in
set_option maxHeartbeats 4000000 in
theorem tL_law_b300 {p : Program} {l : Launch} {e : Env} {s : State} {m : MethodId} {below : List Frame} {meth : Method} {c : Code} {G : gG} {b L : Nat} {xs : Nat → Int32} {Qn : Int32 → gH → Prop} (X : gC p l s m #[Value.ref b] meth c G (fun q => s.heap.size ≤ q) cL_law 19 (some .boolean) RL) (hX : va_X b L xs s s.heap) (hbl : b < s.heap.size) (hbA : ¬ (fun q : Nat => s.heap.size ≤ q) b) (hL : L ≤ 260) (hNc : gNc s) (hQ : ∀ (x : Int32) (h : gH), Qn x h → x = 1)   {h : gH}  (w : vL_law_b300 G.2.2.1  Qn h ) : V p l e room_1 s m #[Value.ref b] below meth c (lw_Z below #[Value.ref b] s) G (fun q => s.heap.size ≤ q) 19 h (20304) (125184) 300 [] [] := by
  refine V_iconst (y := 0) X dL_law_300 (by decide) ?_
  exact V_lawret X (hQ _ _ w) (by show 20304 ≤ 636012; omega) (by show 125184 ≤ 7193589; omega) dL_law_301
def vL_law_b436 (t0 : Nat)  (Qn : Int32 → gH → Prop) (h : gH)  : Prop := Qn 0 h
set_option maxRecDepth 100000 in
set_option maxHeartbeats 4000000 in
theorem tL_law_b436 {p : Program} {l : Launch} {e : Env} {s : State} {m : MethodId} {below : List Frame} {meth : Method} {c : Code} {G : gG} {b L : Nat} {xs : Nat → Int32} {Qn : Int32 → gH → Prop} (X : gC p l s m #[Value.ref b] meth c G (fun q => s.heap.size ≤ q) cL_law 19 (some .boolean) RL) (hX : va_X b L xs s s.heap) (hbl : b < s.heap.size) (hbA : ¬ (fun q : Nat => s.heap.size ≤ q) b) (hL : L ≤ 260) (hNc : gNc s) (hQ : ∀ (x : Int32) (h : gH), Qn x h → x = 1)   {h : gH}  (w : vL_law_b436 G.2.2.1  Qn h ) : V p l e room_1 s m #[Value.ref b] below meth c (lw_Z below #[Value.ref b] s) G (fun q => s.heap.size ≤ q) 19 h (20304) (125184) 436 [] [] := by
  refine V_iconst (y := 0) X dL_law_436 (by decide) ?_
  exact V_lawret X (hQ _ _ w) (by show 20304 ≤ 636012; omega) (by show 125184 ≤ 7193589; omega) dL_law_437
def vL_law_b388 (t0 : Nat) (k65 : gH → Option Nat → Option Nat → Int32 → Int32 → Prop) (Qn : Int32 → gH → Prop) (h : gH) (v1 : Option Nat) (v2 : Option Nat) (v3 : Int32) (v4 : Int32) (v6 : Int32) (v7 : Int32) (v13 : Int32) (v14 : Int32) (v15 : Int64) : Prop := vL_tale t0 (fun x2 h1 => (((x2 : Int64) = v15) → (nn v1 (fun a3 => io h1 a3 14 (vX11_restore t0 (fun x5 h4 => vL_tick t0 (fun x7 h6 => ((¬ (x7 : Int32) = (v13 + v14)) → (vL_law_b436 t0  Qn h6 )) ∧ (((x7 : Int32) = (v13 + v14)) → (vL_tale t0 (fun x9 h8 => (((x9 : Int64) = v15) → (k65 h8 (some a3) v2 v3 (v4 + 1))) ∧ ((¬ (x9 : Int64) = v15) → (vL_law_b436 t0  Qn h8 ))) h6 (some a3)))) h4 a3 (v6 + v7)) (fun _ _ => False) h1 a3 (v4 &&& 1))))) ∧ ((¬ (x2 : Int64) = v15) → (Qn 0 h1))) h v1
set_option maxRecDepth 100000 in
set_option maxHeartbeats 4000000 in
theorem tL_law_b388 {p : Program} {l : Launch} {e : Env} {s : State} {m : MethodId} {below : List Frame} {meth : Method} {c : Code} {G : gG} {b L : Nat} {xs : Nat → Int32} {Qn : Int32 → gH → Prop} (X : gC p l s m #[Value.ref b] meth c G (fun q => s.heap.size ≤ q) cL_law 19 (some .boolean) RL) (hX : va_X b L xs s s.heap) (hbl : b < s.heap.size) (hbA : ¬ (fun q : Nat => s.heap.size ≤ q) b) (hL : L ≤ 260) (hNc : gNc s) (hQ : ∀ (x : Int32) (h : gH), Qn x h → x = 1) {j65 : Nat} (hj65 : j65 < 8) {k65 : gH → Option Nat → Option Nat → Int32 → Int32 → Prop} (H65 : ∀ (h : gH) (v1 : Option Nat) (v2 : Option Nat) (v3 : Int32) (v4 : Int32), k65 h v1 v2 v3 v4 → V p l e room_1 s m #[Value.ref b] below meth c (lw_Z below #[Value.ref b] s) G (fun q => s.heap.size ≤ q) 19 h (440 + 2483 * (j65 + 1)) (6000 + 14898 * (j65 + 1)) 65 [(0, .ref b), (1, va_rf v1), (2, va_rf v2), (3, .int v3), (4, .int v4)] []) {h : gH} {v1 : Option Nat} {v2 : Option Nat} {v3 : Int32} {v4 : Int32} {v6 : Int32} {v7 : Int32} {v13 : Int32} {v14 : Int32} {v15 : Int64} (w : vL_law_b388 G.2.2.1 k65 Qn h v1 v2 v3 v4 v6 v7 v13 v14 v15) : V p l e room_1 s m #[Value.ref b] below meth c (lw_Z below #[Value.ref b] s) G (fun q => s.heap.size ≤ q) 19 h (2327 + 2483 * j65) (17322 + 14898 * j65) 388 [(0, .ref b), (1, va_rf v1), (2, va_rf v2), (3, .int v3), (4, .int v4), (6, .int v6), (7, .int v7), (13, .int v13), (14, .int v14), (15, .long v15)] [] := by
  refine V_aload_n X dL_law_388 1 rfl ?_
  refine V_callSl (As := [va_rf v1]) (rest := []) (k1 := 2623 + 2483 * j65) (n1 := 19098 + 14898 * j65) X (cL_tale_ok X.2.2.2.2.2.2.2.2.1 w) lkL_172 dL_law_389 ⟨(Nat.le_of_ble_eq_true rfl), (Nat.le_of_ble_eq_true rfl)⟩ rfl (Nat.le_of_ble_eq_true rfl) ⟨by show 2327 + 2483 * j65 + 296 ≤ 636012; omega, by show 17322 + 14898 * j65 + 1776 ≤ 7193589; omega⟩ (by show 2327 + 2483 * j65 + 296 ≤ 2623 + 2483 * j65; omega) (by show 17322 + 14898 * j65 + 1776 ≤ 19098 + 14898 * j65; omega) (fun x2 h1 w9 => ?_)
  replace w := w9
  clear w9
  refine V_lload X dL_law_392 9 rfl ?_
  refine V_lcmp X dL_law_394 ?_
  obtain ⟨w1, w2⟩ := w
  refine V_if_eq (tgt := 400) X dL_law_395 (by decide) (fun z => ?_) (fun z => ?_)
  · replace w := w1 ((lg_cmp_eq _ _).mp z)
    clear w1 w2
    refine V_aload_n X dL_law_400 1 rfl ?_
    refine V_iload X dL_law_401 4 rfl ?_
    refine V_iconst (y := 1) X dL_law_403 (by decide) ?_
    refine V_iand X dL_law_404 ?_
    obtain ⟨a3, rfl, w⟩ := w
    obtain ⟨fs, hh, w⟩ := w
    refine V_callZi (As := [.int (v4 &&& 1)]) (rest := []) (k1 := 2625 + 2483 * j65) (n1 := 19110 + 14898 * j65) X (cX11_restore_ok X.2.2.2.2.2.2.2.2.1 w) lkL_189 hh (q9 := (RX11, TX11, 7)) rfl rfl dL_law_405 ⟨(Nat.le_of_ble_eq_true rfl), (Nat.le_of_ble_eq_true rfl)⟩ rfl (Nat.le_of_ble_eq_true rfl) ⟨by show 2623 + 2483 * j65 + 2 ≤ 636012; omega, by show 19098 + 14898 * j65 + 12 ≤ 7193589; omega⟩ (by show 2623 + 2483 * j65 + 2 ≤ 2625 + 2483 * j65; omega) (by show 19098 + 14898 * j65 + 12 ≤ 19110 + 14898 * j65; omega) (fun x5 h4 w9 => ?_)
    replace w := w9
    clear w9
    refine V_pop X dL_law_408 rfl ?_
    refine V_aloadr_n X dL_law_409 1 rfl ?_
    refine V_iload X dL_law_410 5 rfl ?_
    refine V_iload X dL_law_412 6 rfl ?_
    refine V_iadd X dL_law_414 ?_
    refine V_callSW (As := [.ref a3, .int (v6 + v7)]) (rest := []) (k1 := 2627 + 2483 * j65) (n1 := 19122 + 14898 * j65) X hNc (cL_tick_ok X.2.2.2.2.2.2.2.2.1 w) lwL_152 dL_law_415 ⟨(Nat.le_of_ble_eq_true rfl), (Nat.le_of_ble_eq_true rfl)⟩ rfl (Nat.le_of_ble_eq_true rfl) ⟨by show 2625 + 2483 * j65 + 2 ≤ 636012; omega, by show 19110 + 14898 * j65 + 12 ≤ 7193589; omega⟩ (by show 2625 + 2483 * j65 + 2 ≤ 2627 + 2483 * j65; omega) (by show 19110 + 14898 * j65 + 12 ≤ 19122 + 14898 * j65; omega) (fun x7 h6 w9 => ?_)
    replace w := w9
    clear w9
    refine V_iload X dL_law_418 7 rfl ?_
    refine V_iload X dL_law_420 8 rfl ?_
    refine V_iadd X dL_law_422 ?_
    obtain ⟨w1, w2⟩ := w
    refine V_icmp_ne (tgt := 436) X dL_law_423 (by decide) (fun z => ?_) (fun z => ?_)
    · replace w := w1 z
      clear w1 w2
      exact V.widen (k1 := 20304) (n1 := 125184) (by omega) (by omega) <| V.sub [] rfl (tL_law_b436 X hX hbl hbA hL hNc hQ  w)
    · replace w := w2 z
      clear w1 w2
      refine V_aloadr_n X dL_law_426 1 rfl ?_
      refine V_callSl (As := [.ref a3]) (rest := []) (k1 := 2923 + 2483 * j65) (n1 := 20898 + 14898 * j65) X (cL_tale_ok X.2.2.2.2.2.2.2.2.1 w) lkL_172 dL_law_427 ⟨(Nat.le_of_ble_eq_true rfl), (Nat.le_of_ble_eq_true rfl)⟩ rfl (Nat.le_of_ble_eq_true rfl) ⟨by show 2627 + 2483 * j65 + 296 ≤ 636012; omega, by show 19122 + 14898 * j65 + 1776 ≤ 7193589; omega⟩ (by show 2627 + 2483 * j65 + 296 ≤ 2923 + 2483 * j65; omega) (by show 19122 + 14898 * j65 + 1776 ≤ 20898 + 14898 * j65; omega) (fun x9 h8 w9 => ?_)
      replace w := w9
      clear w9
      refine V_lload X dL_law_430 9 rfl ?_
      refine V_lcmp X dL_law_432 ?_
      obtain ⟨w1, w2⟩ := w
      refine V_if_eq (tgt := 438) X dL_law_433 (by decide) (fun z => ?_) (fun z => ?_)
      · replace w := w1 ((lg_cmp_eq _ _).mp z)
        clear w1 w2
        refine V_iinc (y := (v4 + 1)) X dL_law_438 4 rfl (by first | rfl | (congr 1)) (by decide) rfl ?_
        refine V_goto (tgt := 65) X dL_law_441 (by decide) ?_
        exact V.widen (k1 := 440 + 2483 * (j65 + 1)) (n1 := 6000 + 14898 * (j65 + 1)) (by omega) (by omega) <| V.sub [1, 2, 3, 4, 0] rfl (H65 _ _ _ _ _ w)
      · replace w := w2 (fun z9 => z ((lg_cmp_eq _ _).mpr z9))
        clear w1 w2
        exact V.widen (k1 := 20304) (n1 := 125184) (by omega) (by omega) <| V.sub [] rfl (tL_law_b436 X hX hbl hbA hL hNc hQ  w)
  · replace w := w2 (fun z9 => z ((lg_cmp_eq _ _).mpr z9))
    clear w1 w2
    refine V_iconst (y := 0) X dL_law_398 (by decide) ?_
    exact V_lawret X (hQ _ _ w) (by show 2623 + 2483 * j65 ≤ 636012; omega) (by show 19098 + 14898 * j65 ≤ 7193589; omega) dL_law_399
def vL_law_b376 (t0 : Nat) (k65 : gH → Option Nat → Option Nat → Int32 → Int32 → Prop) (k305 : gH → Option Nat → Option Nat → Int32 → Int32 → Int32 → Int32 → Int32 → Int32 → Int32 → Int32 → Int64 → Int32 → Prop) (Qn : Int32 → gH → Prop) (h : gH) (v1 : Option Nat) (v2 : Option Nat) (v3 : Int32) (v4 : Int32) (v6 : Int32) (v7 : Int32) (v8 : Int32) (v12 : Int32) (v13 : Int32) (v14 : Int32) (v15 : Int64) (v17 : Int32) : Prop := nn v1 (fun a1 => vL_tick t0 (fun x3 h2 => k305 h2 (some a1) v2 v3 v4 v6 v7 v8 v12 v13 v14 v15 (v17 + 1)) h a1 1)
set_option maxRecDepth 100000 in
set_option maxHeartbeats 4000000 in
theorem tL_law_b376 {p : Program} {l : Launch} {e : Env} {s : State} {m : MethodId} {below : List Frame} {meth : Method} {c : Code} {G : gG} {b L : Nat} {xs : Nat → Int32} {Qn : Int32 → gH → Prop} (X : gC p l s m #[Value.ref b] meth c G (fun q => s.heap.size ≤ q) cL_law 19 (some .boolean) RL) (hX : va_X b L xs s s.heap) (hbl : b < s.heap.size) (hbA : ¬ (fun q : Nat => s.heap.size ≤ q) b) (hL : L ≤ 260) (hNc : gNc s) (hQ : ∀ (x : Int32) (h : gH), Qn x h → x = 1) {j65 : Nat} (hj65 : j65 < 8) {j305 : Nat} (hj305 : j305 < 14) {k65 : gH → Option Nat → Option Nat → Int32 → Int32 → Prop} {k305 : gH → Option Nat → Option Nat → Int32 → Int32 → Int32 → Int32 → Int32 → Int32 → Int32 → Int32 → Int64 → Int32 → Prop} (H65 : ∀ (h : gH) (v1 : Option Nat) (v2 : Option Nat) (v3 : Int32) (v4 : Int32), k65 h v1 v2 v3 v4 → V p l e room_1 s m #[Value.ref b] below meth c (lw_Z below #[Value.ref b] s) G (fun q => s.heap.size ≤ q) 19 h (440 + 2483 * (j65 + 1)) (6000 + 14898 * (j65 + 1)) 65 [(0, .ref b), (1, va_rf v1), (2, va_rf v2), (3, .int v3), (4, .int v4)] []) (H305 : ∀ (h : gH) (v1 : Option Nat) (v2 : Option Nat) (v3 : Int32) (v4 : Int32) (v6 : Int32) (v7 : Int32) (v8 : Int32) (v12 : Int32) (v13 : Int32) (v14 : Int32) (v15 : Int64) (v17 : Int32), k305 h v1 v2 v3 v4 v6 v7 v8 v12 v13 v14 v15 v17 → V p l e room_1 s m #[Value.ref b] below meth c (lw_Z below #[Value.ref b] s) G (fun q => s.heap.size ≤ q) 19 h (2285 + 2483 * j65 + 3 * (j305 + 1)) (17070 + 14898 * j65 + 18 * (j305 + 1)) 305 [(0, .ref b), (1, va_rf v1), (2, va_rf v2), (3, .int v3), (4, .int v4), (6, .int v6), (7, .int v7), (8, .int v8), (12, .int v12), (13, .int v13), (14, .int v14), (15, .long v15), (17, .int v17)] []) {h : gH} {v1 : Option Nat} {v2 : Option Nat} {v3 : Int32} {v4 : Int32} {v6 : Int32} {v7 : Int32} {v8 : Int32} {v12 : Int32} {v13 : Int32} {v14 : Int32} {v15 : Int64} {v17 : Int32} (w : vL_law_b376 G.2.2.1 k65 k305 Qn h v1 v2 v3 v4 v6 v7 v8 v12 v13 v14 v15 v17) : V p l e room_1 s m #[Value.ref b] below meth c (lw_Z below #[Value.ref b] s) G (fun q => s.heap.size ≤ q) 19 h (2286 + 2483 * j65 + 3 * j305) (17076 + 14898 * j65 + 18 * j305) 376 [(0, .ref b), (1, va_rf v1), (2, va_rf v2), (3, .int v3), (4, .int v4), (6, .int v6), (7, .int v7), (8, .int v8), (12, .int v12), (13, .int v13), (14, .int v14), (15, .long v15), (17, .int v17)] [] := by
  refine V_aload_n X dL_law_376 1 rfl ?_
  refine V_iconst (y := 1) X dL_law_377 (by decide) ?_
  obtain ⟨a1, rfl, w⟩ := w
  refine V_callSW (As := [.ref a1, .int 1]) (rest := []) (k1 := 2288 + 2483 * j65 + 3 * j305) (n1 := 17088 + 14898 * j65 + 18 * j305) X hNc (cL_tick_ok X.2.2.2.2.2.2.2.2.1 w) lwL_152 dL_law_378 ⟨(Nat.le_of_ble_eq_true rfl), (Nat.le_of_ble_eq_true rfl)⟩ rfl (Nat.le_of_ble_eq_true rfl) ⟨by show 2286 + 2483 * j65 + 3 * j305 + 2 ≤ 636012; omega, by show 17076 + 14898 * j65 + 18 * j305 + 12 ≤ 7193589; omega⟩ (by show 2286 + 2483 * j65 + 3 * j305 + 2 ≤ 2288 + 2483 * j65 + 3 * j305; omega) (by show 17076 + 14898 * j65 + 18 * j305 + 12 ≤ 17088 + 14898 * j65 + 18 * j305; omega) (fun x3 h2 w9 => ?_)
  replace w := w9
  clear w9
  refine V_pop X dL_law_381 rfl ?_
  refine V_iinc (y := (v17 + 1)) X dL_law_382 12 rfl (by first | rfl | (congr 1)) (by decide) rfl ?_
  refine V_goto (tgt := 305) X dL_law_385 (by decide) ?_
  exact V.widen (k1 := 2285 + 2483 * j65 + 3 * (j305 + 1)) (n1 := 17070 + 14898 * j65 + 18 * (j305 + 1)) (by omega) (by omega) <| V.sub [1, 2, 3, 4, 5, 6, 7, 8, 9, 10, 11, 12, 0] rfl (H305 _ _ _ _ _ _ _ _ _ _ _ _ _ w)
def vL_law_b374 (t0 : Nat)  (Qn : Int32 → gH → Prop) (h : gH)  : Prop := Qn 0 h
set_option maxRecDepth 100000 in
set_option maxHeartbeats 4000000 in
theorem tL_law_b374 {p : Program} {l : Launch} {e : Env} {s : State} {m : MethodId} {below : List Frame} {meth : Method} {c : Code} {G : gG} {b L : Nat} {xs : Nat → Int32} {Qn : Int32 → gH → Prop} (X : gC p l s m #[Value.ref b] meth c G (fun q => s.heap.size ≤ q) cL_law 19 (some .boolean) RL) (hX : va_X b L xs s s.heap) (hbl : b < s.heap.size) (hbA : ¬ (fun q : Nat => s.heap.size ≤ q) b) (hL : L ≤ 260) (hNc : gNc s) (hQ : ∀ (x : Int32) (h : gH), Qn x h → x = 1)   {h : gH}  (w : vL_law_b374 G.2.2.1  Qn h ) : V p l e room_1 s m #[Value.ref b] below meth c (lw_Z below #[Value.ref b] s) G (fun q => s.heap.size ≤ q) 19 h (20304) (125184) 374 [] [] := by
  refine V_iconst (y := 0) X dL_law_374 (by decide) ?_
  exact V_lawret X (hQ _ _ w) (by show 20304 ≤ 636012; omega) (by show 125184 ≤ 7193589; omega) dL_law_375
def vL_law_b359 (t0 : Nat) (k65 : gH → Option Nat → Option Nat → Int32 → Int32 → Prop) (k305 : gH → Option Nat → Option Nat → Int32 → Int32 → Int32 → Int32 → Int32 → Int32 → Int32 → Int32 → Int64 → Int32 → Prop) (Qn : Int32 → gH → Prop) (h : gH) (v1 : Option Nat) (v2 : Option Nat) (v3 : Int32) (v4 : Int32) (v6 : Int32) (v7 : Int32) (v8 : Int32) (v12 : Int32) (v13 : Int32) (v14 : Int32) (v15 : Int64) (v17 : Int32) (s0 : Int32) (s1 : Int32) : Prop := (((s1 : Int32) = s0) → (vL_law_b376 t0 k65 k305 Qn h v1 v2 v3 v4 v6 v7 v8 v12 v13 v14 v15 v17)) ∧ ((¬ (s1 : Int32) = s0) → ((((v12 : Int32) < 0) → (vL_law_b374 t0  Qn h )) ∧ ((¬ (v12 : Int32) < 0) → ((((v12 : Int32) < v17) → (vL_law_b376 t0 k65 k305 Qn h v1 v2 v3 v4 v6 v7 v8 v12 v13 v14 v15 v17)) ∧ ((¬ (v12 : Int32) < v17) → (vL_law_b374 t0  Qn h ))))))
set_option maxRecDepth 100000 in
set_option maxHeartbeats 4000000 in
theorem tL_law_b359 {p : Program} {l : Launch} {e : Env} {s : State} {m : MethodId} {below : List Frame} {meth : Method} {c : Code} {G : gG} {b L : Nat} {xs : Nat → Int32} {Qn : Int32 → gH → Prop} (X : gC p l s m #[Value.ref b] meth c G (fun q => s.heap.size ≤ q) cL_law 19 (some .boolean) RL) (hX : va_X b L xs s s.heap) (hbl : b < s.heap.size) (hbA : ¬ (fun q : Nat => s.heap.size ≤ q) b) (hL : L ≤ 260) (hNc : gNc s) (hQ : ∀ (x : Int32) (h : gH), Qn x h → x = 1) {j65 : Nat} (hj65 : j65 < 8) {j305 : Nat} (hj305 : j305 < 14) {k65 : gH → Option Nat → Option Nat → Int32 → Int32 → Prop} {k305 : gH → Option Nat → Option Nat → Int32 → Int32 → Int32 → Int32 → Int32 → Int32 → Int32 → Int32 → Int64 → Int32 → Prop} (H65 : ∀ (h : gH) (v1 : Option Nat) (v2 : Option Nat) (v3 : Int32) (v4 : Int32), k65 h v1 v2 v3 v4 → V p l e room_1 s m #[Value.ref b] below meth c (lw_Z below #[Value.ref b] s) G (fun q => s.heap.size ≤ q) 19 h (440 + 2483 * (j65 + 1)) (6000 + 14898 * (j65 + 1)) 65 [(0, .ref b), (1, va_rf v1), (2, va_rf v2), (3, .int v3), (4, .int v4)] []) (H305 : ∀ (h : gH) (v1 : Option Nat) (v2 : Option Nat) (v3 : Int32) (v4 : Int32) (v6 : Int32) (v7 : Int32) (v8 : Int32) (v12 : Int32) (v13 : Int32) (v14 : Int32) (v15 : Int64) (v17 : Int32), k305 h v1 v2 v3 v4 v6 v7 v8 v12 v13 v14 v15 v17 → V p l e room_1 s m #[Value.ref b] below meth c (lw_Z below #[Value.ref b] s) G (fun q => s.heap.size ≤ q) 19 h (2285 + 2483 * j65 + 3 * (j305 + 1)) (17070 + 14898 * j65 + 18 * (j305 + 1)) 305 [(0, .ref b), (1, va_rf v1), (2, va_rf v2), (3, .int v3), (4, .int v4), (6, .int v6), (7, .int v7), (8, .int v8), (12, .int v12), (13, .int v13), (14, .int v14), (15, .long v15), (17, .int v17)] []) {h : gH} {v1 : Option Nat} {v2 : Option Nat} {v3 : Int32} {v4 : Int32} {v6 : Int32} {v7 : Int32} {v8 : Int32} {v12 : Int32} {v13 : Int32} {v14 : Int32} {v15 : Int64} {v17 : Int32} {s0 : Int32} {s1 : Int32} (w : vL_law_b359 G.2.2.1 k65 k305 Qn h v1 v2 v3 v4 v6 v7 v8 v12 v13 v14 v15 v17 s0 s1) : V p l e room_1 s m #[Value.ref b] below meth c (lw_Z below #[Value.ref b] s) G (fun q => s.heap.size ≤ q) 19 h (2286 + 2483 * j65 + 3 * j305) (17076 + 14898 * j65 + 18 * j305) 359 [(0, .ref b), (1, va_rf v1), (2, va_rf v2), (3, .int v3), (4, .int v4), (6, .int v6), (7, .int v7), (8, .int v8), (12, .int v12), (13, .int v13), (14, .int v14), (15, .long v15), (17, .int v17)] [.int s0, .int s1] := by
  obtain ⟨w1, w2⟩ := w
  refine V_icmp_eq (tgt := 376) X dL_law_359 (by decide) (fun z => ?_) (fun z => ?_)
  · replace w := w1 z
    clear w1 w2
    exact V.widen (k1 := 2286 + 2483 * j65 + 3 * j305) (n1 := 17076 + 14898 * j65 + 18 * j305) (by omega) (by omega) <| V.sub [0, 1, 2, 3, 4, 5, 6, 7, 8, 9, 10, 11, 12] rfl (tL_law_b376 X hX hbl hbA hL hNc hQ hj65 hj305 H65 H305 w)
  · replace w := w2 z
    clear w1 w2
    refine V_iload X dL_law_362 8 rfl ?_
    obtain ⟨w1, w2⟩ := w
    refine V_if_lt (tgt := 374) X dL_law_364 (by decide) (fun z => ?_) (fun z => ?_)
    · replace w := w1 z
      clear w1 w2
      exact V.widen (k1 := 20304) (n1 := 125184) (by omega) (by omega) <| V.sub [] rfl (tL_law_b374 X hX hbl hbA hL hNc hQ  w)
    · replace w := w2 z
      clear w1 w2
      refine V_iload X dL_law_367 8 rfl ?_
      refine V_iload X dL_law_369 12 rfl ?_
      obtain ⟨w1, w2⟩ := w
      refine V_icmp_lt (tgt := 376) X dL_law_371 (by decide) (fun z => ?_) (fun z => ?_)
      · replace w := w1 z
        clear w1 w2
        exact V.widen (k1 := 2286 + 2483 * j65 + 3 * j305) (n1 := 17076 + 14898 * j65 + 18 * j305) (by omega) (by omega) <| V.sub [0, 1, 2, 3, 4, 5, 6, 7, 8, 9, 10, 11, 12] rfl (tL_law_b376 X hX hbl hbA hL hNc hQ hj65 hj305 H65 H305 w)
      · replace w := w2 z
        clear w1 w2
        exact V.widen (k1 := 20304) (n1 := 125184) (by omega) (by omega) <| V.sub [] rfl (tL_law_b374 X hX hbl hbA hL hNc hQ  w)
def vL_law_b343 (t0 : Nat) (k65 : gH → Option Nat → Option Nat → Int32 → Int32 → Prop) (k305 : gH → Option Nat → Option Nat → Int32 → Int32 → Int32 → Int32 → Int32 → Int32 → Int32 → Int32 → Int64 → Int32 → Prop) (Qn : Int32 → gH → Prop) (h : gH) (v1 : Option Nat) (v2 : Option Nat) (v3 : Int32) (v4 : Int32) (v6 : Int32) (v7 : Int32) (v8 : Int32) (v12 : Int32) (v13 : Int32) (v14 : Int32) (v15 : Int64) (v17 : Int32) (s0 : Int32) : Prop := ((¬ (v12 : Int32) = v17) → (vL_law_b359 t0 k65 k305 Qn h v1 v2 v3 v4 v6 v7 v8 v12 v13 v14 v15 v17 0 s0)) ∧ (((v12 : Int32) = v17) → (vL_law_b359 t0 k65 k305 Qn h v1 v2 v3 v4 v6 v7 v8 v12 v13 v14 v15 v17 1 s0))
set_option maxRecDepth 100000 in
set_option maxHeartbeats 4000000 in
theorem tL_law_b343 {p : Program} {l : Launch} {e : Env} {s : State} {m : MethodId} {below : List Frame} {meth : Method} {c : Code} {G : gG} {b L : Nat} {xs : Nat → Int32} {Qn : Int32 → gH → Prop} (X : gC p l s m #[Value.ref b] meth c G (fun q => s.heap.size ≤ q) cL_law 19 (some .boolean) RL) (hX : va_X b L xs s s.heap) (hbl : b < s.heap.size) (hbA : ¬ (fun q : Nat => s.heap.size ≤ q) b) (hL : L ≤ 260) (hNc : gNc s) (hQ : ∀ (x : Int32) (h : gH), Qn x h → x = 1) {j65 : Nat} (hj65 : j65 < 8) {j305 : Nat} (hj305 : j305 < 14) {k65 : gH → Option Nat → Option Nat → Int32 → Int32 → Prop} {k305 : gH → Option Nat → Option Nat → Int32 → Int32 → Int32 → Int32 → Int32 → Int32 → Int32 → Int32 → Int64 → Int32 → Prop} (H65 : ∀ (h : gH) (v1 : Option Nat) (v2 : Option Nat) (v3 : Int32) (v4 : Int32), k65 h v1 v2 v3 v4 → V p l e room_1 s m #[Value.ref b] below meth c (lw_Z below #[Value.ref b] s) G (fun q => s.heap.size ≤ q) 19 h (440 + 2483 * (j65 + 1)) (6000 + 14898 * (j65 + 1)) 65 [(0, .ref b), (1, va_rf v1), (2, va_rf v2), (3, .int v3), (4, .int v4)] []) (H305 : ∀ (h : gH) (v1 : Option Nat) (v2 : Option Nat) (v3 : Int32) (v4 : Int32) (v6 : Int32) (v7 : Int32) (v8 : Int32) (v12 : Int32) (v13 : Int32) (v14 : Int32) (v15 : Int64) (v17 : Int32), k305 h v1 v2 v3 v4 v6 v7 v8 v12 v13 v14 v15 v17 → V p l e room_1 s m #[Value.ref b] below meth c (lw_Z below #[Value.ref b] s) G (fun q => s.heap.size ≤ q) 19 h (2285 + 2483 * j65 + 3 * (j305 + 1)) (17070 + 14898 * j65 + 18 * (j305 + 1)) 305 [(0, .ref b), (1, va_rf v1), (2, va_rf v2), (3, .int v3), (4, .int v4), (6, .int v6), (7, .int v7), (8, .int v8), (12, .int v12), (13, .int v13), (14, .int v14), (15, .long v15), (17, .int v17)] []) {h : gH} {v1 : Option Nat} {v2 : Option Nat} {v3 : Int32} {v4 : Int32} {v6 : Int32} {v7 : Int32} {v8 : Int32} {v12 : Int32} {v13 : Int32} {v14 : Int32} {v15 : Int64} {v17 : Int32} {s0 : Int32} (w : vL_law_b343 G.2.2.1 k65 k305 Qn h v1 v2 v3 v4 v6 v7 v8 v12 v13 v14 v15 v17 s0) : V p l e room_1 s m #[Value.ref b] below meth c (lw_Z below #[Value.ref b] s) G (fun q => s.heap.size ≤ q) 19 h (2286 + 2483 * j65 + 3 * j305) (17076 + 14898 * j65 + 18 * j305) 343 [(0, .ref b), (1, va_rf v1), (2, va_rf v2), (3, .int v3), (4, .int v4), (6, .int v6), (7, .int v7), (8, .int v8), (12, .int v12), (13, .int v13), (14, .int v14), (15, .long v15), (17, .int v17)] [.int s0] := by
  refine V_istore X dL_law_343 (by decide) rfl ?_
  refine V_iload X dL_law_345 0 rfl ?_
  refine V_iload X dL_law_347 9 rfl ?_
  refine V_iload X dL_law_349 13 rfl ?_
  obtain ⟨w1, w2⟩ := w
  refine V_icmp_ne (tgt := 358) X dL_law_351 (by decide) (fun z => ?_) (fun z => ?_)
  · replace w := w1 z
    clear w1 w2
    refine V_iconst (y := 0) X dL_law_358 (by decide) ?_
    exact V.widen (k1 := 2286 + 2483 * j65 + 3 * j305) (n1 := 17076 + 14898 * j65 + 18 * j305) (by omega) (by omega) <| V.sub [1, 2, 3, 4, 5, 6, 7, 8, 9, 10, 11, 12, 13] rfl (tL_law_b359 X hX hbl hbA hL hNc hQ hj65 hj305 H65 H305 w)
  · replace w := w2 z
    clear w1 w2
    refine V_iconst (y := 1) X dL_law_354 (by decide) ?_
    refine V_goto (tgt := 359) X dL_law_355 (by decide) ?_
    exact V.widen (k1 := 2286 + 2483 * j65 + 3 * j305) (n1 := 17076 + 14898 * j65 + 18 * j305) (by omega) (by omega) <| V.sub [1, 2, 3, 4, 5, 6, 7, 8, 9, 10, 11, 12, 13] rfl (tL_law_b359 X hX hbl hbA hL hNc hQ hj65 hj305 H65 H305 w)
def vL_law_b342 (t0 : Nat) (k65 : gH → Option Nat → Option Nat → Int32 → Int32 → Prop) (k305 : gH → Option Nat → Option Nat → Int32 → Int32 → Int32 → Int32 → Int32 → Int32 → Int32 → Int32 → Int64 → Int32 → Prop) (Qn : Int32 → gH → Prop) (h : gH) (v1 : Option Nat) (v2 : Option Nat) (v3 : Int32) (v4 : Int32) (v6 : Int32) (v7 : Int32) (v8 : Int32) (v12 : Int32) (v13 : Int32) (v14 : Int32) (v15 : Int64) (v17 : Int32) : Prop := vL_law_b343 t0 k65 k305 Qn h v1 v2 v3 v4 v6 v7 v8 v12 v13 v14 v15 v17 0
set_option maxRecDepth 100000 in
set_option maxHeartbeats 4000000 in
theorem tL_law_b342 {p : Program} {l : Launch} {e : Env} {s : State} {m : MethodId} {below : List Frame} {meth : Method} {c : Code} {G : gG} {b L : Nat} {xs : Nat → Int32} {Qn : Int32 → gH → Prop} (X : gC p l s m #[Value.ref b] meth c G (fun q => s.heap.size ≤ q) cL_law 19 (some .boolean) RL) (hX : va_X b L xs s s.heap) (hbl : b < s.heap.size) (hbA : ¬ (fun q : Nat => s.heap.size ≤ q) b) (hL : L ≤ 260) (hNc : gNc s) (hQ : ∀ (x : Int32) (h : gH), Qn x h → x = 1) {j65 : Nat} (hj65 : j65 < 8) {j305 : Nat} (hj305 : j305 < 14) {k65 : gH → Option Nat → Option Nat → Int32 → Int32 → Prop} {k305 : gH → Option Nat → Option Nat → Int32 → Int32 → Int32 → Int32 → Int32 → Int32 → Int32 → Int32 → Int64 → Int32 → Prop} (H65 : ∀ (h : gH) (v1 : Option Nat) (v2 : Option Nat) (v3 : Int32) (v4 : Int32), k65 h v1 v2 v3 v4 → V p l e room_1 s m #[Value.ref b] below meth c (lw_Z below #[Value.ref b] s) G (fun q => s.heap.size ≤ q) 19 h (440 + 2483 * (j65 + 1)) (6000 + 14898 * (j65 + 1)) 65 [(0, .ref b), (1, va_rf v1), (2, va_rf v2), (3, .int v3), (4, .int v4)] []) (H305 : ∀ (h : gH) (v1 : Option Nat) (v2 : Option Nat) (v3 : Int32) (v4 : Int32) (v6 : Int32) (v7 : Int32) (v8 : Int32) (v12 : Int32) (v13 : Int32) (v14 : Int32) (v15 : Int64) (v17 : Int32), k305 h v1 v2 v3 v4 v6 v7 v8 v12 v13 v14 v15 v17 → V p l e room_1 s m #[Value.ref b] below meth c (lw_Z below #[Value.ref b] s) G (fun q => s.heap.size ≤ q) 19 h (2285 + 2483 * j65 + 3 * (j305 + 1)) (17070 + 14898 * j65 + 18 * (j305 + 1)) 305 [(0, .ref b), (1, va_rf v1), (2, va_rf v2), (3, .int v3), (4, .int v4), (6, .int v6), (7, .int v7), (8, .int v8), (12, .int v12), (13, .int v13), (14, .int v14), (15, .long v15), (17, .int v17)] []) {h : gH} {v1 : Option Nat} {v2 : Option Nat} {v3 : Int32} {v4 : Int32} {v6 : Int32} {v7 : Int32} {v8 : Int32} {v12 : Int32} {v13 : Int32} {v14 : Int32} {v15 : Int64} {v17 : Int32} (w : vL_law_b342 G.2.2.1 k65 k305 Qn h v1 v2 v3 v4 v6 v7 v8 v12 v13 v14 v15 v17) : V p l e room_1 s m #[Value.ref b] below meth c (lw_Z below #[Value.ref b] s) G (fun q => s.heap.size ≤ q) 19 h (2286 + 2483 * j65 + 3 * j305) (17076 + 14898 * j65 + 18 * j305) 342 [(0, .ref b), (1, va_rf v1), (2, va_rf v2), (3, .int v3), (4, .int v4), (6, .int v6), (7, .int v7), (8, .int v8), (12, .int v12), (13, .int v13), (14, .int v14), (15, .long v15), (17, .int v17)] [] := by
  refine V_iconst (y := 0) X dL_law_342 (by decide) ?_
  exact V.widen (k1 := 2286 + 2483 * j65 + 3 * j305) (n1 := 17076 + 14898 * j65 + 18 * j305) (by omega) (by omega) <| V.sub [0, 1, 2, 3, 4, 5, 6, 7, 8, 9, 10, 11, 12] rfl (tL_law_b343 X hX hbl hbA hL hNc hQ hj65 hj305 H65 H305 w)
def vL_law_b305_o (t0 : Nat) (k65 : gH → Option Nat → Option Nat → Int32 → Int32 → Prop) (k305 : gH → Option Nat → Option Nat → Int32 → Int32 → Int32 → Int32 → Int32 → Int32 → Int32 → Int32 → Int64 → Int32 → Prop) (Qn : Int32 → gH → Prop) (h : gH) (v1 : Option Nat) (v2 : Option Nat) (v3 : Int32) (v4 : Int32) (v6 : Int32) (v7 : Int32) (v8 : Int32) (v12 : Int32) (v13 : Int32) (v14 : Int32) (v15 : Int64) (v17 : Int32) : Prop := (((v6 + v7) ≤ (v17 : Int32)) → (vL_law_b388 t0 k65 Qn h v1 v2 v3 v4 v6 v7 v13 v14 v15)) ∧ ((¬ (v6 + v7) ≤ (v17 : Int32)) → (((13 ≤ (v17 : Int32)) → (vL_law_b388 t0 k65 Qn h v1 v2 v3 v4 v6 v7 v13 v14 v15)) ∧ ((¬ 13 ≤ (v17 : Int32)) → (nn v1 (fun a1 => io h a1 14 (vX11_target t0 (fun x3 h2 => ((0 ≤ (x3 : Int32)) → (vL_law_b342 t0 k65 k305 Qn h2 (some a1) v2 v3 v4 v6 v7 v8 v12 v13 v14 v15 v17)) ∧ ((¬ 0 ≤ (x3 : Int32)) → (io h2 a1 14 (vX11_state t0 (fun x5 h4 => ((¬ (x5 : Int32) = v8) → (vL_law_b342 t0 k65 k305 Qn h4 (some a1) v2 v3 v4 v6 v7 v8 v12 v13 v14 v15 v17)) ∧ (((x5 : Int32) = v8) → (vL_law_b343 t0 k65 k305 Qn h4 (some a1) v2 v3 v4 v6 v7 v8 v12 v13 v14 v15 v17 1))) (fun _ _ => False) h2 a1 )))) h a1 ))))))
set_option maxRecDepth 100000 in
set_option maxHeartbeats 4000000 in
theorem tL_law_b305_o {p : Program} {l : Launch} {e : Env} {s : State} {m : MethodId} {below : List Frame} {meth : Method} {c : Code} {G : gG} {b L : Nat} {xs : Nat → Int32} {Qn : Int32 → gH → Prop} (X : gC p l s m #[Value.ref b] meth c G (fun q => s.heap.size ≤ q) cL_law 19 (some .boolean) RL) (hX : va_X b L xs s s.heap) (hbl : b < s.heap.size) (hbA : ¬ (fun q : Nat => s.heap.size ≤ q) b) (hL : L ≤ 260) (hNc : gNc s) (hQ : ∀ (x : Int32) (h : gH), Qn x h → x = 1) {j65 : Nat} (hj65 : j65 < 8) {j305 : Nat} (hj305 : j305 < 14) {k65 : gH → Option Nat → Option Nat → Int32 → Int32 → Prop} {k305 : gH → Option Nat → Option Nat → Int32 → Int32 → Int32 → Int32 → Int32 → Int32 → Int32 → Int32 → Int64 → Int32 → Prop} (H65 : ∀ (h : gH) (v1 : Option Nat) (v2 : Option Nat) (v3 : Int32) (v4 : Int32), k65 h v1 v2 v3 v4 → V p l e room_1 s m #[Value.ref b] below meth c (lw_Z below #[Value.ref b] s) G (fun q => s.heap.size ≤ q) 19 h (440 + 2483 * (j65 + 1)) (6000 + 14898 * (j65 + 1)) 65 [(0, .ref b), (1, va_rf v1), (2, va_rf v2), (3, .int v3), (4, .int v4)] []) (H305 : ∀ (h : gH) (v1 : Option Nat) (v2 : Option Nat) (v3 : Int32) (v4 : Int32) (v6 : Int32) (v7 : Int32) (v8 : Int32) (v12 : Int32) (v13 : Int32) (v14 : Int32) (v15 : Int64) (v17 : Int32), k305 h v1 v2 v3 v4 v6 v7 v8 v12 v13 v14 v15 v17 → V p l e room_1 s m #[Value.ref b] below meth c (lw_Z below #[Value.ref b] s) G (fun q => s.heap.size ≤ q) 19 h (2285 + 2483 * j65 + 3 * (j305 + 1)) (17070 + 14898 * j65 + 18 * (j305 + 1)) 305 [(0, .ref b), (1, va_rf v1), (2, va_rf v2), (3, .int v3), (4, .int v4), (6, .int v6), (7, .int v7), (8, .int v8), (12, .int v12), (13, .int v13), (14, .int v14), (15, .long v15), (17, .int v17)] []) {h : gH} {v1 : Option Nat} {v2 : Option Nat} {v3 : Int32} {v4 : Int32} {v6 : Int32} {v7 : Int32} {v8 : Int32} {v12 : Int32} {v13 : Int32} {v14 : Int32} {v15 : Int64} {v17 : Int32} (w : vL_law_b305_o G.2.2.1 k65 k305 Qn h v1 v2 v3 v4 v6 v7 v8 v12 v13 v14 v15 v17) : V p l e room_1 s m #[Value.ref b] below meth c (lw_Z below #[Value.ref b] s) G (fun q => s.heap.size ≤ q) 19 h (2285 + 2483 * j65 + 3 * j305) (17070 + 14898 * j65 + 18 * j305) 305 [(0, .ref b), (1, va_rf v1), (2, va_rf v2), (3, .int v3), (4, .int v4), (6, .int v6), (7, .int v7), (8, .int v8), (12, .int v12), (13, .int v13), (14, .int v14), (15, .long v15), (17, .int v17)] [] := by
  refine V_iload X dL_law_305 12 rfl ?_
  refine V_iload X dL_law_307 5 rfl ?_
  refine V_iload X dL_law_309 6 rfl ?_
  refine V_iadd X dL_law_311 ?_
  obtain ⟨w1, w2⟩ := w
  refine V_icmp_ge (tgt := 388) X dL_law_312 (by decide) (fun z => ?_) (fun z => ?_)
  · replace w := w1 z
    clear w1 w2
    exact V.widen (k1 := 2327 + 2483 * j65) (n1 := 17322 + 14898 * j65) (by omega) (by omega) <| V.sub [0, 1, 2, 3, 4, 5, 6, 9, 10, 11] rfl (tL_law_b388 X hX hbl hbA hL hNc hQ hj65 H65 w)
  · replace w := w2 z
    clear w1 w2
    refine V_iload X dL_law_315 12 rfl ?_
    refine V_bipush (y := 13) X dL_law_317 (by decide) ?_
    obtain ⟨w1, w2⟩ := w
    refine V_icmp_ge (tgt := 388) X dL_law_319 (by decide) (fun z => ?_) (fun z => ?_)
    · replace w := w1 z
      clear w1 w2
      exact V.widen (k1 := 2327 + 2483 * j65) (n1 := 17322 + 14898 * j65) (by omega) (by omega) <| V.sub [0, 1, 2, 3, 4, 5, 6, 9, 10, 11] rfl (tL_law_b388 X hX hbl hbA hL hNc hQ hj65 H65 w)
    · replace w := w2 z
      clear w1 w2
      refine V_aload_n X dL_law_322 1 rfl ?_
      obtain ⟨a1, rfl, w⟩ := w
      obtain ⟨fs, hh, w⟩ := w
      refine V_callVi (As := []) (rest := []) (k1 := 2285 + 2483 * j65 + 3 * j305) (n1 := 17070 + 14898 * j65 + 18 * j305) X (cX11_target_ok X.2.2.2.2.2.2.2.2.1 w) lkL_83 hh (q9 := (RX11, TX11, 7)) rfl rfl dL_law_323 ⟨(Nat.le_of_ble_eq_true rfl), (Nat.le_of_ble_eq_true rfl)⟩ rfl (Nat.le_of_ble_eq_true rfl) ⟨by show 2285 + 2483 * j65 + 3 * j305 + 0 ≤ 636012; omega, by show 17070 + 14898 * j65 + 18 * j305 + 0 ≤ 7193589; omega⟩ (by show 2285 + 2483 * j65 + 3 * j305 + 0 ≤ 2285 + 2483 * j65 + 3 * j305; omega) (by show 17070 + 14898 * j65 + 18 * j305 + 0 ≤ 17070 + 14898 * j65 + 18 * j305; omega) (fun x3 h2 w9 => ?_)
      replace w := w9
      clear w9
      obtain ⟨w1, w2⟩ := w
      refine V_if_ge (tgt := 342) X dL_law_326 (by decide) (fun z => ?_) (fun z => ?_)
      · replace w := w1 z
        clear w1 w2
        exact V.widen (k1 := 2286 + 2483 * j65 + 3 * j305) (n1 := 17076 + 14898 * j65 + 18 * j305) (by omega) (by omega) <| V.sub [0, 1, 2, 3, 4, 5, 6, 7, 8, 9, 10, 11, 12] rfl (tL_law_b342 X hX hbl hbA hL hNc hQ hj65 hj305 H65 H305 w)
      · replace w := w2 z
        clear w1 w2
        refine V_aloadr_n X dL_law_329 1 rfl ?_
        obtain ⟨fs, hh, w⟩ := w
        refine V_callZi (As := []) (rest := []) (k1 := 2286 + 2483 * j65 + 3 * j305) (n1 := 17076 + 14898 * j65 + 18 * j305) X (cX11_state_ok X.2.2.2.2.2.2.2.2.1 w) lkL_102 hh (q9 := (RX11, TX11, 7)) rfl rfl dL_law_330 ⟨(Nat.le_of_ble_eq_true rfl), (Nat.le_of_ble_eq_true rfl)⟩ rfl (Nat.le_of_ble_eq_true rfl) ⟨by show 2285 + 2483 * j65 + 3 * j305 + 1 ≤ 636012; omega, by show 17070 + 14898 * j65 + 18 * j305 + 6 ≤ 7193589; omega⟩ (by show 2285 + 2483 * j65 + 3 * j305 + 1 ≤ 2286 + 2483 * j65 + 3 * j305; omega) (by show 17070 + 14898 * j65 + 18 * j305 + 6 ≤ 17076 + 14898 * j65 + 18 * j305; omega) (fun x5 h4 w9 => ?_)
        replace w := w9
        clear w9
        refine V_iload X dL_law_333 7 rfl ?_
        obtain ⟨w1, w2⟩ := w
        refine V_icmp_ne (tgt := 342) X dL_law_335 (by decide) (fun z => ?_) (fun z => ?_)
        · replace w := w1 z
          clear w1 w2
          exact V.widen (k1 := 2286 + 2483 * j65 + 3 * j305) (n1 := 17076 + 14898 * j65 + 18 * j305) (by omega) (by omega) <| V.sub [0, 1, 2, 3, 4, 5, 6, 7, 8, 9, 10, 11, 12] rfl (tL_law_b342 X hX hbl hbA hL hNc hQ hj65 hj305 H65 H305 w)
        · replace w := w2 z
          clear w1 w2
          refine V_iconst (y := 1) X dL_law_338 (by decide) ?_
          refine V_goto (tgt := 343) X dL_law_339 (by decide) ?_
          exact V.widen (k1 := 2286 + 2483 * j65 + 3 * j305) (n1 := 17076 + 14898 * j65 + 18 * j305) (by omega) (by omega) <| V.sub [0, 1, 2, 3, 4, 5, 6, 7, 8, 9, 10, 11, 12] rfl (tL_law_b343 X hX hbl hbA hL hNc hQ hj65 hj305 H65 H305 w)
def vL_law_b305 (t0 : Nat) (k65 : gH → Option Nat → Option Nat → Int32 → Int32 → Prop) (Qn : Int32 → gH → Prop) (n : Nat) : gH → Option Nat → Option Nat → Int32 → Int32 → Int32 → Int32 → Int32 → Int32 → Int32 → Int32 → Int64 → Int32 → Prop := Nat.rec (motive := fun _ => gH → Option Nat → Option Nat → Int32 → Int32 → Int32 → Int32 → Int32 → Int32 → Int32 → Int32 → Int64 → Int32 → Prop) (fun _ _ _ _ _ _ _ _ _ _ _ _ _ => False) (fun _ k305 => vL_law_b305_o t0 k65 k305 Qn) n
set_option maxRecDepth 100000 in
set_option maxHeartbeats 4000000 in
theorem tL_law_b305 {p : Program} {l : Launch} {e : Env} {s : State} {m : MethodId} {below : List Frame} {meth : Method} {c : Code} {G : gG} {b L : Nat} {xs : Nat → Int32} {Qn : Int32 → gH → Prop} (X : gC p l s m #[Value.ref b] meth c G (fun q => s.heap.size ≤ q) cL_law 19 (some .boolean) RL) (hX : va_X b L xs s s.heap) (hbl : b < s.heap.size) (hbA : ¬ (fun q : Nat => s.heap.size ≤ q) b) (hL : L ≤ 260) (hNc : gNc s) (hQ : ∀ (x : Int32) (h : gH), Qn x h → x = 1) {j65 : Nat} (hj65 : j65 < 8) {k65 : gH → Option Nat → Option Nat → Int32 → Int32 → Prop} (H65 : ∀ (h : gH) (v1 : Option Nat) (v2 : Option Nat) (v3 : Int32) (v4 : Int32), k65 h v1 v2 v3 v4 → V p l e room_1 s m #[Value.ref b] below meth c (lw_Z below #[Value.ref b] s) G (fun q => s.heap.size ≤ q) 19 h (440 + 2483 * (j65 + 1)) (6000 + 14898 * (j65 + 1)) 65 [(0, .ref b), (1, va_rf v1), (2, va_rf v2), (3, .int v3), (4, .int v4)] []) : ∀ (n : Nat) (h : gH) (v1 : Option Nat) (v2 : Option Nat) (v3 : Int32) (v4 : Int32) (v6 : Int32) (v7 : Int32) (v8 : Int32) (v12 : Int32) (v13 : Int32) (v14 : Int32) (v15 : Int64) (v17 : Int32) (hn : n ≤ 14) (w : vL_law_b305 G.2.2.1 k65 Qn n h v1 v2 v3 v4 v6 v7 v8 v12 v13 v14 v15 v17), V p l e room_1 s m #[Value.ref b] below meth c (lw_Z below #[Value.ref b] s) G (fun q => s.heap.size ≤ q) 19 h (2285 + 2483 * j65 + 3 * (14 - n)) (17070 + 14898 * j65 + 18 * (14 - n)) 305 [(0, .ref b), (1, va_rf v1), (2, va_rf v2), (3, .int v3), (4, .int v4), (6, .int v6), (7, .int v7), (8, .int v8), (12, .int v12), (13, .int v13), (14, .int v14), (15, .long v15), (17, .int v17)] [] := by
  intro n
  induction n with
  | zero => intro h v1 v2 v3 v4 v6 v7 v8 v12 v13 v14 v15 v17 hn w; exact False.elim w
  | succ n ih =>
    intro h v1 v2 v3 v4 v6 v7 v8 v12 v13 v14 v15 v17 hn w
    have e9 : 14 - n = (14 - (n + 1)) + 1 := by omega
    exact tL_law_b305_o (j305 := 14 - (n + 1)) X hX hbl hbA hL hNc hQ hj65 (by omega) H65 (fun h v1 v2 v3 v4 v6 v7 v8 v12 v13 v14 v15 v17 w => by have z := ih h v1 v2 v3 v4 v6 v7 v8 v12 v13 v14 v15 v17 (by omega) w; rw [e9] at z; exact z) w
def vL_law_b65_o (t0 : Nat) (k65 : gH → Option Nat → Option Nat → Int32 → Int32 → Prop) (Qn : Int32 → gH → Prop) (h : gH) (v1 : Option Nat) (v2 : Option Nat) (v3 : Int32) (v4 : Int32) : Prop := ((v3 ≤ (v4 : Int32)) → (vL_tale t0 (fun x2 h1 => nn v1 (fun a3 => vL_tick t0 (fun x5 h4 => ((¬ (x5 : Int32) = (-1)) → (vL_law_b518 t0  Qn h4 )) ∧ (((x5 : Int32) = (-1)) → (vL_tick t0 (fun x7 h6 => ((¬ (x7 : Int32) = (-1)) → (vL_law_b518 t0  Qn h6 )) ∧ (((x7 : Int32) = (-1)) → (vL_addState t0 (fun x9 h8 => ((¬ (x9 : Int32) = (-1)) → (vL_law_b518 t0  Qn h8 )) ∧ (((x9 : Int32) = (-1)) → (vL_addState t0 (fun x11 h10 => ((¬ (x11 : Int32) = (-2)) → (vL_law_b518 t0  Qn h10 )) ∧ (((x11 : Int32) = (-2)) → (vL_addTransition t0 (fun x13 h12 => ((¬ (x13 : Int32) = (-1)) → (vL_law_b518 t0  Qn h12 )) ∧ (((x13 : Int32) = (-1)) → (vL_addTransition t0 (fun x15 h14 => (((x15 : Int32) = (-2)) → (vL_addChild t0 (fun x17 h16 => ((¬ (x17 : Int32) = (-2)) → (vL_law_b579 t0  Qn h16 )) ∧ (((x17 : Int32) = (-2)) → (vL_addChild t0 (fun x19 h18 => ((¬ (x19 : Int32) = (-2)) → (vL_law_b579 t0  Qn h18 )) ∧ (((x19 : Int32) = (-2)) → (vL_addChild t0 (fun x21 h20 => ((¬ (x21 : Int32) = (-3)) → (vL_law_b579 t0  Qn h20 )) ∧ (((x21 : Int32) = (-3)) → (vL_addChild t0 (fun x23 h22 => ((¬ (x23 : Int32) = (-1)) → (vL_law_b579 t0  Qn h22 )) ∧ (((x23 : Int32) = (-1)) → (vL_tale t0 (fun x25 h24 => (((x25 : Int64) = x2) → (io h24 a3 14 (vX11_count t0 (fun x27 h26 => io h26 a3 14 (vX11_reset t0 (fun x29 h28 => ((¬ (x29 : Int32) = x27) → (vL_law_b649 t0  Qn h28 )) ∧ (((x29 : Int32) = x27) → (io h28 a3 14 (vX11_count t0 (fun x31 h30 => ((¬ (x31 : Int32) = 0) → (vL_law_b649 t0  Qn h30 )) ∧ (((x31 : Int32) = 0) → (io h30 a3 14 (vX11_fired t0 (fun x33 h32 => ((¬ (x33 : Int32) = 0) → (vL_law_b649 t0  Qn h32 )) ∧ (((x33 : Int32) = 0) → (io h32 a3 14 (vX11_state t0 (fun x35 h34 => ((¬ (x35 : Int32) = 0) → (vL_law_b649 t0  Qn h34 )) ∧ (((x35 : Int32) = 0) → (io h34 a3 14 (vX11_target t0 (fun x37 h36 => ((¬ (x37 : Int32) = (-1)) → (vL_law_b649 t0  Qn h36 )) ∧ (((x37 : Int32) = (-1)) → (io h36 a3 14 (vX11_progress t0 (fun x39 h38 => ((¬ (x39 : Int64) = 0) → (vL_law_b649 t0  Qn h38 )) ∧ (((x39 : Int64) = 0) → (io h38 a3 14 (vX11_value t0 (fun x41 h40 => ((¬ (x41 : Int32) = 0) → (vL_law_b649 t0  Qn h40 )) ∧ (((x41 : Int32) = 0) → (vL_law_b650 t0  Qn h40 1))) (fun _ _ => False) h38 a3 0)))) (fun _ _ => False) h36 a3 0)))) h34 a3 )))) (fun _ _ => False) h32 a3 )))) h30 a3 )))) (fun _ _ => False) h28 a3 5)))) h26 a3 )) (fun _ _ => False) h24 a3 5))) ∧ ((¬ (x25 : Int64) = x2) → (vL_law_b579 t0  Qn h24 ))) h22 (some a3)))) h20 a3 20 0 0))) h18 a3 5 0 (-100)))) h16 a3 5 5 0))) h14 a3 0 0 0)) ∧ ((¬ (x15 : Int32) = (-2)) → (vL_law_b518 t0  Qn h14 ))) h12 a3 0 0 61))) h10 a3 (-2) 0 1))) h8 a3 0 401))) h6 a3 99 1))) h4 a3 101))) h1 a3 0)) h v1)) ∧ ((¬ v3 ≤ (v4 : Int32)) → (vL_cell t0 (fun x43 h42 => vL_low t0 (fun x45 h44 => nn v1 (fun a46 => io h44 a46 14 (vX11_set t0 (fun x48 h47 => io h47 a46 14 (vX11_set t0 (fun x50 h49 => io h49 a46 14 (vX11_set t0 (fun x52 h51 => vL_lengthsFit t0 (fun x54 h53 => (((x54 : Int32) = 0) → (vL_law_b141 t0  Qn h53 )) ∧ ((¬ (x54 : Int32) = 0) → (vL_poseFits t0 (fun x56 h55 => ((¬ (x56 : Int32) = 0) → (vL_low t0 (fun x58 h57 => vL_low t0 (fun x60 h59 => vL_low t0 (fun x62 h61 => vL_tale t0 (fun x64 h63 => io h63 a46 14 (vX11_foretell t0 (fun x66 h65 => io h65 a46 14 (vX11_ticksTo t0 (fun x68 h67 => vL_tale t0 (fun x70 h69 => ((¬ (x70 : Int64) = x64) → (vL_law_b233 t0  Qn h69 )) ∧ (((x70 : Int64) = x64) → (io h69 a46 14 (vX11_keep t0 (fun x72 h71 => io h71 a46 14 (vX11_count t0 (fun x74 h73 => (((x72 : Int32) = x74) → (vL_tick t0 (fun x76 h75 => vL_tick t0 (fun x78 h77 => vL_tale t0 (fun x80 h79 => vL_place t0 (fun x82 h81 => ((¬ (x82 : Int32) = x66) → (vL_law_b300 t0  Qn h81 )) ∧ (((x82 : Int32) = x66) → (vL_poseFits t0 (fun x84 h83 => (((x84 : Int32) = 0) → (vL_law_b300 t0  Qn h83 )) ∧ ((¬ (x84 : Int32) = 0) → (io h83 a46 14 (vX11_restore t0 (fun x86 h85 => io h85 a46 14 (vX11_count t0 (fun x88 h87 => ((¬ (x86 : Int32) = x88) → (vL_law_b300 t0  Qn h87 )) ∧ (((x86 : Int32) = x88) → (vL_tale t0 (fun x90 h89 => (((x90 : Int64) = x64) → (vL_law_b305 t0 k65 Qn 14 h89 (some a46) v2 v3 v4 (1 + x58) (1 + x60) x62 x68 x76 x78 x80 0)) ∧ ((¬ (x90 : Int64) = x64) → (vL_law_b300 t0  Qn h89 ))) h87 (some a46)))) (fun _ _ => False) h85 a46 5)) (fun _ _ => False) h83 a46 (v4 &&& 1))))) h81 (some a46) v2))) h79 (some a46)) h77 (some a46)) h75 a46 (1 + x60)) h73 a46 (1 + x58))) ∧ ((¬ (x72 : Int32) = x74) → (vL_law_b233 t0  Qn h73 ))) (fun _ _ => False) h71 a46 5)) (fun _ _ => False) h69 a46 (v4 &&& 1))))) h67 (some a46)) (fun _ _ => False) h65 a46 x62)) (fun _ _ => False) h63 a46 ((1 + x58) + (1 + x60)))) h61 (some a46)) h59 (x43 >>> (18 &&& 31)) 4) h57 (x43 >>> (14 &&& 31)) 6) h55 (x43 >>> (10 &&& 31)) 6)) ∧ (((x56 : Int32) = 0) → (vL_law_b141 t0  Qn h55 ))) h53 (some a46) v2))) h51 (some a46) v2) (fun _ _ => False) h49 a46 2 ((x43 >>> (9 &&& 31)) &&& 1))) (fun _ _ => False) h47 a46 1 ((x43 >>> (8 &&& 31)) &&& 1))) (fun _ _ => False) h44 a46 0 (x45 - 100)))) h42 x43 201) h (21 + v4)))
set_option maxRecDepth 100000 in
set_option maxHeartbeats 4000000 in
theorem tL_law_b65_o {p : Program} {l : Launch} {e : Env} {s : State} {m : MethodId} {below : List Frame} {meth : Method} {c : Code} {G : gG} {b L : Nat} {xs : Nat → Int32} {Qn : Int32 → gH → Prop} (X : gC p l s m #[Value.ref b] meth c G (fun q => s.heap.size ≤ q) cL_law 19 (some .boolean) RL) (hX : va_X b L xs s s.heap) (hbl : b < s.heap.size) (hbA : ¬ (fun q : Nat => s.heap.size ≤ q) b) (hL : L ≤ 260) (hNc : gNc s) (hQ : ∀ (x : Int32) (h : gH), Qn x h → x = 1) {j65 : Nat} (hj65 : j65 < 8) {k65 : gH → Option Nat → Option Nat → Int32 → Int32 → Prop} (H65 : ∀ (h : gH) (v1 : Option Nat) (v2 : Option Nat) (v3 : Int32) (v4 : Int32), k65 h v1 v2 v3 v4 → V p l e room_1 s m #[Value.ref b] below meth c (lw_Z below #[Value.ref b] s) G (fun q => s.heap.size ≤ q) 19 h (440 + 2483 * (j65 + 1)) (6000 + 14898 * (j65 + 1)) 65 [(0, .ref b), (1, va_rf v1), (2, va_rf v2), (3, .int v3), (4, .int v4)] []) {h : gH} {v1 : Option Nat} {v2 : Option Nat} {v3 : Int32} {v4 : Int32} (w : vL_law_b65_o G.2.2.1 k65 Qn h v1 v2 v3 v4) : V p l e room_1 s m #[Value.ref b] below meth c (lw_Z below #[Value.ref b] s) G (fun q => s.heap.size ≤ q) 19 h (440 + 2483 * j65) (6000 + 14898 * j65) 65 [(0, .ref b), (1, va_rf v1), (2, va_rf v2), (3, .int v3), (4, .int v4)] [] := by
  refine V_iload X dL_law_65 4 rfl ?_
  refine V_iload_n X dL_law_67 3 rfl ?_
  obtain ⟨w1, w2⟩ := w
  refine V_icmp_ge (tgt := 444) X dL_law_68 (by decide) (fun z => ?_) (fun z => ?_)
  · replace w := w1 z
    clear w1 w2
    refine V_aload_n X dL_law_444 1 rfl ?_
    refine V_callSl (As := [va_rf v1]) (rest := []) (k1 := 736 + 2483 * j65) (n1 := 7776 + 14898 * j65) X (cL_tale_ok X.2.2.2.2.2.2.2.2.1 w) lkL_172 dL_law_445 ⟨(Nat.le_of_ble_eq_true rfl), (Nat.le_of_ble_eq_true rfl)⟩ rfl (Nat.le_of_ble_eq_true rfl) ⟨by show 440 + 2483 * j65 + 296 ≤ 636012; omega, by show 6000 + 14898 * j65 + 1776 ≤ 7193589; omega⟩ (by show 440 + 2483 * j65 + 296 ≤ 736 + 2483 * j65; omega) (by show 6000 + 14898 * j65 + 1776 ≤ 7776 + 14898 * j65; omega) (fun x2 h1 w9 => ?_)
    replace w := w9
    clear w9
    refine V_lstore X dL_law_448 (by decide) rfl ?_
    refine V_aload_n X dL_law_450 2 rfl ?_
    refine V_iconst (y := 0) X dL_law_451 (by decide) ?_
    obtain ⟨a3, rfl, w⟩ := w
    refine V_callSW (As := [.ref a3, .int 0]) (rest := []) (k1 := 738 + 2483 * j65) (n1 := 7788 + 14898 * j65) X hNc (cL_tick_ok X.2.2.2.2.2.2.2.2.1 w) lwL_152 dL_law_452 ⟨(Nat.le_of_ble_eq_true rfl), (Nat.le_of_ble_eq_true rfl)⟩ rfl (Nat.le_of_ble_eq_true rfl) ⟨by show 736 + 2483 * j65 + 2 ≤ 636012; omega, by show 7776 + 14898 * j65 + 12 ≤ 7193589; omega⟩ (by show 736 + 2483 * j65 + 2 ≤ 738 + 2483 * j65; omega) (by show 7776 + 14898 * j65 + 12 ≤ 7788 + 14898 * j65; omega) (fun x5 h4 w9 => ?_)
    replace w := w9
    clear w9
    refine V_iconst (y := (-1)) X dL_law_455 (by decide) ?_
    obtain ⟨w1, w2⟩ := w
    refine V_icmp_ne (tgt := 518) X dL_law_456 (by decide) (fun z => ?_) (fun z => ?_)
    · replace w := w1 z
      clear w1 w2
      exact V.widen (k1 := 20624) (n1 := 127328) (by omega) (by omega) <| V.sub [] rfl (tL_law_b518 X hX hbl hbA hL hNc hQ  w)
    · replace w := w2 z
      clear w1 w2
      refine V_aloadr_n X dL_law_459 2 rfl ?_
      refine V_bipush (y := 101) X dL_law_460 (by decide) ?_
      refine V_callSW (As := [.ref a3, .int 101]) (rest := []) (k1 := 740 + 2483 * j65) (n1 := 7800 + 14898 * j65) X hNc (cL_tick_ok X.2.2.2.2.2.2.2.2.1 w) lwL_152 dL_law_462 ⟨(Nat.le_of_ble_eq_true rfl), (Nat.le_of_ble_eq_true rfl)⟩ rfl (Nat.le_of_ble_eq_true rfl) ⟨by show 738 + 2483 * j65 + 2 ≤ 636012; omega, by show 7788 + 14898 * j65 + 12 ≤ 7193589; omega⟩ (by show 738 + 2483 * j65 + 2 ≤ 740 + 2483 * j65; omega) (by show 7788 + 14898 * j65 + 12 ≤ 7800 + 14898 * j65; omega) (fun x7 h6 w9 => ?_)
      replace w := w9
      clear w9
      refine V_iconst (y := (-1)) X dL_law_465 (by decide) ?_
      obtain ⟨w1, w2⟩ := w
      refine V_icmp_ne (tgt := 518) X dL_law_466 (by decide) (fun z => ?_) (fun z => ?_)
      · replace w := w1 z
        clear w1 w2
        exact V.widen (k1 := 20624) (n1 := 127328) (by omega) (by omega) <| V.sub [] rfl (tL_law_b518 X hX hbl hbA hL hNc hQ  w)
      · replace w := w2 z
        clear w1 w2
        refine V_aloadr_n X dL_law_469 2 rfl ?_
        refine V_bipush (y := 99) X dL_law_470 (by decide) ?_
        refine V_iconst (y := 1) X dL_law_472 (by decide) ?_
        refine V_callSW (As := [.ref a3, .int 99, .int 1]) (rest := []) (k1 := 743 + 2483 * j65) (n1 := 7875 + 14898 * j65) X hNc (cL_addState_ok X.2.2.2.2.2.2.2.2.1 w) lwL_155 dL_law_473 ⟨(Nat.le_of_ble_eq_true rfl), (Nat.le_of_ble_eq_true rfl)⟩ rfl (Nat.le_of_ble_eq_true rfl) ⟨by show 740 + 2483 * j65 + 3 ≤ 636012; omega, by show 7800 + 14898 * j65 + 75 ≤ 7193589; omega⟩ (by show 740 + 2483 * j65 + 3 ≤ 743 + 2483 * j65; omega) (by show 7800 + 14898 * j65 + 75 ≤ 7875 + 14898 * j65; omega) (fun x9 h8 w9 => ?_)
        replace w := w9
        clear w9
        refine V_iconst (y := (-1)) X dL_law_476 (by decide) ?_
        obtain ⟨w1, w2⟩ := w
        refine V_icmp_ne (tgt := 518) X dL_law_477 (by decide) (fun z => ?_) (fun z => ?_)
        · replace w := w1 z
          clear w1 w2
          exact V.widen (k1 := 20624) (n1 := 127328) (by omega) (by omega) <| V.sub [] rfl (tL_law_b518 X hX hbl hbA hL hNc hQ  w)
        · replace w := w2 z
          clear w1 w2
          refine V_aloadr_n X dL_law_480 2 rfl ?_
          refine V_iconst (y := 0) X dL_law_481 (by decide) ?_
          refine V_sipush (y := 401) X dL_law_482 (by decide) ?_
          refine V_callSW (As := [.ref a3, .int 0, .int 401]) (rest := []) (k1 := 746 + 2483 * j65) (n1 := 7950 + 14898 * j65) X hNc (cL_addState_ok X.2.2.2.2.2.2.2.2.1 w) lwL_155 dL_law_485 ⟨(Nat.le_of_ble_eq_true rfl), (Nat.le_of_ble_eq_true rfl)⟩ rfl (Nat.le_of_ble_eq_true rfl) ⟨by show 743 + 2483 * j65 + 3 ≤ 636012; omega, by show 7875 + 14898 * j65 + 75 ≤ 7193589; omega⟩ (by show 743 + 2483 * j65 + 3 ≤ 746 + 2483 * j65; omega) (by show 7875 + 14898 * j65 + 75 ≤ 7950 + 14898 * j65; omega) (fun x11 h10 w9 => ?_)
          replace w := w9
          clear w9
          refine V_bipush (y := (-2)) X dL_law_488 (by decide) ?_
          obtain ⟨w1, w2⟩ := w
          refine V_icmp_ne (tgt := 518) X dL_law_490 (by decide) (fun z => ?_) (fun z => ?_)
          · replace w := w1 z
            clear w1 w2
            exact V.widen (k1 := 20624) (n1 := 127328) (by omega) (by omega) <| V.sub [] rfl (tL_law_b518 X hX hbl hbA hL hNc hQ  w)
          · replace w := w2 z
            clear w1 w2
            refine V_aloadr_n X dL_law_493 2 rfl ?_
            refine V_bipush (y := (-2)) X dL_law_494 (by decide) ?_
            refine V_iconst (y := 0) X dL_law_496 (by decide) ?_
            refine V_iconst (y := 1) X dL_law_497 (by decide) ?_
            refine V_callSW (As := [.ref a3, .int (-2), .int 0, .int 1]) (rest := []) (k1 := 753 + 2483 * j65) (n1 := 8047 + 14898 * j65) X hNc (cL_addTransition_ok X.2.2.2.2.2.2.2.2.1 w) lwL_192 dL_law_498 ⟨(Nat.le_of_ble_eq_true rfl), (Nat.le_of_ble_eq_true rfl)⟩ rfl (Nat.le_of_ble_eq_true rfl) ⟨by show 746 + 2483 * j65 + 7 ≤ 636012; omega, by show 7950 + 14898 * j65 + 97 ≤ 7193589; omega⟩ (by show 746 + 2483 * j65 + 7 ≤ 753 + 2483 * j65; omega) (by show 7950 + 14898 * j65 + 97 ≤ 8047 + 14898 * j65; omega) (fun x13 h12 w9 => ?_)
            replace w := w9
            clear w9
            refine V_iconst (y := (-1)) X dL_law_501 (by decide) ?_
            obtain ⟨w1, w2⟩ := w
            refine V_icmp_ne (tgt := 518) X dL_law_502 (by decide) (fun z => ?_) (fun z => ?_)
            · replace w := w1 z
              clear w1 w2
              exact V.widen (k1 := 20624) (n1 := 127328) (by omega) (by omega) <| V.sub [] rfl (tL_law_b518 X hX hbl hbA hL hNc hQ  w)
            · replace w := w2 z
              clear w1 w2
              refine V_aloadr_n X dL_law_505 2 rfl ?_
              refine V_iconst (y := 0) X dL_law_506 (by decide) ?_
              refine V_iconst (y := 0) X dL_law_507 (by decide) ?_
              refine V_bipush (y := 61) X dL_law_508 (by decide) ?_
              refine V_callSW (As := [.ref a3, .int 0, .int 0, .int 61]) (rest := []) (k1 := 760 + 2483 * j65) (n1 := 8144 + 14898 * j65) X hNc (cL_addTransition_ok X.2.2.2.2.2.2.2.2.1 w) lwL_192 dL_law_510 ⟨(Nat.le_of_ble_eq_true rfl), (Nat.le_of_ble_eq_true rfl)⟩ rfl (Nat.le_of_ble_eq_true rfl) ⟨by show 753 + 2483 * j65 + 7 ≤ 636012; omega, by show 8047 + 14898 * j65 + 97 ≤ 7193589; omega⟩ (by show 753 + 2483 * j65 + 7 ≤ 760 + 2483 * j65; omega) (by show 8047 + 14898 * j65 + 97 ≤ 8144 + 14898 * j65; omega) (fun x15 h14 w9 => ?_)
              replace w := w9
              clear w9
              refine V_bipush (y := (-2)) X dL_law_513 (by decide) ?_
              obtain ⟨w1, w2⟩ := w
              refine V_icmp_eq (tgt := 520) X dL_law_515 (by decide) (fun z => ?_) (fun z => ?_)
              · replace w := w1 z
                clear w1 w2
                refine V_aloadr_n X dL_law_520 2 rfl ?_
                refine V_iconst (y := 0) X dL_law_521 (by decide) ?_
                refine V_iconst (y := 0) X dL_law_522 (by decide) ?_
                refine V_iconst (y := 0) X dL_law_523 (by decide) ?_
                refine V_callSW (As := [.ref a3, .int 0, .int 0, .int 0]) (rest := []) (k1 := 763 + 2483 * j65) (n1 := 8220 + 14898 * j65) X hNc (cL_addChild_ok X.2.2.2.2.2.2.2.2.1 w) lwL_195 dL_law_524 ⟨(Nat.le_of_ble_eq_true rfl), (Nat.le_of_ble_eq_true rfl)⟩ rfl (Nat.le_of_ble_eq_true rfl) ⟨by show 760 + 2483 * j65 + 3 ≤ 636012; omega, by show 8144 + 14898 * j65 + 76 ≤ 7193589; omega⟩ (by show 760 + 2483 * j65 + 3 ≤ 763 + 2483 * j65; omega) (by show 8144 + 14898 * j65 + 76 ≤ 8220 + 14898 * j65; omega) (fun x17 h16 w9 => ?_)
                replace w := w9
                clear w9
                refine V_bipush (y := (-2)) X dL_law_527 (by decide) ?_
                obtain ⟨w1, w2⟩ := w
                refine V_icmp_ne (tgt := 579) X dL_law_529 (by decide) (fun z => ?_) (fun z => ?_)
                · replace w := w1 z
                  clear w1 w2
                  exact V.widen (k1 := 20932) (n1 := 129408) (by omega) (by omega) <| V.sub [] rfl (tL_law_b579 X hX hbl hbA hL hNc hQ  w)
                · replace w := w2 z
                  clear w1 w2
                  refine V_aloadr_n X dL_law_532 2 rfl ?_
                  refine V_iconst (y := 5) X dL_law_533 (by decide) ?_
                  refine V_iconst (y := 5) X dL_law_534 (by decide) ?_
                  refine V_iconst (y := 0) X dL_law_535 (by decide) ?_
                  refine V_callSW (As := [.ref a3, .int 5, .int 5, .int 0]) (rest := []) (k1 := 766 + 2483 * j65) (n1 := 8296 + 14898 * j65) X hNc (cL_addChild_ok X.2.2.2.2.2.2.2.2.1 w) lwL_195 dL_law_536 ⟨(Nat.le_of_ble_eq_true rfl), (Nat.le_of_ble_eq_true rfl)⟩ rfl (Nat.le_of_ble_eq_true rfl) ⟨by show 763 + 2483 * j65 + 3 ≤ 636012; omega, by show 8220 + 14898 * j65 + 76 ≤ 7193589; omega⟩ (by show 763 + 2483 * j65 + 3 ≤ 766 + 2483 * j65; omega) (by show 8220 + 14898 * j65 + 76 ≤ 8296 + 14898 * j65; omega) (fun x19 h18 w9 => ?_)
                  replace w := w9
                  clear w9
                  refine V_bipush (y := (-2)) X dL_law_539 (by decide) ?_
                  obtain ⟨w1, w2⟩ := w
                  refine V_icmp_ne (tgt := 579) X dL_law_541 (by decide) (fun z => ?_) (fun z => ?_)
                  · replace w := w1 z
                    clear w1 w2
                    exact V.widen (k1 := 20932) (n1 := 129408) (by omega) (by omega) <| V.sub [] rfl (tL_law_b579 X hX hbl hbA hL hNc hQ  w)
                  · replace w := w2 z
                    clear w1 w2
                    refine V_aloadr_n X dL_law_544 2 rfl ?_
                    refine V_iconst (y := 5) X dL_law_545 (by decide) ?_
                    refine V_iconst (y := 0) X dL_law_546 (by decide) ?_
                    refine V_bipush (y := (-100)) X dL_law_547 (by decide) ?_
                    refine V_callSW (As := [.ref a3, .int 5, .int 0, .int (-100)]) (rest := []) (k1 := 769 + 2483 * j65) (n1 := 8372 + 14898 * j65) X hNc (cL_addChild_ok X.2.2.2.2.2.2.2.2.1 w) lwL_195 dL_law_549 ⟨(Nat.le_of_ble_eq_true rfl), (Nat.le_of_ble_eq_true rfl)⟩ rfl (Nat.le_of_ble_eq_true rfl) ⟨by show 766 + 2483 * j65 + 3 ≤ 636012; omega, by show 8296 + 14898 * j65 + 76 ≤ 7193589; omega⟩ (by show 766 + 2483 * j65 + 3 ≤ 769 + 2483 * j65; omega) (by show 8296 + 14898 * j65 + 76 ≤ 8372 + 14898 * j65; omega) (fun x21 h20 w9 => ?_)
                    replace w := w9
                    clear w9
                    refine V_bipush (y := (-3)) X dL_law_552 (by decide) ?_
                    obtain ⟨w1, w2⟩ := w
                    refine V_icmp_ne (tgt := 579) X dL_law_554 (by decide) (fun z => ?_) (fun z => ?_)
                    · replace w := w1 z
                      clear w1 w2
                      exact V.widen (k1 := 20932) (n1 := 129408) (by omega) (by omega) <| V.sub [] rfl (tL_law_b579 X hX hbl hbA hL hNc hQ  w)
                    · replace w := w2 z
                      clear w1 w2
                      refine V_aloadr_n X dL_law_557 2 rfl ?_
                      refine V_bipush (y := 20) X dL_law_558 (by decide) ?_
                      refine V_iconst (y := 0) X dL_law_560 (by decide) ?_
                      refine V_iconst (y := 0) X dL_law_561 (by decide) ?_
                      refine V_callSW (As := [.ref a3, .int 20, .int 0, .int 0]) (rest := []) (k1 := 772 + 2483 * j65) (n1 := 8448 + 14898 * j65) X hNc (cL_addChild_ok X.2.2.2.2.2.2.2.2.1 w) lwL_195 dL_law_562 ⟨(Nat.le_of_ble_eq_true rfl), (Nat.le_of_ble_eq_true rfl)⟩ rfl (Nat.le_of_ble_eq_true rfl) ⟨by show 769 + 2483 * j65 + 3 ≤ 636012; omega, by show 8372 + 14898 * j65 + 76 ≤ 7193589; omega⟩ (by show 769 + 2483 * j65 + 3 ≤ 772 + 2483 * j65; omega) (by show 8372 + 14898 * j65 + 76 ≤ 8448 + 14898 * j65; omega) (fun x23 h22 w9 => ?_)
                      replace w := w9
                      clear w9
                      refine V_iconst (y := (-1)) X dL_law_565 (by decide) ?_
                      obtain ⟨w1, w2⟩ := w
                      refine V_icmp_ne (tgt := 579) X dL_law_566 (by decide) (fun z => ?_) (fun z => ?_)
                      · replace w := w1 z
                        clear w1 w2
                        exact V.widen (k1 := 20932) (n1 := 129408) (by omega) (by omega) <| V.sub [] rfl (tL_law_b579 X hX hbl hbA hL hNc hQ  w)
                      · replace w := w2 z
                        clear w1 w2
                        refine V_aloadr_n X dL_law_569 2 rfl ?_
                        refine V_callSl (As := [.ref a3]) (rest := []) (k1 := 1068 + 2483 * j65) (n1 := 10224 + 14898 * j65) X (cL_tale_ok X.2.2.2.2.2.2.2.2.1 w) lkL_172 dL_law_570 ⟨(Nat.le_of_ble_eq_true rfl), (Nat.le_of_ble_eq_true rfl)⟩ rfl (Nat.le_of_ble_eq_true rfl) ⟨by show 772 + 2483 * j65 + 296 ≤ 636012; omega, by show 8448 + 14898 * j65 + 1776 ≤ 7193589; omega⟩ (by show 772 + 2483 * j65 + 296 ≤ 1068 + 2483 * j65; omega) (by show 8448 + 14898 * j65 + 1776 ≤ 10224 + 14898 * j65; omega) (fun x25 h24 w9 => ?_)
                        replace w := w9
                        clear w9
                        refine V_lload X dL_law_573 0 rfl ?_
                        refine V_lcmp X dL_law_575 ?_
                        obtain ⟨w1, w2⟩ := w
                        refine V_if_eq (tgt := 581) X dL_law_576 (by decide) (fun z => ?_) (fun z => ?_)
                        · replace w := w1 ((lg_cmp_eq _ _).mp z)
                          clear w1 w2
                          refine V_aloadr_n X dL_law_581 2 rfl ?_
                          refine V_iconst (y := 5) X dL_law_582 (by decide) ?_
                          obtain ⟨fs, hh, w⟩ := w
                          refine V_callZi (As := [.int 5]) (rest := []) (k1 := 1069 + 2483 * j65) (n1 := 10230 + 14898 * j65) X (cX11_count_ok X.2.2.2.2.2.2.2.2.1 w) lkL_124 hh (q9 := (RX11, TX11, 7)) rfl rfl dL_law_583 ⟨(Nat.le_of_ble_eq_true rfl), (Nat.le_of_ble_eq_true rfl)⟩ rfl (Nat.le_of_ble_eq_true rfl) ⟨by show 1068 + 2483 * j65 + 1 ≤ 636012; omega, by show 10224 + 14898 * j65 + 6 ≤ 7193589; omega⟩ (by show 1068 + 2483 * j65 + 1 ≤ 1069 + 2483 * j65; omega) (by show 10224 + 14898 * j65 + 6 ≤ 10230 + 14898 * j65; omega) (fun x27 h26 w9 => ?_)
                          replace w := w9
                          clear w9
                          refine V_istore X dL_law_586 (by decide) rfl ?_
                          refine V_aloadr_n X dL_law_588 3 rfl ?_
                          obtain ⟨fs, hh, w⟩ := w
                          refine V_callVi (As := []) (rest := []) (k1 := 1069 + 2483 * j65) (n1 := 10230 + 14898 * j65) X (cX11_reset_ok X.2.2.2.2.2.2.2.2.1 w) lkL_197 hh (q9 := (RX11, TX11, 7)) rfl rfl dL_law_589 ⟨(Nat.le_of_ble_eq_true rfl), (Nat.le_of_ble_eq_true rfl)⟩ rfl (Nat.le_of_ble_eq_true rfl) ⟨by show 1069 + 2483 * j65 + 0 ≤ 636012; omega, by show 10230 + 14898 * j65 + 0 ≤ 7193589; omega⟩ (by show 1069 + 2483 * j65 + 0 ≤ 1069 + 2483 * j65; omega) (by show 10230 + 14898 * j65 + 0 ≤ 10230 + 14898 * j65; omega) (fun x29 h28 w9 => ?_)
                          replace w := w9
                          clear w9
                          refine V_iload X dL_law_592 0 rfl ?_
                          obtain ⟨w1, w2⟩ := w
                          refine V_icmp_ne (tgt := 649) X dL_law_594 (by decide) (fun z => ?_) (fun z => ?_)
                          · replace w := w1 z
                            clear w1 w2
                            exact V.widen (k1 := 20938) (n1 := 129444) (by omega) (by omega) <| V.sub [] rfl (tL_law_b649 X hX hbl hbA hL hNc hQ  w)
                          · replace w := w2 z
                            clear w1 w2
                            refine V_aloadr_n X dL_law_597 3 rfl ?_
                            refine V_iconst (y := 5) X dL_law_598 (by decide) ?_
                            obtain ⟨fs, hh, w⟩ := w
                            refine V_callZi (As := [.int 5]) (rest := []) (k1 := 1070 + 2483 * j65) (n1 := 10236 + 14898 * j65) X (cX11_count_ok X.2.2.2.2.2.2.2.2.1 w) lkL_124 hh (q9 := (RX11, TX11, 7)) rfl rfl dL_law_599 ⟨(Nat.le_of_ble_eq_true rfl), (Nat.le_of_ble_eq_true rfl)⟩ rfl (Nat.le_of_ble_eq_true rfl) ⟨by show 1069 + 2483 * j65 + 1 ≤ 636012; omega, by show 10230 + 14898 * j65 + 6 ≤ 7193589; omega⟩ (by show 1069 + 2483 * j65 + 1 ≤ 1070 + 2483 * j65; omega) (by show 10230 + 14898 * j65 + 6 ≤ 10236 + 14898 * j65; omega) (fun x31 h30 w9 => ?_)
                            replace w := w9
                            clear w9
                            obtain ⟨w1, w2⟩ := w
                            refine V_if_ne (tgt := 649) X dL_law_602 (by decide) (fun z => ?_) (fun z => ?_)
                            · replace w := w1 z
                              clear w1 w2
                              exact V.widen (k1 := 20938) (n1 := 129444) (by omega) (by omega) <| V.sub [] rfl (tL_law_b649 X hX hbl hbA hL hNc hQ  w)
                            · replace w := w2 z
                              clear w1 w2
                              refine V_aloadr_n X dL_law_605 3 rfl ?_
                              obtain ⟨fs, hh, w⟩ := w
                              refine V_callVi (As := []) (rest := []) (k1 := 1070 + 2483 * j65) (n1 := 10236 + 14898 * j65) X (cX11_fired_ok X.2.2.2.2.2.2.2.2.1 w) lkL_119 hh (q9 := (RX11, TX11, 7)) rfl rfl dL_law_606 ⟨(Nat.le_of_ble_eq_true rfl), (Nat.le_of_ble_eq_true rfl)⟩ rfl (Nat.le_of_ble_eq_true rfl) ⟨by show 1070 + 2483 * j65 + 0 ≤ 636012; omega, by show 10236 + 14898 * j65 + 0 ≤ 7193589; omega⟩ (by show 1070 + 2483 * j65 + 0 ≤ 1070 + 2483 * j65; omega) (by show 10236 + 14898 * j65 + 0 ≤ 10236 + 14898 * j65; omega) (fun x33 h32 w9 => ?_)
                              replace w := w9
                              clear w9
                              obtain ⟨w1, w2⟩ := w
                              refine V_if_ne (tgt := 649) X dL_law_609 (by decide) (fun z => ?_) (fun z => ?_)
                              · replace w := w1 z
                                clear w1 w2
                                exact V.widen (k1 := 20938) (n1 := 129444) (by omega) (by omega) <| V.sub [] rfl (tL_law_b649 X hX hbl hbA hL hNc hQ  w)
                              · replace w := w2 z
                                clear w1 w2
                                refine V_aloadr_n X dL_law_612 3 rfl ?_
                                obtain ⟨fs, hh, w⟩ := w
                                refine V_callZi (As := []) (rest := []) (k1 := 1071 + 2483 * j65) (n1 := 10242 + 14898 * j65) X (cX11_state_ok X.2.2.2.2.2.2.2.2.1 w) lkL_102 hh (q9 := (RX11, TX11, 7)) rfl rfl dL_law_613 ⟨(Nat.le_of_ble_eq_true rfl), (Nat.le_of_ble_eq_true rfl)⟩ rfl (Nat.le_of_ble_eq_true rfl) ⟨by show 1070 + 2483 * j65 + 1 ≤ 636012; omega, by show 10236 + 14898 * j65 + 6 ≤ 7193589; omega⟩ (by show 1070 + 2483 * j65 + 1 ≤ 1071 + 2483 * j65; omega) (by show 10236 + 14898 * j65 + 6 ≤ 10242 + 14898 * j65; omega) (fun x35 h34 w9 => ?_)
                                replace w := w9
                                clear w9
                                obtain ⟨w1, w2⟩ := w
                                refine V_if_ne (tgt := 649) X dL_law_616 (by decide) (fun z => ?_) (fun z => ?_)
                                · replace w := w1 z
                                  clear w1 w2
                                  exact V.widen (k1 := 20938) (n1 := 129444) (by omega) (by omega) <| V.sub [] rfl (tL_law_b649 X hX hbl hbA hL hNc hQ  w)
                                · replace w := w2 z
                                  clear w1 w2
                                  refine V_aloadr_n X dL_law_619 3 rfl ?_
                                  obtain ⟨fs, hh, w⟩ := w
                                  refine V_callVi (As := []) (rest := []) (k1 := 1071 + 2483 * j65) (n1 := 10242 + 14898 * j65) X (cX11_target_ok X.2.2.2.2.2.2.2.2.1 w) lkL_83 hh (q9 := (RX11, TX11, 7)) rfl rfl dL_law_620 ⟨(Nat.le_of_ble_eq_true rfl), (Nat.le_of_ble_eq_true rfl)⟩ rfl (Nat.le_of_ble_eq_true rfl) ⟨by show 1071 + 2483 * j65 + 0 ≤ 636012; omega, by show 10242 + 14898 * j65 + 0 ≤ 7193589; omega⟩ (by show 1071 + 2483 * j65 + 0 ≤ 1071 + 2483 * j65; omega) (by show 10242 + 14898 * j65 + 0 ≤ 10242 + 14898 * j65; omega) (fun x37 h36 w9 => ?_)
                                  replace w := w9
                                  clear w9
                                  refine V_iconst (y := (-1)) X dL_law_623 (by decide) ?_
                                  obtain ⟨w1, w2⟩ := w
                                  refine V_icmp_ne (tgt := 649) X dL_law_624 (by decide) (fun z => ?_) (fun z => ?_)
                                  · replace w := w1 z
                                    clear w1 w2
                                    exact V.widen (k1 := 20938) (n1 := 129444) (by omega) (by omega) <| V.sub [] rfl (tL_law_b649 X hX hbl hbA hL hNc hQ  w)
                                  · replace w := w2 z
                                    clear w1 w2
                                    refine V_aloadr_n X dL_law_627 3 rfl ?_
                                    refine V_iconst (y := 0) X dL_law_628 (by decide) ?_
                                    obtain ⟨fs, hh, w⟩ := w
                                    refine V_callZl (As := [.int 0]) (rest := []) (k1 := 1073 + 2483 * j65) (n1 := 10254 + 14898 * j65) X (cX11_progress_ok X.2.2.2.2.2.2.2.2.1 w) lkL_113 hh (q9 := (RX11, TX11, 7)) rfl rfl dL_law_629 ⟨(Nat.le_of_ble_eq_true rfl), (Nat.le_of_ble_eq_true rfl)⟩ rfl (Nat.le_of_ble_eq_true rfl) ⟨by show 1071 + 2483 * j65 + 2 ≤ 636012; omega, by show 10242 + 14898 * j65 + 12 ≤ 7193589; omega⟩ (by show 1071 + 2483 * j65 + 2 ≤ 1073 + 2483 * j65; omega) (by show 10242 + 14898 * j65 + 12 ≤ 10254 + 14898 * j65; omega) (fun x39 h38 w9 => ?_)
                                    replace w := w9
                                    clear w9
                                    refine V_lconst (y := 0) X dL_law_632 (by decide) ?_
                                    refine V_lcmp X dL_law_633 ?_
                                    obtain ⟨w1, w2⟩ := w
                                    refine V_if_ne (tgt := 649) X dL_law_634 (by decide) (fun z => ?_) (fun z => ?_)
                                    · replace w := w1 (fun z9 => z ((lg_cmp_eq _ _).mpr z9))
                                      clear w1 w2
                                      exact V.widen (k1 := 20938) (n1 := 129444) (by omega) (by omega) <| V.sub [] rfl (tL_law_b649 X hX hbl hbA hL hNc hQ  w)
                                    · replace w := w2 ((lg_cmp_eq _ _).mp z)
                                      clear w1 w2
                                      refine V_aloadr_n X dL_law_637 3 rfl ?_
                                      refine V_iconst (y := 0) X dL_law_638 (by decide) ?_
                                      obtain ⟨fs, hh, w⟩ := w
                                      refine V_callZi (As := [.int 0]) (rest := []) (k1 := 1074 + 2483 * j65) (n1 := 10260 + 14898 * j65) X (cX11_value_ok X.2.2.2.2.2.2.2.2.1 w) lkL_135 hh (q9 := (RX11, TX11, 7)) rfl rfl dL_law_639 ⟨(Nat.le_of_ble_eq_true rfl), (Nat.le_of_ble_eq_true rfl)⟩ rfl (Nat.le_of_ble_eq_true rfl) ⟨by show 1073 + 2483 * j65 + 1 ≤ 636012; omega, by show 10254 + 14898 * j65 + 6 ≤ 7193589; omega⟩ (by show 1073 + 2483 * j65 + 1 ≤ 1074 + 2483 * j65; omega) (by show 10254 + 14898 * j65 + 6 ≤ 10260 + 14898 * j65; omega) (fun x41 h40 w9 => ?_)
                                      replace w := w9
                                      clear w9
                                      obtain ⟨w1, w2⟩ := w
                                      refine V_if_ne (tgt := 649) X dL_law_642 (by decide) (fun z => ?_) (fun z => ?_)
                                      · replace w := w1 z
                                        clear w1 w2
                                        exact V.widen (k1 := 20938) (n1 := 129444) (by omega) (by omega) <| V.sub [] rfl (tL_law_b649 X hX hbl hbA hL hNc hQ  w)
                                      · replace w := w2 z
                                        clear w1 w2
                                        refine V_iconst (y := 1) X dL_law_645 (by decide) ?_
                                        refine V_goto (tgt := 650) X dL_law_646 (by decide) ?_
                                        exact V.widen (k1 := 20938) (n1 := 129444) (by omega) (by omega) <| V.sub [] rfl (tL_law_b650 X hX hbl hbA hL hNc hQ  w)
                        · replace w := w2 (fun z9 => z ((lg_cmp_eq _ _).mpr z9))
                          clear w1 w2
                          exact V.widen (k1 := 20932) (n1 := 129408) (by omega) (by omega) <| V.sub [] rfl (tL_law_b579 X hX hbl hbA hL hNc hQ  w)
              · replace w := w2 z
                clear w1 w2
                exact V.widen (k1 := 20624) (n1 := 127328) (by omega) (by omega) <| V.sub [] rfl (tL_law_b518 X hX hbl hbA hL hNc hQ  w)
  · replace w := w2 z
    clear w1 w2
    refine V_aloadr_n X dL_law_71 0 rfl ?_
    refine V_bipush (y := 21) X dL_law_72 (by decide) ?_
    refine V_iload X dL_law_74 4 rfl ?_
    refine V_iadd X dL_law_76 ?_
    refine V_callSSi (As := [.ref b, .int (21 + v4)]) (rest := []) (k1 := 440 + 2483 * j65) (n1 := 6000 + 14898 * j65) X hX hbl hbA (cL_cell_ok X.2.2.2.2.2.2.2.2.1 hL w) lkL_34 dL_law_77 ⟨(Nat.le_of_ble_eq_true rfl), (Nat.le_of_ble_eq_true rfl)⟩ rfl (Nat.le_of_ble_eq_true rfl) ⟨by show 440 + 2483 * j65 + 0 ≤ 636012; omega, by show 6000 + 14898 * j65 + 0 ≤ 7193589; omega⟩ (by show 440 + 2483 * j65 + 0 ≤ 440 + 2483 * j65; omega) (by show 6000 + 14898 * j65 + 0 ≤ 6000 + 14898 * j65; omega) (fun x43 h42 w9 => ?_)
    replace w := w9
    clear w9
    refine V_istore X dL_law_80 (by decide) rfl ?_
    refine V_aload_n X dL_law_82 2 rfl ?_
    refine V_iconst (y := 0) X dL_law_83 (by decide) ?_
    refine V_iload X dL_law_84 0 rfl ?_
    refine V_sipush (y := 201) X dL_law_86 (by decide) ?_
    refine V_callSi (As := [.int x43, .int 201]) (rest := [.int 0, va_rf v1]) (k1 := 440 + 2483 * j65) (n1 := 6000 + 14898 * j65) X (cL_low_ok X.2.2.2.2.2.2.2.2.1 w) lkL_40 dL_law_89 ⟨(Nat.le_of_ble_eq_true rfl), (Nat.le_of_ble_eq_true rfl)⟩ rfl (va_len _ 4 (Nat.le_of_ble_eq_true rfl)) ⟨by show 440 + 2483 * j65 + 0 ≤ 636012; omega, by show 6000 + 14898 * j65 + 0 ≤ 7193589; omega⟩ (by show 440 + 2483 * j65 + 0 ≤ 440 + 2483 * j65; omega) (by show 6000 + 14898 * j65 + 0 ≤ 6000 + 14898 * j65; omega) (fun x45 h44 w9 => ?_)
    replace w := w9
    clear w9
    refine V_bipush (y := 100) X dL_law_92 (by decide) ?_
    refine V_isub X dL_law_94 ?_
    obtain ⟨a46, rfl, w⟩ := w
    obtain ⟨fs, hh, w⟩ := w
    refine V_callZi (As := [.int 0, .int (x45 - 100)]) (rest := []) (k1 := 442 + 2483 * j65) (n1 := 6012 + 14898 * j65) X (cX11_set_ok X.2.2.2.2.2.2.2.2.1 w) lkL_162 hh (q9 := (RX11, TX11, 7)) rfl rfl dL_law_95 ⟨(Nat.le_of_ble_eq_true rfl), (Nat.le_of_ble_eq_true rfl)⟩ rfl (Nat.le_of_ble_eq_true rfl) ⟨by show 440 + 2483 * j65 + 2 ≤ 636012; omega, by show 6000 + 14898 * j65 + 12 ≤ 7193589; omega⟩ (by show 440 + 2483 * j65 + 2 ≤ 442 + 2483 * j65; omega) (by show 6000 + 14898 * j65 + 12 ≤ 6012 + 14898 * j65; omega) (fun x48 h47 w9 => ?_)
    replace w := w9
    clear w9
    refine V_pop X dL_law_98 rfl ?_
    refine V_aloadr_n X dL_law_99 2 rfl ?_
    refine V_iconst (y := 1) X dL_law_100 (by decide) ?_
    refine V_iload X dL_law_101 0 rfl ?_
    refine V_bipush (y := 8) X dL_law_103 (by decide) ?_
    refine V_ishr X dL_law_105 ?_
    refine V_iconst (y := 1) X dL_law_106 (by decide) ?_
    refine V_iand X dL_law_107 ?_
    obtain ⟨fs, hh, w⟩ := w
    refine V_callZi (As := [.int 1, .int ((x43 >>> (8 &&& 31)) &&& 1)]) (rest := []) (k1 := 444 + 2483 * j65) (n1 := 6024 + 14898 * j65) X (cX11_set_ok X.2.2.2.2.2.2.2.2.1 w) lkL_162 hh (q9 := (RX11, TX11, 7)) rfl rfl dL_law_108 ⟨(Nat.le_of_ble_eq_true rfl), (Nat.le_of_ble_eq_true rfl)⟩ rfl (Nat.le_of_ble_eq_true rfl) ⟨by show 442 + 2483 * j65 + 2 ≤ 636012; omega, by show 6012 + 14898 * j65 + 12 ≤ 7193589; omega⟩ (by show 442 + 2483 * j65 + 2 ≤ 444 + 2483 * j65; omega) (by show 6012 + 14898 * j65 + 12 ≤ 6024 + 14898 * j65; omega) (fun x50 h49 w9 => ?_)
    replace w := w9
    clear w9
    refine V_pop X dL_law_111 rfl ?_
    refine V_aloadr_n X dL_law_112 2 rfl ?_
    refine V_iconst (y := 2) X dL_law_113 (by decide) ?_
    refine V_iload X dL_law_114 0 rfl ?_
    refine V_bipush (y := 9) X dL_law_116 (by decide) ?_
    refine V_ishr X dL_law_118 ?_
    refine V_iconst (y := 1) X dL_law_119 (by decide) ?_
    refine V_iand X dL_law_120 ?_
    obtain ⟨fs, hh, w⟩ := w
    refine V_callZi (As := [.int 2, .int ((x43 >>> (9 &&& 31)) &&& 1)]) (rest := []) (k1 := 446 + 2483 * j65) (n1 := 6036 + 14898 * j65) X (cX11_set_ok X.2.2.2.2.2.2.2.2.1 w) lkL_162 hh (q9 := (RX11, TX11, 7)) rfl rfl dL_law_121 ⟨(Nat.le_of_ble_eq_true rfl), (Nat.le_of_ble_eq_true rfl)⟩ rfl (Nat.le_of_ble_eq_true rfl) ⟨by show 444 + 2483 * j65 + 2 ≤ 636012; omega, by show 6024 + 14898 * j65 + 12 ≤ 7193589; omega⟩ (by show 444 + 2483 * j65 + 2 ≤ 446 + 2483 * j65; omega) (by show 6024 + 14898 * j65 + 12 ≤ 6036 + 14898 * j65; omega) (fun x52 h51 w9 => ?_)
    replace w := w9
    clear w9
    refine V_pop X dL_law_124 rfl ?_
    refine V_aloadr_n X dL_law_125 2 rfl ?_
    refine V_aload_n X dL_law_126 3 rfl ?_
    refine V_callSi (As := [.ref a46, va_rf v2]) (rest := []) (k1 := 513 + 2483 * j65) (n1 := 6438 + 14898 * j65) X (cL_lengthsFit_ok X.2.2.2.2.2.2.2.2.1 w) lkL_165 dL_law_127 ⟨(Nat.le_of_ble_eq_true rfl), (Nat.le_of_ble_eq_true rfl)⟩ rfl (Nat.le_of_ble_eq_true rfl) ⟨by show 446 + 2483 * j65 + 67 ≤ 636012; omega, by show 6036 + 14898 * j65 + 402 ≤ 7193589; omega⟩ (by show 446 + 2483 * j65 + 67 ≤ 513 + 2483 * j65; omega) (by show 6036 + 14898 * j65 + 402 ≤ 6438 + 14898 * j65; omega) (fun x54 h53 w9 => ?_)
    replace w := w9
    clear w9
    obtain ⟨w1, w2⟩ := w
    refine V_if_eq (tgt := 141) X dL_law_130 (by decide) (fun z => ?_) (fun z => ?_)
    · replace w := w1 z
      clear w1 w2
      exact V.widen (k1 := 20304) (n1 := 125184) (by omega) (by omega) <| V.sub [] rfl (tL_law_b141 X hX hbl hbA hL hNc hQ  w)
    · replace w := w2 z
      clear w1 w2
      refine V_aloadr_n X dL_law_133 2 rfl ?_
      refine V_aload_n X dL_law_134 3 rfl ?_
      refine V_callSi (As := [.ref a46, va_rf v2]) (rest := []) (k1 := 800 + 2483 * j65) (n1 := 8160 + 14898 * j65) X (cL_poseFits_ok X.2.2.2.2.2.2.2.2.1 w) lkL_169 dL_law_135 ⟨(Nat.le_of_ble_eq_true rfl), (Nat.le_of_ble_eq_true rfl)⟩ rfl (Nat.le_of_ble_eq_true rfl) ⟨by show 513 + 2483 * j65 + 287 ≤ 636012; omega, by show 6438 + 14898 * j65 + 1722 ≤ 7193589; omega⟩ (by show 513 + 2483 * j65 + 287 ≤ 800 + 2483 * j65; omega) (by show 6438 + 14898 * j65 + 1722 ≤ 8160 + 14898 * j65; omega) (fun x56 h55 w9 => ?_)
      replace w := w9
      clear w9
      obtain ⟨w1, w2⟩ := w
      refine V_if_ne (tgt := 143) X dL_law_138 (by decide) (fun z => ?_) (fun z => ?_)
      · replace w := w1 z
        clear w1 w2
        refine V_iconst (y := 1) X dL_law_143 (by decide) ?_
        refine V_iload X dL_law_144 0 rfl ?_
        refine V_bipush (y := 10) X dL_law_146 (by decide) ?_
        refine V_ishr X dL_law_148 ?_
        refine V_bipush (y := 6) X dL_law_149 (by decide) ?_
        refine V_callSi (As := [.int (x43 >>> (10 &&& 31)), .int 6]) (rest := [.int 1]) (k1 := 800 + 2483 * j65) (n1 := 8160 + 14898 * j65) X (cL_low_ok X.2.2.2.2.2.2.2.2.1 w) lkL_40 dL_law_151 ⟨(Nat.le_of_ble_eq_true rfl), (Nat.le_of_ble_eq_true rfl)⟩ rfl (Nat.le_of_ble_eq_true rfl) ⟨by show 800 + 2483 * j65 + 0 ≤ 636012; omega, by show 8160 + 14898 * j65 + 0 ≤ 7193589; omega⟩ (by show 800 + 2483 * j65 + 0 ≤ 800 + 2483 * j65; omega) (by show 8160 + 14898 * j65 + 0 ≤ 8160 + 14898 * j65; omega) (fun x58 h57 w9 => ?_)
        replace w := w9
        clear w9
        refine V_iadd X dL_law_154 ?_
        refine V_istore X dL_law_155 (by decide) rfl ?_
        refine V_iconst (y := 1) X dL_law_157 (by decide) ?_
        refine V_iload X dL_law_158 1 rfl ?_
        refine V_bipush (y := 14) X dL_law_160 (by decide) ?_
        refine V_ishr X dL_law_162 ?_
        refine V_bipush (y := 6) X dL_law_163 (by decide) ?_
        refine V_callSi (As := [.int (x43 >>> (14 &&& 31)), .int 6]) (rest := [.int 1]) (k1 := 800 + 2483 * j65) (n1 := 8160 + 14898 * j65) X (cL_low_ok X.2.2.2.2.2.2.2.2.1 w) lkL_40 dL_law_165 ⟨(Nat.le_of_ble_eq_true rfl), (Nat.le_of_ble_eq_true rfl)⟩ rfl (Nat.le_of_ble_eq_true rfl) ⟨by show 800 + 2483 * j65 + 0 ≤ 636012; omega, by show 8160 + 14898 * j65 + 0 ≤ 7193589; omega⟩ (by show 800 + 2483 * j65 + 0 ≤ 800 + 2483 * j65; omega) (by show 8160 + 14898 * j65 + 0 ≤ 8160 + 14898 * j65; omega) (fun x60 h59 w9 => ?_)
        replace w := w9
        clear w9
        refine V_iadd X dL_law_168 ?_
        refine V_istore X dL_law_169 (by decide) rfl ?_
        refine V_iload X dL_law_171 2 rfl ?_
        refine V_bipush (y := 18) X dL_law_173 (by decide) ?_
        refine V_ishr X dL_law_175 ?_
        refine V_iconst (y := 4) X dL_law_176 (by decide) ?_
        refine V_callSi (As := [.int (x43 >>> (18 &&& 31)), .int 4]) (rest := []) (k1 := 800 + 2483 * j65) (n1 := 8160 + 14898 * j65) X (cL_low_ok X.2.2.2.2.2.2.2.2.1 w) lkL_40 dL_law_177 ⟨(Nat.le_of_ble_eq_true rfl), (Nat.le_of_ble_eq_true rfl)⟩ rfl (Nat.le_of_ble_eq_true rfl) ⟨by show 800 + 2483 * j65 + 0 ≤ 636012; omega, by show 8160 + 14898 * j65 + 0 ≤ 7193589; omega⟩ (by show 800 + 2483 * j65 + 0 ≤ 800 + 2483 * j65; omega) (by show 8160 + 14898 * j65 + 0 ≤ 8160 + 14898 * j65; omega) (fun x62 h61 w9 => ?_)
        replace w := w9
        clear w9
        refine V_istore X dL_law_180 (by decide) rfl ?_
        refine V_aloadr_n X dL_law_182 5 rfl ?_
        refine V_callSl (As := [.ref a46]) (rest := []) (k1 := 1096 + 2483 * j65) (n1 := 9936 + 14898 * j65) X (cL_tale_ok X.2.2.2.2.2.2.2.2.1 w) lkL_172 dL_law_183 ⟨(Nat.le_of_ble_eq_true rfl), (Nat.le_of_ble_eq_true rfl)⟩ rfl (Nat.le_of_ble_eq_true rfl) ⟨by show 800 + 2483 * j65 + 296 ≤ 636012; omega, by show 8160 + 14898 * j65 + 1776 ≤ 7193589; omega⟩ (by show 800 + 2483 * j65 + 296 ≤ 1096 + 2483 * j65; omega) (by show 8160 + 14898 * j65 + 1776 ≤ 9936 + 14898 * j65; omega) (fun x64 h63 w9 => ?_)
        replace w := w9
        clear w9
        refine V_lstore X dL_law_186 (by decide) rfl ?_
        refine V_aloadr_n X dL_law_188 6 rfl ?_
        refine V_iload X dL_law_189 3 rfl ?_
        refine V_iload X dL_law_191 2 rfl ?_
        refine V_iadd X dL_law_193 ?_
        obtain ⟨fs, hh, w⟩ := w
        refine V_callZi (As := [.int ((1 + x58) + (1 + x60))]) (rest := []) (k1 := 1098 + 2483 * j65) (n1 := 9948 + 14898 * j65) X (cX11_foretell_ok X.2.2.2.2.2.2.2.2.1 w) lkL_176 hh (q9 := (RX11, TX11, 7)) rfl rfl dL_law_194 ⟨(Nat.le_of_ble_eq_true rfl), (Nat.le_of_ble_eq_true rfl)⟩ rfl (Nat.le_of_ble_eq_true rfl) ⟨by show 1096 + 2483 * j65 + 2 ≤ 636012; omega, by show 9936 + 14898 * j65 + 12 ≤ 7193589; omega⟩ (by show 1096 + 2483 * j65 + 2 ≤ 1098 + 2483 * j65; omega) (by show 9936 + 14898 * j65 + 12 ≤ 9948 + 14898 * j65; omega) (fun x66 h65 w9 => ?_)
        replace w := w9
        clear w9
        refine V_istore X dL_law_197 (by decide) rfl ?_
        refine V_aloadr_n X dL_law_199 7 rfl ?_
        refine V_iload X dL_law_200 2 rfl ?_
        obtain ⟨fs, hh, w⟩ := w
        refine V_callZi (As := [.int x62]) (rest := []) (k1 := 1099 + 2483 * j65) (n1 := 9954 + 14898 * j65) X (cX11_ticksTo_ok X.2.2.2.2.2.2.2.2.1 w) lkL_179 hh (q9 := (RX11, TX11, 7)) rfl rfl dL_law_202 ⟨(Nat.le_of_ble_eq_true rfl), (Nat.le_of_ble_eq_true rfl)⟩ rfl (Nat.le_of_ble_eq_true rfl) ⟨by show 1098 + 2483 * j65 + 1 ≤ 636012; omega, by show 9948 + 14898 * j65 + 6 ≤ 7193589; omega⟩ (by show 1098 + 2483 * j65 + 1 ≤ 1099 + 2483 * j65; omega) (by show 9948 + 14898 * j65 + 6 ≤ 9954 + 14898 * j65; omega) (fun x68 h67 w9 => ?_)
        replace w := w9
        clear w9
        refine V_istore X dL_law_205 (by decide) rfl ?_
        refine V_aloadr_n X dL_law_207 8 rfl ?_
        refine V_callSl (As := [.ref a46]) (rest := []) (k1 := 1395 + 2483 * j65) (n1 := 11730 + 14898 * j65) X (cL_tale_ok X.2.2.2.2.2.2.2.2.1 w) lkL_172 dL_law_208 ⟨(Nat.le_of_ble_eq_true rfl), (Nat.le_of_ble_eq_true rfl)⟩ rfl (Nat.le_of_ble_eq_true rfl) ⟨by show 1099 + 2483 * j65 + 296 ≤ 636012; omega, by show 9954 + 14898 * j65 + 1776 ≤ 7193589; omega⟩ (by show 1099 + 2483 * j65 + 296 ≤ 1395 + 2483 * j65; omega) (by show 9954 + 14898 * j65 + 1776 ≤ 11730 + 14898 * j65; omega) (fun x70 h69 w9 => ?_)
        replace w := w9
        clear w9
        refine V_lload X dL_law_211 2 rfl ?_
        refine V_lcmp X dL_law_213 ?_
        obtain ⟨w1, w2⟩ := w
        refine V_if_ne (tgt := 233) X dL_law_214 (by decide) (fun z => ?_) (fun z => ?_)
        · replace w := w1 (fun z9 => z ((lg_cmp_eq _ _).mpr z9))
          clear w1 w2
          exact V.widen (k1 := 20304) (n1 := 125184) (by omega) (by omega) <| V.sub [] rfl (tL_law_b233 X hX hbl hbA hL hNc hQ  w)
        · replace w := w2 ((lg_cmp_eq _ _).mp z)
          clear w1 w2
          refine V_aloadr_n X dL_law_217 8 rfl ?_
          refine V_iload X dL_law_218 11 rfl ?_
          refine V_iconst (y := 1) X dL_law_220 (by decide) ?_
          refine V_iand X dL_law_221 ?_
          obtain ⟨fs, hh, w⟩ := w
          refine V_callZi (As := [.int (v4 &&& 1)]) (rest := []) (k1 := 1397 + 2483 * j65) (n1 := 11742 + 14898 * j65) X (cX11_keep_ok X.2.2.2.2.2.2.2.2.1 w) lkL_182 hh (q9 := (RX11, TX11, 7)) rfl rfl dL_law_222 ⟨(Nat.le_of_ble_eq_true rfl), (Nat.le_of_ble_eq_true rfl)⟩ rfl (Nat.le_of_ble_eq_true rfl) ⟨by show 1395 + 2483 * j65 + 2 ≤ 636012; omega, by show 11730 + 14898 * j65 + 12 ≤ 7193589; omega⟩ (by show 1395 + 2483 * j65 + 2 ≤ 1397 + 2483 * j65; omega) (by show 11730 + 14898 * j65 + 12 ≤ 11742 + 14898 * j65; omega) (fun x72 h71 w9 => ?_)
          replace w := w9
          clear w9
          refine V_aloadr_n X dL_law_225 8 rfl ?_
          refine V_iconst (y := 5) X dL_law_226 (by decide) ?_
          obtain ⟨fs, hh, w⟩ := w
          refine V_callZi (As := [.int 5]) (rest := [.int x72]) (k1 := 1398 + 2483 * j65) (n1 := 11748 + 14898 * j65) X (cX11_count_ok X.2.2.2.2.2.2.2.2.1 w) lkL_124 hh (q9 := (RX11, TX11, 7)) rfl rfl dL_law_227 ⟨(Nat.le_of_ble_eq_true rfl), (Nat.le_of_ble_eq_true rfl)⟩ rfl (Nat.le_of_ble_eq_true rfl) ⟨by show 1397 + 2483 * j65 + 1 ≤ 636012; omega, by show 11742 + 14898 * j65 + 6 ≤ 7193589; omega⟩ (by show 1397 + 2483 * j65 + 1 ≤ 1398 + 2483 * j65; omega) (by show 11742 + 14898 * j65 + 6 ≤ 11748 + 14898 * j65; omega) (fun x74 h73 w9 => ?_)
          replace w := w9
          clear w9
          obtain ⟨w1, w2⟩ := w
          refine V_icmp_eq (tgt := 235) X dL_law_230 (by decide) (fun z => ?_) (fun z => ?_)
          · replace w := w1 z
            clear w1 w2
            refine V_aloadr_n X dL_law_235 8 rfl ?_
            refine V_iload X dL_law_236 5 rfl ?_
            refine V_callSW (As := [.ref a46, .int (1 + x58)]) (rest := []) (k1 := 1400 + 2483 * j65) (n1 := 11760 + 14898 * j65) X hNc (cL_tick_ok X.2.2.2.2.2.2.2.2.1 w) lwL_152 dL_law_238 ⟨(Nat.le_of_ble_eq_true rfl), (Nat.le_of_ble_eq_true rfl)⟩ rfl (Nat.le_of_ble_eq_true rfl) ⟨by show 1398 + 2483 * j65 + 2 ≤ 636012; omega, by show 11748 + 14898 * j65 + 12 ≤ 7193589; omega⟩ (by show 1398 + 2483 * j65 + 2 ≤ 1400 + 2483 * j65; omega) (by show 11748 + 14898 * j65 + 12 ≤ 11760 + 14898 * j65; omega) (fun x76 h75 w9 => ?_)
            replace w := w9
            clear w9
            refine V_istore X dL_law_241 (by decide) rfl ?_
            refine V_aloadr_n X dL_law_243 9 rfl ?_
            refine V_iload X dL_law_244 5 rfl ?_
            refine V_callSW (As := [.ref a46, .int (1 + x60)]) (rest := []) (k1 := 1402 + 2483 * j65) (n1 := 11772 + 14898 * j65) X hNc (cL_tick_ok X.2.2.2.2.2.2.2.2.1 w) lwL_152 dL_law_246 ⟨(Nat.le_of_ble_eq_true rfl), (Nat.le_of_ble_eq_true rfl)⟩ rfl (Nat.le_of_ble_eq_true rfl) ⟨by show 1400 + 2483 * j65 + 2 ≤ 636012; omega, by show 11760 + 14898 * j65 + 12 ≤ 7193589; omega⟩ (by show 1400 + 2483 * j65 + 2 ≤ 1402 + 2483 * j65; omega) (by show 11760 + 14898 * j65 + 12 ≤ 11772 + 14898 * j65; omega) (fun x78 h77 w9 => ?_)
            replace w := w9
            clear w9
            refine V_istore X dL_law_249 (by decide) rfl ?_
            refine V_aloadr_n X dL_law_251 10 rfl ?_
            refine V_callSl (As := [.ref a46]) (rest := []) (k1 := 1698 + 2483 * j65) (n1 := 13548 + 14898 * j65) X (cL_tale_ok X.2.2.2.2.2.2.2.2.1 w) lkL_172 dL_law_252 ⟨(Nat.le_of_ble_eq_true rfl), (Nat.le_of_ble_eq_true rfl)⟩ rfl (Nat.le_of_ble_eq_true rfl) ⟨by show 1402 + 2483 * j65 + 296 ≤ 636012; omega, by show 11772 + 14898 * j65 + 1776 ≤ 7193589; omega⟩ (by show 1402 + 2483 * j65 + 296 ≤ 1698 + 2483 * j65; omega) (by show 11772 + 14898 * j65 + 1776 ≤ 13548 + 14898 * j65; omega) (fun x80 h79 w9 => ?_)
            replace w := w9
            clear w9
            refine V_lstore X dL_law_255 (by decide) rfl ?_
            refine V_aloadr_n X dL_law_257 11 rfl ?_
            refine V_callSi (As := [.ref a46]) (rest := []) (k1 := 1699 + 2483 * j65) (n1 := 13554 + 14898 * j65) X (cL_place_ok X.2.2.2.2.2.2.2.2.1 w) lkL_185 dL_law_258 ⟨(Nat.le_of_ble_eq_true rfl), (Nat.le_of_ble_eq_true rfl)⟩ rfl (Nat.le_of_ble_eq_true rfl) ⟨by show 1698 + 2483 * j65 + 1 ≤ 636012; omega, by show 13548 + 14898 * j65 + 6 ≤ 7193589; omega⟩ (by show 1698 + 2483 * j65 + 1 ≤ 1699 + 2483 * j65; omega) (by show 13548 + 14898 * j65 + 6 ≤ 13554 + 14898 * j65; omega) (fun x82 h81 w9 => ?_)
            replace w := w9
            clear w9
            refine V_iload X dL_law_261 4 rfl ?_
            obtain ⟨w1, w2⟩ := w
            refine V_icmp_ne (tgt := 300) X dL_law_263 (by decide) (fun z => ?_) (fun z => ?_)
            · replace w := w1 z
              clear w1 w2
              exact V.widen (k1 := 20304) (n1 := 125184) (by omega) (by omega) <| V.sub [] rfl (tL_law_b300 X hX hbl hbA hL hNc hQ  w)
            · replace w := w2 z
              clear w1 w2
              refine V_aloadr_n X dL_law_266 11 rfl ?_
              refine V_aload_n X dL_law_267 12 rfl ?_
              refine V_callSi (As := [.ref a46, va_rf v2]) (rest := []) (k1 := 1986 + 2483 * j65) (n1 := 15276 + 14898 * j65) X (cL_poseFits_ok X.2.2.2.2.2.2.2.2.1 w) lkL_169 dL_law_268 ⟨(Nat.le_of_ble_eq_true rfl), (Nat.le_of_ble_eq_true rfl)⟩ rfl (Nat.le_of_ble_eq_true rfl) ⟨by show 1699 + 2483 * j65 + 287 ≤ 636012; omega, by show 13554 + 14898 * j65 + 1722 ≤ 7193589; omega⟩ (by show 1699 + 2483 * j65 + 287 ≤ 1986 + 2483 * j65; omega) (by show 13554 + 14898 * j65 + 1722 ≤ 15276 + 14898 * j65; omega) (fun x84 h83 w9 => ?_)
              replace w := w9
              clear w9
              obtain ⟨w1, w2⟩ := w
              refine V_if_eq (tgt := 300) X dL_law_271 (by decide) (fun z => ?_) (fun z => ?_)
              · replace w := w1 z
                clear w1 w2
                exact V.widen (k1 := 20304) (n1 := 125184) (by omega) (by omega) <| V.sub [] rfl (tL_law_b300 X hX hbl hbA hL hNc hQ  w)
              · replace w := w2 z
                clear w1 w2
                refine V_aloadr_n X dL_law_274 11 rfl ?_
                refine V_iload X dL_law_275 14 rfl ?_
                refine V_iconst (y := 1) X dL_law_277 (by decide) ?_
                refine V_iand X dL_law_278 ?_
                obtain ⟨fs, hh, w⟩ := w
                refine V_callZi (As := [.int (v4 &&& 1)]) (rest := []) (k1 := 1988 + 2483 * j65) (n1 := 15288 + 14898 * j65) X (cX11_restore_ok X.2.2.2.2.2.2.2.2.1 w) lkL_189 hh (q9 := (RX11, TX11, 7)) rfl rfl dL_law_279 ⟨(Nat.le_of_ble_eq_true rfl), (Nat.le_of_ble_eq_true rfl)⟩ rfl (Nat.le_of_ble_eq_true rfl) ⟨by show 1986 + 2483 * j65 + 2 ≤ 636012; omega, by show 15276 + 14898 * j65 + 12 ≤ 7193589; omega⟩ (by show 1986 + 2483 * j65 + 2 ≤ 1988 + 2483 * j65; omega) (by show 15276 + 14898 * j65 + 12 ≤ 15288 + 14898 * j65; omega) (fun x86 h85 w9 => ?_)
                replace w := w9
                clear w9
                refine V_aloadr_n X dL_law_282 11 rfl ?_
                refine V_iconst (y := 5) X dL_law_283 (by decide) ?_
                obtain ⟨fs, hh, w⟩ := w
                refine V_callZi (As := [.int 5]) (rest := [.int x86]) (k1 := 1989 + 2483 * j65) (n1 := 15294 + 14898 * j65) X (cX11_count_ok X.2.2.2.2.2.2.2.2.1 w) lkL_124 hh (q9 := (RX11, TX11, 7)) rfl rfl dL_law_284 ⟨(Nat.le_of_ble_eq_true rfl), (Nat.le_of_ble_eq_true rfl)⟩ rfl (Nat.le_of_ble_eq_true rfl) ⟨by show 1988 + 2483 * j65 + 1 ≤ 636012; omega, by show 15288 + 14898 * j65 + 6 ≤ 7193589; omega⟩ (by show 1988 + 2483 * j65 + 1 ≤ 1989 + 2483 * j65; omega) (by show 15288 + 14898 * j65 + 6 ≤ 15294 + 14898 * j65; omega) (fun x88 h87 w9 => ?_)
                replace w := w9
                clear w9
                obtain ⟨w1, w2⟩ := w
                refine V_icmp_ne (tgt := 300) X dL_law_287 (by decide) (fun z => ?_) (fun z => ?_)
                · replace w := w1 z
                  clear w1 w2
                  exact V.widen (k1 := 20304) (n1 := 125184) (by omega) (by omega) <| V.sub [] rfl (tL_law_b300 X hX hbl hbA hL hNc hQ  w)
                · replace w := w2 z
                  clear w1 w2
                  refine V_aloadr_n X dL_law_290 11 rfl ?_
                  refine V_callSl (As := [.ref a46]) (rest := []) (k1 := 2285 + 2483 * j65) (n1 := 17070 + 14898 * j65) X (cL_tale_ok X.2.2.2.2.2.2.2.2.1 w) lkL_172 dL_law_291 ⟨(Nat.le_of_ble_eq_true rfl), (Nat.le_of_ble_eq_true rfl)⟩ rfl (Nat.le_of_ble_eq_true rfl) ⟨by show 1989 + 2483 * j65 + 296 ≤ 636012; omega, by show 15294 + 14898 * j65 + 1776 ≤ 7193589; omega⟩ (by show 1989 + 2483 * j65 + 296 ≤ 2285 + 2483 * j65; omega) (by show 15294 + 14898 * j65 + 1776 ≤ 17070 + 14898 * j65; omega) (fun x90 h89 w9 => ?_)
                  replace w := w9
                  clear w9
                  refine V_lload X dL_law_294 5 rfl ?_
                  refine V_lcmp X dL_law_296 ?_
                  obtain ⟨w1, w2⟩ := w
                  refine V_if_eq (tgt := 302) X dL_law_297 (by decide) (fun z => ?_) (fun z => ?_)
                  · replace w := w1 ((lg_cmp_eq _ _).mp z)
                    clear w1 w2
                    refine V_iconst (y := 0) X dL_law_302 (by decide) ?_
                    refine V_istore X dL_law_303 (by decide) rfl ?_
                    exact V.widen (k1 := 2285 + 2483 * j65 + 3 * (14 - 14)) (n1 := 17070 + 14898 * j65 + 18 * (14 - 14)) (by omega) (by omega) <| V.sub [11, 12, 13, 14, 15, 9, 8, 7, 4, 3, 2, 1, 0] rfl (tL_law_b305 X hX hbl hbA hL hNc hQ hj65 H65 14 _ _ _ _ _ _ _ _ _ _ _ _ _ (Nat.le_refl _) w)
                  · replace w := w2 (fun z9 => z ((lg_cmp_eq _ _).mpr z9))
                    clear w1 w2
                    exact V.widen (k1 := 20304) (n1 := 125184) (by omega) (by omega) <| V.sub [] rfl (tL_law_b300 X hX hbl hbA hL hNc hQ  w)
          · replace w := w2 z
            clear w1 w2
            exact V.widen (k1 := 20304) (n1 := 125184) (by omega) (by omega) <| V.sub [] rfl (tL_law_b233 X hX hbl hbA hL hNc hQ  w)
      · replace w := w2 z
        clear w1 w2
        exact V.widen (k1 := 20304) (n1 := 125184) (by omega) (by omega) <| V.sub [] rfl (tL_law_b141 X hX hbl hbA hL hNc hQ  w)
def vL_law_b65 (t0 : Nat)  (Qn : Int32 → gH → Prop) (n : Nat) : gH → Option Nat → Option Nat → Int32 → Int32 → Prop := Nat.rec (motive := fun _ => gH → Option Nat → Option Nat → Int32 → Int32 → Prop) (fun _ _ _ _ _ => False) (fun _ k65 => vL_law_b65_o t0 k65 Qn) n
set_option maxRecDepth 100000 in
set_option maxHeartbeats 4000000 in
theorem tL_law_b65 {p : Program} {l : Launch} {e : Env} {s : State} {m : MethodId} {below : List Frame} {meth : Method} {c : Code} {G : gG} {b L : Nat} {xs : Nat → Int32} {Qn : Int32 → gH → Prop} (X : gC p l s m #[Value.ref b] meth c G (fun q => s.heap.size ≤ q) cL_law 19 (some .boolean) RL) (hX : va_X b L xs s s.heap) (hbl : b < s.heap.size) (hbA : ¬ (fun q : Nat => s.heap.size ≤ q) b) (hL : L ≤ 260) (hNc : gNc s) (hQ : ∀ (x : Int32) (h : gH), Qn x h → x = 1)   : ∀ (n : Nat) (h : gH) (v1 : Option Nat) (v2 : Option Nat) (v3 : Int32) (v4 : Int32) (hn : n ≤ 8) (w : vL_law_b65 G.2.2.1  Qn n h v1 v2 v3 v4), V p l e room_1 s m #[Value.ref b] below meth c (lw_Z below #[Value.ref b] s) G (fun q => s.heap.size ≤ q) 19 h (440 + 2483 * (8 - n)) (6000 + 14898 * (8 - n)) 65 [(0, .ref b), (1, va_rf v1), (2, va_rf v2), (3, .int v3), (4, .int v4)] [] := by
  intro n
  induction n with
  | zero => intro h v1 v2 v3 v4 hn w; exact False.elim w
  | succ n ih =>
    intro h v1 v2 v3 v4 hn w
    have e9 : 8 - n = (8 - (n + 1)) + 1 := by omega
    exact tL_law_b65_o (j65 := 8 - (n + 1)) X hX hbl hbA hL hNc hQ (by omega) (fun h v1 v2 v3 v4 w => by have z := ih h v1 v2 v3 v4 (by omega) w; rw [e9] at z; exact z) w
def vL_law (t0 : Nat)  (Qn : Int32 → gH → Prop) (h : gH)  : Prop := nw h (.inr (14, [.null, .null, .null, .null, .null, .null, .null])) (fun q1 h2 => vX11_init t0 (fun h3 => nw h3 (.inl (0, 48, .inl (fun _ => 0))) (fun q4 h5 => vL_tick t0 (fun x7 h6 => ((¬ (x7 : Int32) = (-2)) → (vL_law_b40 t0  Qn h6 )) ∧ (((x7 : Int32) = (-2)) → (io h6 q1 14 (vX11_poseSize t0 (fun x9 h8 => ((¬ (x9 : Int32) = 0) → (vL_law_b40 t0  Qn h8 )) ∧ (((x9 : Int32) = 0) → (vL_addState t0 (fun x11 h10 => (((x11 : Int32) = (-1)) → (vL_builds t0 (fun h12 => vL_cell t0 (fun x14 h13 => vL_low t0 (fun x16 h15 => vL_law_b65 t0  Qn 8 h15 (some q1) (some q4) (1 + x16) 0) h13 x14 6) h12 20) h10 (some q1) (some q4))) ∧ ((¬ (x11 : Int32) = (-1)) → (vL_law_b40 t0  Qn h10 ))) h8 q1 0 1))) h6 q1 )))) h5 q1 1)) h2 q1 )
set_option maxRecDepth 100000 in
set_option maxHeartbeats 4000000 in
theorem tL_law {p : Program} {l : Launch} {e : Env} {s : State} {m : MethodId} {below : List Frame} {meth : Method} {c : Code} {G : gG} {b L : Nat} {xs : Nat → Int32} {Qn : Int32 → gH → Prop} (X : gC p l s m #[Value.ref b] meth c G (fun q => s.heap.size ≤ q) cL_law 19 (some .boolean) RL) (hX : va_X b L xs s s.heap) (hbl : b < s.heap.size) (hbA : ¬ (fun q : Nat => s.heap.size ≤ q) b) (hL : L ≤ 260) (hNc : gNc s) (hQ : ∀ (x : Int32) (h : gH), Qn x h → x = 1)   {h : gH}  (w : vL_law G.2.2.1  Qn h ) : V p l e room_1 s m #[Value.ref b] below meth c (lw_Z below #[Value.ref b] s) G (fun q => s.heap.size ≤ q) 19 h (0) (0) 0 [(0, .ref b)] [] := by
  refine V_new (k1 := 1) (n1 := 7) X nwL_9 dL_law_0 ⟨(Nat.le_of_ble_eq_true rfl), (Nat.le_of_ble_eq_true rfl)⟩ (Nat.le_of_ble_eq_true rfl) (Nat.le_of_ble_eq_true rfl) (fun q1 hq => ?_)
  replace w := w q1 hq
  generalize va_up _ _ _ = h2 at w ⊢
  refine V_dup X dL_law_3 rfl ?_
  refine V_callI (As := []) (rest := [.ref q1]) (k1 := 121) (n1 := 2106) X (cX11_init_ok X.2.2.2.2.2.2.2.2.1 w) lkL_151 dL_law_4 ⟨(Nat.le_of_ble_eq_true rfl), (Nat.le_of_ble_eq_true rfl)⟩ rfl (Nat.le_of_ble_eq_true rfl) ⟨by show 1 + 120 ≤ 636012; omega, by show 7 + 2099 ≤ 7193589; omega⟩ (by show 1 + 120 ≤ 121; omega) (by show 7 + 2099 ≤ 2106; omega) (fun h3 w9 => ?_)
  replace w := w9
  clear w9
  refine V_astore_n (i0 := 1) X dL_law_7 rfl (by decide) rfl ?_
  refine V_bipush (y := 48) X dL_law_8 (by decide) ?_
  refine V_newa_int (N := 48) (k1 := 122) (n1 := 2154) X kw_75 dL_law_10 (by decide) (by decide) (Nat.le_of_ble_eq_true rfl) ⟨Nat.le_of_ble_eq_true rfl, Nat.le_of_ble_eq_true rfl⟩ (Nat.le_of_ble_eq_true rfl) (Nat.le_of_ble_eq_true rfl) (fun q4 hq => ?_)
  replace w := w q4 hq
  generalize va_up _ _ _ = h5 at w ⊢
  refine V_astore_n (i0 := 2) X dL_law_12 rfl (by decide) rfl ?_
  refine V_aloadr_n X dL_law_13 1 rfl ?_
  refine V_iconst (y := 1) X dL_law_14 (by decide) ?_
  refine V_callSW (As := [.ref q1, .int 1]) (rest := []) (k1 := 124) (n1 := 2166) X hNc (cL_tick_ok X.2.2.2.2.2.2.2.2.1 w) lwL_152 dL_law_15 ⟨(Nat.le_of_ble_eq_true rfl), (Nat.le_of_ble_eq_true rfl)⟩ rfl (Nat.le_of_ble_eq_true rfl) ⟨by show 122 + 2 ≤ 636012; omega, by show 2154 + 12 ≤ 7193589; omega⟩ (by show 122 + 2 ≤ 124; omega) (by show 2154 + 12 ≤ 2166; omega) (fun x7 h6 w9 => ?_)
  replace w := w9
  clear w9
  refine V_bipush (y := (-2)) X dL_law_18 (by decide) ?_
  obtain ⟨w1, w2⟩ := w
  refine V_icmp_ne (tgt := 40) X dL_law_20 (by decide) (fun z => ?_) (fun z => ?_)
  · replace w := w1 z
    clear w1 w2
    exact V.widen (k1 := 127) (n1 := 2241) (by omega) (by omega) <| V.sub [] rfl (tL_law_b40 X hX hbl hbA hL hNc hQ  w)
  · replace w := w2 z
    clear w1 w2
    refine V_aloadr_n X dL_law_23 1 rfl ?_
    obtain ⟨fs, hh, w⟩ := w
    refine V_callVi (As := []) (rest := []) (k1 := 124) (n1 := 2166) X (cX11_poseSize_ok X.2.2.2.2.2.2.2.2.1 w) lkL_67 hh (q9 := (RX11, TX11, 7)) rfl rfl dL_law_24 ⟨(Nat.le_of_ble_eq_true rfl), (Nat.le_of_ble_eq_true rfl)⟩ rfl (Nat.le_of_ble_eq_true rfl) ⟨by show 124 + 0 ≤ 636012; omega, by show 2166 + 0 ≤ 7193589; omega⟩ (by show 124 + 0 ≤ 124; omega) (by show 2166 + 0 ≤ 2166; omega) (fun x9 h8 w9 => ?_)
    replace w := w9
    clear w9
    obtain ⟨w1, w2⟩ := w
    refine V_if_ne (tgt := 40) X dL_law_27 (by decide) (fun z => ?_) (fun z => ?_)
    · replace w := w1 z
      clear w1 w2
      exact V.widen (k1 := 127) (n1 := 2241) (by omega) (by omega) <| V.sub [] rfl (tL_law_b40 X hX hbl hbA hL hNc hQ  w)
    · replace w := w2 z
      clear w1 w2
      refine V_aloadr_n X dL_law_30 1 rfl ?_
      refine V_iconst (y := 0) X dL_law_31 (by decide) ?_
      refine V_iconst (y := 1) X dL_law_32 (by decide) ?_
      refine V_callSW (As := [.ref q1, .int 0, .int 1]) (rest := []) (k1 := 127) (n1 := 2241) X hNc (cL_addState_ok X.2.2.2.2.2.2.2.2.1 w) lwL_155 dL_law_33 ⟨(Nat.le_of_ble_eq_true rfl), (Nat.le_of_ble_eq_true rfl)⟩ rfl (Nat.le_of_ble_eq_true rfl) ⟨by show 124 + 3 ≤ 636012; omega, by show 2166 + 75 ≤ 7193589; omega⟩ (by show 124 + 3 ≤ 127; omega) (by show 2166 + 75 ≤ 2241; omega) (fun x11 h10 w9 => ?_)
      replace w := w9
      clear w9
      refine V_iconst (y := (-1)) X dL_law_36 (by decide) ?_
      obtain ⟨w1, w2⟩ := w
      refine V_icmp_eq (tgt := 42) X dL_law_37 (by decide) (fun z => ?_) (fun z => ?_)
      · replace w := w1 z
        clear w1 w2
        refine V_aloadr_n X dL_law_42 1 rfl ?_
        refine V_aloadr_n X dL_law_43 0 rfl ?_
        refine V_aloadr_n X dL_law_44 2 rfl ?_
        refine V_callSSv (As := [.ref q1, .ref q4, .ref b]) (rest := []) (k1 := 440) (n1 := 6000) X hX hbl hbA (cL_builds_ok X.2.2.2.2.2.2.2.2.1 hL w) lkL_158 dL_law_45 ⟨(Nat.le_of_ble_eq_true rfl), (Nat.le_of_ble_eq_true rfl)⟩ rfl (Nat.le_of_ble_eq_true rfl) ⟨by show 127 + 313 ≤ 636012; omega, by show 2241 + 3759 ≤ 7193589; omega⟩ (by show 127 + 313 ≤ 440; omega) (by show 2241 + 3759 ≤ 6000; omega) (fun h12 w9 => ?_)
        replace w := w9
        clear w9
        refine V_iconst (y := 1) X dL_law_48 (by decide) ?_
        refine V_aloadr_n X dL_law_49 2 rfl ?_
        refine V_bipush (y := 20) X dL_law_50 (by decide) ?_
        refine V_callSSi (As := [.ref b, .int 20]) (rest := [.int 1]) (k1 := 440) (n1 := 6000) X hX hbl hbA (cL_cell_ok X.2.2.2.2.2.2.2.2.1 hL w) lkL_34 dL_law_52 ⟨(Nat.le_of_ble_eq_true rfl), (Nat.le_of_ble_eq_true rfl)⟩ rfl (Nat.le_of_ble_eq_true rfl) ⟨by show 440 + 0 ≤ 636012; omega, by show 6000 + 0 ≤ 7193589; omega⟩ (by show 440 + 0 ≤ 440; omega) (by show 6000 + 0 ≤ 6000; omega) (fun x14 h13 w9 => ?_)
        replace w := w9
        clear w9
        refine V_bipush (y := 6) X dL_law_55 (by decide) ?_
        refine V_callSi (As := [.int x14, .int 6]) (rest := [.int 1]) (k1 := 440) (n1 := 6000) X (cL_low_ok X.2.2.2.2.2.2.2.2.1 w) lkL_40 dL_law_57 ⟨(Nat.le_of_ble_eq_true rfl), (Nat.le_of_ble_eq_true rfl)⟩ rfl (Nat.le_of_ble_eq_true rfl) ⟨by show 440 + 0 ≤ 636012; omega, by show 6000 + 0 ≤ 7193589; omega⟩ (by show 440 + 0 ≤ 440; omega) (by show 6000 + 0 ≤ 6000; omega) (fun x16 h15 w9 => ?_)
        replace w := w9
        clear w9
        refine V_iadd X dL_law_60 ?_
        refine V_istore_n (i0 := 3) X dL_law_61 rfl (by decide) rfl ?_
        refine V_iconst (y := 0) X dL_law_62 (by decide) ?_
        refine V_istore X dL_law_63 (by decide) rfl ?_
        exact V.widen (k1 := 440 + 2483 * (8 - 8)) (n1 := 6000 + 14898 * (8 - 8)) (by omega) (by omega) <| V.sub [4, 3, 2, 1, 0] rfl (tL_law_b65 X hX hbl hbA hL hNc hQ  8 _ _ _ _ _ (Nat.le_refl _) w)
      · replace w := w2 z
        clear w1 w2
        exact V.widen (k1 := 127) (n1 := 2241) (by omega) (by omega) <| V.sub [] rfl (tL_law_b40 X hX hbl hbA hL hNc hQ  w)
