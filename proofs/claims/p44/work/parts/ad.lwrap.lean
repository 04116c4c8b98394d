/-! AnimationControllerLaw.tick(LAnimationController;I)I -/
abbrev rmL_tick : Room := { frames := 14, cells := 2, slots := 12, locals := 348 }
def vL_tick (t0 : Nat) (Qn : Int32 → gH → Prop) (h : gH) (v0 : Nat) (v1 : Int32) : Prop := io h v0 14 (vX11_tick t0 (fun x1 h1 => Qn x1 h1) (fun E9 h9 => (E9 = "java/lang/IllegalArgumentException" ∧ Qn (-1) h9) ∨ (E9 = "java/lang/IllegalStateException" ∧ Qn (-2) h9)) h v0 v1)
set_option maxRecDepth 100000 in
set_option maxHeartbeats 4000000 in
theorem cL_tick_ok {l : Launch} {G : gG} {h : gH} (hls : l.stackTraces = false) {Qn : Int32 → gH → Prop} {v0 : Nat} {v1 : Int32} (w : vL_tick G.2.2.1 Qn h v0 v1) : gWi l yL_tick cL_tick 3 (some .int) [(0, 5, 6, 14), (0, 5, 9, 16)] rmL_tick rmL_tick.cells rmL_tick.slots G h [.ref v0, .int v1] Qn := by
  obtain ⟨fs, hh, w⟩ := w
  refine gWi.of (by decide +kernel) hls (Nat.le_of_ble_eq_true rfl) (fun p e s m below meth c A X hT hN => ?_)
  show V p l e rmL_tick s m _ below meth c _ G A 3 h 0 0 0 [(0, .ref v0), (1, .int v1)] []
  refine V_aloadr_n X dL_tick_0 0 rfl ?_
  refine V_iload_n X dL_tick_1 1 rfl ?_
  refine V_tryXi (As := [.int v1]) (rest := []) (k1 := 2) (n1 := 12) X hT (cX11_tick_ok X.2.2.2.2.2.2.2.2.1 w) lkL_8 hh (q9 := (RX11, TX11, 7)) rfl rfl dL_tick_2 ⟨(Nat.le_of_ble_eq_true rfl), (Nat.le_of_ble_eq_true rfl)⟩ rfl (Nat.le_of_ble_eq_true rfl) ⟨(Nat.le_of_ble_eq_true rfl), (Nat.le_of_ble_eq_true rfl)⟩ (Nat.le_of_ble_eq_true rfl) (Nat.le_of_ble_eq_true rfl) (fun E9 h9 z9 => ?_) (fun x1 h1 w => ?_)
  · rcases z9 with ⟨rfl, w⟩ | ⟨rfl, w⟩
    · exact ⟨[], ⟨0, 5, 6, 14⟩, [⟨0, 5, 9, 16⟩], "java/lang/IllegalArgumentException", rfl, (fun z hz => nomatch hz), by decide, by decide, kw_891, ku_532, fun q9 => by
        refine V_astore_n (i0 := 2) X dL_tick_6 rfl (by decide) rfl ?_
        refine V_iconst (y := (-1)) X dL_tick_7 (by decide) ?_
        exact V.vx (V_iret X rfl dL_tick_8 (Nat.le_of_ble_eq_true rfl) (Nat.le_of_ble_eq_true rfl) w)⟩
    · exact ⟨[⟨0, 5, 6, 14⟩], ⟨0, 5, 9, 16⟩, [], "java/lang/IllegalStateException", rfl, (List.forall_mem_cons.mpr ⟨Or.inr ⟨by decide, "java/lang/IllegalArgumentException", kw_891, hN.2.2⟩, fun z hz => nomatch hz⟩), by decide, by decide, kw_892, ku_611, fun q9 => by
        refine V_astore_n (i0 := 2) X dL_tick_9 rfl (by decide) rfl ?_
        refine V_bipush (y := (-2)) X dL_tick_10 (by decide) ?_
        exact V.vx (V_iret X rfl dL_tick_12 (Nat.le_of_ble_eq_true rfl) (Nat.le_of_ble_eq_true rfl) w)⟩
  · exact V.vx (V_iret X rfl dL_tick_5 (Nat.le_of_ble_eq_true rfl) (Nat.le_of_ble_eq_true rfl) w)
/-! AnimationControllerLaw.addState(LAnimationController;II)I -/
abbrev rmL_addState : Room := { frames := 8, cells := 3, slots := 75, locals := 217 }
def vL_addState (t0 : Nat) (Qn : Int32 → gH → Prop) (h : gH) (v0 : Nat) (v1 : Int32) (v2 : Int32) : Prop := io h v0 14 (vX11_addState t0 (fun x1 h1 => Qn x1 h1) (fun E9 h9 => (E9 = "java/lang/IndexOutOfBoundsException" ∧ Qn (-1) h9) ∨ (E9 = "java/lang/IllegalArgumentException" ∧ Qn (-2) h9) ∨ (E9 = "java/lang/IllegalStateException" ∧ Qn (-3) h9)) h v0 v1 v2 1 0)
set_option maxRecDepth 100000 in
set_option maxHeartbeats 4000000 in
theorem cL_addState_ok {l : Launch} {G : gG} {h : gH} (hls : l.stackTraces = false) {Qn : Int32 → gH → Prop} {v0 : Nat} {v1 : Int32} {v2 : Int32} (w : vL_addState G.2.2.1 Qn h v0 v1 v2) : gWi l yL_addState cL_addState 4 (some .int) [(0, 8, 9, 22), (0, 8, 12, 14), (0, 8, 16, 16)] rmL_addState rmL_addState.cells rmL_addState.slots G h [.ref v0, .int v1, .int v2] Qn := by
  obtain ⟨fs, hh, w⟩ := w
  refine gWi.of (by decide +kernel) hls (Nat.le_of_ble_eq_true rfl) (fun p e s m below meth c A X hT hN => ?_)
  show V p l e rmL_addState s m _ below meth c _ G A 4 h 0 0 0 [(0, .ref v0), (1, .int v1), (2, .int v2)] []
  refine V_aloadr_n X dL_addState_0 0 rfl ?_
  refine V_iload_n X dL_addState_1 1 rfl ?_
  refine V_iload_n X dL_addState_2 2 rfl ?_
  refine V_iconst (y := 1) X dL_addState_3 (by decide) ?_
  refine V_iconst (y := 0) X dL_addState_4 (by decide) ?_
  refine V_tryXi (As := [.int v1, .int v2, .int 1, .int 0]) (rest := []) (k1 := 3) (n1 := 75) X hT (cX11_addState_ok X.2.2.2.2.2.2.2.2.1 w) lkL_18 hh (q9 := (RX11, TX11, 7)) rfl rfl dL_addState_5 ⟨(Nat.le_of_ble_eq_true rfl), (Nat.le_of_ble_eq_true rfl)⟩ rfl (Nat.le_of_ble_eq_true rfl) ⟨(Nat.le_of_ble_eq_true rfl), (Nat.le_of_ble_eq_true rfl)⟩ (Nat.le_of_ble_eq_true rfl) (Nat.le_of_ble_eq_true rfl) (fun E9 h9 z9 => ?_) (fun x1 h1 w => ?_)
  · rcases z9 with ⟨rfl, w⟩ | ⟨rfl, w⟩ | ⟨rfl, w⟩
    · exact ⟨[], ⟨0, 8, 9, 22⟩, [⟨0, 8, 12, 14⟩, ⟨0, 8, 16, 16⟩], "java/lang/IndexOutOfBoundsException", rfl, (fun z hz => nomatch hz), by decide, by decide, kw_900, ku_456, fun q9 => by
        refine V_astore_n (i0 := 3) X dL_addState_9 rfl (by decide) rfl ?_
        refine V_iconst (y := (-1)) X dL_addState_10 (by decide) ?_
        exact V.vx (V_iret X rfl dL_addState_11 (Nat.le_of_ble_eq_true rfl) (Nat.le_of_ble_eq_true rfl) w)⟩
    · exact ⟨[⟨0, 8, 9, 22⟩], ⟨0, 8, 12, 14⟩, [⟨0, 8, 16, 16⟩], "java/lang/IllegalArgumentException", rfl, (List.forall_mem_cons.mpr ⟨Or.inr ⟨by decide, "java/lang/IndexOutOfBoundsException", kw_900, hN.1⟩, fun z hz => nomatch hz⟩), by decide, by decide, kw_891, ku_532, fun q9 => by
        refine V_astore_n (i0 := 3) X dL_addState_12 rfl (by decide) rfl ?_
        refine V_bipush (y := (-2)) X dL_addState_13 (by decide) ?_
        exact V.vx (V_iret X rfl dL_addState_15 (Nat.le_of_ble_eq_true rfl) (Nat.le_of_ble_eq_true rfl) w)⟩
    · exact ⟨[⟨0, 8, 9, 22⟩, ⟨0, 8, 12, 14⟩], ⟨0, 8, 16, 16⟩, [], "java/lang/IllegalStateException", rfl, (List.forall_mem_cons.mpr ⟨Or.inr ⟨by decide, "java/lang/IndexOutOfBoundsException", kw_900, hN.2.1⟩, List.forall_mem_cons.mpr ⟨Or.inr ⟨by decide, "java/lang/IllegalArgumentException", kw_891, hN.2.2⟩, fun z hz => nomatch hz⟩⟩), by decide, by decide, kw_892, ku_611, fun q9 => by
        refine V_astore_n (i0 := 3) X dL_addState_16 rfl (by decide) rfl ?_
        refine V_bipush (y := (-3)) X dL_addState_17 (by decide) ?_
        exact V.vx (V_iret X rfl dL_addState_19 (Nat.le_of_ble_eq_true rfl) (Nat.le_of_ble_eq_true rfl) w)⟩
  · exact V.vx (V_iret X rfl dL_addState_8 (Nat.le_of_ble_eq_true rfl) (Nat.le_of_ble_eq_true rfl) w)
/-! AnimationControllerLaw.addTransition(LAnimationController;III)I -/
abbrev rmL_addTransition : Room := { frames := 8, cells := 7, slots := 97, locals := 217 }
def vL_addTransition (t0 : Nat) (Qn : Int32 → gH → Prop) (h : gH) (v0 : Nat) (v1 : Int32) (v2 : Int32) (v3 : Int32) : Prop := io h v0 14 (vX11_addTransition t0 (fun x1 h1 => Qn x1 h1) (fun E9 h9 => (E9 = "java/lang/IndexOutOfBoundsException" ∧ Qn (-1) h9) ∨ (E9 = "java/lang/IllegalArgumentException" ∧ Qn (-2) h9) ∨ (E9 = "java/lang/IllegalStateException" ∧ Qn (-3) h9)) h v0 v1 v2 v3)
set_option maxRecDepth 100000 in
set_option maxHeartbeats 4000000 in
theorem cL_addTransition_ok {l : Launch} {G : gG} {h : gH} (hls : l.stackTraces = false) {Qn : Int32 → gH → Prop} {v0 : Nat} {v1 : Int32} {v2 : Int32} {v3 : Int32} (w : vL_addTransition G.2.2.1 Qn h v0 v1 v2 v3) : gWi l yL_addTransition cL_addTransition 5 (some .int) [(0, 7, 8, 22), (0, 7, 12, 14), (0, 7, 17, 16)] rmL_addTransition rmL_addTransition.cells rmL_addTransition.slots G h [.ref v0, .int v1, .int v2, .int v3] Qn := by
  obtain ⟨fs, hh, w⟩ := w
  refine gWi.of (by decide +kernel) hls (Nat.le_of_ble_eq_true rfl) (fun p e s m below meth c A X hT hN => ?_)
  show V p l e rmL_addTransition s m _ below meth c _ G A 5 h 0 0 0 [(0, .ref v0), (1, .int v1), (2, .int v2), (3, .int v3)] []
  refine V_aloadr_n X dL_addTransition_0 0 rfl ?_
  refine V_iload_n X dL_addTransition_1 1 rfl ?_
  refine V_iload_n X dL_addTransition_2 2 rfl ?_
  refine V_iload_n X dL_addTransition_3 3 rfl ?_
  refine V_tryXi (As := [.int v1, .int v2, .int v3]) (rest := []) (k1 := 7) (n1 := 97) X hT (cX11_addTransition_ok X.2.2.2.2.2.2.2.2.1 w) lkL_24 hh (q9 := (RX11, TX11, 7)) rfl rfl dL_addTransition_4 ⟨(Nat.le_of_ble_eq_true rfl), (Nat.le_of_ble_eq_true rfl)⟩ rfl (Nat.le_of_ble_eq_true rfl) ⟨(Nat.le_of_ble_eq_true rfl), (Nat.le_of_ble_eq_true rfl)⟩ (Nat.le_of_ble_eq_true rfl) (Nat.le_of_ble_eq_true rfl) (fun E9 h9 z9 => ?_) (fun x1 h1 w => ?_)
  · rcases z9 with ⟨rfl, w⟩ | ⟨rfl, w⟩ | ⟨rfl, w⟩
    · exact ⟨[], ⟨0, 7, 8, 22⟩, [⟨0, 7, 12, 14⟩, ⟨0, 7, 17, 16⟩], "java/lang/IndexOutOfBoundsException", rfl, (fun z hz => nomatch hz), by decide, by decide, kw_900, ku_456, fun q9 => by
        refine V_astore X dL_addTransition_8 (by decide) rfl ?_
        refine V_iconst (y := (-1)) X dL_addTransition_10 (by decide) ?_
        exact V.vx (V_iret X rfl dL_addTransition_11 (Nat.le_of_ble_eq_true rfl) (Nat.le_of_ble_eq_true rfl) w)⟩
    · exact ⟨[⟨0, 7, 8, 22⟩], ⟨0, 7, 12, 14⟩, [⟨0, 7, 17, 16⟩], "java/lang/IllegalArgumentException", rfl, (List.forall_mem_cons.mpr ⟨Or.inr ⟨by decide, "java/lang/IndexOutOfBoundsException", kw_900, hN.1⟩, fun z hz => nomatch hz⟩), by decide, by decide, kw_891, ku_532, fun q9 => by
        refine V_astore X dL_addTransition_12 (by decide) rfl ?_
        refine V_bipush (y := (-2)) X dL_addTransition_14 (by decide) ?_
        exact V.vx (V_iret X rfl dL_addTransition_16 (Nat.le_of_ble_eq_true rfl) (Nat.le_of_ble_eq_true rfl) w)⟩
    · exact ⟨[⟨0, 7, 8, 22⟩, ⟨0, 7, 12, 14⟩], ⟨0, 7, 17, 16⟩, [], "java/lang/IllegalStateException", rfl, (List.forall_mem_cons.mpr ⟨Or.inr ⟨by decide, "java/lang/IndexOutOfBoundsException", kw_900, hN.2.1⟩, List.forall_mem_cons.mpr ⟨Or.inr ⟨by decide, "java/lang/IllegalArgumentException", kw_891, hN.2.2⟩, fun z hz => nomatch hz⟩⟩), by decide, by decide, kw_892, ku_611, fun q9 => by
        refine V_astore X dL_addTransition_17 (by decide) rfl ?_
        refine V_bipush (y := (-3)) X dL_addTransition_19 (by decide) ?_
        exact V.vx (V_iret X rfl dL_addTransition_21 (Nat.le_of_ble_eq_true rfl) (Nat.le_of_ble_eq_true rfl) w)⟩
  · exact V.vx (V_iret X rfl dL_addTransition_7 (Nat.le_of_ble_eq_true rfl) (Nat.le_of_ble_eq_true rfl) w)
/-! AnimationControllerLaw.addChild(LAnimationController;III)I -/
abbrev rmL_addChild : Room := { frames := 8, cells := 3, slots := 76, locals := 219 }
def vL_addChild (t0 : Nat) (Qn : Int32 → gH → Prop) (h : gH) (v0 : Nat) (v1 : Int32) (v2 : Int32) (v3 : Int32) : Prop := io h v0 14 (vX11_addChild t0 (fun x1 h1 => Qn x1 h1) (fun E9 h9 => (E9 = "java/lang/IndexOutOfBoundsException" ∧ Qn (-1) h9) ∨ (E9 = "java/lang/IllegalArgumentException" ∧ Qn (-2) h9) ∨ (E9 = "java/lang/IllegalStateException" ∧ Qn (-3) h9)) h v0 v1 v2 v3)
set_option maxRecDepth 100000 in
set_option maxHeartbeats 4000000 in
theorem cL_addChild_ok {l : Launch} {G : gG} {h : gH} (hls : l.stackTraces = false) {Qn : Int32 → gH → Prop} {v0 : Nat} {v1 : Int32} {v2 : Int32} {v3 : Int32} (w : vL_addChild G.2.2.1 Qn h v0 v1 v2 v3) : gWi l yL_addChild cL_addChild 5 (some .int) [(0, 7, 8, 22), (0, 7, 12, 14), (0, 7, 17, 16)] rmL_addChild rmL_addChild.cells rmL_addChild.slots G h [.ref v0, .int v1, .int v2, .int v3] Qn := by
  obtain ⟨fs, hh, w⟩ := w
  refine gWi.of (by decide +kernel) hls (Nat.le_of_ble_eq_true rfl) (fun p e s m below meth c A X hT hN => ?_)
  show V p l e rmL_addChild s m _ below meth c _ G A 5 h 0 0 0 [(0, .ref v0), (1, .int v1), (2, .int v2), (3, .int v3)] []
  refine V_aloadr_n X dL_addChild_0 0 rfl ?_
  refine V_iload_n X dL_addChild_1 1 rfl ?_
  refine V_iload_n X dL_addChild_2 2 rfl ?_
  refine V_iload_n X dL_addChild_3 3 rfl ?_
  refine V_tryXi (As := [.int v1, .int v2, .int v3]) (rest := []) (k1 := 3) (n1 := 76) X hT (cX11_addChild_ok X.2.2.2.2.2.2.2.2.1 w) lkL_28 hh (q9 := (RX11, TX11, 7)) rfl rfl dL_addChild_4 ⟨(Nat.le_of_ble_eq_true rfl), (Nat.le_of_ble_eq_true rfl)⟩ rfl (Nat.le_of_ble_eq_true rfl) ⟨(Nat.le_of_ble_eq_true rfl), (Nat.le_of_ble_eq_true rfl)⟩ (Nat.le_of_ble_eq_true rfl) (Nat.le_of_ble_eq_true rfl) (fun E9 h9 z9 => ?_) (fun x1 h1 w => ?_)
  · rcases z9 with ⟨rfl, w⟩ | ⟨rfl, w⟩ | ⟨rfl, w⟩
    · exact ⟨[], ⟨0, 7, 8, 22⟩, [⟨0, 7, 12, 14⟩, ⟨0, 7, 17, 16⟩], "java/lang/IndexOutOfBoundsException", rfl, (fun z hz => nomatch hz), by decide, by decide, kw_900, ku_456, fun q9 => by
        refine V_astore X dL_addChild_8 (by decide) rfl ?_
        refine V_iconst (y := (-1)) X dL_addChild_10 (by decide) ?_
        exact V.vx (V_iret X rfl dL_addChild_11 (Nat.le_of_ble_eq_true rfl) (Nat.le_of_ble_eq_true rfl) w)⟩
    · exact ⟨[⟨0, 7, 8, 22⟩], ⟨0, 7, 12, 14⟩, [⟨0, 7, 17, 16⟩], "java/lang/IllegalArgumentException", rfl, (List.forall_mem_cons.mpr ⟨Or.inr ⟨by decide, "java/lang/IndexOutOfBoundsException", kw_900, hN.1⟩, fun z hz => nomatch hz⟩), by decide, by decide, kw_891, ku_532, fun q9 => by
        refine V_astore X dL_addChild_12 (by decide) rfl ?_
        refine V_bipush (y := (-2)) X dL_addChild_14 (by decide) ?_
        exact V.vx (V_iret X rfl dL_addChild_16 (Nat.le_of_ble_eq_true rfl) (Nat.le_of_ble_eq_true rfl) w)⟩
    · exact ⟨[⟨0, 7, 8, 22⟩, ⟨0, 7, 12, 14⟩], ⟨0, 7, 17, 16⟩, [], "java/lang/IllegalStateException", rfl, (List.forall_mem_cons.mpr ⟨Or.inr ⟨by decide, "java/lang/IndexOutOfBoundsException", kw_900, hN.2.1⟩, List.forall_mem_cons.mpr ⟨Or.inr ⟨by decide, "java/lang/IllegalArgumentException", kw_891, hN.2.2⟩, fun z hz => nomatch hz⟩⟩), by decide, by decide, kw_892, ku_611, fun q9 => by
        refine V_astore X dL_addChild_17 (by decide) rfl ?_
        refine V_bipush (y := (-3)) X dL_addChild_19 (by decide) ?_
        exact V.vx (V_iret X rfl dL_addChild_21 (Nat.le_of_ble_eq_true rfl) (Nat.le_of_ble_eq_true rfl) w)⟩
  · exact V.vx (V_iret X rfl dL_addChild_7 (Nat.le_of_ble_eq_true rfl) (Nat.le_of_ble_eq_true rfl) w)
/-! AnimationControllerLaw.cell([II)I -/
abbrev rmL_cell : Room := { frames := 0, cells := 0, slots := 0, locals := 0 }
def vL_cell (t0 : Nat) (Qn : Int32 → gH → Prop) (h : gH) (v1 : Int32) : Prop := 0 ≤ v1.toInt ∧ ∀ x : Int32, Qn x h
set_option maxRecDepth 100000 in
set_option maxHeartbeats 4000000 in
theorem cL_cell_ok {l : Launch} {G : gG} {h : gH} (hls : l.stackTraces = false) {b L : Nat} {xs : Nat → Int32} (hL : L ≤ 260) {Qn : Int32 → gH → Prop} {v1 : Int32} (w : vL_cell G.2.2.1 Qn h v1) : gSi l yL_cell cL_cell 2 (some .int) rmL_cell rmL_cell.cells rmL_cell.slots G h [.ref b, .int v1] b L xs Qn := by
  obtain ⟨w0, w⟩ := w
  refine gSi.of (by decide +kernel) hls (Nat.le_of_ble_eq_true rfl) rfl rfl (fun p e s m below meth c A X hX hbl hbA => ?_)
  show V p l e rmL_cell s m _ below meth c _ G A 2 h 0 0 0 [(0, .ref b), (1, .int v1)] []
  have fin : ∀ y : Int32, V p l e rmL_cell s m _ below meth c (MQ below (va_Qi Qn (gB G A) A) [Value.ref b, Value.int v1].toArray s rmL_cell.cells rmL_cell.slots A) G A 2 h 0 0 24 [(0, .ref b), (1, .int v1)] [.int y] := fun y => V_iret X rfl dL_cell_24 (Nat.le_of_ble_eq_true rfl) (Nat.le_of_ble_eq_true rfl) (w y)
  refine V_iload_n X dL_cell_0 1 rfl ?_
  refine V_aloadr_n X dL_cell_1 0 rfl ?_
  refine V_slen (L := L) (xs := xs) X hX hbl hbA dL_cell_2 ?_
  refine V_icmp_ge (tgt := 12) X dL_cell_3 (by decide) (fun z => ?_) (fun z => ?_)
  · refine V_sipush (y := 7919) X dL_cell_12 (by decide) ?_
    refine V_iload_n X dL_cell_15 1 rfl ?_
    refine V_iconst (y := 3) X dL_cell_16 (by decide) ?_
    refine V_iadd X dL_cell_17 ?_
    refine V_imul X dL_cell_18 ?_
    refine V_iload_n X dL_cell_19 1 rfl ?_
    refine V_bipush (y := 11) X dL_cell_20 (by decide) ?_
    refine V_iadd X dL_cell_22 ?_
    refine V_imul X dL_cell_23 ?_
    exact fin _
  · have e : (Int32.ofNat L).toInt = (L : Int) := Int32.toInt_ofNat_of_lt (by omega)
    have z2 : ¬ (Int32.ofNat L).toInt ≤ v1.toInt := fun q => z (Int32.le_iff_toInt_le.mpr q)
    rw [e] at z2
    have hin : vp_in v1 L := by
      intro q
      rcases q with q | q
      · rw [Int32.lt_iff_toInt_lt, Int32.toInt_zero] at q
        omega
      · have e2 : v1.toNatClampNeg = v1.toInt.toNat := rfl
        omega
    refine V_aloadr_n X dL_cell_6 0 rfl ?_
    refine V_iload_n X dL_cell_7 1 rfl ?_
    refine V_sld (L := L) (xs := xs) X hX hbl hbA hin dL_cell_8 ?_
    refine V_goto (tgt := 24) X dL_cell_9 (by decide) ?_
    exact fin _
