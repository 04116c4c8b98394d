/-! AnimationControllerLaw.addParameter(LAnimationController;I[J)I -/
abbrev rmL_addParameter : Room := { frames := 7, cells := 1, slots := 6, locals := 111 }
def vL_addParameter (t0 : Nat) (Qn : Int32 → gH → Prop) (h : gH) (v0 : Nat) (v1 : Int32) (v2 : Nat) : Prop := io h v0 14 (vX11_addParameter t0 (fun x1 h1 => sl h1 v2 0 (Int32.toInt64 x1) (fun h2 => Qn 0 h2)) (fun E9 h9 => (E9 = "java/lang/IllegalArgumentException" ∧ Qn 1 h9) ∨ (E9 = "java/lang/IllegalStateException" ∧ Qn 2 h9)) h v0 v1)
set_option maxRecDepth 100000 in
set_option maxHeartbeats 4000000 in
theorem cL_addParameter_ok {l : Launch} {G : gG} {h : gH} (hls : l.stackTraces = false) {Qn : Int32 → gH → Prop} {v0 : Nat} {v1 : Int32} {v2 : Nat} (w : vL_addParameter G.2.2.1 Qn h v0 v1 v2) : gWi l yL_addParameter cL_addParameter 4 (some .int) [(0, 9, 12, 13), (0, 9, 15, 15)] rmL_addParameter rmL_addParameter.cells rmL_addParameter.slots G h [.ref v0, .int v1, .ref v2] Qn := by
  obtain ⟨fs, hh, w⟩ := w
  refine gWi.of (by decide +kernel) hls (Nat.le_of_ble_eq_true rfl) (fun p e s m below meth c A X hT hN => ?_)
  show V p l e rmL_addParameter s m _ below meth c _ G A 4 h 0 0 0 [(0, .ref v0), (1, .int v1), (2, .ref v2)] []
  refine V_aloadr_n X dL_addParameter_0 2 rfl ?_
  refine V_iconst (y := 0) X dL_addParameter_1 (by decide) ?_
  refine V_aloadr_n X dL_addParameter_2 0 rfl ?_
  refine V_iload_n X dL_addParameter_3 1 rfl ?_
  refine V_tryXi (As := [.int v1]) (rest := [.int 0, .ref v2]) (k1 := 1) (n1 := 6) X hT (cX11_addParameter_ok X.2.2.2.2.2.2.2.2.1 w) lkL_7 hh (q9 := (RX11, TX11, 7)) rfl rfl dL_addParameter_4 ⟨(Nat.le_of_ble_eq_true rfl), (Nat.le_of_ble_eq_true rfl)⟩ rfl (Nat.le_of_ble_eq_true rfl) ⟨(Nat.le_of_ble_eq_true rfl), (Nat.le_of_ble_eq_true rfl)⟩ (Nat.le_of_ble_eq_true rfl) (Nat.le_of_ble_eq_true rfl) (fun E9 h9 z9 => ?_) (fun x1 h1 w9 => ?_)
  · rcases z9 with ⟨rfl, w⟩ | ⟨rfl, w⟩
    · exact ⟨[], ⟨0, 9, 12, 13⟩, [⟨0, 9, 15, 15⟩], "java/lang/IllegalArgumentException", rfl, (fun z hz => nomatch hz), by decide, by decide, kw_731, ku_739, fun q9 => by
        refine V_astore_n (i0 := 3) X dL_addParameter_12 rfl (by decide) rfl ?_
        refine V_iconst (y := 1) X dL_addParameter_13 (by decide) ?_
        exact V.vx (V_iret X rfl dL_addParameter_14 (Nat.le_of_ble_eq_true rfl) (Nat.le_of_ble_eq_true rfl) w)⟩
    · exact ⟨[⟨0, 9, 12, 13⟩], ⟨0, 9, 15, 15⟩, [], "java/lang/IllegalStateException", rfl, (List.forall_mem_cons.mpr ⟨Or.inr ⟨by decide, "java/lang/IllegalArgumentException", kw_731, hN.2.2⟩, fun z hz => nomatch hz⟩), by decide, by decide, kw_732, ku_807, fun q9 => by
        refine V_astore_n (i0 := 3) X dL_addParameter_15 rfl (by decide) rfl ?_
        refine V_iconst (y := 2) X dL_addParameter_16 (by decide) ?_
        exact V.vx (V_iret X rfl dL_addParameter_17 (Nat.le_of_ble_eq_true rfl) (Nat.le_of_ble_eq_true rfl) w)⟩
  · refine V_i2l X dL_addParameter_7 ?_
    obtain ⟨N9, g9, hh, hi, w⟩ := w9
    refine V_last X dL_addParameter_8 hh hi ?_
    generalize va_up _ _ _ = h2 at w ⊢
    refine V_goto (tgt := 18) X dL_addParameter_9 (by decide) ?_
    refine V_iconst (y := 0) X dL_addParameter_18 (by decide) ?_
    exact V.vx (V_iret X rfl dL_addParameter_19 (Nat.le_of_ble_eq_true rfl) (Nat.le_of_ble_eq_true rfl) w)
/-! AnimationControllerLaw.set(LAnimationController;II[J)I -/
abbrev rmL_set : Room := { frames := 8, cells := 2, slots := 12, locals := 134 }
def vL_set (t0 : Nat) (Qn : Int32 → gH → Prop) (h : gH) (v0 : Nat) (v1 : Int32) (v2 : Int32) (v3 : Nat) : Prop := io h v0 14 (vX11_set t0 (fun x1 h1 => sl h1 v3 0 (Int32.toInt64 x1) (fun h2 => Qn 0 h2)) (fun E9 h9 => (E9 = "java/lang/IndexOutOfBoundsException" ∧ Qn 1 h9) ∨ (E9 = "java/lang/IllegalArgumentException" ∧ Qn 2 h9)) h v0 v1 v2)
set_option maxRecDepth 100000 in
set_option maxHeartbeats 4000000 in
theorem cL_set_ok {l : Launch} {G : gG} {h : gH} (hls : l.stackTraces = false) {Qn : Int32 → gH → Prop} {v0 : Nat} {v1 : Int32} {v2 : Int32} {v3 : Nat} (w : vL_set G.2.2.1 Qn h v0 v1 v2 v3) : gWi l yL_set cL_set 5 (some .int) [(0, 10, 13, 21), (0, 10, 17, 13)] rmL_set rmL_set.cells rmL_set.slots G h [.ref v0, .int v1, .int v2, .ref v3] Qn := by
  obtain ⟨fs, hh, w⟩ := w
  refine gWi.of (by decide +kernel) hls (Nat.le_of_ble_eq_true rfl) (fun p e s m below meth c A X hT hN => ?_)
  show V p l e rmL_set s m _ below meth c _ G A 5 h 0 0 0 [(0, .ref v0), (1, .int v1), (2, .int v2), (3, .ref v3)] []
  refine V_aloadr_n X dL_set_0 3 rfl ?_
  refine V_iconst (y := 0) X dL_set_1 (by decide) ?_
  refine V_aloadr_n X dL_set_2 0 rfl ?_
  refine V_iload_n X dL_set_3 1 rfl ?_
  refine V_iload_n X dL_set_4 2 rfl ?_
  refine V_tryXi (As := [.int v1, .int v2]) (rest := [.int 0, .ref v3]) (k1 := 2) (n1 := 12) X hT (cX11_set_ok X.2.2.2.2.2.2.2.2.1 w) lkL_17 hh (q9 := (RX11, TX11, 7)) rfl rfl dL_set_5 ⟨(Nat.le_of_ble_eq_true rfl), (Nat.le_of_ble_eq_true rfl)⟩ rfl (Nat.le_of_ble_eq_true rfl) ⟨(Nat.le_of_ble_eq_true rfl), (Nat.le_of_ble_eq_true rfl)⟩ (Nat.le_of_ble_eq_true rfl) (Nat.le_of_ble_eq_true rfl) (fun E9 h9 z9 => ?_) (fun x1 h1 w9 => ?_)
  · rcases z9 with ⟨rfl, w⟩ | ⟨rfl, w⟩
    · exact ⟨[], ⟨0, 10, 13, 21⟩, [⟨0, 10, 17, 13⟩], "java/lang/IndexOutOfBoundsException", rfl, (fun z hz => nomatch hz), by decide, by decide, kw_824, ku_839, fun q9 => by
        refine V_astore X dL_set_13 (by decide) rfl ?_
        refine V_iconst (y := 1) X dL_set_15 (by decide) ?_
        exact V.vx (V_iret X rfl dL_set_16 (Nat.le_of_ble_eq_true rfl) (Nat.le_of_ble_eq_true rfl) w)⟩
    · exact ⟨[⟨0, 10, 13, 21⟩], ⟨0, 10, 17, 13⟩, [], "java/lang/IllegalArgumentException", rfl, (List.forall_mem_cons.mpr ⟨Or.inr ⟨by decide, "java/lang/IndexOutOfBoundsException", kw_824, hN.1⟩, fun z hz => nomatch hz⟩), by decide, by decide, kw_731, ku_739, fun q9 => by
        refine V_astore X dL_set_17 (by decide) rfl ?_
        refine V_iconst (y := 2) X dL_set_19 (by decide) ?_
        exact V.vx (V_iret X rfl dL_set_20 (Nat.le_of_ble_eq_true rfl) (Nat.le_of_ble_eq_true rfl) w)⟩
  · refine V_i2l X dL_set_8 ?_
    obtain ⟨N9, g9, hh, hi, w⟩ := w9
    refine V_last X dL_set_9 hh hi ?_
    generalize va_up _ _ _ = h2 at w ⊢
    refine V_goto (tgt := 21) X dL_set_10 (by decide) ?_
    refine V_iconst (y := 0) X dL_set_21 (by decide) ?_
    exact V.vx (V_iret X rfl dL_set_22 (Nat.le_of_ble_eq_true rfl) (Nat.le_of_ble_eq_true rfl) w)
/-! AnimationControllerLaw.value(LAnimationController;I[J)I -/
abbrev rmL_value : Room := { frames := 8, cells := 1, slots := 6, locals := 132 }
def vL_value (t0 : Nat) (Qn : Int32 → gH → Prop) (h : gH) (v0 : Nat) (v1 : Int32) (v2 : Nat) : Prop := io h v0 14 (vX11_value t0 (fun x1 h1 => sl h1 v2 0 (Int32.toInt64 x1) (fun h2 => Qn 0 h2)) (fun E9 h9 => (E9 = "java/lang/IndexOutOfBoundsException" ∧ Qn 1 h9)) h v0 v1)
set_option maxRecDepth 100000 in
set_option maxHeartbeats 4000000 in
theorem cL_value_ok {l : Launch} {G : gG} {h : gH} (hls : l.stackTraces = false) {Qn : Int32 → gH → Prop} {v0 : Nat} {v1 : Int32} {v2 : Nat} (w : vL_value G.2.2.1 Qn h v0 v1 v2) : gWi l yL_value cL_value 4 (some .int) [(0, 9, 12, 21)] rmL_value rmL_value.cells rmL_value.slots G h [.ref v0, .int v1, .ref v2] Qn := by
  obtain ⟨fs, hh, w⟩ := w
  refine gWi.of (by decide +kernel) hls (Nat.le_of_ble_eq_true rfl) (fun p e s m below meth c A X hT hN => ?_)
  show V p l e rmL_value s m _ below meth c _ G A 4 h 0 0 0 [(0, .ref v0), (1, .int v1), (2, .ref v2)] []
  refine V_aloadr_n X dL_value_0 2 rfl ?_
  refine V_iconst (y := 0) X dL_value_1 (by decide) ?_
  refine V_aloadr_n X dL_value_2 0 rfl ?_
  refine V_iload_n X dL_value_3 1 rfl ?_
  refine V_tryXi (As := [.int v1]) (rest := [.int 0, .ref v2]) (k1 := 1) (n1 := 6) X hT (cX11_value_ok X.2.2.2.2.2.2.2.2.1 w) lkL_23 hh (q9 := (RX11, TX11, 7)) rfl rfl dL_value_4 ⟨(Nat.le_of_ble_eq_true rfl), (Nat.le_of_ble_eq_true rfl)⟩ rfl (Nat.le_of_ble_eq_true rfl) ⟨(Nat.le_of_ble_eq_true rfl), (Nat.le_of_ble_eq_true rfl)⟩ (Nat.le_of_ble_eq_true rfl) (Nat.le_of_ble_eq_true rfl) (fun E9 h9 z9 => ?_) (fun x1 h1 w9 => ?_)
  · obtain ⟨rfl, w⟩ := z9
    exact ⟨[], ⟨0, 9, 12, 21⟩, [], "java/lang/IndexOutOfBoundsException", rfl, (fun z hz => nomatch hz), by decide, by decide, kw_824, ku_839, fun q9 => by
        refine V_astore_n (i0 := 3) X dL_value_12 rfl (by decide) rfl ?_
        refine V_iconst (y := 1) X dL_value_13 (by decide) ?_
        exact V.vx (V_iret X rfl dL_value_14 (Nat.le_of_ble_eq_true rfl) (Nat.le_of_ble_eq_true rfl) w)⟩
  · refine V_i2l X dL_value_7 ?_
    obtain ⟨N9, g9, hh, hi, w⟩ := w9
    refine V_last X dL_value_8 hh hi ?_
    generalize va_up _ _ _ = h2 at w ⊢
    refine V_goto (tgt := 15) X dL_value_9 (by decide) ?_
    refine V_iconst (y := 0) X dL_value_15 (by decide) ?_
    exact V.vx (V_iret X rfl dL_value_16 (Nat.le_of_ble_eq_true rfl) (Nat.le_of_ble_eq_true rfl) w)
/-! AnimationControllerLaw.addClip(LAnimationController;I[J)I -/
abbrev rmL_addClip : Room := { frames := 8, cells := 4, slots := 79, locals := 212 }
def vL_addClip (t0 : Nat) (Qn : Int32 → gH → Prop) (h : gH) (v0 : Nat) (v1 : Int32) (v2 : Nat) : Prop := io h v0 14 (vX11_addClip t0 (fun x1 h1 => sl h1 v2 0 (Int32.toInt64 x1) (fun h2 => Qn 0 h2)) (fun E9 h9 => (E9 = "java/lang/IllegalArgumentException" ∧ Qn 1 h9) ∨ (E9 = "java/lang/IllegalStateException" ∧ Qn 2 h9)) h v0 v1)
set_option maxRecDepth 100000 in
set_option maxHeartbeats 4000000 in
theorem cL_addClip_ok {l : Launch} {G : gG} {h : gH} (hls : l.stackTraces = false) {Qn : Int32 → gH → Prop} {v0 : Nat} {v1 : Int32} {v2 : Nat} (w : vL_addClip G.2.2.1 Qn h v0 v1 v2) : gWi l yL_addClip cL_addClip 4 (some .int) [(0, 9, 12, 13), (0, 9, 15, 15)] rmL_addClip rmL_addClip.cells rmL_addClip.slots G h [.ref v0, .int v1, .ref v2] Qn := by
  obtain ⟨fs, hh, w⟩ := w
  refine gWi.of (by decide +kernel) hls (Nat.le_of_ble_eq_true rfl) (fun p e s m below meth c A X hT hN => ?_)
  show V p l e rmL_addClip s m _ below meth c _ G A 4 h 0 0 0 [(0, .ref v0), (1, .int v1), (2, .ref v2)] []
  refine V_aloadr_n X dL_addClip_0 2 rfl ?_
  refine V_iconst (y := 0) X dL_addClip_1 (by decide) ?_
  refine V_aloadr_n X dL_addClip_2 0 rfl ?_
  refine V_iload_n X dL_addClip_3 1 rfl ?_
  refine V_tryXi (As := [.int v1]) (rest := [.int 0, .ref v2]) (k1 := 4) (n1 := 79) X hT (cX11_addClip_ok X.2.2.2.2.2.2.2.2.1 w) lkL_26 hh (q9 := (RX11, TX11, 7)) rfl rfl dL_addClip_4 ⟨(Nat.le_of_ble_eq_true rfl), (Nat.le_of_ble_eq_true rfl)⟩ rfl (Nat.le_of_ble_eq_true rfl) ⟨(Nat.le_of_ble_eq_true rfl), (Nat.le_of_ble_eq_true rfl)⟩ (Nat.le_of_ble_eq_true rfl) (Nat.le_of_ble_eq_true rfl) (fun E9 h9 z9 => ?_) (fun x1 h1 w9 => ?_)
  · rcases z9 with ⟨rfl, w⟩ | ⟨rfl, w⟩
    · exact ⟨[], ⟨0, 9, 12, 13⟩, [⟨0, 9, 15, 15⟩], "java/lang/IllegalArgumentException", rfl, (fun z hz => nomatch hz), by decide, by decide, kw_731, ku_739, fun q9 => by
        refine V_astore_n (i0 := 3) X dL_addClip_12 rfl (by decide) rfl ?_
        refine V_iconst (y := 1) X dL_addClip_13 (by decide) ?_
        exact V.vx (V_iret X rfl dL_addClip_14 (Nat.le_of_ble_eq_true rfl) (Nat.le_of_ble_eq_true rfl) w)⟩
    · exact ⟨[⟨0, 9, 12, 13⟩], ⟨0, 9, 15, 15⟩, [], "java/lang/IllegalStateException", rfl, (List.forall_mem_cons.mpr ⟨Or.inr ⟨by decide, "java/lang/IllegalArgumentException", kw_731, hN.2.2⟩, fun z hz => nomatch hz⟩), by decide, by decide, kw_732, ku_807, fun q9 => by
        refine V_astore_n (i0 := 3) X dL_addClip_15 rfl (by decide) rfl ?_
        refine V_iconst (y := 2) X dL_addClip_16 (by decide) ?_
        exact V.vx (V_iret X rfl dL_addClip_17 (Nat.le_of_ble_eq_true rfl) (Nat.le_of_ble_eq_true rfl) w)⟩
  · refine V_i2l X dL_addClip_7 ?_
    obtain ⟨N9, g9, hh, hi, w⟩ := w9
    refine V_last X dL_addClip_8 hh hi ?_
    generalize va_up _ _ _ = h2 at w ⊢
    refine V_goto (tgt := 18) X dL_addClip_9 (by decide) ?_
    refine V_iconst (y := 0) X dL_addClip_18 (by decide) ?_
    exact V.vx (V_iret X rfl dL_addClip_19 (Nat.le_of_ble_eq_true rfl) (Nat.le_of_ble_eq_true rfl) w)
/-! AnimationControllerLaw.addEvent(LAnimationController;III[J)I -/
abbrev rmL_addEvent : Room := { frames := 8, cells := 2, slots := 12, locals := 135 }
def vL_addEvent (t0 : Nat) (Qn : Int32 → gH → Prop) (h : gH) (v0 : Nat) (v1 : Int32) (v2 : Int32) (v3 : Int32) (v4 : Nat) : Prop := io h v0 14 (vX11_addEvent t0 (fun x1 h1 => sl h1 v4 0 (Int32.toInt64 x1) (fun h2 => Qn 0 h2)) (fun E9 h9 => (E9 = "java/lang/IndexOutOfBoundsException" ∧ Qn 1 h9) ∨ (E9 = "java/lang/IllegalArgumentException" ∧ Qn 2 h9) ∨ (E9 = "java/lang/IllegalStateException" ∧ Qn 3 h9)) h v0 v1 v2 v3)
set_option maxRecDepth 100000 in
set_option maxHeartbeats 4000000 in
theorem cL_addEvent_ok {l : Launch} {G : gG} {h : gH} (hls : l.stackTraces = false) {Qn : Int32 → gH → Prop} {v0 : Nat} {v1 : Int32} {v2 : Int32} {v3 : Int32} {v4 : Nat} (w : vL_addEvent G.2.2.1 Qn h v0 v1 v2 v3 v4) : gWi l yL_addEvent cL_addEvent 6 (some .int) [(0, 12, 15, 21), (0, 12, 19, 13), (0, 12, 23, 15)] rmL_addEvent rmL_addEvent.cells rmL_addEvent.slots G h [.ref v0, .int v1, .int v2, .int v3, .ref v4] Qn := by
  obtain ⟨fs, hh, w⟩ := w
  refine gWi.of (by decide +kernel) hls (Nat.le_of_ble_eq_true rfl) (fun p e s m below meth c A X hT hN => ?_)
  show V p l e rmL_addEvent s m _ below meth c _ G A 6 h 0 0 0 [(0, .ref v0), (1, .int v1), (2, .int v2), (3, .int v3), (4, .ref v4)] []
  refine V_aloadr X dL_addEvent_0 4 rfl ?_
  refine V_iconst (y := 0) X dL_addEvent_2 (by decide) ?_
  refine V_aloadr_n X dL_addEvent_3 0 rfl ?_
  refine V_iload_n X dL_addEvent_4 1 rfl ?_
  refine V_iload_n X dL_addEvent_5 2 rfl ?_
  refine V_iload_n X dL_addEvent_6 3 rfl ?_
  refine V_tryXi (As := [.int v1, .int v2, .int v3]) (rest := [.int 0, .ref v4]) (k1 := 2) (n1 := 12) X hT (cX11_addEvent_ok X.2.2.2.2.2.2.2.2.1 w) lkL_29 hh (q9 := (RX11, TX11, 7)) rfl rfl dL_addEvent_7 ⟨(Nat.le_of_ble_eq_true rfl), (Nat.le_of_ble_eq_true rfl)⟩ rfl (Nat.le_of_ble_eq_true rfl) ⟨(Nat.le_of_ble_eq_true rfl), (Nat.le_of_ble_eq_true rfl)⟩ (Nat.le_of_ble_eq_true rfl) (Nat.le_of_ble_eq_true rfl) (fun E9 h9 z9 => ?_) (fun x1 h1 w9 => ?_)
  · rcases z9 with ⟨rfl, w⟩ | ⟨rfl, w⟩ | ⟨rfl, w⟩
    · exact ⟨[], ⟨0, 12, 15, 21⟩, [⟨0, 12, 19, 13⟩, ⟨0, 12, 23, 15⟩], "java/lang/IndexOutOfBoundsException", rfl, (fun z hz => nomatch hz), by decide, by decide, kw_824, ku_839, fun q9 => by
        refine V_astore X dL_addEvent_15 (by decide) rfl ?_
        refine V_iconst (y := 1) X dL_addEvent_17 (by decide) ?_
        exact V.vx (V_iret X rfl dL_addEvent_18 (Nat.le_of_ble_eq_true rfl) (Nat.le_of_ble_eq_true rfl) w)⟩
    · exact ⟨[⟨0, 12, 15, 21⟩], ⟨0, 12, 19, 13⟩, [⟨0, 12, 23, 15⟩], "java/lang/IllegalArgumentException", rfl, (List.forall_mem_cons.mpr ⟨Or.inr ⟨by decide, "java/lang/IndexOutOfBoundsException", kw_824, hN.1⟩, fun z hz => nomatch hz⟩), by decide, by decide, kw_731, ku_739, fun q9 => by
        refine V_astore X dL_addEvent_19 (by decide) rfl ?_
        refine V_iconst (y := 2) X dL_addEvent_21 (by decide) ?_
        exact V.vx (V_iret X rfl dL_addEvent_22 (Nat.le_of_ble_eq_true rfl) (Nat.le_of_ble_eq_true rfl) w)⟩
    · exact ⟨[⟨0, 12, 15, 21⟩, ⟨0, 12, 19, 13⟩], ⟨0, 12, 23, 15⟩, [], "java/lang/IllegalStateException", rfl, (List.forall_mem_cons.mpr ⟨Or.inr ⟨by decide, "java/lang/IndexOutOfBoundsException", kw_824, hN.2.1⟩, List.forall_mem_cons.mpr ⟨Or.inr ⟨by decide, "java/lang/IllegalArgumentException", kw_731, hN.2.2⟩, fun z hz => nomatch hz⟩⟩), by decide, by decide, kw_732, ku_807, fun q9 => by
        refine V_astore X dL_addEvent_23 (by decide) rfl ?_
        refine V_iconst (y := 3) X dL_addEvent_25 (by decide) ?_
        exact V.vx (V_iret X rfl dL_addEvent_26 (Nat.le_of_ble_eq_true rfl) (Nat.le_of_ble_eq_true rfl) w)⟩
  · refine V_i2l X dL_addEvent_10 ?_
    obtain ⟨N9, g9, hh, hi, w⟩ := w9
    refine V_last X dL_addEvent_11 hh hi ?_
    generalize va_up _ _ _ = h2 at w ⊢
    refine V_goto (tgt := 27) X dL_addEvent_12 (by decide) ?_
    refine V_iconst (y := 0) X dL_addEvent_27 (by decide) ?_
    exact V.vx (V_iret X rfl dL_addEvent_28 (Nat.le_of_ble_eq_true rfl) (Nat.le_of_ble_eq_true rfl) w)
/-! AnimationControllerLaw.addClipNode(LAnimationController;I[J)I -/
abbrev rmL_addClipNode : Room := { frames := 8, cells := 6, slots := 89, locals := 213 }
def vL_addClipNode (t0 : Nat) (Qn : Int32 → gH → Prop) (h : gH) (v0 : Nat) (v1 : Int32) (v2 : Nat) : Prop := io h v0 14 (vX11_addClipNode t0 (fun x1 h1 => sl h1 v2 0 (Int32.toInt64 x1) (fun h2 => Qn 0 h2)) (fun E9 h9 => (E9 = "java/lang/IndexOutOfBoundsException" ∧ Qn 1 h9) ∨ (E9 = "java/lang/IllegalStateException" ∧ Qn 2 h9)) h v0 v1)
set_option maxRecDepth 100000 in
set_option maxHeartbeats 4000000 in
theorem cL_addClipNode_ok {l : Launch} {G : gG} {h : gH} (hls : l.stackTraces = false) {Qn : Int32 → gH → Prop} {v0 : Nat} {v1 : Int32} {v2 : Nat} (w : vL_addClipNode G.2.2.1 Qn h v0 v1 v2) : gWi l yL_addClipNode cL_addClipNode 4 (some .int) [(0, 9, 12, 21), (0, 9, 15, 15)] rmL_addClipNode rmL_addClipNode.cells rmL_addClipNode.slots G h [.ref v0, .int v1, .ref v2] Qn := by
  obtain ⟨fs, hh, w⟩ := w
  refine gWi.of (by decide +kernel) hls (Nat.le_of_ble_eq_true rfl) (fun p e s m below meth c A X hT hN => ?_)
  show V p l e rmL_addClipNode s m _ below meth c _ G A 4 h 0 0 0 [(0, .ref v0), (1, .int v1), (2, .ref v2)] []
  refine V_aloadr_n X dL_addClipNode_0 2 rfl ?_
  refine V_iconst (y := 0) X dL_addClipNode_1 (by decide) ?_
  refine V_aloadr_n X dL_addClipNode_2 0 rfl ?_
  refine V_iload_n X dL_addClipNode_3 1 rfl ?_
  refine V_tryXi (As := [.int v1]) (rest := [.int 0, .ref v2]) (k1 := 6) (n1 := 89) X hT (cX11_addClipNode_ok X.2.2.2.2.2.2.2.2.1 w) lkL_33 hh (q9 := (RX11, TX11, 7)) rfl rfl dL_addClipNode_4 ⟨(Nat.le_of_ble_eq_true rfl), (Nat.le_of_ble_eq_true rfl)⟩ rfl (Nat.le_of_ble_eq_true rfl) ⟨(Nat.le_of_ble_eq_true rfl), (Nat.le_of_ble_eq_true rfl)⟩ (Nat.le_of_ble_eq_true rfl) (Nat.le_of_ble_eq_true rfl) (fun E9 h9 z9 => ?_) (fun x1 h1 w9 => ?_)
  · rcases z9 with ⟨rfl, w⟩ | ⟨rfl, w⟩
    · exact ⟨[], ⟨0, 9, 12, 21⟩, [⟨0, 9, 15, 15⟩], "java/lang/IndexOutOfBoundsException", rfl, (fun z hz => nomatch hz), by decide, by decide, kw_824, ku_839, fun q9 => by
        refine V_astore_n (i0 := 3) X dL_addClipNode_12 rfl (by decide) rfl ?_
        refine V_iconst (y := 1) X dL_addClipNode_13 (by decide) ?_
        exact V.vx (V_iret X rfl dL_addClipNode_14 (Nat.le_of_ble_eq_true rfl) (Nat.le_of_ble_eq_true rfl) w)⟩
    · exact ⟨[⟨0, 9, 12, 21⟩], ⟨0, 9, 15, 15⟩, [], "java/lang/IllegalStateException", rfl, (List.forall_mem_cons.mpr ⟨Or.inr ⟨by decide, "java/lang/IndexOutOfBoundsException", kw_824, hN.2.1⟩, fun z hz => nomatch hz⟩), by decide, by decide, kw_732, ku_807, fun q9 => by
        refine V_astore_n (i0 := 3) X dL_addClipNode_15 rfl (by decide) rfl ?_
        refine V_iconst (y := 2) X dL_addClipNode_16 (by decide) ?_
        exact V.vx (V_iret X rfl dL_addClipNode_17 (Nat.le_of_ble_eq_true rfl) (Nat.le_of_ble_eq_true rfl) w)⟩
  · refine V_i2l X dL_addClipNode_7 ?_
    obtain ⟨N9, g9, hh, hi, w⟩ := w9
    refine V_last X dL_addClipNode_8 hh hi ?_
    generalize va_up _ _ _ = h2 at w ⊢
    refine V_goto (tgt := 18) X dL_addClipNode_9 (by decide) ?_
    refine V_iconst (y := 0) X dL_addClipNode_18 (by decide) ?_
    exact V.vx (V_iret X rfl dL_addClipNode_19 (Nat.le_of_ble_eq_true rfl) (Nat.le_of_ble_eq_true rfl) w)
/-! AnimationControllerLaw.addLine(LAnimationController;I[J)I -/
abbrev rmL_addLine : Room := { frames := 8, cells := 6, slots := 89, locals := 212 }
def vL_addLine (t0 : Nat) (Qn : Int32 → gH → Prop) (h : gH) (v0 : Nat) (v1 : Int32) (v2 : Nat) : Prop := io h v0 14 (vX11_addLine t0 (fun x1 h1 => sl h1 v2 0 (Int32.toInt64 x1) (fun h2 => Qn 0 h2)) (fun E9 h9 => (E9 = "java/lang/IndexOutOfBoundsException" ∧ Qn 1 h9) ∨ (E9 = "java/lang/IllegalStateException" ∧ Qn 2 h9)) h v0 v1)
set_option maxRecDepth 100000 in
set_option maxHeartbeats 4000000 in
theorem cL_addLine_ok {l : Launch} {G : gG} {h : gH} (hls : l.stackTraces = false) {Qn : Int32 → gH → Prop} {v0 : Nat} {v1 : Int32} {v2 : Nat} (w : vL_addLine G.2.2.1 Qn h v0 v1 v2) : gWi l yL_addLine cL_addLine 4 (some .int) [(0, 9, 12, 21), (0, 9, 15, 15)] rmL_addLine rmL_addLine.cells rmL_addLine.slots G h [.ref v0, .int v1, .ref v2] Qn := by
  obtain ⟨fs, hh, w⟩ := w
  refine gWi.of (by decide +kernel) hls (Nat.le_of_ble_eq_true rfl) (fun p e s m below meth c A X hT hN => ?_)
  show V p l e rmL_addLine s m _ below meth c _ G A 4 h 0 0 0 [(0, .ref v0), (1, .int v1), (2, .ref v2)] []
  refine V_aloadr_n X dL_addLine_0 2 rfl ?_
  refine V_iconst (y := 0) X dL_addLine_1 (by decide) ?_
  refine V_aloadr_n X dL_addLine_2 0 rfl ?_
  refine V_iload_n X dL_addLine_3 1 rfl ?_
  refine V_tryXi (As := [.int v1]) (rest := [.int 0, .ref v2]) (k1 := 6) (n1 := 89) X hT (cX11_addLine_ok X.2.2.2.2.2.2.2.2.1 w) lkL_36 hh (q9 := (RX11, TX11, 7)) rfl rfl dL_addLine_4 ⟨(Nat.le_of_ble_eq_true rfl), (Nat.le_of_ble_eq_true rfl)⟩ rfl (Nat.le_of_ble_eq_true rfl) ⟨(Nat.le_of_ble_eq_true rfl), (Nat.le_of_ble_eq_true rfl)⟩ (Nat.le_of_ble_eq_true rfl) (Nat.le_of_ble_eq_true rfl) (fun E9 h9 z9 => ?_) (fun x1 h1 w9 => ?_)
  · rcases z9 with ⟨rfl, w⟩ | ⟨rfl, w⟩
    · exact ⟨[], ⟨0, 9, 12, 21⟩, [⟨0, 9, 15, 15⟩], "java/lang/IndexOutOfBoundsException", rfl, (fun z hz => nomatch hz), by decide, by decide, kw_824, ku_839, fun q9 => by
        refine V_astore_n (i0 := 3) X dL_addLine_12 rfl (by decide) rfl ?_
        refine V_iconst (y := 1) X dL_addLine_13 (by decide) ?_
        exact V.vx (V_iret X rfl dL_addLine_14 (Nat.le_of_ble_eq_true rfl) (Nat.le_of_ble_eq_true rfl) w)⟩
    · exact ⟨[⟨0, 9, 12, 21⟩], ⟨0, 9, 15, 15⟩, [], "java/lang/IllegalStateException", rfl, (List.forall_mem_cons.mpr ⟨Or.inr ⟨by decide, "java/lang/IndexOutOfBoundsException", kw_824, hN.2.1⟩, fun z hz => nomatch hz⟩), by decide, by decide, kw_732, ku_807, fun q9 => by
        refine V_astore_n (i0 := 3) X dL_addLine_15 rfl (by decide) rfl ?_
        refine V_iconst (y := 2) X dL_addLine_16 (by decide) ?_
        exact V.vx (V_iret X rfl dL_addLine_17 (Nat.le_of_ble_eq_true rfl) (Nat.le_of_ble_eq_true rfl) w)⟩
  · refine V_i2l X dL_addLine_7 ?_
    obtain ⟨N9, g9, hh, hi, w⟩ := w9
    refine V_last X dL_addLine_8 hh hi ?_
    generalize va_up _ _ _ = h2 at w ⊢
    refine V_goto (tgt := 18) X dL_addLine_9 (by decide) ?_
    refine V_iconst (y := 0) X dL_addLine_18 (by decide) ?_
    exact V.vx (V_iret X rfl dL_addLine_19 (Nat.le_of_ble_eq_true rfl) (Nat.le_of_ble_eq_true rfl) w)
/-! AnimationControllerLaw.addChild(LAnimationController;III[J)I -/
abbrev rmL_addChild : Room := { frames := 8, cells := 3, slots := 76, locals := 219 }
def vL_addChild (t0 : Nat) (Qn : Int32 → gH → Prop) (h : gH) (v0 : Nat) (v1 : Int32) (v2 : Int32) (v3 : Int32) (v4 : Nat) : Prop := io h v0 14 (vX11_addChild t0 (fun x1 h1 => sl h1 v4 0 (Int32.toInt64 x1) (fun h2 => Qn 0 h2)) (fun E9 h9 => (E9 = "java/lang/IndexOutOfBoundsException" ∧ Qn 1 h9) ∨ (E9 = "java/lang/IllegalArgumentException" ∧ Qn 2 h9) ∨ (E9 = "java/lang/IllegalStateException" ∧ Qn 3 h9)) h v0 v1 v2 v3)
set_option maxRecDepth 100000 in
set_option maxHeartbeats 4000000 in
theorem cL_addChild_ok {l : Launch} {G : gG} {h : gH} (hls : l.stackTraces = false) {Qn : Int32 → gH → Prop} {v0 : Nat} {v1 : Int32} {v2 : Int32} {v3 : Int32} {v4 : Nat} (w : vL_addChild G.2.2.1 Qn h v0 v1 v2 v3 v4) : gWi l yL_addChild cL_addChild 6 (some .int) [(0, 12, 15, 21), (0, 12, 19, 13), (0, 12, 23, 15)] rmL_addChild rmL_addChild.cells rmL_addChild.slots G h [.ref v0, .int v1, .int v2, .int v3, .ref v4] Qn := by
  obtain ⟨fs, hh, w⟩ := w
  refine gWi.of (by decide +kernel) hls (Nat.le_of_ble_eq_true rfl) (fun p e s m below meth c A X hT hN => ?_)
  show V p l e rmL_addChild s m _ below meth c _ G A 6 h 0 0 0 [(0, .ref v0), (1, .int v1), (2, .int v2), (3, .int v3), (4, .ref v4)] []
  refine V_aloadr X dL_addChild_0 4 rfl ?_
  refine V_iconst (y := 0) X dL_addChild_2 (by decide) ?_
  refine V_aloadr_n X dL_addChild_3 0 rfl ?_
  refine V_iload_n X dL_addChild_4 1 rfl ?_
  refine V_iload_n X dL_addChild_5 2 rfl ?_
  refine V_iload_n X dL_addChild_6 3 rfl ?_
  refine V_tryXi (As := [.int v1, .int v2, .int v3]) (rest := [.int 0, .ref v4]) (k1 := 3) (n1 := 76) X hT (cX11_addChild_ok X.2.2.2.2.2.2.2.2.1 w) lkL_39 hh (q9 := (RX11, TX11, 7)) rfl rfl dL_addChild_7 ⟨(Nat.le_of_ble_eq_true rfl), (Nat.le_of_ble_eq_true rfl)⟩ rfl (Nat.le_of_ble_eq_true rfl) ⟨(Nat.le_of_ble_eq_true rfl), (Nat.le_of_ble_eq_true rfl)⟩ (Nat.le_of_ble_eq_true rfl) (Nat.le_of_ble_eq_true rfl) (fun E9 h9 z9 => ?_) (fun x1 h1 w9 => ?_)
  · rcases z9 with ⟨rfl, w⟩ | ⟨rfl, w⟩ | ⟨rfl, w⟩
    · exact ⟨[], ⟨0, 12, 15, 21⟩, [⟨0, 12, 19, 13⟩, ⟨0, 12, 23, 15⟩], "java/lang/IndexOutOfBoundsException", rfl, (fun z hz => nomatch hz), by decide, by decide, kw_824, ku_839, fun q9 => by
        refine V_astore X dL_addChild_15 (by decide) rfl ?_
        refine V_iconst (y := 1) X dL_addChild_17 (by decide) ?_
        exact V.vx (V_iret X rfl dL_addChild_18 (Nat.le_of_ble_eq_true rfl) (Nat.le_of_ble_eq_true rfl) w)⟩
    · exact ⟨[⟨0, 12, 15, 21⟩], ⟨0, 12, 19, 13⟩, [⟨0, 12, 23, 15⟩], "java/lang/IllegalArgumentException", rfl, (List.forall_mem_cons.mpr ⟨Or.inr ⟨by decide, "java/lang/IndexOutOfBoundsException", kw_824, hN.1⟩, fun z hz => nomatch hz⟩), by decide, by decide, kw_731, ku_739, fun q9 => by
        refine V_astore X dL_addChild_19 (by decide) rfl ?_
        refine V_iconst (y := 2) X dL_addChild_21 (by decide) ?_
        exact V.vx (V_iret X rfl dL_addChild_22 (Nat.le_of_ble_eq_true rfl) (Nat.le_of_ble_eq_true rfl) w)⟩
    · exact ⟨[⟨0, 12, 15, 21⟩, ⟨0, 12, 19, 13⟩], ⟨0, 12, 23, 15⟩, [], "java/lang/IllegalStateException", rfl, (List.forall_mem_cons.mpr ⟨Or.inr ⟨by decide, "java/lang/IndexOutOfBoundsException", kw_824, hN.2.1⟩, List.forall_mem_cons.mpr ⟨Or.inr ⟨by decide, "java/lang/IllegalArgumentException", kw_731, hN.2.2⟩, fun z hz => nomatch hz⟩⟩), by decide, by decide, kw_732, ku_807, fun q9 => by
        refine V_astore X dL_addChild_23 (by decide) rfl ?_
        refine V_iconst (y := 3) X dL_addChild_25 (by decide) ?_
        exact V.vx (V_iret X rfl dL_addChild_26 (Nat.le_of_ble_eq_true rfl) (Nat.le_of_ble_eq_true rfl) w)⟩
  · refine V_i2l X dL_addChild_10 ?_
    obtain ⟨N9, g9, hh, hi, w⟩ := w9
    refine V_last X dL_addChild_11 hh hi ?_
    generalize va_up _ _ _ = h2 at w ⊢
    refine V_goto (tgt := 27) X dL_addChild_12 (by decide) ?_
    refine V_iconst (y := 0) X dL_addChild_27 (by decide) ?_
    exact V.vx (V_iret X rfl dL_addChild_28 (Nat.le_of_ble_eq_true rfl) (Nat.le_of_ble_eq_true rfl) w)
/-! AnimationControllerLaw.addState(LAnimationController;IIZI[J)I -/
abbrev rmL_addState : Room := { frames := 8, cells := 3, slots := 75, locals := 217 }
def vL_addState (t0 : Nat) (Qn : Int32 → gH → Prop) (h : gH) (v0 : Nat) (v1 : Int32) (v2 : Int32) (v3 : Int32) (v4 : Int32) (v5 : Nat) : Prop := io h v0 14 (vX11_addState t0 (fun x1 h1 => sl h1 v5 0 (Int32.toInt64 x1) (fun h2 => Qn 0 h2)) (fun E9 h9 => (E9 = "java/lang/IndexOutOfBoundsException" ∧ Qn 1 h9) ∨ (E9 = "java/lang/IllegalArgumentException" ∧ Qn 2 h9) ∨ (E9 = "java/lang/IllegalStateException" ∧ Qn 3 h9)) h v0 v1 v2 v3 v4)
set_option maxRecDepth 100000 in
set_option maxHeartbeats 4000000 in
theorem cL_addState_ok {l : Launch} {G : gG} {h : gH} (hls : l.stackTraces = false) {Qn : Int32 → gH → Prop} {v0 : Nat} {v1 : Int32} {v2 : Int32} {v3 : Int32} {v4 : Int32} {v5 : Nat} (w : vL_addState G.2.2.1 Qn h v0 v1 v2 v3 v4 v5) : gWi l yL_addState cL_addState 7 (some .int) [(0, 14, 17, 21), (0, 14, 21, 13), (0, 14, 25, 15)] rmL_addState rmL_addState.cells rmL_addState.slots G h [.ref v0, .int v1, .int v2, .int v3, .int v4, .ref v5] Qn := by
  obtain ⟨fs, hh, w⟩ := w
  refine gWi.of (by decide +kernel) hls (Nat.le_of_ble_eq_true rfl) (fun p e s m below meth c A X hT hN => ?_)
  show V p l e rmL_addState s m _ below meth c _ G A 7 h 0 0 0 [(0, .ref v0), (1, .int v1), (2, .int v2), (3, .int v3), (4, .int v4), (5, .ref v5)] []
  refine V_aloadr X dL_addState_0 5 rfl ?_
  refine V_iconst (y := 0) X dL_addState_2 (by decide) ?_
  refine V_aloadr_n X dL_addState_3 0 rfl ?_
  refine V_iload_n X dL_addState_4 1 rfl ?_
  refine V_iload_n X dL_addState_5 2 rfl ?_
  refine V_iload_n X dL_addState_6 3 rfl ?_
  refine V_iload X dL_addState_7 4 rfl ?_
  refine V_tryXi (As := [.int v1, .int v2, .int v3, .int v4]) (rest := [.int 0, .ref v5]) (k1 := 3) (n1 := 75) X hT (cX11_addState_ok X.2.2.2.2.2.2.2.2.1 w) lkL_42 hh (q9 := (RX11, TX11, 7)) rfl rfl dL_addState_9 ⟨(Nat.le_of_ble_eq_true rfl), (Nat.le_of_ble_eq_true rfl)⟩ rfl (Nat.le_of_ble_eq_true rfl) ⟨(Nat.le_of_ble_eq_true rfl), (Nat.le_of_ble_eq_true rfl)⟩ (Nat.le_of_ble_eq_true rfl) (Nat.le_of_ble_eq_true rfl) (fun E9 h9 z9 => ?_) (fun x1 h1 w9 => ?_)
  · rcases z9 with ⟨rfl, w⟩ | ⟨rfl, w⟩ | ⟨rfl, w⟩
    · exact ⟨[], ⟨0, 14, 17, 21⟩, [⟨0, 14, 21, 13⟩, ⟨0, 14, 25, 15⟩], "java/lang/IndexOutOfBoundsException", rfl, (fun z hz => nomatch hz), by decide, by decide, kw_824, ku_839, fun q9 => by
        refine V_astore X dL_addState_17 (by decide) rfl ?_
        refine V_iconst (y := 1) X dL_addState_19 (by decide) ?_
        exact V.vx (V_iret X rfl dL_addState_20 (Nat.le_of_ble_eq_true rfl) (Nat.le_of_ble_eq_true rfl) w)⟩
    · exact ⟨[⟨0, 14, 17, 21⟩], ⟨0, 14, 21, 13⟩, [⟨0, 14, 25, 15⟩], "java/lang/IllegalArgumentException", rfl, (List.forall_mem_cons.mpr ⟨Or.inr ⟨by decide, "java/lang/IndexOutOfBoundsException", kw_824, hN.1⟩, fun z hz => nomatch hz⟩), by decide, by decide, kw_731, ku_739, fun q9 => by
        refine V_astore X dL_addState_21 (by decide) rfl ?_
        refine V_iconst (y := 2) X dL_addState_23 (by decide) ?_
        exact V.vx (V_iret X rfl dL_addState_24 (Nat.le_of_ble_eq_true rfl) (Nat.le_of_ble_eq_true rfl) w)⟩
    · exact ⟨[⟨0, 14, 17, 21⟩, ⟨0, 14, 21, 13⟩], ⟨0, 14, 25, 15⟩, [], "java/lang/IllegalStateException", rfl, (List.forall_mem_cons.mpr ⟨Or.inr ⟨by decide, "java/lang/IndexOutOfBoundsException", kw_824, hN.2.1⟩, List.forall_mem_cons.mpr ⟨Or.inr ⟨by decide, "java/lang/IllegalArgumentException", kw_731, hN.2.2⟩, fun z hz => nomatch hz⟩⟩), by decide, by decide, kw_732, ku_807, fun q9 => by
        refine V_astore X dL_addState_25 (by decide) rfl ?_
        refine V_iconst (y := 3) X dL_addState_27 (by decide) ?_
        exact V.vx (V_iret X rfl dL_addState_28 (Nat.le_of_ble_eq_true rfl) (Nat.le_of_ble_eq_true rfl) w)⟩
  · refine V_i2l X dL_addState_12 ?_
    obtain ⟨N9, g9, hh, hi, w⟩ := w9
    refine V_last X dL_addState_13 hh hi ?_
    generalize va_up _ _ _ = h2 at w ⊢
    refine V_goto (tgt := 29) X dL_addState_14 (by decide) ?_
    refine V_iconst (y := 0) X dL_addState_29 (by decide) ?_
    exact V.vx (V_iret X rfl dL_addState_30 (Nat.le_of_ble_eq_true rfl) (Nat.le_of_ble_eq_true rfl) w)
/-! AnimationControllerLaw.addTransition(LAnimationController;III[J)I -/
abbrev rmL_addTransition : Room := { frames := 8, cells := 7, slots := 97, locals := 217 }
def vL_addTransition (t0 : Nat) (Qn : Int32 → gH → Prop) (h : gH) (v0 : Nat) (v1 : Int32) (v2 : Int32) (v3 : Int32) (v4 : Nat) : Prop := io h v0 14 (vX11_addTransition t0 (fun x1 h1 => sl h1 v4 0 (Int32.toInt64 x1) (fun h2 => Qn 0 h2)) (fun E9 h9 => (E9 = "java/lang/IndexOutOfBoundsException" ∧ Qn 1 h9) ∨ (E9 = "java/lang/IllegalArgumentException" ∧ Qn 2 h9) ∨ (E9 = "java/lang/IllegalStateException" ∧ Qn 3 h9)) h v0 v1 v2 v3)
set_option maxRecDepth 100000 in
set_option maxHeartbeats 4000000 in
theorem cL_addTransition_ok {l : Launch} {G : gG} {h : gH} (hls : l.stackTraces = false) {Qn : Int32 → gH → Prop} {v0 : Nat} {v1 : Int32} {v2 : Int32} {v3 : Int32} {v4 : Nat} (w : vL_addTransition G.2.2.1 Qn h v0 v1 v2 v3 v4) : gWi l yL_addTransition cL_addTransition 6 (some .int) [(0, 12, 15, 21), (0, 12, 19, 13), (0, 12, 23, 15)] rmL_addTransition rmL_addTransition.cells rmL_addTransition.slots G h [.ref v0, .int v1, .int v2, .int v3, .ref v4] Qn := by
  obtain ⟨fs, hh, w⟩ := w
  refine gWi.of (by decide +kernel) hls (Nat.le_of_ble_eq_true rfl) (fun p e s m below meth c A X hT hN => ?_)
  show V p l e rmL_addTransition s m _ below meth c _ G A 6 h 0 0 0 [(0, .ref v0), (1, .int v1), (2, .int v2), (3, .int v3), (4, .ref v4)] []
  refine V_aloadr X dL_addTransition_0 4 rfl ?_
  refine V_iconst (y := 0) X dL_addTransition_2 (by decide) ?_
  refine V_aloadr_n X dL_addTransition_3 0 rfl ?_
  refine V_iload_n X dL_addTransition_4 1 rfl ?_
  refine V_iload_n X dL_addTransition_5 2 rfl ?_
  refine V_iload_n X dL_addTransition_6 3 rfl ?_
  refine V_tryXi (As := [.int v1, .int v2, .int v3]) (rest := [.int 0, .ref v4]) (k1 := 7) (n1 := 97) X hT (cX11_addTransition_ok X.2.2.2.2.2.2.2.2.1 w) lkL_46 hh (q9 := (RX11, TX11, 7)) rfl rfl dL_addTransition_7 ⟨(Nat.le_of_ble_eq_true rfl), (Nat.le_of_ble_eq_true rfl)⟩ rfl (Nat.le_of_ble_eq_true rfl) ⟨(Nat.le_of_ble_eq_true rfl), (Nat.le_of_ble_eq_true rfl)⟩ (Nat.le_of_ble_eq_true rfl) (Nat.le_of_ble_eq_true rfl) (fun E9 h9 z9 => ?_) (fun x1 h1 w9 => ?_)
  · rcases z9 with ⟨rfl, w⟩ | ⟨rfl, w⟩ | ⟨rfl, w⟩
    · exact ⟨[], ⟨0, 12, 15, 21⟩, [⟨0, 12, 19, 13⟩, ⟨0, 12, 23, 15⟩], "java/lang/IndexOutOfBoundsException", rfl, (fun z hz => nomatch hz), by decide, by decide, kw_824, ku_839, fun q9 => by
        refine V_astore X dL_addTransition_15 (by decide) rfl ?_
        refine V_iconst (y := 1) X dL_addTransition_17 (by decide) ?_
        exact V.vx (V_iret X rfl dL_addTransition_18 (Nat.le_of_ble_eq_true rfl) (Nat.le_of_ble_eq_true rfl) w)⟩
    · exact ⟨[⟨0, 12, 15, 21⟩], ⟨0, 12, 19, 13⟩, [⟨0, 12, 23, 15⟩], "java/lang/IllegalArgumentException", rfl, (List.forall_mem_cons.mpr ⟨Or.inr ⟨by decide, "java/lang/IndexOutOfBoundsException", kw_824, hN.1⟩, fun z hz => nomatch hz⟩), by decide, by decide, kw_731, ku_739, fun q9 => by
        refine V_astore X dL_addTransition_19 (by decide) rfl ?_
        refine V_iconst (y := 2) X dL_addTransition_21 (by decide) ?_
        exact V.vx (V_iret X rfl dL_addTransition_22 (Nat.le_of_ble_eq_true rfl) (Nat.le_of_ble_eq_true rfl) w)⟩
    · exact ⟨[⟨0, 12, 15, 21⟩, ⟨0, 12, 19, 13⟩], ⟨0, 12, 23, 15⟩, [], "java/lang/IllegalStateException", rfl, (List.forall_mem_cons.mpr ⟨Or.inr ⟨by decide, "java/lang/IndexOutOfBoundsException", kw_824, hN.2.1⟩, List.forall_mem_cons.mpr ⟨Or.inr ⟨by decide, "java/lang/IllegalArgumentException", kw_731, hN.2.2⟩, fun z hz => nomatch hz⟩⟩), by decide, by decide, kw_732, ku_807, fun q9 => by
        refine V_astore X dL_addTransition_23 (by decide) rfl ?_
        refine V_iconst (y := 3) X dL_addTransition_25 (by decide) ?_
        exact V.vx (V_iret X rfl dL_addTransition_26 (Nat.le_of_ble_eq_true rfl) (Nat.le_of_ble_eq_true rfl) w)⟩
  · refine V_i2l X dL_addTransition_10 ?_
    obtain ⟨N9, g9, hh, hi, w⟩ := w9
    refine V_last X dL_addTransition_11 hh hi ?_
    generalize va_up _ _ _ = h2 at w ⊢
    refine V_goto (tgt := 27) X dL_addTransition_12 (by decide) ?_
    refine V_iconst (y := 0) X dL_addTransition_27 (by decide) ?_
    exact V.vx (V_iret X rfl dL_addTransition_28 (Nat.le_of_ble_eq_true rfl) (Nat.le_of_ble_eq_true rfl) w)
/-! AnimationControllerLaw.setTiming(LAnimationController;III[J)I -/
abbrev rmL_setTiming : Room := { frames := 8, cells := 2, slots := 12, locals := 136 }
def vL_setTiming (t0 : Nat) (Qn : Int32 → gH → Prop) (h : gH) (v0 : Nat) (v1 : Int32) (v2 : Int32) (v3 : Int32) (v4 : Nat) : Prop := io h v0 14 (vX11_setTiming t0 (fun x1 h1 => sl h1 v4 0 (Int32.toInt64 x1) (fun h2 => Qn 0 h2)) (fun E9 h9 => (E9 = "java/lang/IndexOutOfBoundsException" ∧ Qn 1 h9) ∨ (E9 = "java/lang/IllegalArgumentException" ∧ Qn 2 h9) ∨ (E9 = "java/lang/IllegalStateException" ∧ Qn 3 h9)) h v0 v1 v2 v3)
set_option maxRecDepth 100000 in
set_option maxHeartbeats 4000000 in
theorem cL_setTiming_ok {l : Launch} {G : gG} {h : gH} (hls : l.stackTraces = false) {Qn : Int32 → gH → Prop} {v0 : Nat} {v1 : Int32} {v2 : Int32} {v3 : Int32} {v4 : Nat} (w : vL_setTiming G.2.2.1 Qn h v0 v1 v2 v3 v4) : gWi l yL_setTiming cL_setTiming 6 (some .int) [(0, 12, 15, 21), (0, 12, 19, 13), (0, 12, 23, 15)] rmL_setTiming rmL_setTiming.cells rmL_setTiming.slots G h [.ref v0, .int v1, .int v2, .int v3, .ref v4] Qn := by
  obtain ⟨fs, hh, w⟩ := w
  refine gWi.of (by decide +kernel) hls (Nat.le_of_ble_eq_true rfl) (fun p e s m below meth c A X hT hN => ?_)
  show V p l e rmL_setTiming s m _ below meth c _ G A 6 h 0 0 0 [(0, .ref v0), (1, .int v1), (2, .int v2), (3, .int v3), (4, .ref v4)] []
  refine V_aloadr X dL_setTiming_0 4 rfl ?_
  refine V_iconst (y := 0) X dL_setTiming_2 (by decide) ?_
  refine V_aloadr_n X dL_setTiming_3 0 rfl ?_
  refine V_iload_n X dL_setTiming_4 1 rfl ?_
  refine V_iload_n X dL_setTiming_5 2 rfl ?_
  refine V_iload_n X dL_setTiming_6 3 rfl ?_
  refine V_tryXi (As := [.int v1, .int v2, .int v3]) (rest := [.int 0, .ref v4]) (k1 := 2) (n1 := 12) X hT (cX11_setTiming_ok X.2.2.2.2.2.2.2.2.1 w) lkL_49 hh (q9 := (RX11, TX11, 7)) rfl rfl dL_setTiming_7 ⟨(Nat.le_of_ble_eq_true rfl), (Nat.le_of_ble_eq_true rfl)⟩ rfl (Nat.le_of_ble_eq_true rfl) ⟨(Nat.le_of_ble_eq_true rfl), (Nat.le_of_ble_eq_true rfl)⟩ (Nat.le_of_ble_eq_true rfl) (Nat.le_of_ble_eq_true rfl) (fun E9 h9 z9 => ?_) (fun x1 h1 w9 => ?_)
  · rcases z9 with ⟨rfl, w⟩ | ⟨rfl, w⟩ | ⟨rfl, w⟩
    · exact ⟨[], ⟨0, 12, 15, 21⟩, [⟨0, 12, 19, 13⟩, ⟨0, 12, 23, 15⟩], "java/lang/IndexOutOfBoundsException", rfl, (fun z hz => nomatch hz), by decide, by decide, kw_824, ku_839, fun q9 => by
        refine V_astore X dL_setTiming_15 (by decide) rfl ?_
        refine V_iconst (y := 1) X dL_setTiming_17 (by decide) ?_
        exact V.vx (V_iret X rfl dL_setTiming_18 (Nat.le_of_ble_eq_true rfl) (Nat.le_of_ble_eq_true rfl) w)⟩
    · exact ⟨[⟨0, 12, 15, 21⟩], ⟨0, 12, 19, 13⟩, [⟨0, 12, 23, 15⟩], "java/lang/IllegalArgumentException", rfl, (List.forall_mem_cons.mpr ⟨Or.inr ⟨by decide, "java/lang/IndexOutOfBoundsException", kw_824, hN.1⟩, fun z hz => nomatch hz⟩), by decide, by decide, kw_731, ku_739, fun q9 => by
        refine V_astore X dL_setTiming_19 (by decide) rfl ?_
        refine V_iconst (y := 2) X dL_setTiming_21 (by decide) ?_
        exact V.vx (V_iret X rfl dL_setTiming_22 (Nat.le_of_ble_eq_true rfl) (Nat.le_of_ble_eq_true rfl) w)⟩
    · exact ⟨[⟨0, 12, 15, 21⟩, ⟨0, 12, 19, 13⟩], ⟨0, 12, 23, 15⟩, [], "java/lang/IllegalStateException", rfl, (List.forall_mem_cons.mpr ⟨Or.inr ⟨by decide, "java/lang/IndexOutOfBoundsException", kw_824, hN.2.1⟩, List.forall_mem_cons.mpr ⟨Or.inr ⟨by decide, "java/lang/IllegalArgumentException", kw_731, hN.2.2⟩, fun z hz => nomatch hz⟩⟩), by decide, by decide, kw_732, ku_807, fun q9 => by
        refine V_astore X dL_setTiming_23 (by decide) rfl ?_
        refine V_iconst (y := 3) X dL_setTiming_25 (by decide) ?_
        exact V.vx (V_iret X rfl dL_setTiming_26 (Nat.le_of_ble_eq_true rfl) (Nat.le_of_ble_eq_true rfl) w)⟩
  · refine V_i2l X dL_setTiming_10 ?_
    obtain ⟨N9, g9, hh, hi, w⟩ := w9
    refine V_last X dL_setTiming_11 hh hi ?_
    generalize va_up _ _ _ = h2 at w ⊢
    refine V_goto (tgt := 27) X dL_setTiming_12 (by decide) ?_
    refine V_iconst (y := 0) X dL_setTiming_27 (by decide) ?_
    exact V.vx (V_iret X rfl dL_setTiming_28 (Nat.le_of_ble_eq_true rfl) (Nat.le_of_ble_eq_true rfl) w)
/-! AnimationControllerLaw.setInterruption(LAnimationController;IIZ[J)I -/
abbrev rmL_setInterruption : Room := { frames := 8, cells := 2, slots := 12, locals := 136 }
def vL_setInterruption (t0 : Nat) (Qn : Int32 → gH → Prop) (h : gH) (v0 : Nat) (v1 : Int32) (v2 : Int32) (v3 : Int32) (v4 : Nat) : Prop := io h v0 14 (vX11_setInterruption t0 (fun x1 h1 => sl h1 v4 0 (Int32.toInt64 x1) (fun h2 => Qn 0 h2)) (fun E9 h9 => (E9 = "java/lang/IndexOutOfBoundsException" ∧ Qn 1 h9) ∨ (E9 = "java/lang/IllegalArgumentException" ∧ Qn 2 h9)) h v0 v1 v2 v3)
set_option maxRecDepth 100000 in
set_option maxHeartbeats 4000000 in
theorem cL_setInterruption_ok {l : Launch} {G : gG} {h : gH} (hls : l.stackTraces = false) {Qn : Int32 → gH → Prop} {v0 : Nat} {v1 : Int32} {v2 : Int32} {v3 : Int32} {v4 : Nat} (w : vL_setInterruption G.2.2.1 Qn h v0 v1 v2 v3 v4) : gWi l yL_setInterruption cL_setInterruption 6 (some .int) [(0, 12, 15, 21), (0, 12, 19, 13)] rmL_setInterruption rmL_setInterruption.cells rmL_setInterruption.slots G h [.ref v0, .int v1, .int v2, .int v3, .ref v4] Qn := by
  obtain ⟨fs, hh, w⟩ := w
  refine gWi.of (by decide +kernel) hls (Nat.le_of_ble_eq_true rfl) (fun p e s m below meth c A X hT hN => ?_)
  show V p l e rmL_setInterruption s m _ below meth c _ G A 6 h 0 0 0 [(0, .ref v0), (1, .int v1), (2, .int v2), (3, .int v3), (4, .ref v4)] []
  refine V_aloadr X dL_setInterruption_0 4 rfl ?_
  refine V_iconst (y := 0) X dL_setInterruption_2 (by decide) ?_
  refine V_aloadr_n X dL_setInterruption_3 0 rfl ?_
  refine V_iload_n X dL_setInterruption_4 1 rfl ?_
  refine V_iload_n X dL_setInterruption_5 2 rfl ?_
  refine V_iload_n X dL_setInterruption_6 3 rfl ?_
  refine V_tryXi (As := [.int v1, .int v2, .int v3]) (rest := [.int 0, .ref v4]) (k1 := 2) (n1 := 12) X hT (cX11_setInterruption_ok X.2.2.2.2.2.2.2.2.1 w) lkL_52 hh (q9 := (RX11, TX11, 7)) rfl rfl dL_setInterruption_7 ⟨(Nat.le_of_ble_eq_true rfl), (Nat.le_of_ble_eq_true rfl)⟩ rfl (Nat.le_of_ble_eq_true rfl) ⟨(Nat.le_of_ble_eq_true rfl), (Nat.le_of_ble_eq_true rfl)⟩ (Nat.le_of_ble_eq_true rfl) (Nat.le_of_ble_eq_true rfl) (fun E9 h9 z9 => ?_) (fun x1 h1 w9 => ?_)
  · rcases z9 with ⟨rfl, w⟩ | ⟨rfl, w⟩
    · exact ⟨[], ⟨0, 12, 15, 21⟩, [⟨0, 12, 19, 13⟩], "java/lang/IndexOutOfBoundsException", rfl, (fun z hz => nomatch hz), by decide, by decide, kw_824, ku_839, fun q9 => by
        refine V_astore X dL_setInterruption_15 (by decide) rfl ?_
        refine V_iconst (y := 1) X dL_setInterruption_17 (by decide) ?_
        exact V.vx (V_iret X rfl dL_setInterruption_18 (Nat.le_of_ble_eq_true rfl) (Nat.le_of_ble_eq_true rfl) w)⟩
    · exact ⟨[⟨0, 12, 15, 21⟩], ⟨0, 12, 19, 13⟩, [], "java/lang/IllegalArgumentException", rfl, (List.forall_mem_cons.mpr ⟨Or.inr ⟨by decide, "java/lang/IndexOutOfBoundsException", kw_824, hN.1⟩, fun z hz => nomatch hz⟩), by decide, by decide, kw_731, ku_739, fun q9 => by
        refine V_astore X dL_setInterruption_19 (by decide) rfl ?_
        refine V_iconst (y := 2) X dL_setInterruption_21 (by decide) ?_
        exact V.vx (V_iret X rfl dL_setInterruption_22 (Nat.le_of_ble_eq_true rfl) (Nat.le_of_ble_eq_true rfl) w)⟩
  · refine V_i2l X dL_setInterruption_10 ?_
    obtain ⟨N9, g9, hh, hi, w⟩ := w9
    refine V_last X dL_setInterruption_11 hh hi ?_
    generalize va_up _ _ _ = h2 at w ⊢
    refine V_goto (tgt := 23) X dL_setInterruption_12 (by decide) ?_
    refine V_iconst (y := 0) X dL_setInterruption_23 (by decide) ?_
    exact V.vx (V_iret X rfl dL_setInterruption_24 (Nat.le_of_ble_eq_true rfl) (Nat.le_of_ble_eq_true rfl) w)
/-! AnimationControllerLaw.addCondition(LAnimationController;IIII[J)I -/
abbrev rmL_addCondition : Room := { frames := 8, cells := 3, slots := 18, locals := 136 }
def vL_addCondition (t0 : Nat) (Qn : Int32 → gH → Prop) (h : gH) (v0 : Nat) (v1 : Int32) (v2 : Int32) (v3 : Int32) (v4 : Int32) (v5 : Nat) : Prop := io h v0 14 (vX11_addCondition t0 (fun x1 h1 => sl h1 v5 0 (Int32.toInt64 x1) (fun h2 => Qn 0 h2)) (fun E9 h9 => (E9 = "java/lang/IndexOutOfBoundsException" ∧ Qn 1 h9) ∨ (E9 = "java/lang/IllegalArgumentException" ∧ Qn 2 h9) ∨ (E9 = "java/lang/IllegalStateException" ∧ Qn 3 h9)) h v0 v1 v2 v3 v4)
set_option maxRecDepth 100000 in
set_option maxHeartbeats 4000000 in
theorem cL_addCondition_ok {l : Launch} {G : gG} {h : gH} (hls : l.stackTraces = false) {Qn : Int32 → gH → Prop} {v0 : Nat} {v1 : Int32} {v2 : Int32} {v3 : Int32} {v4 : Int32} {v5 : Nat} (w : vL_addCondition G.2.2.1 Qn h v0 v1 v2 v3 v4 v5) : gWi l yL_addCondition cL_addCondition 7 (some .int) [(0, 14, 17, 21), (0, 14, 21, 13), (0, 14, 25, 15)] rmL_addCondition rmL_addCondition.cells rmL_addCondition.slots G h [.ref v0, .int v1, .int v2, .int v3, .int v4, .ref v5] Qn := by
  obtain ⟨fs, hh, w⟩ := w
  refine gWi.of (by decide +kernel) hls (Nat.le_of_ble_eq_true rfl) (fun p e s m below meth c A X hT hN => ?_)
  show V p l e rmL_addCondition s m _ below meth c _ G A 7 h 0 0 0 [(0, .ref v0), (1, .int v1), (2, .int v2), (3, .int v3), (4, .int v4), (5, .ref v5)] []
  refine V_aloadr X dL_addCondition_0 5 rfl ?_
  refine V_iconst (y := 0) X dL_addCondition_2 (by decide) ?_
  refine V_aloadr_n X dL_addCondition_3 0 rfl ?_
  refine V_iload_n X dL_addCondition_4 1 rfl ?_
  refine V_iload_n X dL_addCondition_5 2 rfl ?_
  refine V_iload_n X dL_addCondition_6 3 rfl ?_
  refine V_iload X dL_addCondition_7 4 rfl ?_
  refine V_tryXi (As := [.int v1, .int v2, .int v3, .int v4]) (rest := [.int 0, .ref v5]) (k1 := 3) (n1 := 18) X hT (cX11_addCondition_ok X.2.2.2.2.2.2.2.2.1 w) lkL_56 hh (q9 := (RX11, TX11, 7)) rfl rfl dL_addCondition_9 ⟨(Nat.le_of_ble_eq_true rfl), (Nat.le_of_ble_eq_true rfl)⟩ rfl (Nat.le_of_ble_eq_true rfl) ⟨(Nat.le_of_ble_eq_true rfl), (Nat.le_of_ble_eq_true rfl)⟩ (Nat.le_of_ble_eq_true rfl) (Nat.le_of_ble_eq_true rfl) (fun E9 h9 z9 => ?_) (fun x1 h1 w9 => ?_)
  · rcases z9 with ⟨rfl, w⟩ | ⟨rfl, w⟩ | ⟨rfl, w⟩
    · exact ⟨[], ⟨0, 14, 17, 21⟩, [⟨0, 14, 21, 13⟩, ⟨0, 14, 25, 15⟩], "java/lang/IndexOutOfBoundsException", rfl, (fun z hz => nomatch hz), by decide, by decide, kw_824, ku_839, fun q9 => by
        refine V_astore X dL_addCondition_17 (by decide) rfl ?_
        refine V_iconst (y := 1) X dL_addCondition_19 (by decide) ?_
        exact V.vx (V_iret X rfl dL_addCondition_20 (Nat.le_of_ble_eq_true rfl) (Nat.le_of_ble_eq_true rfl) w)⟩
    · exact ⟨[⟨0, 14, 17, 21⟩], ⟨0, 14, 21, 13⟩, [⟨0, 14, 25, 15⟩], "java/lang/IllegalArgumentException", rfl, (List.forall_mem_cons.mpr ⟨Or.inr ⟨by decide, "java/lang/IndexOutOfBoundsException", kw_824, hN.1⟩, fun z hz => nomatch hz⟩), by decide, by decide, kw_731, ku_739, fun q9 => by
        refine V_astore X dL_addCondition_21 (by decide) rfl ?_
        refine V_iconst (y := 2) X dL_addCondition_23 (by decide) ?_
        exact V.vx (V_iret X rfl dL_addCondition_24 (Nat.le_of_ble_eq_true rfl) (Nat.le_of_ble_eq_true rfl) w)⟩
    · exact ⟨[⟨0, 14, 17, 21⟩, ⟨0, 14, 21, 13⟩], ⟨0, 14, 25, 15⟩, [], "java/lang/IllegalStateException", rfl, (List.forall_mem_cons.mpr ⟨Or.inr ⟨by decide, "java/lang/IndexOutOfBoundsException", kw_824, hN.2.1⟩, List.forall_mem_cons.mpr ⟨Or.inr ⟨by decide, "java/lang/IllegalArgumentException", kw_731, hN.2.2⟩, fun z hz => nomatch hz⟩⟩), by decide, by decide, kw_732, ku_807, fun q9 => by
        refine V_astore X dL_addCondition_25 (by decide) rfl ?_
        refine V_iconst (y := 3) X dL_addCondition_27 (by decide) ?_
        exact V.vx (V_iret X rfl dL_addCondition_28 (Nat.le_of_ble_eq_true rfl) (Nat.le_of_ble_eq_true rfl) w)⟩
  · refine V_i2l X dL_addCondition_12 ?_
    obtain ⟨N9, g9, hh, hi, w⟩ := w9
    refine V_last X dL_addCondition_13 hh hi ?_
    generalize va_up _ _ _ = h2 at w ⊢
    refine V_goto (tgt := 29) X dL_addCondition_14 (by decide) ?_
    refine V_iconst (y := 0) X dL_addCondition_29 (by decide) ?_
    exact V.vx (V_iret X rfl dL_addCondition_30 (Nat.le_of_ble_eq_true rfl) (Nat.le_of_ble_eq_true rfl) w)
/-! AnimationControllerLaw.setThreshold(LAnimationController;I[J)I -/
abbrev rmL_setThreshold : Room := { frames := 7, cells := 1, slots := 6, locals := 112 }
def vL_setThreshold (t0 : Nat) (Qn : Int32 → gH → Prop) (h : gH) (v0 : Nat) (v1 : Int32) (v2 : Nat) : Prop := io h v0 14 (vX11_setThreshold t0 (fun x1 h1 => sl h1 v2 0 (Int32.toInt64 x1) (fun h2 => Qn 0 h2)) (fun E9 h9 => (E9 = "java/lang/IllegalArgumentException" ∧ Qn 1 h9)) h v0 v1)
set_option maxRecDepth 100000 in
set_option maxHeartbeats 4000000 in
theorem cL_setThreshold_ok {l : Launch} {G : gG} {h : gH} (hls : l.stackTraces = false) {Qn : Int32 → gH → Prop} {v0 : Nat} {v1 : Int32} {v2 : Nat} (w : vL_setThreshold G.2.2.1 Qn h v0 v1 v2) : gWi l yL_setThreshold cL_setThreshold 4 (some .int) [(0, 9, 12, 13)] rmL_setThreshold rmL_setThreshold.cells rmL_setThreshold.slots G h [.ref v0, .int v1, .ref v2] Qn := by
  obtain ⟨fs, hh, w⟩ := w
  refine gWi.of (by decide +kernel) hls (Nat.le_of_ble_eq_true rfl) (fun p e s m below meth c A X hT hN => ?_)
  show V p l e rmL_setThreshold s m _ below meth c _ G A 4 h 0 0 0 [(0, .ref v0), (1, .int v1), (2, .ref v2)] []
  refine V_aloadr_n X dL_setThreshold_0 2 rfl ?_
  refine V_iconst (y := 0) X dL_setThreshold_1 (by decide) ?_
  refine V_aloadr_n X dL_setThreshold_2 0 rfl ?_
  refine V_iload_n X dL_setThreshold_3 1 rfl ?_
  refine V_tryXi (As := [.int v1]) (rest := [.int 0, .ref v2]) (k1 := 1) (n1 := 6) X hT (cX11_setThreshold_ok X.2.2.2.2.2.2.2.2.1 w) lkL_60 hh (q9 := (RX11, TX11, 7)) rfl rfl dL_setThreshold_4 ⟨(Nat.le_of_ble_eq_true rfl), (Nat.le_of_ble_eq_true rfl)⟩ rfl (Nat.le_of_ble_eq_true rfl) ⟨(Nat.le_of_ble_eq_true rfl), (Nat.le_of_ble_eq_true rfl)⟩ (Nat.le_of_ble_eq_true rfl) (Nat.le_of_ble_eq_true rfl) (fun E9 h9 z9 => ?_) (fun x1 h1 w9 => ?_)
  · obtain ⟨rfl, w⟩ := z9
    exact ⟨[], ⟨0, 9, 12, 13⟩, [], "java/lang/IllegalArgumentException", rfl, (fun z hz => nomatch hz), by decide, by decide, kw_731, ku_739, fun q9 => by
        refine V_astore_n (i0 := 3) X dL_setThreshold_12 rfl (by decide) rfl ?_
        refine V_iconst (y := 1) X dL_setThreshold_13 (by decide) ?_
        exact V.vx (V_iret X rfl dL_setThreshold_14 (Nat.le_of_ble_eq_true rfl) (Nat.le_of_ble_eq_true rfl) w)⟩
  · refine V_i2l X dL_setThreshold_7 ?_
    obtain ⟨N9, g9, hh, hi, w⟩ := w9
    refine V_last X dL_setThreshold_8 hh hi ?_
    generalize va_up _ _ _ = h2 at w ⊢
    refine V_goto (tgt := 15) X dL_setThreshold_9 (by decide) ?_
    refine V_iconst (y := 0) X dL_setThreshold_15 (by decide) ?_
    exact V.vx (V_iret X rfl dL_setThreshold_16 (Nat.le_of_ble_eq_true rfl) (Nat.le_of_ble_eq_true rfl) w)
/-! AnimationControllerLaw.type(LAnimationController;I[J)I -/
abbrev rmL_type : Room := { frames := 7, cells := 1, slots := 6, locals := 111 }
def vL_type (t0 : Nat) (Qn : Int32 → gH → Prop) (h : gH) (v0 : Nat) (v1 : Int32) (v2 : Nat) : Prop := io h v0 14 (vX11_type t0 (fun x1 h1 => sl h1 v2 0 (Int32.toInt64 x1) (fun h2 => Qn 0 h2)) (fun E9 h9 => (E9 = "java/lang/IllegalArgumentException" ∧ Qn 1 h9) ∨ (E9 = "java/lang/IllegalStateException" ∧ Qn 2 h9)) h v0 v1)
set_option maxRecDepth 100000 in
set_option maxHeartbeats 4000000 in
theorem cL_type_ok {l : Launch} {G : gG} {h : gH} (hls : l.stackTraces = false) {Qn : Int32 → gH → Prop} {v0 : Nat} {v1 : Int32} {v2 : Nat} (w : vL_type G.2.2.1 Qn h v0 v1 v2) : gWi l yL_type cL_type 4 (some .int) [(0, 9, 12, 13), (0, 9, 15, 15)] rmL_type rmL_type.cells rmL_type.slots G h [.ref v0, .int v1, .ref v2] Qn := by
  obtain ⟨fs, hh, w⟩ := w
  refine gWi.of (by decide +kernel) hls (Nat.le_of_ble_eq_true rfl) (fun p e s m below meth c A X hT hN => ?_)
  show V p l e rmL_type s m _ below meth c _ G A 4 h 0 0 0 [(0, .ref v0), (1, .int v1), (2, .ref v2)] []
  refine V_aloadr_n X dL_type_0 2 rfl ?_
  refine V_iconst (y := 0) X dL_type_1 (by decide) ?_
  refine V_aloadr_n X dL_type_2 0 rfl ?_
  refine V_iload_n X dL_type_3 1 rfl ?_
  refine V_tryXi (As := [.int v1]) (rest := [.int 0, .ref v2]) (k1 := 1) (n1 := 6) X hT (cX11_type_ok X.2.2.2.2.2.2.2.2.1 w) lkL_63 hh (q9 := (RX11, TX11, 7)) rfl rfl dL_type_4 ⟨(Nat.le_of_ble_eq_true rfl), (Nat.le_of_ble_eq_true rfl)⟩ rfl (Nat.le_of_ble_eq_true rfl) ⟨(Nat.le_of_ble_eq_true rfl), (Nat.le_of_ble_eq_true rfl)⟩ (Nat.le_of_ble_eq_true rfl) (Nat.le_of_ble_eq_true rfl) (fun E9 h9 z9 => ?_) (fun x1 h1 w9 => ?_)
  · rcases z9 with ⟨rfl, w⟩ | ⟨rfl, w⟩
    · exact ⟨[], ⟨0, 9, 12, 13⟩, [⟨0, 9, 15, 15⟩], "java/lang/IllegalArgumentException", rfl, (fun z hz => nomatch hz), by decide, by decide, kw_731, ku_739, fun q9 => by
        refine V_astore_n (i0 := 3) X dL_type_12 rfl (by decide) rfl ?_
        refine V_iconst (y := 1) X dL_type_13 (by decide) ?_
        exact V.vx (V_iret X rfl dL_type_14 (Nat.le_of_ble_eq_true rfl) (Nat.le_of_ble_eq_true rfl) w)⟩
    · exact ⟨[⟨0, 9, 12, 13⟩], ⟨0, 9, 15, 15⟩, [], "java/lang/IllegalStateException", rfl, (List.forall_mem_cons.mpr ⟨Or.inr ⟨by decide, "java/lang/IllegalArgumentException", kw_731, hN.2.2⟩, fun z hz => nomatch hz⟩), by decide, by decide, kw_732, ku_807, fun q9 => by
        refine V_astore_n (i0 := 3) X dL_type_15 rfl (by decide) rfl ?_
        refine V_iconst (y := 2) X dL_type_16 (by decide) ?_
        exact V.vx (V_iret X rfl dL_type_17 (Nat.le_of_ble_eq_true rfl) (Nat.le_of_ble_eq_true rfl) w)⟩
  · refine V_i2l X dL_type_7 ?_
    obtain ⟨N9, g9, hh, hi, w⟩ := w9
    refine V_last X dL_type_8 hh hi ?_
    generalize va_up _ _ _ = h2 at w ⊢
    refine V_goto (tgt := 18) X dL_type_9 (by decide) ?_
    refine V_iconst (y := 0) X dL_type_18 (by decide) ?_
    exact V.vx (V_iret X rfl dL_type_19 (Nat.le_of_ble_eq_true rfl) (Nat.le_of_ble_eq_true rfl) w)
/-! AnimationControllerLaw.load(LAnimationController;[J)I -/
abbrev rmL_load : Room := { frames := 10, cells := 250, slots := 4250, locals := 257 }
def vL_load (t0 : Nat) (Qn : Int32 → gH → Prop) (h : gH) (v0 : Nat) (v1 : Nat) : Prop := io h v0 14 (vX11_load t0 (fun x1 h1 => sl h1 v1 0 (Int32.toInt64 x1) (fun h2 => Qn 0 h2)) (fun E9 h9 => (E9 = "java/lang/IllegalStateException" ∧ Qn 1 h9)) h v0 )
set_option maxRecDepth 100000 in
set_option maxHeartbeats 4000000 in
theorem cL_load_ok {l : Launch} {G : gG} {h : gH} (hls : l.stackTraces = false) {Qn : Int32 → gH → Prop} {v0 : Nat} {v1 : Nat} (w : vL_load G.2.2.1 Qn h v0 v1) : gWi l yL_load cL_load 3 (some .int) [(0, 8, 11, 15)] rmL_load rmL_load.cells rmL_load.slots G h [.ref v0, .ref v1] Qn := by
  obtain ⟨fs, hh, w⟩ := w
  refine gWi.of (by decide +kernel) hls (Nat.le_of_ble_eq_true rfl) (fun p e s m below meth c A X hT hN => ?_)
  show V p l e rmL_load s m _ below meth c _ G A 3 h 0 0 0 [(0, .ref v0), (1, .ref v1)] []
  refine V_aloadr_n X dL_load_0 1 rfl ?_
  refine V_iconst (y := 0) X dL_load_1 (by decide) ?_
  refine V_aloadr_n X dL_load_2 0 rfl ?_
  refine V_tryXi (As := []) (rest := [.int 0, .ref v1]) (k1 := 250) (n1 := 4250) X hT (cX11_load_ok X.2.2.2.2.2.2.2.2.1 w) lkL_66 hh (q9 := (RX11, TX11, 7)) rfl rfl dL_load_3 ⟨(Nat.le_of_ble_eq_true rfl), (Nat.le_of_ble_eq_true rfl)⟩ rfl (Nat.le_of_ble_eq_true rfl) ⟨(Nat.le_of_ble_eq_true rfl), (Nat.le_of_ble_eq_true rfl)⟩ (Nat.le_of_ble_eq_true rfl) (Nat.le_of_ble_eq_true rfl) (fun E9 h9 z9 => ?_) (fun x1 h1 w9 => ?_)
  · obtain ⟨rfl, w⟩ := z9
    exact ⟨[], ⟨0, 8, 11, 15⟩, [], "java/lang/IllegalStateException", rfl, (fun z hz => nomatch hz), by decide, by decide, kw_732, ku_807, fun q9 => by
        refine V_astore_n (i0 := 2) X dL_load_11 rfl (by decide) rfl ?_
        refine V_iconst (y := 1) X dL_load_12 (by decide) ?_
        exact V.vx (V_iret X rfl dL_load_13 (Nat.le_of_ble_eq_true rfl) (Nat.le_of_ble_eq_true rfl) w)⟩
  · refine V_i2l X dL_load_6 ?_
    obtain ⟨N9, g9, hh, hi, w⟩ := w9
    refine V_last X dL_load_7 hh hi ?_
    generalize va_up _ _ _ = h2 at w ⊢
    refine V_goto (tgt := 14) X dL_load_8 (by decide) ?_
    refine V_iconst (y := 0) X dL_load_14 (by decide) ?_
    exact V.vx (V_iret X rfl dL_load_15 (Nat.le_of_ble_eq_true rfl) (Nat.le_of_ble_eq_true rfl) w)
/-! AnimationControllerLaw.tick(LAnimationController;I[J)I -/
abbrev rmL_tick : Room := { frames := 14, cells := 2, slots := 12, locals := 348 }
def vL_tick (t0 : Nat) (Qn : Int32 → gH → Prop) (h : gH) (v0 : Nat) (v1 : Int32) (v2 : Nat) : Prop := io h v0 14 (vX11_tick t0 (fun x1 h1 => sl h1 v2 0 (Int32.toInt64 x1) (fun h2 => Qn 0 h2)) (fun E9 h9 => (E9 = "java/lang/IllegalArgumentException" ∧ Qn 1 h9) ∨ (E9 = "java/lang/IllegalStateException" ∧ Qn 2 h9)) h v0 v1)
set_option maxRecDepth 100000 in
set_option maxHeartbeats 4000000 in
theorem cL_tick_ok {l : Launch} {G : gG} {h : gH} (hls : l.stackTraces = false) {Qn : Int32 → gH → Prop} {v0 : Nat} {v1 : Int32} {v2 : Nat} (w : vL_tick G.2.2.1 Qn h v0 v1 v2) : gWi l yL_tick cL_tick 4 (some .int) [(0, 9, 12, 13), (0, 9, 15, 15)] rmL_tick rmL_tick.cells rmL_tick.slots G h [.ref v0, .int v1, .ref v2] Qn := by
  obtain ⟨fs, hh, w⟩ := w
  refine gWi.of (by decide +kernel) hls (Nat.le_of_ble_eq_true rfl) (fun p e s m below meth c A X hT hN => ?_)
  show V p l e rmL_tick s m _ below meth c _ G A 4 h 0 0 0 [(0, .ref v0), (1, .int v1), (2, .ref v2)] []
  refine V_aloadr_n X dL_tick_0 2 rfl ?_
  refine V_iconst (y := 0) X dL_tick_1 (by decide) ?_
  refine V_aloadr_n X dL_tick_2 0 rfl ?_
  refine V_iload_n X dL_tick_3 1 rfl ?_
  refine V_tryXi (As := [.int v1]) (rest := [.int 0, .ref v2]) (k1 := 2) (n1 := 12) X hT (cX11_tick_ok X.2.2.2.2.2.2.2.2.1 w) lkL_70 hh (q9 := (RX11, TX11, 7)) rfl rfl dL_tick_4 ⟨(Nat.le_of_ble_eq_true rfl), (Nat.le_of_ble_eq_true rfl)⟩ rfl (Nat.le_of_ble_eq_true rfl) ⟨(Nat.le_of_ble_eq_true rfl), (Nat.le_of_ble_eq_true rfl)⟩ (Nat.le_of_ble_eq_true rfl) (Nat.le_of_ble_eq_true rfl) (fun E9 h9 z9 => ?_) (fun x1 h1 w9 => ?_)
  · rcases z9 with ⟨rfl, w⟩ | ⟨rfl, w⟩
    · exact ⟨[], ⟨0, 9, 12, 13⟩, [⟨0, 9, 15, 15⟩], "java/lang/IllegalArgumentException", rfl, (fun z hz => nomatch hz), by decide, by decide, kw_731, ku_739, fun q9 => by
        refine V_astore_n (i0 := 3) X dL_tick_12 rfl (by decide) rfl ?_
        refine V_iconst (y := 1) X dL_tick_13 (by decide) ?_
        exact V.vx (V_iret X rfl dL_tick_14 (Nat.le_of_ble_eq_true rfl) (Nat.le_of_ble_eq_true rfl) w)⟩
    · exact ⟨[⟨0, 9, 12, 13⟩], ⟨0, 9, 15, 15⟩, [], "java/lang/IllegalStateException", rfl, (List.forall_mem_cons.mpr ⟨Or.inr ⟨by decide, "java/lang/IllegalArgumentException", kw_731, hN.2.2⟩, fun z hz => nomatch hz⟩), by decide, by decide, kw_732, ku_807, fun q9 => by
        refine V_astore_n (i0 := 3) X dL_tick_15 rfl (by decide) rfl ?_
        refine V_iconst (y := 2) X dL_tick_16 (by decide) ?_
        exact V.vx (V_iret X rfl dL_tick_17 (Nat.le_of_ble_eq_true rfl) (Nat.le_of_ble_eq_true rfl) w)⟩
  · refine V_i2l X dL_tick_7 ?_
    obtain ⟨N9, g9, hh, hi, w⟩ := w9
    refine V_last X dL_tick_8 hh hi ?_
    generalize va_up _ _ _ = h2 at w ⊢
    refine V_goto (tgt := 18) X dL_tick_9 (by decide) ?_
    refine V_iconst (y := 0) X dL_tick_18 (by decide) ?_
    exact V.vx (V_iret X rfl dL_tick_19 (Nat.le_of_ble_eq_true rfl) (Nat.le_of_ble_eq_true rfl) w)
/-! AnimationControllerLaw.state(LAnimationController;[J)I -/
abbrev rmL_state : Room := { frames := 8, cells := 1, slots := 6, locals := 130 }
def vL_state (t0 : Nat) (Qn : Int32 → gH → Prop) (h : gH) (v0 : Nat) (v1 : Nat) : Prop := io h v0 14 (vX11_state t0 (fun x1 h1 => sl h1 v1 0 (Int32.toInt64 x1) (fun h2 => Qn 0 h2)) (fun E9 h9 => (E9 = "java/lang/IllegalStateException" ∧ Qn 1 h9)) h v0 )
set_option maxRecDepth 100000 in
set_option maxHeartbeats 4000000 in
theorem cL_state_ok {l : Launch} {G : gG} {h : gH} (hls : l.stackTraces = false) {Qn : Int32 → gH → Prop} {v0 : Nat} {v1 : Nat} (w : vL_state G.2.2.1 Qn h v0 v1) : gWi l yL_state cL_state 3 (some .int) [(0, 8, 11, 15)] rmL_state rmL_state.cells rmL_state.slots G h [.ref v0, .ref v1] Qn := by
  obtain ⟨fs, hh, w⟩ := w
  refine gWi.of (by decide +kernel) hls (Nat.le_of_ble_eq_true rfl) (fun p e s m below meth c A X hT hN => ?_)
  show V p l e rmL_state s m _ below meth c _ G A 3 h 0 0 0 [(0, .ref v0), (1, .ref v1)] []
  refine V_aloadr_n X dL_state_0 1 rfl ?_
  refine V_iconst (y := 0) X dL_state_1 (by decide) ?_
  refine V_aloadr_n X dL_state_2 0 rfl ?_
  refine V_tryXi (As := []) (rest := [.int 0, .ref v1]) (k1 := 1) (n1 := 6) X hT (cX11_state_ok X.2.2.2.2.2.2.2.2.1 w) lkL_73 hh (q9 := (RX11, TX11, 7)) rfl rfl dL_state_3 ⟨(Nat.le_of_ble_eq_true rfl), (Nat.le_of_ble_eq_true rfl)⟩ rfl (Nat.le_of_ble_eq_true rfl) ⟨(Nat.le_of_ble_eq_true rfl), (Nat.le_of_ble_eq_true rfl)⟩ (Nat.le_of_ble_eq_true rfl) (Nat.le_of_ble_eq_true rfl) (fun E9 h9 z9 => ?_) (fun x1 h1 w9 => ?_)
  · obtain ⟨rfl, w⟩ := z9
    exact ⟨[], ⟨0, 8, 11, 15⟩, [], "java/lang/IllegalStateException", rfl, (fun z hz => nomatch hz), by decide, by decide, kw_732, ku_807, fun q9 => by
        refine V_astore_n (i0 := 2) X dL_state_11 rfl (by decide) rfl ?_
        refine V_iconst (y := 1) X dL_state_12 (by decide) ?_
        exact V.vx (V_iret X rfl dL_state_13 (Nat.le_of_ble_eq_true rfl) (Nat.le_of_ble_eq_true rfl) w)⟩
  · refine V_i2l X dL_state_6 ?_
    obtain ⟨N9, g9, hh, hi, w⟩ := w9
    refine V_last X dL_state_7 hh hi ?_
    generalize va_up _ _ _ = h2 at w ⊢
    refine V_goto (tgt := 14) X dL_state_8 (by decide) ?_
    refine V_iconst (y := 0) X dL_state_14 (by decide) ?_
    exact V.vx (V_iret X rfl dL_state_15 (Nat.le_of_ble_eq_true rfl) (Nat.le_of_ble_eq_true rfl) w)
/-! AnimationControllerLaw.progress(LAnimationController;Z[J)I -/
abbrev rmL_progress : Room := { frames := 8, cells := 2, slots := 12, locals := 131 }
def vL_progress (t0 : Nat) (Qn : Int32 → gH → Prop) (h : gH) (v0 : Nat) (v1 : Int32) (v2 : Nat) : Prop := io h v0 14 (vX11_progress t0 (fun x1 h1 => sl h1 v2 0 x1 (fun h2 => Qn 0 h2)) (fun E9 h9 => (E9 = "java/lang/IllegalStateException" ∧ Qn 1 h9)) h v0 v1)
set_option maxRecDepth 100000 in
set_option maxHeartbeats 4000000 in
theorem cL_progress_ok {l : Launch} {G : gG} {h : gH} (hls : l.stackTraces = false) {Qn : Int32 → gH → Prop} {v0 : Nat} {v1 : Int32} {v2 : Nat} (w : vL_progress G.2.2.1 Qn h v0 v1 v2) : gWi l yL_progress cL_progress 4 (some .int) [(0, 8, 11, 15)] rmL_progress rmL_progress.cells rmL_progress.slots G h [.ref v0, .int v1, .ref v2] Qn := by
  obtain ⟨fs, hh, w⟩ := w
  refine gWi.of (by decide +kernel) hls (Nat.le_of_ble_eq_true rfl) (fun p e s m below meth c A X hT hN => ?_)
  show V p l e rmL_progress s m _ below meth c _ G A 4 h 0 0 0 [(0, .ref v0), (1, .int v1), (2, .ref v2)] []
  refine V_aloadr_n X dL_progress_0 2 rfl ?_
  refine V_iconst (y := 0) X dL_progress_1 (by decide) ?_
  refine V_aloadr_n X dL_progress_2 0 rfl ?_
  refine V_iload_n X dL_progress_3 1 rfl ?_
  refine V_tryXl (As := [.int v1]) (rest := [.int 0, .ref v2]) (k1 := 2) (n1 := 12) X hT (cX11_progress_ok X.2.2.2.2.2.2.2.2.1 w) lkL_76 hh (q9 := (RX11, TX11, 7)) rfl rfl dL_progress_4 ⟨(Nat.le_of_ble_eq_true rfl), (Nat.le_of_ble_eq_true rfl)⟩ rfl (Nat.le_of_ble_eq_true rfl) ⟨(Nat.le_of_ble_eq_true rfl), (Nat.le_of_ble_eq_true rfl)⟩ (Nat.le_of_ble_eq_true rfl) (Nat.le_of_ble_eq_true rfl) (fun E9 h9 z9 => ?_) (fun x1 h1 w9 => ?_)
  · obtain ⟨rfl, w⟩ := z9
    exact ⟨[], ⟨0, 8, 11, 15⟩, [], "java/lang/IllegalStateException", rfl, (fun z hz => nomatch hz), by decide, by decide, kw_732, ku_807, fun q9 => by
        refine V_astore_n (i0 := 3) X dL_progress_11 rfl (by decide) rfl ?_
        refine V_iconst (y := 1) X dL_progress_12 (by decide) ?_
        exact V.vx (V_iret X rfl dL_progress_13 (Nat.le_of_ble_eq_true rfl) (Nat.le_of_ble_eq_true rfl) w)⟩
  · obtain ⟨N9, g9, hh, hi, w⟩ := w9
    refine V_last X dL_progress_7 hh hi ?_
    generalize va_up _ _ _ = h2 at w ⊢
    refine V_goto (tgt := 14) X dL_progress_8 (by decide) ?_
    refine V_iconst (y := 0) X dL_progress_14 (by decide) ?_
    exact V.vx (V_iret X rfl dL_progress_15 (Nat.le_of_ble_eq_true rfl) (Nat.le_of_ble_eq_true rfl) w)
/-! AnimationControllerLaw.stateLength(LAnimationController;I[J)I -/
abbrev rmL_stateLength : Room := { frames := 11, cells := 1, slots := 6, locals := 278 }
def vL_stateLength (t0 : Nat) (Qn : Int32 → gH → Prop) (h : gH) (v0 : Nat) (v1 : Int32) (v2 : Nat) : Prop := io h v0 14 (vX11_stateLength t0 (fun x1 h1 => sl h1 v2 0 (Int32.toInt64 x1) (fun h2 => Qn 0 h2)) (fun E9 h9 => (E9 = "java/lang/IndexOutOfBoundsException" ∧ Qn 1 h9)) h v0 v1)
set_option maxRecDepth 100000 in
set_option maxHeartbeats 4000000 in
theorem cL_stateLength_ok {l : Launch} {G : gG} {h : gH} (hls : l.stackTraces = false) {Qn : Int32 → gH → Prop} {v0 : Nat} {v1 : Int32} {v2 : Nat} (w : vL_stateLength G.2.2.1 Qn h v0 v1 v2) : gWi l yL_stateLength cL_stateLength 4 (some .int) [(0, 9, 12, 21)] rmL_stateLength rmL_stateLength.cells rmL_stateLength.slots G h [.ref v0, .int v1, .ref v2] Qn := by
  obtain ⟨fs, hh, w⟩ := w
  refine gWi.of (by decide +kernel) hls (Nat.le_of_ble_eq_true rfl) (fun p e s m below meth c A X hT hN => ?_)
  show V p l e rmL_stateLength s m _ below meth c _ G A 4 h 0 0 0 [(0, .ref v0), (1, .int v1), (2, .ref v2)] []
  refine V_aloadr_n X dL_stateLength_0 2 rfl ?_
  refine V_iconst (y := 0) X dL_stateLength_1 (by decide) ?_
  refine V_aloadr_n X dL_stateLength_2 0 rfl ?_
  refine V_iload_n X dL_stateLength_3 1 rfl ?_
  refine V_tryXi (As := [.int v1]) (rest := [.int 0, .ref v2]) (k1 := 1) (n1 := 6) X hT (cX11_stateLength_ok X.2.2.2.2.2.2.2.2.1 w) lkL_80 hh (q9 := (RX11, TX11, 7)) rfl rfl dL_stateLength_4 ⟨(Nat.le_of_ble_eq_true rfl), (Nat.le_of_ble_eq_true rfl)⟩ rfl (Nat.le_of_ble_eq_true rfl) ⟨(Nat.le_of_ble_eq_true rfl), (Nat.le_of_ble_eq_true rfl)⟩ (Nat.le_of_ble_eq_true rfl) (Nat.le_of_ble_eq_true rfl) (fun E9 h9 z9 => ?_) (fun x1 h1 w9 => ?_)
  · obtain ⟨rfl, w⟩ := z9
    exact ⟨[], ⟨0, 9, 12, 21⟩, [], "java/lang/IndexOutOfBoundsException", rfl, (fun z hz => nomatch hz), by decide, by decide, kw_824, ku_839, fun q9 => by
        refine V_astore_n (i0 := 3) X dL_stateLength_12 rfl (by decide) rfl ?_
        refine V_iconst (y := 1) X dL_stateLength_13 (by decide) ?_
        exact V.vx (V_iret X rfl dL_stateLength_14 (Nat.le_of_ble_eq_true rfl) (Nat.le_of_ble_eq_true rfl) w)⟩
  · refine V_i2l X dL_stateLength_7 ?_
    obtain ⟨N9, g9, hh, hi, w⟩ := w9
    refine V_last X dL_stateLength_8 hh hi ?_
    generalize va_up _ _ _ = h2 at w ⊢
    refine V_goto (tgt := 15) X dL_stateLength_9 (by decide) ?_
    refine V_iconst (y := 0) X dL_stateLength_15 (by decide) ?_
    exact V.vx (V_iret X rfl dL_stateLength_16 (Nat.le_of_ble_eq_true rfl) (Nat.le_of_ble_eq_true rfl) w)
/-! AnimationControllerLaw.partWeight(LAnimationController;II[J)I -/
abbrev rmL_partWeight : Room := { frames := 10, cells := 2, slots := 12, locals := 257 }
def vL_partWeight (t0 : Nat) (Qn : Int32 → gH → Prop) (h : gH) (v0 : Nat) (v1 : Int32) (v2 : Int32) (v3 : Nat) : Prop := io h v0 14 (vX11_partWeight t0 (fun x1 h1 => sl h1 v3 0 (Int32.toInt64 x1) (fun h2 => Qn 0 h2)) (fun E9 h9 => (E9 = "java/lang/IndexOutOfBoundsException" ∧ Qn 1 h9)) h v0 v1 v2)
set_option maxRecDepth 100000 in
set_option maxHeartbeats 4000000 in
theorem cL_partWeight_ok {l : Launch} {G : gG} {h : gH} (hls : l.stackTraces = false) {Qn : Int32 → gH → Prop} {v0 : Nat} {v1 : Int32} {v2 : Int32} {v3 : Nat} (w : vL_partWeight G.2.2.1 Qn h v0 v1 v2 v3) : gWi l yL_partWeight cL_partWeight 5 (some .int) [(0, 10, 13, 21)] rmL_partWeight rmL_partWeight.cells rmL_partWeight.slots G h [.ref v0, .int v1, .int v2, .ref v3] Qn := by
  obtain ⟨fs, hh, w⟩ := w
  refine gWi.of (by decide +kernel) hls (Nat.le_of_ble_eq_true rfl) (fun p e s m below meth c A X hT hN => ?_)
  show V p l e rmL_partWeight s m _ below meth c _ G A 5 h 0 0 0 [(0, .ref v0), (1, .int v1), (2, .int v2), (3, .ref v3)] []
  refine V_aloadr_n X dL_partWeight_0 3 rfl ?_
  refine V_iconst (y := 0) X dL_partWeight_1 (by decide) ?_
  refine V_aloadr_n X dL_partWeight_2 0 rfl ?_
  refine V_iload_n X dL_partWeight_3 1 rfl ?_
  refine V_iload_n X dL_partWeight_4 2 rfl ?_
  refine V_tryXi (As := [.int v1, .int v2]) (rest := [.int 0, .ref v3]) (k1 := 2) (n1 := 12) X hT (cX11_partWeight_ok X.2.2.2.2.2.2.2.2.1 w) lkL_83 hh (q9 := (RX11, TX11, 7)) rfl rfl dL_partWeight_5 ⟨(Nat.le_of_ble_eq_true rfl), (Nat.le_of_ble_eq_true rfl)⟩ rfl (Nat.le_of_ble_eq_true rfl) ⟨(Nat.le_of_ble_eq_true rfl), (Nat.le_of_ble_eq_true rfl)⟩ (Nat.le_of_ble_eq_true rfl) (Nat.le_of_ble_eq_true rfl) (fun E9 h9 z9 => ?_) (fun x1 h1 w9 => ?_)
  · obtain ⟨rfl, w⟩ := z9
    exact ⟨[], ⟨0, 10, 13, 21⟩, [], "java/lang/IndexOutOfBoundsException", rfl, (fun z hz => nomatch hz), by decide, by decide, kw_824, ku_839, fun q9 => by
        refine V_astore X dL_partWeight_13 (by decide) rfl ?_
        refine V_iconst (y := 1) X dL_partWeight_15 (by decide) ?_
        exact V.vx (V_iret X rfl dL_partWeight_16 (Nat.le_of_ble_eq_true rfl) (Nat.le_of_ble_eq_true rfl) w)⟩
  · refine V_i2l X dL_partWeight_8 ?_
    obtain ⟨N9, g9, hh, hi, w⟩ := w9
    refine V_last X dL_partWeight_9 hh hi ?_
    generalize va_up _ _ _ = h2 at w ⊢
    refine V_goto (tgt := 17) X dL_partWeight_10 (by decide) ?_
    refine V_iconst (y := 0) X dL_partWeight_17 (by decide) ?_
    exact V.vx (V_iret X rfl dL_partWeight_18 (Nat.le_of_ble_eq_true rfl) (Nat.le_of_ble_eq_true rfl) w)
/-! AnimationControllerLaw.blocked(LAnimationController;I[J)I -/
abbrev rmL_blocked : Room := { frames := 8, cells := 1, slots := 6, locals := 133 }
def vL_blocked (t0 : Nat) (Qn : Int32 → gH → Prop) (h : gH) (v0 : Nat) (v1 : Int32) (v2 : Nat) : Prop := io h v0 14 (vX11_blocked t0 (fun x1 h1 => sl h1 v2 0 (Int32.toInt64 x1) (fun h2 => Qn 0 h2)) (fun E9 h9 => (E9 = "java/lang/IndexOutOfBoundsException" ∧ Qn 1 h9)) h v0 v1)
set_option maxRecDepth 100000 in
set_option maxHeartbeats 4000000 in
theorem cL_blocked_ok {l : Launch} {G : gG} {h : gH} (hls : l.stackTraces = false) {Qn : Int32 → gH → Prop} {v0 : Nat} {v1 : Int32} {v2 : Nat} (w : vL_blocked G.2.2.1 Qn h v0 v1 v2) : gWi l yL_blocked cL_blocked 4 (some .int) [(0, 9, 12, 21)] rmL_blocked rmL_blocked.cells rmL_blocked.slots G h [.ref v0, .int v1, .ref v2] Qn := by
  obtain ⟨fs, hh, w⟩ := w
  refine gWi.of (by decide +kernel) hls (Nat.le_of_ble_eq_true rfl) (fun p e s m below meth c A X hT hN => ?_)
  show V p l e rmL_blocked s m _ below meth c _ G A 4 h 0 0 0 [(0, .ref v0), (1, .int v1), (2, .ref v2)] []
  refine V_aloadr_n X dL_blocked_0 2 rfl ?_
  refine V_iconst (y := 0) X dL_blocked_1 (by decide) ?_
  refine V_aloadr_n X dL_blocked_2 0 rfl ?_
  refine V_iload_n X dL_blocked_3 1 rfl ?_
  refine V_tryXi (As := [.int v1]) (rest := [.int 0, .ref v2]) (k1 := 1) (n1 := 6) X hT (cX11_blocked_ok X.2.2.2.2.2.2.2.2.1 w) lkL_86 hh (q9 := (RX11, TX11, 7)) rfl rfl dL_blocked_4 ⟨(Nat.le_of_ble_eq_true rfl), (Nat.le_of_ble_eq_true rfl)⟩ rfl (Nat.le_of_ble_eq_true rfl) ⟨(Nat.le_of_ble_eq_true rfl), (Nat.le_of_ble_eq_true rfl)⟩ (Nat.le_of_ble_eq_true rfl) (Nat.le_of_ble_eq_true rfl) (fun E9 h9 z9 => ?_) (fun x1 h1 w9 => ?_)
  · obtain ⟨rfl, w⟩ := z9
    exact ⟨[], ⟨0, 9, 12, 21⟩, [], "java/lang/IndexOutOfBoundsException", rfl, (fun z hz => nomatch hz), by decide, by decide, kw_824, ku_839, fun q9 => by
        refine V_astore_n (i0 := 3) X dL_blocked_12 rfl (by decide) rfl ?_
        refine V_iconst (y := 1) X dL_blocked_13 (by decide) ?_
        exact V.vx (V_iret X rfl dL_blocked_14 (Nat.le_of_ble_eq_true rfl) (Nat.le_of_ble_eq_true rfl) w)⟩
  · refine V_i2l X dL_blocked_7 ?_
    obtain ⟨N9, g9, hh, hi, w⟩ := w9
    refine V_last X dL_blocked_8 hh hi ?_
    generalize va_up _ _ _ = h2 at w ⊢
    refine V_goto (tgt := 15) X dL_blocked_9 (by decide) ?_
    refine V_iconst (y := 0) X dL_blocked_15 (by decide) ?_
    exact V.vx (V_iret X rfl dL_blocked_16 (Nat.le_of_ble_eq_true rfl) (Nat.le_of_ble_eq_true rfl) w)
/-! AnimationControllerLaw.poseClip(LAnimationController;I[J)I -/
abbrev rmL_poseClip : Room := { frames := 13, cells := 1, slots := 6, locals := 321 }
def vL_poseClip (t0 : Nat) (Qn : Int32 → gH → Prop) (h : gH) (v0 : Nat) (v1 : Int32) (v2 : Nat) : Prop := io h v0 14 (vX11_poseClip t0 (fun x1 h1 => sl h1 v2 0 (Int32.toInt64 x1) (fun h2 => Qn 0 h2)) (fun E9 h9 => (E9 = "java/lang/IndexOutOfBoundsException" ∧ Qn 1 h9)) h v0 v1)
set_option maxRecDepth 100000 in
set_option maxHeartbeats 4000000 in
theorem cL_poseClip_ok {l : Launch} {G : gG} {h : gH} (hls : l.stackTraces = false) {Qn : Int32 → gH → Prop} {v0 : Nat} {v1 : Int32} {v2 : Nat} (w : vL_poseClip G.2.2.1 Qn h v0 v1 v2) : gWi l yL_poseClip cL_poseClip 4 (some .int) [(0, 9, 12, 21)] rmL_poseClip rmL_poseClip.cells rmL_poseClip.slots G h [.ref v0, .int v1, .ref v2] Qn := by
  obtain ⟨fs, hh, w⟩ := w
  refine gWi.of (by decide +kernel) hls (Nat.le_of_ble_eq_true rfl) (fun p e s m below meth c A X hT hN => ?_)
  show V p l e rmL_poseClip s m _ below meth c _ G A 4 h 0 0 0 [(0, .ref v0), (1, .int v1), (2, .ref v2)] []
  refine V_aloadr_n X dL_poseClip_0 2 rfl ?_
  refine V_iconst (y := 0) X dL_poseClip_1 (by decide) ?_
  refine V_aloadr_n X dL_poseClip_2 0 rfl ?_
  refine V_iload_n X dL_poseClip_3 1 rfl ?_
  refine V_tryXi (As := [.int v1]) (rest := [.int 0, .ref v2]) (k1 := 1) (n1 := 6) X hT (cX11_poseClip_ok X.2.2.2.2.2.2.2.2.1 w) lkL_89 hh (q9 := (RX11, TX11, 7)) rfl rfl dL_poseClip_4 ⟨(Nat.le_of_ble_eq_true rfl), (Nat.le_of_ble_eq_true rfl)⟩ rfl (Nat.le_of_ble_eq_true rfl) ⟨(Nat.le_of_ble_eq_true rfl), (Nat.le_of_ble_eq_true rfl)⟩ (Nat.le_of_ble_eq_true rfl) (Nat.le_of_ble_eq_true rfl) (fun E9 h9 z9 => ?_) (fun x1 h1 w9 => ?_)
  · obtain ⟨rfl, w⟩ := z9
    exact ⟨[], ⟨0, 9, 12, 21⟩, [], "java/lang/IndexOutOfBoundsException", rfl, (fun z hz => nomatch hz), by decide, by decide, kw_824, ku_839, fun q9 => by
        refine V_astore_n (i0 := 3) X dL_poseClip_12 rfl (by decide) rfl ?_
        refine V_iconst (y := 1) X dL_poseClip_13 (by decide) ?_
        exact V.vx (V_iret X rfl dL_poseClip_14 (Nat.le_of_ble_eq_true rfl) (Nat.le_of_ble_eq_true rfl) w)⟩
  · refine V_i2l X dL_poseClip_7 ?_
    obtain ⟨N9, g9, hh, hi, w⟩ := w9
    refine V_last X dL_poseClip_8 hh hi ?_
    generalize va_up _ _ _ = h2 at w ⊢
    refine V_goto (tgt := 15) X dL_poseClip_9 (by decide) ?_
    refine V_iconst (y := 0) X dL_poseClip_15 (by decide) ?_
    exact V.vx (V_iret X rfl dL_poseClip_16 (Nat.le_of_ble_eq_true rfl) (Nat.le_of_ble_eq_true rfl) w)
/-! AnimationControllerLaw.poseTime(LAnimationController;I[J)I -/
abbrev rmL_poseTime : Room := { frames := 13, cells := 1, slots := 6, locals := 321 }
def vL_poseTime (t0 : Nat) (Qn : Int32 → gH → Prop) (h : gH) (v0 : Nat) (v1 : Int32) (v2 : Nat) : Prop := io h v0 14 (vX11_poseTime t0 (fun x1 h1 => sl h1 v2 0 (Int32.toInt64 x1) (fun h2 => Qn 0 h2)) (fun E9 h9 => (E9 = "java/lang/IndexOutOfBoundsException" ∧ Qn 1 h9)) h v0 v1)
set_option maxRecDepth 100000 in
set_option maxHeartbeats 4000000 in
theorem cL_poseTime_ok {l : Launch} {G : gG} {h : gH} (hls : l.stackTraces = false) {Qn : Int32 → gH → Prop} {v0 : Nat} {v1 : Int32} {v2 : Nat} (w : vL_poseTime G.2.2.1 Qn h v0 v1 v2) : gWi l yL_poseTime cL_poseTime 4 (some .int) [(0, 9, 12, 21)] rmL_poseTime rmL_poseTime.cells rmL_poseTime.slots G h [.ref v0, .int v1, .ref v2] Qn := by
  obtain ⟨fs, hh, w⟩ := w
  refine gWi.of (by decide +kernel) hls (Nat.le_of_ble_eq_true rfl) (fun p e s m below meth c A X hT hN => ?_)
  show V p l e rmL_poseTime s m _ below meth c _ G A 4 h 0 0 0 [(0, .ref v0), (1, .int v1), (2, .ref v2)] []
  refine V_aloadr_n X dL_poseTime_0 2 rfl ?_
  refine V_iconst (y := 0) X dL_poseTime_1 (by decide) ?_
  refine V_aloadr_n X dL_poseTime_2 0 rfl ?_
  refine V_iload_n X dL_poseTime_3 1 rfl ?_
  refine V_tryXi (As := [.int v1]) (rest := [.int 0, .ref v2]) (k1 := 1) (n1 := 6) X hT (cX11_poseTime_ok X.2.2.2.2.2.2.2.2.1 w) lkL_92 hh (q9 := (RX11, TX11, 7)) rfl rfl dL_poseTime_4 ⟨(Nat.le_of_ble_eq_true rfl), (Nat.le_of_ble_eq_true rfl)⟩ rfl (Nat.le_of_ble_eq_true rfl) ⟨(Nat.le_of_ble_eq_true rfl), (Nat.le_of_ble_eq_true rfl)⟩ (Nat.le_of_ble_eq_true rfl) (Nat.le_of_ble_eq_true rfl) (fun E9 h9 z9 => ?_) (fun x1 h1 w9 => ?_)
  · obtain ⟨rfl, w⟩ := z9
    exact ⟨[], ⟨0, 9, 12, 21⟩, [], "java/lang/IndexOutOfBoundsException", rfl, (fun z hz => nomatch hz), by decide, by decide, kw_824, ku_839, fun q9 => by
        refine V_astore_n (i0 := 3) X dL_poseTime_12 rfl (by decide) rfl ?_
        refine V_iconst (y := 1) X dL_poseTime_13 (by decide) ?_
        exact V.vx (V_iret X rfl dL_poseTime_14 (Nat.le_of_ble_eq_true rfl) (Nat.le_of_ble_eq_true rfl) w)⟩
  · refine V_i2l X dL_poseTime_7 ?_
    obtain ⟨N9, g9, hh, hi, w⟩ := w9
    refine V_last X dL_poseTime_8 hh hi ?_
    generalize va_up _ _ _ = h2 at w ⊢
    refine V_goto (tgt := 15) X dL_poseTime_9 (by decide) ?_
    refine V_iconst (y := 0) X dL_poseTime_15 (by decide) ?_
    exact V.vx (V_iret X rfl dL_poseTime_16 (Nat.le_of_ble_eq_true rfl) (Nat.le_of_ble_eq_true rfl) w)
/-! AnimationControllerLaw.poseWeight(LAnimationController;I[J)I -/
abbrev rmL_poseWeight : Room := { frames := 13, cells := 1, slots := 6, locals := 321 }
def vL_poseWeight (t0 : Nat) (Qn : Int32 → gH → Prop) (h : gH) (v0 : Nat) (v1 : Int32) (v2 : Nat) : Prop := io h v0 14 (vX11_poseWeight t0 (fun x1 h1 => sl h1 v2 0 (Int32.toInt64 x1) (fun h2 => Qn 0 h2)) (fun E9 h9 => (E9 = "java/lang/IndexOutOfBoundsException" ∧ Qn 1 h9)) h v0 v1)
set_option maxRecDepth 100000 in
set_option maxHeartbeats 4000000 in
theorem cL_poseWeight_ok {l : Launch} {G : gG} {h : gH} (hls : l.stackTraces = false) {Qn : Int32 → gH → Prop} {v0 : Nat} {v1 : Int32} {v2 : Nat} (w : vL_poseWeight G.2.2.1 Qn h v0 v1 v2) : gWi l yL_poseWeight cL_poseWeight 4 (some .int) [(0, 9, 12, 21)] rmL_poseWeight rmL_poseWeight.cells rmL_poseWeight.slots G h [.ref v0, .int v1, .ref v2] Qn := by
  obtain ⟨fs, hh, w⟩ := w
  refine gWi.of (by decide +kernel) hls (Nat.le_of_ble_eq_true rfl) (fun p e s m below meth c A X hT hN => ?_)
  show V p l e rmL_poseWeight s m _ below meth c _ G A 4 h 0 0 0 [(0, .ref v0), (1, .int v1), (2, .ref v2)] []
  refine V_aloadr_n X dL_poseWeight_0 2 rfl ?_
  refine V_iconst (y := 0) X dL_poseWeight_1 (by decide) ?_
  refine V_aloadr_n X dL_poseWeight_2 0 rfl ?_
  refine V_iload_n X dL_poseWeight_3 1 rfl ?_
  refine V_tryXi (As := [.int v1]) (rest := [.int 0, .ref v2]) (k1 := 1) (n1 := 6) X hT (cX11_poseWeight_ok X.2.2.2.2.2.2.2.2.1 w) lkL_95 hh (q9 := (RX11, TX11, 7)) rfl rfl dL_poseWeight_4 ⟨(Nat.le_of_ble_eq_true rfl), (Nat.le_of_ble_eq_true rfl)⟩ rfl (Nat.le_of_ble_eq_true rfl) ⟨(Nat.le_of_ble_eq_true rfl), (Nat.le_of_ble_eq_true rfl)⟩ (Nat.le_of_ble_eq_true rfl) (Nat.le_of_ble_eq_true rfl) (fun E9 h9 z9 => ?_) (fun x1 h1 w9 => ?_)
  · obtain ⟨rfl, w⟩ := z9
    exact ⟨[], ⟨0, 9, 12, 21⟩, [], "java/lang/IndexOutOfBoundsException", rfl, (fun z hz => nomatch hz), by decide, by decide, kw_824, ku_839, fun q9 => by
        refine V_astore_n (i0 := 3) X dL_poseWeight_12 rfl (by decide) rfl ?_
        refine V_iconst (y := 1) X dL_poseWeight_13 (by decide) ?_
        exact V.vx (V_iret X rfl dL_poseWeight_14 (Nat.le_of_ble_eq_true rfl) (Nat.le_of_ble_eq_true rfl) w)⟩
  · refine V_i2l X dL_poseWeight_7 ?_
    obtain ⟨N9, g9, hh, hi, w⟩ := w9
    refine V_last X dL_poseWeight_8 hh hi ?_
    generalize va_up _ _ _ = h2 at w ⊢
    refine V_goto (tgt := 15) X dL_poseWeight_9 (by decide) ?_
    refine V_iconst (y := 0) X dL_poseWeight_15 (by decide) ?_
    exact V.vx (V_iret X rfl dL_poseWeight_16 (Nat.le_of_ble_eq_true rfl) (Nat.le_of_ble_eq_true rfl) w)
/-! AnimationControllerLaw.event(LAnimationController;II[J)I -/
abbrev rmL_event : Room := { frames := 7, cells := 1, slots := 6, locals := 112 }
def vL_event (t0 : Nat) (Qn : Int32 → gH → Prop) (h : gH) (v0 : Nat) (v1 : Int32) (v2 : Int32) (v3 : Nat) : Prop := io h v0 14 (vX11_event t0 (fun x1 h1 => sl h1 v3 0 (Int32.toInt64 x1) (fun h2 => Qn 0 h2)) (fun E9 h9 => (E9 = "java/lang/IndexOutOfBoundsException" ∧ Qn 1 h9) ∨ (E9 = "java/lang/IllegalArgumentException" ∧ Qn 2 h9)) h v0 v1 v2)
set_option maxRecDepth 100000 in
set_option maxHeartbeats 4000000 in
theorem cL_event_ok {l : Launch} {G : gG} {h : gH} (hls : l.stackTraces = false) {Qn : Int32 → gH → Prop} {v0 : Nat} {v1 : Int32} {v2 : Int32} {v3 : Nat} (w : vL_event G.2.2.1 Qn h v0 v1 v2 v3) : gWi l yL_event cL_event 5 (some .int) [(0, 10, 13, 21), (0, 10, 17, 13)] rmL_event rmL_event.cells rmL_event.slots G h [.ref v0, .int v1, .int v2, .ref v3] Qn := by
  obtain ⟨fs, hh, w⟩ := w
  refine gWi.of (by decide +kernel) hls (Nat.le_of_ble_eq_true rfl) (fun p e s m below meth c A X hT hN => ?_)
  show V p l e rmL_event s m _ below meth c _ G A 5 h 0 0 0 [(0, .ref v0), (1, .int v1), (2, .int v2), (3, .ref v3)] []
  refine V_aloadr_n X dL_event_0 3 rfl ?_
  refine V_iconst (y := 0) X dL_event_1 (by decide) ?_
  refine V_aloadr_n X dL_event_2 0 rfl ?_
  refine V_iload_n X dL_event_3 1 rfl ?_
  refine V_iload_n X dL_event_4 2 rfl ?_
  refine V_tryXi (As := [.int v1, .int v2]) (rest := [.int 0, .ref v3]) (k1 := 1) (n1 := 6) X hT (cX11_event_ok X.2.2.2.2.2.2.2.2.1 w) lkL_98 hh (q9 := (RX11, TX11, 7)) rfl rfl dL_event_5 ⟨(Nat.le_of_ble_eq_true rfl), (Nat.le_of_ble_eq_true rfl)⟩ rfl (Nat.le_of_ble_eq_true rfl) ⟨(Nat.le_of_ble_eq_true rfl), (Nat.le_of_ble_eq_true rfl)⟩ (Nat.le_of_ble_eq_true rfl) (Nat.le_of_ble_eq_true rfl) (fun E9 h9 z9 => ?_) (fun x1 h1 w9 => ?_)
  · rcases z9 with ⟨rfl, w⟩ | ⟨rfl, w⟩
    · exact ⟨[], ⟨0, 10, 13, 21⟩, [⟨0, 10, 17, 13⟩], "java/lang/IndexOutOfBoundsException", rfl, (fun z hz => nomatch hz), by decide, by decide, kw_824, ku_839, fun q9 => by
        refine V_astore X dL_event_13 (by decide) rfl ?_
        refine V_iconst (y := 1) X dL_event_15 (by decide) ?_
        exact V.vx (V_iret X rfl dL_event_16 (Nat.le_of_ble_eq_true rfl) (Nat.le_of_ble_eq_true rfl) w)⟩
    · exact ⟨[⟨0, 10, 13, 21⟩], ⟨0, 10, 17, 13⟩, [], "java/lang/IllegalArgumentException", rfl, (List.forall_mem_cons.mpr ⟨Or.inr ⟨by decide, "java/lang/IndexOutOfBoundsException", kw_824, hN.1⟩, fun z hz => nomatch hz⟩), by decide, by decide, kw_731, ku_739, fun q9 => by
        refine V_astore X dL_event_17 (by decide) rfl ?_
        refine V_iconst (y := 2) X dL_event_19 (by decide) ?_
        exact V.vx (V_iret X rfl dL_event_20 (Nat.le_of_ble_eq_true rfl) (Nat.le_of_ble_eq_true rfl) w)⟩
  · refine V_i2l X dL_event_8 ?_
    obtain ⟨N9, g9, hh, hi, w⟩ := w9
    refine V_last X dL_event_9 hh hi ?_
    generalize va_up _ _ _ = h2 at w ⊢
    refine V_goto (tgt := 21) X dL_event_10 (by decide) ?_
    refine V_iconst (y := 0) X dL_event_21 (by decide) ?_
    exact V.vx (V_iret X rfl dL_event_22 (Nat.le_of_ble_eq_true rfl) (Nat.le_of_ble_eq_true rfl) w)
/-! AnimationControllerLaw.foretell(LAnimationController;I[J)I -/
abbrev rmL_foretell : Room := { frames := 14, cells := 2, slots := 12, locals := 347 }
def vL_foretell (t0 : Nat) (Qn : Int32 → gH → Prop) (h : gH) (v0 : Nat) (v1 : Int32) (v2 : Nat) : Prop := io h v0 14 (vX11_foretell t0 (fun x1 h1 => sl h1 v2 0 (Int32.toInt64 x1) (fun h2 => Qn 0 h2)) (fun E9 h9 => (E9 = "java/lang/IllegalArgumentException" ∧ Qn 1 h9) ∨ (E9 = "java/lang/IllegalStateException" ∧ Qn 2 h9)) h v0 v1)
set_option maxRecDepth 100000 in
set_option maxHeartbeats 4000000 in
theorem cL_foretell_ok {l : Launch} {G : gG} {h : gH} (hls : l.stackTraces = false) {Qn : Int32 → gH → Prop} {v0 : Nat} {v1 : Int32} {v2 : Nat} (w : vL_foretell G.2.2.1 Qn h v0 v1 v2) : gWi l yL_foretell cL_foretell 4 (some .int) [(0, 9, 12, 13), (0, 9, 15, 15)] rmL_foretell rmL_foretell.cells rmL_foretell.slots G h [.ref v0, .int v1, .ref v2] Qn := by
  obtain ⟨fs, hh, w⟩ := w
  refine gWi.of (by decide +kernel) hls (Nat.le_of_ble_eq_true rfl) (fun p e s m below meth c A X hT hN => ?_)
  show V p l e rmL_foretell s m _ below meth c _ G A 4 h 0 0 0 [(0, .ref v0), (1, .int v1), (2, .ref v2)] []
  refine V_aloadr_n X dL_foretell_0 2 rfl ?_
  refine V_iconst (y := 0) X dL_foretell_1 (by decide) ?_
  refine V_aloadr_n X dL_foretell_2 0 rfl ?_
  refine V_iload_n X dL_foretell_3 1 rfl ?_
  refine V_tryXi (As := [.int v1]) (rest := [.int 0, .ref v2]) (k1 := 2) (n1 := 12) X hT (cX11_foretell_ok X.2.2.2.2.2.2.2.2.1 w) lkL_101 hh (q9 := (RX11, TX11, 7)) rfl rfl dL_foretell_4 ⟨(Nat.le_of_ble_eq_true rfl), (Nat.le_of_ble_eq_true rfl)⟩ rfl (Nat.le_of_ble_eq_true rfl) ⟨(Nat.le_of_ble_eq_true rfl), (Nat.le_of_ble_eq_true rfl)⟩ (Nat.le_of_ble_eq_true rfl) (Nat.le_of_ble_eq_true rfl) (fun E9 h9 z9 => ?_) (fun x1 h1 w9 => ?_)
  · rcases z9 with ⟨rfl, w⟩ | ⟨rfl, w⟩
    · exact ⟨[], ⟨0, 9, 12, 13⟩, [⟨0, 9, 15, 15⟩], "java/lang/IllegalArgumentException", rfl, (fun z hz => nomatch hz), by decide, by decide, kw_731, ku_739, fun q9 => by
        refine V_astore_n (i0 := 3) X dL_foretell_12 rfl (by decide) rfl ?_
        refine V_iconst (y := 1) X dL_foretell_13 (by decide) ?_
        exact V.vx (V_iret X rfl dL_foretell_14 (Nat.le_of_ble_eq_true rfl) (Nat.le_of_ble_eq_true rfl) w)⟩
    · exact ⟨[⟨0, 9, 12, 13⟩], ⟨0, 9, 15, 15⟩, [], "java/lang/IllegalStateException", rfl, (List.forall_mem_cons.mpr ⟨Or.inr ⟨by decide, "java/lang/IllegalArgumentException", kw_731, hN.2.2⟩, fun z hz => nomatch hz⟩), by decide, by decide, kw_732, ku_807, fun q9 => by
        refine V_astore_n (i0 := 3) X dL_foretell_15 rfl (by decide) rfl ?_
        refine V_iconst (y := 2) X dL_foretell_16 (by decide) ?_
        exact V.vx (V_iret X rfl dL_foretell_17 (Nat.le_of_ble_eq_true rfl) (Nat.le_of_ble_eq_true rfl) w)⟩
  · refine V_i2l X dL_foretell_7 ?_
    obtain ⟨N9, g9, hh, hi, w⟩ := w9
    refine V_last X dL_foretell_8 hh hi ?_
    generalize va_up _ _ _ = h2 at w ⊢
    refine V_goto (tgt := 18) X dL_foretell_9 (by decide) ?_
    refine V_iconst (y := 0) X dL_foretell_18 (by decide) ?_
    exact V.vx (V_iret X rfl dL_foretell_19 (Nat.le_of_ble_eq_true rfl) (Nat.le_of_ble_eq_true rfl) w)
/-! AnimationControllerLaw.ticksTo(LAnimationController;I[J)I -/
abbrev rmL_ticksTo : Room := { frames := 14, cells := 1, slots := 6, locals := 348 }
def vL_ticksTo (t0 : Nat) (Qn : Int32 → gH → Prop) (h : gH) (v0 : Nat) (v1 : Int32) (v2 : Nat) : Prop := io h v0 14 (vX11_ticksTo t0 (fun x1 h1 => sl h1 v2 0 (Int32.toInt64 x1) (fun h2 => Qn 0 h2)) (fun E9 h9 => (E9 = "java/lang/IndexOutOfBoundsException" ∧ Qn 1 h9)) h v0 v1)
set_option maxRecDepth 100000 in
set_option maxHeartbeats 4000000 in
theorem cL_ticksTo_ok {l : Launch} {G : gG} {h : gH} (hls : l.stackTraces = false) {Qn : Int32 → gH → Prop} {v0 : Nat} {v1 : Int32} {v2 : Nat} (w : vL_ticksTo G.2.2.1 Qn h v0 v1 v2) : gWi l yL_ticksTo cL_ticksTo 4 (some .int) [(0, 9, 12, 21)] rmL_ticksTo rmL_ticksTo.cells rmL_ticksTo.slots G h [.ref v0, .int v1, .ref v2] Qn := by
  obtain ⟨fs, hh, w⟩ := w
  refine gWi.of (by decide +kernel) hls (Nat.le_of_ble_eq_true rfl) (fun p e s m below meth c A X hT hN => ?_)
  show V p l e rmL_ticksTo s m _ below meth c _ G A 4 h 0 0 0 [(0, .ref v0), (1, .int v1), (2, .ref v2)] []
  refine V_aloadr_n X dL_ticksTo_0 2 rfl ?_
  refine V_iconst (y := 0) X dL_ticksTo_1 (by decide) ?_
  refine V_aloadr_n X dL_ticksTo_2 0 rfl ?_
  refine V_iload_n X dL_ticksTo_3 1 rfl ?_
  refine V_tryXi (As := [.int v1]) (rest := [.int 0, .ref v2]) (k1 := 1) (n1 := 6) X hT (cX11_ticksTo_ok X.2.2.2.2.2.2.2.2.1 w) lkL_104 hh (q9 := (RX11, TX11, 7)) rfl rfl dL_ticksTo_4 ⟨(Nat.le_of_ble_eq_true rfl), (Nat.le_of_ble_eq_true rfl)⟩ rfl (Nat.le_of_ble_eq_true rfl) ⟨(Nat.le_of_ble_eq_true rfl), (Nat.le_of_ble_eq_true rfl)⟩ (Nat.le_of_ble_eq_true rfl) (Nat.le_of_ble_eq_true rfl) (fun E9 h9 z9 => ?_) (fun x1 h1 w9 => ?_)
  · obtain ⟨rfl, w⟩ := z9
    exact ⟨[], ⟨0, 9, 12, 21⟩, [], "java/lang/IndexOutOfBoundsException", rfl, (fun z hz => nomatch hz), by decide, by decide, kw_824, ku_839, fun q9 => by
        refine V_astore_n (i0 := 3) X dL_ticksTo_12 rfl (by decide) rfl ?_
        refine V_iconst (y := 1) X dL_ticksTo_13 (by decide) ?_
        exact V.vx (V_iret X rfl dL_ticksTo_14 (Nat.le_of_ble_eq_true rfl) (Nat.le_of_ble_eq_true rfl) w)⟩
  · refine V_i2l X dL_ticksTo_7 ?_
    obtain ⟨N9, g9, hh, hi, w⟩ := w9
    refine V_last X dL_ticksTo_8 hh hi ?_
    generalize va_up _ _ _ = h2 at w ⊢
    refine V_goto (tgt := 15) X dL_ticksTo_9 (by decide) ?_
    refine V_iconst (y := 0) X dL_ticksTo_15 (by decide) ?_
    exact V.vx (V_iret X rfl dL_ticksTo_16 (Nat.le_of_ble_eq_true rfl) (Nat.le_of_ble_eq_true rfl) w)
/-! AnimationControllerLaw.steps(LAnimationController;II[J)I -/
abbrev rmL_steps : Room := { frames := 8, cells := 2, slots := 12, locals := 136 }
def vL_steps (t0 : Nat) (Qn : Int32 → gH → Prop) (h : gH) (v0 : Nat) (v1 : Int32) (v2 : Int32) (v3 : Nat) : Prop := io h v0 14 (vX11_steps t0 (fun x1 h1 => sl h1 v3 0 (Int32.toInt64 x1) (fun h2 => Qn 0 h2)) (fun E9 h9 => (E9 = "java/lang/IndexOutOfBoundsException" ∧ Qn 1 h9)) h v0 v1 v2)
set_option maxRecDepth 100000 in
set_option maxHeartbeats 4000000 in
theorem cL_steps_ok {l : Launch} {G : gG} {h : gH} (hls : l.stackTraces = false) {Qn : Int32 → gH → Prop} {v0 : Nat} {v1 : Int32} {v2 : Int32} {v3 : Nat} (w : vL_steps G.2.2.1 Qn h v0 v1 v2 v3) : gWi l yL_steps cL_steps 5 (some .int) [(0, 10, 13, 21)] rmL_steps rmL_steps.cells rmL_steps.slots G h [.ref v0, .int v1, .int v2, .ref v3] Qn := by
  obtain ⟨fs, hh, w⟩ := w
  refine gWi.of (by decide +kernel) hls (Nat.le_of_ble_eq_true rfl) (fun p e s m below meth c A X hT hN => ?_)
  show V p l e rmL_steps s m _ below meth c _ G A 5 h 0 0 0 [(0, .ref v0), (1, .int v1), (2, .int v2), (3, .ref v3)] []
  refine V_aloadr_n X dL_steps_0 3 rfl ?_
  refine V_iconst (y := 0) X dL_steps_1 (by decide) ?_
  refine V_aloadr_n X dL_steps_2 0 rfl ?_
  refine V_iload_n X dL_steps_3 1 rfl ?_
  refine V_iload_n X dL_steps_4 2 rfl ?_
  refine V_tryXi (As := [.int v1, .int v2]) (rest := [.int 0, .ref v3]) (k1 := 2) (n1 := 12) X hT (cX11_steps_ok X.2.2.2.2.2.2.2.2.1 w) lkL_107 hh (q9 := (RX11, TX11, 7)) rfl rfl dL_steps_5 ⟨(Nat.le_of_ble_eq_true rfl), (Nat.le_of_ble_eq_true rfl)⟩ rfl (Nat.le_of_ble_eq_true rfl) ⟨(Nat.le_of_ble_eq_true rfl), (Nat.le_of_ble_eq_true rfl)⟩ (Nat.le_of_ble_eq_true rfl) (Nat.le_of_ble_eq_true rfl) (fun E9 h9 z9 => ?_) (fun x1 h1 w9 => ?_)
  · obtain ⟨rfl, w⟩ := z9
    exact ⟨[], ⟨0, 10, 13, 21⟩, [], "java/lang/IndexOutOfBoundsException", rfl, (fun z hz => nomatch hz), by decide, by decide, kw_824, ku_839, fun q9 => by
        refine V_astore X dL_steps_13 (by decide) rfl ?_
        refine V_iconst (y := 1) X dL_steps_15 (by decide) ?_
        exact V.vx (V_iret X rfl dL_steps_16 (Nat.le_of_ble_eq_true rfl) (Nat.le_of_ble_eq_true rfl) w)⟩
  · refine V_i2l X dL_steps_8 ?_
    obtain ⟨N9, g9, hh, hi, w⟩ := w9
    refine V_last X dL_steps_9 hh hi ?_
    generalize va_up _ _ _ = h2 at w ⊢
    refine V_goto (tgt := 17) X dL_steps_10 (by decide) ?_
    refine V_iconst (y := 0) X dL_steps_17 (by decide) ?_
    exact V.vx (V_iret X rfl dL_steps_18 (Nat.le_of_ble_eq_true rfl) (Nat.le_of_ble_eq_true rfl) w)
/-! AnimationControllerLaw.keep(LAnimationController;I[J)I -/
abbrev rmL_keep : Room := { frames := 8, cells := 2, slots := 12, locals := 132 }
def vL_keep (t0 : Nat) (Qn : Int32 → gH → Prop) (h : gH) (v0 : Nat) (v1 : Int32) (v2 : Nat) : Prop := io h v0 14 (vX11_keep t0 (fun x1 h1 => sl h1 v2 0 (Int32.toInt64 x1) (fun h2 => Qn 0 h2)) (fun E9 h9 => (E9 = "java/lang/IllegalArgumentException" ∧ Qn 1 h9) ∨ (E9 = "java/lang/IllegalStateException" ∧ Qn 2 h9)) h v0 v1)
set_option maxRecDepth 100000 in
set_option maxHeartbeats 4000000 in
theorem cL_keep_ok {l : Launch} {G : gG} {h : gH} (hls : l.stackTraces = false) {Qn : Int32 → gH → Prop} {v0 : Nat} {v1 : Int32} {v2 : Nat} (w : vL_keep G.2.2.1 Qn h v0 v1 v2) : gWi l yL_keep cL_keep 4 (some .int) [(0, 9, 12, 13), (0, 9, 15, 15)] rmL_keep rmL_keep.cells rmL_keep.slots G h [.ref v0, .int v1, .ref v2] Qn := by
  obtain ⟨fs, hh, w⟩ := w
  refine gWi.of (by decide +kernel) hls (Nat.le_of_ble_eq_true rfl) (fun p e s m below meth c A X hT hN => ?_)
  show V p l e rmL_keep s m _ below meth c _ G A 4 h 0 0 0 [(0, .ref v0), (1, .int v1), (2, .ref v2)] []
  refine V_aloadr_n X dL_keep_0 2 rfl ?_
  refine V_iconst (y := 0) X dL_keep_1 (by decide) ?_
  refine V_aloadr_n X dL_keep_2 0 rfl ?_
  refine V_iload_n X dL_keep_3 1 rfl ?_
  refine V_tryXi (As := [.int v1]) (rest := [.int 0, .ref v2]) (k1 := 2) (n1 := 12) X hT (cX11_keep_ok X.2.2.2.2.2.2.2.2.1 w) lkL_110 hh (q9 := (RX11, TX11, 7)) rfl rfl dL_keep_4 ⟨(Nat.le_of_ble_eq_true rfl), (Nat.le_of_ble_eq_true rfl)⟩ rfl (Nat.le_of_ble_eq_true rfl) ⟨(Nat.le_of_ble_eq_true rfl), (Nat.le_of_ble_eq_true rfl)⟩ (Nat.le_of_ble_eq_true rfl) (Nat.le_of_ble_eq_true rfl) (fun E9 h9 z9 => ?_) (fun x1 h1 w9 => ?_)
  · rcases z9 with ⟨rfl, w⟩ | ⟨rfl, w⟩
    · exact ⟨[], ⟨0, 9, 12, 13⟩, [⟨0, 9, 15, 15⟩], "java/lang/IllegalArgumentException", rfl, (fun z hz => nomatch hz), by decide, by decide, kw_731, ku_739, fun q9 => by
        refine V_astore_n (i0 := 3) X dL_keep_12 rfl (by decide) rfl ?_
        refine V_iconst (y := 1) X dL_keep_13 (by decide) ?_
        exact V.vx (V_iret X rfl dL_keep_14 (Nat.le_of_ble_eq_true rfl) (Nat.le_of_ble_eq_true rfl) w)⟩
    · exact ⟨[⟨0, 9, 12, 13⟩], ⟨0, 9, 15, 15⟩, [], "java/lang/IllegalStateException", rfl, (List.forall_mem_cons.mpr ⟨Or.inr ⟨by decide, "java/lang/IllegalArgumentException", kw_731, hN.2.2⟩, fun z hz => nomatch hz⟩), by decide, by decide, kw_732, ku_807, fun q9 => by
        refine V_astore_n (i0 := 3) X dL_keep_15 rfl (by decide) rfl ?_
        refine V_iconst (y := 2) X dL_keep_16 (by decide) ?_
        exact V.vx (V_iret X rfl dL_keep_17 (Nat.le_of_ble_eq_true rfl) (Nat.le_of_ble_eq_true rfl) w)⟩
  · refine V_i2l X dL_keep_7 ?_
    obtain ⟨N9, g9, hh, hi, w⟩ := w9
    refine V_last X dL_keep_8 hh hi ?_
    generalize va_up _ _ _ = h2 at w ⊢
    refine V_goto (tgt := 18) X dL_keep_9 (by decide) ?_
    refine V_iconst (y := 0) X dL_keep_18 (by decide) ?_
    exact V.vx (V_iret X rfl dL_keep_19 (Nat.le_of_ble_eq_true rfl) (Nat.le_of_ble_eq_true rfl) w)
/-! AnimationControllerLaw.restore(LAnimationController;I[J)I -/
abbrev rmL_restore : Room := { frames := 8, cells := 2, slots := 12, locals := 132 }
def vL_restore (t0 : Nat) (Qn : Int32 → gH → Prop) (h : gH) (v0 : Nat) (v1 : Int32) (v2 : Nat) : Prop := io h v0 14 (vX11_restore t0 (fun x1 h1 => sl h1 v2 0 (Int32.toInt64 x1) (fun h2 => Qn 0 h2)) (fun E9 h9 => (E9 = "java/lang/IllegalArgumentException" ∧ Qn 1 h9) ∨ (E9 = "java/lang/IllegalStateException" ∧ Qn 2 h9)) h v0 v1)
set_option maxRecDepth 100000 in
set_option maxHeartbeats 4000000 in
theorem cL_restore_ok {l : Launch} {G : gG} {h : gH} (hls : l.stackTraces = false) {Qn : Int32 → gH → Prop} {v0 : Nat} {v1 : Int32} {v2 : Nat} (w : vL_restore G.2.2.1 Qn h v0 v1 v2) : gWi l yL_restore cL_restore 4 (some .int) [(0, 9, 12, 13), (0, 9, 15, 15)] rmL_restore rmL_restore.cells rmL_restore.slots G h [.ref v0, .int v1, .ref v2] Qn := by
  obtain ⟨fs, hh, w⟩ := w
  refine gWi.of (by decide +kernel) hls (Nat.le_of_ble_eq_true rfl) (fun p e s m below meth c A X hT hN => ?_)
  show V p l e rmL_restore s m _ below meth c _ G A 4 h 0 0 0 [(0, .ref v0), (1, .int v1), (2, .ref v2)] []
  refine V_aloadr_n X dL_restore_0 2 rfl ?_
  refine V_iconst (y := 0) X dL_restore_1 (by decide) ?_
  refine V_aloadr_n X dL_restore_2 0 rfl ?_
  refine V_iload_n X dL_restore_3 1 rfl ?_
  refine V_tryXi (As := [.int v1]) (rest := [.int 0, .ref v2]) (k1 := 2) (n1 := 12) X hT (cX11_restore_ok X.2.2.2.2.2.2.2.2.1 w) lkL_113 hh (q9 := (RX11, TX11, 7)) rfl rfl dL_restore_4 ⟨(Nat.le_of_ble_eq_true rfl), (Nat.le_of_ble_eq_true rfl)⟩ rfl (Nat.le_of_ble_eq_true rfl) ⟨(Nat.le_of_ble_eq_true rfl), (Nat.le_of_ble_eq_true rfl)⟩ (Nat.le_of_ble_eq_true rfl) (Nat.le_of_ble_eq_true rfl) (fun E9 h9 z9 => ?_) (fun x1 h1 w9 => ?_)
  · rcases z9 with ⟨rfl, w⟩ | ⟨rfl, w⟩
    · exact ⟨[], ⟨0, 9, 12, 13⟩, [⟨0, 9, 15, 15⟩], "java/lang/IllegalArgumentException", rfl, (fun z hz => nomatch hz), by decide, by decide, kw_731, ku_739, fun q9 => by
        refine V_astore_n (i0 := 3) X dL_restore_12 rfl (by decide) rfl ?_
        refine V_iconst (y := 1) X dL_restore_13 (by decide) ?_
        exact V.vx (V_iret X rfl dL_restore_14 (Nat.le_of_ble_eq_true rfl) (Nat.le_of_ble_eq_true rfl) w)⟩
    · exact ⟨[⟨0, 9, 12, 13⟩], ⟨0, 9, 15, 15⟩, [], "java/lang/IllegalStateException", rfl, (List.forall_mem_cons.mpr ⟨Or.inr ⟨by decide, "java/lang/IllegalArgumentException", kw_731, hN.2.2⟩, fun z hz => nomatch hz⟩), by decide, by decide, kw_732, ku_807, fun q9 => by
        refine V_astore_n (i0 := 3) X dL_restore_15 rfl (by decide) rfl ?_
        refine V_iconst (y := 2) X dL_restore_16 (by decide) ?_
        exact V.vx (V_iret X rfl dL_restore_17 (Nat.le_of_ble_eq_true rfl) (Nat.le_of_ble_eq_true rfl) w)⟩
  · refine V_i2l X dL_restore_7 ?_
    obtain ⟨N9, g9, hh, hi, w⟩ := w9
    refine V_last X dL_restore_8 hh hi ?_
    generalize va_up _ _ _ = h2 at w ⊢
    refine V_goto (tgt := 18) X dL_restore_9 (by decide) ?_
    refine V_iconst (y := 0) X dL_restore_18 (by decide) ?_
    exact V.vx (V_iret X rfl dL_restore_19 (Nat.le_of_ble_eq_true rfl) (Nat.le_of_ble_eq_true rfl) w)
/-! AnimationControllerLaw.count(LAnimationController;I[J)I -/
abbrev rmL_count : Room := { frames := 7, cells := 1, slots := 6, locals := 111 }
def vL_count (t0 : Nat) (Qn : Int32 → gH → Prop) (h : gH) (v0 : Nat) (v1 : Int32) (v2 : Nat) : Prop := io h v0 14 (vX11_count t0 (fun x1 h1 => sl h1 v2 0 (Int32.toInt64 x1) (fun h2 => Qn 0 h2)) (fun E9 h9 => (E9 = "java/lang/IllegalArgumentException" ∧ Qn 1 h9)) h v0 v1)
set_option maxRecDepth 100000 in
set_option maxHeartbeats 4000000 in
theorem cL_count_ok {l : Launch} {G : gG} {h : gH} (hls : l.stackTraces = false) {Qn : Int32 → gH → Prop} {v0 : Nat} {v1 : Int32} {v2 : Nat} (w : vL_count G.2.2.1 Qn h v0 v1 v2) : gWi l yL_count cL_count 4 (some .int) [(0, 9, 12, 13)] rmL_count rmL_count.cells rmL_count.slots G h [.ref v0, .int v1, .ref v2] Qn := by
  obtain ⟨fs, hh, w⟩ := w
  refine gWi.of (by decide +kernel) hls (Nat.le_of_ble_eq_true rfl) (fun p e s m below meth c A X hT hN => ?_)
  show V p l e rmL_count s m _ below meth c _ G A 4 h 0 0 0 [(0, .ref v0), (1, .int v1), (2, .ref v2)] []
  refine V_aloadr_n X dL_count_0 2 rfl ?_
  refine V_iconst (y := 0) X dL_count_1 (by decide) ?_
  refine V_aloadr_n X dL_count_2 0 rfl ?_
  refine V_iload_n X dL_count_3 1 rfl ?_
  refine V_tryXi (As := [.int v1]) (rest := [.int 0, .ref v2]) (k1 := 1) (n1 := 6) X hT (cX11_count_ok X.2.2.2.2.2.2.2.2.1 w) lkL_116 hh (q9 := (RX11, TX11, 7)) rfl rfl dL_count_4 ⟨(Nat.le_of_ble_eq_true rfl), (Nat.le_of_ble_eq_true rfl)⟩ rfl (Nat.le_of_ble_eq_true rfl) ⟨(Nat.le_of_ble_eq_true rfl), (Nat.le_of_ble_eq_true rfl)⟩ (Nat.le_of_ble_eq_true rfl) (Nat.le_of_ble_eq_true rfl) (fun E9 h9 z9 => ?_) (fun x1 h1 w9 => ?_)
  · obtain ⟨rfl, w⟩ := z9
    exact ⟨[], ⟨0, 9, 12, 13⟩, [], "java/lang/IllegalArgumentException", rfl, (fun z hz => nomatch hz), by decide, by decide, kw_731, ku_739, fun q9 => by
        refine V_astore_n (i0 := 3) X dL_count_12 rfl (by decide) rfl ?_
        refine V_iconst (y := 1) X dL_count_13 (by decide) ?_
        exact V.vx (V_iret X rfl dL_count_14 (Nat.le_of_ble_eq_true rfl) (Nat.le_of_ble_eq_true rfl) w)⟩
  · refine V_i2l X dL_count_7 ?_
    obtain ⟨N9, g9, hh, hi, w⟩ := w9
    refine V_last X dL_count_8 hh hi ?_
    generalize va_up _ _ _ = h2 at w ⊢
    refine V_goto (tgt := 15) X dL_count_9 (by decide) ?_
    refine V_iconst (y := 0) X dL_count_15 (by decide) ?_
    exact V.vx (V_iret X rfl dL_count_16 (Nat.le_of_ble_eq_true rfl) (Nat.le_of_ble_eq_true rfl) w)
