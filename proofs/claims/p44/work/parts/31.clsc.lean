/-! AnimationController$Machine.addTrackPose(LAnimationController$Track;I)V -/
abbrev rmX3_addTrackPose : Room := { frames := 9, cells := 0, slots := 0, locals := 233 }
def vX3_addTrackPose_b21_o (t0 : Nat) (k21 : gH → Nat → Option Nat → Int32 → Prop) (Qn : gH → Prop) (h : gH) (v0 : Nat) (v1 : Option Nat) (v3 : Int32) : Prop := gr h v0 6 0 (fun r1 => nn r1 (fun a2 => gr h a2 7 2 (fun r3 => nn r3 (fun a4 => io h a4 2 (vJx4a65c_size_8abf5 t0 (fun x6 h5 => ((x6 ≤ (v3 : Int32)) → (Qn h5)) ∧ ((¬ x6 ≤ (v3 : Int32)) → (gr h5 v0 6 0 (fun r7 => nn r7 (fun a8 => gr h5 a8 7 2 (fun r9 => nn r9 (fun a10 => io h5 a10 2 (vJx4a65c_get_915e3 t0 (fun r12 h11 => nn r12 (fun a13 => io h11 a13 4 (gi h11 a13 4 1 (fun x14 => nn v1 (fun a15 => gi h11 a15 11 2 (fun x16 => ¬ (1000000 : Int64) = 0 ∧ (vJ9_min_f86c9 t0 (fun x18 h17 => gr h17 v0 6 12 (fun r19 => gr h17 v0 6 11 (fun r20 => nn r20 (fun a21 => io h17 a21 3 (vX0_weightOf t0 (fun x23 h22 => nn r19 (fun a24 => io h22 a24 9 (vX6_addEntry t0 (fun h25 => k21 h25 v0 (some a15) (v3 + 1)) h22 a24 v3 (Int64.toInt32 x18) x23))) h17 a21 v3))))) h11 (((Int32.toInt64 x16) * (Int32.toInt64 x14)) / 1000000) (Int32.toInt64 (x14 - 1))))))))) h5 a10 v3)))))))) h a4 )))))
set_option maxRecDepth 100000 in
set_option maxHeartbeats 4000000 in
theorem tX3_addTrackPose_b21_o {p : Program} {l : Launch} {e : Env} {s : State} {m : MethodId} {args : Array Value} {below : List Frame} {meth : Method} {c : Code} {G : gG} {A : Nat → Prop} {Qn : gH → Prop} (X : gC p l s m args meth c G A cX3_addTrackPose 6 none RX3) {k21 : gH → Nat → Option Nat → Int32 → Prop} (H21 : ∀ (h : gH) (v0 : Nat) (v1 : Option Nat) (v3 : Int32), k21 h v0 v1 v3 → V p l e rmX3_addTrackPose s m args below meth c (MQ below (va_Qv Qn (gB G A) A) args s rmX3_addTrackPose.cells rmX3_addTrackPose.slots A) G A 6 h 0 0 21 [(0, .ref v0), (1, va_rf v1), (3, .int v3)] []) {h : gH} {v0 : Nat} {v1 : Option Nat} {v3 : Int32} (w : vX3_addTrackPose_b21_o G.2.2.1 k21 Qn h v0 v1 v3) : V p l e rmX3_addTrackPose s m args below meth c (MQ below (va_Qv Qn (gB G A) A) args s rmX3_addTrackPose.cells rmX3_addTrackPose.slots A) G A 6 h 0 0 21 [(0, .ref v0), (1, va_rf v1), (3, .int v3)] [] := by
  refine V_iload_n X dX3_addTrackPose_21 2 rfl ?_
  refine V_aloadr_n X dX3_addTrackPose_22 0 rfl ?_
  obtain ⟨fs, r1, hh, hv, w⟩ := w
  refine V_get X flX3_39 dX3_addTrackPose_23 hh hv ?_
  obtain ⟨a2, rfl, w⟩ := w
  obtain ⟨fs, r3, hh, hv, w⟩ := w
  refine V_get3 X frX3_116 dX3_addTrackPose_26 hh hv ?_
  obtain ⟨a4, rfl, w⟩ := w
  obtain ⟨fs, hh, w⟩ := w
  refine V_callVi (As := []) (rest := [.int v3]) (k1 := 0) (n1 := 0) X (cJx4a65c_size_8abf5_ok X.2.2.2.2.2.2.2.2.1 w) lkX3_120 hh (q9 := (RJx4a65c, TJx4a65c, 3)) rfl rfl dX3_addTrackPose_29 ⟨Nat.le_of_ble_eq_true rfl, Nat.le_of_ble_eq_true rfl⟩ rfl (Nat.le_of_ble_eq_true rfl) ⟨Nat.le_of_ble_eq_true rfl, Nat.le_of_ble_eq_true rfl⟩ (Nat.le_of_ble_eq_true rfl) (Nat.le_of_ble_eq_true rfl) (fun x6 h5 w9 => ?_)
  replace w := w9
  clear w9
  obtain ⟨w1, w2⟩ := w
  refine V_icmp_ge (tgt := 102) X dX3_addTrackPose_32 (by decide) (fun z => ?_) (fun z => ?_)
  · replace w := w1 z
    clear w1 w2
    exact V_vret X rfl dX3_addTrackPose_102 (Nat.le_of_ble_eq_true rfl) (Nat.le_of_ble_eq_true rfl) w
  · replace w := w2 z
    clear w1 w2
    refine V_aloadr_n X dX3_addTrackPose_35 0 rfl ?_
    obtain ⟨fs, r7, hh, hv, w⟩ := w
    refine V_get X flX3_39 dX3_addTrackPose_36 hh hv ?_
    obtain ⟨a8, rfl, w⟩ := w
    obtain ⟨fs, r9, hh, hv, w⟩ := w
    refine V_get3 X frX3_116 dX3_addTrackPose_39 hh hv ?_
    refine V_iload_n X dX3_addTrackPose_42 2 rfl ?_
    obtain ⟨a10, rfl, w⟩ := w
    obtain ⟨fs, hh, w⟩ := w
    refine V_callVq (As := [.int v3]) (rest := []) (k1 := 0) (n1 := 0) X (cJx4a65c_get_915e3_ok X.2.2.2.2.2.2.2.2.1 w) lkX3_130 hh (q9 := (RJx4a65c, TJx4a65c, 3)) rfl rfl dX3_addTrackPose_43 ⟨Nat.le_of_ble_eq_true rfl, Nat.le_of_ble_eq_true rfl⟩ rfl (Nat.le_of_ble_eq_true rfl) ⟨Nat.le_of_ble_eq_true rfl, Nat.le_of_ble_eq_true rfl⟩ (Nat.le_of_ble_eq_true rfl) (Nat.le_of_ble_eq_true rfl) (fun r12 h11 w9 => ?_)
    replace w := w9
    clear w9
    obtain ⟨a13, rfl, w⟩ := w
    obtain ⟨fs, hh, w⟩ := w
    refine V_cast (q9 := (RX1, TX1, 5)) X kw_676 rfl rfl hh dX3_addTrackPose_46 ?_
    obtain ⟨fs, x14, hh, hv, w⟩ := w
    refine V_get3 X frX3_136 dX3_addTrackPose_49 hh hv ?_
    refine V_istore X dX3_addTrackPose_52 (by decide) rfl ?_
    refine V_aload_n X dX3_addTrackPose_54 2 rfl ?_
    obtain ⟨a15, rfl, w⟩ := w
    obtain ⟨fs, x16, hh, hv, w⟩ := w
    refine V_get X flX3_251 dX3_addTrackPose_55 hh hv ?_
    refine V_i2l X dX3_addTrackPose_58 ?_
    refine V_iload X dX3_addTrackPose_59 0 rfl ?_
    refine V_i2l X dX3_addTrackPose_61 ?_
    refine V_lmul X dX3_addTrackPose_62 ?_
    refine V_ldc2 (y := 1000000) X dX3_addTrackPose_63 kw_677 ?_
    obtain ⟨z0, w⟩ := w
    refine V_ldiv X dX3_addTrackPose_66 z0 ?_
    refine V_iload X dX3_addTrackPose_67 0 rfl ?_
    refine V_iconst (y := 1) X dX3_addTrackPose_69 (by decide) ?_
    refine V_isub X dX3_addTrackPose_70 ?_
    refine V_i2l X dX3_addTrackPose_71 ?_
    refine V_callSl (As := [.long (((Int32.toInt64 x16) * (Int32.toInt64 x14)) / 1000000), .long (Int32.toInt64 (x14 - 1))]) (rest := []) (k1 := 0) (n1 := 0) X (cJ9_min_f86c9_ok X.2.2.2.2.2.2.2.2.1 w) lkX3_328 dX3_addTrackPose_72 ⟨Nat.le_of_ble_eq_true rfl, Nat.le_of_ble_eq_true rfl⟩ rfl (Nat.le_of_ble_eq_true rfl) ⟨Nat.le_of_ble_eq_true rfl, Nat.le_of_ble_eq_true rfl⟩ (Nat.le_of_ble_eq_true rfl) (Nat.le_of_ble_eq_true rfl) (fun x18 h17 w9 => ?_)
    replace w := w9
    clear w9
    refine V_l2i X dX3_addTrackPose_75 ?_
    refine V_istore X dX3_addTrackPose_76 (by decide) rfl ?_
    refine V_aloadr_n X dX3_addTrackPose_78 2 rfl ?_
    obtain ⟨fs, r19, hh, hv, w⟩ := w
    refine V_get X flX3_36 dX3_addTrackPose_79 hh hv ?_
    refine V_iload_n X dX3_addTrackPose_82 4 rfl ?_
    refine V_iload X dX3_addTrackPose_83 0 rfl ?_
    refine V_aloadr_n X dX3_addTrackPose_85 2 rfl ?_
    obtain ⟨fs, r20, hh, hv, w⟩ := w
    refine V_get X flX3_32 dX3_addTrackPose_86 hh hv ?_
    refine V_iload_n X dX3_addTrackPose_89 4 rfl ?_
    obtain ⟨a21, rfl, w⟩ := w
    obtain ⟨fs, hh, w⟩ := w
    refine V_callVi (As := [.int v3]) (rest := [.int (Int64.toInt32 x18), .int v3, va_rf r19]) (k1 := 0) (n1 := 0) X (cX0_weightOf_ok X.2.2.2.2.2.2.2.2.1 w) lkX3_126 hh (q9 := (RX0, TX0, 1)) rfl rfl dX3_addTrackPose_90 ⟨Nat.le_of_ble_eq_true rfl, Nat.le_of_ble_eq_true rfl⟩ rfl (va_len _ 4 (Nat.le_of_ble_eq_true rfl)) ⟨Nat.le_of_ble_eq_true rfl, Nat.le_of_ble_eq_true rfl⟩ (Nat.le_of_ble_eq_true rfl) (Nat.le_of_ble_eq_true rfl) (fun x23 h22 w9 => ?_)
    replace w := w9
    clear w9
    obtain ⟨a24, rfl, w⟩ := w
    obtain ⟨fs, hh, w⟩ := w
    refine V_callVv (As := [.int v3, .int (Int64.toInt32 x18), .int x23]) (rest := []) (k1 := 0) (n1 := 0) X (cX6_addEntry_ok X.2.2.2.2.2.2.2.2.1 w) lkX3_330 hh (q9 := (RX6, TX6, 4)) rfl rfl dX3_addTrackPose_93 ⟨Nat.le_of_ble_eq_true rfl, Nat.le_of_ble_eq_true rfl⟩ rfl (Nat.le_of_ble_eq_true rfl) ⟨Nat.le_of_ble_eq_true rfl, Nat.le_of_ble_eq_true rfl⟩ (Nat.le_of_ble_eq_true rfl) (Nat.le_of_ble_eq_true rfl) (fun h25 w9 => ?_)
    replace w := w9
    clear w9
    refine V_iinc (y := (v3 + 1)) X dX3_addTrackPose_96 4 rfl (by first | rfl | (congr 1)) (by decide) rfl ?_
    refine V_goto (tgt := 21) X dX3_addTrackPose_99 (by decide) ?_
    exact V.sub [3, 4, 0] rfl (H21 _ _ _ _ w)
def vX3_addTrackPose_b21 (t0 : Nat)  (Qn : gH → Prop) (n : Nat) : gH → Nat → Option Nat → Int32 → Prop := Nat.rec (motive := fun _ => gH → Nat → Option Nat → Int32 → Prop) (fun _ _ _ _ => False) (fun _ k21 => vX3_addTrackPose_b21_o t0 k21 Qn) n
theorem tX3_addTrackPose_b21 {p : Program} {l : Launch} {e : Env} {s : State} {m : MethodId} {args : Array Value} {below : List Frame} {meth : Method} {c : Code} {G : gG} {A : Nat → Prop} {Qn : gH → Prop} (X : gC p l s m args meth c G A cX3_addTrackPose 6 none RX3)   : ∀ (n : Nat) (h : gH) (v0 : Nat) (v1 : Option Nat) (v3 : Int32) (w : vX3_addTrackPose_b21 G.2.2.1  Qn n h v0 v1 v3), V p l e rmX3_addTrackPose s m args below meth c (MQ below (va_Qv Qn (gB G A) A) args s rmX3_addTrackPose.cells rmX3_addTrackPose.slots A) G A 6 h 0 0 21 [(0, .ref v0), (1, va_rf v1), (3, .int v3)] [] := by
  intro n
  induction n with
  | zero => intro h v0 v1 v3 w; exact False.elim w
  | succ n ih => intro h v0 v1 v3 w; exact tX3_addTrackPose_b21_o X ih w
def vX3_addTrackPose (t0 : Nat)  (Qn : gH → Prop) (h : gH) (v0 : Nat) (v1 : Option Nat) (v2 : Int32) : Prop := gr h v0 6 11 (fun r1 => nn v1 (fun a2 => gr h a2 11 0 (fun r3 => nn r3 (fun a4 => gr h a4 10 1 (fun r5 => gr h v0 6 1 (fun r6 => nn r1 (fun a7 => io h a7 3 (vX0_fill t0 (fun h8 => ∃ n : Nat, vX3_addTrackPose_b21 t0  Qn n h8 v0 (some a2) 0) h a7 r5 v2 r6))))))))
set_option maxRecDepth 100000 in
set_option maxHeartbeats 4000000 in
theorem tX3_addTrackPose {p : Program} {l : Launch} {e : Env} {s : State} {m : MethodId} {args : Array Value} {below : List Frame} {meth : Method} {c : Code} {G : gG} {A : Nat → Prop} {Qn : gH → Prop} (X : gC p l s m args meth c G A cX3_addTrackPose 6 none RX3)   {h : gH} {v0 : Nat} {v1 : Option Nat} {v2 : Int32} (w : vX3_addTrackPose G.2.2.1  Qn h v0 v1 v2) : V p l e rmX3_addTrackPose s m args below meth c (MQ below (va_Qv Qn (gB G A) A) args s rmX3_addTrackPose.cells rmX3_addTrackPose.slots A) G A 6 h 0 0 0 [(0, .ref v0), (1, va_rf v1), (2, .int v2)] [] := by
  refine V_aloadr_n X dX3_addTrackPose_0 0 rfl ?_
  obtain ⟨fs, r1, hh, hv, w⟩ := w
  refine V_get X flX3_32 dX3_addTrackPose_1 hh hv ?_
  refine V_aload_n X dX3_addTrackPose_4 1 rfl ?_
  obtain ⟨a2, rfl, w⟩ := w
  obtain ⟨fs, r3, hh, hv, w⟩ := w
  refine V_get X flX3_187 dX3_addTrackPose_5 hh hv ?_
  obtain ⟨a4, rfl, w⟩ := w
  obtain ⟨fs, r5, hh, hv, w⟩ := w
  refine V_get3 X frX3_105 dX3_addTrackPose_8 hh hv ?_
  refine V_iload_n X dX3_addTrackPose_11 2 rfl ?_
  refine V_aloadr_n X dX3_addTrackPose_12 0 rfl ?_
  obtain ⟨fs, r6, hh, hv, w⟩ := w
  refine V_get X flX3_9 dX3_addTrackPose_13 hh hv ?_
  obtain ⟨a7, rfl, w⟩ := w
  obtain ⟨fs, hh, w⟩ := w
  refine V_callVv (As := [va_rf r5, .int v2, va_rf r6]) (rest := []) (k1 := 0) (n1 := 0) X (cX0_fill_ok X.2.2.2.2.2.2.2.2.1 w) lkX3_112 hh (q9 := (RX0, TX0, 1)) rfl rfl dX3_addTrackPose_16 ⟨Nat.le_of_ble_eq_true rfl, Nat.le_of_ble_eq_true rfl⟩ rfl (Nat.le_of_ble_eq_true rfl) ⟨Nat.le_of_ble_eq_true rfl, Nat.le_of_ble_eq_true rfl⟩ (Nat.le_of_ble_eq_true rfl) (Nat.le_of_ble_eq_true rfl) (fun h8 w9 => ?_)
  replace w := w9
  clear w9
  refine V_iconst (y := 0) X dX3_addTrackPose_19 (by decide) ?_
  refine V_istore_n (i0 := 3) X dX3_addTrackPose_20 rfl (by decide) rfl ?_
  obtain ⟨n9, w⟩ := w
  exact V.sub [1, 2, 0] rfl (tX3_addTrackPose_b21 X  n9 _ _ _ _ w)
theorem cX3_addTrackPose_ok {l : Launch} {G : gG} {h : gH} (hls : l.stackTraces = false) {Qn : gH → Prop} {v0 : Nat} {v1 : Option Nat} {v2 : Int32} (w : vX3_addTrackPose G.2.2.1 Qn h v0 v1 v2) : gMv l yX3_addTrackPose cX3_addTrackPose 6 none rmX3_addTrackPose rmX3_addTrackPose.cells rmX3_addTrackPose.slots G h [.ref v0, va_rf v1, .int v2] Qn := by
  cases v1 <;>
  exact gMv.of (by decide +kernel) hls (Nat.le_of_ble_eq_true rfl) rfl rfl (fun p e s m below meth c A X hnm => tX3_addTrackPose X w)
/-! AnimationController$Machine.targetShare()I -/
abbrev rmX3_targetShare : Room := { frames := 0, cells := 0, slots := 0, locals := 0 }
def vX3_targetShare_b17 (t0 : Nat)  (Qn : Int32 → gH → Prop) (h : gH)  : Prop := Qn 1000000 h
set_option maxRecDepth 100000 in
set_option maxHeartbeats 4000000 in
theorem tX3_targetShare_b17 {p : Program} {l : Launch} {e : Env} {s : State} {m : MethodId} {args : Array Value} {below : List Frame} {meth : Method} {c : Code} {G : gG} {A : Nat → Prop} {Qn : Int32 → gH → Prop} (X : gC p l s m args meth c G A cX3_targetShare 1 (some FieldType.int) RX3)   {h : gH}  (w : vX3_targetShare_b17 G.2.2.1  Qn h ) : V p l e rmX3_targetShare s m args below meth c (MQ below (va_Qi Qn (gB G A) A) args s rmX3_targetShare.cells rmX3_targetShare.slots A) G A 1 h 0 0 17 [] [] := by
  refine V_ldc (y := 1000000) X dX3_targetShare_17 kw_651 ?_
  exact V_iret X rfl dX3_targetShare_19 (Nat.le_of_ble_eq_true rfl) (Nat.le_of_ble_eq_true rfl) w
def vX3_targetShare (t0 : Nat)  (Qn : Int32 → gH → Prop) (h : gH) (v0 : Nat) : Prop := gr h v0 6 4 (fun r1 => ((r1) = none → (vX3_targetShare_b17 t0  Qn h )) ∧ (∀ a2 : Nat, (r1) = some a2 → (gr h v0 6 4 (fun r3 => nn r3 (fun a4 => gi h a4 12 3 (fun x5 => ((0 < (x5 : Int32)) → (gi h v0 6 5 (fun x6 => gr h v0 6 4 (fun r7 => nn r7 (fun a8 => gi h a8 12 3 (fun x9 => ¬ ((Int32.toInt64 x9) : Int64) = 0 ∧ (Qn (Int64.toInt32 ((1000000 * (Int32.toInt64 x6)) / (Int32.toInt64 x9))) h))))))) ∧ ((¬ 0 < (x5 : Int32)) → (vX3_targetShare_b17 t0  Qn h ))))))))
set_option maxRecDepth 100000 in
set_option maxHeartbeats 4000000 in
theorem tX3_targetShare {p : Program} {l : Launch} {e : Env} {s : State} {m : MethodId} {args : Array Value} {below : List Frame} {meth : Method} {c : Code} {G : gG} {A : Nat → Prop} {Qn : Int32 → gH → Prop} (X : gC p l s m args meth c G A cX3_targetShare 1 (some FieldType.int) RX3)   {h : gH} {v0 : Nat} (w : vX3_targetShare G.2.2.1  Qn h v0) : V p l e rmX3_targetShare s m args below meth c (MQ below (va_Qi Qn (gB G A) A) args s rmX3_targetShare.cells rmX3_targetShare.slots A) G A 1 h 0 0 0 [(0, .ref v0)] [] := by
  refine V_aloadr_n X dX3_targetShare_0 0 rfl ?_
  obtain ⟨fs, r1, hh, hv, w⟩ := w
  refine V_get X flX3_71 dX3_targetShare_1 hh hv ?_
  obtain ⟨w1, w2⟩ := w
  refine V_ifnull (tgt := 17) X dX3_targetShare_4 (by decide) (fun z => ?_) (fun a2 z => ?_)
  · replace w := w1 z
    clear w1 w2
    subst z
    exact V.sub [] rfl (tX3_targetShare_b17 X  w)
  · replace w := w2 a2 z
    clear w1 w2
    subst z
    refine V_aloadr_n X dX3_targetShare_7 0 rfl ?_
    obtain ⟨fs, r3, hh, hv, w⟩ := w
    refine V_get X flX3_71 dX3_targetShare_8 hh hv ?_
    obtain ⟨a4, rfl, w⟩ := w
    obtain ⟨fs, x5, hh, hv, w⟩ := w
    refine V_get X flX3_158 dX3_targetShare_11 hh hv ?_
    obtain ⟨w1, w2⟩ := w
    refine V_if_gt (tgt := 20) X dX3_targetShare_14 (by decide) (fun z => ?_) (fun z => ?_)
    · replace w := w1 z
      clear w1 w2
      refine V_ldc2 (y := 1000000) X dX3_targetShare_20 kw_677 ?_
      refine V_aloadr_n X dX3_targetShare_23 0 rfl ?_
      obtain ⟨fs, x6, hh, hv, w⟩ := w
      refine V_get X flX3_75 dX3_targetShare_24 hh hv ?_
      refine V_i2l X dX3_targetShare_27 ?_
      refine V_lmul X dX3_targetShare_28 ?_
      refine V_aloadr_n X dX3_targetShare_29 0 rfl ?_
      obtain ⟨fs, r7, hh, hv, w⟩ := w
      refine V_get X flX3_71 dX3_targetShare_30 hh hv ?_
      obtain ⟨a8, rfl, w⟩ := w
      obtain ⟨fs, x9, hh, hv, w⟩ := w
      refine V_get X flX3_158 dX3_targetShare_33 hh hv ?_
      refine V_i2l X dX3_targetShare_36 ?_
      obtain ⟨z0, w⟩ := w
      refine V_ldiv X dX3_targetShare_37 z0 ?_
      refine V_l2i X dX3_targetShare_38 ?_
      exact V_iret X rfl dX3_targetShare_39 (Nat.le_of_ble_eq_true rfl) (Nat.le_of_ble_eq_true rfl) w
    · replace w := w2 z
      clear w1 w2
      exact V.sub [] rfl (tX3_targetShare_b17 X  w)
theorem cX3_targetShare_ok {l : Launch} {G : gG} {h : gH} (hls : l.stackTraces = false) {Qn : Int32 → gH → Prop} {v0 : Nat} (w : vX3_targetShare G.2.2.1 Qn h v0) : gMi l yX3_targetShare cX3_targetShare 1 (some FieldType.int) rmX3_targetShare rmX3_targetShare.cells rmX3_targetShare.slots G h [.ref v0] Qn := by
  exact gMi.of (by decide +kernel) hls (Nat.le_of_ble_eq_true rfl) rfl rfl (fun p e s m below meth c A X hnm => tX3_targetShare X w)
/-! AnimationController$Pose.addFrozen(LAnimationController$Pose;I)V -/
abbrev rmX6_addFrozen : Room := { frames := 2, cells := 0, slots := 0, locals := 48 }
def vX6_addFrozen_b120 (t0 : Nat)  (Qn : gH → Prop) (h : gH)  : Prop := Qn h
set_option maxRecDepth 100000 in
set_option maxHeartbeats 4000000 in
theorem tX6_addFrozen_b120 {p : Program} {l : Launch} {e : Env} {s : State} {m : MethodId} {args : Array Value} {below : List Frame} {meth : Method} {c : Code} {G : gG} {A : Nat → Prop} {Qn : gH → Prop} (X : gC p l s m args meth c G A cX6_addFrozen 8 none RX6)   {h : gH}  (w : vX6_addFrozen_b120 G.2.2.1  Qn h ) : V p l e rmX6_addFrozen s m args below meth c (MQ below (va_Qv Qn (gB G A) A) args s rmX6_addFrozen.cells rmX6_addFrozen.slots A) G A 8 h 0 0 120 [] [] := by
  exact V_vret X rfl dX6_addFrozen_120 (Nat.le_of_ble_eq_true rfl) (Nat.le_of_ble_eq_true rfl) w
def vX6_addFrozen_b93 (t0 : Nat) (k49 : gH → Nat → Option Nat → Int32 → Int64 → Int32 → Prop) (Qn : gH → Prop) (h : gH) (v0 : Nat) (v1 : Option Nat) (v2 : Int32) (v3 : Int64) (v5 : Int32) (v6 : Int64) : Prop := nn v1 (fun a1 => gr h a1 9 0 (fun r2 => nn r2 (fun a3 => li h a3 v5 (fun x4 => gr h a1 9 1 (fun r5 => nn r5 (fun a6 => li h a6 v5 (fun x7 => io h v0 9 (vX6_addEntry t0 (fun h8 => k49 h8 v0 (some a1) v2 v3 (v5 + 1)) h v0 x4 x7 (Int64.toInt32 v6)))))))))
set_option maxRecDepth 100000 in
set_option maxHeartbeats 4000000 in
theorem tX6_addFrozen_b93 {p : Program} {l : Launch} {e : Env} {s : State} {m : MethodId} {args : Array Value} {below : List Frame} {meth : Method} {c : Code} {G : gG} {A : Nat → Prop} {Qn : gH → Prop} (X : gC p l s m args meth c G A cX6_addFrozen 8 none RX6) {k49 : gH → Nat → Option Nat → Int32 → Int64 → Int32 → Prop} (H49 : ∀ (h : gH) (v0 : Nat) (v1 : Option Nat) (v2 : Int32) (v3 : Int64) (v5 : Int32), k49 h v0 v1 v2 v3 v5 → V p l e rmX6_addFrozen s m args below meth c (MQ below (va_Qv Qn (gB G A) A) args s rmX6_addFrozen.cells rmX6_addFrozen.slots A) G A 8 h 0 0 49 [(0, .ref v0), (1, va_rf v1), (2, .int v2), (3, .long v3), (5, .int v5)] []) {h : gH} {v0 : Nat} {v1 : Option Nat} {v2 : Int32} {v3 : Int64} {v5 : Int32} {v6 : Int64} (w : vX6_addFrozen_b93 G.2.2.1 k49 Qn h v0 v1 v2 v3 v5 v6) : V p l e rmX6_addFrozen s m args below meth c (MQ below (va_Qv Qn (gB G A) A) args s rmX6_addFrozen.cells rmX6_addFrozen.slots A) G A 8 h 0 0 93 [(0, .ref v0), (1, va_rf v1), (2, .int v2), (3, .long v3), (5, .int v5), (6, .long v6)] [] := by
  refine V_aloadr_n X dX6_addFrozen_93 0 rfl ?_
  refine V_aload_n X dX6_addFrozen_94 1 rfl ?_
  obtain ⟨a1, rfl, w⟩ := w
  obtain ⟨fs, r2, hh, hv, w⟩ := w
  refine V_get X flX6_9 dX6_addFrozen_95 hh hv ?_
  refine V_iload X dX6_addFrozen_98 4 rfl ?_
  obtain ⟨a3, rfl, w⟩ := w
  obtain ⟨N9, g9, hh, hi, w⟩ := w
  refine V_iald X dX6_addFrozen_100 hh hi ?_
  generalize g9 _ = x4 at w ⊢
  refine V_aloadr_n X dX6_addFrozen_101 1 rfl ?_
  obtain ⟨fs, r5, hh, hv, w⟩ := w
  refine V_get X flX6_15 dX6_addFrozen_102 hh hv ?_
  refine V_iload X dX6_addFrozen_105 4 rfl ?_
  obtain ⟨a6, rfl, w⟩ := w
  obtain ⟨N9, g9, hh, hi, w⟩ := w
  refine V_iald X dX6_addFrozen_107 hh hi ?_
  generalize g9 _ = x7 at w ⊢
  refine V_lload X dX6_addFrozen_108 5 rfl ?_
  refine V_l2i X dX6_addFrozen_110 ?_
  obtain ⟨fs, hh, w⟩ := w
  refine V_callVv (As := [.int x4, .int x7, .int (Int64.toInt32 v6)]) (rest := []) (k1 := 0) (n1 := 0) X (cX6_addEntry_ok X.2.2.2.2.2.2.2.2.1 w) lkX6_37 hh (q9 := (RX6, TX6, 4)) rfl rfl dX6_addFrozen_111 ⟨Nat.le_of_ble_eq_true rfl, Nat.le_of_ble_eq_true rfl⟩ rfl (Nat.le_of_ble_eq_true rfl) ⟨Nat.le_of_ble_eq_true rfl, Nat.le_of_ble_eq_true rfl⟩ (Nat.le_of_ble_eq_true rfl) (Nat.le_of_ble_eq_true rfl) (fun h8 w9 => ?_)
  replace w := w9
  clear w9
  refine V_iinc (y := (v5 + 1)) X dX6_addFrozen_114 4 rfl (by first | rfl | (congr 1)) (by decide) rfl ?_
  refine V_goto (tgt := 49) X dX6_addFrozen_117 (by decide) ?_
  exact V.sub [1, 2, 3, 4, 0] rfl (H49 _ _ _ _ _ _ w)
def vX6_addFrozen_b49_o (t0 : Nat) (k49 : gH → Nat → Option Nat → Int32 → Int64 → Int32 → Prop) (Qn : gH → Prop) (h : gH) (v0 : Nat) (v1 : Option Nat) (v2 : Int32) (v3 : Int64) (v5 : Int32) : Prop := nn v1 (fun a1 => gi h a1 9 3 (fun x2 => ((x2 ≤ (v5 : Int32)) → (vX6_addFrozen_b120 t0  Qn h )) ∧ ((¬ x2 ≤ (v5 : Int32)) → (((32 ≤ (v5 : Int32)) → (vX6_addFrozen_b120 t0  Qn h )) ∧ ((¬ 32 ≤ (v5 : Int32)) → (gr h a1 9 2 (fun r3 => nn r3 (fun a4 => li h a4 v5 (fun x5 => ¬ (1000000 : Int64) = 0 ∧ (((¬ (v5 : Int32) = 0) → (vX6_addFrozen_b93 t0 k49 Qn h v0 (some a1) v2 v3 v5 (((Int32.toInt64 x5) * (Int32.toInt64 v2)) / 1000000))) ∧ (((v5 : Int32) = 0) → (vX6_addFrozen_b93 t0 k49 Qn h v0 (some a1) v2 v3 v5 ((((Int32.toInt64 x5) * (Int32.toInt64 v2)) / 1000000) + v3)))))))))))))
set_option maxRecDepth 100000 in
set_option maxHeartbeats 4000000 in
theorem tX6_addFrozen_b49_o {p : Program} {l : Launch} {e : Env} {s : State} {m : MethodId} {args : Array Value} {below : List Frame} {meth : Method} {c : Code} {G : gG} {A : Nat → Prop} {Qn : gH → Prop} (X : gC p l s m args meth c G A cX6_addFrozen 8 none RX6) {k49 : gH → Nat → Option Nat → Int32 → Int64 → Int32 → Prop} (H49 : ∀ (h : gH) (v0 : Nat) (v1 : Option Nat) (v2 : Int32) (v3 : Int64) (v5 : Int32), k49 h v0 v1 v2 v3 v5 → V p l e rmX6_addFrozen s m args below meth c (MQ below (va_Qv Qn (gB G A) A) args s rmX6_addFrozen.cells rmX6_addFrozen.slots A) G A 8 h 0 0 49 [(0, .ref v0), (1, va_rf v1), (2, .int v2), (3, .long v3), (5, .int v5)] []) {h : gH} {v0 : Nat} {v1 : Option Nat} {v2 : Int32} {v3 : Int64} {v5 : Int32} (w : vX6_addFrozen_b49_o G.2.2.1 k49 Qn h v0 v1 v2 v3 v5) : V p l e rmX6_addFrozen s m args below meth c (MQ below (va_Qv Qn (gB G A) A) args s rmX6_addFrozen.cells rmX6_addFrozen.slots A) G A 8 h 0 0 49 [(0, .ref v0), (1, va_rf v1), (2, .int v2), (3, .long v3), (5, .int v5)] [] := by
  refine V_iload X dX6_addFrozen_49 4 rfl ?_
  refine V_aload_n X dX6_addFrozen_51 1 rfl ?_
  obtain ⟨a1, rfl, w⟩ := w
  obtain ⟨fs, x2, hh, hv, w⟩ := w
  refine V_get X flX6_21 dX6_addFrozen_52 hh hv ?_
  obtain ⟨w1, w2⟩ := w
  refine V_icmp_ge (tgt := 120) X dX6_addFrozen_55 (by decide) (fun z => ?_) (fun z => ?_)
  · replace w := w1 z
    clear w1 w2
    exact V.sub [] rfl (tX6_addFrozen_b120 X  w)
  · replace w := w2 z
    clear w1 w2
    refine V_iload X dX6_addFrozen_58 4 rfl ?_
    refine V_bipush (y := 32) X dX6_addFrozen_60 (by decide) ?_
    obtain ⟨w1, w2⟩ := w
    refine V_icmp_ge (tgt := 120) X dX6_addFrozen_62 (by decide) (fun z => ?_) (fun z => ?_)
    · replace w := w1 z
      clear w1 w2
      exact V.sub [] rfl (tX6_addFrozen_b120 X  w)
    · replace w := w2 z
      clear w1 w2
      refine V_aloadr_n X dX6_addFrozen_65 1 rfl ?_
      obtain ⟨fs, r3, hh, hv, w⟩ := w
      refine V_get X flX6_18 dX6_addFrozen_66 hh hv ?_
      refine V_iload X dX6_addFrozen_69 4 rfl ?_
      obtain ⟨a4, rfl, w⟩ := w
      obtain ⟨N9, g9, hh, hi, w⟩ := w
      refine V_iald X dX6_addFrozen_71 hh hi ?_
      generalize g9 _ = x5 at w ⊢
      refine V_i2l X dX6_addFrozen_72 ?_
      refine V_iload_n X dX6_addFrozen_73 2 rfl ?_
      refine V_i2l X dX6_addFrozen_74 ?_
      refine V_lmul X dX6_addFrozen_75 ?_
      refine V_ldc2 (y := 1000000) X dX6_addFrozen_76 kw_701 ?_
      obtain ⟨z0, w⟩ := w
      refine V_ldiv X dX6_addFrozen_79 z0 ?_
      refine V_lstore X dX6_addFrozen_80 (by decide) rfl ?_
      refine V_iload X dX6_addFrozen_82 5 rfl ?_
      obtain ⟨w1, w2⟩ := w
      refine V_if_ne (tgt := 93) X dX6_addFrozen_84 (by decide) (fun z => ?_) (fun z => ?_)
      · replace w := w1 z
        clear w1 w2
        exact V.sub [1, 2, 3, 4, 5, 0] rfl (tX6_addFrozen_b93 X H49 w)
      · replace w := w2 z
        clear w1 w2
        refine V_lload X dX6_addFrozen_87 0 rfl ?_
        refine V_lload_n X dX6_addFrozen_89 4 rfl ?_
        refine V_ladd X dX6_addFrozen_90 ?_
        refine V_lstore X dX6_addFrozen_91 (by decide) rfl ?_
        exact V.sub [1, 2, 3, 4, 5, 0] rfl (tX6_addFrozen_b93 X H49 w)
def vX6_addFrozen_b49 (t0 : Nat)  (Qn : gH → Prop) (n : Nat) : gH → Nat → Option Nat → Int32 → Int64 → Int32 → Prop := Nat.rec (motive := fun _ => gH → Nat → Option Nat → Int32 → Int64 → Int32 → Prop) (fun _ _ _ _ _ _ => False) (fun _ k49 => vX6_addFrozen_b49_o t0 k49 Qn) n
theorem tX6_addFrozen_b49 {p : Program} {l : Launch} {e : Env} {s : State} {m : MethodId} {args : Array Value} {below : List Frame} {meth : Method} {c : Code} {G : gG} {A : Nat → Prop} {Qn : gH → Prop} (X : gC p l s m args meth c G A cX6_addFrozen 8 none RX6)   : ∀ (n : Nat) (h : gH) (v0 : Nat) (v1 : Option Nat) (v2 : Int32) (v3 : Int64) (v5 : Int32) (w : vX6_addFrozen_b49 G.2.2.1  Qn n h v0 v1 v2 v3 v5), V p l e rmX6_addFrozen s m args below meth c (MQ below (va_Qv Qn (gB G A) A) args s rmX6_addFrozen.cells rmX6_addFrozen.slots A) G A 8 h 0 0 49 [(0, .ref v0), (1, va_rf v1), (2, .int v2), (3, .long v3), (5, .int v5)] [] := by
  intro n
  induction n with
  | zero => intro h v0 v1 v2 v3 v5 w; exact False.elim w
  | succ n ih => intro h v0 v1 v2 v3 v5 w; exact tX6_addFrozen_b49_o X ih w
def vX6_addFrozen_b46 (t0 : Nat)  (Qn : gH → Prop) (h : gH) (v0 : Nat) (v1 : Option Nat) (v2 : Int32) (v3 : Int64) : Prop := ∃ n : Nat, vX6_addFrozen_b49 t0  Qn n h v0 v1 v2 v3 0
set_option maxRecDepth 100000 in
set_option maxHeartbeats 4000000 in
theorem tX6_addFrozen_b46 {p : Program} {l : Launch} {e : Env} {s : State} {m : MethodId} {args : Array Value} {below : List Frame} {meth : Method} {c : Code} {G : gG} {A : Nat → Prop} {Qn : gH → Prop} (X : gC p l s m args meth c G A cX6_addFrozen 8 none RX6)   {h : gH} {v0 : Nat} {v1 : Option Nat} {v2 : Int32} {v3 : Int64} (w : vX6_addFrozen_b46 G.2.2.1  Qn h v0 v1 v2 v3) : V p l e rmX6_addFrozen s m args below meth c (MQ below (va_Qv Qn (gB G A) A) args s rmX6_addFrozen.cells rmX6_addFrozen.slots A) G A 8 h 0 0 46 [(0, .ref v0), (1, va_rf v1), (2, .int v2), (3, .long v3)] [] := by
  refine V_iconst (y := 0) X dX6_addFrozen_46 (by decide) ?_
  refine V_istore X dX6_addFrozen_47 (by decide) rfl ?_
  obtain ⟨n9, w⟩ := w
  exact V.sub [1, 2, 3, 4, 0] rfl (tX6_addFrozen_b49 X  n9 _ _ _ _ _ _ w)
def vX6_addFrozen_b6_o (t0 : Nat) (k6 : gH → Nat → Option Nat → Int32 → Int64 → Int32 → Prop) (Qn : gH → Prop) (h : gH) (v0 : Nat) (v1 : Option Nat) (v2 : Int32) (v3 : Int64) (v5 : Int32) : Prop := nn v1 (fun a1 => gi h a1 9 3 (fun x2 => ((x2 ≤ (v5 : Int32)) → (vX6_addFrozen_b46 t0  Qn h v0 (some a1) v2 v3)) ∧ ((¬ x2 ≤ (v5 : Int32)) → (((32 ≤ (v5 : Int32)) → (vX6_addFrozen_b46 t0  Qn h v0 (some a1) v2 v3)) ∧ ((¬ 32 ≤ (v5 : Int32)) → (gr h a1 9 2 (fun r3 => nn r3 (fun a4 => li h a4 v5 (fun x5 => ¬ (1000000 : Int64) = 0 ∧ (k6 h v0 (some a1) v2 (v3 - (((Int32.toInt64 x5) * (Int32.toInt64 v2)) / 1000000)) (v5 + 1)))))))))))
set_option maxRecDepth 100000 in
set_option maxHeartbeats 4000000 in
theorem tX6_addFrozen_b6_o {p : Program} {l : Launch} {e : Env} {s : State} {m : MethodId} {args : Array Value} {below : List Frame} {meth : Method} {c : Code} {G : gG} {A : Nat → Prop} {Qn : gH → Prop} (X : gC p l s m args meth c G A cX6_addFrozen 8 none RX6) {k6 : gH → Nat → Option Nat → Int32 → Int64 → Int32 → Prop} (H6 : ∀ (h : gH) (v0 : Nat) (v1 : Option Nat) (v2 : Int32) (v3 : Int64) (v5 : Int32), k6 h v0 v1 v2 v3 v5 → V p l e rmX6_addFrozen s m args below meth c (MQ below (va_Qv Qn (gB G A) A) args s rmX6_addFrozen.cells rmX6_addFrozen.slots A) G A 8 h 0 0 6 [(0, .ref v0), (1, va_rf v1), (2, .int v2), (3, .long v3), (5, .int v5)] []) {h : gH} {v0 : Nat} {v1 : Option Nat} {v2 : Int32} {v3 : Int64} {v5 : Int32} (w : vX6_addFrozen_b6_o G.2.2.1 k6 Qn h v0 v1 v2 v3 v5) : V p l e rmX6_addFrozen s m args below meth c (MQ below (va_Qv Qn (gB G A) A) args s rmX6_addFrozen.cells rmX6_addFrozen.slots A) G A 8 h 0 0 6 [(0, .ref v0), (1, va_rf v1), (2, .int v2), (3, .long v3), (5, .int v5)] [] := by
  refine V_iload X dX6_addFrozen_6 4 rfl ?_
  refine V_aload_n X dX6_addFrozen_8 1 rfl ?_
  obtain ⟨a1, rfl, w⟩ := w
  obtain ⟨fs, x2, hh, hv, w⟩ := w
  refine V_get X flX6_21 dX6_addFrozen_9 hh hv ?_
  obtain ⟨w1, w2⟩ := w
  refine V_icmp_ge (tgt := 46) X dX6_addFrozen_12 (by decide) (fun z => ?_) (fun z => ?_)
  · replace w := w1 z
    clear w1 w2
    exact V.sub [0, 1, 2, 3] rfl (tX6_addFrozen_b46 X  w)
  · replace w := w2 z
    clear w1 w2
    refine V_iload X dX6_addFrozen_15 4 rfl ?_
    refine V_bipush (y := 32) X dX6_addFrozen_17 (by decide) ?_
    obtain ⟨w1, w2⟩ := w
    refine V_icmp_ge (tgt := 46) X dX6_addFrozen_19 (by decide) (fun z => ?_) (fun z => ?_)
    · replace w := w1 z
      clear w1 w2
      exact V.sub [0, 1, 2, 3] rfl (tX6_addFrozen_b46 X  w)
    · replace w := w2 z
      clear w1 w2
      refine V_lload_n X dX6_addFrozen_22 3 rfl ?_
      refine V_aloadr_n X dX6_addFrozen_23 1 rfl ?_
      obtain ⟨fs, r3, hh, hv, w⟩ := w
      refine V_get X flX6_18 dX6_addFrozen_24 hh hv ?_
      refine V_iload X dX6_addFrozen_27 4 rfl ?_
      obtain ⟨a4, rfl, w⟩ := w
      obtain ⟨N9, g9, hh, hi, w⟩ := w
      refine V_iald X dX6_addFrozen_29 hh hi ?_
      generalize g9 _ = x5 at w ⊢
      refine V_i2l X dX6_addFrozen_30 ?_
      refine V_iload_n X dX6_addFrozen_31 2 rfl ?_
      refine V_i2l X dX6_addFrozen_32 ?_
      refine V_lmul X dX6_addFrozen_33 ?_
      refine V_ldc2 (y := 1000000) X dX6_addFrozen_34 kw_701 ?_
      obtain ⟨z0, w⟩ := w
      refine V_ldiv X dX6_addFrozen_37 z0 ?_
      refine V_lsub X dX6_addFrozen_38 ?_
      refine V_lstore_n (i0 := 3) X dX6_addFrozen_39 rfl (by decide) rfl ?_
      refine V_iinc (y := (v5 + 1)) X dX6_addFrozen_40 4 rfl (by first | rfl | (congr 1)) (by decide) rfl ?_
      refine V_goto (tgt := 6) X dX6_addFrozen_43 (by decide) ?_
      exact V.sub [2, 3, 4, 1, 0] rfl (H6 _ _ _ _ _ _ w)
def vX6_addFrozen_b6 (t0 : Nat)  (Qn : gH → Prop) (n : Nat) : gH → Nat → Option Nat → Int32 → Int64 → Int32 → Prop := Nat.rec (motive := fun _ => gH → Nat → Option Nat → Int32 → Int64 → Int32 → Prop) (fun _ _ _ _ _ _ => False) (fun _ k6 => vX6_addFrozen_b6_o t0 k6 Qn) n
theorem tX6_addFrozen_b6 {p : Program} {l : Launch} {e : Env} {s : State} {m : MethodId} {args : Array Value} {below : List Frame} {meth : Method} {c : Code} {G : gG} {A : Nat → Prop} {Qn : gH → Prop} (X : gC p l s m args meth c G A cX6_addFrozen 8 none RX6)   : ∀ (n : Nat) (h : gH) (v0 : Nat) (v1 : Option Nat) (v2 : Int32) (v3 : Int64) (v5 : Int32) (w : vX6_addFrozen_b6 G.2.2.1  Qn n h v0 v1 v2 v3 v5), V p l e rmX6_addFrozen s m args below meth c (MQ below (va_Qv Qn (gB G A) A) args s rmX6_addFrozen.cells rmX6_addFrozen.slots A) G A 8 h 0 0 6 [(0, .ref v0), (1, va_rf v1), (2, .int v2), (3, .long v3), (5, .int v5)] [] := by
  intro n
  induction n with
  | zero => intro h v0 v1 v2 v3 v5 w; exact False.elim w
  | succ n ih => intro h v0 v1 v2 v3 v5 w; exact tX6_addFrozen_b6_o X ih w
def vX6_addFrozen (t0 : Nat)  (Qn : gH → Prop) (h : gH) (v0 : Nat) (v1 : Option Nat) (v2 : Int32) : Prop := ∃ n : Nat, vX6_addFrozen_b6 t0  Qn n h v0 v1 v2 (Int32.toInt64 v2) 0
set_option maxRecDepth 100000 in
set_option maxHeartbeats 4000000 in
theorem tX6_addFrozen {p : Program} {l : Launch} {e : Env} {s : State} {m : MethodId} {args : Array Value} {below : List Frame} {meth : Method} {c : Code} {G : gG} {A : Nat → Prop} {Qn : gH → Prop} (X : gC p l s m args meth c G A cX6_addFrozen 8 none RX6)   {h : gH} {v0 : Nat} {v1 : Option Nat} {v2 : Int32} (w : vX6_addFrozen G.2.2.1  Qn h v0 v1 v2) : V p l e rmX6_addFrozen s m args below meth c (MQ below (va_Qv Qn (gB G A) A) args s rmX6_addFrozen.cells rmX6_addFrozen.slots A) G A 8 h 0 0 0 [(0, .ref v0), (1, va_rf v1), (2, .int v2)] [] := by
  refine V_iload_n X dX6_addFrozen_0 2 rfl ?_
  refine V_i2l X dX6_addFrozen_1 ?_
  refine V_lstore_n (i0 := 3) X dX6_addFrozen_2 rfl (by decide) rfl ?_
  refine V_iconst (y := 0) X dX6_addFrozen_3 (by decide) ?_
  refine V_istore X dX6_addFrozen_4 (by decide) rfl ?_
  obtain ⟨n9, w⟩ := w
  exact V.sub [2, 3, 4, 1, 0] rfl (tX6_addFrozen_b6 X  n9 _ _ _ _ _ _ w)
theorem cX6_addFrozen_ok {l : Launch} {G : gG} {h : gH} (hls : l.stackTraces = false) {Qn : gH → Prop} {v0 : Nat} {v1 : Option Nat} {v2 : Int32} (w : vX6_addFrozen G.2.2.1 Qn h v0 v1 v2) : gMv l yX6_addFrozen cX6_addFrozen 8 none rmX6_addFrozen rmX6_addFrozen.cells rmX6_addFrozen.slots G h [.ref v0, va_rf v1, .int v2] Qn := by
  cases v1 <;>
  exact gMv.of (by decide +kernel) hls (Nat.le_of_ble_eq_true rfl) rfl rfl (fun p e s m below meth c A X hnm => tX6_addFrozen X w)
/-! AnimationController$Machine.fillPose()V -/
abbrev rmX3_fillPose : Room := { frames := 10, cells := 0, slots := 0, locals := 258 }
def vX3_fillPose_b68 (t0 : Nat)  (Qn : gH → Prop) (h : gH) (v0 : Nat) (v1 : Int32) : Prop := gr h v0 6 3 (fun r1 => io h v0 6 (vX3_addTrackPose t0 (fun h2 => Qn h2) h v0 r1 v1))
set_option maxRecDepth 100000 in
set_option maxHeartbeats 4000000 in
theorem tX3_fillPose_b68 {p : Program} {l : Launch} {e : Env} {s : State} {m : MethodId} {args : Array Value} {below : List Frame} {meth : Method} {c : Code} {G : gG} {A : Nat → Prop} {Qn : gH → Prop} (X : gC p l s m args meth c G A cX3_fillPose 2 none RX3)   {h : gH} {v0 : Nat} {v1 : Int32} (w : vX3_fillPose_b68 G.2.2.1  Qn h v0 v1) : V p l e rmX3_fillPose s m args below meth c (MQ below (va_Qv Qn (gB G A) A) args s rmX3_fillPose.cells rmX3_fillPose.slots A) G A 2 h 0 0 68 [(0, .ref v0), (1, .int v1)] [] := by
  refine V_aloadr_n X dX3_fillPose_68 0 rfl ?_
  refine V_aloadr_n X dX3_fillPose_69 0 rfl ?_
  obtain ⟨fs, r1, hh, hv, w⟩ := w
  refine V_get X flX3_58 dX3_fillPose_70 hh hv ?_
  refine V_iload_n X dX3_fillPose_73 1 rfl ?_
  obtain ⟨fs, hh, w⟩ := w
  refine V_callVv (As := [va_rf r1, .int v1]) (rest := []) (k1 := 0) (n1 := 0) X (cX3_addTrackPose_ok X.2.2.2.2.2.2.2.2.1 w) lkX3_321 hh (q9 := (RX3, TX3, 13)) rfl rfl dX3_fillPose_74 ⟨Nat.le_of_ble_eq_true rfl, Nat.le_of_ble_eq_true rfl⟩ rfl (Nat.le_of_ble_eq_true rfl) ⟨Nat.le_of_ble_eq_true rfl, Nat.le_of_ble_eq_true rfl⟩ (Nat.le_of_ble_eq_true rfl) (Nat.le_of_ble_eq_true rfl) (fun h2 w9 => ?_)
  replace w := w9
  clear w9
  exact V_vret X rfl dX3_fillPose_77 (Nat.le_of_ble_eq_true rfl) (Nat.le_of_ble_eq_true rfl) w
def vX3_fillPose (t0 : Nat)  (Qn : gH → Prop) (h : gH) (v0 : Nat) : Prop := gr h v0 6 12 (fun r1 => nn r1 (fun a2 => pv h a2 9 3 (.int 0) (fun h3 => gr h3 v0 6 4 (fun r4 => ((r4) = none → (gr h3 v0 6 2 (fun r6 => io h3 v0 6 (vX3_addTrackPose t0 (fun h7 => Qn h7) h3 v0 r6 1000000)))) ∧ (∀ a5 : Nat, (r4) = some a5 → (io h3 v0 6 (vX3_targetShare t0 (fun x9 h8 => gi h8 v0 6 6 (fun x10 => (((x10 : Int32) = 0) → (gr h8 v0 6 2 (fun r11 => io h8 v0 6 (vX3_addTrackPose t0 (fun h12 => vX3_fillPose_b68 t0  Qn h12 v0 x9) h8 v0 r11 (1000000 - x9))))) ∧ ((¬ (x10 : Int32) = 0) → (gr h8 v0 6 12 (fun r13 => gr h8 v0 6 7 (fun r14 => nn r13 (fun a15 => io h8 a15 9 (vX6_addFrozen t0 (fun h16 => vX3_fillPose_b68 t0  Qn h16 v0 x9) h8 a15 r14 (1000000 - x9))))))))) h3 v0 )))))))
set_option maxRecDepth 100000 in
set_option maxHeartbeats 4000000 in
theorem tX3_fillPose {p : Program} {l : Launch} {e : Env} {s : State} {m : MethodId} {args : Array Value} {below : List Frame} {meth : Method} {c : Code} {G : gG} {A : Nat → Prop} {Qn : gH → Prop} (X : gC p l s m args meth c G A cX3_fillPose 2 none RX3)   {h : gH} {v0 : Nat} (w : vX3_fillPose G.2.2.1  Qn h v0) : V p l e rmX3_fillPose s m args below meth c (MQ below (va_Qv Qn (gB G A) A) args s rmX3_fillPose.cells rmX3_fillPose.slots A) G A 2 h 0 0 0 [(0, .ref v0)] [] := by
  refine V_aloadr_n X dX3_fillPose_0 0 rfl ?_
  obtain ⟨fs, r1, hh, hv, w⟩ := w
  refine V_get X flX3_36 dX3_fillPose_1 hh hv ?_
  refine V_iconst (y := 0) X dX3_fillPose_4 (by decide) ?_
  obtain ⟨a2, rfl, w⟩ := w
  obtain ⟨fs, hh, hv, w⟩ := w
  refine V_put X flX3_319 dX3_fillPose_5 hh hv rfl rfl ?_
  generalize va_up _ _ _ = h3 at w ⊢
  refine V_aloadr_n X dX3_fillPose_8 0 rfl ?_
  obtain ⟨fs, r4, hh, hv, w⟩ := w
  refine V_get X flX3_71 dX3_fillPose_9 hh hv ?_
  obtain ⟨w1, w2⟩ := w
  refine V_ifnonnull (tgt := 26) X dX3_fillPose_12 (by decide) (fun a5 z => ?_) (fun z => ?_)
  · replace w := w2 a5 z
    clear w1 w2
    subst z
    refine V_aloadr_n X dX3_fillPose_26 0 rfl ?_
    obtain ⟨fs, hh, w⟩ := w
    refine V_callVi (As := []) (rest := []) (k1 := 0) (n1 := 0) X (cX3_targetShare_ok X.2.2.2.2.2.2.2.2.1 w) lkX3_284 hh (q9 := (RX3, TX3, 13)) rfl rfl dX3_fillPose_27 ⟨Nat.le_of_ble_eq_true rfl, Nat.le_of_ble_eq_true rfl⟩ rfl (Nat.le_of_ble_eq_true rfl) ⟨Nat.le_of_ble_eq_true rfl, Nat.le_of_ble_eq_true rfl⟩ (Nat.le_of_ble_eq_true rfl) (Nat.le_of_ble_eq_true rfl) (fun x9 h8 w9 => ?_)
    replace w := w9
    clear w9
    refine V_istore_n (i0 := 1) X dX3_fillPose_30 rfl (by decide) rfl ?_
    refine V_aloadr_n X dX3_fillPose_31 1 rfl ?_
    obtain ⟨fs, x10, hh, hv, w⟩ := w
    refine V_get X flX3_79 dX3_fillPose_32 hh hv ?_
    obtain ⟨w1, w2⟩ := w
    refine V_if_eq (tgt := 56) X dX3_fillPose_35 (by decide) (fun z => ?_) (fun z => ?_)
    · replace w := w1 z
      clear w1 w2
      refine V_aloadr_n X dX3_fillPose_56 1 rfl ?_
      refine V_aloadr_n X dX3_fillPose_57 1 rfl ?_
      obtain ⟨fs, r11, hh, hv, w⟩ := w
      refine V_get X flX3_54 dX3_fillPose_58 hh hv ?_
      refine V_ldc (y := 1000000) X dX3_fillPose_61 kw_651 ?_
      refine V_iload_n X dX3_fillPose_63 0 rfl ?_
      refine V_isub X dX3_fillPose_64 ?_
      obtain ⟨fs, hh, w⟩ := w
      refine V_callVv (As := [va_rf r11, .int (1000000 - x9)]) (rest := []) (k1 := 0) (n1 := 0) X (cX3_addTrackPose_ok X.2.2.2.2.2.2.2.2.1 w) lkX3_321 hh (q9 := (RX3, TX3, 13)) rfl rfl dX3_fillPose_65 ⟨Nat.le_of_ble_eq_true rfl, Nat.le_of_ble_eq_true rfl⟩ rfl (Nat.le_of_ble_eq_true rfl) ⟨Nat.le_of_ble_eq_true rfl, Nat.le_of_ble_eq_true rfl⟩ (Nat.le_of_ble_eq_true rfl) (Nat.le_of_ble_eq_true rfl) (fun h12 w9 => ?_)
      replace w := w9
      clear w9
      exact V.sub [1, 0] rfl (tX3_fillPose_b68 X  w)
    · replace w := w2 z
      clear w1 w2
      refine V_aloadr_n X dX3_fillPose_38 1 rfl ?_
      obtain ⟨fs, r13, hh, hv, w⟩ := w
      refine V_get X flX3_36 dX3_fillPose_39 hh hv ?_
      refine V_aloadr_n X dX3_fillPose_42 1 rfl ?_
      obtain ⟨fs, r14, hh, hv, w⟩ := w
      refine V_get X flX3_18 dX3_fillPose_43 hh hv ?_
      refine V_ldc (y := 1000000) X dX3_fillPose_46 kw_651 ?_
      refine V_iload_n X dX3_fillPose_48 0 rfl ?_
      refine V_isub X dX3_fillPose_49 ?_
      obtain ⟨a15, rfl, w⟩ := w
      obtain ⟨fs, hh, w⟩ := w
      refine V_callVv (As := [va_rf r14, .int (1000000 - x9)]) (rest := []) (k1 := 0) (n1 := 0) X (cX6_addFrozen_ok X.2.2.2.2.2.2.2.2.1 w) lkX3_324 hh (q9 := (RX6, TX6, 4)) rfl rfl dX3_fillPose_50 ⟨Nat.le_of_ble_eq_true rfl, Nat.le_of_ble_eq_true rfl⟩ rfl (Nat.le_of_ble_eq_true rfl) ⟨Nat.le_of_ble_eq_true rfl, Nat.le_of_ble_eq_true rfl⟩ (Nat.le_of_ble_eq_true rfl) (Nat.le_of_ble_eq_true rfl) (fun h16 w9 => ?_)
      replace w := w9
      clear w9
      refine V_goto (tgt := 68) X dX3_fillPose_53 (by decide) ?_
      exact V.sub [1, 0] rfl (tX3_fillPose_b68 X  w)
  · replace w := w1 z
    clear w1 w2
    subst z
    refine V_aloadr_n X dX3_fillPose_15 0 rfl ?_
    refine V_aloadr_n X dX3_fillPose_16 0 rfl ?_
    obtain ⟨fs, r6, hh, hv, w⟩ := w
    refine V_get X flX3_54 dX3_fillPose_17 hh hv ?_
    refine V_ldc (y := 1000000) X dX3_fillPose_20 kw_651 ?_
    obtain ⟨fs, hh, w⟩ := w
    refine V_callVv (As := [va_rf r6, .int 1000000]) (rest := []) (k1 := 0) (n1 := 0) X (cX3_addTrackPose_ok X.2.2.2.2.2.2.2.2.1 w) lkX3_321 hh (q9 := (RX3, TX3, 13)) rfl rfl dX3_fillPose_22 ⟨Nat.le_of_ble_eq_true rfl, Nat.le_of_ble_eq_true rfl⟩ rfl (Nat.le_of_ble_eq_true rfl) ⟨Nat.le_of_ble_eq_true rfl, Nat.le_of_ble_eq_true rfl⟩ (Nat.le_of_ble_eq_true rfl) (Nat.le_of_ble_eq_true rfl) (fun h7 w9 => ?_)
    replace w := w9
    clear w9
    exact V_vret X rfl dX3_fillPose_25 (Nat.le_of_ble_eq_true rfl) (Nat.le_of_ble_eq_true rfl) w
theorem cX3_fillPose_ok {l : Launch} {G : gG} {h : gH} (hls : l.stackTraces = false) {Qn : gH → Prop} {v0 : Nat} (w : vX3_fillPose G.2.2.1 Qn h v0) : gMv l yX3_fillPose cX3_fillPose 2 none rmX3_fillPose rmX3_fillPose.cells rmX3_fillPose.slots G h [.ref v0] Qn := by
  exact gMv.of (by decide +kernel) hls (Nat.le_of_ble_eq_true rfl) rfl rfl (fun p e s m below meth c A X hnm => tX3_fillPose X w)
/-! AnimationController$State.isSyncedWith(LAnimationController$State;)Z -/
abbrev rmX7_isSyncedWith : Room := { frames := 0, cells := 0, slots := 0, locals := 0 }
def vX7_isSyncedWith_b23 (t0 : Nat)  (Qn : Int32 → gH → Prop) (h : gH) (s0 : Int32) : Prop := gZ s0 ∧ Qn s0 h
set_option maxRecDepth 100000 in
set_option maxHeartbeats 4000000 in
theorem tX7_isSyncedWith_b23 {p : Program} {l : Launch} {e : Env} {s : State} {m : MethodId} {args : Array Value} {below : List Frame} {meth : Method} {c : Code} {G : gG} {A : Nat → Prop} {Qn : Int32 → gH → Prop} (X : gC p l s m args meth c G A cX7_isSyncedWith 2 (some FieldType.boolean) RX7)   {h : gH} {s0 : Int32} (w : vX7_isSyncedWith_b23 G.2.2.1  Qn h s0) : V p l e rmX7_isSyncedWith s m args below meth c (MQ below (va_Qi Qn (gB G A) A) args s rmX7_isSyncedWith.cells rmX7_isSyncedWith.slots A) G A 2 h 0 0 23 [] [.int s0] := by
  obtain ⟨hz, w⟩ := w
  exact V_zret X rfl hz.1 dX7_isSyncedWith_23 (Nat.le_of_ble_eq_true rfl) (Nat.le_of_ble_eq_true rfl) w
def vX7_isSyncedWith_b22 (t0 : Nat)  (Qn : Int32 → gH → Prop) (h : gH)  : Prop := vX7_isSyncedWith_b23 t0  Qn h 0
set_option maxRecDepth 100000 in
set_option maxHeartbeats 4000000 in
theorem tX7_isSyncedWith_b22 {p : Program} {l : Launch} {e : Env} {s : State} {m : MethodId} {args : Array Value} {below : List Frame} {meth : Method} {c : Code} {G : gG} {A : Nat → Prop} {Qn : Int32 → gH → Prop} (X : gC p l s m args meth c G A cX7_isSyncedWith 2 (some FieldType.boolean) RX7)   {h : gH}  (w : vX7_isSyncedWith_b22 G.2.2.1  Qn h ) : V p l e rmX7_isSyncedWith s m args below meth c (MQ below (va_Qi Qn (gB G A) A) args s rmX7_isSyncedWith.cells rmX7_isSyncedWith.slots A) G A 2 h 0 0 22 [] [] := by
  refine V_iconst (y := 0) X dX7_isSyncedWith_22 (by decide) ?_
  exact V.sub [] rfl (tX7_isSyncedWith_b23 X  w)
def vX7_isSyncedWith (t0 : Nat)  (Qn : Int32 → gH → Prop) (h : gH) (v0 : Nat) (v1 : Option Nat) : Prop := gi h v0 10 4 (fun x1 => (((x1 : Int32) = 0) → (vX7_isSyncedWith_b22 t0  Qn h )) ∧ ((¬ (x1 : Int32) = 0) → (gi h v0 10 4 (fun x2 => nn v1 (fun a3 => gi h a3 10 4 (fun x4 => ((¬ (x2 : Int32) = x4) → (vX7_isSyncedWith_b22 t0  Qn h )) ∧ (((x2 : Int32) = x4) → (vX7_isSyncedWith_b23 t0  Qn h 1))))))))
set_option maxRecDepth 100000 in
set_option maxHeartbeats 4000000 in
theorem tX7_isSyncedWith {p : Program} {l : Launch} {e : Env} {s : State} {m : MethodId} {args : Array Value} {below : List Frame} {meth : Method} {c : Code} {G : gG} {A : Nat → Prop} {Qn : Int32 → gH → Prop} (X : gC p l s m args meth c G A cX7_isSyncedWith 2 (some FieldType.boolean) RX7)   {h : gH} {v0 : Nat} {v1 : Option Nat} (w : vX7_isSyncedWith G.2.2.1  Qn h v0 v1) : V p l e rmX7_isSyncedWith s m args below meth c (MQ below (va_Qi Qn (gB G A) A) args s rmX7_isSyncedWith.cells rmX7_isSyncedWith.slots A) G A 2 h 0 0 0 [(0, .ref v0), (1, va_rf v1)] [] := by
  refine V_aloadr_n X dX7_isSyncedWith_0 0 rfl ?_
  obtain ⟨fs, x1, hh, hv, w⟩ := w
  refine V_get X flX7_24 dX7_isSyncedWith_1 hh hv ?_
  obtain ⟨w1, w2⟩ := w
  refine V_if_eq (tgt := 22) X dX7_isSyncedWith_4 (by decide) (fun z => ?_) (fun z => ?_)
  · replace w := w1 z
    clear w1 w2
    exact V.sub [] rfl (tX7_isSyncedWith_b22 X  w)
  · replace w := w2 z
    clear w1 w2
    refine V_aloadr_n X dX7_isSyncedWith_7 0 rfl ?_
    obtain ⟨fs, x2, hh, hv, w⟩ := w
    refine V_get X flX7_24 dX7_isSyncedWith_8 hh hv ?_
    refine V_aload_n X dX7_isSyncedWith_11 1 rfl ?_
    obtain ⟨a3, rfl, w⟩ := w
    obtain ⟨fs, x4, hh, hv, w⟩ := w
    refine V_get X flX7_24 dX7_isSyncedWith_12 hh hv ?_
    obtain ⟨w1, w2⟩ := w
    refine V_icmp_ne (tgt := 22) X dX7_isSyncedWith_15 (by decide) (fun z => ?_) (fun z => ?_)
    · replace w := w1 z
      clear w1 w2
      exact V.sub [] rfl (tX7_isSyncedWith_b22 X  w)
    · replace w := w2 z
      clear w1 w2
      refine V_iconst (y := 1) X dX7_isSyncedWith_18 (by decide) ?_
      refine V_goto (tgt := 23) X dX7_isSyncedWith_19 (by decide) ?_
      exact V.sub [] rfl (tX7_isSyncedWith_b23 X  w)
theorem cX7_isSyncedWith_ok {l : Launch} {G : gG} {h : gH} (hls : l.stackTraces = false) {Qn : Int32 → gH → Prop} {v0 : Nat} {v1 : Option Nat} (w : vX7_isSyncedWith G.2.2.1 Qn h v0 v1) : gMi l yX7_isSyncedWith cX7_isSyncedWith 2 (some FieldType.boolean) rmX7_isSyncedWith rmX7_isSyncedWith.cells rmX7_isSyncedWith.slots G h [.ref v0, va_rf v1] Qn := by
  cases v1 <;>
  exact gMi.of (by decide +kernel) hls (Nat.le_of_ble_eq_true rfl) rfl rfl (fun p e s m below meth c A X hnm => tX7_isSyncedWith X w)
/-! AnimationController$Machine.firstPhase(LAnimationController$Transition;)I -/
abbrev rmX3_firstPhase : Room := { frames := 1, cells := 0, slots := 0, locals := 21 }
def vX3_firstPhase_b24 (t0 : Nat)  (Qn : Int32 → gH → Prop) (h : gH) (v1 : Option Nat) : Prop := nn v1 (fun a1 => gi h a1 12 5 (fun x2 => Qn (x2 * 10000) h))
set_option maxRecDepth 100000 in
set_option maxHeartbeats 4000000 in
theorem tX3_firstPhase_b24 {p : Program} {l : Launch} {e : Env} {s : State} {m : MethodId} {args : Array Value} {below : List Frame} {meth : Method} {c : Code} {G : gG} {A : Nat → Prop} {Qn : Int32 → gH → Prop} (X : gC p l s m args meth c G A cX3_firstPhase 2 (some FieldType.int) RX3)   {h : gH} {v1 : Option Nat} (w : vX3_firstPhase_b24 G.2.2.1  Qn h v1) : V p l e rmX3_firstPhase s m args below meth c (MQ below (va_Qi Qn (gB G A) A) args s rmX3_firstPhase.cells rmX3_firstPhase.slots A) G A 2 h 0 0 24 [(1, va_rf v1)] [] := by
  refine V_aload_n X dX3_firstPhase_24 0 rfl ?_
  obtain ⟨a1, rfl, w⟩ := w
  obtain ⟨fs, x2, hh, hv, w⟩ := w
  refine V_get X flX3_245 dX3_firstPhase_25 hh hv ?_
  refine V_sipush (y := 10000) X dX3_firstPhase_28 (by decide) ?_
  refine V_imul X dX3_firstPhase_31 ?_
  exact V_iret X rfl dX3_firstPhase_32 (Nat.le_of_ble_eq_true rfl) (Nat.le_of_ble_eq_true rfl) w
def vX3_firstPhase_b65 (t0 : Nat)  (Qn : Int32 → gH → Prop) (h : gH) (s0 : Int32) : Prop := Qn s0 h
set_option maxRecDepth 100000 in
set_option maxHeartbeats 4000000 in
theorem tX3_firstPhase_b65 {p : Program} {l : Launch} {e : Env} {s : State} {m : MethodId} {args : Array Value} {below : List Frame} {meth : Method} {c : Code} {G : gG} {A : Nat → Prop} {Qn : Int32 → gH → Prop} (X : gC p l s m args meth c G A cX3_firstPhase 2 (some FieldType.int) RX3)   {h : gH} {s0 : Int32} (w : vX3_firstPhase_b65 G.2.2.1  Qn h s0) : V p l e rmX3_firstPhase s m args below meth c (MQ below (va_Qi Qn (gB G A) A) args s rmX3_firstPhase.cells rmX3_firstPhase.slots A) G A 2 h 0 0 65 [] [.int s0] := by
  exact V_iret X rfl dX3_firstPhase_65 (Nat.le_of_ble_eq_true rfl) (Nat.le_of_ble_eq_true rfl) w
def vX3_firstPhase (t0 : Nat)  (Qn : Int32 → gH → Prop) (h : gH) (v0 : Nat) (v1 : Option Nat) : Prop := gi h v0 6 6 (fun x1 => ((¬ (x1 : Int32) = 0) → (vX3_firstPhase_b24 t0  Qn h v1)) ∧ (((x1 : Int32) = 0) → (gr h v0 6 2 (fun r2 => nn r2 (fun a3 => gr h a3 11 0 (fun r4 => nn v1 (fun a5 => gr h a5 12 2 (fun r6 => nn r4 (fun a7 => io h a7 10 (vX7_isSyncedWith t0 (fun x9 h8 => ((¬ (x9 : Int32) = 0) → (gr h8 a5 12 2 (fun r10 => nn r10 (fun a11 => gi h8 a11 10 3 (fun x12 => (((x12 : Int32) = 0) → (gr h8 v0 6 2 (fun r13 => nn r13 (fun a14 => gi h8 a14 11 2 (fun x15 => vX3_firstPhase_b65 t0  Qn h8 x15))))) ∧ ((¬ (x12 : Int32) = 0) → (gr h8 v0 6 2 (fun r16 => nn r16 (fun a17 => gi h8 a17 11 2 (fun x18 => vJ9_min_7cf53 t0 (fun x20 h19 => vX3_firstPhase_b65 t0  Qn h19 x20) h8 x18 999999)))))))))) ∧ (((x9 : Int32) = 0) → (vX3_firstPhase_b24 t0  Qn h8 (some a5)))) h a7 r6))))))))))
set_option maxRecDepth 100000 in
set_option maxHeartbeats 4000000 in
theorem tX3_firstPhase {p : Program} {l : Launch} {e : Env} {s : State} {m : MethodId} {args : Array Value} {below : List Frame} {meth : Method} {c : Code} {G : gG} {A : Nat → Prop} {Qn : Int32 → gH → Prop} (X : gC p l s m args meth c G A cX3_firstPhase 2 (some FieldType.int) RX3)   {h : gH} {v0 : Nat} {v1 : Option Nat} (w : vX3_firstPhase G.2.2.1  Qn h v0 v1) : V p l e rmX3_firstPhase s m args below meth c (MQ below (va_Qi Qn (gB G A) A) args s rmX3_firstPhase.cells rmX3_firstPhase.slots A) G A 2 h 0 0 0 [(0, .ref v0), (1, va_rf v1)] [] := by
  refine V_aloadr_n X dX3_firstPhase_0 0 rfl ?_
  obtain ⟨fs, x1, hh, hv, w⟩ := w
  refine V_get X flX3_79 dX3_firstPhase_1 hh hv ?_
  obtain ⟨w1, w2⟩ := w
  refine V_if_ne (tgt := 24) X dX3_firstPhase_4 (by decide) (fun z => ?_) (fun z => ?_)
  · replace w := w1 z
    clear w1 w2
    exact V.sub [1] rfl (tX3_firstPhase_b24 X  w)
  · replace w := w2 z
    clear w1 w2
    refine V_aloadr_n X dX3_firstPhase_7 0 rfl ?_
    obtain ⟨fs, r2, hh, hv, w⟩ := w
    refine V_get X flX3_54 dX3_firstPhase_8 hh hv ?_
    obtain ⟨a3, rfl, w⟩ := w
    obtain ⟨fs, r4, hh, hv, w⟩ := w
    refine V_get X flX3_187 dX3_firstPhase_11 hh hv ?_
    refine V_aload_n X dX3_firstPhase_14 1 rfl ?_
    obtain ⟨a5, rfl, w⟩ := w
    obtain ⟨fs, r6, hh, hv, w⟩ := w
    refine V_get X flX3_228 dX3_firstPhase_15 hh hv ?_
    obtain ⟨a7, rfl, w⟩ := w
    obtain ⟨fs, hh, w⟩ := w
    refine V_callVi (As := [va_rf r6]) (rest := []) (k1 := 0) (n1 := 0) X (cX7_isSyncedWith_ok X.2.2.2.2.2.2.2.2.1 w) lkX3_241 hh (q9 := (RX7, TX7, 5)) rfl rfl dX3_firstPhase_18 ⟨Nat.le_of_ble_eq_true rfl, Nat.le_of_ble_eq_true rfl⟩ rfl (Nat.le_of_ble_eq_true rfl) ⟨Nat.le_of_ble_eq_true rfl, Nat.le_of_ble_eq_true rfl⟩ (Nat.le_of_ble_eq_true rfl) (Nat.le_of_ble_eq_true rfl) (fun x9 h8 w9 => ?_)
    replace w := w9
    clear w9
    obtain ⟨w1, w2⟩ := w
    refine V_if_ne (tgt := 33) X dX3_firstPhase_21 (by decide) (fun z => ?_) (fun z => ?_)
    · replace w := w1 z
      clear w1 w2
      refine V_aloadr_n X dX3_firstPhase_33 1 rfl ?_
      obtain ⟨fs, r10, hh, hv, w⟩ := w
      refine V_get X flX3_228 dX3_firstPhase_34 hh hv ?_
      obtain ⟨a11, rfl, w⟩ := w
      obtain ⟨fs, x12, hh, hv, w⟩ := w
      refine V_get3 X frX3_248 dX3_firstPhase_37 hh hv ?_
      obtain ⟨w1, w2⟩ := w
      refine V_if_eq (tgt := 58) X dX3_firstPhase_40 (by decide) (fun z => ?_) (fun z => ?_)
      · replace w := w1 z
        clear w1 w2
        refine V_aloadr_n X dX3_firstPhase_58 0 rfl ?_
        obtain ⟨fs, r13, hh, hv, w⟩ := w
        refine V_get X flX3_54 dX3_firstPhase_59 hh hv ?_
        obtain ⟨a14, rfl, w⟩ := w
        obtain ⟨fs, x15, hh, hv, w⟩ := w
        refine V_get X flX3_251 dX3_firstPhase_62 hh hv ?_
        exact V.sub [] rfl (tX3_firstPhase_b65 X  w)
      · replace w := w2 z
        clear w1 w2
        refine V_aloadr_n X dX3_firstPhase_43 0 rfl ?_
        obtain ⟨fs, r16, hh, hv, w⟩ := w
        refine V_get X flX3_54 dX3_firstPhase_44 hh hv ?_
        obtain ⟨a17, rfl, w⟩ := w
        obtain ⟨fs, x18, hh, hv, w⟩ := w
        refine V_get X flX3_251 dX3_firstPhase_47 hh hv ?_
        refine V_ldc (y := 999999) X dX3_firstPhase_50 kw_784 ?_
        refine V_callSi (As := [.int x18, .int 999999]) (rest := []) (k1 := 0) (n1 := 0) X (cJ9_min_7cf53_ok X.2.2.2.2.2.2.2.2.1 w) lkX3_255 dX3_firstPhase_52 ⟨Nat.le_of_ble_eq_true rfl, Nat.le_of_ble_eq_true rfl⟩ rfl (Nat.le_of_ble_eq_true rfl) ⟨Nat.le_of_ble_eq_true rfl, Nat.le_of_ble_eq_true rfl⟩ (Nat.le_of_ble_eq_true rfl) (Nat.le_of_ble_eq_true rfl) (fun x20 h19 w9 => ?_)
        replace w := w9
        clear w9
        refine V_goto (tgt := 65) X dX3_firstPhase_55 (by decide) ?_
        exact V.sub [] rfl (tX3_firstPhase_b65 X  w)
    · replace w := w2 z
      clear w1 w2
      exact V.sub [1] rfl (tX3_firstPhase_b24 X  w)
theorem cX3_firstPhase_ok {l : Launch} {G : gG} {h : gH} (hls : l.stackTraces = false) {Qn : Int32 → gH → Prop} {v0 : Nat} {v1 : Option Nat} (w : vX3_firstPhase G.2.2.1 Qn h v0 v1) : gMi l yX3_firstPhase cX3_firstPhase 2 (some FieldType.int) rmX3_firstPhase rmX3_firstPhase.cells rmX3_firstPhase.slots G h [.ref v0, va_rf v1] Qn := by
  cases v1 <;>
  exact gMi.of (by decide +kernel) hls (Nat.le_of_ble_eq_true rfl) rfl rfl (fun p e s m below meth c A X hnm => tX3_firstPhase X w)
/-! AnimationController$Machine.take(LAnimationController$Transition;)V -/
abbrev rmX3_take : Room := { frames := 11, cells := 0, slots := 0, locals := 279 }
def vX3_take_b112 (t0 : Nat)  (Qn : gH → Prop) (h : gH)  : Prop := Qn h
set_option maxRecDepth 100000 in
set_option maxHeartbeats 4000000 in
theorem tX3_take_b112 {p : Program} {l : Launch} {e : Env} {s : State} {m : MethodId} {args : Array Value} {below : List Frame} {meth : Method} {c : Code} {G : gG} {A : Nat → Prop} {Qn : gH → Prop} (X : gC p l s m args meth c G A cX3_take 3 none RX3)   {h : gH}  (w : vX3_take_b112 G.2.2.1  Qn h ) : V p l e rmX3_take s m args below meth c (MQ below (va_Qv Qn (gB G A) A) args s rmX3_take.cells rmX3_take.slots A) G A 3 h 0 0 112 [] [] := by
  exact V_vret X rfl dX3_take_112 (Nat.le_of_ble_eq_true rfl) (Nat.le_of_ble_eq_true rfl) w
def vX3_take_b72 (t0 : Nat)  (Qn : gH → Prop) (h : gH) (v0 : Nat) (v1 : Option Nat) : Prop := gr h v0 6 3 (fun r1 => nn v1 (fun a2 => gr h a2 12 2 (fun r3 => io h v0 6 (vX3_firstPhase t0 (fun x5 h4 => nn r1 (fun a6 => io h4 a6 11 (vX8_begin t0 (fun h7 => gi h7 a2 12 3 (fun x8 => ((¬ (x8 : Int32) = 0) → (pv h7 v0 6 4 (.ref a2) (fun h9 => pv h9 v0 6 5 (.int 0) (fun h10 => vX3_take_b112 t0  Qn h10 )))) ∧ (((x8 : Int32) = 0) → (io h7 v0 6 (vX3_becomeIdle t0 (fun h11 => vX3_take_b112 t0  Qn h11 ) h7 v0 ))))) h4 a6 r3 x5))) h v0 (some a2)))))
set_option maxRecDepth 100000 in
set_option maxHeartbeats 4000000 in
theorem tX3_take_b72 {p : Program} {l : Launch} {e : Env} {s : State} {m : MethodId} {args : Array Value} {below : List Frame} {meth : Method} {c : Code} {G : gG} {A : Nat → Prop} {Qn : gH → Prop} (X : gC p l s m args meth c G A cX3_take 3 none RX3)   {h : gH} {v0 : Nat} {v1 : Option Nat} (w : vX3_take_b72 G.2.2.1  Qn h v0 v1) : V p l e rmX3_take s m args below meth c (MQ below (va_Qv Qn (gB G A) A) args s rmX3_take.cells rmX3_take.slots A) G A 3 h 0 0 72 [(0, .ref v0), (1, va_rf v1)] [] := by
  refine V_aloadr_n X dX3_take_72 0 rfl ?_
  obtain ⟨fs, r1, hh, hv, w⟩ := w
  refine V_get X flX3_58 dX3_take_73 hh hv ?_
  refine V_aload_n X dX3_take_76 1 rfl ?_
  obtain ⟨a2, rfl, w⟩ := w
  obtain ⟨fs, r3, hh, hv, w⟩ := w
  refine V_get X flX3_228 dX3_take_77 hh hv ?_
  refine V_aloadr_n X dX3_take_80 0 rfl ?_
  refine V_aloadr_n X dX3_take_81 1 rfl ?_
  obtain ⟨fs, hh, w⟩ := w
  refine V_callVi (As := [.ref a2]) (rest := [va_rf r3, va_rf r1]) (k1 := 0) (n1 := 0) X (cX3_firstPhase_ok X.2.2.2.2.2.2.2.2.1 w) lkX3_231 hh (q9 := (RX3, TX3, 13)) rfl rfl dX3_take_82 ⟨Nat.le_of_ble_eq_true rfl, Nat.le_of_ble_eq_true rfl⟩ rfl (va_len _ 4 (Nat.le_of_ble_eq_true rfl)) ⟨Nat.le_of_ble_eq_true rfl, Nat.le_of_ble_eq_true rfl⟩ (Nat.le_of_ble_eq_true rfl) (Nat.le_of_ble_eq_true rfl) (fun x5 h4 w9 => ?_)
  replace w := w9
  clear w9
  obtain ⟨a6, rfl, w⟩ := w
  obtain ⟨fs, hh, w⟩ := w
  refine V_callVv (As := [va_rf r3, .int x5]) (rest := []) (k1 := 0) (n1 := 0) X (cX8_begin_ok X.2.2.2.2.2.2.2.2.1 w) lkX3_95 hh (q9 := (RX8, TX8, 6)) rfl rfl dX3_take_85 ⟨Nat.le_of_ble_eq_true rfl, Nat.le_of_ble_eq_true rfl⟩ rfl (Nat.le_of_ble_eq_true rfl) ⟨Nat.le_of_ble_eq_true rfl, Nat.le_of_ble_eq_true rfl⟩ (Nat.le_of_ble_eq_true rfl) (Nat.le_of_ble_eq_true rfl) (fun h7 w9 => ?_)
  replace w := w9
  clear w9
  refine V_aloadr_n X dX3_take_88 1 rfl ?_
  obtain ⟨fs, x8, hh, hv, w⟩ := w
  refine V_get X flX3_158 dX3_take_89 hh hv ?_
  obtain ⟨w1, w2⟩ := w
  refine V_if_ne (tgt := 102) X dX3_take_92 (by decide) (fun z => ?_) (fun z => ?_)
  · replace w := w1 z
    clear w1 w2
    refine V_aloadr_n X dX3_take_102 0 rfl ?_
    refine V_aloadr_n X dX3_take_103 1 rfl ?_
    obtain ⟨fs, hh, hv, w⟩ := w
    refine V_put X flX3_71 dX3_take_104 hh hv rfl rfl ?_
    generalize va_up _ _ _ = h9 at w ⊢
    refine V_aloadr_n X dX3_take_107 0 rfl ?_
    refine V_iconst (y := 0) X dX3_take_108 (by decide) ?_
    obtain ⟨fs, hh, hv, w⟩ := w
    refine V_put X flX3_75 dX3_take_109 hh hv rfl rfl ?_
    generalize va_up _ _ _ = h10 at w ⊢
    exact V.sub [] rfl (tX3_take_b112 X  w)
  · replace w := w2 z
    clear w1 w2
    refine V_aloadr_n X dX3_take_95 0 rfl ?_
    obtain ⟨fs, hh, w⟩ := w
    refine V_callVv (As := []) (rest := []) (k1 := 0) (n1 := 0) X (cX3_becomeIdle_ok X.2.2.2.2.2.2.2.2.1 w) lkX3_99 hh (q9 := (RX3, TX3, 13)) rfl rfl dX3_take_96 ⟨Nat.le_of_ble_eq_true rfl, Nat.le_of_ble_eq_true rfl⟩ rfl (Nat.le_of_ble_eq_true rfl) ⟨Nat.le_of_ble_eq_true rfl, Nat.le_of_ble_eq_true rfl⟩ (Nat.le_of_ble_eq_true rfl) (Nat.le_of_ble_eq_true rfl) (fun h11 w9 => ?_)
    replace w := w9
    clear w9
    refine V_goto (tgt := 112) X dX3_take_99 (by decide) ?_
    exact V.sub [] rfl (tX3_take_b112 X  w)
def vX3_take_b14 (t0 : Nat)  (Qn : gH → Prop) (h : gH) (v0 : Nat) (v1 : Option Nat) (s0 : Int32) : Prop := io h v0 6 (vX3_clearTriggers t0 (fun h1 => gr h1 v0 6 4 (fun r2 => ((r2) = none → (vX3_take_b72 t0  Qn h1 v0 v1)) ∧ (∀ a3 : Nat, (r2) = some a3 → (io h1 v0 6 (vX3_fillPose t0 (fun h4 => gr h4 v0 6 7 (fun r5 => gr h4 v0 6 12 (fun r6 => nn r5 (fun a7 => io h4 a7 9 (vX6_copyFrom t0 (fun h8 => pv h8 v0 6 6 (.int 1) (fun h9 => gi h9 v0 6 8 (fun x10 => pv h9 v0 6 8 (.int (x10 + 1)) (fun h11 => (((s0 : Int32) = 0) → (vX3_take_b72 t0  Qn h11 v0 v1)) ∧ ((¬ (s0 : Int32) = 0) → (gr h11 v0 6 2 (fun r12 => gr h11 v0 6 3 (fun r13 => nn r12 (fun a14 => io h11 a14 11 (vX8_copyFrom t0 (fun h15 => vX3_take_b72 t0  Qn h15 v0 v1) h11 a14 r13)))))))))) h4 a7 r6))))) h1 v0 ))))) h v0 v1)
set_option maxRecDepth 100000 in
set_option maxHeartbeats 4000000 in
theorem tX3_take_b14 {p : Program} {l : Launch} {e : Env} {s : State} {m : MethodId} {args : Array Value} {below : List Frame} {meth : Method} {c : Code} {G : gG} {A : Nat → Prop} {Qn : gH → Prop} (X : gC p l s m args meth c G A cX3_take 3 none RX3)   {h : gH} {v0 : Nat} {v1 : Option Nat} {s0 : Int32} (w : vX3_take_b14 G.2.2.1  Qn h v0 v1 s0) : V p l e rmX3_take s m args below meth c (MQ below (va_Qv Qn (gB G A) A) args s rmX3_take.cells rmX3_take.slots A) G A 3 h 0 0 14 [(0, .ref v0), (1, va_rf v1)] [.int s0] := by
  refine V_istore_n (i0 := 2) X dX3_take_14 rfl (by decide) (by simp [va_cat1] <;> rfl) ?_
  refine V_aloadr_n X dX3_take_15 1 rfl ?_
  refine V_aload_n X dX3_take_16 2 rfl ?_
  obtain ⟨fs, hh, w⟩ := w
  refine V_callVv (As := [va_rf v1]) (rest := []) (k1 := 0) (n1 := 0) X (cX3_clearTriggers_ok X.2.2.2.2.2.2.2.2.1 w) lkX3_222 hh (q9 := (RX3, TX3, 13)) rfl rfl dX3_take_17 ⟨Nat.le_of_ble_eq_true rfl, Nat.le_of_ble_eq_true rfl⟩ rfl (Nat.le_of_ble_eq_true rfl) ⟨Nat.le_of_ble_eq_true rfl, Nat.le_of_ble_eq_true rfl⟩ (Nat.le_of_ble_eq_true rfl) (Nat.le_of_ble_eq_true rfl) (fun h1 w9 => ?_)
  replace w := w9
  clear w9
  refine V_aloadr_n X dX3_take_20 1 rfl ?_
  obtain ⟨fs, r2, hh, hv, w⟩ := w
  refine V_get X flX3_71 dX3_take_21 hh hv ?_
  obtain ⟨w1, w2⟩ := w
  refine V_ifnull (tgt := 72) X dX3_take_24 (by decide) (fun z => ?_) (fun a3 z => ?_)
  · replace w := w1 z
    clear w1 w2
    subst z
    exact V.sub [1, 2] rfl (tX3_take_b72 X  w)
  · replace w := w2 a3 z
    clear w1 w2
    subst z
    refine V_aloadr_n X dX3_take_27 1 rfl ?_
    obtain ⟨fs, hh, w⟩ := w
    refine V_callVv (As := []) (rest := []) (k1 := 0) (n1 := 0) X (cX3_fillPose_ok X.2.2.2.2.2.2.2.2.1 w) lkX3_225 hh (q9 := (RX3, TX3, 13)) rfl rfl dX3_take_28 ⟨Nat.le_of_ble_eq_true rfl, Nat.le_of_ble_eq_true rfl⟩ rfl (Nat.le_of_ble_eq_true rfl) ⟨Nat.le_of_ble_eq_true rfl, Nat.le_of_ble_eq_true rfl⟩ (Nat.le_of_ble_eq_true rfl) (Nat.le_of_ble_eq_true rfl) (fun h4 w9 => ?_)
    replace w := w9
    clear w9
    refine V_aloadr_n X dX3_take_31 1 rfl ?_
    obtain ⟨fs, r5, hh, hv, w⟩ := w
    refine V_get X flX3_18 dX3_take_32 hh hv ?_
    refine V_aloadr_n X dX3_take_35 1 rfl ?_
    obtain ⟨fs, r6, hh, hv, w⟩ := w
    refine V_get X flX3_36 dX3_take_36 hh hv ?_
    obtain ⟨a7, rfl, w⟩ := w
    obtain ⟨fs, hh, w⟩ := w
    refine V_callVv (As := [va_rf r6]) (rest := []) (k1 := 0) (n1 := 0) X (cX6_copyFrom_ok X.2.2.2.2.2.2.2.2.1 w) lkX3_83 hh (q9 := (RX6, TX6, 4)) rfl rfl dX3_take_39 ⟨Nat.le_of_ble_eq_true rfl, Nat.le_of_ble_eq_true rfl⟩ rfl (Nat.le_of_ble_eq_true rfl) ⟨Nat.le_of_ble_eq_true rfl, Nat.le_of_ble_eq_true rfl⟩ (Nat.le_of_ble_eq_true rfl) (Nat.le_of_ble_eq_true rfl) (fun h8 w9 => ?_)
    replace w := w9
    clear w9
    refine V_aloadr_n X dX3_take_42 1 rfl ?_
    refine V_iconst (y := 1) X dX3_take_43 (by decide) ?_
    obtain ⟨fs, hh, hv, w⟩ := w
    refine V_put X flX3_79 dX3_take_44 hh hv rfl rfl ?_
    generalize va_up _ _ _ = h9 at w ⊢
    refine V_aloadr_n X dX3_take_47 1 rfl ?_
    refine V_dup X dX3_take_48 rfl ?_
    obtain ⟨fs, x10, hh, hv, w⟩ := w
    refine V_get X flX3_86 dX3_take_49 hh hv ?_
    refine V_iconst (y := 1) X dX3_take_52 (by decide) ?_
    refine V_iadd X dX3_take_53 ?_
    obtain ⟨fs, hh, hv, w⟩ := w
    refine V_put X flX3_86 dX3_take_54 hh hv rfl rfl ?_
    generalize va_up _ _ _ = h11 at w ⊢
    refine V_iload_n X dX3_take_57 0 rfl ?_
    obtain ⟨w1, w2⟩ := w
    refine V_if_eq (tgt := 72) X dX3_take_58 (by decide) (fun z => ?_) (fun z => ?_)
    · replace w := w1 z
      clear w1 w2
      exact V.sub [1, 2] rfl (tX3_take_b72 X  w)
    · replace w := w2 z
      clear w1 w2
      refine V_aloadr_n X dX3_take_61 1 rfl ?_
      obtain ⟨fs, r12, hh, hv, w⟩ := w
      refine V_get X flX3_54 dX3_take_62 hh hv ?_
      refine V_aloadr_n X dX3_take_65 1 rfl ?_
      obtain ⟨fs, r13, hh, hv, w⟩ := w
      refine V_get X flX3_58 dX3_take_66 hh hv ?_
      obtain ⟨a14, rfl, w⟩ := w
      obtain ⟨fs, hh, w⟩ := w
      refine V_callVv (As := [va_rf r13]) (rest := []) (k1 := 0) (n1 := 0) X (cX8_copyFrom_ok X.2.2.2.2.2.2.2.2.1 w) lkX3_67 hh (q9 := (RX8, TX8, 6)) rfl rfl dX3_take_69 ⟨Nat.le_of_ble_eq_true rfl, Nat.le_of_ble_eq_true rfl⟩ rfl (Nat.le_of_ble_eq_true rfl) ⟨Nat.le_of_ble_eq_true rfl, Nat.le_of_ble_eq_true rfl⟩ (Nat.le_of_ble_eq_true rfl) (Nat.le_of_ble_eq_true rfl) (fun h15 w9 => ?_)
      replace w := w9
      clear w9
      exact V.sub [1, 2] rfl (tX3_take_b72 X  w)
def vX3_take (t0 : Nat)  (Qn : gH → Prop) (h : gH) (v0 : Nat) (v1 : Option Nat) : Prop := io h v0 6 (vX3_originOf t0 (fun x2 h1 => ((¬ (x2 : Int32) = 2) → (vX3_take_b14 t0  Qn h1 v0 v1 0)) ∧ (((x2 : Int32) = 2) → (vX3_take_b14 t0  Qn h1 v0 v1 1))) h v0 v1)
set_option maxRecDepth 100000 in
set_option maxHeartbeats 4000000 in
theorem tX3_take {p : Program} {l : Launch} {e : Env} {s : State} {m : MethodId} {args : Array Value} {below : List Frame} {meth : Method} {c : Code} {G : gG} {A : Nat → Prop} {Qn : gH → Prop} (X : gC p l s m args meth c G A cX3_take 3 none RX3)   {h : gH} {v0 : Nat} {v1 : Option Nat} (w : vX3_take G.2.2.1  Qn h v0 v1) : V p l e rmX3_take s m args below meth c (MQ below (va_Qv Qn (gB G A) A) args s rmX3_take.cells rmX3_take.slots A) G A 3 h 0 0 0 [(0, .ref v0), (1, va_rf v1)] [] := by
  refine V_aloadr_n X dX3_take_0 0 rfl ?_
  refine V_aload_n X dX3_take_1 1 rfl ?_
  obtain ⟨fs, hh, w⟩ := w
  refine V_callVi (As := [va_rf v1]) (rest := []) (k1 := 0) (n1 := 0) X (cX3_originOf_ok X.2.2.2.2.2.2.2.2.1 w) lkX3_179 hh (q9 := (RX3, TX3, 13)) rfl rfl dX3_take_2 ⟨Nat.le_of_ble_eq_true rfl, Nat.le_of_ble_eq_true rfl⟩ rfl (Nat.le_of_ble_eq_true rfl) ⟨Nat.le_of_ble_eq_true rfl, Nat.le_of_ble_eq_true rfl⟩ (Nat.le_of_ble_eq_true rfl) (Nat.le_of_ble_eq_true rfl) (fun x2 h1 w9 => ?_)
  replace w := w9
  clear w9
  refine V_iconst (y := 2) X dX3_take_5 (by decide) ?_
  obtain ⟨w1, w2⟩ := w
  refine V_icmp_ne (tgt := 13) X dX3_take_6 (by decide) (fun z => ?_) (fun z => ?_)
  · replace w := w1 z
    clear w1 w2
    refine V_iconst (y := 0) X dX3_take_13 (by decide) ?_
    exact V.sub [0, 1] rfl (tX3_take_b14 X  w)
  · replace w := w2 z
    clear w1 w2
    refine V_iconst (y := 1) X dX3_take_9 (by decide) ?_
    refine V_goto (tgt := 14) X dX3_take_10 (by decide) ?_
    exact V.sub [0, 1] rfl (tX3_take_b14 X  w)
theorem cX3_take_ok {l : Launch} {G : gG} {h : gH} (hls : l.stackTraces = false) {Qn : gH → Prop} {v0 : Nat} {v1 : Option Nat} (w : vX3_take G.2.2.1 Qn h v0 v1) : gMv l yX3_take cX3_take 3 none rmX3_take rmX3_take.cells rmX3_take.slots G h [.ref v0, va_rf v1] Qn := by
  cases v1 <;>
  exact gMv.of (by decide +kernel) hls (Nat.le_of_ble_eq_true rfl) rfl rfl (fun p e s m below meth c A X hnm => tX3_take X w)
/-! AnimationController$Machine.stepBy(JJ)J -/
abbrev rmX3_stepBy : Room := { frames := 0, cells := 0, slots := 0, locals := 0 }
def vX3_stepBy_b21 (t0 : Nat)  (Qn : Int64 → gH → Prop) (h : gH) (s0 : Int64) : Prop := Qn s0 h
set_option maxRecDepth 100000 in
set_option maxHeartbeats 4000000 in
theorem tX3_stepBy_b21 {p : Program} {l : Launch} {e : Env} {s : State} {m : MethodId} {args : Array Value} {below : List Frame} {meth : Method} {c : Code} {G : gG} {A : Nat → Prop} {Qn : Int64 → gH → Prop} (X : gC p l s m args meth c G A cX3_stepBy 4 (some FieldType.long) RX3)   {h : gH} {s0 : Int64} (w : vX3_stepBy_b21 G.2.2.1  Qn h s0) : V p l e rmX3_stepBy s m args below meth c (MQ below (va_Ql Qn (gB G A) A) args s rmX3_stepBy.cells rmX3_stepBy.slots A) G A 4 h 0 0 21 [] [.long s0] := by
  exact V_lret X rfl dX3_stepBy_21 (Nat.le_of_ble_eq_true rfl) (Nat.le_of_ble_eq_true rfl) w
def vX3_stepBy (t0 : Nat)  (Qn : Int64 → gH → Prop) (h : gH) (v0 : Int64) (v2 : Int64) : Prop := ((0 < (v2 : Int64)) → (¬ ((100 * v2) : Int64) = 0 ∧ (vX3_stepBy_b21 t0  Qn h ((1000000 * v0) / (100 * v2))))) ∧ ((¬ 0 < (v2 : Int64)) → (vX3_stepBy_b21 t0  Qn h 0))
set_option maxRecDepth 100000 in
set_option maxHeartbeats 4000000 in
theorem tX3_stepBy {p : Program} {l : Launch} {e : Env} {s : State} {m : MethodId} {args : Array Value} {below : List Frame} {meth : Method} {c : Code} {G : gG} {A : Nat → Prop} {Qn : Int64 → gH → Prop} (X : gC p l s m args meth c G A cX3_stepBy 4 (some FieldType.long) RX3)   {h : gH} {v0 : Int64} {v2 : Int64} (w : vX3_stepBy G.2.2.1  Qn h v0 v2) : V p l e rmX3_stepBy s m args below meth c (MQ below (va_Ql Qn (gB G A) A) args s rmX3_stepBy.cells rmX3_stepBy.slots A) G A 4 h 0 0 0 [(0, .long v0), (2, .long v2)] [] := by
  refine V_lload_n X dX3_stepBy_0 1 rfl ?_
  refine V_lconst (y := 0) X dX3_stepBy_1 (by decide) ?_
  refine V_lcmp X dX3_stepBy_2 ?_
  obtain ⟨w1, w2⟩ := w
  refine V_if_gt (tgt := 10) X dX3_stepBy_3 (by decide) (fun z => ?_) (fun z => ?_)
  · replace w := w1 ((lg_cmp_gt _ _).mp z)
    clear w1 w2
    refine V_ldc2 (y := 1000000) X dX3_stepBy_10 kw_677 ?_
    refine V_lload_n X dX3_stepBy_13 0 rfl ?_
    refine V_lmul X dX3_stepBy_14 ?_
    refine V_ldc2 (y := 100) X dX3_stepBy_15 kw_806 ?_
    refine V_lload_n X dX3_stepBy_18 1 rfl ?_
    refine V_lmul X dX3_stepBy_19 ?_
    obtain ⟨z0, w⟩ := w
    refine V_ldiv X dX3_stepBy_20 z0 ?_
    exact V.sub [] rfl (tX3_stepBy_b21 X  w)
  · replace w := w2 (fun z9 => z ((lg_cmp_gt _ _).mpr z9))
    clear w1 w2
    refine V_lconst (y := 0) X dX3_stepBy_6 (by decide) ?_
    refine V_goto (tgt := 21) X dX3_stepBy_7 (by decide) ?_
    exact V.sub [] rfl (tX3_stepBy_b21 X  w)
theorem cX3_stepBy_ok {l : Launch} {G : gG} {h : gH} (hls : l.stackTraces = false) {Qn : Int64 → gH → Prop} {v0 : Int64} {v2 : Int64} (w : vX3_stepBy G.2.2.1 Qn h v0 v2) : gMl l yX3_stepBy cX3_stepBy 4 (some FieldType.long) rmX3_stepBy rmX3_stepBy.cells rmX3_stepBy.slots G h [.long v0, .long v2] Qn := by
  exact gMl.of (by decide +kernel) hls (Nat.le_of_ble_eq_true rfl) rfl rfl (fun p e s m below meth c A X hnm => tX3_stepBy X w)
/-! AnimationController$Machine.stepOf(LAnimationController$State;)J -/
abbrev rmX3_stepOf : Room := { frames := 10, cells := 0, slots := 0, locals := 257 }
def vX3_stepOf (t0 : Nat)  (Qn : Int64 → gH → Prop) (h : gH) (v0 : Nat) (v1 : Option Nat) : Prop := nn v1 (fun a1 => gi h a1 10 2 (fun x2 => io h v0 6 (vX3_lengthOf t0 (fun x4 h3 => vX3_stepBy t0 (fun x6 h5 => Qn x6 h5) h3 (Int32.toInt64 x2) (Int32.toInt64 x4)) h v0 (some a1))))
set_option maxRecDepth 100000 in
set_option maxHeartbeats 4000000 in
theorem tX3_stepOf {p : Program} {l : Launch} {e : Env} {s : State} {m : MethodId} {args : Array Value} {below : List Frame} {meth : Method} {c : Code} {G : gG} {A : Nat → Prop} {Qn : Int64 → gH → Prop} (X : gC p l s m args meth c G A cX3_stepOf 2 (some FieldType.long) RX3)   {h : gH} {v0 : Nat} {v1 : Option Nat} (w : vX3_stepOf G.2.2.1  Qn h v0 v1) : V p l e rmX3_stepOf s m args below meth c (MQ below (va_Ql Qn (gB G A) A) args s rmX3_stepOf.cells rmX3_stepOf.slots A) G A 2 h 0 0 0 [(0, .ref v0), (1, va_rf v1)] [] := by
  refine V_aload_n X dX3_stepOf_0 1 rfl ?_
  obtain ⟨a1, rfl, w⟩ := w
  obtain ⟨fs, x2, hh, hv, w⟩ := w
  refine V_get3 X frX3_270 dX3_stepOf_1 hh hv ?_
  refine V_i2l X dX3_stepOf_4 ?_
  refine V_aloadr_n X dX3_stepOf_5 0 rfl ?_
  refine V_aloadr_n X dX3_stepOf_6 1 rfl ?_
  obtain ⟨fs, hh, w⟩ := w
  refine V_callVi (As := [.ref a1]) (rest := [.long (Int32.toInt64 x2)]) (k1 := 0) (n1 := 0) X (cX3_lengthOf_ok X.2.2.2.2.2.2.2.2.1 w) lkX3_273 hh (q9 := (RX3, TX3, 13)) rfl rfl dX3_stepOf_7 ⟨Nat.le_of_ble_eq_true rfl, Nat.le_of_ble_eq_true rfl⟩ rfl (Nat.le_of_ble_eq_true rfl) ⟨Nat.le_of_ble_eq_true rfl, Nat.le_of_ble_eq_true rfl⟩ (Nat.le_of_ble_eq_true rfl) (Nat.le_of_ble_eq_true rfl) (fun x4 h3 w9 => ?_)
  replace w := w9
  clear w9
  refine V_i2l X dX3_stepOf_10 ?_
  refine V_callSl (As := [.long (Int32.toInt64 x2), .long (Int32.toInt64 x4)]) (rest := []) (k1 := 0) (n1 := 0) X (cX3_stepBy_ok X.2.2.2.2.2.2.2.2.1 w) lkX3_277 dX3_stepOf_11 ⟨Nat.le_of_ble_eq_true rfl, Nat.le_of_ble_eq_true rfl⟩ rfl (Nat.le_of_ble_eq_true rfl) ⟨Nat.le_of_ble_eq_true rfl, Nat.le_of_ble_eq_true rfl⟩ (Nat.le_of_ble_eq_true rfl) (Nat.le_of_ble_eq_true rfl) (fun x6 h5 w9 => ?_)
  replace w := w9
  clear w9
  exact V_lret X rfl dX3_stepOf_14 (Nat.le_of_ble_eq_true rfl) (Nat.le_of_ble_eq_true rfl) w
theorem cX3_stepOf_ok {l : Launch} {G : gG} {h : gH} (hls : l.stackTraces = false) {Qn : Int64 → gH → Prop} {v0 : Nat} {v1 : Option Nat} (w : vX3_stepOf G.2.2.1 Qn h v0 v1) : gMl l yX3_stepOf cX3_stepOf 2 (some FieldType.long) rmX3_stepOf rmX3_stepOf.cells rmX3_stepOf.slots G h [.ref v0, va_rf v1] Qn := by
  cases v1 <;>
  exact gMl.of (by decide +kernel) hls (Nat.le_of_ble_eq_true rfl) rfl rfl (fun p e s m below meth c A X hnm => tX3_stepOf X w)
/-! AnimationController$Track.advance(J)V -/
abbrev rmX8_advance : Room := { frames := 1, cells := 0, slots := 0, locals := 23 }
def vX8_advance_b72 (t0 : Nat)  (Qn : gH → Prop) (h : gH)  : Prop := Qn h
set_option maxRecDepth 100000 in
set_option maxHeartbeats 4000000 in
theorem tX8_advance_b72 {p : Program} {l : Launch} {e : Env} {s : State} {m : MethodId} {args : Array Value} {below : List Frame} {meth : Method} {c : Code} {G : gG} {A : Nat → Prop} {Qn : gH → Prop} (X : gC p l s m args meth c G A cX8_advance 5 none RX8)   {h : gH}  (w : vX8_advance_b72 G.2.2.1  Qn h ) : V p l e rmX8_advance s m args below meth c (MQ below (va_Qv Qn (gB G A) A) args s rmX8_advance.cells rmX8_advance.slots A) G A 5 h 0 0 72 [] [] := by
  exact V_vret X rfl dX8_advance_72 (Nat.le_of_ble_eq_true rfl) (Nat.le_of_ble_eq_true rfl) w
def vX8_advance (t0 : Nat)  (Qn : gH → Prop) (h : gH) (v0 : Nat) (v1 : Int64) : Prop := io h v0 11 (vX8_progressNow t0 (fun x2 h1 => pv h1 v0 11 4 (.long x2) (fun h3 => gi h3 v0 11 3 (fun x4 => gZ x4 ∧ (pv h3 v0 11 5 (.int x4) (fun h5 => pv h5 v0 11 3 (.int 0) (fun h6 => gl h6 v0 11 4 (fun x7 => gr h6 v0 11 0 (fun r8 => nn r8 (fun a9 => gi h6 a9 10 3 (fun x10 => (((x10 : Int32) = 0) → (vJ9_min_f86c9 t0 (fun x12 h11 => pv h11 v0 11 2 (.int (Int64.toInt32 x12)) (fun h13 => vX8_advance_b72 t0  Qn h13 )) h6 (x7 + v1) 1000000)) ∧ ((¬ (x10 : Int32) = 0) → (¬ (1000000 : Int64) = 0 ∧ (pv h6 v0 11 1 (.long ((x7 + v1) / 1000000)) (fun h14 => ¬ (1000000 : Int64) = 0 ∧ (pv h14 v0 11 2 (.int (Int64.toInt32 ((x7 + v1) - (x7 + v1) / 1000000 * 1000000))) (fun h15 => vX8_advance_b72 t0  Qn h15 )))))))))))))))) h v0 )
set_option maxRecDepth 100000 in
set_option maxHeartbeats 4000000 in
theorem tX8_advance {p : Program} {l : Launch} {e : Env} {s : State} {m : MethodId} {args : Array Value} {below : List Frame} {meth : Method} {c : Code} {G : gG} {A : Nat → Prop} {Qn : gH → Prop} (X : gC p l s m args meth c G A cX8_advance 5 none RX8)   {h : gH} {v0 : Nat} {v1 : Int64} (w : vX8_advance G.2.2.1  Qn h v0 v1) : V p l e rmX8_advance s m args below meth c (MQ below (va_Qv Qn (gB G A) A) args s rmX8_advance.cells rmX8_advance.slots A) G A 5 h 0 0 0 [(0, .ref v0), (1, .long v1)] [] := by
  refine V_aloadr_n X dX8_advance_0 0 rfl ?_
  refine V_aloadr_n X dX8_advance_1 0 rfl ?_
  obtain ⟨fs, hh, w⟩ := w
  refine V_callVl (As := []) (rest := [.ref v0]) (k1 := 0) (n1 := 0) X (cX8_progressNow_ok X.2.2.2.2.2.2.2.2.1 w) lkX8_35 hh (q9 := (RX8, TX8, 6)) rfl rfl dX8_advance_2 ⟨Nat.le_of_ble_eq_true rfl, Nat.le_of_ble_eq_true rfl⟩ rfl (Nat.le_of_ble_eq_true rfl) ⟨Nat.le_of_ble_eq_true rfl, Nat.le_of_ble_eq_true rfl⟩ (Nat.le_of_ble_eq_true rfl) (Nat.le_of_ble_eq_true rfl) (fun x2 h1 w9 => ?_)
  replace w := w9
  clear w9
  obtain ⟨fs, hh, hv, w⟩ := w
  refine V_put X flX8_30 dX8_advance_5 hh hv rfl rfl ?_
  generalize va_up _ _ _ = h3 at w ⊢
  refine V_aloadr_n X dX8_advance_8 0 rfl ?_
  refine V_aloadr_n X dX8_advance_9 0 rfl ?_
  obtain ⟨fs, x4, hh, hv, w⟩ := w
  refine V_get X flX8_9 dX8_advance_10 hh hv ?_
  obtain ⟨hz, w⟩ := w
  obtain ⟨fs, hh, hv, w⟩ := w
  refine V_put X flX8_15 dX8_advance_13 hh hv hz.1 hz.2 ?_
  generalize va_up _ _ _ = h5 at w ⊢
  refine V_aloadr_n X dX8_advance_16 0 rfl ?_
  refine V_iconst (y := 0) X dX8_advance_17 (by decide) ?_
  obtain ⟨fs, hh, hv, w⟩ := w
  refine V_put X flX8_9 dX8_advance_18 hh hv rfl rfl ?_
  generalize va_up _ _ _ = h6 at w ⊢
  refine V_aloadr_n X dX8_advance_21 0 rfl ?_
  obtain ⟨fs, x7, hh, hv, w⟩ := w
  refine V_get X flX8_30 dX8_advance_22 hh hv ?_
  refine V_lload_n X dX8_advance_25 1 rfl ?_
  refine V_ladd X dX8_advance_26 ?_
  refine V_lstore_n (i0 := 3) X dX8_advance_27 rfl (by decide) rfl ?_
  refine V_aloadr_n X dX8_advance_28 1 rfl ?_
  obtain ⟨fs, r8, hh, hv, w⟩ := w
  refine V_get X flX8_18 dX8_advance_29 hh hv ?_
  obtain ⟨a9, rfl, w⟩ := w
  obtain ⟨fs, x10, hh, hv, w⟩ := w
  refine V_get3 X frX8_39 dX8_advance_32 hh hv ?_
  obtain ⟨w1, w2⟩ := w
  refine V_if_eq (tgt := 60) X dX8_advance_35 (by decide) (fun z => ?_) (fun z => ?_)
  · replace w := w1 z
    clear w1 w2
    refine V_aloadr_n X dX8_advance_60 1 rfl ?_
    refine V_lload_n X dX8_advance_61 0 rfl ?_
    refine V_ldc2 (y := 1000000) X dX8_advance_62 kw_637 ?_
    refine V_callSl (As := [.long (x7 + v1), .long 1000000]) (rest := [.ref v0]) (k1 := 0) (n1 := 0) X (cJ9_min_f86c9_ok X.2.2.2.2.2.2.2.2.1 w) lkX8_44 dX8_advance_65 ⟨Nat.le_of_ble_eq_true rfl, Nat.le_of_ble_eq_true rfl⟩ rfl (Nat.le_of_ble_eq_true rfl) ⟨Nat.le_of_ble_eq_true rfl, Nat.le_of_ble_eq_true rfl⟩ (Nat.le_of_ble_eq_true rfl) (Nat.le_of_ble_eq_true rfl) (fun x12 h11 w9 => ?_)
    replace w := w9
    clear w9
    refine V_l2i X dX8_advance_68 ?_
    obtain ⟨fs, hh, hv, w⟩ := w
    refine V_put X flX8_26 dX8_advance_69 hh hv rfl rfl ?_
    generalize va_up _ _ _ = h13 at w ⊢
    exact V.sub [] rfl (tX8_advance_b72 X  w)
  · replace w := w2 z
    clear w1 w2
    refine V_aloadr_n X dX8_advance_38 1 rfl ?_
    refine V_lload_n X dX8_advance_39 0 rfl ?_
    refine V_ldc2 (y := 1000000) X dX8_advance_40 kw_637 ?_
    obtain ⟨z0, w⟩ := w
    refine V_ldiv X dX8_advance_43 z0 ?_
    obtain ⟨fs, hh, hv, w⟩ := w
    refine V_put X flX8_22 dX8_advance_44 hh hv rfl rfl ?_
    generalize va_up _ _ _ = h14 at w ⊢
    refine V_aloadr_n X dX8_advance_47 1 rfl ?_
    refine V_lload_n X dX8_advance_48 0 rfl ?_
    refine V_ldc2 (y := 1000000) X dX8_advance_49 kw_637 ?_
    obtain ⟨z0, w⟩ := w
    refine V_lrem X dX8_advance_52 z0 ?_
    refine V_l2i X dX8_advance_53 ?_
    obtain ⟨fs, hh, hv, w⟩ := w
    refine V_put X flX8_26 dX8_advance_54 hh hv rfl rfl ?_
    generalize va_up _ _ _ = h15 at w ⊢
    refine V_goto (tgt := 72) X dX8_advance_57 (by decide) ?_
    exact V.sub [] rfl (tX8_advance_b72 X  w)
theorem cX8_advance_ok {l : Launch} {G : gG} {h : gH} (hls : l.stackTraces = false) {Qn : gH → Prop} {v0 : Nat} {v1 : Int64} (w : vX8_advance G.2.2.1 Qn h v0 v1) : gMv l yX8_advance cX8_advance 5 none rmX8_advance rmX8_advance.cells rmX8_advance.slots G h [.ref v0, .long v1] Qn := by
  exact gMv.of (by decide +kernel) hls (Nat.le_of_ble_eq_true rfl) rfl rfl (fun p e s m below meth c A X hnm => tX8_advance X w)
/-! AnimationController$Machine.mixed(II)J -/
abbrev rmX3_mixed : Room := { frames := 1, cells := 0, slots := 0, locals := 20 }
def vX3_mixed (t0 : Nat)  (Qn : Int64 → gH → Prop) (h : gH) (v0 : Nat) (v1 : Int32) (v2 : Int32) : Prop := io h v0 6 (vX3_targetShare t0 (fun x2 h1 => ¬ (1000000 : Int64) = 0 ∧ (Qn ((((1000000 - (Int32.toInt64 x2)) * (Int32.toInt64 v1)) + ((Int32.toInt64 x2) * (Int32.toInt64 v2))) / 1000000) h1)) h v0 )
set_option maxRecDepth 100000 in
set_option maxHeartbeats 4000000 in
theorem tX3_mixed {p : Program} {l : Launch} {e : Env} {s : State} {m : MethodId} {args : Array Value} {below : List Frame} {meth : Method} {c : Code} {G : gG} {A : Nat → Prop} {Qn : Int64 → gH → Prop} (X : gC p l s m args meth c G A cX3_mixed 5 (some FieldType.long) RX3)   {h : gH} {v0 : Nat} {v1 : Int32} {v2 : Int32} (w : vX3_mixed G.2.2.1  Qn h v0 v1 v2) : V p l e rmX3_mixed s m args below meth c (MQ below (va_Ql Qn (gB G A) A) args s rmX3_mixed.cells rmX3_mixed.slots A) G A 5 h 0 0 0 [(0, .ref v0), (1, .int v1), (2, .int v2)] [] := by
  refine V_aloadr_n X dX3_mixed_0 0 rfl ?_
  obtain ⟨fs, hh, w⟩ := w
  refine V_callVi (As := []) (rest := []) (k1 := 0) (n1 := 0) X (cX3_targetShare_ok X.2.2.2.2.2.2.2.2.1 w) lkX3_284 hh (q9 := (RX3, TX3, 13)) rfl rfl dX3_mixed_1 ⟨Nat.le_of_ble_eq_true rfl, Nat.le_of_ble_eq_true rfl⟩ rfl (Nat.le_of_ble_eq_true rfl) ⟨Nat.le_of_ble_eq_true rfl, Nat.le_of_ble_eq_true rfl⟩ (Nat.le_of_ble_eq_true rfl) (Nat.le_of_ble_eq_true rfl) (fun x2 h1 w9 => ?_)
  replace w := w9
  clear w9
  refine V_i2l X dX3_mixed_4 ?_
  refine V_lstore_n (i0 := 3) X dX3_mixed_5 rfl (by decide) rfl ?_
  refine V_ldc2 (y := 1000000) X dX3_mixed_6 kw_677 ?_
  refine V_lload_n X dX3_mixed_9 0 rfl ?_
  refine V_lsub X dX3_mixed_10 ?_
  refine V_iload_n X dX3_mixed_11 2 rfl ?_
  refine V_i2l X dX3_mixed_12 ?_
  refine V_lmul X dX3_mixed_13 ?_
  refine V_lload_n X dX3_mixed_14 0 rfl ?_
  refine V_iload_n X dX3_mixed_15 3 rfl ?_
  refine V_i2l X dX3_mixed_16 ?_
  refine V_lmul X dX3_mixed_17 ?_
  refine V_ladd X dX3_mixed_18 ?_
  refine V_ldc2 (y := 1000000) X dX3_mixed_19 kw_677 ?_
  obtain ⟨z0, w⟩ := w
  refine V_ldiv X dX3_mixed_22 z0 ?_
  exact V_lret X rfl dX3_mixed_23 (Nat.le_of_ble_eq_true rfl) (Nat.le_of_ble_eq_true rfl) w
theorem cX3_mixed_ok {l : Launch} {G : gG} {h : gH} (hls : l.stackTraces = false) {Qn : Int64 → gH → Prop} {v0 : Nat} {v1 : Int32} {v2 : Int32} (w : vX3_mixed G.2.2.1 Qn h v0 v1 v2) : gMl l yX3_mixed cX3_mixed 5 (some FieldType.long) rmX3_mixed rmX3_mixed.cells rmX3_mixed.slots G h [.ref v0, .int v1, .int v2] Qn := by
  exact gMl.of (by decide +kernel) hls (Nat.le_of_ble_eq_true rfl) rfl rfl (fun p e s m below meth c A X hnm => tX3_mixed X w)
/-! AnimationController$Machine.commonStep()J -/
abbrev rmX3_commonStep : Room := { frames := 10, cells := 0, slots := 0, locals := 257 }
def vX3_commonStep (t0 : Nat)  (Qn : Int64 → gH → Prop) (h : gH) (v0 : Nat) : Prop := gr h v0 6 2 (fun r1 => nn r1 (fun a2 => gr h a2 11 0 (fun r3 => nn r3 (fun a4 => gi h a4 10 2 (fun x5 => gr h v0 6 3 (fun r6 => nn r6 (fun a7 => gr h a7 11 0 (fun r8 => nn r8 (fun a9 => gi h a9 10 2 (fun x10 => io h v0 6 (vX3_mixed t0 (fun x12 h11 => gr h11 v0 6 2 (fun r13 => nn r13 (fun a14 => gr h11 a14 11 0 (fun r15 => io h11 v0 6 (vX3_lengthOf t0 (fun x17 h16 => gr h16 v0 6 3 (fun r18 => nn r18 (fun a19 => gr h16 a19 11 0 (fun r20 => io h16 v0 6 (vX3_lengthOf t0 (fun x22 h21 => io h21 v0 6 (vX3_mixed t0 (fun x24 h23 => vX3_stepBy t0 (fun x26 h25 => Qn x26 h25) h23 x12 x24) h21 v0 x17 x22)) h16 v0 r20))))) h11 v0 r15))))) h v0 x5 x10)))))))))))
set_option maxRecDepth 100000 in
set_option maxHeartbeats 4000000 in
theorem tX3_commonStep {p : Program} {l : Launch} {e : Env} {s : State} {m : MethodId} {args : Array Value} {below : List Frame} {meth : Method} {c : Code} {G : gG} {A : Nat → Prop} {Qn : Int64 → gH → Prop} (X : gC p l s m args meth c G A cX3_commonStep 5 (some FieldType.long) RX3)   {h : gH} {v0 : Nat} (w : vX3_commonStep G.2.2.1  Qn h v0) : V p l e rmX3_commonStep s m args below meth c (MQ below (va_Ql Qn (gB G A) A) args s rmX3_commonStep.cells rmX3_commonStep.slots A) G A 5 h 0 0 0 [(0, .ref v0)] [] := by
  refine V_aloadr_n X dX3_commonStep_0 0 rfl ?_
  refine V_aloadr_n X dX3_commonStep_1 0 rfl ?_
  obtain ⟨fs, r1, hh, hv, w⟩ := w
  refine V_get X flX3_54 dX3_commonStep_2 hh hv ?_
  obtain ⟨a2, rfl, w⟩ := w
  obtain ⟨fs, r3, hh, hv, w⟩ := w
  refine V_get X flX3_187 dX3_commonStep_5 hh hv ?_
  obtain ⟨a4, rfl, w⟩ := w
  obtain ⟨fs, x5, hh, hv, w⟩ := w
  refine V_get3 X frX3_270 dX3_commonStep_8 hh hv ?_
  refine V_aloadr_n X dX3_commonStep_11 0 rfl ?_
  obtain ⟨fs, r6, hh, hv, w⟩ := w
  refine V_get X flX3_58 dX3_commonStep_12 hh hv ?_
  obtain ⟨a7, rfl, w⟩ := w
  obtain ⟨fs, r8, hh, hv, w⟩ := w
  refine V_get X flX3_187 dX3_commonStep_15 hh hv ?_
  obtain ⟨a9, rfl, w⟩ := w
  obtain ⟨fs, x10, hh, hv, w⟩ := w
  refine V_get3 X frX3_270 dX3_commonStep_18 hh hv ?_
  obtain ⟨fs, hh, w⟩ := w
  refine V_callVl (As := [.int x5, .int x10]) (rest := []) (k1 := 0) (n1 := 0) X (cX3_mixed_ok X.2.2.2.2.2.2.2.2.1 w) lkX3_280 hh (q9 := (RX3, TX3, 13)) rfl rfl dX3_commonStep_21 ⟨Nat.le_of_ble_eq_true rfl, Nat.le_of_ble_eq_true rfl⟩ rfl (Nat.le_of_ble_eq_true rfl) ⟨Nat.le_of_ble_eq_true rfl, Nat.le_of_ble_eq_true rfl⟩ (Nat.le_of_ble_eq_true rfl) (Nat.le_of_ble_eq_true rfl) (fun x12 h11 w9 => ?_)
  replace w := w9
  clear w9
  refine V_lstore_n (i0 := 1) X dX3_commonStep_24 rfl (by decide) rfl ?_
  refine V_aloadr_n X dX3_commonStep_25 1 rfl ?_
  refine V_aloadr_n X dX3_commonStep_26 1 rfl ?_
  refine V_aloadr_n X dX3_commonStep_27 1 rfl ?_
  obtain ⟨fs, r13, hh, hv, w⟩ := w
  refine V_get X flX3_54 dX3_commonStep_28 hh hv ?_
  obtain ⟨a14, rfl, w⟩ := w
  obtain ⟨fs, r15, hh, hv, w⟩ := w
  refine V_get X flX3_187 dX3_commonStep_31 hh hv ?_
  obtain ⟨fs, hh, w⟩ := w
  refine V_callVi (As := [va_rf r15]) (rest := [.ref v0]) (k1 := 0) (n1 := 0) X (cX3_lengthOf_ok X.2.2.2.2.2.2.2.2.1 w) lkX3_273 hh (q9 := (RX3, TX3, 13)) rfl rfl dX3_commonStep_34 ⟨Nat.le_of_ble_eq_true rfl, Nat.le_of_ble_eq_true rfl⟩ rfl (Nat.le_of_ble_eq_true rfl) ⟨Nat.le_of_ble_eq_true rfl, Nat.le_of_ble_eq_true rfl⟩ (Nat.le_of_ble_eq_true rfl) (Nat.le_of_ble_eq_true rfl) (fun x17 h16 w9 => ?_)
  replace w := w9
  clear w9
  refine V_aloadr_n X dX3_commonStep_37 1 rfl ?_
  refine V_aloadr_n X dX3_commonStep_38 1 rfl ?_
  obtain ⟨fs, r18, hh, hv, w⟩ := w
  refine V_get X flX3_58 dX3_commonStep_39 hh hv ?_
  obtain ⟨a19, rfl, w⟩ := w
  obtain ⟨fs, r20, hh, hv, w⟩ := w
  refine V_get X flX3_187 dX3_commonStep_42 hh hv ?_
  obtain ⟨fs, hh, w⟩ := w
  refine V_callVi (As := [va_rf r20]) (rest := [.int x17, .ref v0]) (k1 := 0) (n1 := 0) X (cX3_lengthOf_ok X.2.2.2.2.2.2.2.2.1 w) lkX3_273 hh (q9 := (RX3, TX3, 13)) rfl rfl dX3_commonStep_45 ⟨Nat.le_of_ble_eq_true rfl, Nat.le_of_ble_eq_true rfl⟩ rfl (Nat.le_of_ble_eq_true rfl) ⟨Nat.le_of_ble_eq_true rfl, Nat.le_of_ble_eq_true rfl⟩ (Nat.le_of_ble_eq_true rfl) (Nat.le_of_ble_eq_true rfl) (fun x22 h21 w9 => ?_)
  replace w := w9
  clear w9
  obtain ⟨fs, hh, w⟩ := w
  refine V_callVl (As := [.int x17, .int x22]) (rest := []) (k1 := 0) (n1 := 0) X (cX3_mixed_ok X.2.2.2.2.2.2.2.2.1 w) lkX3_280 hh (q9 := (RX3, TX3, 13)) rfl rfl dX3_commonStep_48 ⟨Nat.le_of_ble_eq_true rfl, Nat.le_of_ble_eq_true rfl⟩ rfl (Nat.le_of_ble_eq_true rfl) ⟨Nat.le_of_ble_eq_true rfl, Nat.le_of_ble_eq_true rfl⟩ (Nat.le_of_ble_eq_true rfl) (Nat.le_of_ble_eq_true rfl) (fun x24 h23 w9 => ?_)
  replace w := w9
  clear w9
  refine V_lstore_n (i0 := 3) X dX3_commonStep_51 rfl (by decide) rfl ?_
  refine V_lload_n X dX3_commonStep_52 1 rfl ?_
  refine V_lload_n X dX3_commonStep_53 0 rfl ?_
  refine V_callSl (As := [.long x12, .long x24]) (rest := []) (k1 := 0) (n1 := 0) X (cX3_stepBy_ok X.2.2.2.2.2.2.2.2.1 w) lkX3_277 dX3_commonStep_54 ⟨Nat.le_of_ble_eq_true rfl, Nat.le_of_ble_eq_true rfl⟩ rfl (Nat.le_of_ble_eq_true rfl) ⟨Nat.le_of_ble_eq_true rfl, Nat.le_of_ble_eq_true rfl⟩ (Nat.le_of_ble_eq_true rfl) (Nat.le_of_ble_eq_true rfl) (fun x26 h25 w9 => ?_)
  replace w := w9
  clear w9
  exact V_lret X rfl dX3_commonStep_57 (Nat.le_of_ble_eq_true rfl) (Nat.le_of_ble_eq_true rfl) w
theorem cX3_commonStep_ok {l : Launch} {G : gG} {h : gH} (hls : l.stackTraces = false) {Qn : Int64 → gH → Prop} {v0 : Nat} (w : vX3_commonStep G.2.2.1 Qn h v0) : gMl l yX3_commonStep cX3_commonStep 5 (some FieldType.long) rmX3_commonStep rmX3_commonStep.cells rmX3_commonStep.slots G h [.ref v0] Qn := by
  exact gMl.of (by decide +kernel) hls (Nat.le_of_ble_eq_true rfl) rfl rfl (fun p e s m below meth c A X hnm => tX3_commonStep X w)
/-! AnimationController$Machine.advanceTracks()V -/
abbrev rmX3_advanceTracks : Room := { frames := 11, cells := 0, slots := 0, locals := 281 }
def vX3_advanceTracks_b100 (t0 : Nat)  (Qn : gH → Prop) (h : gH) (v0 : Nat) : Prop := gr h v0 6 3 (fun r1 => gr h v0 6 3 (fun r2 => nn r2 (fun a3 => gr h a3 11 0 (fun r4 => io h v0 6 (vX3_stepOf t0 (fun x6 h5 => nn r1 (fun a7 => io h5 a7 11 (vX8_advance t0 (fun h8 => Qn h8) h5 a7 x6))) h v0 r4)))))
set_option maxRecDepth 100000 in
set_option maxHeartbeats 4000000 in
theorem tX3_advanceTracks_b100 {p : Program} {l : Launch} {e : Env} {s : State} {m : MethodId} {args : Array Value} {below : List Frame} {meth : Method} {c : Code} {G : gG} {A : Nat → Prop} {Qn : gH → Prop} (X : gC p l s m args meth c G A cX3_advanceTracks 3 none RX3)   {h : gH} {v0 : Nat} (w : vX3_advanceTracks_b100 G.2.2.1  Qn h v0) : V p l e rmX3_advanceTracks s m args below meth c (MQ below (va_Qv Qn (gB G A) A) args s rmX3_advanceTracks.cells rmX3_advanceTracks.slots A) G A 3 h 0 0 100 [(0, .ref v0)] [] := by
  refine V_aloadr_n X dX3_advanceTracks_100 0 rfl ?_
  obtain ⟨fs, r1, hh, hv, w⟩ := w
  refine V_get X flX3_58 dX3_advanceTracks_101 hh hv ?_
  refine V_aloadr_n X dX3_advanceTracks_104 0 rfl ?_
  refine V_aloadr_n X dX3_advanceTracks_105 0 rfl ?_
  obtain ⟨fs, r2, hh, hv, w⟩ := w
  refine V_get X flX3_58 dX3_advanceTracks_106 hh hv ?_
  obtain ⟨a3, rfl, w⟩ := w
  obtain ⟨fs, r4, hh, hv, w⟩ := w
  refine V_get X flX3_187 dX3_advanceTracks_109 hh hv ?_
  obtain ⟨fs, hh, w⟩ := w
  refine V_callVl (As := [va_rf r4]) (rest := [va_rf r1]) (k1 := 0) (n1 := 0) X (cX3_stepOf_ok X.2.2.2.2.2.2.2.2.1 w) lkX3_259 hh (q9 := (RX3, TX3, 13)) rfl rfl dX3_advanceTracks_112 ⟨Nat.le_of_ble_eq_true rfl, Nat.le_of_ble_eq_true rfl⟩ rfl (va_len _ 4 (Nat.le_of_ble_eq_true rfl)) ⟨Nat.le_of_ble_eq_true rfl, Nat.le_of_ble_eq_true rfl⟩ (Nat.le_of_ble_eq_true rfl) (Nat.le_of_ble_eq_true rfl) (fun x6 h5 w9 => ?_)
  replace w := w9
  clear w9
  obtain ⟨a7, rfl, w⟩ := w
  obtain ⟨fs, hh, w⟩ := w
  refine V_callVv (As := [.long x6]) (rest := []) (k1 := 0) (n1 := 0) X (cX8_advance_ok X.2.2.2.2.2.2.2.2.1 w) lkX3_263 hh (q9 := (RX8, TX8, 6)) rfl rfl dX3_advanceTracks_115 ⟨Nat.le_of_ble_eq_true rfl, Nat.le_of_ble_eq_true rfl⟩ rfl (Nat.le_of_ble_eq_true rfl) ⟨Nat.le_of_ble_eq_true rfl, Nat.le_of_ble_eq_true rfl⟩ (Nat.le_of_ble_eq_true rfl) (Nat.le_of_ble_eq_true rfl) (fun h8 w9 => ?_)
  replace w := w9
  clear w9
  exact V_vret X rfl dX3_advanceTracks_118 (Nat.le_of_ble_eq_true rfl) (Nat.le_of_ble_eq_true rfl) w
def vX3_advanceTracks_b75 (t0 : Nat)  (Qn : gH → Prop) (h : gH) (v0 : Nat) : Prop := gi h v0 6 6 (fun x1 => ((¬ (x1 : Int32) = 0) → (vX3_advanceTracks_b100 t0  Qn h v0)) ∧ (((x1 : Int32) = 0) → (gr h v0 6 2 (fun r2 => gr h v0 6 2 (fun r3 => nn r3 (fun a4 => gr h a4 11 0 (fun r5 => io h v0 6 (vX3_stepOf t0 (fun x7 h6 => nn r2 (fun a8 => io h6 a8 11 (vX8_advance t0 (fun h9 => vX3_advanceTracks_b100 t0  Qn h9 v0) h6 a8 x7))) h v0 r5))))))))
set_option maxRecDepth 100000 in
set_option maxHeartbeats 4000000 in
theorem tX3_advanceTracks_b75 {p : Program} {l : Launch} {e : Env} {s : State} {m : MethodId} {args : Array Value} {below : List Frame} {meth : Method} {c : Code} {G : gG} {A : Nat → Prop} {Qn : gH → Prop} (X : gC p l s m args meth c G A cX3_advanceTracks 3 none RX3)   {h : gH} {v0 : Nat} (w : vX3_advanceTracks_b75 G.2.2.1  Qn h v0) : V p l e rmX3_advanceTracks s m args below meth c (MQ below (va_Qv Qn (gB G A) A) args s rmX3_advanceTracks.cells rmX3_advanceTracks.slots A) G A 3 h 0 0 75 [(0, .ref v0)] [] := by
  refine V_aloadr_n X dX3_advanceTracks_75 0 rfl ?_
  obtain ⟨fs, x1, hh, hv, w⟩ := w
  refine V_get X flX3_79 dX3_advanceTracks_76 hh hv ?_
  obtain ⟨w1, w2⟩ := w
  refine V_if_ne (tgt := 100) X dX3_advanceTracks_79 (by decide) (fun z => ?_) (fun z => ?_)
  · replace w := w1 z
    clear w1 w2
    exact V.sub [0] rfl (tX3_advanceTracks_b100 X  w)
  · replace w := w2 z
    clear w1 w2
    refine V_aloadr_n X dX3_advanceTracks_82 0 rfl ?_
    obtain ⟨fs, r2, hh, hv, w⟩ := w
    refine V_get X flX3_54 dX3_advanceTracks_83 hh hv ?_
    refine V_aloadr_n X dX3_advanceTracks_86 0 rfl ?_
    refine V_aloadr_n X dX3_advanceTracks_87 0 rfl ?_
    obtain ⟨fs, r3, hh, hv, w⟩ := w
    refine V_get X flX3_54 dX3_advanceTracks_88 hh hv ?_
    obtain ⟨a4, rfl, w⟩ := w
    obtain ⟨fs, r5, hh, hv, w⟩ := w
    refine V_get X flX3_187 dX3_advanceTracks_91 hh hv ?_
    obtain ⟨fs, hh, w⟩ := w
    refine V_callVl (As := [va_rf r5]) (rest := [va_rf r2]) (k1 := 0) (n1 := 0) X (cX3_stepOf_ok X.2.2.2.2.2.2.2.2.1 w) lkX3_259 hh (q9 := (RX3, TX3, 13)) rfl rfl dX3_advanceTracks_94 ⟨Nat.le_of_ble_eq_true rfl, Nat.le_of_ble_eq_true rfl⟩ rfl (va_len _ 4 (Nat.le_of_ble_eq_true rfl)) ⟨Nat.le_of_ble_eq_true rfl, Nat.le_of_ble_eq_true rfl⟩ (Nat.le_of_ble_eq_true rfl) (Nat.le_of_ble_eq_true rfl) (fun x7 h6 w9 => ?_)
    replace w := w9
    clear w9
    obtain ⟨a8, rfl, w⟩ := w
    obtain ⟨fs, hh, w⟩ := w
    refine V_callVv (As := [.long x7]) (rest := []) (k1 := 0) (n1 := 0) X (cX8_advance_ok X.2.2.2.2.2.2.2.2.1 w) lkX3_263 hh (q9 := (RX8, TX8, 6)) rfl rfl dX3_advanceTracks_97 ⟨Nat.le_of_ble_eq_true rfl, Nat.le_of_ble_eq_true rfl⟩ rfl (Nat.le_of_ble_eq_true rfl) ⟨Nat.le_of_ble_eq_true rfl, Nat.le_of_ble_eq_true rfl⟩ (Nat.le_of_ble_eq_true rfl) (Nat.le_of_ble_eq_true rfl) (fun h9 w9 => ?_)
    replace w := w9
    clear w9
    exact V.sub [0] rfl (tX3_advanceTracks_b100 X  w)
def vX3_advanceTracks (t0 : Nat)  (Qn : gH → Prop) (h : gH) (v0 : Nat) : Prop := gr h v0 6 4 (fun r1 => ((r1) = none → (gr h v0 6 2 (fun r3 => gr h v0 6 2 (fun r4 => nn r4 (fun a5 => gr h a5 11 0 (fun r6 => io h v0 6 (vX3_stepOf t0 (fun x8 h7 => nn r3 (fun a9 => io h7 a9 11 (vX8_advance t0 (fun h10 => Qn h10) h7 a9 x8))) h v0 r6))))))) ∧ (∀ a2 : Nat, (r1) = some a2 → (gi h v0 6 6 (fun x11 => ((¬ (x11 : Int32) = 0) → (vX3_advanceTracks_b75 t0  Qn h v0)) ∧ (((x11 : Int32) = 0) → (gr h v0 6 2 (fun r12 => nn r12 (fun a13 => gr h a13 11 0 (fun r14 => gr h v0 6 3 (fun r15 => nn r15 (fun a16 => gr h a16 11 0 (fun r17 => nn r14 (fun a18 => io h a18 10 (vX7_isSyncedWith t0 (fun x20 h19 => (((x20 : Int32) = 0) → (vX3_advanceTracks_b75 t0  Qn h19 v0)) ∧ ((¬ (x20 : Int32) = 0) → (io h19 v0 6 (vX3_commonStep t0 (fun x22 h21 => gr h21 v0 6 2 (fun r23 => nn r23 (fun a24 => io h21 a24 11 (vX8_advance t0 (fun h25 => gr h25 v0 6 3 (fun r26 => nn r26 (fun a27 => io h25 a27 11 (vX8_advance t0 (fun h28 => Qn h28) h25 a27 x22)))) h21 a24 x22)))) h19 v0 )))) h a18 r17))))))))))))))
set_option maxRecDepth 100000 in
set_option maxHeartbeats 4000000 in
theorem tX3_advanceTracks {p : Program} {l : Launch} {e : Env} {s : State} {m : MethodId} {args : Array Value} {below : List Frame} {meth : Method} {c : Code} {G : gG} {A : Nat → Prop} {Qn : gH → Prop} (X : gC p l s m args meth c G A cX3_advanceTracks 3 none RX3)   {h : gH} {v0 : Nat} (w : vX3_advanceTracks G.2.2.1  Qn h v0) : V p l e rmX3_advanceTracks s m args below meth c (MQ below (va_Qv Qn (gB G A) A) args s rmX3_advanceTracks.cells rmX3_advanceTracks.slots A) G A 3 h 0 0 0 [(0, .ref v0)] [] := by
  refine V_aloadr_n X dX3_advanceTracks_0 0 rfl ?_
  obtain ⟨fs, r1, hh, hv, w⟩ := w
  refine V_get X flX3_71 dX3_advanceTracks_1 hh hv ?_
  obtain ⟨w1, w2⟩ := w
  refine V_ifnonnull (tgt := 26) X dX3_advanceTracks_4 (by decide) (fun a2 z => ?_) (fun z => ?_)
  · replace w := w2 a2 z
    clear w1 w2
    subst z
    refine V_aloadr_n X dX3_advanceTracks_26 0 rfl ?_
    obtain ⟨fs, x11, hh, hv, w⟩ := w
    refine V_get X flX3_79 dX3_advanceTracks_27 hh hv ?_
    obtain ⟨w1, w2⟩ := w
    refine V_if_ne (tgt := 75) X dX3_advanceTracks_30 (by decide) (fun z => ?_) (fun z => ?_)
    · replace w := w1 z
      clear w1 w2
      exact V.sub [0] rfl (tX3_advanceTracks_b75 X  w)
    · replace w := w2 z
      clear w1 w2
      refine V_aloadr_n X dX3_advanceTracks_33 0 rfl ?_
      obtain ⟨fs, r12, hh, hv, w⟩ := w
      refine V_get X flX3_54 dX3_advanceTracks_34 hh hv ?_
      obtain ⟨a13, rfl, w⟩ := w
      obtain ⟨fs, r14, hh, hv, w⟩ := w
      refine V_get X flX3_187 dX3_advanceTracks_37 hh hv ?_
      refine V_aloadr_n X dX3_advanceTracks_40 0 rfl ?_
      obtain ⟨fs, r15, hh, hv, w⟩ := w
      refine V_get X flX3_58 dX3_advanceTracks_41 hh hv ?_
      obtain ⟨a16, rfl, w⟩ := w
      obtain ⟨fs, r17, hh, hv, w⟩ := w
      refine V_get X flX3_187 dX3_advanceTracks_44 hh hv ?_
      obtain ⟨a18, rfl, w⟩ := w
      obtain ⟨fs, hh, w⟩ := w
      refine V_callVi (As := [va_rf r17]) (rest := []) (k1 := 0) (n1 := 0) X (cX7_isSyncedWith_ok X.2.2.2.2.2.2.2.2.1 w) lkX3_241 hh (q9 := (RX7, TX7, 5)) rfl rfl dX3_advanceTracks_47 ⟨Nat.le_of_ble_eq_true rfl, Nat.le_of_ble_eq_true rfl⟩ rfl (Nat.le_of_ble_eq_true rfl) ⟨Nat.le_of_ble_eq_true rfl, Nat.le_of_ble_eq_true rfl⟩ (Nat.le_of_ble_eq_true rfl) (Nat.le_of_ble_eq_true rfl) (fun x20 h19 w9 => ?_)
      replace w := w9
      clear w9
      obtain ⟨w1, w2⟩ := w
      refine V_if_eq (tgt := 75) X dX3_advanceTracks_50 (by decide) (fun z => ?_) (fun z => ?_)
      · replace w := w1 z
        clear w1 w2
        exact V.sub [0] rfl (tX3_advanceTracks_b75 X  w)
      · replace w := w2 z
        clear w1 w2
        refine V_aloadr_n X dX3_advanceTracks_53 0 rfl ?_
        obtain ⟨fs, hh, w⟩ := w
        refine V_callVl (As := []) (rest := []) (k1 := 0) (n1 := 0) X (cX3_commonStep_ok X.2.2.2.2.2.2.2.2.1 w) lkX3_267 hh (q9 := (RX3, TX3, 13)) rfl rfl dX3_advanceTracks_54 ⟨Nat.le_of_ble_eq_true rfl, Nat.le_of_ble_eq_true rfl⟩ rfl (Nat.le_of_ble_eq_true rfl) ⟨Nat.le_of_ble_eq_true rfl, Nat.le_of_ble_eq_true rfl⟩ (Nat.le_of_ble_eq_true rfl) (Nat.le_of_ble_eq_true rfl) (fun x22 h21 w9 => ?_)
        replace w := w9
        clear w9
        refine V_lstore_n (i0 := 1) X dX3_advanceTracks_57 rfl (by decide) rfl ?_
        refine V_aloadr_n X dX3_advanceTracks_58 1 rfl ?_
        obtain ⟨fs, r23, hh, hv, w⟩ := w
        refine V_get X flX3_54 dX3_advanceTracks_59 hh hv ?_
        refine V_lload_n X dX3_advanceTracks_62 0 rfl ?_
        obtain ⟨a24, rfl, w⟩ := w
        obtain ⟨fs, hh, w⟩ := w
        refine V_callVv (As := [.long x22]) (rest := []) (k1 := 0) (n1 := 0) X (cX8_advance_ok X.2.2.2.2.2.2.2.2.1 w) lkX3_263 hh (q9 := (RX8, TX8, 6)) rfl rfl dX3_advanceTracks_63 ⟨Nat.le_of_ble_eq_true rfl, Nat.le_of_ble_eq_true rfl⟩ rfl (Nat.le_of_ble_eq_true rfl) ⟨Nat.le_of_ble_eq_true rfl, Nat.le_of_ble_eq_true rfl⟩ (Nat.le_of_ble_eq_true rfl) (Nat.le_of_ble_eq_true rfl) (fun h25 w9 => ?_)
        replace w := w9
        clear w9
        refine V_aloadr_n X dX3_advanceTracks_66 1 rfl ?_
        obtain ⟨fs, r26, hh, hv, w⟩ := w
        refine V_get X flX3_58 dX3_advanceTracks_67 hh hv ?_
        refine V_lload_n X dX3_advanceTracks_70 0 rfl ?_
        obtain ⟨a27, rfl, w⟩ := w
        obtain ⟨fs, hh, w⟩ := w
        refine V_callVv (As := [.long x22]) (rest := []) (k1 := 0) (n1 := 0) X (cX8_advance_ok X.2.2.2.2.2.2.2.2.1 w) lkX3_263 hh (q9 := (RX8, TX8, 6)) rfl rfl dX3_advanceTracks_71 ⟨Nat.le_of_ble_eq_true rfl, Nat.le_of_ble_eq_true rfl⟩ rfl (Nat.le_of_ble_eq_true rfl) ⟨Nat.le_of_ble_eq_true rfl, Nat.le_of_ble_eq_true rfl⟩ (Nat.le_of_ble_eq_true rfl) (Nat.le_of_ble_eq_true rfl) (fun h28 w9 => ?_)
        replace w := w9
        clear w9
        exact V_vret X rfl dX3_advanceTracks_74 (Nat.le_of_ble_eq_true rfl) (Nat.le_of_ble_eq_true rfl) w
  · replace w := w1 z
    clear w1 w2
    subst z
    refine V_aloadr_n X dX3_advanceTracks_7 0 rfl ?_
    obtain ⟨fs, r3, hh, hv, w⟩ := w
    refine V_get X flX3_54 dX3_advanceTracks_8 hh hv ?_
    refine V_aloadr_n X dX3_advanceTracks_11 0 rfl ?_
    refine V_aloadr_n X dX3_advanceTracks_12 0 rfl ?_
    obtain ⟨fs, r4, hh, hv, w⟩ := w
    refine V_get X flX3_54 dX3_advanceTracks_13 hh hv ?_
    obtain ⟨a5, rfl, w⟩ := w
    obtain ⟨fs, r6, hh, hv, w⟩ := w
    refine V_get X flX3_187 dX3_advanceTracks_16 hh hv ?_
    obtain ⟨fs, hh, w⟩ := w
    refine V_callVl (As := [va_rf r6]) (rest := [va_rf r3]) (k1 := 0) (n1 := 0) X (cX3_stepOf_ok X.2.2.2.2.2.2.2.2.1 w) lkX3_259 hh (q9 := (RX3, TX3, 13)) rfl rfl dX3_advanceTracks_19 ⟨Nat.le_of_ble_eq_true rfl, Nat.le_of_ble_eq_true rfl⟩ rfl (va_len _ 4 (Nat.le_of_ble_eq_true rfl)) ⟨Nat.le_of_ble_eq_true rfl, Nat.le_of_ble_eq_true rfl⟩ (Nat.le_of_ble_eq_true rfl) (Nat.le_of_ble_eq_true rfl) (fun x8 h7 w9 => ?_)
    replace w := w9
    clear w9
    obtain ⟨a9, rfl, w⟩ := w
    obtain ⟨fs, hh, w⟩ := w
    refine V_callVv (As := [.long x8]) (rest := []) (k1 := 0) (n1 := 0) X (cX8_advance_ok X.2.2.2.2.2.2.2.2.1 w) lkX3_263 hh (q9 := (RX8, TX8, 6)) rfl rfl dX3_advanceTracks_22 ⟨Nat.le_of_ble_eq_true rfl, Nat.le_of_ble_eq_true rfl⟩ rfl (Nat.le_of_ble_eq_true rfl) ⟨Nat.le_of_ble_eq_true rfl, Nat.le_of_ble_eq_true rfl⟩ (Nat.le_of_ble_eq_true rfl) (Nat.le_of_ble_eq_true rfl) (fun h10 w9 => ?_)
    replace w := w9
    clear w9
    exact V_vret X rfl dX3_advanceTracks_25 (Nat.le_of_ble_eq_true rfl) (Nat.le_of_ble_eq_true rfl) w
theorem cX3_advanceTracks_ok {l : Launch} {G : gG} {h : gH} (hls : l.stackTraces = false) {Qn : gH → Prop} {v0 : Nat} (w : vX3_advanceTracks G.2.2.1 Qn h v0) : gMv l yX3_advanceTracks cX3_advanceTracks 3 none rmX3_advanceTracks rmX3_advanceTracks.cells rmX3_advanceTracks.slots G h [.ref v0] Qn := by
  exact gMv.of (by decide +kernel) hls (Nat.le_of_ble_eq_true rfl) rfl rfl (fun p e s m below meth c A X hnm => tX3_advanceTracks X w)
/-! AnimationController$Track.hasReached(J)Z -/
abbrev rmX8_hasReached : Room := { frames := 1, cells := 0, slots := 0, locals := 20 }
def vX8_hasReached_b70 (t0 : Nat)  (Qn : Int32 → gH → Prop) (h : gH) (s0 : Int32) : Prop := gZ s0 ∧ Qn s0 h
set_option maxRecDepth 100000 in
set_option maxHeartbeats 4000000 in
theorem tX8_hasReached_b70 {p : Program} {l : Launch} {e : Env} {s : State} {m : MethodId} {args : Array Value} {below : List Frame} {meth : Method} {c : Code} {G : gG} {A : Nat → Prop} {Qn : Int32 → gH → Prop} (X : gC p l s m args meth c G A cX8_hasReached 7 (some FieldType.boolean) RX8)   {h : gH} {s0 : Int32} (w : vX8_hasReached_b70 G.2.2.1  Qn h s0) : V p l e rmX8_hasReached s m args below meth c (MQ below (va_Qi Qn (gB G A) A) args s rmX8_hasReached.cells rmX8_hasReached.slots A) G A 7 h 0 0 70 [] [.int s0] := by
  obtain ⟨hz, w⟩ := w
  exact V_zret X rfl hz.1 dX8_hasReached_70 (Nat.le_of_ble_eq_true rfl) (Nat.le_of_ble_eq_true rfl) w
def vX8_hasReached_b65 (t0 : Nat)  (Qn : Int32 → gH → Prop) (h : gH)  : Prop := vX8_hasReached_b70 t0  Qn h 1
set_option maxRecDepth 100000 in
set_option maxHeartbeats 4000000 in
theorem tX8_hasReached_b65 {p : Program} {l : Launch} {e : Env} {s : State} {m : MethodId} {args : Array Value} {below : List Frame} {meth : Method} {c : Code} {G : gG} {A : Nat → Prop} {Qn : Int32 → gH → Prop} (X : gC p l s m args meth c G A cX8_hasReached 7 (some FieldType.boolean) RX8)   {h : gH}  (w : vX8_hasReached_b65 G.2.2.1  Qn h ) : V p l e rmX8_hasReached s m args below meth c (MQ below (va_Qi Qn (gB G A) A) args s rmX8_hasReached.cells rmX8_hasReached.slots A) G A 7 h 0 0 65 [] [] := by
  refine V_iconst (y := 1) X dX8_hasReached_65 (by decide) ?_
  refine V_goto (tgt := 70) X dX8_hasReached_66 (by decide) ?_
  exact V.sub [] rfl (tX8_hasReached_b70 X  w)
def vX8_hasReached_b69 (t0 : Nat)  (Qn : Int32 → gH → Prop) (h : gH)  : Prop := vX8_hasReached_b70 t0  Qn h 0
set_option maxRecDepth 100000 in
set_option maxHeartbeats 4000000 in
theorem tX8_hasReached_b69 {p : Program} {l : Launch} {e : Env} {s : State} {m : MethodId} {args : Array Value} {below : List Frame} {meth : Method} {c : Code} {G : gG} {A : Nat → Prop} {Qn : Int32 → gH → Prop} (X : gC p l s m args meth c G A cX8_hasReached 7 (some FieldType.boolean) RX8)   {h : gH}  (w : vX8_hasReached_b69 G.2.2.1  Qn h ) : V p l e rmX8_hasReached s m args below meth c (MQ below (va_Qi Qn (gB G A) A) args s rmX8_hasReached.cells rmX8_hasReached.slots A) G A 7 h 0 0 69 [] [] := by
  refine V_iconst (y := 0) X dX8_hasReached_69 (by decide) ?_
  exact V.sub [] rfl (tX8_hasReached_b70 X  w)
def vX8_hasReached_b36 (t0 : Nat)  (Qn : Int32 → gH → Prop) (h : gH) (v0 : Nat) (s0 : Int64) : Prop := gl h v0 11 4 (fun x1 => ((x1 < (s0 : Int64)) → (vX8_hasReached_b65 t0  Qn h )) ∧ ((¬ x1 < (s0 : Int64)) → (gi h v0 11 5 (fun x2 => (((x2 : Int32) = 0) → (vX8_hasReached_b69 t0  Qn h )) ∧ ((¬ (x2 : Int32) = 0) → (gl h v0 11 4 (fun x3 => ((¬ (s0 : Int64) = x3) → (vX8_hasReached_b69 t0  Qn h )) ∧ (((s0 : Int64) = x3) → (vX8_hasReached_b65 t0  Qn h )))))))))
set_option maxRecDepth 100000 in
set_option maxHeartbeats 4000000 in
theorem tX8_hasReached_b36 {p : Program} {l : Launch} {e : Env} {s : State} {m : MethodId} {args : Array Value} {below : List Frame} {meth : Method} {c : Code} {G : gG} {A : Nat → Prop} {Qn : Int32 → gH → Prop} (X : gC p l s m args meth c G A cX8_hasReached 7 (some FieldType.boolean) RX8)   {h : gH} {v0 : Nat} {s0 : Int64} (w : vX8_hasReached_b36 G.2.2.1  Qn h v0 s0) : V p l e rmX8_hasReached s m args below meth c (MQ below (va_Qi Qn (gB G A) A) args s rmX8_hasReached.cells rmX8_hasReached.slots A) G A 7 h 0 0 36 [(0, .ref v0)] [.long s0] := by
  refine V_lstore X dX8_hasReached_36 (by decide) rfl ?_
  refine V_lload X dX8_hasReached_38 0 rfl ?_
  refine V_aloadr_n X dX8_hasReached_40 1 rfl ?_
  obtain ⟨fs, x1, hh, hv, w⟩ := w
  refine V_get X flX8_30 dX8_hasReached_41 hh hv ?_
  refine V_lcmp X dX8_hasReached_44 ?_
  obtain ⟨w1, w2⟩ := w
  refine V_if_gt (tgt := 65) X dX8_hasReached_45 (by decide) (fun z => ?_) (fun z => ?_)
  · replace w := w1 ((lg_cmp_gt _ _).mp z)
    clear w1 w2
    exact V.sub [] rfl (tX8_hasReached_b65 X  w)
  · replace w := w2 (fun z9 => z ((lg_cmp_gt _ _).mpr z9))
    clear w1 w2
    refine V_aloadr_n X dX8_hasReached_48 1 rfl ?_
    obtain ⟨fs, x2, hh, hv, w⟩ := w
    refine V_get X flX8_15 dX8_hasReached_49 hh hv ?_
    obtain ⟨w1, w2⟩ := w
    refine V_if_eq (tgt := 69) X dX8_hasReached_52 (by decide) (fun z => ?_) (fun z => ?_)
    · replace w := w1 z
      clear w1 w2
      exact V.sub [] rfl (tX8_hasReached_b69 X  w)
    · replace w := w2 z
      clear w1 w2
      refine V_lload X dX8_hasReached_55 0 rfl ?_
      refine V_aloadr_n X dX8_hasReached_57 1 rfl ?_
      obtain ⟨fs, x3, hh, hv, w⟩ := w
      refine V_get X flX8_30 dX8_hasReached_58 hh hv ?_
      refine V_lcmp X dX8_hasReached_61 ?_
      obtain ⟨w1, w2⟩ := w
      refine V_if_ne (tgt := 69) X dX8_hasReached_62 (by decide) (fun z => ?_) (fun z => ?_)
      · replace w := w1 (fun z9 => z ((lg_cmp_eq _ _).mpr z9))
        clear w1 w2
        exact V.sub [] rfl (tX8_hasReached_b69 X  w)
      · replace w := w2 ((lg_cmp_eq _ _).mp z)
        clear w1 w2
        exact V.sub [] rfl (tX8_hasReached_b65 X  w)
def vX8_hasReached (t0 : Nat)  (Qn : Int32 → gH → Prop) (h : gH) (v0 : Nat) (v1 : Int64) : Prop := io h v0 11 (vX8_progressNow t0 (fun x2 h1 => ((v1 ≤ (x2 : Int64)) → (gr h1 v0 11 0 (fun r3 => nn r3 (fun a4 => gi h1 a4 10 3 (fun x5 => (((x5 : Int32) = 0) → (vX8_hasReached_b36 t0  Qn h1 v0 v1)) ∧ ((¬ (x5 : Int32) = 0) → (¬ (1000000 : Int64) = 0 ∧ (vX8_hasReached_b36 t0  Qn h1 v0 (x2 - ((x2 - v1) - (x2 - v1) / 1000000 * 1000000)))))))))) ∧ ((¬ v1 ≤ (x2 : Int64)) → (Qn 0 h1))) h v0 )
set_option maxRecDepth 100000 in
set_option maxHeartbeats 4000000 in
theorem tX8_hasReached {p : Program} {l : Launch} {e : Env} {s : State} {m : MethodId} {args : Array Value} {below : List Frame} {meth : Method} {c : Code} {G : gG} {A : Nat → Prop} {Qn : Int32 → gH → Prop} (X : gC p l s m args meth c G A cX8_hasReached 7 (some FieldType.boolean) RX8)   {h : gH} {v0 : Nat} {v1 : Int64} (w : vX8_hasReached G.2.2.1  Qn h v0 v1) : V p l e rmX8_hasReached s m args below meth c (MQ below (va_Qi Qn (gB G A) A) args s rmX8_hasReached.cells rmX8_hasReached.slots A) G A 7 h 0 0 0 [(0, .ref v0), (1, .long v1)] [] := by
  refine V_aloadr_n X dX8_hasReached_0 0 rfl ?_
  obtain ⟨fs, hh, w⟩ := w
  refine V_callVl (As := []) (rest := []) (k1 := 0) (n1 := 0) X (cX8_progressNow_ok X.2.2.2.2.2.2.2.2.1 w) lkX8_35 hh (q9 := (RX8, TX8, 6)) rfl rfl dX8_hasReached_1 ⟨Nat.le_of_ble_eq_true rfl, Nat.le_of_ble_eq_true rfl⟩ rfl (Nat.le_of_ble_eq_true rfl) ⟨Nat.le_of_ble_eq_true rfl, Nat.le_of_ble_eq_true rfl⟩ (Nat.le_of_ble_eq_true rfl) (Nat.le_of_ble_eq_true rfl) (fun x2 h1 w9 => ?_)
  replace w := w9
  clear w9
  refine V_lstore_n (i0 := 3) X dX8_hasReached_4 rfl (by decide) rfl ?_
  refine V_lload_n X dX8_hasReached_5 0 rfl ?_
  refine V_lload_n X dX8_hasReached_6 2 rfl ?_
  refine V_lcmp X dX8_hasReached_7 ?_
  obtain ⟨w1, w2⟩ := w
  refine V_if_ge (tgt := 13) X dX8_hasReached_8 (by decide) (fun z => ?_) (fun z => ?_)
  · replace w := w1 ((lg_cmp_ge _ _).mp z)
    clear w1 w2
    refine V_aloadr_n X dX8_hasReached_13 1 rfl ?_
    obtain ⟨fs, r3, hh, hv, w⟩ := w
    refine V_get X flX8_18 dX8_hasReached_14 hh hv ?_
    obtain ⟨a4, rfl, w⟩ := w
    obtain ⟨fs, x5, hh, hv, w⟩ := w
    refine V_get3 X frX8_39 dX8_hasReached_17 hh hv ?_
    obtain ⟨w1, w2⟩ := w
    refine V_if_eq (tgt := 35) X dX8_hasReached_20 (by decide) (fun z => ?_) (fun z => ?_)
    · replace w := w1 z
      clear w1 w2
      refine V_lload_n X dX8_hasReached_35 2 rfl ?_
      exact V.sub [1] rfl (tX8_hasReached_b36 X  w)
    · replace w := w2 z
      clear w1 w2
      refine V_lload_n X dX8_hasReached_23 0 rfl ?_
      refine V_lload_n X dX8_hasReached_24 0 rfl ?_
      refine V_lload_n X dX8_hasReached_25 2 rfl ?_
      refine V_lsub X dX8_hasReached_26 ?_
      refine V_ldc2 (y := 1000000) X dX8_hasReached_27 kw_637 ?_
      obtain ⟨z0, w⟩ := w
      refine V_lrem X dX8_hasReached_30 z0 ?_
      refine V_lsub X dX8_hasReached_31 ?_
      refine V_goto (tgt := 36) X dX8_hasReached_32 (by decide) ?_
      exact V.sub [1] rfl (tX8_hasReached_b36 X  w)
  · replace w := w2 (fun z9 => z ((lg_cmp_ge _ _).mpr z9))
    clear w1 w2
    refine V_iconst (y := 0) X dX8_hasReached_11 (by decide) ?_
    exact V_zret X rfl rfl dX8_hasReached_12 (Nat.le_of_ble_eq_true rfl) (Nat.le_of_ble_eq_true rfl) w
theorem cX8_hasReached_ok {l : Launch} {G : gG} {h : gH} (hls : l.stackTraces = false) {Qn : Int32 → gH → Prop} {v0 : Nat} {v1 : Int64} (w : vX8_hasReached G.2.2.1 Qn h v0 v1) : gMi l yX8_hasReached cX8_hasReached 7 (some FieldType.boolean) rmX8_hasReached rmX8_hasReached.cells rmX8_hasReached.slots G h [.ref v0, .long v1] Qn := by
  exact gMi.of (by decide +kernel) hls (Nat.le_of_ble_eq_true rfl) rfl rfl (fun p e s m below meth c A X hnm => tX8_hasReached X w)
/-! AnimationController$Machine.fireClip(LAnimationController$Track;LAnimationController$Clip;)V -/
abbrev rmX3_fireClip : Room := { frames := 3, cells := 0, slots := 0, locals := 67 }
def vX3_fireClip_b85 (t0 : Nat)  (Qn : gH → Prop) (h : gH)  : Prop := Qn h
set_option maxRecDepth 100000 in
set_option maxHeartbeats 4000000 in
theorem tX3_fireClip_b85 {p : Program} {l : Launch} {e : Env} {s : State} {m : MethodId} {args : Array Value} {below : List Frame} {meth : Method} {c : Code} {G : gG} {A : Nat → Prop} {Qn : gH → Prop} (X : gC p l s m args meth c G A cX3_fireClip 6 none RX3)   {h : gH}  (w : vX3_fireClip_b85 G.2.2.1  Qn h ) : V p l e rmX3_fireClip s m args below meth c (MQ below (va_Qv Qn (gB G A) A) args s rmX3_fireClip.cells rmX3_fireClip.slots A) G A 6 h 0 0 85 [] [] := by
  exact V_vret X rfl dX3_fireClip_85 (Nat.le_of_ble_eq_true rfl) (Nat.le_of_ble_eq_true rfl) w
def vX3_fireClip_b79 (t0 : Nat) (k10 : gH → Nat → Option Nat → Option Nat → Int32 → Prop) (Qn : gH → Prop) (h : gH) (v0 : Nat) (v1 : Option Nat) (v2 : Option Nat) (v3 : Int32) : Prop := k10 h v0 v1 v2 (v3 + 1)
set_option maxRecDepth 100000 in
set_option maxHeartbeats 4000000 in
theorem tX3_fireClip_b79 {p : Program} {l : Launch} {e : Env} {s : State} {m : MethodId} {args : Array Value} {below : List Frame} {meth : Method} {c : Code} {G : gG} {A : Nat → Prop} {Qn : gH → Prop} (X : gC p l s m args meth c G A cX3_fireClip 6 none RX3) {k10 : gH → Nat → Option Nat → Option Nat → Int32 → Prop} (H10 : ∀ (h : gH) (v0 : Nat) (v1 : Option Nat) (v2 : Option Nat) (v3 : Int32), k10 h v0 v1 v2 v3 → V p l e rmX3_fireClip s m args below meth c (MQ below (va_Qv Qn (gB G A) A) args s rmX3_fireClip.cells rmX3_fireClip.slots A) G A 6 h 0 0 10 [(0, .ref v0), (1, va_rf v1), (2, va_rf v2), (3, .int v3)] []) {h : gH} {v0 : Nat} {v1 : Option Nat} {v2 : Option Nat} {v3 : Int32} (w : vX3_fireClip_b79 G.2.2.1 k10 Qn h v0 v1 v2 v3) : V p l e rmX3_fireClip s m args below meth c (MQ below (va_Qv Qn (gB G A) A) args s rmX3_fireClip.cells rmX3_fireClip.slots A) G A 6 h 0 0 79 [(0, .ref v0), (1, va_rf v1), (2, va_rf v2), (3, .int v3)] [] := by
  refine V_iinc (y := (v3 + 1)) X dX3_fireClip_79 3 rfl (by first | rfl | (congr 1)) (by decide) (by simp [va_cat1] <;> rfl) ?_
  refine V_goto (tgt := 10) X dX3_fireClip_82 (by decide) ?_
  exact V.sub [1, 2, 3, 0] rfl (H10 _ _ _ _ _ w)
def vX3_fireClip_b10_o (t0 : Nat) (k10 : gH → Nat → Option Nat → Option Nat → Int32 → Prop) (Qn : gH → Prop) (h : gH) (v0 : Nat) (v1 : Option Nat) (v2 : Option Nat) (v3 : Int32) : Prop := nn v2 (fun a1 => gi h a1 4 4 (fun x2 => ((x2 ≤ (v3 : Int32)) → (vX3_fireClip_b85 t0  Qn h )) ∧ ((¬ x2 ≤ (v3 : Int32)) → (((5 ≤ (v3 : Int32)) → (vX3_fireClip_b85 t0  Qn h )) ∧ ((¬ 5 ≤ (v3 : Int32)) → (gr h a1 4 2 (fun r3 => nn r3 (fun a4 => li h a4 v3 (fun x5 => gi h a1 4 1 (fun x6 => ¬ ((Int32.toInt64 x6) : Int64) = 0 ∧ (nn v1 (fun a7 => io h a7 11 (vX8_hasReached t0 (fun x9 h8 => (((x9 : Int32) = 0) → (vX3_fireClip_b79 t0 k10 Qn h8 v0 (some a7) (some a1) v3)) ∧ ((¬ (x9 : Int32) = 0) → (gr h8 v0 6 10 (fun r10 => gi h8 v0 6 9 (fun x11 => gr h8 a1 4 3 (fun r12 => nn r12 (fun a13 => li h8 a13 v3 (fun x14 => gi h8 a1 4 0 (fun x15 => gr h8 a7 11 0 (fun r16 => nn r16 (fun a17 => gi h8 a17 10 0 (fun x18 => nn r10 (fun a19 => io h8 a19 5 (vX2_append t0 (fun h20 => vX3_fireClip_b79 t0 k10 Qn h20 v0 (some a7) (some a1) v3) h8 a19 x11 x14 x15 x18)))))))))))))) h a7 (((Int32.toInt64 x5) * 1000000) / (Int32.toInt64 x6)))))))))))))))
set_option maxRecDepth 100000 in
set_option maxHeartbeats 4000000 in
theorem tX3_fireClip_b10_o {p : Program} {l : Launch} {e : Env} {s : State} {m : MethodId} {args : Array Value} {below : List Frame} {meth : Method} {c : Code} {G : gG} {A : Nat → Prop} {Qn : gH → Prop} (X : gC p l s m args meth c G A cX3_fireClip 6 none RX3) {k10 : gH → Nat → Option Nat → Option Nat → Int32 → Prop} (H10 : ∀ (h : gH) (v0 : Nat) (v1 : Option Nat) (v2 : Option Nat) (v3 : Int32), k10 h v0 v1 v2 v3 → V p l e rmX3_fireClip s m args below meth c (MQ below (va_Qv Qn (gB G A) A) args s rmX3_fireClip.cells rmX3_fireClip.slots A) G A 6 h 0 0 10 [(0, .ref v0), (1, va_rf v1), (2, va_rf v2), (3, .int v3)] []) {h : gH} {v0 : Nat} {v1 : Option Nat} {v2 : Option Nat} {v3 : Int32} (w : vX3_fireClip_b10_o G.2.2.1 k10 Qn h v0 v1 v2 v3) : V p l e rmX3_fireClip s m args below meth c (MQ below (va_Qv Qn (gB G A) A) args s rmX3_fireClip.cells rmX3_fireClip.slots A) G A 6 h 0 0 10 [(0, .ref v0), (1, va_rf v1), (2, va_rf v2), (3, .int v3)] [] := by
  refine V_iload_n X dX3_fireClip_10 3 rfl ?_
  refine V_aload_n X dX3_fireClip_11 2 rfl ?_
  obtain ⟨a1, rfl, w⟩ := w
  obtain ⟨fs, x2, hh, hv, w⟩ := w
  refine V_get X flX3_300 dX3_fireClip_12 hh hv ?_
  obtain ⟨w1, w2⟩ := w
  refine V_icmp_ge (tgt := 85) X dX3_fireClip_15 (by decide) (fun z => ?_) (fun z => ?_)
  · replace w := w1 z
    clear w1 w2
    exact V.sub [] rfl (tX3_fireClip_b85 X  w)
  · replace w := w2 z
    clear w1 w2
    refine V_iload_n X dX3_fireClip_18 3 rfl ?_
    refine V_iconst (y := 5) X dX3_fireClip_19 (by decide) ?_
    obtain ⟨w1, w2⟩ := w
    refine V_icmp_ge (tgt := 85) X dX3_fireClip_20 (by decide) (fun z => ?_) (fun z => ?_)
    · replace w := w1 z
      clear w1 w2
      exact V.sub [] rfl (tX3_fireClip_b85 X  w)
    · replace w := w2 z
      clear w1 w2
      refine V_aloadr_n X dX3_fireClip_23 2 rfl ?_
      obtain ⟨fs, r3, hh, hv, w⟩ := w
      refine V_get3 X frX3_303 dX3_fireClip_24 hh hv ?_
      refine V_iload_n X dX3_fireClip_27 3 rfl ?_
      obtain ⟨a4, rfl, w⟩ := w
      obtain ⟨N9, g9, hh, hi, w⟩ := w
      refine V_iald X dX3_fireClip_28 hh hi ?_
      generalize g9 _ = x5 at w ⊢
      refine V_i2l X dX3_fireClip_29 ?_
      refine V_ldc2 (y := 1000000) X dX3_fireClip_30 kw_677 ?_
      refine V_lmul X dX3_fireClip_33 ?_
      refine V_aloadr_n X dX3_fireClip_34 2 rfl ?_
      obtain ⟨fs, x6, hh, hv, w⟩ := w
      refine V_get3 X frX3_136 dX3_fireClip_35 hh hv ?_
      refine V_i2l X dX3_fireClip_38 ?_
      obtain ⟨z0, w⟩ := w
      refine V_ldiv X dX3_fireClip_39 z0 ?_
      refine V_lstore X dX3_fireClip_40 (by decide) rfl ?_
      refine V_aload_n X dX3_fireClip_42 2 rfl ?_
      refine V_lload X dX3_fireClip_43 0 rfl ?_
      obtain ⟨a7, rfl, w⟩ := w
      obtain ⟨fs, hh, w⟩ := w
      refine V_callVi (As := [.long (((Int32.toInt64 x5) * 1000000) / (Int32.toInt64 x6))]) (rest := []) (k1 := 0) (n1 := 0) X (cX8_hasReached_ok X.2.2.2.2.2.2.2.2.1 w) lkX3_306 hh (q9 := (RX8, TX8, 6)) rfl rfl dX3_fireClip_45 ⟨Nat.le_of_ble_eq_true rfl, Nat.le_of_ble_eq_true rfl⟩ rfl (Nat.le_of_ble_eq_true rfl) ⟨Nat.le_of_ble_eq_true rfl, Nat.le_of_ble_eq_true rfl⟩ (Nat.le_of_ble_eq_true rfl) (Nat.le_of_ble_eq_true rfl) (fun x9 h8 w9 => ?_)
      replace w := w9
      clear w9
      obtain ⟨w1, w2⟩ := w
      refine V_if_eq (tgt := 79) X dX3_fireClip_48 (by decide) (fun z => ?_) (fun z => ?_)
      · replace w := w1 z
        clear w1 w2
        exact V.sub [1, 2, 3, 4] rfl (tX3_fireClip_b79 X H10 w)
      · replace w := w2 z
        clear w1 w2
        refine V_aloadr_n X dX3_fireClip_51 1 rfl ?_
        obtain ⟨fs, r10, hh, hv, w⟩ := w
        refine V_get X flX3_25 dX3_fireClip_52 hh hv ?_
        refine V_aloadr_n X dX3_fireClip_55 1 rfl ?_
        obtain ⟨fs, x11, hh, hv, w⟩ := w
        refine V_get X flX3_89 dX3_fireClip_56 hh hv ?_
        refine V_aloadr_n X dX3_fireClip_59 3 rfl ?_
        obtain ⟨fs, r12, hh, hv, w⟩ := w
        refine V_get3 X frX3_310 dX3_fireClip_60 hh hv ?_
        refine V_iload_n X dX3_fireClip_63 4 rfl ?_
        obtain ⟨a13, rfl, w⟩ := w
        obtain ⟨N9, g9, hh, hi, w⟩ := w
        refine V_iald X dX3_fireClip_64 hh hi ?_
        generalize g9 _ = x14 at w ⊢
        refine V_aloadr_n X dX3_fireClip_65 3 rfl ?_
        obtain ⟨fs, x15, hh, hv, w⟩ := w
        refine V_get3 X frX3_313 dX3_fireClip_66 hh hv ?_
        refine V_aloadr_n X dX3_fireClip_69 2 rfl ?_
        obtain ⟨fs, r16, hh, hv, w⟩ := w
        refine V_get X flX3_187 dX3_fireClip_70 hh hv ?_
        obtain ⟨a17, rfl, w⟩ := w
        obtain ⟨fs, x18, hh, hv, w⟩ := w
        refine V_get3 X frX3_314 dX3_fireClip_73 hh hv ?_
        obtain ⟨a19, rfl, w⟩ := w
        obtain ⟨fs, hh, w⟩ := w
        refine V_callVv (As := [.int x11, .int x14, .int x15, .int x18]) (rest := []) (k1 := 0) (n1 := 0) X (cX2_append_ok X.2.2.2.2.2.2.2.2.1 w) lkX3_315 hh (q9 := (RX2, TX2, 2)) rfl rfl dX3_fireClip_76 ⟨Nat.le_of_ble_eq_true rfl, Nat.le_of_ble_eq_true rfl⟩ rfl (Nat.le_of_ble_eq_true rfl) ⟨Nat.le_of_ble_eq_true rfl, Nat.le_of_ble_eq_true rfl⟩ (Nat.le_of_ble_eq_true rfl) (Nat.le_of_ble_eq_true rfl) (fun h20 w9 => ?_)
        replace w := w9
        clear w9
        exact V.sub [1, 2, 3, 4] rfl (tX3_fireClip_b79 X H10 w)
def vX3_fireClip_b10 (t0 : Nat)  (Qn : gH → Prop) (n : Nat) : gH → Nat → Option Nat → Option Nat → Int32 → Prop := Nat.rec (motive := fun _ => gH → Nat → Option Nat → Option Nat → Int32 → Prop) (fun _ _ _ _ _ => False) (fun _ k10 => vX3_fireClip_b10_o t0 k10 Qn) n
theorem tX3_fireClip_b10 {p : Program} {l : Launch} {e : Env} {s : State} {m : MethodId} {args : Array Value} {below : List Frame} {meth : Method} {c : Code} {G : gG} {A : Nat → Prop} {Qn : gH → Prop} (X : gC p l s m args meth c G A cX3_fireClip 6 none RX3)   : ∀ (n : Nat) (h : gH) (v0 : Nat) (v1 : Option Nat) (v2 : Option Nat) (v3 : Int32) (w : vX3_fireClip_b10 G.2.2.1  Qn n h v0 v1 v2 v3), V p l e rmX3_fireClip s m args below meth c (MQ below (va_Qv Qn (gB G A) A) args s rmX3_fireClip.cells rmX3_fireClip.slots A) G A 6 h 0 0 10 [(0, .ref v0), (1, va_rf v1), (2, va_rf v2), (3, .int v3)] [] := by
  intro n
  induction n with
  | zero => intro h v0 v1 v2 v3 w; exact False.elim w
  | succ n ih => intro h v0 v1 v2 v3 w; exact tX3_fireClip_b10_o X ih w
def vX3_fireClip (t0 : Nat)  (Qn : gH → Prop) (h : gH) (v0 : Nat) (v1 : Option Nat) (v2 : Option Nat) : Prop := nn v2 (fun a1 => gi h a1 4 1 (fun x2 => ((0 < (x2 : Int32)) → (∃ n : Nat, vX3_fireClip_b10 t0  Qn n h v0 v1 (some a1) 0)) ∧ ((¬ 0 < (x2 : Int32)) → (Qn h))))
set_option maxRecDepth 100000 in
set_option maxHeartbeats 4000000 in
theorem tX3_fireClip {p : Program} {l : Launch} {e : Env} {s : State} {m : MethodId} {args : Array Value} {below : List Frame} {meth : Method} {c : Code} {G : gG} {A : Nat → Prop} {Qn : gH → Prop} (X : gC p l s m args meth c G A cX3_fireClip 6 none RX3)   {h : gH} {v0 : Nat} {v1 : Option Nat} {v2 : Option Nat} (w : vX3_fireClip G.2.2.1  Qn h v0 v1 v2) : V p l e rmX3_fireClip s m args below meth c (MQ below (va_Qv Qn (gB G A) A) args s rmX3_fireClip.cells rmX3_fireClip.slots A) G A 6 h 0 0 0 [(0, .ref v0), (1, va_rf v1), (2, va_rf v2)] [] := by
  refine V_aload_n X dX3_fireClip_0 2 rfl ?_
  obtain ⟨a1, rfl, w⟩ := w
  obtain ⟨fs, x2, hh, hv, w⟩ := w
  refine V_get3 X frX3_136 dX3_fireClip_1 hh hv ?_
  obtain ⟨w1, w2⟩ := w
  refine V_if_gt (tgt := 8) X dX3_fireClip_4 (by decide) (fun z => ?_) (fun z => ?_)
  · replace w := w1 z
    clear w1 w2
    refine V_iconst (y := 0) X dX3_fireClip_8 (by decide) ?_
    refine V_istore_n (i0 := 3) X dX3_fireClip_9 rfl (by decide) rfl ?_
    obtain ⟨n9, w⟩ := w
    exact V.sub [1, 2, 3, 0] rfl (tX3_fireClip_b10 X  n9 _ _ _ _ _ w)
  · replace w := w2 z
    clear w1 w2
    exact V_vret X rfl dX3_fireClip_7 (Nat.le_of_ble_eq_true rfl) (Nat.le_of_ble_eq_true rfl) w
theorem cX3_fireClip_ok {l : Launch} {G : gG} {h : gH} (hls : l.stackTraces = false) {Qn : gH → Prop} {v0 : Nat} {v1 : Option Nat} {v2 : Option Nat} (w : vX3_fireClip G.2.2.1 Qn h v0 v1 v2) : gMv l yX3_fireClip cX3_fireClip 6 none rmX3_fireClip rmX3_fireClip.cells rmX3_fireClip.slots G h [.ref v0, va_rf v1, va_rf v2] Qn := by
  cases v1 <;>
  cases v2 <;>
  exact gMv.of (by decide +kernel) hls (Nat.le_of_ble_eq_true rfl) rfl rfl (fun p e s m below meth c A X hnm => tX3_fireClip X w)
/-! AnimationController$Machine.fireTrack(LAnimationController$Track;I)V -/
abbrev rmX3_fireTrack : Room := { frames := 9, cells := 0, slots := 0, locals := 233 }
def vX3_fireTrack_b94 (t0 : Nat) (k21 : gH → Nat → Option Nat → Int32 → Prop) (Qn : gH → Prop) (h : gH) (v0 : Nat) (v1 : Option Nat) (v3 : Int32) : Prop := k21 h v0 v1 (v3 + 1)
set_option maxRecDepth 100000 in
set_option maxHeartbeats 4000000 in
theorem tX3_fireTrack_b94 {p : Program} {l : Launch} {e : Env} {s : State} {m : MethodId} {args : Array Value} {below : List Frame} {meth : Method} {c : Code} {G : gG} {A : Nat → Prop} {Qn : gH → Prop} (X : gC p l s m args meth c G A cX3_fireTrack 6 none RX3) {k21 : gH → Nat → Option Nat → Int32 → Prop} (H21 : ∀ (h : gH) (v0 : Nat) (v1 : Option Nat) (v3 : Int32), k21 h v0 v1 v3 → V p l e rmX3_fireTrack s m args below meth c (MQ below (va_Qv Qn (gB G A) A) args s rmX3_fireTrack.cells rmX3_fireTrack.slots A) G A 6 h 0 0 21 [(0, .ref v0), (1, va_rf v1), (3, .int v3)] []) {h : gH} {v0 : Nat} {v1 : Option Nat} {v3 : Int32} (w : vX3_fireTrack_b94 G.2.2.1 k21 Qn h v0 v1 v3) : V p l e rmX3_fireTrack s m args below meth c (MQ below (va_Qv Qn (gB G A) A) args s rmX3_fireTrack.cells rmX3_fireTrack.slots A) G A 6 h 0 0 94 [(0, .ref v0), (1, va_rf v1), (3, .int v3)] [] := by
  refine V_iinc (y := (v3 + 1)) X dX3_fireTrack_94 2 rfl (by first | rfl | (congr 1)) (by decide) rfl ?_
  refine V_goto (tgt := 21) X dX3_fireTrack_97 (by decide) ?_
  exact V.sub [1, 2, 0] rfl (H21 _ _ _ _ w)
def vX3_fireTrack_b21_o (t0 : Nat) (k21 : gH → Nat → Option Nat → Int32 → Prop) (Qn : gH → Prop) (h : gH) (v0 : Nat) (v1 : Option Nat) (v3 : Int32) : Prop := gr h v0 6 0 (fun r1 => nn r1 (fun a2 => gr h a2 7 2 (fun r3 => nn r3 (fun a4 => io h a4 2 (vJx4a65c_size_8abf5 t0 (fun x6 h5 => ((x6 ≤ (v3 : Int32)) → (Qn h5)) ∧ ((¬ x6 ≤ (v3 : Int32)) → (gr h5 v0 6 11 (fun r7 => nn r7 (fun a8 => io h5 a8 3 (vX0_weightOf t0 (fun x10 h9 => ((((Int32.toInt64 x10) : Int64) = 0) → (vX3_fireTrack_b94 t0 k21 Qn h9 v0 v1 v3)) ∧ ((¬ ((Int32.toInt64 x10) : Int64) = 0) → (gr h9 v0 6 0 (fun r11 => nn r11 (fun a12 => gi h9 a12 7 6 (fun x13 => (((((Int32.toInt64 x10) * 100) : Int64) < ((Int32.toInt64 x13) * 1000000)) → (vX3_fireTrack_b94 t0 k21 Qn h9 v0 v1 v3)) ∧ ((¬ (((Int32.toInt64 x10) * 100) : Int64) < ((Int32.toInt64 x13) * 1000000)) → (gr h9 v0 6 0 (fun r14 => nn r14 (fun a15 => gr h9 a15 7 2 (fun r16 => nn r16 (fun a17 => io h9 a17 2 (vJx4a65c_get_915e3 t0 (fun r19 h18 => nn r19 (fun a20 => io h18 a20 4 (io h18 v0 6 (vX3_fireClip t0 (fun h21 => vX3_fireTrack_b94 t0 k21 Qn h21 v0 v1 v3) h18 v0 v1 (some a20))))) h9 a17 v3))))))))))))) h5 a8 v3)))))) h a4 )))))
set_option maxRecDepth 100000 in
set_option maxHeartbeats 4000000 in
theorem tX3_fireTrack_b21_o {p : Program} {l : Launch} {e : Env} {s : State} {m : MethodId} {args : Array Value} {below : List Frame} {meth : Method} {c : Code} {G : gG} {A : Nat → Prop} {Qn : gH → Prop} (X : gC p l s m args meth c G A cX3_fireTrack 6 none RX3) {k21 : gH → Nat → Option Nat → Int32 → Prop} (H21 : ∀ (h : gH) (v0 : Nat) (v1 : Option Nat) (v3 : Int32), k21 h v0 v1 v3 → V p l e rmX3_fireTrack s m args below meth c (MQ below (va_Qv Qn (gB G A) A) args s rmX3_fireTrack.cells rmX3_fireTrack.slots A) G A 6 h 0 0 21 [(0, .ref v0), (1, va_rf v1), (3, .int v3)] []) {h : gH} {v0 : Nat} {v1 : Option Nat} {v3 : Int32} (w : vX3_fireTrack_b21_o G.2.2.1 k21 Qn h v0 v1 v3) : V p l e rmX3_fireTrack s m args below meth c (MQ below (va_Qv Qn (gB G A) A) args s rmX3_fireTrack.cells rmX3_fireTrack.slots A) G A 6 h 0 0 21 [(0, .ref v0), (1, va_rf v1), (3, .int v3)] [] := by
  refine V_iload_n X dX3_fireTrack_21 2 rfl ?_
  refine V_aloadr_n X dX3_fireTrack_22 0 rfl ?_
  obtain ⟨fs, r1, hh, hv, w⟩ := w
  refine V_get X flX3_39 dX3_fireTrack_23 hh hv ?_
  obtain ⟨a2, rfl, w⟩ := w
  obtain ⟨fs, r3, hh, hv, w⟩ := w
  refine V_get3 X frX3_116 dX3_fireTrack_26 hh hv ?_
  obtain ⟨a4, rfl, w⟩ := w
  obtain ⟨fs, hh, w⟩ := w
  refine V_callVi (As := []) (rest := [.int v3]) (k1 := 0) (n1 := 0) X (cJx4a65c_size_8abf5_ok X.2.2.2.2.2.2.2.2.1 w) lkX3_120 hh (q9 := (RJx4a65c, TJx4a65c, 3)) rfl rfl dX3_fireTrack_29 ⟨Nat.le_of_ble_eq_true rfl, Nat.le_of_ble_eq_true rfl⟩ rfl (Nat.le_of_ble_eq_true rfl) ⟨Nat.le_of_ble_eq_true rfl, Nat.le_of_ble_eq_true rfl⟩ (Nat.le_of_ble_eq_true rfl) (Nat.le_of_ble_eq_true rfl) (fun x6 h5 w9 => ?_)
  replace w := w9
  clear w9
  obtain ⟨w1, w2⟩ := w
  refine V_icmp_ge (tgt := 100) X dX3_fireTrack_32 (by decide) (fun z => ?_) (fun z => ?_)
  · replace w := w1 z
    clear w1 w2
    exact V_vret X rfl dX3_fireTrack_100 (Nat.le_of_ble_eq_true rfl) (Nat.le_of_ble_eq_true rfl) w
  · replace w := w2 z
    clear w1 w2
    refine V_aloadr_n X dX3_fireTrack_35 0 rfl ?_
    obtain ⟨fs, r7, hh, hv, w⟩ := w
    refine V_get X flX3_32 dX3_fireTrack_36 hh hv ?_
    refine V_iload_n X dX3_fireTrack_39 2 rfl ?_
    obtain ⟨a8, rfl, w⟩ := w
    obtain ⟨fs, hh, w⟩ := w
    refine V_callVi (As := [.int v3]) (rest := []) (k1 := 0) (n1 := 0) X (cX0_weightOf_ok X.2.2.2.2.2.2.2.2.1 w) lkX3_126 hh (q9 := (RX0, TX0, 1)) rfl rfl dX3_fireTrack_40 ⟨Nat.le_of_ble_eq_true rfl, Nat.le_of_ble_eq_true rfl⟩ rfl (Nat.le_of_ble_eq_true rfl) ⟨Nat.le_of_ble_eq_true rfl, Nat.le_of_ble_eq_true rfl⟩ (Nat.le_of_ble_eq_true rfl) (Nat.le_of_ble_eq_true rfl) (fun x10 h9 w9 => ?_)
    replace w := w9
    clear w9
    refine V_i2l X dX3_fireTrack_43 ?_
    refine V_lstore X dX3_fireTrack_44 (by decide) rfl ?_
    refine V_lload X dX3_fireTrack_46 0 rfl ?_
    refine V_lconst (y := 0) X dX3_fireTrack_48 (by decide) ?_
    refine V_lcmp X dX3_fireTrack_49 ?_
    obtain ⟨w1, w2⟩ := w
    refine V_if_eq (tgt := 94) X dX3_fireTrack_50 (by decide) (fun z => ?_) (fun z => ?_)
    · replace w := w1 ((lg_cmp_eq _ _).mp z)
      clear w1 w2
      exact V.sub [1, 2, 3] rfl (tX3_fireTrack_b94 X H21 w)
    · replace w := w2 (fun z9 => z ((lg_cmp_eq _ _).mpr z9))
      clear w1 w2
      refine V_lload X dX3_fireTrack_53 0 rfl ?_
      refine V_ldc2 (y := 100) X dX3_fireTrack_55 kw_806 ?_
      refine V_lmul X dX3_fireTrack_58 ?_
      refine V_aloadr_n X dX3_fireTrack_59 1 rfl ?_
      obtain ⟨fs, r11, hh, hv, w⟩ := w
      refine V_get X flX3_39 dX3_fireTrack_60 hh hv ?_
      obtain ⟨a12, rfl, w⟩ := w
      obtain ⟨fs, x13, hh, hv, w⟩ := w
      refine V_get X flX3_293 dX3_fireTrack_63 hh hv ?_
      refine V_i2l X dX3_fireTrack_66 ?_
      refine V_ldc2 (y := 1000000) X dX3_fireTrack_67 kw_677 ?_
      refine V_lmul X dX3_fireTrack_70 ?_
      refine V_lcmp X dX3_fireTrack_71 ?_
      obtain ⟨w1, w2⟩ := w
      refine V_if_lt (tgt := 94) X dX3_fireTrack_72 (by decide) (fun z => ?_) (fun z => ?_)
      · replace w := w1 ((lg_cmp_lt _ _).mp z)
        clear w1 w2
        exact V.sub [1, 2, 3] rfl (tX3_fireTrack_b94 X H21 w)
      · replace w := w2 (fun z9 => z ((lg_cmp_lt _ _).mpr z9))
        clear w1 w2
        refine V_aloadr_n X dX3_fireTrack_75 1 rfl ?_
        refine V_aload_n X dX3_fireTrack_76 2 rfl ?_
        refine V_aloadr_n X dX3_fireTrack_77 1 rfl ?_
        obtain ⟨fs, r14, hh, hv, w⟩ := w
        refine V_get X flX3_39 dX3_fireTrack_78 hh hv ?_
        obtain ⟨a15, rfl, w⟩ := w
        obtain ⟨fs, r16, hh, hv, w⟩ := w
        refine V_get3 X frX3_116 dX3_fireTrack_81 hh hv ?_
        refine V_iload_n X dX3_fireTrack_84 3 rfl ?_
        obtain ⟨a17, rfl, w⟩ := w
        obtain ⟨fs, hh, w⟩ := w
        refine V_callVq (As := [.int v3]) (rest := [va_rf v1, .ref v0]) (k1 := 0) (n1 := 0) X (cJx4a65c_get_915e3_ok X.2.2.2.2.2.2.2.2.1 w) lkX3_130 hh (q9 := (RJx4a65c, TJx4a65c, 3)) rfl rfl dX3_fireTrack_85 ⟨Nat.le_of_ble_eq_true rfl, Nat.le_of_ble_eq_true rfl⟩ rfl (va_len _ 4 (Nat.le_of_ble_eq_true rfl)) ⟨Nat.le_of_ble_eq_true rfl, Nat.le_of_ble_eq_true rfl⟩ (Nat.le_of_ble_eq_true rfl) (Nat.le_of_ble_eq_true rfl) (fun r19 h18 w9 => ?_)
        replace w := w9
        clear w9
        obtain ⟨a20, rfl, w⟩ := w
        obtain ⟨fs, hh, w⟩ := w
        refine V_cast (q9 := (RX1, TX1, 5)) X kw_676 rfl rfl hh dX3_fireTrack_88 ?_
        obtain ⟨fs, hh, w⟩ := w
        refine V_callVv (As := [va_rf v1, .ref a20]) (rest := []) (k1 := 0) (n1 := 0) X (cX3_fireClip_ok X.2.2.2.2.2.2.2.2.1 w) lkX3_296 hh (q9 := (RX3, TX3, 13)) rfl rfl dX3_fireTrack_91 ⟨Nat.le_of_ble_eq_true rfl, Nat.le_of_ble_eq_true rfl⟩ rfl (Nat.le_of_ble_eq_true rfl) ⟨Nat.le_of_ble_eq_true rfl, Nat.le_of_ble_eq_true rfl⟩ (Nat.le_of_ble_eq_true rfl) (Nat.le_of_ble_eq_true rfl) (fun h21 w9 => ?_)
        replace w := w9
        clear w9
        exact V.sub [1, 2, 3] rfl (tX3_fireTrack_b94 X H21 w)
def vX3_fireTrack_b21 (t0 : Nat)  (Qn : gH → Prop) (n : Nat) : gH → Nat → Option Nat → Int32 → Prop := Nat.rec (motive := fun _ => gH → Nat → Option Nat → Int32 → Prop) (fun _ _ _ _ => False) (fun _ k21 => vX3_fireTrack_b21_o t0 k21 Qn) n
theorem tX3_fireTrack_b21 {p : Program} {l : Launch} {e : Env} {s : State} {m : MethodId} {args : Array Value} {below : List Frame} {meth : Method} {c : Code} {G : gG} {A : Nat → Prop} {Qn : gH → Prop} (X : gC p l s m args meth c G A cX3_fireTrack 6 none RX3)   : ∀ (n : Nat) (h : gH) (v0 : Nat) (v1 : Option Nat) (v3 : Int32) (w : vX3_fireTrack_b21 G.2.2.1  Qn n h v0 v1 v3), V p l e rmX3_fireTrack s m args below meth c (MQ below (va_Qv Qn (gB G A) A) args s rmX3_fireTrack.cells rmX3_fireTrack.slots A) G A 6 h 0 0 21 [(0, .ref v0), (1, va_rf v1), (3, .int v3)] [] := by
  intro n
  induction n with
  | zero => intro h v0 v1 v3 w; exact False.elim w
  | succ n ih => intro h v0 v1 v3 w; exact tX3_fireTrack_b21_o X ih w
def vX3_fireTrack (t0 : Nat)  (Qn : gH → Prop) (h : gH) (v0 : Nat) (v1 : Option Nat) (v2 : Int32) : Prop := gr h v0 6 11 (fun r1 => nn v1 (fun a2 => gr h a2 11 0 (fun r3 => nn r3 (fun a4 => gr h a4 10 1 (fun r5 => gr h v0 6 1 (fun r6 => nn r1 (fun a7 => io h a7 3 (vX0_fill t0 (fun h8 => ∃ n : Nat, vX3_fireTrack_b21 t0  Qn n h8 v0 (some a2) 0) h a7 r5 v2 r6))))))))
set_option maxRecDepth 100000 in
set_option maxHeartbeats 4000000 in
theorem tX3_fireTrack {p : Program} {l : Launch} {e : Env} {s : State} {m : MethodId} {args : Array Value} {below : List Frame} {meth : Method} {c : Code} {G : gG} {A : Nat → Prop} {Qn : gH → Prop} (X : gC p l s m args meth c G A cX3_fireTrack 6 none RX3)   {h : gH} {v0 : Nat} {v1 : Option Nat} {v2 : Int32} (w : vX3_fireTrack G.2.2.1  Qn h v0 v1 v2) : V p l e rmX3_fireTrack s m args below meth c (MQ below (va_Qv Qn (gB G A) A) args s rmX3_fireTrack.cells rmX3_fireTrack.slots A) G A 6 h 0 0 0 [(0, .ref v0), (1, va_rf v1), (2, .int v2)] [] := by
  refine V_aloadr_n X dX3_fireTrack_0 0 rfl ?_
  obtain ⟨fs, r1, hh, hv, w⟩ := w
  refine V_get X flX3_32 dX3_fireTrack_1 hh hv ?_
  refine V_aload_n X dX3_fireTrack_4 1 rfl ?_
  obtain ⟨a2, rfl, w⟩ := w
  obtain ⟨fs, r3, hh, hv, w⟩ := w
  refine V_get X flX3_187 dX3_fireTrack_5 hh hv ?_
  obtain ⟨a4, rfl, w⟩ := w
  obtain ⟨fs, r5, hh, hv, w⟩ := w
  refine V_get3 X frX3_105 dX3_fireTrack_8 hh hv ?_
  refine V_iload_n X dX3_fireTrack_11 2 rfl ?_
  refine V_aloadr_n X dX3_fireTrack_12 0 rfl ?_
  obtain ⟨fs, r6, hh, hv, w⟩ := w
  refine V_get X flX3_9 dX3_fireTrack_13 hh hv ?_
  obtain ⟨a7, rfl, w⟩ := w
  obtain ⟨fs, hh, w⟩ := w
  refine V_callVv (As := [va_rf r5, .int v2, va_rf r6]) (rest := []) (k1 := 0) (n1 := 0) X (cX0_fill_ok X.2.2.2.2.2.2.2.2.1 w) lkX3_112 hh (q9 := (RX0, TX0, 1)) rfl rfl dX3_fireTrack_16 ⟨Nat.le_of_ble_eq_true rfl, Nat.le_of_ble_eq_true rfl⟩ rfl (Nat.le_of_ble_eq_true rfl) ⟨Nat.le_of_ble_eq_true rfl, Nat.le_of_ble_eq_true rfl⟩ (Nat.le_of_ble_eq_true rfl) (Nat.le_of_ble_eq_true rfl) (fun h8 w9 => ?_)
  replace w := w9
  clear w9
  refine V_iconst (y := 0) X dX3_fireTrack_19 (by decide) ?_
  refine V_istore_n (i0 := 3) X dX3_fireTrack_20 rfl (by decide) rfl ?_
  obtain ⟨n9, w⟩ := w
  exact V.sub [1, 2, 0] rfl (tX3_fireTrack_b21 X  n9 _ _ _ _ w)
theorem cX3_fireTrack_ok {l : Launch} {G : gG} {h : gH} (hls : l.stackTraces = false) {Qn : gH → Prop} {v0 : Nat} {v1 : Option Nat} {v2 : Int32} (w : vX3_fireTrack G.2.2.1 Qn h v0 v1 v2) : gMv l yX3_fireTrack cX3_fireTrack 6 none rmX3_fireTrack rmX3_fireTrack.cells rmX3_fireTrack.slots G h [.ref v0, va_rf v1, .int v2] Qn := by
  cases v1 <;>
  exact gMv.of (by decide +kernel) hls (Nat.le_of_ble_eq_true rfl) rfl rfl (fun p e s m below meth c A X hnm => tX3_fireTrack X w)
/-! AnimationController$Machine.fireEvents()V -/
abbrev rmX3_fireEvents : Room := { frames := 10, cells := 0, slots := 0, locals := 258 }
def vX3_fireEvents_b42 (t0 : Nat)  (Qn : gH → Prop) (h : gH) (v0 : Nat) (v1 : Int32) : Prop := gr h v0 6 3 (fun r1 => io h v0 6 (vX3_fireTrack t0 (fun h2 => Qn h2) h v0 r1 v1))
set_option maxRecDepth 100000 in
set_option maxHeartbeats 4000000 in
theorem tX3_fireEvents_b42 {p : Program} {l : Launch} {e : Env} {s : State} {m : MethodId} {args : Array Value} {below : List Frame} {meth : Method} {c : Code} {G : gG} {A : Nat → Prop} {Qn : gH → Prop} (X : gC p l s m args meth c G A cX3_fireEvents 2 none RX3)   {h : gH} {v0 : Nat} {v1 : Int32} (w : vX3_fireEvents_b42 G.2.2.1  Qn h v0 v1) : V p l e rmX3_fireEvents s m args below meth c (MQ below (va_Qv Qn (gB G A) A) args s rmX3_fireEvents.cells rmX3_fireEvents.slots A) G A 2 h 0 0 42 [(0, .ref v0), (1, .int v1)] [] := by
  refine V_aloadr_n X dX3_fireEvents_42 0 rfl ?_
  refine V_aloadr_n X dX3_fireEvents_43 0 rfl ?_
  obtain ⟨fs, r1, hh, hv, w⟩ := w
  refine V_get X flX3_58 dX3_fireEvents_44 hh hv ?_
  refine V_iload_n X dX3_fireEvents_47 1 rfl ?_
  obtain ⟨fs, hh, w⟩ := w
  refine V_callVv (As := [va_rf r1, .int v1]) (rest := []) (k1 := 0) (n1 := 0) X (cX3_fireTrack_ok X.2.2.2.2.2.2.2.2.1 w) lkX3_289 hh (q9 := (RX3, TX3, 13)) rfl rfl dX3_fireEvents_48 ⟨Nat.le_of_ble_eq_true rfl, Nat.le_of_ble_eq_true rfl⟩ rfl (Nat.le_of_ble_eq_true rfl) ⟨Nat.le_of_ble_eq_true rfl, Nat.le_of_ble_eq_true rfl⟩ (Nat.le_of_ble_eq_true rfl) (Nat.le_of_ble_eq_true rfl) (fun h2 w9 => ?_)
  replace w := w9
  clear w9
  exact V_vret X rfl dX3_fireEvents_51 (Nat.le_of_ble_eq_true rfl) (Nat.le_of_ble_eq_true rfl) w
def vX3_fireEvents (t0 : Nat)  (Qn : gH → Prop) (h : gH) (v0 : Nat) : Prop := gr h v0 6 4 (fun r1 => ((r1) = none → (gr h v0 6 2 (fun r3 => io h v0 6 (vX3_fireTrack t0 (fun h4 => Qn h4) h v0 r3 1000000)))) ∧ (∀ a2 : Nat, (r1) = some a2 → (io h v0 6 (vX3_targetShare t0 (fun x6 h5 => gi h5 v0 6 6 (fun x7 => ((¬ (x7 : Int32) = 0) → (vX3_fireEvents_b42 t0  Qn h5 v0 x6)) ∧ (((x7 : Int32) = 0) → (gr h5 v0 6 2 (fun r8 => io h5 v0 6 (vX3_fireTrack t0 (fun h9 => vX3_fireEvents_b42 t0  Qn h9 v0 x6) h5 v0 r8 (1000000 - x6))))))) h v0 ))))
set_option maxRecDepth 100000 in
set_option maxHeartbeats 4000000 in
theorem tX3_fireEvents {p : Program} {l : Launch} {e : Env} {s : State} {m : MethodId} {args : Array Value} {below : List Frame} {meth : Method} {c : Code} {G : gG} {A : Nat → Prop} {Qn : gH → Prop} (X : gC p l s m args meth c G A cX3_fireEvents 2 none RX3)   {h : gH} {v0 : Nat} (w : vX3_fireEvents G.2.2.1  Qn h v0) : V p l e rmX3_fireEvents s m args below meth c (MQ below (va_Qv Qn (gB G A) A) args s rmX3_fireEvents.cells rmX3_fireEvents.slots A) G A 2 h 0 0 0 [(0, .ref v0)] [] := by
  refine V_aloadr_n X dX3_fireEvents_0 0 rfl ?_
  obtain ⟨fs, r1, hh, hv, w⟩ := w
  refine V_get X flX3_71 dX3_fireEvents_1 hh hv ?_
  obtain ⟨w1, w2⟩ := w
  refine V_ifnonnull (tgt := 18) X dX3_fireEvents_4 (by decide) (fun a2 z => ?_) (fun z => ?_)
  · replace w := w2 a2 z
    clear w1 w2
    subst z
    refine V_aloadr_n X dX3_fireEvents_18 0 rfl ?_
    obtain ⟨fs, hh, w⟩ := w
    refine V_callVi (As := []) (rest := []) (k1 := 0) (n1 := 0) X (cX3_targetShare_ok X.2.2.2.2.2.2.2.2.1 w) lkX3_284 hh (q9 := (RX3, TX3, 13)) rfl rfl dX3_fireEvents_19 ⟨Nat.le_of_ble_eq_true rfl, Nat.le_of_ble_eq_true rfl⟩ rfl (Nat.le_of_ble_eq_true rfl) ⟨Nat.le_of_ble_eq_true rfl, Nat.le_of_ble_eq_true rfl⟩ (Nat.le_of_ble_eq_true rfl) (Nat.le_of_ble_eq_true rfl) (fun x6 h5 w9 => ?_)
    replace w := w9
    clear w9
    refine V_istore_n (i0 := 1) X dX3_fireEvents_22 rfl (by decide) rfl ?_
    refine V_aloadr_n X dX3_fireEvents_23 1 rfl ?_
    obtain ⟨fs, x7, hh, hv, w⟩ := w
    refine V_get X flX3_79 dX3_fireEvents_24 hh hv ?_
    obtain ⟨w1, w2⟩ := w
    refine V_if_ne (tgt := 42) X dX3_fireEvents_27 (by decide) (fun z => ?_) (fun z => ?_)
    · replace w := w1 z
      clear w1 w2
      exact V.sub [1, 0] rfl (tX3_fireEvents_b42 X  w)
    · replace w := w2 z
      clear w1 w2
      refine V_aloadr_n X dX3_fireEvents_30 1 rfl ?_
      refine V_aloadr_n X dX3_fireEvents_31 1 rfl ?_
      obtain ⟨fs, r8, hh, hv, w⟩ := w
      refine V_get X flX3_54 dX3_fireEvents_32 hh hv ?_
      refine V_ldc (y := 1000000) X dX3_fireEvents_35 kw_651 ?_
      refine V_iload_n X dX3_fireEvents_37 0 rfl ?_
      refine V_isub X dX3_fireEvents_38 ?_
      obtain ⟨fs, hh, w⟩ := w
      refine V_callVv (As := [va_rf r8, .int (1000000 - x6)]) (rest := []) (k1 := 0) (n1 := 0) X (cX3_fireTrack_ok X.2.2.2.2.2.2.2.2.1 w) lkX3_289 hh (q9 := (RX3, TX3, 13)) rfl rfl dX3_fireEvents_39 ⟨Nat.le_of_ble_eq_true rfl, Nat.le_of_ble_eq_true rfl⟩ rfl (Nat.le_of_ble_eq_true rfl) ⟨Nat.le_of_ble_eq_true rfl, Nat.le_of_ble_eq_true rfl⟩ (Nat.le_of_ble_eq_true rfl) (Nat.le_of_ble_eq_true rfl) (fun h9 w9 => ?_)
      replace w := w9
      clear w9
      exact V.sub [1, 0] rfl (tX3_fireEvents_b42 X  w)
  · replace w := w1 z
    clear w1 w2
    subst z
    refine V_aloadr_n X dX3_fireEvents_7 0 rfl ?_
    refine V_aloadr_n X dX3_fireEvents_8 0 rfl ?_
    obtain ⟨fs, r3, hh, hv, w⟩ := w
    refine V_get X flX3_54 dX3_fireEvents_9 hh hv ?_
    refine V_ldc (y := 1000000) X dX3_fireEvents_12 kw_651 ?_
    obtain ⟨fs, hh, w⟩ := w
    refine V_callVv (As := [va_rf r3, .int 1000000]) (rest := []) (k1 := 0) (n1 := 0) X (cX3_fireTrack_ok X.2.2.2.2.2.2.2.2.1 w) lkX3_289 hh (q9 := (RX3, TX3, 13)) rfl rfl dX3_fireEvents_14 ⟨Nat.le_of_ble_eq_true rfl, Nat.le_of_ble_eq_true rfl⟩ rfl (Nat.le_of_ble_eq_true rfl) ⟨Nat.le_of_ble_eq_true rfl, Nat.le_of_ble_eq_true rfl⟩ (Nat.le_of_ble_eq_true rfl) (Nat.le_of_ble_eq_true rfl) (fun h4 w9 => ?_)
    replace w := w9
    clear w9
    exact V_vret X rfl dX3_fireEvents_17 (Nat.le_of_ble_eq_true rfl) (Nat.le_of_ble_eq_true rfl) w
theorem cX3_fireEvents_ok {l : Launch} {G : gG} {h : gH} (hls : l.stackTraces = false) {Qn : gH → Prop} {v0 : Nat} (w : vX3_fireEvents G.2.2.1 Qn h v0) : gMv l yX3_fireEvents cX3_fireEvents 2 none rmX3_fireEvents rmX3_fireEvents.cells rmX3_fireEvents.slots G h [.ref v0] Qn := by
  exact gMv.of (by decide +kernel) hls (Nat.le_of_ble_eq_true rfl) rfl rfl (fun p e s m below meth c A X hnm => tX3_fireEvents X w)
/-! AnimationController$Machine.runTick()V -/
abbrev rmX3_runTick : Room := { frames := 12, cells := 0, slots := 0, locals := 303 }
def vX3_runTick_b69 (t0 : Nat)  (Qn : gH → Prop) (h : gH) (v0 : Nat) : Prop := gi h v0 6 9 (fun x1 => pv h v0 6 9 (.int (x1 + 1)) (fun h2 => io h2 v0 6 (vX3_fireEvents t0 (fun h3 => Qn h3) h2 v0 )))
set_option maxRecDepth 100000 in
set_option maxHeartbeats 4000000 in
theorem tX3_runTick_b69 {p : Program} {l : Launch} {e : Env} {s : State} {m : MethodId} {args : Array Value} {below : List Frame} {meth : Method} {c : Code} {G : gG} {A : Nat → Prop} {Qn : gH → Prop} (X : gC p l s m args meth c G A cX3_runTick 3 none RX3)   {h : gH} {v0 : Nat} (w : vX3_runTick_b69 G.2.2.1  Qn h v0) : V p l e rmX3_runTick s m args below meth c (MQ below (va_Qv Qn (gB G A) A) args s rmX3_runTick.cells rmX3_runTick.slots A) G A 3 h 0 0 69 [(0, .ref v0)] [] := by
  refine V_aloadr_n X dX3_runTick_69 0 rfl ?_
  refine V_dup X dX3_runTick_70 rfl ?_
  obtain ⟨fs, x1, hh, hv, w⟩ := w
  refine V_get X flX3_89 dX3_runTick_71 hh hv ?_
  refine V_iconst (y := 1) X dX3_runTick_74 (by decide) ?_
  refine V_iadd X dX3_runTick_75 ?_
  obtain ⟨fs, hh, hv, w⟩ := w
  refine V_put X flX3_89 dX3_runTick_76 hh hv rfl rfl ?_
  generalize va_up _ _ _ = h2 at w ⊢
  refine V_aloadr_n X dX3_runTick_79 0 rfl ?_
  obtain ⟨fs, hh, w⟩ := w
  refine V_callVv (As := []) (rest := []) (k1 := 0) (n1 := 0) X (cX3_fireEvents_ok X.2.2.2.2.2.2.2.2.1 w) lkX3_163 hh (q9 := (RX3, TX3, 13)) rfl rfl dX3_runTick_80 ⟨Nat.le_of_ble_eq_true rfl, Nat.le_of_ble_eq_true rfl⟩ rfl (Nat.le_of_ble_eq_true rfl) ⟨Nat.le_of_ble_eq_true rfl, Nat.le_of_ble_eq_true rfl⟩ (Nat.le_of_ble_eq_true rfl) (Nat.le_of_ble_eq_true rfl) (fun h3 w9 => ?_)
  replace w := w9
  clear w9
  exact V_vret X rfl dX3_runTick_83 (Nat.le_of_ble_eq_true rfl) (Nat.le_of_ble_eq_true rfl) w
def vX3_runTick_b30 (t0 : Nat)  (Qn : gH → Prop) (h : gH) (v0 : Nat) : Prop := io h v0 6 (vX3_advanceTracks t0 (fun h1 => gr h1 v0 6 4 (fun r2 => ((r2) = none → (vX3_runTick_b69 t0  Qn h1 v0)) ∧ (∀ a3 : Nat, (r2) = some a3 → (gi h1 v0 6 5 (fun x4 => pv h1 v0 6 5 (.int (x4 + 1)) (fun h5 => gi h5 v0 6 5 (fun x6 => gr h5 v0 6 4 (fun r7 => nn r7 (fun a8 => gi h5 a8 12 3 (fun x9 => (((x6 : Int32) < x9) → (vX3_runTick_b69 t0  Qn h5 v0)) ∧ ((¬ (x6 : Int32) < x9) → (io h5 v0 6 (vX3_becomeIdle t0 (fun h10 => vX3_runTick_b69 t0  Qn h10 v0) h5 v0 ))))))))))))) h v0 )
set_option maxRecDepth 100000 in
set_option maxHeartbeats 4000000 in
theorem tX3_runTick_b30 {p : Program} {l : Launch} {e : Env} {s : State} {m : MethodId} {args : Array Value} {below : List Frame} {meth : Method} {c : Code} {G : gG} {A : Nat → Prop} {Qn : gH → Prop} (X : gC p l s m args meth c G A cX3_runTick 3 none RX3)   {h : gH} {v0 : Nat} (w : vX3_runTick_b30 G.2.2.1  Qn h v0) : V p l e rmX3_runTick s m args below meth c (MQ below (va_Qv Qn (gB G A) A) args s rmX3_runTick.cells rmX3_runTick.slots A) G A 3 h 0 0 30 [(0, .ref v0)] [] := by
  refine V_aloadr_n X dX3_runTick_30 0 rfl ?_
  obtain ⟨fs, hh, w⟩ := w
  refine V_callVv (As := []) (rest := []) (k1 := 0) (n1 := 0) X (cX3_advanceTracks_ok X.2.2.2.2.2.2.2.2.1 w) lkX3_155 hh (q9 := (RX3, TX3, 13)) rfl rfl dX3_runTick_31 ⟨Nat.le_of_ble_eq_true rfl, Nat.le_of_ble_eq_true rfl⟩ rfl (Nat.le_of_ble_eq_true rfl) ⟨Nat.le_of_ble_eq_true rfl, Nat.le_of_ble_eq_true rfl⟩ (Nat.le_of_ble_eq_true rfl) (Nat.le_of_ble_eq_true rfl) (fun h1 w9 => ?_)
  replace w := w9
  clear w9
  refine V_aloadr_n X dX3_runTick_34 0 rfl ?_
  obtain ⟨fs, r2, hh, hv, w⟩ := w
  refine V_get X flX3_71 dX3_runTick_35 hh hv ?_
  obtain ⟨w1, w2⟩ := w
  refine V_ifnull (tgt := 69) X dX3_runTick_38 (by decide) (fun z => ?_) (fun a3 z => ?_)
  · replace w := w1 z
    clear w1 w2
    subst z
    exact V.sub [0] rfl (tX3_runTick_b69 X  w)
  · replace w := w2 a3 z
    clear w1 w2
    subst z
    refine V_aloadr_n X dX3_runTick_41 0 rfl ?_
    refine V_dup X dX3_runTick_42 rfl ?_
    obtain ⟨fs, x4, hh, hv, w⟩ := w
    refine V_get X flX3_75 dX3_runTick_43 hh hv ?_
    refine V_iconst (y := 1) X dX3_runTick_46 (by decide) ?_
    refine V_iadd X dX3_runTick_47 ?_
    obtain ⟨fs, hh, hv, w⟩ := w
    refine V_put X flX3_75 dX3_runTick_48 hh hv rfl rfl ?_
    generalize va_up _ _ _ = h5 at w ⊢
    refine V_aloadr_n X dX3_runTick_51 0 rfl ?_
    obtain ⟨fs, x6, hh, hv, w⟩ := w
    refine V_get X flX3_75 dX3_runTick_52 hh hv ?_
    refine V_aloadr_n X dX3_runTick_55 0 rfl ?_
    obtain ⟨fs, r7, hh, hv, w⟩ := w
    refine V_get X flX3_71 dX3_runTick_56 hh hv ?_
    obtain ⟨a8, rfl, w⟩ := w
    obtain ⟨fs, x9, hh, hv, w⟩ := w
    refine V_get X flX3_158 dX3_runTick_59 hh hv ?_
    obtain ⟨w1, w2⟩ := w
    refine V_icmp_lt (tgt := 69) X dX3_runTick_62 (by decide) (fun z => ?_) (fun z => ?_)
    · replace w := w1 z
      clear w1 w2
      exact V.sub [0] rfl (tX3_runTick_b69 X  w)
    · replace w := w2 z
      clear w1 w2
      refine V_aloadr_n X dX3_runTick_65 0 rfl ?_
      obtain ⟨fs, hh, w⟩ := w
      refine V_callVv (As := []) (rest := []) (k1 := 0) (n1 := 0) X (cX3_becomeIdle_ok X.2.2.2.2.2.2.2.2.1 w) lkX3_99 hh (q9 := (RX3, TX3, 13)) rfl rfl dX3_runTick_66 ⟨Nat.le_of_ble_eq_true rfl, Nat.le_of_ble_eq_true rfl⟩ rfl (Nat.le_of_ble_eq_true rfl) ⟨Nat.le_of_ble_eq_true rfl, Nat.le_of_ble_eq_true rfl⟩ (Nat.le_of_ble_eq_true rfl) (Nat.le_of_ble_eq_true rfl) (fun h10 w9 => ?_)
      replace w := w9
      clear w9
      exact V.sub [0] rfl (tX3_runTick_b69 X  w)
def vX3_runTick_b2_o (t0 : Nat) (k2 : gH → Nat → Int32 → Prop) (Qn : gH → Prop) (h : gH) (v0 : Nat) (v1 : Int32) : Prop := ((4 ≤ (v1 : Int32)) → (vX3_runTick_b30 t0  Qn h v0)) ∧ ((¬ 4 ≤ (v1 : Int32)) → (io h v0 6 (vX3_firstPossible t0 (fun r2 h1 => ((r2) = none → (vX3_runTick_b30 t0  Qn h1 v0)) ∧ (∀ a3 : Nat, (r2) = some a3 → (io h1 v0 6 (vX3_take t0 (fun h4 => k2 h4 v0 (v1 + 1)) h1 v0 (some a3))))) h v0 )))
set_option maxRecDepth 100000 in
set_option maxHeartbeats 4000000 in
theorem tX3_runTick_b2_o {p : Program} {l : Launch} {e : Env} {s : State} {m : MethodId} {args : Array Value} {below : List Frame} {meth : Method} {c : Code} {G : gG} {A : Nat → Prop} {Qn : gH → Prop} (X : gC p l s m args meth c G A cX3_runTick 3 none RX3) {k2 : gH → Nat → Int32 → Prop} (H2 : ∀ (h : gH) (v0 : Nat) (v1 : Int32), k2 h v0 v1 → V p l e rmX3_runTick s m args below meth c (MQ below (va_Qv Qn (gB G A) A) args s rmX3_runTick.cells rmX3_runTick.slots A) G A 3 h 0 0 2 [(0, .ref v0), (1, .int v1)] []) {h : gH} {v0 : Nat} {v1 : Int32} (w : vX3_runTick_b2_o G.2.2.1 k2 Qn h v0 v1) : V p l e rmX3_runTick s m args below meth c (MQ below (va_Qv Qn (gB G A) A) args s rmX3_runTick.cells rmX3_runTick.slots A) G A 3 h 0 0 2 [(0, .ref v0), (1, .int v1)] [] := by
  refine V_iload_n X dX3_runTick_2 1 rfl ?_
  refine V_iconst (y := 4) X dX3_runTick_3 (by decide) ?_
  obtain ⟨w1, w2⟩ := w
  refine V_icmp_ge (tgt := 30) X dX3_runTick_4 (by decide) (fun z => ?_) (fun z => ?_)
  · replace w := w1 z
    clear w1 w2
    exact V.sub [0] rfl (tX3_runTick_b30 X  w)
  · replace w := w2 z
    clear w1 w2
    refine V_aloadr_n X dX3_runTick_7 0 rfl ?_
    obtain ⟨fs, hh, w⟩ := w
    refine V_callVq (As := []) (rest := []) (k1 := 0) (n1 := 0) X (cX3_firstPossible_ok X.2.2.2.2.2.2.2.2.1 w) lkX3_147 hh (q9 := (RX3, TX3, 13)) rfl rfl dX3_runTick_8 ⟨Nat.le_of_ble_eq_true rfl, Nat.le_of_ble_eq_true rfl⟩ rfl (Nat.le_of_ble_eq_true rfl) ⟨Nat.le_of_ble_eq_true rfl, Nat.le_of_ble_eq_true rfl⟩ (Nat.le_of_ble_eq_true rfl) (Nat.le_of_ble_eq_true rfl) (fun r2 h1 w9 => ?_)
    replace w := w9
    clear w9
    refine V_astoreq_n (i0 := 2) X dX3_runTick_11 rfl (by decide) rfl ?_
    refine V_aload_n X dX3_runTick_12 0 rfl ?_
    obtain ⟨w1, w2⟩ := w
    refine V_ifnonnull (tgt := 19) X dX3_runTick_13 (by decide) (fun a3 z => ?_) (fun z => ?_)
    · replace w := w2 a3 z
      clear w1 w2
      subst z
      refine V_aloadr_n X dX3_runTick_19 1 rfl ?_
      refine V_aloadr_n X dX3_runTick_20 0 rfl ?_
      obtain ⟨fs, hh, w⟩ := w
      refine V_callVv (As := [.ref a3]) (rest := []) (k1 := 0) (n1 := 0) X (cX3_take_ok X.2.2.2.2.2.2.2.2.1 w) lkX3_151 hh (q9 := (RX3, TX3, 13)) rfl rfl dX3_runTick_21 ⟨Nat.le_of_ble_eq_true rfl, Nat.le_of_ble_eq_true rfl⟩ rfl (Nat.le_of_ble_eq_true rfl) ⟨Nat.le_of_ble_eq_true rfl, Nat.le_of_ble_eq_true rfl⟩ (Nat.le_of_ble_eq_true rfl) (Nat.le_of_ble_eq_true rfl) (fun h4 w9 => ?_)
      replace w := w9
      clear w9
      refine V_iinc (y := (v1 + 1)) X dX3_runTick_24 2 rfl (by first | rfl | (congr 1)) (by decide) rfl ?_
      refine V_goto (tgt := 2) X dX3_runTick_27 (by decide) ?_
      exact V.sub [2, 0] rfl (H2 _ _ _ w)
    · replace w := w1 z
      clear w1 w2
      subst z
      refine V_goto (tgt := 30) X dX3_runTick_16 (by decide) ?_
      exact V.sub [1] rfl (tX3_runTick_b30 X  w)
def vX3_runTick_b2 (t0 : Nat)  (Qn : gH → Prop) (n : Nat) : gH → Nat → Int32 → Prop := Nat.rec (motive := fun _ => gH → Nat → Int32 → Prop) (fun _ _ _ => False) (fun _ k2 => vX3_runTick_b2_o t0 k2 Qn) n
theorem tX3_runTick_b2 {p : Program} {l : Launch} {e : Env} {s : State} {m : MethodId} {args : Array Value} {below : List Frame} {meth : Method} {c : Code} {G : gG} {A : Nat → Prop} {Qn : gH → Prop} (X : gC p l s m args meth c G A cX3_runTick 3 none RX3)   : ∀ (n : Nat) (h : gH) (v0 : Nat) (v1 : Int32) (w : vX3_runTick_b2 G.2.2.1  Qn n h v0 v1), V p l e rmX3_runTick s m args below meth c (MQ below (va_Qv Qn (gB G A) A) args s rmX3_runTick.cells rmX3_runTick.slots A) G A 3 h 0 0 2 [(0, .ref v0), (1, .int v1)] [] := by
  intro n
  induction n with
  | zero => intro h v0 v1 w; exact False.elim w
  | succ n ih => intro h v0 v1 w; exact tX3_runTick_b2_o X ih w
def vX3_runTick (t0 : Nat)  (Qn : gH → Prop) (h : gH) (v0 : Nat) : Prop := ∃ n : Nat, vX3_runTick_b2 t0  Qn n h v0 0
set_option maxRecDepth 100000 in
set_option maxHeartbeats 4000000 in
theorem tX3_runTick {p : Program} {l : Launch} {e : Env} {s : State} {m : MethodId} {args : Array Value} {below : List Frame} {meth : Method} {c : Code} {G : gG} {A : Nat → Prop} {Qn : gH → Prop} (X : gC p l s m args meth c G A cX3_runTick 3 none RX3)   {h : gH} {v0 : Nat} (w : vX3_runTick G.2.2.1  Qn h v0) : V p l e rmX3_runTick s m args below meth c (MQ below (va_Qv Qn (gB G A) A) args s rmX3_runTick.cells rmX3_runTick.slots A) G A 3 h 0 0 0 [(0, .ref v0)] [] := by
  refine V_iconst (y := 0) X dX3_runTick_0 (by decide) ?_
  refine V_istore_n (i0 := 1) X dX3_runTick_1 rfl (by decide) rfl ?_
  obtain ⟨n9, w⟩ := w
  exact V.sub [1, 0] rfl (tX3_runTick_b2 X  n9 _ _ _ w)
theorem cX3_runTick_ok {l : Launch} {G : gG} {h : gH} (hls : l.stackTraces = false) {Qn : gH → Prop} {v0 : Nat} (w : vX3_runTick G.2.2.1 Qn h v0) : gMv l yX3_runTick cX3_runTick 3 none rmX3_runTick rmX3_runTick.cells rmX3_runTick.slots G h [.ref v0] Qn := by
  exact gMv.of (by decide +kernel) hls (Nat.le_of_ble_eq_true rfl) rfl rfl (fun p e s m below meth c A X hnm => tX3_runTick X w)
/-! java/util/AbstractCollection.<init>()V -/
abbrev rmJxa1e45_init_da8c8 : Room := { frames := 1, cells := 0, slots := 0, locals := 20 }
def vJxa1e45_init_da8c8 (t0 : Nat)  (Qn : gH → Prop) (h : gH) (v0 : Nat) : Prop := Qn h
set_option maxRecDepth 100000 in
set_option maxHeartbeats 4000000 in
theorem tJxa1e45_init_da8c8 {p : Program} {l : Launch} {e : Env} {s : State} {m : MethodId} {args : Array Value} {below : List Frame} {meth : Method} {c : Code} {G : gG} {A : Nat → Prop} {Qn : gH → Prop} (X : gC p l s m args meth c G A cJxa1e45_init_da8c8 1 none RJxa1e45) (hin : meth.name = "<init>")   {h : gH} {v0 : Nat} (w : vJxa1e45_init_da8c8 G.2.2.1  Qn h v0) : V p l e rmJxa1e45_init_da8c8 s m args below meth c (MQ below (va_Qv Qn (gB G A) A) args s rmJxa1e45_init_da8c8.cells rmJxa1e45_init_da8c8.slots A) G A 1 h 0 0 0 [(0, .ref v0)] [] := by
  refine V_aloadr_n X dJxa1e45_init_da8c8_0 0 rfl ?_
  refine V_objInit X kw_60 kw_41 kw_42 dJxa1e45_init_da8c8_1 (Nat.le_of_ble_eq_true rfl) (Nat.le_of_ble_eq_true rfl) ?_
  exact V_vret X rfl dJxa1e45_init_da8c8_4 (Nat.le_of_ble_eq_true rfl) (Nat.le_of_ble_eq_true rfl) w
theorem cJxa1e45_init_da8c8_ok {l : Launch} {G : gG} {h : gH} (hls : l.stackTraces = false) {Qn : gH → Prop} {v0 : Nat} (w : vJxa1e45_init_da8c8 G.2.2.1 Qn h v0) : gMv l yJxa1e45_init_da8c8 cJxa1e45_init_da8c8 1 none rmJxa1e45_init_da8c8 rmJxa1e45_init_da8c8.cells rmJxa1e45_init_da8c8.slots G h [.ref v0] Qn := by
  exact gMv.of (by decide +kernel) hls (Nat.le_of_ble_eq_true rfl) rfl rfl (fun p e s m below meth c A X hnm => tJxa1e45_init_da8c8 X hnm w)
/-! java/util/AbstractList.<init>()V -/
abbrev rmJxc12de_init_da8c8 : Room := { frames := 2, cells := 0, slots := 0, locals := 40 }
def vJxc12de_init_da8c8 (t0 : Nat)  (Qn : gH → Prop) (h : gH) (v0 : Nat) : Prop := vJxa1e45_init_da8c8 t0 (fun h1 => pv h1 v0 2 0 (.int 0) (fun h2 => Qn h2)) h v0 
set_option maxRecDepth 100000 in
set_option maxHeartbeats 4000000 in
theorem tJxc12de_init_da8c8 {p : Program} {l : Launch} {e : Env} {s : State} {m : MethodId} {args : Array Value} {below : List Frame} {meth : Method} {c : Code} {G : gG} {A : Nat → Prop} {Qn : gH → Prop} (X : gC p l s m args meth c G A cJxc12de_init_da8c8 1 none RJxc12de) (hin : meth.name = "<init>")   {h : gH} {v0 : Nat} (w : vJxc12de_init_da8c8 G.2.2.1  Qn h v0) : V p l e rmJxc12de_init_da8c8 s m args below meth c (MQ below (va_Qv Qn (gB G A) A) args s rmJxc12de_init_da8c8.cells rmJxc12de_init_da8c8.slots A) G A 1 h 0 0 0 [(0, .ref v0)] [] := by
  refine V_aloadr_n X dJxc12de_init_da8c8_0 0 rfl ?_
  refine V_callI (As := []) (rest := []) (k1 := 0) (n1 := 0) X (cJxa1e45_init_da8c8_ok X.2.2.2.2.2.2.2.2.1 w) lkJxc12de_1 dJxc12de_init_da8c8_1 ⟨Nat.le_of_ble_eq_true rfl, Nat.le_of_ble_eq_true rfl⟩ rfl (Nat.le_of_ble_eq_true rfl) ⟨Nat.le_of_ble_eq_true rfl, Nat.le_of_ble_eq_true rfl⟩ (Nat.le_of_ble_eq_true rfl) (Nat.le_of_ble_eq_true rfl) (fun h1 w9 => ?_)
  replace w := w9
  clear w9
  refine V_aloadr_n X dJxc12de_init_da8c8_4 0 rfl ?_
  refine V_iconst (y := 0) X dJxc12de_init_da8c8_5 (by decide) ?_
  obtain ⟨fs, hh, hv, w⟩ := w
  refine V_put X flJxc12de_7 dJxc12de_init_da8c8_6 hh hv rfl rfl ?_
  generalize va_up _ _ _ = h2 at w ⊢
  exact V_vret X rfl dJxc12de_init_da8c8_9 (Nat.le_of_ble_eq_true rfl) (Nat.le_of_ble_eq_true rfl) w
theorem cJxc12de_init_da8c8_ok {l : Launch} {G : gG} {h : gH} (hls : l.stackTraces = false) {Qn : gH → Prop} {v0 : Nat} (w : vJxc12de_init_da8c8 G.2.2.1 Qn h v0) : gMv l yJxc12de_init_da8c8 cJxc12de_init_da8c8 1 none rmJxc12de_init_da8c8 rmJxc12de_init_da8c8.cells rmJxc12de_init_da8c8.slots G h [.ref v0] Qn := by
  exact gMv.of (by decide +kernel) hls (Nat.le_of_ble_eq_true rfl) rfl rfl (fun p e s m below meth c A X hnm => tJxc12de_init_da8c8 X hnm w)
/-! java/util/ArrayList.<init>()V -/
abbrev rmJx4a65c_init_da8c8 : Room := { frames := 3, cells := 0, slots := 0, locals := 60 }
def vJx4a65c_init_da8c8 (t0 : Nat)  (Qn : gH → Prop) (h : gH) (v0 : Nat) : Prop := vJxc12de_init_da8c8 t0 (fun h1 => pv h1 v0 2 1 (.ref t0) (fun h2 => Qn h2)) h v0 
set_option maxRecDepth 100000 in
set_option maxHeartbeats 4000000 in
theorem tJx4a65c_init_da8c8 {p : Program} {l : Launch} {e : Env} {s : State} {m : MethodId} {args : Array Value} {below : List Frame} {meth : Method} {c : Code} {G : gG} {A : Nat → Prop} {Qn : gH → Prop} (X : gC p l s m args meth c G A cJx4a65c_init_da8c8 1 none RJx4a65c) (hin : meth.name = "<init>")   {h : gH} {v0 : Nat} (w : vJx4a65c_init_da8c8 G.2.2.1  Qn h v0) : V p l e rmJx4a65c_init_da8c8 s m args below meth c (MQ below (va_Qv Qn (gB G A) A) args s rmJx4a65c_init_da8c8.cells rmJx4a65c_init_da8c8.slots A) G A 1 h 0 0 0 [(0, .ref v0)] [] := by
  refine V_aloadr_n X dJx4a65c_init_da8c8_0 0 rfl ?_
  refine V_callI (As := []) (rest := []) (k1 := 0) (n1 := 0) X (cJxc12de_init_da8c8_ok X.2.2.2.2.2.2.2.2.1 w) lkJx4a65c_1 dJx4a65c_init_da8c8_1 ⟨Nat.le_of_ble_eq_true rfl, Nat.le_of_ble_eq_true rfl⟩ rfl (Nat.le_of_ble_eq_true rfl) ⟨Nat.le_of_ble_eq_true rfl, Nat.le_of_ble_eq_true rfl⟩ (Nat.le_of_ble_eq_true rfl) (Nat.le_of_ble_eq_true rfl) (fun h1 w9 => ?_)
  replace w := w9
  clear w9
  refine V_aloadr_n X dJx4a65c_init_da8c8_4 0 rfl ?_
  refine V_gets0 X kw_61 dJx4a65c_init_da8c8_5 ?_
  obtain ⟨fs, hh, hv, w⟩ := w
  refine V_put X flJx4a65c_9 dJx4a65c_init_da8c8_8 hh hv rfl rfl ?_
  generalize va_up _ _ _ = h2 at w ⊢
  exact V_vret X rfl dJx4a65c_init_da8c8_11 (Nat.le_of_ble_eq_true rfl) (Nat.le_of_ble_eq_true rfl) w
theorem cJx4a65c_init_da8c8_ok {l : Launch} {G : gG} {h : gH} (hls : l.stackTraces = false) {Qn : gH → Prop} {v0 : Nat} (w : vJx4a65c_init_da8c8 G.2.2.1 Qn h v0) : gMv l yJx4a65c_init_da8c8 cJx4a65c_init_da8c8 1 none rmJx4a65c_init_da8c8 rmJx4a65c_init_da8c8.cells rmJx4a65c_init_da8c8.slots G h [.ref v0] Qn := by
  exact gMv.of (by decide +kernel) hls (Nat.le_of_ble_eq_true rfl) rfl rfl (fun p e s m below meth c A X hnm => tJx4a65c_init_da8c8 X hnm w)
/-! AnimationController$Node.<init>(LAnimationController$Clip;I)V -/
abbrev rmX5_init : Room := { frames := 4, cells := 2, slots := 8, locals := 80 }
def vX5_init (t0 : Nat)  (Qn : gH → Prop) (h : gH) (v0 : Nat) (v1 : Option Nat) (v2 : Int32) : Prop := nw h (.inr (2, [.int 0, .null, .int 0])) (fun q1 h2 => vJx4a65c_init_da8c8 t0 (fun h3 => pv h3 v0 8 2 (.ref q1) (fun h4 => nw h4 (.inl (0, 5, .inl (fun _ => 0))) (fun q5 h6 => pv h6 v0 8 3 (.ref q5) (fun h7 => pv h7 v0 8 4 (.int 1) (fun h8 => pv h8 v0 8 0 (va_rf v1) (fun h9 => pv h9 v0 8 1 (.int v2) (fun h10 => Qn h10))))))) h2 q1 )
set_option maxRecDepth 100000 in
set_option maxHeartbeats 4000000 in
theorem tX5_init {p : Program} {l : Launch} {e : Env} {s : State} {m : MethodId} {args : Array Value} {below : List Frame} {meth : Method} {c : Code} {G : gG} {A : Nat → Prop} {Qn : gH → Prop} (X : gC p l s m args meth c G A cX5_init 3 none RX5) (hin : meth.name = "<init>")   {h : gH} {v0 : Nat} {v1 : Option Nat} {v2 : Int32} (w : vX5_init G.2.2.1  Qn h v0 v1 v2) : V p l e rmX5_init s m args below meth c (MQ below (va_Qv Qn (gB G A) A) args s rmX5_init.cells rmX5_init.slots A) G A 3 h 0 0 0 [(0, .ref v0), (1, va_rf v1), (2, .int v2)] [] := by
  refine V_aloadr_n X dX5_init_0 0 rfl ?_
  refine V_objInit X kw_114 kw_41 kw_42 dX5_init_1 (Nat.le_of_ble_eq_true rfl) (Nat.le_of_ble_eq_true rfl) ?_
  refine V_aloadr_n X dX5_init_4 0 rfl ?_
  refine V_new (k1 := 1) (n1 := 3) X nwX5_9 dX5_init_5 ⟨(Nat.le_of_ble_eq_true rfl), (Nat.le_of_ble_eq_true rfl)⟩ (Nat.le_of_ble_eq_true rfl) (Nat.le_of_ble_eq_true rfl) (fun q1 hq => ?_)
  replace w := w q1 hq
  generalize va_up _ _ _ = h2 at w ⊢
  refine V_dup X dX5_init_8 rfl ?_
  refine V_callI (As := []) (rest := [.ref q1, .ref v0]) (k1 := 1) (n1 := 3) X (cJx4a65c_init_da8c8_ok X.2.2.2.2.2.2.2.2.1 w) lkX5_11 dX5_init_9 ⟨Nat.le_of_ble_eq_true rfl, Nat.le_of_ble_eq_true rfl⟩ rfl (Nat.le_of_ble_eq_true rfl) ⟨Nat.le_of_ble_eq_true rfl, Nat.le_of_ble_eq_true rfl⟩ (Nat.le_of_ble_eq_true rfl) (Nat.le_of_ble_eq_true rfl) (fun h3 w9 => ?_)
  replace w := w9
  clear w9
  obtain ⟨fs, hh, hv, w⟩ := w
  refine V_putF X hin flX5_12 dX5_init_12 hh hv rfl rfl ?_
  generalize va_up _ _ _ = h4 at w ⊢
  refine V_aloadr_n X dX5_init_15 0 rfl ?_
  refine V_iconst (y := 5) X dX5_init_16 (by decide) ?_
  refine V_newa_int (N := 5) (k1 := 2) (n1 := 8) X kw_75 dX5_init_17 (by decide) (by decide) (Nat.le_of_ble_eq_true rfl) ⟨Nat.le_of_ble_eq_true rfl, Nat.le_of_ble_eq_true rfl⟩ (Nat.le_of_ble_eq_true rfl) (Nat.le_of_ble_eq_true rfl) (fun q5 hq => ?_)
  replace w := w q5 hq
  generalize va_up _ _ _ = h6 at w ⊢
  obtain ⟨fs, hh, hv, w⟩ := w
  refine V_putF X hin flX5_18 dX5_init_19 hh hv rfl rfl ?_
  generalize va_up _ _ _ = h7 at w ⊢
  refine V_aloadr_n X dX5_init_22 0 rfl ?_
  refine V_iconst (y := 1) X dX5_init_23 (by decide) ?_
  obtain ⟨fs, hh, hv, w⟩ := w
  refine V_put X flX5_22 dX5_init_24 hh hv rfl rfl ?_
  generalize va_up _ _ _ = h8 at w ⊢
  refine V_aloadr_n X dX5_init_27 0 rfl ?_
  refine V_aload_n X dX5_init_28 1 rfl ?_
  obtain ⟨fs, hh, hv, w⟩ := w
  refine V_putF X hin flX5_26 dX5_init_29 hh hv (by cases v1 <;> rfl) (by cases v1 <;> rfl) ?_
  generalize va_up _ _ _ = h9 at w ⊢
  refine V_aloadr_n X dX5_init_32 0 rfl ?_
  refine V_iload_n X dX5_init_33 2 rfl ?_
  obtain ⟨fs, hh, hv, w⟩ := w
  refine V_putF X hin flX5_30 dX5_init_34 hh hv rfl rfl ?_
  generalize va_up _ _ _ = h10 at w ⊢
  exact V_vret X rfl dX5_init_37 (Nat.le_of_ble_eq_true rfl) (Nat.le_of_ble_eq_true rfl) w
theorem cX5_init_ok {l : Launch} {G : gG} {h : gH} (hls : l.stackTraces = false) {Qn : gH → Prop} {v0 : Nat} {v1 : Option Nat} {v2 : Int32} (w : vX5_init G.2.2.1 Qn h v0 v1 v2) : gMv l yX5_init cX5_init 3 none rmX5_init rmX5_init.cells rmX5_init.slots G h [.ref v0, va_rf v1, .int v2] Qn := by
  cases v1 <;>
  exact gMv.of (by decide +kernel) hls (Nat.le_of_ble_eq_true rfl) rfl rfl (fun p e s m below meth c A X hnm => tX5_init X hnm w)
/-! AnimationController$State.<init>(ILAnimationController$Node;IZI)V -/
abbrev rmX7_init : Room := { frames := 1, cells := 0, slots := 0, locals := 20 }
def vX7_init (t0 : Nat)  (Qn : gH → Prop) (h : gH) (v0 : Nat) (v1 : Int32) (v2 : Option Nat) (v3 : Int32) (v4 : Int32) (v5 : Int32) : Prop := pv h v0 10 0 (.int v1) (fun h1 => pv h1 v0 10 1 (va_rf v2) (fun h2 => pv h2 v0 10 2 (.int v3) (fun h3 => gZ v4 ∧ (pv h3 v0 10 3 (.int v4) (fun h4 => pv h4 v0 10 4 (.int v5) (fun h5 => Qn h5))))))
set_option maxRecDepth 100000 in
set_option maxHeartbeats 4000000 in
theorem tX7_init {p : Program} {l : Launch} {e : Env} {s : State} {m : MethodId} {args : Array Value} {below : List Frame} {meth : Method} {c : Code} {G : gG} {A : Nat → Prop} {Qn : gH → Prop} (X : gC p l s m args meth c G A cX7_init 6 none RX7) (hin : meth.name = "<init>")   {h : gH} {v0 : Nat} {v1 : Int32} {v2 : Option Nat} {v3 : Int32} {v4 : Int32} {v5 : Int32} (w : vX7_init G.2.2.1  Qn h v0 v1 v2 v3 v4 v5) : V p l e rmX7_init s m args below meth c (MQ below (va_Qv Qn (gB G A) A) args s rmX7_init.cells rmX7_init.slots A) G A 6 h 0 0 0 [(0, .ref v0), (1, .int v1), (2, va_rf v2), (3, .int v3), (4, .int v4), (5, .int v5)] [] := by
  refine V_aloadr_n X dX7_init_0 0 rfl ?_
  refine V_objInit X kw_141 kw_41 kw_42 dX7_init_1 (Nat.le_of_ble_eq_true rfl) (Nat.le_of_ble_eq_true rfl) ?_
  refine V_aloadr_n X dX7_init_4 0 rfl ?_
  refine V_iload_n X dX7_init_5 1 rfl ?_
  obtain ⟨fs, hh, hv, w⟩ := w
  refine V_putF X hin flX7_7 dX7_init_6 hh hv rfl rfl ?_
  generalize va_up _ _ _ = h1 at w ⊢
  refine V_aloadr_n X dX7_init_9 0 rfl ?_
  refine V_aload_n X dX7_init_10 2 rfl ?_
  obtain ⟨fs, hh, hv, w⟩ := w
  refine V_putF X hin flX7_13 dX7_init_11 hh hv (by cases v2 <;> rfl) (by cases v2 <;> rfl) ?_
  generalize va_up _ _ _ = h2 at w ⊢
  refine V_aloadr_n X dX7_init_14 0 rfl ?_
  refine V_iload_n X dX7_init_15 3 rfl ?_
  obtain ⟨fs, hh, hv, w⟩ := w
  refine V_putF X hin flX7_17 dX7_init_16 hh hv rfl rfl ?_
  generalize va_up _ _ _ = h3 at w ⊢
  refine V_aloadr_n X dX7_init_19 0 rfl ?_
  refine V_iload X dX7_init_20 4 rfl ?_
  obtain ⟨hz, w⟩ := w
  obtain ⟨fs, hh, hv, w⟩ := w
  refine V_putF X hin flX7_20 dX7_init_22 hh hv hz.1 hz.2 ?_
  generalize va_up _ _ _ = h4 at w ⊢
  refine V_aloadr_n X dX7_init_25 0 rfl ?_
  refine V_iload X dX7_init_26 5 rfl ?_
  obtain ⟨fs, hh, hv, w⟩ := w
  refine V_putF X hin flX7_24 dX7_init_28 hh hv rfl rfl ?_
  generalize va_up _ _ _ = h5 at w ⊢
  exact V_vret X rfl dX7_init_31 (Nat.le_of_ble_eq_true rfl) (Nat.le_of_ble_eq_true rfl) w
theorem cX7_init_ok {l : Launch} {G : gG} {h : gH} (hls : l.stackTraces = false) {Qn : gH → Prop} {v0 : Nat} {v1 : Int32} {v2 : Option Nat} {v3 : Int32} {v4 : Int32} {v5 : Int32} (w : vX7_init G.2.2.1 Qn h v0 v1 v2 v3 v4 v5) : gMv l yX7_init cX7_init 6 none rmX7_init rmX7_init.cells rmX7_init.slots G h [.ref v0, .int v1, va_rf v2, .int v3, .int v4, .int v5] Qn := by
  cases v2 <;>
  exact gMv.of (by decide +kernel) hls (Nat.le_of_ble_eq_true rfl) rfl rfl (fun p e s m below meth c A X hnm => tX7_init X hnm w)
/-! AnimationController$Model.<init>()V -/
abbrev rmX4_init : Room := { frames := 5, cells := 12, slots := 53, locals := 102 }
def vX4_init (t0 : Nat)  (Qn : gH → Prop) (h : gH) (v0 : Nat) : Prop := nw h (.inl (0, 8, .inl (fun _ => 0))) (fun q1 h2 => pv h2 v0 7 0 (.ref q1) (fun h3 => nw h3 (.inr (2, [.int 0, .null, .int 0])) (fun q4 h5 => vJx4a65c_init_da8c8 t0 (fun h6 => pv h6 v0 7 2 (.ref q4) (fun h7 => nw h7 (.inr (2, [.int 0, .null, .int 0])) (fun q8 h9 => vJx4a65c_init_da8c8 t0 (fun h10 => pv h10 v0 7 3 (.ref q8) (fun h11 => nw h11 (.inr (2, [.int 0, .null, .int 0])) (fun q12 h13 => vJx4a65c_init_da8c8 t0 (fun h14 => pv h14 v0 7 4 (.ref q12) (fun h15 => nw h15 (.inr (2, [.int 0, .null, .int 0])) (fun q16 h17 => vJx4a65c_init_da8c8 t0 (fun h18 => pv h18 v0 7 5 (.ref q16) (fun h19 => pv h19 v0 7 6 (.int 1) (fun h20 => nw h20 (.inr (10, [.int 0, .null, .int 0, .int 0, .int 0])) (fun q21 h22 => nw h22 (.inr (8, [.null, .int 0, .null, .null, .int 0])) (fun q23 h24 => nw h24 (.inr (4, [.int 0, .int 0, .null, .null, .int 0])) (fun q25 h26 => vX1_init t0 (fun h27 => vX5_init t0 (fun h28 => vX7_init t0 (fun h29 => pv h29 v0 7 7 (.ref q21) (fun h30 => Qn h30)) h28 q21 (-1) (some q23) 100 1 0) h27 q23 (some q25) (-1)) h26 q25 (-1) 1)))))) h17 q16 ))) h13 q12 ))) h9 q8 ))) h5 q4 )))
set_option maxRecDepth 100000 in
set_option maxHeartbeats 4000000 in
theorem tX4_init {p : Program} {l : Launch} {e : Env} {s : State} {m : MethodId} {args : Array Value} {below : List Frame} {meth : Method} {c : Code} {G : gG} {A : Nat → Prop} {Qn : gH → Prop} (X : gC p l s m args meth c G A cX4_init 1 none RX4) (hin : meth.name = "<init>")   {h : gH} {v0 : Nat} (w : vX4_init G.2.2.1  Qn h v0) : V p l e rmX4_init s m args below meth c (MQ below (va_Qv Qn (gB G A) A) args s rmX4_init.cells rmX4_init.slots A) G A 1 h 0 0 0 [(0, .ref v0)] [] := by
  refine V_aloadr_n X dX4_init_0 0 rfl ?_
  refine V_objInit X kw_48 kw_41 kw_42 dX4_init_1 (Nat.le_of_ble_eq_true rfl) (Nat.le_of_ble_eq_true rfl) ?_
  refine V_aloadr_n X dX4_init_4 0 rfl ?_
  refine V_bipush (y := 8) X dX4_init_5 (by decide) ?_
  refine V_newa_int (N := 8) (k1 := 1) (n1 := 8) X kw_75 dX4_init_7 (by decide) (by decide) (Nat.le_of_ble_eq_true rfl) ⟨Nat.le_of_ble_eq_true rfl, Nat.le_of_ble_eq_true rfl⟩ (Nat.le_of_ble_eq_true rfl) (Nat.le_of_ble_eq_true rfl) (fun q1 hq => ?_)
  replace w := w q1 hq
  generalize va_up _ _ _ = h2 at w ⊢
  obtain ⟨fs, hh, hv, w⟩ := w
  refine V_putF X hin flX4_9 dX4_init_9 hh hv rfl rfl ?_
  generalize va_up _ _ _ = h3 at w ⊢
  refine V_aloadr_n X dX4_init_12 0 rfl ?_
  refine V_new (k1 := 2) (n1 := 11) X nwX4_15 dX4_init_13 ⟨(Nat.le_of_ble_eq_true rfl), (Nat.le_of_ble_eq_true rfl)⟩ (Nat.le_of_ble_eq_true rfl) (Nat.le_of_ble_eq_true rfl) (fun q4 hq => ?_)
  replace w := w q4 hq
  generalize va_up _ _ _ = h5 at w ⊢
  refine V_dup X dX4_init_16 rfl ?_
  refine V_callI (As := []) (rest := [.ref q4, .ref v0]) (k1 := 2) (n1 := 11) X (cJx4a65c_init_da8c8_ok X.2.2.2.2.2.2.2.2.1 w) lkX4_17 dX4_init_17 ⟨Nat.le_of_ble_eq_true rfl, Nat.le_of_ble_eq_true rfl⟩ rfl (Nat.le_of_ble_eq_true rfl) ⟨Nat.le_of_ble_eq_true rfl, Nat.le_of_ble_eq_true rfl⟩ (Nat.le_of_ble_eq_true rfl) (Nat.le_of_ble_eq_true rfl) (fun h6 w9 => ?_)
  replace w := w9
  clear w9
  obtain ⟨fs, hh, hv, w⟩ := w
  refine V_putF X hin flX4_18 dX4_init_20 hh hv rfl rfl ?_
  generalize va_up _ _ _ = h7 at w ⊢
  refine V_aloadr_n X dX4_init_23 0 rfl ?_
  refine V_new (k1 := 3) (n1 := 14) X nwX4_15 dX4_init_24 ⟨(Nat.le_of_ble_eq_true rfl), (Nat.le_of_ble_eq_true rfl)⟩ (Nat.le_of_ble_eq_true rfl) (Nat.le_of_ble_eq_true rfl) (fun q8 hq => ?_)
  replace w := w q8 hq
  generalize va_up _ _ _ = h9 at w ⊢
  refine V_dup X dX4_init_27 rfl ?_
  refine V_callI (As := []) (rest := [.ref q8, .ref v0]) (k1 := 3) (n1 := 14) X (cJx4a65c_init_da8c8_ok X.2.2.2.2.2.2.2.2.1 w) lkX4_17 dX4_init_28 ⟨Nat.le_of_ble_eq_true rfl, Nat.le_of_ble_eq_true rfl⟩ rfl (Nat.le_of_ble_eq_true rfl) ⟨Nat.le_of_ble_eq_true rfl, Nat.le_of_ble_eq_true rfl⟩ (Nat.le_of_ble_eq_true rfl) (Nat.le_of_ble_eq_true rfl) (fun h10 w9 => ?_)
  replace w := w9
  clear w9
  obtain ⟨fs, hh, hv, w⟩ := w
  refine V_putF X hin flX4_22 dX4_init_31 hh hv rfl rfl ?_
  generalize va_up _ _ _ = h11 at w ⊢
  refine V_aloadr_n X dX4_init_34 0 rfl ?_
  refine V_new (k1 := 4) (n1 := 17) X nwX4_15 dX4_init_35 ⟨(Nat.le_of_ble_eq_true rfl), (Nat.le_of_ble_eq_true rfl)⟩ (Nat.le_of_ble_eq_true rfl) (Nat.le_of_ble_eq_true rfl) (fun q12 hq => ?_)
  replace w := w q12 hq
  generalize va_up _ _ _ = h13 at w ⊢
  refine V_dup X dX4_init_38 rfl ?_
  refine V_callI (As := []) (rest := [.ref q12, .ref v0]) (k1 := 4) (n1 := 17) X (cJx4a65c_init_da8c8_ok X.2.2.2.2.2.2.2.2.1 w) lkX4_17 dX4_init_39 ⟨Nat.le_of_ble_eq_true rfl, Nat.le_of_ble_eq_true rfl⟩ rfl (Nat.le_of_ble_eq_true rfl) ⟨Nat.le_of_ble_eq_true rfl, Nat.le_of_ble_eq_true rfl⟩ (Nat.le_of_ble_eq_true rfl) (Nat.le_of_ble_eq_true rfl) (fun h14 w9 => ?_)
  replace w := w9
  clear w9
  obtain ⟨fs, hh, hv, w⟩ := w
  refine V_putF X hin flX4_25 dX4_init_42 hh hv rfl rfl ?_
  generalize va_up _ _ _ = h15 at w ⊢
  refine V_aloadr_n X dX4_init_45 0 rfl ?_
  refine V_new (k1 := 5) (n1 := 20) X nwX4_15 dX4_init_46 ⟨(Nat.le_of_ble_eq_true rfl), (Nat.le_of_ble_eq_true rfl)⟩ (Nat.le_of_ble_eq_true rfl) (Nat.le_of_ble_eq_true rfl) (fun q16 hq => ?_)
  replace w := w q16 hq
  generalize va_up _ _ _ = h17 at w ⊢
  refine V_dup X dX4_init_49 rfl ?_
  refine V_callI (As := []) (rest := [.ref q16, .ref v0]) (k1 := 5) (n1 := 20) X (cJx4a65c_init_da8c8_ok X.2.2.2.2.2.2.2.2.1 w) lkX4_17 dX4_init_50 ⟨Nat.le_of_ble_eq_true rfl, Nat.le_of_ble_eq_true rfl⟩ rfl (Nat.le_of_ble_eq_true rfl) ⟨Nat.le_of_ble_eq_true rfl, Nat.le_of_ble_eq_true rfl⟩ (Nat.le_of_ble_eq_true rfl) (Nat.le_of_ble_eq_true rfl) (fun h18 w9 => ?_)
  replace w := w9
  clear w9
  obtain ⟨fs, hh, hv, w⟩ := w
  refine V_putF X hin flX4_28 dX4_init_53 hh hv rfl rfl ?_
  generalize va_up _ _ _ = h19 at w ⊢
  refine V_aloadr_n X dX4_init_56 0 rfl ?_
  refine V_iconst (y := 1) X dX4_init_57 (by decide) ?_
  obtain ⟨fs, hh, hv, w⟩ := w
  refine V_put X flX4_31 dX4_init_58 hh hv rfl rfl ?_
  generalize va_up _ _ _ = h20 at w ⊢
  refine V_aloadr_n X dX4_init_61 0 rfl ?_
  refine V_new (k1 := 6) (n1 := 25) X nwX4_35 dX4_init_62 ⟨(Nat.le_of_ble_eq_true rfl), (Nat.le_of_ble_eq_true rfl)⟩ (Nat.le_of_ble_eq_true rfl) (Nat.le_of_ble_eq_true rfl) (fun q21 hq => ?_)
  replace w := w q21 hq
  generalize va_up _ _ _ = h22 at w ⊢
  refine V_dup X dX4_init_65 rfl ?_
  refine V_iconst (y := (-1)) X dX4_init_66 (by decide) ?_
  refine V_new (k1 := 7) (n1 := 30) X nwX4_37 dX4_init_67 ⟨(Nat.le_of_ble_eq_true rfl), (Nat.le_of_ble_eq_true rfl)⟩ (Nat.le_of_ble_eq_true rfl) (Nat.le_of_ble_eq_true rfl) (fun q23 hq => ?_)
  replace w := w q23 hq
  generalize va_up _ _ _ = h24 at w ⊢
  refine V_dup X dX4_init_70 rfl ?_
  refine V_new (k1 := 8) (n1 := 35) X nwX4_39 dX4_init_71 ⟨(Nat.le_of_ble_eq_true rfl), (Nat.le_of_ble_eq_true rfl)⟩ (Nat.le_of_ble_eq_true rfl) (Nat.le_of_ble_eq_true rfl) (fun q25 hq => ?_)
  replace w := w q25 hq
  generalize va_up _ _ _ = h26 at w ⊢
  refine V_dup X dX4_init_74 rfl ?_
  refine V_iconst (y := (-1)) X dX4_init_75 (by decide) ?_
  refine V_iconst (y := 1) X dX4_init_76 (by decide) ?_
  refine V_callI (As := [.int (-1), .int 1]) (rest := [.ref q25, .ref q23, .ref q23, .int (-1), .ref q21, .ref q21, .ref v0]) (k1 := 10) (n1 := 45) X (cX1_init_ok X.2.2.2.2.2.2.2.2.1 w) lkX4_41 dX4_init_77 ⟨Nat.le_of_ble_eq_true rfl, Nat.le_of_ble_eq_true rfl⟩ rfl (Nat.le_of_ble_eq_true rfl) ⟨Nat.le_of_ble_eq_true rfl, Nat.le_of_ble_eq_true rfl⟩ (Nat.le_of_ble_eq_true rfl) (Nat.le_of_ble_eq_true rfl) (fun h27 w9 => ?_)
  replace w := w9
  clear w9
  refine V_iconst (y := (-1)) X dX4_init_80 (by decide) ?_
  refine V_callI (As := [.ref q25, .int (-1)]) (rest := [.ref q23, .int (-1), .ref q21, .ref q21, .ref v0]) (k1 := 12) (n1 := 53) X (cX5_init_ok X.2.2.2.2.2.2.2.2.1 w) lkX4_44 dX4_init_81 ⟨Nat.le_of_ble_eq_true rfl, Nat.le_of_ble_eq_true rfl⟩ rfl (Nat.le_of_ble_eq_true rfl) ⟨Nat.le_of_ble_eq_true rfl, Nat.le_of_ble_eq_true rfl⟩ (Nat.le_of_ble_eq_true rfl) (Nat.le_of_ble_eq_true rfl) (fun h28 w9 => ?_)
  replace w := w9
  clear w9
  refine V_bipush (y := 100) X dX4_init_84 (by decide) ?_
  refine V_iconst (y := 1) X dX4_init_86 (by decide) ?_
  refine V_iconst (y := 0) X dX4_init_87 (by decide) ?_
  refine V_callI (As := [.int (-1), .ref q23, .int 100, .int 1, .int 0]) (rest := [.ref q21, .ref v0]) (k1 := 12) (n1 := 53) X (cX7_init_ok X.2.2.2.2.2.2.2.2.1 w) lkX4_47 dX4_init_88 ⟨Nat.le_of_ble_eq_true rfl, Nat.le_of_ble_eq_true rfl⟩ rfl (Nat.le_of_ble_eq_true rfl) ⟨Nat.le_of_ble_eq_true rfl, Nat.le_of_ble_eq_true rfl⟩ (Nat.le_of_ble_eq_true rfl) (Nat.le_of_ble_eq_true rfl) (fun h29 w9 => ?_)
  replace w := w9
  clear w9
  obtain ⟨fs, hh, hv, w⟩ := w
  refine V_putF X hin flX4_50 dX4_init_91 hh hv rfl rfl ?_
  generalize va_up _ _ _ = h30 at w ⊢
  exact V_vret X rfl dX4_init_94 (Nat.le_of_ble_eq_true rfl) (Nat.le_of_ble_eq_true rfl) w
theorem cX4_init_ok {l : Launch} {G : gG} {h : gH} (hls : l.stackTraces = false) {Qn : gH → Prop} {v0 : Nat} (w : vX4_init G.2.2.1 Qn h v0) : gMv l yX4_init cX4_init 1 none rmX4_init rmX4_init.cells rmX4_init.slots G h [.ref v0] Qn := by
  exact gMv.of (by decide +kernel) hls (Nat.le_of_ble_eq_true rfl) rfl rfl (fun p e s m below meth c A X hnm => tX4_init X hnm w)
/-! AnimationController$Model.hasParameter(I)Z -/
abbrev rmX4_hasParameter : Room := { frames := 0, cells := 0, slots := 0, locals := 0 }
def vX4_hasParameter_b26 (t0 : Nat)  (Qn : Int32 → gH → Prop) (h : gH) (s0 : Int32) : Prop := gZ s0 ∧ Qn s0 h
set_option maxRecDepth 100000 in
set_option maxHeartbeats 4000000 in
theorem tX4_hasParameter_b26 {p : Program} {l : Launch} {e : Env} {s : State} {m : MethodId} {args : Array Value} {below : List Frame} {meth : Method} {c : Code} {G : gG} {A : Nat → Prop} {Qn : Int32 → gH → Prop} (X : gC p l s m args meth c G A cX4_hasParameter 2 (some FieldType.boolean) RX4)   {h : gH} {s0 : Int32} (w : vX4_hasParameter_b26 G.2.2.1  Qn h s0) : V p l e rmX4_hasParameter s m args below meth c (MQ below (va_Qi Qn (gB G A) A) args s rmX4_hasParameter.cells rmX4_hasParameter.slots A) G A 2 h 0 0 26 [] [.int s0] := by
  obtain ⟨hz, w⟩ := w
  exact V_zret X rfl hz.1 dX4_hasParameter_26 (Nat.le_of_ble_eq_true rfl) (Nat.le_of_ble_eq_true rfl) w
def vX4_hasParameter_b25 (t0 : Nat)  (Qn : Int32 → gH → Prop) (h : gH)  : Prop := vX4_hasParameter_b26 t0  Qn h 0
set_option maxRecDepth 100000 in
set_option maxHeartbeats 4000000 in
theorem tX4_hasParameter_b25 {p : Program} {l : Launch} {e : Env} {s : State} {m : MethodId} {args : Array Value} {below : List Frame} {meth : Method} {c : Code} {G : gG} {A : Nat → Prop} {Qn : Int32 → gH → Prop} (X : gC p l s m args meth c G A cX4_hasParameter 2 (some FieldType.boolean) RX4)   {h : gH}  (w : vX4_hasParameter_b25 G.2.2.1  Qn h ) : V p l e rmX4_hasParameter s m args below meth c (MQ below (va_Qi Qn (gB G A) A) args s rmX4_hasParameter.cells rmX4_hasParameter.slots A) G A 2 h 0 0 25 [] [] := by
  refine V_iconst (y := 0) X dX4_hasParameter_25 (by decide) ?_
  exact V.sub [] rfl (tX4_hasParameter_b26 X  w)
def vX4_hasParameter (t0 : Nat)  (Qn : Int32 → gH → Prop) (h : gH) (v0 : Nat) (v1 : Int32) : Prop := (((v1 : Int32) < 0) → (vX4_hasParameter_b25 t0  Qn h )) ∧ ((¬ (v1 : Int32) < 0) → (gi h v0 7 1 (fun x1 => ((x1 ≤ (v1 : Int32)) → (vX4_hasParameter_b25 t0  Qn h )) ∧ ((¬ x1 ≤ (v1 : Int32)) → (gr h v0 7 0 (fun r2 => nn r2 (fun a3 => al h a3 (fun x4 => ((x4 ≤ (v1 : Int32)) → (vX4_hasParameter_b25 t0  Qn h )) ∧ ((¬ x4 ≤ (v1 : Int32)) → (vX4_hasParameter_b26 t0  Qn h 1))))))))))
set_option maxRecDepth 100000 in
set_option maxHeartbeats 4000000 in
theorem tX4_hasParameter {p : Program} {l : Launch} {e : Env} {s : State} {m : MethodId} {args : Array Value} {below : List Frame} {meth : Method} {c : Code} {G : gG} {A : Nat → Prop} {Qn : Int32 → gH → Prop} (X : gC p l s m args meth c G A cX4_hasParameter 2 (some FieldType.boolean) RX4)   {h : gH} {v0 : Nat} {v1 : Int32} (w : vX4_hasParameter G.2.2.1  Qn h v0 v1) : V p l e rmX4_hasParameter s m args below meth c (MQ below (va_Qi Qn (gB G A) A) args s rmX4_hasParameter.cells rmX4_hasParameter.slots A) G A 2 h 0 0 0 [(0, .ref v0), (1, .int v1)] [] := by
  refine V_iload_n X dX4_hasParameter_0 1 rfl ?_
  obtain ⟨w1, w2⟩ := w
  refine V_if_lt (tgt := 25) X dX4_hasParameter_1 (by decide) (fun z => ?_) (fun z => ?_)
  · replace w := w1 z
    clear w1 w2
    exact V.sub [] rfl (tX4_hasParameter_b25 X  w)
  · replace w := w2 z
    clear w1 w2
    refine V_iload_n X dX4_hasParameter_4 1 rfl ?_
    refine V_aloadr_n X dX4_hasParameter_5 0 rfl ?_
    obtain ⟨fs, x1, hh, hv, w⟩ := w
    refine V_get X flX4_54 dX4_hasParameter_6 hh hv ?_
    obtain ⟨w1, w2⟩ := w
    refine V_icmp_ge (tgt := 25) X dX4_hasParameter_9 (by decide) (fun z => ?_) (fun z => ?_)
    · replace w := w1 z
      clear w1 w2
      exact V.sub [] rfl (tX4_hasParameter_b25 X  w)
    · replace w := w2 z
      clear w1 w2
      refine V_iload_n X dX4_hasParameter_12 1 rfl ?_
      refine V_aloadr_n X dX4_hasParameter_13 0 rfl ?_
      obtain ⟨fs, r2, hh, hv, w⟩ := w
      refine V_get X flX4_9 dX4_hasParameter_14 hh hv ?_
      obtain ⟨a3, rfl, w⟩ := w
      obtain ⟨kt9, x9, hh, hk9, w⟩ := w
      refine V_alen X dX4_hasParameter_17 hh hk9 ?_
      generalize Int32.ofNat _ = x4 at w ⊢
      obtain ⟨w1, w2⟩ := w
      refine V_icmp_ge (tgt := 25) X dX4_hasParameter_18 (by decide) (fun z => ?_) (fun z => ?_)
      · replace w := w1 z
        clear w1 w2
        exact V.sub [] rfl (tX4_hasParameter_b25 X  w)
      · replace w := w2 z
        clear w1 w2
        refine V_iconst (y := 1) X dX4_hasParameter_21 (by decide) ?_
        refine V_goto (tgt := 26) X dX4_hasParameter_22 (by decide) ?_
        exact V.sub [] rfl (tX4_hasParameter_b26 X  w)
theorem cX4_hasParameter_ok {l : Launch} {G : gG} {h : gH} (hls : l.stackTraces = false) {Qn : Int32 → gH → Prop} {v0 : Nat} {v1 : Int32} (w : vX4_hasParameter G.2.2.1 Qn h v0 v1) : gMi l yX4_hasParameter cX4_hasParameter 2 (some FieldType.boolean) rmX4_hasParameter rmX4_hasParameter.cells rmX4_hasParameter.slots G h [.ref v0, .int v1] Qn := by
  exact gMi.of (by decide +kernel) hls (Nat.le_of_ble_eq_true rfl) rfl rfl (fun p e s m below meth c A X hnm => tX4_hasParameter X w)
/-! AnimationController$Model.isValue(II)Z -/
abbrev rmX4_isValue : Room := { frames := 1, cells := 0, slots := 0, locals := 21 }
def vX4_isValue_b40 (t0 : Nat)  (Qn : Int32 → gH → Prop) (h : gH) (s0 : Int32) : Prop := gZ s0 ∧ Qn s0 h
set_option maxRecDepth 100000 in
set_option maxHeartbeats 4000000 in
theorem tX4_isValue_b40 {p : Program} {l : Launch} {e : Env} {s : State} {m : MethodId} {args : Array Value} {below : List Frame} {meth : Method} {c : Code} {G : gG} {A : Nat → Prop} {Qn : Int32 → gH → Prop} (X : gC p l s m args meth c G A cX4_isValue 3 (some FieldType.boolean) RX4)   {h : gH} {s0 : Int32} (w : vX4_isValue_b40 G.2.2.1  Qn h s0) : V p l e rmX4_isValue s m args below meth c (MQ below (va_Qi Qn (gB G A) A) args s rmX4_isValue.cells rmX4_isValue.slots A) G A 3 h 0 0 40 [] [.int s0] := by
  obtain ⟨hz, w⟩ := w
  exact V_zret X rfl hz.1 dX4_isValue_40 (Nat.le_of_ble_eq_true rfl) (Nat.le_of_ble_eq_true rfl) w
def vX4_isValue_b35 (t0 : Nat)  (Qn : Int32 → gH → Prop) (h : gH)  : Prop := vX4_isValue_b40 t0  Qn h 1
set_option maxRecDepth 100000 in
set_option maxHeartbeats 4000000 in
theorem tX4_isValue_b35 {p : Program} {l : Launch} {e : Env} {s : State} {m : MethodId} {args : Array Value} {below : List Frame} {meth : Method} {c : Code} {G : gG} {A : Nat → Prop} {Qn : Int32 → gH → Prop} (X : gC p l s m args meth c G A cX4_isValue 3 (some FieldType.boolean) RX4)   {h : gH}  (w : vX4_isValue_b35 G.2.2.1  Qn h ) : V p l e rmX4_isValue s m args below meth c (MQ below (va_Qi Qn (gB G A) A) args s rmX4_isValue.cells rmX4_isValue.slots A) G A 3 h 0 0 35 [] [] := by
  refine V_iconst (y := 1) X dX4_isValue_35 (by decide) ?_
  refine V_goto (tgt := 40) X dX4_isValue_36 (by decide) ?_
  exact V.sub [] rfl (tX4_isValue_b40 X  w)
def vX4_isValue_b25 (t0 : Nat)  (Qn : Int32 → gH → Prop) (h : gH) (s0 : Int32) : Prop := gZ s0 ∧ Qn s0 h
set_option maxRecDepth 100000 in
set_option maxHeartbeats 4000000 in
theorem tX4_isValue_b25 {p : Program} {l : Launch} {e : Env} {s : State} {m : MethodId} {args : Array Value} {below : List Frame} {meth : Method} {c : Code} {G : gG} {A : Nat → Prop} {Qn : Int32 → gH → Prop} (X : gC p l s m args meth c G A cX4_isValue 3 (some FieldType.boolean) RX4)   {h : gH} {s0 : Int32} (w : vX4_isValue_b25 G.2.2.1  Qn h s0) : V p l e rmX4_isValue s m args below meth c (MQ below (va_Qi Qn (gB G A) A) args s rmX4_isValue.cells rmX4_isValue.slots A) G A 3 h 0 0 25 [] [.int s0] := by
  obtain ⟨hz, w⟩ := w
  exact V_zret X rfl hz.1 dX4_isValue_25 (Nat.le_of_ble_eq_true rfl) (Nat.le_of_ble_eq_true rfl) w
def vX4_isValue_b24 (t0 : Nat)  (Qn : Int32 → gH → Prop) (h : gH)  : Prop := vX4_isValue_b25 t0  Qn h 0
set_option maxRecDepth 100000 in
set_option maxHeartbeats 4000000 in
theorem tX4_isValue_b24 {p : Program} {l : Launch} {e : Env} {s : State} {m : MethodId} {args : Array Value} {below : List Frame} {meth : Method} {c : Code} {G : gG} {A : Nat → Prop} {Qn : Int32 → gH → Prop} (X : gC p l s m args meth c G A cX4_isValue 3 (some FieldType.boolean) RX4)   {h : gH}  (w : vX4_isValue_b24 G.2.2.1  Qn h ) : V p l e rmX4_isValue s m args below meth c (MQ below (va_Qi Qn (gB G A) A) args s rmX4_isValue.cells rmX4_isValue.slots A) G A 3 h 0 0 24 [] [] := by
  refine V_iconst (y := 0) X dX4_isValue_24 (by decide) ?_
  exact V.sub [] rfl (tX4_isValue_b25 X  w)
def vX4_isValue (t0 : Nat)  (Qn : Int32 → gH → Prop) (h : gH) (v0 : Nat) (v1 : Int32) (v2 : Int32) : Prop := io h v0 7 (vX4_kindOf t0 (fun x2 h1 => ((¬ (x2 : Int32) = 0) → ((((v2 : Int32) = 0) → (vX4_isValue_b35 t0  Qn h1 )) ∧ ((¬ (v2 : Int32) = 0) → (((¬ (v2 : Int32) = 1) → (vX4_isValue_b40 t0  Qn h1 0)) ∧ (((v2 : Int32) = 1) → (vX4_isValue_b35 t0  Qn h1 )))))) ∧ (((x2 : Int32) = 0) → ((((v2 : Int32) < (-100)) → (vX4_isValue_b24 t0  Qn h1 )) ∧ ((¬ (v2 : Int32) < (-100)) → (((100 < (v2 : Int32)) → (vX4_isValue_b24 t0  Qn h1 )) ∧ ((¬ 100 < (v2 : Int32)) → (vX4_isValue_b25 t0  Qn h1 1))))))) h v0 v1)
set_option maxRecDepth 100000 in
set_option maxHeartbeats 4000000 in
theorem tX4_isValue {p : Program} {l : Launch} {e : Env} {s : State} {m : MethodId} {args : Array Value} {below : List Frame} {meth : Method} {c : Code} {G : gG} {A : Nat → Prop} {Qn : Int32 → gH → Prop} (X : gC p l s m args meth c G A cX4_isValue 3 (some FieldType.boolean) RX4)   {h : gH} {v0 : Nat} {v1 : Int32} {v2 : Int32} (w : vX4_isValue G.2.2.1  Qn h v0 v1 v2) : V p l e rmX4_isValue s m args below meth c (MQ below (va_Qi Qn (gB G A) A) args s rmX4_isValue.cells rmX4_isValue.slots A) G A 3 h 0 0 0 [(0, .ref v0), (1, .int v1), (2, .int v2)] [] := by
  refine V_aloadr_n X dX4_isValue_0 0 rfl ?_
  refine V_iload_n X dX4_isValue_1 1 rfl ?_
  obtain ⟨fs, hh, w⟩ := w
  refine V_callVi (As := [.int v1]) (rest := []) (k1 := 0) (n1 := 0) X (cX4_kindOf_ok X.2.2.2.2.2.2.2.2.1 w) lkX4_57 hh (q9 := (RX4, TX4, 8)) rfl rfl dX4_isValue_2 ⟨Nat.le_of_ble_eq_true rfl, Nat.le_of_ble_eq_true rfl⟩ rfl (Nat.le_of_ble_eq_true rfl) ⟨Nat.le_of_ble_eq_true rfl, Nat.le_of_ble_eq_true rfl⟩ (Nat.le_of_ble_eq_true rfl) (Nat.le_of_ble_eq_true rfl) (fun x2 h1 w9 => ?_)
  replace w := w9
  clear w9
  obtain ⟨w1, w2⟩ := w
  refine V_if_ne (tgt := 26) X dX4_isValue_5 (by decide) (fun z => ?_) (fun z => ?_)
  · replace w := w1 z
    clear w1 w2
    refine V_iload_n X dX4_isValue_26 2 rfl ?_
    obtain ⟨w1, w2⟩ := w
    refine V_if_eq (tgt := 35) X dX4_isValue_27 (by decide) (fun z => ?_) (fun z => ?_)
    · replace w := w1 z
      clear w1 w2
      exact V.sub [] rfl (tX4_isValue_b35 X  w)
    · replace w := w2 z
      clear w1 w2
      refine V_iload_n X dX4_isValue_30 2 rfl ?_
      refine V_iconst (y := 1) X dX4_isValue_31 (by decide) ?_
      obtain ⟨w1, w2⟩ := w
      refine V_icmp_ne (tgt := 39) X dX4_isValue_32 (by decide) (fun z => ?_) (fun z => ?_)
      · replace w := w1 z
        clear w1 w2
        refine V_iconst (y := 0) X dX4_isValue_39 (by decide) ?_
        exact V.sub [] rfl (tX4_isValue_b40 X  w)
      · replace w := w2 z
        clear w1 w2
        exact V.sub [] rfl (tX4_isValue_b35 X  w)
  · replace w := w2 z
    clear w1 w2
    refine V_iload_n X dX4_isValue_8 2 rfl ?_
    refine V_bipush (y := (-100)) X dX4_isValue_9 (by decide) ?_
    obtain ⟨w1, w2⟩ := w
    refine V_icmp_lt (tgt := 24) X dX4_isValue_11 (by decide) (fun z => ?_) (fun z => ?_)
    · replace w := w1 z
      clear w1 w2
      exact V.sub [] rfl (tX4_isValue_b24 X  w)
    · replace w := w2 z
      clear w1 w2
      refine V_iload_n X dX4_isValue_14 2 rfl ?_
      refine V_bipush (y := 100) X dX4_isValue_15 (by decide) ?_
      obtain ⟨w1, w2⟩ := w
      refine V_icmp_gt (tgt := 24) X dX4_isValue_17 (by decide) (fun z => ?_) (fun z => ?_)
      · replace w := w1 z
        clear w1 w2
        exact V.sub [] rfl (tX4_isValue_b24 X  w)
      · replace w := w2 z
        clear w1 w2
        refine V_iconst (y := 1) X dX4_isValue_20 (by decide) ?_
        refine V_goto (tgt := 25) X dX4_isValue_21 (by decide) ?_
        exact V.sub [] rfl (tX4_isValue_b25 X  w)
theorem cX4_isValue_ok {l : Launch} {G : gG} {h : gH} (hls : l.stackTraces = false) {Qn : Int32 → gH → Prop} {v0 : Nat} {v1 : Int32} {v2 : Int32} (w : vX4_isValue G.2.2.1 Qn h v0 v1 v2) : gMi l yX4_isValue cX4_isValue 3 (some FieldType.boolean) rmX4_isValue rmX4_isValue.cells rmX4_isValue.slots G h [.ref v0, .int v1, .int v2] Qn := by
  exact gMi.of (by decide +kernel) hls (Nat.le_of_ble_eq_true rfl) rfl rfl (fun p e s m below meth c A X hnm => tX4_isValue X w)
/-! AnimationController$Model.isCondition(III)Z -/
abbrev rmX4_isCondition : Room := { frames := 2, cells := 0, slots := 0, locals := 43 }
def vX4_isCondition_b55 (t0 : Nat)  (Qn : Int32 → gH → Prop) (h : gH) (s0 : Int32) : Prop := gZ s0 ∧ Qn s0 h
set_option maxRecDepth 100000 in
set_option maxHeartbeats 4000000 in
theorem tX4_isCondition_b55 {p : Program} {l : Launch} {e : Env} {s : State} {m : MethodId} {args : Array Value} {below : List Frame} {meth : Method} {c : Code} {G : gG} {A : Nat → Prop} {Qn : Int32 → gH → Prop} (X : gC p l s m args meth c G A cX4_isCondition 4 (some FieldType.boolean) RX4)   {h : gH} {s0 : Int32} (w : vX4_isCondition_b55 G.2.2.1  Qn h s0) : V p l e rmX4_isCondition s m args below meth c (MQ below (va_Qi Qn (gB G A) A) args s rmX4_isCondition.cells rmX4_isCondition.slots A) G A 4 h 0 0 55 [] [.int s0] := by
  obtain ⟨hz, w⟩ := w
  exact V_zret X rfl hz.1 dX4_isCondition_55 (Nat.le_of_ble_eq_true rfl) (Nat.le_of_ble_eq_true rfl) w
def vX4_isCondition_b54 (t0 : Nat)  (Qn : Int32 → gH → Prop) (h : gH)  : Prop := vX4_isCondition_b55 t0  Qn h 0
set_option maxRecDepth 100000 in
set_option maxHeartbeats 4000000 in
theorem tX4_isCondition_b54 {p : Program} {l : Launch} {e : Env} {s : State} {m : MethodId} {args : Array Value} {below : List Frame} {meth : Method} {c : Code} {G : gG} {A : Nat → Prop} {Qn : Int32 → gH → Prop} (X : gC p l s m args meth c G A cX4_isCondition 4 (some FieldType.boolean) RX4)   {h : gH}  (w : vX4_isCondition_b54 G.2.2.1  Qn h ) : V p l e rmX4_isCondition s m args below meth c (MQ below (va_Qi Qn (gB G A) A) args s rmX4_isCondition.cells rmX4_isCondition.slots A) G A 4 h 0 0 54 [] [] := by
  refine V_iconst (y := 0) X dX4_isCondition_54 (by decide) ?_
  exact V.sub [] rfl (tX4_isCondition_b55 X  w)
def vX4_isCondition_b75 (t0 : Nat)  (Qn : Int32 → gH → Prop) (h : gH) (s0 : Int32) : Prop := gZ s0 ∧ Qn s0 h
set_option maxRecDepth 100000 in
set_option maxHeartbeats 4000000 in
theorem tX4_isCondition_b75 {p : Program} {l : Launch} {e : Env} {s : State} {m : MethodId} {args : Array Value} {below : List Frame} {meth : Method} {c : Code} {G : gG} {A : Nat → Prop} {Qn : Int32 → gH → Prop} (X : gC p l s m args meth c G A cX4_isCondition 4 (some FieldType.boolean) RX4)   {h : gH} {s0 : Int32} (w : vX4_isCondition_b75 G.2.2.1  Qn h s0) : V p l e rmX4_isCondition s m args below meth c (MQ below (va_Qi Qn (gB G A) A) args s rmX4_isCondition.cells rmX4_isCondition.slots A) G A 4 h 0 0 75 [] [.int s0] := by
  obtain ⟨hz, w⟩ := w
  exact V_zret X rfl hz.1 dX4_isCondition_75 (Nat.le_of_ble_eq_true rfl) (Nat.le_of_ble_eq_true rfl) w
def vX4_isCondition_b74 (t0 : Nat)  (Qn : Int32 → gH → Prop) (h : gH)  : Prop := vX4_isCondition_b75 t0  Qn h 0
set_option maxRecDepth 100000 in
set_option maxHeartbeats 4000000 in
theorem tX4_isCondition_b74 {p : Program} {l : Launch} {e : Env} {s : State} {m : MethodId} {args : Array Value} {below : List Frame} {meth : Method} {c : Code} {G : gG} {A : Nat → Prop} {Qn : Int32 → gH → Prop} (X : gC p l s m args meth c G A cX4_isCondition 4 (some FieldType.boolean) RX4)   {h : gH}  (w : vX4_isCondition_b74 G.2.2.1  Qn h ) : V p l e rmX4_isCondition s m args below meth c (MQ below (va_Qi Qn (gB G A) A) args s rmX4_isCondition.cells rmX4_isCondition.slots A) G A 4 h 0 0 74 [] [] := by
  refine V_iconst (y := 0) X dX4_isCondition_74 (by decide) ?_
  exact V.sub [] rfl (tX4_isCondition_b75 X  w)
def vX4_isCondition_b91 (t0 : Nat)  (Qn : Int32 → gH → Prop) (h : gH) (s0 : Int32) : Prop := gZ s0 ∧ Qn s0 h
set_option maxRecDepth 100000 in
set_option maxHeartbeats 4000000 in
theorem tX4_isCondition_b91 {p : Program} {l : Launch} {e : Env} {s : State} {m : MethodId} {args : Array Value} {below : List Frame} {meth : Method} {c : Code} {G : gG} {A : Nat → Prop} {Qn : Int32 → gH → Prop} (X : gC p l s m args meth c G A cX4_isCondition 4 (some FieldType.boolean) RX4)   {h : gH} {s0 : Int32} (w : vX4_isCondition_b91 G.2.2.1  Qn h s0) : V p l e rmX4_isCondition s m args below meth c (MQ below (va_Qi Qn (gB G A) A) args s rmX4_isCondition.cells rmX4_isCondition.slots A) G A 4 h 0 0 91 [] [.int s0] := by
  obtain ⟨hz, w⟩ := w
  exact V_zret X rfl hz.1 dX4_isCondition_91 (Nat.le_of_ble_eq_true rfl) (Nat.le_of_ble_eq_true rfl) w
def vX4_isCondition_b90 (t0 : Nat)  (Qn : Int32 → gH → Prop) (h : gH)  : Prop := vX4_isCondition_b91 t0  Qn h 0
set_option maxRecDepth 100000 in
set_option maxHeartbeats 4000000 in
theorem tX4_isCondition_b90 {p : Program} {l : Launch} {e : Env} {s : State} {m : MethodId} {args : Array Value} {below : List Frame} {meth : Method} {c : Code} {G : gG} {A : Nat → Prop} {Qn : Int32 → gH → Prop} (X : gC p l s m args meth c G A cX4_isCondition 4 (some FieldType.boolean) RX4)   {h : gH}  (w : vX4_isCondition_b90 G.2.2.1  Qn h ) : V p l e rmX4_isCondition s m args below meth c (MQ below (va_Qi Qn (gB G A) A) args s rmX4_isCondition.cells rmX4_isCondition.slots A) G A 4 h 0 0 90 [] [] := by
  refine V_iconst (y := 0) X dX4_isCondition_90 (by decide) ?_
  exact V.sub [] rfl (tX4_isCondition_b91 X  w)
def vX4_isCondition (t0 : Nat)  (Qn : Int32 → gH → Prop) (h : gH) (v0 : Nat) (v1 : Int32) (v2 : Int32) (v3 : Int32) : Prop := io h v0 7 (vX4_kindOf t0 (fun x2 h1 => ((x2 : Int32).toInt = 0 → ((((v2 : Int32) < 0) → (vX4_isCondition_b54 t0  Qn h1 )) ∧ ((¬ (v2 : Int32) < 0) → (((3 < (v2 : Int32)) → (vX4_isCondition_b54 t0  Qn h1 )) ∧ ((¬ 3 < (v2 : Int32)) → (io h1 v0 7 (vX4_isValue t0 (fun x4 h3 => (((x4 : Int32) = 0) → (vX4_isCondition_b54 t0  Qn h3 )) ∧ ((¬ (x4 : Int32) = 0) → (vX4_isCondition_b55 t0  Qn h3 1))) h1 v0 v1 v3))))))) ∧ ((x2 : Int32).toInt = 1 → (((¬ (v2 : Int32) = 2) → (vX4_isCondition_b74 t0  Qn h1 )) ∧ (((v2 : Int32) = 2) → (io h1 v0 7 (vX4_isValue t0 (fun x6 h5 => (((x6 : Int32) = 0) → (vX4_isCondition_b74 t0  Qn h5 )) ∧ ((¬ (x6 : Int32) = 0) → (vX4_isCondition_b75 t0  Qn h5 1))) h1 v0 v1 v3))))) ∧ ((¬ (x2 : Int32).toInt = 0 ∧ ¬ (x2 : Int32).toInt = 1) → (((¬ (v2 : Int32) = 2) → (vX4_isCondition_b90 t0  Qn h1 )) ∧ (((v2 : Int32) = 2) → (((¬ (v3 : Int32) = 1) → (vX4_isCondition_b90 t0  Qn h1 )) ∧ (((v3 : Int32) = 1) → (vX4_isCondition_b91 t0  Qn h1 1))))))) h v0 v1)
set_option maxRecDepth 100000 in
set_option maxHeartbeats 4000000 in
theorem tX4_isCondition {p : Program} {l : Launch} {e : Env} {s : State} {m : MethodId} {args : Array Value} {below : List Frame} {meth : Method} {c : Code} {G : gG} {A : Nat → Prop} {Qn : Int32 → gH → Prop} (X : gC p l s m args meth c G A cX4_isCondition 4 (some FieldType.boolean) RX4)   {h : gH} {v0 : Nat} {v1 : Int32} {v2 : Int32} {v3 : Int32} (w : vX4_isCondition G.2.2.1  Qn h v0 v1 v2 v3) : V p l e rmX4_isCondition s m args below meth c (MQ below (va_Qi Qn (gB G A) A) args s rmX4_isCondition.cells rmX4_isCondition.slots A) G A 4 h 0 0 0 [(0, .ref v0), (1, .int v1), (2, .int v2), (3, .int v3)] [] := by
  refine V_aloadr_n X dX4_isCondition_0 0 rfl ?_
  refine V_iload_n X dX4_isCondition_1 1 rfl ?_
  obtain ⟨fs, hh, w⟩ := w
  refine V_callVi (As := [.int v1]) (rest := []) (k1 := 0) (n1 := 0) X (cX4_kindOf_ok X.2.2.2.2.2.2.2.2.1 w) lkX4_57 hh (q9 := (RX4, TX4, 8)) rfl rfl dX4_isCondition_2 ⟨Nat.le_of_ble_eq_true rfl, Nat.le_of_ble_eq_true rfl⟩ rfl (Nat.le_of_ble_eq_true rfl) ⟨Nat.le_of_ble_eq_true rfl, Nat.le_of_ble_eq_true rfl⟩ (Nat.le_of_ble_eq_true rfl) (Nat.le_of_ble_eq_true rfl) (fun x2 h1 w9 => ?_)
  replace w := w9
  clear w9
  obtain ⟨w0, w1, w2⟩ := w
  rcases (show (x2 : Int32).toInt = 0 ∨ (x2 : Int32).toInt = 1 ∨ (¬ (x2 : Int32).toInt = 0 ∧ ¬ (x2 : Int32).toInt = 1) by omega) with z | z | z
  · refine V_lookup (tgt := 32) X dX4_isCondition_5 (by decide) (by rw [z] <;> rfl) (by decide) ?_
    replace w := w0 z
    clear w0 w1 w2
    refine V_iload_n X dX4_isCondition_32 2 rfl ?_
    obtain ⟨w1, w2⟩ := w
    refine V_if_lt (tgt := 54) X dX4_isCondition_33 (by decide) (fun z => ?_) (fun z => ?_)
    · replace w := w1 z
      clear w1 w2
      exact V.sub [] rfl (tX4_isCondition_b54 X  w)
    · replace w := w2 z
      clear w1 w2
      refine V_iload_n X dX4_isCondition_36 2 rfl ?_
      refine V_iconst (y := 3) X dX4_isCondition_37 (by decide) ?_
      obtain ⟨w1, w2⟩ := w
      refine V_icmp_gt (tgt := 54) X dX4_isCondition_38 (by decide) (fun z => ?_) (fun z => ?_)
      · replace w := w1 z
        clear w1 w2
        exact V.sub [] rfl (tX4_isCondition_b54 X  w)
      · replace w := w2 z
        clear w1 w2
        refine V_aloadr_n X dX4_isCondition_41 0 rfl ?_
        refine V_iload_n X dX4_isCondition_42 1 rfl ?_
        refine V_iload_n X dX4_isCondition_43 3 rfl ?_
        obtain ⟨fs, hh, w⟩ := w
        refine V_callVi (As := [.int v1, .int v3]) (rest := []) (k1 := 0) (n1 := 0) X (cX4_isValue_ok X.2.2.2.2.2.2.2.2.1 w) lkX4_61 hh (q9 := (RX4, TX4, 8)) rfl rfl dX4_isCondition_44 ⟨Nat.le_of_ble_eq_true rfl, Nat.le_of_ble_eq_true rfl⟩ rfl (Nat.le_of_ble_eq_true rfl) ⟨Nat.le_of_ble_eq_true rfl, Nat.le_of_ble_eq_true rfl⟩ (Nat.le_of_ble_eq_true rfl) (Nat.le_of_ble_eq_true rfl) (fun x4 h3 w9 => ?_)
        replace w := w9
        clear w9
        obtain ⟨w1, w2⟩ := w
        refine V_if_eq (tgt := 54) X dX4_isCondition_47 (by decide) (fun z => ?_) (fun z => ?_)
        · replace w := w1 z
          clear w1 w2
          exact V.sub [] rfl (tX4_isCondition_b54 X  w)
        · replace w := w2 z
          clear w1 w2
          refine V_iconst (y := 1) X dX4_isCondition_50 (by decide) ?_
          refine V_goto (tgt := 55) X dX4_isCondition_51 (by decide) ?_
          exact V.sub [] rfl (tX4_isCondition_b55 X  w)
  · refine V_lookup (tgt := 56) X dX4_isCondition_5 (by decide) (by rw [z] <;> rfl) (by decide) ?_
    replace w := w1 z
    clear w0 w1 w2
    refine V_iload_n X dX4_isCondition_56 2 rfl ?_
    refine V_iconst (y := 2) X dX4_isCondition_57 (by decide) ?_
    obtain ⟨w1, w2⟩ := w
    refine V_icmp_ne (tgt := 74) X dX4_isCondition_58 (by decide) (fun z => ?_) (fun z => ?_)
    · replace w := w1 z
      clear w1 w2
      exact V.sub [] rfl (tX4_isCondition_b74 X  w)
    · replace w := w2 z
      clear w1 w2
      refine V_aloadr_n X dX4_isCondition_61 0 rfl ?_
      refine V_iload_n X dX4_isCondition_62 1 rfl ?_
      refine V_iload_n X dX4_isCondition_63 3 rfl ?_
      obtain ⟨fs, hh, w⟩ := w
      refine V_callVi (As := [.int v1, .int v3]) (rest := []) (k1 := 0) (n1 := 0) X (cX4_isValue_ok X.2.2.2.2.2.2.2.2.1 w) lkX4_61 hh (q9 := (RX4, TX4, 8)) rfl rfl dX4_isCondition_64 ⟨Nat.le_of_ble_eq_true rfl, Nat.le_of_ble_eq_true rfl⟩ rfl (Nat.le_of_ble_eq_true rfl) ⟨Nat.le_of_ble_eq_true rfl, Nat.le_of_ble_eq_true rfl⟩ (Nat.le_of_ble_eq_true rfl) (Nat.le_of_ble_eq_true rfl) (fun x6 h5 w9 => ?_)
      replace w := w9
      clear w9
      obtain ⟨w1, w2⟩ := w
      refine V_if_eq (tgt := 74) X dX4_isCondition_67 (by decide) (fun z => ?_) (fun z => ?_)
      · replace w := w1 z
        clear w1 w2
        exact V.sub [] rfl (tX4_isCondition_b74 X  w)
      · replace w := w2 z
        clear w1 w2
        refine V_iconst (y := 1) X dX4_isCondition_70 (by decide) ?_
        refine V_goto (tgt := 75) X dX4_isCondition_71 (by decide) ?_
        exact V.sub [] rfl (tX4_isCondition_b75 X  w)
  · refine V_lookup (off := 71) (tgt := 76) X dX4_isCondition_5 (by decide) (by simp [Op.lookupswitch.offset]; (repeat split) <;> omega) (by decide) ?_
    replace w := w2 z
    clear w0 w1 w2
    refine V_iload_n X dX4_isCondition_76 2 rfl ?_
    refine V_iconst (y := 2) X dX4_isCondition_77 (by decide) ?_
    obtain ⟨w1, w2⟩ := w
    refine V_icmp_ne (tgt := 90) X dX4_isCondition_78 (by decide) (fun z => ?_) (fun z => ?_)
    · replace w := w1 z
      clear w1 w2
      exact V.sub [] rfl (tX4_isCondition_b90 X  w)
    · replace w := w2 z
      clear w1 w2
      refine V_iload_n X dX4_isCondition_81 3 rfl ?_
      refine V_iconst (y := 1) X dX4_isCondition_82 (by decide) ?_
      obtain ⟨w1, w2⟩ := w
      refine V_icmp_ne (tgt := 90) X dX4_isCondition_83 (by decide) (fun z => ?_) (fun z => ?_)
      · replace w := w1 z
        clear w1 w2
        exact V.sub [] rfl (tX4_isCondition_b90 X  w)
      · replace w := w2 z
        clear w1 w2
        refine V_iconst (y := 1) X dX4_isCondition_86 (by decide) ?_
        refine V_goto (tgt := 91) X dX4_isCondition_87 (by decide) ?_
        exact V.sub [] rfl (tX4_isCondition_b91 X  w)
theorem cX4_isCondition_ok {l : Launch} {G : gG} {h : gH} (hls : l.stackTraces = false) {Qn : Int32 → gH → Prop} {v0 : Nat} {v1 : Int32} {v2 : Int32} {v3 : Int32} (w : vX4_isCondition G.2.2.1 Qn h v0 v1 v2 v3) : gMi l yX4_isCondition cX4_isCondition 4 (some FieldType.boolean) rmX4_isCondition rmX4_isCondition.cells rmX4_isCondition.slots G h [.ref v0, .int v1, .int v2, .int v3] Qn := by
  exact gMi.of (by decide +kernel) hls (Nat.le_of_ble_eq_true rfl) rfl rfl (fun p e s m below meth c A X hnm => tX4_isCondition X w)
/-! java/lang/Math.max(II)I -/
abbrev rmJ9_max_7cf53 : Room := { frames := 0, cells := 0, slots := 0, locals := 0 }
def vJ9_max_7cf53_b10 (t0 : Nat)  (Qn : Int32 → gH → Prop) (h : gH) (s0 : Int32) : Prop := Qn s0 h
set_option maxRecDepth 100000 in
set_option maxHeartbeats 4000000 in
theorem tJ9_max_7cf53_b10 {p : Program} {l : Launch} {e : Env} {s : State} {m : MethodId} {args : Array Value} {below : List Frame} {meth : Method} {c : Code} {G : gG} {A : Nat → Prop} {Qn : Int32 → gH → Prop} (X : gC p l s m args meth c G A cJ9_max_7cf53 2 (some FieldType.int) RJ9)   {h : gH} {s0 : Int32} (w : vJ9_max_7cf53_b10 G.2.2.1  Qn h s0) : V p l e rmJ9_max_7cf53 s m args below meth c (MQ below (va_Qi Qn (gB G A) A) args s rmJ9_max_7cf53.cells rmJ9_max_7cf53.slots A) G A 2 h 0 0 10 [] [.int s0] := by
  exact V_iret X rfl dJ9_max_7cf53_10 (Nat.le_of_ble_eq_true rfl) (Nat.le_of_ble_eq_true rfl) w
def vJ9_max_7cf53 (t0 : Nat)  (Qn : Int32 → gH → Prop) (h : gH) (v0 : Int32) (v1 : Int32) : Prop := (((v0 : Int32) < v1) → (vJ9_max_7cf53_b10 t0  Qn h v1)) ∧ ((¬ (v0 : Int32) < v1) → (vJ9_max_7cf53_b10 t0  Qn h v0))
set_option maxRecDepth 100000 in
set_option maxHeartbeats 4000000 in
theorem tJ9_max_7cf53 {p : Program} {l : Launch} {e : Env} {s : State} {m : MethodId} {args : Array Value} {below : List Frame} {meth : Method} {c : Code} {G : gG} {A : Nat → Prop} {Qn : Int32 → gH → Prop} (X : gC p l s m args meth c G A cJ9_max_7cf53 2 (some FieldType.int) RJ9)   {h : gH} {v0 : Int32} {v1 : Int32} (w : vJ9_max_7cf53 G.2.2.1  Qn h v0 v1) : V p l e rmJ9_max_7cf53 s m args below meth c (MQ below (va_Qi Qn (gB G A) A) args s rmJ9_max_7cf53.cells rmJ9_max_7cf53.slots A) G A 2 h 0 0 0 [(0, .int v0), (1, .int v1)] [] := by
  refine V_iload_n X dJ9_max_7cf53_0 0 rfl ?_
  refine V_iload_n X dJ9_max_7cf53_1 1 rfl ?_
  obtain ⟨w1, w2⟩ := w
  refine V_icmp_lt (tgt := 9) X dJ9_max_7cf53_2 (by decide) (fun z => ?_) (fun z => ?_)
  · replace w := w1 z
    clear w1 w2
    refine V_iload_n X dJ9_max_7cf53_9 1 rfl ?_
    exact V.sub [] rfl (tJ9_max_7cf53_b10 X  w)
  · replace w := w2 z
    clear w1 w2
    refine V_iload_n X dJ9_max_7cf53_5 0 rfl ?_
    refine V_goto (tgt := 10) X dJ9_max_7cf53_6 (by decide) ?_
    exact V.sub [] rfl (tJ9_max_7cf53_b10 X  w)
theorem cJ9_max_7cf53_ok {l : Launch} {G : gG} {h : gH} (hls : l.stackTraces = false) {Qn : Int32 → gH → Prop} {v0 : Int32} {v1 : Int32} (w : vJ9_max_7cf53 G.2.2.1 Qn h v0 v1) : gMi l yJ9_max_7cf53 cJ9_max_7cf53 2 (some FieldType.int) rmJ9_max_7cf53 rmJ9_max_7cf53.cells rmJ9_max_7cf53.slots G h [.int v0, .int v1] Qn := by
  exact gMi.ofF (by decide +kernel) hls (Nat.le_of_ble_eq_true rfl) rfl rfl (fun p e s m below meth c A X hnm => tJ9_max_7cf53 X w)
/-! AnimationController$Node.depthByChildren()I -/
abbrev rmX5_depthByChildren : Room := { frames := 3, cells := 0, slots := 0, locals := 64 }
def vX5_depthByChildren_b4_o (t0 : Nat) (k4 : gH → Nat → Int32 → Int32 → Prop) (Qn : Int32 → gH → Prop) (h : gH) (v0 : Nat) (v1 : Int32) (v2 : Int32) : Prop := gr h v0 8 2 (fun r1 => nn r1 (fun a2 => io h a2 2 (vJx4a65c_size_8abf5 t0 (fun x4 h3 => ((x4 ≤ (v2 : Int32)) → (Qn (v1 + 1) h3)) ∧ ((¬ x4 ≤ (v2 : Int32)) → (gr h3 v0 8 2 (fun r5 => nn r5 (fun a6 => io h3 a6 2 (vJx4a65c_get_915e3 t0 (fun r8 h7 => nn r8 (fun a9 => io h7 a9 8 (gi h7 a9 8 4 (fun x10 => vJ9_max_7cf53 t0 (fun x12 h11 => k4 h11 v0 x12 (v2 + 1)) h7 v1 x10)))) h3 a6 v2)))))) h a2 )))
set_option maxRecDepth 100000 in
set_option maxHeartbeats 4000000 in
theorem tX5_depthByChildren_b4_o {p : Program} {l : Launch} {e : Env} {s : State} {m : MethodId} {args : Array Value} {below : List Frame} {meth : Method} {c : Code} {G : gG} {A : Nat → Prop} {Qn : Int32 → gH → Prop} (X : gC p l s m args meth c G A cX5_depthByChildren 3 (some FieldType.int) RX5) {k4 : gH → Nat → Int32 → Int32 → Prop} (H4 : ∀ (h : gH) (v0 : Nat) (v1 : Int32) (v2 : Int32), k4 h v0 v1 v2 → V p l e rmX5_depthByChildren s m args below meth c (MQ below (va_Qi Qn (gB G A) A) args s rmX5_depthByChildren.cells rmX5_depthByChildren.slots A) G A 3 h 0 0 4 [(0, .ref v0), (1, .int v1), (2, .int v2)] []) {h : gH} {v0 : Nat} {v1 : Int32} {v2 : Int32} (w : vX5_depthByChildren_b4_o G.2.2.1 k4 Qn h v0 v1 v2) : V p l e rmX5_depthByChildren s m args below meth c (MQ below (va_Qi Qn (gB G A) A) args s rmX5_depthByChildren.cells rmX5_depthByChildren.slots A) G A 3 h 0 0 4 [(0, .ref v0), (1, .int v1), (2, .int v2)] [] := by
  refine V_iload_n X dX5_depthByChildren_4 2 rfl ?_
  refine V_aloadr_n X dX5_depthByChildren_5 0 rfl ?_
  obtain ⟨fs, r1, hh, hv, w⟩ := w
  refine V_get X flX5_12 dX5_depthByChildren_6 hh hv ?_
  obtain ⟨a2, rfl, w⟩ := w
  obtain ⟨fs, hh, w⟩ := w
  refine V_callVi (As := []) (rest := [.int v2]) (k1 := 0) (n1 := 0) X (cJx4a65c_size_8abf5_ok X.2.2.2.2.2.2.2.2.1 w) lkX5_37 hh (q9 := (RJx4a65c, TJx4a65c, 3)) rfl rfl dX5_depthByChildren_9 ⟨Nat.le_of_ble_eq_true rfl, Nat.le_of_ble_eq_true rfl⟩ rfl (Nat.le_of_ble_eq_true rfl) ⟨Nat.le_of_ble_eq_true rfl, Nat.le_of_ble_eq_true rfl⟩ (Nat.le_of_ble_eq_true rfl) (Nat.le_of_ble_eq_true rfl) (fun x4 h3 w9 => ?_)
  replace w := w9
  clear w9
  obtain ⟨w1, w2⟩ := w
  refine V_icmp_ge (tgt := 40) X dX5_depthByChildren_12 (by decide) (fun z => ?_) (fun z => ?_)
  · replace w := w1 z
    clear w1 w2
    refine V_iload_n X dX5_depthByChildren_40 1 rfl ?_
    refine V_iconst (y := 1) X dX5_depthByChildren_41 (by decide) ?_
    refine V_iadd X dX5_depthByChildren_42 ?_
    exact V_iret X rfl dX5_depthByChildren_43 (Nat.le_of_ble_eq_true rfl) (Nat.le_of_ble_eq_true rfl) w
  · replace w := w2 z
    clear w1 w2
    refine V_iload_n X dX5_depthByChildren_15 1 rfl ?_
    refine V_aloadr_n X dX5_depthByChildren_16 0 rfl ?_
    obtain ⟨fs, r5, hh, hv, w⟩ := w
    refine V_get X flX5_12 dX5_depthByChildren_17 hh hv ?_
    refine V_iload_n X dX5_depthByChildren_20 2 rfl ?_
    obtain ⟨a6, rfl, w⟩ := w
    obtain ⟨fs, hh, w⟩ := w
    refine V_callVq (As := [.int v2]) (rest := [.int v1]) (k1 := 0) (n1 := 0) X (cJx4a65c_get_915e3_ok X.2.2.2.2.2.2.2.2.1 w) lkX5_49 hh (q9 := (RJx4a65c, TJx4a65c, 3)) rfl rfl dX5_depthByChildren_21 ⟨Nat.le_of_ble_eq_true rfl, Nat.le_of_ble_eq_true rfl⟩ rfl (Nat.le_of_ble_eq_true rfl) ⟨Nat.le_of_ble_eq_true rfl, Nat.le_of_ble_eq_true rfl⟩ (Nat.le_of_ble_eq_true rfl) (Nat.le_of_ble_eq_true rfl) (fun r8 h7 w9 => ?_)
    replace w := w9
    clear w9
    obtain ⟨a9, rfl, w⟩ := w
    obtain ⟨fs, hh, w⟩ := w
    refine V_cast (q9 := (RX5, TX5, 5)) X kw_1025 rfl rfl hh dX5_depthByChildren_24 ?_
    obtain ⟨fs, x10, hh, hv, w⟩ := w
    refine V_get X flX5_22 dX5_depthByChildren_27 hh hv ?_
    refine V_callSi (As := [.int v1, .int x10]) (rest := []) (k1 := 0) (n1 := 0) X (cJ9_max_7cf53_ok X.2.2.2.2.2.2.2.2.1 w) lkX5_53 dX5_depthByChildren_30 ⟨Nat.le_of_ble_eq_true rfl, Nat.le_of_ble_eq_true rfl⟩ rfl (Nat.le_of_ble_eq_true rfl) ⟨Nat.le_of_ble_eq_true rfl, Nat.le_of_ble_eq_true rfl⟩ (Nat.le_of_ble_eq_true rfl) (Nat.le_of_ble_eq_true rfl) (fun x12 h11 w9 => ?_)
    replace w := w9
    clear w9
    refine V_istore_n (i0 := 1) X dX5_depthByChildren_33 rfl (by decide) rfl ?_
    refine V_iinc (y := (v2 + 1)) X dX5_depthByChildren_34 2 rfl (by first | rfl | (congr 1)) (by decide) rfl ?_
    refine V_goto (tgt := 4) X dX5_depthByChildren_37 (by decide) ?_
    exact V.sub [2, 1, 0] rfl (H4 _ _ _ _ w)
def vX5_depthByChildren_b4 (t0 : Nat)  (Qn : Int32 → gH → Prop) (n : Nat) : gH → Nat → Int32 → Int32 → Prop := Nat.rec (motive := fun _ => gH → Nat → Int32 → Int32 → Prop) (fun _ _ _ _ => False) (fun _ k4 => vX5_depthByChildren_b4_o t0 k4 Qn) n
theorem tX5_depthByChildren_b4 {p : Program} {l : Launch} {e : Env} {s : State} {m : MethodId} {args : Array Value} {below : List Frame} {meth : Method} {c : Code} {G : gG} {A : Nat → Prop} {Qn : Int32 → gH → Prop} (X : gC p l s m args meth c G A cX5_depthByChildren 3 (some FieldType.int) RX5)   : ∀ (n : Nat) (h : gH) (v0 : Nat) (v1 : Int32) (v2 : Int32) (w : vX5_depthByChildren_b4 G.2.2.1  Qn n h v0 v1 v2), V p l e rmX5_depthByChildren s m args below meth c (MQ below (va_Qi Qn (gB G A) A) args s rmX5_depthByChildren.cells rmX5_depthByChildren.slots A) G A 3 h 0 0 4 [(0, .ref v0), (1, .int v1), (2, .int v2)] [] := by
  intro n
  induction n with
  | zero => intro h v0 v1 v2 w; exact False.elim w
  | succ n ih => intro h v0 v1 v2 w; exact tX5_depthByChildren_b4_o X ih w
def vX5_depthByChildren (t0 : Nat)  (Qn : Int32 → gH → Prop) (h : gH) (v0 : Nat) : Prop := ∃ n : Nat, vX5_depthByChildren_b4 t0  Qn n h v0 0 0
set_option maxRecDepth 100000 in
set_option maxHeartbeats 4000000 in
theorem tX5_depthByChildren {p : Program} {l : Launch} {e : Env} {s : State} {m : MethodId} {args : Array Value} {below : List Frame} {meth : Method} {c : Code} {G : gG} {A : Nat → Prop} {Qn : Int32 → gH → Prop} (X : gC p l s m args meth c G A cX5_depthByChildren 3 (some FieldType.int) RX5)   {h : gH} {v0 : Nat} (w : vX5_depthByChildren G.2.2.1  Qn h v0) : V p l e rmX5_depthByChildren s m args below meth c (MQ below (va_Qi Qn (gB G A) A) args s rmX5_depthByChildren.cells rmX5_depthByChildren.slots A) G A 3 h 0 0 0 [(0, .ref v0)] [] := by
  refine V_iconst (y := 0) X dX5_depthByChildren_0 (by decide) ?_
  refine V_istore_n (i0 := 1) X dX5_depthByChildren_1 rfl (by decide) rfl ?_
  refine V_iconst (y := 0) X dX5_depthByChildren_2 (by decide) ?_
  refine V_istore_n (i0 := 2) X dX5_depthByChildren_3 rfl (by decide) rfl ?_
  obtain ⟨n9, w⟩ := w
  exact V.sub [2, 1, 0] rfl (tX5_depthByChildren_b4 X  n9 _ _ _ _ w)
theorem cX5_depthByChildren_ok {l : Launch} {G : gG} {h : gH} (hls : l.stackTraces = false) {Qn : Int32 → gH → Prop} {v0 : Nat} (w : vX5_depthByChildren G.2.2.1 Qn h v0) : gMi l yX5_depthByChildren cX5_depthByChildren 3 (some FieldType.int) rmX5_depthByChildren rmX5_depthByChildren.cells rmX5_depthByChildren.slots G h [.ref v0] Qn := by
  exact gMi.of (by decide +kernel) hls (Nat.le_of_ble_eq_true rfl) rfl rfl (fun p e s m below meth c A X hnm => tX5_depthByChildren X w)
