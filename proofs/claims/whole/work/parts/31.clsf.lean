/-! AnimationController.<init>()V -/
abbrev rmX11_init : Room := { frames := 6, cells := 120, slots := 2099, locals := 122 }
def vX11_init_b70_2 (t0 : Nat)  (Qn : gH → Prop) (h : gH) (v0 : Nat) (v1 : Int32) : Prop := gr h v0 14 4 (fun r1 => nn r1 (fun a2 => al h a2 (fun x3 => ((x3 ≤ (v1 : Int32)) → (nw h (.inl (2, 2, .inl (fun _ => 0))) (fun q4 h5 => pv h5 v0 14 5 (.ref q4) (fun h6 => nw h6 (.inl (0, 10, .inl (fun _ => 0))) (fun q7 h8 => pv h8 v0 14 6 (.ref q7) (fun h9 => Qn h9)))))) ∧ ((¬ x3 ≤ (v1 : Int32)) → (gr h v0 14 4 (fun r10 => nw h (.inr (6, [.null, .null, .null, .null, .null, .int 0, .int 0, .null, .int 0, .int 0, .null, .null, .null])) (fun q11 h12 => gr h12 v0 14 0 (fun r13 => vX3_init t0 (fun h14 => nn r10 (fun a15 => sq h14 5 a15 v1 q11 (fun h16 => False))) h12 q11 r13))))))))
set_option maxRecDepth 100000 in
set_option maxHeartbeats 4000000 in
theorem tX11_init_b70_2 {p : Program} {l : Launch} {e : Env} {s : State} {m : MethodId} {args : Array Value} {below : List Frame} {meth : Method} {c : Code} {G : gG} {A : Nat → Prop} {Qn : gH → Prop} (X : gC p l s m args meth c G A cX11_init 2 none RX11) (hin : meth.name = "<init>")   {h : gH} {v0 : Nat} {v1 : Int32} (w : vX11_init_b70_2 G.2.2.1  Qn h v0 v1) : V p l e rmX11_init s m args below meth c (MQ below (va_Qv Qn (gB G A) A) args s rmX11_init.cells rmX11_init.slots A) G A 2 h 100 1727 70 [(0, .ref v0), (1, .int v1)] [] := by
  refine V_iload_n X dX11_init_70 1 rfl ?_
  refine V_aloadr_n X dX11_init_71 0 rfl ?_
  obtain ⟨fs, r1, hh, hv, w⟩ := w
  refine V_get X flX11_35 dX11_init_72 hh hv ?_
  obtain ⟨a2, rfl, w⟩ := w
  obtain ⟨kt9, x9, hh, hk9, w⟩ := w
  refine V_alen X dX11_init_75 hh hk9 ?_
  generalize Int32.ofNat _ = x3 at w ⊢
  obtain ⟨w1, w2⟩ := w
  refine V_icmp_ge (tgt := 102) X dX11_init_76 (by decide) (fun z => ?_) (fun z => ?_)
  · replace w := w1 z
    clear w1 w2
    refine V_aloadr_n X dX11_init_102 0 rfl ?_
    refine V_iconst (y := 2) X dX11_init_103 (by decide) ?_
    refine V_newa_boolean (N := 2) (k1 := 101) (n1 := 1729) X kw_456 dX11_init_104 (by decide) (by decide) (Nat.le_of_ble_eq_true rfl) ⟨Nat.le_of_ble_eq_true rfl, Nat.le_of_ble_eq_true rfl⟩ (Nat.le_of_ble_eq_true rfl) (Nat.le_of_ble_eq_true rfl) (fun q4 hq => ?_)
    replace w := w q4 hq
    generalize va_up _ _ _ = h5 at w ⊢
    obtain ⟨fs, hh, hv, w⟩ := w
    refine V_putF X hin flX11_39 dX11_init_106 hh hv rfl rfl ?_
    generalize va_up _ _ _ = h6 at w ⊢
    refine V_aloadr_n X dX11_init_109 0 rfl ?_
    refine V_bipush (y := 10) X dX11_init_110 (by decide) ?_
    refine V_newa_int (N := 10) (k1 := 102) (n1 := 1739) X kw_76 dX11_init_112 (by decide) (by decide) (Nat.le_of_ble_eq_true rfl) ⟨Nat.le_of_ble_eq_true rfl, Nat.le_of_ble_eq_true rfl⟩ (Nat.le_of_ble_eq_true rfl) (Nat.le_of_ble_eq_true rfl) (fun q7 hq => ?_)
    replace w := w q7 hq
    generalize va_up _ _ _ = h8 at w ⊢
    obtain ⟨fs, hh, hv, w⟩ := w
    refine V_putF X hin flX11_43 dX11_init_114 hh hv rfl rfl ?_
    generalize va_up _ _ _ = h9 at w ⊢
    exact V_vret X rfl dX11_init_117 (Nat.le_of_ble_eq_true rfl) (Nat.le_of_ble_eq_true rfl) w
  · replace w := w2 z
    clear w1 w2
    refine V_aloadr_n X dX11_init_79 0 rfl ?_
    obtain ⟨fs, r10, hh, hv, w⟩ := w
    refine V_get X flX11_35 dX11_init_80 hh hv ?_
    refine V_iload_n X dX11_init_83 1 rfl ?_
    refine V_new (k1 := 101) (n1 := 1740) X nwX11_25 dX11_init_84 ⟨(Nat.le_of_ble_eq_true rfl), (Nat.le_of_ble_eq_true rfl)⟩ (Nat.le_of_ble_eq_true rfl) (Nat.le_of_ble_eq_true rfl) (fun q11 hq => ?_)
    replace w := w q11 hq
    generalize va_up _ _ _ = h12 at w ⊢
    refine V_dup X dX11_init_87 rfl ?_
    refine V_aloadr_n X dX11_init_88 0 rfl ?_
    obtain ⟨fs, r13, hh, hv, w⟩ := w
    refine V_get X flX11_12 dX11_init_89 hh hv ?_
    refine V_callI (As := [va_rf r13]) (rest := [.ref q11, .int v1, va_rf r10]) (k1 := 120) (n1 := 2099) X (cX3_init_ok X.2.2.2.2.2.2.2.2.1 w) lkX11_27 dX11_init_92 ⟨Nat.le_of_ble_eq_true rfl, Nat.le_of_ble_eq_true rfl⟩ rfl (va_len _ 4 (Nat.le_of_ble_eq_true rfl)) ⟨Nat.le_of_ble_eq_true rfl, Nat.le_of_ble_eq_true rfl⟩ (Nat.le_of_ble_eq_true rfl) (Nat.le_of_ble_eq_true rfl) (fun h14 w9 => ?_)
    replace w := w9
    clear w9
    obtain ⟨a15, rfl, w⟩ := w
    obtain ⟨N9, g9, hh, hi, hO, w⟩ := w
    obtain ⟨fs9, hO⟩ := hO.elim (fun z => absurd z.1 (by decide)) (fun z => z.2)
    refine V_aast5 X dX11_init_95 hh hi hO ?_
    generalize va_up _ _ _ = h16 at w ⊢
    refine V_iinc (y := (v1 + 1)) X dX11_init_96 1 rfl (by first | rfl | (congr 1)) (by decide) rfl ?_
    refine V_goto (tgt := 70) X dX11_init_99 (by decide) ?_
    exact False.elim w
def vX11_init_b70_1 (t0 : Nat)  (Qn : gH → Prop) (h : gH) (v0 : Nat) (v1 : Int32) : Prop := gr h v0 14 4 (fun r1 => nn r1 (fun a2 => al h a2 (fun x3 => ((x3 ≤ (v1 : Int32)) → (nw h (.inl (2, 2, .inl (fun _ => 0))) (fun q4 h5 => pv h5 v0 14 5 (.ref q4) (fun h6 => nw h6 (.inl (0, 10, .inl (fun _ => 0))) (fun q7 h8 => pv h8 v0 14 6 (.ref q7) (fun h9 => Qn h9)))))) ∧ ((¬ x3 ≤ (v1 : Int32)) → (gr h v0 14 4 (fun r10 => nw h (.inr (6, [.null, .null, .null, .null, .null, .int 0, .int 0, .null, .int 0, .int 0, .null, .null, .null])) (fun q11 h12 => gr h12 v0 14 0 (fun r13 => vX3_init t0 (fun h14 => nn r10 (fun a15 => sq h14 5 a15 v1 q11 (fun h16 => vX11_init_b70_2 t0  Qn h16 v0 (v1 + 1)))) h12 q11 r13))))))))
set_option maxRecDepth 100000 in
set_option maxHeartbeats 4000000 in
theorem tX11_init_b70_1 {p : Program} {l : Launch} {e : Env} {s : State} {m : MethodId} {args : Array Value} {below : List Frame} {meth : Method} {c : Code} {G : gG} {A : Nat → Prop} {Qn : gH → Prop} (X : gC p l s m args meth c G A cX11_init 2 none RX11) (hin : meth.name = "<init>")   {h : gH} {v0 : Nat} {v1 : Int32} (w : vX11_init_b70_1 G.2.2.1  Qn h v0 v1) : V p l e rmX11_init s m args below meth c (MQ below (va_Qv Qn (gB G A) A) args s rmX11_init.cells rmX11_init.slots A) G A 2 h 80 1355 70 [(0, .ref v0), (1, .int v1)] [] := by
  refine V_iload_n X dX11_init_70 1 rfl ?_
  refine V_aloadr_n X dX11_init_71 0 rfl ?_
  obtain ⟨fs, r1, hh, hv, w⟩ := w
  refine V_get X flX11_35 dX11_init_72 hh hv ?_
  obtain ⟨a2, rfl, w⟩ := w
  obtain ⟨kt9, x9, hh, hk9, w⟩ := w
  refine V_alen X dX11_init_75 hh hk9 ?_
  generalize Int32.ofNat _ = x3 at w ⊢
  obtain ⟨w1, w2⟩ := w
  refine V_icmp_ge (tgt := 102) X dX11_init_76 (by decide) (fun z => ?_) (fun z => ?_)
  · replace w := w1 z
    clear w1 w2
    refine V_aloadr_n X dX11_init_102 0 rfl ?_
    refine V_iconst (y := 2) X dX11_init_103 (by decide) ?_
    refine V_newa_boolean (N := 2) (k1 := 81) (n1 := 1357) X kw_456 dX11_init_104 (by decide) (by decide) (Nat.le_of_ble_eq_true rfl) ⟨Nat.le_of_ble_eq_true rfl, Nat.le_of_ble_eq_true rfl⟩ (Nat.le_of_ble_eq_true rfl) (Nat.le_of_ble_eq_true rfl) (fun q4 hq => ?_)
    replace w := w q4 hq
    generalize va_up _ _ _ = h5 at w ⊢
    obtain ⟨fs, hh, hv, w⟩ := w
    refine V_putF X hin flX11_39 dX11_init_106 hh hv rfl rfl ?_
    generalize va_up _ _ _ = h6 at w ⊢
    refine V_aloadr_n X dX11_init_109 0 rfl ?_
    refine V_bipush (y := 10) X dX11_init_110 (by decide) ?_
    refine V_newa_int (N := 10) (k1 := 82) (n1 := 1367) X kw_76 dX11_init_112 (by decide) (by decide) (Nat.le_of_ble_eq_true rfl) ⟨Nat.le_of_ble_eq_true rfl, Nat.le_of_ble_eq_true rfl⟩ (Nat.le_of_ble_eq_true rfl) (Nat.le_of_ble_eq_true rfl) (fun q7 hq => ?_)
    replace w := w q7 hq
    generalize va_up _ _ _ = h8 at w ⊢
    obtain ⟨fs, hh, hv, w⟩ := w
    refine V_putF X hin flX11_43 dX11_init_114 hh hv rfl rfl ?_
    generalize va_up _ _ _ = h9 at w ⊢
    exact V_vret X rfl dX11_init_117 (Nat.le_of_ble_eq_true rfl) (Nat.le_of_ble_eq_true rfl) w
  · replace w := w2 z
    clear w1 w2
    refine V_aloadr_n X dX11_init_79 0 rfl ?_
    obtain ⟨fs, r10, hh, hv, w⟩ := w
    refine V_get X flX11_35 dX11_init_80 hh hv ?_
    refine V_iload_n X dX11_init_83 1 rfl ?_
    refine V_new (k1 := 81) (n1 := 1368) X nwX11_25 dX11_init_84 ⟨(Nat.le_of_ble_eq_true rfl), (Nat.le_of_ble_eq_true rfl)⟩ (Nat.le_of_ble_eq_true rfl) (Nat.le_of_ble_eq_true rfl) (fun q11 hq => ?_)
    replace w := w q11 hq
    generalize va_up _ _ _ = h12 at w ⊢
    refine V_dup X dX11_init_87 rfl ?_
    refine V_aloadr_n X dX11_init_88 0 rfl ?_
    obtain ⟨fs, r13, hh, hv, w⟩ := w
    refine V_get X flX11_12 dX11_init_89 hh hv ?_
    refine V_callI (As := [va_rf r13]) (rest := [.ref q11, .int v1, va_rf r10]) (k1 := 100) (n1 := 1727) X (cX3_init_ok X.2.2.2.2.2.2.2.2.1 w) lkX11_27 dX11_init_92 ⟨Nat.le_of_ble_eq_true rfl, Nat.le_of_ble_eq_true rfl⟩ rfl (va_len _ 4 (Nat.le_of_ble_eq_true rfl)) ⟨Nat.le_of_ble_eq_true rfl, Nat.le_of_ble_eq_true rfl⟩ (Nat.le_of_ble_eq_true rfl) (Nat.le_of_ble_eq_true rfl) (fun h14 w9 => ?_)
    replace w := w9
    clear w9
    obtain ⟨a15, rfl, w⟩ := w
    obtain ⟨N9, g9, hh, hi, hO, w⟩ := w
    obtain ⟨fs9, hO⟩ := hO.elim (fun z => absurd z.1 (by decide)) (fun z => z.2)
    refine V_aast5 X dX11_init_95 hh hi hO ?_
    generalize va_up _ _ _ = h16 at w ⊢
    refine V_iinc (y := (v1 + 1)) X dX11_init_96 1 rfl (by first | rfl | (congr 1)) (by decide) rfl ?_
    refine V_goto (tgt := 70) X dX11_init_99 (by decide) ?_
    exact V.sub [1, 0] rfl (tX11_init_b70_2 X hin  w)
def vX11_init_b70_0 (t0 : Nat)  (Qn : gH → Prop) (h : gH) (v0 : Nat) (v1 : Int32) : Prop := gr h v0 14 4 (fun r1 => nn r1 (fun a2 => al h a2 (fun x3 => ((x3 ≤ (v1 : Int32)) → (nw h (.inl (2, 2, .inl (fun _ => 0))) (fun q4 h5 => pv h5 v0 14 5 (.ref q4) (fun h6 => nw h6 (.inl (0, 10, .inl (fun _ => 0))) (fun q7 h8 => pv h8 v0 14 6 (.ref q7) (fun h9 => Qn h9)))))) ∧ ((¬ x3 ≤ (v1 : Int32)) → (gr h v0 14 4 (fun r10 => nw h (.inr (6, [.null, .null, .null, .null, .null, .int 0, .int 0, .null, .int 0, .int 0, .null, .null, .null])) (fun q11 h12 => gr h12 v0 14 0 (fun r13 => vX3_init t0 (fun h14 => nn r10 (fun a15 => sq h14 5 a15 v1 q11 (fun h16 => vX11_init_b70_1 t0  Qn h16 v0 (v1 + 1)))) h12 q11 r13))))))))
set_option maxRecDepth 100000 in
set_option maxHeartbeats 4000000 in
theorem tX11_init_b70_0 {p : Program} {l : Launch} {e : Env} {s : State} {m : MethodId} {args : Array Value} {below : List Frame} {meth : Method} {c : Code} {G : gG} {A : Nat → Prop} {Qn : gH → Prop} (X : gC p l s m args meth c G A cX11_init 2 none RX11) (hin : meth.name = "<init>")   {h : gH} {v0 : Nat} {v1 : Int32} (w : vX11_init_b70_0 G.2.2.1  Qn h v0 v1) : V p l e rmX11_init s m args below meth c (MQ below (va_Qv Qn (gB G A) A) args s rmX11_init.cells rmX11_init.slots A) G A 2 h 60 983 70 [(0, .ref v0), (1, .int v1)] [] := by
  refine V_iload_n X dX11_init_70 1 rfl ?_
  refine V_aloadr_n X dX11_init_71 0 rfl ?_
  obtain ⟨fs, r1, hh, hv, w⟩ := w
  refine V_get X flX11_35 dX11_init_72 hh hv ?_
  obtain ⟨a2, rfl, w⟩ := w
  obtain ⟨kt9, x9, hh, hk9, w⟩ := w
  refine V_alen X dX11_init_75 hh hk9 ?_
  generalize Int32.ofNat _ = x3 at w ⊢
  obtain ⟨w1, w2⟩ := w
  refine V_icmp_ge (tgt := 102) X dX11_init_76 (by decide) (fun z => ?_) (fun z => ?_)
  · replace w := w1 z
    clear w1 w2
    refine V_aloadr_n X dX11_init_102 0 rfl ?_
    refine V_iconst (y := 2) X dX11_init_103 (by decide) ?_
    refine V_newa_boolean (N := 2) (k1 := 61) (n1 := 985) X kw_456 dX11_init_104 (by decide) (by decide) (Nat.le_of_ble_eq_true rfl) ⟨Nat.le_of_ble_eq_true rfl, Nat.le_of_ble_eq_true rfl⟩ (Nat.le_of_ble_eq_true rfl) (Nat.le_of_ble_eq_true rfl) (fun q4 hq => ?_)
    replace w := w q4 hq
    generalize va_up _ _ _ = h5 at w ⊢
    obtain ⟨fs, hh, hv, w⟩ := w
    refine V_putF X hin flX11_39 dX11_init_106 hh hv rfl rfl ?_
    generalize va_up _ _ _ = h6 at w ⊢
    refine V_aloadr_n X dX11_init_109 0 rfl ?_
    refine V_bipush (y := 10) X dX11_init_110 (by decide) ?_
    refine V_newa_int (N := 10) (k1 := 62) (n1 := 995) X kw_76 dX11_init_112 (by decide) (by decide) (Nat.le_of_ble_eq_true rfl) ⟨Nat.le_of_ble_eq_true rfl, Nat.le_of_ble_eq_true rfl⟩ (Nat.le_of_ble_eq_true rfl) (Nat.le_of_ble_eq_true rfl) (fun q7 hq => ?_)
    replace w := w q7 hq
    generalize va_up _ _ _ = h8 at w ⊢
    obtain ⟨fs, hh, hv, w⟩ := w
    refine V_putF X hin flX11_43 dX11_init_114 hh hv rfl rfl ?_
    generalize va_up _ _ _ = h9 at w ⊢
    exact V_vret X rfl dX11_init_117 (Nat.le_of_ble_eq_true rfl) (Nat.le_of_ble_eq_true rfl) w
  · replace w := w2 z
    clear w1 w2
    refine V_aloadr_n X dX11_init_79 0 rfl ?_
    obtain ⟨fs, r10, hh, hv, w⟩ := w
    refine V_get X flX11_35 dX11_init_80 hh hv ?_
    refine V_iload_n X dX11_init_83 1 rfl ?_
    refine V_new (k1 := 61) (n1 := 996) X nwX11_25 dX11_init_84 ⟨(Nat.le_of_ble_eq_true rfl), (Nat.le_of_ble_eq_true rfl)⟩ (Nat.le_of_ble_eq_true rfl) (Nat.le_of_ble_eq_true rfl) (fun q11 hq => ?_)
    replace w := w q11 hq
    generalize va_up _ _ _ = h12 at w ⊢
    refine V_dup X dX11_init_87 rfl ?_
    refine V_aloadr_n X dX11_init_88 0 rfl ?_
    obtain ⟨fs, r13, hh, hv, w⟩ := w
    refine V_get X flX11_12 dX11_init_89 hh hv ?_
    refine V_callI (As := [va_rf r13]) (rest := [.ref q11, .int v1, va_rf r10]) (k1 := 80) (n1 := 1355) X (cX3_init_ok X.2.2.2.2.2.2.2.2.1 w) lkX11_27 dX11_init_92 ⟨Nat.le_of_ble_eq_true rfl, Nat.le_of_ble_eq_true rfl⟩ rfl (va_len _ 4 (Nat.le_of_ble_eq_true rfl)) ⟨Nat.le_of_ble_eq_true rfl, Nat.le_of_ble_eq_true rfl⟩ (Nat.le_of_ble_eq_true rfl) (Nat.le_of_ble_eq_true rfl) (fun h14 w9 => ?_)
    replace w := w9
    clear w9
    obtain ⟨a15, rfl, w⟩ := w
    obtain ⟨N9, g9, hh, hi, hO, w⟩ := w
    obtain ⟨fs9, hO⟩ := hO.elim (fun z => absurd z.1 (by decide)) (fun z => z.2)
    refine V_aast5 X dX11_init_95 hh hi hO ?_
    generalize va_up _ _ _ = h16 at w ⊢
    refine V_iinc (y := (v1 + 1)) X dX11_init_96 1 rfl (by first | rfl | (congr 1)) (by decide) rfl ?_
    refine V_goto (tgt := 70) X dX11_init_99 (by decide) ?_
    exact V.sub [1, 0] rfl (tX11_init_b70_1 X hin  w)
def vX11_init (t0 : Nat)  (Qn : gH → Prop) (h : gH) (v0 : Nat) : Prop := nw h (.inr (7, [.null, .int 0, .null, .null, .null, .null, .int 0, .null])) (fun q1 h2 => vX4_init t0 (fun h3 => pv h3 v0 14 0 (.ref q1) (fun h4 => nw h4 (.inr (13, [.null, .null, .int 0, .int 0, .null])) (fun q5 h6 => gr h6 v0 14 0 (fun r7 => vX10_init t0 (fun h8 => pv h8 v0 14 1 (.ref q5) (fun h9 => nw h9 (.inr (6, [.null, .null, .null, .null, .null, .int 0, .int 0, .null, .int 0, .int 0, .null, .null, .null])) (fun q10 h11 => gr h11 v0 14 0 (fun r12 => vX3_init t0 (fun h13 => pv h13 v0 14 2 (.ref q10) (fun h14 => nw h14 (.inr (6, [.null, .null, .null, .null, .null, .int 0, .int 0, .null, .int 0, .int 0, .null, .null, .null])) (fun q15 h16 => gr h16 v0 14 0 (fun r17 => vX3_init t0 (fun h18 => pv h18 v0 14 3 (.ref q15) (fun h19 => nw h19 (.inl (5, 2, .inr (.inr (.inr (.inr (fun _ => none)))))) (fun q20 h21 => pv h21 v0 14 4 (.ref q20) (fun h22 => vX11_init_b70_0 t0  Qn h22 v0 0)))) h16 q15 r17)))) h11 q10 r12)))) h6 q5 r7)))) h2 q1 )
set_option maxRecDepth 100000 in
set_option maxHeartbeats 4000000 in
theorem tX11_init {p : Program} {l : Launch} {e : Env} {s : State} {m : MethodId} {args : Array Value} {below : List Frame} {meth : Method} {c : Code} {G : gG} {A : Nat → Prop} {Qn : gH → Prop} (X : gC p l s m args meth c G A cX11_init 2 none RX11) (hin : meth.name = "<init>")   {h : gH} {v0 : Nat} (w : vX11_init G.2.2.1  Qn h v0) : V p l e rmX11_init s m args below meth c (MQ below (va_Qv Qn (gB G A) A) args s rmX11_init.cells rmX11_init.slots A) G A 2 h 0 0 0 [(0, .ref v0)] [] := by
  refine V_aloadr_n X dX11_init_0 0 rfl ?_
  refine V_objInit X kw_41 kw_42 kw_43 dX11_init_1 (Nat.le_of_ble_eq_true rfl) (Nat.le_of_ble_eq_true rfl) ?_
  refine V_aloadr_n X dX11_init_4 0 rfl ?_
  refine V_new (k1 := 1) (n1 := 8) X nwX11_9 dX11_init_5 ⟨(Nat.le_of_ble_eq_true rfl), (Nat.le_of_ble_eq_true rfl)⟩ (Nat.le_of_ble_eq_true rfl) (Nat.le_of_ble_eq_true rfl) (fun q1 hq => ?_)
  replace w := w q1 hq
  generalize va_up _ _ _ = h2 at w ⊢
  refine V_dup X dX11_init_8 rfl ?_
  refine V_callIN (As := []) (rest := [.ref q1, .ref v0]) (k1 := 13) (n1 := 61) X (cX4_init_ok X.2.2.2.2.2.2.2.2.1 w) lkX11_11 dX11_init_9 ⟨Nat.le_of_ble_eq_true rfl, Nat.le_of_ble_eq_true rfl⟩ rfl (Nat.le_of_ble_eq_true rfl) ⟨Nat.le_of_ble_eq_true rfl, Nat.le_of_ble_eq_true rfl⟩ (Nat.le_of_ble_eq_true rfl) (Nat.le_of_ble_eq_true rfl) (fun h3 w9 => ?_)
  replace w := w9
  clear w9
  obtain ⟨fs, hh, hv, w⟩ := w
  refine V_putF X hin flX11_12 dX11_init_12 hh hv rfl rfl ?_
  generalize va_up _ _ _ = h4 at w ⊢
  refine V_aloadr_n X dX11_init_15 0 rfl ?_
  refine V_new (k1 := 14) (n1 := 66) X nwX11_16 dX11_init_16 ⟨(Nat.le_of_ble_eq_true rfl), (Nat.le_of_ble_eq_true rfl)⟩ (Nat.le_of_ble_eq_true rfl) (Nat.le_of_ble_eq_true rfl) (fun q5 hq => ?_)
  replace w := w q5 hq
  generalize va_up _ _ _ = h6 at w ⊢
  refine V_dup X dX11_init_19 rfl ?_
  refine V_aloadr_n X dX11_init_20 0 rfl ?_
  obtain ⟨fs, r7, hh, hv, w⟩ := w
  refine V_get X flX11_12 dX11_init_21 hh hv ?_
  refine V_callI (As := [va_rf r7]) (rest := [.ref q5, .ref v0]) (k1 := 19) (n1 := 237) X (cX10_init_ok X.2.2.2.2.2.2.2.2.1 w) lkX11_18 dX11_init_24 ⟨Nat.le_of_ble_eq_true rfl, Nat.le_of_ble_eq_true rfl⟩ rfl (Nat.le_of_ble_eq_true rfl) ⟨Nat.le_of_ble_eq_true rfl, Nat.le_of_ble_eq_true rfl⟩ (Nat.le_of_ble_eq_true rfl) (Nat.le_of_ble_eq_true rfl) (fun h8 w9 => ?_)
  replace w := w9
  clear w9
  obtain ⟨fs, hh, hv, w⟩ := w
  refine V_putF X hin flX11_21 dX11_init_27 hh hv rfl rfl ?_
  generalize va_up _ _ _ = h9 at w ⊢
  refine V_aloadr_n X dX11_init_30 0 rfl ?_
  refine V_new (k1 := 20) (n1 := 250) X nwX11_25 dX11_init_31 ⟨(Nat.le_of_ble_eq_true rfl), (Nat.le_of_ble_eq_true rfl)⟩ (Nat.le_of_ble_eq_true rfl) (Nat.le_of_ble_eq_true rfl) (fun q10 hq => ?_)
  replace w := w q10 hq
  generalize va_up _ _ _ = h11 at w ⊢
  refine V_dup X dX11_init_34 rfl ?_
  refine V_aloadr_n X dX11_init_35 0 rfl ?_
  obtain ⟨fs, r12, hh, hv, w⟩ := w
  refine V_get X flX11_12 dX11_init_36 hh hv ?_
  refine V_callI (As := [va_rf r12]) (rest := [.ref q10, .ref v0]) (k1 := 39) (n1 := 609) X (cX3_init_ok X.2.2.2.2.2.2.2.2.1 w) lkX11_27 dX11_init_39 ⟨Nat.le_of_ble_eq_true rfl, Nat.le_of_ble_eq_true rfl⟩ rfl (Nat.le_of_ble_eq_true rfl) ⟨Nat.le_of_ble_eq_true rfl, Nat.le_of_ble_eq_true rfl⟩ (Nat.le_of_ble_eq_true rfl) (Nat.le_of_ble_eq_true rfl) (fun h13 w9 => ?_)
  replace w := w9
  clear w9
  obtain ⟨fs, hh, hv, w⟩ := w
  refine V_putF X hin flX11_28 dX11_init_42 hh hv rfl rfl ?_
  generalize va_up _ _ _ = h14 at w ⊢
  refine V_aloadr_n X dX11_init_45 0 rfl ?_
  refine V_new (k1 := 40) (n1 := 622) X nwX11_25 dX11_init_46 ⟨(Nat.le_of_ble_eq_true rfl), (Nat.le_of_ble_eq_true rfl)⟩ (Nat.le_of_ble_eq_true rfl) (Nat.le_of_ble_eq_true rfl) (fun q15 hq => ?_)
  replace w := w q15 hq
  generalize va_up _ _ _ = h16 at w ⊢
  refine V_dup X dX11_init_49 rfl ?_
  refine V_aloadr_n X dX11_init_50 0 rfl ?_
  obtain ⟨fs, r17, hh, hv, w⟩ := w
  refine V_get X flX11_12 dX11_init_51 hh hv ?_
  refine V_callI (As := [va_rf r17]) (rest := [.ref q15, .ref v0]) (k1 := 59) (n1 := 981) X (cX3_init_ok X.2.2.2.2.2.2.2.2.1 w) lkX11_27 dX11_init_54 ⟨Nat.le_of_ble_eq_true rfl, Nat.le_of_ble_eq_true rfl⟩ rfl (Nat.le_of_ble_eq_true rfl) ⟨Nat.le_of_ble_eq_true rfl, Nat.le_of_ble_eq_true rfl⟩ (Nat.le_of_ble_eq_true rfl) (Nat.le_of_ble_eq_true rfl) (fun h18 w9 => ?_)
  replace w := w9
  clear w9
  obtain ⟨fs, hh, hv, w⟩ := w
  refine V_putF X hin flX11_32 dX11_init_57 hh hv rfl rfl ?_
  generalize va_up _ _ _ = h19 at w ⊢
  refine V_aloadr_n X dX11_init_60 0 rfl ?_
  refine V_iconst (y := 2) X dX11_init_61 (by decide) ?_
  refine V_anewa5 (N := 2) (k1 := 60) (n1 := 983) X kw_298 ku_433 dX11_init_62 (by decide) (by decide) (Nat.le_of_ble_eq_true rfl) ⟨(Nat.le_of_ble_eq_true rfl), (Nat.le_of_ble_eq_true rfl)⟩ (Nat.le_of_ble_eq_true rfl) (Nat.le_of_ble_eq_true rfl) (fun q20 hq => ?_)
  replace w := w q20 hq
  generalize va_up _ _ _ = h21 at w ⊢
  obtain ⟨fs, hh, hv, w⟩ := w
  refine V_putF X hin flX11_35 dX11_init_65 hh hv rfl rfl ?_
  generalize va_up _ _ _ = h22 at w ⊢
  refine V_iconst (y := 0) X dX11_init_68 (by decide) ?_
  refine V_istore_n (i0 := 1) X dX11_init_69 rfl (by decide) rfl ?_
  exact V.sub [1, 0] rfl (tX11_init_b70_0 X hin  w)
theorem cX11_init_ok {l : Launch} {G : gG} {h : gH} (hls : l.stackTraces = false) {Qn : gH → Prop} {v0 : Nat} (w : vX11_init G.2.2.1 Qn h v0) : gMv l yX11_init cX11_init 2 none rmX11_init rmX11_init.cells rmX11_init.slots G h [.ref v0] Qn := by
  exact gMv.of (by decide +kernel) hls (Nat.le_of_ble_eq_true rfl) rfl rfl (fun p e s m below meth c A X hnm => tX11_init X hnm w)
/-! AnimationController.addParameter(I)I -/
abbrev rmX11_addParameter : Room := { frames := 6, cells := 1, slots := 6, locals := 90 }
def vX11_addParameter_b9 (t0 : Nat)  (Qn : Int32 → gH → Prop) (Qx : String → gH → Prop) (h : gH)  : Prop := Qx "java/lang/IllegalArgumentException" h
set_option maxRecDepth 100000 in
set_option maxHeartbeats 4000000 in
theorem tX11_addParameter_b9 {p : Program} {l : Launch} {e : Env} {s : State} {m : MethodId} {args : Array Value} {below : List Frame} {meth : Method} {c : Code} {G : gG} {A : Nat → Prop} {Qn : Int32 → gH → Prop} {Qx : String → gH → Prop} (X : gC p l s m args meth c G A cX11_addParameter 2 (some FieldType.int) RX11) (hT : ∀ x ∈ c.exceptionTable.toList, False)   {h : gH}  (w : vX11_addParameter_b9 G.2.2.1  Qn Qx h ) : V p l e rmX11_addParameter s m args below meth c (vx_MQ below (va_Qi Qn (gB G A) A) (gXC G A Qx) args s rmX11_addParameter.cells rmX11_addParameter.slots A) G A 2 h 0 0 9 [] [] := by
  exact V_throw X thX11_49_47 dX11_addParameter_9 dX11_addParameter_12 dX11_addParameter_13 dX11_addParameter_15 dX11_addParameter_18 hT ⟨(Nat.le_of_ble_eq_true rfl), (Nat.le_of_ble_eq_true rfl), (Nat.le_of_ble_eq_true rfl), (Nat.le_of_ble_eq_true rfl)⟩ (Nat.le_of_ble_eq_true rfl) (Nat.le_of_ble_eq_true rfl) w
def vX11_addParameter (t0 : Nat)  (Qn : Int32 → gH → Prop) (Qx : String → gH → Prop) (h : gH) (v0 : Nat) (v1 : Int32) : Prop := (((v1 : Int32) < 0) → (vX11_addParameter_b9 t0  Qn Qx h )) ∧ ((¬ (v1 : Int32) < 0) → ((((v1 : Int32) ≤ 2) → (gr h v0 14 0 (fun r1 => nn r1 (fun a2 => gi h a2 7 1 (fun x3 => gr h v0 14 0 (fun r4 => nn r4 (fun a5 => gr h a5 7 0 (fun r6 => nn r6 (fun a7 => al h a7 (fun x8 => (((x3 : Int32) < x8) → (gr h v0 14 0 (fun r9 => nn r9 (fun a10 => gr h a10 7 0 (fun r11 => gr h v0 14 0 (fun r12 => nn r12 (fun a13 => gi h a13 7 1 (fun x14 => nn r11 (fun a15 => si h a15 x14 v1 (fun h16 => gr h16 v0 14 0 (fun r17 => nn r17 (fun a18 => gi h16 a18 7 1 (fun x19 => pv h16 a18 7 1 (.int (x19 + 1)) (fun h20 => gr h20 v0 14 0 (fun r21 => nn r21 (fun a22 => gi h20 a22 7 1 (fun x23 => Qn (x23 - 1) h20))))))))))))))))) ∧ ((¬ (x3 : Int32) < x8) → (Qx "java/lang/IllegalStateException" h)))))))))))) ∧ ((¬ (v1 : Int32) ≤ 2) → (vX11_addParameter_b9 t0  Qn Qx h ))))
set_option maxRecDepth 100000 in
set_option maxHeartbeats 4000000 in
theorem tX11_addParameter {p : Program} {l : Launch} {e : Env} {s : State} {m : MethodId} {args : Array Value} {below : List Frame} {meth : Method} {c : Code} {G : gG} {A : Nat → Prop} {Qn : Int32 → gH → Prop} {Qx : String → gH → Prop} (X : gC p l s m args meth c G A cX11_addParameter 2 (some FieldType.int) RX11) (hT : ∀ x ∈ c.exceptionTable.toList, False)   {h : gH} {v0 : Nat} {v1 : Int32} (w : vX11_addParameter G.2.2.1  Qn Qx h v0 v1) : V p l e rmX11_addParameter s m args below meth c (vx_MQ below (va_Qi Qn (gB G A) A) (gXC G A Qx) args s rmX11_addParameter.cells rmX11_addParameter.slots A) G A 2 h 0 0 0 [(0, .ref v0), (1, .int v1)] [] := by
  refine V_iload_n X dX11_addParameter_0 1 rfl ?_
  obtain ⟨w1, w2⟩ := w
  refine V_if_lt (tgt := 9) X dX11_addParameter_1 (by decide) (fun z => ?_) (fun z => ?_)
  · replace w := w1 z
    clear w1 w2
    exact V.sub [] rfl (tX11_addParameter_b9 X hT  w)
  · replace w := w2 z
    clear w1 w2
    refine V_iload_n X dX11_addParameter_4 1 rfl ?_
    refine V_iconst (y := 2) X dX11_addParameter_5 (by decide) ?_
    obtain ⟨w1, w2⟩ := w
    refine V_icmp_le (tgt := 19) X dX11_addParameter_6 (by decide) (fun z => ?_) (fun z => ?_)
    · replace w := w1 z
      clear w1 w2
      refine V_aloadr_n X dX11_addParameter_19 0 rfl ?_
      obtain ⟨fs, r1, hh, hv, w⟩ := w
      refine V_get X flX11_12 dX11_addParameter_20 hh hv ?_
      obtain ⟨a2, rfl, w⟩ := w
      obtain ⟨fs, x3, hh, hv, w⟩ := w
      refine V_get X flX11_54 dX11_addParameter_23 hh hv ?_
      refine V_aloadr_n X dX11_addParameter_26 0 rfl ?_
      obtain ⟨fs, r4, hh, hv, w⟩ := w
      refine V_get X flX11_12 dX11_addParameter_27 hh hv ?_
      obtain ⟨a5, rfl, w⟩ := w
      obtain ⟨fs, r6, hh, hv, w⟩ := w
      refine V_get3 X frX11_58 dX11_addParameter_30 hh hv ?_
      obtain ⟨a7, rfl, w⟩ := w
      obtain ⟨kt9, x9, hh, hk9, w⟩ := w
      refine V_alen X dX11_addParameter_33 hh hk9 ?_
      generalize Int32.ofNat _ = x8 at w ⊢
      obtain ⟨w1, w2⟩ := w
      refine V_icmp_lt (tgt := 47) X dX11_addParameter_34 (by decide) (fun z => ?_) (fun z => ?_)
      · replace w := w1 z
        clear w1 w2
        refine V_aloadr_n X dX11_addParameter_47 0 rfl ?_
        obtain ⟨fs, r9, hh, hv, w⟩ := w
        refine V_get X flX11_12 dX11_addParameter_48 hh hv ?_
        obtain ⟨a10, rfl, w⟩ := w
        obtain ⟨fs, r11, hh, hv, w⟩ := w
        refine V_get3 X frX11_58 dX11_addParameter_51 hh hv ?_
        refine V_aloadr_n X dX11_addParameter_54 0 rfl ?_
        obtain ⟨fs, r12, hh, hv, w⟩ := w
        refine V_get X flX11_12 dX11_addParameter_55 hh hv ?_
        obtain ⟨a13, rfl, w⟩ := w
        obtain ⟨fs, x14, hh, hv, w⟩ := w
        refine V_get X flX11_54 dX11_addParameter_58 hh hv ?_
        refine V_iload_n X dX11_addParameter_61 1 rfl ?_
        obtain ⟨a15, rfl, w⟩ := w
        obtain ⟨N9, g9, hh, hi, w⟩ := w
        refine V_iast X dX11_addParameter_62 hh hi ?_
        generalize va_up _ _ _ = h16 at w ⊢
        refine V_aloadr_n X dX11_addParameter_63 0 rfl ?_
        obtain ⟨fs, r17, hh, hv, w⟩ := w
        refine V_get X flX11_12 dX11_addParameter_64 hh hv ?_
        refine V_dup X dX11_addParameter_67 (va_cat1 _) ?_
        obtain ⟨a18, rfl, w⟩ := w
        obtain ⟨fs, x19, hh, hv, w⟩ := w
        refine V_get X flX11_54 dX11_addParameter_68 hh hv ?_
        refine V_iconst (y := 1) X dX11_addParameter_71 (by decide) ?_
        refine V_iadd X dX11_addParameter_72 ?_
        obtain ⟨fs, hh, hv, w⟩ := w
        refine V_put X flX11_54 dX11_addParameter_73 hh hv rfl rfl ?_
        generalize va_up _ _ _ = h20 at w ⊢
        refine V_aloadr_n X dX11_addParameter_76 0 rfl ?_
        obtain ⟨fs, r21, hh, hv, w⟩ := w
        refine V_get X flX11_12 dX11_addParameter_77 hh hv ?_
        obtain ⟨a22, rfl, w⟩ := w
        obtain ⟨fs, x23, hh, hv, w⟩ := w
        refine V_get X flX11_54 dX11_addParameter_80 hh hv ?_
        refine V_iconst (y := 1) X dX11_addParameter_83 (by decide) ?_
        refine V_isub X dX11_addParameter_84 ?_
        exact V.vx (V_iret X rfl dX11_addParameter_85 (Nat.le_of_ble_eq_true rfl) (Nat.le_of_ble_eq_true rfl) w)
      · replace w := w2 z
        clear w1 w2
        exact V_throw X thX11_63_61 dX11_addParameter_37 dX11_addParameter_40 dX11_addParameter_41 dX11_addParameter_43 dX11_addParameter_46 hT ⟨(Nat.le_of_ble_eq_true rfl), (Nat.le_of_ble_eq_true rfl), (Nat.le_of_ble_eq_true rfl), (Nat.le_of_ble_eq_true rfl)⟩ (Nat.le_of_ble_eq_true rfl) (Nat.le_of_ble_eq_true rfl) w
    · replace w := w2 z
      clear w1 w2
      exact V.sub [] rfl (tX11_addParameter_b9 X hT  w)
theorem cX11_addParameter_ok {l : Launch} {G : gG} {h : gH} (hls : l.stackTraces = false) {Qn : Int32 → gH → Prop} {Qx : String → gH → Prop} {v0 : Nat} {v1 : Int32} (w : vX11_addParameter G.2.2.1 Qn Qx h v0 v1) : gXi l yX11_addParameter cX11_addParameter 2 (some FieldType.int) rmX11_addParameter rmX11_addParameter.cells rmX11_addParameter.slots G h [.ref v0, .int v1] Qn Qx := by
  exact gXi.of (by decide +kernel) hls (Nat.le_of_ble_eq_true rfl) rfl rfl (fun p e s m below meth c A X hT => tX11_addParameter X hT w)
/-! AnimationController.requireParameter(I)V -/
abbrev rmX11_requireParameter : Room := { frames := 6, cells := 1, slots := 6, locals := 90 }
def vX11_requireParameter (t0 : Nat)  (Qn : gH → Prop) (Qx : String → gH → Prop) (h : gH) (v0 : Nat) (v1 : Int32) : Prop := gr h v0 14 0 (fun r1 => nn r1 (fun a2 => io h a2 7 (vX4_hasParameter t0 (fun x4 h3 => ((¬ (x4 : Int32) = 0) → (Qn h3)) ∧ (((x4 : Int32) = 0) → (Qx "java/lang/IndexOutOfBoundsException" h3))) h a2 v1)))
set_option maxRecDepth 100000 in
set_option maxHeartbeats 4000000 in
theorem tX11_requireParameter {p : Program} {l : Launch} {e : Env} {s : State} {m : MethodId} {args : Array Value} {below : List Frame} {meth : Method} {c : Code} {G : gG} {A : Nat → Prop} {Qn : gH → Prop} {Qx : String → gH → Prop} (X : gC p l s m args meth c G A cX11_requireParameter 2 none RX11) (hT : ∀ x ∈ c.exceptionTable.toList, False)   {h : gH} {v0 : Nat} {v1 : Int32} (w : vX11_requireParameter G.2.2.1  Qn Qx h v0 v1) : V p l e rmX11_requireParameter s m args below meth c (vx_MQ below (va_Qv Qn (gB G A) A) (gXC G A Qx) args s rmX11_requireParameter.cells rmX11_requireParameter.slots A) G A 2 h 0 0 0 [(0, .ref v0), (1, .int v1)] [] := by
  refine V_aloadr_n X dX11_requireParameter_0 0 rfl ?_
  obtain ⟨fs, r1, hh, hv, w⟩ := w
  refine V_get X flX11_12 dX11_requireParameter_1 hh hv ?_
  refine V_iload_n X dX11_requireParameter_4 1 rfl ?_
  obtain ⟨a2, rfl, w⟩ := w
  obtain ⟨fs, hh, w⟩ := w
  refine V_callVi (As := [.int v1]) (rest := []) (k1 := 0) (n1 := 0) X (cX4_hasParameter_ok X.2.2.2.2.2.2.2.2.1 w) lkX11_419 hh (q9 := (RX4, TX4, 8)) rfl rfl dX11_requireParameter_5 ⟨Nat.le_of_ble_eq_true rfl, Nat.le_of_ble_eq_true rfl⟩ rfl (Nat.le_of_ble_eq_true rfl) ⟨Nat.le_of_ble_eq_true rfl, Nat.le_of_ble_eq_true rfl⟩ (Nat.le_of_ble_eq_true rfl) (Nat.le_of_ble_eq_true rfl) (fun x4 h3 w9 => ?_)
  replace w := w9
  clear w9
  obtain ⟨w1, w2⟩ := w
  refine V_if_ne (tgt := 22) X dX11_requireParameter_8 (by decide) (fun z => ?_) (fun z => ?_)
  · replace w := w1 z
    clear w1 w2
    exact V.vx (V_vret X rfl dX11_requireParameter_22 (Nat.le_of_ble_eq_true rfl) (Nat.le_of_ble_eq_true rfl) w)
  · replace w := w2 z
    clear w1 w2
    exact V_throwW X thX11_422_378 dX11_requireParameter_11 dX11_requireParameter_14 dX11_requireParameter_15 dX11_requireParameter_18 dX11_requireParameter_21 hT ⟨(Nat.le_of_ble_eq_true rfl), (Nat.le_of_ble_eq_true rfl), (Nat.le_of_ble_eq_true rfl), (Nat.le_of_ble_eq_true rfl)⟩ (Nat.le_of_ble_eq_true rfl) (Nat.le_of_ble_eq_true rfl) w
theorem cX11_requireParameter_ok {l : Launch} {G : gG} {h : gH} (hls : l.stackTraces = false) {Qn : gH → Prop} {Qx : String → gH → Prop} {v0 : Nat} {v1 : Int32} (w : vX11_requireParameter G.2.2.1 Qn Qx h v0 v1) : gXv l yX11_requireParameter cX11_requireParameter 2 none rmX11_requireParameter rmX11_requireParameter.cells rmX11_requireParameter.slots G h [.ref v0, .int v1] Qn Qx := by
  exact gXv.of (by decide +kernel) hls (Nat.le_of_ble_eq_true rfl) rfl rfl (fun p e s m below meth c A X hT => tX11_requireParameter X hT w)
/-! AnimationController.set(II)I -/
abbrev rmX11_set : Room := { frames := 7, cells := 2, slots := 12, locals := 111 }
def vX11_set (t0 : Nat)  (Qn : Int32 → gH → Prop) (Qx : String → gH → Prop) (h : gH) (v0 : Nat) (v1 : Int32) (v2 : Int32) : Prop := io h v0 14 (vX11_requireParameter t0 (fun h1 => gr h1 v0 14 0 (fun r2 => nn r2 (fun a3 => io h1 a3 7 (vX4_isValue t0 (fun x5 h4 => ((¬ (x5 : Int32) = 0) → (gr h4 v0 14 2 (fun r6 => nn r6 (fun a7 => io h4 a7 6 (vX3_valueOf t0 (fun x9 h8 => gr h8 v0 14 2 (fun r10 => nn r10 (fun a11 => io h8 a11 6 (vX3_setValue t0 (fun h12 => Qn x9 h12) h8 a11 v1 v2)))) h4 a7 v1))))) ∧ (((x5 : Int32) = 0) → (Qx "java/lang/IllegalArgumentException" h4))) h1 a3 v1 v2)))) Qx h v0 v1)
set_option maxRecDepth 100000 in
set_option maxHeartbeats 4000000 in
theorem tX11_set {p : Program} {l : Launch} {e : Env} {s : State} {m : MethodId} {args : Array Value} {below : List Frame} {meth : Method} {c : Code} {G : gG} {A : Nat → Prop} {Qn : Int32 → gH → Prop} {Qx : String → gH → Prop} (X : gC p l s m args meth c G A cX11_set 4 (some FieldType.int) RX11) (hT : ∀ x ∈ c.exceptionTable.toList, False)   {h : gH} {v0 : Nat} {v1 : Int32} {v2 : Int32} (w : vX11_set G.2.2.1  Qn Qx h v0 v1 v2) : V p l e rmX11_set s m args below meth c (vx_MQ below (va_Qi Qn (gB G A) A) (gXC G A Qx) args s rmX11_set.cells rmX11_set.slots A) G A 4 h 0 0 0 [(0, .ref v0), (1, .int v1), (2, .int v2)] [] := by
  refine V_aloadr_n X dX11_set_0 0 rfl ?_
  refine V_iload_n X dX11_set_1 1 rfl ?_
  obtain ⟨fs, hh, w⟩ := w
  refine V_callXv (As := [.int v1]) (rest := []) (k1 := 1) (n1 := 6) X (cX11_requireParameter_ok X.2.2.2.2.2.2.2.2.1 w) lkX11_66 hh (q9 := (RX11, TX11, 7)) rfl rfl dX11_set_2 hT ⟨Nat.le_of_ble_eq_true rfl, Nat.le_of_ble_eq_true rfl⟩ rfl (Nat.le_of_ble_eq_true rfl) ⟨Nat.le_of_ble_eq_true rfl, Nat.le_of_ble_eq_true rfl⟩ (Nat.le_of_ble_eq_true rfl) (Nat.le_of_ble_eq_true rfl) (Nat.le_of_ble_eq_true rfl) (Nat.le_of_ble_eq_true rfl) (fun h1 w9 => ?_)
  replace w := w9
  clear w9
  refine V_aloadr_n X dX11_set_5 0 rfl ?_
  obtain ⟨fs, r2, hh, hv, w⟩ := w
  refine V_get X flX11_12 dX11_set_6 hh hv ?_
  refine V_iload_n X dX11_set_9 1 rfl ?_
  refine V_iload_n X dX11_set_10 2 rfl ?_
  obtain ⟨a3, rfl, w⟩ := w
  obtain ⟨fs, hh, w⟩ := w
  refine V_callVi (As := [.int v1, .int v2]) (rest := []) (k1 := 1) (n1 := 6) X (cX4_isValue_ok X.2.2.2.2.2.2.2.2.1 w) lkX11_70 hh (q9 := (RX4, TX4, 8)) rfl rfl dX11_set_11 ⟨Nat.le_of_ble_eq_true rfl, Nat.le_of_ble_eq_true rfl⟩ rfl (Nat.le_of_ble_eq_true rfl) ⟨Nat.le_of_ble_eq_true rfl, Nat.le_of_ble_eq_true rfl⟩ (Nat.le_of_ble_eq_true rfl) (Nat.le_of_ble_eq_true rfl) (fun x5 h4 w9 => ?_)
  replace w := w9
  clear w9
  obtain ⟨w1, w2⟩ := w
  refine V_if_ne (tgt := 27) X dX11_set_14 (by decide) (fun z => ?_) (fun z => ?_)
  · replace w := w1 z
    clear w1 w2
    refine V_aloadr_n X dX11_set_27 0 rfl ?_
    obtain ⟨fs, r6, hh, hv, w⟩ := w
    refine V_get X flX11_28 dX11_set_28 hh hv ?_
    refine V_iload_n X dX11_set_31 1 rfl ?_
    obtain ⟨a7, rfl, w⟩ := w
    obtain ⟨fs, hh, w⟩ := w
    refine V_callVi (As := [.int v1]) (rest := []) (k1 := 1) (n1 := 6) X (cX3_valueOf_ok X.2.2.2.2.2.2.2.2.1 w) lkX11_76 hh (q9 := (RX3, TX3, 13)) rfl rfl dX11_set_32 ⟨Nat.le_of_ble_eq_true rfl, Nat.le_of_ble_eq_true rfl⟩ rfl (Nat.le_of_ble_eq_true rfl) ⟨Nat.le_of_ble_eq_true rfl, Nat.le_of_ble_eq_true rfl⟩ (Nat.le_of_ble_eq_true rfl) (Nat.le_of_ble_eq_true rfl) (fun x9 h8 w9 => ?_)
    replace w := w9
    clear w9
    refine V_istore_n (i0 := 3) X dX11_set_35 rfl (by decide) rfl ?_
    refine V_aloadr_n X dX11_set_36 1 rfl ?_
    obtain ⟨fs, r10, hh, hv, w⟩ := w
    refine V_get X flX11_28 dX11_set_37 hh hv ?_
    refine V_iload_n X dX11_set_40 2 rfl ?_
    refine V_iload_n X dX11_set_41 3 rfl ?_
    obtain ⟨a11, rfl, w⟩ := w
    obtain ⟨fs, hh, w⟩ := w
    refine V_callVv (As := [.int v1, .int v2]) (rest := []) (k1 := 1) (n1 := 6) X (cX3_setValue_ok X.2.2.2.2.2.2.2.2.1 w) lkX11_80 hh (q9 := (RX3, TX3, 13)) rfl rfl dX11_set_42 ⟨Nat.le_of_ble_eq_true rfl, Nat.le_of_ble_eq_true rfl⟩ rfl (Nat.le_of_ble_eq_true rfl) ⟨Nat.le_of_ble_eq_true rfl, Nat.le_of_ble_eq_true rfl⟩ (Nat.le_of_ble_eq_true rfl) (Nat.le_of_ble_eq_true rfl) (fun h12 w9 => ?_)
    replace w := w9
    clear w9
    refine V_iload_n X dX11_set_45 0 rfl ?_
    exact V.vx (V_iret X rfl dX11_set_46 (Nat.le_of_ble_eq_true rfl) (Nat.le_of_ble_eq_true rfl) w)
  · replace w := w2 z
    clear w1 w2
    exact V_throw X thX11_74_47 dX11_set_17 dX11_set_20 dX11_set_21 dX11_set_23 dX11_set_26 hT ⟨(Nat.le_of_ble_eq_true rfl), (Nat.le_of_ble_eq_true rfl), (Nat.le_of_ble_eq_true rfl), (Nat.le_of_ble_eq_true rfl)⟩ (Nat.le_of_ble_eq_true rfl) (Nat.le_of_ble_eq_true rfl) w
theorem cX11_set_ok {l : Launch} {G : gG} {h : gH} (hls : l.stackTraces = false) {Qn : Int32 → gH → Prop} {Qx : String → gH → Prop} {v0 : Nat} {v1 : Int32} {v2 : Int32} (w : vX11_set G.2.2.1 Qn Qx h v0 v1 v2) : gXi l yX11_set cX11_set 4 (some FieldType.int) rmX11_set rmX11_set.cells rmX11_set.slots G h [.ref v0, .int v1, .int v2] Qn Qx := by
  exact gXi.of (by decide +kernel) hls (Nat.le_of_ble_eq_true rfl) rfl rfl (fun p e s m below meth c A X hT => tX11_set X hT w)
/-! AnimationController.value(I)I -/
abbrev rmX11_value : Room := { frames := 7, cells := 1, slots := 6, locals := 111 }
def vX11_value (t0 : Nat)  (Qn : Int32 → gH → Prop) (Qx : String → gH → Prop) (h : gH) (v0 : Nat) (v1 : Int32) : Prop := io h v0 14 (vX11_requireParameter t0 (fun h1 => gr h1 v0 14 2 (fun r2 => nn r2 (fun a3 => io h1 a3 6 (vX3_valueOf t0 (fun x5 h4 => Qn x5 h4) h1 a3 v1)))) Qx h v0 v1)
set_option maxRecDepth 100000 in
set_option maxHeartbeats 4000000 in
theorem tX11_value {p : Program} {l : Launch} {e : Env} {s : State} {m : MethodId} {args : Array Value} {below : List Frame} {meth : Method} {c : Code} {G : gG} {A : Nat → Prop} {Qn : Int32 → gH → Prop} {Qx : String → gH → Prop} (X : gC p l s m args meth c G A cX11_value 2 (some FieldType.int) RX11) (hT : ∀ x ∈ c.exceptionTable.toList, False)   {h : gH} {v0 : Nat} {v1 : Int32} (w : vX11_value G.2.2.1  Qn Qx h v0 v1) : V p l e rmX11_value s m args below meth c (vx_MQ below (va_Qi Qn (gB G A) A) (gXC G A Qx) args s rmX11_value.cells rmX11_value.slots A) G A 2 h 0 0 0 [(0, .ref v0), (1, .int v1)] [] := by
  refine V_aloadr_n X dX11_value_0 0 rfl ?_
  refine V_iload_n X dX11_value_1 1 rfl ?_
  obtain ⟨fs, hh, w⟩ := w
  refine V_callXv (As := [.int v1]) (rest := []) (k1 := 1) (n1 := 6) X (cX11_requireParameter_ok X.2.2.2.2.2.2.2.2.1 w) lkX11_66 hh (q9 := (RX11, TX11, 7)) rfl rfl dX11_value_2 hT ⟨Nat.le_of_ble_eq_true rfl, Nat.le_of_ble_eq_true rfl⟩ rfl (Nat.le_of_ble_eq_true rfl) ⟨Nat.le_of_ble_eq_true rfl, Nat.le_of_ble_eq_true rfl⟩ (Nat.le_of_ble_eq_true rfl) (Nat.le_of_ble_eq_true rfl) (Nat.le_of_ble_eq_true rfl) (Nat.le_of_ble_eq_true rfl) (fun h1 w9 => ?_)
  replace w := w9
  clear w9
  refine V_aloadr_n X dX11_value_5 0 rfl ?_
  obtain ⟨fs, r2, hh, hv, w⟩ := w
  refine V_get X flX11_28 dX11_value_6 hh hv ?_
  refine V_iload_n X dX11_value_9 1 rfl ?_
  obtain ⟨a3, rfl, w⟩ := w
  obtain ⟨fs, hh, w⟩ := w
  refine V_callVi (As := [.int v1]) (rest := []) (k1 := 1) (n1 := 6) X (cX3_valueOf_ok X.2.2.2.2.2.2.2.2.1 w) lkX11_76 hh (q9 := (RX3, TX3, 13)) rfl rfl dX11_value_10 ⟨Nat.le_of_ble_eq_true rfl, Nat.le_of_ble_eq_true rfl⟩ rfl (Nat.le_of_ble_eq_true rfl) ⟨Nat.le_of_ble_eq_true rfl, Nat.le_of_ble_eq_true rfl⟩ (Nat.le_of_ble_eq_true rfl) (Nat.le_of_ble_eq_true rfl) (fun x5 h4 w9 => ?_)
  replace w := w9
  clear w9
  exact V.vx (V_iret X rfl dX11_value_13 (Nat.le_of_ble_eq_true rfl) (Nat.le_of_ble_eq_true rfl) w)
theorem cX11_value_ok {l : Launch} {G : gG} {h : gH} (hls : l.stackTraces = false) {Qn : Int32 → gH → Prop} {Qx : String → gH → Prop} {v0 : Nat} {v1 : Int32} (w : vX11_value G.2.2.1 Qn Qx h v0 v1) : gXi l yX11_value cX11_value 2 (some FieldType.int) rmX11_value rmX11_value.cells rmX11_value.slots G h [.ref v0, .int v1] Qn Qx := by
  exact gXi.of (by decide +kernel) hls (Nat.le_of_ble_eq_true rfl) rfl rfl (fun p e s m below meth c A X hT => tX11_value X hT w)
/-! AnimationController.addClip(I)I -/
abbrev rmX11_addClip : Room := { frames := 7, cells := 4, slots := 79, locals := 191 }
def vX11_addClip_b12 (t0 : Nat)  (Qn : Int32 → gH → Prop) (Qx : String → gH → Prop) (h : gH)  : Prop := Qx "java/lang/IllegalArgumentException" h
set_option maxRecDepth 100000 in
set_option maxHeartbeats 4000000 in
theorem tX11_addClip_b12 {p : Program} {l : Launch} {e : Env} {s : State} {m : MethodId} {args : Array Value} {below : List Frame} {meth : Method} {c : Code} {G : gG} {A : Nat → Prop} {Qn : Int32 → gH → Prop} {Qx : String → gH → Prop} (X : gC p l s m args meth c G A cX11_addClip 2 (some FieldType.int) RX11) (hT : ∀ x ∈ c.exceptionTable.toList, False)   {h : gH}  (w : vX11_addClip_b12 G.2.2.1  Qn Qx h ) : V p l e rmX11_addClip s m args below meth c (vx_MQ below (va_Qi Qn (gB G A) A) (gXC G A Qx) args s rmX11_addClip.cells rmX11_addClip.slots A) G A 2 h 0 0 12 [] [] := by
  exact V_throw X thX11_84_47 dX11_addClip_12 dX11_addClip_15 dX11_addClip_16 dX11_addClip_18 dX11_addClip_21 hT ⟨(Nat.le_of_ble_eq_true rfl), (Nat.le_of_ble_eq_true rfl), (Nat.le_of_ble_eq_true rfl), (Nat.le_of_ble_eq_true rfl)⟩ (Nat.le_of_ble_eq_true rfl) (Nat.le_of_ble_eq_true rfl) w
def vX11_addClip (t0 : Nat)  (Qn : Int32 → gH → Prop) (Qx : String → gH → Prop) (h : gH) (v0 : Nat) (v1 : Int32) : Prop := (((v1 : Int32) < 1) → (vX11_addClip_b12 t0  Qn Qx h )) ∧ ((¬ (v1 : Int32) < 1) → ((((v1 : Int32) ≤ 500) → (gr h v0 14 0 (fun r1 => nn r1 (fun a2 => gr h a2 7 2 (fun r3 => nn r3 (fun a4 => io h a4 2 (vJx4a65c_size_8abf5 t0 (fun x6 h5 => (((x6 : Int32) < 12) → (gr h5 v0 14 0 (fun r7 => nn r7 (fun a8 => gr h5 a8 7 2 (fun r9 => nw h5 (.inr (4, [.int 0, .int 0, .null, .null, .int 0])) (fun q10 h11 => gr h11 v0 14 0 (fun r12 => nn r12 (fun a13 => gr h11 a13 7 2 (fun r14 => nn r14 (fun a15 => io h11 a15 2 (vJx4a65c_size_8abf5 t0 (fun x17 h16 => vX1_init t0 (fun h18 => nn r9 (fun a19 => io h18 a19 2 (vJx4a65c_add_9ea2d t0 (fun x21 h20 => gr h20 v0 14 0 (fun r22 => nn r22 (fun a23 => gr h20 a23 7 2 (fun r24 => nn r24 (fun a25 => io h20 a25 2 (vJx4a65c_size_8abf5 t0 (fun x27 h26 => Qn (x27 - 1) h26) h20 a25 )))))) h18 a19 (some q10)))) h16 q10 x17 v1) h11 a15 ))))))))))) ∧ ((¬ (x6 : Int32) < 12) → (Qx "java/lang/IllegalStateException" h5))) h a4 ))))))) ∧ ((¬ (v1 : Int32) ≤ 500) → (vX11_addClip_b12 t0  Qn Qx h ))))
set_option maxRecDepth 100000 in
set_option maxHeartbeats 4000000 in
theorem tX11_addClip {p : Program} {l : Launch} {e : Env} {s : State} {m : MethodId} {args : Array Value} {below : List Frame} {meth : Method} {c : Code} {G : gG} {A : Nat → Prop} {Qn : Int32 → gH → Prop} {Qx : String → gH → Prop} (X : gC p l s m args meth c G A cX11_addClip 2 (some FieldType.int) RX11) (hT : ∀ x ∈ c.exceptionTable.toList, False)   {h : gH} {v0 : Nat} {v1 : Int32} (w : vX11_addClip G.2.2.1  Qn Qx h v0 v1) : V p l e rmX11_addClip s m args below meth c (vx_MQ below (va_Qi Qn (gB G A) A) (gXC G A Qx) args s rmX11_addClip.cells rmX11_addClip.slots A) G A 2 h 0 0 0 [(0, .ref v0), (1, .int v1)] [] := by
  refine V_iload_n X dX11_addClip_0 1 rfl ?_
  refine V_iconst (y := 1) X dX11_addClip_1 (by decide) ?_
  obtain ⟨w1, w2⟩ := w
  refine V_icmp_lt (tgt := 12) X dX11_addClip_2 (by decide) (fun z => ?_) (fun z => ?_)
  · replace w := w1 z
    clear w1 w2
    exact V.sub [] rfl (tX11_addClip_b12 X hT  w)
  · replace w := w2 z
    clear w1 w2
    refine V_iload_n X dX11_addClip_5 1 rfl ?_
    refine V_sipush (y := 500) X dX11_addClip_6 (by decide) ?_
    obtain ⟨w1, w2⟩ := w
    refine V_icmp_le (tgt := 22) X dX11_addClip_9 (by decide) (fun z => ?_) (fun z => ?_)
    · replace w := w1 z
      clear w1 w2
      refine V_aloadr_n X dX11_addClip_22 0 rfl ?_
      obtain ⟨fs, r1, hh, hv, w⟩ := w
      refine V_get X flX11_12 dX11_addClip_23 hh hv ?_
      obtain ⟨a2, rfl, w⟩ := w
      obtain ⟨fs, r3, hh, hv, w⟩ := w
      refine V_get3 X frX11_86 dX11_addClip_26 hh hv ?_
      obtain ⟨a4, rfl, w⟩ := w
      obtain ⟨fs, hh, w⟩ := w
      refine V_callVi (As := []) (rest := []) (k1 := 0) (n1 := 0) X (cJx4a65c_size_8abf5_ok X.2.2.2.2.2.2.2.2.1 w) lkX11_90 hh (q9 := (RJx4a65c, TJx4a65c, 3)) rfl rfl dX11_addClip_29 ⟨Nat.le_of_ble_eq_true rfl, Nat.le_of_ble_eq_true rfl⟩ rfl (Nat.le_of_ble_eq_true rfl) ⟨Nat.le_of_ble_eq_true rfl, Nat.le_of_ble_eq_true rfl⟩ (Nat.le_of_ble_eq_true rfl) (Nat.le_of_ble_eq_true rfl) (fun x6 h5 w9 => ?_)
      replace w := w9
      clear w9
      refine V_bipush (y := 12) X dX11_addClip_32 (by decide) ?_
      obtain ⟨w1, w2⟩ := w
      refine V_icmp_lt (tgt := 47) X dX11_addClip_34 (by decide) (fun z => ?_) (fun z => ?_)
      · replace w := w1 z
        clear w1 w2
        refine V_aloadr_n X dX11_addClip_47 0 rfl ?_
        obtain ⟨fs, r7, hh, hv, w⟩ := w
        refine V_get X flX11_12 dX11_addClip_48 hh hv ?_
        obtain ⟨a8, rfl, w⟩ := w
        obtain ⟨fs, r9, hh, hv, w⟩ := w
        refine V_get3 X frX11_86 dX11_addClip_51 hh hv ?_
        refine V_new (k1 := 1) (n1 := 5) X nwX11_98 dX11_addClip_54 ⟨(Nat.le_of_ble_eq_true rfl), (Nat.le_of_ble_eq_true rfl)⟩ (Nat.le_of_ble_eq_true rfl) (Nat.le_of_ble_eq_true rfl) (fun q10 hq => ?_)
        replace w := w q10 hq
        generalize va_up _ _ _ = h11 at w ⊢
        refine V_dup X dX11_addClip_57 rfl ?_
        refine V_aloadr_n X dX11_addClip_58 0 rfl ?_
        obtain ⟨fs, r12, hh, hv, w⟩ := w
        refine V_get X flX11_12 dX11_addClip_59 hh hv ?_
        obtain ⟨a13, rfl, w⟩ := w
        obtain ⟨fs, r14, hh, hv, w⟩ := w
        refine V_get3 X frX11_86 dX11_addClip_62 hh hv ?_
        obtain ⟨a15, rfl, w⟩ := w
        obtain ⟨fs, hh, w⟩ := w
        refine V_callVi (As := []) (rest := [.ref q10, .ref q10, va_rf r9]) (k1 := 1) (n1 := 5) X (cJx4a65c_size_8abf5_ok X.2.2.2.2.2.2.2.2.1 w) lkX11_90 hh (q9 := (RJx4a65c, TJx4a65c, 3)) rfl rfl dX11_addClip_65 ⟨Nat.le_of_ble_eq_true rfl, Nat.le_of_ble_eq_true rfl⟩ rfl (va_len _ 4 (Nat.le_of_ble_eq_true rfl)) ⟨Nat.le_of_ble_eq_true rfl, Nat.le_of_ble_eq_true rfl⟩ (Nat.le_of_ble_eq_true rfl) (Nat.le_of_ble_eq_true rfl) (fun x17 h16 w9 => ?_)
        replace w := w9
        clear w9
        refine V_iload_n X dX11_addClip_68 1 rfl ?_
        refine V_callI (As := [.int x17, .int v1]) (rest := [.ref q10, va_rf r9]) (k1 := 3) (n1 := 15) X (cX1_init_ok X.2.2.2.2.2.2.2.2.1 w) lkX11_100 dX11_addClip_69 ⟨Nat.le_of_ble_eq_true rfl, Nat.le_of_ble_eq_true rfl⟩ rfl (va_len _ 4 (Nat.le_of_ble_eq_true rfl)) ⟨Nat.le_of_ble_eq_true rfl, Nat.le_of_ble_eq_true rfl⟩ (Nat.le_of_ble_eq_true rfl) (Nat.le_of_ble_eq_true rfl) (fun h18 w9 => ?_)
        replace w := w9
        clear w9
        obtain ⟨a19, rfl, w⟩ := w
        obtain ⟨fs, hh, w⟩ := w
        refine V_callVi (As := [.ref q10]) (rest := []) (k1 := 4) (n1 := 79) X (cJx4a65c_add_9ea2d_ok X.2.2.2.2.2.2.2.2.1 w) lkX11_102 hh (q9 := (RJx4a65c, TJx4a65c, 3)) rfl rfl dX11_addClip_72 ⟨Nat.le_of_ble_eq_true rfl, Nat.le_of_ble_eq_true rfl⟩ rfl (Nat.le_of_ble_eq_true rfl) ⟨Nat.le_of_ble_eq_true rfl, Nat.le_of_ble_eq_true rfl⟩ (Nat.le_of_ble_eq_true rfl) (Nat.le_of_ble_eq_true rfl) (fun x21 h20 w9 => ?_)
        replace w := w9
        clear w9
        refine V_pop X dX11_addClip_75 rfl ?_
        refine V_aloadr_n X dX11_addClip_76 0 rfl ?_
        obtain ⟨fs, r22, hh, hv, w⟩ := w
        refine V_get X flX11_12 dX11_addClip_77 hh hv ?_
        obtain ⟨a23, rfl, w⟩ := w
        obtain ⟨fs, r24, hh, hv, w⟩ := w
        refine V_get3 X frX11_86 dX11_addClip_80 hh hv ?_
        obtain ⟨a25, rfl, w⟩ := w
        obtain ⟨fs, hh, w⟩ := w
        refine V_callVi (As := []) (rest := []) (k1 := 4) (n1 := 79) X (cJx4a65c_size_8abf5_ok X.2.2.2.2.2.2.2.2.1 w) lkX11_90 hh (q9 := (RJx4a65c, TJx4a65c, 3)) rfl rfl dX11_addClip_83 ⟨Nat.le_of_ble_eq_true rfl, Nat.le_of_ble_eq_true rfl⟩ rfl (Nat.le_of_ble_eq_true rfl) ⟨Nat.le_of_ble_eq_true rfl, Nat.le_of_ble_eq_true rfl⟩ (Nat.le_of_ble_eq_true rfl) (Nat.le_of_ble_eq_true rfl) (fun x27 h26 w9 => ?_)
        replace w := w9
        clear w9
        refine V_iconst (y := 1) X dX11_addClip_86 (by decide) ?_
        refine V_isub X dX11_addClip_87 ?_
        exact V.vx (V_iret X rfl dX11_addClip_88 (Nat.le_of_ble_eq_true rfl) (Nat.le_of_ble_eq_true rfl) w)
      · replace w := w2 z
        clear w1 w2
        exact V_throw X thX11_96_61 dX11_addClip_37 dX11_addClip_40 dX11_addClip_41 dX11_addClip_43 dX11_addClip_46 hT ⟨(Nat.le_of_ble_eq_true rfl), (Nat.le_of_ble_eq_true rfl), (Nat.le_of_ble_eq_true rfl), (Nat.le_of_ble_eq_true rfl)⟩ (Nat.le_of_ble_eq_true rfl) (Nat.le_of_ble_eq_true rfl) w
    · replace w := w2 z
      clear w1 w2
      exact V.sub [] rfl (tX11_addClip_b12 X hT  w)
theorem cX11_addClip_ok {l : Launch} {G : gG} {h : gH} (hls : l.stackTraces = false) {Qn : Int32 → gH → Prop} {Qx : String → gH → Prop} {v0 : Nat} {v1 : Int32} (w : vX11_addClip G.2.2.1 Qn Qx h v0 v1) : gXi l yX11_addClip cX11_addClip 2 (some FieldType.int) rmX11_addClip rmX11_addClip.cells rmX11_addClip.slots G h [.ref v0, .int v1] Qn Qx := by
  exact gXi.of (by decide +kernel) hls (Nat.le_of_ble_eq_true rfl) rfl rfl (fun p e s m below meth c A X hT => tX11_addClip X hT w)
/-! AnimationController.clipAt(I)LAnimationController$Clip; -/
abbrev rmX11_clipAt : Room := { frames := 6, cells := 1, slots := 6, locals := 90 }
def vX11_clipAt_b18 (t0 : Nat)  (Qn : Option Nat → gH → Prop) (Qx : String → gH → Prop) (h : gH)  : Prop := Qx "java/lang/IndexOutOfBoundsException" h
set_option maxRecDepth 100000 in
set_option maxHeartbeats 4000000 in
theorem tX11_clipAt_b18 {p : Program} {l : Launch} {e : Env} {s : State} {m : MethodId} {args : Array Value} {below : List Frame} {meth : Method} {c : Code} {G : gG} {A : Nat → Prop} {Qn : Option Nat → gH → Prop} {Qx : String → gH → Prop} (X : gC p l s m args meth c G A cX11_clipAt 2 (some (FieldType.object "AnimationController$Clip")) RX11) (hT : ∀ x ∈ c.exceptionTable.toList, False)   {h : gH}  (w : vX11_clipAt_b18 G.2.2.1  Qn Qx h ) : V p l e rmX11_clipAt s m args below meth c (vx_MQ below (va_Qq Qn (gB G A) A) (gXC G A Qx) args s rmX11_clipAt.cells rmX11_clipAt.slots A) G A 2 h 0 0 18 [] [] := by
  exact V_throwW X thX11_432_378 dX11_clipAt_18 dX11_clipAt_21 dX11_clipAt_22 dX11_clipAt_25 dX11_clipAt_28 hT ⟨(Nat.le_of_ble_eq_true rfl), (Nat.le_of_ble_eq_true rfl), (Nat.le_of_ble_eq_true rfl), (Nat.le_of_ble_eq_true rfl)⟩ (Nat.le_of_ble_eq_true rfl) (Nat.le_of_ble_eq_true rfl) w
def vX11_clipAt (t0 : Nat)  (Qn : Option Nat → gH → Prop) (Qx : String → gH → Prop) (h : gH) (v0 : Nat) (v1 : Int32) : Prop := (((v1 : Int32) < 0) → (vX11_clipAt_b18 t0  Qn Qx h )) ∧ ((¬ (v1 : Int32) < 0) → (gr h v0 14 0 (fun r1 => nn r1 (fun a2 => gr h a2 7 2 (fun r3 => nn r3 (fun a4 => io h a4 2 (vJx4a65c_size_8abf5 t0 (fun x6 h5 => (((v1 : Int32) < x6) → (gr h5 v0 14 0 (fun r7 => nn r7 (fun a8 => gr h5 a8 7 2 (fun r9 => nn r9 (fun a10 => io h5 a10 2 (vJx4a65c_get_915e3 t0 (fun r12 h11 => nn r12 (fun a13 => io h11 a13 4 (Qn (some a13) h11))) h5 a10 v1))))))) ∧ ((¬ (v1 : Int32) < x6) → (vX11_clipAt_b18 t0  Qn Qx h5 ))) h a4 )))))))
set_option maxRecDepth 100000 in
set_option maxHeartbeats 4000000 in
theorem tX11_clipAt {p : Program} {l : Launch} {e : Env} {s : State} {m : MethodId} {args : Array Value} {below : List Frame} {meth : Method} {c : Code} {G : gG} {A : Nat → Prop} {Qn : Option Nat → gH → Prop} {Qx : String → gH → Prop} (X : gC p l s m args meth c G A cX11_clipAt 2 (some (FieldType.object "AnimationController$Clip")) RX11) (hT : ∀ x ∈ c.exceptionTable.toList, False)   {h : gH} {v0 : Nat} {v1 : Int32} (w : vX11_clipAt G.2.2.1  Qn Qx h v0 v1) : V p l e rmX11_clipAt s m args below meth c (vx_MQ below (va_Qq Qn (gB G A) A) (gXC G A Qx) args s rmX11_clipAt.cells rmX11_clipAt.slots A) G A 2 h 0 0 0 [(0, .ref v0), (1, .int v1)] [] := by
  refine V_iload_n X dX11_clipAt_0 1 rfl ?_
  obtain ⟨w1, w2⟩ := w
  refine V_if_lt (tgt := 18) X dX11_clipAt_1 (by decide) (fun z => ?_) (fun z => ?_)
  · replace w := w1 z
    clear w1 w2
    exact V.sub [] rfl (tX11_clipAt_b18 X hT  w)
  · replace w := w2 z
    clear w1 w2
    refine V_iload_n X dX11_clipAt_4 1 rfl ?_
    refine V_aloadr_n X dX11_clipAt_5 0 rfl ?_
    obtain ⟨fs, r1, hh, hv, w⟩ := w
    refine V_get X flX11_12 dX11_clipAt_6 hh hv ?_
    obtain ⟨a2, rfl, w⟩ := w
    obtain ⟨fs, r3, hh, hv, w⟩ := w
    refine V_get3 X frX11_86 dX11_clipAt_9 hh hv ?_
    obtain ⟨a4, rfl, w⟩ := w
    obtain ⟨fs, hh, w⟩ := w
    refine V_callVi (As := []) (rest := [.int v1]) (k1 := 0) (n1 := 0) X (cJx4a65c_size_8abf5_ok X.2.2.2.2.2.2.2.2.1 w) lkX11_90 hh (q9 := (RJx4a65c, TJx4a65c, 3)) rfl rfl dX11_clipAt_12 ⟨Nat.le_of_ble_eq_true rfl, Nat.le_of_ble_eq_true rfl⟩ rfl (Nat.le_of_ble_eq_true rfl) ⟨Nat.le_of_ble_eq_true rfl, Nat.le_of_ble_eq_true rfl⟩ (Nat.le_of_ble_eq_true rfl) (Nat.le_of_ble_eq_true rfl) (fun x6 h5 w9 => ?_)
    replace w := w9
    clear w9
    obtain ⟨w1, w2⟩ := w
    refine V_icmp_lt (tgt := 29) X dX11_clipAt_15 (by decide) (fun z => ?_) (fun z => ?_)
    · replace w := w1 z
      clear w1 w2
      refine V_aloadr_n X dX11_clipAt_29 0 rfl ?_
      obtain ⟨fs, r7, hh, hv, w⟩ := w
      refine V_get X flX11_12 dX11_clipAt_30 hh hv ?_
      obtain ⟨a8, rfl, w⟩ := w
      obtain ⟨fs, r9, hh, hv, w⟩ := w
      refine V_get3 X frX11_86 dX11_clipAt_33 hh hv ?_
      refine V_iload_n X dX11_clipAt_36 1 rfl ?_
      obtain ⟨a10, rfl, w⟩ := w
      obtain ⟨fs, hh, w⟩ := w
      refine V_callVq (As := [.int v1]) (rest := []) (k1 := 0) (n1 := 0) X (cJx4a65c_get_915e3_ok X.2.2.2.2.2.2.2.2.1 w) lkX11_302 hh (q9 := (RJx4a65c, TJx4a65c, 3)) rfl rfl dX11_clipAt_37 ⟨Nat.le_of_ble_eq_true rfl, Nat.le_of_ble_eq_true rfl⟩ rfl (Nat.le_of_ble_eq_true rfl) ⟨Nat.le_of_ble_eq_true rfl, Nat.le_of_ble_eq_true rfl⟩ (Nat.le_of_ble_eq_true rfl) (Nat.le_of_ble_eq_true rfl) (fun r12 h11 w9 => ?_)
      replace w := w9
      clear w9
      obtain ⟨a13, rfl, w⟩ := w
      obtain ⟨fs, hh, w⟩ := w
      refine V_cast (q9 := (RX1, TX1, 5)) X kw_884 rfl rfl hh dX11_clipAt_40 ?_
      exact V.vx (V_aret (x := (some a13)) X rfl (Or.inl ⟨_, rfl⟩) dX11_clipAt_43 (Nat.le_of_ble_eq_true rfl) (Nat.le_of_ble_eq_true rfl) w)
    · replace w := w2 z
      clear w1 w2
      exact V.sub [] rfl (tX11_clipAt_b18 X hT  w)
theorem cX11_clipAt_ok {l : Launch} {G : gG} {h : gH} (hls : l.stackTraces = false) {Qn : Option Nat → gH → Prop} {Qx : String → gH → Prop} {v0 : Nat} {v1 : Int32} (w : vX11_clipAt G.2.2.1 Qn Qx h v0 v1) : gXq l yX11_clipAt cX11_clipAt 2 (some (FieldType.object "AnimationController$Clip")) rmX11_clipAt rmX11_clipAt.cells rmX11_clipAt.slots G h [.ref v0, .int v1] Qn Qx := by
  exact gXq.of (by decide +kernel) hls (Nat.le_of_ble_eq_true rfl) rfl rfl (fun p e s m below meth c A X hT => tX11_clipAt X hT w)
/-! AnimationController.addEvent(III)I -/
abbrev rmX11_addEvent : Room := { frames := 7, cells := 2, slots := 12, locals := 111 }
def vX11_addEvent_b30 (t0 : Nat)  (Qn : Int32 → gH → Prop) (Qx : String → gH → Prop) (h : gH)  : Prop := Qx "java/lang/IllegalArgumentException" h
set_option maxRecDepth 100000 in
set_option maxHeartbeats 4000000 in
theorem tX11_addEvent_b30 {p : Program} {l : Launch} {e : Env} {s : State} {m : MethodId} {args : Array Value} {below : List Frame} {meth : Method} {c : Code} {G : gG} {A : Nat → Prop} {Qn : Int32 → gH → Prop} {Qx : String → gH → Prop} (X : gC p l s m args meth c G A cX11_addEvent 5 (some FieldType.int) RX11) (hT : ∀ x ∈ c.exceptionTable.toList, False)   {h : gH}  (w : vX11_addEvent_b30 G.2.2.1  Qn Qx h ) : V p l e rmX11_addEvent s m args below meth c (vx_MQ below (va_Qi Qn (gB G A) A) (gXC G A Qx) args s rmX11_addEvent.cells rmX11_addEvent.slots A) G A 5 h 1 6 30 [] [] := by
  exact V_throw X thX11_113_47 dX11_addEvent_30 dX11_addEvent_33 dX11_addEvent_34 dX11_addEvent_36 dX11_addEvent_39 hT ⟨(Nat.le_of_ble_eq_true rfl), (Nat.le_of_ble_eq_true rfl), (Nat.le_of_ble_eq_true rfl), (Nat.le_of_ble_eq_true rfl)⟩ (Nat.le_of_ble_eq_true rfl) (Nat.le_of_ble_eq_true rfl) w
def vX11_addEvent (t0 : Nat)  (Qn : Int32 → gH → Prop) (Qx : String → gH → Prop) (h : gH) (v0 : Nat) (v1 : Int32) (v2 : Int32) (v3 : Int32) : Prop := io h v0 14 (vX11_clipAt t0 (fun r2 h1 => (((v2 : Int32) < 0) → (vX11_addEvent_b30 t0  Qn Qx h1 )) ∧ ((¬ (v2 : Int32) < 0) → (nn r2 (fun a3 => gi h1 a3 4 1 (fun x4 => ((x4 ≤ (v2 : Int32)) → (vX11_addEvent_b30 t0  Qn Qx h1 )) ∧ ((¬ x4 ≤ (v2 : Int32)) → ((((v3 : Int32) < 0) → (vX11_addEvent_b30 t0  Qn Qx h1 )) ∧ ((¬ (v3 : Int32) < 0) → ((((v3 : Int32) ≤ 99) → (gi h1 a3 4 4 (fun x5 => (((x5 : Int32) < 5) → (io h1 a3 4 (vX1_insertEvent t0 (fun h6 => gi h6 a3 4 4 (fun x7 => Qn x7 h6)) h1 a3 v2 v3))) ∧ ((¬ (x5 : Int32) < 5) → (Qx "java/lang/IllegalStateException" h1))))) ∧ ((¬ (v3 : Int32) ≤ 99) → (vX11_addEvent_b30 t0  Qn Qx h1 ))))))))))) Qx h v0 v1)
set_option maxRecDepth 100000 in
set_option maxHeartbeats 4000000 in
theorem tX11_addEvent {p : Program} {l : Launch} {e : Env} {s : State} {m : MethodId} {args : Array Value} {below : List Frame} {meth : Method} {c : Code} {G : gG} {A : Nat → Prop} {Qn : Int32 → gH → Prop} {Qx : String → gH → Prop} (X : gC p l s m args meth c G A cX11_addEvent 5 (some FieldType.int) RX11) (hT : ∀ x ∈ c.exceptionTable.toList, False)   {h : gH} {v0 : Nat} {v1 : Int32} {v2 : Int32} {v3 : Int32} (w : vX11_addEvent G.2.2.1  Qn Qx h v0 v1 v2 v3) : V p l e rmX11_addEvent s m args below meth c (vx_MQ below (va_Qi Qn (gB G A) A) (gXC G A Qx) args s rmX11_addEvent.cells rmX11_addEvent.slots A) G A 5 h 0 0 0 [(0, .ref v0), (1, .int v1), (2, .int v2), (3, .int v3)] [] := by
  refine V_aloadr_n X dX11_addEvent_0 0 rfl ?_
  refine V_iload_n X dX11_addEvent_1 1 rfl ?_
  obtain ⟨fs, hh, w⟩ := w
  refine V_callXq (As := [.int v1]) (rest := []) (k1 := 1) (n1 := 6) X (cX11_clipAt_ok X.2.2.2.2.2.2.2.2.1 w) lkX11_106 hh (q9 := (RX11, TX11, 7)) rfl rfl dX11_addEvent_2 hT ⟨Nat.le_of_ble_eq_true rfl, Nat.le_of_ble_eq_true rfl⟩ rfl (Nat.le_of_ble_eq_true rfl) ⟨Nat.le_of_ble_eq_true rfl, Nat.le_of_ble_eq_true rfl⟩ (Nat.le_of_ble_eq_true rfl) (Nat.le_of_ble_eq_true rfl) (Nat.le_of_ble_eq_true rfl) (Nat.le_of_ble_eq_true rfl) (fun r2 h1 w9 => ?_)
  replace w := w9
  clear w9
  refine V_astoreq X dX11_addEvent_5 (by decide) rfl ?_
  refine V_iload_n X dX11_addEvent_7 3 rfl ?_
  obtain ⟨w1, w2⟩ := w
  refine V_if_lt (tgt := 30) X dX11_addEvent_8 (by decide) (fun z => ?_) (fun z => ?_)
  · replace w := w1 z
    clear w1 w2
    exact V.sub [] rfl (tX11_addEvent_b30 X hT  w)
  · replace w := w2 z
    clear w1 w2
    refine V_iload_n X dX11_addEvent_11 3 rfl ?_
    refine V_aload X dX11_addEvent_12 0 rfl ?_
    obtain ⟨a3, rfl, w⟩ := w
    obtain ⟨fs, x4, hh, hv, w⟩ := w
    refine V_get3 X frX11_110 dX11_addEvent_14 hh hv ?_
    obtain ⟨w1, w2⟩ := w
    refine V_icmp_ge (tgt := 30) X dX11_addEvent_17 (by decide) (fun z => ?_) (fun z => ?_)
    · replace w := w1 z
      clear w1 w2
      exact V.sub [] rfl (tX11_addEvent_b30 X hT  w)
    · replace w := w2 z
      clear w1 w2
      refine V_iload_n X dX11_addEvent_20 4 rfl ?_
      obtain ⟨w1, w2⟩ := w
      refine V_if_lt (tgt := 30) X dX11_addEvent_21 (by decide) (fun z => ?_) (fun z => ?_)
      · replace w := w1 z
        clear w1 w2
        exact V.sub [] rfl (tX11_addEvent_b30 X hT  w)
      · replace w := w2 z
        clear w1 w2
        refine V_iload_n X dX11_addEvent_24 4 rfl ?_
        refine V_bipush (y := 99) X dX11_addEvent_25 (by decide) ?_
        obtain ⟨w1, w2⟩ := w
        refine V_icmp_le (tgt := 40) X dX11_addEvent_27 (by decide) (fun z => ?_) (fun z => ?_)
        · replace w := w1 z
          clear w1 w2
          refine V_aloadr X dX11_addEvent_40 0 rfl ?_
          obtain ⟨fs, x5, hh, hv, w⟩ := w
          refine V_get X flX11_115 dX11_addEvent_42 hh hv ?_
          refine V_iconst (y := 5) X dX11_addEvent_45 (by decide) ?_
          obtain ⟨w1, w2⟩ := w
          refine V_icmp_lt (tgt := 59) X dX11_addEvent_46 (by decide) (fun z => ?_) (fun z => ?_)
          · replace w := w1 z
            clear w1 w2
            refine V_aloadr X dX11_addEvent_59 0 rfl ?_
            refine V_iload_n X dX11_addEvent_61 3 rfl ?_
            refine V_iload_n X dX11_addEvent_62 4 rfl ?_
            obtain ⟨fs, hh, w⟩ := w
            refine V_callVv (As := [.int v2, .int v3]) (rest := []) (k1 := 1) (n1 := 6) X (cX1_insertEvent_ok X.2.2.2.2.2.2.2.2.1 w) lkX11_120 hh (q9 := (RX1, TX1, 5)) rfl rfl dX11_addEvent_63 ⟨Nat.le_of_ble_eq_true rfl, Nat.le_of_ble_eq_true rfl⟩ rfl (Nat.le_of_ble_eq_true rfl) ⟨Nat.le_of_ble_eq_true rfl, Nat.le_of_ble_eq_true rfl⟩ (Nat.le_of_ble_eq_true rfl) (Nat.le_of_ble_eq_true rfl) (fun h6 w9 => ?_)
            replace w := w9
            clear w9
            refine V_aloadr X dX11_addEvent_66 0 rfl ?_
            obtain ⟨fs, x7, hh, hv, w⟩ := w
            refine V_get X flX11_115 dX11_addEvent_68 hh hv ?_
            exact V.vx (V_iret X rfl dX11_addEvent_71 (Nat.le_of_ble_eq_true rfl) (Nat.le_of_ble_eq_true rfl) w)
          · replace w := w2 z
            clear w1 w2
            exact V_throw X thX11_118_61 dX11_addEvent_49 dX11_addEvent_52 dX11_addEvent_53 dX11_addEvent_55 dX11_addEvent_58 hT ⟨(Nat.le_of_ble_eq_true rfl), (Nat.le_of_ble_eq_true rfl), (Nat.le_of_ble_eq_true rfl), (Nat.le_of_ble_eq_true rfl)⟩ (Nat.le_of_ble_eq_true rfl) (Nat.le_of_ble_eq_true rfl) w
        · replace w := w2 z
          clear w1 w2
          exact V.sub [] rfl (tX11_addEvent_b30 X hT  w)
theorem cX11_addEvent_ok {l : Launch} {G : gG} {h : gH} (hls : l.stackTraces = false) {Qn : Int32 → gH → Prop} {Qx : String → gH → Prop} {v0 : Nat} {v1 : Int32} {v2 : Int32} {v3 : Int32} (w : vX11_addEvent G.2.2.1 Qn Qx h v0 v1 v2 v3) : gXi l yX11_addEvent cX11_addEvent 5 (some FieldType.int) rmX11_addEvent rmX11_addEvent.cells rmX11_addEvent.slots G h [.ref v0, .int v1, .int v2, .int v3] Qn Qx := by
  exact gXi.of (by decide +kernel) hls (Nat.le_of_ble_eq_true rfl) rfl rfl (fun p e s m below meth c A X hT => tX11_addEvent X hT w)
/-! AnimationController.requireRoomForNode()V -/
abbrev rmX11_requireRoomForNode : Room := { frames := 6, cells := 1, slots := 6, locals := 90 }
def vX11_requireRoomForNode (t0 : Nat)  (Qn : gH → Prop) (Qx : String → gH → Prop) (h : gH) (v0 : Nat) : Prop := gr h v0 14 0 (fun r1 => nn r1 (fun a2 => gr h a2 7 3 (fun r3 => nn r3 (fun a4 => io h a4 2 (vJx4a65c_size_8abf5 t0 (fun x6 h5 => (((x6 : Int32) < 20) → (Qn h5)) ∧ ((¬ (x6 : Int32) < 20) → (Qx "java/lang/IllegalStateException" h5))) h a4 )))))
set_option maxRecDepth 100000 in
set_option maxHeartbeats 4000000 in
theorem tX11_requireRoomForNode {p : Program} {l : Launch} {e : Env} {s : State} {m : MethodId} {args : Array Value} {below : List Frame} {meth : Method} {c : Code} {G : gG} {A : Nat → Prop} {Qn : gH → Prop} {Qx : String → gH → Prop} (X : gC p l s m args meth c G A cX11_requireRoomForNode 1 none RX11) (hT : ∀ x ∈ c.exceptionTable.toList, False)   {h : gH} {v0 : Nat} (w : vX11_requireRoomForNode G.2.2.1  Qn Qx h v0) : V p l e rmX11_requireRoomForNode s m args below meth c (vx_MQ below (va_Qv Qn (gB G A) A) (gXC G A Qx) args s rmX11_requireRoomForNode.cells rmX11_requireRoomForNode.slots A) G A 1 h 0 0 0 [(0, .ref v0)] [] := by
  refine V_aloadr_n X dX11_requireRoomForNode_0 0 rfl ?_
  obtain ⟨fs, r1, hh, hv, w⟩ := w
  refine V_get X flX11_12 dX11_requireRoomForNode_1 hh hv ?_
  obtain ⟨a2, rfl, w⟩ := w
  obtain ⟨fs, r3, hh, hv, w⟩ := w
  refine V_get3 X frX11_126 dX11_requireRoomForNode_4 hh hv ?_
  obtain ⟨a4, rfl, w⟩ := w
  obtain ⟨fs, hh, w⟩ := w
  refine V_callVi (As := []) (rest := []) (k1 := 0) (n1 := 0) X (cJx4a65c_size_8abf5_ok X.2.2.2.2.2.2.2.2.1 w) lkX11_90 hh (q9 := (RJx4a65c, TJx4a65c, 3)) rfl rfl dX11_requireRoomForNode_7 ⟨Nat.le_of_ble_eq_true rfl, Nat.le_of_ble_eq_true rfl⟩ rfl (Nat.le_of_ble_eq_true rfl) ⟨Nat.le_of_ble_eq_true rfl, Nat.le_of_ble_eq_true rfl⟩ (Nat.le_of_ble_eq_true rfl) (Nat.le_of_ble_eq_true rfl) (fun x6 h5 w9 => ?_)
  replace w := w9
  clear w9
  refine V_bipush (y := 20) X dX11_requireRoomForNode_10 (by decide) ?_
  obtain ⟨w1, w2⟩ := w
  refine V_icmp_lt (tgt := 26) X dX11_requireRoomForNode_12 (by decide) (fun z => ?_) (fun z => ?_)
  · replace w := w1 z
    clear w1 w2
    exact V.vx (V_vret X rfl dX11_requireRoomForNode_26 (Nat.le_of_ble_eq_true rfl) (Nat.le_of_ble_eq_true rfl) w)
  · replace w := w2 z
    clear w1 w2
    exact V_throwW X thX11_424_61 dX11_requireRoomForNode_15 dX11_requireRoomForNode_18 dX11_requireRoomForNode_19 dX11_requireRoomForNode_22 dX11_requireRoomForNode_25 hT ⟨(Nat.le_of_ble_eq_true rfl), (Nat.le_of_ble_eq_true rfl), (Nat.le_of_ble_eq_true rfl), (Nat.le_of_ble_eq_true rfl)⟩ (Nat.le_of_ble_eq_true rfl) (Nat.le_of_ble_eq_true rfl) w
theorem cX11_requireRoomForNode_ok {l : Launch} {G : gG} {h : gH} (hls : l.stackTraces = false) {Qn : gH → Prop} {Qx : String → gH → Prop} {v0 : Nat} (w : vX11_requireRoomForNode G.2.2.1 Qn Qx h v0) : gXv l yX11_requireRoomForNode cX11_requireRoomForNode 1 none rmX11_requireRoomForNode rmX11_requireRoomForNode.cells rmX11_requireRoomForNode.slots G h [.ref v0] Qn Qx := by
  exact gXv.of (by decide +kernel) hls (Nat.le_of_ble_eq_true rfl) rfl rfl (fun p e s m below meth c A X hT => tX11_requireRoomForNode X hT w)
/-! AnimationController.addClipNode(I)I -/
abbrev rmX11_addClipNode : Room := { frames := 7, cells := 6, slots := 89, locals := 191 }
def vX11_addClipNode (t0 : Nat)  (Qn : Int32 → gH → Prop) (Qx : String → gH → Prop) (h : gH) (v0 : Nat) (v1 : Int32) : Prop := io h v0 14 (vX11_clipAt t0 (fun r2 h1 => io h1 v0 14 (vX11_requireRoomForNode t0 (fun h3 => gr h3 v0 14 0 (fun r4 => nn r4 (fun a5 => gr h3 a5 7 3 (fun r6 => nw h3 (.inr (8, [.null, .int 0, .null, .null, .int 0])) (fun q7 h8 => vX5_init t0 (fun h9 => nn r6 (fun a10 => io h9 a10 2 (vJx4a65c_add_9ea2d t0 (fun x12 h11 => gr h11 v0 14 0 (fun r13 => nn r13 (fun a14 => gr h11 a14 7 3 (fun r15 => nn r15 (fun a16 => io h11 a16 2 (vJx4a65c_size_8abf5 t0 (fun x18 h17 => Qn (x18 - 1) h17) h11 a16 )))))) h9 a10 (some q7)))) h8 q7 r2 (-1)))))) Qx h1 v0 )) Qx h v0 v1)
set_option maxRecDepth 100000 in
set_option maxHeartbeats 4000000 in
theorem tX11_addClipNode {p : Program} {l : Launch} {e : Env} {s : State} {m : MethodId} {args : Array Value} {below : List Frame} {meth : Method} {c : Code} {G : gG} {A : Nat → Prop} {Qn : Int32 → gH → Prop} {Qx : String → gH → Prop} (X : gC p l s m args meth c G A cX11_addClipNode 3 (some FieldType.int) RX11) (hT : ∀ x ∈ c.exceptionTable.toList, False)   {h : gH} {v0 : Nat} {v1 : Int32} (w : vX11_addClipNode G.2.2.1  Qn Qx h v0 v1) : V p l e rmX11_addClipNode s m args below meth c (vx_MQ below (va_Qi Qn (gB G A) A) (gXC G A Qx) args s rmX11_addClipNode.cells rmX11_addClipNode.slots A) G A 3 h 0 0 0 [(0, .ref v0), (1, .int v1)] [] := by
  refine V_aloadr_n X dX11_addClipNode_0 0 rfl ?_
  refine V_iload_n X dX11_addClipNode_1 1 rfl ?_
  obtain ⟨fs, hh, w⟩ := w
  refine V_callXq (As := [.int v1]) (rest := []) (k1 := 1) (n1 := 6) X (cX11_clipAt_ok X.2.2.2.2.2.2.2.2.1 w) lkX11_106 hh (q9 := (RX11, TX11, 7)) rfl rfl dX11_addClipNode_2 hT ⟨Nat.le_of_ble_eq_true rfl, Nat.le_of_ble_eq_true rfl⟩ rfl (Nat.le_of_ble_eq_true rfl) ⟨Nat.le_of_ble_eq_true rfl, Nat.le_of_ble_eq_true rfl⟩ (Nat.le_of_ble_eq_true rfl) (Nat.le_of_ble_eq_true rfl) (Nat.le_of_ble_eq_true rfl) (Nat.le_of_ble_eq_true rfl) (fun r2 h1 w9 => ?_)
  replace w := w9
  clear w9
  refine V_astoreq_n (i0 := 2) X dX11_addClipNode_5 rfl (by decide) rfl ?_
  refine V_aloadr_n X dX11_addClipNode_6 1 rfl ?_
  obtain ⟨fs, hh, w⟩ := w
  refine V_callXv (As := []) (rest := []) (k1 := 2) (n1 := 12) X (cX11_requireRoomForNode_ok X.2.2.2.2.2.2.2.2.1 w) lkX11_123 hh (q9 := (RX11, TX11, 7)) rfl rfl dX11_addClipNode_7 hT ⟨Nat.le_of_ble_eq_true rfl, Nat.le_of_ble_eq_true rfl⟩ rfl (Nat.le_of_ble_eq_true rfl) ⟨Nat.le_of_ble_eq_true rfl, Nat.le_of_ble_eq_true rfl⟩ (Nat.le_of_ble_eq_true rfl) (Nat.le_of_ble_eq_true rfl) (Nat.le_of_ble_eq_true rfl) (Nat.le_of_ble_eq_true rfl) (fun h3 w9 => ?_)
  replace w := w9
  clear w9
  refine V_aloadr_n X dX11_addClipNode_10 1 rfl ?_
  obtain ⟨fs, r4, hh, hv, w⟩ := w
  refine V_get X flX11_12 dX11_addClipNode_11 hh hv ?_
  obtain ⟨a5, rfl, w⟩ := w
  obtain ⟨fs, r6, hh, hv, w⟩ := w
  refine V_get3 X frX11_126 dX11_addClipNode_14 hh hv ?_
  refine V_new (k1 := 3) (n1 := 17) X nwX11_129 dX11_addClipNode_17 ⟨(Nat.le_of_ble_eq_true rfl), (Nat.le_of_ble_eq_true rfl)⟩ (Nat.le_of_ble_eq_true rfl) (Nat.le_of_ble_eq_true rfl) (fun q7 hq => ?_)
  replace w := w q7 hq
  generalize va_up _ _ _ = h8 at w ⊢
  refine V_dup X dX11_addClipNode_20 rfl ?_
  refine V_aload_n X dX11_addClipNode_21 0 rfl ?_
  refine V_iconst (y := (-1)) X dX11_addClipNode_22 (by decide) ?_
  refine V_callI (As := [va_rf r2, .int (-1)]) (rest := [.ref q7, va_rf r6]) (k1 := 5) (n1 := 25) X (cX5_init_ok X.2.2.2.2.2.2.2.2.1 w) lkX11_131 dX11_addClipNode_23 ⟨Nat.le_of_ble_eq_true rfl, Nat.le_of_ble_eq_true rfl⟩ rfl (va_len _ 4 (Nat.le_of_ble_eq_true rfl)) ⟨Nat.le_of_ble_eq_true rfl, Nat.le_of_ble_eq_true rfl⟩ (Nat.le_of_ble_eq_true rfl) (Nat.le_of_ble_eq_true rfl) (fun h9 w9 => ?_)
  replace w := w9
  clear w9
  obtain ⟨a10, rfl, w⟩ := w
  obtain ⟨fs, hh, w⟩ := w
  refine V_callVi (As := [.ref q7]) (rest := []) (k1 := 6) (n1 := 89) X (cJx4a65c_add_9ea2d_ok X.2.2.2.2.2.2.2.2.1 w) lkX11_102 hh (q9 := (RJx4a65c, TJx4a65c, 3)) rfl rfl dX11_addClipNode_26 ⟨Nat.le_of_ble_eq_true rfl, Nat.le_of_ble_eq_true rfl⟩ rfl (Nat.le_of_ble_eq_true rfl) ⟨Nat.le_of_ble_eq_true rfl, Nat.le_of_ble_eq_true rfl⟩ (Nat.le_of_ble_eq_true rfl) (Nat.le_of_ble_eq_true rfl) (fun x12 h11 w9 => ?_)
  replace w := w9
  clear w9
  refine V_pop X dX11_addClipNode_29 rfl ?_
  refine V_aloadr_n X dX11_addClipNode_30 1 rfl ?_
  obtain ⟨fs, r13, hh, hv, w⟩ := w
  refine V_get X flX11_12 dX11_addClipNode_31 hh hv ?_
  obtain ⟨a14, rfl, w⟩ := w
  obtain ⟨fs, r15, hh, hv, w⟩ := w
  refine V_get3 X frX11_126 dX11_addClipNode_34 hh hv ?_
  obtain ⟨a16, rfl, w⟩ := w
  obtain ⟨fs, hh, w⟩ := w
  refine V_callVi (As := []) (rest := []) (k1 := 6) (n1 := 89) X (cJx4a65c_size_8abf5_ok X.2.2.2.2.2.2.2.2.1 w) lkX11_90 hh (q9 := (RJx4a65c, TJx4a65c, 3)) rfl rfl dX11_addClipNode_37 ⟨Nat.le_of_ble_eq_true rfl, Nat.le_of_ble_eq_true rfl⟩ rfl (Nat.le_of_ble_eq_true rfl) ⟨Nat.le_of_ble_eq_true rfl, Nat.le_of_ble_eq_true rfl⟩ (Nat.le_of_ble_eq_true rfl) (Nat.le_of_ble_eq_true rfl) (fun x18 h17 w9 => ?_)
  replace w := w9
  clear w9
  refine V_iconst (y := 1) X dX11_addClipNode_40 (by decide) ?_
  refine V_isub X dX11_addClipNode_41 ?_
  exact V.vx (V_iret X rfl dX11_addClipNode_42 (Nat.le_of_ble_eq_true rfl) (Nat.le_of_ble_eq_true rfl) w)
theorem cX11_addClipNode_ok {l : Launch} {G : gG} {h : gH} (hls : l.stackTraces = false) {Qn : Int32 → gH → Prop} {Qx : String → gH → Prop} {v0 : Nat} {v1 : Int32} (w : vX11_addClipNode G.2.2.1 Qn Qx h v0 v1) : gXi l yX11_addClipNode cX11_addClipNode 3 (some FieldType.int) rmX11_addClipNode rmX11_addClipNode.cells rmX11_addClipNode.slots G h [.ref v0, .int v1] Qn Qx := by
  exact gXi.of (by decide +kernel) hls (Nat.le_of_ble_eq_true rfl) rfl rfl (fun p e s m below meth c A X hT => tX11_addClipNode X hT w)
/-! AnimationController.addLine(I)I -/
abbrev rmX11_addLine : Room := { frames := 7, cells := 6, slots := 89, locals := 191 }
def vX11_addLine (t0 : Nat)  (Qn : Int32 → gH → Prop) (Qx : String → gH → Prop) (h : gH) (v0 : Nat) (v1 : Int32) : Prop := io h v0 14 (vX11_requireParameter t0 (fun h1 => gr h1 v0 14 0 (fun r2 => nn r2 (fun a3 => io h1 a3 7 (vX4_kindOf t0 (fun x5 h4 => (((x5 : Int32) = 0) → (io h4 v0 14 (vX11_requireRoomForNode t0 (fun h6 => gr h6 v0 14 0 (fun r7 => nn r7 (fun a8 => gr h6 a8 7 3 (fun r9 => nw h6 (.inr (8, [.null, .int 0, .null, .null, .int 0])) (fun q10 h11 => vX5_init t0 (fun h12 => nn r9 (fun a13 => io h12 a13 2 (vJx4a65c_add_9ea2d t0 (fun x15 h14 => gr h14 v0 14 0 (fun r16 => nn r16 (fun a17 => gr h14 a17 7 3 (fun r18 => nn r18 (fun a19 => io h14 a19 2 (vJx4a65c_size_8abf5 t0 (fun x21 h20 => Qn (x21 - 1) h20) h14 a19 )))))) h12 a13 (some q10)))) h11 q10 (none : Option Nat) v1))))) Qx h4 v0 ))) ∧ ((¬ (x5 : Int32) = 0) → (Qx "java/lang/IllegalStateException" h4))) h1 a3 v1)))) Qx h v0 v1)
set_option maxRecDepth 100000 in
set_option maxHeartbeats 4000000 in
theorem tX11_addLine {p : Program} {l : Launch} {e : Env} {s : State} {m : MethodId} {args : Array Value} {below : List Frame} {meth : Method} {c : Code} {G : gG} {A : Nat → Prop} {Qn : Int32 → gH → Prop} {Qx : String → gH → Prop} (X : gC p l s m args meth c G A cX11_addLine 2 (some FieldType.int) RX11) (hT : ∀ x ∈ c.exceptionTable.toList, False)   {h : gH} {v0 : Nat} {v1 : Int32} (w : vX11_addLine G.2.2.1  Qn Qx h v0 v1) : V p l e rmX11_addLine s m args below meth c (vx_MQ below (va_Qi Qn (gB G A) A) (gXC G A Qx) args s rmX11_addLine.cells rmX11_addLine.slots A) G A 2 h 0 0 0 [(0, .ref v0), (1, .int v1)] [] := by
  refine V_aloadr_n X dX11_addLine_0 0 rfl ?_
  refine V_iload_n X dX11_addLine_1 1 rfl ?_
  obtain ⟨fs, hh, w⟩ := w
  refine V_callXv (As := [.int v1]) (rest := []) (k1 := 1) (n1 := 6) X (cX11_requireParameter_ok X.2.2.2.2.2.2.2.2.1 w) lkX11_66 hh (q9 := (RX11, TX11, 7)) rfl rfl dX11_addLine_2 hT ⟨Nat.le_of_ble_eq_true rfl, Nat.le_of_ble_eq_true rfl⟩ rfl (Nat.le_of_ble_eq_true rfl) ⟨Nat.le_of_ble_eq_true rfl, Nat.le_of_ble_eq_true rfl⟩ (Nat.le_of_ble_eq_true rfl) (Nat.le_of_ble_eq_true rfl) (Nat.le_of_ble_eq_true rfl) (Nat.le_of_ble_eq_true rfl) (fun h1 w9 => ?_)
  replace w := w9
  clear w9
  refine V_aloadr_n X dX11_addLine_5 0 rfl ?_
  obtain ⟨fs, r2, hh, hv, w⟩ := w
  refine V_get X flX11_12 dX11_addLine_6 hh hv ?_
  refine V_iload_n X dX11_addLine_9 1 rfl ?_
  obtain ⟨a3, rfl, w⟩ := w
  obtain ⟨fs, hh, w⟩ := w
  refine V_callVi (As := [.int v1]) (rest := []) (k1 := 1) (n1 := 6) X (cX4_kindOf_ok X.2.2.2.2.2.2.2.2.1 w) lkX11_134 hh (q9 := (RX4, TX4, 8)) rfl rfl dX11_addLine_10 ⟨Nat.le_of_ble_eq_true rfl, Nat.le_of_ble_eq_true rfl⟩ rfl (Nat.le_of_ble_eq_true rfl) ⟨Nat.le_of_ble_eq_true rfl, Nat.le_of_ble_eq_true rfl⟩ (Nat.le_of_ble_eq_true rfl) (Nat.le_of_ble_eq_true rfl) (fun x5 h4 w9 => ?_)
  replace w := w9
  clear w9
  obtain ⟨w1, w2⟩ := w
  refine V_if_eq (tgt := 26) X dX11_addLine_13 (by decide) (fun z => ?_) (fun z => ?_)
  · replace w := w1 z
    clear w1 w2
    refine V_aloadr_n X dX11_addLine_26 0 rfl ?_
    obtain ⟨fs, hh, w⟩ := w
    refine V_callXv (As := []) (rest := []) (k1 := 2) (n1 := 12) X (cX11_requireRoomForNode_ok X.2.2.2.2.2.2.2.2.1 w) lkX11_123 hh (q9 := (RX11, TX11, 7)) rfl rfl dX11_addLine_27 hT ⟨Nat.le_of_ble_eq_true rfl, Nat.le_of_ble_eq_true rfl⟩ rfl (Nat.le_of_ble_eq_true rfl) ⟨Nat.le_of_ble_eq_true rfl, Nat.le_of_ble_eq_true rfl⟩ (Nat.le_of_ble_eq_true rfl) (Nat.le_of_ble_eq_true rfl) (Nat.le_of_ble_eq_true rfl) (Nat.le_of_ble_eq_true rfl) (fun h6 w9 => ?_)
    replace w := w9
    clear w9
    refine V_aloadr_n X dX11_addLine_30 0 rfl ?_
    obtain ⟨fs, r7, hh, hv, w⟩ := w
    refine V_get X flX11_12 dX11_addLine_31 hh hv ?_
    obtain ⟨a8, rfl, w⟩ := w
    obtain ⟨fs, r9, hh, hv, w⟩ := w
    refine V_get3 X frX11_126 dX11_addLine_34 hh hv ?_
    refine V_new (k1 := 3) (n1 := 17) X nwX11_129 dX11_addLine_37 ⟨(Nat.le_of_ble_eq_true rfl), (Nat.le_of_ble_eq_true rfl)⟩ (Nat.le_of_ble_eq_true rfl) (Nat.le_of_ble_eq_true rfl) (fun q10 hq => ?_)
    replace w := w q10 hq
    generalize va_up _ _ _ = h11 at w ⊢
    refine V_dup X dX11_addLine_40 rfl ?_
    refine V_null X dX11_addLine_41 ?_
    refine V_iload_n X dX11_addLine_42 1 rfl ?_
    refine V_callI (As := [va_rf (none : Option Nat), .int v1]) (rest := [.ref q10, va_rf r9]) (k1 := 5) (n1 := 25) X (cX5_init_ok X.2.2.2.2.2.2.2.2.1 w) lkX11_131 dX11_addLine_43 ⟨Nat.le_of_ble_eq_true rfl, Nat.le_of_ble_eq_true rfl⟩ rfl (va_len _ 4 (Nat.le_of_ble_eq_true rfl)) ⟨Nat.le_of_ble_eq_true rfl, Nat.le_of_ble_eq_true rfl⟩ (Nat.le_of_ble_eq_true rfl) (Nat.le_of_ble_eq_true rfl) (fun h12 w9 => ?_)
    replace w := w9
    clear w9
    obtain ⟨a13, rfl, w⟩ := w
    obtain ⟨fs, hh, w⟩ := w
    refine V_callVi (As := [.ref q10]) (rest := []) (k1 := 6) (n1 := 89) X (cJx4a65c_add_9ea2d_ok X.2.2.2.2.2.2.2.2.1 w) lkX11_102 hh (q9 := (RJx4a65c, TJx4a65c, 3)) rfl rfl dX11_addLine_46 ⟨Nat.le_of_ble_eq_true rfl, Nat.le_of_ble_eq_true rfl⟩ rfl (Nat.le_of_ble_eq_true rfl) ⟨Nat.le_of_ble_eq_true rfl, Nat.le_of_ble_eq_true rfl⟩ (Nat.le_of_ble_eq_true rfl) (Nat.le_of_ble_eq_true rfl) (fun x15 h14 w9 => ?_)
    replace w := w9
    clear w9
    refine V_pop X dX11_addLine_49 rfl ?_
    refine V_aloadr_n X dX11_addLine_50 0 rfl ?_
    obtain ⟨fs, r16, hh, hv, w⟩ := w
    refine V_get X flX11_12 dX11_addLine_51 hh hv ?_
    obtain ⟨a17, rfl, w⟩ := w
    obtain ⟨fs, r18, hh, hv, w⟩ := w
    refine V_get3 X frX11_126 dX11_addLine_54 hh hv ?_
    obtain ⟨a19, rfl, w⟩ := w
    obtain ⟨fs, hh, w⟩ := w
    refine V_callVi (As := []) (rest := []) (k1 := 6) (n1 := 89) X (cJx4a65c_size_8abf5_ok X.2.2.2.2.2.2.2.2.1 w) lkX11_90 hh (q9 := (RJx4a65c, TJx4a65c, 3)) rfl rfl dX11_addLine_57 ⟨Nat.le_of_ble_eq_true rfl, Nat.le_of_ble_eq_true rfl⟩ rfl (Nat.le_of_ble_eq_true rfl) ⟨Nat.le_of_ble_eq_true rfl, Nat.le_of_ble_eq_true rfl⟩ (Nat.le_of_ble_eq_true rfl) (Nat.le_of_ble_eq_true rfl) (fun x21 h20 w9 => ?_)
    replace w := w9
    clear w9
    refine V_iconst (y := 1) X dX11_addLine_60 (by decide) ?_
    refine V_isub X dX11_addLine_61 ?_
    exact V.vx (V_iret X rfl dX11_addLine_62 (Nat.le_of_ble_eq_true rfl) (Nat.le_of_ble_eq_true rfl) w)
  · replace w := w2 z
    clear w1 w2
    exact V_throw X thX11_137_61 dX11_addLine_16 dX11_addLine_19 dX11_addLine_20 dX11_addLine_22 dX11_addLine_25 hT ⟨(Nat.le_of_ble_eq_true rfl), (Nat.le_of_ble_eq_true rfl), (Nat.le_of_ble_eq_true rfl), (Nat.le_of_ble_eq_true rfl)⟩ (Nat.le_of_ble_eq_true rfl) (Nat.le_of_ble_eq_true rfl) w
theorem cX11_addLine_ok {l : Launch} {G : gG} {h : gH} (hls : l.stackTraces = false) {Qn : Int32 → gH → Prop} {Qx : String → gH → Prop} {v0 : Nat} {v1 : Int32} (w : vX11_addLine G.2.2.1 Qn Qx h v0 v1) : gXi l yX11_addLine cX11_addLine 2 (some FieldType.int) rmX11_addLine rmX11_addLine.cells rmX11_addLine.slots G h [.ref v0, .int v1] Qn Qx := by
  exact gXi.of (by decide +kernel) hls (Nat.le_of_ble_eq_true rfl) rfl rfl (fun p e s m below meth c A X hT => tX11_addLine X hT w)
/-! AnimationController.nodeAt(I)LAnimationController$Node; -/
abbrev rmX11_nodeAt : Room := { frames := 6, cells := 1, slots := 6, locals := 90 }
def vX11_nodeAt_b18 (t0 : Nat)  (Qn : Option Nat → gH → Prop) (Qx : String → gH → Prop) (h : gH)  : Prop := Qx "java/lang/IndexOutOfBoundsException" h
set_option maxRecDepth 100000 in
set_option maxHeartbeats 4000000 in
theorem tX11_nodeAt_b18 {p : Program} {l : Launch} {e : Env} {s : State} {m : MethodId} {args : Array Value} {below : List Frame} {meth : Method} {c : Code} {G : gG} {A : Nat → Prop} {Qn : Option Nat → gH → Prop} {Qx : String → gH → Prop} (X : gC p l s m args meth c G A cX11_nodeAt 2 (some (FieldType.object "AnimationController$Node")) RX11) (hT : ∀ x ∈ c.exceptionTable.toList, False)   {h : gH}  (w : vX11_nodeAt_b18 G.2.2.1  Qn Qx h ) : V p l e rmX11_nodeAt s m args below meth c (vx_MQ below (va_Qq Qn (gB G A) A) (gXC G A Qx) args s rmX11_nodeAt.cells rmX11_nodeAt.slots A) G A 2 h 0 0 18 [] [] := by
  exact V_throwW X thX11_434_378 dX11_nodeAt_18 dX11_nodeAt_21 dX11_nodeAt_22 dX11_nodeAt_25 dX11_nodeAt_28 hT ⟨(Nat.le_of_ble_eq_true rfl), (Nat.le_of_ble_eq_true rfl), (Nat.le_of_ble_eq_true rfl), (Nat.le_of_ble_eq_true rfl)⟩ (Nat.le_of_ble_eq_true rfl) (Nat.le_of_ble_eq_true rfl) w
def vX11_nodeAt (t0 : Nat)  (Qn : Option Nat → gH → Prop) (Qx : String → gH → Prop) (h : gH) (v0 : Nat) (v1 : Int32) : Prop := (((v1 : Int32) < 0) → (vX11_nodeAt_b18 t0  Qn Qx h )) ∧ ((¬ (v1 : Int32) < 0) → (gr h v0 14 0 (fun r1 => nn r1 (fun a2 => gr h a2 7 3 (fun r3 => nn r3 (fun a4 => io h a4 2 (vJx4a65c_size_8abf5 t0 (fun x6 h5 => (((v1 : Int32) < x6) → (gr h5 v0 14 0 (fun r7 => nn r7 (fun a8 => gr h5 a8 7 3 (fun r9 => nn r9 (fun a10 => io h5 a10 2 (vJx4a65c_get_915e3 t0 (fun r12 h11 => nn r12 (fun a13 => io h11 a13 8 (Qn (some a13) h11))) h5 a10 v1))))))) ∧ ((¬ (v1 : Int32) < x6) → (vX11_nodeAt_b18 t0  Qn Qx h5 ))) h a4 )))))))
set_option maxRecDepth 100000 in
set_option maxHeartbeats 4000000 in
theorem tX11_nodeAt {p : Program} {l : Launch} {e : Env} {s : State} {m : MethodId} {args : Array Value} {below : List Frame} {meth : Method} {c : Code} {G : gG} {A : Nat → Prop} {Qn : Option Nat → gH → Prop} {Qx : String → gH → Prop} (X : gC p l s m args meth c G A cX11_nodeAt 2 (some (FieldType.object "AnimationController$Node")) RX11) (hT : ∀ x ∈ c.exceptionTable.toList, False)   {h : gH} {v0 : Nat} {v1 : Int32} (w : vX11_nodeAt G.2.2.1  Qn Qx h v0 v1) : V p l e rmX11_nodeAt s m args below meth c (vx_MQ below (va_Qq Qn (gB G A) A) (gXC G A Qx) args s rmX11_nodeAt.cells rmX11_nodeAt.slots A) G A 2 h 0 0 0 [(0, .ref v0), (1, .int v1)] [] := by
  refine V_iload_n X dX11_nodeAt_0 1 rfl ?_
  obtain ⟨w1, w2⟩ := w
  refine V_if_lt (tgt := 18) X dX11_nodeAt_1 (by decide) (fun z => ?_) (fun z => ?_)
  · replace w := w1 z
    clear w1 w2
    exact V.sub [] rfl (tX11_nodeAt_b18 X hT  w)
  · replace w := w2 z
    clear w1 w2
    refine V_iload_n X dX11_nodeAt_4 1 rfl ?_
    refine V_aloadr_n X dX11_nodeAt_5 0 rfl ?_
    obtain ⟨fs, r1, hh, hv, w⟩ := w
    refine V_get X flX11_12 dX11_nodeAt_6 hh hv ?_
    obtain ⟨a2, rfl, w⟩ := w
    obtain ⟨fs, r3, hh, hv, w⟩ := w
    refine V_get3 X frX11_126 dX11_nodeAt_9 hh hv ?_
    obtain ⟨a4, rfl, w⟩ := w
    obtain ⟨fs, hh, w⟩ := w
    refine V_callVi (As := []) (rest := [.int v1]) (k1 := 0) (n1 := 0) X (cJx4a65c_size_8abf5_ok X.2.2.2.2.2.2.2.2.1 w) lkX11_90 hh (q9 := (RJx4a65c, TJx4a65c, 3)) rfl rfl dX11_nodeAt_12 ⟨Nat.le_of_ble_eq_true rfl, Nat.le_of_ble_eq_true rfl⟩ rfl (Nat.le_of_ble_eq_true rfl) ⟨Nat.le_of_ble_eq_true rfl, Nat.le_of_ble_eq_true rfl⟩ (Nat.le_of_ble_eq_true rfl) (Nat.le_of_ble_eq_true rfl) (fun x6 h5 w9 => ?_)
    replace w := w9
    clear w9
    obtain ⟨w1, w2⟩ := w
    refine V_icmp_lt (tgt := 29) X dX11_nodeAt_15 (by decide) (fun z => ?_) (fun z => ?_)
    · replace w := w1 z
      clear w1 w2
      refine V_aloadr_n X dX11_nodeAt_29 0 rfl ?_
      obtain ⟨fs, r7, hh, hv, w⟩ := w
      refine V_get X flX11_12 dX11_nodeAt_30 hh hv ?_
      obtain ⟨a8, rfl, w⟩ := w
      obtain ⟨fs, r9, hh, hv, w⟩ := w
      refine V_get3 X frX11_126 dX11_nodeAt_33 hh hv ?_
      refine V_iload_n X dX11_nodeAt_36 1 rfl ?_
      obtain ⟨a10, rfl, w⟩ := w
      obtain ⟨fs, hh, w⟩ := w
      refine V_callVq (As := [.int v1]) (rest := []) (k1 := 0) (n1 := 0) X (cJx4a65c_get_915e3_ok X.2.2.2.2.2.2.2.2.1 w) lkX11_302 hh (q9 := (RJx4a65c, TJx4a65c, 3)) rfl rfl dX11_nodeAt_37 ⟨Nat.le_of_ble_eq_true rfl, Nat.le_of_ble_eq_true rfl⟩ rfl (Nat.le_of_ble_eq_true rfl) ⟨Nat.le_of_ble_eq_true rfl, Nat.le_of_ble_eq_true rfl⟩ (Nat.le_of_ble_eq_true rfl) (Nat.le_of_ble_eq_true rfl) (fun r12 h11 w9 => ?_)
      replace w := w9
      clear w9
      obtain ⟨a13, rfl, w⟩ := w
      obtain ⟨fs, hh, w⟩ := w
      refine V_cast (q9 := (RX5, TX5, 5)) X kw_917 rfl rfl hh dX11_nodeAt_40 ?_
      exact V.vx (V_aret (x := (some a13)) X rfl (Or.inl ⟨_, rfl⟩) dX11_nodeAt_43 (Nat.le_of_ble_eq_true rfl) (Nat.le_of_ble_eq_true rfl) w)
    · replace w := w2 z
      clear w1 w2
      exact V.sub [] rfl (tX11_nodeAt_b18 X hT  w)
theorem cX11_nodeAt_ok {l : Launch} {G : gG} {h : gH} (hls : l.stackTraces = false) {Qn : Option Nat → gH → Prop} {Qx : String → gH → Prop} {v0 : Nat} {v1 : Int32} (w : vX11_nodeAt G.2.2.1 Qn Qx h v0 v1) : gXq l yX11_nodeAt cX11_nodeAt 2 (some (FieldType.object "AnimationController$Node")) rmX11_nodeAt rmX11_nodeAt.cells rmX11_nodeAt.slots G h [.ref v0, .int v1] Qn Qx := by
  exact gXq.of (by decide +kernel) hls (Nat.le_of_ble_eq_true rfl) rfl rfl (fun p e s m below meth c A X hT => tX11_nodeAt X hT w)
/-! AnimationController.addChild(III)I -/
abbrev rmX11_addChild : Room := { frames := 7, cells := 3, slots := 76, locals := 194 }
def vX11_addChild_b39 (t0 : Nat)  (Qn : Int32 → gH → Prop) (Qx : String → gH → Prop) (h : gH)  : Prop := Qx "java/lang/IllegalArgumentException" h
set_option maxRecDepth 100000 in
set_option maxHeartbeats 4000000 in
theorem tX11_addChild_b39 {p : Program} {l : Launch} {e : Env} {s : State} {m : MethodId} {args : Array Value} {below : List Frame} {meth : Method} {c : Code} {G : gG} {A : Nat → Prop} {Qn : Int32 → gH → Prop} {Qx : String → gH → Prop} (X : gC p l s m args meth c G A cX11_addChild 6 (some FieldType.int) RX11) (hT : ∀ x ∈ c.exceptionTable.toList, False)   {h : gH}  (w : vX11_addChild_b39 G.2.2.1  Qn Qx h ) : V p l e rmX11_addChild s m args below meth c (vx_MQ below (va_Qi Qn (gB G A) A) (gXC G A Qx) args s rmX11_addChild.cells rmX11_addChild.slots A) G A 6 h 2 12 39 [] [] := by
  exact V_throw X thX11_147_47 dX11_addChild_39 dX11_addChild_42 dX11_addChild_43 dX11_addChild_45 dX11_addChild_48 hT ⟨(Nat.le_of_ble_eq_true rfl), (Nat.le_of_ble_eq_true rfl), (Nat.le_of_ble_eq_true rfl), (Nat.le_of_ble_eq_true rfl)⟩ (Nat.le_of_ble_eq_true rfl) (Nat.le_of_ble_eq_true rfl) w
def vX11_addChild_b70 (t0 : Nat)  (Qn : Int32 → gH → Prop) (Qx : String → gH → Prop) (h : gH)  : Prop := Qx "java/lang/IllegalStateException" h
set_option maxRecDepth 100000 in
set_option maxHeartbeats 4000000 in
theorem tX11_addChild_b70 {p : Program} {l : Launch} {e : Env} {s : State} {m : MethodId} {args : Array Value} {below : List Frame} {meth : Method} {c : Code} {G : gG} {A : Nat → Prop} {Qn : Int32 → gH → Prop} {Qx : String → gH → Prop} (X : gC p l s m args meth c G A cX11_addChild 6 (some FieldType.int) RX11) (hT : ∀ x ∈ c.exceptionTable.toList, False)   {h : gH}  (w : vX11_addChild_b70 G.2.2.1  Qn Qx h ) : V p l e rmX11_addChild s m args below meth c (vx_MQ below (va_Qi Qn (gB G A) A) (gXC G A Qx) args s rmX11_addChild.cells rmX11_addChild.slots A) G A 6 h 2 12 70 [] [] := by
  exact V_throw X thX11_156_61 dX11_addChild_70 dX11_addChild_73 dX11_addChild_74 dX11_addChild_76 dX11_addChild_79 hT ⟨(Nat.le_of_ble_eq_true rfl), (Nat.le_of_ble_eq_true rfl), (Nat.le_of_ble_eq_true rfl), (Nat.le_of_ble_eq_true rfl)⟩ (Nat.le_of_ble_eq_true rfl) (Nat.le_of_ble_eq_true rfl) w
def vX11_addChild_b103 (t0 : Nat)  (Qn : Int32 → gH → Prop) (Qx : String → gH → Prop) (h : gH)  : Prop := Qx "java/lang/IllegalStateException" h
set_option maxRecDepth 100000 in
set_option maxHeartbeats 4000000 in
theorem tX11_addChild_b103 {p : Program} {l : Launch} {e : Env} {s : State} {m : MethodId} {args : Array Value} {below : List Frame} {meth : Method} {c : Code} {G : gG} {A : Nat → Prop} {Qn : Int32 → gH → Prop} {Qx : String → gH → Prop} (X : gC p l s m args meth c G A cX11_addChild 6 (some FieldType.int) RX11) (hT : ∀ x ∈ c.exceptionTable.toList, False)   {h : gH}  (w : vX11_addChild_b103 G.2.2.1  Qn Qx h ) : V p l e rmX11_addChild s m args below meth c (vx_MQ below (va_Qi Qn (gB G A) A) (gXC G A Qx) args s rmX11_addChild.cells rmX11_addChild.slots A) G A 6 h 2 12 103 [] [] := by
  exact V_throw X thX11_165_61 dX11_addChild_103 dX11_addChild_106 dX11_addChild_107 dX11_addChild_109 dX11_addChild_112 hT ⟨(Nat.le_of_ble_eq_true rfl), (Nat.le_of_ble_eq_true rfl), (Nat.le_of_ble_eq_true rfl), (Nat.le_of_ble_eq_true rfl)⟩ (Nat.le_of_ble_eq_true rfl) (Nat.le_of_ble_eq_true rfl) w
def vX11_addChild (t0 : Nat)  (Qn : Int32 → gH → Prop) (Qx : String → gH → Prop) (h : gH) (v0 : Nat) (v1 : Int32) (v2 : Int32) (v3 : Int32) : Prop := io h v0 14 (vX11_nodeAt t0 (fun r2 h1 => io h1 v0 14 (vX11_nodeAt t0 (fun r4 h3 => nn r2 (fun a5 => io h3 a5 8 (vX5_isLine t0 (fun x7 h6 => (((x7 : Int32) = 0) → (vX11_addChild_b39 t0  Qn Qx h6 )) ∧ ((¬ (x7 : Int32) = 0) → (((v1 ≤ (v2 : Int32)) → (vX11_addChild_b39 t0  Qn Qx h6 )) ∧ ((¬ v1 ≤ (v2 : Int32)) → ((((v3 : Int32) < (-100)) → (vX11_addChild_b39 t0  Qn Qx h6 )) ∧ ((¬ (v3 : Int32) < (-100)) → ((((v3 : Int32) ≤ 100) → (gr h6 a5 8 2 (fun r8 => nn r8 (fun a9 => io h6 a9 2 (vJx4a65c_size_8abf5 t0 (fun x11 h10 => ((5 ≤ (x11 : Int32)) → (vX11_addChild_b70 t0  Qn Qx h10 )) ∧ ((¬ 5 ≤ (x11 : Int32)) → (io h10 a5 8 (vX5_hasPosition t0 (fun x13 h12 => (((x13 : Int32) = 0) → (nn r4 (fun a14 => io h12 a14 8 (vX5_isComplete t0 (fun x16 h15 => (((x16 : Int32) = 0) → (vX11_addChild_b103 t0  Qn Qx h15 )) ∧ ((¬ (x16 : Int32) = 0) → (gr h15 v0 14 0 (fun r17 => nn r17 (fun a18 => io h15 a18 7 (vX4_greatestDepthWith t0 (fun x20 h19 => (((x20 : Int32) ≤ 4) → (io h19 a5 8 (vX5_insertChild t0 (fun h21 => gr h21 a5 8 2 (fun r22 => nn r22 (fun a23 => io h21 a23 2 (vJx4a65c_size_8abf5 t0 (fun x25 h24 => Qn x25 h24) h21 a23 )))) h19 a5 (some a14) v3))) ∧ ((¬ (x20 : Int32) ≤ 4) → (vX11_addChild_b103 t0  Qn Qx h19 ))) h15 a18 (some a5) (some a14))))))) h12 a14 )))) ∧ ((¬ (x13 : Int32) = 0) → (vX11_addChild_b70 t0  Qn Qx h12 ))) h10 a5 v3)))) h6 a9 ))))) ∧ ((¬ (v3 : Int32) ≤ 100) → (vX11_addChild_b39 t0  Qn Qx h6 ))))))))) h3 a5 ))) Qx h1 v0 v2)) Qx h v0 v1)
set_option maxRecDepth 100000 in
set_option maxHeartbeats 4000000 in
theorem tX11_addChild {p : Program} {l : Launch} {e : Env} {s : State} {m : MethodId} {args : Array Value} {below : List Frame} {meth : Method} {c : Code} {G : gG} {A : Nat → Prop} {Qn : Int32 → gH → Prop} {Qx : String → gH → Prop} (X : gC p l s m args meth c G A cX11_addChild 6 (some FieldType.int) RX11) (hT : ∀ x ∈ c.exceptionTable.toList, False)   {h : gH} {v0 : Nat} {v1 : Int32} {v2 : Int32} {v3 : Int32} (w : vX11_addChild G.2.2.1  Qn Qx h v0 v1 v2 v3) : V p l e rmX11_addChild s m args below meth c (vx_MQ below (va_Qi Qn (gB G A) A) (gXC G A Qx) args s rmX11_addChild.cells rmX11_addChild.slots A) G A 6 h 0 0 0 [(0, .ref v0), (1, .int v1), (2, .int v2), (3, .int v3)] [] := by
  refine V_aloadr_n X dX11_addChild_0 0 rfl ?_
  refine V_iload_n X dX11_addChild_1 1 rfl ?_
  obtain ⟨fs, hh, w⟩ := w
  refine V_callXq (As := [.int v1]) (rest := []) (k1 := 1) (n1 := 6) X (cX11_nodeAt_ok X.2.2.2.2.2.2.2.2.1 w) lkX11_139 hh (q9 := (RX11, TX11, 7)) rfl rfl dX11_addChild_2 hT ⟨Nat.le_of_ble_eq_true rfl, Nat.le_of_ble_eq_true rfl⟩ rfl (Nat.le_of_ble_eq_true rfl) ⟨Nat.le_of_ble_eq_true rfl, Nat.le_of_ble_eq_true rfl⟩ (Nat.le_of_ble_eq_true rfl) (Nat.le_of_ble_eq_true rfl) (Nat.le_of_ble_eq_true rfl) (Nat.le_of_ble_eq_true rfl) (fun r2 h1 w9 => ?_)
  replace w := w9
  clear w9
  refine V_astoreq X dX11_addChild_5 (by decide) rfl ?_
  refine V_aloadr_n X dX11_addChild_7 1 rfl ?_
  refine V_iload_n X dX11_addChild_8 3 rfl ?_
  obtain ⟨fs, hh, w⟩ := w
  refine V_callXq (As := [.int v2]) (rest := []) (k1 := 2) (n1 := 12) X (cX11_nodeAt_ok X.2.2.2.2.2.2.2.2.1 w) lkX11_139 hh (q9 := (RX11, TX11, 7)) rfl rfl dX11_addChild_9 hT ⟨Nat.le_of_ble_eq_true rfl, Nat.le_of_ble_eq_true rfl⟩ rfl (Nat.le_of_ble_eq_true rfl) ⟨Nat.le_of_ble_eq_true rfl, Nat.le_of_ble_eq_true rfl⟩ (Nat.le_of_ble_eq_true rfl) (Nat.le_of_ble_eq_true rfl) (Nat.le_of_ble_eq_true rfl) (Nat.le_of_ble_eq_true rfl) (fun r4 h3 w9 => ?_)
  replace w := w9
  clear w9
  refine V_astoreq X dX11_addChild_12 (by decide) (by simp [va_cat1] <;> rfl) ?_
  refine V_aload X dX11_addChild_14 1 rfl ?_
  obtain ⟨a5, rfl, w⟩ := w
  obtain ⟨fs, hh, w⟩ := w
  refine V_callVi (As := []) (rest := []) (k1 := 2) (n1 := 12) X (cX5_isLine_ok X.2.2.2.2.2.2.2.2.1 w) lkX11_143 hh (q9 := (RX5, TX5, 5)) rfl rfl dX11_addChild_16 ⟨Nat.le_of_ble_eq_true rfl, Nat.le_of_ble_eq_true rfl⟩ rfl (Nat.le_of_ble_eq_true rfl) ⟨Nat.le_of_ble_eq_true rfl, Nat.le_of_ble_eq_true rfl⟩ (Nat.le_of_ble_eq_true rfl) (Nat.le_of_ble_eq_true rfl) (fun x7 h6 w9 => ?_)
  replace w := w9
  clear w9
  obtain ⟨w1, w2⟩ := w
  refine V_if_eq (tgt := 39) X dX11_addChild_19 (by decide) (fun z => ?_) (fun z => ?_)
  · replace w := w1 z
    clear w1 w2
    exact V.sub [] rfl (tX11_addChild_b39 X hT  w)
  · replace w := w2 z
    clear w1 w2
    refine V_iload_n X dX11_addChild_22 4 rfl ?_
    refine V_iload_n X dX11_addChild_23 3 rfl ?_
    obtain ⟨w1, w2⟩ := w
    refine V_icmp_ge (tgt := 39) X dX11_addChild_24 (by decide) (fun z => ?_) (fun z => ?_)
    · replace w := w1 z
      clear w1 w2
      exact V.sub [] rfl (tX11_addChild_b39 X hT  w)
    · replace w := w2 z
      clear w1 w2
      refine V_iload_n X dX11_addChild_27 5 rfl ?_
      refine V_bipush (y := (-100)) X dX11_addChild_28 (by decide) ?_
      obtain ⟨w1, w2⟩ := w
      refine V_icmp_lt (tgt := 39) X dX11_addChild_30 (by decide) (fun z => ?_) (fun z => ?_)
      · replace w := w1 z
        clear w1 w2
        exact V.sub [] rfl (tX11_addChild_b39 X hT  w)
      · replace w := w2 z
        clear w1 w2
        refine V_iload_n X dX11_addChild_33 5 rfl ?_
        refine V_bipush (y := 100) X dX11_addChild_34 (by decide) ?_
        obtain ⟨w1, w2⟩ := w
        refine V_icmp_le (tgt := 49) X dX11_addChild_36 (by decide) (fun z => ?_) (fun z => ?_)
        · replace w := w1 z
          clear w1 w2
          refine V_aloadr X dX11_addChild_49 1 rfl ?_
          obtain ⟨fs, r8, hh, hv, w⟩ := w
          refine V_get3 X frX11_149 dX11_addChild_51 hh hv ?_
          obtain ⟨a9, rfl, w⟩ := w
          obtain ⟨fs, hh, w⟩ := w
          refine V_callVi (As := []) (rest := []) (k1 := 2) (n1 := 12) X (cJx4a65c_size_8abf5_ok X.2.2.2.2.2.2.2.2.1 w) lkX11_90 hh (q9 := (RJx4a65c, TJx4a65c, 3)) rfl rfl dX11_addChild_54 ⟨Nat.le_of_ble_eq_true rfl, Nat.le_of_ble_eq_true rfl⟩ rfl (Nat.le_of_ble_eq_true rfl) ⟨Nat.le_of_ble_eq_true rfl, Nat.le_of_ble_eq_true rfl⟩ (Nat.le_of_ble_eq_true rfl) (Nat.le_of_ble_eq_true rfl) (fun x11 h10 w9 => ?_)
          replace w := w9
          clear w9
          refine V_iconst (y := 5) X dX11_addChild_57 (by decide) ?_
          obtain ⟨w1, w2⟩ := w
          refine V_icmp_ge (tgt := 70) X dX11_addChild_58 (by decide) (fun z => ?_) (fun z => ?_)
          · replace w := w1 z
            clear w1 w2
            exact V.sub [] rfl (tX11_addChild_b70 X hT  w)
          · replace w := w2 z
            clear w1 w2
            refine V_aloadr X dX11_addChild_61 1 rfl ?_
            refine V_iload_n X dX11_addChild_63 5 rfl ?_
            obtain ⟨fs, hh, w⟩ := w
            refine V_callVi (As := [.int v3]) (rest := []) (k1 := 2) (n1 := 12) X (cX5_hasPosition_ok X.2.2.2.2.2.2.2.2.1 w) lkX11_152 hh (q9 := (RX5, TX5, 5)) rfl rfl dX11_addChild_64 ⟨Nat.le_of_ble_eq_true rfl, Nat.le_of_ble_eq_true rfl⟩ rfl (Nat.le_of_ble_eq_true rfl) ⟨Nat.le_of_ble_eq_true rfl, Nat.le_of_ble_eq_true rfl⟩ (Nat.le_of_ble_eq_true rfl) (Nat.le_of_ble_eq_true rfl) (fun x13 h12 w9 => ?_)
            replace w := w9
            clear w9
            obtain ⟨w1, w2⟩ := w
            refine V_if_eq (tgt := 80) X dX11_addChild_67 (by decide) (fun z => ?_) (fun z => ?_)
            · replace w := w1 z
              clear w1 w2
              refine V_aload X dX11_addChild_80 0 rfl ?_
              obtain ⟨a14, rfl, w⟩ := w
              obtain ⟨fs, hh, w⟩ := w
              refine V_callVi (As := []) (rest := []) (k1 := 2) (n1 := 12) X (cX5_isComplete_ok X.2.2.2.2.2.2.2.2.1 w) lkX11_158 hh (q9 := (RX5, TX5, 5)) rfl rfl dX11_addChild_82 ⟨Nat.le_of_ble_eq_true rfl, Nat.le_of_ble_eq_true rfl⟩ rfl (Nat.le_of_ble_eq_true rfl) ⟨Nat.le_of_ble_eq_true rfl, Nat.le_of_ble_eq_true rfl⟩ (Nat.le_of_ble_eq_true rfl) (Nat.le_of_ble_eq_true rfl) (fun x16 h15 w9 => ?_)
              replace w := w9
              clear w9
              obtain ⟨w1, w2⟩ := w
              refine V_if_eq (tgt := 103) X dX11_addChild_85 (by decide) (fun z => ?_) (fun z => ?_)
              · replace w := w1 z
                clear w1 w2
                exact V.sub [] rfl (tX11_addChild_b103 X hT  w)
              · replace w := w2 z
                clear w1 w2
                refine V_aloadr_n X dX11_addChild_88 2 rfl ?_
                obtain ⟨fs, r17, hh, hv, w⟩ := w
                refine V_get X flX11_12 dX11_addChild_89 hh hv ?_
                refine V_aloadr X dX11_addChild_92 1 rfl ?_
                refine V_aloadr X dX11_addChild_94 0 rfl ?_
                obtain ⟨a18, rfl, w⟩ := w
                obtain ⟨fs, hh, w⟩ := w
                refine V_callVi (As := [.ref a5, .ref a14]) (rest := []) (k1 := 2) (n1 := 12) X (cX4_greatestDepthWith_ok X.2.2.2.2.2.2.2.2.1 w) lkX11_161 hh (q9 := (RX4, TX4, 8)) rfl rfl dX11_addChild_96 ⟨Nat.le_of_ble_eq_true rfl, Nat.le_of_ble_eq_true rfl⟩ rfl (Nat.le_of_ble_eq_true rfl) ⟨Nat.le_of_ble_eq_true rfl, Nat.le_of_ble_eq_true rfl⟩ (Nat.le_of_ble_eq_true rfl) (Nat.le_of_ble_eq_true rfl) (fun x20 h19 w9 => ?_)
                replace w := w9
                clear w9
                refine V_iconst (y := 4) X dX11_addChild_99 (by decide) ?_
                obtain ⟨w1, w2⟩ := w
                refine V_icmp_le (tgt := 113) X dX11_addChild_100 (by decide) (fun z => ?_) (fun z => ?_)
                · replace w := w1 z
                  clear w1 w2
                  refine V_aloadr X dX11_addChild_113 1 rfl ?_
                  refine V_aloadr X dX11_addChild_115 0 rfl ?_
                  refine V_iload_n X dX11_addChild_117 5 rfl ?_
                  obtain ⟨fs, hh, w⟩ := w
                  refine V_callVv (As := [.ref a14, .int v3]) (rest := []) (k1 := 3) (n1 := 76) X (cX5_insertChild_ok X.2.2.2.2.2.2.2.2.1 w) lkX11_167 hh (q9 := (RX5, TX5, 5)) rfl rfl dX11_addChild_118 ⟨Nat.le_of_ble_eq_true rfl, Nat.le_of_ble_eq_true rfl⟩ rfl (Nat.le_of_ble_eq_true rfl) ⟨Nat.le_of_ble_eq_true rfl, Nat.le_of_ble_eq_true rfl⟩ (Nat.le_of_ble_eq_true rfl) (Nat.le_of_ble_eq_true rfl) (fun h21 w9 => ?_)
                  replace w := w9
                  clear w9
                  refine V_aloadr X dX11_addChild_121 1 rfl ?_
                  obtain ⟨fs, r22, hh, hv, w⟩ := w
                  refine V_get3 X frX11_149 dX11_addChild_123 hh hv ?_
                  obtain ⟨a23, rfl, w⟩ := w
                  obtain ⟨fs, hh, w⟩ := w
                  refine V_callVi (As := []) (rest := []) (k1 := 3) (n1 := 76) X (cJx4a65c_size_8abf5_ok X.2.2.2.2.2.2.2.2.1 w) lkX11_90 hh (q9 := (RJx4a65c, TJx4a65c, 3)) rfl rfl dX11_addChild_126 ⟨Nat.le_of_ble_eq_true rfl, Nat.le_of_ble_eq_true rfl⟩ rfl (Nat.le_of_ble_eq_true rfl) ⟨Nat.le_of_ble_eq_true rfl, Nat.le_of_ble_eq_true rfl⟩ (Nat.le_of_ble_eq_true rfl) (Nat.le_of_ble_eq_true rfl) (fun x25 h24 w9 => ?_)
                  replace w := w9
                  clear w9
                  exact V.vx (V_iret X rfl dX11_addChild_129 (Nat.le_of_ble_eq_true rfl) (Nat.le_of_ble_eq_true rfl) w)
                · replace w := w2 z
                  clear w1 w2
                  exact V.sub [] rfl (tX11_addChild_b103 X hT  w)
            · replace w := w2 z
              clear w1 w2
              exact V.sub [] rfl (tX11_addChild_b70 X hT  w)
        · replace w := w2 z
          clear w1 w2
          exact V.sub [] rfl (tX11_addChild_b39 X hT  w)
theorem cX11_addChild_ok {l : Launch} {G : gG} {h : gH} (hls : l.stackTraces = false) {Qn : Int32 → gH → Prop} {Qx : String → gH → Prop} {v0 : Nat} {v1 : Int32} {v2 : Int32} {v3 : Int32} (w : vX11_addChild G.2.2.1 Qn Qx h v0 v1 v2 v3) : gXi l yX11_addChild cX11_addChild 6 (some FieldType.int) rmX11_addChild rmX11_addChild.cells rmX11_addChild.slots G h [.ref v0, .int v1, .int v2, .int v3] Qn Qx := by
  exact gXi.of (by decide +kernel) hls (Nat.le_of_ble_eq_true rfl) rfl rfl (fun p e s m below meth c A X hT => tX11_addChild X hT w)
/-! AnimationController.addState(IIZI)I -/
abbrev rmX11_addState : Room := { frames := 7, cells := 3, slots := 75, locals := 191 }
def vX11_addState_b30 (t0 : Nat)  (Qn : Int32 → gH → Prop) (Qx : String → gH → Prop) (h : gH)  : Prop := Qx "java/lang/IllegalArgumentException" h
set_option maxRecDepth 100000 in
set_option maxHeartbeats 4000000 in
theorem tX11_addState_b30 {p : Program} {l : Launch} {e : Env} {s : State} {m : MethodId} {args : Array Value} {below : List Frame} {meth : Method} {c : Code} {G : gG} {A : Nat → Prop} {Qn : Int32 → gH → Prop} {Qx : String → gH → Prop} (X : gC p l s m args meth c G A cX11_addState 7 (some FieldType.int) RX11) (hT : ∀ x ∈ c.exceptionTable.toList, False)   {h : gH}  (w : vX11_addState_b30 G.2.2.1  Qn Qx h ) : V p l e rmX11_addState s m args below meth c (vx_MQ below (va_Qi Qn (gB G A) A) (gXC G A Qx) args s rmX11_addState.cells rmX11_addState.slots A) G A 7 h 1 6 30 [] [] := by
  exact V_throw X thX11_171_47 dX11_addState_30 dX11_addState_33 dX11_addState_34 dX11_addState_36 dX11_addState_39 hT ⟨(Nat.le_of_ble_eq_true rfl), (Nat.le_of_ble_eq_true rfl), (Nat.le_of_ble_eq_true rfl), (Nat.le_of_ble_eq_true rfl)⟩ (Nat.le_of_ble_eq_true rfl) (Nat.le_of_ble_eq_true rfl) w
def vX11_addState_b63 (t0 : Nat)  (Qn : Int32 → gH → Prop) (Qx : String → gH → Prop) (h : gH)  : Prop := Qx "java/lang/IllegalStateException" h
set_option maxRecDepth 100000 in
set_option maxHeartbeats 4000000 in
theorem tX11_addState_b63 {p : Program} {l : Launch} {e : Env} {s : State} {m : MethodId} {args : Array Value} {below : List Frame} {meth : Method} {c : Code} {G : gG} {A : Nat → Prop} {Qn : Int32 → gH → Prop} {Qx : String → gH → Prop} (X : gC p l s m args meth c G A cX11_addState 7 (some FieldType.int) RX11) (hT : ∀ x ∈ c.exceptionTable.toList, False)   {h : gH}  (w : vX11_addState_b63 G.2.2.1  Qn Qx h ) : V p l e rmX11_addState s m args below meth c (vx_MQ below (va_Qi Qn (gB G A) A) (gXC G A Qx) args s rmX11_addState.cells rmX11_addState.slots A) G A 7 h 1 6 63 [] [] := by
  exact V_throw X thX11_176_61 dX11_addState_63 dX11_addState_66 dX11_addState_67 dX11_addState_69 dX11_addState_72 hT ⟨(Nat.le_of_ble_eq_true rfl), (Nat.le_of_ble_eq_true rfl), (Nat.le_of_ble_eq_true rfl), (Nat.le_of_ble_eq_true rfl)⟩ (Nat.le_of_ble_eq_true rfl) (Nat.le_of_ble_eq_true rfl) w
def vX11_addState_b134 (t0 : Nat)  (Qn : Int32 → gH → Prop) (Qx : String → gH → Prop) (h : gH) (v6 : Option Nat) : Prop := nn v6 (fun a1 => gi h a1 10 0 (fun x2 => Qn x2 h))
set_option maxRecDepth 100000 in
set_option maxHeartbeats 4000000 in
theorem tX11_addState_b134 {p : Program} {l : Launch} {e : Env} {s : State} {m : MethodId} {args : Array Value} {below : List Frame} {meth : Method} {c : Code} {G : gG} {A : Nat → Prop} {Qn : Int32 → gH → Prop} {Qx : String → gH → Prop} (X : gC p l s m args meth c G A cX11_addState 7 (some FieldType.int) RX11) (hT : ∀ x ∈ c.exceptionTable.toList, False)   {h : gH} {v6 : Option Nat} (w : vX11_addState_b134 G.2.2.1  Qn Qx h v6) : V p l e rmX11_addState s m args below meth c (vx_MQ below (va_Qi Qn (gB G A) A) (gXC G A Qx) args s rmX11_addState.cells rmX11_addState.slots A) G A 7 h 3 75 134 [(6, va_rf v6)] [] := by
  refine V_aload X dX11_addState_134 0 rfl ?_
  obtain ⟨a1, rfl, w⟩ := w
  obtain ⟨fs, x2, hh, hv, w⟩ := w
  refine V_get3 X frX11_187 dX11_addState_136 hh hv ?_
  exact V.vx (V_iret X rfl dX11_addState_139 (Nat.le_of_ble_eq_true rfl) (Nat.le_of_ble_eq_true rfl) w)
def vX11_addState (t0 : Nat)  (Qn : Int32 → gH → Prop) (Qx : String → gH → Prop) (h : gH) (v0 : Nat) (v1 : Int32) (v2 : Int32) (v3 : Int32) (v4 : Int32) : Prop := io h v0 14 (vX11_nodeAt t0 (fun r2 h1 => (((v2 : Int32) < 1) → (vX11_addState_b30 t0  Qn Qx h1 )) ∧ ((¬ (v2 : Int32) < 1) → (((400 < (v2 : Int32)) → (vX11_addState_b30 t0  Qn Qx h1 )) ∧ ((¬ 400 < (v2 : Int32)) → ((((v4 : Int32) < 0) → (vX11_addState_b30 t0  Qn Qx h1 )) ∧ ((¬ (v4 : Int32) < 0) → ((((v4 : Int32) ≤ 3) → (nn r2 (fun a3 => io h1 a3 8 (vX5_isComplete t0 (fun x5 h4 => (((x5 : Int32) = 0) → (vX11_addState_b63 t0  Qn Qx h4 )) ∧ ((¬ (x5 : Int32) = 0) → (gr h4 v0 14 0 (fun r6 => nn r6 (fun a7 => gr h4 a7 7 4 (fun r8 => nn r8 (fun a9 => io h4 a9 2 (vJx4a65c_size_8abf5 t0 (fun x11 h10 => (((x11 : Int32) < 10) → (nw h10 (.inr (10, [.int 0, .null, .int 0, .int 0, .int 0])) (fun q12 h13 => gr h13 v0 14 0 (fun r14 => nn r14 (fun a15 => gr h13 a15 7 4 (fun r16 => nn r16 (fun a17 => io h13 a17 2 (vJx4a65c_size_8abf5 t0 (fun x19 h18 => vX7_init t0 (fun h20 => gr h20 v0 14 0 (fun r21 => nn r21 (fun a22 => gr h20 a22 7 4 (fun r23 => nn r23 (fun a24 => io h20 a24 2 (vJx4a65c_add_9ea2d t0 (fun x26 h25 => gr h25 v0 14 0 (fun r27 => nn r27 (fun a28 => gr h25 a28 7 4 (fun r29 => nn r29 (fun a30 => io h25 a30 2 (vJx4a65c_size_8abf5 t0 (fun x32 h31 => ((¬ (x32 : Int32) = 1) → (vX11_addState_b134 t0  Qn Qx h31 (some q12))) ∧ (((x32 : Int32) = 1) → (gr h31 v0 14 2 (fun r33 => nn r33 (fun a34 => io h31 a34 6 (vX3_beginIn t0 (fun h35 => vX11_addState_b134 t0  Qn Qx h35 (some q12)) h31 a34 (some q12))))))) h25 a30 )))))) h20 a24 (some q12))))))) h18 q12 x19 (some a3) v2 v3 v4) h13 a17 )))))))) ∧ ((¬ (x11 : Int32) < 10) → (vX11_addState_b63 t0  Qn Qx h10 ))) h4 a9 )))))))) h1 a3 )))) ∧ ((¬ (v4 : Int32) ≤ 3) → (vX11_addState_b30 t0  Qn Qx h1 ))))))))) Qx h v0 v1)
set_option maxRecDepth 100000 in
set_option maxHeartbeats 4000000 in
theorem tX11_addState {p : Program} {l : Launch} {e : Env} {s : State} {m : MethodId} {args : Array Value} {below : List Frame} {meth : Method} {c : Code} {G : gG} {A : Nat → Prop} {Qn : Int32 → gH → Prop} {Qx : String → gH → Prop} (X : gC p l s m args meth c G A cX11_addState 7 (some FieldType.int) RX11) (hT : ∀ x ∈ c.exceptionTable.toList, False)   {h : gH} {v0 : Nat} {v1 : Int32} {v2 : Int32} {v3 : Int32} {v4 : Int32} (w : vX11_addState G.2.2.1  Qn Qx h v0 v1 v2 v3 v4) : V p l e rmX11_addState s m args below meth c (vx_MQ below (va_Qi Qn (gB G A) A) (gXC G A Qx) args s rmX11_addState.cells rmX11_addState.slots A) G A 7 h 0 0 0 [(0, .ref v0), (1, .int v1), (2, .int v2), (3, .int v3), (4, .int v4)] [] := by
  refine V_aloadr_n X dX11_addState_0 0 rfl ?_
  refine V_iload_n X dX11_addState_1 1 rfl ?_
  obtain ⟨fs, hh, w⟩ := w
  refine V_callXq (As := [.int v1]) (rest := []) (k1 := 1) (n1 := 6) X (cX11_nodeAt_ok X.2.2.2.2.2.2.2.2.1 w) lkX11_139 hh (q9 := (RX11, TX11, 7)) rfl rfl dX11_addState_2 hT ⟨Nat.le_of_ble_eq_true rfl, Nat.le_of_ble_eq_true rfl⟩ rfl (Nat.le_of_ble_eq_true rfl) ⟨Nat.le_of_ble_eq_true rfl, Nat.le_of_ble_eq_true rfl⟩ (Nat.le_of_ble_eq_true rfl) (Nat.le_of_ble_eq_true rfl) (Nat.le_of_ble_eq_true rfl) (Nat.le_of_ble_eq_true rfl) (fun r2 h1 w9 => ?_)
  replace w := w9
  clear w9
  refine V_astoreq X dX11_addState_5 (by decide) rfl ?_
  refine V_iload_n X dX11_addState_7 3 rfl ?_
  refine V_iconst (y := 1) X dX11_addState_8 (by decide) ?_
  obtain ⟨w1, w2⟩ := w
  refine V_icmp_lt (tgt := 30) X dX11_addState_9 (by decide) (fun z => ?_) (fun z => ?_)
  · replace w := w1 z
    clear w1 w2
    exact V.sub [] rfl (tX11_addState_b30 X hT  w)
  · replace w := w2 z
    clear w1 w2
    refine V_iload_n X dX11_addState_12 3 rfl ?_
    refine V_sipush (y := 400) X dX11_addState_13 (by decide) ?_
    obtain ⟨w1, w2⟩ := w
    refine V_icmp_gt (tgt := 30) X dX11_addState_16 (by decide) (fun z => ?_) (fun z => ?_)
    · replace w := w1 z
      clear w1 w2
      exact V.sub [] rfl (tX11_addState_b30 X hT  w)
    · replace w := w2 z
      clear w1 w2
      refine V_iload X dX11_addState_19 5 rfl ?_
      obtain ⟨w1, w2⟩ := w
      refine V_if_lt (tgt := 30) X dX11_addState_21 (by decide) (fun z => ?_) (fun z => ?_)
      · replace w := w1 z
        clear w1 w2
        exact V.sub [] rfl (tX11_addState_b30 X hT  w)
      · replace w := w2 z
        clear w1 w2
        refine V_iload X dX11_addState_24 5 rfl ?_
        refine V_iconst (y := 3) X dX11_addState_26 (by decide) ?_
        obtain ⟨w1, w2⟩ := w
        refine V_icmp_le (tgt := 40) X dX11_addState_27 (by decide) (fun z => ?_) (fun z => ?_)
        · replace w := w1 z
          clear w1 w2
          refine V_aload X dX11_addState_40 0 rfl ?_
          obtain ⟨a3, rfl, w⟩ := w
          obtain ⟨fs, hh, w⟩ := w
          refine V_callVi (As := []) (rest := []) (k1 := 1) (n1 := 6) X (cX5_isComplete_ok X.2.2.2.2.2.2.2.2.1 w) lkX11_158 hh (q9 := (RX5, TX5, 5)) rfl rfl dX11_addState_42 ⟨Nat.le_of_ble_eq_true rfl, Nat.le_of_ble_eq_true rfl⟩ rfl (Nat.le_of_ble_eq_true rfl) ⟨Nat.le_of_ble_eq_true rfl, Nat.le_of_ble_eq_true rfl⟩ (Nat.le_of_ble_eq_true rfl) (Nat.le_of_ble_eq_true rfl) (fun x5 h4 w9 => ?_)
          replace w := w9
          clear w9
          obtain ⟨w1, w2⟩ := w
          refine V_if_eq (tgt := 63) X dX11_addState_45 (by decide) (fun z => ?_) (fun z => ?_)
          · replace w := w1 z
            clear w1 w2
            exact V.sub [] rfl (tX11_addState_b63 X hT  w)
          · replace w := w2 z
            clear w1 w2
            refine V_aloadr_n X dX11_addState_48 1 rfl ?_
            obtain ⟨fs, r6, hh, hv, w⟩ := w
            refine V_get X flX11_12 dX11_addState_49 hh hv ?_
            obtain ⟨a7, rfl, w⟩ := w
            obtain ⟨fs, r8, hh, hv, w⟩ := w
            refine V_get3 X frX11_173 dX11_addState_52 hh hv ?_
            obtain ⟨a9, rfl, w⟩ := w
            obtain ⟨fs, hh, w⟩ := w
            refine V_callVi (As := []) (rest := []) (k1 := 1) (n1 := 6) X (cJx4a65c_size_8abf5_ok X.2.2.2.2.2.2.2.2.1 w) lkX11_90 hh (q9 := (RJx4a65c, TJx4a65c, 3)) rfl rfl dX11_addState_55 ⟨Nat.le_of_ble_eq_true rfl, Nat.le_of_ble_eq_true rfl⟩ rfl (Nat.le_of_ble_eq_true rfl) ⟨Nat.le_of_ble_eq_true rfl, Nat.le_of_ble_eq_true rfl⟩ (Nat.le_of_ble_eq_true rfl) (Nat.le_of_ble_eq_true rfl) (fun x11 h10 w9 => ?_)
            replace w := w9
            clear w9
            refine V_bipush (y := 10) X dX11_addState_58 (by decide) ?_
            obtain ⟨w1, w2⟩ := w
            refine V_icmp_lt (tgt := 73) X dX11_addState_60 (by decide) (fun z => ?_) (fun z => ?_)
            · replace w := w1 z
              clear w1 w2
              refine V_new (k1 := 2) (n1 := 11) X nwX11_178 dX11_addState_73 ⟨(Nat.le_of_ble_eq_true rfl), (Nat.le_of_ble_eq_true rfl)⟩ (Nat.le_of_ble_eq_true rfl) (Nat.le_of_ble_eq_true rfl) (fun q12 hq => ?_)
              replace w := w q12 hq
              generalize va_up _ _ _ = h13 at w ⊢
              refine V_dup X dX11_addState_76 rfl ?_
              refine V_aloadr_n X dX11_addState_77 1 rfl ?_
              obtain ⟨fs, r14, hh, hv, w⟩ := w
              refine V_get X flX11_12 dX11_addState_78 hh hv ?_
              obtain ⟨a15, rfl, w⟩ := w
              obtain ⟨fs, r16, hh, hv, w⟩ := w
              refine V_get3 X frX11_173 dX11_addState_81 hh hv ?_
              obtain ⟨a17, rfl, w⟩ := w
              obtain ⟨fs, hh, w⟩ := w
              refine V_callVi (As := []) (rest := [.ref q12, .ref q12]) (k1 := 2) (n1 := 11) X (cJx4a65c_size_8abf5_ok X.2.2.2.2.2.2.2.2.1 w) lkX11_90 hh (q9 := (RJx4a65c, TJx4a65c, 3)) rfl rfl dX11_addState_84 ⟨Nat.le_of_ble_eq_true rfl, Nat.le_of_ble_eq_true rfl⟩ rfl (Nat.le_of_ble_eq_true rfl) ⟨Nat.le_of_ble_eq_true rfl, Nat.le_of_ble_eq_true rfl⟩ (Nat.le_of_ble_eq_true rfl) (Nat.le_of_ble_eq_true rfl) (fun x19 h18 w9 => ?_)
              replace w := w9
              clear w9
              refine V_aloadr X dX11_addState_87 0 rfl ?_
              refine V_iload_n X dX11_addState_89 3 rfl ?_
              refine V_iload_n X dX11_addState_90 4 rfl ?_
              refine V_iload X dX11_addState_91 5 rfl ?_
              refine V_callI (As := [.int x19, .ref a3, .int v2, .int v3, .int v4]) (rest := [.ref q12]) (k1 := 2) (n1 := 11) X (cX7_init_ok X.2.2.2.2.2.2.2.2.1 w) lkX11_180 dX11_addState_93 ⟨Nat.le_of_ble_eq_true rfl, Nat.le_of_ble_eq_true rfl⟩ rfl (Nat.le_of_ble_eq_true rfl) ⟨Nat.le_of_ble_eq_true rfl, Nat.le_of_ble_eq_true rfl⟩ (Nat.le_of_ble_eq_true rfl) (Nat.le_of_ble_eq_true rfl) (fun h20 w9 => ?_)
              replace w := w9
              clear w9
              refine V_astore X dX11_addState_96 (by decide) rfl ?_
              refine V_aloadr_n X dX11_addState_98 2 rfl ?_
              obtain ⟨fs, r21, hh, hv, w⟩ := w
              refine V_get X flX11_12 dX11_addState_99 hh hv ?_
              obtain ⟨a22, rfl, w⟩ := w
              obtain ⟨fs, r23, hh, hv, w⟩ := w
              refine V_get3 X frX11_173 dX11_addState_102 hh hv ?_
              refine V_aloadr X dX11_addState_105 0 rfl ?_
              obtain ⟨a24, rfl, w⟩ := w
              obtain ⟨fs, hh, w⟩ := w
              refine V_callVi (As := [.ref q12]) (rest := []) (k1 := 3) (n1 := 75) X (cJx4a65c_add_9ea2d_ok X.2.2.2.2.2.2.2.2.1 w) lkX11_102 hh (q9 := (RJx4a65c, TJx4a65c, 3)) rfl rfl dX11_addState_107 ⟨Nat.le_of_ble_eq_true rfl, Nat.le_of_ble_eq_true rfl⟩ rfl (Nat.le_of_ble_eq_true rfl) ⟨Nat.le_of_ble_eq_true rfl, Nat.le_of_ble_eq_true rfl⟩ (Nat.le_of_ble_eq_true rfl) (Nat.le_of_ble_eq_true rfl) (fun x26 h25 w9 => ?_)
              replace w := w9
              clear w9
              refine V_pop X dX11_addState_110 rfl ?_
              refine V_aloadr_n X dX11_addState_111 2 rfl ?_
              obtain ⟨fs, r27, hh, hv, w⟩ := w
              refine V_get X flX11_12 dX11_addState_112 hh hv ?_
              obtain ⟨a28, rfl, w⟩ := w
              obtain ⟨fs, r29, hh, hv, w⟩ := w
              refine V_get3 X frX11_173 dX11_addState_115 hh hv ?_
              obtain ⟨a30, rfl, w⟩ := w
              obtain ⟨fs, hh, w⟩ := w
              refine V_callVi (As := []) (rest := []) (k1 := 3) (n1 := 75) X (cJx4a65c_size_8abf5_ok X.2.2.2.2.2.2.2.2.1 w) lkX11_90 hh (q9 := (RJx4a65c, TJx4a65c, 3)) rfl rfl dX11_addState_118 ⟨Nat.le_of_ble_eq_true rfl, Nat.le_of_ble_eq_true rfl⟩ rfl (Nat.le_of_ble_eq_true rfl) ⟨Nat.le_of_ble_eq_true rfl, Nat.le_of_ble_eq_true rfl⟩ (Nat.le_of_ble_eq_true rfl) (Nat.le_of_ble_eq_true rfl) (fun x32 h31 w9 => ?_)
              replace w := w9
              clear w9
              refine V_iconst (y := 1) X dX11_addState_121 (by decide) ?_
              obtain ⟨w1, w2⟩ := w
              refine V_icmp_ne (tgt := 134) X dX11_addState_122 (by decide) (fun z => ?_) (fun z => ?_)
              · replace w := w1 z
                clear w1 w2
                exact V.sub [0] rfl (tX11_addState_b134 X hT  w)
              · replace w := w2 z
                clear w1 w2
                refine V_aloadr_n X dX11_addState_125 2 rfl ?_
                obtain ⟨fs, r33, hh, hv, w⟩ := w
                refine V_get X flX11_28 dX11_addState_126 hh hv ?_
                refine V_aloadr X dX11_addState_129 0 rfl ?_
                obtain ⟨a34, rfl, w⟩ := w
                obtain ⟨fs, hh, w⟩ := w
                refine V_callVv (As := [.ref q12]) (rest := []) (k1 := 3) (n1 := 75) X (cX3_beginIn_ok X.2.2.2.2.2.2.2.2.1 w) lkX11_183 hh (q9 := (RX3, TX3, 13)) rfl rfl dX11_addState_131 ⟨Nat.le_of_ble_eq_true rfl, Nat.le_of_ble_eq_true rfl⟩ rfl (Nat.le_of_ble_eq_true rfl) ⟨Nat.le_of_ble_eq_true rfl, Nat.le_of_ble_eq_true rfl⟩ (Nat.le_of_ble_eq_true rfl) (Nat.le_of_ble_eq_true rfl) (fun h35 w9 => ?_)
                replace w := w9
                clear w9
                exact V.sub [0] rfl (tX11_addState_b134 X hT  w)
            · replace w := w2 z
              clear w1 w2
              exact V.sub [] rfl (tX11_addState_b63 X hT  w)
        · replace w := w2 z
          clear w1 w2
          exact V.sub [] rfl (tX11_addState_b30 X hT  w)
theorem cX11_addState_ok {l : Launch} {G : gG} {h : gH} (hls : l.stackTraces = false) {Qn : Int32 → gH → Prop} {Qx : String → gH → Prop} {v0 : Nat} {v1 : Int32} {v2 : Int32} {v3 : Int32} {v4 : Int32} (w : vX11_addState G.2.2.1 Qn Qx h v0 v1 v2 v3 v4) : gXi l yX11_addState cX11_addState 7 (some FieldType.int) rmX11_addState rmX11_addState.cells rmX11_addState.slots G h [.ref v0, .int v1, .int v2, .int v3, .int v4] Qn Qx := by
  exact gXi.of (by decide +kernel) hls (Nat.le_of_ble_eq_true rfl) rfl rfl (fun p e s m below meth c A X hT => tX11_addState X hT w)
/-! AnimationController.stateAt(I)LAnimationController$State; -/
abbrev rmX11_stateAt : Room := { frames := 6, cells := 1, slots := 6, locals := 90 }
def vX11_stateAt_b18 (t0 : Nat)  (Qn : Option Nat → gH → Prop) (Qx : String → gH → Prop) (h : gH)  : Prop := Qx "java/lang/IndexOutOfBoundsException" h
set_option maxRecDepth 100000 in
set_option maxHeartbeats 4000000 in
theorem tX11_stateAt_b18 {p : Program} {l : Launch} {e : Env} {s : State} {m : MethodId} {args : Array Value} {below : List Frame} {meth : Method} {c : Code} {G : gG} {A : Nat → Prop} {Qn : Option Nat → gH → Prop} {Qx : String → gH → Prop} (X : gC p l s m args meth c G A cX11_stateAt 2 (some (FieldType.object "AnimationController$State")) RX11) (hT : ∀ x ∈ c.exceptionTable.toList, False)   {h : gH}  (w : vX11_stateAt_b18 G.2.2.1  Qn Qx h ) : V p l e rmX11_stateAt s m args below meth c (vx_MQ below (va_Qq Qn (gB G A) A) (gXC G A Qx) args s rmX11_stateAt.cells rmX11_stateAt.slots A) G A 2 h 0 0 18 [] [] := by
  exact V_throwW X thX11_436_378 dX11_stateAt_18 dX11_stateAt_21 dX11_stateAt_22 dX11_stateAt_25 dX11_stateAt_28 hT ⟨(Nat.le_of_ble_eq_true rfl), (Nat.le_of_ble_eq_true rfl), (Nat.le_of_ble_eq_true rfl), (Nat.le_of_ble_eq_true rfl)⟩ (Nat.le_of_ble_eq_true rfl) (Nat.le_of_ble_eq_true rfl) w
def vX11_stateAt (t0 : Nat)  (Qn : Option Nat → gH → Prop) (Qx : String → gH → Prop) (h : gH) (v0 : Nat) (v1 : Int32) : Prop := (((v1 : Int32) < 0) → (vX11_stateAt_b18 t0  Qn Qx h )) ∧ ((¬ (v1 : Int32) < 0) → (gr h v0 14 0 (fun r1 => nn r1 (fun a2 => gr h a2 7 4 (fun r3 => nn r3 (fun a4 => io h a4 2 (vJx4a65c_size_8abf5 t0 (fun x6 h5 => (((v1 : Int32) < x6) → (gr h5 v0 14 0 (fun r7 => nn r7 (fun a8 => gr h5 a8 7 4 (fun r9 => nn r9 (fun a10 => io h5 a10 2 (vJx4a65c_get_915e3 t0 (fun r12 h11 => nn r12 (fun a13 => io h11 a13 10 (Qn (some a13) h11))) h5 a10 v1))))))) ∧ ((¬ (v1 : Int32) < x6) → (vX11_stateAt_b18 t0  Qn Qx h5 ))) h a4 )))))))
set_option maxRecDepth 100000 in
set_option maxHeartbeats 4000000 in
theorem tX11_stateAt {p : Program} {l : Launch} {e : Env} {s : State} {m : MethodId} {args : Array Value} {below : List Frame} {meth : Method} {c : Code} {G : gG} {A : Nat → Prop} {Qn : Option Nat → gH → Prop} {Qx : String → gH → Prop} (X : gC p l s m args meth c G A cX11_stateAt 2 (some (FieldType.object "AnimationController$State")) RX11) (hT : ∀ x ∈ c.exceptionTable.toList, False)   {h : gH} {v0 : Nat} {v1 : Int32} (w : vX11_stateAt G.2.2.1  Qn Qx h v0 v1) : V p l e rmX11_stateAt s m args below meth c (vx_MQ below (va_Qq Qn (gB G A) A) (gXC G A Qx) args s rmX11_stateAt.cells rmX11_stateAt.slots A) G A 2 h 0 0 0 [(0, .ref v0), (1, .int v1)] [] := by
  refine V_iload_n X dX11_stateAt_0 1 rfl ?_
  obtain ⟨w1, w2⟩ := w
  refine V_if_lt (tgt := 18) X dX11_stateAt_1 (by decide) (fun z => ?_) (fun z => ?_)
  · replace w := w1 z
    clear w1 w2
    exact V.sub [] rfl (tX11_stateAt_b18 X hT  w)
  · replace w := w2 z
    clear w1 w2
    refine V_iload_n X dX11_stateAt_4 1 rfl ?_
    refine V_aloadr_n X dX11_stateAt_5 0 rfl ?_
    obtain ⟨fs, r1, hh, hv, w⟩ := w
    refine V_get X flX11_12 dX11_stateAt_6 hh hv ?_
    obtain ⟨a2, rfl, w⟩ := w
    obtain ⟨fs, r3, hh, hv, w⟩ := w
    refine V_get3 X frX11_173 dX11_stateAt_9 hh hv ?_
    obtain ⟨a4, rfl, w⟩ := w
    obtain ⟨fs, hh, w⟩ := w
    refine V_callVi (As := []) (rest := [.int v1]) (k1 := 0) (n1 := 0) X (cJx4a65c_size_8abf5_ok X.2.2.2.2.2.2.2.2.1 w) lkX11_90 hh (q9 := (RJx4a65c, TJx4a65c, 3)) rfl rfl dX11_stateAt_12 ⟨Nat.le_of_ble_eq_true rfl, Nat.le_of_ble_eq_true rfl⟩ rfl (Nat.le_of_ble_eq_true rfl) ⟨Nat.le_of_ble_eq_true rfl, Nat.le_of_ble_eq_true rfl⟩ (Nat.le_of_ble_eq_true rfl) (Nat.le_of_ble_eq_true rfl) (fun x6 h5 w9 => ?_)
    replace w := w9
    clear w9
    obtain ⟨w1, w2⟩ := w
    refine V_icmp_lt (tgt := 29) X dX11_stateAt_15 (by decide) (fun z => ?_) (fun z => ?_)
    · replace w := w1 z
      clear w1 w2
      refine V_aloadr_n X dX11_stateAt_29 0 rfl ?_
      obtain ⟨fs, r7, hh, hv, w⟩ := w
      refine V_get X flX11_12 dX11_stateAt_30 hh hv ?_
      obtain ⟨a8, rfl, w⟩ := w
      obtain ⟨fs, r9, hh, hv, w⟩ := w
      refine V_get3 X frX11_173 dX11_stateAt_33 hh hv ?_
      refine V_iload_n X dX11_stateAt_36 1 rfl ?_
      obtain ⟨a10, rfl, w⟩ := w
      obtain ⟨fs, hh, w⟩ := w
      refine V_callVq (As := [.int v1]) (rest := []) (k1 := 0) (n1 := 0) X (cJx4a65c_get_915e3_ok X.2.2.2.2.2.2.2.2.1 w) lkX11_302 hh (q9 := (RJx4a65c, TJx4a65c, 3)) rfl rfl dX11_stateAt_37 ⟨Nat.le_of_ble_eq_true rfl, Nat.le_of_ble_eq_true rfl⟩ rfl (Nat.le_of_ble_eq_true rfl) ⟨Nat.le_of_ble_eq_true rfl, Nat.le_of_ble_eq_true rfl⟩ (Nat.le_of_ble_eq_true rfl) (Nat.le_of_ble_eq_true rfl) (fun r12 h11 w9 => ?_)
      replace w := w9
      clear w9
      obtain ⟨a13, rfl, w⟩ := w
      obtain ⟨fs, hh, w⟩ := w
      refine V_cast (q9 := (RX7, TX7, 5)) X kw_630 rfl rfl hh dX11_stateAt_40 ?_
      exact V.vx (V_aret (x := (some a13)) X rfl (Or.inl ⟨_, rfl⟩) dX11_stateAt_43 (Nat.le_of_ble_eq_true rfl) (Nat.le_of_ble_eq_true rfl) w)
    · replace w := w2 z
      clear w1 w2
      exact V.sub [] rfl (tX11_stateAt_b18 X hT  w)
theorem cX11_stateAt_ok {l : Launch} {G : gG} {h : gH} (hls : l.stackTraces = false) {Qn : Option Nat → gH → Prop} {Qx : String → gH → Prop} {v0 : Nat} {v1 : Int32} (w : vX11_stateAt G.2.2.1 Qn Qx h v0 v1) : gXq l yX11_stateAt cX11_stateAt 2 (some (FieldType.object "AnimationController$State")) rmX11_stateAt rmX11_stateAt.cells rmX11_stateAt.slots G h [.ref v0, .int v1] Qn Qx := by
  exact gXq.of (by decide +kernel) hls (Nat.le_of_ble_eq_true rfl) rfl rfl (fun p e s m below meth c A X hT => tX11_stateAt X hT w)
/-! AnimationController.addTransition(III)I -/
abbrev rmX11_addTransition : Room := { frames := 7, cells := 7, slots := 97, locals := 191 }
def vX11_addTransition_b33 (t0 : Nat)  (Qn : Int32 → gH → Prop) (Qx : String → gH → Prop) (h : gH)  : Prop := Qx "java/lang/IllegalArgumentException" h
set_option maxRecDepth 100000 in
set_option maxHeartbeats 4000000 in
theorem tX11_addTransition_b33 {p : Program} {l : Launch} {e : Env} {s : State} {m : MethodId} {args : Array Value} {below : List Frame} {meth : Method} {c : Code} {G : gG} {A : Nat → Prop} {Qn : Int32 → gH → Prop} {Qx : String → gH → Prop} (X : gC p l s m args meth c G A cX11_addTransition 7 (some FieldType.int) RX11) (hT : ∀ x ∈ c.exceptionTable.toList, False)   {h : gH}  (w : vX11_addTransition_b33 G.2.2.1  Qn Qx h ) : V p l e rmX11_addTransition s m args below meth c (vx_MQ below (va_Qi Qn (gB G A) A) (gXC G A Qx) args s rmX11_addTransition.cells rmX11_addTransition.slots A) G A 7 h 2 12 33 [] [] := by
  exact V_throw X thX11_194_47 dX11_addTransition_33 dX11_addTransition_36 dX11_addTransition_37 dX11_addTransition_39 dX11_addTransition_42 hT ⟨(Nat.le_of_ble_eq_true rfl), (Nat.le_of_ble_eq_true rfl), (Nat.le_of_ble_eq_true rfl), (Nat.le_of_ble_eq_true rfl)⟩ (Nat.le_of_ble_eq_true rfl) (Nat.le_of_ble_eq_true rfl) w
def vX11_addTransition_b14 (t0 : Nat)  (Qn : Int32 → gH → Prop) (Qx : String → gH → Prop) (h : gH) (v0 : Nat) (v2 : Int32) (v3 : Int32) (s0 : Option Nat) : Prop := io h v0 14 (vX11_stateAt t0 (fun r2 h1 => (((v3 : Int32) < 0) → (vX11_addTransition_b33 t0  Qn Qx h1 )) ∧ ((¬ (v3 : Int32) < 0) → ((((v3 : Int32) ≤ 60) → (gr h1 v0 14 0 (fun r3 => nn r3 (fun a4 => gr h1 a4 7 5 (fun r5 => nn r5 (fun a6 => io h1 a6 2 (vJx4a65c_size_8abf5 t0 (fun x8 h7 => (((x8 : Int32) < 24) → (nw h7 (.inr (12, [.int 0, .null, .null, .int 0, .int 0, .int 0, .int 0, .int 0, .null, .null, .null, .int 0])) (fun q9 h10 => gr h10 v0 14 0 (fun r11 => nn r11 (fun a12 => gr h10 a12 7 5 (fun r13 => nn r13 (fun a14 => io h10 a14 2 (vJx4a65c_size_8abf5 t0 (fun x16 h15 => vX9_init t0 (fun h17 => io h17 q9 12 (vX9_begin t0 (fun h18 => gr h18 v0 14 0 (fun r19 => nn r19 (fun a20 => gr h18 a20 7 5 (fun r21 => nn r21 (fun a22 => io h18 a22 2 (vJx4a65c_add_9ea2d t0 (fun x24 h23 => gi h23 q9 12 0 (fun x25 => Qn x25 h23)) h18 a22 (some q9))))))) h17 q9 s0 r2 v3)) h15 q9 x16 r2) h10 a14 )))))))) ∧ ((¬ (x8 : Int32) < 24) → (Qx "java/lang/IllegalStateException" h7))) h1 a6 ))))))) ∧ ((¬ (v3 : Int32) ≤ 60) → (vX11_addTransition_b33 t0  Qn Qx h1 ))))) Qx h v0 v2)
set_option maxRecDepth 100000 in
set_option maxHeartbeats 4000000 in
theorem tX11_addTransition_b14 {p : Program} {l : Launch} {e : Env} {s : State} {m : MethodId} {args : Array Value} {below : List Frame} {meth : Method} {c : Code} {G : gG} {A : Nat → Prop} {Qn : Int32 → gH → Prop} {Qx : String → gH → Prop} (X : gC p l s m args meth c G A cX11_addTransition 7 (some FieldType.int) RX11) (hT : ∀ x ∈ c.exceptionTable.toList, False)   {h : gH} {v0 : Nat} {v2 : Int32} {v3 : Int32} {s0 : Option Nat} (w : vX11_addTransition_b14 G.2.2.1  Qn Qx h v0 v2 v3 s0) : V p l e rmX11_addTransition s m args below meth c (vx_MQ below (va_Qi Qn (gB G A) A) (gXC G A Qx) args s rmX11_addTransition.cells rmX11_addTransition.slots A) G A 7 h 1 6 14 [(0, .ref v0), (2, .int v2), (3, .int v3)] [va_rf s0] := by
  refine V_astoreq X dX11_addTransition_14 (by decide) rfl ?_
  refine V_aloadr_n X dX11_addTransition_16 1 rfl ?_
  refine V_iload_n X dX11_addTransition_17 2 rfl ?_
  obtain ⟨fs, hh, w⟩ := w
  refine V_callXq (As := [.int v2]) (rest := []) (k1 := 2) (n1 := 12) X (cX11_stateAt_ok X.2.2.2.2.2.2.2.2.1 w) lkX11_190 hh (q9 := (RX11, TX11, 7)) rfl rfl dX11_addTransition_18 hT ⟨Nat.le_of_ble_eq_true rfl, Nat.le_of_ble_eq_true rfl⟩ rfl (Nat.le_of_ble_eq_true rfl) ⟨Nat.le_of_ble_eq_true rfl, Nat.le_of_ble_eq_true rfl⟩ (Nat.le_of_ble_eq_true rfl) (Nat.le_of_ble_eq_true rfl) (Nat.le_of_ble_eq_true rfl) (Nat.le_of_ble_eq_true rfl) (fun r2 h1 w9 => ?_)
  replace w := w9
  clear w9
  refine V_astoreq X dX11_addTransition_21 (by decide) (by simp [va_cat1] <;> rfl) ?_
  refine V_iload_n X dX11_addTransition_23 4 rfl ?_
  obtain ⟨w1, w2⟩ := w
  refine V_if_lt (tgt := 33) X dX11_addTransition_24 (by decide) (fun z => ?_) (fun z => ?_)
  · replace w := w1 z
    clear w1 w2
    exact V.sub [] rfl (tX11_addTransition_b33 X hT  w)
  · replace w := w2 z
    clear w1 w2
    refine V_iload_n X dX11_addTransition_27 4 rfl ?_
    refine V_bipush (y := 60) X dX11_addTransition_28 (by decide) ?_
    obtain ⟨w1, w2⟩ := w
    refine V_icmp_le (tgt := 43) X dX11_addTransition_30 (by decide) (fun z => ?_) (fun z => ?_)
    · replace w := w1 z
      clear w1 w2
      refine V_aloadr_n X dX11_addTransition_43 2 rfl ?_
      obtain ⟨fs, r3, hh, hv, w⟩ := w
      refine V_get X flX11_12 dX11_addTransition_44 hh hv ?_
      obtain ⟨a4, rfl, w⟩ := w
      obtain ⟨fs, r5, hh, hv, w⟩ := w
      refine V_get3 X frX11_196 dX11_addTransition_47 hh hv ?_
      obtain ⟨a6, rfl, w⟩ := w
      obtain ⟨fs, hh, w⟩ := w
      refine V_callVi (As := []) (rest := []) (k1 := 2) (n1 := 12) X (cJx4a65c_size_8abf5_ok X.2.2.2.2.2.2.2.2.1 w) lkX11_90 hh (q9 := (RJx4a65c, TJx4a65c, 3)) rfl rfl dX11_addTransition_50 ⟨Nat.le_of_ble_eq_true rfl, Nat.le_of_ble_eq_true rfl⟩ rfl (Nat.le_of_ble_eq_true rfl) ⟨Nat.le_of_ble_eq_true rfl, Nat.le_of_ble_eq_true rfl⟩ (Nat.le_of_ble_eq_true rfl) (Nat.le_of_ble_eq_true rfl) (fun x8 h7 w9 => ?_)
      replace w := w9
      clear w9
      refine V_bipush (y := 24) X dX11_addTransition_53 (by decide) ?_
      obtain ⟨w1, w2⟩ := w
      refine V_icmp_lt (tgt := 68) X dX11_addTransition_55 (by decide) (fun z => ?_) (fun z => ?_)
      · replace w := w1 z
        clear w1 w2
        refine V_new (k1 := 3) (n1 := 24) X nwX11_201 dX11_addTransition_68 ⟨(Nat.le_of_ble_eq_true rfl), (Nat.le_of_ble_eq_true rfl)⟩ (Nat.le_of_ble_eq_true rfl) (Nat.le_of_ble_eq_true rfl) (fun q9 hq => ?_)
        replace w := w q9 hq
        generalize va_up _ _ _ = h10 at w ⊢
        refine V_dup X dX11_addTransition_71 rfl ?_
        refine V_aloadr_n X dX11_addTransition_72 2 rfl ?_
        obtain ⟨fs, r11, hh, hv, w⟩ := w
        refine V_get X flX11_12 dX11_addTransition_73 hh hv ?_
        obtain ⟨a12, rfl, w⟩ := w
        obtain ⟨fs, r13, hh, hv, w⟩ := w
        refine V_get3 X frX11_196 dX11_addTransition_76 hh hv ?_
        obtain ⟨a14, rfl, w⟩ := w
        obtain ⟨fs, hh, w⟩ := w
        refine V_callVi (As := []) (rest := [.ref q9, .ref q9]) (k1 := 3) (n1 := 24) X (cJx4a65c_size_8abf5_ok X.2.2.2.2.2.2.2.2.1 w) lkX11_90 hh (q9 := (RJx4a65c, TJx4a65c, 3)) rfl rfl dX11_addTransition_79 ⟨Nat.le_of_ble_eq_true rfl, Nat.le_of_ble_eq_true rfl⟩ rfl (Nat.le_of_ble_eq_true rfl) ⟨Nat.le_of_ble_eq_true rfl, Nat.le_of_ble_eq_true rfl⟩ (Nat.le_of_ble_eq_true rfl) (Nat.le_of_ble_eq_true rfl) (fun x16 h15 w9 => ?_)
        replace w := w9
        clear w9
        refine V_aload X dX11_addTransition_82 0 rfl ?_
        refine V_callI (As := [.int x16, va_rf r2]) (rest := [.ref q9]) (k1 := 6) (n1 := 33) X (cX9_init_ok X.2.2.2.2.2.2.2.2.1 w) lkX11_203 dX11_addTransition_84 ⟨Nat.le_of_ble_eq_true rfl, Nat.le_of_ble_eq_true rfl⟩ rfl (Nat.le_of_ble_eq_true rfl) ⟨Nat.le_of_ble_eq_true rfl, Nat.le_of_ble_eq_true rfl⟩ (Nat.le_of_ble_eq_true rfl) (Nat.le_of_ble_eq_true rfl) (fun h17 w9 => ?_)
        replace w := w9
        clear w9
        refine V_astore X dX11_addTransition_87 (by decide) (by simp [va_cat1] <;> rfl) ?_
        refine V_aloadr X dX11_addTransition_89 0 rfl ?_
        refine V_aload X dX11_addTransition_91 2 rfl ?_
        refine V_aload X dX11_addTransition_93 1 rfl ?_
        refine V_iload_n X dX11_addTransition_95 5 rfl ?_
        obtain ⟨fs, hh, w⟩ := w
        refine V_callVv (As := [va_rf s0, va_rf r2, .int v3]) (rest := []) (k1 := 6) (n1 := 33) X (cX9_begin_ok X.2.2.2.2.2.2.2.2.1 w) lkX11_206 hh (q9 := (RX9, TX9, 12)) rfl rfl dX11_addTransition_96 ⟨Nat.le_of_ble_eq_true rfl, Nat.le_of_ble_eq_true rfl⟩ rfl (Nat.le_of_ble_eq_true rfl) ⟨Nat.le_of_ble_eq_true rfl, Nat.le_of_ble_eq_true rfl⟩ (Nat.le_of_ble_eq_true rfl) (Nat.le_of_ble_eq_true rfl) (fun h18 w9 => ?_)
        replace w := w9
        clear w9
        refine V_aloadr_n X dX11_addTransition_99 3 rfl ?_
        obtain ⟨fs, r19, hh, hv, w⟩ := w
        refine V_get X flX11_12 dX11_addTransition_100 hh hv ?_
        obtain ⟨a20, rfl, w⟩ := w
        obtain ⟨fs, r21, hh, hv, w⟩ := w
        refine V_get3 X frX11_196 dX11_addTransition_103 hh hv ?_
        refine V_aloadr X dX11_addTransition_106 0 rfl ?_
        obtain ⟨a22, rfl, w⟩ := w
        obtain ⟨fs, hh, w⟩ := w
        refine V_callVi (As := [.ref q9]) (rest := []) (k1 := 7) (n1 := 97) X (cJx4a65c_add_9ea2d_ok X.2.2.2.2.2.2.2.2.1 w) lkX11_102 hh (q9 := (RJx4a65c, TJx4a65c, 3)) rfl rfl dX11_addTransition_108 ⟨Nat.le_of_ble_eq_true rfl, Nat.le_of_ble_eq_true rfl⟩ rfl (Nat.le_of_ble_eq_true rfl) ⟨Nat.le_of_ble_eq_true rfl, Nat.le_of_ble_eq_true rfl⟩ (Nat.le_of_ble_eq_true rfl) (Nat.le_of_ble_eq_true rfl) (fun x24 h23 w9 => ?_)
        replace w := w9
        clear w9
        refine V_pop X dX11_addTransition_111 rfl ?_
        refine V_aloadr X dX11_addTransition_112 0 rfl ?_
        obtain ⟨fs, x25, hh, hv, w⟩ := w
        refine V_get3 X frX11_210 dX11_addTransition_114 hh hv ?_
        exact V.vx (V_iret X rfl dX11_addTransition_117 (Nat.le_of_ble_eq_true rfl) (Nat.le_of_ble_eq_true rfl) w)
      · replace w := w2 z
        clear w1 w2
        exact V_throw X thX11_199_61 dX11_addTransition_58 dX11_addTransition_61 dX11_addTransition_62 dX11_addTransition_64 dX11_addTransition_67 hT ⟨(Nat.le_of_ble_eq_true rfl), (Nat.le_of_ble_eq_true rfl), (Nat.le_of_ble_eq_true rfl), (Nat.le_of_ble_eq_true rfl)⟩ (Nat.le_of_ble_eq_true rfl) (Nat.le_of_ble_eq_true rfl) w
    · replace w := w2 z
      clear w1 w2
      exact V.sub [] rfl (tX11_addTransition_b33 X hT  w)
def vX11_addTransition (t0 : Nat)  (Qn : Int32 → gH → Prop) (Qx : String → gH → Prop) (h : gH) (v0 : Nat) (v1 : Int32) (v2 : Int32) (v3 : Int32) : Prop := ((¬ (v1 : Int32) = (-1)) → (io h v0 14 (vX11_stateAt t0 (fun r2 h1 => vX11_addTransition_b14 t0  Qn Qx h1 v0 v2 v3 r2) Qx h v0 v1))) ∧ (((v1 : Int32) = (-1)) → (vX11_addTransition_b14 t0  Qn Qx h v0 v2 v3 (none : Option Nat)))
set_option maxRecDepth 100000 in
set_option maxHeartbeats 4000000 in
theorem tX11_addTransition {p : Program} {l : Launch} {e : Env} {s : State} {m : MethodId} {args : Array Value} {below : List Frame} {meth : Method} {c : Code} {G : gG} {A : Nat → Prop} {Qn : Int32 → gH → Prop} {Qx : String → gH → Prop} (X : gC p l s m args meth c G A cX11_addTransition 7 (some FieldType.int) RX11) (hT : ∀ x ∈ c.exceptionTable.toList, False)   {h : gH} {v0 : Nat} {v1 : Int32} {v2 : Int32} {v3 : Int32} (w : vX11_addTransition G.2.2.1  Qn Qx h v0 v1 v2 v3) : V p l e rmX11_addTransition s m args below meth c (vx_MQ below (va_Qi Qn (gB G A) A) (gXC G A Qx) args s rmX11_addTransition.cells rmX11_addTransition.slots A) G A 7 h 0 0 0 [(0, .ref v0), (1, .int v1), (2, .int v2), (3, .int v3)] [] := by
  refine V_iload_n X dX11_addTransition_0 1 rfl ?_
  refine V_iconst (y := (-1)) X dX11_addTransition_1 (by decide) ?_
  obtain ⟨w1, w2⟩ := w
  refine V_icmp_ne (tgt := 9) X dX11_addTransition_2 (by decide) (fun z => ?_) (fun z => ?_)
  · replace w := w1 z
    clear w1 w2
    refine V_aloadr_n X dX11_addTransition_9 0 rfl ?_
    refine V_iload_n X dX11_addTransition_10 1 rfl ?_
    obtain ⟨fs, hh, w⟩ := w
    refine V_callXq (As := [.int v1]) (rest := []) (k1 := 1) (n1 := 6) X (cX11_stateAt_ok X.2.2.2.2.2.2.2.2.1 w) lkX11_190 hh (q9 := (RX11, TX11, 7)) rfl rfl dX11_addTransition_11 hT ⟨Nat.le_of_ble_eq_true rfl, Nat.le_of_ble_eq_true rfl⟩ rfl (Nat.le_of_ble_eq_true rfl) ⟨Nat.le_of_ble_eq_true rfl, Nat.le_of_ble_eq_true rfl⟩ (Nat.le_of_ble_eq_true rfl) (Nat.le_of_ble_eq_true rfl) (Nat.le_of_ble_eq_true rfl) (Nat.le_of_ble_eq_true rfl) (fun r2 h1 w9 => ?_)
    replace w := w9
    clear w9
    exact V.sub [0, 2, 3] rfl (tX11_addTransition_b14 X hT  w)
  · replace w := w2 z
    clear w1 w2
    refine V_null X dX11_addTransition_5 ?_
    refine V_goto (tgt := 14) X dX11_addTransition_6 (by decide) ?_
    exact V.widen (k1 := 1) (n1 := 6) (Nat.le_of_ble_eq_true rfl) (Nat.le_of_ble_eq_true rfl) <| V.sub [0, 2, 3] rfl (tX11_addTransition_b14 X hT  w)
theorem cX11_addTransition_ok {l : Launch} {G : gG} {h : gH} (hls : l.stackTraces = false) {Qn : Int32 → gH → Prop} {Qx : String → gH → Prop} {v0 : Nat} {v1 : Int32} {v2 : Int32} {v3 : Int32} (w : vX11_addTransition G.2.2.1 Qn Qx h v0 v1 v2 v3) : gXi l yX11_addTransition cX11_addTransition 7 (some FieldType.int) rmX11_addTransition rmX11_addTransition.cells rmX11_addTransition.slots G h [.ref v0, .int v1, .int v2, .int v3] Qn Qx := by
  exact gXi.of (by decide +kernel) hls (Nat.le_of_ble_eq_true rfl) rfl rfl (fun p e s m below meth c A X hT => tX11_addTransition X hT w)
/-! AnimationController.transitionAt(I)LAnimationController$Transition; -/
abbrev rmX11_transitionAt : Room := { frames := 6, cells := 1, slots := 6, locals := 90 }
def vX11_transitionAt_b18 (t0 : Nat)  (Qn : Option Nat → gH → Prop) (Qx : String → gH → Prop) (h : gH)  : Prop := Qx "java/lang/IndexOutOfBoundsException" h
set_option maxRecDepth 100000 in
set_option maxHeartbeats 4000000 in
theorem tX11_transitionAt_b18 {p : Program} {l : Launch} {e : Env} {s : State} {m : MethodId} {args : Array Value} {below : List Frame} {meth : Method} {c : Code} {G : gG} {A : Nat → Prop} {Qn : Option Nat → gH → Prop} {Qx : String → gH → Prop} (X : gC p l s m args meth c G A cX11_transitionAt 2 (some (FieldType.object "AnimationController$Transition")) RX11) (hT : ∀ x ∈ c.exceptionTable.toList, False)   {h : gH}  (w : vX11_transitionAt_b18 G.2.2.1  Qn Qx h ) : V p l e rmX11_transitionAt s m args below meth c (vx_MQ below (va_Qq Qn (gB G A) A) (gXC G A Qx) args s rmX11_transitionAt.cells rmX11_transitionAt.slots A) G A 2 h 0 0 18 [] [] := by
  exact V_throwW X thX11_438_378 dX11_transitionAt_18 dX11_transitionAt_21 dX11_transitionAt_22 dX11_transitionAt_25 dX11_transitionAt_28 hT ⟨(Nat.le_of_ble_eq_true rfl), (Nat.le_of_ble_eq_true rfl), (Nat.le_of_ble_eq_true rfl), (Nat.le_of_ble_eq_true rfl)⟩ (Nat.le_of_ble_eq_true rfl) (Nat.le_of_ble_eq_true rfl) w
def vX11_transitionAt (t0 : Nat)  (Qn : Option Nat → gH → Prop) (Qx : String → gH → Prop) (h : gH) (v0 : Nat) (v1 : Int32) : Prop := (((v1 : Int32) < 0) → (vX11_transitionAt_b18 t0  Qn Qx h )) ∧ ((¬ (v1 : Int32) < 0) → (gr h v0 14 0 (fun r1 => nn r1 (fun a2 => gr h a2 7 5 (fun r3 => nn r3 (fun a4 => io h a4 2 (vJx4a65c_size_8abf5 t0 (fun x6 h5 => (((v1 : Int32) < x6) → (gr h5 v0 14 0 (fun r7 => nn r7 (fun a8 => gr h5 a8 7 5 (fun r9 => nn r9 (fun a10 => io h5 a10 2 (vJx4a65c_get_915e3 t0 (fun r12 h11 => nn r12 (fun a13 => io h11 a13 12 (Qn (some a13) h11))) h5 a10 v1))))))) ∧ ((¬ (v1 : Int32) < x6) → (vX11_transitionAt_b18 t0  Qn Qx h5 ))) h a4 )))))))
set_option maxRecDepth 100000 in
set_option maxHeartbeats 4000000 in
theorem tX11_transitionAt {p : Program} {l : Launch} {e : Env} {s : State} {m : MethodId} {args : Array Value} {below : List Frame} {meth : Method} {c : Code} {G : gG} {A : Nat → Prop} {Qn : Option Nat → gH → Prop} {Qx : String → gH → Prop} (X : gC p l s m args meth c G A cX11_transitionAt 2 (some (FieldType.object "AnimationController$Transition")) RX11) (hT : ∀ x ∈ c.exceptionTable.toList, False)   {h : gH} {v0 : Nat} {v1 : Int32} (w : vX11_transitionAt G.2.2.1  Qn Qx h v0 v1) : V p l e rmX11_transitionAt s m args below meth c (vx_MQ below (va_Qq Qn (gB G A) A) (gXC G A Qx) args s rmX11_transitionAt.cells rmX11_transitionAt.slots A) G A 2 h 0 0 0 [(0, .ref v0), (1, .int v1)] [] := by
  refine V_iload_n X dX11_transitionAt_0 1 rfl ?_
  obtain ⟨w1, w2⟩ := w
  refine V_if_lt (tgt := 18) X dX11_transitionAt_1 (by decide) (fun z => ?_) (fun z => ?_)
  · replace w := w1 z
    clear w1 w2
    exact V.sub [] rfl (tX11_transitionAt_b18 X hT  w)
  · replace w := w2 z
    clear w1 w2
    refine V_iload_n X dX11_transitionAt_4 1 rfl ?_
    refine V_aloadr_n X dX11_transitionAt_5 0 rfl ?_
    obtain ⟨fs, r1, hh, hv, w⟩ := w
    refine V_get X flX11_12 dX11_transitionAt_6 hh hv ?_
    obtain ⟨a2, rfl, w⟩ := w
    obtain ⟨fs, r3, hh, hv, w⟩ := w
    refine V_get3 X frX11_196 dX11_transitionAt_9 hh hv ?_
    obtain ⟨a4, rfl, w⟩ := w
    obtain ⟨fs, hh, w⟩ := w
    refine V_callVi (As := []) (rest := [.int v1]) (k1 := 0) (n1 := 0) X (cJx4a65c_size_8abf5_ok X.2.2.2.2.2.2.2.2.1 w) lkX11_90 hh (q9 := (RJx4a65c, TJx4a65c, 3)) rfl rfl dX11_transitionAt_12 ⟨Nat.le_of_ble_eq_true rfl, Nat.le_of_ble_eq_true rfl⟩ rfl (Nat.le_of_ble_eq_true rfl) ⟨Nat.le_of_ble_eq_true rfl, Nat.le_of_ble_eq_true rfl⟩ (Nat.le_of_ble_eq_true rfl) (Nat.le_of_ble_eq_true rfl) (fun x6 h5 w9 => ?_)
    replace w := w9
    clear w9
    obtain ⟨w1, w2⟩ := w
    refine V_icmp_lt (tgt := 29) X dX11_transitionAt_15 (by decide) (fun z => ?_) (fun z => ?_)
    · replace w := w1 z
      clear w1 w2
      refine V_aloadr_n X dX11_transitionAt_29 0 rfl ?_
      obtain ⟨fs, r7, hh, hv, w⟩ := w
      refine V_get X flX11_12 dX11_transitionAt_30 hh hv ?_
      obtain ⟨a8, rfl, w⟩ := w
      obtain ⟨fs, r9, hh, hv, w⟩ := w
      refine V_get3 X frX11_196 dX11_transitionAt_33 hh hv ?_
      refine V_iload_n X dX11_transitionAt_36 1 rfl ?_
      obtain ⟨a10, rfl, w⟩ := w
      obtain ⟨fs, hh, w⟩ := w
      refine V_callVq (As := [.int v1]) (rest := []) (k1 := 0) (n1 := 0) X (cJx4a65c_get_915e3_ok X.2.2.2.2.2.2.2.2.1 w) lkX11_302 hh (q9 := (RJx4a65c, TJx4a65c, 3)) rfl rfl dX11_transitionAt_37 ⟨Nat.le_of_ble_eq_true rfl, Nat.le_of_ble_eq_true rfl⟩ rfl (Nat.le_of_ble_eq_true rfl) ⟨Nat.le_of_ble_eq_true rfl, Nat.le_of_ble_eq_true rfl⟩ (Nat.le_of_ble_eq_true rfl) (Nat.le_of_ble_eq_true rfl) (fun r12 h11 w9 => ?_)
      replace w := w9
      clear w9
      obtain ⟨a13, rfl, w⟩ := w
      obtain ⟨fs, hh, w⟩ := w
      refine V_cast (q9 := (RX9, TX9, 12)) X kw_1246 rfl rfl hh dX11_transitionAt_40 ?_
      exact V.vx (V_aret (x := (some a13)) X rfl (Or.inl ⟨_, rfl⟩) dX11_transitionAt_43 (Nat.le_of_ble_eq_true rfl) (Nat.le_of_ble_eq_true rfl) w)
    · replace w := w2 z
      clear w1 w2
      exact V.sub [] rfl (tX11_transitionAt_b18 X hT  w)
theorem cX11_transitionAt_ok {l : Launch} {G : gG} {h : gH} (hls : l.stackTraces = false) {Qn : Option Nat → gH → Prop} {Qx : String → gH → Prop} {v0 : Nat} {v1 : Int32} (w : vX11_transitionAt G.2.2.1 Qn Qx h v0 v1) : gXq l yX11_transitionAt cX11_transitionAt 2 (some (FieldType.object "AnimationController$Transition")) rmX11_transitionAt rmX11_transitionAt.cells rmX11_transitionAt.slots G h [.ref v0, .int v1] Qn Qx := by
  exact gXq.of (by decide +kernel) hls (Nat.le_of_ble_eq_true rfl) rfl rfl (fun p e s m below meth c A X hT => tX11_transitionAt X hT w)
/-! AnimationController.setTiming(III)I -/
abbrev rmX11_setTiming : Room := { frames := 7, cells := 2, slots := 12, locals := 111 }
def vX11_setTiming_b29 (t0 : Nat)  (Qn : Int32 → gH → Prop) (Qx : String → gH → Prop) (h : gH)  : Prop := Qx "java/lang/IllegalArgumentException" h
set_option maxRecDepth 100000 in
set_option maxHeartbeats 4000000 in
theorem tX11_setTiming_b29 {p : Program} {l : Launch} {e : Env} {s : State} {m : MethodId} {args : Array Value} {below : List Frame} {meth : Method} {c : Code} {G : gG} {A : Nat → Prop} {Qn : Int32 → gH → Prop} {Qx : String → gH → Prop} (X : gC p l s m args meth c G A cX11_setTiming 6 (some FieldType.int) RX11) (hT : ∀ x ∈ c.exceptionTable.toList, False)   {h : gH}  (w : vX11_setTiming_b29 G.2.2.1  Qn Qx h ) : V p l e rmX11_setTiming s m args below meth c (vx_MQ below (va_Qi Qn (gB G A) A) (gXC G A Qx) args s rmX11_setTiming.cells rmX11_setTiming.slots A) G A 6 h 1 6 29 [] [] := by
  exact V_throw X thX11_215_47 dX11_setTiming_29 dX11_setTiming_32 dX11_setTiming_33 dX11_setTiming_35 dX11_setTiming_38 hT ⟨(Nat.le_of_ble_eq_true rfl), (Nat.le_of_ble_eq_true rfl), (Nat.le_of_ble_eq_true rfl), (Nat.le_of_ble_eq_true rfl)⟩ (Nat.le_of_ble_eq_true rfl) (Nat.le_of_ble_eq_true rfl) w
def vX11_setTiming_b62 (t0 : Nat)  (Qn : Int32 → gH → Prop) (Qx : String → gH → Prop) (h : gH) (v2 : Int32) (v3 : Int32) (v4 : Option Nat) : Prop := nn v4 (fun a1 => gi h a1 12 4 (fun x2 => pv h a1 12 4 (.int v2) (fun h3 => pv h3 a1 12 5 (.int v3) (fun h4 => Qn x2 h4))))
set_option maxRecDepth 100000 in
set_option maxHeartbeats 4000000 in
theorem tX11_setTiming_b62 {p : Program} {l : Launch} {e : Env} {s : State} {m : MethodId} {args : Array Value} {below : List Frame} {meth : Method} {c : Code} {G : gG} {A : Nat → Prop} {Qn : Int32 → gH → Prop} {Qx : String → gH → Prop} (X : gC p l s m args meth c G A cX11_setTiming 6 (some FieldType.int) RX11) (hT : ∀ x ∈ c.exceptionTable.toList, False)   {h : gH} {v2 : Int32} {v3 : Int32} {v4 : Option Nat} (w : vX11_setTiming_b62 G.2.2.1  Qn Qx h v2 v3 v4) : V p l e rmX11_setTiming s m args below meth c (vx_MQ below (va_Qi Qn (gB G A) A) (gXC G A Qx) args s rmX11_setTiming.cells rmX11_setTiming.slots A) G A 6 h 1 6 62 [(2, .int v2), (3, .int v3), (4, va_rf v4)] [] := by
  refine V_aload X dX11_setTiming_62 2 rfl ?_
  obtain ⟨a1, rfl, w⟩ := w
  obtain ⟨fs, x2, hh, hv, w⟩ := w
  refine V_get X flX11_223 dX11_setTiming_64 hh hv ?_
  refine V_istore X dX11_setTiming_67 (by decide) rfl ?_
  refine V_aloadr X dX11_setTiming_69 3 rfl ?_
  refine V_iload_n X dX11_setTiming_71 1 rfl ?_
  obtain ⟨fs, hh, hv, w⟩ := w
  refine V_put X flX11_223 dX11_setTiming_72 hh hv rfl rfl ?_
  generalize va_up _ _ _ = h3 at w ⊢
  refine V_aloadr X dX11_setTiming_75 3 rfl ?_
  refine V_iload_n X dX11_setTiming_77 2 rfl ?_
  obtain ⟨fs, hh, hv, w⟩ := w
  refine V_put X flX11_226 dX11_setTiming_78 hh hv rfl rfl ?_
  generalize va_up _ _ _ = h4 at w ⊢
  refine V_iload X dX11_setTiming_81 0 rfl ?_
  exact V.vx (V_iret X rfl dX11_setTiming_83 (Nat.le_of_ble_eq_true rfl) (Nat.le_of_ble_eq_true rfl) w)
def vX11_setTiming (t0 : Nat)  (Qn : Int32 → gH → Prop) (Qx : String → gH → Prop) (h : gH) (v0 : Nat) (v1 : Int32) (v2 : Int32) (v3 : Int32) : Prop := io h v0 14 (vX11_transitionAt t0 (fun r2 h1 => (((v2 : Int32) < (-1)) → (vX11_setTiming_b29 t0  Qn Qx h1 )) ∧ ((¬ (v2 : Int32) < (-1)) → (((300 < (v2 : Int32)) → (vX11_setTiming_b29 t0  Qn Qx h1 )) ∧ ((¬ 300 < (v2 : Int32)) → ((((v3 : Int32) < 0) → (vX11_setTiming_b29 t0  Qn Qx h1 )) ∧ ((¬ (v3 : Int32) < 0) → ((((v3 : Int32) ≤ 99) → ((((v2 : Int32) = (-1)) → (vX11_setTiming_b62 t0  Qn Qx h1 v2 v3 r2)) ∧ ((¬ (v2 : Int32) = (-1)) → (nn r2 (fun a3 => gr h1 a3 12 1 (fun r4 => ((r4) = none → (Qx "java/lang/IllegalStateException" h1)) ∧ (∀ a5 : Nat, (r4) = some a5 → (vX11_setTiming_b62 t0  Qn Qx h1 v2 v3 (some a3))))))))) ∧ ((¬ (v3 : Int32) ≤ 99) → (vX11_setTiming_b29 t0  Qn Qx h1 ))))))))) Qx h v0 v1)
set_option maxRecDepth 100000 in
set_option maxHeartbeats 4000000 in
theorem tX11_setTiming {p : Program} {l : Launch} {e : Env} {s : State} {m : MethodId} {args : Array Value} {below : List Frame} {meth : Method} {c : Code} {G : gG} {A : Nat → Prop} {Qn : Int32 → gH → Prop} {Qx : String → gH → Prop} (X : gC p l s m args meth c G A cX11_setTiming 6 (some FieldType.int) RX11) (hT : ∀ x ∈ c.exceptionTable.toList, False)   {h : gH} {v0 : Nat} {v1 : Int32} {v2 : Int32} {v3 : Int32} (w : vX11_setTiming G.2.2.1  Qn Qx h v0 v1 v2 v3) : V p l e rmX11_setTiming s m args below meth c (vx_MQ below (va_Qi Qn (gB G A) A) (gXC G A Qx) args s rmX11_setTiming.cells rmX11_setTiming.slots A) G A 6 h 0 0 0 [(0, .ref v0), (1, .int v1), (2, .int v2), (3, .int v3)] [] := by
  refine V_aloadr_n X dX11_setTiming_0 0 rfl ?_
  refine V_iload_n X dX11_setTiming_1 1 rfl ?_
  obtain ⟨fs, hh, w⟩ := w
  refine V_callXq (As := [.int v1]) (rest := []) (k1 := 1) (n1 := 6) X (cX11_transitionAt_ok X.2.2.2.2.2.2.2.2.1 w) lkX11_211 hh (q9 := (RX11, TX11, 7)) rfl rfl dX11_setTiming_2 hT ⟨Nat.le_of_ble_eq_true rfl, Nat.le_of_ble_eq_true rfl⟩ rfl (Nat.le_of_ble_eq_true rfl) ⟨Nat.le_of_ble_eq_true rfl, Nat.le_of_ble_eq_true rfl⟩ (Nat.le_of_ble_eq_true rfl) (Nat.le_of_ble_eq_true rfl) (Nat.le_of_ble_eq_true rfl) (Nat.le_of_ble_eq_true rfl) (fun r2 h1 w9 => ?_)
  replace w := w9
  clear w9
  refine V_astoreq X dX11_setTiming_5 (by decide) rfl ?_
  refine V_iload_n X dX11_setTiming_7 3 rfl ?_
  refine V_iconst (y := (-1)) X dX11_setTiming_8 (by decide) ?_
  obtain ⟨w1, w2⟩ := w
  refine V_icmp_lt (tgt := 29) X dX11_setTiming_9 (by decide) (fun z => ?_) (fun z => ?_)
  · replace w := w1 z
    clear w1 w2
    exact V.sub [] rfl (tX11_setTiming_b29 X hT  w)
  · replace w := w2 z
    clear w1 w2
    refine V_iload_n X dX11_setTiming_12 3 rfl ?_
    refine V_sipush (y := 300) X dX11_setTiming_13 (by decide) ?_
    obtain ⟨w1, w2⟩ := w
    refine V_icmp_gt (tgt := 29) X dX11_setTiming_16 (by decide) (fun z => ?_) (fun z => ?_)
    · replace w := w1 z
      clear w1 w2
      exact V.sub [] rfl (tX11_setTiming_b29 X hT  w)
    · replace w := w2 z
      clear w1 w2
      refine V_iload_n X dX11_setTiming_19 4 rfl ?_
      obtain ⟨w1, w2⟩ := w
      refine V_if_lt (tgt := 29) X dX11_setTiming_20 (by decide) (fun z => ?_) (fun z => ?_)
      · replace w := w1 z
        clear w1 w2
        exact V.sub [] rfl (tX11_setTiming_b29 X hT  w)
      · replace w := w2 z
        clear w1 w2
        refine V_iload_n X dX11_setTiming_23 4 rfl ?_
        refine V_bipush (y := 99) X dX11_setTiming_24 (by decide) ?_
        obtain ⟨w1, w2⟩ := w
        refine V_icmp_le (tgt := 39) X dX11_setTiming_26 (by decide) (fun z => ?_) (fun z => ?_)
        · replace w := w1 z
          clear w1 w2
          refine V_iload_n X dX11_setTiming_39 3 rfl ?_
          refine V_iconst (y := (-1)) X dX11_setTiming_40 (by decide) ?_
          obtain ⟨w1, w2⟩ := w
          refine V_icmp_eq (tgt := 62) X dX11_setTiming_41 (by decide) (fun z => ?_) (fun z => ?_)
          · replace w := w1 z
            clear w1 w2
            exact V.sub [3, 4, 0] rfl (tX11_setTiming_b62 X hT  w)
          · replace w := w2 z
            clear w1 w2
            refine V_aload X dX11_setTiming_44 0 rfl ?_
            obtain ⟨a3, rfl, w⟩ := w
            obtain ⟨fs, r4, hh, hv, w⟩ := w
            refine V_get X flX11_217 dX11_setTiming_46 hh hv ?_
            obtain ⟨w1, w2⟩ := w
            refine V_ifnonnull (tgt := 62) X dX11_setTiming_49 (by decide) (fun a5 z => ?_) (fun z => ?_)
            · replace w := w2 a5 z
              clear w1 w2
              subst z
              exact V.sub [3, 4, 0] rfl (tX11_setTiming_b62 X hT  w)
            · replace w := w1 z
              clear w1 w2
              subst z
              exact V_throw X thX11_221_61 dX11_setTiming_52 dX11_setTiming_55 dX11_setTiming_56 dX11_setTiming_58 dX11_setTiming_61 hT ⟨(Nat.le_of_ble_eq_true rfl), (Nat.le_of_ble_eq_true rfl), (Nat.le_of_ble_eq_true rfl), (Nat.le_of_ble_eq_true rfl)⟩ (Nat.le_of_ble_eq_true rfl) (Nat.le_of_ble_eq_true rfl) w
        · replace w := w2 z
          clear w1 w2
          exact V.sub [] rfl (tX11_setTiming_b29 X hT  w)
theorem cX11_setTiming_ok {l : Launch} {G : gG} {h : gH} (hls : l.stackTraces = false) {Qn : Int32 → gH → Prop} {Qx : String → gH → Prop} {v0 : Nat} {v1 : Int32} {v2 : Int32} {v3 : Int32} (w : vX11_setTiming G.2.2.1 Qn Qx h v0 v1 v2 v3) : gXi l yX11_setTiming cX11_setTiming 6 (some FieldType.int) rmX11_setTiming rmX11_setTiming.cells rmX11_setTiming.slots G h [.ref v0, .int v1, .int v2, .int v3] Qn Qx := by
  exact gXi.of (by decide +kernel) hls (Nat.le_of_ble_eq_true rfl) rfl rfl (fun p e s m below meth c A X hT => tX11_setTiming X hT w)
/-! AnimationController.setInterruption(IIZ)I -/
abbrev rmX11_setInterruption : Room := { frames := 7, cells := 2, slots := 12, locals := 111 }
def vX11_setInterruption_b16 (t0 : Nat)  (Qn : Int32 → gH → Prop) (Qx : String → gH → Prop) (h : gH)  : Prop := Qx "java/lang/IllegalArgumentException" h
set_option maxRecDepth 100000 in
set_option maxHeartbeats 4000000 in
theorem tX11_setInterruption_b16 {p : Program} {l : Launch} {e : Env} {s : State} {m : MethodId} {args : Array Value} {below : List Frame} {meth : Method} {c : Code} {G : gG} {A : Nat → Prop} {Qn : Int32 → gH → Prop} {Qx : String → gH → Prop} (X : gC p l s m args meth c G A cX11_setInterruption 6 (some FieldType.int) RX11) (hT : ∀ x ∈ c.exceptionTable.toList, False)   {h : gH}  (w : vX11_setInterruption_b16 G.2.2.1  Qn Qx h ) : V p l e rmX11_setInterruption s m args below meth c (vx_MQ below (va_Qi Qn (gB G A) A) (gXC G A Qx) args s rmX11_setInterruption.cells rmX11_setInterruption.slots A) G A 6 h 1 6 16 [] [] := by
  exact V_throw X thX11_229_47 dX11_setInterruption_16 dX11_setInterruption_19 dX11_setInterruption_20 dX11_setInterruption_22 dX11_setInterruption_25 hT ⟨(Nat.le_of_ble_eq_true rfl), (Nat.le_of_ble_eq_true rfl), (Nat.le_of_ble_eq_true rfl), (Nat.le_of_ble_eq_true rfl)⟩ (Nat.le_of_ble_eq_true rfl) (Nat.le_of_ble_eq_true rfl) w
def vX11_setInterruption (t0 : Nat)  (Qn : Int32 → gH → Prop) (Qx : String → gH → Prop) (h : gH) (v0 : Nat) (v1 : Int32) (v2 : Int32) (v3 : Int32) : Prop := io h v0 14 (vX11_transitionAt t0 (fun r2 h1 => (((v2 : Int32) < 0) → (vX11_setInterruption_b16 t0  Qn Qx h1 )) ∧ ((¬ (v2 : Int32) < 0) → ((((v2 : Int32) ≤ 4) → (nn r2 (fun a3 => gi h1 a3 12 6 (fun x4 => pv h1 a3 12 6 (.int v2) (fun h5 => gZ v3 ∧ (pv h5 a3 12 7 (.int v3) (fun h6 => Qn x4 h6))))))) ∧ ((¬ (v2 : Int32) ≤ 4) → (vX11_setInterruption_b16 t0  Qn Qx h1 ))))) Qx h v0 v1)
set_option maxRecDepth 100000 in
set_option maxHeartbeats 4000000 in
theorem tX11_setInterruption {p : Program} {l : Launch} {e : Env} {s : State} {m : MethodId} {args : Array Value} {below : List Frame} {meth : Method} {c : Code} {G : gG} {A : Nat → Prop} {Qn : Int32 → gH → Prop} {Qx : String → gH → Prop} (X : gC p l s m args meth c G A cX11_setInterruption 6 (some FieldType.int) RX11) (hT : ∀ x ∈ c.exceptionTable.toList, False)   {h : gH} {v0 : Nat} {v1 : Int32} {v2 : Int32} {v3 : Int32} (w : vX11_setInterruption G.2.2.1  Qn Qx h v0 v1 v2 v3) : V p l e rmX11_setInterruption s m args below meth c (vx_MQ below (va_Qi Qn (gB G A) A) (gXC G A Qx) args s rmX11_setInterruption.cells rmX11_setInterruption.slots A) G A 6 h 0 0 0 [(0, .ref v0), (1, .int v1), (2, .int v2), (3, .int v3)] [] := by
  refine V_aloadr_n X dX11_setInterruption_0 0 rfl ?_
  refine V_iload_n X dX11_setInterruption_1 1 rfl ?_
  obtain ⟨fs, hh, w⟩ := w
  refine V_callXq (As := [.int v1]) (rest := []) (k1 := 1) (n1 := 6) X (cX11_transitionAt_ok X.2.2.2.2.2.2.2.2.1 w) lkX11_211 hh (q9 := (RX11, TX11, 7)) rfl rfl dX11_setInterruption_2 hT ⟨Nat.le_of_ble_eq_true rfl, Nat.le_of_ble_eq_true rfl⟩ rfl (Nat.le_of_ble_eq_true rfl) ⟨Nat.le_of_ble_eq_true rfl, Nat.le_of_ble_eq_true rfl⟩ (Nat.le_of_ble_eq_true rfl) (Nat.le_of_ble_eq_true rfl) (Nat.le_of_ble_eq_true rfl) (Nat.le_of_ble_eq_true rfl) (fun r2 h1 w9 => ?_)
  replace w := w9
  clear w9
  refine V_astoreq X dX11_setInterruption_5 (by decide) rfl ?_
  refine V_iload_n X dX11_setInterruption_7 3 rfl ?_
  obtain ⟨w1, w2⟩ := w
  refine V_if_lt (tgt := 16) X dX11_setInterruption_8 (by decide) (fun z => ?_) (fun z => ?_)
  · replace w := w1 z
    clear w1 w2
    exact V.sub [] rfl (tX11_setInterruption_b16 X hT  w)
  · replace w := w2 z
    clear w1 w2
    refine V_iload_n X dX11_setInterruption_11 3 rfl ?_
    refine V_iconst (y := 4) X dX11_setInterruption_12 (by decide) ?_
    obtain ⟨w1, w2⟩ := w
    refine V_icmp_le (tgt := 26) X dX11_setInterruption_13 (by decide) (fun z => ?_) (fun z => ?_)
    · replace w := w1 z
      clear w1 w2
      refine V_aload X dX11_setInterruption_26 0 rfl ?_
      obtain ⟨a3, rfl, w⟩ := w
      obtain ⟨fs, x4, hh, hv, w⟩ := w
      refine V_get X flX11_231 dX11_setInterruption_28 hh hv ?_
      refine V_istore X dX11_setInterruption_31 (by decide) rfl ?_
      refine V_aloadr X dX11_setInterruption_33 1 rfl ?_
      refine V_iload_n X dX11_setInterruption_35 4 rfl ?_
      obtain ⟨fs, hh, hv, w⟩ := w
      refine V_put X flX11_231 dX11_setInterruption_36 hh hv rfl rfl ?_
      generalize va_up _ _ _ = h5 at w ⊢
      refine V_aloadr X dX11_setInterruption_39 1 rfl ?_
      refine V_iload_n X dX11_setInterruption_41 5 rfl ?_
      obtain ⟨hz, w⟩ := w
      obtain ⟨fs, hh, hv, w⟩ := w
      refine V_put X flX11_234 dX11_setInterruption_42 hh hv hz.1 hz.2 ?_
      generalize va_up _ _ _ = h6 at w ⊢
      refine V_iload X dX11_setInterruption_45 0 rfl ?_
      exact V.vx (V_iret X rfl dX11_setInterruption_47 (Nat.le_of_ble_eq_true rfl) (Nat.le_of_ble_eq_true rfl) w)
    · replace w := w2 z
      clear w1 w2
      exact V.sub [] rfl (tX11_setInterruption_b16 X hT  w)
theorem cX11_setInterruption_ok {l : Launch} {G : gG} {h : gH} (hls : l.stackTraces = false) {Qn : Int32 → gH → Prop} {Qx : String → gH → Prop} {v0 : Nat} {v1 : Int32} {v2 : Int32} {v3 : Int32} (w : vX11_setInterruption G.2.2.1 Qn Qx h v0 v1 v2 v3) : gXi l yX11_setInterruption cX11_setInterruption 6 (some FieldType.int) rmX11_setInterruption rmX11_setInterruption.cells rmX11_setInterruption.slots G h [.ref v0, .int v1, .int v2, .int v3] Qn Qx := by
  exact gXi.of (by decide +kernel) hls (Nat.le_of_ble_eq_true rfl) rfl rfl (fun p e s m below meth c A X hT => tX11_setInterruption X hT w)
/-! AnimationController.addCondition(IIII)I -/
abbrev rmX11_addCondition : Room := { frames := 7, cells := 3, slots := 18, locals := 111 }
def vX11_addCondition (t0 : Nat)  (Qn : Int32 → gH → Prop) (Qx : String → gH → Prop) (h : gH) (v0 : Nat) (v1 : Int32) (v2 : Int32) (v3 : Int32) (v4 : Int32) : Prop := io h v0 14 (vX11_transitionAt t0 (fun r2 h1 => io h1 v0 14 (vX11_requireParameter t0 (fun h3 => gr h3 v0 14 0 (fun r4 => nn r4 (fun a5 => io h3 a5 7 (vX4_isCondition t0 (fun x7 h6 => ((¬ (x7 : Int32) = 0) → (nn r2 (fun a8 => gi h6 a8 12 11 (fun x9 => (((x9 : Int32) < 3) → (io h6 a8 12 (vX9_appendCondition t0 (fun h10 => gi h10 a8 12 11 (fun x11 => Qn x11 h10)) h6 a8 v2 v3 v4))) ∧ ((¬ (x9 : Int32) < 3) → (Qx "java/lang/IllegalStateException" h6)))))) ∧ (((x7 : Int32) = 0) → (Qx "java/lang/IllegalArgumentException" h6))) h3 a5 v2 v3 v4)))) Qx h1 v0 v2)) Qx h v0 v1)
set_option maxRecDepth 100000 in
set_option maxHeartbeats 4000000 in
theorem tX11_addCondition {p : Program} {l : Launch} {e : Env} {s : State} {m : MethodId} {args : Array Value} {below : List Frame} {meth : Method} {c : Code} {G : gG} {A : Nat → Prop} {Qn : Int32 → gH → Prop} {Qx : String → gH → Prop} (X : gC p l s m args meth c G A cX11_addCondition 6 (some FieldType.int) RX11) (hT : ∀ x ∈ c.exceptionTable.toList, False)   {h : gH} {v0 : Nat} {v1 : Int32} {v2 : Int32} {v3 : Int32} {v4 : Int32} (w : vX11_addCondition G.2.2.1  Qn Qx h v0 v1 v2 v3 v4) : V p l e rmX11_addCondition s m args below meth c (vx_MQ below (va_Qi Qn (gB G A) A) (gXC G A Qx) args s rmX11_addCondition.cells rmX11_addCondition.slots A) G A 6 h 0 0 0 [(0, .ref v0), (1, .int v1), (2, .int v2), (3, .int v3), (4, .int v4)] [] := by
  refine V_aloadr_n X dX11_addCondition_0 0 rfl ?_
  refine V_iload_n X dX11_addCondition_1 1 rfl ?_
  obtain ⟨fs, hh, w⟩ := w
  refine V_callXq (As := [.int v1]) (rest := []) (k1 := 1) (n1 := 6) X (cX11_transitionAt_ok X.2.2.2.2.2.2.2.2.1 w) lkX11_211 hh (q9 := (RX11, TX11, 7)) rfl rfl dX11_addCondition_2 hT ⟨Nat.le_of_ble_eq_true rfl, Nat.le_of_ble_eq_true rfl⟩ rfl (Nat.le_of_ble_eq_true rfl) ⟨Nat.le_of_ble_eq_true rfl, Nat.le_of_ble_eq_true rfl⟩ (Nat.le_of_ble_eq_true rfl) (Nat.le_of_ble_eq_true rfl) (Nat.le_of_ble_eq_true rfl) (Nat.le_of_ble_eq_true rfl) (fun r2 h1 w9 => ?_)
  replace w := w9
  clear w9
  refine V_astoreq X dX11_addCondition_5 (by decide) rfl ?_
  refine V_aloadr_n X dX11_addCondition_7 1 rfl ?_
  refine V_iload_n X dX11_addCondition_8 3 rfl ?_
  obtain ⟨fs, hh, w⟩ := w
  refine V_callXv (As := [.int v2]) (rest := []) (k1 := 2) (n1 := 12) X (cX11_requireParameter_ok X.2.2.2.2.2.2.2.2.1 w) lkX11_66 hh (q9 := (RX11, TX11, 7)) rfl rfl dX11_addCondition_9 hT ⟨Nat.le_of_ble_eq_true rfl, Nat.le_of_ble_eq_true rfl⟩ rfl (Nat.le_of_ble_eq_true rfl) ⟨Nat.le_of_ble_eq_true rfl, Nat.le_of_ble_eq_true rfl⟩ (Nat.le_of_ble_eq_true rfl) (Nat.le_of_ble_eq_true rfl) (Nat.le_of_ble_eq_true rfl) (Nat.le_of_ble_eq_true rfl) (fun h3 w9 => ?_)
  replace w := w9
  clear w9
  refine V_aloadr_n X dX11_addCondition_12 1 rfl ?_
  obtain ⟨fs, r4, hh, hv, w⟩ := w
  refine V_get X flX11_12 dX11_addCondition_13 hh hv ?_
  refine V_iload_n X dX11_addCondition_16 3 rfl ?_
  refine V_iload_n X dX11_addCondition_17 4 rfl ?_
  refine V_iload X dX11_addCondition_18 5 rfl ?_
  obtain ⟨a5, rfl, w⟩ := w
  obtain ⟨fs, hh, w⟩ := w
  refine V_callVi (As := [.int v2, .int v3, .int v4]) (rest := []) (k1 := 2) (n1 := 12) X (cX4_isCondition_ok X.2.2.2.2.2.2.2.2.1 w) lkX11_238 hh (q9 := (RX4, TX4, 8)) rfl rfl dX11_addCondition_20 ⟨Nat.le_of_ble_eq_true rfl, Nat.le_of_ble_eq_true rfl⟩ rfl (Nat.le_of_ble_eq_true rfl) ⟨Nat.le_of_ble_eq_true rfl, Nat.le_of_ble_eq_true rfl⟩ (Nat.le_of_ble_eq_true rfl) (Nat.le_of_ble_eq_true rfl) (fun x7 h6 w9 => ?_)
  replace w := w9
  clear w9
  obtain ⟨w1, w2⟩ := w
  refine V_if_ne (tgt := 36) X dX11_addCondition_23 (by decide) (fun z => ?_) (fun z => ?_)
  · replace w := w1 z
    clear w1 w2
    refine V_aload X dX11_addCondition_36 0 rfl ?_
    obtain ⟨a8, rfl, w⟩ := w
    obtain ⟨fs, x9, hh, hv, w⟩ := w
    refine V_get X flX11_244 dX11_addCondition_38 hh hv ?_
    refine V_iconst (y := 3) X dX11_addCondition_41 (by decide) ?_
    obtain ⟨w1, w2⟩ := w
    refine V_icmp_lt (tgt := 55) X dX11_addCondition_42 (by decide) (fun z => ?_) (fun z => ?_)
    · replace w := w1 z
      clear w1 w2
      refine V_aloadr X dX11_addCondition_55 0 rfl ?_
      refine V_iload_n X dX11_addCondition_57 3 rfl ?_
      refine V_iload_n X dX11_addCondition_58 4 rfl ?_
      refine V_iload X dX11_addCondition_59 5 rfl ?_
      obtain ⟨fs, hh, w⟩ := w
      refine V_callVv (As := [.int v2, .int v3, .int v4]) (rest := []) (k1 := 2) (n1 := 12) X (cX9_appendCondition_ok X.2.2.2.2.2.2.2.2.1 w) lkX11_249 hh (q9 := (RX9, TX9, 12)) rfl rfl dX11_addCondition_61 ⟨Nat.le_of_ble_eq_true rfl, Nat.le_of_ble_eq_true rfl⟩ rfl (Nat.le_of_ble_eq_true rfl) ⟨Nat.le_of_ble_eq_true rfl, Nat.le_of_ble_eq_true rfl⟩ (Nat.le_of_ble_eq_true rfl) (Nat.le_of_ble_eq_true rfl) (fun h10 w9 => ?_)
      replace w := w9
      clear w9
      refine V_aloadr X dX11_addCondition_64 0 rfl ?_
      obtain ⟨fs, x11, hh, hv, w⟩ := w
      refine V_get X flX11_244 dX11_addCondition_66 hh hv ?_
      exact V.vx (V_iret X rfl dX11_addCondition_69 (Nat.le_of_ble_eq_true rfl) (Nat.le_of_ble_eq_true rfl) w)
    · replace w := w2 z
      clear w1 w2
      exact V_throw X thX11_247_61 dX11_addCondition_45 dX11_addCondition_48 dX11_addCondition_49 dX11_addCondition_51 dX11_addCondition_54 hT ⟨(Nat.le_of_ble_eq_true rfl), (Nat.le_of_ble_eq_true rfl), (Nat.le_of_ble_eq_true rfl), (Nat.le_of_ble_eq_true rfl)⟩ (Nat.le_of_ble_eq_true rfl) (Nat.le_of_ble_eq_true rfl) w
  · replace w := w2 z
    clear w1 w2
    exact V_throw X thX11_242_47 dX11_addCondition_26 dX11_addCondition_29 dX11_addCondition_30 dX11_addCondition_32 dX11_addCondition_35 hT ⟨(Nat.le_of_ble_eq_true rfl), (Nat.le_of_ble_eq_true rfl), (Nat.le_of_ble_eq_true rfl), (Nat.le_of_ble_eq_true rfl)⟩ (Nat.le_of_ble_eq_true rfl) (Nat.le_of_ble_eq_true rfl) w
theorem cX11_addCondition_ok {l : Launch} {G : gG} {h : gH} (hls : l.stackTraces = false) {Qn : Int32 → gH → Prop} {Qx : String → gH → Prop} {v0 : Nat} {v1 : Int32} {v2 : Int32} {v3 : Int32} {v4 : Int32} (w : vX11_addCondition G.2.2.1 Qn Qx h v0 v1 v2 v3 v4) : gXi l yX11_addCondition cX11_addCondition 6 (some FieldType.int) rmX11_addCondition rmX11_addCondition.cells rmX11_addCondition.slots G h [.ref v0, .int v1, .int v2, .int v3, .int v4] Qn Qx := by
  exact gXi.of (by decide +kernel) hls (Nat.le_of_ble_eq_true rfl) rfl rfl (fun p e s m below meth c A X hT => tX11_addCondition X hT w)
/-! AnimationController.setThreshold(I)I -/
abbrev rmX11_setThreshold : Room := { frames := 6, cells := 1, slots := 6, locals := 90 }
def vX11_setThreshold_b10 (t0 : Nat)  (Qn : Int32 → gH → Prop) (Qx : String → gH → Prop) (h : gH)  : Prop := Qx "java/lang/IllegalArgumentException" h
set_option maxRecDepth 100000 in
set_option maxHeartbeats 4000000 in
theorem tX11_setThreshold_b10 {p : Program} {l : Launch} {e : Env} {s : State} {m : MethodId} {args : Array Value} {below : List Frame} {meth : Method} {c : Code} {G : gG} {A : Nat → Prop} {Qn : Int32 → gH → Prop} {Qx : String → gH → Prop} (X : gC p l s m args meth c G A cX11_setThreshold 3 (some FieldType.int) RX11) (hT : ∀ x ∈ c.exceptionTable.toList, False)   {h : gH}  (w : vX11_setThreshold_b10 G.2.2.1  Qn Qx h ) : V p l e rmX11_setThreshold s m args below meth c (vx_MQ below (va_Qi Qn (gB G A) A) (gXC G A Qx) args s rmX11_setThreshold.cells rmX11_setThreshold.slots A) G A 3 h 0 0 10 [] [] := by
  exact V_throw X thX11_253_47 dX11_setThreshold_10 dX11_setThreshold_13 dX11_setThreshold_14 dX11_setThreshold_16 dX11_setThreshold_19 hT ⟨(Nat.le_of_ble_eq_true rfl), (Nat.le_of_ble_eq_true rfl), (Nat.le_of_ble_eq_true rfl), (Nat.le_of_ble_eq_true rfl)⟩ (Nat.le_of_ble_eq_true rfl) (Nat.le_of_ble_eq_true rfl) w
def vX11_setThreshold (t0 : Nat)  (Qn : Int32 → gH → Prop) (Qx : String → gH → Prop) (h : gH) (v0 : Nat) (v1 : Int32) : Prop := (((v1 : Int32) < 0) → (vX11_setThreshold_b10 t0  Qn Qx h )) ∧ ((¬ (v1 : Int32) < 0) → ((((v1 : Int32) ≤ 100) → (gr h v0 14 0 (fun r1 => nn r1 (fun a2 => gi h a2 7 6 (fun x3 => gr h v0 14 0 (fun r4 => nn r4 (fun a5 => pv h a5 7 6 (.int v1) (fun h6 => Qn x3 h6)))))))) ∧ ((¬ (v1 : Int32) ≤ 100) → (vX11_setThreshold_b10 t0  Qn Qx h ))))
set_option maxRecDepth 100000 in
set_option maxHeartbeats 4000000 in
theorem tX11_setThreshold {p : Program} {l : Launch} {e : Env} {s : State} {m : MethodId} {args : Array Value} {below : List Frame} {meth : Method} {c : Code} {G : gG} {A : Nat → Prop} {Qn : Int32 → gH → Prop} {Qx : String → gH → Prop} (X : gC p l s m args meth c G A cX11_setThreshold 3 (some FieldType.int) RX11) (hT : ∀ x ∈ c.exceptionTable.toList, False)   {h : gH} {v0 : Nat} {v1 : Int32} (w : vX11_setThreshold G.2.2.1  Qn Qx h v0 v1) : V p l e rmX11_setThreshold s m args below meth c (vx_MQ below (va_Qi Qn (gB G A) A) (gXC G A Qx) args s rmX11_setThreshold.cells rmX11_setThreshold.slots A) G A 3 h 0 0 0 [(0, .ref v0), (1, .int v1)] [] := by
  refine V_iload_n X dX11_setThreshold_0 1 rfl ?_
  obtain ⟨w1, w2⟩ := w
  refine V_if_lt (tgt := 10) X dX11_setThreshold_1 (by decide) (fun z => ?_) (fun z => ?_)
  · replace w := w1 z
    clear w1 w2
    exact V.sub [] rfl (tX11_setThreshold_b10 X hT  w)
  · replace w := w2 z
    clear w1 w2
    refine V_iload_n X dX11_setThreshold_4 1 rfl ?_
    refine V_bipush (y := 100) X dX11_setThreshold_5 (by decide) ?_
    obtain ⟨w1, w2⟩ := w
    refine V_icmp_le (tgt := 20) X dX11_setThreshold_7 (by decide) (fun z => ?_) (fun z => ?_)
    · replace w := w1 z
      clear w1 w2
      refine V_aloadr_n X dX11_setThreshold_20 0 rfl ?_
      obtain ⟨fs, r1, hh, hv, w⟩ := w
      refine V_get X flX11_12 dX11_setThreshold_21 hh hv ?_
      obtain ⟨a2, rfl, w⟩ := w
      obtain ⟨fs, x3, hh, hv, w⟩ := w
      refine V_get X flX11_255 dX11_setThreshold_24 hh hv ?_
      refine V_istore_n (i0 := 2) X dX11_setThreshold_27 rfl (by decide) rfl ?_
      refine V_aloadr_n X dX11_setThreshold_28 1 rfl ?_
      obtain ⟨fs, r4, hh, hv, w⟩ := w
      refine V_get X flX11_12 dX11_setThreshold_29 hh hv ?_
      refine V_iload_n X dX11_setThreshold_32 2 rfl ?_
      obtain ⟨a5, rfl, w⟩ := w
      obtain ⟨fs, hh, hv, w⟩ := w
      refine V_put X flX11_255 dX11_setThreshold_33 hh hv rfl rfl ?_
      generalize va_up _ _ _ = h6 at w ⊢
      refine V_iload_n X dX11_setThreshold_36 0 rfl ?_
      exact V.vx (V_iret X rfl dX11_setThreshold_37 (Nat.le_of_ble_eq_true rfl) (Nat.le_of_ble_eq_true rfl) w)
    · replace w := w2 z
      clear w1 w2
      exact V.sub [] rfl (tX11_setThreshold_b10 X hT  w)
theorem cX11_setThreshold_ok {l : Launch} {G : gG} {h : gH} (hls : l.stackTraces = false) {Qn : Int32 → gH → Prop} {Qx : String → gH → Prop} {v0 : Nat} {v1 : Int32} (w : vX11_setThreshold G.2.2.1 Qn Qx h v0 v1) : gXi l yX11_setThreshold cX11_setThreshold 3 (some FieldType.int) rmX11_setThreshold rmX11_setThreshold.cells rmX11_setThreshold.slots G h [.ref v0, .int v1] Qn Qx := by
  exact gXi.of (by decide +kernel) hls (Nat.le_of_ble_eq_true rfl) rfl rfl (fun p e s m below meth c A X hT => tX11_setThreshold X hT w)
/-! AnimationController.type(I)I -/
abbrev rmX11_type : Room := { frames := 6, cells := 1, slots := 6, locals := 90 }
def vX11_type_b11 (t0 : Nat)  (Qn : Int32 → gH → Prop) (Qx : String → gH → Prop) (h : gH)  : Prop := Qx "java/lang/IllegalArgumentException" h
set_option maxRecDepth 100000 in
set_option maxHeartbeats 4000000 in
theorem tX11_type_b11 {p : Program} {l : Launch} {e : Env} {s : State} {m : MethodId} {args : Array Value} {below : List Frame} {meth : Method} {c : Code} {G : gG} {A : Nat → Prop} {Qn : Int32 → gH → Prop} {Qx : String → gH → Prop} (X : gC p l s m args meth c G A cX11_type 2 (some FieldType.int) RX11) (hT : ∀ x ∈ c.exceptionTable.toList, False)   {h : gH}  (w : vX11_type_b11 G.2.2.1  Qn Qx h ) : V p l e rmX11_type s m args below meth c (vx_MQ below (va_Qi Qn (gB G A) A) (gXC G A Qx) args s rmX11_type.cells rmX11_type.slots A) G A 2 h 0 0 11 [] [] := by
  exact V_throwW X thX11_258_47 dX11_type_11 dX11_type_14 dX11_type_15 dX11_type_18 dX11_type_21 hT ⟨(Nat.le_of_ble_eq_true rfl), (Nat.le_of_ble_eq_true rfl), (Nat.le_of_ble_eq_true rfl), (Nat.le_of_ble_eq_true rfl)⟩ (Nat.le_of_ble_eq_true rfl) (Nat.le_of_ble_eq_true rfl) w
def vX11_type (t0 : Nat)  (Qn : Int32 → gH → Prop) (Qx : String → gH → Prop) (h : gH) (v0 : Nat) (v1 : Int32) : Prop := (((v1 : Int32) < 0) → (vX11_type_b11 t0  Qn Qx h )) ∧ ((¬ (v1 : Int32) < 0) → ((((v1 : Int32) ≤ 255) → (gr h v0 14 1 (fun r1 => nn r1 (fun a2 => gi h a2 13 2 (fun x3 => gr h v0 14 1 (fun r4 => nn r4 (fun a5 => gr h a5 13 1 (fun r6 => nn r6 (fun a7 => al h a7 (fun x8 => (((x3 : Int32) < x8) → (gr h v0 14 1 (fun r9 => nn r9 (fun a10 => gr h a10 13 1 (fun r11 => gr h v0 14 1 (fun r12 => nn r12 (fun a13 => gi h a13 13 2 (fun x14 => nn r11 (fun a15 => si h a15 x14 v1 (fun h16 => gr h16 v0 14 1 (fun r17 => nn r17 (fun a18 => gi h16 a18 13 2 (fun x19 => pv h16 a18 13 2 (.int (x19 + 1)) (fun h20 => gr h20 v0 14 1 (fun r21 => nn r21 (fun a22 => gi h20 a22 13 2 (fun x23 => Qn x23 h20))))))))))))))))) ∧ ((¬ (x3 : Int32) < x8) → (Qx "java/lang/IllegalStateException" h)))))))))))) ∧ ((¬ (v1 : Int32) ≤ 255) → (vX11_type_b11 t0  Qn Qx h ))))
set_option maxRecDepth 100000 in
set_option maxHeartbeats 4000000 in
theorem tX11_type {p : Program} {l : Launch} {e : Env} {s : State} {m : MethodId} {args : Array Value} {below : List Frame} {meth : Method} {c : Code} {G : gG} {A : Nat → Prop} {Qn : Int32 → gH → Prop} {Qx : String → gH → Prop} (X : gC p l s m args meth c G A cX11_type 2 (some FieldType.int) RX11) (hT : ∀ x ∈ c.exceptionTable.toList, False)   {h : gH} {v0 : Nat} {v1 : Int32} (w : vX11_type G.2.2.1  Qn Qx h v0 v1) : V p l e rmX11_type s m args below meth c (vx_MQ below (va_Qi Qn (gB G A) A) (gXC G A Qx) args s rmX11_type.cells rmX11_type.slots A) G A 2 h 0 0 0 [(0, .ref v0), (1, .int v1)] [] := by
  refine V_iload_n X dX11_type_0 1 rfl ?_
  obtain ⟨w1, w2⟩ := w
  refine V_if_lt (tgt := 11) X dX11_type_1 (by decide) (fun z => ?_) (fun z => ?_)
  · replace w := w1 z
    clear w1 w2
    exact V.sub [] rfl (tX11_type_b11 X hT  w)
  · replace w := w2 z
    clear w1 w2
    refine V_iload_n X dX11_type_4 1 rfl ?_
    refine V_sipush (y := 255) X dX11_type_5 (by decide) ?_
    obtain ⟨w1, w2⟩ := w
    refine V_icmp_le (tgt := 22) X dX11_type_8 (by decide) (fun z => ?_) (fun z => ?_)
    · replace w := w1 z
      clear w1 w2
      refine V_aloadr_n X dX11_type_22 0 rfl ?_
      obtain ⟨fs, r1, hh, hv, w⟩ := w
      refine V_get X flX11_21 dX11_type_23 hh hv ?_
      obtain ⟨a2, rfl, w⟩ := w
      obtain ⟨fs, x3, hh, hv, w⟩ := w
      refine V_get X flX11_260 dX11_type_26 hh hv ?_
      refine V_aloadr_n X dX11_type_29 0 rfl ?_
      obtain ⟨fs, r4, hh, hv, w⟩ := w
      refine V_get X flX11_21 dX11_type_30 hh hv ?_
      obtain ⟨a5, rfl, w⟩ := w
      obtain ⟨fs, r6, hh, hv, w⟩ := w
      refine V_get3 X frX11_261 dX11_type_33 hh hv ?_
      obtain ⟨a7, rfl, w⟩ := w
      obtain ⟨kt9, x9, hh, hk9, w⟩ := w
      refine V_alen X dX11_type_36 hh hk9 ?_
      generalize Int32.ofNat _ = x8 at w ⊢
      obtain ⟨w1, w2⟩ := w
      refine V_icmp_lt (tgt := 51) X dX11_type_37 (by decide) (fun z => ?_) (fun z => ?_)
      · replace w := w1 z
        clear w1 w2
        refine V_aloadr_n X dX11_type_51 0 rfl ?_
        obtain ⟨fs, r9, hh, hv, w⟩ := w
        refine V_get X flX11_21 dX11_type_52 hh hv ?_
        obtain ⟨a10, rfl, w⟩ := w
        obtain ⟨fs, r11, hh, hv, w⟩ := w
        refine V_get3 X frX11_261 dX11_type_55 hh hv ?_
        refine V_aloadr_n X dX11_type_58 0 rfl ?_
        obtain ⟨fs, r12, hh, hv, w⟩ := w
        refine V_get X flX11_21 dX11_type_59 hh hv ?_
        obtain ⟨a13, rfl, w⟩ := w
        obtain ⟨fs, x14, hh, hv, w⟩ := w
        refine V_get X flX11_260 dX11_type_62 hh hv ?_
        refine V_iload_n X dX11_type_65 1 rfl ?_
        obtain ⟨a15, rfl, w⟩ := w
        obtain ⟨N9, g9, hh, hi, w⟩ := w
        refine V_iast X dX11_type_66 hh hi ?_
        generalize va_up _ _ _ = h16 at w ⊢
        refine V_aloadr_n X dX11_type_67 0 rfl ?_
        obtain ⟨fs, r17, hh, hv, w⟩ := w
        refine V_get X flX11_21 dX11_type_68 hh hv ?_
        refine V_dup X dX11_type_71 (va_cat1 _) ?_
        obtain ⟨a18, rfl, w⟩ := w
        obtain ⟨fs, x19, hh, hv, w⟩ := w
        refine V_get X flX11_260 dX11_type_72 hh hv ?_
        refine V_iconst (y := 1) X dX11_type_75 (by decide) ?_
        refine V_iadd X dX11_type_76 ?_
        obtain ⟨fs, hh, hv, w⟩ := w
        refine V_put X flX11_260 dX11_type_77 hh hv rfl rfl ?_
        generalize va_up _ _ _ = h20 at w ⊢
        refine V_aloadr_n X dX11_type_80 0 rfl ?_
        obtain ⟨fs, r21, hh, hv, w⟩ := w
        refine V_get X flX11_21 dX11_type_81 hh hv ?_
        obtain ⟨a22, rfl, w⟩ := w
        obtain ⟨fs, x23, hh, hv, w⟩ := w
        refine V_get X flX11_260 dX11_type_84 hh hv ?_
        exact V.vx (V_iret X rfl dX11_type_87 (Nat.le_of_ble_eq_true rfl) (Nat.le_of_ble_eq_true rfl) w)
      · replace w := w2 z
        clear w1 w2
        exact V_throwW X thX11_264_61 dX11_type_40 dX11_type_43 dX11_type_44 dX11_type_47 dX11_type_50 hT ⟨(Nat.le_of_ble_eq_true rfl), (Nat.le_of_ble_eq_true rfl), (Nat.le_of_ble_eq_true rfl), (Nat.le_of_ble_eq_true rfl)⟩ (Nat.le_of_ble_eq_true rfl) (Nat.le_of_ble_eq_true rfl) w
    · replace w := w2 z
      clear w1 w2
      exact V.sub [] rfl (tX11_type_b11 X hT  w)
theorem cX11_type_ok {l : Launch} {G : gG} {h : gH} (hls : l.stackTraces = false) {Qn : Int32 → gH → Prop} {Qx : String → gH → Prop} {v0 : Nat} {v1 : Int32} (w : vX11_type G.2.2.1 Qn Qx h v0 v1) : gXi l yX11_type cX11_type 2 (some FieldType.int) rmX11_type rmX11_type.cells rmX11_type.slots G h [.ref v0, .int v1] Qn Qx := by
  exact gXi.of (by decide +kernel) hls (Nat.le_of_ble_eq_true rfl) rfl rfl (fun p e s m below meth c A X hT => tX11_type X hT w)
/-! AnimationController.clearText()I -/
abbrev rmX11_clearText : Room := { frames := 0, cells := 0, slots := 0, locals := 0 }
def vX11_clearText (t0 : Nat)  (Qn : Int32 → gH → Prop) (h : gH) (v0 : Nat) : Prop := gr h v0 14 1 (fun r1 => nn r1 (fun a2 => gi h a2 13 2 (fun x3 => gr h v0 14 1 (fun r4 => nn r4 (fun a5 => pv h a5 13 2 (.int 0) (fun h6 => Qn x3 h6))))))
set_option maxRecDepth 100000 in
set_option maxHeartbeats 4000000 in
theorem tX11_clearText {p : Program} {l : Launch} {e : Env} {s : State} {m : MethodId} {args : Array Value} {below : List Frame} {meth : Method} {c : Code} {G : gG} {A : Nat → Prop} {Qn : Int32 → gH → Prop} (X : gC p l s m args meth c G A cX11_clearText 2 (some FieldType.int) RX11)   {h : gH} {v0 : Nat} (w : vX11_clearText G.2.2.1  Qn h v0) : V p l e rmX11_clearText s m args below meth c (MQ below (va_Qi Qn (gB G A) A) args s rmX11_clearText.cells rmX11_clearText.slots A) G A 2 h 0 0 0 [(0, .ref v0)] [] := by
  refine V_aloadr_n X dX11_clearText_0 0 rfl ?_
  obtain ⟨fs, r1, hh, hv, w⟩ := w
  refine V_get X flX11_21 dX11_clearText_1 hh hv ?_
  obtain ⟨a2, rfl, w⟩ := w
  obtain ⟨fs, x3, hh, hv, w⟩ := w
  refine V_get X flX11_260 dX11_clearText_4 hh hv ?_
  refine V_istore_n (i0 := 1) X dX11_clearText_7 rfl (by decide) rfl ?_
  refine V_aloadr_n X dX11_clearText_8 1 rfl ?_
  obtain ⟨fs, r4, hh, hv, w⟩ := w
  refine V_get X flX11_21 dX11_clearText_9 hh hv ?_
  refine V_iconst (y := 0) X dX11_clearText_12 (by decide) ?_
  obtain ⟨a5, rfl, w⟩ := w
  obtain ⟨fs, hh, hv, w⟩ := w
  refine V_put X flX11_260 dX11_clearText_13 hh hv rfl rfl ?_
  generalize va_up _ _ _ = h6 at w ⊢
  refine V_iload_n X dX11_clearText_16 0 rfl ?_
  exact V_iret X rfl dX11_clearText_17 (Nat.le_of_ble_eq_true rfl) (Nat.le_of_ble_eq_true rfl) w
theorem cX11_clearText_ok {l : Launch} {G : gG} {h : gH} (hls : l.stackTraces = false) {Qn : Int32 → gH → Prop} {v0 : Nat} (w : vX11_clearText G.2.2.1 Qn h v0) : gMi l yX11_clearText cX11_clearText 2 (some FieldType.int) rmX11_clearText rmX11_clearText.cells rmX11_clearText.slots G h [.ref v0] Qn := by
  exact gMi.of (by decide +kernel) hls (Nat.le_of_ble_eq_true rfl) rfl rfl (fun p e s m below meth c A X hnm => tX11_clearText X w)
/-! AnimationController.fault()I -/
abbrev rmX11_fault : Room := { frames := 9, cells := 125, slots := 2125, locals := 236 }
def vX11_fault (t0 : Nat)  (Qn : Int32 → gH → Prop) (h : gH) (v0 : Nat) : Prop := gr h v0 14 1 (fun r1 => nn r1 (fun a2 => io h a2 13 (vX10_readAll t0 (fun x4 h3 => Qn x4 h3) h a2 0)))
set_option maxRecDepth 100000 in
set_option maxHeartbeats 4000000 in
theorem tX11_fault {p : Program} {l : Launch} {e : Env} {s : State} {m : MethodId} {args : Array Value} {below : List Frame} {meth : Method} {c : Code} {G : gG} {A : Nat → Prop} {Qn : Int32 → gH → Prop} (X : gC p l s m args meth c G A cX11_fault 1 (some FieldType.int) RX11)   {h : gH} {v0 : Nat} (w : vX11_fault G.2.2.1  Qn h v0) : V p l e rmX11_fault s m args below meth c (MQ below (va_Qi Qn (gB G A) A) args s rmX11_fault.cells rmX11_fault.slots A) G A 1 h 0 0 0 [(0, .ref v0)] [] := by
  refine V_aloadr_n X dX11_fault_0 0 rfl ?_
  obtain ⟨fs, r1, hh, hv, w⟩ := w
  refine V_get X flX11_21 dX11_fault_1 hh hv ?_
  refine V_iconst (y := 0) X dX11_fault_4 (by decide) ?_
  obtain ⟨a2, rfl, w⟩ := w
  obtain ⟨fs, hh, w⟩ := w
  refine V_callVi (As := [.int 0]) (rest := []) (k1 := 125) (n1 := 2125) X (cX10_readAll_ok X.2.2.2.2.2.2.2.2.1 w) lkX11_266 hh (q9 := (RX10, TX10, 5)) rfl rfl dX11_fault_5 ⟨Nat.le_of_ble_eq_true rfl, Nat.le_of_ble_eq_true rfl⟩ rfl (Nat.le_of_ble_eq_true rfl) ⟨Nat.le_of_ble_eq_true rfl, Nat.le_of_ble_eq_true rfl⟩ (Nat.le_of_ble_eq_true rfl) (Nat.le_of_ble_eq_true rfl) (fun x4 h3 w9 => ?_)
  replace w := w9
  clear w9
  exact V_iret X rfl dX11_fault_8 (Nat.le_of_ble_eq_true rfl) (Nat.le_of_ble_eq_true rfl) w
theorem cX11_fault_ok {l : Launch} {G : gG} {h : gH} (hls : l.stackTraces = false) {Qn : Int32 → gH → Prop} {v0 : Nat} (w : vX11_fault G.2.2.1 Qn h v0) : gMi l yX11_fault cX11_fault 1 (some FieldType.int) rmX11_fault rmX11_fault.cells rmX11_fault.slots G h [.ref v0] Qn := by
  exact gMi.of (by decide +kernel) hls (Nat.le_of_ble_eq_true rfl) rfl rfl (fun p e s m below meth c A X hnm => tX11_fault X w)
/-! AnimationController.load()I -/
abbrev rmX11_load : Room := { frames := 9, cells := 250, slots := 4250, locals := 236 }
def vX11_load (t0 : Nat)  (Qn : Int32 → gH → Prop) (Qx : String → gH → Prop) (h : gH) (v0 : Nat) : Prop := gr h v0 14 1 (fun r1 => nn r1 (fun a2 => io h a2 13 (vX10_readAll t0 (fun x4 h3 => (((x4 : Int32) = (-1)) → (gr h3 v0 14 0 (fun r5 => nn r5 (fun a6 => gr h3 a6 7 5 (fun r7 => nn r7 (fun a8 => io h3 a8 2 (vJx4a65c_size_8abf5 t0 (fun x10 h9 => gr h9 v0 14 1 (fun r11 => nn r11 (fun a12 => io h9 a12 13 (vX10_readAll t0 (fun x14 h13 => gr h13 v0 14 1 (fun r15 => nn r15 (fun a16 => pv h13 a16 13 2 (.int 0) (fun h17 => gr h17 v0 14 0 (fun r18 => nn r18 (fun a19 => gr h17 a19 7 5 (fun r20 => nn r20 (fun a21 => io h17 a21 2 (vJx4a65c_size_8abf5 t0 (fun x23 h22 => Qn (x23 - x10) h22) h17 a21 ))))))))) h9 a12 1)))) h3 a8 ))))))) ∧ ((¬ (x4 : Int32) = (-1)) → (Qx "java/lang/IllegalStateException" h3))) h a2 0)))
set_option maxRecDepth 100000 in
set_option maxHeartbeats 4000000 in
theorem tX11_load {p : Program} {l : Launch} {e : Env} {s : State} {m : MethodId} {args : Array Value} {below : List Frame} {meth : Method} {c : Code} {G : gG} {A : Nat → Prop} {Qn : Int32 → gH → Prop} {Qx : String → gH → Prop} (X : gC p l s m args meth c G A cX11_load 2 (some FieldType.int) RX11) (hT : ∀ x ∈ c.exceptionTable.toList, False)   {h : gH} {v0 : Nat} (w : vX11_load G.2.2.1  Qn Qx h v0) : V p l e rmX11_load s m args below meth c (vx_MQ below (va_Qi Qn (gB G A) A) (gXC G A Qx) args s rmX11_load.cells rmX11_load.slots A) G A 2 h 0 0 0 [(0, .ref v0)] [] := by
  refine V_aloadr_n X dX11_load_0 0 rfl ?_
  obtain ⟨fs, r1, hh, hv, w⟩ := w
  refine V_get X flX11_21 dX11_load_1 hh hv ?_
  refine V_iconst (y := 0) X dX11_load_4 (by decide) ?_
  obtain ⟨a2, rfl, w⟩ := w
  obtain ⟨fs, hh, w⟩ := w
  refine V_callVi (As := [.int 0]) (rest := []) (k1 := 125) (n1 := 2125) X (cX10_readAll_ok X.2.2.2.2.2.2.2.2.1 w) lkX11_266 hh (q9 := (RX10, TX10, 5)) rfl rfl dX11_load_5 ⟨Nat.le_of_ble_eq_true rfl, Nat.le_of_ble_eq_true rfl⟩ rfl (Nat.le_of_ble_eq_true rfl) ⟨Nat.le_of_ble_eq_true rfl, Nat.le_of_ble_eq_true rfl⟩ (Nat.le_of_ble_eq_true rfl) (Nat.le_of_ble_eq_true rfl) (fun x4 h3 w9 => ?_)
  replace w := w9
  clear w9
  refine V_iconst (y := (-1)) X dX11_load_8 (by decide) ?_
  obtain ⟨w1, w2⟩ := w
  refine V_icmp_eq (tgt := 23) X dX11_load_9 (by decide) (fun z => ?_) (fun z => ?_)
  · replace w := w1 z
    clear w1 w2
    refine V_aloadr_n X dX11_load_23 0 rfl ?_
    obtain ⟨fs, r5, hh, hv, w⟩ := w
    refine V_get X flX11_12 dX11_load_24 hh hv ?_
    obtain ⟨a6, rfl, w⟩ := w
    obtain ⟨fs, r7, hh, hv, w⟩ := w
    refine V_get3 X frX11_196 dX11_load_27 hh hv ?_
    obtain ⟨a8, rfl, w⟩ := w
    obtain ⟨fs, hh, w⟩ := w
    refine V_callVi (As := []) (rest := []) (k1 := 125) (n1 := 2125) X (cJx4a65c_size_8abf5_ok X.2.2.2.2.2.2.2.2.1 w) lkX11_90 hh (q9 := (RJx4a65c, TJx4a65c, 3)) rfl rfl dX11_load_30 ⟨Nat.le_of_ble_eq_true rfl, Nat.le_of_ble_eq_true rfl⟩ rfl (Nat.le_of_ble_eq_true rfl) ⟨Nat.le_of_ble_eq_true rfl, Nat.le_of_ble_eq_true rfl⟩ (Nat.le_of_ble_eq_true rfl) (Nat.le_of_ble_eq_true rfl) (fun x10 h9 w9 => ?_)
    replace w := w9
    clear w9
    refine V_istore_n (i0 := 1) X dX11_load_33 rfl (by decide) rfl ?_
    refine V_aloadr_n X dX11_load_34 1 rfl ?_
    obtain ⟨fs, r11, hh, hv, w⟩ := w
    refine V_get X flX11_21 dX11_load_35 hh hv ?_
    refine V_iconst (y := 1) X dX11_load_38 (by decide) ?_
    obtain ⟨a12, rfl, w⟩ := w
    obtain ⟨fs, hh, w⟩ := w
    refine V_callVi (As := [.int 1]) (rest := []) (k1 := 250) (n1 := 4250) X (cX10_readAll_ok X.2.2.2.2.2.2.2.2.1 w) lkX11_266 hh (q9 := (RX10, TX10, 5)) rfl rfl dX11_load_39 ⟨Nat.le_of_ble_eq_true rfl, Nat.le_of_ble_eq_true rfl⟩ rfl (Nat.le_of_ble_eq_true rfl) ⟨Nat.le_of_ble_eq_true rfl, Nat.le_of_ble_eq_true rfl⟩ (Nat.le_of_ble_eq_true rfl) (Nat.le_of_ble_eq_true rfl) (fun x14 h13 w9 => ?_)
    replace w := w9
    clear w9
    refine V_pop X dX11_load_42 rfl ?_
    refine V_aloadr_n X dX11_load_43 1 rfl ?_
    obtain ⟨fs, r15, hh, hv, w⟩ := w
    refine V_get X flX11_21 dX11_load_44 hh hv ?_
    refine V_iconst (y := 0) X dX11_load_47 (by decide) ?_
    obtain ⟨a16, rfl, w⟩ := w
    obtain ⟨fs, hh, hv, w⟩ := w
    refine V_put X flX11_260 dX11_load_48 hh hv rfl rfl ?_
    generalize va_up _ _ _ = h17 at w ⊢
    refine V_aloadr_n X dX11_load_51 1 rfl ?_
    obtain ⟨fs, r18, hh, hv, w⟩ := w
    refine V_get X flX11_12 dX11_load_52 hh hv ?_
    obtain ⟨a19, rfl, w⟩ := w
    obtain ⟨fs, r20, hh, hv, w⟩ := w
    refine V_get3 X frX11_196 dX11_load_55 hh hv ?_
    obtain ⟨a21, rfl, w⟩ := w
    obtain ⟨fs, hh, w⟩ := w
    refine V_callVi (As := []) (rest := []) (k1 := 250) (n1 := 4250) X (cJx4a65c_size_8abf5_ok X.2.2.2.2.2.2.2.2.1 w) lkX11_90 hh (q9 := (RJx4a65c, TJx4a65c, 3)) rfl rfl dX11_load_58 ⟨Nat.le_of_ble_eq_true rfl, Nat.le_of_ble_eq_true rfl⟩ rfl (Nat.le_of_ble_eq_true rfl) ⟨Nat.le_of_ble_eq_true rfl, Nat.le_of_ble_eq_true rfl⟩ (Nat.le_of_ble_eq_true rfl) (Nat.le_of_ble_eq_true rfl) (fun x23 h22 w9 => ?_)
    replace w := w9
    clear w9
    refine V_iload_n X dX11_load_61 0 rfl ?_
    refine V_isub X dX11_load_62 ?_
    exact V.vx (V_iret X rfl dX11_load_63 (Nat.le_of_ble_eq_true rfl) (Nat.le_of_ble_eq_true rfl) w)
  · replace w := w2 z
    clear w1 w2
    exact V_throwW X thX11_270_61 dX11_load_12 dX11_load_15 dX11_load_16 dX11_load_19 dX11_load_22 hT ⟨(Nat.le_of_ble_eq_true rfl), (Nat.le_of_ble_eq_true rfl), (Nat.le_of_ble_eq_true rfl), (Nat.le_of_ble_eq_true rfl)⟩ (Nat.le_of_ble_eq_true rfl) (Nat.le_of_ble_eq_true rfl) w
theorem cX11_load_ok {l : Launch} {G : gG} {h : gH} (hls : l.stackTraces = false) {Qn : Int32 → gH → Prop} {Qx : String → gH → Prop} {v0 : Nat} (w : vX11_load G.2.2.1 Qn Qx h v0) : gXi l yX11_load cX11_load 2 (some FieldType.int) rmX11_load rmX11_load.cells rmX11_load.slots G h [.ref v0] Qn Qx := by
  exact gXi.of (by decide +kernel) hls (Nat.le_of_ble_eq_true rfl) rfl rfl (fun p e s m below meth c A X hT => tX11_load X hT w)
/-! AnimationController.requireTicks(I)V -/
abbrev rmX11_requireTicks : Room := { frames := 6, cells := 1, slots := 6, locals := 90 }
def vX11_requireTicks_b11 (t0 : Nat)  (Qn : gH → Prop) (Qx : String → gH → Prop) (h : gH)  : Prop := Qx "java/lang/IllegalArgumentException" h
set_option maxRecDepth 100000 in
set_option maxHeartbeats 4000000 in
theorem tX11_requireTicks_b11 {p : Program} {l : Launch} {e : Env} {s : State} {m : MethodId} {args : Array Value} {below : List Frame} {meth : Method} {c : Code} {G : gG} {A : Nat → Prop} {Qn : gH → Prop} {Qx : String → gH → Prop} (X : gC p l s m args meth c G A cX11_requireTicks 2 none RX11) (hT : ∀ x ∈ c.exceptionTable.toList, False)   {h : gH}  (w : vX11_requireTicks_b11 G.2.2.1  Qn Qx h ) : V p l e rmX11_requireTicks s m args below meth c (vx_MQ below (va_Qv Qn (gB G A) A) (gXC G A Qx) args s rmX11_requireTicks.cells rmX11_requireTicks.slots A) G A 2 h 0 0 11 [] [] := by
  exact V_throwW X thX11_428_47 dX11_requireTicks_11 dX11_requireTicks_14 dX11_requireTicks_15 dX11_requireTicks_18 dX11_requireTicks_21 hT ⟨(Nat.le_of_ble_eq_true rfl), (Nat.le_of_ble_eq_true rfl), (Nat.le_of_ble_eq_true rfl), (Nat.le_of_ble_eq_true rfl)⟩ (Nat.le_of_ble_eq_true rfl) (Nat.le_of_ble_eq_true rfl) w
def vX11_requireTicks (t0 : Nat)  (Qn : gH → Prop) (Qx : String → gH → Prop) (h : gH) (v0 : Nat) (v1 : Int32) : Prop := (((v1 : Int32) < 1) → (vX11_requireTicks_b11 t0  Qn Qx h )) ∧ ((¬ (v1 : Int32) < 1) → ((((v1 : Int32) ≤ 100) → (Qn h)) ∧ ((¬ (v1 : Int32) ≤ 100) → (vX11_requireTicks_b11 t0  Qn Qx h ))))
set_option maxRecDepth 100000 in
set_option maxHeartbeats 4000000 in
theorem tX11_requireTicks {p : Program} {l : Launch} {e : Env} {s : State} {m : MethodId} {args : Array Value} {below : List Frame} {meth : Method} {c : Code} {G : gG} {A : Nat → Prop} {Qn : gH → Prop} {Qx : String → gH → Prop} (X : gC p l s m args meth c G A cX11_requireTicks 2 none RX11) (hT : ∀ x ∈ c.exceptionTable.toList, False)   {h : gH} {v0 : Nat} {v1 : Int32} (w : vX11_requireTicks G.2.2.1  Qn Qx h v0 v1) : V p l e rmX11_requireTicks s m args below meth c (vx_MQ below (va_Qv Qn (gB G A) A) (gXC G A Qx) args s rmX11_requireTicks.cells rmX11_requireTicks.slots A) G A 2 h 0 0 0 [(0, .ref v0), (1, .int v1)] [] := by
  refine V_iload_n X dX11_requireTicks_0 1 rfl ?_
  refine V_iconst (y := 1) X dX11_requireTicks_1 (by decide) ?_
  obtain ⟨w1, w2⟩ := w
  refine V_icmp_lt (tgt := 11) X dX11_requireTicks_2 (by decide) (fun z => ?_) (fun z => ?_)
  · replace w := w1 z
    clear w1 w2
    exact V.sub [] rfl (tX11_requireTicks_b11 X hT  w)
  · replace w := w2 z
    clear w1 w2
    refine V_iload_n X dX11_requireTicks_5 1 rfl ?_
    refine V_bipush (y := 100) X dX11_requireTicks_6 (by decide) ?_
    obtain ⟨w1, w2⟩ := w
    refine V_icmp_le (tgt := 22) X dX11_requireTicks_8 (by decide) (fun z => ?_) (fun z => ?_)
    · replace w := w1 z
      clear w1 w2
      exact V.vx (V_vret X rfl dX11_requireTicks_22 (Nat.le_of_ble_eq_true rfl) (Nat.le_of_ble_eq_true rfl) w)
    · replace w := w2 z
      clear w1 w2
      exact V.sub [] rfl (tX11_requireTicks_b11 X hT  w)
theorem cX11_requireTicks_ok {l : Launch} {G : gG} {h : gH} (hls : l.stackTraces = false) {Qn : gH → Prop} {Qx : String → gH → Prop} {v0 : Nat} {v1 : Int32} (w : vX11_requireTicks G.2.2.1 Qn Qx h v0 v1) : gXv l yX11_requireTicks cX11_requireTicks 2 none rmX11_requireTicks rmX11_requireTicks.cells rmX11_requireTicks.slots G h [.ref v0, .int v1] Qn Qx := by
  exact gXv.of (by decide +kernel) hls (Nat.le_of_ble_eq_true rfl) rfl rfl (fun p e s m below meth c A X hT => tX11_requireTicks X hT w)
/-! AnimationController.requireStates()V -/
abbrev rmX11_requireStates : Room := { frames := 6, cells := 1, slots := 6, locals := 90 }
def vX11_requireStates (t0 : Nat)  (Qn : gH → Prop) (Qx : String → gH → Prop) (h : gH) (v0 : Nat) : Prop := gr h v0 14 0 (fun r1 => nn r1 (fun a2 => gr h a2 7 4 (fun r3 => nn r3 (fun a4 => io h a4 2 (vJx4a65c_isEmpty_aae02 t0 (fun x6 h5 => (((x6 : Int32) = 0) → (Qn h5)) ∧ ((¬ (x6 : Int32) = 0) → (Qx "java/lang/IllegalStateException" h5))) h a4 )))))
set_option maxRecDepth 100000 in
set_option maxHeartbeats 4000000 in
theorem tX11_requireStates {p : Program} {l : Launch} {e : Env} {s : State} {m : MethodId} {args : Array Value} {below : List Frame} {meth : Method} {c : Code} {G : gG} {A : Nat → Prop} {Qn : gH → Prop} {Qx : String → gH → Prop} (X : gC p l s m args meth c G A cX11_requireStates 1 none RX11) (hT : ∀ x ∈ c.exceptionTable.toList, False)   {h : gH} {v0 : Nat} (w : vX11_requireStates G.2.2.1  Qn Qx h v0) : V p l e rmX11_requireStates s m args below meth c (vx_MQ below (va_Qv Qn (gB G A) A) (gXC G A Qx) args s rmX11_requireStates.cells rmX11_requireStates.slots A) G A 1 h 0 0 0 [(0, .ref v0)] [] := by
  refine V_aloadr_n X dX11_requireStates_0 0 rfl ?_
  obtain ⟨fs, r1, hh, hv, w⟩ := w
  refine V_get X flX11_12 dX11_requireStates_1 hh hv ?_
  obtain ⟨a2, rfl, w⟩ := w
  obtain ⟨fs, r3, hh, hv, w⟩ := w
  refine V_get3 X frX11_173 dX11_requireStates_4 hh hv ?_
  obtain ⟨a4, rfl, w⟩ := w
  obtain ⟨fs, hh, w⟩ := w
  refine V_callVi (As := []) (rest := []) (k1 := 0) (n1 := 0) X (cJx4a65c_isEmpty_aae02_ok X.2.2.2.2.2.2.2.2.1 w) lkX11_296 hh (q9 := (RJx4a65c, TJx4a65c, 3)) rfl rfl dX11_requireStates_7 ⟨Nat.le_of_ble_eq_true rfl, Nat.le_of_ble_eq_true rfl⟩ rfl (Nat.le_of_ble_eq_true rfl) ⟨Nat.le_of_ble_eq_true rfl, Nat.le_of_ble_eq_true rfl⟩ (Nat.le_of_ble_eq_true rfl) (Nat.le_of_ble_eq_true rfl) (fun x6 h5 w9 => ?_)
  replace w := w9
  clear w9
  obtain ⟨w1, w2⟩ := w
  refine V_if_eq (tgt := 24) X dX11_requireStates_10 (by decide) (fun z => ?_) (fun z => ?_)
  · replace w := w1 z
    clear w1 w2
    exact V.vx (V_vret X rfl dX11_requireStates_24 (Nat.le_of_ble_eq_true rfl) (Nat.le_of_ble_eq_true rfl) w)
  · replace w := w2 z
    clear w1 w2
    exact V_throwW X thX11_426_61 dX11_requireStates_13 dX11_requireStates_16 dX11_requireStates_17 dX11_requireStates_20 dX11_requireStates_23 hT ⟨(Nat.le_of_ble_eq_true rfl), (Nat.le_of_ble_eq_true rfl), (Nat.le_of_ble_eq_true rfl), (Nat.le_of_ble_eq_true rfl)⟩ (Nat.le_of_ble_eq_true rfl) (Nat.le_of_ble_eq_true rfl) w
theorem cX11_requireStates_ok {l : Launch} {G : gG} {h : gH} (hls : l.stackTraces = false) {Qn : gH → Prop} {Qx : String → gH → Prop} {v0 : Nat} (w : vX11_requireStates G.2.2.1 Qn Qx h v0) : gXv l yX11_requireStates cX11_requireStates 1 none rmX11_requireStates rmX11_requireStates.cells rmX11_requireStates.slots G h [.ref v0] Qn Qx := by
  exact gXv.of (by decide +kernel) hls (Nat.le_of_ble_eq_true rfl) rfl rfl (fun p e s m below meth c A X hT => tX11_requireStates X hT w)
/-! AnimationController.tick(I)I -/
abbrev rmX11_tick : Room := { frames := 13, cells := 2, slots := 12, locals := 325 }
def vX11_tick_b22_o (t0 : Nat) (k22 : gH → Nat → Int32 → Int32 → Int32 → Prop) (Qn : Int32 → gH → Prop) (Qx : String → gH → Prop) (h : gH) (v0 : Nat) (v1 : Int32) (v2 : Int32) (v3 : Int32) : Prop := ((v1 ≤ (v3 : Int32)) → (gr h v0 14 2 (fun r1 => nn r1 (fun a2 => gr h a2 6 10 (fun r3 => nn r3 (fun a4 => gi h a4 5 1 (fun x5 => Qn (x5 - v2) h))))))) ∧ ((¬ v1 ≤ (v3 : Int32)) → (gr h v0 14 2 (fun r6 => nn r6 (fun a7 => io h a7 6 (vX3_runTick t0 (fun h8 => k22 h8 v0 v1 v2 (v3 + 1)) h a7 )))))
set_option maxRecDepth 100000 in
set_option maxHeartbeats 4000000 in
theorem tX11_tick_b22_o {p : Program} {l : Launch} {e : Env} {s : State} {m : MethodId} {args : Array Value} {below : List Frame} {meth : Method} {c : Code} {G : gG} {A : Nat → Prop} {Qn : Int32 → gH → Prop} {Qx : String → gH → Prop} (X : gC p l s m args meth c G A cX11_tick 4 (some FieldType.int) RX11) (hT : ∀ x ∈ c.exceptionTable.toList, False) {k22 : gH → Nat → Int32 → Int32 → Int32 → Prop} (H22 : ∀ (h : gH) (v0 : Nat) (v1 : Int32) (v2 : Int32) (v3 : Int32), k22 h v0 v1 v2 v3 → V p l e rmX11_tick s m args below meth c (vx_MQ below (va_Qi Qn (gB G A) A) (gXC G A Qx) args s rmX11_tick.cells rmX11_tick.slots A) G A 4 h 2 12 22 [(0, .ref v0), (1, .int v1), (2, .int v2), (3, .int v3)] []) {h : gH} {v0 : Nat} {v1 : Int32} {v2 : Int32} {v3 : Int32} (w : vX11_tick_b22_o G.2.2.1 k22 Qn Qx h v0 v1 v2 v3) : V p l e rmX11_tick s m args below meth c (vx_MQ below (va_Qi Qn (gB G A) A) (gXC G A Qx) args s rmX11_tick.cells rmX11_tick.slots A) G A 4 h 2 12 22 [(0, .ref v0), (1, .int v1), (2, .int v2), (3, .int v3)] [] := by
  refine V_iload_n X dX11_tick_22 3 rfl ?_
  refine V_iload_n X dX11_tick_23 1 rfl ?_
  obtain ⟨w1, w2⟩ := w
  refine V_icmp_ge (tgt := 40) X dX11_tick_24 (by decide) (fun z => ?_) (fun z => ?_)
  · replace w := w1 z
    clear w1 w2
    refine V_aloadr_n X dX11_tick_40 0 rfl ?_
    obtain ⟨fs, r1, hh, hv, w⟩ := w
    refine V_get X flX11_28 dX11_tick_41 hh hv ?_
    obtain ⟨a2, rfl, w⟩ := w
    obtain ⟨fs, r3, hh, hv, w⟩ := w
    refine V_get3 X frX11_278 dX11_tick_44 hh hv ?_
    obtain ⟨a4, rfl, w⟩ := w
    obtain ⟨fs, x5, hh, hv, w⟩ := w
    refine V_get X flX11_282 dX11_tick_47 hh hv ?_
    refine V_iload_n X dX11_tick_50 2 rfl ?_
    refine V_isub X dX11_tick_51 ?_
    exact V.vx (V_iret X rfl dX11_tick_52 (Nat.le_of_ble_eq_true rfl) (Nat.le_of_ble_eq_true rfl) w)
  · replace w := w2 z
    clear w1 w2
    refine V_aloadr_n X dX11_tick_27 0 rfl ?_
    obtain ⟨fs, r6, hh, hv, w⟩ := w
    refine V_get X flX11_28 dX11_tick_28 hh hv ?_
    obtain ⟨a7, rfl, w⟩ := w
    obtain ⟨fs, hh, w⟩ := w
    refine V_callVv (As := []) (rest := []) (k1 := 2) (n1 := 12) X (cX3_runTick_ok X.2.2.2.2.2.2.2.2.1 w) lkX11_287 hh (q9 := (RX3, TX3, 13)) rfl rfl dX11_tick_31 ⟨Nat.le_of_ble_eq_true rfl, Nat.le_of_ble_eq_true rfl⟩ rfl (Nat.le_of_ble_eq_true rfl) ⟨Nat.le_of_ble_eq_true rfl, Nat.le_of_ble_eq_true rfl⟩ (Nat.le_of_ble_eq_true rfl) (Nat.le_of_ble_eq_true rfl) (fun h8 w9 => ?_)
    replace w := w9
    clear w9
    refine V_iinc (y := (v3 + 1)) X dX11_tick_34 3 rfl (by first | rfl | (congr 1)) (by decide) rfl ?_
    refine V_goto (tgt := 22) X dX11_tick_37 (by decide) ?_
    exact V.sub [1, 2, 3, 0] rfl (H22 _ _ _ _ _ w)
def vX11_tick_b22 (t0 : Nat)  (Qn : Int32 → gH → Prop) (Qx : String → gH → Prop) (n : Nat) : gH → Nat → Int32 → Int32 → Int32 → Prop := Nat.rec (motive := fun _ => gH → Nat → Int32 → Int32 → Int32 → Prop) (fun _ _ _ _ _ => False) (fun _ k22 => vX11_tick_b22_o t0 k22 Qn Qx) n
theorem tX11_tick_b22 {p : Program} {l : Launch} {e : Env} {s : State} {m : MethodId} {args : Array Value} {below : List Frame} {meth : Method} {c : Code} {G : gG} {A : Nat → Prop} {Qn : Int32 → gH → Prop} {Qx : String → gH → Prop} (X : gC p l s m args meth c G A cX11_tick 4 (some FieldType.int) RX11) (hT : ∀ x ∈ c.exceptionTable.toList, False)   : ∀ (n : Nat) (h : gH) (v0 : Nat) (v1 : Int32) (v2 : Int32) (v3 : Int32) (w : vX11_tick_b22 G.2.2.1  Qn Qx n h v0 v1 v2 v3), V p l e rmX11_tick s m args below meth c (vx_MQ below (va_Qi Qn (gB G A) A) (gXC G A Qx) args s rmX11_tick.cells rmX11_tick.slots A) G A 4 h 2 12 22 [(0, .ref v0), (1, .int v1), (2, .int v2), (3, .int v3)] [] := by
  intro n
  induction n with
  | zero => intro h v0 v1 v2 v3 w; exact False.elim w
  | succ n ih => intro h v0 v1 v2 v3 w; exact tX11_tick_b22_o X hT ih w
def vX11_tick (t0 : Nat)  (Qn : Int32 → gH → Prop) (Qx : String → gH → Prop) (h : gH) (v0 : Nat) (v1 : Int32) : Prop := io h v0 14 (vX11_requireTicks t0 (fun h1 => io h1 v0 14 (vX11_requireStates t0 (fun h2 => gr h2 v0 14 2 (fun r3 => nn r3 (fun a4 => gr h2 a4 6 10 (fun r5 => nn r5 (fun a6 => gi h2 a6 5 1 (fun x7 => ∃ n : Nat, vX11_tick_b22 t0  Qn Qx n h2 v0 v1 x7 0)))))) Qx h1 v0 )) Qx h v0 v1)
set_option maxRecDepth 100000 in
set_option maxHeartbeats 4000000 in
theorem tX11_tick {p : Program} {l : Launch} {e : Env} {s : State} {m : MethodId} {args : Array Value} {below : List Frame} {meth : Method} {c : Code} {G : gG} {A : Nat → Prop} {Qn : Int32 → gH → Prop} {Qx : String → gH → Prop} (X : gC p l s m args meth c G A cX11_tick 4 (some FieldType.int) RX11) (hT : ∀ x ∈ c.exceptionTable.toList, False)   {h : gH} {v0 : Nat} {v1 : Int32} (w : vX11_tick G.2.2.1  Qn Qx h v0 v1) : V p l e rmX11_tick s m args below meth c (vx_MQ below (va_Qi Qn (gB G A) A) (gXC G A Qx) args s rmX11_tick.cells rmX11_tick.slots A) G A 4 h 0 0 0 [(0, .ref v0), (1, .int v1)] [] := by
  refine V_aloadr_n X dX11_tick_0 0 rfl ?_
  refine V_iload_n X dX11_tick_1 1 rfl ?_
  obtain ⟨fs, hh, w⟩ := w
  refine V_callXv (As := [.int v1]) (rest := []) (k1 := 1) (n1 := 6) X (cX11_requireTicks_ok X.2.2.2.2.2.2.2.2.1 w) lkX11_272 hh (q9 := (RX11, TX11, 7)) rfl rfl dX11_tick_2 hT ⟨Nat.le_of_ble_eq_true rfl, Nat.le_of_ble_eq_true rfl⟩ rfl (Nat.le_of_ble_eq_true rfl) ⟨Nat.le_of_ble_eq_true rfl, Nat.le_of_ble_eq_true rfl⟩ (Nat.le_of_ble_eq_true rfl) (Nat.le_of_ble_eq_true rfl) (Nat.le_of_ble_eq_true rfl) (Nat.le_of_ble_eq_true rfl) (fun h1 w9 => ?_)
  replace w := w9
  clear w9
  refine V_aloadr_n X dX11_tick_5 0 rfl ?_
  obtain ⟨fs, hh, w⟩ := w
  refine V_callXv (As := []) (rest := []) (k1 := 2) (n1 := 12) X (cX11_requireStates_ok X.2.2.2.2.2.2.2.2.1 w) lkX11_275 hh (q9 := (RX11, TX11, 7)) rfl rfl dX11_tick_6 hT ⟨Nat.le_of_ble_eq_true rfl, Nat.le_of_ble_eq_true rfl⟩ rfl (Nat.le_of_ble_eq_true rfl) ⟨Nat.le_of_ble_eq_true rfl, Nat.le_of_ble_eq_true rfl⟩ (Nat.le_of_ble_eq_true rfl) (Nat.le_of_ble_eq_true rfl) (Nat.le_of_ble_eq_true rfl) (Nat.le_of_ble_eq_true rfl) (fun h2 w9 => ?_)
  replace w := w9
  clear w9
  refine V_aloadr_n X dX11_tick_9 0 rfl ?_
  obtain ⟨fs, r3, hh, hv, w⟩ := w
  refine V_get X flX11_28 dX11_tick_10 hh hv ?_
  obtain ⟨a4, rfl, w⟩ := w
  obtain ⟨fs, r5, hh, hv, w⟩ := w
  refine V_get3 X frX11_278 dX11_tick_13 hh hv ?_
  obtain ⟨a6, rfl, w⟩ := w
  obtain ⟨fs, x7, hh, hv, w⟩ := w
  refine V_get X flX11_282 dX11_tick_16 hh hv ?_
  refine V_istore_n (i0 := 2) X dX11_tick_19 rfl (by decide) rfl ?_
  refine V_iconst (y := 0) X dX11_tick_20 (by decide) ?_
  refine V_istore_n (i0 := 3) X dX11_tick_21 rfl (by decide) rfl ?_
  obtain ⟨n9, w⟩ := w
  exact V.sub [2, 3, 1, 0] rfl (tX11_tick_b22 X hT  n9 _ _ _ _ _ w)
theorem cX11_tick_ok {l : Launch} {G : gG} {h : gH} (hls : l.stackTraces = false) {Qn : Int32 → gH → Prop} {Qx : String → gH → Prop} {v0 : Nat} {v1 : Int32} (w : vX11_tick G.2.2.1 Qn Qx h v0 v1) : gXi l yX11_tick cX11_tick 4 (some FieldType.int) rmX11_tick rmX11_tick.cells rmX11_tick.slots G h [.ref v0, .int v1] Qn Qx := by
  exact gXi.of (by decide +kernel) hls (Nat.le_of_ble_eq_true rfl) rfl rfl (fun p e s m below meth c A X hT => tX11_tick X hT w)
/-! AnimationController.reset()I -/
abbrev rmX11_reset : Room := { frames := 3, cells := 0, slots := 0, locals := 64 }
def vX11_reset_b56 (t0 : Nat)  (Qn : Int32 → gH → Prop) (h : gH) (v1 : Int32) (s0 : Option Nat) (s1 : Option Nat) : Prop := nn s1 (fun a1 => io h a1 6 (vX3_beginIn t0 (fun h2 => Qn v1 h2) h a1 s0))
set_option maxRecDepth 100000 in
set_option maxHeartbeats 4000000 in
theorem tX11_reset_b56 {p : Program} {l : Launch} {e : Env} {s : State} {m : MethodId} {args : Array Value} {below : List Frame} {meth : Method} {c : Code} {G : gG} {A : Nat → Prop} {Qn : Int32 → gH → Prop} (X : gC p l s m args meth c G A cX11_reset 2 (some FieldType.int) RX11)   {h : gH} {v1 : Int32} {s0 : Option Nat} {s1 : Option Nat} (w : vX11_reset_b56 G.2.2.1  Qn h v1 s0 s1) : V p l e rmX11_reset s m args below meth c (MQ below (va_Qi Qn (gB G A) A) args s rmX11_reset.cells rmX11_reset.slots A) G A 2 h 0 0 56 [(1, .int v1)] [va_rf s0, va_rf s1] := by
  obtain ⟨a1, rfl, w⟩ := w
  obtain ⟨fs, hh, w⟩ := w
  refine V_callVv (As := [va_rf s0]) (rest := []) (k1 := 0) (n1 := 0) X (cX3_beginIn_ok X.2.2.2.2.2.2.2.2.1 w) lkX11_183 hh (q9 := (RX3, TX3, 13)) rfl rfl dX11_reset_56 ⟨Nat.le_of_ble_eq_true rfl, Nat.le_of_ble_eq_true rfl⟩ rfl (Nat.le_of_ble_eq_true rfl) ⟨Nat.le_of_ble_eq_true rfl, Nat.le_of_ble_eq_true rfl⟩ (Nat.le_of_ble_eq_true rfl) (Nat.le_of_ble_eq_true rfl) (fun h2 w9 => ?_)
  replace w := w9
  clear w9
  refine V_iload_n X dX11_reset_59 0 rfl ?_
  exact V_iret X rfl dX11_reset_60 (Nat.le_of_ble_eq_true rfl) (Nat.le_of_ble_eq_true rfl) w
def vX11_reset (t0 : Nat)  (Qn : Int32 → gH → Prop) (h : gH) (v0 : Nat) : Prop := gr h v0 14 2 (fun r1 => nn r1 (fun a2 => gi h a2 6 9 (fun x3 => gr h v0 14 2 (fun r4 => nn r4 (fun a5 => io h a5 6 (vX3_forget t0 (fun h6 => gr h6 v0 14 2 (fun r7 => gr h6 v0 14 0 (fun r8 => nn r8 (fun a9 => gr h6 a9 7 4 (fun r10 => nn r10 (fun a11 => io h6 a11 2 (vJx4a65c_isEmpty_aae02 t0 (fun x13 h12 => (((x13 : Int32) = 0) → (gr h12 v0 14 0 (fun r14 => nn r14 (fun a15 => gr h12 a15 7 4 (fun r16 => nn r16 (fun a17 => io h12 a17 2 (vJx4a65c_get_915e3 t0 (fun r19 h18 => nn r19 (fun a20 => io h18 a20 10 (vX11_reset_b56 t0  Qn h18 x3 (some a20) r7))) h12 a17 0))))))) ∧ ((¬ (x13 : Int32) = 0) → (gr h12 v0 14 0 (fun r21 => nn r21 (fun a22 => gr h12 a22 7 7 (fun r23 => vX11_reset_b56 t0  Qn h12 x3 r23 r7)))))) h6 a11 ))))))) h a5 ))))))
set_option maxRecDepth 100000 in
set_option maxHeartbeats 4000000 in
theorem tX11_reset {p : Program} {l : Launch} {e : Env} {s : State} {m : MethodId} {args : Array Value} {below : List Frame} {meth : Method} {c : Code} {G : gG} {A : Nat → Prop} {Qn : Int32 → gH → Prop} (X : gC p l s m args meth c G A cX11_reset 2 (some FieldType.int) RX11)   {h : gH} {v0 : Nat} (w : vX11_reset G.2.2.1  Qn h v0) : V p l e rmX11_reset s m args below meth c (MQ below (va_Qi Qn (gB G A) A) args s rmX11_reset.cells rmX11_reset.slots A) G A 2 h 0 0 0 [(0, .ref v0)] [] := by
  refine V_aloadr_n X dX11_reset_0 0 rfl ?_
  obtain ⟨fs, r1, hh, hv, w⟩ := w
  refine V_get X flX11_28 dX11_reset_1 hh hv ?_
  obtain ⟨a2, rfl, w⟩ := w
  obtain ⟨fs, x3, hh, hv, w⟩ := w
  refine V_get X flX11_290 dX11_reset_4 hh hv ?_
  refine V_istore_n (i0 := 1) X dX11_reset_7 rfl (by decide) rfl ?_
  refine V_aloadr_n X dX11_reset_8 1 rfl ?_
  obtain ⟨fs, r4, hh, hv, w⟩ := w
  refine V_get X flX11_28 dX11_reset_9 hh hv ?_
  obtain ⟨a5, rfl, w⟩ := w
  obtain ⟨fs, hh, w⟩ := w
  refine V_callVv (As := []) (rest := []) (k1 := 0) (n1 := 0) X (cX3_forget_ok X.2.2.2.2.2.2.2.2.1 w) lkX11_293 hh (q9 := (RX3, TX3, 13)) rfl rfl dX11_reset_12 ⟨Nat.le_of_ble_eq_true rfl, Nat.le_of_ble_eq_true rfl⟩ rfl (Nat.le_of_ble_eq_true rfl) ⟨Nat.le_of_ble_eq_true rfl, Nat.le_of_ble_eq_true rfl⟩ (Nat.le_of_ble_eq_true rfl) (Nat.le_of_ble_eq_true rfl) (fun h6 w9 => ?_)
  replace w := w9
  clear w9
  refine V_aloadr_n X dX11_reset_15 1 rfl ?_
  obtain ⟨fs, r7, hh, hv, w⟩ := w
  refine V_get X flX11_28 dX11_reset_16 hh hv ?_
  refine V_aloadr_n X dX11_reset_19 1 rfl ?_
  obtain ⟨fs, r8, hh, hv, w⟩ := w
  refine V_get X flX11_12 dX11_reset_20 hh hv ?_
  obtain ⟨a9, rfl, w⟩ := w
  obtain ⟨fs, r10, hh, hv, w⟩ := w
  refine V_get3 X frX11_173 dX11_reset_23 hh hv ?_
  obtain ⟨a11, rfl, w⟩ := w
  obtain ⟨fs, hh, w⟩ := w
  refine V_callVi (As := []) (rest := [va_rf r7]) (k1 := 0) (n1 := 0) X (cJx4a65c_isEmpty_aae02_ok X.2.2.2.2.2.2.2.2.1 w) lkX11_296 hh (q9 := (RJx4a65c, TJx4a65c, 3)) rfl rfl dX11_reset_26 ⟨Nat.le_of_ble_eq_true rfl, Nat.le_of_ble_eq_true rfl⟩ rfl (va_len _ 4 (Nat.le_of_ble_eq_true rfl)) ⟨Nat.le_of_ble_eq_true rfl, Nat.le_of_ble_eq_true rfl⟩ (Nat.le_of_ble_eq_true rfl) (Nat.le_of_ble_eq_true rfl) (fun x13 h12 w9 => ?_)
  replace w := w9
  clear w9
  obtain ⟨w1, w2⟩ := w
  refine V_if_eq (tgt := 42) X dX11_reset_29 (by decide) (fun z => ?_) (fun z => ?_)
  · replace w := w1 z
    clear w1 w2
    refine V_aloadr_n X dX11_reset_42 1 rfl ?_
    obtain ⟨fs, r14, hh, hv, w⟩ := w
    refine V_get X flX11_12 dX11_reset_43 hh hv ?_
    obtain ⟨a15, rfl, w⟩ := w
    obtain ⟨fs, r16, hh, hv, w⟩ := w
    refine V_get3 X frX11_173 dX11_reset_46 hh hv ?_
    refine V_iconst (y := 0) X dX11_reset_49 (by decide) ?_
    obtain ⟨a17, rfl, w⟩ := w
    obtain ⟨fs, hh, w⟩ := w
    refine V_callVq (As := [.int 0]) (rest := [va_rf r7]) (k1 := 0) (n1 := 0) X (cJx4a65c_get_915e3_ok X.2.2.2.2.2.2.2.2.1 w) lkX11_302 hh (q9 := (RJx4a65c, TJx4a65c, 3)) rfl rfl dX11_reset_50 ⟨Nat.le_of_ble_eq_true rfl, Nat.le_of_ble_eq_true rfl⟩ rfl (va_len _ 4 (Nat.le_of_ble_eq_true rfl)) ⟨Nat.le_of_ble_eq_true rfl, Nat.le_of_ble_eq_true rfl⟩ (Nat.le_of_ble_eq_true rfl) (Nat.le_of_ble_eq_true rfl) (fun r19 h18 w9 => ?_)
    replace w := w9
    clear w9
    obtain ⟨a20, rfl, w⟩ := w
    obtain ⟨fs, hh, w⟩ := w
    refine V_cast (q9 := (RX7, TX7, 5)) X kw_630 rfl rfl hh dX11_reset_53 ?_
    exact V.sub [0] rfl (tX11_reset_b56 X  w)
  · replace w := w2 z
    clear w1 w2
    refine V_aloadr_n X dX11_reset_32 1 rfl ?_
    obtain ⟨fs, r21, hh, hv, w⟩ := w
    refine V_get X flX11_12 dX11_reset_33 hh hv ?_
    obtain ⟨a22, rfl, w⟩ := w
    obtain ⟨fs, r23, hh, hv, w⟩ := w
    refine V_get3 X frX11_299 dX11_reset_36 hh hv ?_
    refine V_goto (tgt := 56) X dX11_reset_39 (by decide) ?_
    exact V.sub [0] rfl (tX11_reset_b56 X  w)
theorem cX11_reset_ok {l : Launch} {G : gG} {h : gH} (hls : l.stackTraces = false) {Qn : Int32 → gH → Prop} {v0 : Nat} (w : vX11_reset G.2.2.1 Qn h v0) : gMi l yX11_reset cX11_reset 2 (some FieldType.int) rmX11_reset rmX11_reset.cells rmX11_reset.slots G h [.ref v0] Qn := by
  exact gMi.of (by decide +kernel) hls (Nat.le_of_ble_eq_true rfl) rfl rfl (fun p e s m below meth c A X hnm => tX11_reset X w)
