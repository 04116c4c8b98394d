/-! AnimationControllerModel.<init>()V -/
abbrev rmX12_init : Room := { frames := 1, cells := 26, slots := 2494, locals := 20 }
def vX12_init  (Qn : gH → Prop) (h : gH) (v0 : Nat) : Prop := nw h (.inl (0, 1160, .inl (fun _ => 0))) (fun q1 h2 => pv h2 v0 15 0 (.ref q1) (fun h3 => nw h3 (.inl (2, 2, .inl (fun _ => 0))) (fun q4 h5 => pv h5 v0 15 1 (.ref q4) (fun h6 => nw h6 (.inl (0, 8, .inl (fun _ => 0))) (fun q7 h8 => pv h8 v0 15 2 (.ref q7) (fun h9 => nw h9 (.inl (0, 12, .inl (fun _ => 0))) (fun q10 h11 => pv h11 v0 15 4 (.ref q10) (fun h12 => nw h12 (.inl (0, 12, .inl (fun _ => 0))) (fun q13 h14 => pv h14 v0 15 5 (.ref q13) (fun h15 => nw h15 (.inl (0, 60, .inl (fun _ => 0))) (fun q16 h17 => pv h17 v0 15 6 (.ref q16) (fun h18 => nw h18 (.inl (0, 60, .inl (fun _ => 0))) (fun q19 h20 => pv h20 v0 15 7 (.ref q19) (fun h21 => nw h21 (.inl (0, 20, .inl (fun _ => 0))) (fun q22 h23 => pv h23 v0 15 9 (.ref q22) (fun h24 => nw h24 (.inl (0, 20, .inl (fun _ => 0))) (fun q25 h26 => pv h26 v0 15 10 (.ref q25) (fun h27 => nw h27 (.inl (0, 20, .inl (fun _ => 0))) (fun q28 h29 => pv h29 v0 15 11 (.ref q28) (fun h30 => nw h30 (.inl (0, 100, .inl (fun _ => 0))) (fun q31 h32 => pv h32 v0 15 12 (.ref q31) (fun h33 => nw h33 (.inl (0, 100, .inl (fun _ => 0))) (fun q34 h35 => pv h35 v0 15 13 (.ref q34) (fun h36 => nw h36 (.inl (0, 10, .inl (fun _ => 0))) (fun q37 h38 => pv h38 v0 15 15 (.ref q37) (fun h39 => nw h39 (.inl (0, 10, .inl (fun _ => 0))) (fun q40 h41 => pv h41 v0 15 16 (.ref q40) (fun h42 => nw h42 (.inl (2, 10, .inl (fun _ => 0))) (fun q43 h44 => pv h44 v0 15 17 (.ref q43) (fun h45 => nw h45 (.inl (0, 10, .inl (fun _ => 0))) (fun q46 h47 => pv h47 v0 15 18 (.ref q46) (fun h48 => nw h48 (.inl (0, 408, .inl (fun _ => 0))) (fun q49 h50 => pv h50 v0 15 20 (.ref q49) (fun h51 => pv h51 v0 15 22 (.int 1) (fun h52 => nw h52 (.inl (0, 150, .inl (fun _ => 0))) (fun q53 h54 => pv h54 v0 15 23 (.ref q53) (fun h55 => nw h55 (.inl (0, 20, .inl (fun _ => 0))) (fun q56 h57 => pv h57 v0 15 26 (.ref q56) (fun h58 => nw h58 (.inl (1, 12, .inr (.inl (fun _ => 0)))) (fun q59 h60 => pv h60 v0 15 27 (.ref q59) (fun h61 => nw h61 (.inl (0, 32, .inl (fun _ => 0))) (fun q62 h63 => pv h63 v0 15 28 (.ref q62) (fun h64 => nw h64 (.inl (1, 32, .inr (.inl (fun _ => 0)))) (fun q65 h66 => pv h66 v0 15 29 (.ref q65) (fun h67 => nw h67 (.inl (0, 72, .inl (fun _ => 0))) (fun q68 h69 => pv h69 v0 15 37 (.ref q68) (fun h70 => nw h70 (.inl (0, 72, .inl (fun _ => 0))) (fun q71 h72 => pv h72 v0 15 38 (.ref q71) (fun h73 => nw h73 (.inl (1, 72, .inr (.inl (fun _ => 0)))) (fun q74 h75 => pv h75 v0 15 39 (.ref q74) (fun h76 => nw h76 (.inl (0, 10, .inl (fun _ => 0))) (fun q77 h78 => pv h78 v0 15 41 (.ref q77) (fun h79 => Qn h79)))))))))))))))))))))))))))))))))))))))))))))))))))))
set_option maxRecDepth 100000 in
set_option maxHeartbeats 4000000 in
theorem tX12_init {p : Program} {l : Launch} {e : Env} {s : State} {m : MethodId} {args : Array Value} {below : List Frame} {meth : Method} {c : Code} {G : gG} {A : Nat → Prop} {Qn : gH → Prop} (X : gC p l s m args meth c G A cX12_init 1 none RX12) (hin : meth.name = "<init>")   {h : gH} {v0 : Nat} (w : vX12_init  Qn h v0) : V p l e rmX12_init s m args below meth c (MQ below (va_Qv Qn (gB G A) A) args s rmX12_init.cells rmX12_init.slots A) G A 1 h 0 0 0 [(0, .ref v0)] [] := by
  refine V_aloadr_n X dX12_init_0 0 rfl ?_
  refine V_objInit X kw_1608 kw_42 kw_43 dX12_init_1 (Nat.le_of_ble_eq_true rfl) (Nat.le_of_ble_eq_true rfl) ?_
  refine V_aloadr_n X dX12_init_4 0 rfl ?_
  refine V_sipush (y := 1160) X dX12_init_5 (by decide) ?_
  refine V_newa_int (N := 1160) (k1 := 1) (n1 := 1160) X kw_76 dX12_init_8 (by decide) (by decide) (Nat.le_of_ble_eq_true rfl) ⟨Nat.le_of_ble_eq_true rfl, Nat.le_of_ble_eq_true rfl⟩ (Nat.le_of_ble_eq_true rfl) (Nat.le_of_ble_eq_true rfl) (fun q1 hq => ?_)
  replace w := w q1 hq
  generalize va_up _ _ _ = h2 at w ⊢
  obtain ⟨fs, hh, hv, w⟩ := w
  refine V_putF X hin flX12_7 dX12_init_10 hh hv rfl rfl ?_
  generalize va_up _ _ _ = h3 at w ⊢
  refine V_aloadr_n X dX12_init_13 0 rfl ?_
  refine V_iconst (y := 2) X dX12_init_14 (by decide) ?_
  refine V_newa_boolean (N := 2) (k1 := 2) (n1 := 1162) X kw_456 dX12_init_15 (by decide) (by decide) (Nat.le_of_ble_eq_true rfl) ⟨Nat.le_of_ble_eq_true rfl, Nat.le_of_ble_eq_true rfl⟩ (Nat.le_of_ble_eq_true rfl) (Nat.le_of_ble_eq_true rfl) (fun q4 hq => ?_)
  replace w := w q4 hq
  generalize va_up _ _ _ = h5 at w ⊢
  obtain ⟨fs, hh, hv, w⟩ := w
  refine V_putF X hin flX12_13 dX12_init_17 hh hv rfl rfl ?_
  generalize va_up _ _ _ = h6 at w ⊢
  refine V_aloadr_n X dX12_init_20 0 rfl ?_
  refine V_bipush (y := 8) X dX12_init_21 (by decide) ?_
  refine V_newa_int (N := 8) (k1 := 3) (n1 := 1170) X kw_76 dX12_init_23 (by decide) (by decide) (Nat.le_of_ble_eq_true rfl) ⟨Nat.le_of_ble_eq_true rfl, Nat.le_of_ble_eq_true rfl⟩ (Nat.le_of_ble_eq_true rfl) (Nat.le_of_ble_eq_true rfl) (fun q7 hq => ?_)
  replace w := w q7 hq
  generalize va_up _ _ _ = h8 at w ⊢
  obtain ⟨fs, hh, hv, w⟩ := w
  refine V_putF X hin flX12_17 dX12_init_25 hh hv rfl rfl ?_
  generalize va_up _ _ _ = h9 at w ⊢
  refine V_aloadr_n X dX12_init_28 0 rfl ?_
  refine V_bipush (y := 12) X dX12_init_29 (by decide) ?_
  refine V_newa_int (N := 12) (k1 := 4) (n1 := 1182) X kw_76 dX12_init_31 (by decide) (by decide) (Nat.le_of_ble_eq_true rfl) ⟨Nat.le_of_ble_eq_true rfl, Nat.le_of_ble_eq_true rfl⟩ (Nat.le_of_ble_eq_true rfl) (Nat.le_of_ble_eq_true rfl) (fun q10 hq => ?_)
  replace w := w q10 hq
  generalize va_up _ _ _ = h11 at w ⊢
  obtain ⟨fs, hh, hv, w⟩ := w
  refine V_putF X hin flX12_20 dX12_init_33 hh hv rfl rfl ?_
  generalize va_up _ _ _ = h12 at w ⊢
  refine V_aloadr_n X dX12_init_36 0 rfl ?_
  refine V_bipush (y := 12) X dX12_init_37 (by decide) ?_
  refine V_newa_int (N := 12) (k1 := 5) (n1 := 1194) X kw_76 dX12_init_39 (by decide) (by decide) (Nat.le_of_ble_eq_true rfl) ⟨Nat.le_of_ble_eq_true rfl, Nat.le_of_ble_eq_true rfl⟩ (Nat.le_of_ble_eq_true rfl) (Nat.le_of_ble_eq_true rfl) (fun q13 hq => ?_)
  replace w := w q13 hq
  generalize va_up _ _ _ = h14 at w ⊢
  obtain ⟨fs, hh, hv, w⟩ := w
  refine V_putF X hin flX12_23 dX12_init_41 hh hv rfl rfl ?_
  generalize va_up _ _ _ = h15 at w ⊢
  refine V_aloadr_n X dX12_init_44 0 rfl ?_
  refine V_bipush (y := 60) X dX12_init_45 (by decide) ?_
  refine V_newa_int (N := 60) (k1 := 6) (n1 := 1254) X kw_76 dX12_init_47 (by decide) (by decide) (Nat.le_of_ble_eq_true rfl) ⟨Nat.le_of_ble_eq_true rfl, Nat.le_of_ble_eq_true rfl⟩ (Nat.le_of_ble_eq_true rfl) (Nat.le_of_ble_eq_true rfl) (fun q16 hq => ?_)
  replace w := w q16 hq
  generalize va_up _ _ _ = h17 at w ⊢
  obtain ⟨fs, hh, hv, w⟩ := w
  refine V_putF X hin flX12_26 dX12_init_49 hh hv rfl rfl ?_
  generalize va_up _ _ _ = h18 at w ⊢
  refine V_aloadr_n X dX12_init_52 0 rfl ?_
  refine V_bipush (y := 60) X dX12_init_53 (by decide) ?_
  refine V_newa_int (N := 60) (k1 := 7) (n1 := 1314) X kw_76 dX12_init_55 (by decide) (by decide) (Nat.le_of_ble_eq_true rfl) ⟨Nat.le_of_ble_eq_true rfl, Nat.le_of_ble_eq_true rfl⟩ (Nat.le_of_ble_eq_true rfl) (Nat.le_of_ble_eq_true rfl) (fun q19 hq => ?_)
  replace w := w q19 hq
  generalize va_up _ _ _ = h20 at w ⊢
  obtain ⟨fs, hh, hv, w⟩ := w
  refine V_putF X hin flX12_29 dX12_init_57 hh hv rfl rfl ?_
  generalize va_up _ _ _ = h21 at w ⊢
  refine V_aloadr_n X dX12_init_60 0 rfl ?_
  refine V_bipush (y := 20) X dX12_init_61 (by decide) ?_
  refine V_newa_int (N := 20) (k1 := 8) (n1 := 1334) X kw_76 dX12_init_63 (by decide) (by decide) (Nat.le_of_ble_eq_true rfl) ⟨Nat.le_of_ble_eq_true rfl, Nat.le_of_ble_eq_true rfl⟩ (Nat.le_of_ble_eq_true rfl) (Nat.le_of_ble_eq_true rfl) (fun q22 hq => ?_)
  replace w := w q22 hq
  generalize va_up _ _ _ = h23 at w ⊢
  obtain ⟨fs, hh, hv, w⟩ := w
  refine V_putF X hin flX12_32 dX12_init_65 hh hv rfl rfl ?_
  generalize va_up _ _ _ = h24 at w ⊢
  refine V_aloadr_n X dX12_init_68 0 rfl ?_
  refine V_bipush (y := 20) X dX12_init_69 (by decide) ?_
  refine V_newa_int (N := 20) (k1 := 9) (n1 := 1354) X kw_76 dX12_init_71 (by decide) (by decide) (Nat.le_of_ble_eq_true rfl) ⟨Nat.le_of_ble_eq_true rfl, Nat.le_of_ble_eq_true rfl⟩ (Nat.le_of_ble_eq_true rfl) (Nat.le_of_ble_eq_true rfl) (fun q25 hq => ?_)
  replace w := w q25 hq
  generalize va_up _ _ _ = h26 at w ⊢
  obtain ⟨fs, hh, hv, w⟩ := w
  refine V_putF X hin flX12_35 dX12_init_73 hh hv rfl rfl ?_
  generalize va_up _ _ _ = h27 at w ⊢
  refine V_aloadr_n X dX12_init_76 0 rfl ?_
  refine V_bipush (y := 20) X dX12_init_77 (by decide) ?_
  refine V_newa_int (N := 20) (k1 := 10) (n1 := 1374) X kw_76 dX12_init_79 (by decide) (by decide) (Nat.le_of_ble_eq_true rfl) ⟨Nat.le_of_ble_eq_true rfl, Nat.le_of_ble_eq_true rfl⟩ (Nat.le_of_ble_eq_true rfl) (Nat.le_of_ble_eq_true rfl) (fun q28 hq => ?_)
  replace w := w q28 hq
  generalize va_up _ _ _ = h29 at w ⊢
  obtain ⟨fs, hh, hv, w⟩ := w
  refine V_putF X hin flX12_38 dX12_init_81 hh hv rfl rfl ?_
  generalize va_up _ _ _ = h30 at w ⊢
  refine V_aloadr_n X dX12_init_84 0 rfl ?_
  refine V_bipush (y := 100) X dX12_init_85 (by decide) ?_
  refine V_newa_int (N := 100) (k1 := 11) (n1 := 1474) X kw_76 dX12_init_87 (by decide) (by decide) (Nat.le_of_ble_eq_true rfl) ⟨Nat.le_of_ble_eq_true rfl, Nat.le_of_ble_eq_true rfl⟩ (Nat.le_of_ble_eq_true rfl) (Nat.le_of_ble_eq_true rfl) (fun q31 hq => ?_)
  replace w := w q31 hq
  generalize va_up _ _ _ = h32 at w ⊢
  obtain ⟨fs, hh, hv, w⟩ := w
  refine V_putF X hin flX12_41 dX12_init_89 hh hv rfl rfl ?_
  generalize va_up _ _ _ = h33 at w ⊢
  refine V_aloadr_n X dX12_init_92 0 rfl ?_
  refine V_bipush (y := 100) X dX12_init_93 (by decide) ?_
  refine V_newa_int (N := 100) (k1 := 12) (n1 := 1574) X kw_76 dX12_init_95 (by decide) (by decide) (Nat.le_of_ble_eq_true rfl) ⟨Nat.le_of_ble_eq_true rfl, Nat.le_of_ble_eq_true rfl⟩ (Nat.le_of_ble_eq_true rfl) (Nat.le_of_ble_eq_true rfl) (fun q34 hq => ?_)
  replace w := w q34 hq
  generalize va_up _ _ _ = h35 at w ⊢
  obtain ⟨fs, hh, hv, w⟩ := w
  refine V_putF X hin flX12_44 dX12_init_97 hh hv rfl rfl ?_
  generalize va_up _ _ _ = h36 at w ⊢
  refine V_aloadr_n X dX12_init_100 0 rfl ?_
  refine V_bipush (y := 10) X dX12_init_101 (by decide) ?_
  refine V_newa_int (N := 10) (k1 := 13) (n1 := 1584) X kw_76 dX12_init_103 (by decide) (by decide) (Nat.le_of_ble_eq_true rfl) ⟨Nat.le_of_ble_eq_true rfl, Nat.le_of_ble_eq_true rfl⟩ (Nat.le_of_ble_eq_true rfl) (Nat.le_of_ble_eq_true rfl) (fun q37 hq => ?_)
  replace w := w q37 hq
  generalize va_up _ _ _ = h38 at w ⊢
  obtain ⟨fs, hh, hv, w⟩ := w
  refine V_putF X hin flX12_47 dX12_init_105 hh hv rfl rfl ?_
  generalize va_up _ _ _ = h39 at w ⊢
  refine V_aloadr_n X dX12_init_108 0 rfl ?_
  refine V_bipush (y := 10) X dX12_init_109 (by decide) ?_
  refine V_newa_int (N := 10) (k1 := 14) (n1 := 1594) X kw_76 dX12_init_111 (by decide) (by decide) (Nat.le_of_ble_eq_true rfl) ⟨Nat.le_of_ble_eq_true rfl, Nat.le_of_ble_eq_true rfl⟩ (Nat.le_of_ble_eq_true rfl) (Nat.le_of_ble_eq_true rfl) (fun q40 hq => ?_)
  replace w := w q40 hq
  generalize va_up _ _ _ = h41 at w ⊢
  obtain ⟨fs, hh, hv, w⟩ := w
  refine V_putF X hin flX12_50 dX12_init_113 hh hv rfl rfl ?_
  generalize va_up _ _ _ = h42 at w ⊢
  refine V_aloadr_n X dX12_init_116 0 rfl ?_
  refine V_bipush (y := 10) X dX12_init_117 (by decide) ?_
  refine V_newa_boolean (N := 10) (k1 := 15) (n1 := 1604) X kw_456 dX12_init_119 (by decide) (by decide) (Nat.le_of_ble_eq_true rfl) ⟨Nat.le_of_ble_eq_true rfl, Nat.le_of_ble_eq_true rfl⟩ (Nat.le_of_ble_eq_true rfl) (Nat.le_of_ble_eq_true rfl) (fun q43 hq => ?_)
  replace w := w q43 hq
  generalize va_up _ _ _ = h44 at w ⊢
  obtain ⟨fs, hh, hv, w⟩ := w
  refine V_putF X hin flX12_53 dX12_init_121 hh hv rfl rfl ?_
  generalize va_up _ _ _ = h45 at w ⊢
  refine V_aloadr_n X dX12_init_124 0 rfl ?_
  refine V_bipush (y := 10) X dX12_init_125 (by decide) ?_
  refine V_newa_int (N := 10) (k1 := 16) (n1 := 1614) X kw_76 dX12_init_127 (by decide) (by decide) (Nat.le_of_ble_eq_true rfl) ⟨Nat.le_of_ble_eq_true rfl, Nat.le_of_ble_eq_true rfl⟩ (Nat.le_of_ble_eq_true rfl) (Nat.le_of_ble_eq_true rfl) (fun q46 hq => ?_)
  replace w := w q46 hq
  generalize va_up _ _ _ = h47 at w ⊢
  obtain ⟨fs, hh, hv, w⟩ := w
  refine V_putF X hin flX12_56 dX12_init_129 hh hv rfl rfl ?_
  generalize va_up _ _ _ = h48 at w ⊢
  refine V_aloadr_n X dX12_init_132 0 rfl ?_
  refine V_sipush (y := 408) X dX12_init_133 (by decide) ?_
  refine V_newa_int (N := 408) (k1 := 17) (n1 := 2022) X kw_76 dX12_init_136 (by decide) (by decide) (Nat.le_of_ble_eq_true rfl) ⟨Nat.le_of_ble_eq_true rfl, Nat.le_of_ble_eq_true rfl⟩ (Nat.le_of_ble_eq_true rfl) (Nat.le_of_ble_eq_true rfl) (fun q49 hq => ?_)
  replace w := w q49 hq
  generalize va_up _ _ _ = h50 at w ⊢
  obtain ⟨fs, hh, hv, w⟩ := w
  refine V_putF X hin flX12_59 dX12_init_138 hh hv rfl rfl ?_
  generalize va_up _ _ _ = h51 at w ⊢
  refine V_aloadr_n X dX12_init_141 0 rfl ?_
  refine V_iconst (y := 1) X dX12_init_142 (by decide) ?_
  obtain ⟨fs, hh, hv, w⟩ := w
  refine V_put X flX12_62 dX12_init_143 hh hv rfl rfl ?_
  generalize va_up _ _ _ = h52 at w ⊢
  refine V_aloadr_n X dX12_init_146 0 rfl ?_
  refine V_sipush (y := 150) X dX12_init_147 (by decide) ?_
  refine V_newa_int (N := 150) (k1 := 18) (n1 := 2172) X kw_76 dX12_init_150 (by decide) (by decide) (Nat.le_of_ble_eq_true rfl) ⟨Nat.le_of_ble_eq_true rfl, Nat.le_of_ble_eq_true rfl⟩ (Nat.le_of_ble_eq_true rfl) (Nat.le_of_ble_eq_true rfl) (fun q53 hq => ?_)
  replace w := w q53 hq
  generalize va_up _ _ _ = h54 at w ⊢
  obtain ⟨fs, hh, hv, w⟩ := w
  refine V_putF X hin flX12_66 dX12_init_152 hh hv rfl rfl ?_
  generalize va_up _ _ _ = h55 at w ⊢
  refine V_aloadr_n X dX12_init_155 0 rfl ?_
  refine V_bipush (y := 20) X dX12_init_156 (by decide) ?_
  refine V_newa_int (N := 20) (k1 := 19) (n1 := 2192) X kw_76 dX12_init_158 (by decide) (by decide) (Nat.le_of_ble_eq_true rfl) ⟨Nat.le_of_ble_eq_true rfl, Nat.le_of_ble_eq_true rfl⟩ (Nat.le_of_ble_eq_true rfl) (Nat.le_of_ble_eq_true rfl) (fun q56 hq => ?_)
  replace w := w q56 hq
  generalize va_up _ _ _ = h57 at w ⊢
  obtain ⟨fs, hh, hv, w⟩ := w
  refine V_putF X hin flX12_69 dX12_init_160 hh hv rfl rfl ?_
  generalize va_up _ _ _ = h58 at w ⊢
  refine V_aloadr_n X dX12_init_163 0 rfl ?_
  refine V_bipush (y := 12) X dX12_init_164 (by decide) ?_
  refine V_newa_long (N := 12) (k1 := 20) (n1 := 2204) X kw_1736 dX12_init_166 (by decide) (by decide) (Nat.le_of_ble_eq_true rfl) ⟨Nat.le_of_ble_eq_true rfl, Nat.le_of_ble_eq_true rfl⟩ (Nat.le_of_ble_eq_true rfl) (Nat.le_of_ble_eq_true rfl) (fun q59 hq => ?_)
  replace w := w q59 hq
  generalize va_up _ _ _ = h60 at w ⊢
  obtain ⟨fs, hh, hv, w⟩ := w
  refine V_putF X hin flX12_72 dX12_init_168 hh hv rfl rfl ?_
  generalize va_up _ _ _ = h61 at w ⊢
  refine V_aloadr_n X dX12_init_171 0 rfl ?_
  refine V_bipush (y := 32) X dX12_init_172 (by decide) ?_
  refine V_newa_int (N := 32) (k1 := 21) (n1 := 2236) X kw_76 dX12_init_174 (by decide) (by decide) (Nat.le_of_ble_eq_true rfl) ⟨Nat.le_of_ble_eq_true rfl, Nat.le_of_ble_eq_true rfl⟩ (Nat.le_of_ble_eq_true rfl) (Nat.le_of_ble_eq_true rfl) (fun q62 hq => ?_)
  replace w := w q62 hq
  generalize va_up _ _ _ = h63 at w ⊢
  obtain ⟨fs, hh, hv, w⟩ := w
  refine V_putF X hin flX12_76 dX12_init_176 hh hv rfl rfl ?_
  generalize va_up _ _ _ = h64 at w ⊢
  refine V_aloadr_n X dX12_init_179 0 rfl ?_
  refine V_bipush (y := 32) X dX12_init_180 (by decide) ?_
  refine V_newa_long (N := 32) (k1 := 22) (n1 := 2268) X kw_1736 dX12_init_182 (by decide) (by decide) (Nat.le_of_ble_eq_true rfl) ⟨Nat.le_of_ble_eq_true rfl, Nat.le_of_ble_eq_true rfl⟩ (Nat.le_of_ble_eq_true rfl) (Nat.le_of_ble_eq_true rfl) (fun q65 hq => ?_)
  replace w := w q65 hq
  generalize va_up _ _ _ = h66 at w ⊢
  obtain ⟨fs, hh, hv, w⟩ := w
  refine V_putF X hin flX12_79 dX12_init_184 hh hv rfl rfl ?_
  generalize va_up _ _ _ = h67 at w ⊢
  refine V_aloadr_n X dX12_init_187 0 rfl ?_
  refine V_bipush (y := 72) X dX12_init_188 (by decide) ?_
  refine V_newa_int (N := 72) (k1 := 23) (n1 := 2340) X kw_76 dX12_init_190 (by decide) (by decide) (Nat.le_of_ble_eq_true rfl) ⟨Nat.le_of_ble_eq_true rfl, Nat.le_of_ble_eq_true rfl⟩ (Nat.le_of_ble_eq_true rfl) (Nat.le_of_ble_eq_true rfl) (fun q68 hq => ?_)
  replace w := w q68 hq
  generalize va_up _ _ _ = h69 at w ⊢
  obtain ⟨fs, hh, hv, w⟩ := w
  refine V_putF X hin flX12_82 dX12_init_192 hh hv rfl rfl ?_
  generalize va_up _ _ _ = h70 at w ⊢
  refine V_aloadr_n X dX12_init_195 0 rfl ?_
  refine V_bipush (y := 72) X dX12_init_196 (by decide) ?_
  refine V_newa_int (N := 72) (k1 := 24) (n1 := 2412) X kw_76 dX12_init_198 (by decide) (by decide) (Nat.le_of_ble_eq_true rfl) ⟨Nat.le_of_ble_eq_true rfl, Nat.le_of_ble_eq_true rfl⟩ (Nat.le_of_ble_eq_true rfl) (Nat.le_of_ble_eq_true rfl) (fun q71 hq => ?_)
  replace w := w q71 hq
  generalize va_up _ _ _ = h72 at w ⊢
  obtain ⟨fs, hh, hv, w⟩ := w
  refine V_putF X hin flX12_85 dX12_init_200 hh hv rfl rfl ?_
  generalize va_up _ _ _ = h73 at w ⊢
  refine V_aloadr_n X dX12_init_203 0 rfl ?_
  refine V_bipush (y := 72) X dX12_init_204 (by decide) ?_
  refine V_newa_long (N := 72) (k1 := 25) (n1 := 2484) X kw_1736 dX12_init_206 (by decide) (by decide) (Nat.le_of_ble_eq_true rfl) ⟨Nat.le_of_ble_eq_true rfl, Nat.le_of_ble_eq_true rfl⟩ (Nat.le_of_ble_eq_true rfl) (Nat.le_of_ble_eq_true rfl) (fun q74 hq => ?_)
  replace w := w q74 hq
  generalize va_up _ _ _ = h75 at w ⊢
  obtain ⟨fs, hh, hv, w⟩ := w
  refine V_putF X hin flX12_88 dX12_init_208 hh hv rfl rfl ?_
  generalize va_up _ _ _ = h76 at w ⊢
  refine V_aloadr_n X dX12_init_211 0 rfl ?_
  refine V_bipush (y := 10) X dX12_init_212 (by decide) ?_
  refine V_newa_int (N := 10) (k1 := 26) (n1 := 2494) X kw_76 dX12_init_214 (by decide) (by decide) (Nat.le_of_ble_eq_true rfl) ⟨Nat.le_of_ble_eq_true rfl, Nat.le_of_ble_eq_true rfl⟩ (Nat.le_of_ble_eq_true rfl) (Nat.le_of_ble_eq_true rfl) (fun q77 hq => ?_)
  replace w := w q77 hq
  generalize va_up _ _ _ = h78 at w ⊢
  obtain ⟨fs, hh, hv, w⟩ := w
  refine V_putF X hin flX12_91 dX12_init_216 hh hv rfl rfl ?_
  generalize va_up _ _ _ = h79 at w ⊢
  exact V_vret X rfl dX12_init_219 (Nat.le_of_ble_eq_true rfl) (Nat.le_of_ble_eq_true rfl) w
theorem cX12_init_ok {l : Launch} {G : gG} {h : gH} (hls : l.stackTraces = false) {Qn : gH → Prop} {v0 : Nat} (w : vX12_init Qn h v0) : gMv l yX12_init cX12_init 1 none rmX12_init rmX12_init.cells rmX12_init.slots G h [.ref v0] Qn := by
  exact gMv.of (by decide +kernel) hls (Nat.le_of_ble_eq_true rfl) rfl rfl (fun p e s m below meth c A X hnm => tX12_init X hnm w)
/-! AnimationControllerModel.thrown()I -/
abbrev rmX12_thrown : Room := { frames := 0, cells := 0, slots := 0, locals := 0 }
def vX12_thrown  (Qn : Int32 → gH → Prop) (h : gH) (v0 : Nat) : Prop := gi h v0 15 25 (fun x1 => Qn x1 h)
set_option maxRecDepth 100000 in
set_option maxHeartbeats 4000000 in
theorem tX12_thrown {p : Program} {l : Launch} {e : Env} {s : State} {m : MethodId} {args : Array Value} {below : List Frame} {meth : Method} {c : Code} {G : gG} {A : Nat → Prop} {Qn : Int32 → gH → Prop} (X : gC p l s m args meth c G A cX12_thrown 1 (some FieldType.int) RX12)   {h : gH} {v0 : Nat} (w : vX12_thrown  Qn h v0) : V p l e rmX12_thrown s m args below meth c (MQ below (va_Qi Qn (gB G A) A) args s rmX12_thrown.cells rmX12_thrown.slots A) G A 1 h 0 0 0 [(0, .ref v0)] [] := by
  refine V_aloadr_n X dX12_thrown_0 0 rfl ?_
  obtain ⟨fs, x1, hh, hv, w⟩ := w
  refine V_get X flX12_94 dX12_thrown_1 hh hv ?_
  exact V_iret X rfl dX12_thrown_4 (Nat.le_of_ble_eq_true rfl) (Nat.le_of_ble_eq_true rfl) w
theorem cX12_thrown_ok {l : Launch} {G : gG} {h : gH} (hls : l.stackTraces = false) {Qn : Int32 → gH → Prop} {v0 : Nat} (w : vX12_thrown Qn h v0) : gMi l yX12_thrown cX12_thrown 1 (some FieldType.int) rmX12_thrown rmX12_thrown.cells rmX12_thrown.slots G h [.ref v0] Qn := by
  exact gMi.of (by decide +kernel) hls (Nat.le_of_ble_eq_true rfl) rfl rfl (fun p e s m below meth c A X hnm => tX12_thrown X w)
/-! AnimationControllerModel.in(JJJ)Z -/
abbrev rmX12_in : Room := { frames := 0, cells := 0, slots := 0, locals := 0 }
def vX12_in_b18  (Qn : Int32 → gH → Prop) (h : gH) (s0 : Int32) : Prop := gZ s0 ∧ Qn s0 h
set_option maxRecDepth 100000 in
set_option maxHeartbeats 4000000 in
theorem tX12_in_b18 {p : Program} {l : Launch} {e : Env} {s : State} {m : MethodId} {args : Array Value} {below : List Frame} {meth : Method} {c : Code} {G : gG} {A : Nat → Prop} {Qn : Int32 → gH → Prop} (X : gC p l s m args meth c G A cX12_in 6 (some FieldType.boolean) RX12)   {h : gH} {s0 : Int32} (w : vX12_in_b18  Qn h s0) : V p l e rmX12_in s m args below meth c (MQ below (va_Qi Qn (gB G A) A) args s rmX12_in.cells rmX12_in.slots A) G A 6 h 0 0 18 [] [.int s0] := by
  obtain ⟨hz, w⟩ := w
  exact V_zret X rfl hz.1 dX12_in_18 (Nat.le_of_ble_eq_true rfl) (Nat.le_of_ble_eq_true rfl) w
def vX12_in_b17  (Qn : Int32 → gH → Prop) (h : gH)  : Prop := vX12_in_b18  Qn h 0
set_option maxRecDepth 100000 in
set_option maxHeartbeats 4000000 in
theorem tX12_in_b17 {p : Program} {l : Launch} {e : Env} {s : State} {m : MethodId} {args : Array Value} {below : List Frame} {meth : Method} {c : Code} {G : gG} {A : Nat → Prop} {Qn : Int32 → gH → Prop} (X : gC p l s m args meth c G A cX12_in 6 (some FieldType.boolean) RX12)   {h : gH}  (w : vX12_in_b17  Qn h ) : V p l e rmX12_in s m args below meth c (MQ below (va_Qi Qn (gB G A) A) args s rmX12_in.cells rmX12_in.slots A) G A 6 h 0 0 17 [] [] := by
  refine V_iconst (y := 0) X dX12_in_17 (by decide) ?_
  exact V.sub [] rfl (tX12_in_b18 X  w)
def vX12_in  (Qn : Int32 → gH → Prop) (h : gH) (v0 : Int64) (v2 : Int64) (v4 : Int64) : Prop := (((v0 : Int64) < v2) → (vX12_in_b17  Qn h )) ∧ ((¬ (v0 : Int64) < v2) → (((v4 < (v0 : Int64)) → (vX12_in_b17  Qn h )) ∧ ((¬ v4 < (v0 : Int64)) → (vX12_in_b18  Qn h 1))))
set_option maxRecDepth 100000 in
set_option maxHeartbeats 4000000 in
theorem tX12_in {p : Program} {l : Launch} {e : Env} {s : State} {m : MethodId} {args : Array Value} {below : List Frame} {meth : Method} {c : Code} {G : gG} {A : Nat → Prop} {Qn : Int32 → gH → Prop} (X : gC p l s m args meth c G A cX12_in 6 (some FieldType.boolean) RX12)   {h : gH} {v0 : Int64} {v2 : Int64} {v4 : Int64} (w : vX12_in  Qn h v0 v2 v4) : V p l e rmX12_in s m args below meth c (MQ below (va_Qi Qn (gB G A) A) args s rmX12_in.cells rmX12_in.slots A) G A 6 h 0 0 0 [(0, .long v0), (2, .long v2), (4, .long v4)] [] := by
  refine V_lload_n X dX12_in_0 0 rfl ?_
  refine V_lload_n X dX12_in_1 1 rfl ?_
  refine V_lcmp X dX12_in_2 ?_
  obtain ⟨w1, w2⟩ := w
  refine V_if_lt (tgt := 17) X dX12_in_3 (by decide) (fun z => ?_) (fun z => ?_)
  · replace w := w1 ((lg_cmp_lt _ _).mp z)
    clear w1 w2
    exact V.sub [] rfl (tX12_in_b17 X  w)
  · replace w := w2 (fun z9 => z ((lg_cmp_lt _ _).mpr z9))
    clear w1 w2
    refine V_lload_n X dX12_in_6 0 rfl ?_
    refine V_lload X dX12_in_7 2 rfl ?_
    refine V_lcmp X dX12_in_9 ?_
    obtain ⟨w1, w2⟩ := w
    refine V_if_gt (tgt := 17) X dX12_in_10 (by decide) (fun z => ?_) (fun z => ?_)
    · replace w := w1 ((lg_cmp_gt _ _).mp z)
      clear w1 w2
      exact V.sub [] rfl (tX12_in_b17 X  w)
    · replace w := w2 (fun z9 => z ((lg_cmp_gt _ _).mpr z9))
      clear w1 w2
      refine V_iconst (y := 1) X dX12_in_13 (by decide) ?_
      refine V_goto (tgt := 18) X dX12_in_14 (by decide) ?_
      exact V.sub [] rfl (tX12_in_b18 X  w)
theorem cX12_in_ok {l : Launch} {G : gG} {h : gH} (hls : l.stackTraces = false) {Qn : Int32 → gH → Prop} {v0 : Int64} {v2 : Int64} {v4 : Int64} (w : vX12_in Qn h v0 v2 v4) : gMi l yX12_in cX12_in 6 (some FieldType.boolean) rmX12_in rmX12_in.cells rmX12_in.slots G h [.long v0, .long v2, .long v4] Qn := by
  exact gMi.of (by decide +kernel) hls (Nat.le_of_ble_eq_true rfl) rfl rfl (fun p e s m below meth c A X hnm => tX12_in X w)
/-! AnimationControllerModel.fails(I)I -/
abbrev rmX12_fails : Room := { frames := 0, cells := 0, slots := 0, locals := 0 }
def vX12_fails  (Qn : Int32 → gH → Prop) (h : gH) (v0 : Nat) (v1 : Int32) : Prop := pv h v0 15 25 (.int v1) (fun h1 => Qn 0 h1)
set_option maxRecDepth 100000 in
set_option maxHeartbeats 4000000 in
theorem tX12_fails {p : Program} {l : Launch} {e : Env} {s : State} {m : MethodId} {args : Array Value} {below : List Frame} {meth : Method} {c : Code} {G : gG} {A : Nat → Prop} {Qn : Int32 → gH → Prop} (X : gC p l s m args meth c G A cX12_fails 2 (some FieldType.int) RX12)   {h : gH} {v0 : Nat} {v1 : Int32} (w : vX12_fails  Qn h v0 v1) : V p l e rmX12_fails s m args below meth c (MQ below (va_Qi Qn (gB G A) A) args s rmX12_fails.cells rmX12_fails.slots A) G A 2 h 0 0 0 [(0, .ref v0), (1, .int v1)] [] := by
  refine V_aloadr_n X dX12_fails_0 0 rfl ?_
  refine V_iload_n X dX12_fails_1 1 rfl ?_
  obtain ⟨fs, hh, hv, w⟩ := w
  refine V_put X flX12_94 dX12_fails_2 hh hv rfl rfl ?_
  generalize va_up _ _ _ = h1 at w ⊢
  refine V_iconst (y := 0) X dX12_fails_5 (by decide) ?_
  exact V_iret X rfl dX12_fails_6 (Nat.le_of_ble_eq_true rfl) (Nat.le_of_ble_eq_true rfl) w
theorem cX12_fails_ok {l : Launch} {G : gG} {h : gH} (hls : l.stackTraces = false) {Qn : Int32 → gH → Prop} {v0 : Nat} {v1 : Int32} (w : vX12_fails Qn h v0 v1) : gMi l yX12_fails cX12_fails 2 (some FieldType.int) rmX12_fails rmX12_fails.cells rmX12_fails.slots G h [.ref v0, .int v1] Qn := by
  exact gMi.of (by decide +kernel) hls (Nat.le_of_ble_eq_true rfl) rfl rfl (fun p e s m below meth c A X hnm => tX12_fails X w)
/-! AnimationControllerModel.addParameter(I)I -/
abbrev rmX12_addParameter : Room := { frames := 1, cells := 0, slots := 0, locals := 25 }
def vX12_addParameter  (Qn : Int32 → gH → Prop) (h : gH) (v0 : Nat) (v1 : Int32) : Prop := pv h v0 15 25 (.int 0) (fun h1 => vX12_in (fun x3 h2 => ((¬ (x3 : Int32) = 0) → (gi h2 v0 15 3 (fun x4 => ((¬ (x4 : Int32) = 8) → (gr h2 v0 15 2 (fun r5 => gi h2 v0 15 3 (fun x6 => nn r5 (fun a7 => si h2 a7 x6 v1 (fun h8 => gr h8 v0 15 0 (fun r9 => gi h8 v0 15 3 (fun x10 => nn r9 (fun a11 => si h8 a11 (0 + x10) 0 (fun h12 => gi h12 v0 15 3 (fun x13 => pv h12 v0 15 3 (.int (x13 + 1)) (fun h14 => gi h14 v0 15 3 (fun x15 => Qn (x15 - 1) h14))))))))))))) ∧ (((x4 : Int32) = 8) → (io h2 v0 15 (vX12_fails (fun x17 h16 => Qn x17 h16) h2 v0 2)))))) ∧ (((x3 : Int32) = 0) → (io h2 v0 15 (vX12_fails (fun x19 h18 => Qn x19 h18) h2 v0 1)))) h1 (Int32.toInt64 v1) 0 2)
set_option maxRecDepth 100000 in
set_option maxHeartbeats 4000000 in
theorem tX12_addParameter {p : Program} {l : Launch} {e : Env} {s : State} {m : MethodId} {args : Array Value} {below : List Frame} {meth : Method} {c : Code} {G : gG} {A : Nat → Prop} {Qn : Int32 → gH → Prop} (X : gC p l s m args meth c G A cX12_addParameter 2 (some FieldType.int) RX12)   {h : gH} {v0 : Nat} {v1 : Int32} (w : vX12_addParameter  Qn h v0 v1) : V p l e rmX12_addParameter s m args below meth c (MQ below (va_Qi Qn (gB G A) A) args s rmX12_addParameter.cells rmX12_addParameter.slots A) G A 2 h 0 0 0 [(0, .ref v0), (1, .int v1)] [] := by
  refine V_aloadr_n X dX12_addParameter_0 0 rfl ?_
  refine V_iconst (y := 0) X dX12_addParameter_1 (by decide) ?_
  obtain ⟨fs, hh, hv, w⟩ := w
  refine V_put X flX12_94 dX12_addParameter_2 hh hv rfl rfl ?_
  generalize va_up _ _ _ = h1 at w ⊢
  refine V_iload_n X dX12_addParameter_5 1 rfl ?_
  refine V_i2l X dX12_addParameter_6 ?_
  refine V_lconst (y := 0) X dX12_addParameter_7 (by decide) ?_
  refine V_ldc2 (y := 2) X dX12_addParameter_8 kw_1745 ?_
  refine V_callSi (As := [.long (Int32.toInt64 v1), .long 0, .long 2]) (rest := []) (k1 := 0) (n1 := 0) X (cX12_in_ok X.2.2.2.2.2.2.2.2.1 w) lkX12_99 dX12_addParameter_11 ⟨Nat.le_of_ble_eq_true rfl, Nat.le_of_ble_eq_true rfl⟩ rfl (Nat.le_of_ble_eq_true rfl) ⟨Nat.le_of_ble_eq_true rfl, Nat.le_of_ble_eq_true rfl⟩ (Nat.le_of_ble_eq_true rfl) (Nat.le_of_ble_eq_true rfl) (fun x3 h2 w9 => ?_)
  replace w := w9
  clear w9
  obtain ⟨w1, w2⟩ := w
  refine V_if_ne (tgt := 23) X dX12_addParameter_14 (by decide) (fun z => ?_) (fun z => ?_)
  · replace w := w1 z
    clear w1 w2
    refine V_aloadr_n X dX12_addParameter_23 0 rfl ?_
    obtain ⟨fs, x4, hh, hv, w⟩ := w
    refine V_get X flX12_107 dX12_addParameter_24 hh hv ?_
    refine V_bipush (y := 8) X dX12_addParameter_27 (by decide) ?_
    obtain ⟨w1, w2⟩ := w
    refine V_icmp_ne (tgt := 38) X dX12_addParameter_29 (by decide) (fun z => ?_) (fun z => ?_)
    · replace w := w1 z
      clear w1 w2
      refine V_aloadr_n X dX12_addParameter_38 0 rfl ?_
      obtain ⟨fs, r5, hh, hv, w⟩ := w
      refine V_get X flX12_17 dX12_addParameter_39 hh hv ?_
      refine V_aloadr_n X dX12_addParameter_42 0 rfl ?_
      obtain ⟨fs, x6, hh, hv, w⟩ := w
      refine V_get X flX12_107 dX12_addParameter_43 hh hv ?_
      refine V_iload_n X dX12_addParameter_46 1 rfl ?_
      obtain ⟨a7, rfl, w⟩ := w
      obtain ⟨N9, g9, hh, hi, w⟩ := w
      refine V_iast X dX12_addParameter_47 hh hi ?_
      generalize va_up _ _ _ = h8 at w ⊢
      refine V_aloadr_n X dX12_addParameter_48 0 rfl ?_
      obtain ⟨fs, r9, hh, hv, w⟩ := w
      refine V_get X flX12_7 dX12_addParameter_49 hh hv ?_
      refine V_iconst (y := 0) X dX12_addParameter_52 (by decide) ?_
      refine V_aloadr_n X dX12_addParameter_53 0 rfl ?_
      obtain ⟨fs, x10, hh, hv, w⟩ := w
      refine V_get X flX12_107 dX12_addParameter_54 hh hv ?_
      refine V_iadd X dX12_addParameter_57 ?_
      refine V_iconst (y := 0) X dX12_addParameter_58 (by decide) ?_
      obtain ⟨a11, rfl, w⟩ := w
      obtain ⟨N9, g9, hh, hi, w⟩ := w
      refine V_iast X dX12_addParameter_59 hh hi ?_
      generalize va_up _ _ _ = h12 at w ⊢
      refine V_aloadr_n X dX12_addParameter_60 0 rfl ?_
      refine V_dup X dX12_addParameter_61 rfl ?_
      obtain ⟨fs, x13, hh, hv, w⟩ := w
      refine V_get X flX12_107 dX12_addParameter_62 hh hv ?_
      refine V_iconst (y := 1) X dX12_addParameter_65 (by decide) ?_
      refine V_iadd X dX12_addParameter_66 ?_
      obtain ⟨fs, hh, hv, w⟩ := w
      refine V_put X flX12_107 dX12_addParameter_67 hh hv rfl rfl ?_
      generalize va_up _ _ _ = h14 at w ⊢
      refine V_aloadr_n X dX12_addParameter_70 0 rfl ?_
      obtain ⟨fs, x15, hh, hv, w⟩ := w
      refine V_get X flX12_107 dX12_addParameter_71 hh hv ?_
      refine V_iconst (y := 1) X dX12_addParameter_74 (by decide) ?_
      refine V_isub X dX12_addParameter_75 ?_
      exact V_iret X rfl dX12_addParameter_76 (Nat.le_of_ble_eq_true rfl) (Nat.le_of_ble_eq_true rfl) w
    · replace w := w2 z
      clear w1 w2
      refine V_aloadr_n X dX12_addParameter_32 0 rfl ?_
      refine V_iconst (y := 2) X dX12_addParameter_33 (by decide) ?_
      obtain ⟨fs, hh, w⟩ := w
      refine V_callVi (As := [.int 2]) (rest := []) (k1 := 0) (n1 := 0) X (cX12_fails_ok X.2.2.2.2.2.2.2.2.1 w) lkX12_103 hh (q9 := (RX12, TX12, 42)) rfl rfl dX12_addParameter_34 ⟨Nat.le_of_ble_eq_true rfl, Nat.le_of_ble_eq_true rfl⟩ rfl (Nat.le_of_ble_eq_true rfl) ⟨Nat.le_of_ble_eq_true rfl, Nat.le_of_ble_eq_true rfl⟩ (Nat.le_of_ble_eq_true rfl) (Nat.le_of_ble_eq_true rfl) (fun x17 h16 w9 => ?_)
      replace w := w9
      clear w9
      exact V_iret X rfl dX12_addParameter_37 (Nat.le_of_ble_eq_true rfl) (Nat.le_of_ble_eq_true rfl) w
  · replace w := w2 z
    clear w1 w2
    refine V_aloadr_n X dX12_addParameter_17 0 rfl ?_
    refine V_iconst (y := 1) X dX12_addParameter_18 (by decide) ?_
    obtain ⟨fs, hh, w⟩ := w
    refine V_callVi (As := [.int 1]) (rest := []) (k1 := 0) (n1 := 0) X (cX12_fails_ok X.2.2.2.2.2.2.2.2.1 w) lkX12_103 hh (q9 := (RX12, TX12, 42)) rfl rfl dX12_addParameter_19 ⟨Nat.le_of_ble_eq_true rfl, Nat.le_of_ble_eq_true rfl⟩ rfl (Nat.le_of_ble_eq_true rfl) ⟨Nat.le_of_ble_eq_true rfl, Nat.le_of_ble_eq_true rfl⟩ (Nat.le_of_ble_eq_true rfl) (Nat.le_of_ble_eq_true rfl) (fun x19 h18 w9 => ?_)
    replace w := w9
    clear w9
    exact V_iret X rfl dX12_addParameter_22 (Nat.le_of_ble_eq_true rfl) (Nat.le_of_ble_eq_true rfl) w
theorem cX12_addParameter_ok {l : Launch} {G : gG} {h : gH} (hls : l.stackTraces = false) {Qn : Int32 → gH → Prop} {v0 : Nat} {v1 : Int32} (w : vX12_addParameter Qn h v0 v1) : gMi l yX12_addParameter cX12_addParameter 2 (some FieldType.int) rmX12_addParameter rmX12_addParameter.cells rmX12_addParameter.slots G h [.ref v0, .int v1] Qn := by
  exact gMi.of (by decide +kernel) hls (Nat.le_of_ble_eq_true rfl) rfl rfl (fun p e s m below meth c A X hnm => tX12_addParameter X w)
/-! AnimationControllerModel.isParameter(I)Z -/
abbrev rmX12_isParameter : Room := { frames := 1, cells := 0, slots := 0, locals := 25 }
def vX12_isParameter  (Qn : Int32 → gH → Prop) (h : gH) (v0 : Nat) (v1 : Int32) : Prop := gi h v0 15 3 (fun x1 => vX12_in (fun x3 h2 => gZ x3 ∧ Qn x3 h2) h (Int32.toInt64 v1) 0 (Int32.toInt64 (x1 - 1)))
set_option maxRecDepth 100000 in
set_option maxHeartbeats 4000000 in
theorem tX12_isParameter {p : Program} {l : Launch} {e : Env} {s : State} {m : MethodId} {args : Array Value} {below : List Frame} {meth : Method} {c : Code} {G : gG} {A : Nat → Prop} {Qn : Int32 → gH → Prop} (X : gC p l s m args meth c G A cX12_isParameter 2 (some FieldType.boolean) RX12)   {h : gH} {v0 : Nat} {v1 : Int32} (w : vX12_isParameter  Qn h v0 v1) : V p l e rmX12_isParameter s m args below meth c (MQ below (va_Qi Qn (gB G A) A) args s rmX12_isParameter.cells rmX12_isParameter.slots A) G A 2 h 0 0 0 [(0, .ref v0), (1, .int v1)] [] := by
  refine V_iload_n X dX12_isParameter_0 1 rfl ?_
  refine V_i2l X dX12_isParameter_1 ?_
  refine V_lconst (y := 0) X dX12_isParameter_2 (by decide) ?_
  refine V_aloadr_n X dX12_isParameter_3 0 rfl ?_
  obtain ⟨fs, x1, hh, hv, w⟩ := w
  refine V_get X flX12_107 dX12_isParameter_4 hh hv ?_
  refine V_iconst (y := 1) X dX12_isParameter_7 (by decide) ?_
  refine V_isub X dX12_isParameter_8 ?_
  refine V_i2l X dX12_isParameter_9 ?_
  refine V_callSi (As := [.long (Int32.toInt64 v1), .long 0, .long (Int32.toInt64 (x1 - 1))]) (rest := []) (k1 := 0) (n1 := 0) X (cX12_in_ok X.2.2.2.2.2.2.2.2.1 w) lkX12_99 dX12_isParameter_10 ⟨Nat.le_of_ble_eq_true rfl, Nat.le_of_ble_eq_true rfl⟩ rfl (Nat.le_of_ble_eq_true rfl) ⟨Nat.le_of_ble_eq_true rfl, Nat.le_of_ble_eq_true rfl⟩ (Nat.le_of_ble_eq_true rfl) (Nat.le_of_ble_eq_true rfl) (fun x3 h2 w9 => ?_)
  replace w := w9
  clear w9
  obtain ⟨hz, w⟩ := w
  exact V_zret X rfl hz.1 dX12_isParameter_13 (Nat.le_of_ble_eq_true rfl) (Nat.le_of_ble_eq_true rfl) w
theorem cX12_isParameter_ok {l : Launch} {G : gG} {h : gH} (hls : l.stackTraces = false) {Qn : Int32 → gH → Prop} {v0 : Nat} {v1 : Int32} (w : vX12_isParameter Qn h v0 v1) : gMi l yX12_isParameter cX12_isParameter 2 (some FieldType.boolean) rmX12_isParameter rmX12_isParameter.cells rmX12_isParameter.slots G h [.ref v0, .int v1] Qn := by
  exact gMi.of (by decide +kernel) hls (Nat.le_of_ble_eq_true rfl) rfl rfl (fun p e s m below meth c A X hnm => tX12_isParameter X w)
/-! AnimationControllerModel.set(II)I -/
abbrev rmX12_set : Room := { frames := 2, cells := 0, slots := 0, locals := 46 }
def vX12_set_b49  (Qn : Int32 → gH → Prop) (h : gH) (v0 : Nat) (v1 : Int32) (v2 : Int32) (s0 : Int32) : Prop := ((¬ (s0 : Int32) = 0) → (gr h v0 15 0 (fun r1 => nn r1 (fun a2 => li h a2 (0 + v1) (fun x3 => gr h v0 15 0 (fun r4 => nn r4 (fun a5 => si h a5 (0 + v1) v2 (fun h6 => Qn x3 h6)))))))) ∧ (((s0 : Int32) = 0) → (io h v0 15 (vX12_fails (fun x8 h7 => Qn x8 h7) h v0 2)))
set_option maxRecDepth 100000 in
set_option maxHeartbeats 4000000 in
theorem tX12_set_b49 {p : Program} {l : Launch} {e : Env} {s : State} {m : MethodId} {args : Array Value} {below : List Frame} {meth : Method} {c : Code} {G : gG} {A : Nat → Prop} {Qn : Int32 → gH → Prop} (X : gC p l s m args meth c G A cX12_set 5 (some FieldType.int) RX12)   {h : gH} {v0 : Nat} {v1 : Int32} {v2 : Int32} {s0 : Int32} (w : vX12_set_b49  Qn h v0 v1 v2 s0) : V p l e rmX12_set s m args below meth c (MQ below (va_Qi Qn (gB G A) A) args s rmX12_set.cells rmX12_set.slots A) G A 5 h 0 0 49 [(0, .ref v0), (1, .int v1), (2, .int v2)] [.int s0] := by
  refine V_istore_n X dX12_set_49 rfl (by decide) rfl ?_
  refine V_iload_n X dX12_set_50 0 rfl ?_
  obtain ⟨w1, w2⟩ := w
  refine V_if_ne (tgt := 60) X dX12_set_51 (by decide) (fun z => ?_) (fun z => ?_)
  · replace w := w1 z
    clear w1 w2
    refine V_aloadr_n X dX12_set_60 1 rfl ?_
    obtain ⟨fs, r1, hh, hv, w⟩ := w
    refine V_get X flX12_7 dX12_set_61 hh hv ?_
    refine V_iconst (y := 0) X dX12_set_64 (by decide) ?_
    refine V_iload_n X dX12_set_65 2 rfl ?_
    refine V_iadd X dX12_set_66 ?_
    obtain ⟨a2, rfl, w⟩ := w
    obtain ⟨N9, g9, hh, hi, w⟩ := w
    refine V_iald X dX12_set_67 hh hi ?_
    generalize g9 _ = x3 at w ⊢
    refine V_istore X dX12_set_68 (by decide) rfl ?_
    refine V_aloadr_n X dX12_set_70 2 rfl ?_
    obtain ⟨fs, r4, hh, hv, w⟩ := w
    refine V_get X flX12_7 dX12_set_71 hh hv ?_
    refine V_iconst (y := 0) X dX12_set_74 (by decide) ?_
    refine V_iload_n X dX12_set_75 3 rfl ?_
    refine V_iadd X dX12_set_76 ?_
    refine V_iload_n X dX12_set_77 4 rfl ?_
    obtain ⟨a5, rfl, w⟩ := w
    obtain ⟨N9, g9, hh, hi, w⟩ := w
    refine V_iast X dX12_set_78 hh hi ?_
    generalize va_up _ _ _ = h6 at w ⊢
    refine V_iload X dX12_set_79 0 rfl ?_
    exact V_iret X rfl dX12_set_81 (Nat.le_of_ble_eq_true rfl) (Nat.le_of_ble_eq_true rfl) w
  · replace w := w2 z
    clear w1 w2
    refine V_aloadr_n X dX12_set_54 1 rfl ?_
    refine V_iconst (y := 2) X dX12_set_55 (by decide) ?_
    obtain ⟨fs, hh, w⟩ := w
    refine V_callVi (As := [.int 2]) (rest := []) (k1 := 0) (n1 := 0) X (cX12_fails_ok X.2.2.2.2.2.2.2.2.1 w) lkX12_103 hh (q9 := (RX12, TX12, 42)) rfl rfl dX12_set_56 ⟨Nat.le_of_ble_eq_true rfl, Nat.le_of_ble_eq_true rfl⟩ rfl (Nat.le_of_ble_eq_true rfl) ⟨Nat.le_of_ble_eq_true rfl, Nat.le_of_ble_eq_true rfl⟩ (Nat.le_of_ble_eq_true rfl) (Nat.le_of_ble_eq_true rfl) (fun x8 h7 w9 => ?_)
    replace w := w9
    clear w9
    exact V_iret X rfl dX12_set_59 (Nat.le_of_ble_eq_true rfl) (Nat.le_of_ble_eq_true rfl) w
def vX12_set  (Qn : Int32 → gH → Prop) (h : gH) (v0 : Nat) (v1 : Int32) (v2 : Int32) : Prop := pv h v0 15 25 (.int 0) (fun h1 => io h1 v0 15 (vX12_isParameter (fun x3 h2 => ((¬ (x3 : Int32) = 0) → (gr h2 v0 15 2 (fun r4 => nn r4 (fun a5 => li h2 a5 v1 (fun x6 => ((¬ (x6 : Int32) = 0) → (vX12_in (fun x8 h7 => vX12_set_b49  Qn h7 v0 v1 v2 x8) h2 (Int32.toInt64 v2) 0 1)) ∧ (((x6 : Int32) = 0) → (vX12_in (fun x10 h9 => vX12_set_b49  Qn h9 v0 v1 v2 x10) h2 (Int32.toInt64 v2) (-100) 100))))))) ∧ (((x3 : Int32) = 0) → (io h2 v0 15 (vX12_fails (fun x12 h11 => Qn x12 h11) h2 v0 1)))) h1 v0 v1))
set_option maxRecDepth 100000 in
set_option maxHeartbeats 4000000 in
theorem tX12_set {p : Program} {l : Launch} {e : Env} {s : State} {m : MethodId} {args : Array Value} {below : List Frame} {meth : Method} {c : Code} {G : gG} {A : Nat → Prop} {Qn : Int32 → gH → Prop} (X : gC p l s m args meth c G A cX12_set 5 (some FieldType.int) RX12)   {h : gH} {v0 : Nat} {v1 : Int32} {v2 : Int32} (w : vX12_set  Qn h v0 v1 v2) : V p l e rmX12_set s m args below meth c (MQ below (va_Qi Qn (gB G A) A) args s rmX12_set.cells rmX12_set.slots A) G A 5 h 0 0 0 [(0, .ref v0), (1, .int v1), (2, .int v2)] [] := by
  refine V_aloadr_n X dX12_set_0 0 rfl ?_
  refine V_iconst (y := 0) X dX12_set_1 (by decide) ?_
  obtain ⟨fs, hh, hv, w⟩ := w
  refine V_put X flX12_94 dX12_set_2 hh hv rfl rfl ?_
  generalize va_up _ _ _ = h1 at w ⊢
  refine V_aloadr_n X dX12_set_5 0 rfl ?_
  refine V_iload_n X dX12_set_6 1 rfl ?_
  obtain ⟨fs, hh, w⟩ := w
  refine V_callVi (As := [.int v1]) (rest := []) (k1 := 0) (n1 := 0) X (cX12_isParameter_ok X.2.2.2.2.2.2.2.2.1 w) lkX12_110 hh (q9 := (RX12, TX12, 42)) rfl rfl dX12_set_7 ⟨Nat.le_of_ble_eq_true rfl, Nat.le_of_ble_eq_true rfl⟩ rfl (Nat.le_of_ble_eq_true rfl) ⟨Nat.le_of_ble_eq_true rfl, Nat.le_of_ble_eq_true rfl⟩ (Nat.le_of_ble_eq_true rfl) (Nat.le_of_ble_eq_true rfl) (fun x3 h2 w9 => ?_)
  replace w := w9
  clear w9
  obtain ⟨w1, w2⟩ := w
  refine V_if_ne (tgt := 19) X dX12_set_10 (by decide) (fun z => ?_) (fun z => ?_)
  · replace w := w1 z
    clear w1 w2
    refine V_aloadr_n X dX12_set_19 0 rfl ?_
    obtain ⟨fs, r4, hh, hv, w⟩ := w
    refine V_get X flX12_17 dX12_set_20 hh hv ?_
    refine V_iload_n X dX12_set_23 1 rfl ?_
    obtain ⟨a5, rfl, w⟩ := w
    obtain ⟨N9, g9, hh, hi, w⟩ := w
    refine V_iald X dX12_set_24 hh hi ?_
    generalize g9 _ = x6 at w ⊢
    obtain ⟨w1, w2⟩ := w
    refine V_if_ne (tgt := 42) X dX12_set_25 (by decide) (fun z => ?_) (fun z => ?_)
    · replace w := w1 z
      clear w1 w2
      refine V_iload_n X dX12_set_42 2 rfl ?_
      refine V_i2l X dX12_set_43 ?_
      refine V_lconst (y := 0) X dX12_set_44 (by decide) ?_
      refine V_lconst (y := 1) X dX12_set_45 (by decide) ?_
      refine V_callSi (As := [.long (Int32.toInt64 v2), .long 0, .long 1]) (rest := []) (k1 := 0) (n1 := 0) X (cX12_in_ok X.2.2.2.2.2.2.2.2.1 w) lkX12_99 dX12_set_46 ⟨Nat.le_of_ble_eq_true rfl, Nat.le_of_ble_eq_true rfl⟩ rfl (Nat.le_of_ble_eq_true rfl) ⟨Nat.le_of_ble_eq_true rfl, Nat.le_of_ble_eq_true rfl⟩ (Nat.le_of_ble_eq_true rfl) (Nat.le_of_ble_eq_true rfl) (fun x8 h7 w9 => ?_)
      replace w := w9
      clear w9
      exact V.sub [0, 1, 2] rfl (tX12_set_b49 X  w)
    · replace w := w2 z
      clear w1 w2
      refine V_iload_n X dX12_set_28 2 rfl ?_
      refine V_i2l X dX12_set_29 ?_
      refine V_ldc2 (y := (-100)) X dX12_set_30 kw_1761 ?_
      refine V_ldc2 (y := 100) X dX12_set_33 kw_1762 ?_
      refine V_callSi (As := [.long (Int32.toInt64 v2), .long (-100), .long 100]) (rest := []) (k1 := 0) (n1 := 0) X (cX12_in_ok X.2.2.2.2.2.2.2.2.1 w) lkX12_99 dX12_set_36 ⟨Nat.le_of_ble_eq_true rfl, Nat.le_of_ble_eq_true rfl⟩ rfl (Nat.le_of_ble_eq_true rfl) ⟨Nat.le_of_ble_eq_true rfl, Nat.le_of_ble_eq_true rfl⟩ (Nat.le_of_ble_eq_true rfl) (Nat.le_of_ble_eq_true rfl) (fun x10 h9 w9 => ?_)
      replace w := w9
      clear w9
      refine V_goto (tgt := 49) X dX12_set_39 (by decide) ?_
      exact V.sub [0, 1, 2] rfl (tX12_set_b49 X  w)
  · replace w := w2 z
    clear w1 w2
    refine V_aloadr_n X dX12_set_13 0 rfl ?_
    refine V_iconst (y := 1) X dX12_set_14 (by decide) ?_
    obtain ⟨fs, hh, w⟩ := w
    refine V_callVi (As := [.int 1]) (rest := []) (k1 := 0) (n1 := 0) X (cX12_fails_ok X.2.2.2.2.2.2.2.2.1 w) lkX12_103 hh (q9 := (RX12, TX12, 42)) rfl rfl dX12_set_15 ⟨Nat.le_of_ble_eq_true rfl, Nat.le_of_ble_eq_true rfl⟩ rfl (Nat.le_of_ble_eq_true rfl) ⟨Nat.le_of_ble_eq_true rfl, Nat.le_of_ble_eq_true rfl⟩ (Nat.le_of_ble_eq_true rfl) (Nat.le_of_ble_eq_true rfl) (fun x12 h11 w9 => ?_)
    replace w := w9
    clear w9
    exact V_iret X rfl dX12_set_18 (Nat.le_of_ble_eq_true rfl) (Nat.le_of_ble_eq_true rfl) w
theorem cX12_set_ok {l : Launch} {G : gG} {h : gH} (hls : l.stackTraces = false) {Qn : Int32 → gH → Prop} {v0 : Nat} {v1 : Int32} {v2 : Int32} (w : vX12_set Qn h v0 v1 v2) : gMi l yX12_set cX12_set 5 (some FieldType.int) rmX12_set rmX12_set.cells rmX12_set.slots G h [.ref v0, .int v1, .int v2] Qn := by
  exact gMi.of (by decide +kernel) hls (Nat.le_of_ble_eq_true rfl) rfl rfl (fun p e s m below meth c A X hnm => tX12_set X w)
/-! AnimationControllerModel.value(I)I -/
abbrev rmX12_value : Room := { frames := 2, cells := 0, slots := 0, locals := 46 }
def vX12_value_b29  (Qn : Int32 → gH → Prop) (h : gH) (s0 : Int32) : Prop := Qn s0 h
set_option maxRecDepth 100000 in
set_option maxHeartbeats 4000000 in
theorem tX12_value_b29 {p : Program} {l : Launch} {e : Env} {s : State} {m : MethodId} {args : Array Value} {below : List Frame} {meth : Method} {c : Code} {G : gG} {A : Nat → Prop} {Qn : Int32 → gH → Prop} (X : gC p l s m args meth c G A cX12_value 2 (some FieldType.int) RX12)   {h : gH} {s0 : Int32} (w : vX12_value_b29  Qn h s0) : V p l e rmX12_value s m args below meth c (MQ below (va_Qi Qn (gB G A) A) args s rmX12_value.cells rmX12_value.slots A) G A 2 h 0 0 29 [] [.int s0] := by
  exact V_iret X rfl dX12_value_29 (Nat.le_of_ble_eq_true rfl) (Nat.le_of_ble_eq_true rfl) w
def vX12_value  (Qn : Int32 → gH → Prop) (h : gH) (v0 : Nat) (v1 : Int32) : Prop := pv h v0 15 25 (.int 0) (fun h1 => io h1 v0 15 (vX12_isParameter (fun x3 h2 => (((x3 : Int32) = 0) → (io h2 v0 15 (vX12_fails (fun x5 h4 => vX12_value_b29  Qn h4 x5) h2 v0 1))) ∧ ((¬ (x3 : Int32) = 0) → (gr h2 v0 15 0 (fun r6 => nn r6 (fun a7 => li h2 a7 (0 + v1) (fun x8 => vX12_value_b29  Qn h2 x8)))))) h1 v0 v1))
set_option maxRecDepth 100000 in
set_option maxHeartbeats 4000000 in
theorem tX12_value {p : Program} {l : Launch} {e : Env} {s : State} {m : MethodId} {args : Array Value} {below : List Frame} {meth : Method} {c : Code} {G : gG} {A : Nat → Prop} {Qn : Int32 → gH → Prop} (X : gC p l s m args meth c G A cX12_value 2 (some FieldType.int) RX12)   {h : gH} {v0 : Nat} {v1 : Int32} (w : vX12_value  Qn h v0 v1) : V p l e rmX12_value s m args below meth c (MQ below (va_Qi Qn (gB G A) A) args s rmX12_value.cells rmX12_value.slots A) G A 2 h 0 0 0 [(0, .ref v0), (1, .int v1)] [] := by
  refine V_aloadr_n X dX12_value_0 0 rfl ?_
  refine V_iconst (y := 0) X dX12_value_1 (by decide) ?_
  obtain ⟨fs, hh, hv, w⟩ := w
  refine V_put X flX12_94 dX12_value_2 hh hv rfl rfl ?_
  generalize va_up _ _ _ = h1 at w ⊢
  refine V_aloadr_n X dX12_value_5 0 rfl ?_
  refine V_iload_n X dX12_value_6 1 rfl ?_
  obtain ⟨fs, hh, w⟩ := w
  refine V_callVi (As := [.int v1]) (rest := []) (k1 := 0) (n1 := 0) X (cX12_isParameter_ok X.2.2.2.2.2.2.2.2.1 w) lkX12_110 hh (q9 := (RX12, TX12, 42)) rfl rfl dX12_value_7 ⟨Nat.le_of_ble_eq_true rfl, Nat.le_of_ble_eq_true rfl⟩ rfl (Nat.le_of_ble_eq_true rfl) ⟨Nat.le_of_ble_eq_true rfl, Nat.le_of_ble_eq_true rfl⟩ (Nat.le_of_ble_eq_true rfl) (Nat.le_of_ble_eq_true rfl) (fun x3 h2 w9 => ?_)
  replace w := w9
  clear w9
  obtain ⟨w1, w2⟩ := w
  refine V_if_eq (tgt := 24) X dX12_value_10 (by decide) (fun z => ?_) (fun z => ?_)
  · replace w := w1 z
    clear w1 w2
    refine V_aloadr_n X dX12_value_24 0 rfl ?_
    refine V_iconst (y := 1) X dX12_value_25 (by decide) ?_
    obtain ⟨fs, hh, w⟩ := w
    refine V_callVi (As := [.int 1]) (rest := []) (k1 := 0) (n1 := 0) X (cX12_fails_ok X.2.2.2.2.2.2.2.2.1 w) lkX12_103 hh (q9 := (RX12, TX12, 42)) rfl rfl dX12_value_26 ⟨Nat.le_of_ble_eq_true rfl, Nat.le_of_ble_eq_true rfl⟩ rfl (Nat.le_of_ble_eq_true rfl) ⟨Nat.le_of_ble_eq_true rfl, Nat.le_of_ble_eq_true rfl⟩ (Nat.le_of_ble_eq_true rfl) (Nat.le_of_ble_eq_true rfl) (fun x5 h4 w9 => ?_)
    replace w := w9
    clear w9
    exact V.sub [] rfl (tX12_value_b29 X  w)
  · replace w := w2 z
    clear w1 w2
    refine V_aloadr_n X dX12_value_13 0 rfl ?_
    obtain ⟨fs, r6, hh, hv, w⟩ := w
    refine V_get X flX12_7 dX12_value_14 hh hv ?_
    refine V_iconst (y := 0) X dX12_value_17 (by decide) ?_
    refine V_iload_n X dX12_value_18 1 rfl ?_
    refine V_iadd X dX12_value_19 ?_
    obtain ⟨a7, rfl, w⟩ := w
    obtain ⟨N9, g9, hh, hi, w⟩ := w
    refine V_iald X dX12_value_20 hh hi ?_
    generalize g9 _ = x8 at w ⊢
    refine V_goto (tgt := 29) X dX12_value_21 (by decide) ?_
    exact V.sub [] rfl (tX12_value_b29 X  w)
theorem cX12_value_ok {l : Launch} {G : gG} {h : gH} (hls : l.stackTraces = false) {Qn : Int32 → gH → Prop} {v0 : Nat} {v1 : Int32} (w : vX12_value Qn h v0 v1) : gMi l yX12_value cX12_value 2 (some FieldType.int) rmX12_value rmX12_value.cells rmX12_value.slots G h [.ref v0, .int v1] Qn := by
  exact gMi.of (by decide +kernel) hls (Nat.le_of_ble_eq_true rfl) rfl rfl (fun p e s m below meth c A X hnm => tX12_value X w)
/-! AnimationControllerModel.addClip(I)I -/
abbrev rmX12_addClip : Room := { frames := 1, cells := 0, slots := 0, locals := 25 }
def vX12_addClip  (Qn : Int32 → gH → Prop) (h : gH) (v0 : Nat) (v1 : Int32) : Prop := pv h v0 15 25 (.int 0) (fun h1 => vX12_in (fun x3 h2 => ((¬ (x3 : Int32) = 0) → (gi h2 v0 15 8 (fun x4 => ((¬ (x4 : Int32) = 12) → (gr h2 v0 15 4 (fun r5 => gi h2 v0 15 8 (fun x6 => nn r5 (fun a7 => si h2 a7 x6 v1 (fun h8 => gi h8 v0 15 8 (fun x9 => pv h8 v0 15 8 (.int (x9 + 1)) (fun h10 => gi h10 v0 15 8 (fun x11 => Qn (x11 - 1) h10))))))))) ∧ (((x4 : Int32) = 12) → (io h2 v0 15 (vX12_fails (fun x13 h12 => Qn x13 h12) h2 v0 2)))))) ∧ (((x3 : Int32) = 0) → (io h2 v0 15 (vX12_fails (fun x15 h14 => Qn x15 h14) h2 v0 1)))) h1 (Int32.toInt64 v1) 1 500)
set_option maxRecDepth 100000 in
set_option maxHeartbeats 4000000 in
theorem tX12_addClip {p : Program} {l : Launch} {e : Env} {s : State} {m : MethodId} {args : Array Value} {below : List Frame} {meth : Method} {c : Code} {G : gG} {A : Nat → Prop} {Qn : Int32 → gH → Prop} (X : gC p l s m args meth c G A cX12_addClip 2 (some FieldType.int) RX12)   {h : gH} {v0 : Nat} {v1 : Int32} (w : vX12_addClip  Qn h v0 v1) : V p l e rmX12_addClip s m args below meth c (MQ below (va_Qi Qn (gB G A) A) args s rmX12_addClip.cells rmX12_addClip.slots A) G A 2 h 0 0 0 [(0, .ref v0), (1, .int v1)] [] := by
  refine V_aloadr_n X dX12_addClip_0 0 rfl ?_
  refine V_iconst (y := 0) X dX12_addClip_1 (by decide) ?_
  obtain ⟨fs, hh, hv, w⟩ := w
  refine V_put X flX12_94 dX12_addClip_2 hh hv rfl rfl ?_
  generalize va_up _ _ _ = h1 at w ⊢
  refine V_iload_n X dX12_addClip_5 1 rfl ?_
  refine V_i2l X dX12_addClip_6 ?_
  refine V_lconst (y := 1) X dX12_addClip_7 (by decide) ?_
  refine V_ldc2 (y := 500) X dX12_addClip_8 kw_1771 ?_
  refine V_callSi (As := [.long (Int32.toInt64 v1), .long 1, .long 500]) (rest := []) (k1 := 0) (n1 := 0) X (cX12_in_ok X.2.2.2.2.2.2.2.2.1 w) lkX12_99 dX12_addClip_11 ⟨Nat.le_of_ble_eq_true rfl, Nat.le_of_ble_eq_true rfl⟩ rfl (Nat.le_of_ble_eq_true rfl) ⟨Nat.le_of_ble_eq_true rfl, Nat.le_of_ble_eq_true rfl⟩ (Nat.le_of_ble_eq_true rfl) (Nat.le_of_ble_eq_true rfl) (fun x3 h2 w9 => ?_)
  replace w := w9
  clear w9
  obtain ⟨w1, w2⟩ := w
  refine V_if_ne (tgt := 23) X dX12_addClip_14 (by decide) (fun z => ?_) (fun z => ?_)
  · replace w := w1 z
    clear w1 w2
    refine V_aloadr_n X dX12_addClip_23 0 rfl ?_
    obtain ⟨fs, x4, hh, hv, w⟩ := w
    refine V_get X flX12_120 dX12_addClip_24 hh hv ?_
    refine V_bipush (y := 12) X dX12_addClip_27 (by decide) ?_
    obtain ⟨w1, w2⟩ := w
    refine V_icmp_ne (tgt := 38) X dX12_addClip_29 (by decide) (fun z => ?_) (fun z => ?_)
    · replace w := w1 z
      clear w1 w2
      refine V_aloadr_n X dX12_addClip_38 0 rfl ?_
      obtain ⟨fs, r5, hh, hv, w⟩ := w
      refine V_get X flX12_20 dX12_addClip_39 hh hv ?_
      refine V_aloadr_n X dX12_addClip_42 0 rfl ?_
      obtain ⟨fs, x6, hh, hv, w⟩ := w
      refine V_get X flX12_120 dX12_addClip_43 hh hv ?_
      refine V_iload_n X dX12_addClip_46 1 rfl ?_
      obtain ⟨a7, rfl, w⟩ := w
      obtain ⟨N9, g9, hh, hi, w⟩ := w
      refine V_iast X dX12_addClip_47 hh hi ?_
      generalize va_up _ _ _ = h8 at w ⊢
      refine V_aloadr_n X dX12_addClip_48 0 rfl ?_
      refine V_dup X dX12_addClip_49 rfl ?_
      obtain ⟨fs, x9, hh, hv, w⟩ := w
      refine V_get X flX12_120 dX12_addClip_50 hh hv ?_
      refine V_iconst (y := 1) X dX12_addClip_53 (by decide) ?_
      refine V_iadd X dX12_addClip_54 ?_
      obtain ⟨fs, hh, hv, w⟩ := w
      refine V_put X flX12_120 dX12_addClip_55 hh hv rfl rfl ?_
      generalize va_up _ _ _ = h10 at w ⊢
      refine V_aloadr_n X dX12_addClip_58 0 rfl ?_
      obtain ⟨fs, x11, hh, hv, w⟩ := w
      refine V_get X flX12_120 dX12_addClip_59 hh hv ?_
      refine V_iconst (y := 1) X dX12_addClip_62 (by decide) ?_
      refine V_isub X dX12_addClip_63 ?_
      exact V_iret X rfl dX12_addClip_64 (Nat.le_of_ble_eq_true rfl) (Nat.le_of_ble_eq_true rfl) w
    · replace w := w2 z
      clear w1 w2
      refine V_aloadr_n X dX12_addClip_32 0 rfl ?_
      refine V_iconst (y := 2) X dX12_addClip_33 (by decide) ?_
      obtain ⟨fs, hh, w⟩ := w
      refine V_callVi (As := [.int 2]) (rest := []) (k1 := 0) (n1 := 0) X (cX12_fails_ok X.2.2.2.2.2.2.2.2.1 w) lkX12_103 hh (q9 := (RX12, TX12, 42)) rfl rfl dX12_addClip_34 ⟨Nat.le_of_ble_eq_true rfl, Nat.le_of_ble_eq_true rfl⟩ rfl (Nat.le_of_ble_eq_true rfl) ⟨Nat.le_of_ble_eq_true rfl, Nat.le_of_ble_eq_true rfl⟩ (Nat.le_of_ble_eq_true rfl) (Nat.le_of_ble_eq_true rfl) (fun x13 h12 w9 => ?_)
      replace w := w9
      clear w9
      exact V_iret X rfl dX12_addClip_37 (Nat.le_of_ble_eq_true rfl) (Nat.le_of_ble_eq_true rfl) w
  · replace w := w2 z
    clear w1 w2
    refine V_aloadr_n X dX12_addClip_17 0 rfl ?_
    refine V_iconst (y := 1) X dX12_addClip_18 (by decide) ?_
    obtain ⟨fs, hh, w⟩ := w
    refine V_callVi (As := [.int 1]) (rest := []) (k1 := 0) (n1 := 0) X (cX12_fails_ok X.2.2.2.2.2.2.2.2.1 w) lkX12_103 hh (q9 := (RX12, TX12, 42)) rfl rfl dX12_addClip_19 ⟨Nat.le_of_ble_eq_true rfl, Nat.le_of_ble_eq_true rfl⟩ rfl (Nat.le_of_ble_eq_true rfl) ⟨Nat.le_of_ble_eq_true rfl, Nat.le_of_ble_eq_true rfl⟩ (Nat.le_of_ble_eq_true rfl) (Nat.le_of_ble_eq_true rfl) (fun x15 h14 w9 => ?_)
    replace w := w9
    clear w9
    exact V_iret X rfl dX12_addClip_22 (Nat.le_of_ble_eq_true rfl) (Nat.le_of_ble_eq_true rfl) w
theorem cX12_addClip_ok {l : Launch} {G : gG} {h : gH} (hls : l.stackTraces = false) {Qn : Int32 → gH → Prop} {v0 : Nat} {v1 : Int32} (w : vX12_addClip Qn h v0 v1) : gMi l yX12_addClip cX12_addClip 2 (some FieldType.int) rmX12_addClip rmX12_addClip.cells rmX12_addClip.slots G h [.ref v0, .int v1] Qn := by
  exact gMi.of (by decide +kernel) hls (Nat.le_of_ble_eq_true rfl) rfl rfl (fun p e s m below meth c A X hnm => tX12_addClip X w)
/-! AnimationControllerModel.isClip(I)Z -/
abbrev rmX12_isClip : Room := { frames := 1, cells := 0, slots := 0, locals := 25 }
def vX12_isClip  (Qn : Int32 → gH → Prop) (h : gH) (v0 : Nat) (v1 : Int32) : Prop := gi h v0 15 8 (fun x1 => vX12_in (fun x3 h2 => gZ x3 ∧ Qn x3 h2) h (Int32.toInt64 v1) 0 (Int32.toInt64 (x1 - 1)))
set_option maxRecDepth 100000 in
set_option maxHeartbeats 4000000 in
theorem tX12_isClip {p : Program} {l : Launch} {e : Env} {s : State} {m : MethodId} {args : Array Value} {below : List Frame} {meth : Method} {c : Code} {G : gG} {A : Nat → Prop} {Qn : Int32 → gH → Prop} (X : gC p l s m args meth c G A cX12_isClip 2 (some FieldType.boolean) RX12)   {h : gH} {v0 : Nat} {v1 : Int32} (w : vX12_isClip  Qn h v0 v1) : V p l e rmX12_isClip s m args below meth c (MQ below (va_Qi Qn (gB G A) A) args s rmX12_isClip.cells rmX12_isClip.slots A) G A 2 h 0 0 0 [(0, .ref v0), (1, .int v1)] [] := by
  refine V_iload_n X dX12_isClip_0 1 rfl ?_
  refine V_i2l X dX12_isClip_1 ?_
  refine V_lconst (y := 0) X dX12_isClip_2 (by decide) ?_
  refine V_aloadr_n X dX12_isClip_3 0 rfl ?_
  obtain ⟨fs, x1, hh, hv, w⟩ := w
  refine V_get X flX12_120 dX12_isClip_4 hh hv ?_
  refine V_iconst (y := 1) X dX12_isClip_7 (by decide) ?_
  refine V_isub X dX12_isClip_8 ?_
  refine V_i2l X dX12_isClip_9 ?_
  refine V_callSi (As := [.long (Int32.toInt64 v1), .long 0, .long (Int32.toInt64 (x1 - 1))]) (rest := []) (k1 := 0) (n1 := 0) X (cX12_in_ok X.2.2.2.2.2.2.2.2.1 w) lkX12_99 dX12_isClip_10 ⟨Nat.le_of_ble_eq_true rfl, Nat.le_of_ble_eq_true rfl⟩ rfl (Nat.le_of_ble_eq_true rfl) ⟨Nat.le_of_ble_eq_true rfl, Nat.le_of_ble_eq_true rfl⟩ (Nat.le_of_ble_eq_true rfl) (Nat.le_of_ble_eq_true rfl) (fun x3 h2 w9 => ?_)
  replace w := w9
  clear w9
  obtain ⟨hz, w⟩ := w
  exact V_zret X rfl hz.1 dX12_isClip_13 (Nat.le_of_ble_eq_true rfl) (Nat.le_of_ble_eq_true rfl) w
theorem cX12_isClip_ok {l : Launch} {G : gG} {h : gH} (hls : l.stackTraces = false) {Qn : Int32 → gH → Prop} {v0 : Nat} {v1 : Int32} (w : vX12_isClip Qn h v0 v1) : gMi l yX12_isClip cX12_isClip 2 (some FieldType.boolean) rmX12_isClip rmX12_isClip.cells rmX12_isClip.slots G h [.ref v0, .int v1] Qn := by
  exact gMi.of (by decide +kernel) hls (Nat.le_of_ble_eq_true rfl) rfl rfl (fun p e s m below meth c A X hnm => tX12_isClip X w)
/-! AnimationControllerModel.addEvent(III)I -/
abbrev rmX12_addEvent : Room := { frames := 2, cells := 0, slots := 0, locals := 46 }
def vX12_addEvent_b49  (Qn : Int32 → gH → Prop) (h : gH) (v0 : Nat) : Prop := io h v0 15 (vX12_fails (fun x2 h1 => Qn x2 h1) h v0 2)
set_option maxRecDepth 100000 in
set_option maxHeartbeats 4000000 in
theorem tX12_addEvent_b49 {p : Program} {l : Launch} {e : Env} {s : State} {m : MethodId} {args : Array Value} {below : List Frame} {meth : Method} {c : Code} {G : gG} {A : Nat → Prop} {Qn : Int32 → gH → Prop} (X : gC p l s m args meth c G A cX12_addEvent 5 (some FieldType.int) RX12)   {h : gH} {v0 : Nat} (w : vX12_addEvent_b49  Qn h v0) : V p l e rmX12_addEvent s m args below meth c (MQ below (va_Qi Qn (gB G A) A) args s rmX12_addEvent.cells rmX12_addEvent.slots A) G A 5 h 0 0 49 [(0, .ref v0)] [] := by
  refine V_aloadr_n X dX12_addEvent_49 0 rfl ?_
  refine V_iconst (y := 2) X dX12_addEvent_50 (by decide) ?_
  obtain ⟨fs, hh, w⟩ := w
  refine V_callVi (As := [.int 2]) (rest := []) (k1 := 0) (n1 := 0) X (cX12_fails_ok X.2.2.2.2.2.2.2.2.1 w) lkX12_103 hh (q9 := (RX12, TX12, 42)) rfl rfl dX12_addEvent_51 ⟨Nat.le_of_ble_eq_true rfl, Nat.le_of_ble_eq_true rfl⟩ rfl (Nat.le_of_ble_eq_true rfl) ⟨Nat.le_of_ble_eq_true rfl, Nat.le_of_ble_eq_true rfl⟩ (Nat.le_of_ble_eq_true rfl) (Nat.le_of_ble_eq_true rfl) (fun x2 h1 w9 => ?_)
  replace w := w9
  clear w9
  exact V_iret X rfl dX12_addEvent_54 (Nat.le_of_ble_eq_true rfl) (Nat.le_of_ble_eq_true rfl) w
def vX12_addEvent_b142  (Qn : Int32 → gH → Prop) (h : gH) (v0 : Nat) (v1 : Int32) (v2 : Int32) (v3 : Int32) (v4 : Int32) : Prop := gr h v0 15 6 (fun r1 => nn r1 (fun a2 => si h a2 v4 v2 (fun h3 => gr h3 v0 15 7 (fun r4 => nn r4 (fun a5 => si h3 a5 v4 v3 (fun h6 => gr h6 v0 15 5 (fun r7 => nn r7 (fun a8 => li h6 a8 v1 (fun x9 => si h6 a8 v1 (x9 + 1) (fun h10 => gr h10 v0 15 5 (fun r11 => nn r11 (fun a12 => li h10 a12 v1 (fun x13 => Qn x13 h10)))))))))))))
set_option maxRecDepth 100000 in
set_option maxHeartbeats 4000000 in
theorem tX12_addEvent_b142 {p : Program} {l : Launch} {e : Env} {s : State} {m : MethodId} {args : Array Value} {below : List Frame} {meth : Method} {c : Code} {G : gG} {A : Nat → Prop} {Qn : Int32 → gH → Prop} (X : gC p l s m args meth c G A cX12_addEvent 5 (some FieldType.int) RX12)   {h : gH} {v0 : Nat} {v1 : Int32} {v2 : Int32} {v3 : Int32} {v4 : Int32} (w : vX12_addEvent_b142  Qn h v0 v1 v2 v3 v4) : V p l e rmX12_addEvent s m args below meth c (MQ below (va_Qi Qn (gB G A) A) args s rmX12_addEvent.cells rmX12_addEvent.slots A) G A 5 h 0 0 142 [(0, .ref v0), (1, .int v1), (2, .int v2), (3, .int v3), (4, .int v4)] [] := by
  refine V_aloadr_n X dX12_addEvent_142 0 rfl ?_
  obtain ⟨fs, r1, hh, hv, w⟩ := w
  refine V_get X flX12_26 dX12_addEvent_143 hh hv ?_
  refine V_iload X dX12_addEvent_146 4 rfl ?_
  refine V_iload_n X dX12_addEvent_148 2 rfl ?_
  obtain ⟨a2, rfl, w⟩ := w
  obtain ⟨N9, g9, hh, hi, w⟩ := w
  refine V_iast X dX12_addEvent_149 hh hi ?_
  generalize va_up _ _ _ = h3 at w ⊢
  refine V_aloadr_n X dX12_addEvent_150 0 rfl ?_
  obtain ⟨fs, r4, hh, hv, w⟩ := w
  refine V_get X flX12_29 dX12_addEvent_151 hh hv ?_
  refine V_iload X dX12_addEvent_154 4 rfl ?_
  refine V_iload_n X dX12_addEvent_156 3 rfl ?_
  obtain ⟨a5, rfl, w⟩ := w
  obtain ⟨N9, g9, hh, hi, w⟩ := w
  refine V_iast X dX12_addEvent_157 hh hi ?_
  generalize va_up _ _ _ = h6 at w ⊢
  refine V_aloadr_n X dX12_addEvent_158 0 rfl ?_
  obtain ⟨fs, r7, hh, hv, w⟩ := w
  refine V_get X flX12_23 dX12_addEvent_159 hh hv ?_
  refine V_iload_n X dX12_addEvent_162 1 rfl ?_
  refine V_dup2 X dX12_addEvent_163 rfl (va_cat1 _) ?_
  obtain ⟨a8, rfl, w⟩ := w
  obtain ⟨N9, g9, hh, hi, w⟩ := w
  refine V_iald X dX12_addEvent_164 hh hi ?_
  generalize g9 _ = x9 at w ⊢
  refine V_iconst (y := 1) X dX12_addEvent_165 (by decide) ?_
  refine V_iadd X dX12_addEvent_166 ?_
  obtain ⟨N9, g9, hh, hi, w⟩ := w
  refine V_iast X dX12_addEvent_167 hh hi ?_
  generalize va_up _ _ _ = h10 at w ⊢
  refine V_aloadr_n X dX12_addEvent_168 0 rfl ?_
  obtain ⟨fs, r11, hh, hv, w⟩ := w
  refine V_get X flX12_23 dX12_addEvent_169 hh hv ?_
  refine V_iload_n X dX12_addEvent_172 1 rfl ?_
  obtain ⟨a12, rfl, w⟩ := w
  obtain ⟨N9, g9, hh, hi, w⟩ := w
  refine V_iald X dX12_addEvent_173 hh hi ?_
  generalize g9 _ = x13 at w ⊢
  exact V_iret X rfl dX12_addEvent_174 (Nat.le_of_ble_eq_true rfl) (Nat.le_of_ble_eq_true rfl) w
def vX12_addEvent_b83_o (k83 : gH → Nat → Int32 → Int32 → Int32 → Int32 → Prop) (Qn : Int32 → gH → Prop) (h : gH) (v0 : Nat) (v1 : Int32) (v2 : Int32) (v3 : Int32) (v4 : Int32) : Prop := (((v4 : Int32) ≤ (5 * v1)) → (vX12_addEvent_b142  Qn h v0 v1 v2 v3 v4)) ∧ ((¬ (v4 : Int32) ≤ (5 * v1)) → (gr h v0 15 6 (fun r1 => nn r1 (fun a2 => li h a2 (v4 - 1) (fun x3 => (((x3 : Int32) ≤ v2) → (vX12_addEvent_b142  Qn h v0 v1 v2 v3 v4)) ∧ ((¬ (x3 : Int32) ≤ v2) → (gr h v0 15 6 (fun r4 => gr h v0 15 6 (fun r5 => nn r5 (fun a6 => li h a6 (v4 - 1) (fun x7 => nn r4 (fun a8 => si h a8 v4 x7 (fun h9 => gr h9 v0 15 7 (fun r10 => gr h9 v0 15 7 (fun r11 => nn r11 (fun a12 => li h9 a12 (v4 - 1) (fun x13 => nn r10 (fun a14 => si h9 a14 v4 x13 (fun h15 => k83 h15 v0 v1 v2 v3 (v4 + (-1)))))))))))))))))))))
set_option maxRecDepth 100000 in
set_option maxHeartbeats 4000000 in
theorem tX12_addEvent_b83_o {p : Program} {l : Launch} {e : Env} {s : State} {m : MethodId} {args : Array Value} {below : List Frame} {meth : Method} {c : Code} {G : gG} {A : Nat → Prop} {Qn : Int32 → gH → Prop} (X : gC p l s m args meth c G A cX12_addEvent 5 (some FieldType.int) RX12) {k83 : gH → Nat → Int32 → Int32 → Int32 → Int32 → Prop} (H83 : ∀ (h : gH) (v0 : Nat) (v1 : Int32) (v2 : Int32) (v3 : Int32) (v4 : Int32), k83 h v0 v1 v2 v3 v4 → V p l e rmX12_addEvent s m args below meth c (MQ below (va_Qi Qn (gB G A) A) args s rmX12_addEvent.cells rmX12_addEvent.slots A) G A 5 h 0 0 83 [(0, .ref v0), (1, .int v1), (2, .int v2), (3, .int v3), (4, .int v4)] []) {h : gH} {v0 : Nat} {v1 : Int32} {v2 : Int32} {v3 : Int32} {v4 : Int32} (w : vX12_addEvent_b83_o k83 Qn h v0 v1 v2 v3 v4) : V p l e rmX12_addEvent s m args below meth c (MQ below (va_Qi Qn (gB G A) A) args s rmX12_addEvent.cells rmX12_addEvent.slots A) G A 5 h 0 0 83 [(0, .ref v0), (1, .int v1), (2, .int v2), (3, .int v3), (4, .int v4)] [] := by
  refine V_iload X dX12_addEvent_83 4 rfl ?_
  refine V_iconst (y := 5) X dX12_addEvent_85 (by decide) ?_
  refine V_iload_n X dX12_addEvent_86 1 rfl ?_
  refine V_imul X dX12_addEvent_87 ?_
  obtain ⟨w1, w2⟩ := w
  refine V_icmp_le (tgt := 142) X dX12_addEvent_88 (by decide) (fun z => ?_) (fun z => ?_)
  · replace w := w1 z
    clear w1 w2
    exact V.sub [0, 1, 2, 3, 4] rfl (tX12_addEvent_b142 X  w)
  · replace w := w2 z
    clear w1 w2
    refine V_aloadr_n X dX12_addEvent_91 0 rfl ?_
    obtain ⟨fs, r1, hh, hv, w⟩ := w
    refine V_get X flX12_26 dX12_addEvent_92 hh hv ?_
    refine V_iload X dX12_addEvent_95 4 rfl ?_
    refine V_iconst (y := 1) X dX12_addEvent_97 (by decide) ?_
    refine V_isub X dX12_addEvent_98 ?_
    obtain ⟨a2, rfl, w⟩ := w
    obtain ⟨N9, g9, hh, hi, w⟩ := w
    refine V_iald X dX12_addEvent_99 hh hi ?_
    generalize g9 _ = x3 at w ⊢
    refine V_iload_n X dX12_addEvent_100 2 rfl ?_
    obtain ⟨w1, w2⟩ := w
    refine V_icmp_le (tgt := 142) X dX12_addEvent_101 (by decide) (fun z => ?_) (fun z => ?_)
    · replace w := w1 z
      clear w1 w2
      exact V.sub [0, 1, 2, 3, 4] rfl (tX12_addEvent_b142 X  w)
    · replace w := w2 z
      clear w1 w2
      refine V_aloadr_n X dX12_addEvent_104 0 rfl ?_
      obtain ⟨fs, r4, hh, hv, w⟩ := w
      refine V_get X flX12_26 dX12_addEvent_105 hh hv ?_
      refine V_iload X dX12_addEvent_108 4 rfl ?_
      refine V_aloadr_n X dX12_addEvent_110 0 rfl ?_
      obtain ⟨fs, r5, hh, hv, w⟩ := w
      refine V_get X flX12_26 dX12_addEvent_111 hh hv ?_
      refine V_iload X dX12_addEvent_114 4 rfl ?_
      refine V_iconst (y := 1) X dX12_addEvent_116 (by decide) ?_
      refine V_isub X dX12_addEvent_117 ?_
      obtain ⟨a6, rfl, w⟩ := w
      obtain ⟨N9, g9, hh, hi, w⟩ := w
      refine V_iald X dX12_addEvent_118 hh hi ?_
      generalize g9 _ = x7 at w ⊢
      obtain ⟨a8, rfl, w⟩ := w
      obtain ⟨N9, g9, hh, hi, w⟩ := w
      refine V_iast X dX12_addEvent_119 hh hi ?_
      generalize va_up _ _ _ = h9 at w ⊢
      refine V_aloadr_n X dX12_addEvent_120 0 rfl ?_
      obtain ⟨fs, r10, hh, hv, w⟩ := w
      refine V_get X flX12_29 dX12_addEvent_121 hh hv ?_
      refine V_iload X dX12_addEvent_124 4 rfl ?_
      refine V_aloadr_n X dX12_addEvent_126 0 rfl ?_
      obtain ⟨fs, r11, hh, hv, w⟩ := w
      refine V_get X flX12_29 dX12_addEvent_127 hh hv ?_
      refine V_iload X dX12_addEvent_130 4 rfl ?_
      refine V_iconst (y := 1) X dX12_addEvent_132 (by decide) ?_
      refine V_isub X dX12_addEvent_133 ?_
      obtain ⟨a12, rfl, w⟩ := w
      obtain ⟨N9, g9, hh, hi, w⟩ := w
      refine V_iald X dX12_addEvent_134 hh hi ?_
      generalize g9 _ = x13 at w ⊢
      obtain ⟨a14, rfl, w⟩ := w
      obtain ⟨N9, g9, hh, hi, w⟩ := w
      refine V_iast X dX12_addEvent_135 hh hi ?_
      generalize va_up _ _ _ = h15 at w ⊢
      refine V_iinc (y := (v4 + (-1))) X dX12_addEvent_136 4 rfl (by first | rfl | (congr 1)) (by decide) rfl ?_
      refine V_goto (tgt := 83) X dX12_addEvent_139 (by decide) ?_
      exact V.sub [1, 2, 3, 4, 0] rfl (H83 _ _ _ _ _ _ w)
def vX12_addEvent_b83  (Qn : Int32 → gH → Prop) (n : Nat) : gH → Nat → Int32 → Int32 → Int32 → Int32 → Prop := Nat.rec (motive := fun _ => gH → Nat → Int32 → Int32 → Int32 → Int32 → Prop) (fun _ _ _ _ _ _ => False) (fun _ k83 => vX12_addEvent_b83_o k83 Qn) n
theorem tX12_addEvent_b83 {p : Program} {l : Launch} {e : Env} {s : State} {m : MethodId} {args : Array Value} {below : List Frame} {meth : Method} {c : Code} {G : gG} {A : Nat → Prop} {Qn : Int32 → gH → Prop} (X : gC p l s m args meth c G A cX12_addEvent 5 (some FieldType.int) RX12)   : ∀ (n : Nat) (h : gH) (v0 : Nat) (v1 : Int32) (v2 : Int32) (v3 : Int32) (v4 : Int32) (w : vX12_addEvent_b83  Qn n h v0 v1 v2 v3 v4), V p l e rmX12_addEvent s m args below meth c (MQ below (va_Qi Qn (gB G A) A) args s rmX12_addEvent.cells rmX12_addEvent.slots A) G A 5 h 0 0 83 [(0, .ref v0), (1, .int v1), (2, .int v2), (3, .int v3), (4, .int v4)] [] := by
  intro n
  induction n with
  | zero => intro h v0 v1 v2 v3 v4 w; exact False.elim w
  | succ n ih => intro h v0 v1 v2 v3 v4 w; exact tX12_addEvent_b83_o X ih w
def vX12_addEvent  (Qn : Int32 → gH → Prop) (h : gH) (v0 : Nat) (v1 : Int32) (v2 : Int32) (v3 : Int32) : Prop := pv h v0 15 25 (.int 0) (fun h1 => io h1 v0 15 (vX12_isClip (fun x3 h2 => ((¬ (x3 : Int32) = 0) → (gr h2 v0 15 4 (fun r4 => nn r4 (fun a5 => li h2 a5 v1 (fun x6 => vX12_in (fun x8 h7 => (((x8 : Int32) = 0) → (vX12_addEvent_b49  Qn h7 v0)) ∧ ((¬ (x8 : Int32) = 0) → (vX12_in (fun x10 h9 => ((¬ (x10 : Int32) = 0) → (gr h9 v0 15 5 (fun r11 => nn r11 (fun a12 => li h9 a12 v1 (fun x13 => ((¬ (x13 : Int32) = 5) → (gr h9 v0 15 5 (fun r14 => nn r14 (fun a15 => li h9 a15 v1 (fun x16 => ∃ n : Nat, vX12_addEvent_b83  Qn n h9 v0 v1 v2 v3 ((5 * v1) + x16)))))) ∧ (((x13 : Int32) = 5) → (io h9 v0 15 (vX12_fails (fun x18 h17 => Qn x18 h17) h9 v0 3)))))))) ∧ (((x10 : Int32) = 0) → (vX12_addEvent_b49  Qn h9 v0))) h7 (Int32.toInt64 v3) 0 99))) h2 (Int32.toInt64 v2) 0 (Int32.toInt64 (x6 - 1))))))) ∧ (((x3 : Int32) = 0) → (io h2 v0 15 (vX12_fails (fun x20 h19 => Qn x20 h19) h2 v0 1)))) h1 v0 v1))
set_option maxRecDepth 100000 in
set_option maxHeartbeats 4000000 in
theorem tX12_addEvent {p : Program} {l : Launch} {e : Env} {s : State} {m : MethodId} {args : Array Value} {below : List Frame} {meth : Method} {c : Code} {G : gG} {A : Nat → Prop} {Qn : Int32 → gH → Prop} (X : gC p l s m args meth c G A cX12_addEvent 5 (some FieldType.int) RX12)   {h : gH} {v0 : Nat} {v1 : Int32} {v2 : Int32} {v3 : Int32} (w : vX12_addEvent  Qn h v0 v1 v2 v3) : V p l e rmX12_addEvent s m args below meth c (MQ below (va_Qi Qn (gB G A) A) args s rmX12_addEvent.cells rmX12_addEvent.slots A) G A 5 h 0 0 0 [(0, .ref v0), (1, .int v1), (2, .int v2), (3, .int v3)] [] := by
  refine V_aloadr_n X dX12_addEvent_0 0 rfl ?_
  refine V_iconst (y := 0) X dX12_addEvent_1 (by decide) ?_
  obtain ⟨fs, hh, hv, w⟩ := w
  refine V_put X flX12_94 dX12_addEvent_2 hh hv rfl rfl ?_
  generalize va_up _ _ _ = h1 at w ⊢
  refine V_aloadr_n X dX12_addEvent_5 0 rfl ?_
  refine V_iload_n X dX12_addEvent_6 1 rfl ?_
  obtain ⟨fs, hh, w⟩ := w
  refine V_callVi (As := [.int v1]) (rest := []) (k1 := 0) (n1 := 0) X (cX12_isClip_ok X.2.2.2.2.2.2.2.2.1 w) lkX12_123 hh (q9 := (RX12, TX12, 42)) rfl rfl dX12_addEvent_7 ⟨Nat.le_of_ble_eq_true rfl, Nat.le_of_ble_eq_true rfl⟩ rfl (Nat.le_of_ble_eq_true rfl) ⟨Nat.le_of_ble_eq_true rfl, Nat.le_of_ble_eq_true rfl⟩ (Nat.le_of_ble_eq_true rfl) (Nat.le_of_ble_eq_true rfl) (fun x3 h2 w9 => ?_)
  replace w := w9
  clear w9
  obtain ⟨w1, w2⟩ := w
  refine V_if_ne (tgt := 19) X dX12_addEvent_10 (by decide) (fun z => ?_) (fun z => ?_)
  · replace w := w1 z
    clear w1 w2
    refine V_iload_n X dX12_addEvent_19 2 rfl ?_
    refine V_i2l X dX12_addEvent_20 ?_
    refine V_lconst (y := 0) X dX12_addEvent_21 (by decide) ?_
    refine V_aloadr_n X dX12_addEvent_22 0 rfl ?_
    obtain ⟨fs, r4, hh, hv, w⟩ := w
    refine V_get X flX12_20 dX12_addEvent_23 hh hv ?_
    refine V_iload_n X dX12_addEvent_26 1 rfl ?_
    obtain ⟨a5, rfl, w⟩ := w
    obtain ⟨N9, g9, hh, hi, w⟩ := w
    refine V_iald X dX12_addEvent_27 hh hi ?_
    generalize g9 _ = x6 at w ⊢
    refine V_iconst (y := 1) X dX12_addEvent_28 (by decide) ?_
    refine V_isub X dX12_addEvent_29 ?_
    refine V_i2l X dX12_addEvent_30 ?_
    refine V_callSi (As := [.long (Int32.toInt64 v2), .long 0, .long (Int32.toInt64 (x6 - 1))]) (rest := []) (k1 := 0) (n1 := 0) X (cX12_in_ok X.2.2.2.2.2.2.2.2.1 w) lkX12_99 dX12_addEvent_31 ⟨Nat.le_of_ble_eq_true rfl, Nat.le_of_ble_eq_true rfl⟩ rfl (Nat.le_of_ble_eq_true rfl) ⟨Nat.le_of_ble_eq_true rfl, Nat.le_of_ble_eq_true rfl⟩ (Nat.le_of_ble_eq_true rfl) (Nat.le_of_ble_eq_true rfl) (fun x8 h7 w9 => ?_)
    replace w := w9
    clear w9
    obtain ⟨w1, w2⟩ := w
    refine V_if_eq (tgt := 49) X dX12_addEvent_34 (by decide) (fun z => ?_) (fun z => ?_)
    · replace w := w1 z
      clear w1 w2
      exact V.sub [0] rfl (tX12_addEvent_b49 X  w)
    · replace w := w2 z
      clear w1 w2
      refine V_iload_n X dX12_addEvent_37 3 rfl ?_
      refine V_i2l X dX12_addEvent_38 ?_
      refine V_lconst (y := 0) X dX12_addEvent_39 (by decide) ?_
      refine V_ldc2 (y := 99) X dX12_addEvent_40 kw_1780 ?_
      refine V_callSi (As := [.long (Int32.toInt64 v3), .long 0, .long 99]) (rest := []) (k1 := 0) (n1 := 0) X (cX12_in_ok X.2.2.2.2.2.2.2.2.1 w) lkX12_99 dX12_addEvent_43 ⟨Nat.le_of_ble_eq_true rfl, Nat.le_of_ble_eq_true rfl⟩ rfl (Nat.le_of_ble_eq_true rfl) ⟨Nat.le_of_ble_eq_true rfl, Nat.le_of_ble_eq_true rfl⟩ (Nat.le_of_ble_eq_true rfl) (Nat.le_of_ble_eq_true rfl) (fun x10 h9 w9 => ?_)
      replace w := w9
      clear w9
      obtain ⟨w1, w2⟩ := w
      refine V_if_ne (tgt := 55) X dX12_addEvent_46 (by decide) (fun z => ?_) (fun z => ?_)
      · replace w := w1 z
        clear w1 w2
        refine V_aloadr_n X dX12_addEvent_55 0 rfl ?_
        obtain ⟨fs, r11, hh, hv, w⟩ := w
        refine V_get X flX12_23 dX12_addEvent_56 hh hv ?_
        refine V_iload_n X dX12_addEvent_59 1 rfl ?_
        obtain ⟨a12, rfl, w⟩ := w
        obtain ⟨N9, g9, hh, hi, w⟩ := w
        refine V_iald X dX12_addEvent_60 hh hi ?_
        generalize g9 _ = x13 at w ⊢
        refine V_iconst (y := 5) X dX12_addEvent_61 (by decide) ?_
        obtain ⟨w1, w2⟩ := w
        refine V_icmp_ne (tgt := 71) X dX12_addEvent_62 (by decide) (fun z => ?_) (fun z => ?_)
        · replace w := w1 z
          clear w1 w2
          refine V_iconst (y := 5) X dX12_addEvent_71 (by decide) ?_
          refine V_iload_n X dX12_addEvent_72 1 rfl ?_
          refine V_imul X dX12_addEvent_73 ?_
          refine V_aloadr_n X dX12_addEvent_74 0 rfl ?_
          obtain ⟨fs, r14, hh, hv, w⟩ := w
          refine V_get X flX12_23 dX12_addEvent_75 hh hv ?_
          refine V_iload_n X dX12_addEvent_78 1 rfl ?_
          obtain ⟨a15, rfl, w⟩ := w
          obtain ⟨N9, g9, hh, hi, w⟩ := w
          refine V_iald X dX12_addEvent_79 hh hi ?_
          generalize g9 _ = x16 at w ⊢
          refine V_iadd X dX12_addEvent_80 ?_
          refine V_istore X dX12_addEvent_81 (by decide) rfl ?_
          obtain ⟨n9, w⟩ := w
          exact V.sub [1, 2, 3, 4, 0] rfl (tX12_addEvent_b83 X  n9 _ _ _ _ _ _ w)
        · replace w := w2 z
          clear w1 w2
          refine V_aloadr_n X dX12_addEvent_65 0 rfl ?_
          refine V_iconst (y := 3) X dX12_addEvent_66 (by decide) ?_
          obtain ⟨fs, hh, w⟩ := w
          refine V_callVi (As := [.int 3]) (rest := []) (k1 := 0) (n1 := 0) X (cX12_fails_ok X.2.2.2.2.2.2.2.2.1 w) lkX12_103 hh (q9 := (RX12, TX12, 42)) rfl rfl dX12_addEvent_67 ⟨Nat.le_of_ble_eq_true rfl, Nat.le_of_ble_eq_true rfl⟩ rfl (Nat.le_of_ble_eq_true rfl) ⟨Nat.le_of_ble_eq_true rfl, Nat.le_of_ble_eq_true rfl⟩ (Nat.le_of_ble_eq_true rfl) (Nat.le_of_ble_eq_true rfl) (fun x18 h17 w9 => ?_)
          replace w := w9
          clear w9
          exact V_iret X rfl dX12_addEvent_70 (Nat.le_of_ble_eq_true rfl) (Nat.le_of_ble_eq_true rfl) w
      · replace w := w2 z
        clear w1 w2
        exact V.sub [0] rfl (tX12_addEvent_b49 X  w)
  · replace w := w2 z
    clear w1 w2
    refine V_aloadr_n X dX12_addEvent_13 0 rfl ?_
    refine V_iconst (y := 1) X dX12_addEvent_14 (by decide) ?_
    obtain ⟨fs, hh, w⟩ := w
    refine V_callVi (As := [.int 1]) (rest := []) (k1 := 0) (n1 := 0) X (cX12_fails_ok X.2.2.2.2.2.2.2.2.1 w) lkX12_103 hh (q9 := (RX12, TX12, 42)) rfl rfl dX12_addEvent_15 ⟨Nat.le_of_ble_eq_true rfl, Nat.le_of_ble_eq_true rfl⟩ rfl (Nat.le_of_ble_eq_true rfl) ⟨Nat.le_of_ble_eq_true rfl, Nat.le_of_ble_eq_true rfl⟩ (Nat.le_of_ble_eq_true rfl) (Nat.le_of_ble_eq_true rfl) (fun x20 h19 w9 => ?_)
    replace w := w9
    clear w9
    exact V_iret X rfl dX12_addEvent_18 (Nat.le_of_ble_eq_true rfl) (Nat.le_of_ble_eq_true rfl) w
theorem cX12_addEvent_ok {l : Launch} {G : gG} {h : gH} (hls : l.stackTraces = false) {Qn : Int32 → gH → Prop} {v0 : Nat} {v1 : Int32} {v2 : Int32} {v3 : Int32} (w : vX12_addEvent Qn h v0 v1 v2 v3) : gMi l yX12_addEvent cX12_addEvent 5 (some FieldType.int) rmX12_addEvent rmX12_addEvent.cells rmX12_addEvent.slots G h [.ref v0, .int v1, .int v2, .int v3] Qn := by
  exact gMi.of (by decide +kernel) hls (Nat.le_of_ble_eq_true rfl) rfl rfl (fun p e s m below meth c A X hnm => tX12_addEvent X w)
/-! AnimationControllerModel.addClipNode(I)I -/
abbrev rmX12_addClipNode : Room := { frames := 2, cells := 0, slots := 0, locals := 46 }
def vX12_addClipNode  (Qn : Int32 → gH → Prop) (h : gH) (v0 : Nat) (v1 : Int32) : Prop := pv h v0 15 25 (.int 0) (fun h1 => io h1 v0 15 (vX12_isClip (fun x3 h2 => ((¬ (x3 : Int32) = 0) → (gi h2 v0 15 14 (fun x4 => ((¬ (x4 : Int32) = 20) → (gr h2 v0 15 9 (fun r5 => gi h2 v0 15 14 (fun x6 => nn r5 (fun a7 => si h2 a7 x6 v1 (fun h8 => gi h8 v0 15 14 (fun x9 => pv h8 v0 15 14 (.int (x9 + 1)) (fun h10 => gi h10 v0 15 14 (fun x11 => Qn (x11 - 1) h10))))))))) ∧ (((x4 : Int32) = 20) → (io h2 v0 15 (vX12_fails (fun x13 h12 => Qn x13 h12) h2 v0 2)))))) ∧ (((x3 : Int32) = 0) → (io h2 v0 15 (vX12_fails (fun x15 h14 => Qn x15 h14) h2 v0 1)))) h1 v0 v1))
set_option maxRecDepth 100000 in
set_option maxHeartbeats 4000000 in
theorem tX12_addClipNode {p : Program} {l : Launch} {e : Env} {s : State} {m : MethodId} {args : Array Value} {below : List Frame} {meth : Method} {c : Code} {G : gG} {A : Nat → Prop} {Qn : Int32 → gH → Prop} (X : gC p l s m args meth c G A cX12_addClipNode 2 (some FieldType.int) RX12)   {h : gH} {v0 : Nat} {v1 : Int32} (w : vX12_addClipNode  Qn h v0 v1) : V p l e rmX12_addClipNode s m args below meth c (MQ below (va_Qi Qn (gB G A) A) args s rmX12_addClipNode.cells rmX12_addClipNode.slots A) G A 2 h 0 0 0 [(0, .ref v0), (1, .int v1)] [] := by
  refine V_aloadr_n X dX12_addClipNode_0 0 rfl ?_
  refine V_iconst (y := 0) X dX12_addClipNode_1 (by decide) ?_
  obtain ⟨fs, hh, hv, w⟩ := w
  refine V_put X flX12_94 dX12_addClipNode_2 hh hv rfl rfl ?_
  generalize va_up _ _ _ = h1 at w ⊢
  refine V_aloadr_n X dX12_addClipNode_5 0 rfl ?_
  refine V_iload_n X dX12_addClipNode_6 1 rfl ?_
  obtain ⟨fs, hh, w⟩ := w
  refine V_callVi (As := [.int v1]) (rest := []) (k1 := 0) (n1 := 0) X (cX12_isClip_ok X.2.2.2.2.2.2.2.2.1 w) lkX12_123 hh (q9 := (RX12, TX12, 42)) rfl rfl dX12_addClipNode_7 ⟨Nat.le_of_ble_eq_true rfl, Nat.le_of_ble_eq_true rfl⟩ rfl (Nat.le_of_ble_eq_true rfl) ⟨Nat.le_of_ble_eq_true rfl, Nat.le_of_ble_eq_true rfl⟩ (Nat.le_of_ble_eq_true rfl) (Nat.le_of_ble_eq_true rfl) (fun x3 h2 w9 => ?_)
  replace w := w9
  clear w9
  obtain ⟨w1, w2⟩ := w
  refine V_if_ne (tgt := 19) X dX12_addClipNode_10 (by decide) (fun z => ?_) (fun z => ?_)
  · replace w := w1 z
    clear w1 w2
    refine V_aloadr_n X dX12_addClipNode_19 0 rfl ?_
    obtain ⟨fs, x4, hh, hv, w⟩ := w
    refine V_get X flX12_128 dX12_addClipNode_20 hh hv ?_
    refine V_bipush (y := 20) X dX12_addClipNode_23 (by decide) ?_
    obtain ⟨w1, w2⟩ := w
    refine V_icmp_ne (tgt := 34) X dX12_addClipNode_25 (by decide) (fun z => ?_) (fun z => ?_)
    · replace w := w1 z
      clear w1 w2
      refine V_aloadr_n X dX12_addClipNode_34 0 rfl ?_
      obtain ⟨fs, r5, hh, hv, w⟩ := w
      refine V_get X flX12_32 dX12_addClipNode_35 hh hv ?_
      refine V_aloadr_n X dX12_addClipNode_38 0 rfl ?_
      obtain ⟨fs, x6, hh, hv, w⟩ := w
      refine V_get X flX12_128 dX12_addClipNode_39 hh hv ?_
      refine V_iload_n X dX12_addClipNode_42 1 rfl ?_
      obtain ⟨a7, rfl, w⟩ := w
      obtain ⟨N9, g9, hh, hi, w⟩ := w
      refine V_iast X dX12_addClipNode_43 hh hi ?_
      generalize va_up _ _ _ = h8 at w ⊢
      refine V_aloadr_n X dX12_addClipNode_44 0 rfl ?_
      refine V_dup X dX12_addClipNode_45 rfl ?_
      obtain ⟨fs, x9, hh, hv, w⟩ := w
      refine V_get X flX12_128 dX12_addClipNode_46 hh hv ?_
      refine V_iconst (y := 1) X dX12_addClipNode_49 (by decide) ?_
      refine V_iadd X dX12_addClipNode_50 ?_
      obtain ⟨fs, hh, hv, w⟩ := w
      refine V_put X flX12_128 dX12_addClipNode_51 hh hv rfl rfl ?_
      generalize va_up _ _ _ = h10 at w ⊢
      refine V_aloadr_n X dX12_addClipNode_54 0 rfl ?_
      obtain ⟨fs, x11, hh, hv, w⟩ := w
      refine V_get X flX12_128 dX12_addClipNode_55 hh hv ?_
      refine V_iconst (y := 1) X dX12_addClipNode_58 (by decide) ?_
      refine V_isub X dX12_addClipNode_59 ?_
      exact V_iret X rfl dX12_addClipNode_60 (Nat.le_of_ble_eq_true rfl) (Nat.le_of_ble_eq_true rfl) w
    · replace w := w2 z
      clear w1 w2
      refine V_aloadr_n X dX12_addClipNode_28 0 rfl ?_
      refine V_iconst (y := 2) X dX12_addClipNode_29 (by decide) ?_
      obtain ⟨fs, hh, w⟩ := w
      refine V_callVi (As := [.int 2]) (rest := []) (k1 := 0) (n1 := 0) X (cX12_fails_ok X.2.2.2.2.2.2.2.2.1 w) lkX12_103 hh (q9 := (RX12, TX12, 42)) rfl rfl dX12_addClipNode_30 ⟨Nat.le_of_ble_eq_true rfl, Nat.le_of_ble_eq_true rfl⟩ rfl (Nat.le_of_ble_eq_true rfl) ⟨Nat.le_of_ble_eq_true rfl, Nat.le_of_ble_eq_true rfl⟩ (Nat.le_of_ble_eq_true rfl) (Nat.le_of_ble_eq_true rfl) (fun x13 h12 w9 => ?_)
      replace w := w9
      clear w9
      exact V_iret X rfl dX12_addClipNode_33 (Nat.le_of_ble_eq_true rfl) (Nat.le_of_ble_eq_true rfl) w
  · replace w := w2 z
    clear w1 w2
    refine V_aloadr_n X dX12_addClipNode_13 0 rfl ?_
    refine V_iconst (y := 1) X dX12_addClipNode_14 (by decide) ?_
    obtain ⟨fs, hh, w⟩ := w
    refine V_callVi (As := [.int 1]) (rest := []) (k1 := 0) (n1 := 0) X (cX12_fails_ok X.2.2.2.2.2.2.2.2.1 w) lkX12_103 hh (q9 := (RX12, TX12, 42)) rfl rfl dX12_addClipNode_15 ⟨Nat.le_of_ble_eq_true rfl, Nat.le_of_ble_eq_true rfl⟩ rfl (Nat.le_of_ble_eq_true rfl) ⟨Nat.le_of_ble_eq_true rfl, Nat.le_of_ble_eq_true rfl⟩ (Nat.le_of_ble_eq_true rfl) (Nat.le_of_ble_eq_true rfl) (fun x15 h14 w9 => ?_)
    replace w := w9
    clear w9
    exact V_iret X rfl dX12_addClipNode_18 (Nat.le_of_ble_eq_true rfl) (Nat.le_of_ble_eq_true rfl) w
theorem cX12_addClipNode_ok {l : Launch} {G : gG} {h : gH} (hls : l.stackTraces = false) {Qn : Int32 → gH → Prop} {v0 : Nat} {v1 : Int32} (w : vX12_addClipNode Qn h v0 v1) : gMi l yX12_addClipNode cX12_addClipNode 2 (some FieldType.int) rmX12_addClipNode rmX12_addClipNode.cells rmX12_addClipNode.slots G h [.ref v0, .int v1] Qn := by
  exact gMi.of (by decide +kernel) hls (Nat.le_of_ble_eq_true rfl) rfl rfl (fun p e s m below meth c A X hnm => tX12_addClipNode X w)
/-! AnimationControllerModel.addLine(I)I -/
abbrev rmX12_addLine : Room := { frames := 2, cells := 0, slots := 0, locals := 46 }
def vX12_addLine_b37  (Qn : Int32 → gH → Prop) (h : gH) (v0 : Nat) : Prop := io h v0 15 (vX12_fails (fun x2 h1 => Qn x2 h1) h v0 2)
set_option maxRecDepth 100000 in
set_option maxHeartbeats 4000000 in
theorem tX12_addLine_b37 {p : Program} {l : Launch} {e : Env} {s : State} {m : MethodId} {args : Array Value} {below : List Frame} {meth : Method} {c : Code} {G : gG} {A : Nat → Prop} {Qn : Int32 → gH → Prop} (X : gC p l s m args meth c G A cX12_addLine 2 (some FieldType.int) RX12)   {h : gH} {v0 : Nat} (w : vX12_addLine_b37  Qn h v0) : V p l e rmX12_addLine s m args below meth c (MQ below (va_Qi Qn (gB G A) A) args s rmX12_addLine.cells rmX12_addLine.slots A) G A 2 h 0 0 37 [(0, .ref v0)] [] := by
  refine V_aloadr_n X dX12_addLine_37 0 rfl ?_
  refine V_iconst (y := 2) X dX12_addLine_38 (by decide) ?_
  obtain ⟨fs, hh, w⟩ := w
  refine V_callVi (As := [.int 2]) (rest := []) (k1 := 0) (n1 := 0) X (cX12_fails_ok X.2.2.2.2.2.2.2.2.1 w) lkX12_103 hh (q9 := (RX12, TX12, 42)) rfl rfl dX12_addLine_39 ⟨Nat.le_of_ble_eq_true rfl, Nat.le_of_ble_eq_true rfl⟩ rfl (Nat.le_of_ble_eq_true rfl) ⟨Nat.le_of_ble_eq_true rfl, Nat.le_of_ble_eq_true rfl⟩ (Nat.le_of_ble_eq_true rfl) (Nat.le_of_ble_eq_true rfl) (fun x2 h1 w9 => ?_)
  replace w := w9
  clear w9
  exact V_iret X rfl dX12_addLine_42 (Nat.le_of_ble_eq_true rfl) (Nat.le_of_ble_eq_true rfl) w
def vX12_addLine  (Qn : Int32 → gH → Prop) (h : gH) (v0 : Nat) (v1 : Int32) : Prop := pv h v0 15 25 (.int 0) (fun h1 => io h1 v0 15 (vX12_isParameter (fun x3 h2 => ((¬ (x3 : Int32) = 0) → (gr h2 v0 15 2 (fun r4 => nn r4 (fun a5 => li h2 a5 v1 (fun x6 => ((¬ (x6 : Int32) = 0) → (vX12_addLine_b37  Qn h2 v0)) ∧ (((x6 : Int32) = 0) → (gi h2 v0 15 14 (fun x7 => ((¬ (x7 : Int32) = 20) → (gr h2 v0 15 9 (fun r8 => gi h2 v0 15 14 (fun x9 => nn r8 (fun a10 => si h2 a10 x9 (-1) (fun h11 => gr h11 v0 15 10 (fun r12 => gi h11 v0 15 14 (fun x13 => nn r12 (fun a14 => si h11 a14 x13 v1 (fun h15 => gi h15 v0 15 14 (fun x16 => pv h15 v0 15 14 (.int (x16 + 1)) (fun h17 => gi h17 v0 15 14 (fun x18 => Qn (x18 - 1) h17))))))))))))) ∧ (((x7 : Int32) = 20) → (vX12_addLine_b37  Qn h2 v0)))))))))) ∧ (((x3 : Int32) = 0) → (io h2 v0 15 (vX12_fails (fun x20 h19 => Qn x20 h19) h2 v0 1)))) h1 v0 v1))
set_option maxRecDepth 100000 in
set_option maxHeartbeats 4000000 in
theorem tX12_addLine {p : Program} {l : Launch} {e : Env} {s : State} {m : MethodId} {args : Array Value} {below : List Frame} {meth : Method} {c : Code} {G : gG} {A : Nat → Prop} {Qn : Int32 → gH → Prop} (X : gC p l s m args meth c G A cX12_addLine 2 (some FieldType.int) RX12)   {h : gH} {v0 : Nat} {v1 : Int32} (w : vX12_addLine  Qn h v0 v1) : V p l e rmX12_addLine s m args below meth c (MQ below (va_Qi Qn (gB G A) A) args s rmX12_addLine.cells rmX12_addLine.slots A) G A 2 h 0 0 0 [(0, .ref v0), (1, .int v1)] [] := by
  refine V_aloadr_n X dX12_addLine_0 0 rfl ?_
  refine V_iconst (y := 0) X dX12_addLine_1 (by decide) ?_
  obtain ⟨fs, hh, hv, w⟩ := w
  refine V_put X flX12_94 dX12_addLine_2 hh hv rfl rfl ?_
  generalize va_up _ _ _ = h1 at w ⊢
  refine V_aloadr_n X dX12_addLine_5 0 rfl ?_
  refine V_iload_n X dX12_addLine_6 1 rfl ?_
  obtain ⟨fs, hh, w⟩ := w
  refine V_callVi (As := [.int v1]) (rest := []) (k1 := 0) (n1 := 0) X (cX12_isParameter_ok X.2.2.2.2.2.2.2.2.1 w) lkX12_110 hh (q9 := (RX12, TX12, 42)) rfl rfl dX12_addLine_7 ⟨Nat.le_of_ble_eq_true rfl, Nat.le_of_ble_eq_true rfl⟩ rfl (Nat.le_of_ble_eq_true rfl) ⟨Nat.le_of_ble_eq_true rfl, Nat.le_of_ble_eq_true rfl⟩ (Nat.le_of_ble_eq_true rfl) (Nat.le_of_ble_eq_true rfl) (fun x3 h2 w9 => ?_)
  replace w := w9
  clear w9
  obtain ⟨w1, w2⟩ := w
  refine V_if_ne (tgt := 19) X dX12_addLine_10 (by decide) (fun z => ?_) (fun z => ?_)
  · replace w := w1 z
    clear w1 w2
    refine V_aloadr_n X dX12_addLine_19 0 rfl ?_
    obtain ⟨fs, r4, hh, hv, w⟩ := w
    refine V_get X flX12_17 dX12_addLine_20 hh hv ?_
    refine V_iload_n X dX12_addLine_23 1 rfl ?_
    obtain ⟨a5, rfl, w⟩ := w
    obtain ⟨N9, g9, hh, hi, w⟩ := w
    refine V_iald X dX12_addLine_24 hh hi ?_
    generalize g9 _ = x6 at w ⊢
    obtain ⟨w1, w2⟩ := w
    refine V_if_ne (tgt := 37) X dX12_addLine_25 (by decide) (fun z => ?_) (fun z => ?_)
    · replace w := w1 z
      clear w1 w2
      exact V.sub [0] rfl (tX12_addLine_b37 X  w)
    · replace w := w2 z
      clear w1 w2
      refine V_aloadr_n X dX12_addLine_28 0 rfl ?_
      obtain ⟨fs, x7, hh, hv, w⟩ := w
      refine V_get X flX12_128 dX12_addLine_29 hh hv ?_
      refine V_bipush (y := 20) X dX12_addLine_32 (by decide) ?_
      obtain ⟨w1, w2⟩ := w
      refine V_icmp_ne (tgt := 43) X dX12_addLine_34 (by decide) (fun z => ?_) (fun z => ?_)
      · replace w := w1 z
        clear w1 w2
        refine V_aloadr_n X dX12_addLine_43 0 rfl ?_
        obtain ⟨fs, r8, hh, hv, w⟩ := w
        refine V_get X flX12_32 dX12_addLine_44 hh hv ?_
        refine V_aloadr_n X dX12_addLine_47 0 rfl ?_
        obtain ⟨fs, x9, hh, hv, w⟩ := w
        refine V_get X flX12_128 dX12_addLine_48 hh hv ?_
        refine V_iconst (y := (-1)) X dX12_addLine_51 (by decide) ?_
        obtain ⟨a10, rfl, w⟩ := w
        obtain ⟨N9, g9, hh, hi, w⟩ := w
        refine V_iast X dX12_addLine_52 hh hi ?_
        generalize va_up _ _ _ = h11 at w ⊢
        refine V_aloadr_n X dX12_addLine_53 0 rfl ?_
        obtain ⟨fs, r12, hh, hv, w⟩ := w
        refine V_get X flX12_35 dX12_addLine_54 hh hv ?_
        refine V_aloadr_n X dX12_addLine_57 0 rfl ?_
        obtain ⟨fs, x13, hh, hv, w⟩ := w
        refine V_get X flX12_128 dX12_addLine_58 hh hv ?_
        refine V_iload_n X dX12_addLine_61 1 rfl ?_
        obtain ⟨a14, rfl, w⟩ := w
        obtain ⟨N9, g9, hh, hi, w⟩ := w
        refine V_iast X dX12_addLine_62 hh hi ?_
        generalize va_up _ _ _ = h15 at w ⊢
        refine V_aloadr_n X dX12_addLine_63 0 rfl ?_
        refine V_dup X dX12_addLine_64 rfl ?_
        obtain ⟨fs, x16, hh, hv, w⟩ := w
        refine V_get X flX12_128 dX12_addLine_65 hh hv ?_
        refine V_iconst (y := 1) X dX12_addLine_68 (by decide) ?_
        refine V_iadd X dX12_addLine_69 ?_
        obtain ⟨fs, hh, hv, w⟩ := w
        refine V_put X flX12_128 dX12_addLine_70 hh hv rfl rfl ?_
        generalize va_up _ _ _ = h17 at w ⊢
        refine V_aloadr_n X dX12_addLine_73 0 rfl ?_
        obtain ⟨fs, x18, hh, hv, w⟩ := w
        refine V_get X flX12_128 dX12_addLine_74 hh hv ?_
        refine V_iconst (y := 1) X dX12_addLine_77 (by decide) ?_
        refine V_isub X dX12_addLine_78 ?_
        exact V_iret X rfl dX12_addLine_79 (Nat.le_of_ble_eq_true rfl) (Nat.le_of_ble_eq_true rfl) w
      · replace w := w2 z
        clear w1 w2
        exact V.sub [0] rfl (tX12_addLine_b37 X  w)
  · replace w := w2 z
    clear w1 w2
    refine V_aloadr_n X dX12_addLine_13 0 rfl ?_
    refine V_iconst (y := 1) X dX12_addLine_14 (by decide) ?_
    obtain ⟨fs, hh, w⟩ := w
    refine V_callVi (As := [.int 1]) (rest := []) (k1 := 0) (n1 := 0) X (cX12_fails_ok X.2.2.2.2.2.2.2.2.1 w) lkX12_103 hh (q9 := (RX12, TX12, 42)) rfl rfl dX12_addLine_15 ⟨Nat.le_of_ble_eq_true rfl, Nat.le_of_ble_eq_true rfl⟩ rfl (Nat.le_of_ble_eq_true rfl) ⟨Nat.le_of_ble_eq_true rfl, Nat.le_of_ble_eq_true rfl⟩ (Nat.le_of_ble_eq_true rfl) (Nat.le_of_ble_eq_true rfl) (fun x20 h19 w9 => ?_)
    replace w := w9
    clear w9
    exact V_iret X rfl dX12_addLine_18 (Nat.le_of_ble_eq_true rfl) (Nat.le_of_ble_eq_true rfl) w
theorem cX12_addLine_ok {l : Launch} {G : gG} {h : gH} (hls : l.stackTraces = false) {Qn : Int32 → gH → Prop} {v0 : Nat} {v1 : Int32} (w : vX12_addLine Qn h v0 v1) : gMi l yX12_addLine cX12_addLine 2 (some FieldType.int) rmX12_addLine rmX12_addLine.cells rmX12_addLine.slots G h [.ref v0, .int v1] Qn := by
  exact gMi.of (by decide +kernel) hls (Nat.le_of_ble_eq_true rfl) rfl rfl (fun p e s m below meth c A X hnm => tX12_addLine X w)
/-! AnimationControllerModel.isNode(I)Z -/
abbrev rmX12_isNode : Room := { frames := 1, cells := 0, slots := 0, locals := 25 }
def vX12_isNode  (Qn : Int32 → gH → Prop) (h : gH) (v0 : Nat) (v1 : Int32) : Prop := gi h v0 15 14 (fun x1 => vX12_in (fun x3 h2 => gZ x3 ∧ Qn x3 h2) h (Int32.toInt64 v1) 0 (Int32.toInt64 (x1 - 1)))
set_option maxRecDepth 100000 in
set_option maxHeartbeats 4000000 in
theorem tX12_isNode {p : Program} {l : Launch} {e : Env} {s : State} {m : MethodId} {args : Array Value} {below : List Frame} {meth : Method} {c : Code} {G : gG} {A : Nat → Prop} {Qn : Int32 → gH → Prop} (X : gC p l s m args meth c G A cX12_isNode 2 (some FieldType.boolean) RX12)   {h : gH} {v0 : Nat} {v1 : Int32} (w : vX12_isNode  Qn h v0 v1) : V p l e rmX12_isNode s m args below meth c (MQ below (va_Qi Qn (gB G A) A) args s rmX12_isNode.cells rmX12_isNode.slots A) G A 2 h 0 0 0 [(0, .ref v0), (1, .int v1)] [] := by
  refine V_iload_n X dX12_isNode_0 1 rfl ?_
  refine V_i2l X dX12_isNode_1 ?_
  refine V_lconst (y := 0) X dX12_isNode_2 (by decide) ?_
  refine V_aloadr_n X dX12_isNode_3 0 rfl ?_
  obtain ⟨fs, x1, hh, hv, w⟩ := w
  refine V_get X flX12_128 dX12_isNode_4 hh hv ?_
  refine V_iconst (y := 1) X dX12_isNode_7 (by decide) ?_
  refine V_isub X dX12_isNode_8 ?_
  refine V_i2l X dX12_isNode_9 ?_
  refine V_callSi (As := [.long (Int32.toInt64 v1), .long 0, .long (Int32.toInt64 (x1 - 1))]) (rest := []) (k1 := 0) (n1 := 0) X (cX12_in_ok X.2.2.2.2.2.2.2.2.1 w) lkX12_99 dX12_isNode_10 ⟨Nat.le_of_ble_eq_true rfl, Nat.le_of_ble_eq_true rfl⟩ rfl (Nat.le_of_ble_eq_true rfl) ⟨Nat.le_of_ble_eq_true rfl, Nat.le_of_ble_eq_true rfl⟩ (Nat.le_of_ble_eq_true rfl) (Nat.le_of_ble_eq_true rfl) (fun x3 h2 w9 => ?_)
  replace w := w9
  clear w9
  obtain ⟨hz, w⟩ := w
  exact V_zret X rfl hz.1 dX12_isNode_13 (Nat.le_of_ble_eq_true rfl) (Nat.le_of_ble_eq_true rfl) w
theorem cX12_isNode_ok {l : Launch} {G : gG} {h : gH} (hls : l.stackTraces = false) {Qn : Int32 → gH → Prop} {v0 : Nat} {v1 : Int32} (w : vX12_isNode Qn h v0 v1) : gMi l yX12_isNode cX12_isNode 2 (some FieldType.boolean) rmX12_isNode rmX12_isNode.cells rmX12_isNode.slots G h [.ref v0, .int v1] Qn := by
  exact gMi.of (by decide +kernel) hls (Nat.le_of_ble_eq_true rfl) rfl rfl (fun p e s m below meth c A X hnm => tX12_isNode X w)
/-! AnimationControllerModel.isComplete(I)Z -/
abbrev rmX12_isComplete : Room := { frames := 0, cells := 0, slots := 0, locals := 0 }
def vX12_isComplete_b24  (Qn : Int32 → gH → Prop) (h : gH) (s0 : Int32) : Prop := gZ s0 ∧ Qn s0 h
set_option maxRecDepth 100000 in
set_option maxHeartbeats 4000000 in
theorem tX12_isComplete_b24 {p : Program} {l : Launch} {e : Env} {s : State} {m : MethodId} {args : Array Value} {below : List Frame} {meth : Method} {c : Code} {G : gG} {A : Nat → Prop} {Qn : Int32 → gH → Prop} (X : gC p l s m args meth c G A cX12_isComplete 2 (some FieldType.boolean) RX12)   {h : gH} {s0 : Int32} (w : vX12_isComplete_b24  Qn h s0) : V p l e rmX12_isComplete s m args below meth c (MQ below (va_Qi Qn (gB G A) A) args s rmX12_isComplete.cells rmX12_isComplete.slots A) G A 2 h 0 0 24 [] [.int s0] := by
  obtain ⟨hz, w⟩ := w
  exact V_zret X rfl hz.1 dX12_isComplete_24 (Nat.le_of_ble_eq_true rfl) (Nat.le_of_ble_eq_true rfl) w
def vX12_isComplete_b19  (Qn : Int32 → gH → Prop) (h : gH)  : Prop := vX12_isComplete_b24  Qn h 1
set_option maxRecDepth 100000 in
set_option maxHeartbeats 4000000 in
theorem tX12_isComplete_b19 {p : Program} {l : Launch} {e : Env} {s : State} {m : MethodId} {args : Array Value} {below : List Frame} {meth : Method} {c : Code} {G : gG} {A : Nat → Prop} {Qn : Int32 → gH → Prop} (X : gC p l s m args meth c G A cX12_isComplete 2 (some FieldType.boolean) RX12)   {h : gH}  (w : vX12_isComplete_b19  Qn h ) : V p l e rmX12_isComplete s m args below meth c (MQ below (va_Qi Qn (gB G A) A) args s rmX12_isComplete.cells rmX12_isComplete.slots A) G A 2 h 0 0 19 [] [] := by
  refine V_iconst (y := 1) X dX12_isComplete_19 (by decide) ?_
  refine V_goto (tgt := 24) X dX12_isComplete_20 (by decide) ?_
  exact V.sub [] rfl (tX12_isComplete_b24 X  w)
def vX12_isComplete  (Qn : Int32 → gH → Prop) (h : gH) (v0 : Nat) (v1 : Int32) : Prop := gr h v0 15 9 (fun r1 => nn r1 (fun a2 => li h a2 v1 (fun x3 => ((¬ (x3 : Int32) = (-1)) → (vX12_isComplete_b19  Qn h )) ∧ (((x3 : Int32) = (-1)) → (gr h v0 15 11 (fun r4 => nn r4 (fun a5 => li h a5 v1 (fun x6 => (((x6 : Int32) ≤ 0) → (vX12_isComplete_b24  Qn h 0)) ∧ ((¬ (x6 : Int32) ≤ 0) → (vX12_isComplete_b19  Qn h ))))))))))
set_option maxRecDepth 100000 in
set_option maxHeartbeats 4000000 in
theorem tX12_isComplete {p : Program} {l : Launch} {e : Env} {s : State} {m : MethodId} {args : Array Value} {below : List Frame} {meth : Method} {c : Code} {G : gG} {A : Nat → Prop} {Qn : Int32 → gH → Prop} (X : gC p l s m args meth c G A cX12_isComplete 2 (some FieldType.boolean) RX12)   {h : gH} {v0 : Nat} {v1 : Int32} (w : vX12_isComplete  Qn h v0 v1) : V p l e rmX12_isComplete s m args below meth c (MQ below (va_Qi Qn (gB G A) A) args s rmX12_isComplete.cells rmX12_isComplete.slots A) G A 2 h 0 0 0 [(0, .ref v0), (1, .int v1)] [] := by
  refine V_aloadr_n X dX12_isComplete_0 0 rfl ?_
  obtain ⟨fs, r1, hh, hv, w⟩ := w
  refine V_get X flX12_32 dX12_isComplete_1 hh hv ?_
  refine V_iload_n X dX12_isComplete_4 1 rfl ?_
  obtain ⟨a2, rfl, w⟩ := w
  obtain ⟨N9, g9, hh, hi, w⟩ := w
  refine V_iald X dX12_isComplete_5 hh hi ?_
  generalize g9 _ = x3 at w ⊢
  refine V_iconst (y := (-1)) X dX12_isComplete_6 (by decide) ?_
  obtain ⟨w1, w2⟩ := w
  refine V_icmp_ne (tgt := 19) X dX12_isComplete_7 (by decide) (fun z => ?_) (fun z => ?_)
  · replace w := w1 z
    clear w1 w2
    exact V.sub [] rfl (tX12_isComplete_b19 X  w)
  · replace w := w2 z
    clear w1 w2
    refine V_aloadr_n X dX12_isComplete_10 0 rfl ?_
    obtain ⟨fs, r4, hh, hv, w⟩ := w
    refine V_get X flX12_38 dX12_isComplete_11 hh hv ?_
    refine V_iload_n X dX12_isComplete_14 1 rfl ?_
    obtain ⟨a5, rfl, w⟩ := w
    obtain ⟨N9, g9, hh, hi, w⟩ := w
    refine V_iald X dX12_isComplete_15 hh hi ?_
    generalize g9 _ = x6 at w ⊢
    obtain ⟨w1, w2⟩ := w
    refine V_if_le (tgt := 23) X dX12_isComplete_16 (by decide) (fun z => ?_) (fun z => ?_)
    · replace w := w1 z
      clear w1 w2
      refine V_iconst (y := 0) X dX12_isComplete_23 (by decide) ?_
      exact V.sub [] rfl (tX12_isComplete_b24 X  w)
    · replace w := w2 z
      clear w1 w2
      exact V.sub [] rfl (tX12_isComplete_b19 X  w)
theorem cX12_isComplete_ok {l : Launch} {G : gG} {h : gH} (hls : l.stackTraces = false) {Qn : Int32 → gH → Prop} {v0 : Nat} {v1 : Int32} (w : vX12_isComplete Qn h v0 v1) : gMi l yX12_isComplete cX12_isComplete 2 (some FieldType.boolean) rmX12_isComplete rmX12_isComplete.cells rmX12_isComplete.slots G h [.ref v0, .int v1] Qn := by
  exact gMi.of (by decide +kernel) hls (Nat.le_of_ble_eq_true rfl) rfl rfl (fun p e s m below meth c A X hnm => tX12_isComplete X w)
/-! AnimationControllerModel.greatestDepth(II)I -/
abbrev rmX12_greatestDepth : Room := { frames := 0, cells := 0, slots := 0, locals := 0 }
def vX12_greatestDepth_b166 (k5 : gH → Nat → Int32 → Int32 → Int32 → Int32 → Prop) (Qn : Int32 → gH → Prop) (h : gH) (v0 : Nat) (v1 : Int32) (v2 : Int32) (v4 : Int32) (s0 : Int32) : Prop := k5 h v0 v1 v2 s0 (v4 + 1)
set_option maxRecDepth 100000 in
set_option maxHeartbeats 4000000 in
theorem tX12_greatestDepth_b166 {p : Program} {l : Launch} {e : Env} {s : State} {m : MethodId} {args : Array Value} {below : List Frame} {meth : Method} {c : Code} {G : gG} {A : Nat → Prop} {Qn : Int32 → gH → Prop} (X : gC p l s m args meth c G A cX12_greatestDepth 7 (some FieldType.int) RX12) {k5 : gH → Nat → Int32 → Int32 → Int32 → Int32 → Prop} (H5 : ∀ (h : gH) (v0 : Nat) (v1 : Int32) (v2 : Int32) (v3 : Int32) (v4 : Int32), k5 h v0 v1 v2 v3 v4 → V p l e rmX12_greatestDepth s m args below meth c (MQ below (va_Qi Qn (gB G A) A) args s rmX12_greatestDepth.cells rmX12_greatestDepth.slots A) G A 7 h 0 0 5 [(0, .ref v0), (1, .int v1), (2, .int v2), (3, .int v3), (4, .int v4)] []) {h : gH} {v0 : Nat} {v1 : Int32} {v2 : Int32} {v4 : Int32} {s0 : Int32} (w : vX12_greatestDepth_b166 k5 Qn h v0 v1 v2 v4 s0) : V p l e rmX12_greatestDepth s m args below meth c (MQ below (va_Qi Qn (gB G A) A) args s rmX12_greatestDepth.cells rmX12_greatestDepth.slots A) G A 7 h 0 0 166 [(0, .ref v0), (1, .int v1), (2, .int v2), (4, .int v4)] [.int s0] := by
  refine V_istore_n X dX12_greatestDepth_166 rfl (by decide) rfl ?_
  refine V_iinc (y := (v4 + 1)) X dX12_greatestDepth_167 4 rfl (by first | rfl | (congr 1)) (by decide) rfl ?_
  refine V_goto (tgt := 5) X dX12_greatestDepth_170 (by decide) ?_
  exact V.sub [2, 3, 4, 1, 0] rfl (H5 _ _ _ _ _ _ w)
def vX12_greatestDepth_b143 (k5 : gH → Nat → Int32 → Int32 → Int32 → Int32 → Prop) (Qn : Int32 → gH → Prop) (h : gH) (v0 : Nat) (v1 : Int32) (v2 : Int32) (v3 : Int32) (v4 : Int32) (s0 : Int32) (s1 : Int32) (s2 : Option Nat) : Prop := nn s2 (fun a1 => si h a1 s1 s0 (fun h2 => gr h2 v0 15 26 (fun r3 => nn r3 (fun a4 => li h2 a4 v4 (fun x5 => (((x5 : Int32) ≤ v3) → (vX12_greatestDepth_b166 k5 Qn h2 v0 v1 v2 v4 v3)) ∧ ((¬ (x5 : Int32) ≤ v3) → (gr h2 v0 15 26 (fun r6 => nn r6 (fun a7 => li h2 a7 v4 (fun x8 => vX12_greatestDepth_b166 k5 Qn h2 v0 v1 v2 v4 x8))))))))))
set_option maxRecDepth 100000 in
set_option maxHeartbeats 4000000 in
theorem tX12_greatestDepth_b143 {p : Program} {l : Launch} {e : Env} {s : State} {m : MethodId} {args : Array Value} {below : List Frame} {meth : Method} {c : Code} {G : gG} {A : Nat → Prop} {Qn : Int32 → gH → Prop} (X : gC p l s m args meth c G A cX12_greatestDepth 7 (some FieldType.int) RX12) {k5 : gH → Nat → Int32 → Int32 → Int32 → Int32 → Prop} (H5 : ∀ (h : gH) (v0 : Nat) (v1 : Int32) (v2 : Int32) (v3 : Int32) (v4 : Int32), k5 h v0 v1 v2 v3 v4 → V p l e rmX12_greatestDepth s m args below meth c (MQ below (va_Qi Qn (gB G A) A) args s rmX12_greatestDepth.cells rmX12_greatestDepth.slots A) G A 7 h 0 0 5 [(0, .ref v0), (1, .int v1), (2, .int v2), (3, .int v3), (4, .int v4)] []) {h : gH} {v0 : Nat} {v1 : Int32} {v2 : Int32} {v3 : Int32} {v4 : Int32} {s0 : Int32} {s1 : Int32} {s2 : Option Nat} (w : vX12_greatestDepth_b143 k5 Qn h v0 v1 v2 v3 v4 s0 s1 s2) : V p l e rmX12_greatestDepth s m args below meth c (MQ below (va_Qi Qn (gB G A) A) args s rmX12_greatestDepth.cells rmX12_greatestDepth.slots A) G A 7 h 0 0 143 [(0, .ref v0), (1, .int v1), (2, .int v2), (3, .int v3), (4, .int v4)] [.int s0, .int s1, va_rf s2] := by
  obtain ⟨a1, rfl, w⟩ := w
  obtain ⟨N9, g9, hh, hi, w⟩ := w
  refine V_iast X dX12_greatestDepth_143 hh hi ?_
  generalize va_up _ _ _ = h2 at w ⊢
  refine V_aloadr_n X dX12_greatestDepth_144 0 rfl ?_
  obtain ⟨fs, r3, hh, hv, w⟩ := w
  refine V_get X flX12_69 dX12_greatestDepth_145 hh hv ?_
  refine V_iload X dX12_greatestDepth_148 4 rfl ?_
  obtain ⟨a4, rfl, w⟩ := w
  obtain ⟨N9, g9, hh, hi, w⟩ := w
  refine V_iald X dX12_greatestDepth_150 hh hi ?_
  generalize g9 _ = x5 at w ⊢
  refine V_iload_n X dX12_greatestDepth_151 3 rfl ?_
  obtain ⟨w1, w2⟩ := w
  refine V_icmp_le (tgt := 165) X dX12_greatestDepth_152 (by decide) (fun z => ?_) (fun z => ?_)
  · replace w := w1 z
    clear w1 w2
    refine V_iload_n X dX12_greatestDepth_165 3 rfl ?_
    exact V.sub [0, 1, 2, 4] rfl (tX12_greatestDepth_b166 X H5 w)
  · replace w := w2 z
    clear w1 w2
    refine V_aloadr_n X dX12_greatestDepth_155 0 rfl ?_
    obtain ⟨fs, r6, hh, hv, w⟩ := w
    refine V_get X flX12_69 dX12_greatestDepth_156 hh hv ?_
    refine V_iload X dX12_greatestDepth_159 4 rfl ?_
    obtain ⟨a7, rfl, w⟩ := w
    obtain ⟨N9, g9, hh, hi, w⟩ := w
    refine V_iald X dX12_greatestDepth_161 hh hi ?_
    generalize g9 _ = x8 at w ⊢
    refine V_goto (tgt := 166) X dX12_greatestDepth_162 (by decide) ?_
    exact V.sub [0, 1, 2, 4] rfl (tX12_greatestDepth_b166 X H5 w)
def vX12_greatestDepth_b136 (k5 : gH → Nat → Int32 → Int32 → Int32 → Int32 → Prop) (Qn : Int32 → gH → Prop) (h : gH) (v0 : Nat) (v1 : Int32) (v2 : Int32) (v3 : Int32) (v4 : Int32) (s0 : Int32) (s1 : Option Nat) : Prop := gr h v0 15 26 (fun r1 => nn r1 (fun a2 => li h a2 v4 (fun x3 => vX12_greatestDepth_b143 k5 Qn h v0 v1 v2 v3 v4 x3 s0 s1)))
set_option maxRecDepth 100000 in
set_option maxHeartbeats 4000000 in
theorem tX12_greatestDepth_b136 {p : Program} {l : Launch} {e : Env} {s : State} {m : MethodId} {args : Array Value} {below : List Frame} {meth : Method} {c : Code} {G : gG} {A : Nat → Prop} {Qn : Int32 → gH → Prop} (X : gC p l s m args meth c G A cX12_greatestDepth 7 (some FieldType.int) RX12) {k5 : gH → Nat → Int32 → Int32 → Int32 → Int32 → Prop} (H5 : ∀ (h : gH) (v0 : Nat) (v1 : Int32) (v2 : Int32) (v3 : Int32) (v4 : Int32), k5 h v0 v1 v2 v3 v4 → V p l e rmX12_greatestDepth s m args below meth c (MQ below (va_Qi Qn (gB G A) A) args s rmX12_greatestDepth.cells rmX12_greatestDepth.slots A) G A 7 h 0 0 5 [(0, .ref v0), (1, .int v1), (2, .int v2), (3, .int v3), (4, .int v4)] []) {h : gH} {v0 : Nat} {v1 : Int32} {v2 : Int32} {v3 : Int32} {v4 : Int32} {s0 : Int32} {s1 : Option Nat} (w : vX12_greatestDepth_b136 k5 Qn h v0 v1 v2 v3 v4 s0 s1) : V p l e rmX12_greatestDepth s m args below meth c (MQ below (va_Qi Qn (gB G A) A) args s rmX12_greatestDepth.cells rmX12_greatestDepth.slots A) G A 7 h 0 0 136 [(0, .ref v0), (1, .int v1), (2, .int v2), (3, .int v3), (4, .int v4)] [.int s0, va_rf s1] := by
  refine V_aloadr_n X dX12_greatestDepth_136 0 rfl ?_
  obtain ⟨fs, r1, hh, hv, w⟩ := w
  refine V_get X flX12_69 dX12_greatestDepth_137 hh hv ?_
  refine V_iload X dX12_greatestDepth_140 4 rfl ?_
  obtain ⟨a2, rfl, w⟩ := w
  obtain ⟨N9, g9, hh, hi, w⟩ := w
  refine V_iald X dX12_greatestDepth_142 hh hi ?_
  generalize g9 _ = x3 at w ⊢
  exact V.sub [0, 1, 2, 3, 4] rfl (tX12_greatestDepth_b143 X H5 w)
def vX12_greatestDepth_b88 (k5 : gH → Nat → Int32 → Int32 → Int32 → Int32 → Prop) (k25 : gH → Nat → Int32 → Int32 → Int32 → Int32 → Int32 → Prop) (Qn : Int32 → gH → Prop) (h : gH) (v0 : Nat) (v1 : Int32) (v2 : Int32) (v3 : Int32) (v4 : Int32) (v5 : Int32) (s0 : Int32) (s1 : Int32) (s2 : Option Nat) : Prop := nn s2 (fun a1 => si h a1 s1 s0 (fun h2 => k25 h2 v0 v1 v2 v3 v4 (v5 + 1)))
set_option maxRecDepth 100000 in
set_option maxHeartbeats 4000000 in
theorem tX12_greatestDepth_b88 {p : Program} {l : Launch} {e : Env} {s : State} {m : MethodId} {args : Array Value} {below : List Frame} {meth : Method} {c : Code} {G : gG} {A : Nat → Prop} {Qn : Int32 → gH → Prop} (X : gC p l s m args meth c G A cX12_greatestDepth 7 (some FieldType.int) RX12) {k5 : gH → Nat → Int32 → Int32 → Int32 → Int32 → Prop} {k25 : gH → Nat → Int32 → Int32 → Int32 → Int32 → Int32 → Prop} (H5 : ∀ (h : gH) (v0 : Nat) (v1 : Int32) (v2 : Int32) (v3 : Int32) (v4 : Int32), k5 h v0 v1 v2 v3 v4 → V p l e rmX12_greatestDepth s m args below meth c (MQ below (va_Qi Qn (gB G A) A) args s rmX12_greatestDepth.cells rmX12_greatestDepth.slots A) G A 7 h 0 0 5 [(0, .ref v0), (1, .int v1), (2, .int v2), (3, .int v3), (4, .int v4)] []) (H25 : ∀ (h : gH) (v0 : Nat) (v1 : Int32) (v2 : Int32) (v3 : Int32) (v4 : Int32) (v5 : Int32), k25 h v0 v1 v2 v3 v4 v5 → V p l e rmX12_greatestDepth s m args below meth c (MQ below (va_Qi Qn (gB G A) A) args s rmX12_greatestDepth.cells rmX12_greatestDepth.slots A) G A 7 h 0 0 25 [(0, .ref v0), (1, .int v1), (2, .int v2), (3, .int v3), (4, .int v4), (5, .int v5)] []) {h : gH} {v0 : Nat} {v1 : Int32} {v2 : Int32} {v3 : Int32} {v4 : Int32} {v5 : Int32} {s0 : Int32} {s1 : Int32} {s2 : Option Nat} (w : vX12_greatestDepth_b88 k5 k25 Qn h v0 v1 v2 v3 v4 v5 s0 s1 s2) : V p l e rmX12_greatestDepth s m args below meth c (MQ below (va_Qi Qn (gB G A) A) args s rmX12_greatestDepth.cells rmX12_greatestDepth.slots A) G A 7 h 0 0 88 [(0, .ref v0), (1, .int v1), (2, .int v2), (3, .int v3), (4, .int v4), (5, .int v5)] [.int s0, .int s1, va_rf s2] := by
  obtain ⟨a1, rfl, w⟩ := w
  obtain ⟨N9, g9, hh, hi, w⟩ := w
  refine V_iast X dX12_greatestDepth_88 hh hi ?_
  generalize va_up _ _ _ = h2 at w ⊢
  refine V_iinc (y := (v5 + 1)) X dX12_greatestDepth_89 5 rfl (by first | rfl | (congr 1)) (by decide) rfl ?_
  refine V_goto (tgt := 25) X dX12_greatestDepth_92 (by decide) ?_
  exact V.sub [1, 2, 3, 4, 5, 0] rfl (H25 _ _ _ _ _ _ _ w)
def vX12_greatestDepth_b25_o (k5 : gH → Nat → Int32 → Int32 → Int32 → Int32 → Prop) (k25 : gH → Nat → Int32 → Int32 → Int32 → Int32 → Int32 → Prop) (Qn : Int32 → gH → Prop) (h : gH) (v0 : Nat) (v1 : Int32) (v2 : Int32) (v3 : Int32) (v4 : Int32) (v5 : Int32) : Prop := gr h v0 15 11 (fun r1 => nn r1 (fun a2 => li h a2 v4 (fun x3 => ((x3 ≤ (v5 : Int32)) → (gr h v0 15 26 (fun r4 => ((¬ (v4 : Int32) = v1) → (vX12_greatestDepth_b136 k5 Qn h v0 v1 v2 v3 v4 v4 r4)) ∧ (((v4 : Int32) = v1) → (gr h v0 15 26 (fun r5 => nn r5 (fun a6 => li h a6 v2 (fun x7 => gr h v0 15 26 (fun r8 => nn r8 (fun a9 => li h a9 v4 (fun x10 => ((((1 + x7) : Int32) ≤ x10) → (vX12_greatestDepth_b136 k5 Qn h v0 v1 v2 v3 v4 v4 r4)) ∧ ((¬ ((1 + x7) : Int32) ≤ x10) → (gr h v0 15 26 (fun r11 => nn r11 (fun a12 => li h a12 v2 (fun x13 => vX12_greatestDepth_b143 k5 Qn h v0 v1 v2 v3 v4 (1 + x13) v4 r4)))))))))))))))) ∧ ((¬ x3 ≤ (v5 : Int32)) → (gr h v0 15 26 (fun r14 => gr h v0 15 12 (fun r15 => nn r15 (fun a16 => li h a16 ((5 * v4) + v5) (fun x17 => nn r14 (fun a18 => li h a18 x17 (fun x19 => gr h v0 15 26 (fun r20 => gr h v0 15 26 (fun r21 => nn r21 (fun a22 => li h a22 v4 (fun x23 => ((((1 + x19) : Int32) ≤ x23) → (gr h v0 15 26 (fun r24 => nn r24 (fun a25 => li h a25 v4 (fun x26 => vX12_greatestDepth_b88 k5 k25 Qn h v0 v1 v2 v3 v4 v5 x26 v4 r20))))) ∧ ((¬ ((1 + x19) : Int32) ≤ x23) → (vX12_greatestDepth_b88 k5 k25 Qn h v0 v1 v2 v3 v4 v5 (1 + x19) v4 r20)))))))))))))))))
set_option maxRecDepth 100000 in
set_option maxHeartbeats 4000000 in
theorem tX12_greatestDepth_b25_o {p : Program} {l : Launch} {e : Env} {s : State} {m : MethodId} {args : Array Value} {below : List Frame} {meth : Method} {c : Code} {G : gG} {A : Nat → Prop} {Qn : Int32 → gH → Prop} (X : gC p l s m args meth c G A cX12_greatestDepth 7 (some FieldType.int) RX12) {k5 : gH → Nat → Int32 → Int32 → Int32 → Int32 → Prop} {k25 : gH → Nat → Int32 → Int32 → Int32 → Int32 → Int32 → Prop} (H5 : ∀ (h : gH) (v0 : Nat) (v1 : Int32) (v2 : Int32) (v3 : Int32) (v4 : Int32), k5 h v0 v1 v2 v3 v4 → V p l e rmX12_greatestDepth s m args below meth c (MQ below (va_Qi Qn (gB G A) A) args s rmX12_greatestDepth.cells rmX12_greatestDepth.slots A) G A 7 h 0 0 5 [(0, .ref v0), (1, .int v1), (2, .int v2), (3, .int v3), (4, .int v4)] []) (H25 : ∀ (h : gH) (v0 : Nat) (v1 : Int32) (v2 : Int32) (v3 : Int32) (v4 : Int32) (v5 : Int32), k25 h v0 v1 v2 v3 v4 v5 → V p l e rmX12_greatestDepth s m args below meth c (MQ below (va_Qi Qn (gB G A) A) args s rmX12_greatestDepth.cells rmX12_greatestDepth.slots A) G A 7 h 0 0 25 [(0, .ref v0), (1, .int v1), (2, .int v2), (3, .int v3), (4, .int v4), (5, .int v5)] []) {h : gH} {v0 : Nat} {v1 : Int32} {v2 : Int32} {v3 : Int32} {v4 : Int32} {v5 : Int32} (w : vX12_greatestDepth_b25_o k5 k25 Qn h v0 v1 v2 v3 v4 v5) : V p l e rmX12_greatestDepth s m args below meth c (MQ below (va_Qi Qn (gB G A) A) args s rmX12_greatestDepth.cells rmX12_greatestDepth.slots A) G A 7 h 0 0 25 [(0, .ref v0), (1, .int v1), (2, .int v2), (3, .int v3), (4, .int v4), (5, .int v5)] [] := by
  refine V_iload X dX12_greatestDepth_25 5 rfl ?_
  refine V_aloadr_n X dX12_greatestDepth_27 0 rfl ?_
  obtain ⟨fs, r1, hh, hv, w⟩ := w
  refine V_get X flX12_38 dX12_greatestDepth_28 hh hv ?_
  refine V_iload X dX12_greatestDepth_31 4 rfl ?_
  obtain ⟨a2, rfl, w⟩ := w
  obtain ⟨N9, g9, hh, hi, w⟩ := w
  refine V_iald X dX12_greatestDepth_33 hh hi ?_
  generalize g9 _ = x3 at w ⊢
  obtain ⟨w1, w2⟩ := w
  refine V_icmp_ge (tgt := 95) X dX12_greatestDepth_34 (by decide) (fun z => ?_) (fun z => ?_)
  · replace w := w1 z
    clear w1 w2
    refine V_aloadr_n X dX12_greatestDepth_95 0 rfl ?_
    obtain ⟨fs, r4, hh, hv, w⟩ := w
    refine V_get X flX12_69 dX12_greatestDepth_96 hh hv ?_
    refine V_iload X dX12_greatestDepth_99 4 rfl ?_
    refine V_iload X dX12_greatestDepth_101 4 rfl ?_
    refine V_iload_n X dX12_greatestDepth_103 1 rfl ?_
    obtain ⟨w1, w2⟩ := w
    refine V_icmp_ne (tgt := 136) X dX12_greatestDepth_104 (by decide) (fun z => ?_) (fun z => ?_)
    · replace w := w1 z
      clear w1 w2
      exact V.sub [0, 1, 2, 3, 4] rfl (tX12_greatestDepth_b136 X H5 w)
    · replace w := w2 z
      clear w1 w2
      refine V_iconst (y := 1) X dX12_greatestDepth_107 (by decide) ?_
      refine V_aloadr_n X dX12_greatestDepth_108 0 rfl ?_
      obtain ⟨fs, r5, hh, hv, w⟩ := w
      refine V_get X flX12_69 dX12_greatestDepth_109 hh hv ?_
      refine V_iload_n X dX12_greatestDepth_112 2 rfl ?_
      obtain ⟨a6, rfl, w⟩ := w
      obtain ⟨N9, g9, hh, hi, w⟩ := w
      refine V_iald X dX12_greatestDepth_113 hh hi ?_
      generalize g9 _ = x7 at w ⊢
      refine V_iadd X dX12_greatestDepth_114 ?_
      refine V_aloadr_n X dX12_greatestDepth_115 0 rfl ?_
      obtain ⟨fs, r8, hh, hv, w⟩ := w
      refine V_get X flX12_69 dX12_greatestDepth_116 hh hv ?_
      refine V_iload X dX12_greatestDepth_119 4 rfl ?_
      obtain ⟨a9, rfl, w⟩ := w
      obtain ⟨N9, g9, hh, hi, w⟩ := w
      refine V_iald X dX12_greatestDepth_121 hh hi ?_
      generalize g9 _ = x10 at w ⊢
      obtain ⟨w1, w2⟩ := w
      refine V_icmp_le (tgt := 136) X dX12_greatestDepth_122 (by decide) (fun z => ?_) (fun z => ?_)
      · replace w := w1 z
        clear w1 w2
        exact V.sub [0, 1, 2, 3, 4] rfl (tX12_greatestDepth_b136 X H5 w)
      · replace w := w2 z
        clear w1 w2
        refine V_iconst (y := 1) X dX12_greatestDepth_125 (by decide) ?_
        refine V_aloadr_n X dX12_greatestDepth_126 0 rfl ?_
        obtain ⟨fs, r11, hh, hv, w⟩ := w
        refine V_get X flX12_69 dX12_greatestDepth_127 hh hv ?_
        refine V_iload_n X dX12_greatestDepth_130 2 rfl ?_
        obtain ⟨a12, rfl, w⟩ := w
        obtain ⟨N9, g9, hh, hi, w⟩ := w
        refine V_iald X dX12_greatestDepth_131 hh hi ?_
        generalize g9 _ = x13 at w ⊢
        refine V_iadd X dX12_greatestDepth_132 ?_
        refine V_goto (tgt := 143) X dX12_greatestDepth_133 (by decide) ?_
        exact V.sub [0, 1, 2, 3, 4] rfl (tX12_greatestDepth_b143 X H5 w)
  · replace w := w2 z
    clear w1 w2
    refine V_iconst (y := 1) X dX12_greatestDepth_37 (by decide) ?_
    refine V_aloadr_n X dX12_greatestDepth_38 0 rfl ?_
    obtain ⟨fs, r14, hh, hv, w⟩ := w
    refine V_get X flX12_69 dX12_greatestDepth_39 hh hv ?_
    refine V_aloadr_n X dX12_greatestDepth_42 0 rfl ?_
    obtain ⟨fs, r15, hh, hv, w⟩ := w
    refine V_get X flX12_41 dX12_greatestDepth_43 hh hv ?_
    refine V_iconst (y := 5) X dX12_greatestDepth_46 (by decide) ?_
    refine V_iload X dX12_greatestDepth_47 4 rfl ?_
    refine V_imul X dX12_greatestDepth_49 ?_
    refine V_iload X dX12_greatestDepth_50 5 rfl ?_
    refine V_iadd X dX12_greatestDepth_52 ?_
    obtain ⟨a16, rfl, w⟩ := w
    obtain ⟨N9, g9, hh, hi, w⟩ := w
    refine V_iald X dX12_greatestDepth_53 hh hi ?_
    generalize g9 _ = x17 at w ⊢
    obtain ⟨a18, rfl, w⟩ := w
    obtain ⟨N9, g9, hh, hi, w⟩ := w
    refine V_iald X dX12_greatestDepth_54 hh hi ?_
    generalize g9 _ = x19 at w ⊢
    refine V_iadd X dX12_greatestDepth_55 ?_
    refine V_istore X dX12_greatestDepth_56 (by decide) rfl ?_
    refine V_aloadr_n X dX12_greatestDepth_58 1 rfl ?_
    obtain ⟨fs, r20, hh, hv, w⟩ := w
    refine V_get X flX12_69 dX12_greatestDepth_59 hh hv ?_
    refine V_iload X dX12_greatestDepth_62 5 rfl ?_
    refine V_iload X dX12_greatestDepth_64 0 rfl ?_
    refine V_aloadr_n X dX12_greatestDepth_66 1 rfl ?_
    obtain ⟨fs, r21, hh, hv, w⟩ := w
    refine V_get X flX12_69 dX12_greatestDepth_67 hh hv ?_
    refine V_iload X dX12_greatestDepth_70 5 rfl ?_
    obtain ⟨a22, rfl, w⟩ := w
    obtain ⟨N9, g9, hh, hi, w⟩ := w
    refine V_iald X dX12_greatestDepth_72 hh hi ?_
    generalize g9 _ = x23 at w ⊢
    obtain ⟨w1, w2⟩ := w
    refine V_icmp_le (tgt := 81) X dX12_greatestDepth_73 (by decide) (fun z => ?_) (fun z => ?_)
    · replace w := w1 z
      clear w1 w2
      refine V_aloadr_n X dX12_greatestDepth_81 1 rfl ?_
      obtain ⟨fs, r24, hh, hv, w⟩ := w
      refine V_get X flX12_69 dX12_greatestDepth_82 hh hv ?_
      refine V_iload X dX12_greatestDepth_85 5 rfl ?_
      obtain ⟨a25, rfl, w⟩ := w
      obtain ⟨N9, g9, hh, hi, w⟩ := w
      refine V_iald X dX12_greatestDepth_87 hh hi ?_
      generalize g9 _ = x26 at w ⊢
      exact V.sub [1, 2, 3, 4, 5, 6] rfl (tX12_greatestDepth_b88 X H5 H25 w)
    · replace w := w2 z
      clear w1 w2
      refine V_iload X dX12_greatestDepth_76 0 rfl ?_
      refine V_goto (tgt := 88) X dX12_greatestDepth_78 (by decide) ?_
      exact V.sub [1, 2, 3, 4, 5, 6] rfl (tX12_greatestDepth_b88 X H5 H25 w)
def vX12_greatestDepth_b25 (k5 : gH → Nat → Int32 → Int32 → Int32 → Int32 → Prop) (Qn : Int32 → gH → Prop) (n : Nat) : gH → Nat → Int32 → Int32 → Int32 → Int32 → Int32 → Prop := Nat.rec (motive := fun _ => gH → Nat → Int32 → Int32 → Int32 → Int32 → Int32 → Prop) (fun _ _ _ _ _ _ _ => False) (fun _ k25 => vX12_greatestDepth_b25_o k5 k25 Qn) n
theorem tX12_greatestDepth_b25 {p : Program} {l : Launch} {e : Env} {s : State} {m : MethodId} {args : Array Value} {below : List Frame} {meth : Method} {c : Code} {G : gG} {A : Nat → Prop} {Qn : Int32 → gH → Prop} (X : gC p l s m args meth c G A cX12_greatestDepth 7 (some FieldType.int) RX12) {k5 : gH → Nat → Int32 → Int32 → Int32 → Int32 → Prop} (H5 : ∀ (h : gH) (v0 : Nat) (v1 : Int32) (v2 : Int32) (v3 : Int32) (v4 : Int32), k5 h v0 v1 v2 v3 v4 → V p l e rmX12_greatestDepth s m args below meth c (MQ below (va_Qi Qn (gB G A) A) args s rmX12_greatestDepth.cells rmX12_greatestDepth.slots A) G A 7 h 0 0 5 [(0, .ref v0), (1, .int v1), (2, .int v2), (3, .int v3), (4, .int v4)] []) : ∀ (n : Nat) (h : gH) (v0 : Nat) (v1 : Int32) (v2 : Int32) (v3 : Int32) (v4 : Int32) (v5 : Int32) (w : vX12_greatestDepth_b25 k5 Qn n h v0 v1 v2 v3 v4 v5), V p l e rmX12_greatestDepth s m args below meth c (MQ below (va_Qi Qn (gB G A) A) args s rmX12_greatestDepth.cells rmX12_greatestDepth.slots A) G A 7 h 0 0 25 [(0, .ref v0), (1, .int v1), (2, .int v2), (3, .int v3), (4, .int v4), (5, .int v5)] [] := by
  intro n
  induction n with
  | zero => intro h v0 v1 v2 v3 v4 v5 w; exact False.elim w
  | succ n ih => intro h v0 v1 v2 v3 v4 v5 w; exact tX12_greatestDepth_b25_o X H5 ih w
def vX12_greatestDepth_b5_o (k5 : gH → Nat → Int32 → Int32 → Int32 → Int32 → Prop) (Qn : Int32 → gH → Prop) (h : gH) (v0 : Nat) (v1 : Int32) (v2 : Int32) (v3 : Int32) (v4 : Int32) : Prop := gi h v0 15 14 (fun x1 => ((x1 ≤ (v4 : Int32)) → (Qn v3 h)) ∧ ((¬ x1 ≤ (v4 : Int32)) → (gr h v0 15 26 (fun r2 => nn r2 (fun a3 => si h a3 v4 1 (fun h4 => ∃ n : Nat, vX12_greatestDepth_b25 k5 Qn n h4 v0 v1 v2 v3 v4 0))))))
set_option maxRecDepth 100000 in
set_option maxHeartbeats 4000000 in
theorem tX12_greatestDepth_b5_o {p : Program} {l : Launch} {e : Env} {s : State} {m : MethodId} {args : Array Value} {below : List Frame} {meth : Method} {c : Code} {G : gG} {A : Nat → Prop} {Qn : Int32 → gH → Prop} (X : gC p l s m args meth c G A cX12_greatestDepth 7 (some FieldType.int) RX12) {k5 : gH → Nat → Int32 → Int32 → Int32 → Int32 → Prop} (H5 : ∀ (h : gH) (v0 : Nat) (v1 : Int32) (v2 : Int32) (v3 : Int32) (v4 : Int32), k5 h v0 v1 v2 v3 v4 → V p l e rmX12_greatestDepth s m args below meth c (MQ below (va_Qi Qn (gB G A) A) args s rmX12_greatestDepth.cells rmX12_greatestDepth.slots A) G A 7 h 0 0 5 [(0, .ref v0), (1, .int v1), (2, .int v2), (3, .int v3), (4, .int v4)] []) {h : gH} {v0 : Nat} {v1 : Int32} {v2 : Int32} {v3 : Int32} {v4 : Int32} (w : vX12_greatestDepth_b5_o k5 Qn h v0 v1 v2 v3 v4) : V p l e rmX12_greatestDepth s m args below meth c (MQ below (va_Qi Qn (gB G A) A) args s rmX12_greatestDepth.cells rmX12_greatestDepth.slots A) G A 7 h 0 0 5 [(0, .ref v0), (1, .int v1), (2, .int v2), (3, .int v3), (4, .int v4)] [] := by
  refine V_iload X dX12_greatestDepth_5 4 rfl ?_
  refine V_aloadr_n X dX12_greatestDepth_7 0 rfl ?_
  obtain ⟨fs, x1, hh, hv, w⟩ := w
  refine V_get X flX12_128 dX12_greatestDepth_8 hh hv ?_
  obtain ⟨w1, w2⟩ := w
  refine V_icmp_ge (tgt := 173) X dX12_greatestDepth_11 (by decide) (fun z => ?_) (fun z => ?_)
  · replace w := w1 z
    clear w1 w2
    refine V_iload_n X dX12_greatestDepth_173 3 rfl ?_
    exact V_iret X rfl dX12_greatestDepth_174 (Nat.le_of_ble_eq_true rfl) (Nat.le_of_ble_eq_true rfl) w
  · replace w := w2 z
    clear w1 w2
    refine V_aloadr_n X dX12_greatestDepth_14 0 rfl ?_
    obtain ⟨fs, r2, hh, hv, w⟩ := w
    refine V_get X flX12_69 dX12_greatestDepth_15 hh hv ?_
    refine V_iload X dX12_greatestDepth_18 4 rfl ?_
    refine V_iconst (y := 1) X dX12_greatestDepth_20 (by decide) ?_
    obtain ⟨a3, rfl, w⟩ := w
    obtain ⟨N9, g9, hh, hi, w⟩ := w
    refine V_iast X dX12_greatestDepth_21 hh hi ?_
    generalize va_up _ _ _ = h4 at w ⊢
    refine V_iconst (y := 0) X dX12_greatestDepth_22 (by decide) ?_
    refine V_istore X dX12_greatestDepth_23 (by decide) rfl ?_
    obtain ⟨n9, w⟩ := w
    exact V.sub [1, 2, 3, 4, 5, 0] rfl (tX12_greatestDepth_b25 X H5 n9 _ _ _ _ _ _ _ w)
def vX12_greatestDepth_b5  (Qn : Int32 → gH → Prop) (n : Nat) : gH → Nat → Int32 → Int32 → Int32 → Int32 → Prop := Nat.rec (motive := fun _ => gH → Nat → Int32 → Int32 → Int32 → Int32 → Prop) (fun _ _ _ _ _ _ => False) (fun _ k5 => vX12_greatestDepth_b5_o k5 Qn) n
theorem tX12_greatestDepth_b5 {p : Program} {l : Launch} {e : Env} {s : State} {m : MethodId} {args : Array Value} {below : List Frame} {meth : Method} {c : Code} {G : gG} {A : Nat → Prop} {Qn : Int32 → gH → Prop} (X : gC p l s m args meth c G A cX12_greatestDepth 7 (some FieldType.int) RX12)   : ∀ (n : Nat) (h : gH) (v0 : Nat) (v1 : Int32) (v2 : Int32) (v3 : Int32) (v4 : Int32) (w : vX12_greatestDepth_b5  Qn n h v0 v1 v2 v3 v4), V p l e rmX12_greatestDepth s m args below meth c (MQ below (va_Qi Qn (gB G A) A) args s rmX12_greatestDepth.cells rmX12_greatestDepth.slots A) G A 7 h 0 0 5 [(0, .ref v0), (1, .int v1), (2, .int v2), (3, .int v3), (4, .int v4)] [] := by
  intro n
  induction n with
  | zero => intro h v0 v1 v2 v3 v4 w; exact False.elim w
  | succ n ih => intro h v0 v1 v2 v3 v4 w; exact tX12_greatestDepth_b5_o X ih w
def vX12_greatestDepth  (Qn : Int32 → gH → Prop) (h : gH) (v0 : Nat) (v1 : Int32) (v2 : Int32) : Prop := ∃ n : Nat, vX12_greatestDepth_b5  Qn n h v0 v1 v2 0 0
set_option maxRecDepth 100000 in
set_option maxHeartbeats 4000000 in
theorem tX12_greatestDepth {p : Program} {l : Launch} {e : Env} {s : State} {m : MethodId} {args : Array Value} {below : List Frame} {meth : Method} {c : Code} {G : gG} {A : Nat → Prop} {Qn : Int32 → gH → Prop} (X : gC p l s m args meth c G A cX12_greatestDepth 7 (some FieldType.int) RX12)   {h : gH} {v0 : Nat} {v1 : Int32} {v2 : Int32} (w : vX12_greatestDepth  Qn h v0 v1 v2) : V p l e rmX12_greatestDepth s m args below meth c (MQ below (va_Qi Qn (gB G A) A) args s rmX12_greatestDepth.cells rmX12_greatestDepth.slots A) G A 7 h 0 0 0 [(0, .ref v0), (1, .int v1), (2, .int v2)] [] := by
  refine V_iconst (y := 0) X dX12_greatestDepth_0 (by decide) ?_
  refine V_istore_n X dX12_greatestDepth_1 rfl (by decide) rfl ?_
  refine V_iconst (y := 0) X dX12_greatestDepth_2 (by decide) ?_
  refine V_istore X dX12_greatestDepth_3 (by decide) rfl ?_
  obtain ⟨n9, w⟩ := w
  exact V.sub [2, 3, 4, 1, 0] rfl (tX12_greatestDepth_b5 X  n9 _ _ _ _ _ _ w)
theorem cX12_greatestDepth_ok {l : Launch} {G : gG} {h : gH} (hls : l.stackTraces = false) {Qn : Int32 → gH → Prop} {v0 : Nat} {v1 : Int32} {v2 : Int32} (w : vX12_greatestDepth Qn h v0 v1 v2) : gMi l yX12_greatestDepth cX12_greatestDepth 7 (some FieldType.int) rmX12_greatestDepth rmX12_greatestDepth.cells rmX12_greatestDepth.slots G h [.ref v0, .int v1, .int v2] Qn := by
  exact gMi.of (by decide +kernel) hls (Nat.le_of_ble_eq_true rfl) rfl rfl (fun p e s m below meth c A X hnm => tX12_greatestDepth X w)
/-! AnimationControllerModel.addChild(III)I -/
abbrev rmX12_addChild : Room := { frames := 2, cells := 0, slots := 0, locals := 46 }
def vX12_addChild_b21  (Qn : Int32 → gH → Prop) (h : gH) (v0 : Nat) : Prop := io h v0 15 (vX12_fails (fun x2 h1 => Qn x2 h1) h v0 1)
set_option maxRecDepth 100000 in
set_option maxHeartbeats 4000000 in
theorem tX12_addChild_b21 {p : Program} {l : Launch} {e : Env} {s : State} {m : MethodId} {args : Array Value} {below : List Frame} {meth : Method} {c : Code} {G : gG} {A : Nat → Prop} {Qn : Int32 → gH → Prop} (X : gC p l s m args meth c G A cX12_addChild 6 (some FieldType.int) RX12)   {h : gH} {v0 : Nat} (w : vX12_addChild_b21  Qn h v0) : V p l e rmX12_addChild s m args below meth c (MQ below (va_Qi Qn (gB G A) A) args s rmX12_addChild.cells rmX12_addChild.slots A) G A 6 h 0 0 21 [(0, .ref v0)] [] := by
  refine V_aloadr_n X dX12_addChild_21 0 rfl ?_
  refine V_iconst (y := 1) X dX12_addChild_22 (by decide) ?_
  obtain ⟨fs, hh, w⟩ := w
  refine V_callVi (As := [.int 1]) (rest := []) (k1 := 0) (n1 := 0) X (cX12_fails_ok X.2.2.2.2.2.2.2.2.1 w) lkX12_103 hh (q9 := (RX12, TX12, 42)) rfl rfl dX12_addChild_23 ⟨Nat.le_of_ble_eq_true rfl, Nat.le_of_ble_eq_true rfl⟩ rfl (Nat.le_of_ble_eq_true rfl) ⟨Nat.le_of_ble_eq_true rfl, Nat.le_of_ble_eq_true rfl⟩ (Nat.le_of_ble_eq_true rfl) (Nat.le_of_ble_eq_true rfl) (fun x2 h1 w9 => ?_)
  replace w := w9
  clear w9
  exact V_iret X rfl dX12_addChild_26 (Nat.le_of_ble_eq_true rfl) (Nat.le_of_ble_eq_true rfl) w
def vX12_addChild_b56  (Qn : Int32 → gH → Prop) (h : gH) (v0 : Nat) : Prop := io h v0 15 (vX12_fails (fun x2 h1 => Qn x2 h1) h v0 2)
set_option maxRecDepth 100000 in
set_option maxHeartbeats 4000000 in
theorem tX12_addChild_b56 {p : Program} {l : Launch} {e : Env} {s : State} {m : MethodId} {args : Array Value} {below : List Frame} {meth : Method} {c : Code} {G : gG} {A : Nat → Prop} {Qn : Int32 → gH → Prop} (X : gC p l s m args meth c G A cX12_addChild 6 (some FieldType.int) RX12)   {h : gH} {v0 : Nat} (w : vX12_addChild_b56  Qn h v0) : V p l e rmX12_addChild s m args below meth c (MQ below (va_Qi Qn (gB G A) A) args s rmX12_addChild.cells rmX12_addChild.slots A) G A 6 h 0 0 56 [(0, .ref v0)] [] := by
  refine V_aloadr_n X dX12_addChild_56 0 rfl ?_
  refine V_iconst (y := 2) X dX12_addChild_57 (by decide) ?_
  obtain ⟨fs, hh, w⟩ := w
  refine V_callVi (As := [.int 2]) (rest := []) (k1 := 0) (n1 := 0) X (cX12_fails_ok X.2.2.2.2.2.2.2.2.1 w) lkX12_103 hh (q9 := (RX12, TX12, 42)) rfl rfl dX12_addChild_58 ⟨Nat.le_of_ble_eq_true rfl, Nat.le_of_ble_eq_true rfl⟩ rfl (Nat.le_of_ble_eq_true rfl) ⟨Nat.le_of_ble_eq_true rfl, Nat.le_of_ble_eq_true rfl⟩ (Nat.le_of_ble_eq_true rfl) (Nat.le_of_ble_eq_true rfl) (fun x2 h1 w9 => ?_)
  replace w := w9
  clear w9
  exact V_iret X rfl dX12_addChild_61 (Nat.le_of_ble_eq_true rfl) (Nat.le_of_ble_eq_true rfl) w
def vX12_addChild_b149  (Qn : Int32 → gH → Prop) (h : gH) (v0 : Nat) : Prop := io h v0 15 (vX12_fails (fun x2 h1 => Qn x2 h1) h v0 3)
set_option maxRecDepth 100000 in
set_option maxHeartbeats 4000000 in
theorem tX12_addChild_b149 {p : Program} {l : Launch} {e : Env} {s : State} {m : MethodId} {args : Array Value} {below : List Frame} {meth : Method} {c : Code} {G : gG} {A : Nat → Prop} {Qn : Int32 → gH → Prop} (X : gC p l s m args meth c G A cX12_addChild 6 (some FieldType.int) RX12)   {h : gH} {v0 : Nat} (w : vX12_addChild_b149  Qn h v0) : V p l e rmX12_addChild s m args below meth c (MQ below (va_Qi Qn (gB G A) A) args s rmX12_addChild.cells rmX12_addChild.slots A) G A 6 h 0 0 149 [(0, .ref v0)] [] := by
  refine V_aloadr_n X dX12_addChild_149 0 rfl ?_
  refine V_iconst (y := 3) X dX12_addChild_150 (by decide) ?_
  obtain ⟨fs, hh, w⟩ := w
  refine V_callVi (As := [.int 3]) (rest := []) (k1 := 0) (n1 := 0) X (cX12_fails_ok X.2.2.2.2.2.2.2.2.1 w) lkX12_103 hh (q9 := (RX12, TX12, 42)) rfl rfl dX12_addChild_151 ⟨Nat.le_of_ble_eq_true rfl, Nat.le_of_ble_eq_true rfl⟩ rfl (Nat.le_of_ble_eq_true rfl) ⟨Nat.le_of_ble_eq_true rfl, Nat.le_of_ble_eq_true rfl⟩ (Nat.le_of_ble_eq_true rfl) (Nat.le_of_ble_eq_true rfl) (fun x2 h1 w9 => ?_)
  replace w := w9
  clear w9
  exact V_iret X rfl dX12_addChild_154 (Nat.le_of_ble_eq_true rfl) (Nat.le_of_ble_eq_true rfl) w
def vX12_addChild_b118 (k82 : gH → Nat → Int32 → Int32 → Int32 → Int32 → Int32 → Prop) (Qn : Int32 → gH → Prop) (h : gH) (v0 : Nat) (v1 : Int32) (v2 : Int32) (v3 : Int32) (v5 : Int32) (s0 : Int32) : Prop := k82 h v0 v1 v2 v3 s0 (v5 + 1)
set_option maxRecDepth 100000 in
set_option maxHeartbeats 4000000 in
theorem tX12_addChild_b118 {p : Program} {l : Launch} {e : Env} {s : State} {m : MethodId} {args : Array Value} {below : List Frame} {meth : Method} {c : Code} {G : gG} {A : Nat → Prop} {Qn : Int32 → gH → Prop} (X : gC p l s m args meth c G A cX12_addChild 6 (some FieldType.int) RX12) {k82 : gH → Nat → Int32 → Int32 → Int32 → Int32 → Int32 → Prop} (H82 : ∀ (h : gH) (v0 : Nat) (v1 : Int32) (v2 : Int32) (v3 : Int32) (v4 : Int32) (v5 : Int32), k82 h v0 v1 v2 v3 v4 v5 → V p l e rmX12_addChild s m args below meth c (MQ below (va_Qi Qn (gB G A) A) args s rmX12_addChild.cells rmX12_addChild.slots A) G A 6 h 0 0 82 [(0, .ref v0), (1, .int v1), (2, .int v2), (3, .int v3), (4, .int v4), (5, .int v5)] []) {h : gH} {v0 : Nat} {v1 : Int32} {v2 : Int32} {v3 : Int32} {v5 : Int32} {s0 : Int32} (w : vX12_addChild_b118 k82 Qn h v0 v1 v2 v3 v5 s0) : V p l e rmX12_addChild s m args below meth c (MQ below (va_Qi Qn (gB G A) A) args s rmX12_addChild.cells rmX12_addChild.slots A) G A 6 h 0 0 118 [(0, .ref v0), (1, .int v1), (2, .int v2), (3, .int v3), (5, .int v5)] [.int s0] := by
  refine V_istore X dX12_addChild_118 (by decide) rfl ?_
  refine V_iinc (y := (v5 + 1)) X dX12_addChild_120 5 rfl (by first | rfl | (congr 1)) (by decide) rfl ?_
  refine V_goto (tgt := 82) X dX12_addChild_123 (by decide) ?_
  exact V.sub [2, 3, 4, 5, 1, 0] rfl (H82 _ _ _ _ _ _ _ w)
def vX12_addChild_b113 (k82 : gH → Nat → Int32 → Int32 → Int32 → Int32 → Int32 → Prop) (Qn : Int32 → gH → Prop) (h : gH) (v0 : Nat) (v1 : Int32) (v2 : Int32) (v3 : Int32) (v5 : Int32) : Prop := vX12_addChild_b118 k82 Qn h v0 v1 v2 v3 v5 1
set_option maxRecDepth 100000 in
set_option maxHeartbeats 4000000 in
theorem tX12_addChild_b113 {p : Program} {l : Launch} {e : Env} {s : State} {m : MethodId} {args : Array Value} {below : List Frame} {meth : Method} {c : Code} {G : gG} {A : Nat → Prop} {Qn : Int32 → gH → Prop} (X : gC p l s m args meth c G A cX12_addChild 6 (some FieldType.int) RX12) {k82 : gH → Nat → Int32 → Int32 → Int32 → Int32 → Int32 → Prop} (H82 : ∀ (h : gH) (v0 : Nat) (v1 : Int32) (v2 : Int32) (v3 : Int32) (v4 : Int32) (v5 : Int32), k82 h v0 v1 v2 v3 v4 v5 → V p l e rmX12_addChild s m args below meth c (MQ below (va_Qi Qn (gB G A) A) args s rmX12_addChild.cells rmX12_addChild.slots A) G A 6 h 0 0 82 [(0, .ref v0), (1, .int v1), (2, .int v2), (3, .int v3), (4, .int v4), (5, .int v5)] []) {h : gH} {v0 : Nat} {v1 : Int32} {v2 : Int32} {v3 : Int32} {v5 : Int32} (w : vX12_addChild_b113 k82 Qn h v0 v1 v2 v3 v5) : V p l e rmX12_addChild s m args below meth c (MQ below (va_Qi Qn (gB G A) A) args s rmX12_addChild.cells rmX12_addChild.slots A) G A 6 h 0 0 113 [(0, .ref v0), (1, .int v1), (2, .int v2), (3, .int v3), (5, .int v5)] [] := by
  refine V_iconst (y := 1) X dX12_addChild_113 (by decide) ?_
  refine V_goto (tgt := 118) X dX12_addChild_114 (by decide) ?_
  exact V.sub [0, 1, 2, 3, 4] rfl (tX12_addChild_b118 X H82 w)
def vX12_addChild_b82_o (k82 : gH → Nat → Int32 → Int32 → Int32 → Int32 → Int32 → Prop) (Qn : Int32 → gH → Prop) (h : gH) (v0 : Nat) (v1 : Int32) (v2 : Int32) (v3 : Int32) (v4 : Int32) (v5 : Int32) : Prop := gr h v0 15 11 (fun r1 => nn r1 (fun a2 => li h a2 v1 (fun x3 => ((x3 ≤ (v5 : Int32)) → (((¬ (v4 : Int32) = 0) → (vX12_addChild_b149  Qn h v0)) ∧ (((v4 : Int32) = 0) → (io h v0 15 (vX12_isComplete (fun x5 h4 => (((x5 : Int32) = 0) → (vX12_addChild_b149  Qn h4 v0)) ∧ ((¬ (x5 : Int32) = 0) → (io h4 v0 15 (vX12_greatestDepth (fun x7 h6 => (((x7 : Int32) ≤ 4) → (gr h6 v0 15 12 (fun r8 => gr h6 v0 15 11 (fun r9 => nn r9 (fun a10 => li h6 a10 v1 (fun x11 => nn r8 (fun a12 => si h6 a12 ((5 * v1) + x11) v2 (fun h13 => gr h13 v0 15 13 (fun r14 => gr h13 v0 15 11 (fun r15 => nn r15 (fun a16 => li h13 a16 v1 (fun x17 => nn r14 (fun a18 => si h13 a18 ((5 * v1) + x17) v3 (fun h19 => gr h19 v0 15 11 (fun r20 => nn r20 (fun a21 => li h19 a21 v1 (fun x22 => si h19 a21 v1 (x22 + 1) (fun h23 => gr h23 v0 15 11 (fun r24 => nn r24 (fun a25 => li h23 a25 v1 (fun x26 => Qn x26 h23))))))))))))))))))))) ∧ ((¬ (x7 : Int32) ≤ 4) → (vX12_addChild_b149  Qn h6 v0))) h4 v0 v1 v2)))) h v0 v2))))) ∧ ((¬ x3 ≤ (v5 : Int32)) → (((¬ (v4 : Int32) = 0) → (vX12_addChild_b113 k82 Qn h v0 v1 v2 v3 v5)) ∧ (((v4 : Int32) = 0) → (gr h v0 15 13 (fun r27 => nn r27 (fun a28 => li h a28 ((5 * v1) + v5) (fun x29 => ((¬ (x29 : Int32) = v3) → (vX12_addChild_b118 k82 Qn h v0 v1 v2 v3 v5 0)) ∧ (((x29 : Int32) = v3) → (vX12_addChild_b113 k82 Qn h v0 v1 v2 v3 v5))))))))))))
set_option maxRecDepth 100000 in
set_option maxHeartbeats 4000000 in
theorem tX12_addChild_b82_o {p : Program} {l : Launch} {e : Env} {s : State} {m : MethodId} {args : Array Value} {below : List Frame} {meth : Method} {c : Code} {G : gG} {A : Nat → Prop} {Qn : Int32 → gH → Prop} (X : gC p l s m args meth c G A cX12_addChild 6 (some FieldType.int) RX12) {k82 : gH → Nat → Int32 → Int32 → Int32 → Int32 → Int32 → Prop} (H82 : ∀ (h : gH) (v0 : Nat) (v1 : Int32) (v2 : Int32) (v3 : Int32) (v4 : Int32) (v5 : Int32), k82 h v0 v1 v2 v3 v4 v5 → V p l e rmX12_addChild s m args below meth c (MQ below (va_Qi Qn (gB G A) A) args s rmX12_addChild.cells rmX12_addChild.slots A) G A 6 h 0 0 82 [(0, .ref v0), (1, .int v1), (2, .int v2), (3, .int v3), (4, .int v4), (5, .int v5)] []) {h : gH} {v0 : Nat} {v1 : Int32} {v2 : Int32} {v3 : Int32} {v4 : Int32} {v5 : Int32} (w : vX12_addChild_b82_o k82 Qn h v0 v1 v2 v3 v4 v5) : V p l e rmX12_addChild s m args below meth c (MQ below (va_Qi Qn (gB G A) A) args s rmX12_addChild.cells rmX12_addChild.slots A) G A 6 h 0 0 82 [(0, .ref v0), (1, .int v1), (2, .int v2), (3, .int v3), (4, .int v4), (5, .int v5)] [] := by
  refine V_iload X dX12_addChild_82 5 rfl ?_
  refine V_aloadr_n X dX12_addChild_84 0 rfl ?_
  obtain ⟨fs, r1, hh, hv, w⟩ := w
  refine V_get X flX12_38 dX12_addChild_85 hh hv ?_
  refine V_iload_n X dX12_addChild_88 1 rfl ?_
  obtain ⟨a2, rfl, w⟩ := w
  obtain ⟨N9, g9, hh, hi, w⟩ := w
  refine V_iald X dX12_addChild_89 hh hi ?_
  generalize g9 _ = x3 at w ⊢
  obtain ⟨w1, w2⟩ := w
  refine V_icmp_ge (tgt := 126) X dX12_addChild_90 (by decide) (fun z => ?_) (fun z => ?_)
  · replace w := w1 z
    clear w1 w2
    refine V_iload X dX12_addChild_126 4 rfl ?_
    obtain ⟨w1, w2⟩ := w
    refine V_if_ne (tgt := 149) X dX12_addChild_128 (by decide) (fun z => ?_) (fun z => ?_)
    · replace w := w1 z
      clear w1 w2
      exact V.sub [0] rfl (tX12_addChild_b149 X  w)
    · replace w := w2 z
      clear w1 w2
      refine V_aloadr_n X dX12_addChild_131 0 rfl ?_
      refine V_iload_n X dX12_addChild_132 2 rfl ?_
      obtain ⟨fs, hh, w⟩ := w
      refine V_callVi (As := [.int v2]) (rest := []) (k1 := 0) (n1 := 0) X (cX12_isComplete_ok X.2.2.2.2.2.2.2.2.1 w) lkX12_134 hh (q9 := (RX12, TX12, 42)) rfl rfl dX12_addChild_133 ⟨Nat.le_of_ble_eq_true rfl, Nat.le_of_ble_eq_true rfl⟩ rfl (Nat.le_of_ble_eq_true rfl) ⟨Nat.le_of_ble_eq_true rfl, Nat.le_of_ble_eq_true rfl⟩ (Nat.le_of_ble_eq_true rfl) (Nat.le_of_ble_eq_true rfl) (fun x5 h4 w9 => ?_)
      replace w := w9
      clear w9
      obtain ⟨w1, w2⟩ := w
      refine V_if_eq (tgt := 149) X dX12_addChild_136 (by decide) (fun z => ?_) (fun z => ?_)
      · replace w := w1 z
        clear w1 w2
        exact V.sub [0] rfl (tX12_addChild_b149 X  w)
      · replace w := w2 z
        clear w1 w2
        refine V_aloadr_n X dX12_addChild_139 0 rfl ?_
        refine V_iload_n X dX12_addChild_140 1 rfl ?_
        refine V_iload_n X dX12_addChild_141 2 rfl ?_
        obtain ⟨fs, hh, w⟩ := w
        refine V_callVi (As := [.int v1, .int v2]) (rest := []) (k1 := 0) (n1 := 0) X (cX12_greatestDepth_ok X.2.2.2.2.2.2.2.2.1 w) lkX12_137 hh (q9 := (RX12, TX12, 42)) rfl rfl dX12_addChild_142 ⟨Nat.le_of_ble_eq_true rfl, Nat.le_of_ble_eq_true rfl⟩ rfl (Nat.le_of_ble_eq_true rfl) ⟨Nat.le_of_ble_eq_true rfl, Nat.le_of_ble_eq_true rfl⟩ (Nat.le_of_ble_eq_true rfl) (Nat.le_of_ble_eq_true rfl) (fun x7 h6 w9 => ?_)
        replace w := w9
        clear w9
        refine V_iconst (y := 4) X dX12_addChild_145 (by decide) ?_
        obtain ⟨w1, w2⟩ := w
        refine V_icmp_le (tgt := 155) X dX12_addChild_146 (by decide) (fun z => ?_) (fun z => ?_)
        · replace w := w1 z
          clear w1 w2
          refine V_aloadr_n X dX12_addChild_155 0 rfl ?_
          obtain ⟨fs, r8, hh, hv, w⟩ := w
          refine V_get X flX12_41 dX12_addChild_156 hh hv ?_
          refine V_iconst (y := 5) X dX12_addChild_159 (by decide) ?_
          refine V_iload_n X dX12_addChild_160 1 rfl ?_
          refine V_imul X dX12_addChild_161 ?_
          refine V_aloadr_n X dX12_addChild_162 0 rfl ?_
          obtain ⟨fs, r9, hh, hv, w⟩ := w
          refine V_get X flX12_38 dX12_addChild_163 hh hv ?_
          refine V_iload_n X dX12_addChild_166 1 rfl ?_
          obtain ⟨a10, rfl, w⟩ := w
          obtain ⟨N9, g9, hh, hi, w⟩ := w
          refine V_iald X dX12_addChild_167 hh hi ?_
          generalize g9 _ = x11 at w ⊢
          refine V_iadd X dX12_addChild_168 ?_
          refine V_iload_n X dX12_addChild_169 2 rfl ?_
          obtain ⟨a12, rfl, w⟩ := w
          obtain ⟨N9, g9, hh, hi, w⟩ := w
          refine V_iast X dX12_addChild_170 hh hi ?_
          generalize va_up _ _ _ = h13 at w ⊢
          refine V_aloadr_n X dX12_addChild_171 0 rfl ?_
          obtain ⟨fs, r14, hh, hv, w⟩ := w
          refine V_get X flX12_44 dX12_addChild_172 hh hv ?_
          refine V_iconst (y := 5) X dX12_addChild_175 (by decide) ?_
          refine V_iload_n X dX12_addChild_176 1 rfl ?_
          refine V_imul X dX12_addChild_177 ?_
          refine V_aloadr_n X dX12_addChild_178 0 rfl ?_
          obtain ⟨fs, r15, hh, hv, w⟩ := w
          refine V_get X flX12_38 dX12_addChild_179 hh hv ?_
          refine V_iload_n X dX12_addChild_182 1 rfl ?_
          obtain ⟨a16, rfl, w⟩ := w
          obtain ⟨N9, g9, hh, hi, w⟩ := w
          refine V_iald X dX12_addChild_183 hh hi ?_
          generalize g9 _ = x17 at w ⊢
          refine V_iadd X dX12_addChild_184 ?_
          refine V_iload_n X dX12_addChild_185 3 rfl ?_
          obtain ⟨a18, rfl, w⟩ := w
          obtain ⟨N9, g9, hh, hi, w⟩ := w
          refine V_iast X dX12_addChild_186 hh hi ?_
          generalize va_up _ _ _ = h19 at w ⊢
          refine V_aloadr_n X dX12_addChild_187 0 rfl ?_
          obtain ⟨fs, r20, hh, hv, w⟩ := w
          refine V_get X flX12_38 dX12_addChild_188 hh hv ?_
          refine V_iload_n X dX12_addChild_191 1 rfl ?_
          refine V_dup2 X dX12_addChild_192 rfl (va_cat1 _) ?_
          obtain ⟨a21, rfl, w⟩ := w
          obtain ⟨N9, g9, hh, hi, w⟩ := w
          refine V_iald X dX12_addChild_193 hh hi ?_
          generalize g9 _ = x22 at w ⊢
          refine V_iconst (y := 1) X dX12_addChild_194 (by decide) ?_
          refine V_iadd X dX12_addChild_195 ?_
          obtain ⟨N9, g9, hh, hi, w⟩ := w
          refine V_iast X dX12_addChild_196 hh hi ?_
          generalize va_up _ _ _ = h23 at w ⊢
          refine V_aloadr_n X dX12_addChild_197 0 rfl ?_
          obtain ⟨fs, r24, hh, hv, w⟩ := w
          refine V_get X flX12_38 dX12_addChild_198 hh hv ?_
          refine V_iload_n X dX12_addChild_201 1 rfl ?_
          obtain ⟨a25, rfl, w⟩ := w
          obtain ⟨N9, g9, hh, hi, w⟩ := w
          refine V_iald X dX12_addChild_202 hh hi ?_
          generalize g9 _ = x26 at w ⊢
          exact V_iret X rfl dX12_addChild_203 (Nat.le_of_ble_eq_true rfl) (Nat.le_of_ble_eq_true rfl) w
        · replace w := w2 z
          clear w1 w2
          exact V.sub [0] rfl (tX12_addChild_b149 X  w)
  · replace w := w2 z
    clear w1 w2
    refine V_iload X dX12_addChild_93 4 rfl ?_
    obtain ⟨w1, w2⟩ := w
    refine V_if_ne (tgt := 113) X dX12_addChild_95 (by decide) (fun z => ?_) (fun z => ?_)
    · replace w := w1 z
      clear w1 w2
      exact V.sub [0, 1, 2, 3, 5] rfl (tX12_addChild_b113 X H82 w)
    · replace w := w2 z
      clear w1 w2
      refine V_aloadr_n X dX12_addChild_98 0 rfl ?_
      obtain ⟨fs, r27, hh, hv, w⟩ := w
      refine V_get X flX12_44 dX12_addChild_99 hh hv ?_
      refine V_iconst (y := 5) X dX12_addChild_102 (by decide) ?_
      refine V_iload_n X dX12_addChild_103 1 rfl ?_
      refine V_imul X dX12_addChild_104 ?_
      refine V_iload X dX12_addChild_105 5 rfl ?_
      refine V_iadd X dX12_addChild_107 ?_
      obtain ⟨a28, rfl, w⟩ := w
      obtain ⟨N9, g9, hh, hi, w⟩ := w
      refine V_iald X dX12_addChild_108 hh hi ?_
      generalize g9 _ = x29 at w ⊢
      refine V_iload_n X dX12_addChild_109 3 rfl ?_
      obtain ⟨w1, w2⟩ := w
      refine V_icmp_ne (tgt := 117) X dX12_addChild_110 (by decide) (fun z => ?_) (fun z => ?_)
      · replace w := w1 z
        clear w1 w2
        refine V_iconst (y := 0) X dX12_addChild_117 (by decide) ?_
        exact V.sub [0, 1, 2, 3, 5] rfl (tX12_addChild_b118 X H82 w)
      · replace w := w2 z
        clear w1 w2
        exact V.sub [0, 1, 2, 3, 5] rfl (tX12_addChild_b113 X H82 w)
def vX12_addChild_b82  (Qn : Int32 → gH → Prop) (n : Nat) : gH → Nat → Int32 → Int32 → Int32 → Int32 → Int32 → Prop := Nat.rec (motive := fun _ => gH → Nat → Int32 → Int32 → Int32 → Int32 → Int32 → Prop) (fun _ _ _ _ _ _ _ => False) (fun _ k82 => vX12_addChild_b82_o k82 Qn) n
theorem tX12_addChild_b82 {p : Program} {l : Launch} {e : Env} {s : State} {m : MethodId} {args : Array Value} {below : List Frame} {meth : Method} {c : Code} {G : gG} {A : Nat → Prop} {Qn : Int32 → gH → Prop} (X : gC p l s m args meth c G A cX12_addChild 6 (some FieldType.int) RX12)   : ∀ (n : Nat) (h : gH) (v0 : Nat) (v1 : Int32) (v2 : Int32) (v3 : Int32) (v4 : Int32) (v5 : Int32) (w : vX12_addChild_b82  Qn n h v0 v1 v2 v3 v4 v5), V p l e rmX12_addChild s m args below meth c (MQ below (va_Qi Qn (gB G A) A) args s rmX12_addChild.cells rmX12_addChild.slots A) G A 6 h 0 0 82 [(0, .ref v0), (1, .int v1), (2, .int v2), (3, .int v3), (4, .int v4), (5, .int v5)] [] := by
  intro n
  induction n with
  | zero => intro h v0 v1 v2 v3 v4 v5 w; exact False.elim w
  | succ n ih => intro h v0 v1 v2 v3 v4 v5 w; exact tX12_addChild_b82_o X ih w
def vX12_addChild_b77  (Qn : Int32 → gH → Prop) (h : gH) (v0 : Nat) (v1 : Int32) (v2 : Int32) (v3 : Int32) (s0 : Int32) : Prop := ∃ n : Nat, vX12_addChild_b82  Qn n h v0 v1 v2 v3 s0 0
set_option maxRecDepth 100000 in
set_option maxHeartbeats 4000000 in
theorem tX12_addChild_b77 {p : Program} {l : Launch} {e : Env} {s : State} {m : MethodId} {args : Array Value} {below : List Frame} {meth : Method} {c : Code} {G : gG} {A : Nat → Prop} {Qn : Int32 → gH → Prop} (X : gC p l s m args meth c G A cX12_addChild 6 (some FieldType.int) RX12)   {h : gH} {v0 : Nat} {v1 : Int32} {v2 : Int32} {v3 : Int32} {s0 : Int32} (w : vX12_addChild_b77  Qn h v0 v1 v2 v3 s0) : V p l e rmX12_addChild s m args below meth c (MQ below (va_Qi Qn (gB G A) A) args s rmX12_addChild.cells rmX12_addChild.slots A) G A 6 h 0 0 77 [(0, .ref v0), (1, .int v1), (2, .int v2), (3, .int v3)] [.int s0] := by
  refine V_istore X dX12_addChild_77 (by decide) rfl ?_
  refine V_iconst (y := 0) X dX12_addChild_79 (by decide) ?_
  refine V_istore X dX12_addChild_80 (by decide) rfl ?_
  obtain ⟨n9, w⟩ := w
  exact V.sub [2, 3, 4, 5, 1, 0] rfl (tX12_addChild_b82 X  n9 _ _ _ _ _ _ _ w)
def vX12_addChild  (Qn : Int32 → gH → Prop) (h : gH) (v0 : Nat) (v1 : Int32) (v2 : Int32) (v3 : Int32) : Prop := pv h v0 15 25 (.int 0) (fun h1 => io h1 v0 15 (vX12_isNode (fun x3 h2 => (((x3 : Int32) = 0) → (vX12_addChild_b21  Qn h2 v0)) ∧ ((¬ (x3 : Int32) = 0) → (io h2 v0 15 (vX12_isNode (fun x5 h4 => ((¬ (x5 : Int32) = 0) → (gr h4 v0 15 9 (fun r6 => nn r6 (fun a7 => li h4 a7 v1 (fun x8 => ((¬ (x8 : Int32) = (-1)) → (vX12_addChild_b56  Qn h4 v0)) ∧ (((x8 : Int32) = (-1)) → (((v1 ≤ (v2 : Int32)) → (vX12_addChild_b56  Qn h4 v0)) ∧ ((¬ v1 ≤ (v2 : Int32)) → (vX12_in (fun x10 h9 => ((¬ (x10 : Int32) = 0) → (gr h9 v0 15 11 (fun r11 => nn r11 (fun a12 => li h9 a12 v1 (fun x13 => ((¬ (x13 : Int32) = 5) → (vX12_addChild_b77  Qn h9 v0 v1 v2 v3 0)) ∧ (((x13 : Int32) = 5) → (vX12_addChild_b77  Qn h9 v0 v1 v2 v3 1))))))) ∧ (((x10 : Int32) = 0) → (vX12_addChild_b56  Qn h9 v0))) h4 (Int32.toInt64 v3) (-100) 100))))))))) ∧ (((x5 : Int32) = 0) → (vX12_addChild_b21  Qn h4 v0))) h2 v0 v2)))) h1 v0 v1))
set_option maxRecDepth 100000 in
set_option maxHeartbeats 4000000 in
theorem tX12_addChild {p : Program} {l : Launch} {e : Env} {s : State} {m : MethodId} {args : Array Value} {below : List Frame} {meth : Method} {c : Code} {G : gG} {A : Nat → Prop} {Qn : Int32 → gH → Prop} (X : gC p l s m args meth c G A cX12_addChild 6 (some FieldType.int) RX12)   {h : gH} {v0 : Nat} {v1 : Int32} {v2 : Int32} {v3 : Int32} (w : vX12_addChild  Qn h v0 v1 v2 v3) : V p l e rmX12_addChild s m args below meth c (MQ below (va_Qi Qn (gB G A) A) args s rmX12_addChild.cells rmX12_addChild.slots A) G A 6 h 0 0 0 [(0, .ref v0), (1, .int v1), (2, .int v2), (3, .int v3)] [] := by
  refine V_aloadr_n X dX12_addChild_0 0 rfl ?_
  refine V_iconst (y := 0) X dX12_addChild_1 (by decide) ?_
  obtain ⟨fs, hh, hv, w⟩ := w
  refine V_put X flX12_94 dX12_addChild_2 hh hv rfl rfl ?_
  generalize va_up _ _ _ = h1 at w ⊢
  refine V_aloadr_n X dX12_addChild_5 0 rfl ?_
  refine V_iload_n X dX12_addChild_6 1 rfl ?_
  obtain ⟨fs, hh, w⟩ := w
  refine V_callVi (As := [.int v1]) (rest := []) (k1 := 0) (n1 := 0) X (cX12_isNode_ok X.2.2.2.2.2.2.2.2.1 w) lkX12_131 hh (q9 := (RX12, TX12, 42)) rfl rfl dX12_addChild_7 ⟨Nat.le_of_ble_eq_true rfl, Nat.le_of_ble_eq_true rfl⟩ rfl (Nat.le_of_ble_eq_true rfl) ⟨Nat.le_of_ble_eq_true rfl, Nat.le_of_ble_eq_true rfl⟩ (Nat.le_of_ble_eq_true rfl) (Nat.le_of_ble_eq_true rfl) (fun x3 h2 w9 => ?_)
  replace w := w9
  clear w9
  obtain ⟨w1, w2⟩ := w
  refine V_if_eq (tgt := 21) X dX12_addChild_10 (by decide) (fun z => ?_) (fun z => ?_)
  · replace w := w1 z
    clear w1 w2
    exact V.sub [0] rfl (tX12_addChild_b21 X  w)
  · replace w := w2 z
    clear w1 w2
    refine V_aloadr_n X dX12_addChild_13 0 rfl ?_
    refine V_iload_n X dX12_addChild_14 2 rfl ?_
    obtain ⟨fs, hh, w⟩ := w
    refine V_callVi (As := [.int v2]) (rest := []) (k1 := 0) (n1 := 0) X (cX12_isNode_ok X.2.2.2.2.2.2.2.2.1 w) lkX12_131 hh (q9 := (RX12, TX12, 42)) rfl rfl dX12_addChild_15 ⟨Nat.le_of_ble_eq_true rfl, Nat.le_of_ble_eq_true rfl⟩ rfl (Nat.le_of_ble_eq_true rfl) ⟨Nat.le_of_ble_eq_true rfl, Nat.le_of_ble_eq_true rfl⟩ (Nat.le_of_ble_eq_true rfl) (Nat.le_of_ble_eq_true rfl) (fun x5 h4 w9 => ?_)
    replace w := w9
    clear w9
    obtain ⟨w1, w2⟩ := w
    refine V_if_ne (tgt := 27) X dX12_addChild_18 (by decide) (fun z => ?_) (fun z => ?_)
    · replace w := w1 z
      clear w1 w2
      refine V_aloadr_n X dX12_addChild_27 0 rfl ?_
      obtain ⟨fs, r6, hh, hv, w⟩ := w
      refine V_get X flX12_32 dX12_addChild_28 hh hv ?_
      refine V_iload_n X dX12_addChild_31 1 rfl ?_
      obtain ⟨a7, rfl, w⟩ := w
      obtain ⟨N9, g9, hh, hi, w⟩ := w
      refine V_iald X dX12_addChild_32 hh hi ?_
      generalize g9 _ = x8 at w ⊢
      refine V_iconst (y := (-1)) X dX12_addChild_33 (by decide) ?_
      obtain ⟨w1, w2⟩ := w
      refine V_icmp_ne (tgt := 56) X dX12_addChild_34 (by decide) (fun z => ?_) (fun z => ?_)
      · replace w := w1 z
        clear w1 w2
        exact V.sub [0] rfl (tX12_addChild_b56 X  w)
      · replace w := w2 z
        clear w1 w2
        refine V_iload_n X dX12_addChild_37 2 rfl ?_
        refine V_iload_n X dX12_addChild_38 1 rfl ?_
        obtain ⟨w1, w2⟩ := w
        refine V_icmp_ge (tgt := 56) X dX12_addChild_39 (by decide) (fun z => ?_) (fun z => ?_)
        · replace w := w1 z
          clear w1 w2
          exact V.sub [0] rfl (tX12_addChild_b56 X  w)
        · replace w := w2 z
          clear w1 w2
          refine V_iload_n X dX12_addChild_42 3 rfl ?_
          refine V_i2l X dX12_addChild_43 ?_
          refine V_ldc2 (y := (-100)) X dX12_addChild_44 kw_1761 ?_
          refine V_ldc2 (y := 100) X dX12_addChild_47 kw_1762 ?_
          refine V_callSi (As := [.long (Int32.toInt64 v3), .long (-100), .long 100]) (rest := []) (k1 := 0) (n1 := 0) X (cX12_in_ok X.2.2.2.2.2.2.2.2.1 w) lkX12_99 dX12_addChild_50 ⟨Nat.le_of_ble_eq_true rfl, Nat.le_of_ble_eq_true rfl⟩ rfl (Nat.le_of_ble_eq_true rfl) ⟨Nat.le_of_ble_eq_true rfl, Nat.le_of_ble_eq_true rfl⟩ (Nat.le_of_ble_eq_true rfl) (Nat.le_of_ble_eq_true rfl) (fun x10 h9 w9 => ?_)
          replace w := w9
          clear w9
          obtain ⟨w1, w2⟩ := w
          refine V_if_ne (tgt := 62) X dX12_addChild_53 (by decide) (fun z => ?_) (fun z => ?_)
          · replace w := w1 z
            clear w1 w2
            refine V_aloadr_n X dX12_addChild_62 0 rfl ?_
            obtain ⟨fs, r11, hh, hv, w⟩ := w
            refine V_get X flX12_38 dX12_addChild_63 hh hv ?_
            refine V_iload_n X dX12_addChild_66 1 rfl ?_
            obtain ⟨a12, rfl, w⟩ := w
            obtain ⟨N9, g9, hh, hi, w⟩ := w
            refine V_iald X dX12_addChild_67 hh hi ?_
            generalize g9 _ = x13 at w ⊢
            refine V_iconst (y := 5) X dX12_addChild_68 (by decide) ?_
            obtain ⟨w1, w2⟩ := w
            refine V_icmp_ne (tgt := 76) X dX12_addChild_69 (by decide) (fun z => ?_) (fun z => ?_)
            · replace w := w1 z
              clear w1 w2
              refine V_iconst (y := 0) X dX12_addChild_76 (by decide) ?_
              exact V.sub [0, 1, 2, 3] rfl (tX12_addChild_b77 X  w)
            · replace w := w2 z
              clear w1 w2
              refine V_iconst (y := 1) X dX12_addChild_72 (by decide) ?_
              refine V_goto (tgt := 77) X dX12_addChild_73 (by decide) ?_
              exact V.sub [0, 1, 2, 3] rfl (tX12_addChild_b77 X  w)
          · replace w := w2 z
            clear w1 w2
            exact V.sub [0] rfl (tX12_addChild_b56 X  w)
    · replace w := w2 z
      clear w1 w2
      exact V.sub [0] rfl (tX12_addChild_b21 X  w)
theorem cX12_addChild_ok {l : Launch} {G : gG} {h : gH} (hls : l.stackTraces = false) {Qn : Int32 → gH → Prop} {v0 : Nat} {v1 : Int32} {v2 : Int32} {v3 : Int32} (w : vX12_addChild Qn h v0 v1 v2 v3) : gMi l yX12_addChild cX12_addChild 6 (some FieldType.int) rmX12_addChild rmX12_addChild.cells rmX12_addChild.slots G h [.ref v0, .int v1, .int v2, .int v3] Qn := by
  exact gMi.of (by decide +kernel) hls (Nat.le_of_ble_eq_true rfl) rfl rfl (fun p e s m below meth c A X hnm => tX12_addChild X w)
/-! AnimationControllerModel.opens(IJI)I -/
abbrev rmX12_opens : Room := { frames := 0, cells := 0, slots := 0, locals := 0 }
def vX12_opens_b172  (Qn : Int32 → gH → Prop) (h : gH) (v0 : Nat) (v2 : Int64) (v4 : Int32) (s0 : Int32) (s1 : Option Nat) (s2 : Int32) (s3 : Option Nat) : Prop := nn s1 (fun a1 => li h a1 s0 (fun x2 => nn s3 (fun a3 => si h a3 s2 x2 (fun h4 => gr h4 v0 15 29 (fun r5 => nn r5 (fun a6 => sl h4 a6 v4 v2 (fun h7 => Qn (v4 + 1) h7)))))))
set_option maxRecDepth 100000 in
set_option maxHeartbeats 4000000 in
theorem tX12_opens_b172 {p : Program} {l : Launch} {e : Env} {s : State} {m : MethodId} {args : Array Value} {below : List Frame} {meth : Method} {c : Code} {G : gG} {A : Nat → Prop} {Qn : Int32 → gH → Prop} (X : gC p l s m args meth c G A cX12_opens 10 (some FieldType.int) RX12)   {h : gH} {v0 : Nat} {v2 : Int64} {v4 : Int32} {s0 : Int32} {s1 : Option Nat} {s2 : Int32} {s3 : Option Nat} (w : vX12_opens_b172  Qn h v0 v2 v4 s0 s1 s2 s3) : V p l e rmX12_opens s m args below meth c (MQ below (va_Qi Qn (gB G A) A) args s rmX12_opens.cells rmX12_opens.slots A) G A 10 h 0 0 172 [(0, .ref v0), (2, .long v2), (4, .int v4)] [.int s0, va_rf s1, .int s2, va_rf s3] := by
  obtain ⟨a1, rfl, w⟩ := w
  obtain ⟨N9, g9, hh, hi, w⟩ := w
  refine V_iald X dX12_opens_172 hh hi ?_
  generalize g9 _ = x2 at w ⊢
  obtain ⟨a3, rfl, w⟩ := w
  obtain ⟨N9, g9, hh, hi, w⟩ := w
  refine V_iast X dX12_opens_173 hh hi ?_
  generalize va_up _ _ _ = h4 at w ⊢
  refine V_aloadr_n X dX12_opens_174 0 rfl ?_
  obtain ⟨fs, r5, hh, hv, w⟩ := w
  refine V_get X flX12_79 dX12_opens_175 hh hv ?_
  refine V_iload X dX12_opens_178 2 rfl ?_
  refine V_lload_n X dX12_opens_180 1 rfl ?_
  obtain ⟨a6, rfl, w⟩ := w
  obtain ⟨N9, g9, hh, hi, w⟩ := w
  refine V_last X dX12_opens_181 hh hi ?_
  generalize va_up _ _ _ = h7 at w ⊢
  refine V_iload X dX12_opens_182 2 rfl ?_
  refine V_iconst (y := 1) X dX12_opens_184 (by decide) ?_
  refine V_iadd X dX12_opens_185 ?_
  exact V_iret X rfl dX12_opens_186 (Nat.le_of_ble_eq_true rfl) (Nat.le_of_ble_eq_true rfl) w
def vX12_opens_b150  (Qn : Int32 → gH → Prop) (h : gH) (v0 : Nat) (v2 : Int64) (v4 : Int32) (v6 : Int32) (v7 : Int32) : Prop := gr h v0 15 28 (fun r1 => gr h v0 15 12 (fun r2 => ((0 ≤ (v6 : Int32)) → (vX12_opens_b172  Qn h v0 v2 v4 v6 r2 v4 r1)) ∧ ((¬ 0 ≤ (v6 : Int32)) → (vX12_opens_b172  Qn h v0 v2 v4 v7 r2 v4 r1))))
set_option maxRecDepth 100000 in
set_option maxHeartbeats 4000000 in
theorem tX12_opens_b150 {p : Program} {l : Launch} {e : Env} {s : State} {m : MethodId} {args : Array Value} {below : List Frame} {meth : Method} {c : Code} {G : gG} {A : Nat → Prop} {Qn : Int32 → gH → Prop} (X : gC p l s m args meth c G A cX12_opens 10 (some FieldType.int) RX12)   {h : gH} {v0 : Nat} {v2 : Int64} {v4 : Int32} {v6 : Int32} {v7 : Int32} (w : vX12_opens_b150  Qn h v0 v2 v4 v6 v7) : V p l e rmX12_opens s m args below meth c (MQ below (va_Qi Qn (gB G A) A) args s rmX12_opens.cells rmX12_opens.slots A) G A 10 h 0 0 150 [(0, .ref v0), (2, .long v2), (4, .int v4), (6, .int v6), (7, .int v7)] [] := by
  refine V_aloadr_n X dX12_opens_150 0 rfl ?_
  obtain ⟨fs, r1, hh, hv, w⟩ := w
  refine V_get X flX12_76 dX12_opens_151 hh hv ?_
  refine V_iload X dX12_opens_154 2 rfl ?_
  refine V_aloadr_n X dX12_opens_156 0 rfl ?_
  obtain ⟨fs, r2, hh, hv, w⟩ := w
  refine V_get X flX12_41 dX12_opens_157 hh hv ?_
  refine V_iload X dX12_opens_160 3 rfl ?_
  obtain ⟨w1, w2⟩ := w
  refine V_if_ge (tgt := 170) X dX12_opens_162 (by decide) (fun z => ?_) (fun z => ?_)
  · replace w := w1 z
    clear w1 w2
    refine V_iload X dX12_opens_170 3 rfl ?_
    exact V.sub [0, 1, 2] rfl (tX12_opens_b172 X  w)
  · replace w := w2 z
    clear w1 w2
    refine V_iload X dX12_opens_165 4 rfl ?_
    refine V_goto (tgt := 172) X dX12_opens_167 (by decide) ?_
    exact V.sub [0, 1, 2] rfl (tX12_opens_b172 X  w)
def vX12_opens_b125 (k26 : gH → Nat → Int32 → Int64 → Int32 → Int32 → Int32 → Int32 → Int32 → Prop) (Qn : Int32 → gH → Prop) (h : gH) (v0 : Nat) (v1 : Int32) (v2 : Int64) (v4 : Int32) (v5 : Int32) (v6 : Int32) (v8 : Int32) (s0 : Int32) : Prop := k26 h v0 v1 v2 v4 v5 v6 s0 (v8 + 1)
set_option maxRecDepth 100000 in
set_option maxHeartbeats 4000000 in
theorem tX12_opens_b125 {p : Program} {l : Launch} {e : Env} {s : State} {m : MethodId} {args : Array Value} {below : List Frame} {meth : Method} {c : Code} {G : gG} {A : Nat → Prop} {Qn : Int32 → gH → Prop} (X : gC p l s m args meth c G A cX12_opens 10 (some FieldType.int) RX12) {k26 : gH → Nat → Int32 → Int64 → Int32 → Int32 → Int32 → Int32 → Int32 → Prop} (H26 : ∀ (h : gH) (v0 : Nat) (v1 : Int32) (v2 : Int64) (v4 : Int32) (v5 : Int32) (v6 : Int32) (v7 : Int32) (v8 : Int32), k26 h v0 v1 v2 v4 v5 v6 v7 v8 → V p l e rmX12_opens s m args below meth c (MQ below (va_Qi Qn (gB G A) A) args s rmX12_opens.cells rmX12_opens.slots A) G A 10 h 0 0 26 [(0, .ref v0), (1, .int v1), (2, .long v2), (4, .int v4), (5, .int v5), (6, .int v6), (7, .int v7), (8, .int v8)] []) {h : gH} {v0 : Nat} {v1 : Int32} {v2 : Int64} {v4 : Int32} {v5 : Int32} {v6 : Int32} {v8 : Int32} {s0 : Int32} (w : vX12_opens_b125 k26 Qn h v0 v1 v2 v4 v5 v6 v8 s0) : V p l e rmX12_opens s m args below meth c (MQ below (va_Qi Qn (gB G A) A) args s rmX12_opens.cells rmX12_opens.slots A) G A 10 h 0 0 125 [(0, .ref v0), (1, .int v1), (2, .long v2), (4, .int v4), (5, .int v5), (6, .int v6), (8, .int v8)] [.int s0] := by
  refine V_istore X dX12_opens_125 (by decide) rfl ?_
  refine V_iinc (y := (v8 + 1)) X dX12_opens_127 7 rfl (by first | rfl | (congr 1)) (by decide) rfl ?_
  refine V_goto (tgt := 26) X dX12_opens_130 (by decide) ?_
  exact V.sub [2, 3, 4, 5, 6, 7, 1, 0] rfl (H26 _ _ _ _ _ _ _ _ _ w)
def vX12_opens_b123 (k26 : gH → Nat → Int32 → Int64 → Int32 → Int32 → Int32 → Int32 → Int32 → Prop) (Qn : Int32 → gH → Prop) (h : gH) (v0 : Nat) (v1 : Int32) (v2 : Int64) (v4 : Int32) (v5 : Int32) (v6 : Int32) (v7 : Int32) (v8 : Int32) : Prop := vX12_opens_b125 k26 Qn h v0 v1 v2 v4 v5 v6 v8 v7
set_option maxRecDepth 100000 in
set_option maxHeartbeats 4000000 in
theorem tX12_opens_b123 {p : Program} {l : Launch} {e : Env} {s : State} {m : MethodId} {args : Array Value} {below : List Frame} {meth : Method} {c : Code} {G : gG} {A : Nat → Prop} {Qn : Int32 → gH → Prop} (X : gC p l s m args meth c G A cX12_opens 10 (some FieldType.int) RX12) {k26 : gH → Nat → Int32 → Int64 → Int32 → Int32 → Int32 → Int32 → Int32 → Prop} (H26 : ∀ (h : gH) (v0 : Nat) (v1 : Int32) (v2 : Int64) (v4 : Int32) (v5 : Int32) (v6 : Int32) (v7 : Int32) (v8 : Int32), k26 h v0 v1 v2 v4 v5 v6 v7 v8 → V p l e rmX12_opens s m args below meth c (MQ below (va_Qi Qn (gB G A) A) args s rmX12_opens.cells rmX12_opens.slots A) G A 10 h 0 0 26 [(0, .ref v0), (1, .int v1), (2, .long v2), (4, .int v4), (5, .int v5), (6, .int v6), (7, .int v7), (8, .int v8)] []) {h : gH} {v0 : Nat} {v1 : Int32} {v2 : Int64} {v4 : Int32} {v5 : Int32} {v6 : Int32} {v7 : Int32} {v8 : Int32} (w : vX12_opens_b123 k26 Qn h v0 v1 v2 v4 v5 v6 v7 v8) : V p l e rmX12_opens s m args below meth c (MQ below (va_Qi Qn (gB G A) A) args s rmX12_opens.cells rmX12_opens.slots A) G A 10 h 0 0 123 [(0, .ref v0), (1, .int v1), (2, .long v2), (4, .int v4), (5, .int v5), (6, .int v6), (7, .int v7), (8, .int v8)] [] := by
  refine V_iload X dX12_opens_123 6 rfl ?_
  exact V.sub [0, 1, 2, 3, 4, 5, 7] rfl (tX12_opens_b125 X H26 w)
def vX12_opens_b118 (k26 : gH → Nat → Int32 → Int64 → Int32 → Int32 → Int32 → Int32 → Int32 → Prop) (Qn : Int32 → gH → Prop) (h : gH) (v0 : Nat) (v1 : Int32) (v2 : Int64) (v4 : Int32) (v5 : Int32) (v6 : Int32) (v8 : Int32) : Prop := vX12_opens_b125 k26 Qn h v0 v1 v2 v4 v5 v6 v8 v8
set_option maxRecDepth 100000 in
set_option maxHeartbeats 4000000 in
theorem tX12_opens_b118 {p : Program} {l : Launch} {e : Env} {s : State} {m : MethodId} {args : Array Value} {below : List Frame} {meth : Method} {c : Code} {G : gG} {A : Nat → Prop} {Qn : Int32 → gH → Prop} (X : gC p l s m args meth c G A cX12_opens 10 (some FieldType.int) RX12) {k26 : gH → Nat → Int32 → Int64 → Int32 → Int32 → Int32 → Int32 → Int32 → Prop} (H26 : ∀ (h : gH) (v0 : Nat) (v1 : Int32) (v2 : Int64) (v4 : Int32) (v5 : Int32) (v6 : Int32) (v7 : Int32) (v8 : Int32), k26 h v0 v1 v2 v4 v5 v6 v7 v8 → V p l e rmX12_opens s m args below meth c (MQ below (va_Qi Qn (gB G A) A) args s rmX12_opens.cells rmX12_opens.slots A) G A 10 h 0 0 26 [(0, .ref v0), (1, .int v1), (2, .long v2), (4, .int v4), (5, .int v5), (6, .int v6), (7, .int v7), (8, .int v8)] []) {h : gH} {v0 : Nat} {v1 : Int32} {v2 : Int64} {v4 : Int32} {v5 : Int32} {v6 : Int32} {v8 : Int32} (w : vX12_opens_b118 k26 Qn h v0 v1 v2 v4 v5 v6 v8) : V p l e rmX12_opens s m args below meth c (MQ below (va_Qi Qn (gB G A) A) args s rmX12_opens.cells rmX12_opens.slots A) G A 10 h 0 0 118 [(0, .ref v0), (1, .int v1), (2, .long v2), (4, .int v4), (5, .int v5), (6, .int v6), (8, .int v8)] [] := by
  refine V_iload X dX12_opens_118 6 rfl ?_
  refine V_goto (tgt := 125) X dX12_opens_120 (by decide) ?_
  exact V.sub [0, 1, 2, 3, 4, 5, 6] rfl (tX12_opens_b125 X H26 w)
def vX12_opens_b82 (k26 : gH → Nat → Int32 → Int64 → Int32 → Int32 → Int32 → Int32 → Int32 → Prop) (Qn : Int32 → gH → Prop) (h : gH) (v0 : Nat) (v1 : Int32) (v2 : Int64) (v4 : Int32) (v5 : Int32) (v7 : Int32) (v8 : Int32) (s0 : Int32) : Prop := gr h v0 15 13 (fun r1 => nn r1 (fun a2 => li h a2 v8 (fun x3 => (((x3 : Int32) < v5) → (vX12_opens_b123 k26 Qn h v0 v1 v2 v4 v5 s0 v7 v8)) ∧ ((¬ (x3 : Int32) < v5) → ((((v7 : Int32) < 0) → (vX12_opens_b118 k26 Qn h v0 v1 v2 v4 v5 s0 v8)) ∧ ((¬ (v7 : Int32) < 0) → (gr h v0 15 13 (fun r4 => nn r4 (fun a5 => li h a5 v8 (fun x6 => gr h v0 15 13 (fun r7 => nn r7 (fun a8 => li h a8 v7 (fun x9 => ((x9 ≤ (x6 : Int32)) → (vX12_opens_b123 k26 Qn h v0 v1 v2 v4 v5 s0 v7 v8)) ∧ ((¬ x9 ≤ (x6 : Int32)) → (vX12_opens_b118 k26 Qn h v0 v1 v2 v4 v5 s0 v8)))))))))))))))
set_option maxRecDepth 100000 in
set_option maxHeartbeats 4000000 in
theorem tX12_opens_b82 {p : Program} {l : Launch} {e : Env} {s : State} {m : MethodId} {args : Array Value} {below : List Frame} {meth : Method} {c : Code} {G : gG} {A : Nat → Prop} {Qn : Int32 → gH → Prop} (X : gC p l s m args meth c G A cX12_opens 10 (some FieldType.int) RX12) {k26 : gH → Nat → Int32 → Int64 → Int32 → Int32 → Int32 → Int32 → Int32 → Prop} (H26 : ∀ (h : gH) (v0 : Nat) (v1 : Int32) (v2 : Int64) (v4 : Int32) (v5 : Int32) (v6 : Int32) (v7 : Int32) (v8 : Int32), k26 h v0 v1 v2 v4 v5 v6 v7 v8 → V p l e rmX12_opens s m args below meth c (MQ below (va_Qi Qn (gB G A) A) args s rmX12_opens.cells rmX12_opens.slots A) G A 10 h 0 0 26 [(0, .ref v0), (1, .int v1), (2, .long v2), (4, .int v4), (5, .int v5), (6, .int v6), (7, .int v7), (8, .int v8)] []) {h : gH} {v0 : Nat} {v1 : Int32} {v2 : Int64} {v4 : Int32} {v5 : Int32} {v7 : Int32} {v8 : Int32} {s0 : Int32} (w : vX12_opens_b82 k26 Qn h v0 v1 v2 v4 v5 v7 v8 s0) : V p l e rmX12_opens s m args below meth c (MQ below (va_Qi Qn (gB G A) A) args s rmX12_opens.cells rmX12_opens.slots A) G A 10 h 0 0 82 [(0, .ref v0), (1, .int v1), (2, .long v2), (4, .int v4), (5, .int v5), (7, .int v7), (8, .int v8)] [.int s0] := by
  refine V_istore X dX12_opens_82 (by decide) rfl ?_
  refine V_aloadr_n X dX12_opens_84 1 rfl ?_
  obtain ⟨fs, r1, hh, hv, w⟩ := w
  refine V_get X flX12_44 dX12_opens_85 hh hv ?_
  refine V_iload X dX12_opens_88 7 rfl ?_
  obtain ⟨a2, rfl, w⟩ := w
  obtain ⟨N9, g9, hh, hi, w⟩ := w
  refine V_iald X dX12_opens_90 hh hi ?_
  generalize g9 _ = x3 at w ⊢
  refine V_iload X dX12_opens_91 5 rfl ?_
  obtain ⟨w1, w2⟩ := w
  refine V_icmp_lt (tgt := 123) X dX12_opens_93 (by decide) (fun z => ?_) (fun z => ?_)
  · replace w := w1 z
    clear w1 w2
    exact V.sub [1, 2, 3, 4, 5, 0, 6, 7] rfl (tX12_opens_b123 X H26 w)
  · replace w := w2 z
    clear w1 w2
    refine V_iload X dX12_opens_96 6 rfl ?_
    obtain ⟨w1, w2⟩ := w
    refine V_if_lt (tgt := 118) X dX12_opens_98 (by decide) (fun z => ?_) (fun z => ?_)
    · replace w := w1 z
      clear w1 w2
      exact V.sub [1, 2, 3, 4, 5, 0, 7] rfl (tX12_opens_b118 X H26 w)
    · replace w := w2 z
      clear w1 w2
      refine V_aloadr_n X dX12_opens_101 1 rfl ?_
      obtain ⟨fs, r4, hh, hv, w⟩ := w
      refine V_get X flX12_44 dX12_opens_102 hh hv ?_
      refine V_iload X dX12_opens_105 7 rfl ?_
      obtain ⟨a5, rfl, w⟩ := w
      obtain ⟨N9, g9, hh, hi, w⟩ := w
      refine V_iald X dX12_opens_107 hh hi ?_
      generalize g9 _ = x6 at w ⊢
      refine V_aloadr_n X dX12_opens_108 1 rfl ?_
      obtain ⟨fs, r7, hh, hv, w⟩ := w
      refine V_get X flX12_44 dX12_opens_109 hh hv ?_
      refine V_iload X dX12_opens_112 6 rfl ?_
      obtain ⟨a8, rfl, w⟩ := w
      obtain ⟨N9, g9, hh, hi, w⟩ := w
      refine V_iald X dX12_opens_114 hh hi ?_
      generalize g9 _ = x9 at w ⊢
      obtain ⟨w1, w2⟩ := w
      refine V_icmp_ge (tgt := 123) X dX12_opens_115 (by decide) (fun z => ?_) (fun z => ?_)
      · replace w := w1 z
        clear w1 w2
        exact V.sub [1, 2, 3, 4, 5, 0, 6, 7] rfl (tX12_opens_b123 X H26 w)
      · replace w := w2 z
        clear w1 w2
        exact V.sub [1, 2, 3, 4, 5, 0, 7] rfl (tX12_opens_b118 X H26 w)
def vX12_opens_b80 (k26 : gH → Nat → Int32 → Int64 → Int32 → Int32 → Int32 → Int32 → Int32 → Prop) (Qn : Int32 → gH → Prop) (h : gH) (v0 : Nat) (v1 : Int32) (v2 : Int64) (v4 : Int32) (v5 : Int32) (v6 : Int32) (v7 : Int32) (v8 : Int32) : Prop := vX12_opens_b82 k26 Qn h v0 v1 v2 v4 v5 v7 v8 v6
set_option maxRecDepth 100000 in
set_option maxHeartbeats 4000000 in
theorem tX12_opens_b80 {p : Program} {l : Launch} {e : Env} {s : State} {m : MethodId} {args : Array Value} {below : List Frame} {meth : Method} {c : Code} {G : gG} {A : Nat → Prop} {Qn : Int32 → gH → Prop} (X : gC p l s m args meth c G A cX12_opens 10 (some FieldType.int) RX12) {k26 : gH → Nat → Int32 → Int64 → Int32 → Int32 → Int32 → Int32 → Int32 → Prop} (H26 : ∀ (h : gH) (v0 : Nat) (v1 : Int32) (v2 : Int64) (v4 : Int32) (v5 : Int32) (v6 : Int32) (v7 : Int32) (v8 : Int32), k26 h v0 v1 v2 v4 v5 v6 v7 v8 → V p l e rmX12_opens s m args below meth c (MQ below (va_Qi Qn (gB G A) A) args s rmX12_opens.cells rmX12_opens.slots A) G A 10 h 0 0 26 [(0, .ref v0), (1, .int v1), (2, .long v2), (4, .int v4), (5, .int v5), (6, .int v6), (7, .int v7), (8, .int v8)] []) {h : gH} {v0 : Nat} {v1 : Int32} {v2 : Int64} {v4 : Int32} {v5 : Int32} {v6 : Int32} {v7 : Int32} {v8 : Int32} (w : vX12_opens_b80 k26 Qn h v0 v1 v2 v4 v5 v6 v7 v8) : V p l e rmX12_opens s m args below meth c (MQ below (va_Qi Qn (gB G A) A) args s rmX12_opens.cells rmX12_opens.slots A) G A 10 h 0 0 80 [(0, .ref v0), (1, .int v1), (2, .long v2), (4, .int v4), (5, .int v5), (6, .int v6), (7, .int v7), (8, .int v8)] [] := by
  refine V_iload X dX12_opens_80 5 rfl ?_
  exact V.sub [0, 1, 2, 3, 4, 6, 7] rfl (tX12_opens_b82 X H26 w)
def vX12_opens_b75 (k26 : gH → Nat → Int32 → Int64 → Int32 → Int32 → Int32 → Int32 → Int32 → Prop) (Qn : Int32 → gH → Prop) (h : gH) (v0 : Nat) (v1 : Int32) (v2 : Int64) (v4 : Int32) (v5 : Int32) (v7 : Int32) (v8 : Int32) : Prop := vX12_opens_b82 k26 Qn h v0 v1 v2 v4 v5 v7 v8 v8
set_option maxRecDepth 100000 in
set_option maxHeartbeats 4000000 in
theorem tX12_opens_b75 {p : Program} {l : Launch} {e : Env} {s : State} {m : MethodId} {args : Array Value} {below : List Frame} {meth : Method} {c : Code} {G : gG} {A : Nat → Prop} {Qn : Int32 → gH → Prop} (X : gC p l s m args meth c G A cX12_opens 10 (some FieldType.int) RX12) {k26 : gH → Nat → Int32 → Int64 → Int32 → Int32 → Int32 → Int32 → Int32 → Prop} (H26 : ∀ (h : gH) (v0 : Nat) (v1 : Int32) (v2 : Int64) (v4 : Int32) (v5 : Int32) (v6 : Int32) (v7 : Int32) (v8 : Int32), k26 h v0 v1 v2 v4 v5 v6 v7 v8 → V p l e rmX12_opens s m args below meth c (MQ below (va_Qi Qn (gB G A) A) args s rmX12_opens.cells rmX12_opens.slots A) G A 10 h 0 0 26 [(0, .ref v0), (1, .int v1), (2, .long v2), (4, .int v4), (5, .int v5), (6, .int v6), (7, .int v7), (8, .int v8)] []) {h : gH} {v0 : Nat} {v1 : Int32} {v2 : Int64} {v4 : Int32} {v5 : Int32} {v7 : Int32} {v8 : Int32} (w : vX12_opens_b75 k26 Qn h v0 v1 v2 v4 v5 v7 v8) : V p l e rmX12_opens s m args below meth c (MQ below (va_Qi Qn (gB G A) A) args s rmX12_opens.cells rmX12_opens.slots A) G A 10 h 0 0 75 [(0, .ref v0), (1, .int v1), (2, .long v2), (4, .int v4), (5, .int v5), (7, .int v7), (8, .int v8)] [] := by
  refine V_iload X dX12_opens_75 6 rfl ?_
  refine V_goto (tgt := 82) X dX12_opens_77 (by decide) ?_
  exact V.sub [0, 1, 2, 3, 4, 5, 6] rfl (tX12_opens_b82 X H26 w)
def vX12_opens_b26_o (k26 : gH → Nat → Int32 → Int64 → Int32 → Int32 → Int32 → Int32 → Int32 → Prop) (Qn : Int32 → gH → Prop) (h : gH) (v0 : Nat) (v1 : Int32) (v2 : Int64) (v4 : Int32) (v5 : Int32) (v6 : Int32) (v7 : Int32) (v8 : Int32) : Prop := gr h v0 15 11 (fun r1 => nn r1 (fun a2 => li h a2 v1 (fun x3 => ((((5 * v1) + x3) ≤ (v8 : Int32)) → ((((v6 : Int32) < 0) → (vX12_opens_b150  Qn h v0 v2 v4 v6 v7)) ∧ ((¬ (v6 : Int32) < 0) → ((((v7 : Int32) < 0) → (vX12_opens_b150  Qn h v0 v2 v4 v6 v7)) ∧ ((¬ (v7 : Int32) < 0) → (((¬ (v6 : Int32) = v7) → (gr h v0 15 13 (fun r4 => nn r4 (fun a5 => li h a5 v6 (fun x6 => gr h v0 15 13 (fun r7 => nn r7 (fun a8 => li h a8 v7 (fun x9 => gr h v0 15 13 (fun r10 => nn r10 (fun a11 => li h a11 v6 (fun x12 => ¬ ((Int32.toInt64 (x9 - x12)) : Int64) = 0 ∧ (gr h v0 15 28 (fun r13 => gr h v0 15 12 (fun r14 => nn r14 (fun a15 => li h a15 v7 (fun x16 => nn r13 (fun a17 => si h a17 v4 x16 (fun h18 => gr h18 v0 15 29 (fun r19 => nn r19 (fun a20 => sl h18 a20 v4 ((v2 * (Int32.toInt64 (v5 - x6))) / (Int32.toInt64 (x9 - x12))) (fun h21 => gr h21 v0 15 28 (fun r22 => gr h21 v0 15 12 (fun r23 => nn r23 (fun a24 => li h21 a24 v6 (fun x25 => nn r22 (fun a26 => si h21 a26 (v4 + 1) x25 (fun h27 => gr h27 v0 15 29 (fun r28 => nn r28 (fun a29 => sl h27 a29 (v4 + 1) (v2 - ((v2 * (Int32.toInt64 (v5 - x6))) / (Int32.toInt64 (x9 - x12)))) (fun h30 => Qn (v4 + 2) h30)))))))))))))))))))))))))))))) ∧ (((v6 : Int32) = v7) → (vX12_opens_b150  Qn h v0 v2 v4 v6 v7)))))))) ∧ ((¬ ((5 * v1) + x3) ≤ (v8 : Int32)) → (gr h v0 15 13 (fun r31 => nn r31 (fun a32 => li h a32 v8 (fun x33 => ((v5 < (x33 : Int32)) → (vX12_opens_b80 k26 Qn h v0 v1 v2 v4 v5 v6 v7 v8)) ∧ ((¬ v5 < (x33 : Int32)) → ((((v6 : Int32) < 0) → (vX12_opens_b75 k26 Qn h v0 v1 v2 v4 v5 v7 v8)) ∧ ((¬ (v6 : Int32) < 0) → (gr h v0 15 13 (fun r34 => nn r34 (fun a35 => li h a35 v8 (fun x36 => gr h v0 15 13 (fun r37 => nn r37 (fun a38 => li h a38 v6 (fun x39 => (((x36 : Int32) ≤ x39) → (vX12_opens_b80 k26 Qn h v0 v1 v2 v4 v5 v6 v7 v8)) ∧ ((¬ (x36 : Int32) ≤ x39) → (vX12_opens_b75 k26 Qn h v0 v1 v2 v4 v5 v7 v8))))))))))))))))))))
set_option maxRecDepth 100000 in
set_option maxHeartbeats 4000000 in
theorem tX12_opens_b26_o {p : Program} {l : Launch} {e : Env} {s : State} {m : MethodId} {args : Array Value} {below : List Frame} {meth : Method} {c : Code} {G : gG} {A : Nat → Prop} {Qn : Int32 → gH → Prop} (X : gC p l s m args meth c G A cX12_opens 10 (some FieldType.int) RX12) {k26 : gH → Nat → Int32 → Int64 → Int32 → Int32 → Int32 → Int32 → Int32 → Prop} (H26 : ∀ (h : gH) (v0 : Nat) (v1 : Int32) (v2 : Int64) (v4 : Int32) (v5 : Int32) (v6 : Int32) (v7 : Int32) (v8 : Int32), k26 h v0 v1 v2 v4 v5 v6 v7 v8 → V p l e rmX12_opens s m args below meth c (MQ below (va_Qi Qn (gB G A) A) args s rmX12_opens.cells rmX12_opens.slots A) G A 10 h 0 0 26 [(0, .ref v0), (1, .int v1), (2, .long v2), (4, .int v4), (5, .int v5), (6, .int v6), (7, .int v7), (8, .int v8)] []) {h : gH} {v0 : Nat} {v1 : Int32} {v2 : Int64} {v4 : Int32} {v5 : Int32} {v6 : Int32} {v7 : Int32} {v8 : Int32} (w : vX12_opens_b26_o k26 Qn h v0 v1 v2 v4 v5 v6 v7 v8) : V p l e rmX12_opens s m args below meth c (MQ below (va_Qi Qn (gB G A) A) args s rmX12_opens.cells rmX12_opens.slots A) G A 10 h 0 0 26 [(0, .ref v0), (1, .int v1), (2, .long v2), (4, .int v4), (5, .int v5), (6, .int v6), (7, .int v7), (8, .int v8)] [] := by
  refine V_iload X dX12_opens_26 7 rfl ?_
  refine V_iconst (y := 5) X dX12_opens_28 (by decide) ?_
  refine V_iload_n X dX12_opens_29 1 rfl ?_
  refine V_imul X dX12_opens_30 ?_
  refine V_aloadr_n X dX12_opens_31 0 rfl ?_
  obtain ⟨fs, r1, hh, hv, w⟩ := w
  refine V_get X flX12_38 dX12_opens_32 hh hv ?_
  refine V_iload_n X dX12_opens_35 1 rfl ?_
  obtain ⟨a2, rfl, w⟩ := w
  obtain ⟨N9, g9, hh, hi, w⟩ := w
  refine V_iald X dX12_opens_36 hh hi ?_
  generalize g9 _ = x3 at w ⊢
  refine V_iadd X dX12_opens_37 ?_
  obtain ⟨w1, w2⟩ := w
  refine V_icmp_ge (tgt := 133) X dX12_opens_38 (by decide) (fun z => ?_) (fun z => ?_)
  · replace w := w1 z
    clear w1 w2
    refine V_iload X dX12_opens_133 5 rfl ?_
    obtain ⟨w1, w2⟩ := w
    refine V_if_lt (tgt := 150) X dX12_opens_135 (by decide) (fun z => ?_) (fun z => ?_)
    · replace w := w1 z
      clear w1 w2
      exact V.sub [0, 2, 3, 5, 6] rfl (tX12_opens_b150 X  w)
    · replace w := w2 z
      clear w1 w2
      refine V_iload X dX12_opens_138 6 rfl ?_
      obtain ⟨w1, w2⟩ := w
      refine V_if_lt (tgt := 150) X dX12_opens_140 (by decide) (fun z => ?_) (fun z => ?_)
      · replace w := w1 z
        clear w1 w2
        exact V.sub [0, 2, 3, 5, 6] rfl (tX12_opens_b150 X  w)
      · replace w := w2 z
        clear w1 w2
        refine V_iload X dX12_opens_143 5 rfl ?_
        refine V_iload X dX12_opens_145 6 rfl ?_
        obtain ⟨w1, w2⟩ := w
        refine V_icmp_ne (tgt := 187) X dX12_opens_147 (by decide) (fun z => ?_) (fun z => ?_)
        · replace w := w1 z
          clear w1 w2
          refine V_lload_n X dX12_opens_187 2 rfl ?_
          refine V_iload X dX12_opens_188 4 rfl ?_
          refine V_aloadr_n X dX12_opens_190 0 rfl ?_
          obtain ⟨fs, r4, hh, hv, w⟩ := w
          refine V_get X flX12_44 dX12_opens_191 hh hv ?_
          refine V_iload X dX12_opens_194 5 rfl ?_
          obtain ⟨a5, rfl, w⟩ := w
          obtain ⟨N9, g9, hh, hi, w⟩ := w
          refine V_iald X dX12_opens_196 hh hi ?_
          generalize g9 _ = x6 at w ⊢
          refine V_isub X dX12_opens_197 ?_
          refine V_i2l X dX12_opens_198 ?_
          refine V_lmul X dX12_opens_199 ?_
          refine V_aloadr_n X dX12_opens_200 0 rfl ?_
          obtain ⟨fs, r7, hh, hv, w⟩ := w
          refine V_get X flX12_44 dX12_opens_201 hh hv ?_
          refine V_iload X dX12_opens_204 6 rfl ?_
          obtain ⟨a8, rfl, w⟩ := w
          obtain ⟨N9, g9, hh, hi, w⟩ := w
          refine V_iald X dX12_opens_206 hh hi ?_
          generalize g9 _ = x9 at w ⊢
          refine V_aloadr_n X dX12_opens_207 0 rfl ?_
          obtain ⟨fs, r10, hh, hv, w⟩ := w
          refine V_get X flX12_44 dX12_opens_208 hh hv ?_
          refine V_iload X dX12_opens_211 5 rfl ?_
          obtain ⟨a11, rfl, w⟩ := w
          obtain ⟨N9, g9, hh, hi, w⟩ := w
          refine V_iald X dX12_opens_213 hh hi ?_
          generalize g9 _ = x12 at w ⊢
          refine V_isub X dX12_opens_214 ?_
          refine V_i2l X dX12_opens_215 ?_
          obtain ⟨z0, w⟩ := w
          refine V_ldiv X dX12_opens_216 z0 ?_
          refine V_lstore X dX12_opens_217 (by decide) rfl ?_
          refine V_aloadr_n X dX12_opens_219 1 rfl ?_
          obtain ⟨fs, r13, hh, hv, w⟩ := w
          refine V_get X flX12_76 dX12_opens_220 hh hv ?_
          refine V_iload X dX12_opens_223 4 rfl ?_
          refine V_aloadr_n X dX12_opens_225 1 rfl ?_
          obtain ⟨fs, r14, hh, hv, w⟩ := w
          refine V_get X flX12_41 dX12_opens_226 hh hv ?_
          refine V_iload X dX12_opens_229 7 rfl ?_
          obtain ⟨a15, rfl, w⟩ := w
          obtain ⟨N9, g9, hh, hi, w⟩ := w
          refine V_iald X dX12_opens_231 hh hi ?_
          generalize g9 _ = x16 at w ⊢
          obtain ⟨a17, rfl, w⟩ := w
          obtain ⟨N9, g9, hh, hi, w⟩ := w
          refine V_iast X dX12_opens_232 hh hi ?_
          generalize va_up _ _ _ = h18 at w ⊢
          refine V_aloadr_n X dX12_opens_233 1 rfl ?_
          obtain ⟨fs, r19, hh, hv, w⟩ := w
          refine V_get X flX12_79 dX12_opens_234 hh hv ?_
          refine V_iload X dX12_opens_237 4 rfl ?_
          refine V_lload X dX12_opens_239 0 rfl ?_
          obtain ⟨a20, rfl, w⟩ := w
          obtain ⟨N9, g9, hh, hi, w⟩ := w
          refine V_last X dX12_opens_241 hh hi ?_
          generalize va_up _ _ _ = h21 at w ⊢
          refine V_aloadr_n X dX12_opens_242 1 rfl ?_
          obtain ⟨fs, r22, hh, hv, w⟩ := w
          refine V_get X flX12_76 dX12_opens_243 hh hv ?_
          refine V_iload X dX12_opens_246 4 rfl ?_
          refine V_iconst (y := 1) X dX12_opens_248 (by decide) ?_
          refine V_iadd X dX12_opens_249 ?_
          refine V_aloadr_n X dX12_opens_250 1 rfl ?_
          obtain ⟨fs, r23, hh, hv, w⟩ := w
          refine V_get X flX12_41 dX12_opens_251 hh hv ?_
          refine V_iload X dX12_opens_254 6 rfl ?_
          obtain ⟨a24, rfl, w⟩ := w
          obtain ⟨N9, g9, hh, hi, w⟩ := w
          refine V_iald X dX12_opens_256 hh hi ?_
          generalize g9 _ = x25 at w ⊢
          obtain ⟨a26, rfl, w⟩ := w
          obtain ⟨N9, g9, hh, hi, w⟩ := w
          refine V_iast X dX12_opens_257 hh hi ?_
          generalize va_up _ _ _ = h27 at w ⊢
          refine V_aloadr_n X dX12_opens_258 1 rfl ?_
          obtain ⟨fs, r28, hh, hv, w⟩ := w
          refine V_get X flX12_79 dX12_opens_259 hh hv ?_
          refine V_iload X dX12_opens_262 4 rfl ?_
          refine V_iconst (y := 1) X dX12_opens_264 (by decide) ?_
          refine V_iadd X dX12_opens_265 ?_
          refine V_lload_n X dX12_opens_266 3 rfl ?_
          refine V_lload X dX12_opens_267 0 rfl ?_
          refine V_lsub X dX12_opens_269 ?_
          obtain ⟨a29, rfl, w⟩ := w
          obtain ⟨N9, g9, hh, hi, w⟩ := w
          refine V_last X dX12_opens_270 hh hi ?_
          generalize va_up _ _ _ = h30 at w ⊢
          refine V_iload X dX12_opens_271 4 rfl ?_
          refine V_iconst (y := 2) X dX12_opens_273 (by decide) ?_
          refine V_iadd X dX12_opens_274 ?_
          exact V_iret X rfl dX12_opens_275 (Nat.le_of_ble_eq_true rfl) (Nat.le_of_ble_eq_true rfl) w
        · replace w := w2 z
          clear w1 w2
          exact V.sub [0, 2, 3, 5, 6] rfl (tX12_opens_b150 X  w)
  · replace w := w2 z
    clear w1 w2
    refine V_aloadr_n X dX12_opens_41 0 rfl ?_
    obtain ⟨fs, r31, hh, hv, w⟩ := w
    refine V_get X flX12_44 dX12_opens_42 hh hv ?_
    refine V_iload X dX12_opens_45 7 rfl ?_
    obtain ⟨a32, rfl, w⟩ := w
    obtain ⟨N9, g9, hh, hi, w⟩ := w
    refine V_iald X dX12_opens_47 hh hi ?_
    generalize g9 _ = x33 at w ⊢
    refine V_iload X dX12_opens_48 4 rfl ?_
    obtain ⟨w1, w2⟩ := w
    refine V_icmp_gt (tgt := 80) X dX12_opens_50 (by decide) (fun z => ?_) (fun z => ?_)
    · replace w := w1 z
      clear w1 w2
      exact V.sub [0, 1, 2, 3, 4, 5, 6, 7] rfl (tX12_opens_b80 X H26 w)
    · replace w := w2 z
      clear w1 w2
      refine V_iload X dX12_opens_53 5 rfl ?_
      obtain ⟨w1, w2⟩ := w
      refine V_if_lt (tgt := 75) X dX12_opens_55 (by decide) (fun z => ?_) (fun z => ?_)
      · replace w := w1 z
        clear w1 w2
        exact V.sub [0, 1, 2, 3, 4, 6, 7] rfl (tX12_opens_b75 X H26 w)
      · replace w := w2 z
        clear w1 w2
        refine V_aloadr_n X dX12_opens_58 0 rfl ?_
        obtain ⟨fs, r34, hh, hv, w⟩ := w
        refine V_get X flX12_44 dX12_opens_59 hh hv ?_
        refine V_iload X dX12_opens_62 7 rfl ?_
        obtain ⟨a35, rfl, w⟩ := w
        obtain ⟨N9, g9, hh, hi, w⟩ := w
        refine V_iald X dX12_opens_64 hh hi ?_
        generalize g9 _ = x36 at w ⊢
        refine V_aloadr_n X dX12_opens_65 0 rfl ?_
        obtain ⟨fs, r37, hh, hv, w⟩ := w
        refine V_get X flX12_44 dX12_opens_66 hh hv ?_
        refine V_iload X dX12_opens_69 5 rfl ?_
        obtain ⟨a38, rfl, w⟩ := w
        obtain ⟨N9, g9, hh, hi, w⟩ := w
        refine V_iald X dX12_opens_71 hh hi ?_
        generalize g9 _ = x39 at w ⊢
        obtain ⟨w1, w2⟩ := w
        refine V_icmp_le (tgt := 80) X dX12_opens_72 (by decide) (fun z => ?_) (fun z => ?_)
        · replace w := w1 z
          clear w1 w2
          exact V.sub [0, 1, 2, 3, 4, 5, 6, 7] rfl (tX12_opens_b80 X H26 w)
        · replace w := w2 z
          clear w1 w2
          exact V.sub [0, 1, 2, 3, 4, 6, 7] rfl (tX12_opens_b75 X H26 w)
def vX12_opens_b26  (Qn : Int32 → gH → Prop) (n : Nat) : gH → Nat → Int32 → Int64 → Int32 → Int32 → Int32 → Int32 → Int32 → Prop := Nat.rec (motive := fun _ => gH → Nat → Int32 → Int64 → Int32 → Int32 → Int32 → Int32 → Int32 → Prop) (fun _ _ _ _ _ _ _ _ _ => False) (fun _ k26 => vX12_opens_b26_o k26 Qn) n
theorem tX12_opens_b26 {p : Program} {l : Launch} {e : Env} {s : State} {m : MethodId} {args : Array Value} {below : List Frame} {meth : Method} {c : Code} {G : gG} {A : Nat → Prop} {Qn : Int32 → gH → Prop} (X : gC p l s m args meth c G A cX12_opens 10 (some FieldType.int) RX12)   : ∀ (n : Nat) (h : gH) (v0 : Nat) (v1 : Int32) (v2 : Int64) (v4 : Int32) (v5 : Int32) (v6 : Int32) (v7 : Int32) (v8 : Int32) (w : vX12_opens_b26  Qn n h v0 v1 v2 v4 v5 v6 v7 v8), V p l e rmX12_opens s m args below meth c (MQ below (va_Qi Qn (gB G A) A) args s rmX12_opens.cells rmX12_opens.slots A) G A 10 h 0 0 26 [(0, .ref v0), (1, .int v1), (2, .long v2), (4, .int v4), (5, .int v5), (6, .int v6), (7, .int v7), (8, .int v8)] [] := by
  intro n
  induction n with
  | zero => intro h v0 v1 v2 v4 v5 v6 v7 v8 w; exact False.elim w
  | succ n ih => intro h v0 v1 v2 v4 v5 v6 v7 v8 w; exact tX12_opens_b26_o X ih w
def vX12_opens  (Qn : Int32 → gH → Prop) (h : gH) (v0 : Nat) (v1 : Int32) (v2 : Int64) (v4 : Int32) : Prop := gr h v0 15 0 (fun r1 => gr h v0 15 10 (fun r2 => nn r2 (fun a3 => li h a3 v1 (fun x4 => nn r1 (fun a5 => li h a5 (0 + x4) (fun x6 => ∃ n : Nat, vX12_opens_b26  Qn n h v0 v1 v2 v4 x6 (-1) (-1) (5 * v1)))))))
set_option maxRecDepth 100000 in
set_option maxHeartbeats 4000000 in
theorem tX12_opens {p : Program} {l : Launch} {e : Env} {s : State} {m : MethodId} {args : Array Value} {below : List Frame} {meth : Method} {c : Code} {G : gG} {A : Nat → Prop} {Qn : Int32 → gH → Prop} (X : gC p l s m args meth c G A cX12_opens 10 (some FieldType.int) RX12)   {h : gH} {v0 : Nat} {v1 : Int32} {v2 : Int64} {v4 : Int32} (w : vX12_opens  Qn h v0 v1 v2 v4) : V p l e rmX12_opens s m args below meth c (MQ below (va_Qi Qn (gB G A) A) args s rmX12_opens.cells rmX12_opens.slots A) G A 10 h 0 0 0 [(0, .ref v0), (1, .int v1), (2, .long v2), (4, .int v4)] [] := by
  refine V_aloadr_n X dX12_opens_0 0 rfl ?_
  obtain ⟨fs, r1, hh, hv, w⟩ := w
  refine V_get X flX12_7 dX12_opens_1 hh hv ?_
  refine V_iconst (y := 0) X dX12_opens_4 (by decide) ?_
  refine V_aloadr_n X dX12_opens_5 0 rfl ?_
  obtain ⟨fs, r2, hh, hv, w⟩ := w
  refine V_get X flX12_35 dX12_opens_6 hh hv ?_
  refine V_iload_n X dX12_opens_9 1 rfl ?_
  obtain ⟨a3, rfl, w⟩ := w
  obtain ⟨N9, g9, hh, hi, w⟩ := w
  refine V_iald X dX12_opens_10 hh hi ?_
  generalize g9 _ = x4 at w ⊢
  refine V_iadd X dX12_opens_11 ?_
  obtain ⟨a5, rfl, w⟩ := w
  obtain ⟨N9, g9, hh, hi, w⟩ := w
  refine V_iald X dX12_opens_12 hh hi ?_
  generalize g9 _ = x6 at w ⊢
  refine V_istore X dX12_opens_13 (by decide) rfl ?_
  refine V_iconst (y := (-1)) X dX12_opens_15 (by decide) ?_
  refine V_istore X dX12_opens_16 (by decide) rfl ?_
  refine V_iconst (y := (-1)) X dX12_opens_18 (by decide) ?_
  refine V_istore X dX12_opens_19 (by decide) rfl ?_
  refine V_iconst (y := 5) X dX12_opens_21 (by decide) ?_
  refine V_iload_n X dX12_opens_22 4 rfl ?_
  refine V_imul X dX12_opens_23 ?_
  refine V_istore X dX12_opens_24 (by decide) rfl ?_
  obtain ⟨n9, w⟩ := w
  exact V.sub [4, 5, 6, 7, 3, 2, 1, 0] rfl (tX12_opens_b26 X  n9 _ _ _ _ _ _ _ _ _ w)
theorem cX12_opens_ok {l : Launch} {G : gG} {h : gH} (hls : l.stackTraces = false) {Qn : Int32 → gH → Prop} {v0 : Nat} {v1 : Int32} {v2 : Int64} {v4 : Int32} (w : vX12_opens Qn h v0 v1 v2 v4) : gMi l yX12_opens cX12_opens 10 (some FieldType.int) rmX12_opens rmX12_opens.cells rmX12_opens.slots G h [.ref v0, .int v1, .long v2, .int v4] Qn := by
  exact gMi.of (by decide +kernel) hls (Nat.le_of_ble_eq_true rfl) rfl rfl (fun p e s m below meth c A X hnm => tX12_opens X w)
/-! AnimationControllerModel.blends(IJ)V -/
abbrev rmX12_blends : Room := { frames := 1, cells := 0, slots := 0, locals := 29 }
def vX12_blends_b124 (k41 : gH → Nat → Int32 → Prop) (Qn : gH → Prop) (h : gH) (v0 : Nat) (v4 : Int32) : Prop := k41 h v0 v4
set_option maxRecDepth 100000 in
set_option maxHeartbeats 4000000 in
theorem tX12_blends_b124 {p : Program} {l : Launch} {e : Env} {s : State} {m : MethodId} {args : Array Value} {below : List Frame} {meth : Method} {c : Code} {G : gG} {A : Nat → Prop} {Qn : gH → Prop} (X : gC p l s m args meth c G A cX12_blends 8 none RX12) {k41 : gH → Nat → Int32 → Prop} (H41 : ∀ (h : gH) (v0 : Nat) (v4 : Int32), k41 h v0 v4 → V p l e rmX12_blends s m args below meth c (MQ below (va_Qv Qn (gB G A) A) args s rmX12_blends.cells rmX12_blends.slots A) G A 8 h 0 0 41 [(0, .ref v0), (4, .int v4)] []) {h : gH} {v0 : Nat} {v4 : Int32} (w : vX12_blends_b124 k41 Qn h v0 v4) : V p l e rmX12_blends s m args below meth c (MQ below (va_Qv Qn (gB G A) A) args s rmX12_blends.cells rmX12_blends.slots A) G A 8 h 0 0 124 [(0, .ref v0), (4, .int v4)] [] := by
  refine V_goto (tgt := 41) X dX12_blends_124 (by decide) ?_
  exact V.sub [0, 1] rfl (H41 _ _ _ w)
def vX12_blends_b105 (k41 : gH → Nat → Int32 → Prop) (Qn : gH → Prop) (h : gH) (v0 : Nat) (v4 : Int32) (v5 : Int32) (v6 : Int64) : Prop := (((v6 : Int64) ≤ 0) → (vX12_blends_b124 k41 Qn h v0 v4)) ∧ ((¬ (v6 : Int64) ≤ 0) → (io h v0 15 (vX12_opens (fun x2 h1 => vX12_blends_b124 k41 Qn h1 v0 x2) h v0 v5 v6 v4)))
set_option maxRecDepth 100000 in
set_option maxHeartbeats 4000000 in
theorem tX12_blends_b105 {p : Program} {l : Launch} {e : Env} {s : State} {m : MethodId} {args : Array Value} {below : List Frame} {meth : Method} {c : Code} {G : gG} {A : Nat → Prop} {Qn : gH → Prop} (X : gC p l s m args meth c G A cX12_blends 8 none RX12) {k41 : gH → Nat → Int32 → Prop} (H41 : ∀ (h : gH) (v0 : Nat) (v4 : Int32), k41 h v0 v4 → V p l e rmX12_blends s m args below meth c (MQ below (va_Qv Qn (gB G A) A) args s rmX12_blends.cells rmX12_blends.slots A) G A 8 h 0 0 41 [(0, .ref v0), (4, .int v4)] []) {h : gH} {v0 : Nat} {v4 : Int32} {v5 : Int32} {v6 : Int64} (w : vX12_blends_b105 k41 Qn h v0 v4 v5 v6) : V p l e rmX12_blends s m args below meth c (MQ below (va_Qv Qn (gB G A) A) args s rmX12_blends.cells rmX12_blends.slots A) G A 8 h 0 0 105 [(0, .ref v0), (4, .int v4), (5, .int v5), (6, .long v6)] [] := by
  refine V_lload X dX12_blends_105 3 rfl ?_
  refine V_lconst (y := 0) X dX12_blends_107 (by decide) ?_
  refine V_lcmp X dX12_blends_108 ?_
  obtain ⟨w1, w2⟩ := w
  refine V_if_le (tgt := 124) X dX12_blends_109 (by decide) (fun z => ?_) (fun z => ?_)
  · replace w := w1 ((lg_cmp_le _ _).mp z)
    clear w1 w2
    exact V.sub [0, 1] rfl (tX12_blends_b124 X H41 w)
  · replace w := w2 (fun z9 => z ((lg_cmp_le _ _).mpr z9))
    clear w1 w2
    refine V_aloadr_n X dX12_blends_112 0 rfl ?_
    refine V_iload X dX12_blends_113 2 rfl ?_
    refine V_lload X dX12_blends_115 3 rfl ?_
    refine V_iload X dX12_blends_117 1 rfl ?_
    obtain ⟨fs, hh, w⟩ := w
    refine V_callVi (As := [.int v5, .long v6, .int v4]) (rest := []) (k1 := 0) (n1 := 0) X (cX12_opens_ok X.2.2.2.2.2.2.2.2.1 w) lkX12_141 hh (q9 := (RX12, TX12, 42)) rfl rfl dX12_blends_119 ⟨Nat.le_of_ble_eq_true rfl, Nat.le_of_ble_eq_true rfl⟩ rfl (Nat.le_of_ble_eq_true rfl) ⟨Nat.le_of_ble_eq_true rfl, Nat.le_of_ble_eq_true rfl⟩ (Nat.le_of_ble_eq_true rfl) (Nat.le_of_ble_eq_true rfl) (fun x2 h1 w9 => ?_)
    replace w := w9
    clear w9
    refine V_istore X dX12_blends_122 (by decide) rfl ?_
    exact V.sub [1, 0] rfl (tX12_blends_b124 X H41 w)
def vX12_blends_b41_o (k41 : gH → Nat → Int32 → Prop) (Qn : gH → Prop) (h : gH) (v0 : Nat) (v4 : Int32) : Prop := (((v4 : Int32) ≤ 0) → (Qn h)) ∧ ((¬ (v4 : Int32) ≤ 0) → (gr h v0 15 28 (fun r1 => nn r1 (fun a2 => li h a2 (v4 + (-1)) (fun x3 => gr h v0 15 29 (fun r4 => nn r4 (fun a5 => ll h a5 (v4 + (-1)) (fun x6 => (((x6 : Int64) ≤ 0) → (vX12_blends_b105 k41 Qn h v0 (v4 + (-1)) x3 x6)) ∧ ((¬ (x6 : Int64) ≤ 0) → (gr h v0 15 9 (fun r7 => nn r7 (fun a8 => li h a8 x3 (fun x9 => (((x9 : Int32) = (-1)) → (vX12_blends_b105 k41 Qn h v0 (v4 + (-1)) x3 x6)) ∧ ((¬ (x9 : Int32) = (-1)) → (gr h v0 15 27 (fun r10 => gr h v0 15 9 (fun r11 => nn r11 (fun a12 => li h a12 x3 (fun x13 => nn r10 (fun a14 => ll h a14 x13 (fun x15 => sl h a14 x13 (x15 + x6) (fun h16 => vX12_blends_b124 k41 Qn h16 v0 (v4 + (-1))))))))))))))))))))))))
set_option maxRecDepth 100000 in
set_option maxHeartbeats 4000000 in
theorem tX12_blends_b41_o {p : Program} {l : Launch} {e : Env} {s : State} {m : MethodId} {args : Array Value} {below : List Frame} {meth : Method} {c : Code} {G : gG} {A : Nat → Prop} {Qn : gH → Prop} (X : gC p l s m args meth c G A cX12_blends 8 none RX12) {k41 : gH → Nat → Int32 → Prop} (H41 : ∀ (h : gH) (v0 : Nat) (v4 : Int32), k41 h v0 v4 → V p l e rmX12_blends s m args below meth c (MQ below (va_Qv Qn (gB G A) A) args s rmX12_blends.cells rmX12_blends.slots A) G A 8 h 0 0 41 [(0, .ref v0), (4, .int v4)] []) {h : gH} {v0 : Nat} {v4 : Int32} (w : vX12_blends_b41_o k41 Qn h v0 v4) : V p l e rmX12_blends s m args below meth c (MQ below (va_Qv Qn (gB G A) A) args s rmX12_blends.cells rmX12_blends.slots A) G A 8 h 0 0 41 [(0, .ref v0), (4, .int v4)] [] := by
  refine V_iload X dX12_blends_41 1 rfl ?_
  obtain ⟨w1, w2⟩ := w
  refine V_if_le (tgt := 127) X dX12_blends_43 (by decide) (fun z => ?_) (fun z => ?_)
  · replace w := w1 z
    clear w1 w2
    exact V_vret X rfl dX12_blends_127 (Nat.le_of_ble_eq_true rfl) (Nat.le_of_ble_eq_true rfl) w
  · replace w := w2 z
    clear w1 w2
    refine V_iinc (y := (v4 + (-1))) X dX12_blends_46 1 rfl (by first | rfl | (congr 1)) (by decide) rfl ?_
    refine V_aloadr_n X dX12_blends_49 1 rfl ?_
    obtain ⟨fs, r1, hh, hv, w⟩ := w
    refine V_get X flX12_76 dX12_blends_50 hh hv ?_
    refine V_iload X dX12_blends_53 0 rfl ?_
    obtain ⟨a2, rfl, w⟩ := w
    obtain ⟨N9, g9, hh, hi, w⟩ := w
    refine V_iald X dX12_blends_55 hh hi ?_
    generalize g9 _ = x3 at w ⊢
    refine V_istore X dX12_blends_56 (by decide) rfl ?_
    refine V_aloadr_n X dX12_blends_58 2 rfl ?_
    obtain ⟨fs, r4, hh, hv, w⟩ := w
    refine V_get X flX12_79 dX12_blends_59 hh hv ?_
    refine V_iload X dX12_blends_62 1 rfl ?_
    obtain ⟨a5, rfl, w⟩ := w
    obtain ⟨N9, g9, hh, hi, w⟩ := w
    refine V_lald X dX12_blends_64 hh hi ?_
    generalize g9 _ = x6 at w ⊢
    refine V_lstore X dX12_blends_65 (by decide) rfl ?_
    refine V_lload X dX12_blends_67 0 rfl ?_
    refine V_lconst (y := 0) X dX12_blends_69 (by decide) ?_
    refine V_lcmp X dX12_blends_70 ?_
    obtain ⟨w1, w2⟩ := w
    refine V_if_le (tgt := 105) X dX12_blends_71 (by decide) (fun z => ?_) (fun z => ?_)
    · replace w := w1 ((lg_cmp_le _ _).mp z)
      clear w1 w2
      exact V.sub [3, 2, 1, 0] rfl (tX12_blends_b105 X H41 w)
    · replace w := w2 (fun z9 => z ((lg_cmp_le _ _).mpr z9))
      clear w1 w2
      refine V_aloadr_n X dX12_blends_74 3 rfl ?_
      obtain ⟨fs, r7, hh, hv, w⟩ := w
      refine V_get X flX12_32 dX12_blends_75 hh hv ?_
      refine V_iload X dX12_blends_78 1 rfl ?_
      obtain ⟨a8, rfl, w⟩ := w
      obtain ⟨N9, g9, hh, hi, w⟩ := w
      refine V_iald X dX12_blends_80 hh hi ?_
      generalize g9 _ = x9 at w ⊢
      refine V_iconst (y := (-1)) X dX12_blends_81 (by decide) ?_
      obtain ⟨w1, w2⟩ := w
      refine V_icmp_eq (tgt := 105) X dX12_blends_82 (by decide) (fun z => ?_) (fun z => ?_)
      · replace w := w1 z
        clear w1 w2
        exact V.sub [3, 2, 1, 0] rfl (tX12_blends_b105 X H41 w)
      · replace w := w2 z
        clear w1 w2
        refine V_aloadr_n X dX12_blends_85 3 rfl ?_
        obtain ⟨fs, r10, hh, hv, w⟩ := w
        refine V_get X flX12_72 dX12_blends_86 hh hv ?_
        refine V_aloadr_n X dX12_blends_89 3 rfl ?_
        obtain ⟨fs, r11, hh, hv, w⟩ := w
        refine V_get X flX12_32 dX12_blends_90 hh hv ?_
        refine V_iload X dX12_blends_93 1 rfl ?_
        obtain ⟨a12, rfl, w⟩ := w
        obtain ⟨N9, g9, hh, hi, w⟩ := w
        refine V_iald X dX12_blends_95 hh hi ?_
        generalize g9 _ = x13 at w ⊢
        refine V_dup2 X dX12_blends_96 rfl (va_cat1 _) ?_
        obtain ⟨a14, rfl, w⟩ := w
        obtain ⟨N9, g9, hh, hi, w⟩ := w
        refine V_lald X dX12_blends_97 hh hi ?_
        generalize g9 _ = x15 at w ⊢
        refine V_lload X dX12_blends_98 0 rfl ?_
        refine V_ladd X dX12_blends_100 ?_
        obtain ⟨N9, g9, hh, hi, w⟩ := w
        refine V_last X dX12_blends_101 hh hi ?_
        generalize va_up _ _ _ = h16 at w ⊢
        refine V_goto (tgt := 124) X dX12_blends_102 (by decide) ?_
        exact V.sub [3, 2] rfl (tX12_blends_b124 X H41 w)
def vX12_blends_b41  (Qn : gH → Prop) (n : Nat) : gH → Nat → Int32 → Prop := Nat.rec (motive := fun _ => gH → Nat → Int32 → Prop) (fun _ _ _ => False) (fun _ k41 => vX12_blends_b41_o k41 Qn) n
theorem tX12_blends_b41 {p : Program} {l : Launch} {e : Env} {s : State} {m : MethodId} {args : Array Value} {below : List Frame} {meth : Method} {c : Code} {G : gG} {A : Nat → Prop} {Qn : gH → Prop} (X : gC p l s m args meth c G A cX12_blends 8 none RX12)   : ∀ (n : Nat) (h : gH) (v0 : Nat) (v4 : Int32) (w : vX12_blends_b41  Qn n h v0 v4), V p l e rmX12_blends s m args below meth c (MQ below (va_Qv Qn (gB G A) A) args s rmX12_blends.cells rmX12_blends.slots A) G A 8 h 0 0 41 [(0, .ref v0), (4, .int v4)] [] := by
  intro n
  induction n with
  | zero => intro h v0 v4 w; exact False.elim w
  | succ n ih => intro h v0 v4 w; exact tX12_blends_b41_o X ih w
def vX12_blends_b3_o (k3 : gH → Nat → Int32 → Int64 → Int32 → Prop) (Qn : gH → Prop) (h : gH) (v0 : Nat) (v1 : Int32) (v2 : Int64) (v4 : Int32) : Prop := ((12 ≤ (v4 : Int32)) → (gr h v0 15 28 (fun r1 => nn r1 (fun a2 => si h a2 0 v1 (fun h3 => gr h3 v0 15 29 (fun r4 => nn r4 (fun a5 => sl h3 a5 0 v2 (fun h6 => ∃ n : Nat, vX12_blends_b41  Qn n h6 v0 1)))))))) ∧ ((¬ 12 ≤ (v4 : Int32)) → (gr h v0 15 27 (fun r7 => nn r7 (fun a8 => sl h a8 v4 0 (fun h9 => k3 h9 v0 v1 v2 (v4 + 1))))))
set_option maxRecDepth 100000 in
set_option maxHeartbeats 4000000 in
theorem tX12_blends_b3_o {p : Program} {l : Launch} {e : Env} {s : State} {m : MethodId} {args : Array Value} {below : List Frame} {meth : Method} {c : Code} {G : gG} {A : Nat → Prop} {Qn : gH → Prop} (X : gC p l s m args meth c G A cX12_blends 8 none RX12) {k3 : gH → Nat → Int32 → Int64 → Int32 → Prop} (H3 : ∀ (h : gH) (v0 : Nat) (v1 : Int32) (v2 : Int64) (v4 : Int32), k3 h v0 v1 v2 v4 → V p l e rmX12_blends s m args below meth c (MQ below (va_Qv Qn (gB G A) A) args s rmX12_blends.cells rmX12_blends.slots A) G A 8 h 0 0 3 [(0, .ref v0), (1, .int v1), (2, .long v2), (4, .int v4)] []) {h : gH} {v0 : Nat} {v1 : Int32} {v2 : Int64} {v4 : Int32} (w : vX12_blends_b3_o k3 Qn h v0 v1 v2 v4) : V p l e rmX12_blends s m args below meth c (MQ below (va_Qv Qn (gB G A) A) args s rmX12_blends.cells rmX12_blends.slots A) G A 8 h 0 0 3 [(0, .ref v0), (1, .int v1), (2, .long v2), (4, .int v4)] [] := by
  refine V_iload X dX12_blends_3 3 rfl ?_
  refine V_bipush (y := 12) X dX12_blends_5 (by decide) ?_
  obtain ⟨w1, w2⟩ := w
  refine V_icmp_ge (tgt := 24) X dX12_blends_7 (by decide) (fun z => ?_) (fun z => ?_)
  · replace w := w1 z
    clear w1 w2
    refine V_iconst (y := 1) X dX12_blends_24 (by decide) ?_
    refine V_istore X dX12_blends_25 (by decide) rfl ?_
    refine V_aloadr_n X dX12_blends_27 1 rfl ?_
    obtain ⟨fs, r1, hh, hv, w⟩ := w
    refine V_get X flX12_76 dX12_blends_28 hh hv ?_
    refine V_iconst (y := 0) X dX12_blends_31 (by decide) ?_
    refine V_iload_n X dX12_blends_32 2 rfl ?_
    obtain ⟨a2, rfl, w⟩ := w
    obtain ⟨N9, g9, hh, hi, w⟩ := w
    refine V_iast X dX12_blends_33 hh hi ?_
    generalize va_up _ _ _ = h3 at w ⊢
    refine V_aloadr_n X dX12_blends_34 1 rfl ?_
    obtain ⟨fs, r4, hh, hv, w⟩ := w
    refine V_get X flX12_79 dX12_blends_35 hh hv ?_
    refine V_iconst (y := 0) X dX12_blends_38 (by decide) ?_
    refine V_lload_n X dX12_blends_39 3 rfl ?_
    obtain ⟨a5, rfl, w⟩ := w
    obtain ⟨N9, g9, hh, hi, w⟩ := w
    refine V_last X dX12_blends_40 hh hi ?_
    generalize va_up _ _ _ = h6 at w ⊢
    obtain ⟨n9, w⟩ := w
    exact V.sub [1, 0] rfl (tX12_blends_b41 X  n9 _ _ _ w)
  · replace w := w2 z
    clear w1 w2
    refine V_aloadr_n X dX12_blends_10 0 rfl ?_
    obtain ⟨fs, r7, hh, hv, w⟩ := w
    refine V_get X flX12_72 dX12_blends_11 hh hv ?_
    refine V_iload X dX12_blends_14 3 rfl ?_
    refine V_lconst (y := 0) X dX12_blends_16 (by decide) ?_
    obtain ⟨a8, rfl, w⟩ := w
    obtain ⟨N9, g9, hh, hi, w⟩ := w
    refine V_last X dX12_blends_17 hh hi ?_
    generalize va_up _ _ _ = h9 at w ⊢
    refine V_iinc (y := (v4 + 1)) X dX12_blends_18 3 rfl (by first | rfl | (congr 1)) (by decide) rfl ?_
    refine V_goto (tgt := 3) X dX12_blends_21 (by decide) ?_
    exact V.sub [1, 2, 3, 0] rfl (H3 _ _ _ _ _ w)
def vX12_blends_b3  (Qn : gH → Prop) (n : Nat) : gH → Nat → Int32 → Int64 → Int32 → Prop := Nat.rec (motive := fun _ => gH → Nat → Int32 → Int64 → Int32 → Prop) (fun _ _ _ _ _ => False) (fun _ k3 => vX12_blends_b3_o k3 Qn) n
theorem tX12_blends_b3 {p : Program} {l : Launch} {e : Env} {s : State} {m : MethodId} {args : Array Value} {below : List Frame} {meth : Method} {c : Code} {G : gG} {A : Nat → Prop} {Qn : gH → Prop} (X : gC p l s m args meth c G A cX12_blends 8 none RX12)   : ∀ (n : Nat) (h : gH) (v0 : Nat) (v1 : Int32) (v2 : Int64) (v4 : Int32) (w : vX12_blends_b3  Qn n h v0 v1 v2 v4), V p l e rmX12_blends s m args below meth c (MQ below (va_Qv Qn (gB G A) A) args s rmX12_blends.cells rmX12_blends.slots A) G A 8 h 0 0 3 [(0, .ref v0), (1, .int v1), (2, .long v2), (4, .int v4)] [] := by
  intro n
  induction n with
  | zero => intro h v0 v1 v2 v4 w; exact False.elim w
  | succ n ih => intro h v0 v1 v2 v4 w; exact tX12_blends_b3_o X ih w
def vX12_blends  (Qn : gH → Prop) (h : gH) (v0 : Nat) (v1 : Int32) (v2 : Int64) : Prop := ∃ n : Nat, vX12_blends_b3  Qn n h v0 v1 v2 0
set_option maxRecDepth 100000 in
set_option maxHeartbeats 4000000 in
theorem tX12_blends {p : Program} {l : Launch} {e : Env} {s : State} {m : MethodId} {args : Array Value} {below : List Frame} {meth : Method} {c : Code} {G : gG} {A : Nat → Prop} {Qn : gH → Prop} (X : gC p l s m args meth c G A cX12_blends 8 none RX12)   {h : gH} {v0 : Nat} {v1 : Int32} {v2 : Int64} (w : vX12_blends  Qn h v0 v1 v2) : V p l e rmX12_blends s m args below meth c (MQ below (va_Qv Qn (gB G A) A) args s rmX12_blends.cells rmX12_blends.slots A) G A 8 h 0 0 0 [(0, .ref v0), (1, .int v1), (2, .long v2)] [] := by
  refine V_iconst (y := 0) X dX12_blends_0 (by decide) ?_
  refine V_istore X dX12_blends_1 (by decide) rfl ?_
  obtain ⟨n9, w⟩ := w
  exact V.sub [1, 2, 3, 0] rfl (tX12_blends_b3 X  n9 _ _ _ _ _ w)
theorem cX12_blends_ok {l : Launch} {G : gG} {h : gH} (hls : l.stackTraces = false) {Qn : gH → Prop} {v0 : Nat} {v1 : Int32} {v2 : Int64} (w : vX12_blends Qn h v0 v1 v2) : gMv l yX12_blends cX12_blends 8 none rmX12_blends rmX12_blends.cells rmX12_blends.slots G h [.ref v0, .int v1, .long v2] Qn := by
  exact gMv.of (by decide +kernel) hls (Nat.le_of_ble_eq_true rfl) rfl rfl (fun p e s m below meth c A X hnm => tX12_blends X w)
