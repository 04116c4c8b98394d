/-! ===== the constructors, row by row ===== -/
section HLC
variable {h : gH} {qs : List Nat} {t0 : Nat}
def Rl0 : List (Nat × Nat) := [(8, 0)]
def Cl0 : List (Nat × Nat × Nat × Int) := []
def Pl0 : List (Nat × Nat × Nat × Option (Nat × Nat)) := []
def Rl1 : List (Nat × Nat) := (0, 0) :: Rl0
def Cl1 : List (Nat × Nat × Nat × Int) := Cl0
def Pl1 : List (Nat × Nat × Nat × Option (Nat × Nat)) := Pl0
def Rl2 : List (Nat × Nat) := (4, 0) :: Rl1
def Cl2 : List (Nat × Nat × Nat × Int) := Cl1
def Pl2 : List (Nat × Nat × Nat × Option (Nat × Nat)) := Pl1
def Rl3 : List (Nat × Nat) := (13, 0) :: (6, 4) :: (11, 0) :: (10, 0) :: (9, 0) :: (12, 0) :: (14, 0) :: (6, 3) :: (6, 2) :: (6, 1) :: (6, 0) :: (5, 0) :: Rl2
def Cl3 : List (Nat × Nat × Nat × Int) := (14, 0, 4, 0) :: (14, 0, 3, 1) :: (14, 0, 2, 100) :: (14, 0, 0, (-1)) :: (12, 0, 1, (-1)) :: (12, 0, 4, 1) :: (6, 4, 0, 0) :: (9, 0, 1, 1) :: (9, 0, 0, (-1)) :: (4, 0, 6, 1) :: (6, 3, 0, 0) :: (6, 2, 0, 0) :: (6, 1, 0, 0) :: (6, 0, 0, 0) :: Cl2
def Pl3 : List (Nat × Nat × Nat × Option (Nat × Nat)) := (4, 0, 7, some (14, 0)) :: (14, 0, 1, some (12, 0)) :: (12, 0, 0, some (9, 0)) :: (12, 0, 3, some (13, 0)) :: (12, 0, 2, some (6, 4)) :: (6, 4, 1, some (8, 0)) :: (9, 0, 3, some (11, 0)) :: (9, 0, 2, some (10, 0)) :: (4, 0, 5, some (6, 3)) :: (6, 3, 1, some (8, 0)) :: (4, 0, 4, some (6, 2)) :: (6, 2, 1, some (8, 0)) :: (4, 0, 3, some (6, 1)) :: (6, 1, 1, some (8, 0)) :: (4, 0, 2, some (6, 0)) :: (6, 0, 1, some (8, 0)) :: (4, 0, 0, some (5, 0)) :: Pl2
theorem i_model {Qn : gH → Prop} {v0 : Nat} (R : HL h Rl2 qs Cl2 Pl2) (ht : Aof Rl2 qs 8 0 = t0) (hv : Aof Rl2 qs 4 0 = v0) (k0 : ∀ (q1 q3 q7 q11 q15 q20 q21 q22 q23 q25 q29 q33 : Nat) (h' : gH), HL h' Rl3 (q33 :: q29 :: q25 :: q23 :: q22 :: q21 :: q20 :: q15 :: q11 :: q7 :: q3 :: q1 :: qs) Cl3 Pl3 → Qn h') : vX4_init t0 Qn h v0 := by
  subst hv
  try (unfold vX4_init)
  refine i_nw 5 0 R rfl rfl rfl (fun _ => cell_e0 rfl rfl rfl) (fun q1 h1 R1 => ?_)
  refine i_pvR 4 0 0 5 0 R1 rfl rfl rfl rfl rfl rfl (fun h2 R2 => ?_)
  refine i_nw 6 0 R2 rfl rfl rfl (fun _ => cell_o (ks := (dO 6).get!.2) rfl rfl (by decide)) (fun q3 h3 R3 => ?_)
  try (unfold vJx4a65c_init_da8c8)
  try (unfold vJxc12de_init_da8c8)
  try (unfold vJxa1e45_init_da8c8)
  refine i_pvI 6 0 0 (0) R3 rfl rfl rfl rfl (by decide) (fun h4 R4 => ?_)
  refine i_pvR 6 0 1 8 0 R4 rfl rfl rfl rfl rfl ht (fun h5 R5 => ?_)
  refine i_pvR 4 0 2 6 0 R5 rfl rfl rfl rfl rfl rfl (fun h6 R6 => ?_)
  refine i_nw 6 1 R6 rfl rfl rfl (fun _ => cell_o (ks := (dO 6).get!.2) rfl rfl (by decide)) (fun q7 h7 R7 => ?_)
  try (unfold vJx4a65c_init_da8c8)
  try (unfold vJxc12de_init_da8c8)
  try (unfold vJxa1e45_init_da8c8)
  refine i_pvI 6 1 0 (0) R7 rfl rfl rfl rfl (by decide) (fun h8 R8 => ?_)
  refine i_pvR 6 1 1 8 0 R8 rfl rfl rfl rfl rfl ht (fun h9 R9 => ?_)
  refine i_pvR 4 0 3 6 1 R9 rfl rfl rfl rfl rfl rfl (fun h10 R10 => ?_)
  refine i_nw 6 2 R10 rfl rfl rfl (fun _ => cell_o (ks := (dO 6).get!.2) rfl rfl (by decide)) (fun q11 h11 R11 => ?_)
  try (unfold vJx4a65c_init_da8c8)
  try (unfold vJxc12de_init_da8c8)
  try (unfold vJxa1e45_init_da8c8)
  refine i_pvI 6 2 0 (0) R11 rfl rfl rfl rfl (by decide) (fun h12 R12 => ?_)
  refine i_pvR 6 2 1 8 0 R12 rfl rfl rfl rfl rfl ht (fun h13 R13 => ?_)
  refine i_pvR 4 0 4 6 2 R13 rfl rfl rfl rfl rfl rfl (fun h14 R14 => ?_)
  refine i_nw 6 3 R14 rfl rfl rfl (fun _ => cell_o (ks := (dO 6).get!.2) rfl rfl (by decide)) (fun q15 h15 R15 => ?_)
  try (unfold vJx4a65c_init_da8c8)
  try (unfold vJxc12de_init_da8c8)
  try (unfold vJxa1e45_init_da8c8)
  refine i_pvI 6 3 0 (0) R15 rfl rfl rfl rfl (by decide) (fun h16 R16 => ?_)
  refine i_pvR 6 3 1 8 0 R16 rfl rfl rfl rfl rfl ht (fun h17 R17 => ?_)
  refine i_pvR 4 0 5 6 3 R17 rfl rfl rfl rfl rfl rfl (fun h18 R18 => ?_)
  refine i_pvI 4 0 6 (1) R18 rfl rfl rfl rfl (by decide) (fun h19 R19 => ?_)
  refine i_nw 14 0 R19 rfl rfl rfl (fun _ => cell_o (ks := (dO 14).get!.2) rfl rfl (by decide)) (fun q20 h20 R20 => ?_)
  refine i_nw 12 0 R20 rfl rfl rfl (fun _ => cell_o (ks := (dO 12).get!.2) rfl rfl (by decide)) (fun q21 h21 R21 => ?_)
  refine i_nw 9 0 R21 rfl rfl rfl (fun _ => cell_o (ks := (dO 9).get!.2) rfl rfl (by decide)) (fun q22 h22 R22 => ?_)
  try (unfold vX1_init)
  refine i_nw 10 0 R22 rfl rfl rfl (fun _ => cell_e0 rfl rfl rfl) (fun q23 h23 R23 => ?_)
  refine i_pvR 9 0 2 10 0 R23 rfl rfl rfl rfl rfl rfl (fun h24 R24 => ?_)
  refine i_nw 11 0 R24 rfl rfl rfl (fun _ => cell_e0 rfl rfl rfl) (fun q25 h25 R25 => ?_)
  refine i_pvR 9 0 3 11 0 R25 rfl rfl rfl rfl rfl rfl (fun h26 R26 => ?_)
  refine i_pvI 9 0 0 (-1) R26 rfl rfl rfl rfl (by decide) (fun h27 R27 => ?_)
  refine i_pvI 9 0 1 (1) R27 rfl rfl rfl rfl (by decide) (fun h28 R28 => ?_)
  try (unfold vX5_init)
  refine i_nw 6 4 R28 rfl rfl rfl (fun _ => cell_o (ks := (dO 6).get!.2) rfl rfl (by decide)) (fun q29 h29 R29 => ?_)
  try (unfold vJx4a65c_init_da8c8)
  try (unfold vJxc12de_init_da8c8)
  try (unfold vJxa1e45_init_da8c8)
  refine i_pvI 6 4 0 (0) R29 rfl rfl rfl rfl (by decide) (fun h30 R30 => ?_)
  refine i_pvR 6 4 1 8 0 R30 rfl rfl rfl rfl rfl ht (fun h31 R31 => ?_)
  refine i_pvR 12 0 2 6 4 R31 rfl rfl rfl rfl rfl rfl (fun h32 R32 => ?_)
  refine i_nw 13 0 R32 rfl rfl rfl (fun _ => cell_e0 rfl rfl rfl) (fun q33 h33 R33 => ?_)
  refine i_pvR 12 0 3 13 0 R33 rfl rfl rfl rfl rfl rfl (fun h34 R34 => ?_)
  refine i_pvI 12 0 4 (1) R34 rfl rfl rfl rfl (by decide) (fun h35 R35 => ?_)
  refine i_pvR 12 0 0 9 0 R35 rfl rfl rfl rfl rfl rfl (fun h36 R36 => ?_)
  refine i_pvI 12 0 1 (-1) R36 rfl rfl rfl rfl (by decide) (fun h37 R37 => ?_)
  try (unfold vX7_init)
  refine i_pvI 14 0 0 (-1) R37 rfl rfl rfl rfl (by decide) (fun h38 R38 => ?_)
  refine i_pvR 14 0 1 12 0 R38 rfl rfl rfl rfl rfl rfl (fun h39 R39 => ?_)
  refine i_pvI 14 0 2 (100) R39 rfl rfl rfl rfl (by decide) (fun h40 R40 => ?_)
  refine ⟨gZ_of (by decide), ?_⟩
  refine i_pvI 14 0 3 (1) R40 rfl rfl rfl rfl (by decide) (fun h41 R41 => ?_)
  refine i_pvI 14 0 4 (0) R41 rfl rfl rfl rfl (by decide) (fun h42 R42 => ?_)
  refine i_pvR 4 0 7 14 0 R42 rfl rfl rfl rfl rfl rfl (fun h43 R43 => ?_)
  exact k0 q1 q3 q7 q11 q15 q20 q21 q22 q23 q25 q29 q33 _ R43
def Rl4 : List (Nat × Nat) := (19, 0) :: Rl3
def Cl4 : List (Nat × Nat × Nat × Int) := Cl3
def Pl4 : List (Nat × Nat × Nat × Option (Nat × Nat)) := (0, 0, 0, some (4, 0)) :: Pl3
def Rl5 : List (Nat × Nat) := (18, 0) :: (17, 0) :: (16, 0) :: (15, 0) :: (20, 0) :: Rl4
def Cl5 : List (Nat × Nat × Nat × Int) := (15, 0, 0, (-1)) :: (15, 0, 4, (-1)) :: Cl4
def Pl5 : List (Nat × Nat × Nat × Option (Nat × Nat)) := (19, 0, 4, some (15, 0)) :: (15, 0, 2, some (14, 0)) :: (15, 0, 10, some (18, 0)) :: (15, 0, 9, some (17, 0)) :: (15, 0, 8, some (16, 0)) :: (19, 0, 0, some (4, 0)) :: (19, 0, 1, some (20, 0)) :: Pl4
theorem i_text {Qn : gH → Prop} {v0 : Nat} (R : HL h Rl4 qs Cl4 Pl4) (ht : Aof Rl4 qs 8 0 = t0) (hv : Aof Rl4 qs 19 0 = v0) (k0 : ∀ (q1 q4 q6 q8 q10 : Nat) (h' : gH), HL h' Rl5 (q10 :: q8 :: q6 :: q4 :: q1 :: qs) Cl5 Pl5 → Qn h') : vX10_init t0 Qn h v0 (some (Aof Rl4 qs 4 0)) := by
  subst hv
  try (unfold vX10_init)
  refine i_nw 20 0 R rfl rfl rfl (fun _ => cell_e0 rfl rfl rfl) (fun q1 h1 R1 => ?_)
  refine i_pvR 19 0 1 20 0 R1 rfl rfl rfl rfl rfl rfl (fun h2 R2 => ?_)
  refine i_pvR 19 0 0 4 0 R2 rfl rfl rfl rfl rfl rfl (fun h3 R3 => ?_)
  refine i_nw 15 0 R3 rfl rfl rfl (fun _ => cell_o (ks := (dO 15).get!.2) rfl rfl (by decide)) (fun q4 h4 R4 => ?_)
  refine nn_i ?_
  refine i_gr 4 0 7 14 0 R4 rfl rfl rfl rfl rfl ?_
  try (unfold vX9_init)
  refine i_pvI 15 0 4 (-1) R4 rfl rfl rfl rfl (by decide) (fun h5 R5 => ?_)
  refine i_nw 16 0 R5 rfl rfl rfl (fun _ => cell_e0 rfl rfl rfl) (fun q6 h6 R6 => ?_)
  refine i_pvR 15 0 8 16 0 R6 rfl rfl rfl rfl rfl rfl (fun h7 R7 => ?_)
  refine i_nw 17 0 R7 rfl rfl rfl (fun _ => cell_e0 rfl rfl rfl) (fun q8 h8 R8 => ?_)
  refine i_pvR 15 0 9 17 0 R8 rfl rfl rfl rfl rfl rfl (fun h9 R9 => ?_)
  refine i_nw 18 0 R9 rfl rfl rfl (fun _ => cell_e0 rfl rfl rfl) (fun q10 h10 R10 => ?_)
  refine i_pvR 15 0 10 18 0 R10 rfl rfl rfl rfl rfl rfl (fun h11 R11 => ?_)
  refine i_pvI 15 0 0 (-1) R11 rfl rfl rfl rfl (by decide) (fun h12 R12 => ?_)
  refine i_pvR 15 0 2 14 0 R12 rfl rfl rfl rfl rfl rfl (fun h13 R13 => ?_)
  refine i_pvR 19 0 4 15 0 R13 rfl rfl rfl rfl rfl rfl (fun h14 R14 => ?_)
  exact k0 q1 q4 q6 q8 q10 _ R14
def Rl6 : List (Nat × Nat) := (21, 0) :: Rl5
def Cl6 : List (Nat × Nat × Nat × Int) := Cl5
def Pl6 : List (Nat × Nat × Nat × Option (Nat × Nat)) := (0, 0, 1, some (19, 0)) :: Pl5
def Rl7 : List (Nat × Nat) := (24, 0) :: (23, 0) :: (32, 0) :: (31, 0) :: (30, 0) :: (29, 0) :: (37, 0) :: (36, 0) :: (34, 0) :: (35, 3) :: (35, 2) :: (35, 1) :: (35, 0) :: (33, 0) :: (28, 0) :: (27, 0) :: (26, 0) :: (25, 0) :: (22, 0) :: Rl6
def Cl7 : List (Nat × Nat × Nat × Int) := (24, 0, 5, 1) :: (24, 0, 3, 1) :: (23, 0, 5, 1) :: (23, 0, 3, 1) :: Cl6
def Pl7 : List (Nat × Nat × Nat × Option (Nat × Nat)) := (21, 0, 3, some (24, 0)) :: (24, 0, 0, some (14, 0)) :: (21, 0, 2, some (23, 0)) :: (23, 0, 0, some (14, 0)) :: (21, 0, 0, some (4, 0)) :: (21, 0, 12, some (29, 0)) :: (29, 0, 2, some (32, 0)) :: (29, 0, 1, some (31, 0)) :: (29, 0, 0, some (30, 0)) :: (21, 0, 11, some (36, 0)) :: (36, 0, 0, some (37, 0)) :: (21, 0, 10, some (33, 0)) :: (33, 0, 0, some (34, 0)) :: (34, 0, 3, some (35, 3)) :: (34, 0, 2, some (35, 2)) :: (34, 0, 1, some (35, 1)) :: (34, 0, 0, some (35, 0)) :: (21, 0, 7, some (25, 0)) :: (25, 0, 2, some (28, 0)) :: (25, 0, 1, some (27, 0)) :: (25, 0, 0, some (26, 0)) :: (21, 0, 1, some (22, 0)) :: Pl6
theorem i_mach0 {Qn : gH → Prop} {v0 : Nat} (R : HL h Rl6 qs Cl6 Pl6) (ht : Aof Rl6 qs 8 0 = t0) (hv : Aof Rl6 qs 21 0 = v0) (k0 : ∀ (q1 q3 q4 q6 q8 q11 r120 r121 r122 r123 q12 q15 q16 q19 q20 q22 q24 q28 q33 : Nat) (h' : gH), HL h' Rl7 (q33 :: q28 :: q24 :: q22 :: q20 :: q19 :: q16 :: q15 :: q12 :: r123 :: r122 :: r121 :: r120 :: q11 :: q8 :: q6 :: q4 :: q3 :: q1 :: qs) Cl7 Pl7 → Qn h') : vX3_init t0 Qn h v0 (some (Aof Rl6 qs 4 0)) := by
  subst hv
  try (unfold vX3_init)
  refine i_nw 22 0 R rfl rfl rfl (fun _ => cell_e0 rfl rfl rfl) (fun q1 h1 R1 => ?_)
  refine i_pvR 21 0 1 22 0 R1 rfl rfl rfl rfl rfl rfl (fun h2 R2 => ?_)
  refine i_nw 25 0 R2 rfl rfl rfl (fun _ => cell_o (ks := (dO 25).get!.2) rfl rfl (by decide)) (fun q3 h3 R3 => ?_)
  try (unfold vX6_init)
  refine i_nw 26 0 R3 rfl rfl rfl (fun _ => cell_e0 rfl rfl rfl) (fun q4 h4 R4 => ?_)
  refine i_pvR 25 0 0 26 0 R4 rfl rfl rfl rfl rfl rfl (fun h5 R5 => ?_)
  refine i_nw 27 0 R5 rfl rfl rfl (fun _ => cell_e0 rfl rfl rfl) (fun q6 h6 R6 => ?_)
  refine i_pvR 25 0 1 27 0 R6 rfl rfl rfl rfl rfl rfl (fun h7 R7 => ?_)
  refine i_nw 28 0 R7 rfl rfl rfl (fun _ => cell_e0 rfl rfl rfl) (fun q8 h8 R8 => ?_)
  refine i_pvR 25 0 2 28 0 R8 rfl rfl rfl rfl rfl rfl (fun h9 R9 => ?_)
  refine i_pvR 21 0 7 25 0 R9 rfl rfl rfl rfl rfl rfl (fun h10 R10 => ?_)
  refine i_nw 33 0 R10 rfl rfl rfl (fun _ => cell_o (ks := (dO 33).get!.2) rfl rfl (by decide)) (fun q11 h11 R11 => ?_)
  try (unfold vX2_init)
  refine i_nw2 0 0 1 2 3 R11 rfl rfl rfl rfl rfl rfl rfl rfl rfl rfl rfl rfl rfl rfl rfl (fun q12 r120 r121 r122 r123 h12 R12 => ?_)
  refine i_pvR 33 0 0 34 0 R12 rfl rfl rfl rfl rfl rfl (fun h13 R13 => ?_)
  refine i_pvR 21 0 10 33 0 R13 rfl rfl rfl rfl rfl rfl (fun h14 R14 => ?_)
  refine i_nw 36 0 R14 rfl rfl rfl (fun _ => cell_o (ks := (dO 36).get!.2) rfl rfl (by decide)) (fun q15 h15 R15 => ?_)
  try (unfold vX0_init)
  refine i_nw 37 0 R15 rfl rfl rfl (fun _ => cell_e0 rfl rfl rfl) (fun q16 h16 R16 => ?_)
  refine i_pvR 36 0 0 37 0 R16 rfl rfl rfl rfl rfl rfl (fun h17 R17 => ?_)
  refine i_pvR 21 0 11 36 0 R17 rfl rfl rfl rfl rfl rfl (fun h18 R18 => ?_)
  refine i_nw 29 0 R18 rfl rfl rfl (fun _ => cell_o (ks := (dO 29).get!.2) rfl rfl (by decide)) (fun q19 h19 R19 => ?_)
  try (unfold vX6_init)
  refine i_nw 30 0 R19 rfl rfl rfl (fun _ => cell_e0 rfl rfl rfl) (fun q20 h20 R20 => ?_)
  refine i_pvR 29 0 0 30 0 R20 rfl rfl rfl rfl rfl rfl (fun h21 R21 => ?_)
  refine i_nw 31 0 R21 rfl rfl rfl (fun _ => cell_e0 rfl rfl rfl) (fun q22 h22 R22 => ?_)
  refine i_pvR 29 0 1 31 0 R22 rfl rfl rfl rfl rfl rfl (fun h23 R23 => ?_)
  refine i_nw 32 0 R23 rfl rfl rfl (fun _ => cell_e0 rfl rfl rfl) (fun q24 h24 R24 => ?_)
  refine i_pvR 29 0 2 32 0 R24 rfl rfl rfl rfl rfl rfl (fun h25 R25 => ?_)
  refine i_pvR 21 0 12 29 0 R25 rfl rfl rfl rfl rfl rfl (fun h26 R26 => ?_)
  refine i_pvR 21 0 0 4 0 R26 rfl rfl rfl rfl rfl rfl (fun h27 R27 => ?_)
  refine i_nw 23 0 R27 rfl rfl rfl (fun _ => cell_o (ks := (dO 23).get!.2) rfl rfl (by decide)) (fun q28 h28 R28 => ?_)
  refine nn_i ?_
  refine i_gr 4 0 7 14 0 R28 rfl rfl rfl rfl rfl ?_
  try (unfold vX8_init)
  refine i_pvI 23 0 3 (1) R28 rfl rfl rfl rfl (by decide) (fun h29 R29 => ?_)
  refine i_pvI 23 0 5 (1) R29 rfl rfl rfl rfl (by decide) (fun h30 R30 => ?_)
  refine i_pvR 23 0 0 14 0 R30 rfl rfl rfl rfl rfl rfl (fun h31 R31 => ?_)
  refine i_pvR 21 0 2 23 0 R31 rfl rfl rfl rfl rfl rfl (fun h32 R32 => ?_)
  refine i_nw 24 0 R32 rfl rfl rfl (fun _ => cell_o (ks := (dO 24).get!.2) rfl rfl (by decide)) (fun q33 h33 R33 => ?_)
  refine i_gr 4 0 7 14 0 R33 rfl rfl rfl rfl rfl ?_
  try (unfold vX8_init)
  refine i_pvI 24 0 3 (1) R33 rfl rfl rfl rfl (by decide) (fun h34 R34 => ?_)
  refine i_pvI 24 0 5 (1) R34 rfl rfl rfl rfl (by decide) (fun h35 R35 => ?_)
  refine i_pvR 24 0 0 14 0 R35 rfl rfl rfl rfl rfl rfl (fun h36 R36 => ?_)
  refine i_pvR 21 0 3 24 0 R36 rfl rfl rfl rfl rfl rfl (fun h37 R37 => ?_)
  exact k0 q1 q3 q4 q6 q8 q11 r120 r121 r122 r123 q12 q15 q16 q19 q20 q22 q24 q28 q33 _ R37
def Rl8 : List (Nat × Nat) := (21, 3) :: Rl7
def Cl8 : List (Nat × Nat × Nat × Int) := Cl7
def Pl8 : List (Nat × Nat × Nat × Option (Nat × Nat)) := (0, 0, 2, some (21, 0)) :: Pl7
def Rl9 : List (Nat × Nat) := (24, 3) :: (23, 3) :: (32, 3) :: (31, 3) :: (30, 3) :: (29, 3) :: (37, 3) :: (36, 3) :: (34, 3) :: (35, 15) :: (35, 14) :: (35, 13) :: (35, 12) :: (33, 3) :: (28, 3) :: (27, 3) :: (26, 3) :: (25, 3) :: (22, 3) :: Rl8
def Cl9 : List (Nat × Nat × Nat × Int) := (24, 3, 5, 1) :: (24, 3, 3, 1) :: (23, 3, 5, 1) :: (23, 3, 3, 1) :: Cl8
def Pl9 : List (Nat × Nat × Nat × Option (Nat × Nat)) := (21, 3, 3, some (24, 3)) :: (24, 3, 0, some (14, 0)) :: (21, 3, 2, some (23, 3)) :: (23, 3, 0, some (14, 0)) :: (21, 3, 0, some (4, 0)) :: (21, 3, 12, some (29, 3)) :: (29, 3, 2, some (32, 3)) :: (29, 3, 1, some (31, 3)) :: (29, 3, 0, some (30, 3)) :: (21, 3, 11, some (36, 3)) :: (36, 3, 0, some (37, 3)) :: (21, 3, 10, some (33, 3)) :: (33, 3, 0, some (34, 3)) :: (34, 3, 3, some (35, 15)) :: (34, 3, 2, some (35, 14)) :: (34, 3, 1, some (35, 13)) :: (34, 3, 0, some (35, 12)) :: (21, 3, 7, some (25, 3)) :: (25, 3, 2, some (28, 3)) :: (25, 3, 1, some (27, 3)) :: (25, 3, 0, some (26, 3)) :: (21, 3, 1, some (22, 3)) :: Pl8
theorem i_mach3 {Qn : gH → Prop} {v0 : Nat} (R : HL h Rl8 qs Cl8 Pl8) (ht : Aof Rl8 qs 8 0 = t0) (hv : Aof Rl8 qs 21 3 = v0) (k0 : ∀ (q1 q3 q4 q6 q8 q11 r120 r121 r122 r123 q12 q15 q16 q19 q20 q22 q24 q28 q33 : Nat) (h' : gH), HL h' Rl9 (q33 :: q28 :: q24 :: q22 :: q20 :: q19 :: q16 :: q15 :: q12 :: r123 :: r122 :: r121 :: r120 :: q11 :: q8 :: q6 :: q4 :: q3 :: q1 :: qs) Cl9 Pl9 → Qn h') : vX3_init t0 Qn h v0 (some (Aof Rl8 qs 4 0)) := by
  subst hv
  try (unfold vX3_init)
  refine i_nw 22 3 R rfl rfl rfl (fun _ => cell_e0 rfl rfl rfl) (fun q1 h1 R1 => ?_)
  refine i_pvR 21 3 1 22 3 R1 rfl rfl rfl rfl rfl rfl (fun h2 R2 => ?_)
  refine i_nw 25 3 R2 rfl rfl rfl (fun _ => cell_o (ks := (dO 25).get!.2) rfl rfl (by decide)) (fun q3 h3 R3 => ?_)
  try (unfold vX6_init)
  refine i_nw 26 3 R3 rfl rfl rfl (fun _ => cell_e0 rfl rfl rfl) (fun q4 h4 R4 => ?_)
  refine i_pvR 25 3 0 26 3 R4 rfl rfl rfl rfl rfl rfl (fun h5 R5 => ?_)
  refine i_nw 27 3 R5 rfl rfl rfl (fun _ => cell_e0 rfl rfl rfl) (fun q6 h6 R6 => ?_)
  refine i_pvR 25 3 1 27 3 R6 rfl rfl rfl rfl rfl rfl (fun h7 R7 => ?_)
  refine i_nw 28 3 R7 rfl rfl rfl (fun _ => cell_e0 rfl rfl rfl) (fun q8 h8 R8 => ?_)
  refine i_pvR 25 3 2 28 3 R8 rfl rfl rfl rfl rfl rfl (fun h9 R9 => ?_)
  refine i_pvR 21 3 7 25 3 R9 rfl rfl rfl rfl rfl rfl (fun h10 R10 => ?_)
  refine i_nw 33 3 R10 rfl rfl rfl (fun _ => cell_o (ks := (dO 33).get!.2) rfl rfl (by decide)) (fun q11 h11 R11 => ?_)
  try (unfold vX2_init)
  refine i_nw2 3 12 13 14 15 R11 rfl rfl rfl rfl rfl rfl rfl rfl rfl rfl rfl rfl rfl rfl rfl (fun q12 r120 r121 r122 r123 h12 R12 => ?_)
  refine i_pvR 33 3 0 34 3 R12 rfl rfl rfl rfl rfl rfl (fun h13 R13 => ?_)
  refine i_pvR 21 3 10 33 3 R13 rfl rfl rfl rfl rfl rfl (fun h14 R14 => ?_)
  refine i_nw 36 3 R14 rfl rfl rfl (fun _ => cell_o (ks := (dO 36).get!.2) rfl rfl (by decide)) (fun q15 h15 R15 => ?_)
  try (unfold vX0_init)
  refine i_nw 37 3 R15 rfl rfl rfl (fun _ => cell_e0 rfl rfl rfl) (fun q16 h16 R16 => ?_)
  refine i_pvR 36 3 0 37 3 R16 rfl rfl rfl rfl rfl rfl (fun h17 R17 => ?_)
  refine i_pvR 21 3 11 36 3 R17 rfl rfl rfl rfl rfl rfl (fun h18 R18 => ?_)
  refine i_nw 29 3 R18 rfl rfl rfl (fun _ => cell_o (ks := (dO 29).get!.2) rfl rfl (by decide)) (fun q19 h19 R19 => ?_)
  try (unfold vX6_init)
  refine i_nw 30 3 R19 rfl rfl rfl (fun _ => cell_e0 rfl rfl rfl) (fun q20 h20 R20 => ?_)
  refine i_pvR 29 3 0 30 3 R20 rfl rfl rfl rfl rfl rfl (fun h21 R21 => ?_)
  refine i_nw 31 3 R21 rfl rfl rfl (fun _ => cell_e0 rfl rfl rfl) (fun q22 h22 R22 => ?_)
  refine i_pvR 29 3 1 31 3 R22 rfl rfl rfl rfl rfl rfl (fun h23 R23 => ?_)
  refine i_nw 32 3 R23 rfl rfl rfl (fun _ => cell_e0 rfl rfl rfl) (fun q24 h24 R24 => ?_)
  refine i_pvR 29 3 2 32 3 R24 rfl rfl rfl rfl rfl rfl (fun h25 R25 => ?_)
  refine i_pvR 21 3 12 29 3 R25 rfl rfl rfl rfl rfl rfl (fun h26 R26 => ?_)
  refine i_pvR 21 3 0 4 0 R26 rfl rfl rfl rfl rfl rfl (fun h27 R27 => ?_)
  refine i_nw 23 3 R27 rfl rfl rfl (fun _ => cell_o (ks := (dO 23).get!.2) rfl rfl (by decide)) (fun q28 h28 R28 => ?_)
  refine nn_i ?_
  refine i_gr 4 0 7 14 0 R28 rfl rfl rfl rfl rfl ?_
  try (unfold vX8_init)
  refine i_pvI 23 3 3 (1) R28 rfl rfl rfl rfl (by decide) (fun h29 R29 => ?_)
  refine i_pvI 23 3 5 (1) R29 rfl rfl rfl rfl (by decide) (fun h30 R30 => ?_)
  refine i_pvR 23 3 0 14 0 R30 rfl rfl rfl rfl rfl rfl (fun h31 R31 => ?_)
  refine i_pvR 21 3 2 23 3 R31 rfl rfl rfl rfl rfl rfl (fun h32 R32 => ?_)
  refine i_nw 24 3 R32 rfl rfl rfl (fun _ => cell_o (ks := (dO 24).get!.2) rfl rfl (by decide)) (fun q33 h33 R33 => ?_)
  refine i_gr 4 0 7 14 0 R33 rfl rfl rfl rfl rfl ?_
  try (unfold vX8_init)
  refine i_pvI 24 3 3 (1) R33 rfl rfl rfl rfl (by decide) (fun h34 R34 => ?_)
  refine i_pvI 24 3 5 (1) R34 rfl rfl rfl rfl (by decide) (fun h35 R35 => ?_)
  refine i_pvR 24 3 0 14 0 R35 rfl rfl rfl rfl rfl rfl (fun h36 R36 => ?_)
  refine i_pvR 21 3 3 24 3 R36 rfl rfl rfl rfl rfl rfl (fun h37 R37 => ?_)
  exact k0 q1 q3 q4 q6 q8 q11 r120 r121 r122 r123 q12 q15 q16 q19 q20 q22 q24 q28 q33 _ R37
def Rl10 : List (Nat × Nat) := (21, 1) :: (1, 0) :: Rl9
def Cl10 : List (Nat × Nat × Nat × Int) := Cl9
def Pl10 : List (Nat × Nat × Nat × Option (Nat × Nat)) := (0, 0, 4, some (1, 0)) :: (0, 0, 3, some (21, 3)) :: Pl9
def Rl11 : List (Nat × Nat) := (24, 1) :: (23, 1) :: (32, 1) :: (31, 1) :: (30, 1) :: (29, 1) :: (37, 1) :: (36, 1) :: (34, 1) :: (35, 7) :: (35, 6) :: (35, 5) :: (35, 4) :: (33, 1) :: (28, 1) :: (27, 1) :: (26, 1) :: (25, 1) :: (22, 1) :: Rl10
def Cl11 : List (Nat × Nat × Nat × Int) := (24, 1, 5, 1) :: (24, 1, 3, 1) :: (23, 1, 5, 1) :: (23, 1, 3, 1) :: Cl10
def Pl11 : List (Nat × Nat × Nat × Option (Nat × Nat)) := (21, 1, 3, some (24, 1)) :: (24, 1, 0, some (14, 0)) :: (21, 1, 2, some (23, 1)) :: (23, 1, 0, some (14, 0)) :: (21, 1, 0, some (4, 0)) :: (21, 1, 12, some (29, 1)) :: (29, 1, 2, some (32, 1)) :: (29, 1, 1, some (31, 1)) :: (29, 1, 0, some (30, 1)) :: (21, 1, 11, some (36, 1)) :: (36, 1, 0, some (37, 1)) :: (21, 1, 10, some (33, 1)) :: (33, 1, 0, some (34, 1)) :: (34, 1, 3, some (35, 7)) :: (34, 1, 2, some (35, 6)) :: (34, 1, 1, some (35, 5)) :: (34, 1, 0, some (35, 4)) :: (21, 1, 7, some (25, 1)) :: (25, 1, 2, some (28, 1)) :: (25, 1, 1, some (27, 1)) :: (25, 1, 0, some (26, 1)) :: (21, 1, 1, some (22, 1)) :: Pl10
theorem i_mach1 {Qn : gH → Prop} {v0 : Nat} (R : HL h Rl10 qs Cl10 Pl10) (ht : Aof Rl10 qs 8 0 = t0) (hv : Aof Rl10 qs 21 1 = v0) (k0 : ∀ (q1 q3 q4 q6 q8 q11 r120 r121 r122 r123 q12 q15 q16 q19 q20 q22 q24 q28 q33 : Nat) (h' : gH), HL h' Rl11 (q33 :: q28 :: q24 :: q22 :: q20 :: q19 :: q16 :: q15 :: q12 :: r123 :: r122 :: r121 :: r120 :: q11 :: q8 :: q6 :: q4 :: q3 :: q1 :: qs) Cl11 Pl11 → Qn h') : vX3_init t0 Qn h v0 (some (Aof Rl10 qs 4 0)) := by
  subst hv
  try (unfold vX3_init)
  refine i_nw 22 1 R rfl rfl rfl (fun _ => cell_e0 rfl rfl rfl) (fun q1 h1 R1 => ?_)
  refine i_pvR 21 1 1 22 1 R1 rfl rfl rfl rfl rfl rfl (fun h2 R2 => ?_)
  refine i_nw 25 1 R2 rfl rfl rfl (fun _ => cell_o (ks := (dO 25).get!.2) rfl rfl (by decide)) (fun q3 h3 R3 => ?_)
  try (unfold vX6_init)
  refine i_nw 26 1 R3 rfl rfl rfl (fun _ => cell_e0 rfl rfl rfl) (fun q4 h4 R4 => ?_)
  refine i_pvR 25 1 0 26 1 R4 rfl rfl rfl rfl rfl rfl (fun h5 R5 => ?_)
  refine i_nw 27 1 R5 rfl rfl rfl (fun _ => cell_e0 rfl rfl rfl) (fun q6 h6 R6 => ?_)
  refine i_pvR 25 1 1 27 1 R6 rfl rfl rfl rfl rfl rfl (fun h7 R7 => ?_)
  refine i_nw 28 1 R7 rfl rfl rfl (fun _ => cell_e0 rfl rfl rfl) (fun q8 h8 R8 => ?_)
  refine i_pvR 25 1 2 28 1 R8 rfl rfl rfl rfl rfl rfl (fun h9 R9 => ?_)
  refine i_pvR 21 1 7 25 1 R9 rfl rfl rfl rfl rfl rfl (fun h10 R10 => ?_)
  refine i_nw 33 1 R10 rfl rfl rfl (fun _ => cell_o (ks := (dO 33).get!.2) rfl rfl (by decide)) (fun q11 h11 R11 => ?_)
  try (unfold vX2_init)
  refine i_nw2 1 4 5 6 7 R11 rfl rfl rfl rfl rfl rfl rfl rfl rfl rfl rfl rfl rfl rfl rfl (fun q12 r120 r121 r122 r123 h12 R12 => ?_)
  refine i_pvR 33 1 0 34 1 R12 rfl rfl rfl rfl rfl rfl (fun h13 R13 => ?_)
  refine i_pvR 21 1 10 33 1 R13 rfl rfl rfl rfl rfl rfl (fun h14 R14 => ?_)
  refine i_nw 36 1 R14 rfl rfl rfl (fun _ => cell_o (ks := (dO 36).get!.2) rfl rfl (by decide)) (fun q15 h15 R15 => ?_)
  try (unfold vX0_init)
  refine i_nw 37 1 R15 rfl rfl rfl (fun _ => cell_e0 rfl rfl rfl) (fun q16 h16 R16 => ?_)
  refine i_pvR 36 1 0 37 1 R16 rfl rfl rfl rfl rfl rfl (fun h17 R17 => ?_)
  refine i_pvR 21 1 11 36 1 R17 rfl rfl rfl rfl rfl rfl (fun h18 R18 => ?_)
  refine i_nw 29 1 R18 rfl rfl rfl (fun _ => cell_o (ks := (dO 29).get!.2) rfl rfl (by decide)) (fun q19 h19 R19 => ?_)
  try (unfold vX6_init)
  refine i_nw 30 1 R19 rfl rfl rfl (fun _ => cell_e0 rfl rfl rfl) (fun q20 h20 R20 => ?_)
  refine i_pvR 29 1 0 30 1 R20 rfl rfl rfl rfl rfl rfl (fun h21 R21 => ?_)
  refine i_nw 31 1 R21 rfl rfl rfl (fun _ => cell_e0 rfl rfl rfl) (fun q22 h22 R22 => ?_)
  refine i_pvR 29 1 1 31 1 R22 rfl rfl rfl rfl rfl rfl (fun h23 R23 => ?_)
  refine i_nw 32 1 R23 rfl rfl rfl (fun _ => cell_e0 rfl rfl rfl) (fun q24 h24 R24 => ?_)
  refine i_pvR 29 1 2 32 1 R24 rfl rfl rfl rfl rfl rfl (fun h25 R25 => ?_)
  refine i_pvR 21 1 12 29 1 R25 rfl rfl rfl rfl rfl rfl (fun h26 R26 => ?_)
  refine i_pvR 21 1 0 4 0 R26 rfl rfl rfl rfl rfl rfl (fun h27 R27 => ?_)
  refine i_nw 23 1 R27 rfl rfl rfl (fun _ => cell_o (ks := (dO 23).get!.2) rfl rfl (by decide)) (fun q28 h28 R28 => ?_)
  refine nn_i ?_
  refine i_gr 4 0 7 14 0 R28 rfl rfl rfl rfl rfl ?_
  try (unfold vX8_init)
  refine i_pvI 23 1 3 (1) R28 rfl rfl rfl rfl (by decide) (fun h29 R29 => ?_)
  refine i_pvI 23 1 5 (1) R29 rfl rfl rfl rfl (by decide) (fun h30 R30 => ?_)
  refine i_pvR 23 1 0 14 0 R30 rfl rfl rfl rfl rfl rfl (fun h31 R31 => ?_)
  refine i_pvR 21 1 2 23 1 R31 rfl rfl rfl rfl rfl rfl (fun h32 R32 => ?_)
  refine i_nw 24 1 R32 rfl rfl rfl (fun _ => cell_o (ks := (dO 24).get!.2) rfl rfl (by decide)) (fun q33 h33 R33 => ?_)
  refine i_gr 4 0 7 14 0 R33 rfl rfl rfl rfl rfl ?_
  try (unfold vX8_init)
  refine i_pvI 24 1 3 (1) R33 rfl rfl rfl rfl (by decide) (fun h34 R34 => ?_)
  refine i_pvI 24 1 5 (1) R34 rfl rfl rfl rfl (by decide) (fun h35 R35 => ?_)
  refine i_pvR 24 1 0 14 0 R35 rfl rfl rfl rfl rfl rfl (fun h36 R36 => ?_)
  refine i_pvR 21 1 3 24 1 R36 rfl rfl rfl rfl rfl rfl (fun h37 R37 => ?_)
  exact k0 q1 q3 q4 q6 q8 q11 r120 r121 r122 r123 q12 q15 q16 q19 q20 q22 q24 q28 q33 _ R37
def Rl12 : List (Nat × Nat) := (21, 2) :: Rl11
def Cl12 : List (Nat × Nat × Nat × Int) := Cl11
def Pl12 : List (Nat × Nat × Nat × Option (Nat × Nat)) := (1, 0, 0, some (21, 1)) :: Pl11
def Rl13 : List (Nat × Nat) := (24, 2) :: (23, 2) :: (32, 2) :: (31, 2) :: (30, 2) :: (29, 2) :: (37, 2) :: (36, 2) :: (34, 2) :: (35, 11) :: (35, 10) :: (35, 9) :: (35, 8) :: (33, 2) :: (28, 2) :: (27, 2) :: (26, 2) :: (25, 2) :: (22, 2) :: Rl12
def Cl13 : List (Nat × Nat × Nat × Int) := (24, 2, 5, 1) :: (24, 2, 3, 1) :: (23, 2, 5, 1) :: (23, 2, 3, 1) :: Cl12
def Pl13 : List (Nat × Nat × Nat × Option (Nat × Nat)) := (21, 2, 3, some (24, 2)) :: (24, 2, 0, some (14, 0)) :: (21, 2, 2, some (23, 2)) :: (23, 2, 0, some (14, 0)) :: (21, 2, 0, some (4, 0)) :: (21, 2, 12, some (29, 2)) :: (29, 2, 2, some (32, 2)) :: (29, 2, 1, some (31, 2)) :: (29, 2, 0, some (30, 2)) :: (21, 2, 11, some (36, 2)) :: (36, 2, 0, some (37, 2)) :: (21, 2, 10, some (33, 2)) :: (33, 2, 0, some (34, 2)) :: (34, 2, 3, some (35, 11)) :: (34, 2, 2, some (35, 10)) :: (34, 2, 1, some (35, 9)) :: (34, 2, 0, some (35, 8)) :: (21, 2, 7, some (25, 2)) :: (25, 2, 2, some (28, 2)) :: (25, 2, 1, some (27, 2)) :: (25, 2, 0, some (26, 2)) :: (21, 2, 1, some (22, 2)) :: Pl12
theorem i_mach2 {Qn : gH → Prop} {v0 : Nat} (R : HL h Rl12 qs Cl12 Pl12) (ht : Aof Rl12 qs 8 0 = t0) (hv : Aof Rl12 qs 21 2 = v0) (k0 : ∀ (q1 q3 q4 q6 q8 q11 r120 r121 r122 r123 q12 q15 q16 q19 q20 q22 q24 q28 q33 : Nat) (h' : gH), HL h' Rl13 (q33 :: q28 :: q24 :: q22 :: q20 :: q19 :: q16 :: q15 :: q12 :: r123 :: r122 :: r121 :: r120 :: q11 :: q8 :: q6 :: q4 :: q3 :: q1 :: qs) Cl13 Pl13 → Qn h') : vX3_init t0 Qn h v0 (some (Aof Rl12 qs 4 0)) := by
  subst hv
  try (unfold vX3_init)
  refine i_nw 22 2 R rfl rfl rfl (fun _ => cell_e0 rfl rfl rfl) (fun q1 h1 R1 => ?_)
  refine i_pvR 21 2 1 22 2 R1 rfl rfl rfl rfl rfl rfl (fun h2 R2 => ?_)
  refine i_nw 25 2 R2 rfl rfl rfl (fun _ => cell_o (ks := (dO 25).get!.2) rfl rfl (by decide)) (fun q3 h3 R3 => ?_)
  try (unfold vX6_init)
  refine i_nw 26 2 R3 rfl rfl rfl (fun _ => cell_e0 rfl rfl rfl) (fun q4 h4 R4 => ?_)
  refine i_pvR 25 2 0 26 2 R4 rfl rfl rfl rfl rfl rfl (fun h5 R5 => ?_)
  refine i_nw 27 2 R5 rfl rfl rfl (fun _ => cell_e0 rfl rfl rfl) (fun q6 h6 R6 => ?_)
  refine i_pvR 25 2 1 27 2 R6 rfl rfl rfl rfl rfl rfl (fun h7 R7 => ?_)
  refine i_nw 28 2 R7 rfl rfl rfl (fun _ => cell_e0 rfl rfl rfl) (fun q8 h8 R8 => ?_)
  refine i_pvR 25 2 2 28 2 R8 rfl rfl rfl rfl rfl rfl (fun h9 R9 => ?_)
  refine i_pvR 21 2 7 25 2 R9 rfl rfl rfl rfl rfl rfl (fun h10 R10 => ?_)
  refine i_nw 33 2 R10 rfl rfl rfl (fun _ => cell_o (ks := (dO 33).get!.2) rfl rfl (by decide)) (fun q11 h11 R11 => ?_)
  try (unfold vX2_init)
  refine i_nw2 2 8 9 10 11 R11 rfl rfl rfl rfl rfl rfl rfl rfl rfl rfl rfl rfl rfl rfl rfl (fun q12 r120 r121 r122 r123 h12 R12 => ?_)
  refine i_pvR 33 2 0 34 2 R12 rfl rfl rfl rfl rfl rfl (fun h13 R13 => ?_)
  refine i_pvR 21 2 10 33 2 R13 rfl rfl rfl rfl rfl rfl (fun h14 R14 => ?_)
  refine i_nw 36 2 R14 rfl rfl rfl (fun _ => cell_o (ks := (dO 36).get!.2) rfl rfl (by decide)) (fun q15 h15 R15 => ?_)
  try (unfold vX0_init)
  refine i_nw 37 2 R15 rfl rfl rfl (fun _ => cell_e0 rfl rfl rfl) (fun q16 h16 R16 => ?_)
  refine i_pvR 36 2 0 37 2 R16 rfl rfl rfl rfl rfl rfl (fun h17 R17 => ?_)
  refine i_pvR 21 2 11 36 2 R17 rfl rfl rfl rfl rfl rfl (fun h18 R18 => ?_)
  refine i_nw 29 2 R18 rfl rfl rfl (fun _ => cell_o (ks := (dO 29).get!.2) rfl rfl (by decide)) (fun q19 h19 R19 => ?_)
  try (unfold vX6_init)
  refine i_nw 30 2 R19 rfl rfl rfl (fun _ => cell_e0 rfl rfl rfl) (fun q20 h20 R20 => ?_)
  refine i_pvR 29 2 0 30 2 R20 rfl rfl rfl rfl rfl rfl (fun h21 R21 => ?_)
  refine i_nw 31 2 R21 rfl rfl rfl (fun _ => cell_e0 rfl rfl rfl) (fun q22 h22 R22 => ?_)
  refine i_pvR 29 2 1 31 2 R22 rfl rfl rfl rfl rfl rfl (fun h23 R23 => ?_)
  refine i_nw 32 2 R23 rfl rfl rfl (fun _ => cell_e0 rfl rfl rfl) (fun q24 h24 R24 => ?_)
  refine i_pvR 29 2 2 32 2 R24 rfl rfl rfl rfl rfl rfl (fun h25 R25 => ?_)
  refine i_pvR 21 2 12 29 2 R25 rfl rfl rfl rfl rfl rfl (fun h26 R26 => ?_)
  refine i_pvR 21 2 0 4 0 R26 rfl rfl rfl rfl rfl rfl (fun h27 R27 => ?_)
  refine i_nw 23 2 R27 rfl rfl rfl (fun _ => cell_o (ks := (dO 23).get!.2) rfl rfl (by decide)) (fun q28 h28 R28 => ?_)
  refine nn_i ?_
  refine i_gr 4 0 7 14 0 R28 rfl rfl rfl rfl rfl ?_
  try (unfold vX8_init)
  refine i_pvI 23 2 3 (1) R28 rfl rfl rfl rfl (by decide) (fun h29 R29 => ?_)
  refine i_pvI 23 2 5 (1) R29 rfl rfl rfl rfl (by decide) (fun h30 R30 => ?_)
  refine i_pvR 23 2 0 14 0 R30 rfl rfl rfl rfl rfl rfl (fun h31 R31 => ?_)
  refine i_pvR 21 2 2 23 2 R31 rfl rfl rfl rfl rfl rfl (fun h32 R32 => ?_)
  refine i_nw 24 2 R32 rfl rfl rfl (fun _ => cell_o (ks := (dO 24).get!.2) rfl rfl (by decide)) (fun q33 h33 R33 => ?_)
  refine i_gr 4 0 7 14 0 R33 rfl rfl rfl rfl rfl ?_
  try (unfold vX8_init)
  refine i_pvI 24 2 3 (1) R33 rfl rfl rfl rfl (by decide) (fun h34 R34 => ?_)
  refine i_pvI 24 2 5 (1) R34 rfl rfl rfl rfl (by decide) (fun h35 R35 => ?_)
  refine i_pvR 24 2 0 14 0 R35 rfl rfl rfl rfl rfl rfl (fun h36 R36 => ?_)
  refine i_pvR 21 2 3 24 2 R36 rfl rfl rfl rfl rfl rfl (fun h37 R37 => ?_)
  exact k0 q1 q3 q4 q6 q8 q11 r120 r121 r122 r123 q12 q15 q16 q19 q20 q22 q24 q28 q33 _ R37
def Rl14 : List (Nat × Nat) := (3, 0) :: (2, 0) :: Rl13
def Cl14 : List (Nat × Nat × Nat × Int) := Cl13
def Pl14 : List (Nat × Nat × Nat × Option (Nat × Nat)) := (0, 0, 6, some (3, 0)) :: (0, 0, 5, some (2, 0)) :: (1, 0, 1, some (21, 2)) :: Pl13
theorem i_ctrl {Qn : gH → Prop} {v0 : Nat} (R : HL h Rl1 qs Cl1 Pl1) (ht : Aof Rl1 qs 8 0 = t0) (hv : Aof Rl1 qs 0 0 = v0) (k0 : ∀ (q1 q1_2 q3_2 q7_2 q11_2 q15_2 q20_2 q21_2 q22_2 q23_2 q25_2 q29_2 q33_2 q4 q1_5 q4_5 q6_5 q8_5 q10_5 q7 q1_8 q3_8 q4_8 q6_8 q8_8 q11_8 r120_8 r121_8 r122_8 r123_8 q12_8 q15_8 q16_8 q19_8 q20_8 q22_8 q24_8 q28_8 q33_8 q10 q1_11 q3_11 q4_11 q6_11 q8_11 q11_11 r120_11 r121_11 r122_11 r123_11 q12_11 q15_11 q16_11 q19_11 q20_11 q22_11 q24_11 q28_11 q33_11 q13 q15 q1_16 q3_16 q4_16 q6_16 q8_16 q11_16 r120_16 r121_16 r122_16 r123_16 q12_16 q15_16 q16_16 q19_16 q20_16 q22_16 q24_16 q28_16 q33_16 q18 q1_19 q3_19 q4_19 q6_19 q8_19 q11_19 r120_19 r121_19 r122_19 r123_19 q12_19 q15_19 q16_19 q19_19 q20_19 q22_19 q24_19 q28_19 q33_19 q21 q23 : Nat) (h' : gH), HL h' Rl14 (q23 :: q21 :: q33_19 :: q28_19 :: q24_19 :: q22_19 :: q20_19 :: q19_19 :: q16_19 :: q15_19 :: q12_19 :: r123_19 :: r122_19 :: r121_19 :: r120_19 :: q11_19 :: q8_19 :: q6_19 :: q4_19 :: q3_19 :: q1_19 :: q18 :: q33_16 :: q28_16 :: q24_16 :: q22_16 :: q20_16 :: q19_16 :: q16_16 :: q15_16 :: q12_16 :: r123_16 :: r122_16 :: r121_16 :: r120_16 :: q11_16 :: q8_16 :: q6_16 :: q4_16 :: q3_16 :: q1_16 :: q15 :: q13 :: q33_11 :: q28_11 :: q24_11 :: q22_11 :: q20_11 :: q19_11 :: q16_11 :: q15_11 :: q12_11 :: r123_11 :: r122_11 :: r121_11 :: r120_11 :: q11_11 :: q8_11 :: q6_11 :: q4_11 :: q3_11 :: q1_11 :: q10 :: q33_8 :: q28_8 :: q24_8 :: q22_8 :: q20_8 :: q19_8 :: q16_8 :: q15_8 :: q12_8 :: r123_8 :: r122_8 :: r121_8 :: r120_8 :: q11_8 :: q8_8 :: q6_8 :: q4_8 :: q3_8 :: q1_8 :: q7 :: q10_5 :: q8_5 :: q6_5 :: q4_5 :: q1_5 :: q4 :: q33_2 :: q29_2 :: q25_2 :: q23_2 :: q22_2 :: q21_2 :: q20_2 :: q15_2 :: q11_2 :: q7_2 :: q3_2 :: q1_2 :: q1 :: qs) Cl14 Pl14 → Qn h') : vX11_init t0 Qn h v0 := by
  subst hv
  try (unfold vX11_init)
  refine i_nw 4 0 R rfl rfl rfl (fun _ => cell_o (ks := (dO 4).get!.2) rfl rfl (by decide)) (fun q1 h1 R1 => ?_)
  refine i_model R1 ht rfl (fun q1_2 q3_2 q7_2 q11_2 q15_2 q20_2 q21_2 q22_2 q23_2 q25_2 q29_2 q33_2 h2 R2 => ?_)
  refine i_pvR 0 0 0 4 0 R2 rfl rfl rfl rfl rfl rfl (fun h3 R3 => ?_)
  refine i_nw 19 0 R3 rfl rfl rfl (fun _ => cell_o (ks := (dO 19).get!.2) rfl rfl (by decide)) (fun q4 h4 R4 => ?_)
  refine i_gr 0 0 0 4 0 R4 rfl rfl rfl rfl rfl ?_
  refine i_text R4 ht rfl (fun q1_5 q4_5 q6_5 q8_5 q10_5 h5 R5 => ?_)
  refine i_pvR 0 0 1 19 0 R5 rfl rfl rfl rfl rfl rfl (fun h6 R6 => ?_)
  refine i_nw 21 0 R6 rfl rfl rfl (fun _ => cell_o (ks := (dO 21).get!.2) rfl rfl (by decide)) (fun q7 h7 R7 => ?_)
  refine i_gr 0 0 0 4 0 R7 rfl rfl rfl rfl rfl ?_
  refine i_mach0 R7 ht rfl (fun q1_8 q3_8 q4_8 q6_8 q8_8 q11_8 r120_8 r121_8 r122_8 r123_8 q12_8 q15_8 q16_8 q19_8 q20_8 q22_8 q24_8 q28_8 q33_8 h8 R8 => ?_)
  refine i_pvR 0 0 2 21 0 R8 rfl rfl rfl rfl rfl rfl (fun h9 R9 => ?_)
  refine i_nw 21 3 R9 rfl rfl rfl (fun _ => cell_o (ks := (dO 21).get!.2) rfl rfl (by decide)) (fun q10 h10 R10 => ?_)
  refine i_gr 0 0 0 4 0 R10 rfl rfl rfl rfl rfl ?_
  refine i_mach3 R10 ht rfl (fun q1_11 q3_11 q4_11 q6_11 q8_11 q11_11 r120_11 r121_11 r122_11 r123_11 q12_11 q15_11 q16_11 q19_11 q20_11 q22_11 q24_11 q28_11 q33_11 h11 R11 => ?_)
  refine i_pvR 0 0 3 21 3 R11 rfl rfl rfl rfl rfl rfl (fun h12 R12 => ?_)
  refine i_nw 1 0 R12 rfl rfl rfl (fun _ => cell_eq rfl rfl (Or.inr (Or.inr rfl)) rfl) (fun q13 h13 R13 => ?_)
  refine i_pvR 0 0 4 1 0 R13 rfl rfl rfl rfl rfl rfl (fun h14 R14 => ?_)
  try (unfold vX11_init_b70_0)
  refine i_gr 0 0 4 1 0 R14 rfl rfl rfl rfl rfl ?_
  refine nn_i ?_
  refine i_al (n := 2) 1 0 R14 rfl rfl (by decide) rfl (by decide) rfl (fun y0 hy0 => ?_)
  refine ⟨fun z => absurd z (fun z => by rw [Int32.le_iff_toInt_le, hy0] at z; exact absurd z (by decide)), fun _ => ?_⟩
  refine i_gr 0 0 4 1 0 R14 rfl rfl rfl rfl rfl ?_
  refine i_nw 21 1 R14 rfl rfl rfl (fun _ => cell_o (ks := (dO 21).get!.2) rfl rfl (by decide)) (fun q15 h15 R15 => ?_)
  refine i_gr 0 0 0 4 0 R15 rfl rfl rfl rfl rfl ?_
  refine i_mach1 R15 ht rfl (fun q1_16 q3_16 q4_16 q6_16 q8_16 q11_16 r120_16 r121_16 r122_16 r123_16 q12_16 q15_16 q16_16 q19_16 q20_16 q22_16 q24_16 q28_16 q33_16 h16 R16 => ?_)
  refine nn_i ?_
  refine i_sq 1 0 0 21 1 R16 rfl rfl rfl rfl (by decide) (by decide) rfl rfl rfl (fun h17 R17 => ?_)
  try (unfold vX11_init_b70_1)
  refine i_gr 0 0 4 1 0 R17 rfl rfl rfl rfl rfl ?_
  refine nn_i ?_
  refine i_al (n := 2) 1 0 R17 rfl rfl (by decide) rfl (by decide) rfl (fun y1 hy1 => ?_)
  refine ⟨fun z => absurd z (fun z => by rw [Int32.le_iff_toInt_le, hy1] at z; exact absurd z (by decide)), fun _ => ?_⟩
  refine i_gr 0 0 4 1 0 R17 rfl rfl rfl rfl rfl ?_
  refine i_nw 21 2 R17 rfl rfl rfl (fun _ => cell_o (ks := (dO 21).get!.2) rfl rfl (by decide)) (fun q18 h18 R18 => ?_)
  refine i_gr 0 0 0 4 0 R18 rfl rfl rfl rfl rfl ?_
  refine i_mach2 R18 ht rfl (fun q1_19 q3_19 q4_19 q6_19 q8_19 q11_19 r120_19 r121_19 r122_19 r123_19 q12_19 q15_19 q16_19 q19_19 q20_19 q22_19 q24_19 q28_19 q33_19 h19 R19 => ?_)
  refine nn_i ?_
  refine i_sq 1 0 1 21 2 R19 rfl rfl rfl rfl (by decide) (by decide) rfl rfl rfl (fun h20 R20 => ?_)
  try (unfold vX11_init_b70_2)
  refine i_gr 0 0 4 1 0 R20 rfl rfl rfl rfl rfl ?_
  refine nn_i ?_
  refine i_al (n := 2) 1 0 R20 rfl rfl (by decide) rfl (by decide) rfl (fun y2 hy2 => ?_)
  refine ⟨fun _ => ?_, fun z => absurd (by rw [Int32.le_iff_toInt_le, hy2]; decide) z⟩
  refine i_nw 2 0 R20 rfl rfl rfl (fun _ => cell_e2 rfl rfl rfl) (fun q21 h21 R21 => ?_)
  refine i_pvR 0 0 5 2 0 R21 rfl rfl rfl rfl rfl rfl (fun h22 R22 => ?_)
  refine i_nw 3 0 R22 rfl rfl rfl (fun _ => cell_e0 rfl rfl rfl) (fun q23 h23 R23 => ?_)
  refine i_pvR 0 0 6 3 0 R23 rfl rfl rfl rfl rfl rfl (fun h24 R24 => ?_)
  exact k0 q1 q1_2 q3_2 q7_2 q11_2 q15_2 q20_2 q21_2 q22_2 q23_2 q25_2 q29_2 q33_2 q4 q1_5 q4_5 q6_5 q8_5 q10_5 q7 q1_8 q3_8 q4_8 q6_8 q8_8 q11_8 r120_8 r121_8 r122_8 r123_8 q12_8 q15_8 q16_8 q19_8 q20_8 q22_8 q24_8 q28_8 q33_8 q10 q1_11 q3_11 q4_11 q6_11 q8_11 q11_11 r120_11 r121_11 r122_11 r123_11 q12_11 q15_11 q16_11 q19_11 q20_11 q22_11 q24_11 q28_11 q33_11 q13 q15 q1_16 q3_16 q4_16 q6_16 q8_16 q11_16 r120_16 r121_16 r122_16 r123_16 q12_16 q15_16 q16_16 q19_16 q20_16 q22_16 q24_16 q28_16 q33_16 q18 q1_19 q3_19 q4_19 q6_19 q8_19 q11_19 r120_19 r121_19 r122_19 r123_19 q12_19 q15_19 q16_19 q19_19 q20_19 q22_19 q24_19 q28_19 q33_19 q21 q23 _ R24
end HLC
