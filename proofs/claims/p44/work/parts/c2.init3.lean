/-! ===== the table at the start ===== -/
section HLD
variable {h : gH} {qs : List Nat} {t0 : Nat}
def Rl17 : List (Nat × Nat) := (90, 0) :: Rl14
def Cl17 : List (Nat × Nat × Nat × Int) := (38, 0, 22, 1) :: Cl14
def Pl17 : List (Nat × Nat × Nat × Option (Nat × Nat)) := Pl14
abbrev RlF : List (Nat × Nat) := Rl17
abbrev ClF : List (Nat × Nat × Nat × Int) := Cl17
abbrev PlF : List (Nat × Nat × Nat × Option (Nat × Nat)) := Pl17
theorem acF : ∀ r ∈ RlF, ac (fun _ => 0) r.1 r.2 := by
  intro r hr
  have e : RlF = [(90, 0), (3, 0), (2, 0), (24, 2), (23, 2), (32, 2), (31, 2), (30, 2), (29, 2), (37, 2), (36, 2), (34, 2), (35, 11), (35, 10), (35, 9), (35, 8), (33, 2), (28, 2), (27, 2), (26, 2), (25, 2), (22, 2), (21, 2), (24, 1), (23, 1), (32, 1), (31, 1), (30, 1), (29, 1), (37, 1), (36, 1), (34, 1), (35, 7), (35, 6), (35, 5), (35, 4), (33, 1), (28, 1), (27, 1), (26, 1), (25, 1), (22, 1), (21, 1), (1, 0), (24, 3), (23, 3), (32, 3), (31, 3), (30, 3), (29, 3), (37, 3), (36, 3), (34, 3), (35, 15), (35, 14), (35, 13), (35, 12), (33, 3), (28, 3), (27, 3), (26, 3), (25, 3), (22, 3), (21, 3), (24, 0), (23, 0), (32, 0), (31, 0), (30, 0), (29, 0), (37, 0), (36, 0), (34, 0), (35, 3), (35, 2), (35, 1), (35, 0), (33, 0), (28, 0), (27, 0), (26, 0), (25, 0), (22, 0), (21, 0), (18, 0), (17, 0), (16, 0), (15, 0), (20, 0), (19, 0), (13, 0), (6, 4), (11, 0), (10, 0), (9, 0), (12, 0), (14, 0), (6, 3), (6, 2), (6, 1), (6, 0), (5, 0), (4, 0), (0, 0), (8, 0)] := rfl
  rw [e] at hr
  rcases List.mem_cons.mp hr with rfl | hr
  · exact ⟨Nat.one_pos, by decide⟩
  rcases List.mem_cons.mp hr with rfl | hr
  · exact ⟨Nat.one_pos, by decide⟩
  rcases List.mem_cons.mp hr with rfl | hr
  · exact ⟨Nat.one_pos, by decide⟩
  rcases List.mem_cons.mp hr with rfl | hr
  · exact (by decide : 2 < 4)
  rcases List.mem_cons.mp hr with rfl | hr
  · exact (by decide : 2 < 4)
  rcases List.mem_cons.mp hr with rfl | hr
  · exact (by decide : 2 < 4)
  rcases List.mem_cons.mp hr with rfl | hr
  · exact (by decide : 2 < 4)
  rcases List.mem_cons.mp hr with rfl | hr
  · exact (by decide : 2 < 4)
  rcases List.mem_cons.mp hr with rfl | hr
  · exact (by decide : 2 < 4)
  rcases List.mem_cons.mp hr with rfl | hr
  · exact (by decide : 2 < 4)
  rcases List.mem_cons.mp hr with rfl | hr
  · exact (by decide : 2 < 4)
  rcases List.mem_cons.mp hr with rfl | hr
  · exact (by decide : 2 < 4)
  rcases List.mem_cons.mp hr with rfl | hr
  · exact (by decide : 11 < 16)
  rcases List.mem_cons.mp hr with rfl | hr
  · exact (by decide : 10 < 16)
  rcases List.mem_cons.mp hr with rfl | hr
  · exact (by decide : 9 < 16)
  rcases List.mem_cons.mp hr with rfl | hr
  · exact (by decide : 8 < 16)
  rcases List.mem_cons.mp hr with rfl | hr
  · exact (by decide : 2 < 4)
  rcases List.mem_cons.mp hr with rfl | hr
  · exact (by decide : 2 < 4)
  rcases List.mem_cons.mp hr with rfl | hr
  · exact (by decide : 2 < 4)
  rcases List.mem_cons.mp hr with rfl | hr
  · exact (by decide : 2 < 4)
  rcases List.mem_cons.mp hr with rfl | hr
  · exact (by decide : 2 < 4)
  rcases List.mem_cons.mp hr with rfl | hr
  · exact (by decide : 2 < 4)
  rcases List.mem_cons.mp hr with rfl | hr
  · exact (by decide : 2 < 4)
  rcases List.mem_cons.mp hr with rfl | hr
  · exact (by decide : 1 < 4)
  rcases List.mem_cons.mp hr with rfl | hr
  · exact (by decide : 1 < 4)
  rcases List.mem_cons.mp hr with rfl | hr
  · exact (by decide : 1 < 4)
  rcases List.mem_cons.mp hr with rfl | hr
  · exact (by decide : 1 < 4)
  rcases List.mem_cons.mp hr with rfl | hr
  · exact (by decide : 1 < 4)
  rcases List.mem_cons.mp hr with rfl | hr
  · exact (by decide : 1 < 4)
  rcases List.mem_cons.mp hr with rfl | hr
  · exact (by decide : 1 < 4)
  rcases List.mem_cons.mp hr with rfl | hr
  · exact (by decide : 1 < 4)
  rcases List.mem_cons.mp hr with rfl | hr
  · exact (by decide : 1 < 4)
  rcases List.mem_cons.mp hr with rfl | hr
  · exact (by decide : 7 < 16)
  rcases List.mem_cons.mp hr with rfl | hr
  · exact (by decide : 6 < 16)
  rcases List.mem_cons.mp hr with rfl | hr
  · exact (by decide : 5 < 16)
  rcases List.mem_cons.mp hr with rfl | hr
  · exact (by decide : 4 < 16)
  rcases List.mem_cons.mp hr with rfl | hr
  · exact (by decide : 1 < 4)
  rcases List.mem_cons.mp hr with rfl | hr
  · exact (by decide : 1 < 4)
  rcases List.mem_cons.mp hr with rfl | hr
  · exact (by decide : 1 < 4)
  rcases List.mem_cons.mp hr with rfl | hr
  · exact (by decide : 1 < 4)
  rcases List.mem_cons.mp hr with rfl | hr
  · exact (by decide : 1 < 4)
  rcases List.mem_cons.mp hr with rfl | hr
  · exact (by decide : 1 < 4)
  rcases List.mem_cons.mp hr with rfl | hr
  · exact (by decide : 1 < 4)
  rcases List.mem_cons.mp hr with rfl | hr
  · exact ⟨Nat.one_pos, by decide⟩
  rcases List.mem_cons.mp hr with rfl | hr
  · exact (by decide : 3 < 4)
  rcases List.mem_cons.mp hr with rfl | hr
  · exact (by decide : 3 < 4)
  rcases List.mem_cons.mp hr with rfl | hr
  · exact (by decide : 3 < 4)
  rcases List.mem_cons.mp hr with rfl | hr
  · exact (by decide : 3 < 4)
  rcases List.mem_cons.mp hr with rfl | hr
  · exact (by decide : 3 < 4)
  rcases List.mem_cons.mp hr with rfl | hr
  · exact (by decide : 3 < 4)
  rcases List.mem_cons.mp hr with rfl | hr
  · exact (by decide : 3 < 4)
  rcases List.mem_cons.mp hr with rfl | hr
  · exact (by decide : 3 < 4)
  rcases List.mem_cons.mp hr with rfl | hr
  · exact (by decide : 3 < 4)
  rcases List.mem_cons.mp hr with rfl | hr
  · exact (by decide : 15 < 16)
  rcases List.mem_cons.mp hr with rfl | hr
  · exact (by decide : 14 < 16)
  rcases List.mem_cons.mp hr with rfl | hr
  · exact (by decide : 13 < 16)
  rcases List.mem_cons.mp hr with rfl | hr
  · exact (by decide : 12 < 16)
  rcases List.mem_cons.mp hr with rfl | hr
  · exact (by decide : 3 < 4)
  rcases List.mem_cons.mp hr with rfl | hr
  · exact (by decide : 3 < 4)
  rcases List.mem_cons.mp hr with rfl | hr
  · exact (by decide : 3 < 4)
  rcases List.mem_cons.mp hr with rfl | hr
  · exact (by decide : 3 < 4)
  rcases List.mem_cons.mp hr with rfl | hr
  · exact (by decide : 3 < 4)
  rcases List.mem_cons.mp hr with rfl | hr
  · exact (by decide : 3 < 4)
  rcases List.mem_cons.mp hr with rfl | hr
  · exact (by decide : 3 < 4)
  rcases List.mem_cons.mp hr with rfl | hr
  · exact (by decide : 0 < 4)
  rcases List.mem_cons.mp hr with rfl | hr
  · exact (by decide : 0 < 4)
  rcases List.mem_cons.mp hr with rfl | hr
  · exact (by decide : 0 < 4)
  rcases List.mem_cons.mp hr with rfl | hr
  · exact (by decide : 0 < 4)
  rcases List.mem_cons.mp hr with rfl | hr
  · exact (by decide : 0 < 4)
  rcases List.mem_cons.mp hr with rfl | hr
  · exact (by decide : 0 < 4)
  rcases List.mem_cons.mp hr with rfl | hr
  · exact (by decide : 0 < 4)
  rcases List.mem_cons.mp hr with rfl | hr
  · exact (by decide : 0 < 4)
  rcases List.mem_cons.mp hr with rfl | hr
  · exact (by decide : 0 < 4)
  rcases List.mem_cons.mp hr with rfl | hr
  · exact (by decide : 3 < 16)
  rcases List.mem_cons.mp hr with rfl | hr
  · exact (by decide : 2 < 16)
  rcases List.mem_cons.mp hr with rfl | hr
  · exact (by decide : 1 < 16)
  rcases List.mem_cons.mp hr with rfl | hr
  · exact (by decide : 0 < 16)
  rcases List.mem_cons.mp hr with rfl | hr
  · exact (by decide : 0 < 4)
  rcases List.mem_cons.mp hr with rfl | hr
  · exact (by decide : 0 < 4)
  rcases List.mem_cons.mp hr with rfl | hr
  · exact (by decide : 0 < 4)
  rcases List.mem_cons.mp hr with rfl | hr
  · exact (by decide : 0 < 4)
  rcases List.mem_cons.mp hr with rfl | hr
  · exact (by decide : 0 < 4)
  rcases List.mem_cons.mp hr with rfl | hr
  · exact (by decide : 0 < 4)
  rcases List.mem_cons.mp hr with rfl | hr
  · exact (by decide : 0 < 4)
  rcases List.mem_cons.mp hr with rfl | hr
  · exact (by decide : 0 < 1)
  rcases List.mem_cons.mp hr with rfl | hr
  · exact (by decide : 0 < 1)
  rcases List.mem_cons.mp hr with rfl | hr
  · exact (by decide : 0 < 1)
  rcases List.mem_cons.mp hr with rfl | hr
  · exact (by decide : 0 < 1)
  rcases List.mem_cons.mp hr with rfl | hr
  · exact ⟨Nat.one_pos, by decide⟩
  rcases List.mem_cons.mp hr with rfl | hr
  · exact ⟨Nat.one_pos, by decide⟩
  rcases List.mem_cons.mp hr with rfl | hr
  · exact (by decide : 0 < 1)
  rcases List.mem_cons.mp hr with rfl | hr
  · exact (by decide : 4 < 5)
  rcases List.mem_cons.mp hr with rfl | hr
  · exact (by decide : 0 < 1)
  rcases List.mem_cons.mp hr with rfl | hr
  · exact (by decide : 0 < 1)
  rcases List.mem_cons.mp hr with rfl | hr
  · exact (by decide : 0 < 1)
  rcases List.mem_cons.mp hr with rfl | hr
  · exact (by decide : 0 < 1)
  rcases List.mem_cons.mp hr with rfl | hr
  · exact (by decide : 0 < 1)
  rcases List.mem_cons.mp hr with rfl | hr
  · exact (by decide : 3 < 5)
  rcases List.mem_cons.mp hr with rfl | hr
  · exact (by decide : 2 < 5)
  rcases List.mem_cons.mp hr with rfl | hr
  · exact (by decide : 1 < 5)
  rcases List.mem_cons.mp hr with rfl | hr
  · exact (by decide : 0 < 5)
  rcases List.mem_cons.mp hr with rfl | hr
  · exact ⟨Nat.one_pos, by decide⟩
  rcases List.mem_cons.mp hr with rfl | hr
  · exact ⟨Nat.one_pos, by decide⟩
  rcases List.mem_cons.mp hr with rfl | hr
  · exact ⟨Nat.one_pos, by decide⟩
  rcases List.mem_cons.mp hr with rfl | hr
  · exact ⟨Nat.one_pos, by decide⟩
  cases hr
theorem memB_of {P : Nat → Nat → Prop} : ∀ {L : List (Nat × Nat)} {j i : Nat}, (∀ r ∈ L, P r.1 r.2) → memB L j i = true → P j i
  | [], _, _, _, h => by cases h
  | r :: L, j, i, hP, h => by
    replace h : ((Nat.beq j r.1 && Nat.beq i r.2) || memB L j i) = true := h
    rw [Bool.or_eq_true, bq2] at h
    rcases h with h | h
    · rw [h.1, h.2]; exact hP r List.mem_cons_self
    · exact memB_of (fun x hx => hP x (List.mem_cons_of_mem _ hx)) h
theorem dO_big {j : Nat} (h : 91 ≤ j) : dO j = none ∧ (dR j).1 = 9 := by
  constructor
  · unfold dO; split <;> first | omega | rfl
  · unfold dR; split <;> first | omega | rfl
theorem acF_iff (j i : Nat) : ac (fun _ => 0) j i ↔ memB RlF j i = true := by
  refine ⟨fun h => ?_, fun h => memB_of acF h⟩
  have b4 : ∀ j', (∀ i, i < 4 → memB RlF j' i = true) → ∀ i, i < 4 → memB RlF j' i = true := fun _ z => z
  unfold ac at h
  split at h
  · exact (by decide : ∀ i, i < 5 → memB RlF 6 i = true) i h
  · exact absurd h (Nat.not_lt_zero _)
  · exact (by decide : ∀ i, i < 1 → memB RlF 9 i = true) i h
  · exact (by decide : ∀ i, i < 1 → memB RlF 10 i = true) i h
  · exact (by decide : ∀ i, i < 1 → memB RlF 11 i = true) i h
  · exact (by decide : ∀ i, i < 1 → memB RlF 12 i = true) i h
  · exact (by decide : ∀ i, i < 1 → memB RlF 13 i = true) i h
  · exact (by decide : ∀ i, i < 1 → memB RlF 14 i = true) i h
  · exact (by decide : ∀ i, i < 1 → memB RlF 15 i = true) i h
  · exact (by decide : ∀ i, i < 1 → memB RlF 16 i = true) i h
  · exact (by decide : ∀ i, i < 1 → memB RlF 17 i = true) i h
  · exact (by decide : ∀ i, i < 1 → memB RlF 18 i = true) i h
  · exact (by decide : ∀ i, i < 4 → memB RlF 21 i = true) i h
  · exact (by decide : ∀ i, i < 4 → memB RlF 22 i = true) i h
  · exact (by decide : ∀ i, i < 4 → memB RlF 23 i = true) i h
  · exact (by decide : ∀ i, i < 4 → memB RlF 24 i = true) i h
  · exact (by decide : ∀ i, i < 4 → memB RlF 25 i = true) i h
  · exact (by decide : ∀ i, i < 4 → memB RlF 26 i = true) i h
  · exact (by decide : ∀ i, i < 4 → memB RlF 27 i = true) i h
  · exact (by decide : ∀ i, i < 4 → memB RlF 28 i = true) i h
  · exact (by decide : ∀ i, i < 4 → memB RlF 29 i = true) i h
  · exact (by decide : ∀ i, i < 4 → memB RlF 30 i = true) i h
  · exact (by decide : ∀ i, i < 4 → memB RlF 31 i = true) i h
  · exact (by decide : ∀ i, i < 4 → memB RlF 32 i = true) i h
  · exact (by decide : ∀ i, i < 4 → memB RlF 33 i = true) i h
  · exact (by decide : ∀ i, i < 4 → memB RlF 34 i = true) i h
  · exact (by decide : ∀ i, i < 16 → memB RlF 35 i = true) i h
  · exact (by decide : ∀ i, i < 4 → memB RlF 36 i = true) i h
  · exact (by decide : ∀ i, i < 4 → memB RlF 37 i = true) i h
  · obtain ⟨h1, h2⟩ := h
    have i0 : i = 0 := by omega
    subst i0
    have hj : j < 91 := by
      by_cases z : j < 91
      · exact z
      · obtain ⟨a, b⟩ := dO_big (j := j) (by omega)
        rcases h2.2 with h2 | h2
        · exact absurd a h2
        · omega
    have key : ∀ j, j < 91 → ((j < 38 ∨ j = 90) ∧ (dO j ≠ none ∨ (dR j).1 < 6)) → j ≠ 7 → memB RlF j 0 = true := by decide +kernel
    exact key j hj h2 (by assumption)
theorem dS_lt {j i f : Nat} {q : Nat × Nat} (h : dS j i f = some q) : f < 42 := by
  unfold dS at h
  split at h <;> first | (cases h; done) | (split at h <;> first | (cases h; done) | omega)
theorem spF : Sp (fun j i => memB RlF j i = true) (mkP PlF) := by
  intro j i f q ha hq
  have hf := dS_lt hq
  have key : ∀ r ∈ RlF, ∀ f, f < 42 → (dS r.1 r.2 f = none ∨ mkP PlF r.1 r.2 f = dS r.1 r.2 f) := by decide +kernel
  have := memB_of (P := fun j i => ∀ f, f < 42 → (dS j i f = none ∨ mkP PlF j i f = dS j i f)) key ha f hf
  rcases this with z | z
  · rw [z] at hq; cases hq
  · rw [z]; exact hq
theorem D_F {h : gH} {qs : List Nat} (R : HL h RlF qs ClF PlF) : D h (Aof RlF qs) (fun _ => 0) (fun _ => 0) (mkC ClF) (mkP PlF) :=
  ⟨HR.act_ R acF_iff, fun j i f q ha hq => spF j i f q ((acF_iff j i).mp ha) hq⟩
theorem HL_0 {h : gH} {t0 : Nat} (h0 : h t0 = some gE0) : HL h Rl0 [t0] Cl0 Pl0 := by
  refine ⟨fun j i ha => ?_, fun j i j' i' ha ha' _ => ?_, fun j i f q ha hr hp => by cases hp⟩
  · have : j = 8 ∧ i = 0 := by
      replace ha : ((Nat.beq j 8 && Nat.beq i 0) || false) = true := ha
      rw [Bool.or_false, bq2] at ha
      exact ha
    obtain ⟨rfl, rfl⟩ := this
    exact ⟨gE0, h0, cell_eq (kt := 3) (J := 8) rfl rfl (Or.inl rfl) rfl⟩
  · have e : ∀ {j i}, memB Rl0 j i = true → j = 8 ∧ i = 0 := fun {j i} ha => by
      replace ha : ((Nat.beq j 8 && Nat.beq i 0) || false) = true := ha
      rw [Bool.or_false, bq2] at ha
      exact ha
    exact ⟨(e ha).1.trans (e ha').1.symm, (e ha).2.trans (e ha').2.symm⟩
theorem HL.ghost {h : gH} {Rl : List (Nat × Nat)} {qs : List Nat} {Cl : List (Nat × Nat × Nat × Int)} {Pl : List (Nat × Nat × Nat × Option (Nat × Nat))} (R : HL h Rl qs Cl Pl) (hm : memB Rl 38 0 = false) : HL h Rl qs ((38, 0, 22, 1) :: Cl) Pl := by
  refine ⟨fun j i ha => ?_, R.2.1, R.2.2⟩
  obtain ⟨e, h1, h2⟩ := R.1 j i ha
  refine ⟨e, h1, ?_⟩
  have hn : ¬ (j = 38 ∧ i = 0) := fun z => by
    rw [z.1, z.2, hm] at ha
    exact Bool.false_ne_true ha
  have q : mkC ((38, 0, 22, 1) :: Cl) j i = mkC Cl j i := by
    rw [show mkC ((38, 0, 22, 1) :: Cl) = up3 (mkC Cl) 38 0 22 1 from (mkT_up 0 Cl 38 0 22 1).symm]
    exact up3_off _ _ hn
  rw [q]
  exact h2
set_option maxRecDepth 20000 in
theorem i_start {t0 : Nat} {h : gH} {Qn : Nat → Nat → gH → Prop} (h0 : h t0 = some gE0) (k0 : ∀ (A : dA) (h' : gH), A 8 0 = t0 → D h' A (fun _ => 0) (fun _ => 0) (mkC ClF) (mkP PlF) → Qn (A 0 0) (A 90 0) h') : nw h (.inr (14, (dO 0).get!.2.map zv)) (fun x h1 => vX11_init t0 (fun h2 => nw h2 (.inl (0, 48, .inl (fun _ => 0))) (fun o h5 => Qn x o h5)) h1 x) := by
  refine i_nw 0 0 (HL_0 h0) rfl rfl rfl (fun _ => cell_o (ks := (dO 0).get!.2) rfl rfl (by decide)) (fun x h1 R1 => ?_)
  refine i_ctrl R1 rfl rfl (fun q1_c q1_2_c q3_2_c q7_2_c q11_2_c q15_2_c q20_2_c q21_2_c q22_2_c q23_2_c q25_2_c q29_2_c q33_2_c q4_c q1_5_c q4_5_c q6_5_c q8_5_c q10_5_c q7_c q1_8_c q3_8_c q4_8_c q6_8_c q8_8_c q11_8_c r120_8_c r121_8_c r122_8_c r123_8_c q12_8_c q15_8_c q16_8_c q19_8_c q20_8_c q22_8_c q24_8_c q28_8_c q33_8_c q10_c q1_11_c q3_11_c q4_11_c q6_11_c q8_11_c q11_11_c r120_11_c r121_11_c r122_11_c r123_11_c q12_11_c q15_11_c q16_11_c q19_11_c q20_11_c q22_11_c q24_11_c q28_11_c q33_11_c q13_c q15_c q1_16_c q3_16_c q4_16_c q6_16_c q8_16_c q11_16_c r120_16_c r121_16_c r122_16_c r123_16_c q12_16_c q15_16_c q16_16_c q19_16_c q20_16_c q22_16_c q24_16_c q28_16_c q33_16_c q18_c q1_19_c q3_19_c q4_19_c q6_19_c q8_19_c q11_19_c r120_19_c r121_19_c r122_19_c r123_19_c q12_19_c q15_19_c q16_19_c q19_19_c q20_19_c q22_19_c q24_19_c q28_19_c q33_19_c q21_c q23_c h2 R2 => ?_)
  refine i_nw 90 0 R2 rfl rfl rfl (fun _ => cell_e0 rfl rfl rfl) (fun o h5 R5 => ?_)
  exact k0 _ h5 rfl (D_F (R5.ghost rfl))
end HLD
