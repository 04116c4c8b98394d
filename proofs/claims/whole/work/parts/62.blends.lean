/-! ===== the reference: the stack of open nodes ===== -/
/-- what is open: nodes that are complete, with weights -/
def opN (C : dC) (i : Nat) : Nat := (C 68 0 i).toNat
def openI (S C : dC) (o : Nat) : Prop := ∀ i : Nat, i < o → 0 ≤ C 68 0 i ∧ C 68 0 i < S 38 0 14 ∧ 0 ≤ C 69 0 i ∧ C 69 0 i ≤ 1000000 ∧ (S 49 0 (opN C i) ≠ -1 ∨ 0 < S 51 0 (opN C i))
noncomputable def opSum (S C : dC) (V : Nat → Int) (c o : Nat) : Int := fb_si (fun i => bl S V 4 (opN C i) (C 69 0 i) c) o
def opMea (dp : Nat → Nat) (C : dC) (o : Nat) : Nat := fb_sm (fun i => 2 ^ dp (opN C i) - 1) o
theorem opSum_succ (S C : dC) (V : Nat → Int) (c o : Nat) : opSum S C V c (o + 1) = opSum S C V c o + bl S V 4 (opN C o) (C 69 0 o) c := fb_si_succ _ _
theorem opMea_succ (dp : Nat → Nat) (C : dC) (o : Nat) : opMea dp C (o + 1) = opMea dp C o + (2 ^ dp (opN C o) - 1) := fb_sm_succ _ _
theorem opSum_cong {S C C1 : dC} {V : Nat → Int} {c o : Nat} (h : ∀ i, i < o → C1 68 0 i = C 68 0 i ∧ C1 69 0 i = C 69 0 i) : opSum S C1 V c o = opSum S C V c o := fb_si_cong fun i hi => by unfold opN; rw [(h i hi).1, (h i hi).2]
theorem opMea_cong {dp : Nat → Nat} {C C1 : dC} {o : Nat} (h : ∀ i, i < o → C1 68 0 i = C 68 0 i) : opMea dp C1 o = opMea dp C o := fb_sm_cong fun i hi => by unfold opN; rw [h i hi]
theorem openI_cong {S C C1 : dC} {o : Nat} (I : openI S C o) (h : ∀ i, i < o → C1 68 0 i = C 68 0 i ∧ C1 69 0 i = C 69 0 i) : openI S C1 o := fun i hi => by
  have := I i hi
  unfold opN at *
  rw [(h i hi).1, (h i hi).2]
  exact this
theorem opSum_pos {S C : dC} (I : SI S) (V : Nat → Int) (c : Nat) : ∀ o : Nat, openI S C o → 0 ≤ opSum S C V c o
  | 0, _ => Int.le_refl _
  | o + 1, H => by
    rw [opSum_succ]
    have h1 := opSum_pos I V c o fun i hi => H i (by omega)
    obtain ⟨a1, a2, a3, a4, a5⟩ := H o (by omega)
    have h2 := (bl_in I V 4 (opN C o) (C 69 0 o) c (by unfold opN; omega) a3).1
    omega
theorem pow_pos2 (d : Nat) (h : 1 ≤ d) : 2 ≤ 2 ^ d := by
  have := Nat.pow_le_pow_right (show 0 < 2 by decide) h
  omega
theorem opMea_le {S C : dC} {dp : Nat → Nat} (hd : ∀ n : Nat, (n : Int) < S 38 0 14 → 1 ≤ dp n ∧ dp n ≤ 4 ∧ ∀ k : Nat, (k : Int) < S 51 0 n → dp (S 52 0 (5 * n + k)).toNat < dp n) : ∀ o : Nat, openI S C o → o ≤ opMea dp C o
  | 0, _ => Nat.le_refl _
  | o + 1, H => by
    rw [opMea_succ]
    have h1 := opMea_le hd o fun i hi => H i (by omega)
    obtain ⟨a1, a2, a3, a4, a5⟩ := H o (by omega)
    have h2 := pow_pos2 _ (hd (opN C o) (by unfold opN; omega)).1
    omega
section BS
variable {h : gH} {A : dA} {N zz : Nat → Nat} {S C C0 : dC} {P : dP}
set_option maxRecDepth 100000 in
set_option maxHeartbeats 4000000 in
theorem r_blends_loop {Qn : gH → Prop} {V T : Nat → Int} {dp : Nat → Nat} (I : SI S) (hd : ∀ n : Nat, (n : Int) < S 38 0 14 → 1 ≤ dp n ∧ dp n ≤ 4 ∧ ∀ k : Nat, (k : Int) < S 51 0 n → dp (S 52 0 (5 * n + k)).toNat < dp n) (hV : ∀ p : Nat, p < 8 → -100 ≤ V p ∧ V p ≤ 100) (hT : ∀ c : Nat, c < 12 → T c ≤ 1000000)
  (k0 : ∀ (h' : gH) (C' : dC), D h' A N zz C' P → (∀ c : Nat, c < 12 → C' 67 0 c = T c) → (∀ j i f : Nat, ¬ (j = 67 ∨ j = 68 ∨ j = 69) → C' j i f = C0 j i f) → Qn h')
  : ∀ (m : Nat) (o : Nat) (h : gH) (C : dC) (v4 : Int32), D h A N zz C P → St S C → C 40 0 = V → v4.toInt = (o : Int) → openI S C o → opMea dp C o ≤ m → m < 16 → (∀ c : Nat, c < 12 → 0 ≤ C 67 0 c) → (∀ c : Nat, c < 12 → C 67 0 c + opSum S C V c o = T c) → (∀ j i f : Nat, ¬ (j = 67 ∨ j = 68 ∨ j = 69) → C j i f = C0 j i f) → vX12_blends_b41 Qn (m + 1) h (A 38 0) v4 := by
  have i1 := I.nn
  have i0 := I.nc
  intro m
  induction m with
  | zero =>
    intro o h C v4 R E hv h4 H hm hm16 hp hs fr
    show vX12_blends_b41_o (vX12_blends_b41 Qn 0) Qn _ _ _; unfold vX12_blends_b41_o
    have e := opMea_le hd o H
    have e0 : o = 0 := by omega
    subst e0
    repeat' (first | ((with_reducible show D _ _ _ _ _ _); with_reducible assumption) | ((with_reducible show ac _ _ _); first | (with_reducible assumption) | exact ⟨Nat.one_pos, by decide⟩ | (unfold ac; omega)) | ((with_reducible show isN _ _); first | exact isN_h (by with_reducible assumption) | with_reducible apply isN_dec | with_reducible apply isN_z | with_reducible apply isN_z2 | with_reducible apply isN_sub | with_reducible apply isN_add | with_reducible apply isN_mul | with_reducible exact isN_lit (by decide) | exact isN_nn (by with_reducible assumption) (by omega)) | ((with_reducible show isV _ _); first | exact isV_h (by with_reducible assumption) | with_reducible apply isV_add | with_reducible apply isV_sub | with_reducible apply isV_mul | with_reducible apply isV_neg | with_reducible apply isV_nar | with_reducible exact isV_lit (by decide) | exact isV_r _) | ((with_reducible show isW _ _); first | exact isW_h (by with_reducible assumption) | with_reducible apply isW_wid | with_reducible apply isW_add | with_reducible apply isW_sub | with_reducible apply isW_mul | with_reducible apply isW_div | with_reducible apply isW_neg | with_reducible exact isW_lit (by decide) | exact isW_r _) | ((with_reducible show dNlt _ _ _ _); (simp only [dNlt, dN, dR, Nat.reduceEqDiff, ↓reduceIte, if_false, Nat.reduceLT] <;> omega)) | ((with_reducible show le31 _); (unfold le31; omega)) | ((with_reducible show le63 _); (unfold le63; omega)) | ((with_reducible show lt31 _); (unfold lt31; omega)) | ((with_reducible show nLe _ _); (unfold nLe; omega)) | ((with_reducible show pos0 _); (unfold pos0; omega)) | ((with_reducible show posn _); (unfold posn; omega)) | ((with_reducible show isB _); (unfold isB; omega)) | ((with_reducible show lt408 _); (unfold lt408; omega)) | ((with_reducible show le63 _ ∧ le63 _); (unfold le63; omega)) | ((with_reducible show le31 _ ∧ le31 _); (unfold le31; omega)) | ((with_reducible show dK _ _ = _); rfl) | ((with_reducible show dK1 _ = _); rfl) | ((with_reducible show dK2 _ = _); rfl) | ((with_reducible show dS _ _ _ = _); rfl) | ((with_reducible show sta _ _ = _); rfl) | ((with_reducible show (_ : Nat) < 99); decide) | ((with_reducible show ∀ _ : Int32, _); (intro x9 h9; (try simp only [up3, eq_self, asb, Nat.add_zero, Nat.zero_add, Nat.reduceEqDiff, false_and, and_false, and_true, true_and, if_true, if_false, ↓reduceIte] at h9); (try replace h9 := st_at (by with_reducible assumption) h9 rfl))) | ((with_reducible show ∀ _ : Int64, _); (intro x9 h9; (try simp only [up3, eq_self, asb, Nat.add_zero, Nat.zero_add, Nat.reduceEqDiff, false_and, and_false, and_true, true_and, if_true, if_false, ↓reduceIte] at h9); (try replace h9 := st_at (by with_reducible assumption) h9 rfl))) | ((with_reducible show ∀ _ : gH, _); (intro h8 R9)) | ((with_reducible show gZ _ ∧ _); refine ⟨gZ_of (by first | decide | omega), ?_⟩) | ((with_reducible show (¬ (_ : Int64) = _) ∧ _); apply wdiv) | ((with_reducible show _ ∧ _); first | refine ⟨fun _ => ?_, fun c9 => absurd c9 (by decide)⟩ | refine ⟨fun c9 => absurd c9 (by decide), fun _ => ?_⟩ | ((refine ⟨fun c9 => ?_, fun c9 => ?_⟩) <;> (try simp only [fa_lt, fa_le, fa_eq, fa_lt64, fa_le64, fa_eq64, Int32.reduceToInt, Int64.reduceToInt, Int32.toInt_toInt64] at c9) <;> (try simp (disch := ((try simp (disch := ((try simp only [Int32.reduceToInt, Int64.reduceToInt]); omega)) only [fb_addI, fb_subI, fb_mulI, Int32.reduceToInt, Int64.reduceToInt]); omega)) only [fb_addI, fb_subI, fb_mulI, fb_addL, fb_subL, Int32.reduceToInt, Int64.reduceToInt] at c9) <;> (first | (exfalso; omega) | skip))) | ((with_reducible show nn _ _); refine nn_i ?_) | ((with_reducible show io _ _ _ _); apply wio) | ((with_reducible show gr _ _ _ _ _); apply wgrs) | ((with_reducible show gi _ _ _ _ _); apply wgi) | ((with_reducible show gl _ _ _ _ _); apply wgl) | ((with_reducible show li _ _ _ _); apply wli) | ((with_reducible show lz _ _ _ _); apply wlz) | ((with_reducible show ll _ _ _ _); apply wll) | ((with_reducible show pv _ _ _ _ (.int _) _); apply wpvI) | ((with_reducible show pv _ _ _ _ (.long _) _); apply wpvL) | ((with_reducible show si _ _ _ _ _); apply wsi) | ((with_reducible show sz _ _ _ _ _); apply wsz) | ((with_reducible show sl _ _ _ _ _); apply wsl) | (intro h9; (try simp only [up3, eq_self, asb, Nat.add_zero, Nat.zero_add, Nat.reduceEqDiff, false_and, and_false, and_true, true_and, if_true, if_false, ↓reduceIte] at h9); (try replace h9 := st_at (by with_reducible assumption) h9 rfl)))
    exact k0 _ _ R (fun c hc => by have := hs c hc; unfold opSum fb_si at this; omega) fr
  | succ m ih =>
    intro o h C v4 R E hv h4 H hm hm16 hp hs fr
    show vX12_blends_b41_o (vX12_blends_b41 Qn (m + 1)) Qn _ _ _
    unfold vX12_blends_b41_o vX12_blends_b105 vX12_blends_b124
    have e := opMea_le hd o H
    cases o with
    | zero =>
      repeat' (first | ((with_reducible show D _ _ _ _ _ _); with_reducible assumption) | ((with_reducible show ac _ _ _); first | (with_reducible assumption) | exact ⟨Nat.one_pos, by decide⟩ | (unfold ac; omega)) | ((with_reducible show isN _ _); first | exact isN_h (by with_reducible assumption) | with_reducible apply isN_dec | with_reducible apply isN_z | with_reducible apply isN_z2 | with_reducible apply isN_sub | with_reducible apply isN_add | with_reducible apply isN_mul | with_reducible exact isN_lit (by decide) | exact isN_nn (by with_reducible assumption) (by omega)) | ((with_reducible show isV _ _); first | exact isV_h (by with_reducible assumption) | with_reducible apply isV_add | with_reducible apply isV_sub | with_reducible apply isV_mul | with_reducible apply isV_neg | with_reducible apply isV_nar | with_reducible exact isV_lit (by decide) | exact isV_r _) | ((with_reducible show isW _ _); first | exact isW_h (by with_reducible assumption) | with_reducible apply isW_wid | with_reducible apply isW_add | with_reducible apply isW_sub | with_reducible apply isW_mul | with_reducible apply isW_div | with_reducible apply isW_neg | with_reducible exact isW_lit (by decide) | exact isW_r _) | ((with_reducible show dNlt _ _ _ _); (simp only [dNlt, dN, dR, Nat.reduceEqDiff, ↓reduceIte, if_false, Nat.reduceLT] <;> omega)) | ((with_reducible show le31 _); (unfold le31; omega)) | ((with_reducible show le63 _); (unfold le63; omega)) | ((with_reducible show lt31 _); (unfold lt31; omega)) | ((with_reducible show nLe _ _); (unfold nLe; omega)) | ((with_reducible show pos0 _); (unfold pos0; omega)) | ((with_reducible show posn _); (unfold posn; omega)) | ((with_reducible show isB _); (unfold isB; omega)) | ((with_reducible show lt408 _); (unfold lt408; omega)) | ((with_reducible show le63 _ ∧ le63 _); (unfold le63; omega)) | ((with_reducible show le31 _ ∧ le31 _); (unfold le31; omega)) | ((with_reducible show dK _ _ = _); rfl) | ((with_reducible show dK1 _ = _); rfl) | ((with_reducible show dK2 _ = _); rfl) | ((with_reducible show dS _ _ _ = _); rfl) | ((with_reducible show sta _ _ = _); rfl) | ((with_reducible show (_ : Nat) < 99); decide) | ((with_reducible show ∀ _ : Int32, _); (intro x9 h9; (try simp only [up3, eq_self, asb, Nat.add_zero, Nat.zero_add, Nat.reduceEqDiff, false_and, and_false, and_true, true_and, if_true, if_false, ↓reduceIte] at h9); (try replace h9 := st_at (by with_reducible assumption) h9 rfl))) | ((with_reducible show ∀ _ : Int64, _); (intro x9 h9; (try simp only [up3, eq_self, asb, Nat.add_zero, Nat.zero_add, Nat.reduceEqDiff, false_and, and_false, and_true, true_and, if_true, if_false, ↓reduceIte] at h9); (try replace h9 := st_at (by with_reducible assumption) h9 rfl))) | ((with_reducible show ∀ _ : gH, _); (intro h8 R9)) | ((with_reducible show gZ _ ∧ _); refine ⟨gZ_of (by first | decide | omega), ?_⟩) | ((with_reducible show (¬ (_ : Int64) = _) ∧ _); apply wdiv) | ((with_reducible show _ ∧ _); first | refine ⟨fun _ => ?_, fun c9 => absurd c9 (by decide)⟩ | refine ⟨fun c9 => absurd c9 (by decide), fun _ => ?_⟩ | ((refine ⟨fun c9 => ?_, fun c9 => ?_⟩) <;> (try simp only [fa_lt, fa_le, fa_eq, fa_lt64, fa_le64, fa_eq64, Int32.reduceToInt, Int64.reduceToInt, Int32.toInt_toInt64] at c9) <;> (try simp (disch := ((try simp (disch := ((try simp only [Int32.reduceToInt, Int64.reduceToInt]); omega)) only [fb_addI, fb_subI, fb_mulI, Int32.reduceToInt, Int64.reduceToInt]); omega)) only [fb_addI, fb_subI, fb_mulI, fb_addL, fb_subL, Int32.reduceToInt, Int64.reduceToInt] at c9) <;> (first | (exfalso; omega) | skip))) | ((with_reducible show nn _ _); refine nn_i ?_) | ((with_reducible show io _ _ _ _); apply wio) | ((with_reducible show gr _ _ _ _ _); apply wgrs) | ((with_reducible show gi _ _ _ _ _); apply wgi) | ((with_reducible show gl _ _ _ _ _); apply wgl) | ((with_reducible show li _ _ _ _); apply wli) | ((with_reducible show lz _ _ _ _); apply wlz) | ((with_reducible show ll _ _ _ _); apply wll) | ((with_reducible show pv _ _ _ _ (.int _) _); apply wpvI) | ((with_reducible show pv _ _ _ _ (.long _) _); apply wpvL) | ((with_reducible show si _ _ _ _ _); apply wsi) | ((with_reducible show sz _ _ _ _ _); apply wsz) | ((with_reducible show sl _ _ _ _ _); apply wsl) | (intro h9; (try simp only [up3, eq_self, asb, Nat.add_zero, Nat.zero_add, Nat.reduceEqDiff, false_and, and_false, and_true, true_and, if_true, if_false, ↓reduceIte] at h9); (try replace h9 := st_at (by with_reducible assumption) h9 rfl)))
      exact k0 _ _ R (fun c hc => by have := hs c hc; unfold opSum fb_si at this; omega) fr
    | succ o =>
      obtain ⟨a1, a2, a3, a4, a5⟩ := H o (by omega)
      have ho : ((opN C o : Nat) : Int) = C 68 0 o := by unfold opN; omega
      obtain ⟨d1, d2, d3⟩ := hd (opN C o) (by omega)
      have n1 := I.ncl (opN C o) (by omega)
      have hme := opMea_succ dp C o
      have hp2 := pow_pos2 _ d1
      have Hlo : openI S C o := fun i hi => H i (by omega)
      have hdec : (v4 + -1).toInt = (o : Int) := (ix_dec (x := o + 1) h4 (by omega)).trans (by omega)
      sorry
end BS
