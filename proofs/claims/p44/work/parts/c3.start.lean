/-! ===== what holds once the controller is made; the law from its start ===== -/
section LZ
abbrev cF : dC := mkC ClF
abbrev pF : dP := mkP PlF
theorem z40 : cF 40 0 = fun _ => 0 := mkC_z (by decide +kernel)
theorem q2F (f : Nat) : cF 2 0 f = 0 := congrFun (mkC_z (L := ClF) (j := 2) (i := 0) (by decide +kernel)) f
theorem q22F (f : Nat) : cF 22 0 f = 0 := congrFun (mkC_z (L := ClF) (j := 22) (i := 0) (by decide +kernel)) f
theorem q41F (f : Nat) : cF 41 0 f = 0 := congrFun (mkC_z (L := ClF) (j := 41) (i := 0) (by decide +kernel)) f
theorem q42F (f : Nat) : cF 42 0 f = 0 := congrFun (mkC_z (L := ClF) (j := 42) (i := 0) (by decide +kernel)) f
theorem q45F (f : Nat) : cF 45 0 f = 0 := congrFun (mkC_z (L := ClF) (j := 45) (i := 0) (by decide +kernel)) f
theorem q51F (f : Nat) : cF 51 0 f = 0 := congrFun (mkC_z (L := ClF) (j := 51) (i := 0) (by decide +kernel)) f
theorem q57F (f : Nat) : cF 57 0 f = 0 := congrFun (mkC_z (L := ClF) (j := 57) (i := 0) (by decide +kernel)) f
theorem q58F (f : Nat) : cF 58 0 f = 0 := congrFun (mkC_z (L := ClF) (j := 58) (i := 0) (by decide +kernel)) f
theorem q63F (f : Nat) : cF 63 0 f = 0 := congrFun (mkC_z (L := ClF) (j := 63) (i := 0) (by decide +kernel)) f
theorem e3F : cF 38 0 3 = 0 := by decide +kernel
theorem e8F : cF 38 0 8 = 0 := by decide +kernel
theorem e14F : cF 38 0 14 = 0 := by decide +kernel
theorem e19F : cF 38 0 19 = 0 := by decide +kernel
theorem e21F : cF 38 0 21 = 0 := by decide +kernel
theorem e22F : cF 38 0 22 = 1 := by decide +kernel
theorem e24F : cF 38 0 24 = 0 := by decide +kernel
theorem SI_0 : SI cF := ⟨(by rw [e3F]; decide), (fun p _ => by rw [q42F]; decide), (by rw [e8F]; decide), (fun c h => by rw [e8F] at h; exfalso; omega), (fun c _ => by rw [q45F]; decide), (fun c k h _ => by rw [e8F] at h; exfalso; omega), (by rw [e14F]; decide), (fun n h => by rw [e14F] at h; exfalso; omega), (fun n h _ => by rw [e14F] at h; exfalso; omega), (fun n _ => by rw [q51F]; decide), (fun n _ _ => q51F n), (fun n k h _ => by rw [e14F] at h; exfalso; omega), (fun n k h _ => by rw [e14F] at h; exfalso; omega), (fun n k l h _ _ _ => by rw [e14F] at h; exfalso; omega), (fun n k h _ => by rw [e14F] at h; exfalso; omega), (⟨fun _ => 1, fun n h => by rw [e14F] at h; exfalso; omega⟩), (by rw [e19F]; decide), (fun s h => by rw [e19F] at h; exfalso; omega), (fun s h => by rw [e19F] at h; exfalso; omega), (fun s h => by rw [e19F] at h; exfalso; omega), (fun s _ => Or.inl (q57F s)), (fun s _ => by rw [q58F]; decide), (by rw [e21F]; decide), (fun t h => by rw [e21F] at h; exfalso; omega), (fun t h => by rw [e21F] at h; exfalso; omega), (fun t h => by rw [e21F] at h; exfalso; omega), (fun t h => by rw [e21F] at h; exfalso; omega), (fun t h _ => by rw [e21F] at h; exfalso; omega), (fun t h => by rw [e21F] at h; exfalso; omega), (fun t h => by rw [e21F] at h; exfalso; omega), (fun t h => by rw [e21F] at h; exfalso; omega), (fun t h => by rw [e21F] at h; exfalso; omega), (fun t k h _ => by rw [e21F] at h; exfalso; omega), (fun t k h _ => by rw [e21F] at h; exfalso; omega), (by rw [e22F]; decide), (by rw [e24F]; decide), (fun i _ => by rw [q63F]; decide)⟩
theorem lists0 : ∀ i : Nat, i < 5 → cF 6 i 2 = 0 ∧ pF 6 i 1 = some (8, 0) := by decide +kernel
theorem KS_0 : KS cF (fun _ => 0) (fun _ => 0) cF pF := by
  have K : KS0 cF (fun _ => 0) (fun _ => 0) cF pF := ⟨(by decide +kernel), (fun p h => by rw [e3F] at h; exfalso; omega), (by decide +kernel), (by decide +kernel), (fun n h => (Nat.not_lt_zero _ h).elim), (⟨e8F.symm, e14F.symm, e19F.symm, e21F.symm⟩), (fun i h => Or.inl (lists0 i h)), (fun i i' a h _ h2 => by rw [(lists0 i h).2] at h2; cases h2), (fun _ _ _ h => (Nat.not_lt_zero _ h).elim), (fun _ _ _ h => (Nat.not_lt_zero _ h).elim), (fun _ _ _ h => (Nat.not_lt_zero _ h).elim), (fun _ _ _ h => (Nat.not_lt_zero _ h).elim), (⟨fun _ _ => 0, fun _ h => (Nat.not_lt_zero _ h).elim⟩), (fun _ _ h _ => (Nat.not_lt_zero _ h).elim), (fun _ h => (Nat.not_lt_zero _ h).elim), (fun _ h => (Nat.not_lt_zero _ h).elim), (fun _ _ h _ => (Nat.not_lt_zero _ h).elim), (fun _ h => (Nat.not_lt_zero _ h).elim), (fun _ h => (Nat.not_lt_zero _ h).elim), (fun _ h => (Nat.not_lt_zero _ h).elim), (fun _ _ h _ => (Nat.not_lt_zero _ h).elim), (⟨by decide +kernel, fun i h => by rw [e24F] at h; exfalso; omega⟩)⟩
  exact K
theorem q90F (f : Nat) : cF 90 0 f = 0 := congrFun (mkC_z (L := ClF) (j := 90) (i := 0) (by decide +kernel)) f
theorem CP_0x : CP cF 0 (rsM 287) rsM cF pF :=
  ⟨(fun p hp => (q22F p).trans (if_neg (by omega)).symm), (by decide +kernel : cF 21 0 8 = 0), (by decide +kernel : cF 21 0 9 = 0), (by decide +kernel : cF 33 0 1 = 0), (by decide +kernel : cF 21 0 6 = 0), (fun _ => by decide +kernel), (fun z => absurd z (by decide)), (fun z => by rw [e19F] at z; exfalso; omega), ⟨(by decide +kernel : cF 23 0 1 = 0), (by decide +kernel : cF 23 0 2 = 0), fun z => by rw [e19F] at z; exfalso; omega⟩, (fun z => absurd z (by decide)), (fun z => absurd z (by decide)), (fun e w h _ => by have h : (e : Int) < 0 := h; exfalso; omega), (by decide +kernel)⟩
theorem EMP_0 : EMP cF := ⟨SI_0, e3F, e8F, e14F, e19F, e21F, q45F, q51F⟩
theorem WB_0 {A : dA} {h : gH} {t0 : Nat} (e : A 8 0 = t0) (R : D h A (fun _ => 0) (fun _ => 0) (mkC ClF) (mkP PlF)) : WB t0 (A 0 0) (A 90 0) cF (fun _ => 0) h := ⟨A, _, _, cF, pF, ⟨e, rfl, rfl⟩, R, KS_0, CP_0x, q90F, fun s _ => q2F s⟩
theorem GD_rs {S : dC} {E : Nat → Int} (L : LSt S E) : GD S (100 * ((0 : Nat) : Int)) rsM := ⟨L.1, MI_rs0, FZ.no (by decide), by rw [L.2.2.1]; decide, by decide, by decide, by decide⟩
/-- the law answers 1 -/
theorem law_start {t0 : Nat} {h : gH} (h0 : h t0 = some gE0) : vL_law t0 (fun y _ => y = 1) h := by
  unfold vL_law
  refine i_start h0 (fun A h1 e R => ?_)
  have W := WB_0 e R
  generalize A 0 0 = x at W ⊢
  generalize A 90 0 = ea at W ⊢
  refine w_tick0 W SI_0 (tb := 0) MI_rs0 (by decide) rfl e19F (by decide) ⟨fun c => absurd rfl c, fun _ => ?_⟩
  refine w_size W SI_0 (tb := 0) MI_rs0 (fun y h2 W hy => ?_)
  have q : (qpose cF rsM).1 = 0 := by
    unfold qpose
    rw [if_pos e19F]
    rfl
  rw [q] at hy
  refine cne32 hy (vl (by decide)) (fun c => absurd rfl c) (fun _ => ?_)
  refine w_ast1 W SI_0 (Or.inr (by rw [e14F]; decide)) ⟨fun _ => ?_, fun c => absurd rfl c⟩
  refine w_builds EMP_0 W (fun S E h3 L W => ?_)
  refine w_cell (by decide) (fun z => ?_)
  refine w_low (c := 6) (vl (by decide)) (by decide) (fun y a b => ?_)
  obtain ⟨T, hT⟩ : ∃ T : Nat, 1 + y.toInt = (T : Int) := ⟨(1 + y.toInt).toNat, by omega⟩
  have e1 : (1 + y).toInt = (T : Int) := (add_ti (vl (by decide)) rfl (by omega)).trans hT
  exact rounds L e1 (by omega) (fun _ => rfl) T 0 8 h3 0 rsM (fun _ => none) (Nat.zero_add T) (by omega) (by decide) (GD_rs L) (by decide) W
end LZ
