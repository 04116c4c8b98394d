/-! ===== the reference reads an attribute ===== -/
section RAT
variable {h : gH} {A : dA} {N zz : Nat → Nat} {S W C C' C0 : dC} {P : dP} {i n : Nat} {ad : Bool} {fi : Int} {r : dM}
theorem sh1 : ∀ e : Nat, e < 16 → ∀ k : Nat, k < 4 → ((((Int32.ofNat e >>> (Int32.ofNat k &&& 31)) &&& 1) = 0) ↔ e / 2 ^ k % 2 = 0) := by decide
theorem sh2 : ∀ k : Nat, k < 4 → ((1 : Int32) <<< (Int32.ofNat k &&& 31)) = Int32.ofNat (2 ^ k) := by decide
theorem sh3 : ∀ e : Nat, e < 16 → (Int32.ofNat e ||| 0) = Int32.ofNat e := by decide
theorem sh4 : ∀ e : Nat, e < 32 → (Int32.ofNat e).toInt = (e : Int) := by decide
theorem i32_of {x : Int32} {e : Nat} (h : x.toInt = (e : Int)) (he : e < 32) : x = Int32.ofNat e := Int32.toInt.inj (h.trans (sh4 e he).symm)
/-- the frame of an attribute -/
def Fy (ad : Bool) (n : Nat) (C C' : dC) : Prop := ∀ j x f : Nat, ¬ (j = 38 ∧ (f = 30 ∨ f = 31 ∨ f = 33 ∨ f = 35 ∨ f = 36)) → ¬ (ad = true ∧ j = 60 ∧ 17 * n ≤ f ∧ f < 17 * n + 17) → C' j x f = C j x f
theorem Fw2.y (a : Fw2 ad n C C') : Fy ad n C C' := fun j x f h g => a j x f (by omega) g
theorem Fy.tr {C1 : dC} (a : Fy ad n C C') (b : Fy ad n C' C1) : Fy ad n C C1 := fun j x f h g => (b j x f h g).trans (a j x f h g)
theorem Fy.rf (C : dC) : Fy ad n C C := fun _ _ _ _ _ => rfl
theorem RT.oth {h' : gH} {f : Nat} {v : Int} (Z : RT h A N zz W C P ad i fi) (hf : f = 34 ∨ f = 35 ∨ f = 36) (R : D h' A N zz (up3 C 38 0 f v) P) : RT h' A N zz W (up3 C 38 0 f v) P ad i fi := by
  obtain ⟨R0, T, e1, e2, e3, hi⟩ := Z
  exact ⟨R, T.fz (fun j g hj => up3_ne _ _ (by omega)), (up3_ne _ _ (by omega)).trans e1, (up3_ne _ _ (by omega)).trans e2, (up3_ne _ _ (by omega)).trans e3, hi⟩
theorem RW.oth {f : Nat} {v : Int} (w : RW ad n r C) (hf : f = 34 ∨ f = 35 ∨ f = 36) : RW ad n r (up3 C 38 0 f v) := fun z => by
  obtain ⟨w1, w2⟩ := w z
  exact ⟨(up3_ne _ _ (by omega)).trans w1, fun k hk => (up3_ne _ _ (by omega)).trans (w2 k hk)⟩
theorem t_sets {Qn : gH → Prop} {v1 v2 : Int32} {m : Nat} {v : Int} (Z : RT h A N zz W C P ad i 1) (w : RW ad n r C) (hn : n < 24) (h1 : v1.toInt = (m : Int)) (hm : m < 17) (h2 : v2.toInt = v) (k0 : ∀ (h' : gH) (C' : dC), RT h' A N zz W C' P ad i 1 → RW ad n (um r m v) C' → Fw2 ad n C C' → Qn h') : vX12_sets Qn h (A 38 0) v1 v2 := by
  unfold vX12_sets vX12_sets_b31
  refine t_fi Z (fun x1 hx1 => ceq32 hx1 (vl (by decide)) (fun z => absurd z (by decide)) (fun _ => t_ad Z (fun x2 hx2 => ?_)))
  cases ad with
  | false =>
    have hx2 : x2.toInt = 0 := hx2
    exact ceq32 hx2 (vl (by decide)) (fun _ => k0 h C Z (fun z => by cases z) (Fz.rf C).w2) (fun z => by omega)
  | true =>
    have hx2 : x2.toInt = 1 := hx2
    obtain ⟨w1, w2⟩ := w rfl
    have a60 : ac N 60 0 := ⟨Nat.one_pos, by decide⟩
    refine ceq32 hx2 (vl (by decide)) (fun z => by omega) (fun _ => wgrs Z.1 a38 rfl (show dS 38 0 20 = some (60, 0) from rfl) (ygi Z.1 a38 rfl w1 (fun x4 hx4 => nn_i ?_)))
    have e1 : (x4 - 1).toInt = ((n : Nat) : Int) := (sub_ti hx4 (vl (by decide)) (by omega)).trans (by omega)
    have e2 : (17 * (x4 - 1) + v1).toInt = ((17 * n + m : Nat) : Int) := ix_add (ix_mul (ix_lit (by decide)) e1 (by clear e1; omega)) h1 (by clear e1; omega)
    generalize 17 * (x4 - 1) + v1 = y at *
    clear e1
    refine wsi Z.1 a60 rfl e2 (show 17 * n + m < 408 by omega) h2 (fun h6 R6 => ?_)
    obtain ⟨R, T, t1, t2, t3, hi⟩ := Z
    refine k0 h6 _ ⟨R6, T.fz (fun j f hj => up3_ne _ _ (by omega)), (up3_ne _ _ (by omega)).trans t1, (up3_ne _ _ (by omega)).trans t2, (up3_ne _ _ (by omega)).trans t3, hi⟩ (fun _ => ⟨(up3_ne _ _ (by omega)).trans w1, fun k hk => ?_⟩) (fun j x f g1 g2 => up3_ne _ _ (fun y => g2 ⟨rfl, y.1, by omega, by omega⟩))
    by_cases z : k = m
    · rw [z, um_s, up3_same]
    · rw [um_n _ _ z, up3_ne _ _ (by omega)]
      exact w2 k hk
theorem t_setsn {Qn : gH → Prop} {v1 v2 : Int32} (Z : RT h A N zz W C P ad i 0) (k0 : Qn h) : vX12_sets Qn h (A 38 0) v1 v2 := by
  unfold vX12_sets vX12_sets_b31
  exact t_fi Z (fun x1 hx1 => ceq32 hx1 (vl (by decide)) (fun _ => k0) (fun y => absurd rfl y))
/-- what an attribute's reading leaves -/
def AY (Qn : gH → Prop) (A : dA) (N zz : Nat → Nat) (W C : dC) (P : dP) (ad : Bool) (n : Nat) (x : Nat × Option (Nat × dM)) : Prop := (∀ (q e' : Nat) (r' : dM), x = (q, some (e', r')) → ∀ (h' : gH) (C' : dC), RT h' A N zz W C' P ad q 1 → RW ad n r' C' → Fy ad n C C' → C' 38 0 35 = (e' : Int) → C' 38 0 36 = r' 7 → Qn h') ∧ (∀ q : Nat, x = (q, none) → ∀ (h' : gH) (C' : dC), RT h' A N zz W C' P ad q 0 → Fy ad n C C' → Qn h')
theorem AY.mv {Qn : gH → Prop} {x : Nat × Option (Nat × dM)} (X : AY Qn A N zz W C P ad n x) (f : Fy ad n C C') : AY Qn A N zz W C' P ad n x := ⟨fun q e' r' e h' C1 z w g => X.1 q e' r' e h' C1 z w (f.tr g), fun q e h' C1 z g => X.2 q e h' C1 z (f.tr g)⟩
theorem t_b66 {Qn : gH → Prop} {s0 : Int32} {k p e : Nat} (Z : RT h A N zz W C P ad p 1) (IW : SI W) (w : RW ad n r C) (hn : n < 24) (hs : s0 = Int32.ofNat k) (hk : k = sgn (tb W p)) (k6 : k < 6) (he : e < 16) (e35 : C 38 0 35 = (e : Int)) (e36 : C 38 0 36 = r 7) (h7 : 0 ≤ r 7 ∧ r 7 ≤ 3) (X : AY Qn A N zz W C P ad n (if k = 5 then (p, none) else pOne W k p e r)) : vX12_readsAttribute_b66 Qn h (A 38 0) s0 := by
  have tl := (W_len IW).2
  have hsk : s0.toInt = (k : Int) := by rw [hs]; exact sh4 k (by omega)
  unfold vX12_readsAttribute_b66
  have bad : (if k = 5 then (p, none) else pOne W k p e r) = (p, none) → vX12_readsAttribute_b110 Qn h (A 38 0) s0 0 (A 38 0) := fun z => by
    unfold vX12_readsAttribute_b110
    rw [z] at X
    exact ⟨gZ_of (by decide), t_wfi Z (v := 0) (by decide) (fun hA CA ZA fA => t_fi ZA (fun x2 h2 => cne32 h2 (vl (by decide)) (fun y => absurd rfl y) (fun _ => X.2 p rfl hA CA ZA fA.w2.y)))⟩
  have good : k ≠ 5 → ¬ ((k < 4 ∧ e / 2 ^ k % 2 = 1) ∨ (¬ k < 4 ∧ 3 ≤ r 7)) → vX12_readsAttribute_b110 Qn h (A 38 0) s0 1 (A 38 0) := fun k5 ok => by
    have hp := tb_in (W := W) (i := p) (sgn_in (by omega))
    have k5' : k < 5 := by omega
    rw [if_neg k5, pOne_yes k5' ok] at X
    unfold vX12_readsAttribute_b110
    refine ⟨gZ_of (by decide), t_wfi Z (v := 1) (by decide) (fun hA CA ZA fA => t_fi ZA (fun x2 h2 => cne32 h2 (vl (by decide)) (fun _ => ?_) (fun y => absurd y (by decide))))⟩
    refine t_at ZA (fun x3 hx3 => t_wat ZA (m := p + 1) (ix_add hx3 (ix_lit (by decide)) (by omega)) (by omega) (fun hB CB ZB fB => ?_))
    have f2 := fA.tr fB
    have XB := X.mv f2.w2.y
    have wB := w.fz f2
    have e35B : CB 38 0 35 = (e : Int) := (f2 _ _ _ (by omega)).trans e35
    have e36B : CB 38 0 36 = r 7 := (f2 _ _ _ (by omega)).trans e36
    refine ygi ZB.1 a38 rfl e35B (fun x5 hx5 => ?_)
    have x5e := i32_of hx5 (by omega)
    -- behind the sign
    have b148 : ∀ s1 : Int32, (x5 ||| s1).toInt = ((if k < 4 then e + pw k else e : Nat) : Int) → vX12_readsAttribute_b148 Qn hB (A 38 0) s0 s1 x5 (A 38 0) := fun s1 hs1 => by
      unfold vX12_readsAttribute_b148
      refine wpvI ZB.1 a38 rfl hs1 (fun hC RC => ?_)
      have ZC := ZB.oth (Or.inr (Or.inl rfl)) RC
      have wC : RW ad n r (up3 CB 38 0 35 ((if k < 4 then e + pw k else e : Nat) : Int)) := wB.oth (Or.inr (Or.inl rfl))
      have fC : Fy ad n CB (up3 CB 38 0 35 ((if k < 4 then e + pw k else e : Nat) : Int)) := fun j x f g _ => up3_ne _ _ (by omega)
      have XC := XB.mv fC
      have e35C : up3 CB 38 0 35 ((if k < 4 then e + pw k else e : Nat) : Int) 38 0 35 = ((if k < 4 then e + pw k else e : Nat) : Int) := up3_same _ _ _ _ _
      have e36C : up3 CB 38 0 35 ((if k < 4 then e + pw k else e : Nat) : Int) 38 0 36 = r 7 := (up3_ne _ _ (by omega)).trans e36B
      generalize up3 CB 38 0 35 ((if k < 4 then e + pw k else e : Nat) : Int) = CC at *
      -- a number's attribute
      have num : ∀ (m : Nat) (most what : Int32), k = m → m < 3 → most.toInt = mst m → what.toInt = ((3 + m : Nat) : Int) → ∀ K : gH → Prop, (∀ h2 : gH, gi h2 (A 38 0) 15 33 (fun x1 => io h2 (A 38 0) 15 (vX12_sets (fun h2 => Qn h2) h2 (A 38 0) what x1)) → K h2) → io hC (A 38 0) 15 (vX12_readsNumber (fun h1 => K h1) hC (A 38 0) most) := fun m most what hm m3 hmost hwhat K kk => by
        unfold pBody at XC
        rw [if_pos (by omega)] at XC
        refine io38_ ZC.1 (t_num ZC IW (Or.inr rfl) (by rw [hmost, ← hm]) (fun _ q v en hD CD_ ZD fD e33 => kk hD (ygi ZD.1 a38 rfl e33 (fun x1 hx1 => io38_ ZD.1 ?_))) (fun q en hD CD_ ZD fD => kk hD (ygi ZD.1 a38 rfl rfl (fun x1 _ => io38_ ZD.1 (t_setsn ZD ?_)))))
        · rw [en] at XC
          refine t_sets ZD (wC.fz fD) hn hwhat (by omega) hx1 (fun hE CE ZE wE fE => XC.1 q _ (um r (3 + k) v) rfl hE CE ZE (by rw [hm]; exact wE) (fD.w2.y.tr fE.y) ?_ ?_)
          · rw [fE _ _ _ (by omega) (by omega), fD _ _ _ (by omega), e35C]
            rfl
          · rw [fE _ _ _ (by omega) (by omega), fD _ _ _ (by omega), e36C, um_n _ _ (by omega)]
        · have en := en.elim (fun y => absurd y.1 (by decide)) (fun y => y.2)
          rw [en] at XC
          exact XC.2 q rfl hD CD_ ZD fD.w2.y
      unfold vX12_readsAttribute_b211 vX12_readsAttribute_b233 vX12_readsAttribute_b240
      refine cne32 hsk (vl (by decide)) (fun n4 => cne32 hsk (vl (by decide)) (fun n3 => cne32 hsk (vl (by decide)) (fun n0 => cne32 hsk (vl (by decide)) (fun n1 => ?_) (fun n1 => ?_)) (fun n0 => ?_)) (fun n3 => ?_)) (fun n4 => ?_)
      · exact num 2 4 5 (by omega) (by decide) (by decide) (by decide) _ (fun h2 g => cne32 hsk (vl (by decide)) (fun _ => cne32 hsk (vl (by decide)) (fun _ => g) (fun y => absurd y n1)) (fun y => absurd y n0))
      · exact num 1 99 4 (by omega) (by decide) (by decide) (by decide) _ (fun h2 g => cne32 hsk (vl (by decide)) (fun _ => cne32 hsk (vl (by decide)) (fun y => absurd n1 y) (fun _ => g)) (fun y => absurd y n0))
      · exact num 0 300 3 (by omega) (by decide) (by decide) (by decide) _ (fun h2 g => cne32 hsk (vl (by decide)) (fun y => absurd n0 y) (fun _ => g))
      · have k3 : k = 3 := by omega
        unfold pBody at XC
        rw [if_neg (by omega), if_pos k3] at XC
        refine io38_ ZC.1 (t_sets ZC wC hn (m := 6) (by decide) (by decide) (v := 1) (by decide) (fun hE CE ZE wE fE => XC.1 (p + 1) _ (um r 6 1) rfl hE CE ZE wE fE.y ?_ ?_))
        · rw [fE _ _ _ (by omega) (by omega), e35C]
          rfl
        · rw [fE _ _ _ (by omega) (by omega), e36C, um_n _ _ (by omega)]
      · have k4 : k = 4 := by omega
        have h73 : r 7 < 3 := by
          rcases Int.lt_or_le (r 7) 3 with y | y
          · exact y
          · exact absurd (Or.inr ⟨by omega, y⟩) ok
        unfold pBody at XC
        rw [if_neg (by omega), if_neg (by omega)] at XC
        refine ygi ZC.1 a38 rfl e36C (fun x3 hx3 => wpvI ZC.1 a38 rfl (v := r 7 + 1) (add_ti hx3 (vl (by decide)) (by omega)) (fun hD RD => io38_ RD ?_))
        have ZD := ZC.oth (Or.inr (Or.inr rfl)) RD
        have wD : RW ad n r (up3 CC 38 0 36 (r 7 + 1)) := wC.oth (Or.inr (Or.inr rfl))
        have fD : Fy ad n CC (up3 CC 38 0 36 (r 7 + 1)) := fun j x f g _ => up3_ne _ _ (by omega)
        have e35D : up3 CC 38 0 36 (r 7 + 1) 38 0 35 = ((if k < 4 then e + pw k else e : Nat) : Int) := (up3_ne _ _ (by omega)).trans e35C
        have e36D : up3 CC 38 0 36 (r 7 + 1) 38 0 36 = r 7 + 1 := up3_same _ _ _ _ _
        generalize up3 CC 38 0 36 (r 7 + 1) = CD_ at *
        refine t_cond ZD IW wD hn ⟨h7.1, h73⟩ ⟨fun q a o v en hE CE ZE wE fE => ?_, fun q en hE CE ZE fE => ?_⟩
        · rw [en] at XC
          refine XC.1 q _ (addC r a o v) rfl hE CE ZE wE (fD.tr fE.y) ?_ ?_
          · rw [fE _ _ _ (by omega) (by omega), e35D]
            rfl
          · rw [fE _ _ _ (by omega) (by omega), e36D]
            exact (um_s _ _ _).symm
        · rw [en] at XC
          exact XC.2 q rfl hE CE ZE (fD.tr fE.y)
    refine cle32 (vl (by decide)) hsk (fun z => b148 0 ?_) (fun z => b148 _ ?_)
    · rw [x5e, sh3 e he, if_neg (by omega)]
      exact sh4 e (by omega)
    · have k4 : k < 4 := by omega
      have nb : e / 2 ^ k % 2 = 0 := by
        have : ¬ e / 2 ^ k % 2 = 1 := fun y => ok (Or.inl ⟨k4, y⟩)
        omega
      rw [x5e, hs, sh2 k k4, se_or e he k k4 nb, if_pos k4]
      have lt := se_lt e he k k4 nb
      show (Int32.ofNat (e + 2 ^ k)).toInt = ((e + 2 ^ k : Nat) : Int)
      exact sh4 _ (by omega)
  refine cle32 (vl (by decide)) hsk (fun z => cne32 hsk (vl (by decide)) (fun y => ?_) (fun y => ?_)) (fun z => ygi Z.1 a38 rfl e35 (fun x2 hx2 => ?_))
  · have k5 : k = 5 := by omega
    unfold vX12_readsAttribute_b109
    exact bad (by rw [if_pos k5])
  · have k4 : k = 4 := by omega
    unfold vX12_readsAttribute_b109
    refine ygi Z.1 a38 rfl e36 (fun x1 hx1 => cle32 (vl (by decide)) hx1 (fun u => bad ?_) (fun u => good (by omega) (fun q => ?_)))
    · rw [if_neg (by omega)]
      exact pOne_no (Or.inr ⟨by omega, u⟩)
    · rcases q with ⟨q, _⟩ | ⟨_, q⟩
      · omega
      · exact u q
  · have k4 : k < 4 := by omega
    have x2e := i32_of hx2 (by omega)
    have s1 : (((x2 >>> (s0 &&& 31)) &&& 1) = 0) ↔ e / 2 ^ k % 2 = 0 := by
      rw [x2e, hs]
      exact sh1 e he k k4
    refine ⟨fun y => bad ?_, fun y => good (by omega) (fun q => ?_)⟩
    · rw [if_neg (by omega)]
      refine pOne_no (Or.inl ⟨k4, ?_⟩)
      have : ¬ e / 2 ^ k % 2 = 0 := fun u => y (s1.mpr u)
      omega
    · have := s1.mp y
      rcases q with ⟨_, q⟩ | ⟨q, _⟩
      · omega
      · exact q k4
theorem t_attr {Qn : gH → Prop} {p e : Nat} (Z : RT h A N zz W C P ad p 1) (IW : SI W) (w : RW ad n r C) (hn : n < 24) (he : e < 16) (e35 : C 38 0 35 = (e : Int)) (e36 : C 38 0 36 = r 7) (h7 : 0 ≤ r 7 ∧ r 7 ≤ 3) (X : AY Qn A N zz W C P ad n (if sgn (tb W p) = 5 then (p, none) else pOne W (sgn (tb W p)) p e r)) : vX12_readsAttribute Qn h (A 38 0) := by
  unfold vX12_readsAttribute
  have go : ∀ (s0 : Int32) (k : Nat), s0 = Int32.ofNat k → k = sgn (tb W p) → k < 6 → vX12_readsAttribute_b66 Qn h (A 38 0) s0 := fun s0 k hs hk k6 => t_b66 Z IW w hn hs hk k6 he e35 e36 h7 (by rw [hk]; exact X)
  have hh := fun {Qn : Int32 → gH → Prop} {v : Int32} {c : Int} (hv : v.toInt = c) (hc : c ≠ -1) (k1 : tb W p = c → Qn 1 h) (k0 : tb W p ≠ c → Qn 0 h) => io38_ Z.1 (t_here Z IW hv hc k1 k0)
  refine hh (vl (by decide) : (64 : Int32).toInt = 64) (by decide) (fun y => no_pos (go 0 0 rfl (by rw [y]; rfl) (by decide))) (fun y0 => ok_pos ?_)
  refine hh (vl (by decide) : (43 : Int32).toInt = 43) (by decide) (fun y => no_pos (go 1 1 rfl (by rw [y]; rfl) (by decide))) (fun y1 => ok_pos ?_)
  refine hh (vl (by decide) : (33 : Int32).toInt = 33) (by decide) (fun y => no_pos (go 2 2 rfl (by rw [y]; rfl) (by decide))) (fun y2 => ok_pos ?_)
  refine hh (vl (by decide) : (111 : Int32).toInt = 111) (by decide) (fun y => no_pos (go 3 3 rfl (by rw [y]; rfl) (by decide))) (fun y3 => ok_pos ?_)
  refine hh (vl (by decide) : (63 : Int32).toInt = 63) (by decide) (fun y => no_pos (go 4 4 rfl (by rw [y]; rfl) (by decide))) (fun y4 => ok_pos (go 5 5 rfl ?_ (by decide)))
  unfold sgn
  rw [if_neg y0, if_neg y1, if_neg y2, if_neg y3, if_neg y4]
end RAT
