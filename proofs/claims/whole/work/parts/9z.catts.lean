/-! ===== the class reads attributes, transitions ===== -/
section CTS
variable {h : gH} {A : dA} {N zz : Nat → Nat} {S W C C' C0 : dC} {P : dP} {t0 i : Nat}
/-- bits of what was seen -/
theorem se_and : ∀ e : Nat, e < 16 → ∀ k : Nat, k < 5 → (((Int32.ofNat e &&& Int32.ofNat (2 ^ k)) = 0) ↔ e / 2 ^ k % 2 = 0) := by decide
theorem se_or : ∀ e : Nat, e < 16 → ∀ k : Nat, k < 4 → e / 2 ^ k % 2 = 0 → (Int32.ofNat e ||| Int32.ofNat (2 ^ k)) = Int32.ofNat (e + 2 ^ k) := by decide
theorem se_lt : ∀ e : Nat, e < 16 → ∀ k : Nat, k < 4 → e / 2 ^ k % 2 = 0 → e + 2 ^ k < 16 := by decide
theorem se_any : ∀ e : Nat, e < 15 → e % 2 = 0 → ∀ k : Nat, k < 5 → k ≠ 0 → ((e + 1) / 2 ^ k % 2 = e / 2 ^ k % 2) := by decide
theorem se_any3 : ∀ e : Nat, e < 16 → e % 2 = 0 → ∀ k : Nat, k < 4 → k ≠ 0 → (e + 2 ^ k) % 2 = 0 := by decide
theorem se_any2 (e : Nat) (h1 : e < 16) (h2 : e % 2 = 0) (k : Nat) (h3 : k < 4) (h4 : k ≠ 0) (h5 : e / 2 ^ k % 2 = 0) : (e + 2 ^ k) % 2 = 0 ∧ e + 2 ^ k < 16 := ⟨se_any3 e h1 h2 k h3 h4, se_lt e h1 k h3 h5⟩
theorem sgn_i0 {c : Int} (z : sgn c = 0) : c = 64 := by
  unfold sgn at z
  (repeat' split at z)
  all_goals first | assumption | omega
theorem sgn_i4 {c : Int} (z : sgn c = 4) : c = 63 := by
  unfold sgn at z
  (repeat' split at z)
  all_goals first | assumption | omega
/-- what the class has seen, beside what the text's reading has: the exit of any state counts there as seen -/
def seen (r : dM) (se e : Nat) : Prop := se < 16 ∧ (r 0 = -1 → se % 2 = 0 ∧ e = se + 1) ∧ (r 0 ≠ -1 → e = se)
def pw (k : Nat) : Nat := 2 ^ k
/-- what an attribute's reading leaves -/
def OX (Qn : Int32 → gH → Prop) (A : dA) (N zz : Nat → Nat) (S W C : dC) (P : dP) (x : Nat × Option dM) : Prop := (∀ (q : Nat) (r' : dM), x = (q, some r') → ∀ (h' : gH) (C' : dC), CD h' A N zz S W C' P q r' → Fdr C C' → ∀ x : Int32, x.toInt = 1 → Qn x h') ∧ (∀ q : Nat, x = (q, none) → ∀ (h' : gH) (C' : dC), CR h' A N zz S W C' P q → Fdr C C' → ∀ x : Int32, x.toInt = 0 → Qn x h')
theorem OX.mv {Qn : Int32 → gH → Prop} {x : Nat × Option dM} (X : OX Qn A N zz S W C P x) (f : Fdr C C') : OX Qn A N zz S W C' P x := ⟨fun q r e h' C1 z g => X.1 q r e h' C1 z (f.tr g), fun q e h' C1 z g => X.2 q e h' C1 z (f.tr g)⟩
/-- an attribute once it may stand -/
def pBody (W : dC) (k p : Nat) (r : dM) : Nat × Option dM :=
  if k < 3 then (match pNum W (mst k) (p + 1) with
    | (q, none) => (q, none)
    | (q, some v) => (q, some (um r (3 + k) v)))
  else if k = 3 then (p + 1, some (um r 6 1))
  else (match pCond W (p + 1) with
    | (q, none) => (q, none)
    | (q, some (a, o, v)) => (q, some (addC r a o v)))
/-- a column of the draft is set -/
theorem CD.set {h' : gH} {r : dM} {f k : Nat} {v w : Int} (Z : CD h A N zz S W C P i r) (hv : v = w) (hf : (f = 4 ∧ k = 3) ∨ (f = 5 ∧ k = 4) ∨ (f = 6 ∧ k = 5) ∨ (f = 7 ∧ k = 6)) (R : D h' A N zz (up3 C 15 0 f v) P) : CD h' A N zz S W (up3 C 15 0 f v) P i (um r k w) ∧ Fdr C (up3 C 15 0 f v) := by
  obtain ⟨⟨R0, K, e, hi⟩, ⟨d, dk⟩, dn⟩ := Z
  have fr : Fdr C (up3 C 15 0 f v) := fun j x g h1 h2 => up3_ne _ _ (by omega)
  have m : ∀ w', w' ≠ k → um r k w w' = r w' := fun w' hw => um_n _ _ hw
  have n : ∀ g, g ≠ f → up3 C 15 0 f v 15 0 g = C 15 0 g := fun g hg => up3_ne _ _ (by omega)
  refine ⟨⟨⟨R, K.drf fr (fun _ _ _ _ => rfl), (up3_ne _ _ (by omega)).trans e, hi⟩, ⟨?_, fun k' hk' => ?_⟩, by rw [m 0 (by omega)]; exact dn⟩, fr⟩
  · rcases hf with ⟨rfl, rfl⟩ | ⟨rfl, rfl⟩ | ⟨rfl, rfl⟩ | ⟨rfl, rfl⟩
    · rw [n 3 (by decide), n 5 (by decide), n 6 (by decide), n 7 (by decide), n 11 (by decide), m 2 (by decide), m 4 (by decide), m 5 (by decide), m 6 (by decide), m 7 (by decide), up3_same, um_s]
      exact ⟨d.1, hv, d.2.2⟩
    · rw [n 3 (by decide), n 4 (by decide), n 6 (by decide), n 7 (by decide), n 11 (by decide), m 2 (by decide), m 3 (by decide), m 5 (by decide), m 6 (by decide), m 7 (by decide), up3_same, um_s]
      exact ⟨d.1, d.2.1, hv, d.2.2.2⟩
    · rw [n 3 (by decide), n 4 (by decide), n 5 (by decide), n 7 (by decide), n 11 (by decide), m 2 (by decide), m 3 (by decide), m 4 (by decide), m 6 (by decide), m 7 (by decide), up3_same, um_s]
      exact ⟨d.1, d.2.1, d.2.2.1, hv, d.2.2.2.2⟩
    · rw [n 3 (by decide), n 4 (by decide), n 5 (by decide), n 6 (by decide), n 11 (by decide), m 2 (by decide), m 3 (by decide), m 4 (by decide), m 5 (by decide), m 7 (by decide), up3_same, um_s]
      exact ⟨d.1, d.2.1, d.2.2.1, d.2.2.2.1, hv, d.2.2.2.2.2⟩
  · rw [m 7 (by omega)] at hk'
    rw [up3_ne _ _ (by omega), up3_ne _ _ (by omega), up3_ne _ _ (by omega), m _ (by omega), m _ (by omega), m _ (by omega)]
    exact dk k' hk'
theorem c_attr {Qn : Int32 → gH → Prop} {v1 : Int32} {r : dM} {p k : Nat} {c : Int} (Z : CD h A N zz S W C P (p + 1) r) (T : TS W S) (I : SI S) (IW : SI W) (hv : v1.toInt = c) (hk : sgn c = k) (h5 : k < 5) (h7 : 0 ≤ r 7) (h73 : k = 4 → r 7 < 3) (X : OX Qn A N zz S W C P (pBody W k p r)) : vX10_readAttribute t0 Qn h (A 19 0) v1 := by
  have a15 : ac N 15 0 := Nat.zero_lt_succ _
  have g0 : gZ 0 := gZ_of (by decide)
  have g1 : gZ 1 := gZ_of (by decide)
  -- a number's attribute
  have num : ∀ (f m : Nat) (most : Int32), (f = 4 ∧ m = 0) ∨ (f = 5 ∧ m = 1) ∨ (f = 6 ∧ m = 2) → k = m → most.toInt = mst m → gr h (A 19 0) 13 4 (fun r1 => io h (A 19 0) 13 (vX10_readNumber t0 (fun x3 h2 => nn r1 (fun a4 => pv h2 a4 12 f (.int x3) (fun h5 => gr h5 (A 19 0) 13 4 (fun r6 => nn r6 (fun a7 => gi h5 a7 12 f (fun x8 => (((x8 : Int32) = (-1)) → (gZ 0 ∧ Qn 0 h5)) ∧ ((¬ (x8 : Int32) = (-1)) → (gZ 1 ∧ Qn 1 h5)))))))) h (A 19 0) most)) := fun f m most hf hm hmost => by
    have dk : dK 15 f = some (12, 0) := by rcases hf with ⟨rfl, _⟩ | ⟨rfl, _⟩ | ⟨rfl, _⟩ <;> rfl
    refine g_drf Z.1.1 (io19 Z.1.1 (c_num Z.1 T I hmost (fun q v e x h' C' Z' f' hx => ?_) (fun q e h' C' Z' f' => ?_)))
    · have l := (pNum_le Z.1.2.2.2 e).2.2.2.2 v rfl
      refine nn_i (wpvI Z'.1 a15 dk hx (fun h2 R2 => g_drf R2 (nn_i (ygi R2 a15 dk (up3_same _ _ _ _ _) (fun x8 h8 => ?_)))))
      have q2 := (Z.mv Z' f').set (k := 3 + m) (w := v) rfl (by omega) R2
      refine ceq32 h8 (show (-1 : Int32).toInt = -1 by decide) (fun z => by omega) (fun _ => ⟨g1, X.1 q (um r (3 + m) v) ?_ h2 _ q2.1 (f'.dr.tr q2.2) 1 (by decide)⟩)
      unfold pBody
      rw [hm, if_pos (by omega), e]
    · refine nn_i (wpvI Z'.1 a15 dk (show (-1 : Int32).toInt = -1 by decide) (fun h2 R2 => g_drf R2 (nn_i (ygi R2 a15 dk (up3_same _ _ _ _ _) (fun x8 h8 => ?_)))))
      have q2 := (Z.mv Z' f').set (k := 3 + m) (w := -1) rfl (by omega) R2
      refine ceq32 h8 (show (-1 : Int32).toInt = -1 by decide) (fun _ => ⟨g0, X.2 q ?_ h2 _ q2.1.1 (f'.dr.tr q2.2) 0 (by decide)⟩) (fun z => absurd rfl z)
      unfold pBody
      rw [hm, if_pos (by omega), e]
  unfold vX10_readAttribute vX10_readAttribute_b133 vX10_readAttribute_b104 vX10_readAttribute_b74
  rw [hv]
  refine ⟨fun z => ?_, fun z => ?_, fun z => ?_, fun z => ?_, fun z => ?_⟩
  · rw [z] at hk
    exact num 6 2 4 (by omega) hk.symm (by decide)
  · rw [z] at hk
    exact num 5 1 99 (by omega) hk.symm (by decide)
  · rw [z] at hk
    exact num 4 0 300 (by omega) hk.symm (by decide)
  · rw [z] at hk
    have hk : k = 3 := hk.symm
    refine g_drf Z.1.1 (nn_i (wpvI Z.1.1 a15 rfl (v := 1) (vl (by decide)) (fun h2 R2 => ?_)))
    have q2 := Z.set (k := 6) (w := 1) rfl (by omega) R2
    refine X.1 (p + 1) (um r 6 1) ?_ h2 _ q2.1 q2.2 1 (by decide)
    unfold pBody
    rw [hk, if_neg (by decide), if_pos rfl]
  · have hk4 : k = 4 := by
      unfold sgn at hk
      rw [if_neg z.2.2.1, if_neg z.2.1, if_neg z.1, if_neg z.2.2.2] at hk
      by_cases y : c = 63
      · rw [if_pos y] at hk; exact hk.symm
      · rw [if_neg y] at hk; omega
    refine io19 Z.1.1 (c_cond Z T I IW ⟨h7, h73 hk4⟩ ⟨fun q a o v e h' C' Z' f' => ⟨g1, X.1 q (addC r a o v) ?_ h' C' Z' f' 1 (by decide)⟩, fun q e h' C' Z' f' => ⟨g0, X.2 q ?_ h' C' Z'.1 f' 0 (by decide)⟩⟩)
    · unfold pBody
      rw [hk4, if_neg (by decide), if_neg (by decide), e]
    · unfold pBody
      rw [hk4, if_neg (by decide), if_neg (by decide), e]
/-- an attribute that may not stand; one that may -/
theorem pOne_no {k p e : Nat} {r : dM} (h : (k < 4 ∧ e / 2 ^ k % 2 = 1) ∨ (¬ k < 4 ∧ 3 ≤ r 7)) : pOne W k p e r = (p, none) := by
  unfold pOne
  rcases h with ⟨a, b⟩ | ⟨a, b⟩
  · rw [if_pos a, if_pos b]
  · rw [if_neg a, if_pos b]
theorem pOne_yes {k p e : Nat} {r : dM} (h5 : k < 5) (h : ¬ ((k < 4 ∧ e / 2 ^ k % 2 = 1) ∨ (¬ k < 4 ∧ 3 ≤ r 7))) : pOne W k p e r = (match pBody W k p r with
    | (q, none) => (q, none)
    | (q, some r') => (q, some (if k < 4 then e + 2 ^ k else e, r'))) := by
  unfold pOne pBody
  by_cases a : k < 4
  · have b : ¬ e / 2 ^ k % 2 = 1 := fun b => h (Or.inl ⟨a, b⟩)
    rw [if_pos a, if_neg b]
    by_cases c : k = 3
    · rw [if_pos c, if_neg (by omega), if_pos c]
      subst c
      rfl
    · rw [if_neg c, if_pos (show k < 3 by omega)]
      cases pNum W (mst k) (p + 1) with
      | mk q o =>
        cases o with
        | none => rfl
        | some v =>
          show (q, some (e + 2 ^ k, um r (3 + k) v)) = (q, some (if k < 4 then e + 2 ^ k else e, um r (3 + k) v))
          rw [if_pos a]
  · have b : ¬ 3 ≤ r 7 := fun b => h (Or.inr ⟨a, b⟩)
    rw [if_neg a, if_neg b, if_neg (by omega), if_neg (by omega)]
    cases pCond W (p + 1) with
    | mk q o =>
      cases o with
      | none => rfl
      | some v =>
        obtain ⟨x, y, z⟩ := v
        show (q, some (e, addC r x y z)) = (q, some (if k < 4 then e + 2 ^ k else e, addC r x y z))
        rw [if_neg a]
theorem pBody_0 {k p q : Nat} {r r' : dM} (h : pBody W k p r = (q, some r')) : r' 0 = r 0 := by
  unfold pBody at h
  by_cases a : k < 3
  · rw [if_pos a] at h
    cases hn : pNum W (mst k) (p + 1) with
    | mk q' o =>
      rw [hn] at h
      cases o with
      | none => cases h
      | some v => cases h; exact um_n _ _ (by omega)
  · rw [if_neg a] at h
    by_cases b : k = 3
    · rw [if_pos b] at h
      cases h
      exact um_n _ _ (by omega)
    · rw [if_neg b] at h
      cases hn : pCond W (p + 1) with
      | mk q' o =>
        rw [hn] at h
        cases o with
        | none => cases h
        | some v =>
          obtain ⟨x, y, z⟩ := v
          cases h
          unfold addC
          rw [um_n _ _ (by omega), um_n _ _ (by omega), um_n _ _ (by omega), um_n _ _ (by omega)]
theorem c_atts {Qn : Int32 → gH → Prop} (T : TS W S) (I : SI S) (IW : SI W) : ∀ (m n i e se : Nat) (r : dM) (h : gH) (C : dC) (v1 v2 : Int32), n + m = 150 → v2.toInt = (n : Int) → v1 = Int32.ofNat se → seen r se e → e < 16 → rOK W r → (r 0 = -1 → e % 2 = 1) → CD h A N zz S W C P i r → OX Qn A N zz S W C P (pAtt W m i e r) → vX10_readAttributes_b4 t0 Qn (m + 1) h (A 19 0) v1 v2
  | 0, n, i, e, se, r, h, C, v1, v2, hn, h2, h1, hs, he, rk, re, Z, X => by
    show vX10_readAttributes_b4_o t0 (vX10_readAttributes_b4 t0 Qn 0) Qn h (A 19 0) v1 v2
    unfold vX10_readAttributes_b4_o
    exact cle32 (vl (by decide)) h2 (fun _ => X.1 i r rfl h C Z (Fdr.rf C) 1 (by decide)) (fun z => by omega)
  | m + 1, n, i, e, se, r, h, C, v1, v2, hn, h2, h1, hs, he, rk, re, Z, X => by
    show vX10_readAttributes_b4_o t0 (vX10_readAttributes_b4 t0 Qn (m + 1)) Qn h (A 19 0) v1 v2
    unfold vX10_readAttributes_b4_o
    have a15 : ac N 15 0 := Nat.zero_lt_succ _
    obtain ⟨hs1, hs2, hs3⟩ := hs
    have r7 := rk.2.2.2.2.2.2.2.2.1
    refine cle32 (vl (by decide)) h2 (fun z => by omega) (fun _ => io19 Z.1.1 (c_next Z.1 T I (fun x2 hA CA ZA fA hx => ?_)))
    have X1 := X.mv fA.dr
    have Z1 := Z.mv ZA fA
    have X1 : OX Qn A N zz S W CA P (if sgn (tb W (sk W i)) = 5 then (sk W i, some r) else (match pOne W (sgn (tb W (sk W i))) (sk W i) e r with
      | (q, none) => (q, none)
      | (q, some (e', r')) => pAtt W m q e' r')) := X1
    refine c_mark hx (fun z => ?_) (fun k hk k5 => ?_)
    · rw [if_pos z] at X1
      exact no0 (X1.1 _ _ rfl hA CA Z1 (Fdr.rf CA) 1 (by decide))
    · have kn : sgn (tb W (sk W i)) ≠ 5 := by omega
      rw [if_neg kn, hk] at X1
      have hp := tb_in (sgn_in kn)
      have nz : ¬ Int32.ofNat (2 ^ k) = 0 := by
        have : ∀ k : Nat, k < 5 → ¬ Int32.ofNat (2 ^ k) = 0 := by decide
        exact this k k5
      have sa := se_and se hs1 k k5
      have ex : (x2.toInt = 64 ↔ k = 0) ∧ (x2.toInt = 63 ↔ k = 4) := by
        rw [hx, ← hk]
        exact ⟨⟨fun z => by rw [z]; rfl, sgn_i0⟩, ⟨fun z => by rw [z]; rfl, sgn_i4⟩⟩
      -- the fault
      have bad : ((k < 4 ∧ e / 2 ^ k % 2 = 1) ∨ (¬ k < 4 ∧ 3 ≤ r 7)) → Qn 0 hA := fun z => by
        rw [pOne_no z] at X1
        exact X1.2 _ rfl hA CA ZA (Fdr.rf CA) 0 (by decide)
      -- it may stand
      have fin : ∀ (v5 s0 : Int32), (v5 = 0 ∧ s0 = 0 ∧ (k = 0 → r 0 ≠ -1) ∧ (k = 4 → r 7 < 3)) ∨ (v5 = 1 ∧ (k = 0 ∧ r 0 = -1)) ∨ (v5 = 0 ∧ s0 = 1 ∧ k = 4 ∧ 3 ≤ r 7) → vX10_readAttributes_b74 t0 (vX10_readAttributes_b4 t0 Qn (m + 1)) Qn hA (A 19 0) v1 v2 x2 (Int32.ofNat (2 ^ k)) v5 s0 := fun v5 s0 hv => by
        unfold vX10_readAttributes_b74 vX10_readAttributes_b93
        rw [h1]
        by_cases b : e / 2 ^ k % 2 = 1 ∧ k < 4
        · -- seen before, or an exit of any
          have B := bad (Or.inl ⟨b.2, b.1⟩)
          by_cases ra : r 0 = -1
          · have e1 := hs2 ra
            by_cases k0 : k = 0
            · refine ⟨fun _ => B, fun _ => ?_⟩
              rcases hv with ⟨_, _, q, _⟩ | ⟨q, _⟩ | ⟨_, _, q, _⟩
              · exact absurd ra (q k0)
              · rw [q]; exact ⟨fun _ => B, fun y => absurd y (by decide)⟩
              · omega
            · refine ⟨fun _ => B, fun y => ?_⟩
              have y := sa.mp y
              have q := se_any se (by omega) e1.1 k k5 k0
              rw [e1.2] at b
              omega
          · have e1 := hs3 ra
            rw [e1] at b
            exact ⟨fun _ => B, fun y => by have y := sa.mp y; omega⟩
        · have sb : se / 2 ^ k % 2 = 0 := by
            by_cases k4 : k < 4
            · have b : e / 2 ^ k % 2 = 0 := by
                have : e / 2 ^ k % 2 ≠ 1 := fun q => b ⟨q, k4⟩
                omega
              by_cases ra : r 0 = -1
              · have e1 := hs2 ra
                by_cases k0 : k = 0
                · rw [k0]
                  show se / 1 % 2 = 0
                  rw [Nat.div_one]
                  exact e1.1
                · have q := se_any se (by omega) e1.1 k k5 k0
                  rw [e1.2] at b
                  omega
              · rw [hs3 ra] at b
                exact b
            · have k4 : k = 4 := by omega
              rw [k4]
              show se / 16 % 2 = 0
              omega
          refine ⟨fun y => absurd (sa.mpr sb) y, fun _ => ?_⟩
          rcases hv with ⟨q1, q2, q3, q4⟩ | ⟨q1, q2, q3⟩ | ⟨q1, q2, q3, q4⟩
          · rw [q1, q2]
            refine ⟨fun y => absurd rfl y, fun _ => ⟨fun _ => ?_, fun y => absurd rfl y⟩⟩
            have good : ¬ ((k < 4 ∧ e / 2 ^ k % 2 = 1) ∨ (¬ k < 4 ∧ 3 ≤ r 7)) := fun y => by
              rcases y with ⟨y1, y2⟩ | ⟨y1, y2⟩
              · exact b ⟨y2, y1⟩
              · have := q4 (by omega); omega
            rw [pOne_yes k5 good] at X1
            -- the attribute is read
            have go : ∀ v' : Int32, ∀ se' : Nat, v' = Int32.ofNat se' → (∀ r' : dM, r' 0 = r 0 → seen r' se' (if k < 4 then e + 2 ^ k else e)) → vX10_readAttributes_b106 t0 (vX10_readAttributes_b4 t0 Qn (m + 1)) Qn hA (A 19 0) v' v2 x2 := fun v' se' hv' hse => by
              unfold vX10_readAttributes_b106
              refine c_inc ZA hp T I (fun hB CB ZB fB => io19 ZB.1 ?_)
              have X2 := X1.mv fB.dr
              refine c_attr (Z1.mv ZB fB) T I IW rfl (by rw [hx]; exact hk) k5 r7.1 q4 ⟨fun q r' eb hC CC ZC fC x hx1 => ?_, fun q eb hC CC ZC fC x hx1 => ?_⟩
              · have X3 := X2.mv fC
                rw [eb] at X3
                have po : pOne W k (sk W i) e r = (q, some (if k < 4 then e + 2 ^ k else e, r')) := by rw [pOne_yes k5 good, eb]
                have ok := pOne_ok k5 hp (sk_sk W i) he rk re po
                have ok2 := ok.2.2.2 _ _ rfl
                refine cne32 hx1 (vl (by decide)) (fun _ => ?_) (fun y => by omega)
                exact c_atts T I IW m (n + 1) q _ se' r' hC CC v' (v2 + 1) (by omega) (ix_add h2 (ix_lit (by decide)) (by omega)) hv' (hse r' (pBody_0 eb)) ok2.2.1 ok2.2.2.1 ok2.2.2.2 ZC X3
              · have X3 := X2.mv fC
                rw [eb] at X3
                refine cne32 hx1 (vl (by decide)) (fun y => by omega) (fun _ => X3.2 q rfl hC CC ZC (Fdr.rf CC) 0 (by decide))
            refine ceq32 (rfl : x2.toInt = x2.toInt) (vl (by decide)) (fun y => ?_) (fun y => ?_)
            · have k4 := ex.2.mp y
              refine go _ se rfl (fun r' hr' => ?_)
              rw [if_neg (by omega)]
              exact ⟨hs1, fun y => hs2 (by omega), fun y => hs3 (by omega)⟩
            · have k4 : k < 4 := by
                have : k ≠ 4 := fun z => y (ex.2.mpr z)
                omega
              refine go _ (se + 2 ^ k) (se_or se hs1 k k4 sb) (fun r' hr' => ?_)
              rw [if_pos k4]
              refine ⟨se_lt se hs1 k k4 sb, fun y => ?_, fun y => by rw [hs3 (by omega)]⟩
              have e1 := hs2 (by omega)
              have k0 : k ≠ 0 := fun z => q3 z (by omega)
              have a2 := se_any2 se hs1 e1.1 k k4 k0 sb
              generalize 2 ^ k = w at *
              omega
          · -- the exit of any state counts as seen
            have e1 := hs2 q3
            exact absurd ⟨by rw [q2, e1.2]; show (se + 1) / 1 % 2 = 1; rw [Nat.div_one]; omega, by omega⟩ b
          · rw [q1, q2]
            exact ⟨fun y => absurd rfl y, fun _ => ⟨fun y => absurd y (by decide), fun _ => bad (Or.inr ⟨by omega, q4⟩)⟩⟩
      have mid : ∀ v5 : Int32, (v5 = 0 ∧ (k = 0 → r 0 ≠ -1)) ∨ (v5 = 1 ∧ (k = 0 ∧ r 0 = -1)) → vX10_readAttributes_b50 t0 (vX10_readAttributes_b4 t0 Qn (m + 1)) Qn hA (A 19 0) v1 v2 x2 (Int32.ofNat (2 ^ k)) v5 := fun v5 hv => by
        unfold vX10_readAttributes_b50 vX10_readAttributes_b73
        refine cne32 (rfl : x2.toInt = x2.toInt) (vl (by decide)) (fun y => fin v5 0 ?_) (fun y => ?_)
        · have k4 : k ≠ 4 := fun z => y (ex.2.mpr z)
          rcases hv with ⟨a, b⟩ | ⟨a, b⟩
          · exact Or.inl ⟨a, rfl, b, fun z => absurd z k4⟩
          · exact Or.inr (Or.inl ⟨a, b⟩)
        · have k4 := ex.2.mp y
          have v0 : v5 = 0 := by
            rcases hv with ⟨a, b⟩ | ⟨a, b, _⟩
            · exact a
            · omega
          refine g_drf ZA.1 (nn_i (ygi ZA.1 a15 rfl Z1.2.1.1.2.2.2.2.2 (fun x3 h3 => clt32 h3 (vl (by decide)) (fun z => fin v5 0 (Or.inl ⟨v0, rfl, fun q => by omega, fun _ => z⟩)) (fun z => fin v5 1 (Or.inr (Or.inr ⟨v0, rfl, k4, by omega⟩))))))
      refine ⟨fun _ => ?_, fun y => absurd y nz⟩
      unfold vX10_readAttributes_b49
      refine cne32 (rfl : x2.toInt = x2.toInt) (vl (by decide)) (fun y => mid 0 (Or.inl ⟨rfl, fun z => absurd (ex.1.mpr z) y⟩)) (fun y => ?_)
      have k0 := ex.1.mp y
      have dn := Z1.2.2
      refine g_drf ZA.1 (nn_i ?_)
      by_cases ra : r 0 = -1
      · exact ygn ZA.1 a15 rfl (dn.mpr ra) ⟨fun _ => mid 1 (Or.inr ⟨rfl, k0, ra⟩), fun a z => by cases z⟩
      · cases hP : P 15 0 1 with
        | none => exact absurd (dn.mp hP) ra
        | some qq =>
          obtain ⟨j', i'⟩ := qq
          exact ygr ZA.1 a15 rfl hP ⟨fun z => (by cases z), fun a _ => mid 0 (Or.inl ⟨rfl, fun _ => ra⟩)⟩
end CTS
