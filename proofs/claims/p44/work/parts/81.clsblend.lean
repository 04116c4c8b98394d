/-! ===== the class: blends ===== -/
/-- what a blend of machine k may write -/
def Kb (C0 C : dC) (k : Nat) : Prop := ∀ j i f : Nat, ¬ (j = 37 ∧ i = k) → C j i f = C0 j i f
theorem up3_off_ (C : dC) {j i j' i' f f' : Nat} (v : Int) (h : ¬ (j' = j ∧ i' = i)) : up3 C j i f v j' i' f' = C j' i' f' := up3_ne C v fun z => h ⟨z.1, z.2.1⟩
theorem so_mono {p : Nat → Int} {m : Int} (so : ∀ i : Nat, (i : Int) + 1 < m → p i < p (i + 1)) : ∀ j i : Nat, i < j → (j : Int) < m → p i < p j
  | 0, i, h, _ => absurd h (Nat.not_lt_zero i)
  | j + 1, i, h, hm => by
    have h1 := so j (by omega)
    rcases Nat.lt_or_ge i j with z | z
    · have h2 := so_mono so j i z (by omega)
      omega
    · rw [show i = j by omega]; exact h1
theorem yes_eq {K1 K2 : Prop} (k : K1) : ((0 : Int32) = 0 → K1) ∧ ((¬ (0 : Int32) = 0) → K2) := ⟨fun _ => k, fun z => absurd rfl z⟩
section BM
variable {S : dC} {p : Nat → Int} {sg : Nat → Nat} {n : Nat} {w v : Int}
theorem bl_one (I : SI S) (V : Nat → Int) (h0 : 0 < w) (h1 : S 49 0 n = -1) (hn : (n : Int) < S 38 0 14) (hv : V (S 50 0 n).toNat = v) (hs : ∀ i : Nat, (i : Int) < S 51 0 n → ((sg i : Nat) : Int) < S 51 0 n ∧ S 53 0 (5 * n + sg i) = p i) (on : ∀ l : Nat, (l : Int) < S 51 0 n → ∃ i : Nat, (i : Int) < S 51 0 n ∧ sg i = l) (mo : ∀ j i : Nat, i < j → (j : Int) < S 51 0 n → p i < p j) {a : Nat} (ha : (a : Int) < S 51 0 n) (cs : p a = v ∨ (a = 0 ∧ v < p 0) ∨ ((a : Int) + 1 = S 51 0 n ∧ p a < v)) (d c : Nat) : bl S V (d + 1) n w c = bl S V d (chN S n (sg a)) w c := by
  have pl : ∀ l : Nat, (l : Int) < S 51 0 n → ∃ i : Nat, (i : Int) < S 51 0 n ∧ S 53 0 (5 * n + l) = p i := fun l hl => by
    obtain ⟨i, hi, e⟩ := on l hl
    exact ⟨i, hi, by rw [← e]; exact (hs i hi).2⟩
  have tot : ∀ i j : Nat, (i : Int) < S 51 0 n → (j : Int) < S 51 0 n → (i = j ∨ p i < p j ∨ p j < p i) := fun i j hi hj => by
    rcases Nat.lt_trichotomy i j with z | z | z
    · exact Or.inr (Or.inl (mo j i z hj))
    · exact Or.inl z
    · exact Or.inr (Or.inr (mo i j z hi))
  rw [bl_line V h0 h1 d c, hv]
  rcases cs with cs | ⟨cs, c2⟩ | ⟨cs, c2⟩
  · have b : belK S n v = some (sg a) := belK_of I hn ⟨(hs a ha).1, by rw [(hs a ha).2]; omega, fun l hl q => by rw [(hs a ha).2]; omega⟩
    have c' : aboK S n v = some (sg a) := aboK_of I hn ⟨(hs a ha).1, by rw [(hs a ha).2]; omega, fun l hl q => by rw [(hs a ha).2]; omega⟩
    rw [b, c']
    exact if_pos rfl
  · subst cs
    have b : belK S n v = none := belK_no fun l hl => by
      obtain ⟨i, hi, e⟩ := pl l hl
      rw [e]
      rcases Nat.eq_zero_or_pos i with z | z
      · rw [z]; exact c2
      · have := mo i 0 z hi; omega
    have c' : aboK S n v = some (sg 0) := aboK_of I hn ⟨(hs 0 ha).1, by rw [(hs 0 ha).2]; omega, fun l hl q => by
      obtain ⟨i, hi, e⟩ := pl l hl
      rw [(hs 0 ha).2, e]
      rcases Nat.eq_zero_or_pos i with z | z
      · rw [z]; exact Int.le_refl _
      · have := mo i 0 z hi; omega⟩
    rw [b, c']
  · have b : belK S n v = some (sg a) := belK_of I hn ⟨(hs a ha).1, by rw [(hs a ha).2]; omega, fun l hl q => by
      obtain ⟨i, hi, e⟩ := pl l hl
      rw [(hs a ha).2, e]
      rcases Nat.lt_or_ge i a with z | z
      · have := mo a i z ha; omega
      · rw [show i = a by omega]; exact Int.le_refl _⟩
    have c' : aboK S n v = none := aboK_no fun l hl => by
      obtain ⟨i, hi, e⟩ := pl l hl
      rw [e]
      rcases Nat.lt_or_ge i a with z | z
      · have := mo a i z ha; omega
      · rw [show i = a by omega]; exact c2
    rw [b, c']
theorem bl_two (I : SI S) (V : Nat → Int) (h0 : 0 < w) (h1 : S 49 0 n = -1) (hn : (n : Int) < S 38 0 14) (hv : V (S 50 0 n).toNat = v) (hs : ∀ i : Nat, (i : Int) < S 51 0 n → ((sg i : Nat) : Int) < S 51 0 n ∧ S 53 0 (5 * n + sg i) = p i) (on : ∀ l : Nat, (l : Int) < S 51 0 n → ∃ i : Nat, (i : Int) < S 51 0 n ∧ sg i = l) (mo : ∀ j i : Nat, i < j → (j : Int) < S 51 0 n → p i < p j) {b : Nat} (ha : ((b + 1 : Nat) : Int) < S 51 0 n) (c1 : p b < v) (c2 : v < p (b + 1)) (d c : Nat) : bl S V (d + 1) n w c = bl S V d (chN S n (sg (b + 1))) (upW S n (sg b) (sg (b + 1)) v w) c + bl S V d (chN S n (sg b)) (w - upW S n (sg b) (sg (b + 1)) v w) c := by
  have hb : (b : Int) < S 51 0 n := by omega
  have pl : ∀ l : Nat, (l : Int) < S 51 0 n → ∃ i : Nat, (i : Int) < S 51 0 n ∧ S 53 0 (5 * n + l) = p i := fun l hl => by
    obtain ⟨i, hi, e⟩ := on l hl
    exact ⟨i, hi, by rw [← e]; exact (hs i hi).2⟩
  have lo : ∀ i : Nat, (i : Int) < S 51 0 n → i ≤ b → p i ≤ p b := fun i hi z => by
    rcases Nat.lt_or_ge i b with y | y
    · have := mo b i y hb; omega
    · rw [show i = b by omega]; exact Int.le_refl _
  have up : ∀ i : Nat, (i : Int) < S 51 0 n → b + 1 ≤ i → p (b + 1) ≤ p i := fun i hi z => by
    rcases Nat.lt_or_ge (b + 1) i with y | y
    · have := mo i (b + 1) y hi; omega
    · rw [show i = b + 1 by omega]; exact Int.le_refl _
  have e1 : belK S n v = some (sg b) := belK_of I hn ⟨(hs b hb).1, by rw [(hs b hb).2]; omega, fun l hl q => by
    obtain ⟨i, hi, e⟩ := pl l hl
    rw [(hs b hb).2, e]
    rw [e] at q
    rcases Nat.lt_or_ge b i with y | y
    · have := up i hi y; omega
    · exact lo i hi y⟩
  have e2 : aboK S n v = some (sg (b + 1)) := aboK_of I hn ⟨(hs _ ha).1, by rw [(hs _ ha).2]; omega, fun l hl q => by
    obtain ⟨i, hi, e⟩ := pl l hl
    rw [(hs _ ha).2, e]
    rw [e] at q
    rcases Nat.lt_or_ge b i with y | y
    · exact up i hi y
    · have := lo i hi y; omega⟩
  have ne : sg b ≠ sg (b + 1) := fun z => by
    have q1 := (hs b hb).2
    have q2 := (hs _ ha).2
    rw [z] at q1
    omega
  rw [bl_line V h0 h1 d c, hv, e1, e2]
  exact if_neg ne
end BM
def APs (A : dA) (N zz : Nat → Nat) (P : dP) (S : dC) (k : Nat) (V : Nat → Int) (t0 : Nat) (i : Int) (fu : Nat) (r : (gH → Prop) → gH → Option Nat → Option Nat → Int32 → Option Nat → Int32 → Prop) : Prop := ∀ (Qn : gH → Prop) (h : gH) (C : dC) (n : Nat) (w : Int) (v2 v4 : Int32), D h A N zz C P → KS S N zz C P → (∀ p : Nat, p < 8 → C 22 k p = V p) → n < N 1 → (S 49 0 n ≠ -1 ∨ 0 < S 51 0 n) → v2.toInt = w → (0 ≤ w ∧ w ≤ 1000000) → v4.toInt = 6 - i → (∀ c : Nat, c < 12 → 0 ≤ C 37 k c ∧ C 37 k c + w ≤ 2000000) → (∀ (h' : gH) (C' : dC), D h' A N zz C' P → Kb C C' k → (∀ c : Nat, c < 12 → C' 37 k c = C 37 k c + bl S V fu n w c) → Qn h') → r Qn h (some (A 37 k)) (some (A 12 (n + 1))) v2 (some (A 22 k)) v4
section CB
variable {h : gH} {A : dA} {N zz : Nat → Nat} {S C : dC} {P : dP} {t0 k : Nat} {V : Nat → Int}
theorem c_pos {Qn : Int32 → gH → Prop} {v1 : Int32} {n i : Nat} (R : D h A N zz C P) (hn : n < N 1) (h1 : v1.toInt = (i : Int)) (hi : i < 5) (k : ∀ x : Int32, x.toInt = C 13 (n + 1) i → Qn x h) : vX5_positionOf t0 Qn h (A 12 (n + 1)) v1 := by
  have aN : ac N 12 (n + 1) := show n + 1 < N 1 + 1 by omega
  have aP : ac N 13 (n + 1) := show n + 1 < N 1 + 1 by omega
  unfold vX5_positionOf vX5_positionOf_b22 vX5_positionOf_b23
  refine clt32 h1 (vl (by decide)) (fun z => by omega) (fun _ => ?_)
  refine wgrs R aN rfl (show dS 12 (n + 1) 3 = some (13, n + 1) from rfl) (nn_i (yal R aP (by decide) (n := 5) rfl (by decide) (fun x3 h3 => ?_)))
  refine cle32 h3 h1 (fun z => by omega) (fun _ => ?_)
  exact wgrs R aN rfl (show dS 12 (n + 1) 3 = some (13, n + 1) from rfl) (nn_i (wli R aP rfl h1 (show i < 5 from hi) k))
theorem c_parts_r1 : APs A N zz P S k V t0 1 0 (vX0_addParts_r1 t0) := by
  intro Qn h C n w v2 v4 R K hV hn hc h2 hw h4 bd k0
  have k0 := k0 h C R (fun _ _ _ _ => rfl) (fun c _ => by show C 37 k c = C 37 k c + 0; omega)
  unfold vX0_addParts_r1 vX0_addParts_r1_b10
  exact ceq32 h2 (vl (by decide)) (fun _ => k0) (fun _ => cle32 h4 (vl (by decide)) (fun z => absurd z (by decide)) (fun _ => k0))
theorem c_parts_b187_r2 {Qn : gH → Prop} {v2 v4 v6 v7 v9 : Int32} {n a b : Nat} {w r : Int} (ap : APs A N zz P S k V t0 1 0 (vX0_addParts_r1 t0)) (hk : k < 4) (I : SI S) (R : D h A N zz C P) (K : KS S N zz C P) (hV : ∀ p : Nat, p < 8 → C 22 k p = V p) (hn : n < N 1) (h2 : v2.toInt = w) (hw : 0 ≤ w ∧ w ≤ 1000000) (h4 : v4.toInt = 6 - 2) (h6 : v6.toInt = (a : Int)) (h7 : v7.toInt = (b : Int)) (h9 : v9.toInt = r) (hr : 0 ≤ r ∧ r ≤ w) (sg : Nat → Nat) (ha : (a : Int) < S 51 0 n) (hb : (b : Int) < S 51 0 n) (hs : ∀ i : Nat, (i : Int) < S 51 0 n → ((sg i : Nat) : Int) < S 51 0 n ∧ (∀ a : Nat, P 6 (n + 5) 1 = some (7, a) → P 7 a i = some (12, (S 52 0 (5 * n + sg i)).toNat + 1))) (hl : S 49 0 n = -1) (bd : ∀ c : Nat, c < 12 → 0 ≤ C 37 k c ∧ C 37 k c + w ≤ 2000000) (hbl : ∀ c : Nat, bl S V 1 n w c = bl S V 0 (chN S n (sg a)) r c + bl S V 0 (chN S n (sg b)) (w - r) c) (k0 : ∀ (h' : gH) (C' : dC), D h' A N zz C' P → Kb C C' k → (∀ c : Nat, c < 12 → C' 37 k c = C 37 k c + bl S V 1 n w c) → Qn h') : vX0_addParts_r2_b187 t0 Qn h (some (A 37 k)) (some (A 12 (n + 1))) v2 (some (A 22 k)) v4 v6 v7 v9 := by
  have nn := K.nn
  have i1 := I.nn
  have h51 := K.szc n hn
  have aN : ac N 12 (n + 1) := show n + 1 < N 1 + 1 by omega
  have aL : n + 5 < N 1 + 5 := by omega
  have ca := I.cn n (sg a) (by omega) (hs a ha).1
  have cb := I.cn n (sg b) (by omega) (hs b hb).1
  have ea : (S 52 0 (5 * n + sg a)).toNat = chN S n (sg a) := rfl
  have eb : (S 52 0 (5 * n + sg b)).toNat = chN S n (sg b) := rfl
  have h41 : (v4 + 1).toInt = 6 - 1 := (add_ti h4 (vl (by decide)) (by decide)).trans (by decide)
  unfold vX0_addParts_r2_b187
  refine nn_i (wgrs R aN rfl (show dS 12 (n + 1) 2 = some (6, n + 5) from rfl) (nn_i (wio R aL rfl (by decide) ?_)))
  refine yget R K aL h6 (by rw [h51]; exact ha) (fun q hq => (hs a ha).2 q hq) (nn_i (wio R (show (S 52 0 (5 * n + sg a)).toNat + 1 < N 1 + 1 by omega) rfl (by decide) ?_))
  refine ap _ h C (chN S n (sg a)) r v9 (v4 + 1) R K hV (by rw [← ea]; omega) (I.cc n (sg a) (by omega) (hs a ha).1) h9 (by omega) h41 (fun c hc => by have := bd c hc; omega) (fun h' C' R' B' e' => ?_)
  have K' := K.fr (C' := C') (P' := P) (fun j i f hj => B' j i f (by omega)) (fun _ _ _ _ => rfl)
  refine wgrs R' aN rfl (show dS 12 (n + 1) 2 = some (6, n + 5) from rfl) (nn_i (wio R' aL rfl (by decide) ?_))
  refine yget R' K' aL h7 (by rw [B' 6 (n + 5) 2 (by omega), h51]; exact hb) (fun q hq => (hs b hb).2 q hq) (nn_i (wio R' (show (S 52 0 (5 * n + sg b)).toNat + 1 < N 1 + 1 by omega) rfl (by decide) ?_))
  refine ap _ h' C' (chN S n (sg b)) (w - r) (v2 - v9) (v4 + 1) R' K' (fun p hp => by rw [B' 22 k p (by omega)]; exact hV p hp) (by rw [← eb]; omega) (I.cc n (sg b) (by omega) (hs b hb).1) (sub_ti h2 h9 (by omega)) (by omega) h41 (fun c hc => ?_) (fun h2 C2 R2 B2 e2 => k0 h2 C2 R2 (fun j i f hj => (B2 j i f hj).trans (B' j i f hj)) (fun c hc => ?_))
  · have := bd c hc
    have := bl_in I V 0 (chN S n (sg a)) r c (by rw [← ea]; omega) hr.1
    rw [e' c hc]
    omega
  · rw [e2 c hc, e' c hc, hbl c]
    omega
theorem c_parts_b142_r2 {Qn : gH → Prop} {v2 v4 v5 v6 s0 : Int32} {n a b : Nat} {w v : Int} (ap : APs A N zz P S k V t0 1 0 (vX0_addParts_r1 t0)) (hk : k < 4) (I : SI S) (R : D h A N zz C P) (K : KS S N zz C P) (hV : ∀ p : Nat, p < 8 → C 22 k p = V p) (hn : n < N 1) (h2 : v2.toInt = w) (hw : 0 < w ∧ w ≤ 1000000) (h4 : v4.toInt = 6 - 2) (h5 : v5.toInt = v) (hv : -100 ≤ v ∧ v ≤ 100) (h6 : v6.toInt = (a : Int)) (h7 : s0.toInt = (b : Int)) (sg : Nat → Nat) (ha : (a : Int) < S 51 0 n) (hs : ∀ i : Nat, (i : Int) < S 51 0 n → ((sg i : Nat) : Int) < S 51 0 n ∧ (∀ a : Nat, P 6 (n + 5) 1 = some (7, a) → P 7 a i = some (12, (S 52 0 (5 * n + sg i)).toNat + 1)) ∧ C 13 (n + 1) i = S 53 0 (5 * n + sg i)) (on : ∀ l : Nat, (l : Int) < S 51 0 n → ∃ i : Nat, (i : Int) < S 51 0 n ∧ sg i = l) (so : ∀ i : Nat, (i : Int) + 1 < S 51 0 n → C 13 (n + 1) i < C 13 (n + 1) (i + 1)) (hl : S 49 0 n = -1) (bd : ∀ c : Nat, c < 12 → 0 ≤ C 37 k c ∧ C 37 k c + w ≤ 2000000) (hVv : V (S 50 0 n).toNat = v)
  (hab : (a = b ∧ (C 13 (n + 1) a = v ∨ (a = 0 ∧ v < C 13 (n + 1) 0) ∨ ((a : Int) + 1 = S 51 0 n ∧ C 13 (n + 1) a < v))) ∨ (a = b + 1 ∧ C 13 (n + 1) b < v ∧ v < C 13 (n + 1) (b + 1))) (k0 : ∀ (h' : gH) (C' : dC), D h' A N zz C' P → Kb C C' k → (∀ c : Nat, c < 12 → C' 37 k c = C 37 k c + bl S V 1 n w c) → Qn h') : vX0_addParts_r2_b142 t0 Qn h (some (A 37 k)) (some (A 12 (n + 1))) v2 (some (A 22 k)) v4 v5 v6 s0 := by
  have nn := K.nn
  have i1 := I.nn
  have i2 := I.cm n (by omega)
  have aN : ac N 12 (n + 1) := show n + 1 < N 1 + 1 by omega
  have mo := so_mono so
  have ps : ∀ i : Nat, (i : Int) < S 51 0 n → S 53 0 (5 * n + sg i) = C 13 (n + 1) i := fun i hi => ((hs i hi).2.2).symm
  have pr : ∀ i : Nat, (i : Int) < S 51 0 n → -100 ≤ C 13 (n + 1) i ∧ C 13 (n + 1) i ≤ 100 := fun i hi => by rw [← ps i hi]; exact I.ca n (sg i) (by omega) (hs i hi).1
  have hb : (b : Int) < S 51 0 n := by omega
  have pa := pr a ha
  have pb := pr b hb
  unfold vX0_addParts_r2_b142
  refine nn_i (wio R aN rfl (by decide) (c_pos R (by omega) h6 (by omega) (fun x3 h3 => wio R aN rfl (by decide) (c_pos R (by omega) h7 (by omega) (fun x5 h5' => ?_)))))
  have hd : (x3 - x5).toInt = C 13 (n + 1) a - C 13 (n + 1) b := sub_ti h3 h5' (by omega)
  have fin := fun (v9 : Int32) (r : Int) (h9 : v9.toInt = r) (hr : 0 ≤ r ∧ r ≤ w) (hbl : ∀ c : Nat, bl S V 1 n w c = bl S V 0 (chN S n (sg a)) r c + bl S V 0 (chN S n (sg b)) (w - r) c) => c_parts_b187_r2 ap hk I R K hV hn h2 ⟨by omega, hw.2⟩ h4 h6 h7 h9 hr sg ha hb (fun i hi => ⟨(hs i hi).1, (hs i hi).2.1⟩) hl bd hbl k0
  rcases hab with ⟨e, cs⟩ | ⟨e, c1, c2⟩
  · subst e
    refine cle32 hd (vl (by decide)) (fun _ => ?_) (fun z => by omega)
    refine fin 0 0 (by decide) ⟨Int.le_refl _, by omega⟩ (fun c => ?_)
    rw [bl_z S V _ _ c (Int.le_refl 0), show w - 0 = w by omega, bl_one I V hw.1 hl (by omega) hVv (fun i hi => ⟨(hs i hi).1, ps i hi⟩) on mo ha cs 0 c]
    omega
  · subst e
    refine cle32 hd (vl (by decide)) (fun z => by omega) (fun _ => ?_)
    refine wio R aN rfl (by decide) (c_pos R (by omega) h7 (by omega) (fun x7 h7' => ⟨ne_ti ⟨wid_ti hd, by omega⟩, ?_⟩))
    have up := upW_in (S := S) (n := n) (b := sg b) (a := sg (b + 1)) (v := v) (w := w) (by omega) (by rw [ps b hb]; omega) (by rw [ps (b + 1) ha]; omega) (by rw [ps b hb, ps (b + 1) ha]; omega)
    have ue : upW S n (sg b) (sg (b + 1)) v w = w * (v - C 13 (n + 1) b) / (C 13 (n + 1) (b + 1) - C 13 (n + 1) b) := by unfold upW; rw [ps b hb, ps (b + 1) ha]
    have m0 : 0 ≤ w * (v - C 13 (n + 1) b) := Int.mul_nonneg (by omega) (by omega)
    have m1 : w * (v - C 13 (n + 1) b) ≤ 1000000 * 200 := Int.mul_le_mul hw.2 (by omega) (by omega) (by decide)
    refine fin _ (upW S n (sg b) (sg (b + 1)) v w) ?_ up (fun c => bl_two I V hw.1 hl (by omega) hVv (fun i hi => ⟨(hs i hi).1, ps i hi⟩) on mo ha c1 c2 0 c)
    rw [ue] at up ⊢
    exact nar_ti (divL_ti (mulL_ti (wid_ti h2) (wid_ti (sub_ti h5 h7' (by omega))) (by omega)) (wid_ti hd) m0 (by omega)) (by omega)
theorem c_parts_b117_r2 {Qn : gH → Prop} {v2 v4 v5 v6 : Int32} {n a : Nat} {w v : Int} (ap : APs A N zz P S k V t0 1 0 (vX0_addParts_r1 t0)) (hk : k < 4) (I : SI S) (R : D h A N zz C P) (K : KS S N zz C P) (hV : ∀ p : Nat, p < 8 → C 22 k p = V p) (hn : n < N 1) (h2 : v2.toInt = w) (hw : 0 < w ∧ w ≤ 1000000) (h4 : v4.toInt = 6 - 2) (h5 : v5.toInt = v) (hv : -100 ≤ v ∧ v ≤ 100) (h6 : v6.toInt = (a : Int)) (sg : Nat → Nat) (ha : (a : Int) < S 51 0 n) (hs : ∀ i : Nat, (i : Int) < S 51 0 n → ((sg i : Nat) : Int) < S 51 0 n ∧ (∀ a : Nat, P 6 (n + 5) 1 = some (7, a) → P 7 a i = some (12, (S 52 0 (5 * n + sg i)).toNat + 1)) ∧ C 13 (n + 1) i = S 53 0 (5 * n + sg i)) (on : ∀ l : Nat, (l : Int) < S 51 0 n → ∃ i : Nat, (i : Int) < S 51 0 n ∧ sg i = l) (so : ∀ i : Nat, (i : Int) + 1 < S 51 0 n → C 13 (n + 1) i < C 13 (n + 1) (i + 1)) (hl : S 49 0 n = -1) (bd : ∀ c : Nat, c < 12 → 0 ≤ C 37 k c ∧ C 37 k c + w ≤ 2000000) (hVv : V (S 50 0 n).toNat = v) (lo : ∀ i : Nat, i < a → C 13 (n + 1) i < v) (hi : (a : Int) + 1 = S 51 0 n ∨ v ≤ C 13 (n + 1) a) (k0 : ∀ (h' : gH) (C' : dC), D h' A N zz C' P → Kb C C' k → (∀ c : Nat, c < 12 → C' 37 k c = C 37 k c + bl S V 1 n w c) → Qn h') : vX0_addParts_r2_b117 t0 Qn h (some (A 37 k)) (some (A 12 (n + 1))) v2 (some (A 22 k)) v4 v5 v6 := by
  have nn := K.nn
  have i1 := I.nn
  have i2 := I.cm n (by omega)
  have aN : ac N 12 (n + 1) := show n + 1 < N 1 + 1 by omega
  have same : (C 13 (n + 1) a = v ∨ (a = 0 ∧ v < C 13 (n + 1) 0) ∨ ((a : Int) + 1 = S 51 0 n ∧ C 13 (n + 1) a < v)) → vX0_addParts_r2_b140 t0 Qn h (some (A 37 k)) (some (A 12 (n + 1))) v2 (some (A 22 k)) v4 v5 v6 := fun cs => by
    unfold vX0_addParts_r2_b140
    exact c_parts_b142_r2 ap hk I R K hV hn h2 hw h4 h5 hv h6 h6 sg ha hs on so hl bd hVv (Or.inl ⟨rfl, cs⟩) k0
  unfold vX0_addParts_r2_b117
  refine cle32 h6 (vl (by decide)) (fun z => same ?_) (fun z => nn_i (wio R aN rfl (by decide) (c_pos R (by omega) h6 (by omega) (fun x3 h3 => ?_))))
  · have z0 : a = 0 := by omega
    subst z0
    omega
  · refine cle32 h3 h5 (fun y => same (by omega)) (fun y => ?_)
    have e : a = (a - 1) + 1 := by omega
    exact c_parts_b142_r2 ap hk I R K hV hn h2 hw h4 h5 hv h6 (b := a - 1) ((sub_ti h6 (vl (by decide)) (by omega)).trans (by omega)) sg ha hs on so hl bd hVv (Or.inr ⟨e, lo (a - 1) (by omega), by rw [← e]; omega⟩) k0
theorem c_parts_b86_r2 {Qn : gH → Prop} {v2 v4 v5 : Int32} {n : Nat} {w v : Int} (ap : APs A N zz P S k V t0 1 0 (vX0_addParts_r1 t0)) (hk : k < 4) (I : SI S) (R : D h A N zz C P) (K : KS S N zz C P) (hV : ∀ p : Nat, p < 8 → C 22 k p = V p) (hn : n < N 1) (h2 : v2.toInt = w) (hw : 0 < w ∧ w ≤ 1000000) (h4 : v4.toInt = 6 - 2) (h5 : v5.toInt = v) (hv : -100 ≤ v ∧ v ≤ 100) (sg : Nat → Nat) (hs : ∀ i : Nat, (i : Int) < S 51 0 n → ((sg i : Nat) : Int) < S 51 0 n ∧ (∀ a : Nat, P 6 (n + 5) 1 = some (7, a) → P 7 a i = some (12, (S 52 0 (5 * n + sg i)).toNat + 1)) ∧ C 13 (n + 1) i = S 53 0 (5 * n + sg i)) (on : ∀ l : Nat, (l : Int) < S 51 0 n → ∃ i : Nat, (i : Int) < S 51 0 n ∧ sg i = l) (so : ∀ i : Nat, (i : Int) + 1 < S 51 0 n → C 13 (n + 1) i < C 13 (n + 1) (i + 1)) (hl : S 49 0 n = -1) (bd : ∀ c : Nat, c < 12 → 0 ≤ C 37 k c ∧ C 37 k c + w ≤ 2000000) (hVv : V (S 50 0 n).toNat = v) (k0 : ∀ (h' : gH) (C' : dC), D h' A N zz C' P → Kb C C' k → (∀ c : Nat, c < 12 → C' 37 k c = C 37 k c + bl S V 1 n w c) → Qn h') :
  ∀ (m a : Nat) (v6 : Int32), v6.toInt = (a : Int) → ((a + m : Nat) : Int) + 1 = S 51 0 n → (∀ i : Nat, i < a → C 13 (n + 1) i < v) → vX0_addParts_r2_b86 t0 Qn (m + 1) h (some (A 37 k)) (some (A 12 (n + 1))) v2 (some (A 22 k)) v4 v5 v6 := by
  have nn := K.nn
  have i1 := I.nn
  have i2 := I.cm n (by omega)
  have h51 := K.szc n hn
  have aN : ac N 12 (n + 1) := show n + 1 < N 1 + 1 by omega
  have aL : n + 5 < N 1 + 5 := by omega
  intro m
  induction m with
  | zero =>
    intro a v6 h6 ham lo
    show vX0_addParts_r2_b86_o t0 (vX0_addParts_r2_b86 t0 Qn 0) Qn _ _ _ _ _ _ _ _
    unfold vX0_addParts_r2_b86_o
    refine nn_i (wgrs R aN rfl (show dS 12 (n + 1) 2 = some (6, n + 5) from rfl) (nn_i (wio R aL rfl (by decide) (ysize R aL (fun x5 hx => ?_)))))
    rw [h51] at hx
    exact cle32 (sub_ti hx (vl (by decide)) (by omega)) h6 (fun _ => c_parts_b117_r2 ap hk I R K hV hn h2 hw h4 h5 hv h6 sg (by omega) hs on so hl bd hVv lo (Or.inl (by omega)) k0) (fun z => by omega)
  | succ m ih =>
    intro a v6 h6 ham lo
    show vX0_addParts_r2_b86_o t0 (vX0_addParts_r2_b86 t0 Qn (m + 1)) Qn _ _ _ _ _ _ _ _
    unfold vX0_addParts_r2_b86_o
    refine nn_i (wgrs R aN rfl (show dS 12 (n + 1) 2 = some (6, n + 5) from rfl) (nn_i (wio R aL rfl (by decide) (ysize R aL (fun x5 hx => ?_)))))
    rw [h51] at hx
    refine cle32 (sub_ti hx (vl (by decide)) (by omega)) h6 (fun z => by omega) (fun _ => wio R aN rfl (by decide) (c_pos R (by omega) h6 (by omega) (fun x7 h7 => ?_)))
    refine cle32 h5 h7 (fun z => c_parts_b117_r2 ap hk I R K hV hn h2 hw h4 h5 hv h6 sg (by omega) hs on so hl bd hVv lo (Or.inr z) k0) (fun z => ?_)
    refine ih (a + 1) (v6 + 1) (ix_add h6 (ix_lit (by decide)) (by omega)) (by omega) (fun i hi => ?_)
    rcases Nat.lt_or_ge i a with y | y
    · exact lo i y
    · rw [show i = a by omega]; omega
theorem c_parts_r2 (ap : APs A N zz P S k V t0 1 0 (vX0_addParts_r1 t0)) (hk : k < 4) (I : SI S) (hVb : ∀ p : Nat, p < 8 → -100 ≤ V p ∧ V p ≤ 100) : APs A N zz P S k V t0 2 1 (vX0_addParts_r2 t0) := by
  intro Qn h C n w v2 v4 R K hV hn hc h2 hw h4 bd k0
  have nn := K.nn
  have i1 := I.nn
  have i0 := I.nc
  have i2 := I.cm n (by omega)
  have h51 := K.szc n hn
  have nd := K.nd n hn
  have aN : ac N 12 (n + 1) := show n + 1 < N 1 + 1 by omega
  have aL : n + 5 < N 1 + 5 := by omega
  have a37 : ac N 37 k := hk
  have a22 : ac N 22 k := hk
  unfold vX0_addParts_r2 vX0_addParts_r2_b10 vX0_addParts_r2_b47 vX0_addParts_r2_b74
  refine ceq32 h2 (vl (by decide)) (fun z => ?_) (fun z => ?_)
  · exact k0 h C R (fun _ _ _ _ => rfl) (fun c hc => by rw [bl_z S V _ n c (by omega)]; omega)
  refine cle32 h4 (vl (by decide)) (fun _ => nn_i ?_) (fun y => by omega)
  by_cases hl : S 49 0 n = -1
  · obtain ⟨n1, n2⟩ := nd.1 hl
    have hcm := hc.resolve_left (fun z => z hl)
    have np := I.npr n (by omega) hl
    obtain ⟨sg, hsg⟩ := K.ch
    obtain ⟨hs, on⟩ := hsg n hn
    refine ygn R aN rfl n1 ⟨fun _ => ?_, fun a9 h9 => by cases h9⟩
    refine ygi R aN rfl n2 (fun x4 hx4 => clt32 hx4 (vl (by decide)) (fun y => by omega) (fun _ => ?_))
    refine ygi R aN rfl n2 (fun x5 hx5 => nn_i (yal R a22 (by decide) (n := 8) rfl (by decide) (fun x7 hx7 => ?_)))
    refine cle32 hx7 hx5 (fun y => by omega) (fun _ => ?_)
    refine wgrs R aN rfl (show dS 12 (n + 1) 2 = some (6, n + 5) from rfl) (nn_i (wio R aL rfl (by decide) ?_))
    refine yempty R aL (fun y => by rw [h51] at y; omega) (fun _ => yes_eq ?_)
    refine ygi R aN rfl n2 (fun x12 hx12 => ?_)
    refine yli R a22 rfl (m := (S 50 0 n).toNat) (by omega) (show (S 50 0 n).toNat < 8 by omega) (hV _ (by omega)) (fun x13 hx13 => ?_)
    exact ⟨(S 51 0 n).toNat - 1 + 1, c_parts_b86_r2 ap hk I R K hV hn h2 (by omega) h4 hx13 (hVb _ (by omega)) (sg n) hs on (fun i hi => K.so n i hn hi) hl bd rfl k0 ((S 51 0 n).toNat - 1) 0 0 (by decide) (by omega) (fun i hi => absurd hi (Nat.not_lt_zero i))⟩
  · have n1 := nd.2 hl
    have nc := I.ncl n (by omega)
    have hcl := K.cl (S 49 0 n).toNat (by omega)
    have aC : ac N 9 ((S 49 0 n).toNat + 1) := show (S 49 0 n).toNat + 1 < N 0 + 1 by omega
    refine ygr R aN rfl n1 ⟨(fun z => by cases z), fun a9 h9 => ?_⟩
    refine ygr R aN rfl n1 (nn_i ?_)
    refine ygi R aC rfl hcl.1 (fun x16 hx16 => clt32 hx16 (vl (by decide)) (fun y => by omega) (fun _ => nn_i ?_))
    refine yal R a37 (by decide) (n := 12) rfl (by decide) (fun x18 hx18 => ?_)
    refine cle32 hx18 hx16 (fun y => by omega) (fun _ => ?_)
    have b1 := bd (S 49 0 n).toNat (by omega)
    refine wli R a37 rfl (m := (S 49 0 n).toNat) hx16 (show (S 49 0 n).toNat < 12 by omega) (fun x19 hx19 => ?_)
    refine wsi R a37 rfl (m := (S 49 0 n).toNat) hx16 (show (S 49 0 n).toNat < 12 by omega) (add_ti hx19 h2 (by omega)) (fun h' R' => k0 h' _ R' (fun j i f hj => up3_off_ C _ hj) (fun c hc => ?_))
    rw [bl_clip V (by omega) hl]
    simp only [up3, eq_self, asb, Nat.add_zero, Nat.zero_add, Nat.reduceEqDiff, false_and, and_false, and_true, true_and, if_true, if_false, ↓reduceIte]
    by_cases q : (c : Int) = S 49 0 n
    · have q2 : c = (S 49 0 n).toNat := by omega
      rw [if_pos q2, if_pos q, q2]
    · rw [if_neg (by omega), if_neg q]; omega
theorem c_parts_b187_r3 {Qn : gH → Prop} {v2 v4 v6 v7 v9 : Int32} {n a b : Nat} {w r : Int} (ap : APs A N zz P S k V t0 2 1 (vX0_addParts_r2 t0)) (hk : k < 4) (I : SI S) (R : D h A N zz C P) (K : KS S N zz C P) (hV : ∀ p : Nat, p < 8 → C 22 k p = V p) (hn : n < N 1) (h2 : v2.toInt = w) (hw : 0 ≤ w ∧ w ≤ 1000000) (h4 : v4.toInt = 6 - 3) (h6 : v6.toInt = (a : Int)) (h7 : v7.toInt = (b : Int)) (h9 : v9.toInt = r) (hr : 0 ≤ r ∧ r ≤ w) (sg : Nat → Nat) (ha : (a : Int) < S 51 0 n) (hb : (b : Int) < S 51 0 n) (hs : ∀ i : Nat, (i : Int) < S 51 0 n → ((sg i : Nat) : Int) < S 51 0 n ∧ (∀ a : Nat, P 6 (n + 5) 1 = some (7, a) → P 7 a i = some (12, (S 52 0 (5 * n + sg i)).toNat + 1))) (hl : S 49 0 n = -1) (bd : ∀ c : Nat, c < 12 → 0 ≤ C 37 k c ∧ C 37 k c + w ≤ 2000000) (hbl : ∀ c : Nat, bl S V 2 n w c = bl S V 1 (chN S n (sg a)) r c + bl S V 1 (chN S n (sg b)) (w - r) c) (k0 : ∀ (h' : gH) (C' : dC), D h' A N zz C' P → Kb C C' k → (∀ c : Nat, c < 12 → C' 37 k c = C 37 k c + bl S V 2 n w c) → Qn h') : vX0_addParts_r3_b187 t0 Qn h (some (A 37 k)) (some (A 12 (n + 1))) v2 (some (A 22 k)) v4 v6 v7 v9 := by
  have nn := K.nn
  have i1 := I.nn
  have h51 := K.szc n hn
  have aN : ac N 12 (n + 1) := show n + 1 < N 1 + 1 by omega
  have aL : n + 5 < N 1 + 5 := by omega
  have ca := I.cn n (sg a) (by omega) (hs a ha).1
  have cb := I.cn n (sg b) (by omega) (hs b hb).1
  have ea : (S 52 0 (5 * n + sg a)).toNat = chN S n (sg a) := rfl
  have eb : (S 52 0 (5 * n + sg b)).toNat = chN S n (sg b) := rfl
  have h41 : (v4 + 1).toInt = 6 - 2 := (add_ti h4 (vl (by decide)) (by decide)).trans (by decide)
  unfold vX0_addParts_r3_b187
  refine nn_i (wgrs R aN rfl (show dS 12 (n + 1) 2 = some (6, n + 5) from rfl) (nn_i (wio R aL rfl (by decide) ?_)))
  refine yget R K aL h6 (by rw [h51]; exact ha) (fun q hq => (hs a ha).2 q hq) (nn_i (wio R (show (S 52 0 (5 * n + sg a)).toNat + 1 < N 1 + 1 by omega) rfl (by decide) ?_))
  refine ap _ h C (chN S n (sg a)) r v9 (v4 + 1) R K hV (by rw [← ea]; omega) (I.cc n (sg a) (by omega) (hs a ha).1) h9 (by omega) h41 (fun c hc => by have := bd c hc; omega) (fun h' C' R' B' e' => ?_)
  have K' := K.fr (C' := C') (P' := P) (fun j i f hj => B' j i f (by omega)) (fun _ _ _ _ => rfl)
  refine wgrs R' aN rfl (show dS 12 (n + 1) 2 = some (6, n + 5) from rfl) (nn_i (wio R' aL rfl (by decide) ?_))
  refine yget R' K' aL h7 (by rw [B' 6 (n + 5) 2 (by omega), h51]; exact hb) (fun q hq => (hs b hb).2 q hq) (nn_i (wio R' (show (S 52 0 (5 * n + sg b)).toNat + 1 < N 1 + 1 by omega) rfl (by decide) ?_))
  refine ap _ h' C' (chN S n (sg b)) (w - r) (v2 - v9) (v4 + 1) R' K' (fun p hp => by rw [B' 22 k p (by omega)]; exact hV p hp) (by rw [← eb]; omega) (I.cc n (sg b) (by omega) (hs b hb).1) (sub_ti h2 h9 (by omega)) (by omega) h41 (fun c hc => ?_) (fun h2 C2 R2 B2 e2 => k0 h2 C2 R2 (fun j i f hj => (B2 j i f hj).trans (B' j i f hj)) (fun c hc => ?_))
  · have := bd c hc
    have := bl_in I V 1 (chN S n (sg a)) r c (by rw [← ea]; omega) hr.1
    rw [e' c hc]
    omega
  · rw [e2 c hc, e' c hc, hbl c]
    omega
theorem c_parts_b142_r3 {Qn : gH → Prop} {v2 v4 v5 v6 s0 : Int32} {n a b : Nat} {w v : Int} (ap : APs A N zz P S k V t0 2 1 (vX0_addParts_r2 t0)) (hk : k < 4) (I : SI S) (R : D h A N zz C P) (K : KS S N zz C P) (hV : ∀ p : Nat, p < 8 → C 22 k p = V p) (hn : n < N 1) (h2 : v2.toInt = w) (hw : 0 < w ∧ w ≤ 1000000) (h4 : v4.toInt = 6 - 3) (h5 : v5.toInt = v) (hv : -100 ≤ v ∧ v ≤ 100) (h6 : v6.toInt = (a : Int)) (h7 : s0.toInt = (b : Int)) (sg : Nat → Nat) (ha : (a : Int) < S 51 0 n) (hs : ∀ i : Nat, (i : Int) < S 51 0 n → ((sg i : Nat) : Int) < S 51 0 n ∧ (∀ a : Nat, P 6 (n + 5) 1 = some (7, a) → P 7 a i = some (12, (S 52 0 (5 * n + sg i)).toNat + 1)) ∧ C 13 (n + 1) i = S 53 0 (5 * n + sg i)) (on : ∀ l : Nat, (l : Int) < S 51 0 n → ∃ i : Nat, (i : Int) < S 51 0 n ∧ sg i = l) (so : ∀ i : Nat, (i : Int) + 1 < S 51 0 n → C 13 (n + 1) i < C 13 (n + 1) (i + 1)) (hl : S 49 0 n = -1) (bd : ∀ c : Nat, c < 12 → 0 ≤ C 37 k c ∧ C 37 k c + w ≤ 2000000) (hVv : V (S 50 0 n).toNat = v)
  (hab : (a = b ∧ (C 13 (n + 1) a = v ∨ (a = 0 ∧ v < C 13 (n + 1) 0) ∨ ((a : Int) + 1 = S 51 0 n ∧ C 13 (n + 1) a < v))) ∨ (a = b + 1 ∧ C 13 (n + 1) b < v ∧ v < C 13 (n + 1) (b + 1))) (k0 : ∀ (h' : gH) (C' : dC), D h' A N zz C' P → Kb C C' k → (∀ c : Nat, c < 12 → C' 37 k c = C 37 k c + bl S V 2 n w c) → Qn h') : vX0_addParts_r3_b142 t0 Qn h (some (A 37 k)) (some (A 12 (n + 1))) v2 (some (A 22 k)) v4 v5 v6 s0 := by
  have nn := K.nn
  have i1 := I.nn
  have i2 := I.cm n (by omega)
  have aN : ac N 12 (n + 1) := show n + 1 < N 1 + 1 by omega
  have mo := so_mono so
  have ps : ∀ i : Nat, (i : Int) < S 51 0 n → S 53 0 (5 * n + sg i) = C 13 (n + 1) i := fun i hi => ((hs i hi).2.2).symm
  have pr : ∀ i : Nat, (i : Int) < S 51 0 n → -100 ≤ C 13 (n + 1) i ∧ C 13 (n + 1) i ≤ 100 := fun i hi => by rw [← ps i hi]; exact I.ca n (sg i) (by omega) (hs i hi).1
  have hb : (b : Int) < S 51 0 n := by omega
  have pa := pr a ha
  have pb := pr b hb
  unfold vX0_addParts_r3_b142
  refine nn_i (wio R aN rfl (by decide) (c_pos R (by omega) h6 (by omega) (fun x3 h3 => wio R aN rfl (by decide) (c_pos R (by omega) h7 (by omega) (fun x5 h5' => ?_)))))
  have hd : (x3 - x5).toInt = C 13 (n + 1) a - C 13 (n + 1) b := sub_ti h3 h5' (by omega)
  have fin := fun (v9 : Int32) (r : Int) (h9 : v9.toInt = r) (hr : 0 ≤ r ∧ r ≤ w) (hbl : ∀ c : Nat, bl S V 2 n w c = bl S V 1 (chN S n (sg a)) r c + bl S V 1 (chN S n (sg b)) (w - r) c) => c_parts_b187_r3 ap hk I R K hV hn h2 ⟨by omega, hw.2⟩ h4 h6 h7 h9 hr sg ha hb (fun i hi => ⟨(hs i hi).1, (hs i hi).2.1⟩) hl bd hbl k0
  rcases hab with ⟨e, cs⟩ | ⟨e, c1, c2⟩
  · subst e
    refine cle32 hd (vl (by decide)) (fun _ => ?_) (fun z => by omega)
    refine fin 0 0 (by decide) ⟨Int.le_refl _, by omega⟩ (fun c => ?_)
    rw [bl_z S V _ _ c (Int.le_refl 0), show w - 0 = w by omega, bl_one I V hw.1 hl (by omega) hVv (fun i hi => ⟨(hs i hi).1, ps i hi⟩) on mo ha cs 1 c]
    omega
  · subst e
    refine cle32 hd (vl (by decide)) (fun z => by omega) (fun _ => ?_)
    refine wio R aN rfl (by decide) (c_pos R (by omega) h7 (by omega) (fun x7 h7' => ⟨ne_ti ⟨wid_ti hd, by omega⟩, ?_⟩))
    have up := upW_in (S := S) (n := n) (b := sg b) (a := sg (b + 1)) (v := v) (w := w) (by omega) (by rw [ps b hb]; omega) (by rw [ps (b + 1) ha]; omega) (by rw [ps b hb, ps (b + 1) ha]; omega)
    have ue : upW S n (sg b) (sg (b + 1)) v w = w * (v - C 13 (n + 1) b) / (C 13 (n + 1) (b + 1) - C 13 (n + 1) b) := by unfold upW; rw [ps b hb, ps (b + 1) ha]
    have m0 : 0 ≤ w * (v - C 13 (n + 1) b) := Int.mul_nonneg (by omega) (by omega)
    have m1 : w * (v - C 13 (n + 1) b) ≤ 1000000 * 200 := Int.mul_le_mul hw.2 (by omega) (by omega) (by decide)
    refine fin _ (upW S n (sg b) (sg (b + 1)) v w) ?_ up (fun c => bl_two I V hw.1 hl (by omega) hVv (fun i hi => ⟨(hs i hi).1, ps i hi⟩) on mo ha c1 c2 1 c)
    rw [ue] at up ⊢
    exact nar_ti (divL_ti (mulL_ti (wid_ti h2) (wid_ti (sub_ti h5 h7' (by omega))) (by omega)) (wid_ti hd) m0 (by omega)) (by omega)
theorem c_parts_b117_r3 {Qn : gH → Prop} {v2 v4 v5 v6 : Int32} {n a : Nat} {w v : Int} (ap : APs A N zz P S k V t0 2 1 (vX0_addParts_r2 t0)) (hk : k < 4) (I : SI S) (R : D h A N zz C P) (K : KS S N zz C P) (hV : ∀ p : Nat, p < 8 → C 22 k p = V p) (hn : n < N 1) (h2 : v2.toInt = w) (hw : 0 < w ∧ w ≤ 1000000) (h4 : v4.toInt = 6 - 3) (h5 : v5.toInt = v) (hv : -100 ≤ v ∧ v ≤ 100) (h6 : v6.toInt = (a : Int)) (sg : Nat → Nat) (ha : (a : Int) < S 51 0 n) (hs : ∀ i : Nat, (i : Int) < S 51 0 n → ((sg i : Nat) : Int) < S 51 0 n ∧ (∀ a : Nat, P 6 (n + 5) 1 = some (7, a) → P 7 a i = some (12, (S 52 0 (5 * n + sg i)).toNat + 1)) ∧ C 13 (n + 1) i = S 53 0 (5 * n + sg i)) (on : ∀ l : Nat, (l : Int) < S 51 0 n → ∃ i : Nat, (i : Int) < S 51 0 n ∧ sg i = l) (so : ∀ i : Nat, (i : Int) + 1 < S 51 0 n → C 13 (n + 1) i < C 13 (n + 1) (i + 1)) (hl : S 49 0 n = -1) (bd : ∀ c : Nat, c < 12 → 0 ≤ C 37 k c ∧ C 37 k c + w ≤ 2000000) (hVv : V (S 50 0 n).toNat = v) (lo : ∀ i : Nat, i < a → C 13 (n + 1) i < v) (hi : (a : Int) + 1 = S 51 0 n ∨ v ≤ C 13 (n + 1) a) (k0 : ∀ (h' : gH) (C' : dC), D h' A N zz C' P → Kb C C' k → (∀ c : Nat, c < 12 → C' 37 k c = C 37 k c + bl S V 2 n w c) → Qn h') : vX0_addParts_r3_b117 t0 Qn h (some (A 37 k)) (some (A 12 (n + 1))) v2 (some (A 22 k)) v4 v5 v6 := by
  have nn := K.nn
  have i1 := I.nn
  have i2 := I.cm n (by omega)
  have aN : ac N 12 (n + 1) := show n + 1 < N 1 + 1 by omega
  have same : (C 13 (n + 1) a = v ∨ (a = 0 ∧ v < C 13 (n + 1) 0) ∨ ((a : Int) + 1 = S 51 0 n ∧ C 13 (n + 1) a < v)) → vX0_addParts_r3_b140 t0 Qn h (some (A 37 k)) (some (A 12 (n + 1))) v2 (some (A 22 k)) v4 v5 v6 := fun cs => by
    unfold vX0_addParts_r3_b140
    exact c_parts_b142_r3 ap hk I R K hV hn h2 hw h4 h5 hv h6 h6 sg ha hs on so hl bd hVv (Or.inl ⟨rfl, cs⟩) k0
  unfold vX0_addParts_r3_b117
  refine cle32 h6 (vl (by decide)) (fun z => same ?_) (fun z => nn_i (wio R aN rfl (by decide) (c_pos R (by omega) h6 (by omega) (fun x3 h3 => ?_))))
  · have z0 : a = 0 := by omega
    subst z0
    omega
  · refine cle32 h3 h5 (fun y => same (by omega)) (fun y => ?_)
    have e : a = (a - 1) + 1 := by omega
    exact c_parts_b142_r3 ap hk I R K hV hn h2 hw h4 h5 hv h6 (b := a - 1) ((sub_ti h6 (vl (by decide)) (by omega)).trans (by omega)) sg ha hs on so hl bd hVv (Or.inr ⟨e, lo (a - 1) (by omega), by rw [← e]; omega⟩) k0
theorem c_parts_b86_r3 {Qn : gH → Prop} {v2 v4 v5 : Int32} {n : Nat} {w v : Int} (ap : APs A N zz P S k V t0 2 1 (vX0_addParts_r2 t0)) (hk : k < 4) (I : SI S) (R : D h A N zz C P) (K : KS S N zz C P) (hV : ∀ p : Nat, p < 8 → C 22 k p = V p) (hn : n < N 1) (h2 : v2.toInt = w) (hw : 0 < w ∧ w ≤ 1000000) (h4 : v4.toInt = 6 - 3) (h5 : v5.toInt = v) (hv : -100 ≤ v ∧ v ≤ 100) (sg : Nat → Nat) (hs : ∀ i : Nat, (i : Int) < S 51 0 n → ((sg i : Nat) : Int) < S 51 0 n ∧ (∀ a : Nat, P 6 (n + 5) 1 = some (7, a) → P 7 a i = some (12, (S 52 0 (5 * n + sg i)).toNat + 1)) ∧ C 13 (n + 1) i = S 53 0 (5 * n + sg i)) (on : ∀ l : Nat, (l : Int) < S 51 0 n → ∃ i : Nat, (i : Int) < S 51 0 n ∧ sg i = l) (so : ∀ i : Nat, (i : Int) + 1 < S 51 0 n → C 13 (n + 1) i < C 13 (n + 1) (i + 1)) (hl : S 49 0 n = -1) (bd : ∀ c : Nat, c < 12 → 0 ≤ C 37 k c ∧ C 37 k c + w ≤ 2000000) (hVv : V (S 50 0 n).toNat = v) (k0 : ∀ (h' : gH) (C' : dC), D h' A N zz C' P → Kb C C' k → (∀ c : Nat, c < 12 → C' 37 k c = C 37 k c + bl S V 2 n w c) → Qn h') :
  ∀ (m a : Nat) (v6 : Int32), v6.toInt = (a : Int) → ((a + m : Nat) : Int) + 1 = S 51 0 n → (∀ i : Nat, i < a → C 13 (n + 1) i < v) → vX0_addParts_r3_b86 t0 Qn (m + 1) h (some (A 37 k)) (some (A 12 (n + 1))) v2 (some (A 22 k)) v4 v5 v6 := by
  have nn := K.nn
  have i1 := I.nn
  have i2 := I.cm n (by omega)
  have h51 := K.szc n hn
  have aN : ac N 12 (n + 1) := show n + 1 < N 1 + 1 by omega
  have aL : n + 5 < N 1 + 5 := by omega
  intro m
  induction m with
  | zero =>
    intro a v6 h6 ham lo
    show vX0_addParts_r3_b86_o t0 (vX0_addParts_r3_b86 t0 Qn 0) Qn _ _ _ _ _ _ _ _
    unfold vX0_addParts_r3_b86_o
    refine nn_i (wgrs R aN rfl (show dS 12 (n + 1) 2 = some (6, n + 5) from rfl) (nn_i (wio R aL rfl (by decide) (ysize R aL (fun x5 hx => ?_)))))
    rw [h51] at hx
    exact cle32 (sub_ti hx (vl (by decide)) (by omega)) h6 (fun _ => c_parts_b117_r3 ap hk I R K hV hn h2 hw h4 h5 hv h6 sg (by omega) hs on so hl bd hVv lo (Or.inl (by omega)) k0) (fun z => by omega)
  | succ m ih =>
    intro a v6 h6 ham lo
    show vX0_addParts_r3_b86_o t0 (vX0_addParts_r3_b86 t0 Qn (m + 1)) Qn _ _ _ _ _ _ _ _
    unfold vX0_addParts_r3_b86_o
    refine nn_i (wgrs R aN rfl (show dS 12 (n + 1) 2 = some (6, n + 5) from rfl) (nn_i (wio R aL rfl (by decide) (ysize R aL (fun x5 hx => ?_)))))
    rw [h51] at hx
    refine cle32 (sub_ti hx (vl (by decide)) (by omega)) h6 (fun z => by omega) (fun _ => wio R aN rfl (by decide) (c_pos R (by omega) h6 (by omega) (fun x7 h7 => ?_)))
    refine cle32 h5 h7 (fun z => c_parts_b117_r3 ap hk I R K hV hn h2 hw h4 h5 hv h6 sg (by omega) hs on so hl bd hVv lo (Or.inr z) k0) (fun z => ?_)
    refine ih (a + 1) (v6 + 1) (ix_add h6 (ix_lit (by decide)) (by omega)) (by omega) (fun i hi => ?_)
    rcases Nat.lt_or_ge i a with y | y
    · exact lo i y
    · rw [show i = a by omega]; omega
theorem c_parts_r3 (ap : APs A N zz P S k V t0 2 1 (vX0_addParts_r2 t0)) (hk : k < 4) (I : SI S) (hVb : ∀ p : Nat, p < 8 → -100 ≤ V p ∧ V p ≤ 100) : APs A N zz P S k V t0 3 2 (vX0_addParts_r3 t0) := by
  intro Qn h C n w v2 v4 R K hV hn hc h2 hw h4 bd k0
  have nn := K.nn
  have i1 := I.nn
  have i0 := I.nc
  have i2 := I.cm n (by omega)
  have h51 := K.szc n hn
  have nd := K.nd n hn
  have aN : ac N 12 (n + 1) := show n + 1 < N 1 + 1 by omega
  have aL : n + 5 < N 1 + 5 := by omega
  have a37 : ac N 37 k := hk
  have a22 : ac N 22 k := hk
  unfold vX0_addParts_r3 vX0_addParts_r3_b10 vX0_addParts_r3_b47 vX0_addParts_r3_b74
  refine ceq32 h2 (vl (by decide)) (fun z => ?_) (fun z => ?_)
  · exact k0 h C R (fun _ _ _ _ => rfl) (fun c hc => by rw [bl_z S V _ n c (by omega)]; omega)
  refine cle32 h4 (vl (by decide)) (fun _ => nn_i ?_) (fun y => by omega)
  by_cases hl : S 49 0 n = -1
  · obtain ⟨n1, n2⟩ := nd.1 hl
    have hcm := hc.resolve_left (fun z => z hl)
    have np := I.npr n (by omega) hl
    obtain ⟨sg, hsg⟩ := K.ch
    obtain ⟨hs, on⟩ := hsg n hn
    refine ygn R aN rfl n1 ⟨fun _ => ?_, fun a9 h9 => by cases h9⟩
    refine ygi R aN rfl n2 (fun x4 hx4 => clt32 hx4 (vl (by decide)) (fun y => by omega) (fun _ => ?_))
    refine ygi R aN rfl n2 (fun x5 hx5 => nn_i (yal R a22 (by decide) (n := 8) rfl (by decide) (fun x7 hx7 => ?_)))
    refine cle32 hx7 hx5 (fun y => by omega) (fun _ => ?_)
    refine wgrs R aN rfl (show dS 12 (n + 1) 2 = some (6, n + 5) from rfl) (nn_i (wio R aL rfl (by decide) ?_))
    refine yempty R aL (fun y => by rw [h51] at y; omega) (fun _ => yes_eq ?_)
    refine ygi R aN rfl n2 (fun x12 hx12 => ?_)
    refine yli R a22 rfl (m := (S 50 0 n).toNat) (by omega) (show (S 50 0 n).toNat < 8 by omega) (hV _ (by omega)) (fun x13 hx13 => ?_)
    exact ⟨(S 51 0 n).toNat - 1 + 1, c_parts_b86_r3 ap hk I R K hV hn h2 (by omega) h4 hx13 (hVb _ (by omega)) (sg n) hs on (fun i hi => K.so n i hn hi) hl bd rfl k0 ((S 51 0 n).toNat - 1) 0 0 (by decide) (by omega) (fun i hi => absurd hi (Nat.not_lt_zero i))⟩
  · have n1 := nd.2 hl
    have nc := I.ncl n (by omega)
    have hcl := K.cl (S 49 0 n).toNat (by omega)
    have aC : ac N 9 ((S 49 0 n).toNat + 1) := show (S 49 0 n).toNat + 1 < N 0 + 1 by omega
    refine ygr R aN rfl n1 ⟨(fun z => by cases z), fun a9 h9 => ?_⟩
    refine ygr R aN rfl n1 (nn_i ?_)
    refine ygi R aC rfl hcl.1 (fun x16 hx16 => clt32 hx16 (vl (by decide)) (fun y => by omega) (fun _ => nn_i ?_))
    refine yal R a37 (by decide) (n := 12) rfl (by decide) (fun x18 hx18 => ?_)
    refine cle32 hx18 hx16 (fun y => by omega) (fun _ => ?_)
    have b1 := bd (S 49 0 n).toNat (by omega)
    refine wli R a37 rfl (m := (S 49 0 n).toNat) hx16 (show (S 49 0 n).toNat < 12 by omega) (fun x19 hx19 => ?_)
    refine wsi R a37 rfl (m := (S 49 0 n).toNat) hx16 (show (S 49 0 n).toNat < 12 by omega) (add_ti hx19 h2 (by omega)) (fun h' R' => k0 h' _ R' (fun j i f hj => up3_off_ C _ hj) (fun c hc => ?_))
    rw [bl_clip V (by omega) hl]
    simp only [up3, eq_self, asb, Nat.add_zero, Nat.zero_add, Nat.reduceEqDiff, false_and, and_false, and_true, true_and, if_true, if_false, ↓reduceIte]
    by_cases q : (c : Int) = S 49 0 n
    · have q2 : c = (S 49 0 n).toNat := by omega
      rw [if_pos q2, if_pos q, q2]
    · rw [if_neg (by omega), if_neg q]; omega
theorem c_parts_b187_r4 {Qn : gH → Prop} {v2 v4 v6 v7 v9 : Int32} {n a b : Nat} {w r : Int} (ap : APs A N zz P S k V t0 3 2 (vX0_addParts_r3 t0)) (hk : k < 4) (I : SI S) (R : D h A N zz C P) (K : KS S N zz C P) (hV : ∀ p : Nat, p < 8 → C 22 k p = V p) (hn : n < N 1) (h2 : v2.toInt = w) (hw : 0 ≤ w ∧ w ≤ 1000000) (h4 : v4.toInt = 6 - 4) (h6 : v6.toInt = (a : Int)) (h7 : v7.toInt = (b : Int)) (h9 : v9.toInt = r) (hr : 0 ≤ r ∧ r ≤ w) (sg : Nat → Nat) (ha : (a : Int) < S 51 0 n) (hb : (b : Int) < S 51 0 n) (hs : ∀ i : Nat, (i : Int) < S 51 0 n → ((sg i : Nat) : Int) < S 51 0 n ∧ (∀ a : Nat, P 6 (n + 5) 1 = some (7, a) → P 7 a i = some (12, (S 52 0 (5 * n + sg i)).toNat + 1))) (hl : S 49 0 n = -1) (bd : ∀ c : Nat, c < 12 → 0 ≤ C 37 k c ∧ C 37 k c + w ≤ 2000000) (hbl : ∀ c : Nat, bl S V 3 n w c = bl S V 2 (chN S n (sg a)) r c + bl S V 2 (chN S n (sg b)) (w - r) c) (k0 : ∀ (h' : gH) (C' : dC), D h' A N zz C' P → Kb C C' k → (∀ c : Nat, c < 12 → C' 37 k c = C 37 k c + bl S V 3 n w c) → Qn h') : vX0_addParts_r4_b187 t0 Qn h (some (A 37 k)) (some (A 12 (n + 1))) v2 (some (A 22 k)) v4 v6 v7 v9 := by
  have nn := K.nn
  have i1 := I.nn
  have h51 := K.szc n hn
  have aN : ac N 12 (n + 1) := show n + 1 < N 1 + 1 by omega
  have aL : n + 5 < N 1 + 5 := by omega
  have ca := I.cn n (sg a) (by omega) (hs a ha).1
  have cb := I.cn n (sg b) (by omega) (hs b hb).1
  have ea : (S 52 0 (5 * n + sg a)).toNat = chN S n (sg a) := rfl
  have eb : (S 52 0 (5 * n + sg b)).toNat = chN S n (sg b) := rfl
  have h41 : (v4 + 1).toInt = 6 - 3 := (add_ti h4 (vl (by decide)) (by decide)).trans (by decide)
  unfold vX0_addParts_r4_b187
  refine nn_i (wgrs R aN rfl (show dS 12 (n + 1) 2 = some (6, n + 5) from rfl) (nn_i (wio R aL rfl (by decide) ?_)))
  refine yget R K aL h6 (by rw [h51]; exact ha) (fun q hq => (hs a ha).2 q hq) (nn_i (wio R (show (S 52 0 (5 * n + sg a)).toNat + 1 < N 1 + 1 by omega) rfl (by decide) ?_))
  refine ap _ h C (chN S n (sg a)) r v9 (v4 + 1) R K hV (by rw [← ea]; omega) (I.cc n (sg a) (by omega) (hs a ha).1) h9 (by omega) h41 (fun c hc => by have := bd c hc; omega) (fun h' C' R' B' e' => ?_)
  have K' := K.fr (C' := C') (P' := P) (fun j i f hj => B' j i f (by omega)) (fun _ _ _ _ => rfl)
  refine wgrs R' aN rfl (show dS 12 (n + 1) 2 = some (6, n + 5) from rfl) (nn_i (wio R' aL rfl (by decide) ?_))
  refine yget R' K' aL h7 (by rw [B' 6 (n + 5) 2 (by omega), h51]; exact hb) (fun q hq => (hs b hb).2 q hq) (nn_i (wio R' (show (S 52 0 (5 * n + sg b)).toNat + 1 < N 1 + 1 by omega) rfl (by decide) ?_))
  refine ap _ h' C' (chN S n (sg b)) (w - r) (v2 - v9) (v4 + 1) R' K' (fun p hp => by rw [B' 22 k p (by omega)]; exact hV p hp) (by rw [← eb]; omega) (I.cc n (sg b) (by omega) (hs b hb).1) (sub_ti h2 h9 (by omega)) (by omega) h41 (fun c hc => ?_) (fun h2 C2 R2 B2 e2 => k0 h2 C2 R2 (fun j i f hj => (B2 j i f hj).trans (B' j i f hj)) (fun c hc => ?_))
  · have := bd c hc
    have := bl_in I V 2 (chN S n (sg a)) r c (by rw [← ea]; omega) hr.1
    rw [e' c hc]
    omega
  · rw [e2 c hc, e' c hc, hbl c]
    omega
theorem c_parts_b142_r4 {Qn : gH → Prop} {v2 v4 v5 v6 s0 : Int32} {n a b : Nat} {w v : Int} (ap : APs A N zz P S k V t0 3 2 (vX0_addParts_r3 t0)) (hk : k < 4) (I : SI S) (R : D h A N zz C P) (K : KS S N zz C P) (hV : ∀ p : Nat, p < 8 → C 22 k p = V p) (hn : n < N 1) (h2 : v2.toInt = w) (hw : 0 < w ∧ w ≤ 1000000) (h4 : v4.toInt = 6 - 4) (h5 : v5.toInt = v) (hv : -100 ≤ v ∧ v ≤ 100) (h6 : v6.toInt = (a : Int)) (h7 : s0.toInt = (b : Int)) (sg : Nat → Nat) (ha : (a : Int) < S 51 0 n) (hs : ∀ i : Nat, (i : Int) < S 51 0 n → ((sg i : Nat) : Int) < S 51 0 n ∧ (∀ a : Nat, P 6 (n + 5) 1 = some (7, a) → P 7 a i = some (12, (S 52 0 (5 * n + sg i)).toNat + 1)) ∧ C 13 (n + 1) i = S 53 0 (5 * n + sg i)) (on : ∀ l : Nat, (l : Int) < S 51 0 n → ∃ i : Nat, (i : Int) < S 51 0 n ∧ sg i = l) (so : ∀ i : Nat, (i : Int) + 1 < S 51 0 n → C 13 (n + 1) i < C 13 (n + 1) (i + 1)) (hl : S 49 0 n = -1) (bd : ∀ c : Nat, c < 12 → 0 ≤ C 37 k c ∧ C 37 k c + w ≤ 2000000) (hVv : V (S 50 0 n).toNat = v)
  (hab : (a = b ∧ (C 13 (n + 1) a = v ∨ (a = 0 ∧ v < C 13 (n + 1) 0) ∨ ((a : Int) + 1 = S 51 0 n ∧ C 13 (n + 1) a < v))) ∨ (a = b + 1 ∧ C 13 (n + 1) b < v ∧ v < C 13 (n + 1) (b + 1))) (k0 : ∀ (h' : gH) (C' : dC), D h' A N zz C' P → Kb C C' k → (∀ c : Nat, c < 12 → C' 37 k c = C 37 k c + bl S V 3 n w c) → Qn h') : vX0_addParts_r4_b142 t0 Qn h (some (A 37 k)) (some (A 12 (n + 1))) v2 (some (A 22 k)) v4 v5 v6 s0 := by
  have nn := K.nn
  have i1 := I.nn
  have i2 := I.cm n (by omega)
  have aN : ac N 12 (n + 1) := show n + 1 < N 1 + 1 by omega
  have mo := so_mono so
  have ps : ∀ i : Nat, (i : Int) < S 51 0 n → S 53 0 (5 * n + sg i) = C 13 (n + 1) i := fun i hi => ((hs i hi).2.2).symm
  have pr : ∀ i : Nat, (i : Int) < S 51 0 n → -100 ≤ C 13 (n + 1) i ∧ C 13 (n + 1) i ≤ 100 := fun i hi => by rw [← ps i hi]; exact I.ca n (sg i) (by omega) (hs i hi).1
  have hb : (b : Int) < S 51 0 n := by omega
  have pa := pr a ha
  have pb := pr b hb
  unfold vX0_addParts_r4_b142
  refine nn_i (wio R aN rfl (by decide) (c_pos R (by omega) h6 (by omega) (fun x3 h3 => wio R aN rfl (by decide) (c_pos R (by omega) h7 (by omega) (fun x5 h5' => ?_)))))
  have hd : (x3 - x5).toInt = C 13 (n + 1) a - C 13 (n + 1) b := sub_ti h3 h5' (by omega)
  have fin := fun (v9 : Int32) (r : Int) (h9 : v9.toInt = r) (hr : 0 ≤ r ∧ r ≤ w) (hbl : ∀ c : Nat, bl S V 3 n w c = bl S V 2 (chN S n (sg a)) r c + bl S V 2 (chN S n (sg b)) (w - r) c) => c_parts_b187_r4 ap hk I R K hV hn h2 ⟨by omega, hw.2⟩ h4 h6 h7 h9 hr sg ha hb (fun i hi => ⟨(hs i hi).1, (hs i hi).2.1⟩) hl bd hbl k0
  rcases hab with ⟨e, cs⟩ | ⟨e, c1, c2⟩
  · subst e
    refine cle32 hd (vl (by decide)) (fun _ => ?_) (fun z => by omega)
    refine fin 0 0 (by decide) ⟨Int.le_refl _, by omega⟩ (fun c => ?_)
    rw [bl_z S V _ _ c (Int.le_refl 0), show w - 0 = w by omega, bl_one I V hw.1 hl (by omega) hVv (fun i hi => ⟨(hs i hi).1, ps i hi⟩) on mo ha cs 2 c]
    omega
  · subst e
    refine cle32 hd (vl (by decide)) (fun z => by omega) (fun _ => ?_)
    refine wio R aN rfl (by decide) (c_pos R (by omega) h7 (by omega) (fun x7 h7' => ⟨ne_ti ⟨wid_ti hd, by omega⟩, ?_⟩))
    have up := upW_in (S := S) (n := n) (b := sg b) (a := sg (b + 1)) (v := v) (w := w) (by omega) (by rw [ps b hb]; omega) (by rw [ps (b + 1) ha]; omega) (by rw [ps b hb, ps (b + 1) ha]; omega)
    have ue : upW S n (sg b) (sg (b + 1)) v w = w * (v - C 13 (n + 1) b) / (C 13 (n + 1) (b + 1) - C 13 (n + 1) b) := by unfold upW; rw [ps b hb, ps (b + 1) ha]
    have m0 : 0 ≤ w * (v - C 13 (n + 1) b) := Int.mul_nonneg (by omega) (by omega)
    have m1 : w * (v - C 13 (n + 1) b) ≤ 1000000 * 200 := Int.mul_le_mul hw.2 (by omega) (by omega) (by decide)
    refine fin _ (upW S n (sg b) (sg (b + 1)) v w) ?_ up (fun c => bl_two I V hw.1 hl (by omega) hVv (fun i hi => ⟨(hs i hi).1, ps i hi⟩) on mo ha c1 c2 2 c)
    rw [ue] at up ⊢
    exact nar_ti (divL_ti (mulL_ti (wid_ti h2) (wid_ti (sub_ti h5 h7' (by omega))) (by omega)) (wid_ti hd) m0 (by omega)) (by omega)
theorem c_parts_b117_r4 {Qn : gH → Prop} {v2 v4 v5 v6 : Int32} {n a : Nat} {w v : Int} (ap : APs A N zz P S k V t0 3 2 (vX0_addParts_r3 t0)) (hk : k < 4) (I : SI S) (R : D h A N zz C P) (K : KS S N zz C P) (hV : ∀ p : Nat, p < 8 → C 22 k p = V p) (hn : n < N 1) (h2 : v2.toInt = w) (hw : 0 < w ∧ w ≤ 1000000) (h4 : v4.toInt = 6 - 4) (h5 : v5.toInt = v) (hv : -100 ≤ v ∧ v ≤ 100) (h6 : v6.toInt = (a : Int)) (sg : Nat → Nat) (ha : (a : Int) < S 51 0 n) (hs : ∀ i : Nat, (i : Int) < S 51 0 n → ((sg i : Nat) : Int) < S 51 0 n ∧ (∀ a : Nat, P 6 (n + 5) 1 = some (7, a) → P 7 a i = some (12, (S 52 0 (5 * n + sg i)).toNat + 1)) ∧ C 13 (n + 1) i = S 53 0 (5 * n + sg i)) (on : ∀ l : Nat, (l : Int) < S 51 0 n → ∃ i : Nat, (i : Int) < S 51 0 n ∧ sg i = l) (so : ∀ i : Nat, (i : Int) + 1 < S 51 0 n → C 13 (n + 1) i < C 13 (n + 1) (i + 1)) (hl : S 49 0 n = -1) (bd : ∀ c : Nat, c < 12 → 0 ≤ C 37 k c ∧ C 37 k c + w ≤ 2000000) (hVv : V (S 50 0 n).toNat = v) (lo : ∀ i : Nat, i < a → C 13 (n + 1) i < v) (hi : (a : Int) + 1 = S 51 0 n ∨ v ≤ C 13 (n + 1) a) (k0 : ∀ (h' : gH) (C' : dC), D h' A N zz C' P → Kb C C' k → (∀ c : Nat, c < 12 → C' 37 k c = C 37 k c + bl S V 3 n w c) → Qn h') : vX0_addParts_r4_b117 t0 Qn h (some (A 37 k)) (some (A 12 (n + 1))) v2 (some (A 22 k)) v4 v5 v6 := by
  have nn := K.nn
  have i1 := I.nn
  have i2 := I.cm n (by omega)
  have aN : ac N 12 (n + 1) := show n + 1 < N 1 + 1 by omega
  have same : (C 13 (n + 1) a = v ∨ (a = 0 ∧ v < C 13 (n + 1) 0) ∨ ((a : Int) + 1 = S 51 0 n ∧ C 13 (n + 1) a < v)) → vX0_addParts_r4_b140 t0 Qn h (some (A 37 k)) (some (A 12 (n + 1))) v2 (some (A 22 k)) v4 v5 v6 := fun cs => by
    unfold vX0_addParts_r4_b140
    exact c_parts_b142_r4 ap hk I R K hV hn h2 hw h4 h5 hv h6 h6 sg ha hs on so hl bd hVv (Or.inl ⟨rfl, cs⟩) k0
  unfold vX0_addParts_r4_b117
  refine cle32 h6 (vl (by decide)) (fun z => same ?_) (fun z => nn_i (wio R aN rfl (by decide) (c_pos R (by omega) h6 (by omega) (fun x3 h3 => ?_))))
  · have z0 : a = 0 := by omega
    subst z0
    omega
  · refine cle32 h3 h5 (fun y => same (by omega)) (fun y => ?_)
    have e : a = (a - 1) + 1 := by omega
    exact c_parts_b142_r4 ap hk I R K hV hn h2 hw h4 h5 hv h6 (b := a - 1) ((sub_ti h6 (vl (by decide)) (by omega)).trans (by omega)) sg ha hs on so hl bd hVv (Or.inr ⟨e, lo (a - 1) (by omega), by rw [← e]; omega⟩) k0
theorem c_parts_b86_r4 {Qn : gH → Prop} {v2 v4 v5 : Int32} {n : Nat} {w v : Int} (ap : APs A N zz P S k V t0 3 2 (vX0_addParts_r3 t0)) (hk : k < 4) (I : SI S) (R : D h A N zz C P) (K : KS S N zz C P) (hV : ∀ p : Nat, p < 8 → C 22 k p = V p) (hn : n < N 1) (h2 : v2.toInt = w) (hw : 0 < w ∧ w ≤ 1000000) (h4 : v4.toInt = 6 - 4) (h5 : v5.toInt = v) (hv : -100 ≤ v ∧ v ≤ 100) (sg : Nat → Nat) (hs : ∀ i : Nat, (i : Int) < S 51 0 n → ((sg i : Nat) : Int) < S 51 0 n ∧ (∀ a : Nat, P 6 (n + 5) 1 = some (7, a) → P 7 a i = some (12, (S 52 0 (5 * n + sg i)).toNat + 1)) ∧ C 13 (n + 1) i = S 53 0 (5 * n + sg i)) (on : ∀ l : Nat, (l : Int) < S 51 0 n → ∃ i : Nat, (i : Int) < S 51 0 n ∧ sg i = l) (so : ∀ i : Nat, (i : Int) + 1 < S 51 0 n → C 13 (n + 1) i < C 13 (n + 1) (i + 1)) (hl : S 49 0 n = -1) (bd : ∀ c : Nat, c < 12 → 0 ≤ C 37 k c ∧ C 37 k c + w ≤ 2000000) (hVv : V (S 50 0 n).toNat = v) (k0 : ∀ (h' : gH) (C' : dC), D h' A N zz C' P → Kb C C' k → (∀ c : Nat, c < 12 → C' 37 k c = C 37 k c + bl S V 3 n w c) → Qn h') :
  ∀ (m a : Nat) (v6 : Int32), v6.toInt = (a : Int) → ((a + m : Nat) : Int) + 1 = S 51 0 n → (∀ i : Nat, i < a → C 13 (n + 1) i < v) → vX0_addParts_r4_b86 t0 Qn (m + 1) h (some (A 37 k)) (some (A 12 (n + 1))) v2 (some (A 22 k)) v4 v5 v6 := by
  have nn := K.nn
  have i1 := I.nn
  have i2 := I.cm n (by omega)
  have h51 := K.szc n hn
  have aN : ac N 12 (n + 1) := show n + 1 < N 1 + 1 by omega
  have aL : n + 5 < N 1 + 5 := by omega
  intro m
  induction m with
  | zero =>
    intro a v6 h6 ham lo
    show vX0_addParts_r4_b86_o t0 (vX0_addParts_r4_b86 t0 Qn 0) Qn _ _ _ _ _ _ _ _
    unfold vX0_addParts_r4_b86_o
    refine nn_i (wgrs R aN rfl (show dS 12 (n + 1) 2 = some (6, n + 5) from rfl) (nn_i (wio R aL rfl (by decide) (ysize R aL (fun x5 hx => ?_)))))
    rw [h51] at hx
    exact cle32 (sub_ti hx (vl (by decide)) (by omega)) h6 (fun _ => c_parts_b117_r4 ap hk I R K hV hn h2 hw h4 h5 hv h6 sg (by omega) hs on so hl bd hVv lo (Or.inl (by omega)) k0) (fun z => by omega)
  | succ m ih =>
    intro a v6 h6 ham lo
    show vX0_addParts_r4_b86_o t0 (vX0_addParts_r4_b86 t0 Qn (m + 1)) Qn _ _ _ _ _ _ _ _
    unfold vX0_addParts_r4_b86_o
    refine nn_i (wgrs R aN rfl (show dS 12 (n + 1) 2 = some (6, n + 5) from rfl) (nn_i (wio R aL rfl (by decide) (ysize R aL (fun x5 hx => ?_)))))
    rw [h51] at hx
    refine cle32 (sub_ti hx (vl (by decide)) (by omega)) h6 (fun z => by omega) (fun _ => wio R aN rfl (by decide) (c_pos R (by omega) h6 (by omega) (fun x7 h7 => ?_)))
    refine cle32 h5 h7 (fun z => c_parts_b117_r4 ap hk I R K hV hn h2 hw h4 h5 hv h6 sg (by omega) hs on so hl bd hVv lo (Or.inr z) k0) (fun z => ?_)
    refine ih (a + 1) (v6 + 1) (ix_add h6 (ix_lit (by decide)) (by omega)) (by omega) (fun i hi => ?_)
    rcases Nat.lt_or_ge i a with y | y
    · exact lo i y
    · rw [show i = a by omega]; omega
theorem c_parts_r4 (ap : APs A N zz P S k V t0 3 2 (vX0_addParts_r3 t0)) (hk : k < 4) (I : SI S) (hVb : ∀ p : Nat, p < 8 → -100 ≤ V p ∧ V p ≤ 100) : APs A N zz P S k V t0 4 3 (vX0_addParts_r4 t0) := by
  intro Qn h C n w v2 v4 R K hV hn hc h2 hw h4 bd k0
  have nn := K.nn
  have i1 := I.nn
  have i0 := I.nc
  have i2 := I.cm n (by omega)
  have h51 := K.szc n hn
  have nd := K.nd n hn
  have aN : ac N 12 (n + 1) := show n + 1 < N 1 + 1 by omega
  have aL : n + 5 < N 1 + 5 := by omega
  have a37 : ac N 37 k := hk
  have a22 : ac N 22 k := hk
  unfold vX0_addParts_r4 vX0_addParts_r4_b10 vX0_addParts_r4_b47 vX0_addParts_r4_b74
  refine ceq32 h2 (vl (by decide)) (fun z => ?_) (fun z => ?_)
  · exact k0 h C R (fun _ _ _ _ => rfl) (fun c hc => by rw [bl_z S V _ n c (by omega)]; omega)
  refine cle32 h4 (vl (by decide)) (fun _ => nn_i ?_) (fun y => by omega)
  by_cases hl : S 49 0 n = -1
  · obtain ⟨n1, n2⟩ := nd.1 hl
    have hcm := hc.resolve_left (fun z => z hl)
    have np := I.npr n (by omega) hl
    obtain ⟨sg, hsg⟩ := K.ch
    obtain ⟨hs, on⟩ := hsg n hn
    refine ygn R aN rfl n1 ⟨fun _ => ?_, fun a9 h9 => by cases h9⟩
    refine ygi R aN rfl n2 (fun x4 hx4 => clt32 hx4 (vl (by decide)) (fun y => by omega) (fun _ => ?_))
    refine ygi R aN rfl n2 (fun x5 hx5 => nn_i (yal R a22 (by decide) (n := 8) rfl (by decide) (fun x7 hx7 => ?_)))
    refine cle32 hx7 hx5 (fun y => by omega) (fun _ => ?_)
    refine wgrs R aN rfl (show dS 12 (n + 1) 2 = some (6, n + 5) from rfl) (nn_i (wio R aL rfl (by decide) ?_))
    refine yempty R aL (fun y => by rw [h51] at y; omega) (fun _ => yes_eq ?_)
    refine ygi R aN rfl n2 (fun x12 hx12 => ?_)
    refine yli R a22 rfl (m := (S 50 0 n).toNat) (by omega) (show (S 50 0 n).toNat < 8 by omega) (hV _ (by omega)) (fun x13 hx13 => ?_)
    exact ⟨(S 51 0 n).toNat - 1 + 1, c_parts_b86_r4 ap hk I R K hV hn h2 (by omega) h4 hx13 (hVb _ (by omega)) (sg n) hs on (fun i hi => K.so n i hn hi) hl bd rfl k0 ((S 51 0 n).toNat - 1) 0 0 (by decide) (by omega) (fun i hi => absurd hi (Nat.not_lt_zero i))⟩
  · have n1 := nd.2 hl
    have nc := I.ncl n (by omega)
    have hcl := K.cl (S 49 0 n).toNat (by omega)
    have aC : ac N 9 ((S 49 0 n).toNat + 1) := show (S 49 0 n).toNat + 1 < N 0 + 1 by omega
    refine ygr R aN rfl n1 ⟨(fun z => by cases z), fun a9 h9 => ?_⟩
    refine ygr R aN rfl n1 (nn_i ?_)
    refine ygi R aC rfl hcl.1 (fun x16 hx16 => clt32 hx16 (vl (by decide)) (fun y => by omega) (fun _ => nn_i ?_))
    refine yal R a37 (by decide) (n := 12) rfl (by decide) (fun x18 hx18 => ?_)
    refine cle32 hx18 hx16 (fun y => by omega) (fun _ => ?_)
    have b1 := bd (S 49 0 n).toNat (by omega)
    refine wli R a37 rfl (m := (S 49 0 n).toNat) hx16 (show (S 49 0 n).toNat < 12 by omega) (fun x19 hx19 => ?_)
    refine wsi R a37 rfl (m := (S 49 0 n).toNat) hx16 (show (S 49 0 n).toNat < 12 by omega) (add_ti hx19 h2 (by omega)) (fun h' R' => k0 h' _ R' (fun j i f hj => up3_off_ C _ hj) (fun c hc => ?_))
    rw [bl_clip V (by omega) hl]
    simp only [up3, eq_self, asb, Nat.add_zero, Nat.zero_add, Nat.reduceEqDiff, false_and, and_false, and_true, true_and, if_true, if_false, ↓reduceIte]
    by_cases q : (c : Int) = S 49 0 n
    · have q2 : c = (S 49 0 n).toNat := by omega
      rw [if_pos q2, if_pos q, q2]
    · rw [if_neg (by omega), if_neg q]; omega
theorem c_parts_b187_r5 {Qn : gH → Prop} {v2 v4 v6 v7 v9 : Int32} {n a b : Nat} {w r : Int} (ap : APs A N zz P S k V t0 4 3 (vX0_addParts_r4 t0)) (hk : k < 4) (I : SI S) (R : D h A N zz C P) (K : KS S N zz C P) (hV : ∀ p : Nat, p < 8 → C 22 k p = V p) (hn : n < N 1) (h2 : v2.toInt = w) (hw : 0 ≤ w ∧ w ≤ 1000000) (h4 : v4.toInt = 6 - 5) (h6 : v6.toInt = (a : Int)) (h7 : v7.toInt = (b : Int)) (h9 : v9.toInt = r) (hr : 0 ≤ r ∧ r ≤ w) (sg : Nat → Nat) (ha : (a : Int) < S 51 0 n) (hb : (b : Int) < S 51 0 n) (hs : ∀ i : Nat, (i : Int) < S 51 0 n → ((sg i : Nat) : Int) < S 51 0 n ∧ (∀ a : Nat, P 6 (n + 5) 1 = some (7, a) → P 7 a i = some (12, (S 52 0 (5 * n + sg i)).toNat + 1))) (hl : S 49 0 n = -1) (bd : ∀ c : Nat, c < 12 → 0 ≤ C 37 k c ∧ C 37 k c + w ≤ 2000000) (hbl : ∀ c : Nat, bl S V 4 n w c = bl S V 3 (chN S n (sg a)) r c + bl S V 3 (chN S n (sg b)) (w - r) c) (k0 : ∀ (h' : gH) (C' : dC), D h' A N zz C' P → Kb C C' k → (∀ c : Nat, c < 12 → C' 37 k c = C 37 k c + bl S V 4 n w c) → Qn h') : vX0_addParts_r5_b187 t0 Qn h (some (A 37 k)) (some (A 12 (n + 1))) v2 (some (A 22 k)) v4 v6 v7 v9 := by
  have nn := K.nn
  have i1 := I.nn
  have h51 := K.szc n hn
  have aN : ac N 12 (n + 1) := show n + 1 < N 1 + 1 by omega
  have aL : n + 5 < N 1 + 5 := by omega
  have ca := I.cn n (sg a) (by omega) (hs a ha).1
  have cb := I.cn n (sg b) (by omega) (hs b hb).1
  have ea : (S 52 0 (5 * n + sg a)).toNat = chN S n (sg a) := rfl
  have eb : (S 52 0 (5 * n + sg b)).toNat = chN S n (sg b) := rfl
  have h41 : (v4 + 1).toInt = 6 - 4 := (add_ti h4 (vl (by decide)) (by decide)).trans (by decide)
  unfold vX0_addParts_r5_b187
  refine nn_i (wgrs R aN rfl (show dS 12 (n + 1) 2 = some (6, n + 5) from rfl) (nn_i (wio R aL rfl (by decide) ?_)))
  refine yget R K aL h6 (by rw [h51]; exact ha) (fun q hq => (hs a ha).2 q hq) (nn_i (wio R (show (S 52 0 (5 * n + sg a)).toNat + 1 < N 1 + 1 by omega) rfl (by decide) ?_))
  refine ap _ h C (chN S n (sg a)) r v9 (v4 + 1) R K hV (by rw [← ea]; omega) (I.cc n (sg a) (by omega) (hs a ha).1) h9 (by omega) h41 (fun c hc => by have := bd c hc; omega) (fun h' C' R' B' e' => ?_)
  have K' := K.fr (C' := C') (P' := P) (fun j i f hj => B' j i f (by omega)) (fun _ _ _ _ => rfl)
  refine wgrs R' aN rfl (show dS 12 (n + 1) 2 = some (6, n + 5) from rfl) (nn_i (wio R' aL rfl (by decide) ?_))
  refine yget R' K' aL h7 (by rw [B' 6 (n + 5) 2 (by omega), h51]; exact hb) (fun q hq => (hs b hb).2 q hq) (nn_i (wio R' (show (S 52 0 (5 * n + sg b)).toNat + 1 < N 1 + 1 by omega) rfl (by decide) ?_))
  refine ap _ h' C' (chN S n (sg b)) (w - r) (v2 - v9) (v4 + 1) R' K' (fun p hp => by rw [B' 22 k p (by omega)]; exact hV p hp) (by rw [← eb]; omega) (I.cc n (sg b) (by omega) (hs b hb).1) (sub_ti h2 h9 (by omega)) (by omega) h41 (fun c hc => ?_) (fun h2 C2 R2 B2 e2 => k0 h2 C2 R2 (fun j i f hj => (B2 j i f hj).trans (B' j i f hj)) (fun c hc => ?_))
  · have := bd c hc
    have := bl_in I V 3 (chN S n (sg a)) r c (by rw [← ea]; omega) hr.1
    rw [e' c hc]
    omega
  · rw [e2 c hc, e' c hc, hbl c]
    omega
theorem c_parts_b142_r5 {Qn : gH → Prop} {v2 v4 v5 v6 s0 : Int32} {n a b : Nat} {w v : Int} (ap : APs A N zz P S k V t0 4 3 (vX0_addParts_r4 t0)) (hk : k < 4) (I : SI S) (R : D h A N zz C P) (K : KS S N zz C P) (hV : ∀ p : Nat, p < 8 → C 22 k p = V p) (hn : n < N 1) (h2 : v2.toInt = w) (hw : 0 < w ∧ w ≤ 1000000) (h4 : v4.toInt = 6 - 5) (h5 : v5.toInt = v) (hv : -100 ≤ v ∧ v ≤ 100) (h6 : v6.toInt = (a : Int)) (h7 : s0.toInt = (b : Int)) (sg : Nat → Nat) (ha : (a : Int) < S 51 0 n) (hs : ∀ i : Nat, (i : Int) < S 51 0 n → ((sg i : Nat) : Int) < S 51 0 n ∧ (∀ a : Nat, P 6 (n + 5) 1 = some (7, a) → P 7 a i = some (12, (S 52 0 (5 * n + sg i)).toNat + 1)) ∧ C 13 (n + 1) i = S 53 0 (5 * n + sg i)) (on : ∀ l : Nat, (l : Int) < S 51 0 n → ∃ i : Nat, (i : Int) < S 51 0 n ∧ sg i = l) (so : ∀ i : Nat, (i : Int) + 1 < S 51 0 n → C 13 (n + 1) i < C 13 (n + 1) (i + 1)) (hl : S 49 0 n = -1) (bd : ∀ c : Nat, c < 12 → 0 ≤ C 37 k c ∧ C 37 k c + w ≤ 2000000) (hVv : V (S 50 0 n).toNat = v)
  (hab : (a = b ∧ (C 13 (n + 1) a = v ∨ (a = 0 ∧ v < C 13 (n + 1) 0) ∨ ((a : Int) + 1 = S 51 0 n ∧ C 13 (n + 1) a < v))) ∨ (a = b + 1 ∧ C 13 (n + 1) b < v ∧ v < C 13 (n + 1) (b + 1))) (k0 : ∀ (h' : gH) (C' : dC), D h' A N zz C' P → Kb C C' k → (∀ c : Nat, c < 12 → C' 37 k c = C 37 k c + bl S V 4 n w c) → Qn h') : vX0_addParts_r5_b142 t0 Qn h (some (A 37 k)) (some (A 12 (n + 1))) v2 (some (A 22 k)) v4 v5 v6 s0 := by
  have nn := K.nn
  have i1 := I.nn
  have i2 := I.cm n (by omega)
  have aN : ac N 12 (n + 1) := show n + 1 < N 1 + 1 by omega
  have mo := so_mono so
  have ps : ∀ i : Nat, (i : Int) < S 51 0 n → S 53 0 (5 * n + sg i) = C 13 (n + 1) i := fun i hi => ((hs i hi).2.2).symm
  have pr : ∀ i : Nat, (i : Int) < S 51 0 n → -100 ≤ C 13 (n + 1) i ∧ C 13 (n + 1) i ≤ 100 := fun i hi => by rw [← ps i hi]; exact I.ca n (sg i) (by omega) (hs i hi).1
  have hb : (b : Int) < S 51 0 n := by omega
  have pa := pr a ha
  have pb := pr b hb
  unfold vX0_addParts_r5_b142
  refine nn_i (wio R aN rfl (by decide) (c_pos R (by omega) h6 (by omega) (fun x3 h3 => wio R aN rfl (by decide) (c_pos R (by omega) h7 (by omega) (fun x5 h5' => ?_)))))
  have hd : (x3 - x5).toInt = C 13 (n + 1) a - C 13 (n + 1) b := sub_ti h3 h5' (by omega)
  have fin := fun (v9 : Int32) (r : Int) (h9 : v9.toInt = r) (hr : 0 ≤ r ∧ r ≤ w) (hbl : ∀ c : Nat, bl S V 4 n w c = bl S V 3 (chN S n (sg a)) r c + bl S V 3 (chN S n (sg b)) (w - r) c) => c_parts_b187_r5 ap hk I R K hV hn h2 ⟨by omega, hw.2⟩ h4 h6 h7 h9 hr sg ha hb (fun i hi => ⟨(hs i hi).1, (hs i hi).2.1⟩) hl bd hbl k0
  rcases hab with ⟨e, cs⟩ | ⟨e, c1, c2⟩
  · subst e
    refine cle32 hd (vl (by decide)) (fun _ => ?_) (fun z => by omega)
    refine fin 0 0 (by decide) ⟨Int.le_refl _, by omega⟩ (fun c => ?_)
    rw [bl_z S V _ _ c (Int.le_refl 0), show w - 0 = w by omega, bl_one I V hw.1 hl (by omega) hVv (fun i hi => ⟨(hs i hi).1, ps i hi⟩) on mo ha cs 3 c]
    omega
  · subst e
    refine cle32 hd (vl (by decide)) (fun z => by omega) (fun _ => ?_)
    refine wio R aN rfl (by decide) (c_pos R (by omega) h7 (by omega) (fun x7 h7' => ⟨ne_ti ⟨wid_ti hd, by omega⟩, ?_⟩))
    have up := upW_in (S := S) (n := n) (b := sg b) (a := sg (b + 1)) (v := v) (w := w) (by omega) (by rw [ps b hb]; omega) (by rw [ps (b + 1) ha]; omega) (by rw [ps b hb, ps (b + 1) ha]; omega)
    have ue : upW S n (sg b) (sg (b + 1)) v w = w * (v - C 13 (n + 1) b) / (C 13 (n + 1) (b + 1) - C 13 (n + 1) b) := by unfold upW; rw [ps b hb, ps (b + 1) ha]
    have m0 : 0 ≤ w * (v - C 13 (n + 1) b) := Int.mul_nonneg (by omega) (by omega)
    have m1 : w * (v - C 13 (n + 1) b) ≤ 1000000 * 200 := Int.mul_le_mul hw.2 (by omega) (by omega) (by decide)
    refine fin _ (upW S n (sg b) (sg (b + 1)) v w) ?_ up (fun c => bl_two I V hw.1 hl (by omega) hVv (fun i hi => ⟨(hs i hi).1, ps i hi⟩) on mo ha c1 c2 3 c)
    rw [ue] at up ⊢
    exact nar_ti (divL_ti (mulL_ti (wid_ti h2) (wid_ti (sub_ti h5 h7' (by omega))) (by omega)) (wid_ti hd) m0 (by omega)) (by omega)
theorem c_parts_b117_r5 {Qn : gH → Prop} {v2 v4 v5 v6 : Int32} {n a : Nat} {w v : Int} (ap : APs A N zz P S k V t0 4 3 (vX0_addParts_r4 t0)) (hk : k < 4) (I : SI S) (R : D h A N zz C P) (K : KS S N zz C P) (hV : ∀ p : Nat, p < 8 → C 22 k p = V p) (hn : n < N 1) (h2 : v2.toInt = w) (hw : 0 < w ∧ w ≤ 1000000) (h4 : v4.toInt = 6 - 5) (h5 : v5.toInt = v) (hv : -100 ≤ v ∧ v ≤ 100) (h6 : v6.toInt = (a : Int)) (sg : Nat → Nat) (ha : (a : Int) < S 51 0 n) (hs : ∀ i : Nat, (i : Int) < S 51 0 n → ((sg i : Nat) : Int) < S 51 0 n ∧ (∀ a : Nat, P 6 (n + 5) 1 = some (7, a) → P 7 a i = some (12, (S 52 0 (5 * n + sg i)).toNat + 1)) ∧ C 13 (n + 1) i = S 53 0 (5 * n + sg i)) (on : ∀ l : Nat, (l : Int) < S 51 0 n → ∃ i : Nat, (i : Int) < S 51 0 n ∧ sg i = l) (so : ∀ i : Nat, (i : Int) + 1 < S 51 0 n → C 13 (n + 1) i < C 13 (n + 1) (i + 1)) (hl : S 49 0 n = -1) (bd : ∀ c : Nat, c < 12 → 0 ≤ C 37 k c ∧ C 37 k c + w ≤ 2000000) (hVv : V (S 50 0 n).toNat = v) (lo : ∀ i : Nat, i < a → C 13 (n + 1) i < v) (hi : (a : Int) + 1 = S 51 0 n ∨ v ≤ C 13 (n + 1) a) (k0 : ∀ (h' : gH) (C' : dC), D h' A N zz C' P → Kb C C' k → (∀ c : Nat, c < 12 → C' 37 k c = C 37 k c + bl S V 4 n w c) → Qn h') : vX0_addParts_r5_b117 t0 Qn h (some (A 37 k)) (some (A 12 (n + 1))) v2 (some (A 22 k)) v4 v5 v6 := by
  have nn := K.nn
  have i1 := I.nn
  have i2 := I.cm n (by omega)
  have aN : ac N 12 (n + 1) := show n + 1 < N 1 + 1 by omega
  have same : (C 13 (n + 1) a = v ∨ (a = 0 ∧ v < C 13 (n + 1) 0) ∨ ((a : Int) + 1 = S 51 0 n ∧ C 13 (n + 1) a < v)) → vX0_addParts_r5_b140 t0 Qn h (some (A 37 k)) (some (A 12 (n + 1))) v2 (some (A 22 k)) v4 v5 v6 := fun cs => by
    unfold vX0_addParts_r5_b140
    exact c_parts_b142_r5 ap hk I R K hV hn h2 hw h4 h5 hv h6 h6 sg ha hs on so hl bd hVv (Or.inl ⟨rfl, cs⟩) k0
  unfold vX0_addParts_r5_b117
  refine cle32 h6 (vl (by decide)) (fun z => same ?_) (fun z => nn_i (wio R aN rfl (by decide) (c_pos R (by omega) h6 (by omega) (fun x3 h3 => ?_))))
  · have z0 : a = 0 := by omega
    subst z0
    omega
  · refine cle32 h3 h5 (fun y => same (by omega)) (fun y => ?_)
    have e : a = (a - 1) + 1 := by omega
    exact c_parts_b142_r5 ap hk I R K hV hn h2 hw h4 h5 hv h6 (b := a - 1) ((sub_ti h6 (vl (by decide)) (by omega)).trans (by omega)) sg ha hs on so hl bd hVv (Or.inr ⟨e, lo (a - 1) (by omega), by rw [← e]; omega⟩) k0
theorem c_parts_b86_r5 {Qn : gH → Prop} {v2 v4 v5 : Int32} {n : Nat} {w v : Int} (ap : APs A N zz P S k V t0 4 3 (vX0_addParts_r4 t0)) (hk : k < 4) (I : SI S) (R : D h A N zz C P) (K : KS S N zz C P) (hV : ∀ p : Nat, p < 8 → C 22 k p = V p) (hn : n < N 1) (h2 : v2.toInt = w) (hw : 0 < w ∧ w ≤ 1000000) (h4 : v4.toInt = 6 - 5) (h5 : v5.toInt = v) (hv : -100 ≤ v ∧ v ≤ 100) (sg : Nat → Nat) (hs : ∀ i : Nat, (i : Int) < S 51 0 n → ((sg i : Nat) : Int) < S 51 0 n ∧ (∀ a : Nat, P 6 (n + 5) 1 = some (7, a) → P 7 a i = some (12, (S 52 0 (5 * n + sg i)).toNat + 1)) ∧ C 13 (n + 1) i = S 53 0 (5 * n + sg i)) (on : ∀ l : Nat, (l : Int) < S 51 0 n → ∃ i : Nat, (i : Int) < S 51 0 n ∧ sg i = l) (so : ∀ i : Nat, (i : Int) + 1 < S 51 0 n → C 13 (n + 1) i < C 13 (n + 1) (i + 1)) (hl : S 49 0 n = -1) (bd : ∀ c : Nat, c < 12 → 0 ≤ C 37 k c ∧ C 37 k c + w ≤ 2000000) (hVv : V (S 50 0 n).toNat = v) (k0 : ∀ (h' : gH) (C' : dC), D h' A N zz C' P → Kb C C' k → (∀ c : Nat, c < 12 → C' 37 k c = C 37 k c + bl S V 4 n w c) → Qn h') :
  ∀ (m a : Nat) (v6 : Int32), v6.toInt = (a : Int) → ((a + m : Nat) : Int) + 1 = S 51 0 n → (∀ i : Nat, i < a → C 13 (n + 1) i < v) → vX0_addParts_r5_b86 t0 Qn (m + 1) h (some (A 37 k)) (some (A 12 (n + 1))) v2 (some (A 22 k)) v4 v5 v6 := by
  have nn := K.nn
  have i1 := I.nn
  have i2 := I.cm n (by omega)
  have h51 := K.szc n hn
  have aN : ac N 12 (n + 1) := show n + 1 < N 1 + 1 by omega
  have aL : n + 5 < N 1 + 5 := by omega
  intro m
  induction m with
  | zero =>
    intro a v6 h6 ham lo
    show vX0_addParts_r5_b86_o t0 (vX0_addParts_r5_b86 t0 Qn 0) Qn _ _ _ _ _ _ _ _
    unfold vX0_addParts_r5_b86_o
    refine nn_i (wgrs R aN rfl (show dS 12 (n + 1) 2 = some (6, n + 5) from rfl) (nn_i (wio R aL rfl (by decide) (ysize R aL (fun x5 hx => ?_)))))
    rw [h51] at hx
    exact cle32 (sub_ti hx (vl (by decide)) (by omega)) h6 (fun _ => c_parts_b117_r5 ap hk I R K hV hn h2 hw h4 h5 hv h6 sg (by omega) hs on so hl bd hVv lo (Or.inl (by omega)) k0) (fun z => by omega)
  | succ m ih =>
    intro a v6 h6 ham lo
    show vX0_addParts_r5_b86_o t0 (vX0_addParts_r5_b86 t0 Qn (m + 1)) Qn _ _ _ _ _ _ _ _
    unfold vX0_addParts_r5_b86_o
    refine nn_i (wgrs R aN rfl (show dS 12 (n + 1) 2 = some (6, n + 5) from rfl) (nn_i (wio R aL rfl (by decide) (ysize R aL (fun x5 hx => ?_)))))
    rw [h51] at hx
    refine cle32 (sub_ti hx (vl (by decide)) (by omega)) h6 (fun z => by omega) (fun _ => wio R aN rfl (by decide) (c_pos R (by omega) h6 (by omega) (fun x7 h7 => ?_)))
    refine cle32 h5 h7 (fun z => c_parts_b117_r5 ap hk I R K hV hn h2 hw h4 h5 hv h6 sg (by omega) hs on so hl bd hVv lo (Or.inr z) k0) (fun z => ?_)
    refine ih (a + 1) (v6 + 1) (ix_add h6 (ix_lit (by decide)) (by omega)) (by omega) (fun i hi => ?_)
    rcases Nat.lt_or_ge i a with y | y
    · exact lo i y
    · rw [show i = a by omega]; omega
theorem c_parts_r5 (ap : APs A N zz P S k V t0 4 3 (vX0_addParts_r4 t0)) (hk : k < 4) (I : SI S) (hVb : ∀ p : Nat, p < 8 → -100 ≤ V p ∧ V p ≤ 100) : APs A N zz P S k V t0 5 4 (vX0_addParts_r5 t0) := by
  intro Qn h C n w v2 v4 R K hV hn hc h2 hw h4 bd k0
  have nn := K.nn
  have i1 := I.nn
  have i0 := I.nc
  have i2 := I.cm n (by omega)
  have h51 := K.szc n hn
  have nd := K.nd n hn
  have aN : ac N 12 (n + 1) := show n + 1 < N 1 + 1 by omega
  have aL : n + 5 < N 1 + 5 := by omega
  have a37 : ac N 37 k := hk
  have a22 : ac N 22 k := hk
  unfold vX0_addParts_r5 vX0_addParts_r5_b10 vX0_addParts_r5_b47 vX0_addParts_r5_b74
  refine ceq32 h2 (vl (by decide)) (fun z => ?_) (fun z => ?_)
  · exact k0 h C R (fun _ _ _ _ => rfl) (fun c hc => by rw [bl_z S V _ n c (by omega)]; omega)
  refine cle32 h4 (vl (by decide)) (fun _ => nn_i ?_) (fun y => by omega)
  by_cases hl : S 49 0 n = -1
  · obtain ⟨n1, n2⟩ := nd.1 hl
    have hcm := hc.resolve_left (fun z => z hl)
    have np := I.npr n (by omega) hl
    obtain ⟨sg, hsg⟩ := K.ch
    obtain ⟨hs, on⟩ := hsg n hn
    refine ygn R aN rfl n1 ⟨fun _ => ?_, fun a9 h9 => by cases h9⟩
    refine ygi R aN rfl n2 (fun x4 hx4 => clt32 hx4 (vl (by decide)) (fun y => by omega) (fun _ => ?_))
    refine ygi R aN rfl n2 (fun x5 hx5 => nn_i (yal R a22 (by decide) (n := 8) rfl (by decide) (fun x7 hx7 => ?_)))
    refine cle32 hx7 hx5 (fun y => by omega) (fun _ => ?_)
    refine wgrs R aN rfl (show dS 12 (n + 1) 2 = some (6, n + 5) from rfl) (nn_i (wio R aL rfl (by decide) ?_))
    refine yempty R aL (fun y => by rw [h51] at y; omega) (fun _ => yes_eq ?_)
    refine ygi R aN rfl n2 (fun x12 hx12 => ?_)
    refine yli R a22 rfl (m := (S 50 0 n).toNat) (by omega) (show (S 50 0 n).toNat < 8 by omega) (hV _ (by omega)) (fun x13 hx13 => ?_)
    exact ⟨(S 51 0 n).toNat - 1 + 1, c_parts_b86_r5 ap hk I R K hV hn h2 (by omega) h4 hx13 (hVb _ (by omega)) (sg n) hs on (fun i hi => K.so n i hn hi) hl bd rfl k0 ((S 51 0 n).toNat - 1) 0 0 (by decide) (by omega) (fun i hi => absurd hi (Nat.not_lt_zero i))⟩
  · have n1 := nd.2 hl
    have nc := I.ncl n (by omega)
    have hcl := K.cl (S 49 0 n).toNat (by omega)
    have aC : ac N 9 ((S 49 0 n).toNat + 1) := show (S 49 0 n).toNat + 1 < N 0 + 1 by omega
    refine ygr R aN rfl n1 ⟨(fun z => by cases z), fun a9 h9 => ?_⟩
    refine ygr R aN rfl n1 (nn_i ?_)
    refine ygi R aC rfl hcl.1 (fun x16 hx16 => clt32 hx16 (vl (by decide)) (fun y => by omega) (fun _ => nn_i ?_))
    refine yal R a37 (by decide) (n := 12) rfl (by decide) (fun x18 hx18 => ?_)
    refine cle32 hx18 hx16 (fun y => by omega) (fun _ => ?_)
    have b1 := bd (S 49 0 n).toNat (by omega)
    refine wli R a37 rfl (m := (S 49 0 n).toNat) hx16 (show (S 49 0 n).toNat < 12 by omega) (fun x19 hx19 => ?_)
    refine wsi R a37 rfl (m := (S 49 0 n).toNat) hx16 (show (S 49 0 n).toNat < 12 by omega) (add_ti hx19 h2 (by omega)) (fun h' R' => k0 h' _ R' (fun j i f hj => up3_off_ C _ hj) (fun c hc => ?_))
    rw [bl_clip V (by omega) hl]
    simp only [up3, eq_self, asb, Nat.add_zero, Nat.zero_add, Nat.reduceEqDiff, false_and, and_false, and_true, true_and, if_true, if_false, ↓reduceIte]
    by_cases q : (c : Int) = S 49 0 n
    · have q2 : c = (S 49 0 n).toNat := by omega
      rw [if_pos q2, if_pos q, q2]
    · rw [if_neg (by omega), if_neg q]; omega
theorem c_parts (hk : k < 4) (I : SI S) (hVb : ∀ p : Nat, p < 8 → -100 ≤ V p ∧ V p ≤ 100) : APs A N zz P S k V t0 5 4 (vX0_addParts_r5 t0) := c_parts_r5 (c_parts_r4 (c_parts_r3 (c_parts_r2 c_parts_r1 hk I hVb) hk I hVb) hk I hVb) hk I hVb
end CB
