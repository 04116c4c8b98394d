/-! ===== the text: what is read (W: the text, the kinds, how many parameters and states) ===== -/
def TS (W S : dC) : Prop := S 38 0 24 = W 38 0 24 ∧ (∀ i, S 63 0 i = W 63 0 i) ∧ (∀ p, S 42 0 p = W 42 0 p) ∧ S 38 0 3 = W 38 0 3 ∧ S 38 0 19 = W 38 0 19
def tL (W : dC) : Nat := (W 38 0 24).toNat
def tb (W : dC) (i : Nat) : Int := if i < tL W then W 63 0 i else -1
def skF (W : dC) : Nat → Nat → Nat
  | 0, i => i
  | m + 1, i => if tb W i = 32 then skF W m (i + 1) else i
def sk (W : dC) (i : Nat) : Nat := skF W (tL W - i) i
abbrev isDg (c : Int) : Prop := 48 ≤ c ∧ c ≤ 57
def dgF (W : dC) : Nat → Nat → Nat
  | 0, _ => 0
  | m + 1, i => if isDg (tb W i) then dgF W m (i + 1) + 1 else 0
def dg (W : dC) (i : Nat) : Nat := dgF W (tL W - i) i
def nv (W : dC) (i : Nat) : Nat → Int
  | 0 => 0
  | n + 1 => 10 * nv W i n + tb W (i + n) - 48
def pNum (W : dC) (most : Int) (i : Nat) : Nat × Option Int := if 1 ≤ dg W (sk W i) ∧ dg W (sk W i) ≤ 3 ∧ nv W (sk W i) (dg W (sk W i)) ≤ most then (sk W i + dg W (sk W i), some (nv W (sk W i) (dg W (sk W i)))) else (sk W i, none)
abbrev isSt (W : dC) (c : Int) : Prop := 65 ≤ c ∧ c - 65 < W 38 0 19
def opK (c : Int) : Int := if c = 62 then 0 else if c = 60 then 1 else if c = 61 then 2 else if c = 35 then 3 else -1
abbrev isPr (W : dC) (c : Int) : Prop := 97 ≤ c ∧ c - 97 < W 38 0 3
/-- a condition: parameter, operator, value -/
def pCv (W : dC) (a o : Int) (i : Nat) : Nat × Option (Int × Int × Int) :=
  if tb W (sk W i) = 45 then (match pNum W 100 (sk W i + 1) with
    | (q, none) => (q, none)
    | (q, some v) => (q, some (a, o, -v)))
  else (match pNum W 100 (sk W i) with
    | (q, none) => (q, none)
    | (q, some v) => (q, some (a, o, v)))
def pCp (W : dC) (no : Bool) (p : Nat) : Nat × Option (Int × Int × Int) :=
  if isPr W (tb W p) ∧ (no = true → W 42 0 (tb W p - 97).toNat = 1) then
    (if W 42 0 (tb W p - 97).toNat = 0 then (if opK (tb W (sk W (p + 1))) = -1 then (sk W (p + 1), none) else pCv W (tb W p - 97) (opK (tb W (sk W (p + 1)))) (sk W (p + 1) + 1))
     else (p + 1, some (tb W p - 97, 2, if no = true then 0 else 1)))
  else (p, none)
def pCond (W : dC) (i : Nat) : Nat × Option (Int × Int × Int) := if tb W (sk W i) = 126 then pCp W true (sk W (sk W i + 1)) else pCp W false (sk W i)
def addC (r : dM) (a o v : Int) : dM := um (um (um (um r (8 + 3 * (r 7).toNat) a) (8 + 3 * (r 7).toNat + 1) o) (8 + 3 * (r 7).toNat + 2) v) 7 (r 7 + 1)
/-- the sign of an attribute: 0 exit, 1 start, 2 mode, 3 ordered, 4 condition, 5 none -/
def sgn (c : Int) : Nat := if c = 64 then 0 else if c = 43 then 1 else if c = 33 then 2 else if c = 111 then 3 else if c = 63 then 4 else 5
def mst (k : Nat) : Int := if k = 0 then 300 else if k = 1 then 99 else 4
/-- an attribute of kind k, its sign at p; seen: e -/
def pOne (W : dC) (k p e : Nat) (r : dM) : Nat × Option (Nat × dM) :=
  if k < 4 then (if e / 2 ^ k % 2 = 1 then (p, none) else if k = 3 then (p + 1, some (e + 8, um r 6 1)) else (match pNum W (mst k) (p + 1) with
    | (q, none) => (q, none)
    | (q, some v) => (q, some (e + 2 ^ k, um r (3 + k) v))))
  else (if 3 ≤ r 7 then (p, none) else (match pCond W (p + 1) with
    | (q, none) => (q, none)
    | (q, some (a, o, v)) => (q, some (e, addC r a o v))))
def pAtt (W : dC) : Nat → Nat → Nat → dM → Nat × Option dM
  | 0, i, _, r => (i, some r)
  | m + 1, i, e, r => if sgn (tb W (sk W i)) = 5 then (sk W i, some r) else (match pOne W (sgn (tb W (sk W i))) (sk W i) e r with
    | (q, none) => (q, none)
    | (q, some (e', r')) => pAtt W m q e' r')
def rec0 (f t d : Int) : dM := fun w => if w = 0 then f else if w = 1 then t else if w = 2 then d else if w = 3 then -1 else 0
/-- what stands behind the place: p is the first byte behind it -/
def pTo (W : dC) (f : Int) (i : Nat) : Nat × Option dM :=
  if tb W (sk W i) = 62 then
    (if isSt W (tb W (sk W (sk W i + 1))) then
      (if tb W (sk W (sk W (sk W i + 1) + 1)) = 47 then (match pNum W 60 (sk W (sk W (sk W i + 1) + 1) + 1) with
        | (q, none) => (q, none)
        | (q, some d) => pAtt W 150 q (if f = -1 then 1 else 0) (rec0 f (tb W (sk W (sk W i + 1)) - 65) d))
      else (sk W (sk W (sk W i + 1) + 1), none))
    else (sk W (sk W i + 1), none))
  else (sk W i, none)
def pTr (W : dC) (i : Nat) : Nat × Option dM := if tb W (sk W i) = 42 then pTo W (-1) (sk W i + 1) else if isSt W (tb W (sk W i)) then pTo W (tb W (sk W i) - 65) (sk W i + 1) else (sk W i, none)
def pAll (W : dC) : Nat → Nat → Nat × Option (List dM)
  | 0, i => (sk W i, none)
  | m + 1, i => match pTr W i with
    | (q, none) => (q, none)
    | (q, some r) => if tb W (sk W q) = -1 then (sk W q, some [r]) else if tb W (sk W q) = 59 then (match pAll W m (sk W q + 1) with
        | (e, none) => (e, none)
        | (e, some l) => (e, some (r :: l)))
      else (sk W q, none)
section PA
variable {W S : dC} {i : Nat}
theorem tb_in (h : tb W i ≠ -1) : i < tL W := by
  unfold tb at h
  by_cases z : i < tL W
  · exact z
  · rw [if_neg z] at h; exact absurd rfl h
theorem tb_lt (h : i < tL W) : tb W i = W 63 0 i := if_pos h
theorem tb_ge (h : ¬ i < tL W) : tb W i = -1 := if_neg h
theorem sk_eq : sk W i = if tb W i = 32 then sk W (i + 1) else i := by
  by_cases z : tb W i = 32
  · rw [if_pos z]
    have hi := tb_in (W := W) (i := i) (by omega)
    unfold sk
    rw [show tL W - i = (tL W - (i + 1)) + 1 by omega]
    show (if tb W i = 32 then skF W (tL W - (i + 1)) (i + 1) else i) = _
    rw [if_pos z]
  · rw [if_neg z]
    unfold sk
    cases hm : tL W - i with
    | zero => rfl
    | succ m => show (if tb W i = 32 then skF W m (i + 1) else i) = i; rw [if_neg z]
theorem sk_spec : ∀ (m i : Nat), tL W - i = m → i ≤ sk W i ∧ (i ≤ tL W → sk W i ≤ tL W) ∧ tb W (sk W i) ≠ 32
  | 0, i, hm => by
    have z : tb W i ≠ 32 := by rw [tb_ge (by omega)]; decide
    rw [sk_eq, if_neg z]
    exact ⟨Nat.le_refl _, id, z⟩
  | m + 1, i, hm => by
    by_cases z : tb W i = 32
    · have q := sk_spec m (i + 1) (by omega)
      rw [sk_eq, if_pos z]
      exact ⟨by omega, fun _ => q.2.1 (by omega), q.2.2⟩
    · rw [sk_eq, if_neg z]
      exact ⟨Nat.le_refl _, id, z⟩
theorem sk_ge (W : dC) (i : Nat) : i ≤ sk W i := (sk_spec _ i rfl).1
theorem sk_le (h : i ≤ tL W) : sk W i ≤ tL W := (sk_spec _ i rfl).2.1 h
theorem sk_ne (W : dC) (i : Nat) : tb W (sk W i) ≠ 32 := (sk_spec _ i rfl).2.2
theorem sk_st (h : tb W i ≠ 32) : sk W i = i := by rw [sk_eq, if_neg h]
theorem sk_sk (W : dC) (i : Nat) : sk W (sk W i) = sk W i := sk_st (sk_ne W i)
theorem dg_eq : dg W i = if isDg (tb W i) then dg W (i + 1) + 1 else 0 := by
  by_cases z : isDg (tb W i)
  · rw [if_pos z]
    have hi := tb_in (W := W) (i := i) (by have := z.1; omega)
    unfold dg
    rw [show tL W - i = (tL W - (i + 1)) + 1 by omega]
    show (if isDg (tb W i) then dgF W (tL W - (i + 1)) (i + 1) + 1 else 0) = _
    rw [if_pos z]
  · rw [if_neg z]
    unfold dg
    cases hm : tL W - i with
    | zero => rfl
    | succ m => show (if isDg (tb W i) then dgF W m (i + 1) + 1 else 0) = 0; rw [if_neg z]
theorem dg_le : ∀ (m i : Nat), tL W - i = m → i ≤ tL W → i + dg W i ≤ tL W
  | 0, i, hm, h => by
    have z : ¬ isDg (tb W i) := by rw [tb_ge (by omega)]; intro q; have := q.1; omega
    rw [dg_eq, if_neg z]
    exact h
  | m + 1, i, hm, h => by
    by_cases z : isDg (tb W i)
    · have q := dg_le m (i + 1) (by omega) (by omega)
      rw [dg_eq, if_pos z]
      omega
    · rw [dg_eq, if_neg z]
      exact h
/-- inside the digits -/
theorem dg_in : ∀ (n i : Nat), n < dg W i → isDg (tb W (i + n))
  | 0, i, h => by
    by_cases z : isDg (tb W i)
    · exact z
    · rw [dg_eq, if_neg z] at h; omega
  | n + 1, i, h => by
    by_cases z : isDg (tb W i)
    · rw [dg_eq, if_pos z] at h
      have := dg_in n (i + 1) (by omega)
      rw [show i + 1 + n = i + (n + 1) by omega] at this
      exact this
    · rw [dg_eq, if_neg z] at h; omega
theorem dg_out : ∀ (n i : Nat), dg W i = n → ¬ isDg (tb W (i + n))
  | 0, i, h => fun z => by
    have z : isDg (tb W i) := z
    rw [dg_eq, if_pos z] at h
    omega
  | n + 1, i, h => by
    by_cases z : isDg (tb W i)
    · rw [dg_eq, if_pos z] at h
      have := dg_out n (i + 1) (by omega)
      rw [show i + 1 + n = i + (n + 1) by omega] at this
      exact this
    · rw [dg_eq, if_neg z] at h; omega
theorem nv_in : ∀ (n : Nat), n ≤ 4 → (∀ k, k < n → isDg (tb W (i + k))) → 0 ≤ nv W i n ∧ nv W i n ≤ 9999 ∧ (n ≤ 3 → nv W i n ≤ 999) ∧ (n ≤ 2 → nv W i n ≤ 99) ∧ (n ≤ 1 → nv W i n ≤ 9) ∧ (n = 0 → nv W i n = 0)
  | 0, _, _ => ⟨Int.le_refl 0, by show (0 : Int) ≤ 9999; decide, fun _ => by show (0 : Int) ≤ 999; decide, fun _ => by show (0 : Int) ≤ 99; decide, fun _ => by show (0 : Int) ≤ 9; decide, fun _ => rfl⟩
  | n + 1, hn, hd => by
    have q := nv_in n (by omega) (fun k hk => hd k (by omega))
    have c := hd n (by omega)
    have e : nv W i (n + 1) = 10 * nv W i n + tb W (i + n) - 48 := rfl
    rw [e]
    have c1 := c.1
    have c2 := c.2
    have q1 := q.1
    refine ⟨by omega, ?_, ?_, ?_, ?_, fun z => by omega⟩
    · have := q.2.2.1 (by omega); omega
    · intro z; have := q.2.2.2.1 (by omega); omega
    · intro z; have := q.2.2.2.2.1 (by omega); omega
    · intro z; have := q.2.2.2.2.2 (by omega); omega
theorem pNum_le {most : Int} {q : Nat} {o : Option Int} (hi : i ≤ tL W) (h : pNum W most i = (q, o)) : i ≤ q ∧ q ≤ tL W ∧ (o ≠ none → i + 1 ≤ q) ∧ (o = none → sk W q = q) ∧ ∀ v, o = some v → 0 ≤ v ∧ v ≤ most ∧ v ≤ 999 := by
  have s1 := sk_ge W i
  have s2 := sk_le hi
  unfold pNum at h
  by_cases z : 1 ≤ dg W (sk W i) ∧ dg W (sk W i) ≤ 3 ∧ nv W (sk W i) (dg W (sk W i)) ≤ most
  · rw [if_pos z] at h
    cases h
    have d := dg_le _ (sk W i) rfl s2
    have n := nv_in (W := W) (i := sk W i) (dg W (sk W i)) (by omega) (fun k hk => dg_in k _ hk)
    exact ⟨by omega, by omega, fun _ => by omega, fun y => (by cases y), fun v hv => by cases hv; exact ⟨n.1, z.2.2, n.2.2.1 z.2.1⟩⟩
  · rw [if_neg z] at h
    cases h
    exact ⟨s1, s2, fun y => absurd rfl y, fun _ => sk_sk W i, fun v hv => by cases hv⟩
theorem tb_rng (I : SI W) (i : Nat) : -1 ≤ tb W i ∧ tb W i ≤ 255 := by
  have t := I.tl
  unfold tb
  split
  · have := I.tx i (by unfold tL at *; omega)
    omega
  · omega
theorem opK_in (c : Int) : -1 ≤ opK c ∧ opK c ≤ 3 := by unfold opK; repeat' split <;> first | omega
theorem pCv_le {a o : Int} {q : Nat} {x : Option (Int × Int × Int)} (hi : i ≤ tL W) (h : pCv W a o i = (q, x)) : i ≤ q ∧ q ≤ tL W ∧ (x = none → sk W q = q) ∧ ∀ y, x = some y → y.1 = a ∧ y.2.1 = o := by
  have s1 := sk_ge W i
  have s2 := sk_le hi
  unfold pCv at h
  by_cases z : tb W (sk W i) = 45
  · rw [if_pos z] at h
    have hp := tb_in (W := W) (i := sk W i) (by omega)
    cases hn : pNum W 100 (sk W i + 1) with
    | mk q' o' =>
      rw [hn] at h
      have L := pNum_le (by omega) hn
      cases o' with
      | none => cases h; exact ⟨by omega, L.2.1, fun _ => L.2.2.2.1 rfl, fun y hy => by cases hy⟩
      | some v => cases h; exact ⟨by omega, L.2.1, fun y => (by cases y), fun y hy => by cases hy; exact ⟨rfl, rfl⟩⟩
  · rw [if_neg z] at h
    cases hn : pNum W 100 (sk W i) with
    | mk q' o' =>
      rw [hn] at h
      have L := pNum_le s2 hn
      cases o' with
      | none => cases h; exact ⟨by omega, L.2.1, fun _ => L.2.2.2.1 rfl, fun y hy => by cases hy⟩
      | some v => cases h; exact ⟨by omega, L.2.1, fun y => (by cases y), fun y hy => by cases hy; exact ⟨rfl, rfl⟩⟩
theorem pCp_le {no : Bool} {p q : Nat} {x : Option (Int × Int × Int)} (hp : p ≤ tL W) (hs : sk W p = p) (h : pCp W no p = (q, x)) : p ≤ q ∧ q ≤ tL W ∧ (x = none → sk W q = q) ∧ ∀ y, x = some y → 0 ≤ y.1 ∧ y.1 < W 38 0 3 ∧ 0 ≤ y.2.1 ∧ y.2.1 ≤ 3 := by
  unfold pCp at h
  by_cases z : isPr W (tb W p) ∧ (no = true → W 42 0 (tb W p - 97).toNat = 1)
  · rw [if_pos z] at h
    have z1 := z.1.1
    have z2 := z.1.2
    have hp1 := tb_in (W := W) (i := p) (by omega)
    have s1 := sk_ge W (p + 1)
    have s2 := sk_le (W := W) (i := p + 1) (by omega)
    by_cases y : W 42 0 (tb W p - 97).toNat = 0
    · rw [if_pos y] at h
      by_cases u : opK (tb W (sk W (p + 1))) = -1
      · rw [if_pos u] at h
        cases h
        exact ⟨by omega, s2, fun _ => sk_sk W _, fun y hy => by cases hy⟩
      · rw [if_neg u] at h
        have hp2 := tb_in (W := W) (i := sk W (p + 1)) (fun e => u (by rw [e]; rfl))
        have L := pCv_le (by omega) h
        have oi := opK_in (tb W (sk W (p + 1)))
        refine ⟨by omega, L.2.1, L.2.2.1, fun y hy => ?_⟩
        have q := L.2.2.2 y hy
        rw [q.1, q.2]
        exact ⟨by omega, z2, by omega, oi.2⟩
    · rw [if_neg y] at h
      cases h
      refine ⟨by omega, by omega, fun y => (by cases y), fun y hy => ?_⟩
      cases hy
      exact ⟨by show 0 ≤ tb W p - 97; omega, z2, by show (0 : Int) ≤ 2; decide, by show (2 : Int) ≤ 3; decide⟩
  · rw [if_neg z] at h
    cases h
    exact ⟨Nat.le_refl _, hp, fun _ => hs, fun y hy => by cases hy⟩
theorem pCond_le {q : Nat} {x : Option (Int × Int × Int)} (hi : i ≤ tL W) (h : pCond W i = (q, x)) : i ≤ q ∧ q ≤ tL W ∧ (x = none → sk W q = q) ∧ ∀ y, x = some y → 0 ≤ y.1 ∧ y.1 < W 38 0 3 ∧ 0 ≤ y.2.1 ∧ y.2.1 ≤ 3 := by
  have s1 := sk_ge W i
  have s2 := sk_le hi
  unfold pCond at h
  by_cases z : tb W (sk W i) = 126
  · rw [if_pos z] at h
    have hp := tb_in (W := W) (i := sk W i) (by omega)
    have s3 := sk_ge W (sk W i + 1)
    have L := pCp_le (sk_le (by omega)) (sk_sk W _) h
    exact ⟨by omega, L.2⟩
  · rw [if_neg z] at h
    have L := pCp_le s2 (sk_sk W i) h
    exact ⟨by omega, L.2⟩
/-- a record that may be added -/
def rOK (W : dC) (r : dM) : Prop := (-1 ≤ r 0 ∧ r 0 < W 38 0 19) ∧ (0 ≤ r 1 ∧ r 1 < W 38 0 19) ∧ (0 ≤ r 2 ∧ r 2 ≤ 60) ∧ (-1 ≤ r 3 ∧ r 3 ≤ 300) ∧ (r 0 = -1 → r 3 = -1) ∧ (0 ≤ r 4 ∧ r 4 ≤ 99) ∧ (0 ≤ r 5 ∧ r 5 ≤ 4) ∧ (r 6 = 0 ∨ r 6 = 1) ∧ (0 ≤ r 7 ∧ r 7 ≤ 3) ∧ (∀ k : Nat, (k : Int) < r 7 → 0 ≤ r (8 + 3 * k) ∧ r (8 + 3 * k) < W 38 0 3) ∧ (∀ k : Nat, (k : Int) < r 7 → 0 ≤ r (8 + 3 * k + 1) ∧ r (8 + 3 * k + 1) ≤ 3)
theorem sgn_4 {c : Int} (h : sgn c ≠ 5) : sgn c < 5 := by
  unfold sgn at *
  repeat' split at h <;> first | omega | skip
  all_goals (repeat' split) <;> omega
theorem sgn_in {c : Int} (h : sgn c ≠ 5) : c ≠ -1 := fun z => h (by rw [z]; rfl)
theorem pOne_ok {k p e q : Nat} {r : dM} {x : Option (Nat × dM)} (hk : k < 5) (hp : p < tL W) (hs : sk W p = p) (he : e < 16) (rk : rOK W r) (re : r 0 = -1 → e % 2 = 1) (h : pOne W k p e r = (q, x)) : p ≤ q ∧ q ≤ tL W ∧ (x = none → sk W q = q) ∧ ∀ e' r', x = some (e', r') → p + 1 ≤ q ∧ e' < 16 ∧ rOK W r' ∧ (r' 0 = -1 → e' % 2 = 1) := by
  obtain ⟨b0, b1, b2, b3, b3a, b4, b5, b6, b7, b8, b9⟩ := id rk
  have c8 : ∀ (f : Nat) (v : Int), f < 7 → ∀ k : Nat, (k : Int) < r 7 → 0 ≤ um r f v (8 + 3 * k) ∧ um r f v (8 + 3 * k) < W 38 0 3 := fun f v hf k hk => by rw [um_n _ _ (by omega)]; exact b8 k hk
  have c9 : ∀ (f : Nat) (v : Int), f < 7 → ∀ k : Nat, (k : Int) < r 7 → 0 ≤ um r f v (8 + 3 * k + 1) ∧ um r f v (8 + 3 * k + 1) ≤ 3 := fun f v hf k hk => by rw [um_n _ _ (by omega)]; exact b9 k hk
  unfold pOne at h
  by_cases z : k < 4
  · rw [if_pos z] at h
    by_cases y : e / 2 ^ k % 2 = 1
    · rw [if_pos y] at h
      cases h
      exact ⟨Nat.le_refl _, by omega, fun _ => hs, fun e' r' hx => by cases hx⟩
    · rw [if_neg y] at h
      by_cases u : k = 3
      · rw [if_pos u] at h
        cases h
        subst u
        refine ⟨by omega, by omega, fun y => (by cases y), fun e' r' hx => ?_⟩
        cases hx
        exact ⟨Nat.le_refl _, by omega, ⟨b0, b1, b2, b3, b3a, b4, b5, Or.inr rfl, b7, c8 _ _ (by decide), c9 _ _ (by decide)⟩, fun q => by have := re q; omega⟩
      · rw [if_neg u] at h
        cases hn : pNum W (mst k) (p + 1) with
        | mk q' o' =>
          rw [hn] at h
          have L := pNum_le (by omega) hn
          cases o' with
          | none => cases h; exact ⟨by omega, L.2.1, fun _ => L.2.2.2.1 rfl, fun e' r' hx => by cases hx⟩
          | some v =>
            cases h
            have v1 := L.2.2.2.2 v rfl
            refine ⟨by omega, L.2.1, fun y => (by cases y), fun e' r' hx => ?_⟩
            cases hx
            have hk3 : k = 0 ∨ k = 1 ∨ k = 2 := by omega
            rcases hk3 with rfl | rfl | rfl
            · have v2 : v ≤ 300 := v1.2.1
              have y : e % 2 ≠ 1 := fun q => y (by omega)
              exact ⟨by omega, (by show e + 1 < 16; omega), ⟨b0, b1, b2, ⟨by show -1 ≤ v; omega, v2⟩, fun q => absurd (re q) y, b4, b5, b6, b7, c8 _ _ (by decide), c9 _ _ (by decide)⟩, fun q => absurd (re q) y⟩
            · have v2 : v ≤ 99 := v1.2.1
              exact ⟨by omega, (by show e + 2 < 16; omega), ⟨b0, b1, b2, b3, b3a, ⟨v1.1, v2⟩, b5, b6, b7, c8 _ _ (by decide), c9 _ _ (by decide)⟩, fun q => by have := re q; show (e + 2) % 2 = 1; omega⟩
            · have v2 : v ≤ 4 := v1.2.1
              exact ⟨by omega, (by show e + 4 < 16; omega), ⟨b0, b1, b2, b3, b3a, b4, ⟨v1.1, v2⟩, b6, b7, c8 _ _ (by decide), c9 _ _ (by decide)⟩, fun q => by have := re q; show (e + 4) % 2 = 1; omega⟩
  · rw [if_neg z] at h
    by_cases y : 3 ≤ r 7
    · rw [if_pos y] at h
      cases h
      exact ⟨Nat.le_refl _, by omega, fun _ => hs, fun e' r' hx => by cases hx⟩
    · rw [if_neg y] at h
      cases hn : pCond W (p + 1) with
      | mk q' o' =>
        rw [hn] at h
        have L := pCond_le (by omega) hn
        cases o' with
        | none => cases h; exact ⟨by omega, L.2.1, fun _ => L.2.2.1 rfl, fun e' r' hx => by cases hx⟩
        | some v =>
          obtain ⟨a, o, v⟩ := v
          cases h
          have c := L.2.2.2 _ rfl
          have c1 : 0 ≤ a := c.1
          have c2 : a < W 38 0 3 := c.2.1
          have c3 : 0 ≤ o := c.2.2.1
          have c4 : o ≤ 3 := c.2.2.2
          refine ⟨by omega, L.2.1, fun y => (by cases y), fun e' r' hx => ?_⟩
          cases hx
          obtain ⟨m, hm⟩ : ∃ m : Nat, r 7 = (m : Int) := ⟨(r 7).toNat, by omega⟩
          have em : (r 7).toNat = m := by omega
          have lo : ∀ w, w < 7 → addC r a o v w = r w := fun w hw => by
            unfold addC
            rw [um_n _ _ (by omega), um_n _ _ (by omega), um_n _ _ (by omega), um_n _ _ (by omega)]
          have e7 : addC r a o v 7 = r 7 + 1 := um_s _ _ _
          have hi : ∀ w, 8 ≤ w → addC r a o v w = um (um (um r (8 + 3 * m) a) (8 + 3 * m + 1) o) (8 + 3 * m + 2) v w := fun w hw => by
            unfold addC
            rw [um_n _ _ (by omega), em]
          refine ⟨by omega, he, ⟨?_, ?_, ?_, ?_, ?_, ?_, ?_, ?_, ?_, fun k hk => ?_, fun k hk => ?_⟩, fun q => ?_⟩
          · rw [lo 0 (by omega)]; exact b0
          · rw [lo 1 (by omega)]; exact b1
          · rw [lo 2 (by omega)]; exact b2
          · rw [lo 3 (by omega)]; exact b3
          · rw [lo 0 (by omega), lo 3 (by omega)]; exact b3a
          · rw [lo 4 (by omega)]; exact b4
          · rw [lo 5 (by omega)]; exact b5
          · rw [lo 6 (by omega)]; exact b6
          · rw [e7]; omega
          · rw [e7] at hk
            rw [hi _ (by omega)]
            by_cases x : k = m
            · rw [x, um_n _ _ (by omega), um_n _ _ (by omega), um_s]; exact ⟨c1, c2⟩
            · rw [um_n _ _ (by omega), um_n _ _ (by omega), um_n _ _ (by omega)]; exact b8 k (by omega)
          · rw [e7] at hk
            rw [hi _ (by omega)]
            by_cases x : k = m
            · rw [x, um_n _ _ (by omega), um_s]; exact ⟨c3, c4⟩
            · rw [um_n _ _ (by omega), um_n _ _ (by omega), um_n _ _ (by omega)]; exact b9 k (by omega)
          · rw [lo 0 (by omega)] at q; exact re q
theorem pAtt_ok : ∀ (m i e q : Nat) (r : dM) (x : Option dM), i ≤ tL W → e < 16 → rOK W r → (r 0 = -1 → e % 2 = 1) → pAtt W m i e r = (q, x) → i ≤ q ∧ q ≤ tL W ∧ (x = none → sk W q = q) ∧ ∀ r', x = some r' → rOK W r'
  | 0, i, e, q, r, x, hi, he, rk, re, h => by
    cases h
    exact ⟨Nat.le_refl _, hi, fun y => (by cases y), fun r' hr => by cases hr; exact rk⟩
  | m + 1, i, e, q, r, x, hi, he, rk, re, h => by
    have s1 := sk_ge W i
    have s2 := sk_le hi
    have h : (if sgn (tb W (sk W i)) = 5 then (sk W i, some r) else (match pOne W (sgn (tb W (sk W i))) (sk W i) e r with
      | (q, none) => (q, none)
      | (q, some (e', r')) => pAtt W m q e' r')) = (q, x) := h
    by_cases z : sgn (tb W (sk W i)) = 5
    · rw [if_pos z] at h
      cases h
      exact ⟨s1, s2, fun y => (by cases y), fun r' hr => by cases hr; exact rk⟩
    · rw [if_neg z] at h
      have hp := tb_in (sgn_in z)
      cases hn : pOne W (sgn (tb W (sk W i))) (sk W i) e r with
      | mk q' o' =>
        rw [hn] at h
        have L := pOne_ok (sgn_4 z) hp (sk_sk W i) he rk re hn
        cases o' with
        | none => cases h; exact ⟨by omega, L.2.1, fun _ => L.2.2.1 rfl, fun r' hr => by cases hr⟩
        | some y =>
          obtain ⟨e', r'⟩ := y
          have L2 := L.2.2.2 e' r' rfl
          have J := pAtt_ok m q' e' q r' x L.2.1 L2.2.1 L2.2.2.1 L2.2.2.2 h
          exact ⟨by omega, J.2⟩
theorem rec0_ok {f t d : Int} (hf : -1 ≤ f ∧ f < W 38 0 19) (ht : 0 ≤ t ∧ t < W 38 0 19) (hd : 0 ≤ d ∧ d ≤ 60) : rOK W (rec0 f t d) := ⟨hf, ht, hd, ⟨by show (-1 : Int) ≤ -1; decide, by show (-1 : Int) ≤ 300; decide⟩, fun _ => rfl, ⟨by show (0 : Int) ≤ 0; decide, by show (0 : Int) ≤ 99; decide⟩, ⟨by show (0 : Int) ≤ 0; decide, by show (0 : Int) ≤ 4; decide⟩, Or.inl rfl, ⟨by show (0 : Int) ≤ 0; decide, by show (0 : Int) ≤ 3; decide⟩, fun k hk => absurd hk (by show ¬ (k : Int) < 0; omega), fun k hk => absurd hk (by show ¬ (k : Int) < 0; omega)⟩
theorem pTo_ok {f : Int} {q : Nat} {x : Option dM} (hi : i ≤ tL W) (hf : -1 ≤ f ∧ f < W 38 0 19) (h : pTo W f i = (q, x)) : i ≤ q ∧ q ≤ tL W ∧ (x = none → sk W q = q) ∧ ∀ r', x = some r' → rOK W r' := by
  have s1 := sk_ge W i
  have s2 := sk_le hi
  unfold pTo at h
  by_cases z : tb W (sk W i) = 62
  · rw [if_pos z] at h
    have p1 := tb_in (W := W) (i := sk W i) (by omega)
    have s3 := sk_ge W (sk W i + 1)
    have s4 := sk_le (W := W) (i := sk W i + 1) (by omega)
    by_cases y : isSt W (tb W (sk W (sk W i + 1)))
    · rw [if_pos y] at h
      have y1 := y.1
      have p2 := tb_in (W := W) (i := sk W (sk W i + 1)) (by omega)
      have s5 := sk_ge W (sk W (sk W i + 1) + 1)
      have s6 := sk_le (W := W) (i := sk W (sk W i + 1) + 1) (by omega)
      by_cases u : tb W (sk W (sk W (sk W i + 1) + 1)) = 47
      · rw [if_pos u] at h
        have p3 := tb_in (W := W) (i := sk W (sk W (sk W i + 1) + 1)) (by omega)
        cases hn : pNum W 60 (sk W (sk W (sk W i + 1) + 1) + 1) with
        | mk q' o' =>
          rw [hn] at h
          have L := pNum_le (by omega) hn
          cases o' with
          | none => cases h; exact ⟨by omega, L.2.1, fun _ => L.2.2.2.1 rfl, fun r' hr => by cases hr⟩
          | some d =>
            have v := L.2.2.2.2 d rfl
            have J := pAtt_ok 150 q' (if f = -1 then 1 else 0) q (rec0 f (tb W (sk W (sk W i + 1)) - 65) d) x L.2.1 (by split <;> decide) (rec0_ok hf ⟨by omega, y.2⟩ ⟨v.1, v.2.1⟩) (fun hq => by have hq : f = -1 := hq; rw [if_pos hq]) h
            exact ⟨by omega, J.2⟩
      · rw [if_neg u] at h
        cases h
        exact ⟨by omega, s6, fun _ => sk_sk W _, fun r' hr => by cases hr⟩
    · rw [if_neg y] at h
      cases h
      exact ⟨by omega, s4, fun _ => sk_sk W _, fun r' hr => by cases hr⟩
  · rw [if_neg z] at h
    cases h
    exact ⟨by omega, s2, fun _ => sk_sk W _, fun r' hr => by cases hr⟩
theorem pTr_ok {q : Nat} {x : Option dM} (hi : i ≤ tL W) (hns : 0 ≤ W 38 0 19) (h : pTr W i = (q, x)) : i ≤ q ∧ q ≤ tL W ∧ (x = none → sk W q = q) ∧ ∀ r', x = some r' → rOK W r' := by
  have s1 := sk_ge W i
  have s2 := sk_le hi
  unfold pTr at h
  by_cases z : tb W (sk W i) = 42
  · rw [if_pos z] at h
    have p1 := tb_in (W := W) (i := sk W i) (by omega)
    have J := pTo_ok (by omega) ⟨by decide, by omega⟩ h
    exact ⟨by omega, J.2⟩
  · rw [if_neg z] at h
    by_cases y : isSt W (tb W (sk W i))
    · rw [if_pos y] at h
      have y1 := y.1
      have y2 := y.2
      have p1 := tb_in (W := W) (i := sk W i) (by omega)
      have J := pTo_ok (by omega) ⟨by omega, by omega⟩ h
      exact ⟨by omega, J.2⟩
    · rw [if_neg y] at h
      cases h
      exact ⟨s1, s2, fun _ => sk_sk W i, fun r' hr => by cases hr⟩
end PA
