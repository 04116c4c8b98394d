/-! ===== the table at the start: a closed list of roles, their addresses, ints and references ===== -/
def Aof : List (Nat × Nat) → List Nat → dA
  | r :: Rl, q :: qs => fun j i => bif (Nat.beq j r.1 && Nat.beq i r.2) then q else Aof Rl qs j i
  | _, _ => fun _ _ => 0
def memB : List (Nat × Nat) → Nat → Nat → Bool
  | [], _, _ => false
  | r :: Rl, j, i => (Nat.beq j r.1 && Nat.beq i r.2) || memB Rl j i
def mkT {α : Type} (z : α) : List (Nat × Nat × Nat × α) → Nat → Nat → Nat → α
  | [], _, _, _ => z
  | e :: L, j, i, f => bif (Nat.beq j e.1 && Nat.beq i e.2.1) && Nat.beq f e.2.2.1 then e.2.2.2 else mkT z L j i f
def offT {α : Type} : List (Nat × Nat × Nat × α) → Nat → Nat → Bool
  | [], _, _ => true
  | e :: L, j, i => !(Nat.beq j e.1 && Nat.beq i e.2.1) && offT L j i
abbrev mkC (L : List (Nat × Nat × Nat × Int)) : dC := mkT 0 L
abbrev mkP (L : List (Nat × Nat × Nat × Option (Nat × Nat))) : dP := mkT none L
theorem bq2 {a b c d : Nat} : (Nat.beq a b && Nat.beq c d) = true ↔ a = b ∧ c = d := by
  rw [Bool.and_eq_true, Nat.beq_eq, Nat.beq_eq]
theorem bq3 {a b c d e f : Nat} : (Nat.beq a b && Nat.beq c d && Nat.beq e f) = true ↔ a = b ∧ c = d ∧ e = f := by
  rw [Bool.and_eq_true, bq2, Nat.beq_eq, and_assoc]
theorem offT_z {α : Type} {z : α} {L : List (Nat × Nat × Nat × α)} {j i : Nat} (h : offT L j i = true) : mkT z L j i = fun _ => z := by
  induction L with
  | nil => rfl
  | cons e L ih =>
    replace h : (!(Nat.beq j e.1 && Nat.beq i e.2.1) && offT L j i) = true := h
    rw [Bool.and_eq_true] at h
    funext f
    show (bif (Nat.beq j e.1 && Nat.beq i e.2.1) && Nat.beq f e.2.2.1 then e.2.2.2 else mkT z L j i f) = z
    have h1 : (Nat.beq j e.1 && Nat.beq i e.2.1) = false := by
      have := h.1
      cases hh : (Nat.beq j e.1 && Nat.beq i e.2.1)
      · rfl
      · rw [hh] at this; cases this
    rw [h1, ih h.2]
    rfl
theorem mkC_z {L : List (Nat × Nat × Nat × Int)} {j i : Nat} (h : offT L j i = true) : mkC L j i = fun _ => 0 := offT_z h
theorem mkP_z {L : List (Nat × Nat × Nat × Option (Nat × Nat))} {j i : Nat} (h : offT L j i = true) : mkP L j i = fun _ => none := offT_z h
theorem mkT_up {α : Type} (z : α) (L : List (Nat × Nat × Nat × α)) (j i f : Nat) (v : α) : up3 (mkT z L) j i f v = mkT z ((j, i, f, v) :: L) := by
  funext a b c
  show (if a = j ∧ b = i ∧ c = f then v else mkT z L a b c) = (bif (Nat.beq a j && Nat.beq b i) && Nat.beq c f then v else mkT z L a b c)
  by_cases h : a = j ∧ b = i ∧ c = f
  · rw [if_pos h, bq3.mpr h]; rfl
  · rw [if_neg h]
    have : (Nat.beq a j && Nat.beq b i && Nat.beq c f) = false := by
      cases hh : (Nat.beq a j && Nat.beq b i && Nat.beq c f)
      · rfl
      · exact absurd (bq3.mp hh) h
    rw [this]; rfl
def HL (h : gH) (Rl : List (Nat × Nat)) (qs : List Nat) (Cl : List (Nat × Nat × Nat × Int)) (Pl : List (Nat × Nat × Nat × Option (Nat × Nat))) : Prop := HR h (Aof Rl qs) (fun j i => memB Rl j i = true) (fun _ => 0) (mkC Cl) (mkP Pl)
section HLS
variable {h : gH} {Rl : List (Nat × Nat)} {qs : List Nat} {Cl : List (Nat × Nat × Nat × Int)} {Pl : List (Nat × Nat × Nat × Option (Nat × Nat))} {j i f ci q q' : Nat} {ks : List Nat}
theorem HR.act_ {A : dA} {act act1 : Nat → Nat → Prop} {zz : Nat → Nat} {C : dC} {P : dP} (R : HR h A act zz C P) (e : ∀ j i, act1 j i ↔ act j i) : HR h A act1 zz C P :=
  R.sub (fun j i => (e j i).mp) (fun j i f q a hr hp => (e _ _).mpr (R.2.2 j i f q ((e j i).mp a) hr hp))
theorem i_nw {K : Nat → gH → Prop} {c0 : va_E} (J I : Nat) (R : HL h Rl qs Cl Pl) (hn : memB Rl J I = false) (hc : offT Cl J I = true) (hp : offT Pl J I = true) (he : ∀ A1 : dA, dCell A1 (dN (fun _ => 0) J I) J (fun _ => 0) (fun _ => none) c0) (k : ∀ (q : Nat) (h' : gH), HL h' ((J, I) :: Rl) (q :: qs) Cl Pl → K q h') : nw h c0 K := by
  refine HR.nw (C1 := mkC Cl) (P1 := mkP Pl) (zz1 := fun _ => 0) J I R (by rw [hn]; exact Bool.false_ne_true) (fun A1 => by rw [mkC_z hc, mkP_z hp]; exact he A1) (fun _ _ _ => rfl) (fun _ _ _ => rfl) (fun _ _ _ => rfl) (fun f q hq => by rw [mkP_z hp] at hq; cases hq) (fun A1 h' e R1 => k (A1 J I) h' ?_)
  have eA : A1 = Aof ((J, I) :: Rl) (A1 J I :: qs) := by
    funext j i
    show A1 j i = bif (Nat.beq j J && Nat.beq i I) then A1 J I else Aof Rl qs j i
    by_cases z : j = J ∧ i = I
    · rw [bq2.mpr z, z.1, z.2]; rfl
    · have : (Nat.beq j J && Nat.beq i I) = false := by
        cases hh : (Nat.beq j J && Nat.beq i I)
        · rfl
        · exact absurd (bq2.mp hh) z
      rw [this, e j i z]; rfl
  show HR h' (Aof ((J, I) :: Rl) (A1 J I :: qs)) _ _ _ _
  rw [← eA]
  refine R1.act_ (fun j i => ?_)
  show ((Nat.beq j J && Nat.beq i I) || memB Rl j i) = true ↔ _
  rw [Bool.or_eq_true, bq2]
  exact Or.comm
theorem i_pvI {K : gH → Prop} {x : Int32} (j i f : Nat) (v : Int) (R : HL h Rl qs Cl Pl) (hm : memB Rl j i = true) (ho : dO j = some (ci, ks)) (hk : ks[f]? = some 0) (hq : Aof Rl qs j i = q) (hx : x.toInt = v) (k : ∀ h' : gH, HL h' Rl qs ((j, i, f, v) :: Cl) Pl → K h') : pv h q ci f (.int x) K := by
  subst hq
  refine HR.pvI R hm ho hk hx (fun h' R' => k h' ?_)
  rw [mkT_up] at R'
  exact R'
theorem i_pvR {K : gH → Prop} (j i f j' i' : Nat) (R : HL h Rl qs Cl Pl) (hm : memB Rl j i = true) (ho : dO j = some (ci, ks)) (hk : ks[f]? = some 2) (hq : Aof Rl qs j i = q) (hm' : memB Rl j' i' = true) (hq' : Aof Rl qs j' i' = q') (k : ∀ h' : gH, HL h' Rl qs Cl ((j, i, f, some (j', i')) :: Pl) → K h') : pv h q ci f (.ref q') K := by
  subst hq hq'
  refine HR.pvQ (o := some (j', i')) R hm ho hk (fun r z => by cases z; exact hm') (fun h' R' => k h' ?_)
  rw [mkT_up] at R'
  exact R'
theorem i_pvN {K : gH → Prop} (j i f : Nat) (R : HL h Rl qs Cl Pl) (hm : memB Rl j i = true) (ho : dO j = some (ci, ks)) (hk : ks[f]? = some 2) (hq : Aof Rl qs j i = q) (k : ∀ h' : gH, HL h' Rl qs Cl ((j, i, f, none) :: Pl) → K h') : pv h q ci f (va_rf none) K := by
  subst hq
  refine HR.pvQ (o := none) R hm ho hk (fun r z => by cases z) (fun h' R' => k h' ?_)
  rw [mkT_up] at R'
  exact R'
theorem i_gr {K : Option Nat → Prop} (j i f j' i' : Nat) (R : HL h Rl qs Cl Pl) (hm : memB Rl j i = true) (ho : dO j = some (ci, ks)) (hk : ks[f]? = some 2) (hq : Aof Rl qs j i = q) (hp : mkP Pl j i f = some (j', i')) (k : K (some (Aof Rl qs j' i'))) : gr h q ci f K := by
  subst hq
  refine HR.gr R hm ho hk ?_
  rw [hp]
  exact k
theorem i_al {K : Int32 → Prop} {n : Nat} (j i : Nat) (R : HL h Rl qs Cl Pl) (hm : memB Rl j i = true) (ho : dO j = none) (hr : (dR j).1 < 6) (hn : dN (fun _ => 0) j i = n) (hn2 : n < 2147483648) (hq : Aof Rl qs j i = q) (k : ∀ y : Int32, y.toInt = (n : Int) → K y) : al h q K := by
  subst hq
  exact HR.al R hm ho hr hn hn2 k
theorem i_sq {K : gH → Prop} {x : Int32} (j i m j' i' : Nat) (R : HL h Rl qs Cl Pl) (hm : memB Rl j i = true) (ho : dO j = none) (hr : (dR j).1 = 5) (hj : j' = 21) (hx : x.toInt = (m : Int)) (hl : m < dN (fun _ => 0) j i) (hq : Aof Rl qs j i = q) (hm' : memB Rl j' i' = true) (hq' : Aof Rl qs j' i' = q') (k : ∀ h' : gH, HL h' Rl qs Cl ((j, i, m, some (j', i')) :: Pl) → K h') : sq h 5 q x q' K := by
  subst hq hq'
  refine HR.sq R hm ho hr (Or.inr ⟨rfl, hj⟩) hx hl hm' (fun h' R' => k h' ?_)
  rw [mkT_up] at R'
  exact R'
/-! empty cells -/
theorem cell_e0 {A1 : dA} {n m J : Nat} (ho : dO J = none) (hr : (dR J).1 = 0) (hn : n = m) : dCell A1 n J (fun _ => 0) (fun _ => none) (.inl (0, m, .inl (fun _ => 0))) := by
  subst hn; unfold dCell; rw [ho]; show dE _ (dR J).1 _ _ _ _; rw [hr]; exact ⟨_, rfl, fun _ => (by decide : (0 : Int32).toInt = 0)⟩
theorem cell_e1 {A1 : dA} {n m J : Nat} (ho : dO J = none) (hr : (dR J).1 = 1) (hn : n = m) : dCell A1 n J (fun _ => 0) (fun _ => none) (.inl (1, m, .inr (.inl (fun _ => 0)))) := by
  subst hn; unfold dCell; rw [ho]; show dE _ (dR J).1 _ _ _ _; rw [hr]; exact ⟨_, rfl, fun _ => (by decide : (0 : Int64).toInt = 0)⟩
theorem cell_e2 {A1 : dA} {n m J : Nat} (ho : dO J = none) (hr : (dR J).1 = 2) (hn : n = m) : dCell A1 n J (fun _ => 0) (fun _ => none) (.inl (2, m, .inl (fun _ => 0))) := by
  subst hn; unfold dCell; rw [ho]; show dE _ (dR J).1 _ _ _ _; rw [hr]; exact ⟨_, rfl, fun _ => (by decide : (0 : Int32).toInt = 0)⟩
theorem cell_eq {A1 : dA} {n m kt J : Nat} (ho : dO J = none) (hr : (dR J).1 = kt) (hk : kt = 3 ∨ kt = 4 ∨ kt = 5) (hn : n = m) : dCell A1 n J (fun _ => 0) (fun _ => none) (.inl (kt, m, .inr (.inr (.inr (.inr (fun _ => none)))))) := by
  subst hn; unfold dCell; rw [ho]; show dE _ (dR J).1 _ _ _ _; rw [hr]; rcases hk with rfl | rfl | rfl <;> rfl
def zv : Nat → Value
  | 0 => .int 0
  | 1 => .long 0
  | _ => .null
theorem cell_o {A1 : dA} {n J : Nat} (ho : dO J = some (ci, ks)) {fs : List Value} (hf : fs = ks.map zv) (hk : ∀ k ∈ ks, k < 3) : dCell A1 n J (fun _ => 0) (fun _ => none) (.inr (ci, fs)) := by
  subst hf; unfold dCell; rw [ho]
  refine ⟨_, rfl, by rw [List.length_map], fun f k hk' => ⟨zv k, by rw [List.getElem?_map, hk']; rfl, ?_⟩⟩
  have h3 := hk k (List.mem_of_getElem? hk')
  rcases k with _ | _ | _ | k
  · exact ⟨0, rfl, (by decide : (0 : Int32).toInt = 0)⟩
  · exact ⟨0, rfl, (by decide : (0 : Int64).toInt = 0)⟩
  · rfl
  · omega
/-- a table of four int arrays -/
theorem i_nw2 {K : Nat → gH → Prop} (k0 a b c d : Nat) (R : HL h Rl qs Cl Pl) (hq : memB Rl 34 k0 = false) (ha : memB Rl 35 a = false) (hb : memB ((35, a) :: Rl) 35 b = false) (hc : memB ((35, b) :: (35, a) :: Rl) 35 c = false) (hd : memB ((35, c) :: (35, b) :: (35, a) :: Rl) 35 d = false) (oC : offT Cl 34 k0 = true) (oP : offT Pl 34 k0 = true) (o1 : offT Cl 35 a = true) (o2 : offT Cl 35 b = true) (o3 : offT Cl 35 c = true) (o4 : offT Cl 35 d = true) (p1 : offT Pl 35 a = true) (p2 : offT Pl 35 b = true) (p3 : offT Pl 35 c = true) (p4 : offT Pl 35 d = true) (k : ∀ (q r0 r1 r2 r3 : Nat) (h' : gH), HL h' ((34, k0) :: (35, d) :: (35, c) :: (35, b) :: (35, a) :: Rl) (q :: r3 :: r2 :: r1 :: r0 :: qs) Cl ((34, k0, 3, some (35, d)) :: (34, k0, 2, some (35, c)) :: (34, k0, 1, some (35, b)) :: (34, k0, 0, some (35, a)) :: Pl) → K q h') : nw2 h 4 30 K := by
  intro q r hq0 hr0 hri hrq
  have e0 : ∀ A1 : dA, ∀ x : Nat, dCell A1 (dN (fun _ => 0) 35 x) 35 (fun _ => 0) (fun _ => none) (.inl (0, 30, .inl (fun _ => 0))) := fun A1 x => cell_e0 rfl rfl rfl
  have R1 := (i_nw (K := fun q h' => HL h' ((35, a) :: Rl) (q :: qs) Cl Pl) 35 a R ha o1 p1 (fun A1 => e0 A1 a) (fun _ _ R => R)) (r 0) (hr0 0 (by omega))
  have f1 : va_up h (r 0) (some (.inl (0, 30, .inl (fun _ => 0)))) (r 1) = none := by
    rw [va_up_ne _ _ (fun z => absurd (hri 1 0 (by omega) (by omega) z) (by omega))]; exact hr0 1 (by omega)
  have R2 := (i_nw (K := fun q h' => HL h' ((35, b) :: (35, a) :: Rl) (q :: r 0 :: qs) Cl Pl) 35 b R1 hb o2 p2 (fun A1 => e0 A1 b) (fun _ _ R => R)) (r 1) f1
  have f2 : va_up (va_up h (r 0) (some (.inl (0, 30, .inl (fun _ => 0))))) (r 1) (some (.inl (0, 30, .inl (fun _ => 0)))) (r 2) = none := by
    rw [va_up_ne _ _ (fun z => absurd (hri 2 1 (by omega) (by omega) z) (by omega)), va_up_ne _ _ (fun z => absurd (hri 2 0 (by omega) (by omega) z) (by omega))]; exact hr0 2 (by omega)
  have R3 := (i_nw (K := fun q h' => HL h' ((35, c) :: (35, b) :: (35, a) :: Rl) (q :: r 1 :: r 0 :: qs) Cl Pl) 35 c R2 hc o3 p3 (fun A1 => e0 A1 c) (fun _ _ R => R)) (r 2) f2
  have f3 : va_up (va_up (va_up h (r 0) (some (.inl (0, 30, .inl (fun _ => 0))))) (r 1) (some (.inl (0, 30, .inl (fun _ => 0))))) (r 2) (some (.inl (0, 30, .inl (fun _ => 0)))) (r 3) = none := by
    rw [va_up_ne _ _ (fun z => absurd (hri 3 2 (by omega) (by omega) z) (by omega)), va_up_ne _ _ (fun z => absurd (hri 3 1 (by omega) (by omega) z) (by omega)), va_up_ne _ _ (fun z => absurd (hri 3 0 (by omega) (by omega) z) (by omega))]; exact hr0 3 (by omega)
  have R4 := (i_nw (K := fun q h' => HL h' ((35, d) :: (35, c) :: (35, b) :: (35, a) :: Rl) (q :: r 2 :: r 1 :: r 0 :: qs) Cl Pl) 35 d R3 hd o4 p4 (fun A1 => e0 A1 d) (fun _ _ R => R)) (r 3) f3
  have f4 : va_up (va_up (va_up (va_up h (r 0) (some (.inl (0, 30, .inl (fun _ => 0))))) (r 1) (some (.inl (0, 30, .inl (fun _ => 0))))) (r 2) (some (.inl (0, 30, .inl (fun _ => 0))))) (r 3) (some (.inl (0, 30, .inl (fun _ => 0)))) q = none := by
    rw [va_up_ne _ _ (Ne.symm (hrq 3 (by omega))), va_up_ne _ _ (Ne.symm (hrq 2 (by omega))), va_up_ne _ _ (Ne.symm (hrq 1 (by omega))), va_up_ne _ _ (Ne.symm (hrq 0 (by omega)))]; exact hq0
  have hq4 : memB ((35, d) :: (35, c) :: (35, b) :: (35, a) :: Rl) 34 k0 = false := by
    show ((Nat.beq 34 35 && Nat.beq k0 d) || ((Nat.beq 34 35 && Nat.beq k0 c) || ((Nat.beq 34 35 && Nat.beq k0 b) || ((Nat.beq 34 35 && Nat.beq k0 a) || memB Rl 34 k0)))) = false
    rw [hq]; rfl
  have R5 := (i_nw (K := fun q h' => HL h' ((34, k0) :: (35, d) :: (35, c) :: (35, b) :: (35, a) :: Rl) (q :: r 3 :: r 2 :: r 1 :: r 0 :: qs) Cl Pl) 34 k0 R4 hq4 oC oP (fun A1 => cell_eq (kt := 4) rfl rfl (Or.inr (Or.inl rfl)) rfl) (fun _ _ R => R)) q f4
  have bt : ∀ x : Nat, Nat.beq x x = true := fun x => Nat.beq_refl x
  have mm : memB ((34, k0) :: (35, d) :: (35, c) :: (35, b) :: (35, a) :: Rl) 34 k0 = true := by
    show ((Nat.beq 34 34 && Nat.beq k0 k0) || _) = true
    rw [bt k0]; rfl
  have eA : Aof ((34, k0) :: (35, d) :: (35, c) :: (35, b) :: (35, a) :: Rl) (q :: r 3 :: r 2 :: r 1 :: r 0 :: qs) 34 k0 = q := by
    show (bif (Nat.beq 34 34 && Nat.beq k0 k0) then q else _) = q
    rw [bt k0]; rfl
  have nb : ∀ {x y : Nat}, x ≠ y → Nat.beq x y = false := fun {x y} z => by
    cases hh : Nat.beq x y
    · rfl
    · exact absurd (Nat.beq_eq.mp hh) z
  have m35 : ∀ {x y : Nat} {L : List (Nat × Nat)}, memB ((35, x) :: L) 35 y = false → y ≠ x ∧ memB L 35 y = false := fun {x y L} z => by
    replace z : ((Nat.beq 35 35 && Nat.beq y x) || memB L 35 y) = false := z
    rw [Bool.or_eq_false_iff] at z
    refine ⟨fun e => ?_, z.2⟩
    rw [e, bt x] at z
    exact absurd z.1 (by decide)
  obtain ⟨dc, hd2⟩ := m35 hd
  obtain ⟨db, hd3⟩ := m35 hd2
  obtain ⟨da, -⟩ := m35 hd3
  obtain ⟨cb, hc2⟩ := m35 hc
  obtain ⟨ca, -⟩ := m35 hc2
  obtain ⟨ba, -⟩ := m35 hb
  have ed : Aof ((34, k0) :: (35, d) :: (35, c) :: (35, b) :: (35, a) :: Rl) (q :: r 3 :: r 2 :: r 1 :: r 0 :: qs) 35 d = r 3 := by
    show (bif (Nat.beq 35 35 && Nat.beq d d) then r 3 else _) = r 3
    rw [bt d]; rfl
  have ec : Aof ((34, k0) :: (35, d) :: (35, c) :: (35, b) :: (35, a) :: Rl) (q :: r 3 :: r 2 :: r 1 :: r 0 :: qs) 35 c = r 2 := by
    show (bif (Nat.beq 35 35 && Nat.beq c d) then r 3 else (bif (Nat.beq 35 35 && Nat.beq c c) then r 2 else _)) = r 2
    rw [nb (Ne.symm dc), bt c]; rfl
  have eb : Aof ((34, k0) :: (35, d) :: (35, c) :: (35, b) :: (35, a) :: Rl) (q :: r 3 :: r 2 :: r 1 :: r 0 :: qs) 35 b = r 1 := by
    show (bif (Nat.beq 35 35 && Nat.beq b d) then r 3 else (bif (Nat.beq 35 35 && Nat.beq b c) then r 2 else (bif (Nat.beq 35 35 && Nat.beq b b) then r 1 else _))) = r 1
    rw [nb (Ne.symm db), nb (Ne.symm cb), bt b]; rfl
  have ea : Aof ((34, k0) :: (35, d) :: (35, c) :: (35, b) :: (35, a) :: Rl) (q :: r 3 :: r 2 :: r 1 :: r 0 :: qs) 35 a = r 0 := by
    show (bif (Nat.beq 35 35 && Nat.beq a d) then r 3 else (bif (Nat.beq 35 35 && Nat.beq a c) then r 2 else (bif (Nat.beq 35 35 && Nat.beq a b) then r 1 else (bif (Nat.beq 35 35 && Nat.beq a a) then r 0 else _)))) = r 0
    rw [nb (Ne.symm da), nb (Ne.symm ca), nb (Ne.symm ba), bt a]; rfl
  have mP : ∀ f : Nat, mkP ((34, k0, 3, some (35, d)) :: (34, k0, 2, some (35, c)) :: (34, k0, 1, some (35, b)) :: (34, k0, 0, some (35, a)) :: Pl) 34 k0 f = (if f = 3 then some (35, d) else if f = 2 then some (35, c) else if f = 1 then some (35, b) else if f = 0 then some (35, a) else none) := fun f => by
    show mkT none _ 34 k0 f = _
    rw [← mkT_up, ← mkT_up, ← mkT_up, ← mkT_up]
    simp only [up3, true_and, offT_z (z := none) oP]
  have R6 : HL (va_up (va_up (va_up (va_up (va_up (va_up h (r 0) (some (.inl (0, 30, .inl (fun _ => 0))))) (r 1) (some (.inl (0, 30, .inl (fun _ => 0))))) (r 2) (some (.inl (0, 30, .inl (fun _ => 0))))) (r 3) (some (.inl (0, 30, .inl (fun _ => 0))))) q (some (.inl (4, 4, .inr (.inr (.inr (.inr (fun _ => none)))))))) q (some (.inl (4, 4, .inr (.inr (.inr (.inr (fun i => if i < 4 then some (r i) else none)))))))) ((34, k0) :: (35, d) :: (35, c) :: (35, b) :: (35, a) :: Rl) (q :: r 3 :: r 2 :: r 1 :: r 0 :: qs) Cl ((34, k0, 3, some (35, d)) :: (34, k0, 2, some (35, c)) :: (34, k0, 1, some (35, b)) :: (34, k0, 0, some (35, a)) :: Pl) := by
    have := HR.put (C1 := mkC Cl) (P1 := mkP ((34, k0, 3, some (35, d)) :: (34, k0, 2, some (35, c)) :: (34, k0, 1, some (35, b)) :: (34, k0, 0, some (35, a)) :: Pl)) (e := .inl (4, 4, .inr (.inr (.inr (.inr (fun i => if i < 4 then some (r i) else none)))))) R5 mm ?_ (fun _ _ _ => rfl) (fun j i hj => ?_) (fun f q1 hr hp => ?_)
    · rw [eA] at this
      exact this
    · show (_ : va_E) = _
      refine congrArg (fun z => (Sum.inl (4, 4, Sum.inr (Sum.inr (Sum.inr (Sum.inr z)))) : va_E)) (funext fun f => ?_)
      rw [mP f]
      rcases f with _ | _ | _ | _ | f
      · exact (congrArg some ea).symm
      · exact (congrArg some eb).symm
      · exact (congrArg some ec).symm
      · exact (congrArg some ed).symm
      · rw [if_neg (by omega), if_neg (by omega), if_neg (by omega), if_neg (by omega), if_neg (by omega)]; rfl
    · show mkT none _ j i = mkT none _ j i
      rw [← mkT_up, ← mkT_up, ← mkT_up, ← mkT_up, up3_off _ _ hj, up3_off _ _ hj, up3_off _ _ hj, up3_off _ _ hj]
    · rw [mP f] at hp
      have mB : ∀ x : Nat, (x = d ∨ x = c ∨ x = b ∨ x = a) → memB ((34, k0) :: (35, d) :: (35, c) :: (35, b) :: (35, a) :: Rl) 35 x = true := fun x hx => by
        show ((Nat.beq 35 34 && Nat.beq x k0) || ((Nat.beq 35 35 && Nat.beq x d) || ((Nat.beq 35 35 && Nat.beq x c) || ((Nat.beq 35 35 && Nat.beq x b) || ((Nat.beq 35 35 && Nat.beq x a) || memB Rl 35 x))))) = true
        rcases hx with rfl | rfl | rfl | rfl <;> simp [bt]
      split at hp
      · cases hp; exact mB d (by omega)
      · split at hp
        · cases hp; exact mB c (by omega)
        · split at hp
          · cases hp; exact mB b (by omega)
          · split at hp
            · cases hp; exact mB a (by omega)
            · cases hp
  refine k q (r 0) (r 1) (r 2) (r 3) _ ?_
  have eh : gMN h q 4 30 r = va_up (va_up (va_up (va_up (va_up (va_up h (r 0) (some (.inl (0, 30, .inl (fun _ => 0))))) (r 1) (some (.inl (0, 30, .inl (fun _ => 0))))) (r 2) (some (.inl (0, 30, .inl (fun _ => 0))))) (r 3) (some (.inl (0, 30, .inl (fun _ => 0))))) q (some (.inl (4, 4, .inr (.inr (.inr (.inr (fun _ => none)))))))) q (some (.inl (4, 4, .inr (.inr (.inr (.inr (fun i => if i < 4 then some (r i) else none)))))))  := by
    funext x
    unfold gMN va_up
    have eR : (x ∈ (List.range 4).map r) ↔ (x = r 3 ∨ x = r 2 ∨ x = r 1 ∨ x = r 0) := by
      have : (List.range 4).map r = [r 0, r 1, r 2, r 3] := rfl
      rw [this]
      simp only [List.mem_cons, List.not_mem_nil, or_false]
      constructor
      · rintro (z | z | z | z)
        · exact Or.inr (Or.inr (Or.inr z))
        · exact Or.inr (Or.inr (Or.inl z))
        · exact Or.inr (Or.inl z)
        · exact Or.inl z
      · rintro (z | z | z | z)
        · exact Or.inr (Or.inr (Or.inr z))
        · exact Or.inr (Or.inr (Or.inl z))
        · exact Or.inr (Or.inl z)
        · exact Or.inl z
    by_cases xq : x = q
    · rw [if_pos xq, if_pos xq]
    · rw [if_neg xq, if_neg xq, if_neg xq]
      by_cases x3 : x = r 3
      · rw [if_pos (eR.mpr (Or.inl x3)), if_pos x3]
      · rw [if_neg x3]
        by_cases x2 : x = r 2
        · rw [if_pos (eR.mpr (Or.inr (Or.inl x2))), if_pos x2]
        · rw [if_neg x2]
          by_cases x1 : x = r 1
          · rw [if_pos (eR.mpr (Or.inr (Or.inr (Or.inl x1)))), if_pos x1]
          · rw [if_neg x1]
            by_cases x0 : x = r 0
            · rw [if_pos (eR.mpr (Or.inr (Or.inr (Or.inr x0)))), if_pos x0]
            · rw [if_neg x0, if_neg (fun z => by
                rcases eR.mp z with y | y | y | y
                · exact x3 y
                · exact x2 y
                · exact x1 y
                · exact x0 y)]
  rw [eh]
  exact R6
end HLS
