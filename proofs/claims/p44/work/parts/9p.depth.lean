/-! ===== the class: depths of nodes ===== -/
section DE
variable {h : gH} {A : dA} {N zz : Nat → Nat} {S C C' C0 : dC} {P : dP} {t0 n : Nat}
theorem y_max {Qn : Int32 → gH → Prop} {a b : Int32} {x y : Int} (ha : a.toInt = x) (hb : b.toInt = y) (k : ∀ z : Int32, x ≤ z.toInt → y ≤ z.toInt → (z.toInt = x ∨ z.toInt = y) → Qn z h) : vJ9_max_7cf53 t0 Qn h a b := by
  unfold vJ9_max_7cf53 vJ9_max_7cf53_b10
  exact clt32 ha hb (fun z => k b (by omega) (by omega) (Or.inr hb)) (fun z => k a (by omega) (by omega) (Or.inl ha))
/-- depths are no part of the coupling -/
def zD (C : dC) : dC := fun j i f => if j = 12 ∧ f = 4 then 0 else C j i f
theorem KS.dep (K : KS S N zz C P) (fr : ∀ j i f : Nat, ¬ (j = 12 ∧ f = 4) → C' j i f = C j i f) : KS S N zz C' P := by
  have e : zD C' = zD C := funext fun j => funext fun i => funext fun f => by
    unfold zD
    by_cases z : j = 12 ∧ f = 4
    · rw [if_pos z, if_pos z]
    · rw [if_neg z, if_neg z, fr j i f z]
  have K1 : KS S N zz (zD C) P := by
    unfold KS KS0 at *
    exact K
  rw [← e] at K1
  unfold KS KS0 at *
  exact K1
theorem nd_in {m : Nat} (K : KS S N zz C P) (hm : (m : Int) < S 38 0 14) : ac N 12 (m + 1) := show m + 1 < N 1 + 1 by have := K.nn; omega
/-- a node's list of children -/
theorem g_chl {K : Option Nat → Prop} {m : Nat} (R : D h A N zz C P) (am : ac N 12 (m + 1)) (k0 : K (some (A 6 (m + 5)))) : gr h (A 12 (m + 1)) 8 2 K := wgrs R am rfl (show dS 12 (m + 1) 2 = some (6, m + 5) from rfl) k0
theorem g_pst {K : Option Nat → Prop} {m : Nat} (R : D h A N zz C P) (am : ac N 12 (m + 1)) (k0 : K (some (A 13 (m + 1)))) : gr h (A 12 (m + 1)) 8 3 K := wgrs R am rfl (show dS 12 (m + 1) 3 = some (13, m + 1) from rfl) k0
theorem c_depth {Qn : Int32 → gH → Prop} (R : D h A N zz C P) (K : KS S N zz C P) (I : SI S) (hn : (n : Int) < S 38 0 14) (hd : ∀ j : Nat, j < n → 1 ≤ C 12 (j + 1) 4 ∧ C 12 (j + 1) 4 ≤ (j : Int) + 1) (k0 : ∀ x : Int32, 1 ≤ x.toInt → x.toInt ≤ (n : Int) + 1 → (∀ l : Nat, (l : Int) < S 51 0 n → C 12 ((S 52 0 (5 * n + l)).toNat + 1) 4 + 1 ≤ x.toInt) → (x.toInt = 1 ∨ exN (fun l => (l : Int) < S 51 0 n ∧ x.toInt = C 12 ((S 52 0 (5 * n + l)).toNat + 1) 4 + 1)) → Qn x h) : vX5_depthByChildren t0 Qn h (A 12 (n + 1)) := by
  have n0 := K.nn
  have i1 := I.nn
  have a12 := nd_in K hn
  have a6 : n + 5 < N 1 + 5 := by omega
  have sc := K.szc n (by omega)
  have cm := I.cm n (by omega)
  obtain ⟨sg, hs⟩ := K.ch
  obtain ⟨s1, s2⟩ := hs n (by omega)
  have lp : ∀ (m i : Nat) (v1 v2 : Int32), v2.toInt = (i : Int) → ((i + m : Nat) : Int) = S 51 0 n → 0 ≤ v1.toInt → v1.toInt ≤ (n : Int) → (∀ l : Nat, l < i → C 12 ((S 52 0 (5 * n + sg n l)).toNat + 1) 4 ≤ v1.toInt) → (v1.toInt = 0 ∨ exN (fun l => l < i ∧ v1.toInt = C 12 ((S 52 0 (5 * n + sg n l)).toNat + 1) 4)) → vX5_depthByChildren_b4 t0 Qn (m + 1) h (A 12 (n + 1)) v1 v2 := by
    intro m
    induction m with
    | zero =>
      intro i v1 v2 h2 hm b0 b1 b2 b3
      show vX5_depthByChildren_b4_o t0 (vX5_depthByChildren_b4 t0 Qn 0) Qn _ _ _ _
      unfold vX5_depthByChildren_b4_o
      refine g_chl R a12 (nn_i (wio R (j := 6) (i := n + 5) a6 rfl (by decide) (ysize R a6 (fun x4 h4 => cle32 h4 h2 (fun _ => ?_) (fun z => by omega)))))
      have h5 : (v1 + 1).toInt = v1.toInt + 1 := add_ti rfl (vl (by decide)) (by omega)
      generalize v1 + 1 = w at *
      refine k0 w (by omega) (by omega) (fun l hl => ?_) ?_
      · obtain ⟨i', q1, q2⟩ := s2 l hl
        have := b2 i' (by omega)
        rw [q2] at this
        omega
      · rcases b3 with b3 | ⟨l, q1, q2⟩
        · exact Or.inl (by omega)
        · exact Or.inr ⟨sg n l, (s1 l (by omega)).1, by omega⟩
    | succ m ih =>
      intro i v1 v2 h2 hm b0 b1 b2 b3
      show vX5_depthByChildren_b4_o t0 (vX5_depthByChildren_b4 t0 Qn (m + 1)) Qn _ _ _ _
      unfold vX5_depthByChildren_b4_o
      refine g_chl R a12 (nn_i (wio R (j := 6) (i := n + 5) a6 rfl (by decide) (ysize R a6 (fun x4 h4 => cle32 h4 h2 (fun z => by omega) (fun _ => ?_)))))
      have q := s1 i (by omega)
      have cn := I.cn n (sg n i) hn (by omega)
      have ac1 : ac N 12 ((S 52 0 (5 * n + sg n i)).toNat + 1) := nd_in K (by omega)
      refine g_chl R a12 (nn_i (wio R (j := 6) (i := n + 5) a6 rfl (by decide) (yget R K a6 h2 (by omega) q.2.1 (nn_i (wio R ac1 rfl (by decide) (ygi R ac1 rfl rfl (fun x10 h10 => ?_)))))))
      have dd := hd (S 52 0 (5 * n + sg n i)).toNat (by omega)
      refine y_max (x := v1.toInt) rfl h10 (fun x12 m1 m2 m3 => ih (i + 1) x12 (v2 + 1) (ix_add h2 (ix_lit (by decide)) (by omega)) (by omega) (by omega) (by omega) (fun l hl => ?_) ?_)
      · by_cases z : l = i
        · rw [z]; exact m2
        · have := b2 l (by omega)
          omega
      · rcases m3 with m3 | m3
        · rcases b3 with b3 | ⟨l, q1, q2⟩
          · exact Or.inl (by omega)
          · exact Or.inr ⟨l, by omega, by omega⟩
        · exact Or.inr ⟨i, by omega, m3⟩
  unfold vX5_depthByChildren
  refine ⟨(S 51 0 n).toNat + 1, lp (S 51 0 n).toNat 0 0 0 (by decide) (by omega) (by decide) ?_ (fun l hl => absurd hl (by omega)) (Or.inl (by decide))⟩
  rw [show (0 : Int32).toInt = 0 by decide]
  omega
theorem c_greatest {Qn : Int32 → gH → Prop} {ln nd : Nat} (R : D h A N zz C P) (K : KS S N zz C P) (I : SI S) (hnd : nd < ln) (hln : (ln : Int) < S 38 0 14) (k0 : ∀ (w : Int32) (h' : gH) (C' : dC) (d : Nat → Int), D h' A N zz C' P → dInv S ln nd (S 38 0 14).toNat d → mInv (S 38 0 14).toNat d w.toInt → (∀ j i f : Nat, ¬ (j = 12 ∧ f = 4) → C' j i f = C j i f) → Qn w h') : vX4_greatestDepthWith t0 Qn h (A 4 0) (some (A 12 (ln + 1))) (some (A 12 (nd + 1))) := by
  have n0 := K.nn
  have i1 := I.nn
  have sz := K.sz
  have aln := nd_in K hln
  have and_ : ac N 12 (nd + 1) := nd_in K (by omega)
  have i6 : 1 < N 1 + 5 := by omega
  have lp : ∀ (m n : Nat) (h : gH) (C1 : dC) (v3 v4 : Int32), D h A N zz C1 P → v4.toInt = (n : Int) → ((n + m : Nat) : Int) = S 38 0 14 → dInv S ln nd n (fun j => C1 12 (j + 1) 4) → mInv n (fun j => C1 12 (j + 1) 4) v3.toInt → (∀ j i f : Nat, ¬ (j = 12 ∧ f = 4) → C1 j i f = C j i f) → vX4_greatestDepthWith_b5 t0 Qn (m + 1) h (A 4 0) (some (A 12 (ln + 1))) (some (A 12 (nd + 1))) v3 v4 := by
    intro m
    induction m with
    | zero =>
      intro n h C1 v3 v4 R1 h4 hm a1 a2 fr
      show vX4_greatestDepthWith_b5_o t0 (vX4_greatestDepthWith_b5 t0 Qn 0) Qn _ _ _ _ _ _
      unfold vX4_greatestDepthWith_b5_o
      refine m_nds R1 (nn_i (wio R1 (j := 6) (i := 1) i6 rfl (by decide) (ysize R1 i6 (fun x4 hx4 => ?_))))
      rw [fr 6 1 2 (by omega)] at hx4
      refine cle32 hx4 h4 (fun _ => ?_) (fun z => by omega)
      have e : n = (S 38 0 14).toNat := by omega
      rw [e] at a1 a2
      exact k0 v3 h C1 _ R1 a1 a2 fr
    | succ m ih =>
      intro n h C1 v3 v4 R1 h4 hm a1 a2 fr
      have K1 : KS S N zz C1 P := K.dep fr
      have hn : (n : Int) < S 38 0 14 := by omega
      have an := nd_in K1 hn
      have cm := I.cm n (by omega)
      show vX4_greatestDepthWith_b5_o t0 (vX4_greatestDepthWith_b5 t0 Qn (m + 1)) Qn _ _ _ _ _ _
      unfold vX4_greatestDepthWith_b5_o
      refine m_nds R1 (nn_i (wio R1 (j := 6) (i := 1) i6 rfl (by decide) (ysize R1 i6 (fun x4 hx4 => ?_))))
      have hx6 := K1.sz.2.1
      refine cle32 hx4 h4 (fun z => by omega) (fun _ => ?_)
      refine m_nds R1 (nn_i (wio R1 (j := 6) (i := 1) i6 rfl (by decide) (yget R1 K1 i6 h4 (by omega) (fun a ha => K1.e1 a n ha (by omega)) (nn_i (wio R1 an rfl (by decide) (wio R1 an rfl (by decide) ?_))))))
      refine c_depth R1 K1 I hn (fun j hj => ⟨(a1 j hj).1, (a1 j hj).2.1⟩) (fun x11 e1 e2 e3 e4 => wpvI R1 an rfl (v := x11.toInt) rfl (fun h12 R12 => ?_))
      -- behind the node's depth
      have nxt : ∀ (h : gH) (C2 : dC), D h A N zz C2 P → (∀ j i f : Nat, ¬ (j = 12 ∧ f = 4 ∧ i = n + 1) → C2 j i f = C1 j i f) → 1 ≤ C2 12 (n + 1) 4 → C2 12 (n + 1) 4 ≤ (n : Int) + 1 → (∀ l : Nat, (l : Int) < S 51 0 n → C1 12 ((S 52 0 (5 * n + l)).toNat + 1) 4 + 1 ≤ C2 12 (n + 1) 4) → (n = ln → C1 12 (nd + 1) 4 + 1 ≤ C2 12 (n + 1) 4) → (C2 12 (n + 1) 4 = 1 ∨ exN (fun l => (l : Int) < S 51 0 n ∧ C2 12 (n + 1) 4 = C1 12 ((S 52 0 (5 * n + l)).toNat + 1) 4 + 1) ∨ (n = ln ∧ C2 12 (n + 1) 4 = C1 12 (nd + 1) 4 + 1)) → vX4_greatestDepthWith_b66 t0 (vX4_greatestDepthWith_b5 t0 Qn (m + 1)) Qn h (A 4 0) (some (A 12 (ln + 1))) (some (A 12 (nd + 1))) v3 v4 (some (A 12 (n + 1))) := fun h C2 R2 fr2 p1 p2 p3 p4 p5 => by
        unfold vX4_greatestDepthWith_b66
        have same : ∀ j, j < n → (fun j => C2 12 (j + 1) 4) j = (fun j => C1 12 (j + 1) 4) j := fun j hj => fr2 12 (j + 1) 4 (by omega)
        have D1 : dInv S ln nd (n + 1) (fun j => C2 12 (j + 1) 4) := by
          refine dInv_step (k := (S 51 0 n).toNat) a1 (by omega) (fun l hl => ?_) (fun j l hj hl => ?_) hnd same p1 p2 (fun l hl => p3 l (by omega)) p4 ?_
          · have := I.cn n l hn (by omega)
            omega
          · have := I.cn j l (by omega) hl
            omega
          · rcases p5 with p5 | ⟨l, hl, p5⟩ | p5
            · exact Or.inl p5
            · exact Or.inr (Or.inl ⟨l, by omega, p5⟩)
            · exact Or.inr (Or.inr p5)
        refine nn_i (ygi R2 an rfl rfl (fun x2 hx2 => y_max (x := v3.toInt) rfl hx2 (fun x4 m1 m2 m3 => ih (n + 1) h C2 x4 (v4 + 1) R2 (ix_add h4 (ix_lit (by decide)) (by omega)) (by omega) D1 (mInv_step a2 same (by omega) ⟨p1, p2⟩ (show (C2 12 (n + 1) 4 ≤ v3.toInt ∧ x4.toInt = v3.toInt) ∨ (v3.toInt < C2 12 (n + 1) 4 ∧ x4.toInt = C2 12 (n + 1) 4) by omega)) (fun j i f hj => ?_))))
        rw [fr2 j i f (by omega)]
        exact fr j i f hj
      have u : up3 C1 12 (n + 1) 4 x11.toInt 12 (n + 1) 4 = x11.toInt := up3_same _ _ _ _ _
      have inj := R12.inj an aln
      by_cases z : n = ln
      · subst z
        have and1 : 1 ≤ C1 12 (nd + 1) 4 := (a1 nd hnd).1
        have and2 : C1 12 (nd + 1) 4 ≤ (nd : Int) + 1 := (a1 nd hnd).2.1
        have und : up3 C1 12 (n + 1) 4 x11.toInt 12 (nd + 1) 4 = C1 12 (nd + 1) 4 := up3_ne _ _ (by omega)
        refine ⟨fun y => absurd rfl y, fun _ => ygi R12 an rfl u (fun x13 h13 => nn_i (ygi R12 and_ rfl und (fun x15 h15 => ?_)))⟩
        have h16 : (x15 + 1).toInt = C1 12 (nd + 1) 4 + 1 := add_ti h15 (vl (by decide)) (by omega)
        refine y_max h13 h16 (fun x17 m1 m2 m3 => wpvI R12 an rfl (v := x17.toInt) rfl (fun h18 R18 => ?_))
        have u2 : up3 (up3 C1 12 (n + 1) 4 x11.toInt) 12 (n + 1) 4 x17.toInt 12 (n + 1) 4 = x17.toInt := up3_same _ _ _ _ _
        refine nxt h18 _ R18 (fun j i f hj => ?_) ?_ ?_ (fun l hl => ?_) (fun _ => ?_) ?_
        · rw [up3_ne _ _ (by omega), up3_ne _ _ (by omega)]
        · rw [u2]; omega
        · rw [u2]; omega
        · rw [u2]; exact Int.le_trans (e3 l hl) m1
        · rw [u2]; exact m2
        · rw [u2]
          rcases m3 with m3 | m3
          · rcases e4 with e4 | ⟨l, q1, q2⟩
            · exact Or.inl (by omega)
            · exact Or.inr (Or.inl ⟨l, q1, by omega⟩)
          · exact Or.inr (Or.inr ⟨rfl, m3⟩)
      · refine ⟨fun _ => nxt h12 _ R12 (fun j i f hj => up3_ne _ _ (by omega)) (by rw [u]; exact e1) (by rw [u]; exact e2) (fun l hl => by rw [u]; exact e3 l hl) (fun y => absurd y z) ?_, fun y => absurd (inj.mp (Option.some.inj y)).2 (by omega)⟩
        rw [u]
        rcases e4 with e4 | e4
        · exact Or.inl e4
        · exact Or.inr (Or.inl e4)
  unfold vX4_greatestDepthWith
  exact ⟨(S 38 0 14).toNat + 1, lp (S 38 0 14).toNat 0 h C 0 0 R (by decide) (by omega) (fun j hj => absurd hj (by omega)) ⟨by decide, by decide, fun j hj => absurd hj (by omega), Or.inl (by decide)⟩ (fun _ _ _ _ => rfl)⟩
end DE
