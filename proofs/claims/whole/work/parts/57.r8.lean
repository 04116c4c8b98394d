/-! ===== the reference: depths, children ===== -/
/-- there is a number, said so that it is left alone -/
def exN (p : Nat → Prop) : Prop := ∃ l, p l
/-- depths of the nodes below n, if node ln had the child nd too -/
def dInv (C : dC) (ln nd : Nat) (n : Nat) (d : Nat → Int) : Prop := ∀ j : Nat, j < n → 1 ≤ d j ∧ d j ≤ (j : Int) + 1 ∧ (∀ k : Nat, (k : Int) < C 51 0 j → d (C 52 0 (5 * j + k)).toNat + 1 ≤ d j) ∧ (j = ln → d nd + 1 ≤ d j) ∧ (d j = 1 ∨ exN (fun k => (k : Int) < C 51 0 j ∧ d j = d (C 52 0 (5 * j + k)).toNat + 1) ∨ (j = ln ∧ d j = d nd + 1))
def mInv (n : Nat) (d : Nat → Int) (m : Int) : Prop := 0 ≤ m ∧ m ≤ 21 ∧ (∀ j : Nat, j < n → d j ≤ m) ∧ (m = 0 ∨ exN fun j => j < n ∧ d j = m)
/-- what is known of node n's depth after k children -/
def pInv (C : dC) (n k : Nat) (d : Nat → Int) : Prop := 1 ≤ d n ∧ d n ≤ (n : Int) + 1 ∧ (∀ l : Nat, l < k → d (C 52 0 (5 * n + l)).toNat + 1 ≤ d n) ∧ (d n = 1 ∨ exN fun l => l < k ∧ d n = d (C 52 0 (5 * n + l)).toNat + 1)
theorem dInv_step {C : dC} {ln nd n k : Nat} {d d1 : Nat → Int} (I : dInv C ln nd n d) (hk : (k : Int) = C 51 0 n) (hc : ∀ l : Nat, l < k → (C 52 0 (5 * n + l)).toNat < n) (hcn : ∀ j l : Nat, j < n → (l : Int) < C 51 0 j → (C 52 0 (5 * j + l)).toNat < j) (hnd : nd < ln) (hsame : ∀ j, j < n → d1 j = d j)
    (p1 : 1 ≤ d1 n) (p2 : d1 n ≤ (n : Int) + 1) (p3 : ∀ l : Nat, l < k → d (C 52 0 (5 * n + l)).toNat + 1 ≤ d1 n) (p4 : n = ln → d nd + 1 ≤ d1 n) (p5 : d1 n = 1 ∨ exN (fun l => l < k ∧ d1 n = d (C 52 0 (5 * n + l)).toNat + 1) ∨ (n = ln ∧ d1 n = d nd + 1)) : dInv C ln nd (n + 1) d1 := by
  intro j hj
  rcases Nat.lt_or_ge j n with z | z
  · obtain ⟨a1, a2, a3, a4, a5⟩ := I j z
    refine ⟨by rw [hsame j z]; exact a1, by rw [hsame j z]; exact a2, fun l hl => ?_, fun e => ?_, ?_⟩
    · rw [hsame j z, hsame _ (Nat.lt_trans (hcn j l z hl) z)]; exact a3 l hl
    · rw [hsame j z, hsame _ (by omega)]; exact a4 e
    · rw [hsame j z]
      rcases a5 with a5 | ⟨l, hl, a5⟩ | ⟨e, a5⟩
      · exact Or.inl a5
      · exact Or.inr (Or.inl ⟨l, hl, by rw [hsame _ (Nat.lt_trans (hcn j l z hl) z)]; exact a5⟩)
      · exact Or.inr (Or.inr ⟨e, by rw [hsame _ (by omega)]; exact a5⟩)
  · have e : j = n := by omega
    subst e
    refine ⟨p1, p2, fun l hl => ?_, fun e => ?_, ?_⟩
    · rw [hsame _ (hc l (by omega))]; exact p3 l (by omega)
    · rw [hsame _ (by omega)]; exact p4 e
    · rcases p5 with p5 | ⟨l, hl, p5⟩ | ⟨e, p5⟩
      · exact Or.inl p5
      · exact Or.inr (Or.inl ⟨l, by omega, by rw [hsame _ (hc l hl)]; exact p5⟩)
      · exact Or.inr (Or.inr ⟨e, by rw [hsame nd (by omega)]; exact p5⟩)
theorem dInv_congr {C : dC} {ln nd n : Nat} {d d1 : Nat → Int} (I : dInv C ln nd n d) (hcn : ∀ j l : Nat, j < n → (l : Int) < C 51 0 j → (C 52 0 (5 * j + l)).toNat < j) (hnd : nd < ln) (hsame : ∀ j, j < n → d1 j = d j) : dInv C ln nd n d1 := by
  intro j z
  obtain ⟨a1, a2, a3, a4, a5⟩ := I j z
  refine ⟨by rw [hsame j z]; exact a1, by rw [hsame j z]; exact a2, fun l hl => ?_, fun e => ?_, ?_⟩
  · rw [hsame j z, hsame _ (Nat.lt_trans (hcn j l z hl) z)]; exact a3 l hl
  · rw [hsame j z, hsame _ (by omega)]; exact a4 e
  · rw [hsame j z]
    rcases a5 with a5 | ⟨l, hl, a5⟩ | ⟨e, a5⟩
    · exact Or.inl a5
    · exact Or.inr (Or.inl ⟨l, hl, by rw [hsame _ (Nat.lt_trans (hcn j l z hl) z)]; exact a5⟩)
    · exact Or.inr (Or.inr ⟨e, by rw [hsame _ (by omega)]; exact a5⟩)
theorem mInv_congr {n : Nat} {d d1 : Nat → Int} {m : Int} (I : mInv n d m) (hsame : ∀ j, j < n → d1 j = d j) : mInv n d1 m := by
  obtain ⟨a1, a2, a3, a4⟩ := I
  refine ⟨a1, a2, fun j hj => by rw [hsame j hj]; exact a3 j hj, ?_⟩
  rcases a4 with a4 | ⟨j, hj, a4⟩
  · exact Or.inl a4
  · exact Or.inr ⟨j, hj, by rw [hsame j hj]; exact a4⟩
theorem mInv_step {n : Nat} {d d1 : Nat → Int} {m m1 : Int} (I : mInv n d m) (hsame : ∀ j, j < n → d1 j = d j) (hn : n < 20) (hd : 1 ≤ d1 n ∧ d1 n ≤ (n : Int) + 1) (hm : (d1 n ≤ m ∧ m1 = m) ∨ (m < d1 n ∧ m1 = d1 n)) : mInv (n + 1) d1 m1 := by
  obtain ⟨a1, a2, a3, a4⟩ := I
  refine ⟨by omega, by omega, fun j hj => ?_, ?_⟩
  · rcases Nat.lt_or_ge j n with z | z
    · have := a3 j z
      rw [hsame j z]; omega
    · have e : j = n := by omega
      subst e
      omega
  · rcases hm with ⟨h1, h2⟩ | ⟨h1, h2⟩
    · rcases a4 with a4 | ⟨j, hj, a4⟩
      · exact Or.inl (by omega)
      · exact Or.inr ⟨j, by omega, by rw [hsame j hj, h2]; exact a4⟩
    · exact Or.inr ⟨n, by omega, h2.symm⟩
/-- depths are the same, however reckoned -/
theorem dInv_one {C : dC} {ln nd n : Nat} {d e : Nat → Int} (hcn : ∀ j l : Nat, j < n → (l : Int) < C 51 0 j → (C 52 0 (5 * j + l)).toNat < j) (hnd : nd < ln) (I : dInv C ln nd n d) (J : dInv C ln nd n e) : ∀ j, j < n → d j = e j := by
  intro j
  induction j using Nat.strongRecOn with
  | ind j ih =>
    intro hj
    obtain ⟨a1, a2, a3, a4, a5⟩ := I j hj
    obtain ⟨b1, b2, b3, b4, b5⟩ := J j hj
    have k1 : d j ≤ e j := by
      rcases a5 with a5 | ⟨l, hl, a5⟩ | ⟨q, a5⟩
      · omega
      · have h1 := hcn j l hj hl
        have h2 := b3 l hl
        rw [← ih _ h1 (by omega)] at h2
        omega
      · have h2 := b4 q
        rw [← ih nd (by omega) (by omega)] at h2
        omega
    have k2 : e j ≤ d j := by
      rcases b5 with b5 | ⟨l, hl, b5⟩ | ⟨q, b5⟩
      · omega
      · have h1 := hcn j l hj hl
        have h2 := a3 l hl
        rw [ih _ h1 (by omega)] at h2
        omega
      · have h2 := a4 q
        rw [ih nd (by omega) (by omega)] at h2
        omega
    omega
section R8
variable {h : gH} {A : dA} {N zz : Nat → Nat} {S C C0 : dC} {P : dP}
set_option maxRecDepth 100000 in
set_option maxHeartbeats 4000000 in
theorem r_gd_inner {Qn : Int32 → gH → Prop} {k5 : gH → Nat → Int32 → Int32 → Int32 → Int32 → Prop} {v1 v2 v3 v4 : Int32} {n ln nd : Nat} (I : SI C0) (h1 : v1.toInt = (ln : Int)) (h2 : v2.toInt = (nd : Int)) (h4 : v4.toInt = (n : Int)) (hn : (n : Int) < C0 38 0 14) (hnd : nd < ln) (hln : ln < 20)
  (K : ∀ (w : Int32) (h' : gH) (C' : dC), D h' A N zz C' P → dInv C0 ln nd (n + 1) (C' 66 0) → mInv (n + 1) (C' 66 0) w.toInt → (∀ j i f : Nat, ¬ (j = 66) → C' j i f = C0 j i f) → k5 h' (A 38 0) v1 v2 w (v4 + 1)) :
  ∀ (m k : Nat) (h : gH) (C : dC) (v5 : Int32), D h A N zz C P → v5.toInt = (k : Int) → ((k + m : Nat) : Int) = C0 51 0 n → dInv C0 ln nd n (C 66 0) → mInv n (C 66 0) v3.toInt → pInv C0 n k (C 66 0) → (∀ j i f : Nat, ¬ (j = 66) → C j i f = C0 j i f) → vX12_greatestDepth_b25 k5 Qn (m + 1) h (A 38 0) v1 v2 v3 v4 v5 := by
  have i1 := I.nn
  have i2 := I.cm n (by omega)
  have hcn : ∀ j l : Nat, j < n → (l : Int) < C0 51 0 j → (C0 52 0 (5 * j + l)).toNat < j := fun j l hj hl => by
    have := I.cn j l (by omega) hl
    omega
  have fin : ∀ (h : gH) (C : dC) (C1 : dC) (P0 : Int), D h A N zz C1 P → dInv C0 ln nd n (C 66 0) → mInv n (C 66 0) v3.toInt → pInv C0 n (C0 51 0 n).toNat (C 66 0) → (∀ j i f : Nat, ¬ (j = 66) → C1 j i f = C0 j i f) → (∀ j, j < n → C1 66 0 j = C 66 0 j) → C1 66 0 n = P0 → ((n ≠ ln ∧ P0 = C 66 0 n) ∨ (n = ln ∧ C 66 0 nd + 1 ≤ C 66 0 n ∧ P0 = C 66 0 n) ∨ (n = ln ∧ C 66 0 n < C 66 0 nd + 1 ∧ P0 = C 66 0 nd + 1)) → ∀ w : Int32, (P0 ≤ v3.toInt ∧ w = v3) ∨ (v3.toInt < P0 ∧ w.toInt = P0) → k5 h (A 38 0) v1 v2 w (v4 + 1) := by
    intro h C C1 P0 R a1 a2 a3 fr hs hp hc w hw
    obtain ⟨p1, p2, p3, p4⟩ := a3
    have hnd1 : n = ln → C 66 0 nd ≤ (nd : Int) + 1 := fun e => (a1 nd (by omega)).2.1
    have q1 : 1 ≤ P0 := by omega
    have q2 : P0 ≤ (n : Int) + 1 := by omega
    refine K w h C1 R (dInv_step (k := (C0 51 0 n).toNat) a1 (by omega) (fun l hl => ?_) hcn hnd hs (by omega) (by omega) (fun l hl => ?_) (fun e => by omega) ?_) (mInv_step a2 hs (by omega) (by omega) ?_) fr
    · have := I.cn n l hn (by omega)
      omega
    · have := p3 l hl
      omega
    · rcases hc with ⟨c1, c2⟩ | ⟨c1, c2, c3⟩ | ⟨c1, c2, c3⟩
      · rcases p4 with p4 | ⟨l, hl, p4⟩
        · exact Or.inl (by omega)
        · exact Or.inr (Or.inl ⟨l, hl, by omega⟩)
      · rcases p4 with p4 | ⟨l, hl, p4⟩
        · exact Or.inl (by omega)
        · exact Or.inr (Or.inl ⟨l, hl, by omega⟩)
      · exact Or.inr (Or.inr ⟨c1, by omega⟩)
    · rcases hw with ⟨c1, rfl⟩ | ⟨c1, c2⟩ <;> omega
  have fin2 : ∀ (h : gH) (C C1 : dC) (P0 : Int), D h A N zz C1 P → dInv C0 ln nd n (C 66 0) → mInv n (C 66 0) v3.toInt → pInv C0 n (C0 51 0 n).toNat (C 66 0) → (∀ j i f : Nat, ¬ (j = 66) → C1 j i f = C0 j i f) → (∀ j, j < n → C1 66 0 j = C 66 0 j) → C1 66 0 n = P0 → ((n ≠ ln ∧ P0 = C 66 0 n) ∨ (n = ln ∧ C 66 0 nd + 1 ≤ C 66 0 n ∧ P0 = C 66 0 n) ∨ (n = ln ∧ C 66 0 n < C 66 0 nd + 1 ∧ P0 = C 66 0 nd + 1)) → ((gr h (A 38 0) 15 26 (fun r3 => nn r3 (fun a4 => li h a4 v4 (fun x5 => (((x5 : Int32) ≤ v3) → (vX12_greatestDepth_b166 k5 Qn h (A 38 0) v1 v2 v4 v3)) ∧ ((¬ (x5 : Int32) ≤ v3) → (gr h (A 38 0) 15 26 (fun r6 => nn r6 (fun a7 => li h a7 v4 (fun x8 => vX12_greatestDepth_b166 k5 Qn h (A 38 0) v1 v2 v4 x8)))))))))) := by
    intro h C C1 P0 R a1 a2 a3 fr hs hp hc
    unfold vX12_greatestDepth_b166
    repeat' (first | ((with_reducible show D _ _ _ _ _ _); with_reducible assumption) | ((with_reducible show ac _ _ _); first | (with_reducible assumption) | exact ⟨Nat.one_pos, by decide⟩ | (unfold ac; omega)) | ((with_reducible show isN _ _); first | exact isN_h (by with_reducible assumption) | with_reducible apply isN_dec | with_reducible apply isN_z | with_reducible apply isN_z2 | with_reducible apply isN_sub | with_reducible apply isN_add | with_reducible apply isN_mul | with_reducible exact isN_lit (by decide) | exact isN_nn (by with_reducible assumption) (by omega)) | ((with_reducible show isV _ _); first | exact isV_h (by with_reducible assumption) | with_reducible apply isV_add | with_reducible apply isV_sub | with_reducible apply isV_mul | with_reducible apply isV_neg | with_reducible apply isV_nar | with_reducible exact isV_lit (by decide) | exact isV_r _) | ((with_reducible show isW _ _); first | exact isW_h (by with_reducible assumption) | with_reducible apply isW_wid | with_reducible apply isW_add | with_reducible apply isW_sub | with_reducible apply isW_mul | with_reducible apply isW_div | with_reducible apply isW_neg | with_reducible exact isW_lit (by decide) | exact isW_r _) | ((with_reducible show dNlt _ _ _ _); (simp only [dNlt, dN, dR, Nat.reduceEqDiff, ↓reduceIte, if_false, Nat.reduceLT] <;> omega)) | ((with_reducible show le31 _); (unfold le31; omega)) | ((with_reducible show le63 _); (unfold le63; omega)) | ((with_reducible show lt31 _); (unfold lt31; omega)) | ((with_reducible show nLe _ _); (unfold nLe; omega)) | ((with_reducible show pos0 _); (unfold pos0; omega)) | ((with_reducible show posn _); (unfold posn; omega)) | ((with_reducible show isB _); (unfold isB; omega)) | ((with_reducible show lt408 _); (unfold lt408; omega)) | ((with_reducible show le63 _ ∧ le63 _); (unfold le63; omega)) | ((with_reducible show le31 _ ∧ le31 _); (unfold le31; omega)) | ((with_reducible show dK _ _ = _); rfl) | ((with_reducible show dK1 _ = _); rfl) | ((with_reducible show dK2 _ = _); rfl) | ((with_reducible show dS _ _ _ = _); rfl) | ((with_reducible show sta _ _ = _); rfl) | ((with_reducible show (_ : Nat) < 99); decide) | ((with_reducible show ∀ _ : Int32, _); (intro x9 h9; (try simp only [up3, eq_self, asb, Nat.add_zero, Nat.zero_add, Nat.reduceEqDiff, false_and, and_false, and_true, true_and, if_true, if_false, ↓reduceIte] at h9); (try replace h9 := st_at (by with_reducible assumption) h9 rfl))) | ((with_reducible show ∀ _ : Int64, _); (intro x9 h9; (try simp only [up3, eq_self, asb, Nat.add_zero, Nat.zero_add, Nat.reduceEqDiff, false_and, and_false, and_true, true_and, if_true, if_false, ↓reduceIte] at h9); (try replace h9 := st_at (by with_reducible assumption) h9 rfl))) | ((with_reducible show ∀ _ : gH, _); (intro h8 R9)) | ((with_reducible show gZ _ ∧ _); refine ⟨gZ_of (by first | decide | omega), ?_⟩) | ((with_reducible show (¬ (_ : Int64) = _) ∧ _); apply wdiv) | ((with_reducible show _ ∧ _); first | refine ⟨fun _ => ?_, fun c9 => absurd c9 (by decide)⟩ | refine ⟨fun c9 => absurd c9 (by decide), fun _ => ?_⟩ | ((refine ⟨fun c9 => ?_, fun c9 => ?_⟩) <;> (try simp only [fa_lt, fa_le, fa_eq, fa_lt64, fa_le64, fa_eq64, Int32.reduceToInt, Int64.reduceToInt, Int32.toInt_toInt64] at c9) <;> (try simp (disch := ((try simp only [Int32.reduceToInt, Int64.reduceToInt]); omega)) only [fb_addI, fb_subI, fb_mulI, fb_addL, fb_subL, Int32.reduceToInt, Int64.reduceToInt] at c9) <;> (first | (exfalso; omega) | skip))) | ((with_reducible show nn _ _); refine nn_i ?_) | ((with_reducible show io _ _ _ _); apply wio) | ((with_reducible show gr _ _ _ _ _); apply wgrs) | ((with_reducible show gi _ _ _ _ _); apply wgi) | ((with_reducible show gl _ _ _ _ _); apply wgl) | ((with_reducible show li _ _ _ _); apply wli) | ((with_reducible show lz _ _ _ _); apply wlz) | ((with_reducible show ll _ _ _ _); apply wll) | ((with_reducible show pv _ _ _ _ (.int _) _); apply wpvI) | ((with_reducible show pv _ _ _ _ (.long _) _); apply wpvL) | ((with_reducible show si _ _ _ _ _); apply wsi) | ((with_reducible show sz _ _ _ _ _); apply wsz) | ((with_reducible show sl _ _ _ _ _); apply wsl) | (intro h9; (try simp only [up3, eq_self, asb, Nat.add_zero, Nat.zero_add, Nat.reduceEqDiff, false_and, and_false, and_true, true_and, if_true, if_false, ↓reduceIte] at h9); (try replace h9 := st_at (by with_reducible assumption) h9 rfl)))
    · exact fin h C C1 P0 R a1 a2 a3 fr hs hp hc v3 (Or.inl ⟨by omega, rfl⟩)
    · exact fin h C C1 P0 R a1 a2 a3 fr hs hp hc _ (Or.inr ⟨by omega, by omega⟩)
  intro m
  induction m with
  | zero =>
    intro k h C v5 R h5 hk a1 a2 a3 fr
    show vX12_greatestDepth_b25_o k5 (vX12_greatestDepth_b25 k5 Qn 0) Qn _ _ _ _ _ _ _
    have hk' : k = (C0 51 0 n).toNat := by omega
    subst hk'
    have hcm : C 51 0 n = C0 51 0 n := fr 51 0 n (by omega)
    obtain ⟨p1, p2, p3, p4⟩ := id a3
    have hb : n = ln → C 66 0 nd ≤ 20 ∧ 1 ≤ C 66 0 nd := fun e => ⟨by have := (a1 nd (by omega)).2.1; omega, (a1 nd (by omega)).1⟩
    clear p4
    unfold vX12_greatestDepth_b25_o vX12_greatestDepth_b136 vX12_greatestDepth_b143
    repeat' (first | ((with_reducible show D _ _ _ _ _ _); with_reducible assumption) | ((with_reducible show ac _ _ _); first | (with_reducible assumption) | exact ⟨Nat.one_pos, by decide⟩ | (unfold ac; omega)) | ((with_reducible show isN _ _); first | exact isN_h (by with_reducible assumption) | with_reducible apply isN_dec | with_reducible apply isN_z | with_reducible apply isN_z2 | with_reducible apply isN_sub | with_reducible apply isN_add | with_reducible apply isN_mul | with_reducible exact isN_lit (by decide) | exact isN_nn (by with_reducible assumption) (by omega)) | ((with_reducible show isV _ _); first | exact isV_h (by with_reducible assumption) | with_reducible apply isV_add | with_reducible apply isV_sub | with_reducible apply isV_mul | with_reducible apply isV_neg | with_reducible apply isV_nar | with_reducible exact isV_lit (by decide) | exact isV_r _) | ((with_reducible show isW _ _); first | exact isW_h (by with_reducible assumption) | with_reducible apply isW_wid | with_reducible apply isW_add | with_reducible apply isW_sub | with_reducible apply isW_mul | with_reducible apply isW_div | with_reducible apply isW_neg | with_reducible exact isW_lit (by decide) | exact isW_r _) | ((with_reducible show dNlt _ _ _ _); (simp only [dNlt, dN, dR, Nat.reduceEqDiff, ↓reduceIte, if_false, Nat.reduceLT] <;> omega)) | ((with_reducible show le31 _); (unfold le31; omega)) | ((with_reducible show le63 _); (unfold le63; omega)) | ((with_reducible show lt31 _); (unfold lt31; omega)) | ((with_reducible show nLe _ _); (unfold nLe; omega)) | ((with_reducible show pos0 _); (unfold pos0; omega)) | ((with_reducible show posn _); (unfold posn; omega)) | ((with_reducible show isB _); (unfold isB; omega)) | ((with_reducible show lt408 _); (unfold lt408; omega)) | ((with_reducible show le63 _ ∧ le63 _); (unfold le63; omega)) | ((with_reducible show le31 _ ∧ le31 _); (unfold le31; omega)) | ((with_reducible show dK _ _ = _); rfl) | ((with_reducible show dK1 _ = _); rfl) | ((with_reducible show dK2 _ = _); rfl) | ((with_reducible show dS _ _ _ = _); rfl) | ((with_reducible show sta _ _ = _); rfl) | ((with_reducible show (_ : Nat) < 99); decide) | ((with_reducible show ∀ _ : Int32, _); (intro x9 h9; (try simp only [up3, eq_self, asb, Nat.add_zero, Nat.zero_add, Nat.reduceEqDiff, false_and, and_false, and_true, true_and, if_true, if_false, ↓reduceIte] at h9); (try replace h9 := st_at (by with_reducible assumption) h9 rfl))) | ((with_reducible show ∀ _ : Int64, _); (intro x9 h9; (try simp only [up3, eq_self, asb, Nat.add_zero, Nat.zero_add, Nat.reduceEqDiff, false_and, and_false, and_true, true_and, if_true, if_false, ↓reduceIte] at h9); (try replace h9 := st_at (by with_reducible assumption) h9 rfl))) | ((with_reducible show ∀ _ : gH, _); (intro h8 R9)) | ((with_reducible show gr _ _ _ _ _); (first | (refine fin2 _ C _ _ R9 a1 a2 a3 ?_ ?_ rfl ?_) | apply wgrs)) | ((with_reducible show gZ _ ∧ _); refine ⟨gZ_of (by first | decide | omega), ?_⟩) | ((with_reducible show (¬ (_ : Int64) = _) ∧ _); apply wdiv) | ((with_reducible show _ ∧ _); first | refine ⟨fun _ => ?_, fun c9 => absurd c9 (by decide)⟩ | refine ⟨fun c9 => absurd c9 (by decide), fun _ => ?_⟩ | ((refine ⟨fun c9 => ?_, fun c9 => ?_⟩) <;> (try simp only [fa_lt, fa_le, fa_eq, fa_lt64, fa_le64, fa_eq64, Int32.reduceToInt, Int64.reduceToInt, Int32.toInt_toInt64] at c9) <;> (try simp (disch := ((try simp only [Int32.reduceToInt, Int64.reduceToInt]); omega)) only [fb_addI, fb_subI, fb_mulI, fb_addL, fb_subL, Int32.reduceToInt, Int64.reduceToInt] at c9) <;> (first | (exfalso; omega) | skip))) | ((with_reducible show nn _ _); refine nn_i ?_) | ((with_reducible show io _ _ _ _); apply wio) | ((with_reducible show gr _ _ _ _ _); apply wgrs) | ((with_reducible show gi _ _ _ _ _); apply wgi) | ((with_reducible show gl _ _ _ _ _); apply wgl) | ((with_reducible show li _ _ _ _); apply wli) | ((with_reducible show lz _ _ _ _); apply wlz) | ((with_reducible show ll _ _ _ _); apply wll) | ((with_reducible show pv _ _ _ _ (.int _) _); apply wpvI) | ((with_reducible show pv _ _ _ _ (.long _) _); apply wpvL) | ((with_reducible show si _ _ _ _ _); apply wsi) | ((with_reducible show sz _ _ _ _ _); apply wsz) | ((with_reducible show sl _ _ _ _ _); apply wsl) | (intro h9; (try simp only [up3, eq_self, asb, Nat.add_zero, Nat.zero_add, Nat.reduceEqDiff, false_and, and_false, and_true, true_and, if_true, if_false, ↓reduceIte] at h9); (try replace h9 := st_at (by with_reducible assumption) h9 rfl)))
    all_goals first
      | (intro j hj; simp only [up3, eq_self, asb, Nat.add_zero, Nat.zero_add, Nat.reduceEqDiff, false_and, and_false, and_true, true_and, if_true, if_false, ↓reduceIte]; rw [if_neg (by omega)])
      | (simp only [up3, eq_self, asb, Nat.add_zero, Nat.zero_add, Nat.reduceEqDiff, false_and, and_false, and_true, true_and, if_true, if_false, ↓reduceIte]; omega)
      | (simp only [up3, eq_self, asb, Nat.add_zero, Nat.zero_add, Nat.reduceEqDiff, false_and, and_false, and_true, true_and, if_true, if_false, ↓reduceIte]; (repeat' split) <;> first | omega | exact fr _ _ _ (by omega))
  | succ m ih =>
    intro k h C v5 R h5 hk a1 a2 a3 fr
    show vX12_greatestDepth_b25_o k5 (vX12_greatestDepth_b25 k5 Qn (m + 1)) Qn _ _ _ _ _ _ _
    have hcm : C 51 0 n = C0 51 0 n := fr 51 0 n (by omega)
    have hch : C 52 0 (5 * n + k) = C0 52 0 (5 * n + k) := fr 52 0 _ (by omega)
    have r1 := I.cn n k hn (by omega)
    have r2 := a1 (C 52 0 (5 * n + k)).toNat (by omega)
    have r3 := r2.1
    have r4 := r2.2.1
    clear r2
    obtain ⟨p1, p2, p3, p4⟩ := id a3
    have nxt : ∀ (h : gH) (C1 : dC) (v : Int32), D h A N zz C1 P → v.toInt = ((k + 1 : Nat) : Int) → (∀ j i f : Nat, ¬ (j = 66) → C1 j i f = C0 j i f) → (∀ j, j < n → C1 66 0 j = C 66 0 j) → ((C 66 0 (C 52 0 (5 * n + k)).toNat + 1 ≤ C 66 0 n ∧ C1 66 0 n = C 66 0 n) ∨ (C 66 0 n < C 66 0 (C 52 0 (5 * n + k)).toNat + 1 ∧ C1 66 0 n = C 66 0 (C 52 0 (5 * n + k)).toNat + 1)) → vX12_greatestDepth_b25 k5 Qn (m + 1) h (A 38 0) v1 v2 v3 v4 v := by
      intro h C1 v R1 hv fr1 hs hc
      have hlt : ∀ l : Nat, l < k → (C0 52 0 (5 * n + l)).toNat < n := fun l hl => by
        have := I.cn n l hn (by omega)
        omega
      refine ih (k + 1) h C1 v R1 hv (by omega) (dInv_congr a1 hcn hnd hs) (mInv_congr a2 hs) ⟨by omega, by omega, fun l hl => ?_, ?_⟩ fr1
      · rcases Nat.lt_or_ge l k with z | z
        · rw [hs _ (hlt l z)]
          have := p3 l z
          omega
        · have e : l = k := by omega
          subst e
          rw [← hch, hs _ (by omega)]
          omega
      · rcases hc with ⟨c1, c2⟩ | ⟨c1, c2⟩
        · rw [c2]
          rcases p4 with p4 | ⟨l, hl, p4⟩
          · exact Or.inl p4
          · exact Or.inr ⟨l, by omega, by rw [hs _ (hlt l hl)]; exact p4⟩
        · exact Or.inr ⟨k, by omega, by rw [c2, ← hch, hs _ (by omega)]⟩
    clear p4
    unfold vX12_greatestDepth_b25_o vX12_greatestDepth_b88
    repeat' (first | ((with_reducible show D _ _ _ _ _ _); with_reducible assumption) | ((with_reducible show ac _ _ _); first | (with_reducible assumption) | exact ⟨Nat.one_pos, by decide⟩ | (unfold ac; omega)) | ((with_reducible show isN _ _); first | exact isN_h (by with_reducible assumption) | with_reducible apply isN_dec | with_reducible apply isN_z | with_reducible apply isN_z2 | with_reducible apply isN_sub | with_reducible apply isN_add | with_reducible apply isN_mul | with_reducible exact isN_lit (by decide) | exact isN_nn (by with_reducible assumption) (by omega)) | ((with_reducible show isV _ _); first | exact isV_h (by with_reducible assumption) | with_reducible apply isV_add | with_reducible apply isV_sub | with_reducible apply isV_mul | with_reducible apply isV_neg | with_reducible apply isV_nar | with_reducible exact isV_lit (by decide) | exact isV_r _) | ((with_reducible show isW _ _); first | exact isW_h (by with_reducible assumption) | with_reducible apply isW_wid | with_reducible apply isW_add | with_reducible apply isW_sub | with_reducible apply isW_mul | with_reducible apply isW_div | with_reducible apply isW_neg | with_reducible exact isW_lit (by decide) | exact isW_r _) | ((with_reducible show dNlt _ _ _ _); (simp only [dNlt, dN, dR, Nat.reduceEqDiff, ↓reduceIte, if_false, Nat.reduceLT] <;> omega)) | ((with_reducible show le31 _); (unfold le31; omega)) | ((with_reducible show le63 _); (unfold le63; omega)) | ((with_reducible show lt31 _); (unfold lt31; omega)) | ((with_reducible show nLe _ _); (unfold nLe; omega)) | ((with_reducible show pos0 _); (unfold pos0; omega)) | ((with_reducible show posn _); (unfold posn; omega)) | ((with_reducible show isB _); (unfold isB; omega)) | ((with_reducible show lt408 _); (unfold lt408; omega)) | ((with_reducible show le63 _ ∧ le63 _); (unfold le63; omega)) | ((with_reducible show le31 _ ∧ le31 _); (unfold le31; omega)) | ((with_reducible show dK _ _ = _); rfl) | ((with_reducible show dK1 _ = _); rfl) | ((with_reducible show dK2 _ = _); rfl) | ((with_reducible show dS _ _ _ = _); rfl) | ((with_reducible show sta _ _ = _); rfl) | ((with_reducible show (_ : Nat) < 99); decide) | ((with_reducible show ∀ _ : Int32, _); (intro x9 h9; (try simp only [up3, eq_self, asb, Nat.add_zero, Nat.zero_add, Nat.reduceEqDiff, false_and, and_false, and_true, true_and, if_true, if_false, ↓reduceIte] at h9); (try replace h9 := st_at (by with_reducible assumption) h9 rfl))) | ((with_reducible show ∀ _ : Int64, _); (intro x9 h9; (try simp only [up3, eq_self, asb, Nat.add_zero, Nat.zero_add, Nat.reduceEqDiff, false_and, and_false, and_true, true_and, if_true, if_false, ↓reduceIte] at h9); (try replace h9 := st_at (by with_reducible assumption) h9 rfl))) | ((with_reducible show ∀ _ : gH, _); (intro h8 R9)) | ((with_reducible show gZ _ ∧ _); refine ⟨gZ_of (by first | decide | omega), ?_⟩) | ((with_reducible show (¬ (_ : Int64) = _) ∧ _); apply wdiv) | ((with_reducible show _ ∧ _); first | refine ⟨fun _ => ?_, fun c9 => absurd c9 (by decide)⟩ | refine ⟨fun c9 => absurd c9 (by decide), fun _ => ?_⟩ | ((refine ⟨fun c9 => ?_, fun c9 => ?_⟩) <;> (try simp only [fa_lt, fa_le, fa_eq, fa_lt64, fa_le64, fa_eq64, Int32.reduceToInt, Int64.reduceToInt, Int32.toInt_toInt64] at c9) <;> (try simp (disch := ((try simp only [Int32.reduceToInt, Int64.reduceToInt]); omega)) only [fb_addI, fb_subI, fb_mulI, fb_addL, fb_subL, Int32.reduceToInt, Int64.reduceToInt] at c9) <;> (first | (exfalso; omega) | skip))) | ((with_reducible show nn _ _); refine nn_i ?_) | ((with_reducible show io _ _ _ _); apply wio) | ((with_reducible show gr _ _ _ _ _); apply wgrs) | ((with_reducible show gi _ _ _ _ _); apply wgi) | ((with_reducible show gl _ _ _ _ _); apply wgl) | ((with_reducible show li _ _ _ _); apply wli) | ((with_reducible show lz _ _ _ _); apply wlz) | ((with_reducible show ll _ _ _ _); apply wll) | ((with_reducible show pv _ _ _ _ (.int _) _); apply wpvI) | ((with_reducible show pv _ _ _ _ (.long _) _); apply wpvL) | ((with_reducible show si _ _ _ _ _); apply wsi) | ((with_reducible show sz _ _ _ _ _); apply wsz) | ((with_reducible show sl _ _ _ _ _); apply wsl) | (intro h9; (try simp only [up3, eq_self, asb, Nat.add_zero, Nat.zero_add, Nat.reduceEqDiff, false_and, and_false, and_true, true_and, if_true, if_false, ↓reduceIte] at h9); (try replace h9 := st_at (by with_reducible assumption) h9 rfl)))
    all_goals refine nxt _ _ _ (by with_reducible assumption) (ix_add h5 (ix_lit (by decide)) (by omega)) ?_ ?_ ?_
    all_goals first
      | (intro j hj; simp only [up3, eq_self, asb, Nat.add_zero, Nat.zero_add, Nat.reduceEqDiff, false_and, and_false, and_true, true_and, if_true, if_false, ↓reduceIte]; rw [if_neg (by omega)]; done)
      | (simp only [up3, eq_self, asb, Nat.add_zero, Nat.zero_add, Nat.reduceEqDiff, false_and, and_false, and_true, true_and, if_true, if_false, ↓reduceIte]; omega)
      | (intro j9 i9 f9 n9; simp only [up3, eq_self, asb, Nat.add_zero, Nat.zero_add, Nat.reduceEqDiff, false_and, and_false, and_true, true_and, if_true, if_false, ↓reduceIte]; (repeat' split) <;> first | omega | exact fr _ _ _ (by omega))
theorem r_gd_outer {Qn : Int32 → gH → Prop} {v1 v2 : Int32} {ln nd : Nat} (I : SI C0) (h1 : v1.toInt = (ln : Int)) (h2 : v2.toInt = (nd : Int)) (hnd : nd < ln) (hln : (ln : Int) < C0 38 0 14)
  (K : ∀ (w : Int32) (h' : gH) (C' : dC) (d : Nat → Int), D h' A N zz C' P → dInv C0 ln nd (C0 38 0 14).toNat d → mInv (C0 38 0 14).toNat d w.toInt → (∀ j i f : Nat, ¬ (j = 66) → C' j i f = C0 j i f) → Qn w h') :
  ∀ (m n : Nat) (h : gH) (C : dC) (v3 v4 : Int32), D h A N zz C P → v4.toInt = (n : Int) → ((n + m : Nat) : Int) = C0 38 0 14 → dInv C0 ln nd n (C 66 0) → mInv n (C 66 0) v3.toInt → (∀ j i f : Nat, ¬ (j = 66) → C j i f = C0 j i f) → vX12_greatestDepth_b5 Qn (m + 1) h (A 38 0) v1 v2 v3 v4 := by
  have i1 := I.nn
  intro m
  induction m with
  | zero =>
    intro n h C v3 v4 R h4 hk a1 a2 fr
    show vX12_greatestDepth_b5_o (vX12_greatestDepth_b5 Qn 0) Qn _ _ _ _ _ _; unfold vX12_greatestDepth_b5_o
    have hcm : C 38 0 14 = C0 38 0 14 := fr 38 0 14 (by omega)
    repeat' (first | ((with_reducible show D _ _ _ _ _ _); with_reducible assumption) | ((with_reducible show ac _ _ _); first | (with_reducible assumption) | exact ⟨Nat.one_pos, by decide⟩ | (unfold ac; omega)) | ((with_reducible show isN _ _); first | exact isN_h (by with_reducible assumption) | with_reducible apply isN_dec | with_reducible apply isN_z | with_reducible apply isN_z2 | with_reducible apply isN_sub | with_reducible apply isN_add | with_reducible apply isN_mul | with_reducible exact isN_lit (by decide) | exact isN_nn (by with_reducible assumption) (by omega)) | ((with_reducible show isV _ _); first | exact isV_h (by with_reducible assumption) | with_reducible apply isV_add | with_reducible apply isV_sub | with_reducible apply isV_mul | with_reducible apply isV_neg | with_reducible apply isV_nar | with_reducible exact isV_lit (by decide) | exact isV_r _) | ((with_reducible show isW _ _); first | exact isW_h (by with_reducible assumption) | with_reducible apply isW_wid | with_reducible apply isW_add | with_reducible apply isW_sub | with_reducible apply isW_mul | with_reducible apply isW_div | with_reducible apply isW_neg | with_reducible exact isW_lit (by decide) | exact isW_r _) | ((with_reducible show dNlt _ _ _ _); (simp only [dNlt, dN, dR, Nat.reduceEqDiff, ↓reduceIte, if_false, Nat.reduceLT] <;> omega)) | ((with_reducible show le31 _); (unfold le31; omega)) | ((with_reducible show le63 _); (unfold le63; omega)) | ((with_reducible show lt31 _); (unfold lt31; omega)) | ((with_reducible show nLe _ _); (unfold nLe; omega)) | ((with_reducible show pos0 _); (unfold pos0; omega)) | ((with_reducible show posn _); (unfold posn; omega)) | ((with_reducible show isB _); (unfold isB; omega)) | ((with_reducible show lt408 _); (unfold lt408; omega)) | ((with_reducible show le63 _ ∧ le63 _); (unfold le63; omega)) | ((with_reducible show le31 _ ∧ le31 _); (unfold le31; omega)) | ((with_reducible show dK _ _ = _); rfl) | ((with_reducible show dK1 _ = _); rfl) | ((with_reducible show dK2 _ = _); rfl) | ((with_reducible show dS _ _ _ = _); rfl) | ((with_reducible show sta _ _ = _); rfl) | ((with_reducible show (_ : Nat) < 99); decide) | ((with_reducible show ∀ _ : Int32, _); (intro x9 h9; (try simp only [up3, eq_self, asb, Nat.add_zero, Nat.zero_add, Nat.reduceEqDiff, false_and, and_false, and_true, true_and, if_true, if_false, ↓reduceIte] at h9); (try replace h9 := st_at (by with_reducible assumption) h9 rfl))) | ((with_reducible show ∀ _ : Int64, _); (intro x9 h9; (try simp only [up3, eq_self, asb, Nat.add_zero, Nat.zero_add, Nat.reduceEqDiff, false_and, and_false, and_true, true_and, if_true, if_false, ↓reduceIte] at h9); (try replace h9 := st_at (by with_reducible assumption) h9 rfl))) | ((with_reducible show ∀ _ : gH, _); (intro h8 R9)) | ((with_reducible show gZ _ ∧ _); refine ⟨gZ_of (by first | decide | omega), ?_⟩) | ((with_reducible show (¬ (_ : Int64) = _) ∧ _); apply wdiv) | ((with_reducible show _ ∧ _); first | refine ⟨fun _ => ?_, fun c9 => absurd c9 (by decide)⟩ | refine ⟨fun c9 => absurd c9 (by decide), fun _ => ?_⟩ | ((refine ⟨fun c9 => ?_, fun c9 => ?_⟩) <;> (try simp only [fa_lt, fa_le, fa_eq, fa_lt64, fa_le64, fa_eq64, Int32.reduceToInt, Int64.reduceToInt, Int32.toInt_toInt64] at c9) <;> (try simp (disch := ((try simp only [Int32.reduceToInt, Int64.reduceToInt]); omega)) only [fb_addI, fb_subI, fb_mulI, fb_addL, fb_subL, Int32.reduceToInt, Int64.reduceToInt] at c9) <;> (first | (exfalso; omega) | skip))) | ((with_reducible show nn _ _); refine nn_i ?_) | ((with_reducible show io _ _ _ _); apply wio) | ((with_reducible show gr _ _ _ _ _); apply wgrs) | ((with_reducible show gi _ _ _ _ _); apply wgi) | ((with_reducible show gl _ _ _ _ _); apply wgl) | ((with_reducible show li _ _ _ _); apply wli) | ((with_reducible show lz _ _ _ _); apply wlz) | ((with_reducible show ll _ _ _ _); apply wll) | ((with_reducible show pv _ _ _ _ (.int _) _); apply wpvI) | ((with_reducible show pv _ _ _ _ (.long _) _); apply wpvL) | ((with_reducible show si _ _ _ _ _); apply wsi) | ((with_reducible show sz _ _ _ _ _); apply wsz) | ((with_reducible show sl _ _ _ _ _); apply wsl) | (intro h9; (try simp only [up3, eq_self, asb, Nat.add_zero, Nat.zero_add, Nat.reduceEqDiff, false_and, and_false, and_true, true_and, if_true, if_false, ↓reduceIte] at h9); (try replace h9 := st_at (by with_reducible assumption) h9 rfl)))
    have e : n = (C0 38 0 14).toNat := by omega
    subst e
    exact K v3 h C (C 66 0) R a1 a2 fr
  | succ m ih =>
    intro n h C v3 v4 R h4 hk a1 a2 fr
    show vX12_greatestDepth_b5_o (vX12_greatestDepth_b5 Qn (m + 1)) Qn _ _ _ _ _ _; unfold vX12_greatestDepth_b5_o
    have hcm : C 38 0 14 = C0 38 0 14 := fr 38 0 14 (by omega)
    have i2 := I.cm n (by omega)
    repeat' (first | ((with_reducible show D _ _ _ _ _ _); with_reducible assumption) | ((with_reducible show ac _ _ _); first | (with_reducible assumption) | exact ⟨Nat.one_pos, by decide⟩ | (unfold ac; omega)) | ((with_reducible show isN _ _); first | exact isN_h (by with_reducible assumption) | with_reducible apply isN_dec | with_reducible apply isN_z | with_reducible apply isN_z2 | with_reducible apply isN_sub | with_reducible apply isN_add | with_reducible apply isN_mul | with_reducible exact isN_lit (by decide) | exact isN_nn (by with_reducible assumption) (by omega)) | ((with_reducible show isV _ _); first | exact isV_h (by with_reducible assumption) | with_reducible apply isV_add | with_reducible apply isV_sub | with_reducible apply isV_mul | with_reducible apply isV_neg | with_reducible apply isV_nar | with_reducible exact isV_lit (by decide) | exact isV_r _) | ((with_reducible show isW _ _); first | exact isW_h (by with_reducible assumption) | with_reducible apply isW_wid | with_reducible apply isW_add | with_reducible apply isW_sub | with_reducible apply isW_mul | with_reducible apply isW_div | with_reducible apply isW_neg | with_reducible exact isW_lit (by decide) | exact isW_r _) | ((with_reducible show dNlt _ _ _ _); (simp only [dNlt, dN, dR, Nat.reduceEqDiff, ↓reduceIte, if_false, Nat.reduceLT] <;> omega)) | ((with_reducible show le31 _); (unfold le31; omega)) | ((with_reducible show le63 _); (unfold le63; omega)) | ((with_reducible show lt31 _); (unfold lt31; omega)) | ((with_reducible show nLe _ _); (unfold nLe; omega)) | ((with_reducible show pos0 _); (unfold pos0; omega)) | ((with_reducible show posn _); (unfold posn; omega)) | ((with_reducible show isB _); (unfold isB; omega)) | ((with_reducible show lt408 _); (unfold lt408; omega)) | ((with_reducible show le63 _ ∧ le63 _); (unfold le63; omega)) | ((with_reducible show le31 _ ∧ le31 _); (unfold le31; omega)) | ((with_reducible show dK _ _ = _); rfl) | ((with_reducible show dK1 _ = _); rfl) | ((with_reducible show dK2 _ = _); rfl) | ((with_reducible show dS _ _ _ = _); rfl) | ((with_reducible show sta _ _ = _); rfl) | ((with_reducible show (_ : Nat) < 99); decide) | ((with_reducible show ∀ _ : Int32, _); (intro x9 h9; (try simp only [up3, eq_self, asb, Nat.add_zero, Nat.zero_add, Nat.reduceEqDiff, false_and, and_false, and_true, true_and, if_true, if_false, ↓reduceIte] at h9); (try replace h9 := st_at (by with_reducible assumption) h9 rfl))) | ((with_reducible show ∀ _ : Int64, _); (intro x9 h9; (try simp only [up3, eq_self, asb, Nat.add_zero, Nat.zero_add, Nat.reduceEqDiff, false_and, and_false, and_true, true_and, if_true, if_false, ↓reduceIte] at h9); (try replace h9 := st_at (by with_reducible assumption) h9 rfl))) | ((with_reducible show ∀ _ : gH, _); (intro h8 R9)) | ((with_reducible show gZ _ ∧ _); refine ⟨gZ_of (by first | decide | omega), ?_⟩) | ((with_reducible show (¬ (_ : Int64) = _) ∧ _); apply wdiv) | ((with_reducible show _ ∧ _); first | refine ⟨fun _ => ?_, fun c9 => absurd c9 (by decide)⟩ | refine ⟨fun c9 => absurd c9 (by decide), fun _ => ?_⟩ | ((refine ⟨fun c9 => ?_, fun c9 => ?_⟩) <;> (try simp only [fa_lt, fa_le, fa_eq, fa_lt64, fa_le64, fa_eq64, Int32.reduceToInt, Int64.reduceToInt, Int32.toInt_toInt64] at c9) <;> (try simp (disch := ((try simp only [Int32.reduceToInt, Int64.reduceToInt]); omega)) only [fb_addI, fb_subI, fb_mulI, fb_addL, fb_subL, Int32.reduceToInt, Int64.reduceToInt] at c9) <;> (first | (exfalso; omega) | skip))) | ((with_reducible show nn _ _); refine nn_i ?_) | ((with_reducible show io _ _ _ _); apply wio) | ((with_reducible show gr _ _ _ _ _); apply wgrs) | ((with_reducible show gi _ _ _ _ _); apply wgi) | ((with_reducible show gl _ _ _ _ _); apply wgl) | ((with_reducible show li _ _ _ _); apply wli) | ((with_reducible show lz _ _ _ _); apply wlz) | ((with_reducible show ll _ _ _ _); apply wll) | ((with_reducible show pv _ _ _ _ (.int _) _); apply wpvI) | ((with_reducible show pv _ _ _ _ (.long _) _); apply wpvL) | ((with_reducible show si _ _ _ _ _); apply wsi) | ((with_reducible show sz _ _ _ _ _); apply wsz) | ((with_reducible show sl _ _ _ _ _); apply wsl) | (intro h9; (try simp only [up3, eq_self, asb, Nat.add_zero, Nat.zero_add, Nat.reduceEqDiff, false_and, and_false, and_true, true_and, if_true, if_false, ↓reduceIte] at h9); (try replace h9 := st_at (by with_reducible assumption) h9 rfl)))
    have hs : ∀ j, j < n → up3 C 66 0 n 1 66 0 j = C 66 0 j := fun j hj => by simp only [up3, eq_self, asb, Nat.add_zero, Nat.zero_add, Nat.reduceEqDiff, false_and, and_false, and_true, true_and, if_true, if_false, ↓reduceIte]; rw [if_neg (by omega)]
    refine ⟨_, r_gd_inner I h1 h2 h4 (by omega) hnd (by omega) ?_ (C0 51 0 n).toNat 0 _ _ 0 R9 (by decide) (by omega) (dInv_congr a1 (fun j l hj hl => ?_) hnd hs) (mInv_congr a2 hs) ⟨?_, ?_, fun l hl => absurd hl (by omega), Or.inl ?_⟩ ?_⟩
    · intro w h' C' R' b1 b2 fr'
      exact ih (n + 1) h' C' w _ R' (ix_add h4 (ix_lit (by decide)) (by omega)) (by omega) b1 b2 fr'
    · have := I.cn j l (by omega) hl
      omega
    · simp only [up3, eq_self, asb, Nat.add_zero, Nat.zero_add, Nat.reduceEqDiff, false_and, and_false, and_true, true_and, if_true, if_false, ↓reduceIte]; omega
    · simp only [up3, eq_self, asb, Nat.add_zero, Nat.zero_add, Nat.reduceEqDiff, false_and, and_false, and_true, true_and, if_true, if_false, ↓reduceIte]; omega
    · simp only [up3, eq_self, asb, Nat.add_zero, Nat.zero_add, Nat.reduceEqDiff, false_and, and_false, and_true, true_and, if_true, if_false, ↓reduceIte]
    · intro j9 i9 f9 n9; simp only [up3, eq_self, asb, Nat.add_zero, Nat.zero_add, Nat.reduceEqDiff, false_and, and_false, and_true, true_and, if_true, if_false, ↓reduceIte]; (repeat' split) <;> first | omega | exact fr _ _ _ (by omega)
theorem r_greatestDepth {Qn : Int32 → gH → Prop} {v1 v2 : Int32} {ln nd : Nat} (R : D h A N zz C P) (I : SI C) (h1 : v1.toInt = (ln : Int)) (h2 : v2.toInt = (nd : Int)) (hnd : nd < ln) (hln : (ln : Int) < C 38 0 14)
  (K : ∀ (w : Int32) (h' : gH) (C' : dC) (d : Nat → Int), D h' A N zz C' P → dInv C ln nd (C 38 0 14).toNat d → mInv (C 38 0 14).toNat d w.toInt → (∀ j i f : Nat, ¬ (j = 66) → C' j i f = C j i f) → Qn w h') : vX12_greatestDepth Qn h (A 38 0) v1 v2 := by
  have i1 := I.nn
  unfold vX12_greatestDepth
  exact ⟨(C 38 0 14).toNat + 1, r_gd_outer I h1 h2 hnd hln K (C 38 0 14).toNat 0 h C 0 0 R rfl (by omega) (fun j hj => absurd hj (by omega)) ⟨by decide, by decide, fun j hj => absurd hj (by omega), Or.inl (by decide)⟩ (fun _ _ _ _ => rfl)⟩
end R8
