/-! ===== what the law builds ===== -/
theorem and_three (x : Int32) : 0 ≤ (x &&& 3).toInt ∧ (x &&& 3).toInt ≤ 3 := by
  rw [pk_and x 2 (by decide)]
  have h : x.toBitVec.toNat % 2 ^ 2 < 4 := Nat.mod_lt _ (by decide)
  generalize x.toBitVec.toNat % 2 ^ 2 = j at h ⊢
  have e : (nI j).toInt = (j : Int) := Int32.toInt_ofNat_of_lt (Nat.lt_trans h (by decide))
  rw [e]
  omega
theorem nodeep {S : dC} (I : SI S) {ln nd : Nat} (hn : S 38 0 14 ≤ 6) (h0 : ∀ j : Nat, j < 4 → S 51 0 j = 0) (hln : 4 ≤ ln) (hnd : nd < ln) (hlt : (ln : Int) < S 38 0 14) : ¬ deep S ln nd := by
  rintro ⟨d, D, n, hn2, hd⟩
  have i1 := I.nn
  have c1 : ∀ j : Nat, j < 4 → j < (S 38 0 14).toNat → d j ≤ 1 := fun j hj hN => by
    obtain ⟨-, -, -, -, z | ⟨k, k1, k2⟩ | z⟩ := D j hN
    · omega
    · have := h0 j hj; omega
    · omega
  have c4 : 4 < (S 38 0 14).toNat → d 4 ≤ 2 := fun hN => by
    obtain ⟨-, -, -, -, z | ⟨k, k1, k2⟩ | ⟨z, z2⟩⟩ := D 4 hN
    · omega
    · have q := I.cn 4 k (by omega) k1
      have := c1 (S 52 0 (5 * 4 + k)).toNat (by omega) (by omega)
      omega
    · have := c1 nd (by omega) (by omega)
      omega
  have c5 : 5 < (S 38 0 14).toNat → d 5 ≤ 3 := fun hN => by
    have l4 : ∀ j : Nat, j < 5 → d j ≤ 2 := fun j hj => by
      by_cases z : j = 4
      · rw [z]; exact c4 (by omega)
      · have := c1 j (by omega) (by omega)
        omega
    obtain ⟨-, -, -, -, z | ⟨k, k1, k2⟩ | ⟨z, z2⟩⟩ := D 5 hN
    · omega
    · have q := I.cn 5 k (by omega) k1
      have := l4 (S 52 0 (5 * 5 + k)).toNat (by omega)
      omega
    · have := l4 nd (by omega)
      omega
  have h6 : n < 6 := by omega
  rcases Nat.lt_or_ge n 4 with z | z
  · have := c1 n z hn2
    omega
  · by_cases z4 : n = 4
    · subst z4
      have := c4 hn2
      omega
    · have z5 : n = 5 := by omega
      subst z5
      have := c5 hn2
      omega
def PK (S : dC) : Prop := SI S ∧ S 38 0 3 = 3 ∧ S 42 0 0 = 0 ∧ S 42 0 1 = 1 ∧ S 42 0 2 = 2
theorem PK.mv {S S' : dC} (p : PK S) (I : SI S') (f : ∀ j f : Nat, (j = 38 ∧ f = 3) ∨ j = 42 → S' j 0 f = S j 0 f) : PK S' := ⟨I, (f 38 3 (by omega)).trans p.2.1, (f 42 0 (by omega)).trans p.2.2.1, (f 42 1 (by omega)).trans p.2.2.2.1, (f 42 2 (by omega)).trans p.2.2.2.2⟩
/-- k clips are there, with their nodes -/
def CLP (k : Nat) (S : dC) (E : Nat → Int) : Prop := PK S ∧ S 38 0 8 = (k : Int) ∧ S 38 0 14 = (k : Int) ∧ S 38 0 19 = 0 ∧ S 38 0 21 = 0 ∧ (∀ c : Nat, c < k → E c = S 44 0 c ∧ S 49 0 c = (c : Int)) ∧ (∀ c : Nat, k ≤ c → S 45 0 c = 0) ∧ (∀ n : Nat, S 51 0 n = 0)
/-- clip k is there, with m events, without its node -/
def EVP (k m : Nat) (S : dC) (E : Nat → Int) : Prop := PK S ∧ S 38 0 8 = (k : Int) + 1 ∧ S 38 0 14 = (k : Int) ∧ S 38 0 19 = 0 ∧ S 38 0 21 = 0 ∧ (∀ c : Nat, c < k → E c = S 44 0 c ∧ S 49 0 c = (c : Int)) ∧ E k = S 44 0 k ∧ S 45 0 k = (m : Int) ∧ (∀ c : Nat, k < c → S 45 0 c = 0) ∧ (∀ n : Nat, S 51 0 n = 0)
/-- the trees are there, k states, n transitions -/
def TRP (k n : Nat) (S : dC) (E : Nat → Int) : Prop := PK S ∧ S 38 0 8 = 4 ∧ S 38 0 14 = 6 ∧ (∀ c : Nat, c < 4 → E c = S 44 0 c ∧ S 49 0 c = (c : Int)) ∧ (S 49 0 5 = -1 ∧ 0 < S 51 0 4 ∧ 0 < S 51 0 5 ∧ S 53 0 25 = -100) ∧ S 38 0 19 = (k : Int) ∧ S 38 0 21 = (n : Int) ∧ ∀ t : Nat, t < n → E (10 + t) = S 60 0 (17 * t + 2)
theorem TRP.mv {k n k' n' : Nat} {S S' : dC} {E : Nat → Int} (p : TRP k n S E) (I : SI S') (f : ∀ j f : Nat, (j = 38 ∧ (f = 3 ∨ f = 8 ∨ f = 14)) ∨ j = 42 ∨ j = 44 ∨ j = 49 ∨ j = 51 ∨ j = 53 → S' j 0 f = S j 0 f) (h1 : S' 38 0 19 = (k' : Int)) (h2 : S' 38 0 21 = (n' : Int)) (h3 : ∀ t : Nat, t < n' → E (10 + t) = S' 60 0 (17 * t + 2)) : TRP k' n' S' E := by
  obtain ⟨p1, p2, p3, p4, ⟨p5, p6, p7, p8⟩, -, -, -⟩ := p
  exact ⟨p1.mv I (fun j g z => f j g (by omega)), (f 38 8 (by omega)).trans p2, (f 38 14 (by omega)).trans p3, fun c hc => ⟨(p4 c hc).1.trans (f 44 c (by omega)).symm, (f 49 c (by omega)).trans (p4 c hc).2⟩, ⟨(f 49 5 (by omega)).trans p5, by rw [f 51 4 (by omega)]; exact p6, by rw [f 51 5 (by omega)]; exact p7, (f 53 25 (by omega)).trans p8⟩, h1, h2, h3⟩
section BLD
variable {h h' : gH} {S : dC} {E : Nat → Int} {t0 x ea : Nat}
variable {Qv : gH → Prop} {v w : Int32}
theorem w_cell {Qn : Int32 → gH → Prop} (hv : 0 ≤ v.toInt) (k0 : ∀ y : Int32, Qn y h) : vL_cell t0 Qn h v := ⟨hv, k0⟩
/-- a transition's rest: timing, interruption, condition -/
theorem b_550 {k326 : gH → Option Nat → Option Nat → Int32 → Prop} {v4 : Int32} {n : Nat} (W : WB t0 x ea S E h) (p : TRP 4 (n + 1) S E) (K : ∀ (S' : dC) (h' : gH), TRP 4 (n + 1) S' E → WB t0 x ea S' E h' → k326 h' (some x) (some ea) (v4 + 1)) : vL_builds_b550 t0 k326 Qv h (some x) (some ea) v4 := K S h p W
theorem b_546 {k326 : gH → Option Nat → Option Nat → Int32 → Prop} {v4 s0 s1 s2 : Int32} {n q : Nat} (W : WB t0 x ea S E h) (p : TRP 4 (n + 1) S E) (h4 : v4.toInt = (n : Int)) (hq : s2.toInt = (q : Int)) (hq3 : q < 3) (hz : S 60 0 (17 * n + 7) = 0) (hc : cnd (S 42 0 q) s1.toInt s0.toInt) (ho : 0 ≤ s1.toInt ∧ s1.toInt ≤ 3) (K : ∀ (S' : dC) (h' : gH), TRP 4 (n + 1) S' E → WB t0 x ea S' E h' → k326 h' (some x) (some ea) (v4 + 1)) : vL_builds_b546 t0 k326 Qv h (some x) (some ea) v4 s0 s1 s2 v4 (some x) := by
  unfold vL_builds_b546
  have n3 := p.1.2.1
  have nt := p.2.2.2.2.2.2.1
  refine nn_i (w_acond W p.1.1 h4 (by omega) hq (by omega) hc ho hz (fun y h1 S' I' f' W1 => ?_))
  exact b_550 W1 (p.mv I' (fun j f z => f' j f (by omega)) ((f' 38 19 (by omega)).trans p.2.2.2.2.2.1) ((f' 38 21 (by omega)).trans nt) (fun t ht => (p.2.2.2.2.2.2.2 t ht).trans (f' 60 _ (by omega)).symm)) K
theorem b_480 {k326 : gH → Option Nat → Option Nat → Int32 → Prop} {v4 v5 s0 s1 : Int32} {n : Nat} (W : WB t0 x ea S E h) (p : TRP 4 (n + 1) S E) (h4 : v4.toInt = (n : Int)) (hz : S 60 0 (17 * n + 7) = 0) (h1 : 0 ≤ s1.toInt ∧ s1.toInt ≤ 4) (h0 : s0.toInt = 0 ∨ s0.toInt = 1) (K : ∀ (S' : dC) (h' : gH), TRP 4 (n + 1) S' E → WB t0 x ea S' E h' → k326 h' (some x) (some ea) (v4 + 1)) : vL_builds_b480 t0 k326 Qv h (some x) (some ea) v4 v5 s0 s1 v4 (some x) := by
  unfold vL_builds_b480
  have nt := p.2.2.2.2.2.2.1
  refine nn_i (w_sintr W p.1.1 h4 (by omega) h1 h0 (fun y h2 S1 I1 f1 W1 => ?_))
  have p1 : TRP 4 (n + 1) S1 E := p.mv I1 (fun j f z => f1 j f (by omega)) ((f1 38 19 (by omega)).trans p.2.2.2.2.2.1) ((f1 38 21 (by omega)).trans nt) (fun t ht => (p.2.2.2.2.2.2.2 t ht).trans (f1 60 _ (by omega)).symm)
  have hz1 : S1 60 0 (17 * n + 7) = 0 := (f1 60 _ (by omega)).trans hz
  obtain ⟨-, -, k0, k1, k2⟩ := p1.1
  refine w_low (c := 4) (vl (by decide)) (by decide) (fun yk a b => ?_)
  refine cle32 (vl (by decide)) rfl (fun _ => b_550 W1 p1 K) (fun z => ?_)
  have hz3 : yk.toInt < 3 := by omega
  obtain ⟨q, hq⟩ : ∃ q : Nat, yk.toInt = (q : Int) := ⟨yk.toInt.toNat, by omega⟩
  unfold vL_builds_b524
  refine cne32 hq (vl (by decide)) (fun c => ?_) (fun c => ?_)
  · refine cne32 hq (vl (by decide)) (fun _ => ?_) (fun c2 => absurd c2 c)
    refine b_546 W1 p1 h4 hq (by omega) hz1 ?_ (by decide) K
    unfold cnd
    have d : q = 1 ∨ q = 2 := by omega
    rcases d with d | d <;> subst d <;> first | (rw [k1]; decide) | (rw [k2]; decide)
  · refine w_low (c := 4) (vl (by decide)) (by decide) (fun yo a1 b1 => ?_)
    refine cne32 hq (vl (by decide)) (fun c2 => absurd c c2) (fun _ => ?_)
    refine w_low (c := 41) (vl (by decide)) (by decide) (fun yv a2 b2 => ?_)
    have e20 : (yv - 20).toInt = yv.toInt - 20 := sub_ti rfl (vl (by decide)) (by omega)
    refine b_546 W1 p1 h4 hq (by omega) hz1 ?_ (by omega) K
    have q0 : q = 0 := by omega
    subst q0
    unfold cnd
    rw [k0, e20]
    omega
theorem b_438 {k326 : gH → Option Nat → Option Nat → Int32 → Prop} {v4 v5 s0 : Int32} {n : Nat} (W : WB t0 x ea S E h) (p : TRP 4 (n + 1) S E) (h4 : v4.toInt = (n : Int)) (hz : S 60 0 (17 * n + 7) = 0) (h0 : -1 ≤ s0.toInt ∧ s0.toInt ≤ 300) (he : s0.toInt = -1 ∨ S 60 0 (17 * n) ≠ -1) (K : ∀ (S' : dC) (h' : gH), TRP 4 (n + 1) S' E → WB t0 x ea S' E h' → k326 h' (some x) (some ea) (v4 + 1)) : vL_builds_b438 t0 k326 Qv h (some x) (some ea) v4 v5 s0 v4 (some x) := by
  unfold vL_builds_b438
  have nt := p.2.2.2.2.2.2.1
  refine w_low (c := 100) (vl (by decide)) (by decide) (fun ys a b => ?_)
  refine nn_i (w_stime W p.1.1 h4 (by omega) h0 ⟨a, by omega⟩ he (fun y h2 S1 I1 f1 W1 => ?_))
  have p1 : TRP 4 (n + 1) S1 E := p.mv I1 (fun j f z => f1 j f (by omega)) ((f1 38 19 (by omega)).trans p.2.2.2.2.2.1) ((f1 38 21 (by omega)).trans nt) (fun t ht => (p.2.2.2.2.2.2.2 t ht).trans (f1 60 _ (by omega)).symm)
  have hz1 : S1 60 0 (17 * n + 7) = 0 := (f1 60 _ (by omega)).trans hz
  refine w_low (c := 5) (vl (by decide)) (by decide) (fun ym a1 b1 => ?_)
  exact ⟨fun _ => b_480 W1 p1 h4 hz1 ⟨a1, by omega⟩ (Or.inl (by decide)) K, fun _ => b_480 W1 p1 h4 hz1 ⟨a1, by omega⟩ (Or.inr (by decide)) K⟩
theorem b_364 {k326 : gH → Option Nat → Option Nat → Int32 → Prop} {v4 v5 s0 : Int32} {n : Nat} (W : WB t0 x ea S E h) (p : TRP 4 n S E) (hn : n < 10) (h4 : v4.toInt = (n : Int)) (h0 : -1 ≤ s0.toInt ∧ s0.toInt ≤ 3) (K : ∀ (S' : dC) (E' : Nat → Int) (h' : gH), E' 40 = E 40 → TRP 4 (n + 1) S' E' → WB t0 x ea S' E' h' → k326 h' (some x) (some ea) (v4 + 1)) : vL_builds_b364 t0 k326 Qv h (some x) (some ea) v4 v5 s0 := by
  unfold vL_builds_b364
  have ns := p.2.2.2.2.2.1
  have nt := p.2.2.2.2.2.2.1
  have e10 : (10 + v4).toInt = ((10 + n : Nat) : Int) := (add_ti (vl (by decide)) h4 (by omega)).trans (by omega)
  refine w_low (c := 9) (vl (by decide)) (by decide) (fun yd a b => nn_i ?_)
  refine w_esi W e10 (by omega) (fun h1 W1 => ?_)
  have W1 : WB t0 x ea S (fun f => if f = 10 + n then yd.toInt else E f) h1 := W1
  have en : ∀ f : Nat, f ≠ 10 + n → (fun f => if f = 10 + n then yd.toInt else E f) f = E f := fun f hf => if_neg hf
  have e0 : (fun f => if f = 10 + n then yd.toInt else E f) (10 + n) = yd.toInt := if_pos rfl
  generalize (fun f => if f = 10 + n then yd.toInt else E f) = E1 at W1 en e0
  refine w_low (c := 4) (vl (by decide)) (by decide) (fun yt a1 b1 => ?_)
  refine w_e W1 e10 (by omega) (fun y7 e7 => nn_i ?_)
  rw [e0] at e7
  refine w_atrans W1 p.1.1 nt (by omega) ⟨h0.1, by omega⟩ ⟨a1, by omega⟩ (by omega) (fun y h2 S1 I1 q1 q2 q3 q4 f1 W2 => ?_)
  obtain ⟨p1, p2, p3, p4, p5, p6, p7, p8⟩ := p
  have P1 : TRP 4 (n + 1) S1 E1 := by
    have P0 : TRP 4 n S E1 := ⟨p1, p2, p3, fun c hc => ⟨(en c (by omega)).trans (p4 c hc).1, (p4 c hc).2⟩, p5, p6, p7, fun t ht => (en _ (by omega)).trans (p8 t ht)⟩
    refine P0.mv I1 (fun j f z => f1 j f (by omega)) ((f1 38 19 (by omega)).trans p6) (q1.trans (by omega)) (fun t ht => ?_)
    by_cases z : t = n
    · subst z
      rw [e0, q3, e7]
    · rw [f1 60 _ (by omega)]
      exact (en _ (by omega)).trans (p8 t (by omega))
  have K1 : ∀ (S' : dC) (h' : gH), TRP 4 (n + 1) S' E1 → WB t0 x ea S' E1 h' → k326 h' (some x) (some ea) (v4 + 1) := fun S' h' P' W' => K S' E1 h' (en 40 (by omega)) P' W'
  have r423 : vL_builds_b423 t0 k326 Qv h2 (some x) (some ea) v4 v5 v4 (some x) := by
    unfold vL_builds_b423
    exact b_438 W2 P1 h4 q4 (by decide) (Or.inl (by decide)) K1
  refine clt32 rfl (vl (by decide)) (fun _ => r423) (fun z => ⟨fun _ => ?_, fun _ => r423⟩)
  refine w_low (c := 250) (vl (by decide)) (by decide) (fun yx a2 b2 => ?_)
  exact b_438 W2 P1 h4 q4 ⟨by omega, by omega⟩ (Or.inr (by rw [q2]; omega)) K1
theorem b_326 {T : Nat} (hT : T ≤ 9) (K : ∀ (S' : dC) (E' : Nat → Int) (h' : gH), TRP 4 T S' E' → WB t0 x ea S' E' h' → Qv h') : ∀ (m k n : Nat) (h : gH) (S : dC) (E : Nat → Int) (v4 : Int32), k + m = T → m < n → v4.toInt = (k : Int) → E 40 = (T : Int) → TRP 4 k S E → WB t0 x ea S E h → vL_builds_b326 t0 Qv n h (some x) (some ea) v4
  | _, _, 0, _, _, _, _, _, hn, _, _, _, _ => absurd hn (Nat.not_lt_zero _)
  | 0, k, n + 1, h, S, E, v4, e, hn, h4, e40, p, W => by
    show vL_builds_b326_o t0 (vL_builds_b326 t0 Qv n) Qv _ _ _ _
    unfold vL_builds_b326_o
    refine nn_i (w_e W (n := 40) (by decide) (by decide) (fun y hy => ?_))
    rw [e40] at hy
    refine cle32 hy h4 (fun _ => K S E h ?_ W) (fun z => absurd z (by omega))
    rw [show T = k by omega]
    exact p
  | m + 1, k, n + 1, h, S, E, v4, e, hn, h4, e40, p, W => by
    show vL_builds_b326_o t0 (vL_builds_b326 t0 Qv n) Qv _ _ _ _
    unfold vL_builds_b326_o
    refine nn_i (w_e W (n := 40) (by decide) (by decide) (fun y hy => ?_))
    rw [e40] at hy
    refine cle32 hy h4 (fun z => absurd z (by omega)) (fun _ => ?_)
    have e9 : (9 + v4).toInt = 9 + (k : Int) := add_ti (vl (by decide)) h4 (by omega)
    refine w_cell (by rw [e9]; omega) (fun z => ?_)
    have rec_ : ∀ (S' : dC) (E' : Nat → Int) (h' : gH), E' 40 = E 40 → TRP 4 (k + 1) S' E' → WB t0 x ea S' E' h' → vL_builds_b326 t0 Qv n h' (some x) (some ea) (v4 + 1) := fun S' E' h' e' p' W' => b_326 hT K m (k + 1) n h' S' E' _ (by omega) (by omega) (inc1 h4 (by omega)) (e'.trans e40) p' W'
    refine ⟨fun _ => b_364 W p (by omega) h4 ?_ rec_, fun _ => b_364 W p (by omega) h4 (by decide) rec_⟩
    have := and_three (z >>> (3 &&& 31))
    omega
theorem b_239 {v3 : Int32} (K : ∀ (T : Nat) (S' : dC) (E' : Nat → Int) (h' : gH), T ≤ 9 → TRP 4 T S' E' → WB t0 x ea S' E' h' → Qv h') : ∀ (m k n : Nat) (h : gH) (S : dC) (v4 : Int32), k + m = 4 → m < n → v4.toInt = (k : Int) → TRP k 0 S E → WB t0 x ea S E h → vL_builds_b239 t0 Qv n h (some x) (some ea) v3 v4
  | _, _, 0, _, _, _, _, hn, _, _, _ => absurd hn (Nat.not_lt_zero _)
  | 0, k, n + 1, h, S, v4, e, hn, h4, p, W => by
    show vL_builds_b239_o t0 (vL_builds_b239 t0 Qv n) Qv _ _ _ _ _
    unfold vL_builds_b239_o
    refine cle32 (vl (by decide)) h4 (fun _ => ?_) (fun z => absurd z (by omega))
    refine w_low (c := 7) (vl (by decide)) (by decide) (fun y a b => nn_i ?_)
    refine w_esi W (n := 40) (by decide) (by decide) (fun h1 W1 => ?_)
    have e3 : (3 + y).toInt = 3 + y.toInt := add_ti (vl (by decide)) rfl (by omega)
    have W1 : WB t0 x ea S (fun f => if f = 40 then (3 + y).toInt else E f) h1 := W1
    have en : ∀ f : Nat, f ≠ 40 → (fun f => if f = 40 then (3 + y).toInt else E f) f = E f := fun f hf => if_neg hf
    have e0 : (fun f => if f = 40 then (3 + y).toInt else E f) 40 = (3 + y).toInt := if_pos rfl
    generalize (fun f => if f = 40 then (3 + y).toInt else E f) = E1 at W1 en e0
    obtain ⟨T, hT⟩ : ∃ T : Nat, 3 + y.toInt = (T : Int) := ⟨(3 + y.toInt).toNat, by omega⟩
    obtain ⟨p1, p2, p3, p4, p5, p6, p7, p8⟩ := p
    exact b_326 (T := T) (by omega) (fun S' E' h' P' W' => K T S' E' h' (by omega) P' W') T 0 11 h1 S E1 0 (Nat.zero_add T) (by omega) (by decide) (e0.trans (e3.trans hT)) ⟨p1, p2, p3, fun c hc => ⟨(en c (by omega)).trans (p4 c hc).1, (p4 c hc).2⟩, p5, p6.trans (by omega), p7, fun t ht => absurd ht (Nat.not_lt_zero t)⟩ W1
  | m + 1, k, n + 1, h, S, v4, e, hn, h4, p, W => by
    show vL_builds_b239_o t0 (vL_builds_b239 t0 Qv n) Qv _ _ _ _ _
    unfold vL_builds_b239_o
    refine cle32 (vl (by decide)) h4 (fun z => absurd z (by omega)) (fun _ => ?_)
    have e5 : (5 + v4).toInt = 5 + (k : Int) := add_ti (vl (by decide)) h4 (by omega)
    refine w_cell (by rw [e5]; omega) (fun z => ?_)
    refine w_low (c := 6) (vl (by decide)) (by decide) (fun ym a b => ?_)
    refine w_low (c := 400) (vl (by decide)) (by decide) (fun ys a1 b1 => ?_)
    have e1 : (1 + ys).toInt = 1 + ys.toInt := add_ti (vl (by decide)) rfl (by omega)
    obtain ⟨q, hq⟩ : ∃ q : Nat, ym.toInt = (q : Int) := ⟨ym.toInt.toNat, by omega⟩
    have hcp : S 49 0 q ≠ -1 ∨ 0 < S 51 0 q := by
      obtain ⟨p5, p6, p7, p8⟩ := p.2.2.2.2.1
      rcases Nat.lt_or_ge q 4 with z | z
      · refine Or.inl ?_
        rw [(p.2.2.2.1 q z).2]
        omega
      · have d : q = 4 ∨ q = 5 := by omega
        rcases d with d | d
        · rw [d]; exact Or.inr p6
        · rw [d]; exact Or.inr p7
    have n14 := p.2.2.1
    have ns := p.2.2.2.2.2.1
    have nt := p.2.2.2.2.2.2.1
    have go : ∀ s0 : Int32, (s0.toInt = 0 ∨ s0.toInt = 1) → vL_builds_b290 t0 (vL_builds_b239 t0 Qv n) Qv h (some x) (some ea) v3 v4 z s0 (1 + ys) ym (some x) := fun s0 hs => by
      unfold vL_builds_b290
      refine w_low (c := 3) (vl (by decide)) (by decide) (fun yg a2 b2 => nn_i ?_)
      refine w_astate W p.1.1 ns (by omega) hq (by omega) hcp (by omega) hs (by omega) (fun y h1 S1 I1 q1 f1 W1 => ?_)
      exact b_239 K m (k + 1) n h1 S1 _ (by omega) (by omega) (inc1 h4 (by omega)) (p.mv I1 (fun j f z => f1 j f (by omega)) (q1.trans (by omega)) ((f1 38 21 (by omega)).trans nt) (fun t ht => absurd ht (Nat.not_lt_zero t))) W1
    exact ⟨fun _ => go 0 (Or.inl (by decide)), fun _ => go 1 (Or.inr (by decide))⟩
end BLD
