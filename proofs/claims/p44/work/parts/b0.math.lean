/-! ===== blends of complete nodes sum to their weight; lengths; poses in order ===== -/
theorem ex_max (f : Nat → Int) (p : Nat → Prop) : ∀ m : Nat, (∃ k : Nat, k < m ∧ p k) → ∃ k : Nat, k < m ∧ p k ∧ ∀ l : Nat, l < m → p l → f l ≤ f k
  | 0, h => h.elim fun k z => absurd z.1 (Nat.not_lt_zero k)
  | m + 1, h => by
    by_cases c : ∃ k : Nat, k < m ∧ p k
    · obtain ⟨k, k1, k2, k3⟩ := ex_max f p m c
      clear h c
      by_cases d : p m ∧ f k < f m
      · refine ⟨m, Nat.lt_succ_self m, d.1, fun l hl hv => ?_⟩
        rcases Nat.lt_or_ge l m with e | e
        · have h1 := k3 l e hv
          have h2 := d.2
          clear k3 d
          omega
        · rw [show l = m from Nat.le_antisymm (Nat.le_of_lt_succ hl) e]
          exact Int.le_refl _
      · refine ⟨k, Nat.lt_succ_of_lt k1, k2, fun l hl hv => ?_⟩
        rcases Nat.lt_or_ge l m with e | e
        · exact k3 l e hv
        · have e2 : l = m := Nat.le_antisymm (Nat.le_of_lt_succ hl) e
          subst e2
          exact Int.not_lt.mp fun z => d ⟨hv, z⟩
    · obtain ⟨k, k1, k2⟩ := h
      have e : k = m := by
        rcases Nat.lt_or_ge k m with e | e
        · exact absurd ⟨k, e, k2⟩ c
        · exact Nat.le_antisymm (Nat.le_of_lt_succ k1) e
      subst e
      refine ⟨k, k1, k2, fun l hl hv => ?_⟩
      rcases Nat.lt_or_ge l k with e | e
      · exact absurd ⟨l, e, hv⟩ c
      · rw [show l = k from Nat.le_antisymm (Nat.le_of_lt_succ hl) e]
        exact Int.le_refl _
theorem bel_ex {S : dC} {n : Nat} {v : Int} {k : Nat} (h1 : (k : Int) < S 51 0 n) (h2 : S 53 0 (5 * n + k) ≤ v) : ∃ b : Nat, isBel S n v b := by
  obtain ⟨b, b1, b2, b3⟩ := ex_max (fun k => S 53 0 (5 * n + k)) (fun k => S 53 0 (5 * n + k) ≤ v) (S 51 0 n).toNat ⟨k, by omega, h2⟩
  exact ⟨b, by omega, b2, fun l hl hv => b3 l (by omega) hv⟩
theorem abo_ex {S : dC} {n : Nat} {v : Int} {k : Nat} (h1 : (k : Int) < S 51 0 n) (h2 : v ≤ S 53 0 (5 * n + k)) : ∃ b : Nat, isAbo S n v b := by
  obtain ⟨b, b1, b2, b3⟩ := ex_max (fun k => - S 53 0 (5 * n + k)) (fun k => v ≤ S 53 0 (5 * n + k)) (S 51 0 n).toNat ⟨k, by omega, h2⟩
  exact ⟨b, by omega, b2, fun l hl hv => by have := b3 l (by omega) hv; omega⟩
theorem bel_abo_no {S : dC} (I : SI S) {n : Nat} {v : Int} (hn : (n : Int) < S 38 0 14) (hm : 0 < S 51 0 n) (hb : belK S n v = none) (ha : aboK S n v = none) : False := by
  rcases Int.le_total (S 53 0 (5 * n + 0)) v with z | z
  · obtain ⟨b, q⟩ := bel_ex (k := 0) (by omega) z
    rw [belK_of I hn q] at hb
    cases hb
  · obtain ⟨b, q⟩ := abo_ex (k := 0) (by omega) z
    rw [aboK_of I hn q] at ha
    cases ha
theorem fb_si_zero : ∀ m : Nat, fb_si (fun _ => (0 : Int)) m = 0
  | 0 => rfl
  | m + 1 => by rw [fb_si_succ, fb_si_zero m]; rfl
theorem fb_si_one (a w : Int) : ∀ m : Nat, fb_si (fun c : Nat => if (c : Int) = a then w else 0) m = if 0 ≤ a ∧ a < m then w else 0
  | 0 => by rw [if_neg (by omega)]; rfl
  | m + 1 => by
    rw [fb_si_succ, fb_si_one a w m]
    by_cases q : (m : Int) = a
    · rw [if_neg (by omega), if_pos q, if_pos (by omega)]; omega
    · rw [if_neg q]
      by_cases q2 : 0 ≤ a ∧ a < m
      · rw [if_pos q2, if_pos (by omega)]; omega
      · rw [if_neg q2, if_neg (by omega)]; omega
/-- the parts of a complete node sum to the weight -/
theorem bl_full {S : dC} (I : SI S) (V : Nat → Int) {dp : Nat → Nat} (hd : ∀ n : Nat, (n : Int) < S 38 0 14 → 1 ≤ dp n ∧ dp n ≤ 4 ∧ ∀ k : Nat, (k : Int) < S 51 0 n → dp (S 52 0 (5 * n + k)).toNat < dp n) : ∀ (d n : Nat) (w : Int), (n : Int) < S 38 0 14 → dp n ≤ d → (S 49 0 n ≠ -1 ∨ 0 < S 51 0 n) → 0 ≤ w → fb_si (fun c => bl S V d n w c) (nC S) = w
  | 0, n, w, hn, hdp, hc, hw => by have := (hd n hn).1; omega
  | d + 1, n, w, hn, hdp, hcc, hw => by
    have hd1 := (hd n hn).2.2
    have hc : ∀ k : Nat, (k : Int) < S 51 0 n → ((chN S n k : Nat) : Int) < S 38 0 14 ∧ dp (chN S n k) ≤ d ∧ (S 49 0 (chN S n k) ≠ -1 ∨ 0 < S 51 0 (chN S n k)) := fun k hk => by
      have h1 := I.cn n k hn hk
      have h2 := I.cc n k hn hk
      have h3 := hd1 k hk
      unfold chN
      exact ⟨by omega, by omega, h2⟩
    have i1 := I.ncl n hn
    have i2 := I.nc
    by_cases h0 : w ≤ 0
    · have h1 : (fun c : Nat => bl S V (d + 1) n w c) = fun _ => 0 := funext fun c => bl_z S V (d + 1) n c h0
      rw [h1, fb_si_zero]
      omega
    by_cases h1 : S 49 0 n ≠ -1
    · have h2 : (fun c : Nat => bl S V (d + 1) n w c) = fun c : Nat => if (c : Int) = S 49 0 n then w else 0 := funext fun c => by
        unfold bl
        rw [if_neg h0, if_pos h1]
      rw [h2, fb_si_one, if_pos (by unfold nC; omega)]
    · have rec_ : ∀ (k : Nat) (w : Int), (k : Int) < S 51 0 n → 0 ≤ w → fb_si (fun c => bl S V d (chN S n k) w c) (nC S) = w := fun k w hk hw => bl_full I V hd d (chN S n k) w (hc k hk).1 (hc k hk).2.1 (hc k hk).2.2 hw
      cases hb : belK S n (V (S 50 0 n).toNat) with
      | none =>
        cases ha : aboK S n (V (S 50 0 n).toNat) with
        | none => exact (bel_abo_no I hn (by omega) hb ha).elim
        | some a =>
          have h3 : (fun c : Nat => bl S V (d + 1) n w c) = fun c => bl S V d (chN S n a) w c := funext fun c => by
            conv => lhs; unfold bl
            rw [if_neg h0, if_neg h1, hb, ha]
            try rfl
          rw [h3]
          exact rec_ a w (aboK_some ha).1 hw
      | some b =>
        cases ha : aboK S n (V (S 50 0 n).toNat) with
        | none =>
          have h3 : (fun c : Nat => bl S V (d + 1) n w c) = fun c => bl S V d (chN S n b) w c := funext fun c => by
            conv => lhs; unfold bl
            rw [if_neg h0, if_neg h1, hb, ha]
            try rfl
          rw [h3]
          exact rec_ b w (belK_some hb).1 hw
        | some a =>
          by_cases hne : b = a
          · have h3 : (fun c : Nat => bl S V (d + 1) n w c) = fun c => bl S V d (chN S n a) w c := funext fun c => by
              conv => lhs; unfold bl
              rw [if_neg h0, if_neg h1, hb, ha]
              simp only [hne, if_true]
            rw [h3]
            exact rec_ a w (aboK_some ha).1 hw
          · have h3 : (fun c : Nat => bl S V (d + 1) n w c) = fun c => bl S V d (chN S n a) (upW S n b a (V (S 50 0 n).toNat) w) c + bl S V d (chN S n b) (w - upW S n b a (V (S 50 0 n).toNat) w) c := funext fun c => by
              conv => lhs; unfold bl
              rw [if_neg h0, if_neg h1, hb, ha]
              simp only [hne, if_false]
            rw [h3]
            obtain ⟨q1, q2, q3⟩ := bel_abo I hn hb ha hne
            obtain ⟨r1, r2⟩ := upW_in hw q1 q2 q3
            rw [fb_si_add]
            have s1 := rec_ a (upW S n b a (V (S 50 0 n).toNat) w) (aboK_some ha).1 r1
            have s2 := rec_ b (w - upW S n b a (V (S 50 0 n).toNat) w) (belK_some hb).1 (by omega)
            replace s1 : fb_si (bl S V d (chN S n a) (upW S n b a (V (S 50 0 n).toNat) w)) (nC S) = _ := s1
            replace s2 : fb_si (bl S V d (chN S n b) (w - upW S n b a (V (S 50 0 n).toNat) w)) (nC S) = _ := s2
            omega
theorem bw_full {S : dC} (I : SI S) (M : dM) {s : Nat} {w : Int} (hs : (s : Int) < S 38 0 19) (hw : 0 ≤ w) : fb_si (bw S M s w) (nC S) = w := by
  have h1 := I.mo s hs
  have h2 := I.mc s hs
  obtain ⟨dp, hd⟩ := I.dp
  exact bl_full I M hd 4 (S 55 0 s).toNat w (by omega) ((hd _ (by omega)).2.1) h2 hw
/-! lengths -/
theorem fb_si_mulb {f g : Nat → Int} {lo hi : Int} : ∀ {n : Nat}, (∀ k, k < n → 0 ≤ f k ∧ (0 < f k → lo ≤ g k ∧ g k ≤ hi)) → lo * fb_si f n ≤ fb_si (fun k => f k * g k) n ∧ fb_si (fun k => f k * g k) n ≤ hi * fb_si f n
  | 0, _ => ⟨by show lo * 0 ≤ 0; omega, by show 0 ≤ hi * 0; omega⟩
  | n + 1, h => by
    obtain ⟨h1, h2⟩ := fb_si_mulb (f := f) (g := g) (lo := lo) (hi := hi) (n := n) (fun k hk => h k (Nat.lt_succ_of_lt hk))
    obtain ⟨h3, h4⟩ := h n (Nat.lt_succ_self n)
    rw [fb_si_succ, fb_si_succ, Int.mul_add, Int.mul_add]
    have h5 : lo * f n ≤ f n * g n ∧ f n * g n ≤ hi * f n := by
      by_cases z : 0 < f n
      · obtain ⟨a, b⟩ := h4 z
        rw [Int.mul_comm (f n) (g n)]
        exact ⟨Int.mul_le_mul_of_nonneg_right a h3, Int.mul_le_mul_of_nonneg_right b h3⟩
      · have e : f n = 0 := by omega
        rw [e]
        simp
    omega
theorem lenS_btw {S : dC} (I : SI S) (M : dM) {s : Nat} {lo hi : Int} (hs : (s : Int) < S 38 0 19) (hb : ∀ c : Nat, c < nC S → 0 < bw S M s 1000000 c → lo ≤ S 44 0 c ∧ S 44 0 c ≤ hi) : lo ≤ lenS S M s ∧ lenS S M s ≤ hi := by
  have e := bw_full I M (w := 1000000) hs (by decide)
  have p : ∀ c : Nat, c < nC S → 0 ≤ bw S M s 1000000 c := fun c _ => (bw_in I M (w := 1000000) c hs (by decide)).1
  have h1 := fb_si_mulb (f := bw S M s 1000000) (g := S 44 0) (lo := lo) (hi := hi) (n := nC S) (fun c hc => ⟨p c hc, hb c hc⟩)
  have h2 := fb_si_mulb (f := bw S M s 1000000) (g := S 44 0) (lo := 1) (hi := 500) (n := nC S) (fun c hc => ⟨p c hc, fun _ => I.cl c (by unfold nC at hc; omega)⟩)
  rw [e] at h1 h2
  have e3 : lsum S M s (nC S) = fb_si (fun c => bw S M s 1000000 c * S 44 0 c) (nC S) := rfl
  unfold lenS
  rw [e3]
  generalize fb_si (fun c => bw S M s 1000000 c * S 44 0 c) (nC S) = y at h1 h2
  clear e3 e p hb
  rw [if_neg (by omega)]
  omega
/-! poses: in order, of clips that there are, at times of theirs -/
def qst (q : dQ) : Prop := ∀ i : Nat, i + 1 < q.1 → q.2.1 i < q.2.1 (i + 1) ∨ (q.2.1 i = q.2.1 (i + 1) ∧ q.2.2.1 i < q.2.2.1 (i + 1))
def qcl (S : dC) (q : dQ) : Prop := ∀ i : Nat, i < q.1 → 0 ≤ q.2.1 i ∧ q.2.1 i < S 38 0 8 ∧ 0 ≤ q.2.2.1 i ∧ q.2.2.1 i < S 44 0 (q.2.1 i).toNat ∧ 0 < q.2.2.2 i
def PQ (S : dC) (q : dQ) : Prop := qst q ∧ qcl S q
theorem PQ_0 (S : dC) : PQ S q0 := ⟨fun i hi => absurd hi (Nat.not_lt_zero _), fun i hi => absurd hi (Nat.not_lt_zero _)⟩
theorem fk_bef (q : dQ) (c t : Int) : ∀ m k : Nat, (∀ i : Nat, k ≤ i → i < fk q c t m k → bef q c t i) ∧ (fk q c t m k < k + m → ¬ bef q c t (fk q c t m k))
  | 0, k => ⟨fun i h1 h2 => by have h2 : i < k := h2; omega, fun h => by have h : k < k + 0 := h; omega⟩
  | m + 1, k => by
    obtain ⟨h1, h2⟩ := fk_bef q c t m (k + 1)
    rw [fk_succ]
    by_cases z : q.2.1 k < c ∨ (q.2.1 k = c ∧ q.2.2.1 k < t)
    · rw [if_pos z]
      refine ⟨fun i a b => ?_, fun a => h2 (by omega)⟩
      rcases Nat.lt_or_ge k i with e | e
      · exact h1 i e b
      · rw [show i = k from Nat.le_antisymm e a]; exact z
    · rw [if_neg z]
      exact ⟨fun i a b => absurd b (Nat.not_lt.mpr a), fun _ => z⟩
theorem insF_lt (g : Nat → Int) {k i : Nat} (x : Int) (h : i < k) : insF g k x i = g i := if_pos h
theorem insF_at (g : Nat → Int) (k : Nat) (x : Int) : insF g k x k = x := by unfold insF; rw [if_neg (Nat.lt_irrefl k), if_pos rfl]
theorem insF_gt (g : Nat → Int) {k i : Nat} (x : Int) (h : k < i) : insF g k x i = g (i - 1) := by unfold insF; rw [if_neg (by omega), if_neg (by omega)]
theorem PQ_add {S : dC} {q : dQ} {c t w : Int} (h : PQ S q) (hc : 0 ≤ c ∧ c < S 38 0 8) (ht : 0 ≤ t ∧ t < S 44 0 c.toNat) (hw : 0 < w) : PQ S (qadd q c t w) := by
  obtain ⟨h1, h2⟩ := h
  obtain ⟨f1, f2⟩ := fk_bef q c t q.1 0
  have f3 := fk_le q c t
  rw [Nat.zero_add] at f2
  unfold qadd
  generalize fk q c t q.1 0 = p at f1 f2 f3 ⊢
  by_cases z : p < q.1 ∧ q.2.1 p = c ∧ q.2.2.1 p = t
  · rw [if_pos z]
    refine ⟨h1, fun i hi => ?_⟩
    have hi : i < q.1 := hi
    obtain ⟨a1, a2, a3, a4, a5⟩ := h2 i hi
    refine ⟨a1, a2, a3, a4, ?_⟩
    show 0 < (if i = p then q.2.2.2 i + w else q.2.2.2 i)
    split <;> omega
  · rw [if_neg z]
    refine ⟨fun i hi => ?_, fun i hi => ?_⟩
    · have hi : i + 1 < q.1 + 1 := hi
      show insF q.2.1 p c i < insF q.2.1 p c (i + 1) ∨ (insF q.2.1 p c i = insF q.2.1 p c (i + 1) ∧ insF q.2.2.1 p t i < insF q.2.2.1 p t (i + 1))
      rcases Nat.lt_trichotomy (i + 1) p with e | e | e
      · rw [insF_lt _ _ (show i < p by omega), insF_lt _ _ e, insF_lt _ _ (show i < p by omega), insF_lt _ _ e]
        exact h1 i (by omega)
      · subst e
        rw [insF_lt _ _ (Nat.lt_succ_self i), insF_at, insF_lt _ _ (Nat.lt_succ_self i), insF_at]
        exact f1 i (Nat.zero_le i) (Nat.lt_succ_self i)
      · rcases Nat.lt_or_ge p i with e2 | e2
        · rw [insF_gt _ _ e2, insF_gt _ _ e, insF_gt _ _ e2, insF_gt _ _ e]
          have := h1 (i - 1) (by omega)
          rw [show i - 1 + 1 = i + 1 - 1 by omega] at this
          exact this
        · have e3 : i = p := by omega
          subst e3
          rw [insF_at, insF_gt _ _ (Nat.lt_succ_self i), insF_at, insF_gt _ _ (Nat.lt_succ_self i)]
          show c < q.2.1 i ∨ (c = q.2.1 i ∧ t < q.2.2.1 i)
          have f4 := f2 (by omega)
          unfold bef at f4
          have hi2 : i < q.1 := by omega
          have z2 : ¬ (q.2.1 i = c ∧ q.2.2.1 i = t) := fun y => z ⟨hi2, y⟩
          omega
    · have hi : i < q.1 + 1 := hi
      show 0 ≤ insF q.2.1 p c i ∧ insF q.2.1 p c i < S 38 0 8 ∧ 0 ≤ insF q.2.2.1 p t i ∧ insF q.2.2.1 p t i < S 44 0 (insF q.2.1 p c i).toNat ∧ 0 < insF q.2.2.2 p w i
      rcases Nat.lt_trichotomy i p with e | e | e
      · rw [insF_lt _ _ e, insF_lt _ _ e, insF_lt _ _ e]
        exact h2 i (by omega)
      · subst e
        rw [insF_at, insF_at, insF_at]
        exact ⟨hc.1, hc.2, ht.1, ht.2, hw⟩
      · rw [insF_gt _ _ e, insF_gt _ _ e, insF_gt _ _ e]
        exact h2 (i - 1) (by omega)
theorem PQ_trk {S : dC} (I : SI S) (M : dM) {t : Nat} {w : Int} {q : dQ} (hs : 0 ≤ M t ∧ M t < S 38 0 19) (hp : 0 ≤ M (t + 2)) (hq : PQ S q) : ∀ n : Nat, (n : Int) ≤ S 38 0 8 → PQ S (qtrk S M t w n q)
  | 0, _ => hq
  | n + 1, hn => by
    have h := PQ_trk I M (w := w) hs hp hq n (by omega)
    unfold qtrk
    split
    · exact h
    · have ht := tmS_in I M (t := t) (c := n) (by omega) hp
      exact PQ_add h (by omega) ⟨ht.1, by rw [Int.toNat_natCast]; omega⟩ (by omega)
/-- a frozen pose has entries, each of a clip that there is, at a time of its -/
def FZ (S : dC) (M : dM) : Prop := M 20 = 1 → 1 ≤ M 21 ∧ ∀ k : Nat, (k : Int) < M 21 → M (22 + 3 * k) < S 38 0 8 ∧ M (23 + 3 * k) < S 44 0 (M (22 + 3 * k)).toNat
theorem PQ_frz {tb : Int} {S : dC} {M : dM} (J : MI S tb M) (F : FZ S M) (h20 : M 20 = 1) (w : Int) : ∀ n : Nat, (n : Int) ≤ M 21 → PQ S (qfrz M w n q0)
  | 0, _ => PQ_0 S
  | n + 1, hn => by
    have h := PQ_frz J F h20 w n (by omega)
    have e := J.fe n (by omega)
    have f := (F h20).2 n (by omega)
    unfold qfrz
    split
    · exact h
    · exact PQ_add h (by omega) (by omega) (by omega)
theorem qfrz_full {tb : Int} {S : dC} {M : dM} (J : MI S tb M) (F : FZ S M) (h20 : M 20 = 1) {w : Int} (hw : 0 ≤ w ∧ w ≤ 1000000) : qsum (qfrz M w (M 21).toNat q0) = w := by
  have j6 := J.fm
  have f := (F h20).1
  rw [(qfrz_in J h20 hw (M 21).toNat (by omega)).2.1]
  cases hn : (M 21).toNat with
  | zero => omega
  | succ n =>
    rw [qfw_sum, hn]
    unfold qmis
    omega
/-- the present pose is in order, and its weights sum to the whole -/
theorem qpose_fits {tb : Int} {S : dC} (I : SI S) {M : dM} (J : MI S tb M) (F : FZ S M) (hns : 0 < S 38 0 19) : PQ S (qpose S M) ∧ qsum (qpose S M) = 1000000 := by
  have i0 := I.nc
  have j1 := J.mi
  have j2 := J.sa
  have j3 := J.ca
  have j5 := J.fz
  have j6 := J.fm
  have hn : ((nC S : Nat) : Int) ≤ S 38 0 8 := by unfold nC; omega
  have h12 : 0 ≤ M 12 ∧ M 12 < S 38 0 19 := ⟨j2.1, j2.2.1 hns⟩
  unfold qpose
  rw [if_neg (by omega)]
  split
  · refine ⟨PQ_trk I M h12 j3.2.1 (PQ_0 S) _ hn, ?_⟩
    rw [(qtrk_in I M h12 j3.2.1 (by decide) q0_ok (nC S) hn).2.1, bw_full I M (by omega) (by decide)]
    rfl
  · rename_i h8
    have h8 : M 8 = 1 := by omega
    have j8 := J.el h8
    have j9 := J.sb h8
    have j10 := J.cb h8
    have sh := shr_in (S := S) (M := M) (by omega) (by omega)
    split
    · rename_i h20
      have w1 : 0 ≤ 1000000 - shr S M ∧ 1000000 - shr S M ≤ 1000000 := by omega
      have b := qfrz_in J h20 w1 (M 21).toNat (by omega)
      refine ⟨PQ_trk I M j9 j10.2.1 (PQ_frz J F h20 _ _ (by omega)) _ hn, ?_⟩
      rw [(qtrk_in I M j9 j10.2.1 sh.1 b.1 (nC S) hn).2.1, bw_full I M (by omega) sh.1, qfrz_full J F h20 w1]
      omega
    · have b := qtrk_in I M h12 j3.2.1 (w := 1000000 - shr S M) (by omega) q0_ok (nC S) hn
      refine ⟨PQ_trk I M j9 j10.2.1 (PQ_trk I M h12 j3.2.1 (PQ_0 S) _ hn) _ hn, ?_⟩
      rw [(qtrk_in I M j9 j10.2.1 sh.1 b.1 (nC S) hn).2.1, bw_full I M (by omega) sh.1, b.2.1, bw_full I M (by omega) (by omega)]
      show (0 : Int) + _ + _ = _
      omega
