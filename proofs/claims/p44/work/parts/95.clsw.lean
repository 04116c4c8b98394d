/-! ===== the class: values, reset ===== -/
section CW
variable {h : gH} {A : dA} {N zz : Nat → Nat} {S C C0 : dC} {P P0 : dP} {t0 k : Nat} {tq tb : Int} {M : dM}
theorem q_value {Qn : Int32 → gH → Prop} {Qx : String → gH → Prop} {v : Int32} (Z : CQ h A N zz S 0 tq C0 P0 C P M) (I : SI S) (kx : v.toInt < 0 ∨ S 38 0 3 ≤ v.toInt → Qx "java/lang/IndexOutOfBoundsException" h) (k0 : 0 ≤ v.toInt → v.toInt < S 38 0 3 → ∀ x : Int32, x.toInt = M v.toInt.toNat → Qn x h) : vX11_value t0 Qn Qx h (A 0 0) v := by
  obtain ⟨R, K, JC, F, G⟩ := Z
  unfold vX11_value
  refine i00 R (q_param R K I kx (fun p hv hp h8 => g_mac R (nn_i (iom (by decide) R ?_))))
  have e : v.toInt.toNat = p := by omega
  rw [e] at k0
  exact c_value (by decide) R hv h8 (JC.va p h8) (fun x hx => k0 (by omega) (by omega) x hx)
theorem q_isValue {Qn : Int32 → gH → Prop} {v w : Int32} {p : Nat} (R : D h A N zz C P) (K : KS S N zz C P) (I : SI S) (hv : v.toInt = (p : Int)) (hp : (p : Int) < S 38 0 3) (k1 : (S 42 0 p = 0 → -100 ≤ w.toInt ∧ w.toInt ≤ 100) → (S 42 0 p ≠ 0 → w.toInt = 0 ∨ w.toInt = 1) → Qn 1 h) (k0 : ¬ ((S 42 0 p = 0 → -100 ≤ w.toInt ∧ w.toInt ≤ 100) ∧ (S 42 0 p ≠ 0 → w.toInt = 0 ∨ w.toInt = 1)) → Qn 0 h) : vX4_isValue t0 Qn h (A 4 0) v w := by
  unfold vX4_isValue vX4_isValue_b40 vX4_isValue_b35 vX4_isValue_b25 vX4_isValue_b24 vX4_isValue_b40 vX4_isValue_b25
  have g0 : gZ 0 := gZ_of (by decide)
  have g1 : gZ 1 := gZ_of (by decide)
  refine wio R a40 rfl (by decide) (c_kind R K I hv hp (fun x2 h2 => cne32 h2 (vl (by decide)) (fun z => ?_) (fun z => ?_)))
  · refine ceq32 rfl (vl (by decide)) (fun y => ⟨g1, k1 (fun q => absurd q z) (fun _ => Or.inl y)⟩) (fun y => cne32 rfl (vl (by decide)) (fun u => ⟨g0, k0 (fun q => by have := q.2 z; omega)⟩) (fun u => ⟨g1, k1 (fun q => absurd q z) (fun _ => Or.inr u)⟩))
  · refine clt32 rfl (show (-100 : Int32).toInt = -100 by decide) (fun y => ⟨g0, k0 (fun q => by have := q.1 z; omega)⟩) (fun y => clt32 (vl (by decide)) rfl (fun u => ⟨g0, k0 (fun q => by have := q.1 z; omega)⟩) (fun u => ⟨g1, k1 (fun _ => by omega) (fun q => absurd z q)⟩))
theorem q_set {Qn : Int32 → gH → Prop} {Qx : String → gH → Prop} {v w : Int32} (Z : CQ h A N zz S 0 tq C0 P0 C P M) (hm : M 21 ≤ 24) (I : SI S) (kx : v.toInt < 0 ∨ S 38 0 3 ≤ v.toInt → Qx "java/lang/IndexOutOfBoundsException" h) (ky : 0 ≤ v.toInt → v.toInt < S 38 0 3 → ¬ ((S 42 0 v.toInt.toNat = 0 → -100 ≤ w.toInt ∧ w.toInt ≤ 100) ∧ (S 42 0 v.toInt.toNat ≠ 0 → w.toInt = 0 ∨ w.toInt = 1)) → Qx "java/lang/IllegalArgumentException" h) (k0 : 0 ≤ v.toInt → v.toInt < S 38 0 3 → (S 42 0 v.toInt.toNat = 0 → -100 ≤ w.toInt ∧ w.toInt ≤ 100) → (S 42 0 v.toInt.toNat ≠ 0 → w.toInt = 0 ∨ w.toInt = 1) → ∀ (x : Int32) (h' : gH) (C' : dC), CQ h' A N zz S 0 tq C0 P0 C' P (um M v.toInt.toNat w.toInt) → x.toInt = M v.toInt.toNat → Qn x h') : vX11_set t0 Qn Qx h (A 0 0) v w := by
  obtain ⟨R, K, JC, F, G⟩ := id Z
  unfold vX11_set
  refine i00 R (q_param R K I kx (fun p hv hp h8 => g_mdl R (nn_i (wio R a40 rfl (by decide) ?_))))
  have e : v.toInt.toNat = p := by omega
  rw [e] at k0 ky
  refine q_isValue R K I hv hp (fun a b => yes0 (g_mac R (nn_i (iom (by decide) R ?_)))) (fun q => no0 (ky (by omega) (by omega) q))
  refine c_value (by decide) R hv h8 (JC.va p h8) (fun x hx => g_mac R (nn_i (iom (by decide) R ?_)))
  exact c_setv (by decide) R hv h8 rfl (fun h' R' => k0 (by omega) (by omega) a b x h' _ (Z.setv hm h8 R') hx)
theorem c_beginIn {Qn : gH → Prop} {s : Nat} (hk : k < 4) (R : D h A N zz C P) (hs : ac N 14 s) (k0 : ∀ (h' : gH) (C' : dC) (P' : dP), D h' A N zz C' P' → (∀ j i f : Nat, ¬ ((j = 23 ∨ j = 24) ∧ i = k ∧ 1 ≤ f ∧ f ≤ 5) → ¬ (j = 21 ∧ i = k ∧ (f = 5 ∨ f = 6 ∨ f = 8)) → C' j i f = C j i f) → (∀ j i f : Nat, ¬ ((j = 23 ∨ j = 24) ∧ i = k ∧ f = 0) → ¬ (j = 21 ∧ i = k ∧ f = 4) → P' j i f = P j i f) → (C' 23 k 1 = 0 ∧ C' 23 k 2 = 0 ∧ C' 23 k 3 = 1 ∧ C' 23 k 5 = 1 ∧ C' 24 k 3 = 1 ∧ C' 24 k 5 = 1) → (C' 21 k 6 = 0 ∧ C' 21 k 8 = 0) → P' 23 k 0 = some (14, s) → P' 21 k 4 = none → Qn h') : vX3_beginIn t0 Qn h (A 21 k) (some (A 14 s)) := by
  unfold vX3_beginIn
  refine m_tgt hk R (nn_i (ioj (j := 24) (by decide) hk R rfl (by decide) ?_))
  refine c_begin hk R hs (vl (by decide) : (0 : Int32).toInt = 0) (fun h7 C7 R7 F7 c1 c2 c3 c4 c5 => iom hk R7 ?_)
  have P7 : ∀ j i f : Nat, ¬ (j = 24 ∧ i = k ∧ f = 0) → up3 P 24 k 0 (some (14, s)) j i f = P j i f := fun j i f hj => up3_ne _ _ hj
  have P7s : up3 P 24 k 0 (some (14, s)) 24 k 0 = some (14, s) := up3_same _ _ _ _ _
  generalize up3 P 24 k 0 (some (14, s)) = P7' at *
  refine c_idle hk R7 (Or.inr c3) (Or.inr c5) (fun h11 C11 P11 R11 f1 f2 e5 f3 g1 g2 g3 => ?_)
  refine k0 h11 C11 P11 R11 (fun j i f a b => ?_) (fun j i f a b => ?_) ⟨(f2 1 (by decide) (by decide)).trans c1, (f2 2 (by decide) (by decide)).trans c2, (f2 3 (by decide) (by decide)).trans c3, (f2 5 (by decide) (by decide)).trans c5, ?_, ?_⟩ f3 (g1.trans P7s) g2
  · rw [f1 j i f (by omega) (by omega), F7 j i f (by omega)]
  · rw [g3 j i f (by omega) (by omega), P7 j i f (by omega)]
  · rw [f1 _ _ _ (by omega) (by omega)]; exact c3
  · rw [f1 _ _ _ (by omega) (by omega)]; exact c5
theorem c_forget {Qn : gH → Prop} (hk : k < 4) (R : D h A N zz C P) (k0 : ∀ (h' : gH) (C' : dC), D h' A N zz C' P → (∀ j i f : Nat, ¬ (j = 22 ∧ i = k ∧ f < 8) → ¬ (j = 21 ∧ i = k ∧ f = 9) → ¬ (j = 33 ∧ i = k ∧ f = 1) → C' j i f = C j i f) → (∀ p : Nat, p < 8 → C' 22 k p = 0) → C' 21 k 9 = 0 → C' 33 k 1 = 0 → Qn h') : vX3_forget t0 Qn h (A 21 k) := by
  have a22 : ac N 22 k := hk
  have a21 : ac N 21 k := hk
  have a33 : ac N 33 k := hk
  have lp : ∀ (m i : Nat) (h' : gH) (C' : dC) (v1 : Int32), D h' A N zz C' P → (∀ j i f : Nat, ¬ (j = 22 ∧ i = k ∧ f < 8) → C' j i f = C j i f) → (∀ p : Nat, p < i → C' 22 k p = 0) → v1.toInt = (i : Int) → i + m = 8 → vX3_forget_b2 t0 Qn (m + 1) h' (A 21 k) v1 := by
    intro m
    induction m with
    | zero =>
      intro i h' C' v1 R' f' v' h1 hm
      show vX3_forget_b2_o t0 (vX3_forget_b2 t0 Qn 0) Qn _ _ _
      unfold vX3_forget_b2_o
      refine m_val hk R' (nn_i (yal R' a22 (by decide) (n := 8) rfl (by decide) (fun x3 h3 => cle32 h3 h1 (fun _ => ?_) (fun z => by omega))))
      refine wpvI R' a21 rfl (v := 0) (vl (by decide)) (fun h4 R4 => m_log hk R4 (nn_i (wpvI R4 a33 rfl (v := 0) (vl (by decide)) (fun h6 R6 => ?_))))
      exact k0 h6 _ R6 (fun j i f a b c => by rw [up3_ne _ _ (by omega), up3_ne _ _ (by omega)]; exact f' j i f a) (fun p hp => by rw [up3_ne _ _ (by omega), up3_ne _ _ (by omega)]; exact v' p (by omega)) (by rw [up3_ne _ _ (by omega), up3_same]) (up3_same _ _ _ _ _)
    | succ m ih =>
      intro i h' C' v1 R' f' v' h1 hm
      show vX3_forget_b2_o t0 (vX3_forget_b2 t0 Qn (m + 1)) Qn _ _ _
      unfold vX3_forget_b2_o
      refine m_val hk R' (nn_i (yal R' a22 (by decide) (n := 8) rfl (by decide) (fun x3 h3 => cle32 h3 h1 (fun z => by omega) (fun _ => ?_))))
      refine m_val hk R' (nn_i (wsi R' a22 rfl h1 (show i < 8 by omega) (vl (by decide) : (0 : Int32).toInt = 0) (fun h10 R10 => ?_)))
      refine ih (i + 1) h10 _ _ R10 (fun j i f hj => (up3_ne _ _ (by omega)).trans (f' j i f hj)) (fun p hp => ?_) (ix_add h1 (ix_lit (by decide)) (by omega)) (by omega)
      by_cases z : p = i
      · rw [z]; exact up3_same _ _ _ _ _
      · rw [up3_ne _ _ (by omega)]; exact v' p (by omega)
  unfold vX3_forget
  exact ⟨9, lp 8 0 h C 0 R (fun _ _ _ _ => rfl) (fun p hp => by omega) (by decide) (by decide)⟩
theorem q_reset {Qn : Int32 → gH → Prop} (Z : CQ h A N zz S 0 tq C0 P0 C P M) (k0 : ∀ (x : Int32) (h' : gH) (C' : dC) (P' : dP), (∀ M' : dM, (∀ p : Nat, p < 8 → M' p = 0) → M' 8 = 0 → M' 11 = 0 → M' 20 = 0 → M' 12 = 0 → M' 13 = 0 → M' 14 = 0 → M' 15 = 1 → M' 166 = 0 → M' 288 = 0 → CQ h' A N zz S 0 0 C0 P0 C' P' M') → x.toInt = tq → Qn x h') : vX11_reset t0 Qn h (A 0 0) := by
  obtain ⟨R, K, JC, F, G⟩ := id Z
  have sz := K.sz
  have n0 := K.nn
  have a22 : ac N 22 0 := show 0 < 4 by decide
  have a21 : ac N 21 0 := show 0 < 4 by decide
  have a33 : ac N 33 0 := show 0 < 4 by decide
  unfold vX11_reset
  refine g_mac R (nn_i (m_tks (by decide) R JC (fun x3 h3 => g_mac R (nn_i (iom (by decide) R ?_)))))
  -- behind the forgetting
  have rest : ∀ (h' : gH) (C' : dC), D h' A N zz C' P → (∀ j i f : Nat, ¬ (j = 22 ∧ i = 0 ∧ f < 8) → ¬ (j = 21 ∧ i = 0 ∧ f = 9) → ¬ (j = 33 ∧ i = 0 ∧ f = 1) → C' j i f = C j i f) → (∀ p : Nat, p < 8 → C' 22 0 p = 0) → C' 21 0 9 = 0 → C' 33 0 1 = 0 → ∀ s : Nat, ac N 14 s → (0 < S 38 0 19 → s = 1) → vX11_reset_b56 t0 Qn h' x3 (some (A 14 s)) (some (A 21 0)) := fun h' C' R' f' v' e9 e33 s hs hs1 => by
    unfold vX11_reset_b56
    refine nn_i (iom (by decide) R' (c_beginIn (by decide) R' hs (fun h2 C2 P2 R2 f2 g2 e23 e6 p0 p4 => k0 x3 h2 C2 P2 (fun M' m0 m8 m11 m20 m12 m13 m14 m15 m166 m288 => ?_) h3)))
    refine ⟨R2, K.fr (fun j i f hj => (f2 j i f (by omega) (by omega)).trans (f' j i f (by omega) (by omega) (by omega))) (fun j i f hj => g2 j i f (by omega) (by omega)), ?_, fun j i f hj => ?_, fun j i f hj => ?_⟩
    · refine ⟨fun p hp => ?_, ?_, ?_, ?_, ?_, fun _ => p4, fun z => by omega, fun z => ?_, ?_, fun z => by omega, fun z => by omega, fun e w z => by omega, ?_⟩
      · rw [f2 _ _ _ (by omega) (by omega), v' p hp, m0 p hp]
      · rw [e6.2, m11]
      · rw [f2 _ _ _ (by omega) (by omega), e9]
      · rw [f2 _ _ _ (by omega) (by omega), e33, m288]
      · rw [e6.1, m20]
      · rw [p0, hs1 z, m12]; rfl
      · rw [e23.1, e23.2.1, e23.2.2.1, m13, m14, m15]; exact ⟨rfl, rfl, fun _ => rfl⟩
      · exact ⟨Or.inr e23.2.2.1, Or.inr e23.2.2.2.1, Or.inr e23.2.2.2.2.1, Or.inr e23.2.2.2.2.2⟩
    · have q1 : ¬ ((j = 22 ∨ j = 23 ∨ j = 24 ∨ j = 21 ∨ j = 33) ∧ i = 0) := fun z => hj (by rw [z.2]; exact mP_k (by omega))
      exact ((f2 j i f (by omega) (by omega)).trans (f' j i f (by omega) (by omega) (by omega))).trans (F j i f hj)
    · have q1 : ¬ ((j = 23 ∨ j = 24 ∨ j = 21) ∧ i = 0) := fun z => hj (by rw [z.2]; exact mP_k (by omega))
      exact (g2 j i f (by omega) (by omega)).trans (G j i f hj)
  refine c_forget (by decide) R (fun h6 C6 R6 f6 v6 e9 e33 => ?_)
  have K6 : KS S N zz C6 P := K.fr (fun j i f hj => f6 j i f (by omega) (by omega) (by omega)) (fun _ _ _ _ => rfl)
  have sz6 := K6.sz
  have rr := rest h6 C6 R6 f6 v6 e9 e33
  refine g_mac R6 (g_mdl R6 (nn_i (m_sts R6 (nn_i (wio R6 (j := 6) (i := 2) (show 2 < N 1 + 5 by omega) rfl (by decide) (yempty R6 (show 2 < N 1 + 5 by omega) (fun z => ⟨fun q => absurd q (by decide), fun _ => ?_⟩) (fun z => ⟨fun _ => ?_, fun q => absurd rfl q⟩)))))))
  · refine g_mdl R6 (nn_i (wgrs R6 a40 rfl (show dS 4 0 7 = some (14, 0) from rfl) ?_))
    exact rr 0 (show 0 < N 2 + 1 by omega) (fun y => by omega)
  · refine g_mdl R6 (nn_i (m_sts R6 (nn_i (wio R6 (j := 6) (i := 2) (show 2 < N 1 + 5 by omega) rfl (by decide) (yget R6 K6 (m := 0) (show 2 < N 1 + 5 by omega) (by decide) (by omega) (fun a ha => K6.e2 a 0 ha (by omega)) (nn_i (wio R6 (j := 14) (i := 0 + 1) (show 0 + 1 < N 2 + 1 by omega) rfl (by decide) ?_)))))))
    exact rr 1 (show 1 < N 2 + 1 by omega) (fun _ => rfl)
end CW
