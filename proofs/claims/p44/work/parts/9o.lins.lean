/-! ===== a list takes an element at a place ===== -/
section LI
variable {h : gH} {A : dA} {N zz : Nat → Nat} {S C : dC} {P : dP} {t0 i n pl j' i' : Nat}
theorem c_b38 {Qn : gH → Prop} {v1 v3 : Int32} {a : Nat} (R : D h A N zz C P) (hi : i < N 1 + 5) (ha : a < N 4) (h1 : v1.toInt = (pl : Int)) (h3 : v3.toInt = (n : Int)) (hp : pl ≤ n) (hz : n < zz a) (hb : n < 1000) (ty : ∀ f q, f < n → P 7 a f = some q → q.1 = 9 ∨ q.1 = 12 ∨ q.1 = 14 ∨ q.1 = 15) (he : ac N j' i') (hj : j' = 9 ∨ j' = 12 ∨ j' = 14 ∨ j' = 15)
  (k0 : ∀ (h' : gH) (P1 : dP), D h' A N zz (up3 C 6 i 2 ((n : Int) + 1)) P1 → P1 7 a pl = some (j', i') → (∀ f, f < pl → P1 7 a f = P 7 a f) → (∀ f, pl ≤ f → f < n → P1 7 a (f + 1) = P 7 a f) → (∀ j x f : Nat, ¬ (j = 7 ∧ x = a) → P1 j x f = P j x f) → Qn h') : vJx4a65c_add_7a177_b38 t0 Qn h (A 6 i) v1 (some (A j' i')) v3 (some (A 7 a)) := by
  have a7 : ac N 7 a := ha
  have h11 : (v1 + 1).toInt = ((pl + 1 : Nat) : Int) := (add_ti h1 (vl (by decide)) (by omega)).trans (by omega)
  have h31 : (v3 - v1).toInt = ((n - pl : Nat) : Int) := (sub_ti h3 h1 (by omega)).trans (by omega)
  unfold vJx4a65c_add_7a177_b38
  generalize v1 + 1 = w1 at *
  generalize v3 - v1 = w3 at *
  refine nn_i (R.cpq (i := a) (i' := a) (n := n - pl) (sp := pl) (dp := pl + 1) a7 a7 h1 h11 h31 (by omega) (by omega) (by omega) (by omega) (fun f q hf hq => ty (pl + f) q (by omega) hq) (fun h2 R2 => nn_i ?_))
  refine R2.sq (j := 7) (i := a) a7 rfl rfl (Or.inl ⟨rfl, hj⟩) h1 (show pl < zz a by omega) rfl he (fun h4 R4 => ?_)
  refine wpvI R4 (show ac N 6 i from hi) rfl (v := (n : Int) + 1) (add_ti h3 (vl (by decide)) (by omega)) (fun h5 R5 => k0 h5 _ R5 (up3_same _ _ _ _ _) (fun f hf => ?_) (fun f hf1 hf2 => ?_) (fun j x f hj => ?_))
  · rw [up3_ne _ _ (by omega)]
    exact if_neg (by omega)
  · rw [up3_ne _ _ (by omega)]
    show (if 7 = 7 ∧ a = a ∧ pl + 1 ≤ f + 1 ∧ f + 1 < pl + 1 + (n - pl) then P 7 a (pl + (f + 1 - (pl + 1))) else P 7 a (f + 1)) = P 7 a f
    rw [if_pos ⟨rfl, rfl, by omega, by omega⟩, show pl + (f + 1 - (pl + 1)) = f by omega]
  · rw [up3_ne _ _ (by omega)]
    exact if_neg (by omega)
theorem c_lins {Qn : gH → Prop} {v1 : Int32} (R : D h A N zz C P) (ht : A 8 0 = t0) (hi : i < N 1 + 5) (hC : C 6 i 2 = (n : Int)) (hn : n ≤ 24) (ar : (n = 0 ∧ P 6 i 1 = some (8, 0)) ∨ exN (fun a => P 6 i 1 = some (7, a) ∧ a < N 4 ∧ n ≤ zz a ∧ 0 < zz a ∧ zz a ≤ 40)) (ty : ∀ a, P 6 i 1 = some (7, a) → ∀ f q, f < n → P 7 a f = some q → q.1 = 9 ∨ q.1 = 12 ∨ q.1 = 14 ∨ q.1 = 15) (he : ac N j' i') (hj : j' = 9 ∨ j' = 12 ∨ j' = 14 ∨ j' = 15) (h1 : v1.toInt = (pl : Int)) (hp : pl ≤ n)
  (k0 : ∀ (A1 : dA) (h' : gH) (N1 zz1 : Nat → Nat) (C1 : dC) (P1 : dP) (a1 : Nat), (∀ j x, ac N j x → A1 j x = A j x) → D h' A1 N1 zz1 C1 P1 → (∀ x, x ≠ 4 → N1 x = N x) → LA0 i n N zz P N1 zz1 C1 P1 a1 → (∀ j x f : Nat, ¬ (j = 6 ∧ x = i ∧ (f = 0 ∨ f = 2)) → C1 j x f = C j x f) → P1 7 a1 pl = some (j', i') → (∀ a f, P 6 i 1 = some (7, a) → f < pl → P1 7 a1 f = P 7 a f) → (∀ a f, P 6 i 1 = some (7, a) → pl ≤ f → f < n → P1 7 a1 (f + 1) = P 7 a f) → (∀ j x f : Nat, ¬ (j = 6 ∧ x = i ∧ f = 1) → ¬ (j = 7 ∧ x = a1) → P1 j x f = P j x f) → Qn h') : vJx4a65c_add_7a177 t0 Qn h (A 6 i) v1 (some (A j' i')) := by
  have a6 : ac N 6 i := hi
  have a8 : ac N 8 0 := ⟨Nat.one_pos, by decide⟩
  unfold vJx4a65c_add_7a177 vJx4a65c_rangeCheckForAdd_d00df
  refine wio R a6 rfl (by decide) (ygi R a6 rfl hC (fun x1 hx1 => clt32 hx1 h1 (fun z => by omega) (fun _ => cle32 (vl (by decide)) h1 (fun _ => ?_) (fun z => by omega))))
  refine ygi R a6 rfl (v := C 6 i 0) rfl (fun x1 _ => wpvI R a6 rfl (v := (x1 + 1).toInt) rfl (fun h2 R2 => ?_))
  generalize (x1 + 1).toInt = mc at *
  have hC2 : up3 C 6 i 0 mc 6 i 2 = (n : Int) := (up3_ne _ _ (by omega)).trans hC
  have fC2 : ∀ j x f : Nat, ¬ (j = 6 ∧ x = i ∧ f = 0) → up3 C 6 i 0 mc j x f = C j x f := fun j x f hj => up3_ne _ _ hj
  generalize up3 C 6 i 0 mc = C2 at *
  have go : ∀ (N1 zz1 : Nat → Nat) (A1 : dA) (h' : gH) (P1 : dP) (a1 : Nat) (v3 : Int32), (∀ j x, ac N j x → A1 j x = A j x) → D h' A1 N1 zz1 C2 P1 → (∀ x, x ≠ 4 → N1 x = N x) → N 4 ≤ N1 4 → (∀ b, b < N 4 → zz1 b = zz b) → P1 6 i 1 = some (7, a1) → (a1 < N1 4 ∧ n < zz1 a1 ∧ zz1 a1 ≤ 40) → (P 6 i 1 = some (7, a1) ∨ a1 = N 4) → (∀ a f, P 6 i 1 = some (7, a) → f < n → P1 7 a1 f = P 7 a f) → (0 < n → ∃ a, P 6 i 1 = some (7, a)) → (∀ j x f : Nat, ¬ (j = 6 ∧ x = i ∧ f = 1) → ¬ (j = 7 ∧ x = a1) → P1 j x f = P j x f) → ac N1 j' i' → v3.toInt = (n : Int) → vJx4a65c_add_7a177_b38 t0 (fun h5 => Qn h5) h' (A 6 i) v1 (some (A j' i')) v3 (some (A1 7 a1)) := fun N1 zz1 A1 h' P1 a1 v3 eA R1 eN e4 ez p1 ha or el hex fr he1 h3 => by
    rw [← eA 6 i a6, ← eA j' i' he]
    refine c_b38 R1 (by rw [eN 1 (by decide)]; exact hi) ha.1 h1 h3 hp ha.2.1 (by omega) (fun f q hf hq => ?_) he1 hj (fun h4 P4 R4 g1 g2 g3 g4 => ?_)
    · obtain ⟨a, pa⟩ := hex (by omega)
      rw [el a f pa hf] at hq
      exact ty a pa f q hf hq
    refine k0 A1 h4 N1 zz1 _ P4 a1 eA R4 eN ⟨up3_same _ _ _ _ _, (g4 _ _ _ (by omega)).trans p1, ha, or, e4, ez⟩ (fun j x f u => ?_) g1 (fun a f u1 u2 => ?_) (fun a f u1 u2 u3 => ?_) (fun j x f u1 u2 => ?_)
    · rw [up3_ne _ _ (by omega)]; exact fC2 j x f (by omega)
    · rw [g2 f u2]; exact el a f u1 (by omega)
    · rw [g3 f u2 u3]; exact el a f u1 u3
    · rw [g4 j x f u2]; exact fr j x f u1 u2
  have upac : ∀ j x, ac N j x → ac (upN N 4) j x := fun j x y => (ac_arr N j x).mpr (Or.inl y)
  have eN : ∀ x, x ≠ 4 → upN N 4 x = N x := fun x hx => if_neg hx
  have e4 : upN N 4 4 = N 4 + 1 := if_pos rfl
  rcases ar with ⟨z, p⟩ | ⟨a, p, ha, l1, l2, l3⟩
  · subst z
    refine ygi R2 a6 rfl hC2 (fun x4 h4 => ygr R2 a6 rfl p (nn_i (yal R2 a8 (by decide) (n := 0) rfl (by decide) (fun x2 hx2 => cne32 h4 hx2 (fun y => absurd rfl y) (fun _ => wio R2 a6 rfl (by decide) ?_)))))
    refine c_grow (a := 0) R2 ht hi hC2 (by decide) (Or.inl ⟨p, rfl⟩) (fun f q hf => by omega) (fun A1 h' P1 L eA l1 l2 R1 p1 fr el => ?_)
    have zl : zzA N zz L (N 4) = L := if_pos rfl
    exact go (upN N 4) (zzA N zz L) A1 h' P1 (N 4) x4 eA R1 eN (by omega) (fun b hb => if_neg (by omega)) p1 ⟨by omega, by rw [zl]; exact l1, by rw [zl]; exact l2⟩ (Or.inr rfl) (fun a f _ hf => by omega) (fun z => by omega) (fun j x f u1 u2 => fr j x f u2 u1) (upac _ _ he) h4
  · refine ygi R2 a6 rfl hC2 (fun x4 h4 => ygr R2 a6 rfl p (nn_i (yal R2 (show ac N 7 a from ha) (by decide) (n := zz a) rfl (by omega) (fun x2 hx2 => cne32 h4 hx2 (fun y => ?_) (fun y => wio R2 a6 rfl (by decide) ?_)))))
    · exact go N zz A h2 P a x4 (fun _ _ _ => rfl) R2 (fun _ _ => rfl) (Nat.le_refl _) (fun _ _ => rfl) p ⟨ha, by omega, l3⟩ (Or.inl p) (fun b f u _ => by rw [p] at u; cases u; rfl) (fun _ => ⟨a, p⟩) (fun _ _ _ _ _ => rfl) he h4
    · refine c_grow (a := a) R2 ht hi hC2 hn (Or.inr ⟨p, ha, by omega, by omega⟩) (ty a p) (fun A1 h' P1 L eA l1 l2 R1 p1 fr el => ?_)
      have zl : zzA N zz L (N 4) = L := if_pos rfl
      exact go (upN N 4) (zzA N zz L) A1 h' P1 (N 4) x4 eA R1 eN (by omega) (fun b hb => if_neg (by omega)) p1 ⟨by omega, by rw [zl]; exact l1, by rw [zl]; exact l2⟩ (Or.inr rfl) (fun b f u hf => by rw [p] at u; cases u; exact el (by omega) f hf) (fun _ => ⟨a, p⟩) (fun j x f u1 u2 => fr j x f u2 u1) (upac _ _ he) h4
end LI
