/-! ===== the class: an event is inserted ===== -/
section CE
variable {h : gH} {A : dA} {N zz : Nat → Nat} {S S' C C' C0 : dC} {P P0 : dP} {t0 : Nat}
theorem q_insertEvent {Qn : gH → Prop} {t d : Int32} {i m : Nat} (R : D h A N zz C P) (hi : ac N 9 i) (hm : C 9 i 4 = (m : Int)) (h5 : m < 5) (k0 : ∀ (h' : gH) (C' : dC), D h' A N zz C' P → (∀ j i' f : Nat, ¬ ((j = 10 ∨ j = 11) ∧ i' = i) → ¬ (j = 9 ∧ i' = i ∧ f = 4) → C' j i' f = C j i' f) → C' 9 i 4 = (m : Int) + 1 → (∀ w : Nat, w < m + 1 → C' 10 i w = insF (C 10 i) (insK (C 10 i) t.toInt m) t.toInt w ∧ C' 11 i w = insF (C 11 i) (insK (C 10 i) t.toInt m) d.toInt w) → Qn h') : vX1_insertEvent t0 Qn h (A 9 i) t d := by
  have a10 : ac N 10 i := hi
  have a11 : ac N 11 i := hi
  have fin : ∀ (n : Nat) (h' : gH) (C' : dC) (v3 : Int32), D h' A N zz C' P → v3.toInt = (n : Int) → n ≤ m → insK (C 10 i) t.toInt m = n → (∀ w : Nat, n < w → w < m + 1 → C' 10 i w = C 10 i (w - 1) ∧ C' 11 i w = C 11 i (w - 1)) → (∀ j i' f : Nat, ¬ ((j = 10 ∨ j = 11) ∧ i' = i ∧ n < f) → C' j i' f = C j i' f) → vX1_insertEvent_b71 t0 Qn h' (A 9 i) t d v3 := fun n h' C' v3 R' h3 hn hk hw hf => by
    unfold vX1_insertEvent_b71
    refine wgrs R' hi rfl (show dS 9 i 2 = some (10, i) from rfl) (nn_i (wsi R' a10 rfl h3 (show n < 5 by omega) (rfl : t.toInt = t.toInt) (fun h3' R3 => ?_)))
    refine wgrs R3 hi rfl (show dS 9 i 3 = some (11, i) from rfl) (nn_i (wsi R3 a11 rfl h3 (show n < 5 by omega) (rfl : d.toInt = d.toInt) (fun h6 R6 => ?_)))
    refine ygi R6 hi rfl (v := (m : Int)) ((up3_ne _ _ (by omega)).trans ((up3_ne _ _ (by omega)).trans ((hf _ _ _ (by omega)).trans hm))) (fun x7 h7 => wpvI R6 hi rfl (v := (m : Int) + 1) (add_ti h7 (vl (by decide)) (by omega)) (fun h8 R8 => ?_))
    refine k0 h8 _ R8 (fun j i' f a b => ?_) (up3_same _ _ _ _ _) (fun w hw' => ⟨?_, ?_⟩)
    · rw [up3_ne _ _ (by omega), up3_ne _ _ (by omega), up3_ne _ _ (by omega)]
      exact hf j i' f (by omega)
    · rw [hk]
      have a1 : ∀ v, up3 (up3 (up3 C' 10 i n t.toInt) 11 i n d.toInt) 9 i 4 v 10 i w = up3 C' 10 i n t.toInt 10 i w := fun v => (up3_ne _ _ (by omega)).trans (up3_ne _ _ (by omega))
      rw [a1]
      unfold insF
      by_cases z : w < n
      · rw [if_pos z, up3_ne _ _ (by omega)]; exact hf _ _ _ (by omega)
      · rw [if_neg z]
        by_cases y : w = n
        · rw [if_pos y, y, up3_same]
        · rw [if_neg y, up3_ne _ _ (by omega)]; exact (hw w (by omega) hw').1
    · rw [hk]
      have a1 : ∀ v, up3 (up3 (up3 C' 10 i n t.toInt) 11 i n d.toInt) 9 i 4 v 11 i w = up3 (up3 C' 10 i n t.toInt) 11 i n d.toInt 11 i w := fun v => up3_ne _ _ (by omega)
      have a2 : ∀ w, w ≠ n → up3 (up3 C' 10 i n t.toInt) 11 i n d.toInt 11 i w = C' 11 i w := fun w hw => (up3_ne _ _ (by omega)).trans (up3_ne _ _ (by omega))
      rw [a1]
      unfold insF
      by_cases z : w < n
      · rw [if_pos z, a2 w (by omega)]; exact hf _ _ _ (by omega)
      · rw [if_neg z]
        by_cases y : w = n
        · rw [if_pos y, y, up3_same]
        · rw [if_neg y, a2 w y]; exact (hw w (by omega) hw').2
  have lp : ∀ (n : Nat) (h' : gH) (C' : dC) (v3 : Int32), D h' A N zz C' P → v3.toInt = (n : Int) → n ≤ m → insK (C 10 i) t.toInt m = insK (C 10 i) t.toInt n → (∀ w : Nat, n < w → w < m + 1 → C' 10 i w = C 10 i (w - 1) ∧ C' 11 i w = C 11 i (w - 1)) → (∀ j i' f : Nat, ¬ ((j = 10 ∨ j = 11) ∧ i' = i ∧ n < f) → C' j i' f = C j i' f) → vX1_insertEvent_b21 t0 Qn (n + 1) h' (A 9 i) t d v3 := by
    intro n
    induction n with
    | zero =>
      intro h' C' v3 R' h3 hn hk hw hf
      show vX1_insertEvent_b21_o t0 (vX1_insertEvent_b21 t0 Qn 0) Qn _ _ _ _ _
      unfold vX1_insertEvent_b21_o
      exact cle32 h3 (vl (by decide)) (fun _ => fin 0 h' C' v3 R' h3 hn hk hw hf) (fun z => by omega)
    | succ n ih =>
      intro h' C' v3 R' h3 hn hk hw hf
      have h31 : (v3 - 1).toInt = ((n : Nat) : Int) := sub_ti h3 (vl (by decide)) (by omega) |>.trans (by omega)
      have b : -2147483648 ≤ ((n + 1 : Nat) : Int) + -1 ∧ ((n + 1 : Nat) : Int) + -1 < 2147483648 := by omega
      have h32 : (v3 + (-1)).toInt = ((n : Nat) : Int) := (add_ti h3 (show (-1 : Int32).toInt = -1 by decide) b).trans (by omega)
      have ek : insK (C 10 i) t.toInt (n + 1) = if t.toInt < C 10 i n then insK (C 10 i) t.toInt n else n + 1 := rfl
      show vX1_insertEvent_b21_o t0 (vX1_insertEvent_b21 t0 Qn (n + 1)) Qn _ _ _ _ _
      unfold vX1_insertEvent_b21_o
      refine cle32 h3 (vl (by decide)) (fun z => by omega) (fun _ => ?_)
      refine wgrs R' hi rfl (show dS 9 i 2 = some (10, i) from rfl) (nn_i (yli R' a10 rfl h31 (show n < 5 by omega) (hf 10 i n (by omega)) (fun x3 h3x => cle32 h3x rfl (fun z => ?_) (fun z => ?_))))
      · rw [ek, if_neg (by omega)] at hk
        exact fin (n + 1) h' C' v3 R' h3 hn hk hw hf
      · rw [ek, if_pos (by omega)] at hk
        refine wgrs R' hi rfl (show dS 9 i 2 = some (10, i) from rfl) (wgrs R' hi rfl (show dS 9 i 2 = some (10, i) from rfl) (nn_i (yli R' a10 rfl h31 (show n < 5 by omega) (hf 10 i n (by omega)) (fun x7 h7 => nn_i (wsi R' a10 rfl h3 (show n + 1 < 5 by omega) h7 (fun h9 R9 => ?_))))))
        refine wgrs R9 hi rfl (show dS 9 i 3 = some (11, i) from rfl) (wgrs R9 hi rfl (show dS 9 i 3 = some (11, i) from rfl) (nn_i (yli R9 a11 rfl h31 (show n < 5 by omega) (v := C 11 i n) ((up3_ne _ _ (by omega)).trans (hf 11 i n (by omega))) (fun x13 h13 => nn_i (wsi R9 a11 rfl h3 (show n + 1 < 5 by omega) h13 (fun h15 R15 => ?_))))))
        refine ih h15 _ _ R15 h32 (by omega) hk (fun w w1 w2 => ?_) (fun j i' f a => ?_)
        · by_cases z : w = n + 1
          · rw [z]
            exact ⟨(up3_ne _ _ (by omega)).trans (up3_same _ _ _ _ _), up3_same _ _ _ _ _⟩
          · have q := hw w (by omega) w2
            exact ⟨(up3_ne _ _ (by omega)).trans ((up3_ne _ _ (by omega)).trans q.1), (up3_ne _ _ (by omega)).trans ((up3_ne _ _ (by omega)).trans q.2)⟩
        · rw [up3_ne _ _ (by omega), up3_ne _ _ (by omega)]
          exact hf j i' f (by omega)
  unfold vX1_insertEvent vX1_insertEvent_b15
  refine ygi R hi rfl hm (fun x1 h1 => clt32 h1 (vl (by decide)) (fun z => by omega) (fun _ => ygi R hi rfl hm (fun x2 h2 => clt32 h2 (vl (by decide)) (fun _ => ygi R hi rfl hm (fun x3 h3 => ⟨m + 1, ?_⟩)) (fun z => by omega))))
  exact lp m h C x3 R h3 (Nat.le_refl m) rfl (fun w a b => by omega) (fun _ _ _ _ => rfl)
theorem q_addEvent {Qn : Int32 → gH → Prop} {Qx : String → gH → Prop} {c t d : Int32} (R : D h A N zz C P) (K : KS S N zz C P) (I : SI S) (kx : c.toInt < 0 ∨ S 38 0 8 ≤ c.toInt → Qx "java/lang/IndexOutOfBoundsException" h) (ky : 0 ≤ c.toInt → c.toInt < S 38 0 8 → (t.toInt < 0 ∨ S 44 0 c.toInt.toNat ≤ t.toInt) ∨ (d.toInt < 0 ∨ 99 < d.toInt) → Qx "java/lang/IllegalArgumentException" h) (kz : 0 ≤ c.toInt → c.toInt < S 38 0 8 → 0 ≤ t.toInt → t.toInt < S 44 0 c.toInt.toNat → 0 ≤ d.toInt → d.toInt ≤ 99 → 5 ≤ S 45 0 c.toInt.toNat → Qx "java/lang/IllegalStateException" h) (k0 : 0 ≤ c.toInt → c.toInt < S 38 0 8 → 0 ≤ t.toInt → t.toInt < S 44 0 c.toInt.toNat → 0 ≤ d.toInt → d.toInt ≤ 99 → S 45 0 c.toInt.toNat < 5 → ∀ (x : Int32) (h' : gH) (C' : dC), D h' A N zz C' P → (∀ j i' f : Nat, ¬ ((j = 10 ∨ j = 11) ∧ i' = c.toInt.toNat + 1) → ¬ (j = 9 ∧ i' = c.toInt.toNat + 1 ∧ f = 4) → C' j i' f = C j i' f) → C' 9 (c.toInt.toNat + 1) 4 = S 45 0 c.toInt.toNat + 1 → (∀ w : Nat, w < (S 45 0 c.toInt.toNat).toNat + 1 → C' 10 (c.toInt.toNat + 1) w = insF (C 10 (c.toInt.toNat + 1)) (insK (C 10 (c.toInt.toNat + 1)) t.toInt (S 45 0 c.toInt.toNat).toNat) t.toInt w ∧ C' 11 (c.toInt.toNat + 1) w = insF (C 11 (c.toInt.toNat + 1)) (insK (C 10 (c.toInt.toNat + 1)) t.toInt (S 45 0 c.toInt.toNat).toNat) d.toInt w) → x.toInt = S 45 0 c.toInt.toNat + 1 → Qn x h') : vX11_addEvent t0 Qn Qx h (A 0 0) c t d := by
  have n0 := K.nn
  unfold vX11_addEvent vX11_addEvent_b30
  refine i00 R (q_clip R K kx (fun s hv hs => ?_))
  have es : c.toInt.toNat = s := by omega
  rw [es] at ky kz k0
  have ky := ky (by omega) (by omega)
  have kz := kz (by omega) (by omega)
  have k0 := k0 (by omega) (by omega)
  have aC := cl_in K hs
  have kc := K.cl s (by omega)
  have i8 := I.nc
  have ie := I.em s (by omega)
  refine clt32 rfl (vl (by decide)) (fun z => ky (Or.inl (Or.inl z))) (fun a => nn_i (ygi R aC rfl kc.2.1 (fun x4 h4 => cle32 h4 rfl (fun z => ky (Or.inl (Or.inr z))) (fun b => clt32 rfl (vl (by decide)) (fun z => ky (Or.inr (Or.inl z))) (fun e => cle32 rfl (vl (by decide)) (fun f => ?_) (fun z => ky (Or.inr (Or.inr (by omega)))))))))
  refine ygi R aC rfl kc.2.2 (fun x5 h5 => clt32 h5 (vl (by decide)) (fun g => wio R aC rfl (by decide) ?_) (fun g => kz (by omega) (by omega) (by omega) f (by omega)))
  have hm : S 45 0 s = (((S 45 0 s).toNat : Nat) : Int) := by omega
  refine q_insertEvent R aC (m := (S 45 0 s).toNat) (kc.2.2.trans hm) (by omega) (fun h6 C6 R6 f6 e6 w6 => ?_)
  exact ygi R6 aC rfl (e6.trans (by omega)) (fun x hx => k0 (by omega) (by omega) (by omega) f g x h6 C6 R6 f6 (e6.trans (by omega)) w6 hx)
end CE
