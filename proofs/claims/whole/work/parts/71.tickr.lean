/-! ===== the reference: a tick, ticks, what is foretold ===== -/
section TR
variable {h : gH} {A : dA} {N zz : Nat → Nat} {S C C0 : dC} {P : dP} {M : dM} {tb : Int}
theorem io38 {h' : gH} {C' : dC} {M' : dM} {K : Prop} (Z' : RQ h' A N zz P S C0 C' M') (k : K) : io h' (A 38 0) 15 K := wio Z'.1 ⟨Nat.one_pos, by decide⟩ rfl (by decide) k
theorem rd40 {h' : gH} {C' : dC} {M' : dM} {K : Int32 → Prop} {x : Int32} {m : Nat} (Z' : RQ h' A N zz P S C0 C' M') (hx : x.toInt = (m : Int)) (hm : m < 1160) (k : ∀ y : Int32, y.toInt = M' m → K y) : gr h' (A 38 0) 15 0 (fun r => nn r (fun a => li h' a x K)) := by
  refine wgrs Z'.1 ⟨Nat.one_pos, by decide⟩ rfl rfl (nn_i ?_)
  exact wli Z'.1 ⟨Nat.one_pos, by decide⟩ rfl hx (show m < 1160 from hm) (fun y hy => k y (hy.trans (congrFun Z'.2.2.2 m)))
theorem wr40 {h' : gH} {C' : dC} {M' : dM} {K : gH → Prop} {x y : Int32} {m : Nat} {v : Int} (Z' : RQ h' A N zz P S C0 C' M') (hx : x.toInt = (m : Int)) (hm : m < 1160) (hy : y.toInt = v) (k : ∀ (h2 : gH) (C2 : dC), RQ h2 A N zz P S C0 C2 (um M' m v) → K h2) : gr h' (A 38 0) 15 0 (fun r => nn r (fun a => si h' a x y K)) := by
  obtain ⟨R, E, fr, rfl⟩ := Z'
  refine wgrs R ⟨Nat.one_pos, by decide⟩ rfl rfl (nn_i ?_)
  exact wsi R ⟨Nat.one_pos, by decide⟩ rfl hx (show m < 1160 from hm) hy (fun h2 R2 => k h2 _ ⟨R2, St.up rfl E, Fr.up (by unfold gP; omega) fr, by rw [um_up]⟩)
theorem ri40 {h' : gH} {C' : dC} {M' : dM} {K : gH → Prop} {x : Int32} {f : Int32 → Int32} {m : Nat} {v : Int} (Z' : RQ h' A N zz P S C0 C' M') (hx : x.toInt = (m : Int)) (hm : m < 1160) (hf : ∀ y : Int32, y.toInt = M' m → (f y).toInt = v) (k : ∀ (h2 : gH) (C2 : dC), RQ h2 A N zz P S C0 C2 (um M' m v) → K h2) : gr h' (A 38 0) 15 0 (fun r => nn r (fun a => li h' a x (fun y => si h' a x (f y) K))) := by
  obtain ⟨R, E, fr, rfl⟩ := Z'
  refine wgrs R ⟨Nat.one_pos, by decide⟩ rfl rfl (nn_i ?_)
  refine wli R ⟨Nat.one_pos, by decide⟩ rfl hx (show m < 1160 from hm) (fun y hy => ?_)
  exact wsi R ⟨Nat.one_pos, by decide⟩ rfl hx (show m < 1160 from hm) (hf y hy) (fun h2 R2 => k h2 _ ⟨R2, St.up rfl E, Fr.up (by unfold gP; omega) fr, by rw [um_up]⟩)
theorem b1_in (v : Int) : b1 v = 0 ∨ b1 v = 1 := by unfold b1; split <;> omega
theorem r_b254 {Qn : gH → Prop} {v2 v8 : Int32} {v5 v12 v14 : Int64} (Z : RQ h A N zz P S C0 C (tkA S M)) (I : SI S) (J : MI S tb M) (h8 : M 8 = 1) (hb : tb ≤ 100000) (h2 : v2.toInt = M 16) (h5 : v5.toInt = prg M 16) (h8' : v8.toInt = b1 (M 19)) (h12 : v12.toInt = prg (adB S M) 16) (h14 : v14.toInt = shr S (tkE S M)) (hsh : 0 ≤ shr S (tkE S M) ∧ shr S (tkE S M) ≤ 1000000) (k0 : ∀ (h' : gH) (C' : dC), RQ h' A N zz P S C0 C' (tkB S M) → Qn h') : vX12_ticks_b254 Qn h (A 38 0) v2 v5 v8 v12 v14 := by
  have j9 := J.sb h8
  have jb := J.cb h8
  have jt := J.tk
  have jf := J.fi
  have ev := evI_tkA I J
  have e287 : tkA S M 287 = M 287 := by rw [ev.2.2 287 (by omega), tkF_hi (by omega)]
  have e288 : tkF S M 288 = M 288 := tkF_hi (by omega)
  have hp : 0 ≤ prg M 16 := by show 0 ≤ M 17 * 1000000 + M 18; omega
  have K := MI_tkF I J h8
  unfold vX12_ticks_b254
  refine rd40 Z (m := 287) (by decide) (by decide) (fun x3 h3 => io38 Z ?_)
  exact r_fires Z I (fun p hp => by rw [ev.2.2 p (by omega), tkF_lo (by omega)]; exact J.va p hp) (s := (M 16).toNat) (by omega) h5 h8' h12 h14 (h3.trans e287) (by omega) ⟨hp, by omega⟩ hsh (n := 60) (M0 := tkF S M) (by omega) ev (fun h' C' Z' => k0 h' C' Z')
theorem r_b225 {Qn : gH → Prop} {v1 v2 v7 v8 v9 : Int32} {v3 v5 v10 v12 v14 : Int64} (Z : RQ h A N zz P S C0 C (tkF S M)) (I : SI S) (J : MI S tb M) (h8 : M 8 = 1) (hb : tb ≤ 100000) (h1 : v1.toInt = M 12) (h2 : v2.toInt = M 16) (h3 : v3.toInt = prg M 12) (h5 : v5.toInt = prg M 16) (h7 : v7.toInt = b1 (M 15)) (h8' : v8.toInt = b1 (M 19)) (h9 : v9.toInt = if M 20 = 0 then 1 else 0) (h10 : v10.toInt = prg (adB S M) 12) (h12 : v12.toInt = prg (adB S M) 16) (h14 : v14.toInt = shr S (tkE S M)) (hsh : 0 ≤ shr S (tkE S M) ∧ shr S (tkE S M) ≤ 1000000) (k0 : ∀ (h' : gH) (C' : dC), RQ h' A N zz P S C0 C' (tkB S M) → Qn h') : vX12_ticks_b225 Qn h (A 38 0) v1 v2 v3 v5 v7 v8 v9 v10 v12 v14 := by
  have j9 := J.sb h8
  have ja := J.ca
  have js := J.sa
  have jt := J.tk
  have jf := J.fi
  have e287 : tkF S M 287 = M 287 := tkF_hi (by omega)
  have e288 : tkF S M 288 = M 288 := tkF_hi (by omega)
  have hp : 0 ≤ prg M 12 := by show 0 ≤ M 13 * 1000000 + M 14; omega
  have K := MI_tkF I J h8
  have i0 : isV (0 : Int32) 0 := vl (by decide)
  unfold vX12_ticks_b225
  by_cases hz : M 20 = 0
  · have e : tkA S M = fir S (M 12).toNat (prg M 12) (b1 (M 15)) (prg (adB S M) 12) (1000000 - shr S (tkE S M)) (M 287) (tkF S M) := by unfold tkA; rw [if_pos hz]
    rw [if_pos hz] at h9
    refine ceq32 h9 i0 (fun z => absurd z (by decide)) (fun _ => ?_)
    refine rd40 Z (m := 287) (by decide) (by decide) (fun x3 hx3 => io38 Z ?_)
    exact r_fires Z I (fun p hp => by rw [tkF_lo (by omega)]; exact J.va p hp) (s := (M 12).toNat) (by omega) h3 h7 h10 (share := 1000000 - shr S (tkE S M)) (subL_ti (vlL (by decide)) h14 (by omega)) (hx3.trans e287) (by have := js.2.1 (by omega); omega) ⟨hp, by omega⟩ (by omega) (n := 0) (M0 := tkF S M) (by omega) (evI_of K.ev K.fi.1) (fun h' C' Z' => r_b254 (e ▸ Z') I J h8 hb h2 h5 h8' h12 h14 hsh k0)
  · have e : tkA S M = tkF S M := by unfold tkA; rw [if_neg hz]
    rw [if_neg hz] at h9
    refine ceq32 h9 i0 (fun _ => ?_) (fun z => absurd rfl z)
    exact r_b254 (e ▸ Z) I J h8 hb h2 h5 h8' h12 h14 hsh k0
theorem r_b160 {Qn : gH → Prop} {v1 v2 v7 v8 s0 : Int32} {v3 v5 : Int64} (Z : RQ h A N zz P S C0 C M) (I : SI S) (J : MI S tb M) (h8 : M 8 = 1) (hb : tb ≤ 100000) (h1 : v1.toInt = M 12) (h2 : v2.toInt = M 16) (h3 : v3.toInt = prg M 12) (h5 : v5.toInt = prg M 16) (h7 : v7.toInt = b1 (M 15)) (h8' : v8.toInt = b1 (M 19)) (h9 : s0.toInt = if M 20 = 0 then 1 else 0) (k0 : ∀ (h' : gH) (C' : dC), RQ h' A N zz P S C0 C' (tkB S M) → Qn h') : vX12_ticks_b160 Qn h (A 38 0) v1 v2 v3 v5 v7 v8 s0 := by
  have jx := J.xx h8
  have je := J.el h8
  have i1 := I.nt
  have i2 := I.td (M 9).toNat (by omega)
  have e9 : tkE S M 9 = M 9 := tkE_off (by omega)
  have e10 := tkE_10 S M
  have hd : durS S (M 9).toNat ≤ 60 := i2.2
  have hsh : 0 ≤ shr S (tkE S M) ∧ shr S (tkE S M) ≤ 1000000 := shr_in (by rw [e9, e10]; omega) (by rw [e9]; omega)
  unfold vX12_ticks_b160
  refine io38 Z (r_advancesBoth Z I J h8 hb (fun h1' C1 Z1 => io38 Z1 ?_))
  refine r_progress2 Z1 (t := 12) (by decide) (by decide) (fun x3 hx3 => io38 Z1 ?_)
  refine r_progress2 Z1 (t := 16) (by decide) (by decide) (fun x5 hx5 => ?_)
  have a10 : adB S M 10 = M 10 := adB_off (by omega)
  refine ri40 Z1 (m := 10) (f := fun x8 => x8 + 1) (v := adB S M 10 + 1) (by decide) (by decide) (fun y hy => add_ti hy (vl (by decide)) (by omega)) (fun h2' C2 Z2 => ?_)
  have Z2 : RQ h2' A N zz P S C0 C2 (tkE S M) := Z2
  refine io38 Z2 (r_share Z2 I (by rw [e9]; exact jx) (by rw [e9, e10]; omega) (by rw [e9]; omega) (fun x11 hx11 => ?_))
  refine rd40 Z2 (m := 10) (by decide) (by decide) (fun x14 hx14 => ?_)
  refine rd40 Z2 (m := 9) (by decide) (by decide) (fun x17 hx17 => io38 Z2 ?_)
  refine r_of Z2.1 (t := (M 9).toNat) (w := 2) (by rw [hx17, e9]; omega) (by decide) (by omega) (fun x19 hx19 => ?_)
  have hx19 : x19.toInt = durS S (M 9).toNat := hx19.trans (Z2.2.1 60 0 _ rfl)
  refine cne32 hx14 hx19 (fun c => ?_) (fun c => io38 Z2 ?_)
  · have e : tkF S M = tkE S M := by unfold tkF; rw [if_neg c]
    exact r_b225 (e ▸ Z2) I J h8 hb h1 h2 h3 h5 h7 h8' h9 hx3 hx5 hx11 hsh k0
  · have e : tkF S M = endM (tkE S M) := by unfold tkF; rw [if_pos c]
    exact r_ends Z2 (fun h' C' Z' => r_b225 (e ▸ Z') I J h8 hb h1 h2 h3 h5 h7 h8' h9 hx3 hx5 hx11 hsh k0)
theorem r_b95 {Qn : gH → Prop} {v1 v2 v7 s0 : Int32} {v3 v5 : Int64} (Z : RQ h A N zz P S C0 C M) (I : SI S) (J : MI S tb M) (hns : 0 < S 38 0 19) (hb : tb ≤ 100000) (h1 : v1.toInt = M 12) (h2 : v2.toInt = M 16) (h3 : v3.toInt = prg M 12) (h5 : v5.toInt = prg M 16) (h7 : v7.toInt = b1 (M 15)) (h8' : s0.toInt = b1 (M 19)) (k0 : ∀ (h' : gH) (C' : dC), RQ h' A N zz P S C0 C' (tkM S M) → Qn h') : vX12_ticks_b95 Qn h (A 38 0) v1 v2 v3 v5 v7 s0 := by
  have jm := J.mi
  have i0 : isV (0 : Int32) 0 := vl (by decide)
  unfold vX12_ticks_b95
  refine rd40 Z (m := 8) (by decide) (by decide) (fun x3 hx3 => ?_)
  refine cne32 hx3 i0 (fun c => ?_) (fun c => io38 Z ?_)
  · have h8 : M 8 = 1 := by omega
    have e : tkM S M = tkB S M := by unfold tkM; rw [if_neg c]
    rw [e] at k0
    refine rd40 Z (m := 20) (by decide) (by decide) (fun x6 hx6 => ?_)
    refine cne32 hx6 i0 (fun z => ?_) (fun z => ?_)
    · exact r_b160 Z I J h8 hb h1 h2 h3 h5 h7 h8' (by rw [if_neg z]; decide) k0
    · exact r_b160 Z I J h8 hb h1 h2 h3 h5 h7 h8' (by rw [if_pos z]; decide) k0
  · have e : tkM S M = tkI S M := by unfold tkM; rw [if_pos c]
    rw [e] at k0
    have t12 := MI_tr12 J hns
    have jt := J.tk
    have ja := J.ca
    have s12 := stp_in I M (t := 12) ⟨t12.1, t12.2.1⟩
    have K := MI_adA I J hns c
    have t1 := t12.1
    have hp : 0 ≤ prg M 12 := by show 0 ≤ M 13 * 1000000 + M 14; omega
    refine r_stepOf Z I J.va (t := 12) (by decide) (by decide) ⟨t12.1, t12.2.1⟩ (fun x h' C' Z1 hx => io38 Z1 ?_)
    refine r_adv_tr Z1 I (t := 12) (by decide) (by decide) hx s12 t12 (by omega) (fun h9 C9 Z9 => io38 Z9 ?_)
    refine r_progress2 Z9 (t := 12) (by decide) (by decide) (fun x11 hx11 => ?_)
    refine rd40 Z9 (m := 287) (by decide) (by decide) (fun x14 hx14 => io38 Z9 ?_)
    have a287 : adv S M 12 (stp S M 12) 287 = M 287 := adv_off (by omega)
    have a288 : adv S M 12 (stp S M 12) 288 = M 288 := adv_off (by omega)
    have jf := J.fi
    exact r_fires Z9 I (fun p hp => by rw [adv_off (by omega)]; exact J.va p hp) (s := (M 12).toNat) (by omega) h3 h7 hx11 (share := 1000000) (vlL (by decide)) (hx14.trans a287) (by have := t12.1; have := t12.2.1; omega) ⟨hp, by omega⟩ (by decide) (n := 0) (M0 := adv S M 12 (stp S M 12)) (by omega) (evI_of K.ev K.fi.1) (fun h' C' Z' => k0 h' C' Z')
theorem r_tk_exit {Qn : gH → Prop} {k14 : gH → Nat → Int32 → Prop} {v1 : Int32} (Z : RQ h A N zz P S C0 C M) (I : SI S) (J : MI S tb M) (hns : 0 < S 38 0 19) (hb : tb ≤ 100000) (h1 : v1.toInt = 4) (k0 : ∀ (h' : gH) (C' : dC), RQ h' A N zz P S C0 C' (tkM S M) → Qn h') : vX12_ticks_b14_o k14 Qn h (A 38 0) v1 := by
  unfold vX12_ticks_b14_o
  refine cle32 (vl (by decide)) h1 (fun _ => ?_) (fun z => absurd (by decide) z)
  refine rd40 Z (m := 12) (by decide) (by decide) (fun x3 hx3 => ?_)
  refine rd40 Z (m := 16) (by decide) (by decide) (fun x6 hx6 => io38 Z ?_)
  refine r_progress2 Z (t := 12) (by decide) (by decide) (fun x8 hx8 => io38 Z ?_)
  refine r_progress2 Z (t := 16) (by decide) (by decide) (fun x10 hx10 => ?_)
  have i1 : isV (1 : Int32) 1 := vl (by decide)
  have b77 : ∀ s : Int32, s.toInt = b1 (M 15) → vX12_ticks_b77 Qn h (A 38 0) x3 x6 x8 x10 s := fun s hs => by
    unfold vX12_ticks_b77
    refine rd40 Z (m := 19) (by decide) (by decide) (fun x hx => ?_)
    refine cne32 hx i1 (fun z => ?_) (fun z => ?_)
    · exact r_b95 Z I J hns hb hx3 hx6 hx8 hx10 hs (by unfold b1; rw [if_neg z]; decide) k0
    · exact r_b95 Z I J hns hb hx3 hx6 hx8 hx10 hs (by unfold b1; rw [if_pos z]; decide) k0
  refine rd40 Z (m := 15) (by decide) (by decide) (fun x13 hx13 => ?_)
  refine cne32 hx13 i1 (fun z => ?_) (fun z => ?_)
  · exact b77 _ (by unfold b1; rw [if_neg z]; decide)
  · exact b77 _ (by unfold b1; rw [if_pos z]; decide)
theorem r_tk_takes {Qn : gH → Prop} (I : SI S) (hns : 0 < S 38 0 19) (hb : tb ≤ 100000) : ∀ (m k : Nat) (h : gH) (C : dC) (M : dM) (v1 : Int32), RQ h A N zz P S C0 C M → MI S tb M → v1.toInt = (k : Int) → k + m = 4 → (∀ (h' : gH) (C' : dC), RQ h' A N zz P S C0 C' (tkM S (takN S m M)) → Qn h') → vX12_ticks_b14 Qn (m + 1) h (A 38 0) v1 := by
  intro m
  induction m with
  | zero =>
    intro k h C M v1 Z J h1 hk k0
    show vX12_ticks_b14_o (vX12_ticks_b14 Qn 0) Qn _ _ _; unfold vX12_ticks_b14_o
    exact r_tk_exit Z I J hns hb (by omega) k0
  | succ m ih =>
    intro k h C M v1 Z J h1 hk k0
    show vX12_ticks_b14_o (vX12_ticks_b14 Qn (m + 1)) Qn _ _ _
    unfold vX12_ticks_b14_o
    refine cle32 (vl (by decide)) h1 (fun z => absurd z (by omega)) (fun _ => io38 Z ?_)
    exact r_takes Z I J hns (fun x h' C' Z' => ih (k + 1) h' C' (tak S M) (v1 + 1) Z' (MI_tak I J hns) (ix_add h1 (ix_lit (by decide)) (by omega)) (by omega) k0)
theorem r_ticks {Qn : gH → Prop} (Z : RQ h A N zz P S C0 C M) (I : SI S) (J : MI S tb M) (hns : 0 < S 38 0 19) (hb : tb ≤ 100000) (h287 : 0 ≤ M 287 ∧ M 287 ≤ 1000000) (k0 : ∀ (h' : gH) (C' : dC), RQ h' A N zz P S C0 C' (tck S M) → Qn h') : vX12_ticks Qn h (A 38 0) := by
  unfold vX12_ticks
  refine ri40 Z (m := 287) (f := fun x3 => x3 + 1) (v := M 287 + 1) (by decide) (by decide) (fun y hy => add_ti hy (vl (by decide)) (by omega)) (fun h' C' Z' => ?_)
  exact ⟨5, r_tk_takes I hns hb 4 0 h' C' _ 0 Z' (MI_287 J _) (by decide) rfl k0⟩
end TR
