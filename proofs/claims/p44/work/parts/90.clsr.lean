/-! ===== the class: a tick ===== -/
section TK0
variable {S : dC} {k : Nat} {tq : Int} {M M' : dM} {C C' : dC} {P P' : dP}
/-- the number of ticks is not looked at in the slice -/
theorem CP.c287 (J : CP S k tq M C P) (hm : M 21 ≤ 24) (hv : M 166 ≤ 30) (e : ∀ f, f < 289 → f ≠ 287 → M' f = M f) : CP S k tq M' C P := by
  refine ⟨fun p hp => by rw [e p (by omega) (by omega)]; exact J.va p hp, by rw [e 11 (by omega) (by omega)]; exact J.cu, J.tk, by rw [e 288 (by omega) (by omega)]; exact J.fi, by rw [e 20 (by omega) (by omega)]; exact J.fz, by rw [e 8 (by omega) (by omega)]; exact J.mi, by rw [e 8 (by omega) (by omega), e 9 (by omega) (by omega), e 10 (by omega) (by omega)]; exact J.mx, by rw [e 12 (by omega) (by omega)]; exact J.sa, by rw [e 13 (by omega) (by omega), e 14 (by omega) (by omega), e 15 (by omega) (by omega)]; exact J.ta, by rw [e 8 (by omega) (by omega), e 16 (by omega) (by omega), e 17 (by omega) (by omega), e 18 (by omega) (by omega), e 19 (by omega) (by omega)]; exact J.sb, fun z => ?_, fun e1 w h1 h2 => ?_, J.bo⟩
  · rw [e 20 (by omega) (by omega)] at z
    rw [e 21 (by omega) (by omega)]
    exact ⟨(J.fr z).1, fun i hi => by rw [e (22 + 3 * i) (by omega) (by omega), e (23 + 3 * i) (by omega) (by omega), e (24 + 3 * i) (by omega) (by omega)]; exact (J.fr z).2 i hi⟩
  · rw [e 166 (by omega) (by omega)] at h1 ⊢
    rw [e 288 (by omega) (by omega), e (167 + 4 * e1 + w) (by omega) (by omega)]
    exact J.ev e1 w h1 h2
theorem CP.ela {v : Int} (J : CP S k tq M C P) (hm : M 21 ≤ 24) : CP S k tq (um M 10 v) (up3 C 21 k 5 v) P := by
  have eM : ∀ f, f ≠ 10 → um M 10 v f = M f := fun f h => um_n _ _ h
  have eC : ∀ j i f : Nat, ¬ (j = 21 ∧ i = k ∧ f = 5) → up3 C 21 k 5 v j i f = C j i f := fun j i f h => up3_ne _ _ h
  have m10 : um M 10 v 10 = v := um_s _ _ _
  have c5 : up3 C 21 k 5 v 21 k 5 = v := up3_same _ _ _ _ _
  generalize um M 10 v = M' at *
  generalize up3 C 21 k 5 v = C' at *
  obtain ⟨r1, r2, r3⟩ := J.rest (M' := M') (C' := C') (fun f h => eM f (by omega)) (fun j i f h => eC j i f (by omega))
  exact ⟨r1, by rw [eC 21 k 8 (by omega), eM 11 (by omega)]; exact J.cu, by rw [eC 21 k 9 (by omega)]; exact J.tk, r2, by rw [eC 21 k 6 (by omega), eM 20 (by omega)]; exact J.fz, by rw [eM 8 (by omega)]; exact J.mi, by rw [eM 8 (by omega), eM 9 (by omega), m10, c5]; exact fun z => ⟨(J.mx z).1, rfl⟩, by rw [eM 12 (by omega)]; exact J.sa, by rw [eM 13 (by omega), eM 14 (by omega), eM 15 (by omega), eC 23 k 1 (by omega), eC 23 k 2 (by omega), eC 23 k 3 (by omega)]; exact J.ta, by rw [eM 8 (by omega), eM 16 (by omega), eM 17 (by omega), eM 18 (by omega), eM 19 (by omega), eC 24 k 1 (by omega), eC 24 k 2 (by omega), eC 24 k 3 (by omega)]; exact J.sb, J.frs (fun f h => eM f (by omega)) (fun j i f h => eC j i f (by omega)) hm, r3, by rw [eC 23 k 3 (by omega), eC 23 k 5 (by omega), eC 24 k 3 (by omega), eC 24 k 5 (by omega)]; exact J.bo⟩
theorem CP.tik {tr : Int} (J : CP S k tq M C P) (hm : M 21 ≤ 24) : CP S k tr M (up3 C 21 k 9 tr) P := by
  have eC : ∀ j i f : Nat, ¬ (j = 21 ∧ i = k ∧ f = 9) → up3 C 21 k 9 tr j i f = C j i f := fun j i f h => up3_ne _ _ h
  have c9 : up3 C 21 k 9 tr 21 k 9 = tr := up3_same _ _ _ _ _
  generalize up3 C 21 k 9 tr = C' at *
  obtain ⟨r1, r2, r3⟩ := J.rest (M' := M) (C' := C') (fun f h => rfl) (fun j i f h => eC j i f (by omega))
  exact ⟨r1, by rw [eC 21 k 8 (by omega)]; exact J.cu, c9, r2, by rw [eC 21 k 6 (by omega)]; exact J.fz, J.mi, by rw [eC 21 k 5 (by omega)]; exact J.mx, J.sa, by rw [eC 23 k 1 (by omega), eC 23 k 2 (by omega), eC 23 k 3 (by omega)]; exact J.ta, by rw [eC 24 k 1 (by omega), eC 24 k 2 (by omega), eC 24 k 3 (by omega)]; exact J.sb, J.frs (fun f h => rfl) (fun j i f h => eC j i f (by omega)) hm, r3, by rw [eC 23 k 3 (by omega), eC 23 k 5 (by omega), eC 24 k 3 (by omega), eC 24 k 5 (by omega)]; exact J.bo⟩
theorem trF.cg {j s : Nat} {before fresh after : Int} (t : trF C P j k s before fresh after) (e : ∀ f, C' j k f = C j k f) (eP : P' j k 0 = P j k 0) : trF C' P' j k s before fresh after := by
  obtain ⟨t1, t2, t3, t4, t5, t6⟩ := t
  unfold trF
  rw [e 1, e 2, e 4, e 5, eP]
  exact ⟨t1, t2, t3, t4, t5, t6⟩
theorem takN_none (h : pick S M = none) : ∀ m, takN S m M = M
  | 0 => rfl
  | m + 1 => by
    have e : tak S M = M := by unfold tak; rw [h]
    show takN S m (tak S M) = M
    rw [e]
    exact takN_none h m
end TK0
section TK
variable {h : gH} {A : dA} {N zz : Nat → Nat} {S C C0 : dC} {P P0 : dP} {t0 k : Nat} {tq tb : Int} {M : dM}
theorem CQ.tik {h' : gH} {tr : Int} (Z : CQ h A N zz S k tq C0 P0 C P M) (hm : M 21 ≤ 24) (R' : D h' A N zz (up3 C 21 k 9 tr) P) : CQ h' A N zz S k tr C0 P0 (up3 C 21 k 9 tr) P M := ⟨R', Z.2.1.fr (fun j i f hj => up3_ne _ _ (by omega)) (fun _ _ _ _ => rfl), Z.2.2.1.tik hm, Z.2.2.2.1.up (mP_k (by decide)), Z.2.2.2.2⟩
theorem c_picks {Qn : gH → Prop} (hk : k < 4) (I : SI S) (hns : 0 < S 38 0 19) (hb : tb ≤ 100000) : ∀ (m i : Nat) (h : gH) (C : dC) (P : dP) (M : dM) (v1 : Int32), CQ h A N zz S k tq C0 P0 C P M → MI S tb M → v1.toInt = (i : Int) → i + m = 4 → (∀ (h' : gH) (C' : dC) (P' : dP), CQ h' A N zz S k tq C0 P0 C' P' (takN S m M) → vX3_runTick_b30 t0 Qn h' (A 21 k)) → vX3_runTick_b2 t0 Qn (m + 1) h (A 21 k) v1 := by
  intro m
  induction m with
  | zero =>
    intro i h C P M v1 Z J h1 hi kk
    show vX3_runTick_b2_o t0 (vX3_runTick_b2 t0 Qn 0) Qn _ _ _
    unfold vX3_runTick_b2_o
    exact cle32 (vl (by decide)) h1 (fun _ => kk h C P Z) (fun z => by omega)
  | succ m ih =>
    intro i h C P M v1 Z J h1 hi kk
    show vX3_runTick_b2_o t0 (vX3_runTick_b2 t0 Qn (m + 1)) Qn _ _ _
    unfold vX3_runTick_b2_o
    refine cle32 (vl (by decide)) h1 (fun z => by omega) (fun _ => iom hk Z.1 (c_firstPossible hk Z I J hb ?_))
    cases hp : pick S M with
    | none =>
      have e : pickT S M = none := by unfold pickT; rw [hp]; rfl
      rw [e]
      rw [takN_none hp] at kk
      exact ⟨fun _ => kk h C P Z, fun a z => by cases z⟩
    | some u =>
      obtain ⟨t, l⟩ := u
      obtain ⟨p1, p2, p3⟩ := pick_in hp
      have ht : (t : Int) < S 38 0 21 := by unfold nT at p1; omega
      have e : pickT S M = some t := by unfold pickT; rw [hp]; rfl
      have et : tak S M = takM S (clr S t (cnN S t) M) t l := by unfold tak; rw [hp]
      rw [e]
      have JT := MI_tak I J hns
      rw [et] at JT
      have kk' : ∀ (h' : gH) (C' : dC) (P' : dP), CQ h' A N zz S k tq C0 P0 C' P' (takN S m (takM S (clr S t (cnN S t) M) t l)) → vX3_runTick_b30 t0 Qn h' (A 21 k) := fun h' C' P' Z' => kk h' C' P' (by show CQ h' A N zz S k tq C0 P0 C' P' (takN S m (tak S M)); rw [et]; exact Z')
      refine ⟨(fun z => by cases z), fun a z => ?_⟩
      have z : some (A 15 (t + 1)) = some a := z
      cases z
      refine iom hk Z.1 (c_take hk Z I J hns ht p2 p3 (fun h' C' P' Z' => ih (i + 1) h' C' P' _ _ Z' JT (ix_add h1 (ix_lit (by decide)) (by omega)) (by omega) kk'))
theorem c_r69n {Qn : gH → Prop} {s : Nat} {before fresh after : Int} (hk : k < 4) (I : SI S) (Z : CQ h A N zz S k tq C0 P0 C P M) (J : MI S tb M) (h8 : M 8 = 0) (hq : 0 ≤ tq ∧ tq ≤ 1000000) (hb : tb ≤ 100001) (hs : (s : Int) < S 38 0 19) (t : trF C P 23 k s before fresh after) (hbf : 0 ≤ before) (hf : fresh = 0 ∨ fresh = 1) (k0 : ∀ (h' : gH) (C' : dC), CQ h' A N zz S k (tq + 1) C0 P0 C' P (fir S s before fresh after 1000000 (tq + 1) M) → Qn h') : vX3_runTick_b69 t0 Qn h (A 21 k) := by
  have j1 := J.fm
  have j2 := J.cu
  have j3 := J.fi
  unfold vX3_runTick_b69
  refine ygi Z.1 hk rfl Z.2.2.1.tk (fun x1 h1 => wpvI Z.1 hk rfl (v := tq + 1) (add_ti h1 (vl (by decide)) (by omega)) (fun h2 R2 => iom hk R2 ?_))
  have Z2 := Z.tik (by omega) R2
  unfold vX3_fireEvents
  refine ygn R2 hk rfl (Z2.2.2.1.mi h8) ⟨fun _ => m_src hk R2 (iom hk R2 ?_), fun a z => by cases z⟩
  exact c_fireTrack (Or.inl rfl) hk I hs Z2 J.va (t.cg (fun f => up3_ne _ _ (by omega)) rfl) hbf hf (vl (by decide)) (by decide) (evI_rf J) (by omega) (by omega) (fun h' C' Z' _ => k0 h' C' Z')
theorem c_r69t {Qn : gH → Prop} {s1 s2 : Nat} {bf1 fr1 af1 bf2 fr2 af2 : Int} (hk : k < 4) (I : SI S) (Z : CQ h A N zz S k tq C0 P0 C P M) (J : MI S tb M) (h8 : M 8 = 1) (hq : 0 ≤ tq ∧ tq ≤ 1000000) (hb : tb ≤ 100001) (hs1 : (s1 : Int) < S 38 0 19) (hs2 : (s2 : Int) < S 38 0 19) (t1 : M 20 = 0 → trF C P 23 k s1 bf1 fr1 af1) (t2 : trF C P 24 k s2 bf2 fr2 af2) (hb1 : 0 ≤ bf1) (hb2 : 0 ≤ bf2) (hf1 : fr1 = 0 ∨ fr1 = 1) (hf2 : fr2 = 0 ∨ fr2 = 1)
  (k0 : ∀ (h' : gH) (C' : dC), CQ h' A N zz S k (tq + 1) C0 P0 C' P (fir S s2 bf2 fr2 af2 (shr S M) (tq + 1) (if M 20 = 0 then fir S s1 bf1 fr1 af1 (1000000 - shr S M) (tq + 1) M else M)) → Qn h') : vX3_runTick_b69 t0 Qn h (A 21 k) := by
  have j1 := J.fm
  have j2 := J.cu
  have j3 := J.fi
  have jx := J.xx h8
  have je := J.el h8
  have sh := sh_in J h8
  unfold vX3_runTick_b69
  refine ygi Z.1 hk rfl Z.2.2.1.tk (fun x1 h1 => wpvI Z.1 hk rfl (v := tq + 1) (add_ti h1 (vl (by decide)) (by omega)) (fun h2 R2 => iom hk R2 ?_))
  have Z2 := Z.tik (by omega) R2
  have u1 : M 20 = 0 → trF (up3 C 21 k 9 (tq + 1)) P 23 k s1 bf1 fr1 af1 := fun z => (t1 z).cg (fun f => up3_ne _ _ (by omega)) rfl
  have u2 : trF (up3 C 21 k 9 (tq + 1)) P 24 k s2 bf2 fr2 af2 := t2.cg (fun f => up3_ne _ _ (by omega)) rfl
  generalize up3 C 21 k 9 (tq + 1) = C2 at *
  unfold vX3_fireEvents
  refine ygr R2 hk rfl (Z2.2.2.1.mx h8).1 ⟨(fun z => by cases z), fun a _ => iom hk R2 (c_share hk Z2 I h8 jx (by omega) (by omega) (fun x6 h6 => ?_))⟩
  have b42 : ∀ (h' : gH) (C' : dC) (M' : dM), CQ h' A N zz S k (tq + 1) C0 P0 C' P M' → trF C' P 24 k s2 bf2 fr2 af2 → evI M 60 M' → (∀ (h'' : gH) (C'' : dC), CQ h'' A N zz S k (tq + 1) C0 P0 C'' P (fir S s2 bf2 fr2 af2 (shr S M) (tq + 1) M') → Qn h'') → vX3_fireEvents_b42 t0 Qn h' (A 21 k) x6 := fun h' C' M' Z' u e kk => by
    unfold vX3_fireEvents_b42
    refine m_tgt hk Z'.1 (iom hk Z'.1 ?_)
    exact c_fireTrack (Or.inr rfl) hk I hs2 Z' (fun p hp => by rw [e.2.2 p (by omega)]; exact J.va p hp) u hb2 hf2 h6 sh e (by omega) (by omega) (fun h' C' Z' _ => kk h' C' Z')
  refine ygi R2 hk rfl Z2.2.2.1.fz (fun x7 h7 => cne32 h7 (vl (by decide)) (fun z => ?_) (fun z => ?_))
  · rw [if_neg z] at k0
    exact b42 h2 C2 M Z2 u2 (evI_more (evI_rf J) (by decide)) k0
  · rw [if_pos z] at k0
    refine m_src hk R2 (iom hk R2 ?_)
    exact c_fireTrack (Or.inl rfl) hk I hs1 Z2 J.va (u1 z) hb1 hf1 (sub_ti (vl (by decide)) h6 (by omega)) (by omega) (evI_rf J) (by omega) (by omega) (fun h' C' Z' f' => b42 h' C' _ Z' (u2.kf (Or.inr rfl) f') (evI_more (evI_fir I (evI_rf J)) (by decide)) k0)
end TK
section TK2
variable {h : gH} {A : dA} {N zz : Nat → Nat} {S C C0 : dC} {P P0 : dP} {t0 k : Nat} {tq tb : Int} {M : dM}
theorem b1_of {v : Int} (h : v = 0 ∨ v = 1) : b1 v = v := by
  unfold b1
  rcases h with z | z
  · rw [if_neg (by omega), z]
  · rw [if_pos z, z]
theorem tr_b {M : dM} {S : dC} {t : Nat} {b : Int} (h : trI S M t b) : 0 ≤ M (t + 1) ∧ 0 ≤ M (t + 2) ∧ M (t + 2) ≤ 1000000 ∧ M (t + 1) * 1000000 ≤ b := by
  obtain ⟨_, _, h3, h4, h5, h6, _⟩ := h
  rw [prg_of] at h6
  omega
theorem prg_pos {M : dM} {t : Nat} (h : 0 ≤ M (t + 1) ∧ 0 ≤ M (t + 2)) : 0 ≤ prg M t := by
  rw [prg_of]
  omega
theorem c_b30 {Qn : gH → Prop} (hk : k < 4) (I : SI S) (Z : CQ h A N zz S k tq C0 P0 C P M) (J : MI S tb M) (hns : 0 < S 38 0 19) (hq : 0 ≤ tq ∧ tq ≤ 1000000) (h287 : M 287 = tq + 1) (hb : tb ≤ 100000) (k0 : ∀ (h' : gH) (C' : dC) (P' : dP), CQ h' A N zz S k (tq + 1) C0 P0 C' P' (tkM S M) → Qn h') : vX3_runTick_b30 t0 Qn h (A 21 k) := by
  have jt := J.tk
  have jm := J.mi
  have jfa := J.fa
  have t12 := MI_tr12 J hns
  have p12 : 0 ≤ prg M 12 := prg_pos ⟨t12.2.2.1, t12.2.2.2.1⟩
  unfold vX3_runTick_b30
  refine iom hk Z.1 (c_advanceTracks hk Z I J hns hb (fun h8 h1 C1 Z1 d4 d5 => ?_) (fun h8 h1 C1 Z1 d => ?_))
  · have e : tkM S M = tkI S M := by unfold tkM; rw [if_pos h8]
    rw [e] at k0
    have JA := MI_adA I J hns h8
    have o8 : adv S M 12 (stp S M 12) 8 = 0 := (adv_off (by omega)).trans h8
    have o12 : adv S M 12 (stp S M 12) 12 = M 12 := adv_off (by omega)
    have s12 := JA.sa
    have c12 := JA.ca
    have q12 : prg (adv S M 12 (stp S M 12)) 12 = adv S M 12 (stp S M 12) 13 * 1000000 + adv S M 12 (stp S M 12) 14 := rfl
    have JC1 := Z1.2.2.1
    have ta := JC1.ta
    have sa := JC1.sa hns
    have etk : tkI S M = fir S (M 12).toNat (prg M 12) (M 15) (prg (adv S M 12 (stp S M 12)) 12) 1000000 (tq + 1) (adv S M 12 (stp S M 12)) := by unfold tkI; rw [b1_of jfa, h287]
    rw [etk] at k0
    rw [o12] at sa s12
    generalize adv S M 12 (stp S M 12) = F at *
    refine ygn Z1.1 hk rfl (JC1.mi o8) ⟨fun _ => ?_, (fun a z => by cases z)⟩
    exact c_r69n hk I Z1 JA o8 hq (by omega) (by omega) ⟨sa, by omega, by omega, by rw [ta.1, ta.2.1]; exact q12, d4, d5⟩ p12 jfa (fun h' C' Z' => k0 h' C' P Z')
  · have e : tkM S M = tkB S M := by unfold tkM; rw [if_neg (by omega)]
    rw [e] at k0
    have jfb := J.fb h8
    have t16 := MI_tr16 J h8
    have p16 : 0 ≤ prg M 16 := prg_pos ⟨t16.2.2.1, t16.2.2.2.1⟩
    have jx := J.xx h8
    have je := J.el h8
    have j1 := J.fm
    have j2 := J.cu
    have i2 := I.td (M 9).toNat (by omega)
    have hd : durS S (M 9).toNat = S 60 0 (17 * (M 9).toNat + 2) := rfl
    obtain ⟨a12, a16⟩ := adB_tr I J h8
    have JF := MI_tkF I J h8
    have ao := fun (f : Nat) (h : f < 13 ∨ f = 16 ∨ 20 ≤ f) => adB_off (S := S) (M := M) h
    have JC1 := Z1.2.2.1
    have mx := JC1.mx (by rw [ao 8 (by omega)]; exact h8)
    rw [ao 9 (by omega), ao 10 (by omega)] at mx
    have ta := JC1.ta
    have sa := JC1.sa hns
    have sb := JC1.sb (by rw [ao 8 (by omega)]; exact h8)
    have bo := JC1.bo
    have am : ac N 21 k := hk
    obtain ⟨dA, dB1, dB2⟩ := d
    refine ygr Z1.1 am rfl mx.1 ⟨(fun z => by cases z), fun a _ => ?_⟩
    refine ygi Z1.1 am rfl mx.2 (fun x4 h4 => wpvI Z1.1 am rfl (v := M 10 + 1) (add_ti h4 (vl (by decide)) (by omega)) (fun h5 R5 => ?_))
    have J5 : CP S k tq (tkE S M) (up3 C1 21 k 5 (M 10 + 1)) P := by
      have := JC1.ela (v := M 10 + 1) (by rw [ao 21 (by omega)]; omega)
      unfold tkE
      rw [ao 10 (by omega)]
      exact this
    have Z5 : CQ h5 A N zz S k tq C0 P0 (up3 C1 21 k 5 (M 10 + 1)) P (tkE S M) := ⟨R5, Z1.2.1.fr (fun j i f hj => up3_ne _ _ (by omega)) (fun _ _ _ _ => rfl), J5, Z1.2.2.2.1.up (mP_k (by decide)), Z1.2.2.2.2⟩
    have eo := fun (f : Nat) (h : f ≠ 10) => (show tkE S M f = adB S M f from um_n _ _ h)
    have e10 := tkE_10 S M
    have c5 : ∀ j i f : Nat, ¬ (j = 21 ∧ i = k ∧ f = 5) → up3 C1 21 k 5 (M 10 + 1) j i f = C1 j i f := fun j i f h => up3_ne _ _ h
    have c55 : up3 C1 21 k 5 (M 10 + 1) 21 k 5 = M 10 + 1 := up3_same _ _ _ _ _
    generalize up3 C1 21 k 5 (M 10 + 1) = C5 at *
    have tr := Z5.2.1.tr (M 9).toNat (by have := Z5.2.1.nn; omega)
    have q12 : prg (adB S M) 12 = adB S M 13 * 1000000 + adB S M 14 := rfl
    have q16 : prg (adB S M) 16 = adB S M 17 * 1000000 + adB S M 18 := rfl
    obtain ⟨u1, u2, u3, u4⟩ := tr_b a16
    have u1 : 0 ≤ adB S M 17 := u1
    have u2 : 0 ≤ adB S M 18 := u2
    have u3 : adB S M 18 ≤ 1000000 := u3
    have u4 : adB S M 17 * 1000000 ≤ _ := u4
    have s12 := t12.2.1
    have s12' := t12.1
    have s16 := t16.2.1
    have s16' := t16.1
    refine ygi R5 am rfl c55 (fun x6 h6 => ygr R5 am rfl mx.1 (nn_i (ygi R5 (tr_in Z5.2.1 (by omega)) rfl tr.2.1 (fun x9 h9 => clt32 h6 h9 (fun z => ?_) (fun z => iom hk R5 ?_)))))
    · -- the change goes on
      have eF : tkF S M = tkE S M := by unfold tkF; rw [if_neg (by omega)]
      rw [eF] at JF
      have etk : tkB S M = fir S (M 16).toNat (prg M 16) (M 19) (prg (adB S M) 16) (shr S (tkE S M)) (tq + 1) (if tkE S M 20 = 0 then fir S (M 12).toNat (prg M 12) (M 15) (prg (adB S M) 12) (1000000 - shr S (tkE S M)) (tq + 1) (tkE S M) else tkE S M) := by
        unfold tkB tkA
        rw [b1_of jfa, b1_of jfb, h287, eF, eo 20 (by decide), ao 20 (by omega)]
      rw [etk] at k0
      obtain ⟨w1, w2, w3, w4⟩ := tr_b a12
      have w1 : 0 ≤ adB S M 13 := w1
      have w2 : 0 ≤ adB S M 14 := w2
      have w3 : adB S M 14 ≤ 1000000 := w3
      have w4 : adB S M 13 * 1000000 ≤ _ := w4
      have e20 : tkE S M 20 = M 20 := (eo 20 (by decide)).trans (ao 20 (by omega))
      have e8 : tkE S M 8 = 1 := (eo 8 (by decide)).trans ((ao 8 (by omega)).trans h8)
      rw [ao 12 (by omega)] at sa
      rw [ao 16 (by omega)] at sb
      refine c_r69t hk I Z5 JF e8 hq (by omega) (s1 := (M 12).toNat) (s2 := (M 16).toNat) (by omega) (by omega) (fun y => ?_) ?_ p12 p16 jfa jfb (fun h' C' Z' => k0 h' C' P Z')
      · obtain ⟨d1, d2⟩ := dA (by omega)
        refine ⟨sa, ?_, ?_, ?_, ?_, ?_⟩
        · rw [c5 23 k 1 (by omega), ta.1]; omega
        · rw [c5 23 k 2 (by omega), ta.2.1]; omega
        · rw [c5 23 k 1 (by omega), ta.1, c5 23 k 2 (by omega), ta.2.1]; exact q12
        · rw [c5 23 k 4 (by omega)]; exact d1
        · rw [c5 23 k 5 (by omega)]; exact d2
      · refine ⟨sb.1, ?_, ?_, ?_, ?_, ?_⟩
        · rw [c5 24 k 1 (by omega), sb.2.1]; omega
        · rw [c5 24 k 2 (by omega), sb.2.2.1]; omega
        · rw [c5 24 k 1 (by omega), sb.2.1, c5 24 k 2 (by omega), sb.2.2.1]; exact q16
        · rw [c5 24 k 4 (by omega)]; exact dB1
        · rw [c5 24 k 5 (by omega)]; exact dB2
    · -- it ends
      have dd : M 10 + 1 = durS S (M 9).toNat := by omega
      have eF : tkF S M = endM (tkE S M) := by unfold tkF; rw [if_pos (by omega)]
      have es : shr S (tkE S M) = 1000000 := by
        unfold shr
        rw [eo 9 (by decide), ao 9 (by omega), e10, ← dd]
        exact Int.mul_ediv_cancel _ (by omega)
      have etk : tkB S M = fir S (M 16).toNat (prg M 16) (M 19) (prg (adB S M) 16) 1000000 (tq + 1) (tkF S M) := by
        unfold tkB tkA
        rw [es, b1_of jfb, h287, show (1000000 : Int) - 1000000 = 0 by decide, fir_zero I, ite_self]
      rw [etk] at k0
      have f8 : tkF S M 8 = 0 := by rw [eF]; rfl
      rw [ao 16 (by omega)] at sb
      refine c_idle hk R5 (by rw [c5 24 k 3 (by omega)]; exact bo.2.2.1) (by rw [c5 24 k 5 (by omega)]; exact bo.2.2.2) (fun h11 C11 P11 R11 f1 f2 e5 f3 g1 g2 g3 => ?_)
      have J11 : CP S k tq (tkF S M) C11 P11 := by
        rw [eF]
        refine J5.idle f1 f2 f3 g1 g2 (fun f hf => ?_) rfl rfl rfl ⟨fun _ => ?_, ?_, ?_, ?_⟩
        · rcases hf with hf | hf
          · exact endM_lo hf
          · exact endM_hi (by omega)
        · show P 24 k 0 = some (14, (tkE S M 16).toNat + 1)
          rw [eo 16 (by decide), ao 16 (by omega)]
          exact sb.1
        · show C5 24 k 1 = tkE S M 17
          rw [eo 17 (by decide), c5 24 k 1 (by omega)]
          exact sb.2.1
        · show C5 24 k 2 = tkE S M 18
          rw [eo 18 (by decide), c5 24 k 2 (by omega)]
          exact sb.2.2.1
        · show C5 24 k 3 = tkE S M 19
          rw [eo 19 (by decide), c5 24 k 3 (by omega)]
          exact sb.2.2.2
      have Z11 : CQ h11 A N zz S k tq C0 P0 C11 P11 (tkF S M) := ⟨R11, Z5.2.1.fr (fun j i f hj => f1 j i f (by omega) (by omega)) (fun j i f hj => g3 j i f (by omega) (by omega)), J11, fun j i f hj => (f1 j i f (fun q => hj (by rw [q.1, q.2.1]; exact mP_k (by decide))) (fun q => hj (by rw [q.1, q.2.1]; exact mP_k (by decide)))).trans (Z5.2.2.2.1 j i f hj), fun j i f hj => (g3 j i f (fun q => hj (by rw [q.1, q.2.1]; exact mP_k (by decide))) (fun q => hj (by rw [q.1, q.2.1]; exact mP_k (by decide)))).trans (Z5.2.2.2.2 j i f hj)⟩
      refine c_r69n hk I Z11 JF f8 hq (by omega) (s := (M 16).toNat) (by omega) ⟨g1.trans sb.1, ?_, ?_, ?_, ?_, ?_⟩ p16 jfb (fun h' C' Z' => k0 h' C' P11 Z')
      · rw [f2 1 (by decide) (by decide), c5 24 k 1 (by omega), sb.2.1]; omega
      · rw [f2 2 (by decide) (by decide), c5 24 k 2 (by omega), sb.2.2.1]; omega
      · rw [f2 1 (by decide) (by decide), c5 24 k 1 (by omega), sb.2.1, f2 2 (by decide) (by decide), c5 24 k 2 (by omega), sb.2.2.1]; exact q16
      · rw [f2 4 (by decide) (by decide), c5 24 k 4 (by omega)]; exact dB1
      · rw [f2 5 (by decide) (by decide), c5 24 k 5 (by omega)]; exact dB2
theorem c_runTick {Qn : gH → Prop} (hk : k < 4) (I : SI S) (Z : CQ h A N zz S k (M 287) C0 P0 C P M) (J : MI S tb M) (hns : 0 < S 38 0 19) (hq : 0 ≤ M 287 ∧ M 287 ≤ 1000000) (hb : tb ≤ 100000) (k0 : ∀ (h' : gH) (C' : dC) (P' : dP), CQ h' A N zz S k (tck S M 287) C0 P0 C' P' (tck S M) → Qn h') : vX3_runTick t0 Qn h (A 21 k) := by
  have j1 := J.fm
  have j2 := J.cu
  have j3 := J.ev
  rw [tck_287 I J hns] at k0
  have Z1 : CQ h A N zz S k (M 287) C0 P0 C P (um M 287 (M 287 + 1)) := ⟨Z.1, Z.2.1, Z.2.2.1.c287 (by omega) (by omega) (fun f _ h => um_n _ _ h), Z.2.2.2⟩
  have J1 := MI_287 J (M 287 + 1)
  have KT := MI_takN I hns 4 _ J1
  unfold vX3_runTick
  refine ⟨5, c_picks hk I hns hb 4 0 h C P _ 0 Z1 J1 (by decide) (by decide) (fun h' C' P' Z' => ?_)⟩
  exact c_b30 hk I Z' KT hns hq (by rw [takN_hi I hns (by omega) 4 _ J1, um_s]) hb (fun h2 C2 P2 Z2 => k0 h2 C2 P2 Z2)
end TK2
