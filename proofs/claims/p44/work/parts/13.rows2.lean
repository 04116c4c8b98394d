/-! ===== further words and rows: arrays of references, null, casts, copies ===== -/
/-- the kinds of objects that the lists hold -/
def gOb (h : gH) (a : Nat) : Prop := ∃ (ci : Nat) (fs : List Value), h a = some (.inr (ci, fs)) ∧ (ci = 4 ∨ ci = 8 ∨ ci = 10 ∨ ci = 12)
def lq (h : gH) (kt a : Nat) (i : Int32) (K : Option Nat → Prop) : Prop := ∃ (N : Nat) (g : Nat → Option Nat), h a = some (.inl (kt, N, .inr (.inr (.inr (.inr g))))) ∧ vp_in i N ∧ K (g i.toNatClampNeg)
def sq (h : gH) (kt a : Nat) (i : Int32) (v : Nat) (K : gH → Prop) : Prop := ∃ (N : Nat) (g : Nat → Option Nat), h a = some (.inl (kt, N, .inr (.inr (.inr (.inr g))))) ∧ vp_in i N ∧ (kt = 3 ∧ gOb h v ∨ kt = 5 ∧ ∃ fs, h v = some (.inr (6, fs))) ∧ K (va_up h a (some (.inl (kt, N, .inr (.inr (.inr (.inr (va_up g i.toNatClampNeg (some v)))))))))
def al (h : gH) (a : Nat) (K : Int32 → Prop) : Prop := ∃ (kt : Nat) (x : vp_A), h a = some (.inl (kt, x)) ∧ kt < 6 ∧ K (Int32.ofNat x.1)
def cpi (h : gH) (a : Nat) (sp : Int32) (b : Nat) (dp n : Int32) (K : gH → Prop) : Prop := ∃ (Na Nb : Nat) (f g : Nat → Int32), h a = some (.inl (0, Na, .inl f)) ∧ h b = some (.inl (0, Nb, .inl g)) ∧ ¬ sp < 0 ∧ ¬ dp < 0 ∧ ¬ n < 0 ∧ sp.toNatClampNeg + n.toNatClampNeg ≤ Na ∧ dp.toNatClampNeg + n.toNatClampNeg ≤ Nb ∧ K (va_up h b (some (.inl (0, Nb, .inl (va_cpy f g sp.toNatClampNeg dp.toNatClampNeg n.toNatClampNeg)))))
def cpq (h : gH) (a : Nat) (sp : Int32) (b : Nat) (dp n : Int32) (K : gH → Prop) : Prop := ∃ (Na Nb : Nat) (f g : Nat → Option Nat), h a = some (.inl (3, Na, .inr (.inr (.inr (.inr f))))) ∧ h b = some (.inl (3, Nb, .inr (.inr (.inr (.inr g))))) ∧ 0 < Na ∧ 0 < Nb ∧ ¬ sp < 0 ∧ ¬ dp < 0 ∧ ¬ n < 0 ∧ sp.toNatClampNeg + n.toNatClampNeg ≤ Na ∧ dp.toNatClampNeg + n.toNatClampNeg ≤ Nb ∧ (∀ i : Nat, i < n.toNatClampNeg → ∀ y : Nat, f (sp.toNatClampNeg + i) = some y → gOb h y) ∧ K (va_up h b (some (.inl (3, Nb, .inr (.inr (.inr (.inr (va_cpy f g sp.toNatClampNeg dp.toNatClampNeg n.toNatClampNeg))))))))
def gCs : Prop := Cond.castable "AnimationController$Clip" "java/lang/Object" ∈ gU ∧ Cond.castable "AnimationController$Node" "java/lang/Object" ∈ gU ∧ Cond.castable "AnimationController$State" "java/lang/Object" ∈ gU ∧ Cond.castable "AnimationController$Transition" "java/lang/Object" ∈ gU
theorem gOb.name {h : gH} {a : Nat} (hO : gOb h a) (hc : gCs) : ∃ (ci : Nat) (fs : List Value) (r : vw_C), h a = some (.inr (ci, fs)) ∧ vwCl[ci]? = some r ∧ Cond.castable r.1 "java/lang/Object" ∈ gU := by
  obtain ⟨ci, fs, h1, h2⟩ := hO
  obtain ⟨c1, c2, c3, c4⟩ := hc
  rcases h2 with rfl | rfl | rfl | rfl
  · exact ⟨_, fs, _, h1, rfl, c1⟩
  · exact ⟨_, fs, _, h1, rfl, c2⟩
  · exact ⟨_, fs, _, h1, rfl, c3⟩
  · exact ⟨_, fs, _, h1, rfl, c4⟩
section GE
variable {p : Program} {l : Launch} {e : Env} {R : Room} {s : State} {m : MethodId} {args : Array Value} {below : List Frame} {meth : Method} {c : Code} {Z : State → Prop}
variable {G : gG} {A : Nat → Prop} {cc : ByteArray} {nL : Nat} {ret : Option FieldType} {own : String} {h : gH} {k n pc : Nat} {lv lv' : List (Nat × Value)} {st : List Value}
theorem V_astoreq {i : Nat} {r : Option Nat} (X : gC p l s m args meth c G A cc nL ret own) (hd : decode cc pc = .ok (.astore i, 2)) (hn : i < nL) (hl : (i, va_rf r) :: lv.filter (fun q => !(q.1 == i) && !(q.1 + 1 == i && q.2.category == 2)) = lv') (kk : V p l e R s m args below meth c Z G A nL h k n (pc + 2) lv' st) : V p l e R s m args below meth c Z G A nL h k n pc lv (va_rf r :: st) := fun H locs ls hw hS hv => by
  cases r with
  | none => exact lv_astoreN X.1 X.2.1 hd hv hn hl (fun ls' hv' => kk H locs ls' hw hS hv')
  | some x => exact lv_astore X.1 X.2.1 hd hv hn hl (fun ls' hv' => kk H locs ls' hw hS hv')
theorem V_astoreq_n {i : Fin 4} {i0 : Nat} {r : Option Nat} (X : gC p l s m args meth c G A cc nL ret own) (hd : decode cc pc = .ok (.astore_n i, 1)) (hi : (i : Nat) = i0) (hn : i0 < nL) (hl : (i0, va_rf r) :: lv.filter (fun q => !(q.1 == i0) && !(q.1 + 1 == i0 && q.2.category == 2)) = lv') (kk : V p l e R s m args below meth c Z G A nL h k n (pc + 1) lv' st) : V p l e R s m args below meth c Z G A nL h k n pc lv (va_rf r :: st) := fun H locs ls hw hS hv => by
  cases r with
  | none => exact lv_astore_nN X.1 X.2.1 hd hi hv hn hl (fun ls' hv' => kk H locs ls' hw hS hv')
  | some x => exact lv_astore_n X.1 X.2.1 hd hi hv hn hl (fun ls' hv' => kk H locs ls' hw hS hv')
theorem V_null (X : gC p l s m args meth c G A cc nL ret own) (hd : decode cc pc = .ok (.aconst_null, 1)) (kk : V p l e R s m args below meth c Z G A nL h k n (pc + 1) lv (va_rf none :: st)) : V p l e R s m args below meth c Z G A nL h k n pc lv st := fun H locs ls hw hS hv => lv_null X.1 X.2.1 hd (kk H locs ls hw hS hv)
theorem V_ifnull {r : Option Nat} {off : Int} {tgt : Nat} (X : gC p l s m args meth c G A cc nL ret own) (hd : decode cc pc = .ok (.ifnull off, 3)) (ht : (pc : Int) + off = (tgt : Int)) (kt : r = none → V p l e R s m args below meth c Z G A nL h k n tgt lv st) (kf : ∀ a, r = some a → V p l e R s m args below meth c Z G A nL h k n (pc + 3) lv st) : V p l e R s m args below meth c Z G A nL h k n pc lv (va_rf r :: st) := fun H locs ls hw hS hv => by
  cases r with
  | none => exact lv_ifnullN X.1 X.2.1 hd ht (kt rfl H locs ls hw hS hv)
  | some a => exact lv_ifnull X.1 X.2.1 hd (kf a rfl H locs ls hw hS hv)
theorem V_ifnonnull {r : Option Nat} {off : Int} {tgt : Nat} (X : gC p l s m args meth c G A cc nL ret own) (hd : decode cc pc = .ok (.ifnonnull off, 3)) (ht : (pc : Int) + off = (tgt : Int)) (kt : ∀ a, r = some a → V p l e R s m args below meth c Z G A nL h k n tgt lv st) (kf : r = none → V p l e R s m args below meth c Z G A nL h k n (pc + 3) lv st) : V p l e R s m args below meth c Z G A nL h k n pc lv (va_rf r :: st) := fun H locs ls hw hS hv => by
  cases r with
  | none => exact lv_ifnonnullN X.1 X.2.1 hd (kf rfl H locs ls hw hS hv)
  | some a => exact lv_ifnonnull X.1 X.2.1 hd ht (kt a rfl H locs ls hw hS hv)
theorem V_acmp_eq (rx ry : Option Nat) {off : Int} {tgt : Nat} (X : gC p l s m args meth c G A cc nL ret own) (hd : decode cc pc = .ok (.if_acmp .eq off, 3)) (ht : (pc : Int) + off = (tgt : Int)) (kt : rx = ry → V p l e R s m args below meth c Z G A nL h k n tgt lv st) (kf : ¬ rx = ry → V p l e R s m args below meth c Z G A nL h k n (pc + 3) lv st) : V p l e R s m args below meth c Z G A nL h k n pc lv (va_rf ry :: va_rf rx :: st) := fun H locs ls hw hS hv => lv_acmp_eq X.1 X.2.1 hd ht (fun z => kt z H locs ls hw hS hv) (fun z => kf z H locs ls hw hS hv)
theorem V_acmp_ne (rx ry : Option Nat) {off : Int} {tgt : Nat} (X : gC p l s m args meth c G A cc nL ret own) (hd : decode cc pc = .ok (.if_acmp .ne off, 3)) (ht : (pc : Int) + off = (tgt : Int)) (kt : ¬ rx = ry → V p l e R s m args below meth c Z G A nL h k n tgt lv st) (kf : rx = ry → V p l e R s m args below meth c Z G A nL h k n (pc + 3) lv st) : V p l e R s m args below meth c Z G A nL h k n pc lv (va_rf ry :: va_rf rx :: st) := fun H locs ls hw hS hv => lv_acmp_ne X.1 X.2.1 hd ht (fun z => kt z H locs ls hw hS hv) (fun z => kf z H locs ls hw hS hv)
theorem V_dupx1 {va vb : Value} (X : gC p l s m args meth c G A cc nL ret own) (hd : decode cc pc = .ok (.dup_x1, 1)) (h1 : va.category = 1) (h2 : vb.category = 1) (kk : V p l e R s m args below meth c Z G A nL h k n (pc + 1) lv (va :: vb :: va :: st)) : V p l e R s m args below meth c Z G A nL h k n pc lv (va :: vb :: st) := fun H locs ls hw hS hv => lv_dup_x1 X.1 X.2.1 hd h1 h2 (kk H locs ls hw hS hv)
theorem V_lookup {dflt : Int} {ps : Array (Int × Int)} {len : Nat} {x : Int32} {off : Int} {tgt : Nat} (X : gC p l s m args meth c G A cc nL ret own) (hd : decode cc pc = .ok (.lookupswitch dflt ps, len)) (hp : (ps.toList.zip (ps.toList.drop 1)).all (fun (a, next) => a.1 < next.1) = true) (ho : Op.lookupswitch.offset ps.toList dflt x.toInt = off) (ht : (pc : Int) + off = (tgt : Int)) (kk : V p l e R s m args below meth c Z G A nL h k n tgt lv st) : V p l e R s m args below meth c Z G A nL h k n pc lv (.int x :: st) := fun H locs ls hw hS hv => lv_lookup X.1 X.2.1 hd hp ho ht (kk H locs ls hw hS hv)
theorem V_gets0 {idx : Nat} (X : gC p l s m args meth c G A cc nL ret own) (hl : Cond.fieldLink own idx "java/util/ArrayList" "DEFAULTCAPACITY_EMPTY_ELEMENTDATA" "[Ljava/lang/Object;" ∈ gW) (hd : decode cc pc = .ok (.getstatic idx, 3)) (kk : V p l e R s m args below meth c Z G A nL h k n (pc + 3) lv (.ref G.2.2.1 :: st)) : V p l e R s m args below meth c Z G A nL h k n pc lv st := fun H locs ls hw hS hv => va_gets X.1 X.2.1 X.2.2.2.2.2.2.2.2.2.1.1 hS X.2.2.2.1 (X.2.2.2.2.1 _ hl) (fun _ z => z) hd (kk H locs ls hw hS hv)
theorem V_alen {a kt : Nat} {x : vp_A} (X : gC p l s m args meth c G A cc nL ret own) (hd : decode cc pc = .ok (.arraylength, 1)) (hh : h a = some (.inl (kt, x))) (hk : kt < 6) (kk : V p l e R s m args below meth c Z G A nL h k n (pc + 1) lv (.int (Int32.ofNat x.1) :: st)) : V p l e R s m args below meth c Z G A nL h k n pc lv (.ref a :: st) := fun H locs ls hw hS hv => by
  have ht : ∃ ty, (gty G.2.1)[kt]? = some (G.2.1 kt, ty) := by
    rcases (show kt = 0 ∨ kt = 1 ∨ kt = 2 ∨ kt = 3 ∨ kt = 4 ∨ kt = 5 by omega) with rfl | rfl | rfl | rfl | rfl | rfl <;> exact ⟨_, rfl⟩
  obtain ⟨ty, ht⟩ := ht
  by_cases ha : a = G.2.2.1
  · subst ha
    obtain ⟨cell, c1, c2, c3, c4, c5⟩ := hw.2.1
    have e0 := hw.1.symm.trans hh
    have e1 : x = (0, .inr (.inr (.inr (.inr (fun _ => none))))) := by cases e0; rfl
    have hA := (X.2.2.2.2.2.1.2 3 _ rfl).1 0 (fun _ => .null)
    refine W.alen (n := Int32.ofNat x.1) (cell := cell) (ty := .object "java/lang/Object") X.1 X.2.1 c1 ⟨c4, by rw [c2]; exact hA.2⟩ (by rw [c3, e1]; rfl) rfl rfl hd (kk H locs ls hw hS hv)
  · exact va_alen X.1 X.2.1 X.2.2.2.2.2.1 (hw.one hh ha) 0 kt rfl ht rfl hd (kk H locs ls hw hS hv)
theorem gw.pos {H : Heap} (hw : gw G A h H) {a N kt : Nat} {g : Nat → Option Nat} (hh : h a = some (.inl (kt, N, .inr (.inr (.inr (.inr g)))))) (hN : 0 < N) : a ≠ G.2.2.1 := fun z => by
  rw [z, hw.1] at hh
  have := Option.some.inj hh
  simp [gE0] at this
  omega
theorem V_aald3 {a N : Nat} {i : Int32} {g : Nat → Option Nat} (X : gC p l s m args meth c G A cc nL ret own) (hd : decode cc pc = .ok (.aaload, 1)) (hh : h a = some (.inl (3, N, .inr (.inr (.inr (.inr g)))))) (hi : vp_in i N) (kk : V p l e R s m args below meth c Z G A nL h k n (pc + 1) lv (va_rf (g i.toNatClampNeg) :: st)) : V p l e R s m args below meth c Z G A nL h k n pc lv (.int i :: .ref a :: st) := fun H locs ls hw hS hv => va_aldq X.1 X.2.1 X.2.2.2.2.2.1 (hw.one hh (hw.pos hh (Nat.lt_of_le_of_lt (Nat.zero_le _) (Nat.not_le.mp fun q => hi (Or.inr q))))) 0 3 rfl rfl hi hd (kk H locs ls hw hS hv)
theorem V_aald5 {a N : Nat} {i : Int32} {g : Nat → Option Nat} (X : gC p l s m args meth c G A cc nL ret own) (hd : decode cc pc = .ok (.aaload, 1)) (hh : h a = some (.inl (5, N, .inr (.inr (.inr (.inr g)))))) (hi : vp_in i N) (kk : V p l e R s m args below meth c Z G A nL h k n (pc + 1) lv (va_rf (g i.toNatClampNeg) :: st)) : V p l e R s m args below meth c Z G A nL h k n pc lv (.int i :: .ref a :: st) := fun H locs ls hw hS hv => va_aldq X.1 X.2.1 X.2.2.2.2.2.1 (hw.one hh (hw.pos hh (Nat.lt_of_le_of_lt (Nat.zero_le _) (Nat.not_le.mp fun q => hi (Or.inr q))))) 0 5 rfl rfl hi hd (kk H locs ls hw hS hv)
theorem V_aald4 {a N : Nat} {i : Int32} {g : Nat → Option Nat} (X : gC p l s m args meth c G A cc nL ret own) (hd : decode cc pc = .ok (.aaload, 1)) (hh : h a = some (.inl (4, N, .inr (.inr (.inr (.inr g)))))) (hi : vp_in i N) (kk : V p l e R s m args below meth c Z G A nL h k n (pc + 1) lv (va_rf (g i.toNatClampNeg) :: st)) : V p l e R s m args below meth c Z G A nL h k n pc lv (.int i :: .ref a :: st) := fun H locs ls hw hS hv => by
  have hlt : i.toNatClampNeg < N := Nat.not_le.mp fun q => hi (Or.inr q)
  exact W.aald (v := va_rf (g i.toNatClampNeg)) (ty := .array .int) X.1 X.2.1 (hw.one hh (hw.pos hh (Nat.lt_of_le_of_lt (Nat.zero_le _) (Nat.not_le.mp fun q => hi (Or.inr q)))) 0 _ rfl) ((X.2.2.2.2.2.1.2 4 _ rfl).1 N (fun j => va_rf (g j))) rfl (fun q => by cases q) (by show ¬ (i < 0 ∨ (arrV _ _ _).slots.size ≤ _); rw [arrV_size]; exact hi) (by show (arrV _ _ _).slots[_]? = _; rw [arrV_read _ _ hlt]) rfl rfl hd (kk H locs ls hw hS hv)
theorem V_aast3 {a N v : Nat} {i : Int32} {g : Nat → Option Nat} (X : gC p l s m args meth c G A cc nL ret own) (hC : gCs) (hd : decode cc pc = .ok (.aastore, 1)) (hh : h a = some (.inl (3, N, .inr (.inr (.inr (.inr g)))))) (hi : vp_in i N) (hO : gOb h v) (kk : V p l e R s m args below meth c Z G A nL (va_up h a (some (.inl (3, N, .inr (.inr (.inr (.inr (va_up g i.toNatClampNeg (some v))))))))) k n (pc + 1) lv st) : V p l e R s m args below meth c Z G A nL h k n pc lv (.ref v :: .int i :: .ref a :: st) := fun H locs ls hw hS hv => by
  have hlt : i.toNatClampNeg < N := Nat.not_le.mp fun q => hi (Or.inr q)
  obtain ⟨ci, fs, r, o1, o2, o3⟩ := hO.name hC
  obtain ⟨ws, q, qb, hP, hD, hq, hqb, hk⟩ := hw.set2 hh (hw.pos hh (by omega)) o1 (hw.t0 o1)
  exact va_astqO X.1 X.2.1 X.2.2.2.2.2.1 hP hD hS q 3 qb ci hq rfl (X.2.2.2.2.2.2.2.2.2.1.2.2.2.2.1 _ o3 _) hqb o2 hi hd (fun H1 locs1 hP1 hD1 hS1 => kk H1 locs1 ls (hk (.inl (3, N, .inr (.inr (.inr (.inr (va_up g i.toNatClampNeg (some v))))))) H1 hP1 hD1 (gS0 X.2.2.2.2.2.2.1 hw hS hS1)) hS1 hv)
theorem V_aast5 {a N v : Nat} {fs : List Value} {i : Int32} {g : Nat → Option Nat} (X : gC p l s m args meth c G A cc nL ret own) (hd : decode cc pc = .ok (.aastore, 1)) (hh : h a = some (.inl (5, N, .inr (.inr (.inr (.inr g)))))) (hi : vp_in i N) (o1 : h v = some (.inr (6, fs))) (kk : V p l e R s m args below meth c Z G A nL (va_up h a (some (.inl (5, N, .inr (.inr (.inr (.inr (va_up g i.toNatClampNeg (some v))))))))) k n (pc + 1) lv st) : V p l e R s m args below meth c Z G A nL h k n pc lv (.ref v :: .int i :: .ref a :: st) := fun H locs ls hw hS hv => by
  have hlt : i.toNatClampNeg < N := Nat.not_le.mp fun q => hi (Or.inr q)
  obtain ⟨ws, q, qb, hP, hD, hq, hqb, hk⟩ := hw.set2 hh (hw.pos hh (by omega)) o1 (hw.t0 o1)
  exact va_astq (r := (RX3, TX3, 13)) X.1 X.2.1 X.2.2.2.2.2.1 hP hD hS q 5 qb 6 hq rfl hqb rfl hi hd (fun H1 locs1 hP1 hD1 hS1 => kk H1 locs1 ls (hk (.inl (5, N, .inr (.inr (.inr (.inr (va_up g i.toNatClampNeg (some v))))))) H1 hP1 hD1 (gS0 X.2.2.2.2.2.2.1 hw hS hS1)) hS1 hv)
theorem V_cast {idx a ci : Nat} {nm : String} {fs : List Value} {q9 : vw_C} (X : gC p l s m args meth c G A cc nL ret own) (hl : Cond.classLink own idx nm ∈ gW) (hci : vwCl[ci]? = some q9) (hcn : q9.1 = nm) (hh : h a = some (.inr (ci, fs))) (hd : decode cc pc = .ok (.checkcast idx, 3)) (kk : V p l e R s m args below meth c Z G A nL h k n (pc + 3) lv (.ref a :: st)) : V p l e R s m args below meth c Z G A nL h k n pc lv (.ref a :: st) := fun H locs ls hw hS hv => by
  have hca := (X.2.2.2.2.2.1.1 ci q9 hci).2
  rw [hcn] at hca
  exact va_castS X.1 X.2.1 X.2.2.2.1 (X.2.2.2.2.1 _ hl) hca (by rw [← hcn]; exact va_recv (q0 := 0) X.2.2.2.2.2.1 (hw.one hh (hw.t0 hh)) hci rfl) hd (kk H locs ls hw hS hv)
def gAC (own : String) (idx : Nat) : Prop := Cond.methodLink own idx arraycopyName ∈ gW ∧ Cond.native arraycopyName ∈ gW ∧ Cond.static arraycopyName ∈ gW ∧ Cond.initialized "java/lang/System" ∈ gW
theorem V_cpi {idx a b Na Nb : Nat} {f g : Nat → Int32} {sp dp x : Int32} (X : gC p l s m args meth c G A cc nL ret own) (L : gAC own idx) (hh : h a = some (.inl (0, Na, .inl f))) (hb : h b = some (.inl (0, Nb, .inl g))) (h1 : ¬ sp < 0) (h2 : ¬ dp < 0) (h3 : ¬ x < 0) (h4 : sp.toNatClampNeg + x.toNatClampNeg ≤ Na) (h5 : dp.toNatClampNeg + x.toNatClampNeg ≤ Nb) (hf : 1 ≤ R.frames) (hR : (st.map fun v => v.category).sum + (nativeFrameWords "java/lang/System" "arraycopy" 5 + 11) ≤ R.locals) (hd : decode cc pc = .ok (.invokestatic idx, 3)) (kk : V p l e R s m args below meth c Z G A nL (va_up h b (some (.inl (0, Nb, .inl (va_cpy f g sp.toNatClampNeg dp.toNatClampNeg x.toNatClampNeg))))) k n (pc + 3) lv st) : V p l e R s m args below meth c Z G A nL h k n pc lv (.int x :: .int dp :: .ref b :: .int sp :: .ref a :: st) := fun H locs ls hw hS hv => by
  have t1 : ∀ {a N : Nat} {f : Nat → Int32}, h a = some (.inl (0, N, .inl f)) → a ≠ G.2.2.1 := fun hz z => by
    rw [z, hw.1] at hz
    cases hz
  obtain ⟨ws, q, qb, hP, hD, hq, hqb, hk⟩ := hw.set2 hb (t1 hb) hh (t1 hh)
  exact va_copyi X.1 X.2.1 (X.2.2.1.trans hv.1.symm) X.2.2.2.1 (X.2.2.2.2.1 _ L.1) (X.2.2.2.2.1 _ L.2.1) (X.2.2.2.2.1 _ L.2.2.1) (X.2.2.2.2.1 _ L.2.2.2) X.2.2.2.2.2.1 hP hD hS qb q 0 0 hqb hq rfl rfl rfl h1 h2 h3 h4 h5 (fun _ _ => rfl) hf hR hd (fun H1 locs1 hP1 hD1 hS1 => kk H1 locs1 ls (hk (.inl (0, Nb, .inl (va_cpy f g sp.toNatClampNeg dp.toNatClampNeg x.toNatClampNeg))) H1 hP1 hD1 (gS0 X.2.2.2.2.2.2.1 hw hS hS1)) hS1 hv)
theorem V_cpq {idx a b Na Nb : Nat} {f g : Nat → Option Nat} {sp dp x : Int32} (X : gC p l s m args meth c G A cc nL ret own) (hC : gCs) (L : gAC own idx) (hh : h a = some (.inl (3, Na, .inr (.inr (.inr (.inr f)))))) (hb : h b = some (.inl (3, Nb, .inr (.inr (.inr (.inr g)))))) (ha0 : 0 < Na) (hb0 : 0 < Nb) (h1 : ¬ sp < 0) (h2 : ¬ dp < 0) (h3 : ¬ x < 0) (h4 : sp.toNatClampNeg + x.toNatClampNeg ≤ Na) (h5 : dp.toNatClampNeg + x.toNatClampNeg ≤ Nb) (hel : ∀ i : Nat, i < x.toNatClampNeg → ∀ y : Nat, f (sp.toNatClampNeg + i) = some y → gOb h y) (hf : 1 ≤ R.frames) (hR : (st.map fun v => v.category).sum + (nativeFrameWords "java/lang/System" "arraycopy" 5 + 11) ≤ R.locals) (hd : decode cc pc = .ok (.invokestatic idx, 3)) (kk : V p l e R s m args below meth c Z G A nL (va_up h b (some (.inl (3, Nb, .inr (.inr (.inr (.inr (va_cpy f g sp.toNatClampNeg dp.toNatClampNeg x.toNatClampNeg)))))))) k n (pc + 3) lv st) : V p l e R s m args below meth c Z G A nL h k n pc lv (.int x :: .int dp :: .ref b :: .int sp :: .ref a :: st) := fun H locs ls hw hS hv => by
  obtain ⟨ws, q, qb, hP, hD, hq, hqb, hk⟩ := hw.set2 hb (hw.pos hb hb0) hh (hw.pos hh ha0)
  refine va_copyM X.1 X.2.1 (X.2.2.1.trans hv.1.symm) X.2.2.2.1 (X.2.2.2.2.1 _ L.1) (X.2.2.2.2.1 _ L.2.1) (X.2.2.2.2.1 _ L.2.2.1) (X.2.2.2.2.1 _ L.2.2.2) X.2.2.2.2.2.1 hP hD hS qb q 3 3 hqb hq rfl rfl h1 h2 h3 h4 h5 (fun i hi y hy => ?_) hf hR hd (fun H1 locs1 hP1 hD1 hS1 => kk H1 locs1 ls (hk (.inl (3, Nb, .inr (.inr (.inr (.inr (va_cpy f g sp.toNatClampNeg dp.toNatClampNeg x.toNatClampNeg)))))) H1 hP1 hD1 (gS0 X.2.2.2.2.2.2.1 hw hS hS1)) hS1 hv)
  obtain ⟨ci, fs, r, o1, o2, o3⟩ := (hel i hi y hy).name hC
  refine va_rAny (q0 := 0) X.2.2.2.2.2.1 (hw.one o1 (hw.t0 o1)) rfl o2 (fun comp c0 e1 e2 => ?_)
  obtain ⟨c0', t1, f1, f2, f3⟩ := Cond.castable_spec (X.2.2.2.2.2.2.2.2.2.1.2.2.2.2.1 _ o3 args)
  rw [e2] at f1
  rw [e1] at f2
  cases f1
  cases f2
  exact f3
theorem V_anewa3 {idx N k1 n1 : Nat} {x : Int32} (X : gC p l s m args meth c G A cc nL ret own) (hl : Cond.classLink own idx "java/lang/Object" ∈ gW) (ho : Cond.arrayOver (.object "java/lang/Object") ∈ gU) (hd : decode cc pc = .ok (.anewarray idx, 3)) (hn : ¬ x < 0) (hN : x.toNatClampNeg = N) (hb : N * 4 ≤ 536870912) (hR : k + 1 ≤ R.cells ∧ n + N ≤ R.slots) (hk : k + 1 ≤ k1) (hk2 : n + N ≤ n1) (kk : ∀ q : Nat, h q = none → V p l e R s m args below meth c Z G A nL (va_up h q (some (.inl (3, N, .inr (.inr (.inr (.inr (fun _ => none)))))))) k1 n1 (pc + 3) lv (.ref q :: st)) : V p l e R s m args below meth c Z G A nL h k n pc lv (.int x :: st) := fun H locs ls hw hS hv => by
  obtain ⟨ws, hP, hD, hk9⟩ := hw.new
  refine va_newq X.1 X.2.1 X.2.2.2.1 (X.2.2.2.2.1 _ hl) (X.2.2.2.2.2.2.2.2.2.1.2.2.2.2.1 _ ho _) X.2.2.2.2.2.1 hP hD hS X.2.2.2.2.2.2.1 hn hN hb hR.1 hR.2 hd (fun q cA H1 hK1 hP1 hD1 hS1 => ?_)
  have e1 := va_nmO (nm := "[Ljava/lang/Object;") (hK1.2 6 _ rfl).2 (by decide +kernel)
  have e0 := va_nmO (nm := "[Ljava/lang/Object;") (X.2.2.2.2.2.1.2 3 _ rfl).2 (by decide +kernel)
  have ec : cA = G.2.1 3 := Option.some.inj (e1.symm.trans e0)
  rw [ec] at hP1 hD1
  obtain ⟨z1, z2⟩ := hk9 q (.inl (3, N, .inr (.inr (.inr (.inr (fun _ => none)))))) H1 hP1 hD1 (gS0 X.2.2.2.2.2.2.1 hw hS hS1)
  exact W.widen hk hk2 (kk q z1 H1 locs ls z2 hS1 hv)
theorem V_anewa5 {idx N k1 n1 : Nat} {x : Int32} (X : gC p l s m args meth c G A cc nL ret own) (hl : Cond.classLink own idx "AnimationController$Machine" ∈ gW) (ho : Cond.arrayOver (.object "AnimationController$Machine") ∈ gU) (hd : decode cc pc = .ok (.anewarray idx, 3)) (hn : ¬ x < 0) (hN : x.toNatClampNeg = N) (hb : N * 4 ≤ 536870912) (hR : k + 1 ≤ R.cells ∧ n + N ≤ R.slots) (hk : k + 1 ≤ k1) (hk2 : n + N ≤ n1) (kk : ∀ q : Nat, h q = none → V p l e R s m args below meth c Z G A nL (va_up h q (some (.inl (5, N, .inr (.inr (.inr (.inr (fun _ => none)))))))) k1 n1 (pc + 3) lv (.ref q :: st)) : V p l e R s m args below meth c Z G A nL h k n pc lv (.int x :: st) := fun H locs ls hw hS hv => by
  obtain ⟨ws, hP, hD, hk9⟩ := hw.new
  refine va_newq X.1 X.2.1 X.2.2.2.1 (X.2.2.2.2.1 _ hl) (X.2.2.2.2.2.2.2.2.2.1.2.2.2.2.1 _ ho _) X.2.2.2.2.2.1 hP hD hS X.2.2.2.2.2.2.1 hn hN hb hR.1 hR.2 hd (fun q cA H1 hK1 hP1 hD1 hS1 => ?_)
  have e1 := va_nmO (nm := "[LAnimationController$Machine;") (hK1.2 6 _ rfl).2 (by decide +kernel)
  have e0 := va_nmO (nm := "[LAnimationController$Machine;") (X.2.2.2.2.2.1.2 5 _ rfl).2 (by decide +kernel)
  have ec : cA = G.2.1 5 := Option.some.inj (e1.symm.trans e0)
  rw [ec] at hP1 hD1
  obtain ⟨z1, z2⟩ := hk9 q (.inl (5, N, .inr (.inr (.inr (.inr (fun _ => none)))))) H1 hP1 hD1 (gS0 X.2.2.2.2.2.2.1 hw hS hS1)
  exact W.widen hk hk2 (kk q z1 H1 locs ls z2 hS1 hv)
end GE
