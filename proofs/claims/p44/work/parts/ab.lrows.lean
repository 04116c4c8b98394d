/-! ===== methods with handlers: wrappers of the law, and the law's own reads ===== -/
def gNc (s : State) : Prop := va_Nc "java/lang/IllegalArgumentException" "java/lang/IndexOutOfBoundsException" s ∧ va_Nc "java/lang/IllegalStateException" "java/lang/IndexOutOfBoundsException" s ∧ va_Nc "java/lang/IllegalStateException" "java/lang/IllegalArgumentException" s
theorem gNc.moved {u U : State} (hv : u.vm.Alike U.vm) (h : gNc u) : gNc U := ⟨h.1.moved hv, h.2.1.moved hv, h.2.2.moved hv⟩
def gPcN (G : gG) (h : gH) (sz : Nat) (As : List Value) : Array Value → State → Prop := va_Pc As (fun U => U.heap.size = sz ∧ gw G (gA G h sz) h U.heap ∧ va_K G.1 vwCl (gty G.2.1) U ∧ gs G (gA G h sz) U U.heap ∧ gNc U)
theorem gPcN_blind (G : gG) (h : gH) (sz : Nat) (As : List Value) : FrameBlind (gPcN G h sz As) := fun a U g mk q => by
  obtain ⟨q0, q1, q2, q3, q4, q5⟩ := q
  exact ⟨q0, q1, q2, va_K.moved (u := U) (U := U.calling g mk a) (Vm.Alike.refl U.vm) q3, gs.same (s := U) (U := U.calling g mk a) q4 rfl, gNc.moved (u := U) (U := U.calling g mk a) (Vm.Alike.refl U.vm) q5⟩
def gLW (own : String) (idx : Nat) (y : MethodName) (cb : ByteArray) (mL : Nat) (rt : Option FieldType) (tb : List (Nat × Nat × Nat × Nat)) (n0 : Nat) : Prop := Cond.methodLink own idx y ∈ gW ∧ Cond.static y ∈ gW ∧ Cond.initialized y.cls ∈ gW ∧ Cond.codeWith y cb mL rt tb ∈ gW ∧ gYn y n0
/-- a wrapper's contract at the heap h -/
def gWi (l : Launch) (y : MethodName) (cb : ByteArray) (mL : Nat) (rt : Option FieldType) (tb : List (Nat × Nat × Nat × Nat)) (rm : Room) (mc ms : Nat) (G : gG) (h : gH) (As : List Value) (Qn : Int32 → gH → Prop) : Prop := ∀ sz : Nat, vx_Met l y (Cond.codeWith y cb mL rt tb :: gW) rm (gPcN G h sz As) (va_Qi Qn (gB G (gA G h sz)) (gA G h sz)) (gXC G (gA G h sz) (fun _ _ => False)) mc ms (gA G h sz)
section GLW
variable {p : Program} {l : Launch} {e : Env} {R : Room} {s : State} {m : MethodId} {args : Array Value} {below : List Frame} {meth : Method} {c : Code} {Z : State → Prop}
variable {G : gG} {A : Nat → Prop} {cc : ByteArray} {nL : Nat} {ret : Option FieldType} {own : String} {h : gH} {k n pc : Nat} {lv : List (Nat × Value)} {st : List Value}
variable {y : MethodName} {cb : ByteArray} {mL : Nat} {rt : Option FieldType} {rm : Room} {mc ms n0 idx : Nat} {As rest : List Value} {Qx : String → gH → Prop} {tb : List (Nat × Nat × Nat × Nat)}
theorem gPcN_at (X : gC p l s m args meth c G A cc nL ret own) (hN : gNc s) {H : Heap} {locs : List Loc} (hw : gw G A h H) (hS : va_S A s.heap H locs) : ∀ U : State, U.heap = H → s.WarmedH U.vm → gPcN G h H.size As As.toArray U := fun U hU hW =>
  ⟨rfl, by rw [hU], by rw [hU]; exact hw.self, va_K.moved hW.alike X.2.2.2.2.2.1, gs.at X.2.2.2.2.2.2.2.2.2.1 hS (gA.sub hw hS X.2.2.2.2.2.2.1) hU hW, hN.moved hW.alike⟩
theorem gWi.of {Qn : Int32 → gH → Prop} (hy : plainName y.cls = true) (hls : l.stackTraces = false) (hAs : (lg_sl As).length ≤ mL)
    (body : ∀ (p : Program) (e : Env) (s : State) (m : MethodId) (below : List Frame) (meth : Method) (c : Code) (A : Nat → Prop), gC p l s m As.toArray meth c G A cb mL rt y.cls → c.exceptionTable.toList = tableOf tb → gNc s → V p l e rm s m As.toArray below meth c (vx_MQ below (va_Qi Qn (gB G A) A) (gXC G A (fun _ _ => False)) As.toArray s mc ms A) G A mL h 0 0 0 (lv_args 0 As) []) : gWi l y cb mL rt tb rm mc ms G h As Qn := by
  intro sz
  refine vx_ofWH hy rfl ?_
  intro p e s m args below meth c s₁ B hml hv
  obtain ⟨rfl, hsz, hw, hK, hg, hN⟩ := hv
  subst hsz
  have hts := atoms_spec (ws := Cond.codeWith y cb mL rt tb :: gW) B.pre
  have hl := lv_entry As (n := mL) hAs
  rw [lg_entry_eq]
  exact body p e s m below meth c _ ⟨B.exec, B.bytes, hml, findClass_of_methodNamed B.named, fun w hw => hts w (List.mem_cons_of_mem _ hw), hK, fun q hq => Or.inr hq, B.notSynchronized, hls, hg, B.returns⟩ (vx_table (x := y) B (hts _ List.mem_cons_self)) hN s.heap [] _ hw va_S.rf hl
theorem V_callSW {Qn : Int32 → gH → Prop} {k1 n1 : Nat} (X : gC p l s m args meth c G A cc nL ret own) (hN : gNc s) (M : gWi l y cb mL rt tb rm rm.cells rm.slots G h As Qn) (L : gLW own idx y cb mL rt tb n0) (hd : decode cc pc = .ok (.invokestatic idx, 3)) (hR : rm.frames + 1 ≤ R.frames ∧ 8 + (mL + 11) + rm.locals ≤ R.locals) (hn : As.length = n0) (hst : (rest.map fun v => v.category).sum ≤ 8) (hf : k + rm.cells ≤ R.cells ∧ n + rm.slots ≤ R.slots) (hk : k + rm.cells ≤ k1) (hk2 : n + rm.slots ≤ n1) (kk : ∀ (r : Int32) (h1 : gH), Qn r h1 → V p l e R s m args below meth c Z G A nL h1 k1 n1 (pc + 3) lv (.int r :: rest)) : V p l e R s m args below meth c Z G A nL h k n pc lv (As.reverse ++ rest) := fun H locs ls hw hS hv => by
  have hA := gA.sub hw hS X.2.2.2.2.2.2.1
  refine vx_calli (vx_runSX (As := As) (rest := rest) ⟨X.1, X.2.1, X.2.2.1, X.2.2.2.1, X.2.2.2.2.1⟩ (M H.size) ⟨⟨rfl, rfl, hR.1, hR.2, pay_in X.2.2.2.2.1 (gW_cons L.2.2.2.1), List.mem_cons_self⟩, X.2.2.2.2.1 _ L.2.2.2.1, X.2.2.2.2.1 _ L.2.2.1, ⟨L.2.2.2.2.1, L.2.2.2.2.2.1⟩, fun sig hs => gYn_len L.2.2.2.2 hs, X.2.2.2.2.1 _ L.1, X.2.2.2.2.1 _ L.2.1⟩ ⟨gPcN_blind _ _ _ _, gPcN_at X hN hw hS⟩ rfl hn hv.1 rfl (lv_room hst) hd hf) hS (fun q _ z => hA q z) hA (fun q _ z => hA q z) (fun E ce q9 u t H1 locs1 ht hal hq hB hz hkeep hS1 hce hcv hcl => hB.1.elim) (fun r u t H1 locs1 ht hal hq hB hz hkeep hS1 => ?_)
  exact W.widen hk hk2 (kk r u hq H1 locs1 ls (gw.weaken (by rw [← ht]; exact hB) hA hw.2.2.1) hS1 hv)
/-- what takes an exception of class E: a row of the table, and how it goes on there -/
def gTk (own : String) (s : State) (tb : List (Nat × Nat × Nat × Nat)) (pc : Nat) (E : String) (K : Nat → Nat → Prop) : Prop := ∃ (pre : List ExceptionTableEntry) (x : ExceptionTableEntry) (suf : List ExceptionTableEntry) (name : String), tableOf tb = pre ++ x :: suf ∧ (∀ z ∈ pre, covers z pc = false ∨ (z.catchType ≠ 0 ∧ ∃ nm : String, Cond.classLink own z.catchType nm ∈ gW ∧ va_Nc E nm s)) ∧ covers x pc = true ∧ x.catchType ≠ 0 ∧ Cond.classLink own x.catchType name ∈ gW ∧ Cond.castable E name ∈ gU ∧ ∀ q9 : Nat, K x.handlerPc q9
theorem V_tryXi {b ci : Nat} {fs : List Value} {q9 : vw_C} {Qn : Int32 → gH → Prop} {k1 n1 : Nat} (X : gC p l s m args meth c G A cc nL ret own) (hT : c.exceptionTable.toList = tableOf tb) (M : gXi l y cb mL rt rm rm.cells rm.slots G h (.ref b :: As) Qn Qx) (L : gLV own idx y cb mL rt n0) (hh : h b = some (.inr (ci, fs))) (hci : vwCl[ci]? = some q9) (hcn : q9.1 = y.cls) (hd : decode cc pc = .ok (.invokevirtual idx, 3)) (hR : rm.frames + 1 ≤ R.frames ∧ 8 + (mL + 11) + rm.locals ≤ R.locals) (hn : As.length = n0) (hst : (rest.map fun v => v.category).sum ≤ 8) (hf : k + rm.cells ≤ R.cells ∧ n + rm.slots ≤ R.slots) (hk : k + rm.cells ≤ k1) (hk2 : n + rm.slots ≤ n1)
    (kx : ∀ (E : String) (h1 : gH), Qx E h1 → gTk own s tb pc E (fun hp q9 => V p l e R s m args below meth c Z G A nL h1 k1 n1 hp lv [.ref q9]))
    (kk : ∀ (r : Int32) (h1 : gH), Qn r h1 → V p l e R s m args below meth c Z G A nL h1 k1 n1 (pc + 3) lv (.int r :: rest)) : V p l e R s m args below meth c Z G A nL h k n pc lv (As.reverse ++ .ref b :: rest) := fun H locs ls hw hS hv => by
  have hA := gA.sub hw hS X.2.2.2.2.2.2.1
  refine vx_calli (vx_runV (C := y.cls) (As := As) (rest := rest) ⟨X.1, X.2.1, X.2.2.1, X.2.2.2.1, X.2.2.2.2.1⟩ (M H.size) ⟨gCB X L.1 L.2.2.2.1 L.2.2.2.2.1 L.2.2.2.2.2 hR, X.2.2.2.2.1 _ L.2.1, X.2.2.2.2.1 _ L.2.2.1⟩ ⟨gPc_blind _ _ _ _, by rw [← hcn]; exact va_recv (q0 := 0) X.2.2.2.2.2.1 (hw.one hh (hw.t0 hh)) hci rfl, gPc_at X hw hS⟩ rfl hn hv.1 rfl (lv_room hst) hd hf) hS (fun q _ z => hA q z) hA (fun q _ z => hA q z) (fun E ce q9 u t H1 locs1 ht hal hq hB hz hkeep hS1 hce hcv hcl => ?_) (fun r u t H1 locs1 ht hal hq hB hz hkeep hS1 => ?_)
  · obtain ⟨pre, x, suf, name, e1, e2, e3, e4, e5, e6, e7⟩ := kx E u hB.1
    refine vx_catch X.2.2.2.1 pre x suf (hT.trans e1) (fun z hz => (e2 z hz).imp id (fun w => ⟨w.1, w.2.imp fun nm w => ⟨X.2.2.2.2.1 _ w.1, w.2⟩⟩)) e3 e4 (X.2.2.2.2.1 _ e5) (X.2.2.2.2.2.2.2.2.2.1.2.2.2.2.1 _ e6 _) hce hcv hcl ?_
    exact W.widen hk hk2 (e7 q9 H1 locs1 ls (gw.weaken (by rw [← ht]; exact hB.2) hA hw.2.2.1) hS1 hv)
  · exact W.widen hk hk2 (kk r u hq H1 locs1 ls (gw.weaken (by rw [← ht]; exact hB) hA hw.2.2.1) hS1 hv)
theorem V_tryXl {b ci : Nat} {fs : List Value} {q9 : vw_C} {Qn : Int64 → gH → Prop} {k1 n1 : Nat} (X : gC p l s m args meth c G A cc nL ret own) (hT : c.exceptionTable.toList = tableOf tb) (M : gXl l y cb mL rt rm rm.cells rm.slots G h (.ref b :: As) Qn Qx) (L : gLV own idx y cb mL rt n0) (hh : h b = some (.inr (ci, fs))) (hci : vwCl[ci]? = some q9) (hcn : q9.1 = y.cls) (hd : decode cc pc = .ok (.invokevirtual idx, 3)) (hR : rm.frames + 1 ≤ R.frames ∧ 8 + (mL + 11) + rm.locals ≤ R.locals) (hn : As.length = n0) (hst : (rest.map fun v => v.category).sum ≤ 8) (hf : k + rm.cells ≤ R.cells ∧ n + rm.slots ≤ R.slots) (hk : k + rm.cells ≤ k1) (hk2 : n + rm.slots ≤ n1)
    (kx : ∀ (E : String) (h1 : gH), Qx E h1 → gTk own s tb pc E (fun hp q9 => V p l e R s m args below meth c Z G A nL h1 k1 n1 hp lv [.ref q9]))
    (kk : ∀ (r : Int64) (h1 : gH), Qn r h1 → V p l e R s m args below meth c Z G A nL h1 k1 n1 (pc + 3) lv (.long r :: rest)) : V p l e R s m args below meth c Z G A nL h k n pc lv (As.reverse ++ .ref b :: rest) := fun H locs ls hw hS hv => by
  have hA := gA.sub hw hS X.2.2.2.2.2.2.1
  refine vx_calll (vx_runV (C := y.cls) (As := As) (rest := rest) ⟨X.1, X.2.1, X.2.2.1, X.2.2.2.1, X.2.2.2.2.1⟩ (M H.size) ⟨gCB X L.1 L.2.2.2.1 L.2.2.2.2.1 L.2.2.2.2.2 hR, X.2.2.2.2.1 _ L.2.1, X.2.2.2.2.1 _ L.2.2.1⟩ ⟨gPc_blind _ _ _ _, by rw [← hcn]; exact va_recv (q0 := 0) X.2.2.2.2.2.1 (hw.one hh (hw.t0 hh)) hci rfl, gPc_at X hw hS⟩ rfl hn hv.1 rfl (lv_room hst) hd hf) hS (fun q _ z => hA q z) hA (fun q _ z => hA q z) (fun E ce q9 u t H1 locs1 ht hal hq hB hz hkeep hS1 hce hcv hcl => ?_) (fun r u t H1 locs1 ht hal hq hB hz hkeep hS1 => ?_)
  · obtain ⟨pre, x, suf, name, e1, e2, e3, e4, e5, e6, e7⟩ := kx E u hB.1
    refine vx_catch X.2.2.2.1 pre x suf (hT.trans e1) (fun z hz => (e2 z hz).imp id (fun w => ⟨w.1, w.2.imp fun nm w => ⟨X.2.2.2.2.1 _ w.1, w.2⟩⟩)) e3 e4 (X.2.2.2.2.1 _ e5) (X.2.2.2.2.2.2.2.2.2.1.2.2.2.2.1 _ e6 _) hce hcv hcl ?_
    exact W.widen hk hk2 (e7 q9 H1 locs1 ls (gw.weaken (by rw [← ht]; exact hB.2) hA hw.2.2.1) hS1 hv)
  · exact W.widen hk hk2 (kk r u hq H1 locs1 ls (gw.weaken (by rw [← ht]; exact hB) hA hw.2.2.1) hS1 hv)
/-- a place of the script -/
theorem V_sld {b L : Nat} {xs : Nat → Int32} {i : Int32} (X : gC p l s m args meth c G A cc nL ret own) (hX : va_X b L xs s s.heap) (hbl : b < s.heap.size) (hbA : ¬ A b) (hin : vp_in i L) (hd : decode cc pc = .ok (.iaload, 1)) (kk : V p l e R s m args below meth c Z G A nL h k n (pc + 1) lv (.int (xs i.toNatClampNeg) :: st)) : V p l e R s m args below meth c Z G A nL h k n pc lv (.int i :: .ref b :: st) := fun H locs ls hw hS hv => va_sld X.1 X.2.1 hX hbl hbA hS hin hd (kk H locs ls hw hS hv)
theorem V_slen {b L : Nat} {xs : Nat → Int32} (X : gC p l s m args meth c G A cc nL ret own) (hX : va_X b L xs s s.heap) (hbl : b < s.heap.size) (hbA : ¬ A b) (hd : decode cc pc = .ok (.arraylength, 1)) (kk : V p l e R s m args below meth c Z G A nL h k n (pc + 1) lv (.int (Int32.ofNat L) :: st)) : V p l e R s m args below meth c Z G A nL h k n pc lv (.ref b :: st) := fun H locs ls hw hS hv => va_slen X.1 X.2.1 hX hbl hbA hS hd (kk H locs ls hw hS hv)

/-- a start with the script's cell b -/
def gPcS (G : gG) (h : gH) (sz : Nat) (As : List Value) (b L : Nat) (xs : Nat → Int32) : Array Value → State → Prop := va_Pc As (fun U => U.heap.size = sz ∧ gw G (gA G h sz) h U.heap ∧ va_K G.1 vwCl (gty G.2.1) U ∧ gs G (gA G h sz) U U.heap ∧ va_X b L xs U U.heap ∧ b < U.heap.size ∧ ¬ gA G h sz b)
theorem gPcS_blind (G : gG) (h : gH) (sz : Nat) (As : List Value) (b L : Nat) (xs : Nat → Int32) : FrameBlind (gPcS G h sz As b L xs) := fun a U g mk q => by
  obtain ⟨q0, q1, q2, q3, q4, q5, q6, q7⟩ := q
  exact ⟨q0, q1, q2, va_K.moved (u := U) (U := U.calling g mk a) (Vm.Alike.refl U.vm) q3, gs.same (s := U) (U := U.calling g mk a) q4 rfl, va_X.moved (u := U) (U := U.calling g mk a) (Vm.Alike.refl U.vm) q5, q6, q7⟩
theorem gPcS_at {b L : Nat} {xs : Nat → Int32} (X : gC p l s m args meth c G A cc nL ret own) (hX : va_X b L xs s s.heap) (hbl : b < s.heap.size) (hbA : ¬ A b) {H : Heap} {locs : List Loc} (hw : gw G A h H) (hS : va_S A s.heap H locs) : ∀ U : State, U.heap = H → s.WarmedH U.vm → gPcS G h H.size As b L xs As.toArray U := fun U hU hW => by
  refine ⟨rfl, by rw [hU], by rw [hU]; exact hw.self, va_K.moved hW.alike X.2.2.2.2.2.1, gs.at X.2.2.2.2.2.2.2.2.2.1 hS (gA.sub hw hS X.2.2.2.2.2.2.1) hU hW, ?_, ?_, fun z => hbA (gA.sub hw hS X.2.2.2.2.2.2.1 _ z)⟩
  · rw [hU]
    exact (hX.moved hW.alike).kept (hS.2.1 b hbl hbA)
  · rw [hU]
    have h1 := hS.2.1 b hbl hbA
    obtain ⟨scr, h2, h3⟩ := hX
    rw [h2] at h1
    exact (Array.getElem?_eq_some_iff.mp h1).1
/-- a contract with the script -/
def gSi (l : Launch) (y : MethodName) (cb : ByteArray) (mL : Nat) (rt : Option FieldType) (rm : Room) (mc ms : Nat) (G : gG) (h : gH) (As : List Value) (b L : Nat) (xs : Nat → Int32) (Qn : Int32 → gH → Prop) : Prop := ∀ sz : Nat, Met l y (Cond.code y cb mL rt :: gW) rm (gPcS G h sz As b L xs) (va_Qi Qn (gB G (gA G h sz)) (gA G h sz)) mc ms (gA G h sz)
theorem gSi.of {b L : Nat} {xs : Nat → Int32} {Qn : Int32 → gH → Prop} (hy : plainName y.cls = true) (hls : l.stackTraces = false) (hAs : (lg_sl As).length ≤ mL) (hc : rm.cells = mc) (hs : rm.slots = ms)
    (body : ∀ (p : Program) (e : Env) (s : State) (m : MethodId) (below : List Frame) (meth : Method) (c : Code) (A : Nat → Prop), gC p l s m As.toArray meth c G A cb mL rt y.cls → va_X b L xs s s.heap → b < s.heap.size → ¬ A b → V p l e rm s m As.toArray below meth c (MQ below (va_Qi Qn (gB G A) A) As.toArray s mc ms A) G A mL h 0 0 0 (lv_args 0 As) []) : gSi l y cb mL rt rm mc ms G h As b L xs Qn := by
  intro sz
  refine Met.ofW hy rfl ?_
  intro p e s m args below meth c s₁ B hml hv
  obtain ⟨rfl, hsz, hw, hK, hg, hX, hbl, hbA⟩ := hv
  subst hsz
  have hts := atoms_spec (ws := Cond.code y cb mL rt :: gW) B.pre
  have hl := lv_entry As (n := mL) hAs
  rw [lg_entry_eq]
  exact body p e s m below meth c _ ⟨B.exec, B.bytes, hml, findClass_of_methodNamed B.named, fun w hw => hts w (List.mem_cons_of_mem _ hw), hK, fun q hq => Or.inr hq, B.notSynchronized, hls, hg, B.returns⟩ hX hbl hbA s.heap [] _ hw va_S.rf hl
theorem V_callSSi {b L : Nat} {xs : Nat → Int32} {Qn : Int32 → gH → Prop} {k1 n1 : Nat} (X : gC p l s m args meth c G A cc nL ret own) (hX : va_X b L xs s s.heap) (hbl : b < s.heap.size) (hbA : ¬ A b) (M : gSi l y cb mL rt rm rm.cells rm.slots G h As b L xs Qn) (L : gLS own idx y cb mL rt n0) (hd : decode cc pc = .ok (.invokestatic idx, 3)) (hR : rm.frames + 1 ≤ R.frames ∧ 8 + (mL + 11) + rm.locals ≤ R.locals) (hn : As.length = n0) (hst : (rest.map fun v => v.category).sum ≤ 8) (hf : k + rm.cells ≤ R.cells ∧ n + rm.slots ≤ R.slots) (hk : k + rm.cells ≤ k1) (hk2 : n + rm.slots ≤ n1) (kk : ∀ (r : Int32) (h1 : gH), Qn r h1 → V p l e R s m args below meth c Z G A nL h1 k1 n1 (pc + 3) lv (.int r :: rest)) : V p l e R s m args below meth c Z G A nL h k n pc lv (As.reverse ++ rest) := fun H locs ls hw hS hv => by
  have hA := gA.sub hw hS X.2.2.2.2.2.2.1
  refine va_calli (va_runS (As := As) (rest := rest) ⟨X.1, X.2.1, X.2.2.1, X.2.2.2.1, X.2.2.2.2.1⟩ (M H.size) ⟨gCB X L.1 L.2.2.1 L.2.2.2.1 L.2.2.2.2 hR, X.2.2.2.2.1 _ L.2.1⟩ ⟨gPcS_blind _ _ _ _ _ _ _, gPcS_at X hX hbl hbA hw hS⟩ rfl hn hv.1 rfl (lv_room hst) hd hf) hS (fun q _ z => hA q z) hA (fun r u t H1 locs1 ht hal hq hB hz hkeep hS1 => ?_)
  exact W.widen hk hk2 (kk r u hq H1 locs1 ls (gw.weaken (by rw [← ht]; exact hB) hA hw.2.2.1) hS1 hv)
/-- a contract with the script -/
def gSv (l : Launch) (y : MethodName) (cb : ByteArray) (mL : Nat) (rt : Option FieldType) (rm : Room) (mc ms : Nat) (G : gG) (h : gH) (As : List Value) (b L : Nat) (xs : Nat → Int32) (Qn : gH → Prop) : Prop := ∀ sz : Nat, Met l y (Cond.code y cb mL rt :: gW) rm (gPcS G h sz As b L xs) (va_Qv Qn (gB G (gA G h sz)) (gA G h sz)) mc ms (gA G h sz)
theorem gSv.of {b L : Nat} {xs : Nat → Int32} {Qn : gH → Prop} (hy : plainName y.cls = true) (hls : l.stackTraces = false) (hAs : (lg_sl As).length ≤ mL) (hc : rm.cells = mc) (hs : rm.slots = ms)
    (body : ∀ (p : Program) (e : Env) (s : State) (m : MethodId) (below : List Frame) (meth : Method) (c : Code) (A : Nat → Prop), gC p l s m As.toArray meth c G A cb mL rt y.cls → va_X b L xs s s.heap → b < s.heap.size → ¬ A b → V p l e rm s m As.toArray below meth c (MQ below (va_Qv Qn (gB G A) A) As.toArray s mc ms A) G A mL h 0 0 0 (lv_args 0 As) []) : gSv l y cb mL rt rm mc ms G h As b L xs Qn := by
  intro sz
  refine Met.ofW hy rfl ?_
  intro p e s m args below meth c s₁ B hml hv
  obtain ⟨rfl, hsz, hw, hK, hg, hX, hbl, hbA⟩ := hv
  subst hsz
  have hts := atoms_spec (ws := Cond.code y cb mL rt :: gW) B.pre
  have hl := lv_entry As (n := mL) hAs
  rw [lg_entry_eq]
  exact body p e s m below meth c _ ⟨B.exec, B.bytes, hml, findClass_of_methodNamed B.named, fun w hw => hts w (List.mem_cons_of_mem _ hw), hK, fun q hq => Or.inr hq, B.notSynchronized, hls, hg, B.returns⟩ hX hbl hbA s.heap [] _ hw va_S.rf hl
theorem V_callSSv {b L : Nat} {xs : Nat → Int32} {Qn : gH → Prop} {k1 n1 : Nat} (X : gC p l s m args meth c G A cc nL ret own) (hX : va_X b L xs s s.heap) (hbl : b < s.heap.size) (hbA : ¬ A b) (M : gSv l y cb mL rt rm rm.cells rm.slots G h As b L xs Qn) (L : gLS own idx y cb mL rt n0) (hd : decode cc pc = .ok (.invokestatic idx, 3)) (hR : rm.frames + 1 ≤ R.frames ∧ 8 + (mL + 11) + rm.locals ≤ R.locals) (hn : As.length = n0) (hst : (rest.map fun v => v.category).sum ≤ 8) (hf : k + rm.cells ≤ R.cells ∧ n + rm.slots ≤ R.slots) (hk : k + rm.cells ≤ k1) (hk2 : n + rm.slots ≤ n1) (kk : ∀ (h1 : gH), Qn h1 → V p l e R s m args below meth c Z G A nL h1 k1 n1 (pc + 3) lv rest) : V p l e R s m args below meth c Z G A nL h k n pc lv (As.reverse ++ rest) := fun H locs ls hw hS hv => by
  have hA := gA.sub hw hS X.2.2.2.2.2.2.1
  refine va_callv (va_runS (As := As) (rest := rest) ⟨X.1, X.2.1, X.2.2.1, X.2.2.2.1, X.2.2.2.2.1⟩ (M H.size) ⟨gCB X L.1 L.2.2.1 L.2.2.2.1 L.2.2.2.2 hR, X.2.2.2.2.1 _ L.2.1⟩ ⟨gPcS_blind _ _ _ _ _ _ _, gPcS_at X hX hbl hbA hw hS⟩ rfl hn hv.1 rfl (lv_room hst) hd hf) hS (fun q _ z => hA q z) hA (fun u t H1 locs1 ht hal hq hB hz hkeep hS1 => ?_)
  exact W.widen hk hk2 (kk u hq H1 locs1 ls (gw.weaken (by rw [← ht]; exact hB) hA hw.2.2.1) hS1 hv)
theorem V_callZi {b ci : Nat} {fs : List Value} {q9 : vw_C} {Qn : Int32 → gH → Prop} {k1 n1 : Nat} (X : gC p l s m args meth c G A cc nL ret own) (M : gXi l y cb mL rt rm rm.cells rm.slots G h (.ref b :: As) Qn (fun _ _ => False)) (L : gLV own idx y cb mL rt n0) (hh : h b = some (.inr (ci, fs))) (hci : vwCl[ci]? = some q9) (hcn : q9.1 = y.cls) (hd : decode cc pc = .ok (.invokevirtual idx, 3)) (hR : rm.frames + 1 ≤ R.frames ∧ 8 + (mL + 11) + rm.locals ≤ R.locals) (hn : As.length = n0) (hst : (rest.map fun v => v.category).sum ≤ 8) (hf : k + rm.cells ≤ R.cells ∧ n + rm.slots ≤ R.slots) (hk : k + rm.cells ≤ k1) (hk2 : n + rm.slots ≤ n1)
    (kk : ∀ (r : Int32) (h1 : gH), Qn r h1 → V p l e R s m args below meth c Z G A nL h1 k1 n1 (pc + 3) lv (.int r :: rest)) : V p l e R s m args below meth c Z G A nL h k n pc lv (As.reverse ++ .ref b :: rest) := fun H locs ls hw hS hv => by
  have hA := gA.sub hw hS X.2.2.2.2.2.2.1
  refine vx_calli (vx_runV (C := y.cls) (As := As) (rest := rest) ⟨X.1, X.2.1, X.2.2.1, X.2.2.2.1, X.2.2.2.2.1⟩ (M H.size) ⟨gCB X L.1 L.2.2.2.1 L.2.2.2.2.1 L.2.2.2.2.2 hR, X.2.2.2.2.1 _ L.2.1, X.2.2.2.2.1 _ L.2.2.1⟩ ⟨gPc_blind _ _ _ _, by rw [← hcn]; exact va_recv (q0 := 0) X.2.2.2.2.2.1 (hw.one hh (hw.t0 hh)) hci rfl, gPc_at X hw hS⟩ rfl hn hv.1 rfl (lv_room hst) hd hf) hS (fun q _ z => hA q z) hA (fun q _ z => hA q z) (fun E ce q9 u t H1 locs1 ht hal hq hB hz hkeep hS1 hce hcv hcl => hB.1.elim) (fun r u t H1 locs1 ht hal hq hB hz hkeep hS1 => ?_)
  exact W.widen hk hk2 (kk r u hq H1 locs1 ls (gw.weaken (by rw [← ht]; exact hB) hA hw.2.2.1) hS1 hv)
theorem V_callZl {b ci : Nat} {fs : List Value} {q9 : vw_C} {Qn : Int64 → gH → Prop} {k1 n1 : Nat} (X : gC p l s m args meth c G A cc nL ret own) (M : gXl l y cb mL rt rm rm.cells rm.slots G h (.ref b :: As) Qn (fun _ _ => False)) (L : gLV own idx y cb mL rt n0) (hh : h b = some (.inr (ci, fs))) (hci : vwCl[ci]? = some q9) (hcn : q9.1 = y.cls) (hd : decode cc pc = .ok (.invokevirtual idx, 3)) (hR : rm.frames + 1 ≤ R.frames ∧ 8 + (mL + 11) + rm.locals ≤ R.locals) (hn : As.length = n0) (hst : (rest.map fun v => v.category).sum ≤ 8) (hf : k + rm.cells ≤ R.cells ∧ n + rm.slots ≤ R.slots) (hk : k + rm.cells ≤ k1) (hk2 : n + rm.slots ≤ n1)
    (kk : ∀ (r : Int64) (h1 : gH), Qn r h1 → V p l e R s m args below meth c Z G A nL h1 k1 n1 (pc + 3) lv (.long r :: rest)) : V p l e R s m args below meth c Z G A nL h k n pc lv (As.reverse ++ .ref b :: rest) := fun H locs ls hw hS hv => by
  have hA := gA.sub hw hS X.2.2.2.2.2.2.1
  refine vx_calll (vx_runV (C := y.cls) (As := As) (rest := rest) ⟨X.1, X.2.1, X.2.2.1, X.2.2.2.1, X.2.2.2.2.1⟩ (M H.size) ⟨gCB X L.1 L.2.2.2.1 L.2.2.2.2.1 L.2.2.2.2.2 hR, X.2.2.2.2.1 _ L.2.1, X.2.2.2.2.1 _ L.2.2.1⟩ ⟨gPc_blind _ _ _ _, by rw [← hcn]; exact va_recv (q0 := 0) X.2.2.2.2.2.1 (hw.one hh (hw.t0 hh)) hci rfl, gPc_at X hw hS⟩ rfl hn hv.1 rfl (lv_room hst) hd hf) hS (fun q _ z => hA q z) hA (fun q _ z => hA q z) (fun E ce q9 u t H1 locs1 ht hal hq hB hz hkeep hS1 hce hcv hcl => hB.1.elim) (fun r u t H1 locs1 ht hal hq hB hz hkeep hS1 => ?_)
  exact W.widen hk hk2 (kk r u hq H1 locs1 ls (gw.weaken (by rw [← ht]; exact hB) hA hw.2.2.1) hS1 hv)
end GLW
/-- the law's own end -/
theorem V_lawret {p : Program} {l : Launch} {e : Env} {s : State} {m : MethodId} {below : List Frame} {meth : Method} {c : Code} {G : gG} {h : gH} {k n pc b : Nat} {lv : List (Nat × Value)} {x : Int32} (X : gC p l s m #[Value.ref b] meth c G (fun q => s.heap.size ≤ q) cL_law 19 (some .boolean) RL) (hx : x = 1) (hk : k ≤ 636012) (hn : n ≤ 7193589) (hd : decode code pc = .ok (.ireturn, 1)) : V p l e room_1 s m #[Value.ref b] below meth c (lw_Z below #[Value.ref b] s) G (fun q => s.heap.size ≤ q) 19 h k n pc lv [.int x] := fun H locs ls hw hS hv => by
  subst hx
  refine va_forget (fun q hq => hS.2.2 q hq) ?_
  refine W.widen (k := 636012) (n := 7193589) hk hn ?_
  exact lw_ret X.1 X.2.1 X.2.2.2.2.2.2.2.2.2.2 X.2.2.2.2.2.2.2.1 hd
