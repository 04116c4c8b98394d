/-! ===== methods that throw ===== -/
section
variable {p : Program} {l : Launch} {e : Env} {R : Room} {s : State} {m : MethodId} {args : Array Value} {below : List Frame} {meth : Method} {c : Code} {H : Heap} {locs : List Loc} {cells slots : Nat} {Q : State → Prop}
variable {mc ms : Nat} {free : Addr → Prop} {A0 A1 : Nat → Prop} {H0 : Heap} {a : Array Value} {pc : Nat} {ls : Array Slot} {st0 rest : List Value}
theorem vx_callq {S SX : Type} {post : Option Nat → S → Prop} {px : SX → Prop} {B : S → State → Prop} {BX : String → SX → State → Prop} {AX : Nat → Prop} (hr : vx_Run p l e R s m args below meth c H locs cells slots mc ms (F0 m pc ls st0) rest (va_Qq post B A1 a) (vx_X px BX AX) free) (hS : va_S A0 H0 H locs) (hA : ∀ q, q < H.size → A1 q → A0 q) (hf : ∀ q, free q → A0 q) (hAX : ∀ q, q < H.size → AX q → A0 q)
    (kx : ∀ (E : String) (ce : Cell) (q9 : Addr) (u : SX) (t : State) (H1 : Heap) (locs1 : List Loc), t.heap = H1 → s.vm.Alike t.vm → px u → BX E u t → H.size ≤ H1.size → (∀ q : Nat, q < H.size → ¬ AX q → H1[q]? = H[q]?) → va_S A0 H0 H1 locs1 → H1[q9]? = some ce → ce.vm = .none → s.vm.findClass E = some ce.cls → vx_W p l e R s m args below meth c H1 locs1 (cells + mc) (slots + ms) Q (F0 m pc ls rest) q9)
    (kk : ∀ (r : Option Nat) (u : S) (t : State) (H1 : Heap) (locs1 : List Loc), t.heap = H1 → s.vm.Alike t.vm → post r u → B u t → H.size ≤ H1.size → (∀ q : Nat, q < H.size → ¬ A1 q → H1[q]? = H[q]?) → va_S A0 H0 H1 locs1 → W p l e R s m args below meth c H1 locs1 (cells + mc) (slots + ms) Q (F0 m (pc + 3) ls (va_rf r :: rest))) : W p l e R s m args below meth c H locs cells slots Q (F0 m pc ls st0) := by
  intro T hT X
  rcases hr T hT X with ⟨v, st₀, t, T', L, h0, X', hL, e1, e2, ⟨⟨r, u, hv, hp, hb⟩, hF⟩, st⟩ | ⟨q, st₀, t, T', L, E, ce, h0, X', hL, e1, e2, ⟨u, hp, hb, hF⟩, hce, hcv, hcl, st⟩
  · cases hv
    obtain ⟨k1, k2, k3⟩ := vx_keep h0 e1 hS hA hf hL hF
    obtain ⟨t2, a1, b1⟩ := kk r u t T'.heap (locs ++ L) e1.symm (by rw [← e2]; exact X'.warmed.alike) hp hb k1 k2 k3 T' rfl X'
    exact ⟨t2, st t2 a1, b1⟩
  · obtain ⟨k1, k2, k3⟩ := vx_keep h0 e1 hS hAX hf hL hF
    obtain ⟨t2, a1, b1⟩ := kx E ce q u t T'.heap (locs ++ L) e1.symm (by rw [← e2]; exact X'.warmed.alike) hp hb k1 k2 k3 (by rw [e1]; exact hce) hcv hcl T' rfl X'
    exact ⟨t2, st.trans a1, b1⟩
end
theorem gw.grow {G : gG} {A : Nat → Prop} {h : gH} {H H1 : Heap} (w : gw G A h H) (hq : ∀ q : Nat, q < H.size → H1[q]? = H[q]?) : gw G A h H1 := by
  have hlt : ∀ a, h a ≠ none → a < H.size := fun a => w.lt
  obtain ⟨a0, a1, a2, L, hL, hP, hD⟩ := w
  refine ⟨a0, a1.kept (hq _ (hlt _ (by rw [a0]; exact Option.some_ne_none _))), a2, L, hL, hP.kept (fun k q hk => hq _ ?_), hD⟩
  obtain ⟨a, ha, rfl⟩ := List.mem_map.mp (List.mem_of_getElem? hk)
  exact hlt a ((hL a).mp ha).1
def gXC (G : gG) (A : Nat → Prop) (Qx : String → gH → Prop) : String → State → State → Prop := vx_X (fun _ : gH => True) (fun E u t => Qx E u ∧ gB G A u t) A
/-- method y's contract at the heap h: it returns as Qn says, or throws as Qx says -/
def gXi (l : Launch) (y : MethodName) (cb : ByteArray) (mL : Nat) (rt : Option FieldType) (rm : Room) (mc ms : Nat) (G : gG) (h : gH) (As : List Value) (Qn : Int32 → gH → Prop) (Qx : String → gH → Prop) : Prop := ∀ sz : Nat, vx_Met l y (Cond.code y cb mL rt :: gW) rm (gPc G h sz As) (va_Qi Qn (gB G (gA G h sz)) (gA G h sz)) (gXC G (gA G h sz) Qx) mc ms (gA G h sz)
/-- method y's contract at the heap h: it returns as Qn says, or throws as Qx says -/
def gXl (l : Launch) (y : MethodName) (cb : ByteArray) (mL : Nat) (rt : Option FieldType) (rm : Room) (mc ms : Nat) (G : gG) (h : gH) (As : List Value) (Qn : Int64 → gH → Prop) (Qx : String → gH → Prop) : Prop := ∀ sz : Nat, vx_Met l y (Cond.code y cb mL rt :: gW) rm (gPc G h sz As) (va_Ql Qn (gB G (gA G h sz)) (gA G h sz)) (gXC G (gA G h sz) Qx) mc ms (gA G h sz)
/-- method y's contract at the heap h: it returns as Qn says, or throws as Qx says -/
def gXq (l : Launch) (y : MethodName) (cb : ByteArray) (mL : Nat) (rt : Option FieldType) (rm : Room) (mc ms : Nat) (G : gG) (h : gH) (As : List Value) (Qn : Option Nat → gH → Prop) (Qx : String → gH → Prop) : Prop := ∀ sz : Nat, vx_Met l y (Cond.code y cb mL rt :: gW) rm (gPc G h sz As) (va_Qq Qn (gB G (gA G h sz)) (gA G h sz)) (gXC G (gA G h sz) Qx) mc ms (gA G h sz)
/-- method y's contract at the heap h: it returns as Qn says, or throws as Qx says -/
def gXv (l : Launch) (y : MethodName) (cb : ByteArray) (mL : Nat) (rt : Option FieldType) (rm : Room) (mc ms : Nat) (G : gG) (h : gH) (As : List Value) (Qn : gH → Prop) (Qx : String → gH → Prop) : Prop := ∀ sz : Nat, vx_Met l y (Cond.code y cb mL rt :: gW) rm (gPc G h sz As) (va_Qv Qn (gB G (gA G h sz)) (gA G h sz)) (gXC G (gA G h sz) Qx) mc ms (gA G h sz)
def gTh (own : String) (ik is ic : Nat) (cls text : String) : Prop := Cond.classLink own ik cls ∈ gW ∧ Cond.initialized cls ∈ gW ∧ (own, is, text) ∈ gStr ∧ (∀ w ∈ (vx_atS own ic cls ["java/lang/RuntimeException", "java/lang/Exception"]).filter goodWord, w ∈ gW) ∧ ((vx_atS own ic cls ["java/lang/RuntimeException", "java/lang/Exception"]).filter (fun w => !goodWord w) |>.all (fun w => decide (w ∈ gU))) = true ∧ Bundle.fit cls = true ∧ (∀ n ∈ ["java/lang/RuntimeException", "java/lang/Exception"], Bundle.fit n = true) ∧ (∀ w ∈ Cond.classLink own ik cls :: Cond.initialized cls :: vx_atS own ic cls ["java/lang/RuntimeException", "java/lang/Exception"], vx_ot w = true)
section GX
variable {p : Program} {l : Launch} {e : Env} {R : Room} {s : State} {m : MethodId} {args : Array Value} {below : List Frame} {meth : Method} {c : Code} {Z : State → Prop}
variable {G : gG} {A : Nat → Prop} {cc : ByteArray} {nL : Nat} {ret : Option FieldType} {own : String} {h : gH} {k n pc : Nat} {lv : List (Nat × Value)} {st : List Value}
variable {y : MethodName} {cb : ByteArray} {mL : Nat} {rt : Option FieldType} {rm : Room} {mc ms n0 idx : Nat} {As rest : List Value} {Qc : Array Value → State → Outcome → State → Prop} {Qx : String → gH → Prop}
theorem V.vx {XC : String → State → State → Prop} (kk : V p l e R s m args below meth c (MQ below Qc args s mc ms A) G A nL h k n pc lv st) : V p l e R s m args below meth c (vx_MQ below Qc XC args s mc ms A) G A nL h k n pc lv st := fun H locs ls hw hS hv => vx_ret (kk H locs ls hw hS hv)
theorem V_throw {ik is ic : Nat} {cls text : String} (X : gC p l s m args meth c G A cc nL ret own) (F : gTh own ik is ic cls text) (d0 : decode cc pc = .ok (.new ik, 3)) (d3 : decode cc (pc + 3) = .ok (.dup, 1)) (d4 : decode cc (pc + 4) = .ok (.ldc is, 2)) (d6 : decode cc (pc + 6) = .ok (.invokespecial ic, 3)) (d9 : decode cc (pc + 9) = .ok (.athrow, 1)) (hT : ∀ x ∈ c.exceptionTable.toList, False) (hR : 5 < R.frames ∧ (st.map fun v => v.category).sum + 82 ≤ R.locals ∧ k + 1 ≤ R.cells ∧ n + 6 ≤ R.slots) (hk : k + 1 ≤ mc) (hn : n + 6 ≤ ms) (hq : Qx cls h) : V p l e R s m args below meth c (vx_MQ below Qc (gXC G A Qx) args s mc ms A) G A nL h k n pc lv st := fun H locs ls hw hS hv => by
  obtain ⟨f1, f2, f3, f4, f5, f6, f7, f8⟩ := F
  obtain ⟨sa, hsa⟩ := X.2.2.2.2.2.2.2.2.2.1.2.2.2.2.2 _ f3
  refine vx_throwS (names := ["java/lang/RuntimeException", "java/lang/Exception"]) X.1 X.2.1 X.2.2.2.2.2.2.2.2.1 X.2.2.2.1 f6 f7 (X.2.2.2.2.1 _ f1) (X.2.2.2.2.1 _ f2) hsa (vx_hat (B := gU) (fun w hw => X.2.2.2.2.1 _ (f4 w hw)) (fun w hw => of_decide_eq_true (List.all_eq_true.mp f5 w hw)) (fun w hw => X.2.2.2.2.2.2.2.2.2.1.2.2.2.2.1 w hw _)) f8 X.2.2.2.2.2.2.2.2.2.1.2.1 X.2.2.2.2.2.2.2.2.2.1.2.2.1 hS (hv.1.trans X.2.2.1.symm) d0 d3 d4 d6 d9 (fun x hx => (hT x hx).elim) hR.1 hR.2.1 hR.2.2.1 hR.2.2.2 X.2.2.2.2.2.2.2.1 (fun t ha hz hk9 => ?_) hS.2.2 hk hn
  exact ⟨h, trivial, ⟨hq, hw.grow hk9⟩, Nat.le_trans hS.1 hz, fun q h1 h2 => (hk9 q (Nat.lt_of_lt_of_le h1 hS.1)).trans (hS.2.1 q h1 h2)⟩
theorem V_throwW {ik is ic : Nat} {cls text : String} (X : gC p l s m args meth c G A cc nL ret own) (F : gTh own ik is ic cls text) (d0 : decode cc pc = .ok (.new ik, 3)) (d3 : decode cc (pc + 3) = .ok (.dup, 1)) (d4 : decode cc (pc + 4) = .ok (.ldc_w is, 3)) (d6 : decode cc (pc + 7) = .ok (.invokespecial ic, 3)) (d9 : decode cc (pc + 10) = .ok (.athrow, 1)) (hT : ∀ x ∈ c.exceptionTable.toList, False) (hR : 5 < R.frames ∧ (st.map fun v => v.category).sum + 82 ≤ R.locals ∧ k + 1 ≤ R.cells ∧ n + 6 ≤ R.slots) (hk : k + 1 ≤ mc) (hn : n + 6 ≤ ms) (hq : Qx cls h) : V p l e R s m args below meth c (vx_MQ below Qc (gXC G A Qx) args s mc ms A) G A nL h k n pc lv st := fun H locs ls hw hS hv => by
  obtain ⟨f1, f2, f3, f4, f5, f6, f7, f8⟩ := F
  obtain ⟨sa, hsa⟩ := X.2.2.2.2.2.2.2.2.2.1.2.2.2.2.2 _ f3
  refine vx_throwSW (names := ["java/lang/RuntimeException", "java/lang/Exception"]) X.1 X.2.1 X.2.2.2.2.2.2.2.2.1 X.2.2.2.1 f6 f7 (X.2.2.2.2.1 _ f1) (X.2.2.2.2.1 _ f2) hsa (vx_hat (B := gU) (fun w hw => X.2.2.2.2.1 _ (f4 w hw)) (fun w hw => of_decide_eq_true (List.all_eq_true.mp f5 w hw)) (fun w hw => X.2.2.2.2.2.2.2.2.2.1.2.2.2.2.1 w hw _)) f8 X.2.2.2.2.2.2.2.2.2.1.2.1 X.2.2.2.2.2.2.2.2.2.1.2.2.1 hS (hv.1.trans X.2.2.1.symm) d0 d3 d4 d6 d9 (fun x hx => (hT x hx).elim) hR.1 hR.2.1 hR.2.2.1 hR.2.2.2 X.2.2.2.2.2.2.2.1 (fun t ha hz hk9 => ?_) hS.2.2 hk hn
  exact ⟨h, trivial, ⟨hq, hw.grow hk9⟩, Nat.le_trans hS.1 hz, fun q h1 h2 => (hk9 q (Nat.lt_of_lt_of_le h1 hS.1)).trans (hS.2.1 q h1 h2)⟩
theorem V_callXi {b ci : Nat} {fs : List Value} {q9 : vw_C} {Qn : Int32 → gH → Prop} {k1 n1 : Nat} (X : gC p l s m args meth c G A cc nL ret own) (M : gXi l y cb mL rt rm rm.cells rm.slots G h (.ref b :: As) Qn Qx) (L : gLV own idx y cb mL rt n0) (hh : h b = some (.inr (ci, fs))) (hci : vwCl[ci]? = some q9) (hcn : q9.1 = y.cls) (hd : decode cc pc = .ok (.invokevirtual idx, 3)) (hT : ∀ x ∈ c.exceptionTable.toList, False) (hR : rm.frames + 1 ≤ R.frames ∧ 8 + (mL + 11) + rm.locals ≤ R.locals) (hn : As.length = n0) (hst : (rest.map fun v => v.category).sum ≤ 8) (hf : k + rm.cells ≤ R.cells ∧ n + rm.slots ≤ R.slots) (hk : k + rm.cells ≤ k1) (hk2 : n + rm.slots ≤ n1) (hx1 : k + rm.cells ≤ mc) (hx2 : n + rm.slots ≤ ms) (kk : ∀ (r : Int32) (h1 : gH), Qn r h1 → V p l e R s m args below meth c (vx_MQ below Qc (gXC G A Qx) args s mc ms A) G A nL h1 k1 n1 (pc + 3) lv (.int r :: rest)) : V p l e R s m args below meth c (vx_MQ below Qc (gXC G A Qx) args s mc ms A) G A nL h k n pc lv (As.reverse ++ .ref b :: rest) := fun H locs ls hw hS hv => by
  have hA := gA.sub hw hS X.2.2.2.2.2.2.1
  refine vx_calli (vx_runV (C := y.cls) (As := As) (rest := rest) ⟨X.1, X.2.1, X.2.2.1, X.2.2.2.1, X.2.2.2.2.1⟩ (M H.size) ⟨gCB X L.1 L.2.2.2.1 L.2.2.2.2.1 L.2.2.2.2.2 hR, X.2.2.2.2.1 _ L.2.1, X.2.2.2.2.1 _ L.2.2.1⟩ ⟨gPc_blind _ _ _ _, by rw [← hcn]; exact va_recv (q0 := 0) X.2.2.2.2.2.1 (hw.one hh (hw.t0 hh)) hci rfl, gPc_at X hw hS⟩ rfl hn hv.1 rfl (lv_room hst) hd hf) hS (fun q _ z => hA q z) hA (fun q _ z => hA q z) (fun E ce q9 u t H1 locs1 ht hal hq hB hz hkeep hS1 hce hcv hcl => ?_) (fun r u t H1 locs1 ht hal hq hB hz hkeep hS1 => ?_)
  · exact vx_out (fun x hx => (hT x hx).elim) X.2.2.2.2.2.2.2.1 hce hcv hcl (fun t1 ht1 ha1 => ⟨u, trivial, ⟨hB.1, gw.weaken (by show gw G _ u t1.heap; rw [ht1, ← ht]; exact hB.2) hA hw.2.2.1⟩, hS1.F ht1⟩) hS1.2.2 hx1 hx2
  · exact W.widen hk hk2 (kk r u hq H1 locs1 ls (gw.weaken (by rw [← ht]; exact hB) hA hw.2.2.1) hS1 hv)
theorem gXi.of {Qn : Int32 → gH → Prop} (hy : plainName y.cls = true) (hls : l.stackTraces = false) (hAs : (lg_sl As).length ≤ mL) (hc : rm.cells = mc) (hs : rm.slots = ms)
    (body : ∀ (p : Program) (e : Env) (s : State) (m : MethodId) (below : List Frame) (meth : Method) (c : Code) (A : Nat → Prop), gC p l s m As.toArray meth c G A cb mL rt y.cls → (∀ x ∈ c.exceptionTable.toList, False) → V p l e rm s m As.toArray below meth c (vx_MQ below (va_Qi Qn (gB G A) A) (gXC G A Qx) As.toArray s mc ms A) G A mL h 0 0 0 (lv_args 0 As) []) : gXi l y cb mL rt rm mc ms G h As Qn Qx := by
  intro sz
  refine vx_ofW hy rfl ?_
  intro p e s m args below meth c s₁ B hml hT hv
  obtain ⟨rfl, hsz, hw, hK, hg⟩ := hv
  subst hsz
  have hts := atoms_spec (ws := Cond.code y cb mL rt :: gW) B.pre
  have hl := lv_entry As (n := mL) hAs
  rw [lg_entry_eq]
  exact body p e s m below meth c _ ⟨B.exec, B.bytes, hml, findClass_of_methodNamed B.named, fun w hw => hts w (List.mem_cons_of_mem _ hw), hK, fun q hq => Or.inr hq, B.notSynchronized, hls, hg, B.returns⟩ hT s.heap [] _ hw va_S.rf hl
theorem V_callXl {b ci : Nat} {fs : List Value} {q9 : vw_C} {Qn : Int64 → gH → Prop} {k1 n1 : Nat} (X : gC p l s m args meth c G A cc nL ret own) (M : gXl l y cb mL rt rm rm.cells rm.slots G h (.ref b :: As) Qn Qx) (L : gLV own idx y cb mL rt n0) (hh : h b = some (.inr (ci, fs))) (hci : vwCl[ci]? = some q9) (hcn : q9.1 = y.cls) (hd : decode cc pc = .ok (.invokevirtual idx, 3)) (hT : ∀ x ∈ c.exceptionTable.toList, False) (hR : rm.frames + 1 ≤ R.frames ∧ 8 + (mL + 11) + rm.locals ≤ R.locals) (hn : As.length = n0) (hst : (rest.map fun v => v.category).sum ≤ 8) (hf : k + rm.cells ≤ R.cells ∧ n + rm.slots ≤ R.slots) (hk : k + rm.cells ≤ k1) (hk2 : n + rm.slots ≤ n1) (hx1 : k + rm.cells ≤ mc) (hx2 : n + rm.slots ≤ ms) (kk : ∀ (r : Int64) (h1 : gH), Qn r h1 → V p l e R s m args below meth c (vx_MQ below Qc (gXC G A Qx) args s mc ms A) G A nL h1 k1 n1 (pc + 3) lv (.long r :: rest)) : V p l e R s m args below meth c (vx_MQ below Qc (gXC G A Qx) args s mc ms A) G A nL h k n pc lv (As.reverse ++ .ref b :: rest) := fun H locs ls hw hS hv => by
  have hA := gA.sub hw hS X.2.2.2.2.2.2.1
  refine vx_calll (vx_runV (C := y.cls) (As := As) (rest := rest) ⟨X.1, X.2.1, X.2.2.1, X.2.2.2.1, X.2.2.2.2.1⟩ (M H.size) ⟨gCB X L.1 L.2.2.2.1 L.2.2.2.2.1 L.2.2.2.2.2 hR, X.2.2.2.2.1 _ L.2.1, X.2.2.2.2.1 _ L.2.2.1⟩ ⟨gPc_blind _ _ _ _, by rw [← hcn]; exact va_recv (q0 := 0) X.2.2.2.2.2.1 (hw.one hh (hw.t0 hh)) hci rfl, gPc_at X hw hS⟩ rfl hn hv.1 rfl (lv_room hst) hd hf) hS (fun q _ z => hA q z) hA (fun q _ z => hA q z) (fun E ce q9 u t H1 locs1 ht hal hq hB hz hkeep hS1 hce hcv hcl => ?_) (fun r u t H1 locs1 ht hal hq hB hz hkeep hS1 => ?_)
  · exact vx_out (fun x hx => (hT x hx).elim) X.2.2.2.2.2.2.2.1 hce hcv hcl (fun t1 ht1 ha1 => ⟨u, trivial, ⟨hB.1, gw.weaken (by show gw G _ u t1.heap; rw [ht1, ← ht]; exact hB.2) hA hw.2.2.1⟩, hS1.F ht1⟩) hS1.2.2 hx1 hx2
  · exact W.widen hk hk2 (kk r u hq H1 locs1 ls (gw.weaken (by rw [← ht]; exact hB) hA hw.2.2.1) hS1 hv)
theorem gXl.of {Qn : Int64 → gH → Prop} (hy : plainName y.cls = true) (hls : l.stackTraces = false) (hAs : (lg_sl As).length ≤ mL) (hc : rm.cells = mc) (hs : rm.slots = ms)
    (body : ∀ (p : Program) (e : Env) (s : State) (m : MethodId) (below : List Frame) (meth : Method) (c : Code) (A : Nat → Prop), gC p l s m As.toArray meth c G A cb mL rt y.cls → (∀ x ∈ c.exceptionTable.toList, False) → V p l e rm s m As.toArray below meth c (vx_MQ below (va_Ql Qn (gB G A) A) (gXC G A Qx) As.toArray s mc ms A) G A mL h 0 0 0 (lv_args 0 As) []) : gXl l y cb mL rt rm mc ms G h As Qn Qx := by
  intro sz
  refine vx_ofW hy rfl ?_
  intro p e s m args below meth c s₁ B hml hT hv
  obtain ⟨rfl, hsz, hw, hK, hg⟩ := hv
  subst hsz
  have hts := atoms_spec (ws := Cond.code y cb mL rt :: gW) B.pre
  have hl := lv_entry As (n := mL) hAs
  rw [lg_entry_eq]
  exact body p e s m below meth c _ ⟨B.exec, B.bytes, hml, findClass_of_methodNamed B.named, fun w hw => hts w (List.mem_cons_of_mem _ hw), hK, fun q hq => Or.inr hq, B.notSynchronized, hls, hg, B.returns⟩ hT s.heap [] _ hw va_S.rf hl
theorem V_callXq {b ci : Nat} {fs : List Value} {q9 : vw_C} {Qn : Option Nat → gH → Prop} {k1 n1 : Nat} (X : gC p l s m args meth c G A cc nL ret own) (M : gXq l y cb mL rt rm rm.cells rm.slots G h (.ref b :: As) Qn Qx) (L : gLV own idx y cb mL rt n0) (hh : h b = some (.inr (ci, fs))) (hci : vwCl[ci]? = some q9) (hcn : q9.1 = y.cls) (hd : decode cc pc = .ok (.invokevirtual idx, 3)) (hT : ∀ x ∈ c.exceptionTable.toList, False) (hR : rm.frames + 1 ≤ R.frames ∧ 8 + (mL + 11) + rm.locals ≤ R.locals) (hn : As.length = n0) (hst : (rest.map fun v => v.category).sum ≤ 8) (hf : k + rm.cells ≤ R.cells ∧ n + rm.slots ≤ R.slots) (hk : k + rm.cells ≤ k1) (hk2 : n + rm.slots ≤ n1) (hx1 : k + rm.cells ≤ mc) (hx2 : n + rm.slots ≤ ms) (kk : ∀ (r : Option Nat) (h1 : gH), Qn r h1 → V p l e R s m args below meth c (vx_MQ below Qc (gXC G A Qx) args s mc ms A) G A nL h1 k1 n1 (pc + 3) lv (va_rf r :: rest)) : V p l e R s m args below meth c (vx_MQ below Qc (gXC G A Qx) args s mc ms A) G A nL h k n pc lv (As.reverse ++ .ref b :: rest) := fun H locs ls hw hS hv => by
  have hA := gA.sub hw hS X.2.2.2.2.2.2.1
  refine vx_callq (vx_runV (C := y.cls) (As := As) (rest := rest) ⟨X.1, X.2.1, X.2.2.1, X.2.2.2.1, X.2.2.2.2.1⟩ (M H.size) ⟨gCB X L.1 L.2.2.2.1 L.2.2.2.2.1 L.2.2.2.2.2 hR, X.2.2.2.2.1 _ L.2.1, X.2.2.2.2.1 _ L.2.2.1⟩ ⟨gPc_blind _ _ _ _, by rw [← hcn]; exact va_recv (q0 := 0) X.2.2.2.2.2.1 (hw.one hh (hw.t0 hh)) hci rfl, gPc_at X hw hS⟩ rfl hn hv.1 rfl (lv_room hst) hd hf) hS (fun q _ z => hA q z) hA (fun q _ z => hA q z) (fun E ce q9 u t H1 locs1 ht hal hq hB hz hkeep hS1 hce hcv hcl => ?_) (fun r u t H1 locs1 ht hal hq hB hz hkeep hS1 => ?_)
  · exact vx_out (fun x hx => (hT x hx).elim) X.2.2.2.2.2.2.2.1 hce hcv hcl (fun t1 ht1 ha1 => ⟨u, trivial, ⟨hB.1, gw.weaken (by show gw G _ u t1.heap; rw [ht1, ← ht]; exact hB.2) hA hw.2.2.1⟩, hS1.F ht1⟩) hS1.2.2 hx1 hx2
  · exact W.widen hk hk2 (kk r u hq H1 locs1 ls (gw.weaken (by rw [← ht]; exact hB) hA hw.2.2.1) hS1 hv)
theorem gXq.of {Qn : Option Nat → gH → Prop} (hy : plainName y.cls = true) (hls : l.stackTraces = false) (hAs : (lg_sl As).length ≤ mL) (hc : rm.cells = mc) (hs : rm.slots = ms)
    (body : ∀ (p : Program) (e : Env) (s : State) (m : MethodId) (below : List Frame) (meth : Method) (c : Code) (A : Nat → Prop), gC p l s m As.toArray meth c G A cb mL rt y.cls → (∀ x ∈ c.exceptionTable.toList, False) → V p l e rm s m As.toArray below meth c (vx_MQ below (va_Qq Qn (gB G A) A) (gXC G A Qx) As.toArray s mc ms A) G A mL h 0 0 0 (lv_args 0 As) []) : gXq l y cb mL rt rm mc ms G h As Qn Qx := by
  intro sz
  refine vx_ofW hy rfl ?_
  intro p e s m args below meth c s₁ B hml hT hv
  obtain ⟨rfl, hsz, hw, hK, hg⟩ := hv
  subst hsz
  have hts := atoms_spec (ws := Cond.code y cb mL rt :: gW) B.pre
  have hl := lv_entry As (n := mL) hAs
  rw [lg_entry_eq]
  exact body p e s m below meth c _ ⟨B.exec, B.bytes, hml, findClass_of_methodNamed B.named, fun w hw => hts w (List.mem_cons_of_mem _ hw), hK, fun q hq => Or.inr hq, B.notSynchronized, hls, hg, B.returns⟩ hT s.heap [] _ hw va_S.rf hl
theorem V_callXv {b ci : Nat} {fs : List Value} {q9 : vw_C} {Qn : gH → Prop} {k1 n1 : Nat} (X : gC p l s m args meth c G A cc nL ret own) (M : gXv l y cb mL rt rm rm.cells rm.slots G h (.ref b :: As) Qn Qx) (L : gLV own idx y cb mL rt n0) (hh : h b = some (.inr (ci, fs))) (hci : vwCl[ci]? = some q9) (hcn : q9.1 = y.cls) (hd : decode cc pc = .ok (.invokevirtual idx, 3)) (hT : ∀ x ∈ c.exceptionTable.toList, False) (hR : rm.frames + 1 ≤ R.frames ∧ 8 + (mL + 11) + rm.locals ≤ R.locals) (hn : As.length = n0) (hst : (rest.map fun v => v.category).sum ≤ 8) (hf : k + rm.cells ≤ R.cells ∧ n + rm.slots ≤ R.slots) (hk : k + rm.cells ≤ k1) (hk2 : n + rm.slots ≤ n1) (hx1 : k + rm.cells ≤ mc) (hx2 : n + rm.slots ≤ ms) (kk : ∀ (h1 : gH), Qn h1 → V p l e R s m args below meth c (vx_MQ below Qc (gXC G A Qx) args s mc ms A) G A nL h1 k1 n1 (pc + 3) lv rest) : V p l e R s m args below meth c (vx_MQ below Qc (gXC G A Qx) args s mc ms A) G A nL h k n pc lv (As.reverse ++ .ref b :: rest) := fun H locs ls hw hS hv => by
  have hA := gA.sub hw hS X.2.2.2.2.2.2.1
  refine vx_callv (vx_runV (C := y.cls) (As := As) (rest := rest) ⟨X.1, X.2.1, X.2.2.1, X.2.2.2.1, X.2.2.2.2.1⟩ (M H.size) ⟨gCB X L.1 L.2.2.2.1 L.2.2.2.2.1 L.2.2.2.2.2 hR, X.2.2.2.2.1 _ L.2.1, X.2.2.2.2.1 _ L.2.2.1⟩ ⟨gPc_blind _ _ _ _, by rw [← hcn]; exact va_recv (q0 := 0) X.2.2.2.2.2.1 (hw.one hh (hw.t0 hh)) hci rfl, gPc_at X hw hS⟩ rfl hn hv.1 rfl (lv_room hst) hd hf) hS (fun q _ z => hA q z) hA (fun q _ z => hA q z) (fun E ce q9 u t H1 locs1 ht hal hq hB hz hkeep hS1 hce hcv hcl => ?_) (fun u t H1 locs1 ht hal hq hB hz hkeep hS1 => ?_)
  · exact vx_out (fun x hx => (hT x hx).elim) X.2.2.2.2.2.2.2.1 hce hcv hcl (fun t1 ht1 ha1 => ⟨u, trivial, ⟨hB.1, gw.weaken (by show gw G _ u t1.heap; rw [ht1, ← ht]; exact hB.2) hA hw.2.2.1⟩, hS1.F ht1⟩) hS1.2.2 hx1 hx2
  · exact W.widen hk hk2 (kk u hq H1 locs1 ls (gw.weaken (by rw [← ht]; exact hB) hA hw.2.2.1) hS1 hv)
theorem gXv.of {Qn : gH → Prop} (hy : plainName y.cls = true) (hls : l.stackTraces = false) (hAs : (lg_sl As).length ≤ mL) (hc : rm.cells = mc) (hs : rm.slots = ms)
    (body : ∀ (p : Program) (e : Env) (s : State) (m : MethodId) (below : List Frame) (meth : Method) (c : Code) (A : Nat → Prop), gC p l s m As.toArray meth c G A cb mL rt y.cls → (∀ x ∈ c.exceptionTable.toList, False) → V p l e rm s m As.toArray below meth c (vx_MQ below (va_Qv Qn (gB G A) A) (gXC G A Qx) As.toArray s mc ms A) G A mL h 0 0 0 (lv_args 0 As) []) : gXv l y cb mL rt rm mc ms G h As Qn Qx := by
  intro sz
  refine vx_ofW hy rfl ?_
  intro p e s m args below meth c s₁ B hml hT hv
  obtain ⟨rfl, hsz, hw, hK, hg⟩ := hv
  subst hsz
  have hts := atoms_spec (ws := Cond.code y cb mL rt :: gW) B.pre
  have hl := lv_entry As (n := mL) hAs
  rw [lg_entry_eq]
  exact body p e s m below meth c _ ⟨B.exec, B.bytes, hml, findClass_of_methodNamed B.named, fun w hw => hts w (List.mem_cons_of_mem _ hw), hK, fun q hq => Or.inr hq, B.notSynchronized, hls, hg, B.returns⟩ hT s.heap [] _ hw va_S.rf hl
end GX
theorem thg_51 : ∀ w ∈ (vx_atS RX11 51 "java/lang/IllegalArgumentException" ["java/lang/RuntimeException", "java/lang/Exception"]).filter goodWord, w ∈ gW := gW_of (by decide +kernel) (by decide +kernel)
theorem thn_51 : ((vx_atS RX11 51 "java/lang/IllegalArgumentException" ["java/lang/RuntimeException", "java/lang/Exception"]).filter (fun w => !goodWord w) |>.all (fun w => decide (w ∈ gU))) = true := by decide +kernel
theorem tho_51 : (vx_atS RX11 51 "java/lang/IllegalArgumentException" ["java/lang/RuntimeException", "java/lang/Exception"]).all vx_ot = true := by decide +kernel
theorem thg_65 : ∀ w ∈ (vx_atS RX11 65 "java/lang/IllegalStateException" ["java/lang/RuntimeException", "java/lang/Exception"]).filter goodWord, w ∈ gW := gW_of (by decide +kernel) (by decide +kernel)
theorem thn_65 : ((vx_atS RX11 65 "java/lang/IllegalStateException" ["java/lang/RuntimeException", "java/lang/Exception"]).filter (fun w => !goodWord w) |>.all (fun w => decide (w ∈ gU))) = true := by decide +kernel
theorem tho_65 : (vx_atS RX11 65 "java/lang/IllegalStateException" ["java/lang/RuntimeException", "java/lang/Exception"]).all vx_ot = true := by decide +kernel
theorem thg_382 : ∀ w ∈ (vx_atS RX11 382 "java/lang/IndexOutOfBoundsException" ["java/lang/RuntimeException", "java/lang/Exception"]).filter goodWord, w ∈ gW := gW_of (by decide +kernel) (by decide +kernel)
theorem thn_382 : ((vx_atS RX11 382 "java/lang/IndexOutOfBoundsException" ["java/lang/RuntimeException", "java/lang/Exception"]).filter (fun w => !goodWord w) |>.all (fun w => decide (w ∈ gU))) = true := by decide +kernel
theorem tho_382 : (vx_atS RX11 382 "java/lang/IndexOutOfBoundsException" ["java/lang/RuntimeException", "java/lang/Exception"]).all vx_ot = true := by decide +kernel
