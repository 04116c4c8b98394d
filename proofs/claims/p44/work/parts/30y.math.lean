/-! ===== contracts where the class isn't plain but the method has no native row ===== -/
theorem gMetF {l : Launch} {y : MethodName} {ws ws' : List Cond} {rm : Room} {Pc : Array Value → State → Prop} {Qc : Array Value → State → Outcome → State → Prop} {mc ms : Nat} {free : Addr → Prop} {cc : ByteArray} {maxL : Nat} {ret : Option FieldType}
    (hy : plainFor y = true) (hw : ws = Cond.code y cc maxL ret :: ws')
    (body : ∀ p e s m args below meth c s₁, BodyLoose p l y (headSpec ws rm) cc maxL ret e s m args below meth c s₁ → c.maxLocals = maxL → Pc args s →
      W p l e (headSpec ws rm).room s m args below meth c s.heap [] 0 0 (MQ below Qc args s mc ms free) (entryFrame m args maxL)) : Met l y ws rm Pc Qc mc ms free := by
  refine MetFree.of_bodySF (code := cc) (maxLocals := maxL) (ret := ret) hy ?_ ?_
  · intro args s m h hn
    obtain ⟨meth, c, h1, h2, h3, h4, h5, h6, -, -⟩ := Cond.code_spec hn (atoms_spec (ws := ws) h _ (by rw [hw]; exact List.mem_cons_self))
    exact ⟨meth, c, h1, h2, h3, h4, h5, h6⟩
  · intro p e s m args below meth c s₁ B hml hP _
    have hh0 : s₁.heap = s.heap := by rw [B.state]; rfl
    obtain ⟨t, a1, o, b1, b2, b3⟩ := body p e s m args below meth c s₁ B hml hP s₁ hh0 (Stand.of_body B)
    exact ⟨t, o, a1, b1, b2, ⟨b3.1, b3.2⟩⟩
section GF
variable {l : Launch} {G : gG} {h : gH} {y : MethodName} {cb : ByteArray} {mL : Nat} {rt : Option FieldType} {rm : Room} {mc ms : Nat} {As : List Value}
theorem gMi.ofF {Qn : Int32 → gH → Prop} (hy : plainFor y = true) (hls : l.stackTraces = false) (hAs : (lg_sl As).length ≤ mL) (hc : rm.cells = mc) (hs : rm.slots = ms)
    (body : ∀ (p : Program) (e : Env) (s : State) (m : MethodId) (below : List Frame) (meth : Method) (c : Code) (A : Nat → Prop), gC p l s m As.toArray meth c G A cb mL rt y.cls → meth.name = y.name → V p l e rm s m As.toArray below meth c (MQ below (va_Qi Qn (gB G A) A) As.toArray s mc ms A) G A mL h 0 0 0 (lv_args 0 As) []) : gMi l y cb mL rt rm mc ms G h As Qn := by
  intro sz
  refine gMetF hy rfl ?_
  intro p e s m args below meth c s₁ B hml hv
  obtain ⟨rfl, hsz, hw, hK, hg⟩ := hv
  subst hsz
  have hts := atoms_spec (ws := Cond.code y cb mL rt :: gW) B.pre
  have hl := lv_entry As (n := mL) hAs
  rw [lg_entry_eq]
  exact body p e s m below meth c _ ⟨B.exec, B.bytes, hml, findClass_of_methodNamed B.named, fun w hw => hts w (List.mem_cons_of_mem _ hw), hK, fun q hq => Or.inr hq, B.notSynchronized, hls, hg, B.returns⟩ (name_of_methodNamed B.named B.method).1 s.heap [] _ hw va_S.rf hl
theorem gMl.ofF {Qn : Int64 → gH → Prop} (hy : plainFor y = true) (hls : l.stackTraces = false) (hAs : (lg_sl As).length ≤ mL) (hc : rm.cells = mc) (hs : rm.slots = ms)
    (body : ∀ (p : Program) (e : Env) (s : State) (m : MethodId) (below : List Frame) (meth : Method) (c : Code) (A : Nat → Prop), gC p l s m As.toArray meth c G A cb mL rt y.cls → meth.name = y.name → V p l e rm s m As.toArray below meth c (MQ below (va_Ql Qn (gB G A) A) As.toArray s mc ms A) G A mL h 0 0 0 (lv_args 0 As) []) : gMl l y cb mL rt rm mc ms G h As Qn := by
  intro sz
  refine gMetF hy rfl ?_
  intro p e s m args below meth c s₁ B hml hv
  obtain ⟨rfl, hsz, hw, hK, hg⟩ := hv
  subst hsz
  have hts := atoms_spec (ws := Cond.code y cb mL rt :: gW) B.pre
  have hl := lv_entry As (n := mL) hAs
  rw [lg_entry_eq]
  exact body p e s m below meth c _ ⟨B.exec, B.bytes, hml, findClass_of_methodNamed B.named, fun w hw => hts w (List.mem_cons_of_mem _ hw), hK, fun q hq => Or.inr hq, B.notSynchronized, hls, hg, B.returns⟩ (name_of_methodNamed B.named B.method).1 s.heap [] _ hw va_S.rf hl
end GF
