/-! ===== rows of the lists' own text, and of a table of rows ===== -/
def gMN (h : gH) (q N K : Nat) (r : Nat → Nat) : gH := fun a => if a = q then some (.inl (4, N, .inr (.inr (.inr (.inr (fun i => if i < N then some (r i) else none)))))) else if a ∈ (List.range N).map r then some (.inl (0, K, .inl (fun _ => 0))) else h a
def nw2 (h : gH) (N K : Nat) (Kn : Nat → gH → Prop) : Prop := ∀ (q : Nat) (r : Nat → Nat), h q = none → (∀ i, i < N → h (r i) = none) → (∀ i j, i < N → j < N → r i = r j → i = j) → (∀ i, i < N → r i ≠ q) → Kn q (gMN h q N K r)
def gFl2 (own : String) (idx ci k : Nat) (ty : FieldType) : Prop := ∃ (C ref : String) (T : u_T) (N : Nat) (ty0 : Nat → FieldType), vwCl[ci]? = some (C, T, N) ∧ k < N ∧ Cond.fieldLink own idx ref (T k).2.1 (T k).2.2.1 ∈ gW ∧ Cond.sameField ref (T k).1 (T k).2.1 (T k).2.2.1 ∈ gW ∧ (∀ w ∈ u_ws C T N, w ∈ gW) ∧ (∀ k, k < N → parseFieldDescriptor (T k).2.2.1 = some (ty0 k)) ∧ (∀ a, a < N → ∀ b, b < N → a ≠ b → (T a).2.1 ≠ (T b).2.1) ∧ parseFieldDescriptor (T k).2.2.1 = some ty ∧ (T k).2.2.2 = false
def gFr (own : String) (idx ci k : Nat) : Prop := ∃ (C : String) (T : u_T) (N : Nat), vwCl[ci]? = some (C, T, N) ∧ k < N ∧ Cond.fieldLink own idx (T k).1 (T k).2.1 (T k).2.2.1 ∈ gW ∧ (∀ w ∈ u_ws C T N, w ∈ gW)
section GF
variable {p : Program} {l : Launch} {e : Env} {R : Room} {s : State} {m : MethodId} {args : Array Value} {below : List Frame} {meth : Method} {c : Code} {Z : State → Prop}
variable {G : gG} {A : Nat → Prop} {cc : ByteArray} {nL : Nat} {ret : Option FieldType} {own : String} {h : gH} {k n pc : Nat} {lv lv' : List (Nat × Value)} {st : List Value}
theorem V_get2 {idx ci f a : Nat} {ty : FieldType} {fs : List Value} {v : Value} (X : gC p l s m args meth c G A cc nL ret own) (F : gFl2 own idx ci f ty) (hd : decode cc pc = .ok (.getfield idx, 3)) (hh : h a = some (.inr (ci, fs))) (hv : fs[f]? = some v) (kk : V p l e R s m args below meth c Z G A nL h k n (pc + 3) lv (v :: st)) : V p l e R s m args below meth c Z G A nL h k n pc lv (.ref a :: st) := fun H locs ls hw hS hl => by
  obtain ⟨C, ref, T, N, ty0, f1, f2, f3, f4, f5, f6, f7, f8, f9⟩ := F
  exact va_get (ci := ci) (fs := fs) X.1 X.2.1 X.2.2.2.2.1 f5 X.2.2.2.1 X.2.2.2.2.2.1 (hw.one hh (hw.t0 hh)) 0 rfl f1 f f2 (X.2.2.2.2.1 _ f3) (fun x z => u_same (X.2.2.2.2.1 _ f4) x z) hv hd (kk H locs ls hw hS hl)
theorem V_get3 {idx ci f a : Nat} {fs : List Value} {v : Value} (X : gC p l s m args meth c G A cc nL ret own) (F : gFr own idx ci f) (hd : decode cc pc = .ok (.getfield idx, 3)) (hh : h a = some (.inr (ci, fs))) (hv : fs[f]? = some v) (kk : V p l e R s m args below meth c Z G A nL h k n (pc + 3) lv (v :: st)) : V p l e R s m args below meth c Z G A nL h k n pc lv (.ref a :: st) := fun H locs ls hw hS hl => by
  obtain ⟨C, T, N, f1, f2, f3, f4⟩ := F
  exact va_get (ci := ci) (fs := fs) X.1 X.2.1 X.2.2.2.2.1 f4 X.2.2.2.1 X.2.2.2.2.2.1 (hw.one hh (hw.t0 hh)) 0 rfl f1 f f2 (X.2.2.2.2.1 _ f3) (fun _ z => z) hv hd (kk H locs ls hw hS hl)
theorem V_put2 {idx ci f a : Nat} {ty : FieldType} {fs : List Value} {v : Value} (X : gC p l s m args meth c G A cc nL ret own) (F : gFl2 own idx ci f ty) (hd : decode cc pc = .ok (.putfield idx, 3)) (hh : h a = some (.inr (ci, fs))) (hl : f < fs.length) (hn : narrow ty v = v) (hf : fits ty v = true) (kk : V p l e R s m args below meth c Z G A nL (va_up h a (some (.inr (ci, fs.set f v)))) k n (pc + 3) lv st) : V p l e R s m args below meth c Z G A nL h k n pc lv (v :: .ref a :: st) := fun H locs ls hw hS hv => by
  obtain ⟨C, ref, T, N, ty0, f1, f2, f3, f4, f5, f6, f7, f8, f9⟩ := F
  obtain ⟨ws, q, hP, hD, hq, hk⟩ := hw.set hh (hw.t0 hh)
  exact va_put X.1 X.2.1 X.2.2.2.2.1 f5 ty0 f6 f7 X.2.2.2.1 X.2.2.2.2.2.1 hP hD hS q hq f1 f f2 (X.2.2.2.2.1 _ f3) (fun x z => u_same (X.2.2.2.2.1 _ f4) x z) f9 f8 hn hf hl hd (fun H1 locs1 hP1 hD1 hS1 => kk H1 locs1 ls (hk (.inr (ci, fs.set f v)) H1 hP1 hD1 (gS0 X.2.2.2.2.2.2.1 hw hS hS1)) hS1 hv)
theorem V_ldcM {idx : Nat} (X : gC p l s m args meth c G A cc nL ret own) (hl : Cond.classLink own idx "[Ljava/lang/Object;" ∈ gW) (hd : decode cc pc = .ok (.ldc idx, 2)) (kk : V p l e R s m args below meth c Z G A nL h k n (pc + 2) lv (.ref G.2.2.2 :: st)) : V p l e R s m args below meth c Z G A nL h k n pc lv st := fun H locs ls hw hS hv => va_ldcM X.1 X.2.1 X.2.2.2.1 (X.2.2.2.2.1 _ hl) X.2.2.2.2.2.2.2.2.2.1.2.2.2.1 hd (kk H locs ls hw hS hv)
theorem V_irem {x y : Int32} (X : gC p l s m args meth c G A cc nL ret own) (hd : decode cc pc = .ok (.irem, 1)) (hne : ¬ y = 0) (kk : V p l e R s m args below meth c Z G A nL h k n (pc + 1) lv (.int (x - x / y * y) :: st)) : V p l e R s m args below meth c Z G A nL h k n pc lv (.int y :: .int x :: st) := fun H locs ls hw hS hv => lv_irem X.1 X.2.1 hd hne (kk H locs ls hw hS hv)
theorem V_ixor {x y : Int32} (X : gC p l s m args meth c G A cc nL ret own) (hd : decode cc pc = .ok (.ixor, 1)) (kk : V p l e R s m args below meth c Z G A nL h k n (pc + 1) lv (.int (x ^^^ y) :: st)) : V p l e R s m args below meth c Z G A nL h k n pc lv (.int y :: .int x :: st) := fun H locs ls hw hS hv => lv_ixor X.1 X.2.1 hd (kk H locs ls hw hS hv)
def gGC (own : String) (idx : Nat) : Prop := Cond.methodLink own idx ⟨"java/lang/Object", "getClass", "()Ljava/lang/Class;"⟩ ∈ gW ∧ Cond.declares ⟨"java/lang/Object", "getClass", "()Ljava/lang/Class;"⟩ ∈ gU ∧ Cond.selects "[Ljava/lang/Object;" ⟨"java/lang/Object", "getClass", "()Ljava/lang/Class;"⟩ ⟨"java/lang/Object", "getClass", "()Ljava/lang/Class;"⟩ ∈ gW ∧ Cond.instanceMethod ⟨"java/lang/Object", "getClass", "()Ljava/lang/Class;"⟩ ∈ gW ∧ Cond.native ⟨"java/lang/Object", "getClass", "()Ljava/lang/Class;"⟩ ∈ gW
theorem V_getC {idx a N : Nat} {g : Nat → Option Nat} (X : gC p l s m args meth c G A cc nL ret own) (F : gGC own idx) (hh : h a = some (.inl (3, N, .inr (.inr (.inr (.inr g)))))) (hd : decode cc pc = .ok (.invokevirtual idx, 3)) (hf : 1 ≤ R.frames) (hR : (st.map fun v => v.category).sum + 14 ≤ R.locals) (kk : V p l e R s m args below meth c Z G A nL h k n (pc + 3) lv (.ref G.2.2.2 :: st)) : V p l e R s m args below meth c Z G A nL h k n pc lv (.ref a :: st) := fun H locs ls hw hS hv => by
  refine va_getC X.1 X.2.1 (X.2.2.1.trans hv.1.symm) X.2.2.2.1 (X.2.2.2.2.1 _ F.1) (X.2.2.2.2.2.2.2.2.2.1.2.2.2.2.1 _ F.2.1 _) (X.2.2.2.2.1 _ F.2.2.1) (X.2.2.2.2.1 _ F.2.2.2.1) (X.2.2.2.2.1 _ F.2.2.2.2) X.2.2.2.2.2.2.2.2.2.1.2.2.2.1 ?_ hf hR hd (kk H locs ls hw hS hv)
  by_cases ha : a = G.2.2.1
  · subst ha
    obtain ⟨cell, c1, c2, c3, c4, c5⟩ := hw.2.1
    exact ⟨cell, c1, c5, by rw [c2]; exact va_nmO (X.2.2.2.2.2.1.2 3 _ rfl).2 (by decide +kernel)⟩
  · exact ⟨_, hw.one hh ha 0 _ rfl, rfl, va_nmO (X.2.2.2.2.2.1.2 3 _ rfl).2 (by decide +kernel)⟩
theorem V_cas3 {idx a N : Nat} {g : Nat → Option Nat} (X : gC p l s m args meth c G A cc nL ret own) (hl : Cond.classLink own idx "[Ljava/lang/Object;" ∈ gW) (hh : h a = some (.inl (3, N, .inr (.inr (.inr (.inr g)))))) (hd : decode cc pc = .ok (.checkcast idx, 3)) (kk : V p l e R s m args below meth c Z G A nL h k n (pc + 3) lv (.ref a :: st)) : V p l e R s m args below meth c Z G A nL h k n pc lv (.ref a :: st) := fun H locs ls hw hS hv => by
  by_cases ha : a = G.2.2.1
  · subst ha
    obtain ⟨cell, c1, c2, c3, c4, c5⟩ := hw.2.1
    have hn := va_nmO (X.2.2.2.2.2.1.2 3 _ rfl).2 (by decide +kernel : "[" ++ (FieldType.object "java/lang/Object").toString = "[Ljava/lang/Object;")
    intro T hT Y
    obtain ⟨vm', Y', st9⟩ := Y.checkcastYes X.1 X.2.2.2.1 (X.2.2.2.2.1 _ hl) (by rw [hT]; exact c1) c5 hn (by rw [c2]; exact va_asg _ _) (g := F0 m pc ls (.ref G.2.2.1 :: st)) rfl rfl (by rw [X.2.1]; exact hd)
    obtain ⟨t, a1, b1⟩ := kk H locs ls hw hS hv (T.setVm vm') hT Y'
    exact ⟨t, st9 t a1, b1⟩
  · exact va_castA X.1 X.2.1 X.2.2.2.1 (X.2.2.2.2.1 _ hl) (hw.one hh ha) 0 rfl (va_nmO (X.2.2.2.2.2.1.2 3 _ rfl).2 (by decide +kernel)) hd (kk H locs ls hw hS hv)
theorem V_mna {idx N K k1 n1 : Nat} {x y : Int32} (X : gC p l s m args meth c G A cc nL ret own) (hl : Cond.classLink own idx "[[I" ∈ gW) (ho : Cond.arrayOver (.array .int) ∈ gU) (ha : Cond.arrayClass .int ∈ gW) (hd : decode cc pc = .ok (.multianewarray idx 2, 4)) (hn : ¬ x < 0) (hk0 : ¬ y < 0) (hN : x.toNatClampNeg = N) (hM : y.toNatClampNeg = K) (hb1 : N * 4 ≤ 536870912) (hb2 : K * 4 ≤ 536870912) (hR : k + (1 + N) ≤ R.cells ∧ n + (N + N * K) ≤ R.slots) (hk : k + 1 + N ≤ k1) (hk2 : n + N + N * K ≤ n1) (kk : ∀ (q : Nat) (r : Nat → Nat), h q = none → (∀ i, i < N → h (r i) = none) → (∀ i j, i < N → j < N → r i = r j → i = j) → (∀ i, i < N → r i ≠ q) → V p l e R s m args below meth c Z G A nL (gMN h q N K r) k1 n1 (pc + 4) lv (.ref q :: st)) : V p l e R s m args below meth c Z G A nL h k n pc lv (.int y :: .int x :: st) := fun H locs ls hw hS hv => by
  obtain ⟨h0, h1, h2, L, hL, hP, hD⟩ := id hw
  refine va_mna (X := []) (L := L) (f := gf G h) (ty := .int) (cy := G.2.1 0) (z := (K, .inl (fun _ => 0))) X.1 X.2.1 X.2.2.2.1 (X.2.2.2.2.1 _ hl) (va_AOA.of (X.2.2.2.2.2.2.2.2.2.1.2.2.2.2.1 _ ho args)) (X.2.2.2.2.1 _ ha) (X.2.2.2.2.2.1.2 0 _ rfl).2 X.2.2.2.2.2.1 hP hD hS X.2.2.2.2.2.2.1 hn hk0 hN hM hb1 hb2 (by omega) rfl rfl hR.1 hR.2 (fun c9 => by show ({ cls := c9, slots := Array.replicate K (.int 0), vm := .none } : Cell) = _; rw [arrV_new]; rfl) hd (fun q r cA H1 hi hrL hK1 hP1 hD1 hS1 => ?_)
  have e1 := (hK1.2 6 _ rfl).2
  have e0 := (X.2.2.2.2.2.1.2 4 _ rfl).2
  have ec : cA = G.2.1 4 := Option.some.inj (e1.symm.trans e0)
  subst ec
  have hlen : ∀ a ∈ L ++ (List.range N).map r, ∃ j, ([] ++ [((q, .inl (G.2.1 4, N, .inr (.inr (.inr (.inr (fun i => if i < N then some (r i) else none)))))) : Nat × va_E)] ++ va_pl (L ++ (List.range N).map r) (vr_up (gf G h) ((List.range N).map r) (.inl (G.2.1 0, (K, .inl (fun _ => 0))))))[j + 1]? = some (a, vr_up (gf G h) ((List.range N).map r) (.inl (G.2.1 0, (K, .inl (fun _ => 0)))) a) := fun a ha => by
    obtain ⟨j, hj⟩ := List.getElem?_of_mem (show (a, vr_up (gf G h) ((List.range N).map r) (.inl (G.2.1 0, (K, .inl (fun _ => 0)))) a) ∈ va_pl (L ++ (List.range N).map r) (vr_up (gf G h) ((List.range N).map r) (.inl (G.2.1 0, (K, .inl (fun _ => 0))))) from List.mem_map.mpr ⟨a, ha, rfl⟩)
    exact ⟨j, by simpa using hj⟩
  have hq0 : ∀ a ∈ L ++ (List.range N).map r, a ≠ q := fun a ha z => by
    obtain ⟨j, hj⟩ := hlen a ha
    have := hD1.1 (j + 1) 0 _ _ hj rfl z
    omega
  have hAq : A q := hD1.2 0 _ rfl
  have hqt : q ≠ G.2.2.1 := fun z => h2 (z ▸ hAq)
  have hrt : ∀ a ∈ (List.range N).map r, a ≠ G.2.2.1 := fun a ha z => by
    obtain ⟨j, hj⟩ := hlen a (List.mem_append_right _ ha)
    exact h2 (z ▸ hD1.2 _ _ hj)
  have hqn : h q = none := by
    cases hh : h q with
    | none => rfl
    | some e9 => exact absurd rfl (hq0 q (List.mem_append_left _ ((hL q).mpr ⟨by rw [hh]; exact Option.some_ne_none _, hqt⟩)))
  have hrn : ∀ i, i < N → h (r i) = none := fun i hi9 => by
    cases hh : h (r i) with
    | none => rfl
    | some e9 => exact absurd ((hL (r i)).mpr ⟨by rw [hh]; exact Option.some_ne_none _, hrt _ (List.mem_map.mpr ⟨i, List.mem_range.mpr hi9, rfl⟩)⟩) (hrL i hi9)
  have hrq : ∀ i, i < N → r i ≠ q := fun i hi9 => hq0 _ (List.mem_append_right _ (List.mem_map.mpr ⟨i, List.mem_range.mpr hi9, rfl⟩))
  refine W.widen hk hk2 (kk q r hqn hrn hi hrq H1 locs ls ⟨?_, h1.kept (gS0 X.2.2.2.2.2.2.1 hw hS hS1), h2, q :: (L ++ (List.range N).map r), fun a => ?_, ?_, ?_⟩ hS1 hv)
  · unfold gMN
    rw [if_neg (Ne.symm hqt), if_neg (fun z => hrt _ z rfl)]
    exact h0
  · unfold gMN
    by_cases ha : a = q
    · subst ha; simp [hqt]
    · rw [if_neg ha]
      by_cases ha2 : a ∈ (List.range N).map r
      · rw [if_pos ha2]
        exact ⟨fun _ => ⟨Option.some_ne_none _, hrt a ha2⟩, fun _ => List.mem_cons_of_mem _ (List.mem_append_right _ ha2)⟩
      · rw [if_neg ha2, List.mem_cons, List.mem_append]
        exact ⟨fun z => (hL a).mp (z.elim (fun z => absurd z ha) (fun z => z.elim id (fun z => absurd z ha2))), fun z => Or.inr (Or.inl ((hL a).mpr z))⟩
  all_goals
    have hc : va_pl (q :: (L ++ (List.range N).map r)) (gf G (gMN h q N K r)) = [] ++ [((q, .inl (G.2.1 4, N, .inr (.inr (.inr (.inr (fun i => if i < N then some (r i) else none)))))) : Nat × va_E)] ++ va_pl (L ++ (List.range N).map r) (vr_up (gf G h) ((List.range N).map r) (.inl (G.2.1 0, (K, .inl (fun _ => 0))))) := by
      show (q, gf G (gMN h q N K r) q) :: va_pl (L ++ (List.range N).map r) (gf G (gMN h q N K r)) = _
      have c1 : gf G (gMN h q N K r) q = .inl (G.2.1 4, N, .inr (.inr (.inr (.inr (fun i => if i < N then some (r i) else none))))) := by
        unfold gf gMN
        rw [if_pos rfl]
        rfl
      rw [c1]
      show _ :: _ = _ :: _
      congr 1
      apply List.map_congr_left
      intro a ha
      have hne := hq0 a ha
      unfold gf gMN vr_up
      rw [if_neg hne]
      by_cases ha2 : a ∈ (List.range N).map r
      · rw [if_pos ha2, if_pos ha2]
        rfl
      · rw [if_neg ha2, if_neg ha2]
    show _
    first
    | (show va_P _ _ ([] ++ va_pl _ _) _; rw [List.nil_append, hc]; exact hP1)
    | (show va_D _ ([] ++ va_pl _ _); rw [List.nil_append, hc]; exact hD1)
end GF
