/-! ===== the heap as a function of the address; a method's walk over it ===== -/
def gW : List Cond := lw_tbl.filter goodWord
theorem gW_at {w : Cond} (h : w ∈ lw_tbl) (hg : goodWord w = true) : w ∈ gW := List.mem_filter.mpr ⟨h, hg⟩
theorem gW_good : GoodIn gW gW := fun w h => ⟨h, good_of_word (List.mem_filter.mp h).2⟩
theorem gW_cons {w : Cond} (h : w ∈ gW) : GoodIn gW (w :: gW) := fun x hx => by
  rcases List.mem_cons.mp hx with rfl | h2
  · exact gW_good _ h
  · exact gW_good _ h2
def isU : Cond → Bool
  | .castable .. => true
  | .methodLinkNest .. => true
  | .declares _ => true
  | .arrayOver _ => true
  | _ => false
/-- words that must be carried beside the tables -/
def gU : List Cond := lw_tbl.filter isU
theorem gU_n (i : Nat) {w : Cond} (h : tables_1[i]? = some w) (hg : isU w = true) : w ∈ gU := List.mem_filter.mpr ⟨List.mem_append_right _ (List.mem_of_getElem? h), hg⟩
def gUw (s : State) : Prop := ∀ w ∈ gU, ∀ a : Array Value, w.before a s = true
theorem gAO_moved {ty : FieldType} {a a1 : Array Value} {u U : State} (hvm : u.vm.Alike U.vm) (h : (Cond.arrayOver ty).before a u = true) : (Cond.arrayOver ty).before a1 U = true := (Cond.arrayOver_setVmC (args := a) hvm ty).trans h
theorem gUw.warm {s U : State} (hW : s.WarmedH U.vm) (g : gUw s) : gUw U := fun w hw a => by
  have h1 := g w hw #[]
  have h2 := (List.mem_filter.mp hw).2
  cases w <;> first | exact (va_Nw.warmC hW h1).use rfl | exact (va_Nw.warmM hW h1).use rfl | exact (va_Nw.warmD hW h1).use rfl | exact gAO_moved hW.alike h1 | (simp [isU] at h2; done)
theorem gUw.same {s U : State} (hv : s.vm = U.vm) (g : gUw s) : gUw U := fun w hw a => by
  have h1 := g w hw #[]
  have h2 := (List.mem_filter.mp hw).2
  have ha : s.vm.Alike U.vm := by rw [hv]; exact Vm.Alike.refl _
  cases w <;> first | exact (va_Nw.same rfl hv h1).use rfl | exact gAO_moved ha h1 | (simp [isU] at h2; done)
abbrev gH : Type := Nat → Option va_E
/-- the class tables' numbers, the array classes' numbers by their kind, the shared empty array of ArrayList -/
abbrev gG : Type := va_G × (Nat → ClassId) × Nat × Nat
def gmp (cy : Nat → ClassId) (e : va_E) : va_E := match e with
  | .inl a => .inl (cy a.1, a.2)
  | .inr o => .inr o
def gty (cy : Nat → ClassId) : List (ClassId × FieldType) := [(cy 0, .int), (cy 1, .byte), (cy 2, .boolean), (cy 3, .object "java/lang/Object"), (cy 4, .array .int), (cy 5, .object "AnimationController$Machine")]
def gE0 : va_E := .inl (3, 0, .inr (.inr (.inr (.inr (fun _ => none)))))
def gf (G : gG) (h : gH) : Nat → va_E := fun a => gmp G.2.1 ((h a).getD gE0)
/-- the shared empty array: an array of no slots, of the class of Object[]; nothing is said of its monitor -/
def gt0 (G : gG) (H : Heap) : Prop := ∃ cell : Cell, H[G.2.2.1]? = some cell ∧ cell.cls = G.2.1 3 ∧ cell.slots.size.toInt32 = 0 ∧ (∀ k, cell.vm ≠ .statics k) ∧ cell.vm.isStatics = false
theorem gt0.kept {G : gG} {H H1 : Heap} (h : gt0 G H) (hq : H1[G.2.2.1]? = H[G.2.2.1]?) : gt0 G H1 := by
  obtain ⟨cell, h1, h2⟩ := h
  exact ⟨cell, by rw [hq]; exact h1, h2⟩
theorem gt0.lt {G : gG} {H : Heap} (h : gt0 G H) : G.2.2.1 < H.size := by
  obtain ⟨cell, h1, h2⟩ := h
  exact (Array.getElem?_eq_some_iff.mp h1).1
/-- the heap H holds what h says; the cells of h are of A, but the shared empty array -/
def gw (G : gG) (A : Nat → Prop) (h : gH) (H : Heap) : Prop := h G.2.2.1 = some gE0 ∧ gt0 G H ∧ ¬ A G.2.2.1 ∧ ∃ L : List Nat, (∀ a, a ∈ L ↔ (h a ≠ none ∧ a ≠ G.2.2.1)) ∧ va_P G.1 vwCl ([] ++ va_pl L (gf G h)) H ∧ va_D A ([] ++ va_pl L (gf G h))
def gA (G : gG) (h : gH) (sz : Nat) : Nat → Prop := fun q => (h q ≠ none ∧ q ≠ G.2.2.1) ∨ sz ≤ q
def gStr : List (String × Nat × String) := [("AnimationController", 422, "no such parameter"), ("AnimationController", 74, "value is out of range"), ("AnimationController", 426, "there are no states"), ("AnimationController", 332, "the machine is idle"), ("AnimationController", 428, "ticks is out of range"), ("AnimationController", 436, "no such state"), ("AnimationController", 430, "slot is out of range"), ("AnimationController", 417, "nothing is kept in the slot"), ("AnimationController", 394, "what is out of range"), ("AnimationController", 434, "no such node"), ("AnimationController", 171, "speed or group is out of range"), ("AnimationController", 176, "the node is not complete, or there are 10 states"), ("AnimationController", 194, "duration is out of range"), ("AnimationController", 199, "there are 24 transitions"), ("AnimationController", 147, "no line, no lower node, or position is out of range"), ("AnimationController", 156, "the line has no room for this child"), ("AnimationController", 165, "the child is not complete, or a node would be too deep"), ("AnimationController", 49, "kind is out of range"), ("AnimationController", 63, "there are 8 parameters"), ("AnimationController", 84, "length is out of range"), ("AnimationController", 96, "there are 12 clips"), ("AnimationController", 432, "no such clip"), ("AnimationController", 113, "time or id is out of range"), ("AnimationController", 118, "the clip has 5 events"), ("AnimationController", 424, "there are 20 nodes"), ("AnimationController", 137, "the parameter is not a number"), ("AnimationController", 438, "no such transition"), ("AnimationController", 215, "exit or start is out of range"), ("AnimationController", 221, "a transition from any state has no exit"), ("AnimationController", 229, "mode is out of range"), ("AnimationController", 242, "operator or value is out of range"), ("AnimationController", 247, "the transition has 3 conditions"), ("AnimationController", 380, "no such entry"), ("AnimationController", 392, "no such event")]
/-- what the statics hold -/
def gs (G : gG) (A : Nat → Prop) (s : State) (H : Heap) : Prop := va_Z "java/util/ArrayList" "DEFAULTCAPACITY_EMPTY_ELEMENTDATA" "[Ljava/lang/Object;" (.ref G.2.2.1) A s H ∧ vx_Zq Bundle.tN "UNASSIGNED_STACK" Bundle.steD A s H ∧ vx_Zq Bundle.tN "SUPPRESSED_SENTINEL" Bundle.listD A s H ∧ va_Mi "[Ljava/lang/Object;" G.2.2.2 s ∧ gUw s ∧ (∀ q ∈ gStr, ∃ a, vk_R q.1 q.2.1 q.2.2 a s)
theorem gw.t0 {G : gG} {A : Nat → Prop} {h : gH} {H : Heap} (hw : gw G A h H) {a ci : Nat} {fs : List Value} (hh : h a = some (.inr (ci, fs))) : a ≠ G.2.2.1 := fun z => by
  rw [z, hw.1] at hh
  cases hh
theorem gw.at {G : gG} {A : Nat → Prop} {h : gH} {H : Heap} (w : gw G A h H) {a : Nat} {e : va_E} (he : h a = some e) (ha : a ≠ G.2.2.1) : va_at G.1 vwCl (a, gmp G.2.1 e) H := by
  obtain ⟨h0, h1, h2, L, hL, hP, hD⟩ := w
  obtain ⟨k, hk⟩ := va_pl_get (X := []) (f := gf G h) ((hL a).mpr ⟨by rw [he]; exact Option.some_ne_none _, ha⟩)
  have := hP k _ hk
  rw [show gf G h a = gmp G.2.1 e by unfold gf; rw [he]; rfl] at this
  exact this
theorem gw.one {G : gG} {A : Nat → Prop} {h : gH} {H : Heap} (w : gw G A h H) {a : Nat} {e : va_E} (he : h a = some e) (ha : a ≠ G.2.2.1) : va_P G.1 vwCl [(a, gmp G.2.1 e)] H := by
  intro k q hk
  cases k with
  | zero => cases hk; exact w.at he ha
  | succ k => simp at hk
theorem gw.lt {G : gG} {A : Nat → Prop} {h : gH} {H : Heap} (w : gw G A h H) {a : Nat} (he : h a ≠ none) : a < H.size := by
  by_cases ha : a = G.2.2.1
  · rw [ha]
    exact w.2.1.lt
  · cases hh : h a with
    | none => exact absurd hh he
    | some e => exact (w.at hh ha).lt
theorem gw.own {G : gG} {A : Nat → Prop} {h : gH} {H : Heap} (w : gw G A h H) {a : Nat} (he : h a ≠ none) (ha : a ≠ G.2.2.1) : A a := by
  obtain ⟨h0, h1, h2, L, hL, hP, hD⟩ := w
  obtain ⟨k, hk⟩ := va_pl_get (X := []) (f := gf G h) ((hL a).mpr ⟨he, ha⟩)
  exact hD.2 k _ hk
/-- a cell of h is written: the place in the list, and what comes out of it -/
theorem gw.set {G : gG} {A : Nat → Prop} {h : gH} {H : Heap} (w : gw G A h H) {a : Nat} {e : va_E} (he : h a = some e) (ha : a ≠ G.2.2.1) :
    ∃ (ws : va_W) (k : Nat), va_P G.1 vwCl ws H ∧ va_D A ws ∧ ws[k]? = some (a, gmp G.2.1 e) ∧ ∀ (e1 : va_E) (H1 : Heap), va_P G.1 vwCl (ws.set k (a, gmp G.2.1 e1)) H1 → va_D A (ws.set k (a, gmp G.2.1 e1)) → H1[G.2.2.1]? = H[G.2.2.1]? → gw G A (va_up h a (some e1)) H1 := by
  obtain ⟨h0, h1, h2, L, hL, hP, hD⟩ := w
  have hm : a ∈ L := (hL a).mpr ⟨by rw [he]; exact Option.some_ne_none _, ha⟩
  obtain ⟨k, hk⟩ := va_pl_get (X := []) (f := gf G h) hm
  have hf : gf G h a = gmp G.2.1 e := by unfold gf; rw [he]; rfl
  refine ⟨_, k, hP, hD, by rw [hk, hf], fun e1 H1 hP1 hD1 hq => ?_⟩
  have hs := va_pl_set (e := gmp G.2.1 e1) hD hm hk
  have hc : va_pl L (va_up (gf G h) a (gmp G.2.1 e1)) = va_pl L (gf G (va_up h a (some e1))) := va_pl_congr fun b => by
    by_cases hb : b = a
    · subst hb; simp [va_up, gf]
    · simp [va_up, gf, hb]
  rw [hs, hc] at hP1 hD1
  refine ⟨by rw [va_up_ne _ _ (Ne.symm ha)]; exact h0, h1.kept hq, h2, L, fun b => ?_, hP1, hD1⟩
  by_cases hb : b = a
  · subst hb; simp [va_up, hm, ha]
  · rw [va_up_ne _ _ hb]; exact hL b
theorem gw.set2 {G : gG} {A : Nat → Prop} {h : gH} {H : Heap} (w : gw G A h H) {a b : Nat} {e eb : va_E} (he : h a = some e) (ha : a ≠ G.2.2.1) (hb : h b = some eb) (hb0 : b ≠ G.2.2.1) :
    ∃ (ws : va_W) (k kb : Nat), va_P G.1 vwCl ws H ∧ va_D A ws ∧ ws[k]? = some (a, gmp G.2.1 e) ∧ ws[kb]? = some (b, gmp G.2.1 eb) ∧ ∀ (e1 : va_E) (H1 : Heap), va_P G.1 vwCl (ws.set k (a, gmp G.2.1 e1)) H1 → va_D A (ws.set k (a, gmp G.2.1 e1)) → H1[G.2.2.1]? = H[G.2.2.1]? → gw G A (va_up h a (some e1)) H1 := by
  obtain ⟨h0, h1, h2, L, hL, hP, hD⟩ := w
  have hm : a ∈ L := (hL a).mpr ⟨by rw [he]; exact Option.some_ne_none _, ha⟩
  have hmb : b ∈ L := (hL b).mpr ⟨by rw [hb]; exact Option.some_ne_none _, hb0⟩
  obtain ⟨k, hk⟩ := va_pl_get (X := []) (f := gf G h) hm
  obtain ⟨kb, hkb⟩ := va_pl_get (X := []) (f := gf G h) hmb
  have hf : gf G h a = gmp G.2.1 e := by unfold gf; rw [he]; rfl
  have hfb : gf G h b = gmp G.2.1 eb := by unfold gf; rw [hb]; rfl
  refine ⟨_, k, kb, hP, hD, by rw [hk, hf], by rw [hkb, hfb], fun e1 H1 hP1 hD1 hq => ?_⟩
  have hs := va_pl_set (e := gmp G.2.1 e1) hD hm hk
  have hc : va_pl L (va_up (gf G h) a (gmp G.2.1 e1)) = va_pl L (gf G (va_up h a (some e1))) := va_pl_congr fun b => by
    by_cases hb : b = a
    · subst hb; simp [va_up, gf]
    · simp [va_up, gf, hb]
  rw [hs, hc] at hP1 hD1
  refine ⟨by rw [va_up_ne _ _ (Ne.symm ha)]; exact h0, h1.kept hq, h2, L, fun b => ?_, hP1, hD1⟩
  by_cases hb : b = a
  · subst hb; simp [va_up, hm, ha]
  · rw [va_up_ne _ _ hb]; exact hL b
/-- a cell is made -/
theorem gw.new {G : gG} {A : Nat → Prop} {h : gH} {H : Heap} (w : gw G A h H) :
    ∃ (ws : va_W), va_P G.1 vwCl ws H ∧ va_D A ws ∧ ∀ (q : Nat) (e1 : va_E) (H1 : Heap), va_P G.1 vwCl (ws ++ [(q, gmp G.2.1 e1)]) H1 → va_D A (ws ++ [(q, gmp G.2.1 e1)]) → H1[G.2.2.1]? = H[G.2.2.1]? → h q = none ∧ gw G A (va_up h q (some e1)) H1 := by
  obtain ⟨h0, h1, h2, L, hL, hP, hD⟩ := w
  refine ⟨_, hP, hD, fun q e1 H1 hP1 hD1 hq => ?_⟩
  have hAq : A q := hD1.2 ([] ++ va_pl L (gf G h)).length (q, gmp G.2.1 e1) (by rw [List.getElem?_append_right (Nat.le_refl _), Nat.sub_self]; rfl)
  have hq0 : q ≠ G.2.2.1 := fun z => h2 (z ▸ hAq)
  have hqL : q ∉ L := fun z => by
    obtain ⟨k, hk⟩ := va_pl_get (X := []) (f := gf G h) z
    have hkl := (List.getElem?_eq_some_iff.mp hk).1
    have := hD1.1 k ([] ++ va_pl L (gf G h)).length (q, gf G h q) (q, gmp G.2.1 e1) (by rw [List.getElem?_append_left hkl]; exact hk) (by rw [List.getElem?_append_right (Nat.le_refl _), Nat.sub_self]; rfl) rfl
    omega
  have hn : h q = none := by
    cases hh : h q with
    | none => rfl
    | some e => exact absurd ((hL q).mpr ⟨by rw [hh]; exact Option.some_ne_none _, hq0⟩) hqL
  have hc : va_pl (L ++ [q]) (va_up (gf G h) q (gmp G.2.1 e1)) = va_pl (L ++ [q]) (gf G (va_up h q (some e1))) := va_pl_congr fun b => by
    by_cases hb : b = q
    · subst hb; simp [va_up, gf]
    · simp [va_up, gf, hb]
  have hs : ([] ++ va_pl L (gf G h)) ++ [(q, gmp G.2.1 e1)] = [] ++ va_pl (L ++ [q]) (gf G (va_up h q (some e1))) := by
    rw [← hc]
    simp only [List.nil_append]
    exact va_pl_push hqL
  rw [hs] at hP1 hD1
  refine ⟨hn, by rw [va_up_ne _ _ (Ne.symm hq0)]; exact h0, h1.kept hq, h2, L ++ [q], fun b => ?_, hP1, hD1⟩
  by_cases hb : b = q
  · subst hb; simp [va_up, hq0]
  · rw [va_up_ne _ _ hb, List.mem_append]
    simp only [List.mem_singleton, hb, or_false]
    exact hL b
theorem gs.at {G : gG} {A A1 : Nat → Prop} {s U : State} {H : Heap} {locs : List Loc} (g : gs G A s s.heap) (hS : va_S A s.heap H locs) (hA : ∀ q, A1 q → A q) (hU : U.heap = H) (hW : s.WarmedH U.vm) : gs G A1 U U.heap := by
  obtain ⟨g1, g2, g3, g5, g6, g4⟩ := g
  have hv : s.vm.Alike U.vm := hW.alike
  rw [hU]
  exact ⟨((g1.kept hS.2.1).narrow hA).moved hv, ((g2.kept hS.2.1).narrow hA).moved hv, ((g3.kept hS.2.1).narrow hA).moved hv, g5.moved hv, g6.warm hW, fun q hq => (g4 q hq).imp fun a r => r.warm hW⟩
theorem gw.weaken {G : gG} {A A1 : Nat → Prop} {h : gH} {H : Heap} (w : gw G A1 h H) (hA : ∀ q, A1 q → A q) (h0 : ¬ A G.2.2.1) : gw G A h H := by
  obtain ⟨a0, a1, a2, L, hL, hP, hD⟩ := w
  exact ⟨a0, a1, h0, L, hL, hP, hD.weaken fun _ q _ z => hA q.1 z⟩
theorem gA.sub {G : gG} {A : Nat → Prop} {h : gH} {s : State} {H : Heap} {locs : List Loc} (w : gw G A h H) (hS : va_S A s.heap H locs) (hA : ∀ q, s.heap.size ≤ q → A q) : ∀ q, gA G h H.size q → A q := fun q hq => by
  rcases hq with ⟨h1, h2⟩ | h1
  · exact w.own h1 h2
  · exact hA q (Nat.le_trans hS.1 h1)
/-- the cells of h are a callee's own -/
theorem gw.self {G : gG} {A : Nat → Prop} {h : gH} {H : Heap} (w : gw G A h H) : gw G (gA G h H.size) h H := by
  have hlt : G.2.2.1 < H.size := w.lt (by rw [w.1]; exact Option.some_ne_none _)
  obtain ⟨a0, a1, a2, L, hL, hP, hD⟩ := w
  refine ⟨a0, a1, fun z => ?_, L, hL, hP, hD.1, fun k q hk => ?_⟩
  · rcases z with ⟨_, z⟩ | z
    · exact z rfl
    · omega
  · obtain ⟨a, ha, rfl⟩ := List.mem_map.mp (List.mem_of_getElem? hk)
    exact Or.inl ((hL a).mp ha)
/-- what stands fast while a method runs -/
def gC (p : Program) (l : Launch) (s : State) (m : MethodId) (args : Array Value) (meth : Method) (c : Code) (G : gG) (A : Nat → Prop) (cc : ByteArray) (nL : Nat) (ret : Option FieldType) (own : String) : Prop :=
  p.tables.exec = Jvm.exec ∧ c.code = cc ∧ c.maxLocals = nL ∧ s.vm.findClass own = some m.cls ∧ (∀ w ∈ gW, w.before args s = true) ∧ va_K G.1 vwCl (gty G.2.1) s ∧ (∀ q, s.heap.size ≤ q → A q) ∧ meth.locks = false ∧ l.stackTraces = false ∧ gs G A s s.heap ∧ meth.sig.returnType = ret
/-- from any heap that holds h, with these words in the slots and on the stack, the method comes to Z -/
def V (p : Program) (l : Launch) (e : Env) (R : Room) (s : State) (m : MethodId) (args : Array Value) (below : List Frame) (meth : Method) (c : Code) (Z : State → Prop) (G : gG) (A : Nat → Prop) (nL : Nat) (h : gH) (k n : Nat) (pc : Nat) (lv : List (Nat × Value)) (st : List Value) : Prop :=
  ∀ (H : Heap) (locs : List Loc) (ls : Array Slot), gw G A h H → va_S A s.heap H locs → lv_has ls nL lv → W p l e R s m args below meth c H locs k n Z (F0 m pc ls st)
/-- a row of the field table: field k of kind ci, by entry idx of class own -/
def gFl (own : String) (idx ci k : Nat) (ty : FieldType) (fin : Bool) : Prop := ∃ (C : String) (T : u_T) (N : Nat) (ty0 : Nat → FieldType), vwCl[ci]? = some (C, T, N) ∧ k < N ∧ Cond.fieldLink own idx (T k).1 (T k).2.1 (T k).2.2.1 ∈ gW ∧ (∀ w ∈ u_ws C T N, w ∈ gW) ∧ (∀ k, k < N → parseFieldDescriptor (T k).2.2.1 = some (ty0 k)) ∧ (∀ a, a < N → ∀ b, b < N → a ≠ b → (T a).2.1 ≠ (T b).2.1) ∧ parseFieldDescriptor (T k).2.2.1 = some ty ∧ (T k).2.2.2 = fin ∧ (fin = true → (T k).1 = own)
theorem va_cat1 (r : Option Nat) : (va_rf r).category = 1 := by cases r <;> rfl

section GV
variable {p : Program} {l : Launch} {e : Env} {R : Room} {s : State} {m : MethodId} {args : Array Value} {below : List Frame} {meth : Method} {c : Code} {Z : State → Prop}
variable {G : gG} {A : Nat → Prop} {cc : ByteArray} {nL : Nat} {ret : Option FieldType} {own : String} {h : gH} {k n pc : Nat} {lv lv' : List (Nat × Value)} {st : List Value}

theorem V.sub {lw : List (Nat × Value)} (ks : List Nat) (hp : lv_pick lv ks = lw) (kk : V p l e R s m args below meth c Z G A nL h k n pc lw st) : V p l e R s m args below meth c Z G A nL h k n pc lv st := fun H locs ls hw hS hv => kk H locs ls hw hS (lv_sub hv ks hp)
theorem V.widen {k1 n1 : Nat} (hk : k ≤ k1) (hn : n ≤ n1) (kk : V p l e R s m args below meth c Z G A nL h k1 n1 pc lv st) : V p l e R s m args below meth c Z G A nL h k n pc lv st := fun H locs ls hw hS hv => W.widen hk hn (kk H locs ls hw hS hv)
theorem V_iload {i : Nat} {x : Int32} (X : gC p l s m args meth c G A cc nL ret own) (hd : decode cc pc = .ok (.iload i, 2)) (q : Nat) (hq : lv[q]? = some (i, .int x)) (kk : V p l e R s m args below meth c Z G A nL h k n (pc + 2) lv (.int x :: st)) : V p l e R s m args below meth c Z G A nL h k n pc lv st := fun H locs ls hw hS hv => lv_iload X.1 X.2.1 hd (lv_at hv q hq) (kk H locs ls hw hS hv)
theorem V_iload_n {i : Fin 4} {x : Int32} (X : gC p l s m args meth c G A cc nL ret own) (hd : decode cc pc = .ok (.iload_n i, 1)) (q : Nat) (hq : lv[q]? = some ((i : Nat), .int x)) (kk : V p l e R s m args below meth c Z G A nL h k n (pc + 1) lv (.int x :: st)) : V p l e R s m args below meth c Z G A nL h k n pc lv st := fun H locs ls hw hS hv => lv_iload_n X.1 X.2.1 hd rfl (lv_at hv q hq) (kk H locs ls hw hS hv)
theorem V_lload {i : Nat} {x : Int64} (X : gC p l s m args meth c G A cc nL ret own) (hd : decode cc pc = .ok (.lload i, 2)) (q : Nat) (hq : lv[q]? = some (i, .long x)) (kk : V p l e R s m args below meth c Z G A nL h k n (pc + 2) lv (.long x :: st)) : V p l e R s m args below meth c Z G A nL h k n pc lv st := fun H locs ls hw hS hv => lv_lload X.1 X.2.1 hd (lv_at hv q hq) (kk H locs ls hw hS hv)
theorem V_lload_n {i : Fin 4} {x : Int64} (X : gC p l s m args meth c G A cc nL ret own) (hd : decode cc pc = .ok (.lload_n i, 1)) (q : Nat) (hq : lv[q]? = some ((i : Nat), .long x)) (kk : V p l e R s m args below meth c Z G A nL h k n (pc + 1) lv (.long x :: st)) : V p l e R s m args below meth c Z G A nL h k n pc lv st := fun H locs ls hw hS hv => lv_lload_n X.1 X.2.1 hd rfl (lv_at hv q hq) (kk H locs ls hw hS hv)
theorem V_aload {i : Nat} {r : Option Nat} (X : gC p l s m args meth c G A cc nL ret own) (hd : decode cc pc = .ok (.aload i, 2)) (q : Nat) (hq : lv[q]? = some (i, va_rf r)) (kk : V p l e R s m args below meth c Z G A nL h k n (pc + 2) lv (va_rf r :: st)) : V p l e R s m args below meth c Z G A nL h k n pc lv st := fun H locs ls hw hS hv => by
  cases r with
  | none => exact lv_aloadN X.1 X.2.1 hd (lv_at hv q hq) (kk H locs ls hw hS hv)
  | some a => exact lv_aload X.1 X.2.1 hd (lv_at hv q hq) (kk H locs ls hw hS hv)
theorem V_aload_n {i : Fin 4} {r : Option Nat} (X : gC p l s m args meth c G A cc nL ret own) (hd : decode cc pc = .ok (.aload_n i, 1)) (q : Nat) (hq : lv[q]? = some ((i : Nat), va_rf r)) (kk : V p l e R s m args below meth c Z G A nL h k n (pc + 1) lv (va_rf r :: st)) : V p l e R s m args below meth c Z G A nL h k n pc lv st := fun H locs ls hw hS hv => by
  cases r with
  | none => exact lv_aload_nN X.1 X.2.1 hd rfl (lv_at hv q hq) (kk H locs ls hw hS hv)
  | some a => exact lv_aload_n X.1 X.2.1 hd rfl (lv_at hv q hq) (kk H locs ls hw hS hv)
theorem V_aloadr {i : Nat} {a : Nat} (X : gC p l s m args meth c G A cc nL ret own) (hd : decode cc pc = .ok (.aload i, 2)) (q : Nat) (hq : lv[q]? = some (i, .ref a)) (kk : V p l e R s m args below meth c Z G A nL h k n (pc + 2) lv (.ref a :: st)) : V p l e R s m args below meth c Z G A nL h k n pc lv st := fun H locs ls hw hS hv => lv_aload X.1 X.2.1 hd (lv_at hv q hq) (kk H locs ls hw hS hv)
theorem V_aloadr_n {i : Fin 4} {a : Nat} (X : gC p l s m args meth c G A cc nL ret own) (hd : decode cc pc = .ok (.aload_n i, 1)) (q : Nat) (hq : lv[q]? = some ((i : Nat), .ref a)) (kk : V p l e R s m args below meth c Z G A nL h k n (pc + 1) lv (.ref a :: st)) : V p l e R s m args below meth c Z G A nL h k n pc lv st := fun H locs ls hw hS hv => lv_aload_n X.1 X.2.1 hd rfl (lv_at hv q hq) (kk H locs ls hw hS hv)
theorem V_istore {i : Nat} {x : Int32} (X : gC p l s m args meth c G A cc nL ret own) (hd : decode cc pc = .ok (.istore i, 2)) (hn : i < nL) (hl : (i, Value.int x) :: lv.filter (fun q => !(q.1 == i) && !(q.1 + 1 == i && q.2.category == 2)) = lv') (kk : V p l e R s m args below meth c Z G A nL h k n (pc + 2) lv' st) : V p l e R s m args below meth c Z G A nL h k n pc lv (.int x :: st) := fun H locs ls hw hS hv => lv_istore X.1 X.2.1 hd hv hn hl (fun ls' hv' => kk H locs ls' hw hS hv')
theorem V_istore_n {i : Fin 4} {i0 : Nat} {x : Int32} (X : gC p l s m args meth c G A cc nL ret own) (hd : decode cc pc = .ok (.istore_n i, 1)) (hi : (i : Nat) = i0) (hn : i0 < nL) (hl : (i0, Value.int x) :: lv.filter (fun q => !(q.1 == i0) && !(q.1 + 1 == i0 && q.2.category == 2)) = lv') (kk : V p l e R s m args below meth c Z G A nL h k n (pc + 1) lv' st) : V p l e R s m args below meth c Z G A nL h k n pc lv (.int x :: st) := fun H locs ls hw hS hv => lv_istore_n X.1 X.2.1 hd hi hv hn hl (fun ls' hv' => kk H locs ls' hw hS hv')
theorem V_lstore {i : Nat} {x : Int64} (X : gC p l s m args meth c G A cc nL ret own) (hd : decode cc pc = .ok (.lstore i, 2)) (hn : i + 1 < nL) (hl : (i, Value.long x) :: lv.filter (fun q => !(q.1 == i) && (!(q.1 == i + 1) && !(q.1 + 1 == i && q.2.category == 2))) = lv') (kk : V p l e R s m args below meth c Z G A nL h k n (pc + 2) lv' st) : V p l e R s m args below meth c Z G A nL h k n pc lv (.long x :: st) := fun H locs ls hw hS hv => lv_lstore X.1 X.2.1 hd hv hn hl (fun ls' hv' => kk H locs ls' hw hS hv')
theorem V_lstore_n {i : Fin 4} {i0 : Nat} {x : Int64} (X : gC p l s m args meth c G A cc nL ret own) (hd : decode cc pc = .ok (.lstore_n i, 1)) (hi : (i : Nat) = i0) (hn : i0 + 1 < nL) (hl : (i0, Value.long x) :: lv.filter (fun q => !(q.1 == i0) && (!(q.1 == i0 + 1) && !(q.1 + 1 == i0 && q.2.category == 2))) = lv') (kk : V p l e R s m args below meth c Z G A nL h k n (pc + 1) lv' st) : V p l e R s m args below meth c Z G A nL h k n pc lv (.long x :: st) := fun H locs ls hw hS hv => lv_lstore_n X.1 X.2.1 hd hi hv hn hl (fun ls' hv' => kk H locs ls' hw hS hv')
theorem V_astore {i : Nat} {x : Nat} (X : gC p l s m args meth c G A cc nL ret own) (hd : decode cc pc = .ok (.astore i, 2)) (hn : i < nL) (hl : (i, Value.ref x) :: lv.filter (fun q => !(q.1 == i) && !(q.1 + 1 == i && q.2.category == 2)) = lv') (kk : V p l e R s m args below meth c Z G A nL h k n (pc + 2) lv' st) : V p l e R s m args below meth c Z G A nL h k n pc lv (.ref x :: st) := fun H locs ls hw hS hv => lv_astore X.1 X.2.1 hd hv hn hl (fun ls' hv' => kk H locs ls' hw hS hv')
theorem V_astore_n {i : Fin 4} {i0 : Nat} {x : Nat} (X : gC p l s m args meth c G A cc nL ret own) (hd : decode cc pc = .ok (.astore_n i, 1)) (hi : (i : Nat) = i0) (hn : i0 < nL) (hl : (i0, Value.ref x) :: lv.filter (fun q => !(q.1 == i0) && !(q.1 + 1 == i0 && q.2.category == 2)) = lv') (kk : V p l e R s m args below meth c Z G A nL h k n (pc + 1) lv' st) : V p l e R s m args below meth c Z G A nL h k n pc lv (.ref x :: st) := fun H locs ls hw hS hv => lv_astore_n X.1 X.2.1 hd hi hv hn hl (fun ls' hv' => kk H locs ls' hw hS hv')
theorem V_iinc {i : Nat} {d : Int} {x y : Int32} (X : gC p l s m args meth c G A cc nL ret own) (hd : decode cc pc = .ok (.iinc i d, 3)) (q : Nat) (hq : lv[q]? = some (i, .int x)) (hv : x + Int32.ofInt d = y) (hn : i < nL) (hl : (i, Value.int y) :: lv.filter (fun q => !(q.1 == i) && !(q.1 + 1 == i && q.2.category == 2)) = lv') (kk : V p l e R s m args below meth c Z G A nL h k n (pc + 3) lv' st) : V p l e R s m args below meth c Z G A nL h k n pc lv st := fun H locs ls hw hS hvl => lv_iinc X.1 X.2.1 hd hvl hq hv hn hl (fun ls' hv' => kk H locs ls' hw hS hv')
theorem V_iconst {d : Int} {y : Int32} (X : gC p l s m args meth c G A cc nL ret own) (hd : decode cc pc = .ok (.iconst d, 1)) (hy : Int32.ofInt d = y) (kk : V p l e R s m args below meth c Z G A nL h k n (pc + 1) lv (.int y :: st)) : V p l e R s m args below meth c Z G A nL h k n pc lv st := fun H locs ls hw hS hv => lv_iconst X.1 X.2.1 hd hy (kk H locs ls hw hS hv)
theorem V_bipush {d : Int} {y : Int32} (X : gC p l s m args meth c G A cc nL ret own) (hd : decode cc pc = .ok (.bipush d, 2)) (hy : (Int8.ofInt d).toInt32 = y) (kk : V p l e R s m args below meth c Z G A nL h k n (pc + 2) lv (.int y :: st)) : V p l e R s m args below meth c Z G A nL h k n pc lv st := fun H locs ls hw hS hv => lv_bipush X.1 X.2.1 hd hy (kk H locs ls hw hS hv)
theorem V_sipush {d : Int} {y : Int32} (X : gC p l s m args meth c G A cc nL ret own) (hd : decode cc pc = .ok (.sipush d, 3)) (hy : (Int16.ofInt d).toInt32 = y) (kk : V p l e R s m args below meth c Z G A nL h k n (pc + 3) lv (.int y :: st)) : V p l e R s m args below meth c Z G A nL h k n pc lv st := fun H locs ls hw hS hv => lv_sipush X.1 X.2.1 hd hy (kk H locs ls hw hS hv)
theorem V_lconst {d : Fin 2} {y : Int64} (X : gC p l s m args meth c G A cc nL ret own) (hd : decode cc pc = .ok (.lconst d, 1)) (hy : Int64.ofNat (d : Nat) = y) (kk : V p l e R s m args below meth c Z G A nL h k n (pc + 1) lv (.long y :: st)) : V p l e R s m args below meth c Z G A nL h k n pc lv st := fun H locs ls hw hS hv => lv_lconst X.1 X.2.1 hd hy (kk H locs ls hw hS hv)
theorem V_ldc {i : Nat} {y : Int32} (X : gC p l s m args meth c G A cc nL ret own) (hd : decode cc pc = .ok (.ldc i, 2)) (hy : Cond.constant own i y ∈ gW) (kk : V p l e R s m args below meth c Z G A nL h k n (pc + 2) lv (.int y :: st)) : V p l e R s m args below meth c Z G A nL h k n pc lv st := fun H locs ls hw hS hv => lv_ldc X.1 X.2.1 X.2.2.2.1 (X.2.2.2.2.1 _ hy) hd (kk H locs ls hw hS hv)
theorem V_ldcw {i : Nat} {y : Int32} (X : gC p l s m args meth c G A cc nL ret own) (hd : decode cc pc = .ok (.ldc_w i, 3)) (hy : Cond.constant own i y ∈ gW) (kk : V p l e R s m args below meth c Z G A nL h k n (pc + 3) lv (.int y :: st)) : V p l e R s m args below meth c Z G A nL h k n pc lv st := fun H locs ls hw hS hv => lv_ldcw X.1 X.2.1 X.2.2.2.1 (X.2.2.2.2.1 _ hy) hd (kk H locs ls hw hS hv)
theorem V_ldc2 {i : Nat} {y : Int64} (X : gC p l s m args meth c G A cc nL ret own) (hd : decode cc pc = .ok (.ldc2_w i, 3)) (hy : Cond.constantLong own i y ∈ gW) (kk : V p l e R s m args below meth c Z G A nL h k n (pc + 3) lv (.long y :: st)) : V p l e R s m args below meth c Z G A nL h k n pc lv st := fun H locs ls hw hS hv => lv_ldc2 X.1 X.2.1 X.2.2.2.1 (X.2.2.2.2.1 _ hy) hd (kk H locs ls hw hS hv)
theorem V_dup {v : Value} (X : gC p l s m args meth c G A cc nL ret own) (hd : decode cc pc = .ok (.dup, 1)) (hc : v.category = 1) (kk : V p l e R s m args below meth c Z G A nL h k n (pc + 1) lv (v :: v :: st)) : V p l e R s m args below meth c Z G A nL h k n pc lv (v :: st) := fun H locs ls hw hS hv => lv_dup X.1 X.2.1 hd hc (kk H locs ls hw hS hv)
theorem V_pop {v : Value} (X : gC p l s m args meth c G A cc nL ret own) (hd : decode cc pc = .ok (.pop, 1)) (hc : v.category = 1) (kk : V p l e R s m args below meth c Z G A nL h k n (pc + 1) lv st) : V p l e R s m args below meth c Z G A nL h k n pc lv (v :: st) := fun H locs ls hw hS hv => lv_pop X.1 X.2.1 hd hc (kk H locs ls hw hS hv)
theorem V_iadd {x y : Int32} (X : gC p l s m args meth c G A cc nL ret own) (hd : decode cc pc = .ok (.iadd, 1))  (kk : V p l e R s m args below meth c Z G A nL h k n (pc + 1) lv (.int (x + y) :: st)) : V p l e R s m args below meth c Z G A nL h k n pc lv (.int y :: .int x :: st) := fun H locs ls hw hS hv => lv_iadd X.1 X.2.1 hd (kk H locs ls hw hS hv)
theorem V_isub {x y : Int32} (X : gC p l s m args meth c G A cc nL ret own) (hd : decode cc pc = .ok (.isub, 1))  (kk : V p l e R s m args below meth c Z G A nL h k n (pc + 1) lv (.int (x - y) :: st)) : V p l e R s m args below meth c Z G A nL h k n pc lv (.int y :: .int x :: st) := fun H locs ls hw hS hv => lv_isub X.1 X.2.1 hd (kk H locs ls hw hS hv)
theorem V_imul {x y : Int32} (X : gC p l s m args meth c G A cc nL ret own) (hd : decode cc pc = .ok (.imul, 1))  (kk : V p l e R s m args below meth c Z G A nL h k n (pc + 1) lv (.int (x * y) :: st)) : V p l e R s m args below meth c Z G A nL h k n pc lv (.int y :: .int x :: st) := fun H locs ls hw hS hv => lv_imul X.1 X.2.1 hd (kk H locs ls hw hS hv)
theorem V_iand {x y : Int32} (X : gC p l s m args meth c G A cc nL ret own) (hd : decode cc pc = .ok (.iand, 1))  (kk : V p l e R s m args below meth c Z G A nL h k n (pc + 1) lv (.int (x &&& y) :: st)) : V p l e R s m args below meth c Z G A nL h k n pc lv (.int y :: .int x :: st) := fun H locs ls hw hS hv => lv_iand X.1 X.2.1 hd (kk H locs ls hw hS hv)
theorem V_ior {x y : Int32} (X : gC p l s m args meth c G A cc nL ret own) (hd : decode cc pc = .ok (.ior, 1))  (kk : V p l e R s m args below meth c Z G A nL h k n (pc + 1) lv (.int (x ||| y) :: st)) : V p l e R s m args below meth c Z G A nL h k n pc lv (.int y :: .int x :: st) := fun H locs ls hw hS hv => lv_ior X.1 X.2.1 hd (kk H locs ls hw hS hv)
theorem V_ishl {x y : Int32} (X : gC p l s m args meth c G A cc nL ret own) (hd : decode cc pc = .ok (.ishl, 1))  (kk : V p l e R s m args below meth c Z G A nL h k n (pc + 1) lv (.int (x <<< (y &&& 31)) :: st)) : V p l e R s m args below meth c Z G A nL h k n pc lv (.int y :: .int x :: st) := fun H locs ls hw hS hv => lv_ishl X.1 X.2.1 hd (kk H locs ls hw hS hv)
theorem V_ishr {x y : Int32} (X : gC p l s m args meth c G A cc nL ret own) (hd : decode cc pc = .ok (.ishr, 1))  (kk : V p l e R s m args below meth c Z G A nL h k n (pc + 1) lv (.int (x >>> (y &&& 31)) :: st)) : V p l e R s m args below meth c Z G A nL h k n pc lv (.int y :: .int x :: st) := fun H locs ls hw hS hv => lv_ishr X.1 X.2.1 hd (kk H locs ls hw hS hv)
theorem V_ineg {x : Int32} (X : gC p l s m args meth c G A cc nL ret own) (hd : decode cc pc = .ok (.ineg, 1))  (kk : V p l e R s m args below meth c Z G A nL h k n (pc + 1) lv (.int (-x) :: st)) : V p l e R s m args below meth c Z G A nL h k n pc lv (.int x :: st) := fun H locs ls hw hS hv => lv_ineg X.1 X.2.1 hd (kk H locs ls hw hS hv)
theorem V_ladd {x y : Int64} (X : gC p l s m args meth c G A cc nL ret own) (hd : decode cc pc = .ok (.ladd, 1))  (kk : V p l e R s m args below meth c Z G A nL h k n (pc + 1) lv (.long (x + y) :: st)) : V p l e R s m args below meth c Z G A nL h k n pc lv (.long y :: .long x :: st) := fun H locs ls hw hS hv => lv_ladd X.1 X.2.1 hd (kk H locs ls hw hS hv)
theorem V_lsub {x y : Int64} (X : gC p l s m args meth c G A cc nL ret own) (hd : decode cc pc = .ok (.lsub, 1))  (kk : V p l e R s m args below meth c Z G A nL h k n (pc + 1) lv (.long (x - y) :: st)) : V p l e R s m args below meth c Z G A nL h k n pc lv (.long y :: .long x :: st) := fun H locs ls hw hS hv => lv_lsub X.1 X.2.1 hd (kk H locs ls hw hS hv)
theorem V_lmul {x y : Int64} (X : gC p l s m args meth c G A cc nL ret own) (hd : decode cc pc = .ok (.lmul, 1))  (kk : V p l e R s m args below meth c Z G A nL h k n (pc + 1) lv (.long (x * y) :: st)) : V p l e R s m args below meth c Z G A nL h k n pc lv (.long y :: .long x :: st) := fun H locs ls hw hS hv => lv_lmul X.1 X.2.1 hd (kk H locs ls hw hS hv)
theorem V_ldiv {x y : Int64} (X : gC p l s m args meth c G A cc nL ret own) (hd : decode cc pc = .ok (.ldiv, 1)) (hne : ¬ y = 0) (kk : V p l e R s m args below meth c Z G A nL h k n (pc + 1) lv (.long (x / y) :: st)) : V p l e R s m args below meth c Z G A nL h k n pc lv (.long y :: .long x :: st) := fun H locs ls hw hS hv => lv_ldiv X.1 X.2.1 hd hne (kk H locs ls hw hS hv)
theorem V_lrem {x y : Int64} (X : gC p l s m args meth c G A cc nL ret own) (hd : decode cc pc = .ok (.lrem, 1)) (hne : ¬ y = 0) (kk : V p l e R s m args below meth c Z G A nL h k n (pc + 1) lv (.long (x - x / y * y) :: st)) : V p l e R s m args below meth c Z G A nL h k n pc lv (.long y :: .long x :: st) := fun H locs ls hw hS hv => lv_lrem X.1 X.2.1 hd hne (kk H locs ls hw hS hv)
theorem V_lcmp {x y : Int64} (X : gC p l s m args meth c G A cc nL ret own) (hd : decode cc pc = .ok (.lcmp, 1))  (kk : V p l e R s m args below meth c Z G A nL h k n (pc + 1) lv (.int (lg_cmp x y) :: st)) : V p l e R s m args below meth c Z G A nL h k n pc lv (.long y :: .long x :: st) := fun H locs ls hw hS hv => W.lcmp X.1 X.2.1 hd (kk H locs ls hw hS hv)
theorem V_i2l {x : Int32} (X : gC p l s m args meth c G A cc nL ret own) (hd : decode cc pc = .ok (.i2l, 1))  (kk : V p l e R s m args below meth c Z G A nL h k n (pc + 1) lv (.long x.toInt64 :: st)) : V p l e R s m args below meth c Z G A nL h k n pc lv (.int x :: st) := fun H locs ls hw hS hv => lv_i2l X.1 X.2.1 hd rfl (kk H locs ls hw hS hv)
theorem V_l2i {x : Int64} (X : gC p l s m args meth c G A cc nL ret own) (hd : decode cc pc = .ok (.l2i, 1))  (kk : V p l e R s m args below meth c Z G A nL h k n (pc + 1) lv (.int x.toInt32 :: st)) : V p l e R s m args below meth c Z G A nL h k n pc lv (.long x :: st) := fun H locs ls hw hS hv => lv_l2i X.1 X.2.1 hd rfl (kk H locs ls hw hS hv)
theorem V_icmp_eq {x y : Int32} {off : Int} {tgt : Nat} (X : gC p l s m args meth c G A cc nL ret own) (hd : decode cc pc = .ok (.if_icmp .eq off, 3)) (ht : (pc : Int) + off = (tgt : Int)) (kt : x = y → V p l e R s m args below meth c Z G A nL h k n tgt lv st) (kf : ¬ x = y → V p l e R s m args below meth c Z G A nL h k n (pc + 3) lv st) : V p l e R s m args below meth c Z G A nL h k n pc lv (.int y :: .int x :: st) := fun H locs ls hw hS hv => lv_icmp_eq X.1 X.2.1 hd ht (fun z => kt z H locs ls hw hS hv) (fun z => kf z H locs ls hw hS hv)
theorem V_if_eq {x : Int32} {off : Int} {tgt : Nat} (X : gC p l s m args meth c G A cc nL ret own) (hd : decode cc pc = .ok (.ifCond .eq off, 3)) (ht : (pc : Int) + off = (tgt : Int)) (kt : x = 0 → V p l e R s m args below meth c Z G A nL h k n tgt lv st) (kf : ¬ x = 0 → V p l e R s m args below meth c Z G A nL h k n (pc + 3) lv st) : V p l e R s m args below meth c Z G A nL h k n pc lv (.int x :: st) := fun H locs ls hw hS hv => lv_if_eq X.1 X.2.1 hd ht (fun z => kt z H locs ls hw hS hv) (fun z => kf z H locs ls hw hS hv)
theorem V_icmp_ne {x y : Int32} {off : Int} {tgt : Nat} (X : gC p l s m args meth c G A cc nL ret own) (hd : decode cc pc = .ok (.if_icmp .ne off, 3)) (ht : (pc : Int) + off = (tgt : Int)) (kt : ¬ x = y → V p l e R s m args below meth c Z G A nL h k n tgt lv st) (kf : x = y → V p l e R s m args below meth c Z G A nL h k n (pc + 3) lv st) : V p l e R s m args below meth c Z G A nL h k n pc lv (.int y :: .int x :: st) := fun H locs ls hw hS hv => lv_icmp_ne X.1 X.2.1 hd ht (fun z => kt z H locs ls hw hS hv) (fun z => kf z H locs ls hw hS hv)
theorem V_if_ne {x : Int32} {off : Int} {tgt : Nat} (X : gC p l s m args meth c G A cc nL ret own) (hd : decode cc pc = .ok (.ifCond .ne off, 3)) (ht : (pc : Int) + off = (tgt : Int)) (kt : ¬ x = 0 → V p l e R s m args below meth c Z G A nL h k n tgt lv st) (kf : x = 0 → V p l e R s m args below meth c Z G A nL h k n (pc + 3) lv st) : V p l e R s m args below meth c Z G A nL h k n pc lv (.int x :: st) := fun H locs ls hw hS hv => lv_if_ne X.1 X.2.1 hd ht (fun z => kt z H locs ls hw hS hv) (fun z => kf z H locs ls hw hS hv)
theorem V_icmp_lt {x y : Int32} {off : Int} {tgt : Nat} (X : gC p l s m args meth c G A cc nL ret own) (hd : decode cc pc = .ok (.if_icmp .lt off, 3)) (ht : (pc : Int) + off = (tgt : Int)) (kt : x < y → V p l e R s m args below meth c Z G A nL h k n tgt lv st) (kf : ¬ x < y → V p l e R s m args below meth c Z G A nL h k n (pc + 3) lv st) : V p l e R s m args below meth c Z G A nL h k n pc lv (.int y :: .int x :: st) := fun H locs ls hw hS hv => lv_icmp_lt X.1 X.2.1 hd ht (fun z => kt z H locs ls hw hS hv) (fun z => kf z H locs ls hw hS hv)
theorem V_if_lt {x : Int32} {off : Int} {tgt : Nat} (X : gC p l s m args meth c G A cc nL ret own) (hd : decode cc pc = .ok (.ifCond .lt off, 3)) (ht : (pc : Int) + off = (tgt : Int)) (kt : x < 0 → V p l e R s m args below meth c Z G A nL h k n tgt lv st) (kf : ¬ x < 0 → V p l e R s m args below meth c Z G A nL h k n (pc + 3) lv st) : V p l e R s m args below meth c Z G A nL h k n pc lv (.int x :: st) := fun H locs ls hw hS hv => lv_if_lt X.1 X.2.1 hd ht (fun z => kt z H locs ls hw hS hv) (fun z => kf z H locs ls hw hS hv)
theorem V_icmp_ge {x y : Int32} {off : Int} {tgt : Nat} (X : gC p l s m args meth c G A cc nL ret own) (hd : decode cc pc = .ok (.if_icmp .ge off, 3)) (ht : (pc : Int) + off = (tgt : Int)) (kt : y ≤ x → V p l e R s m args below meth c Z G A nL h k n tgt lv st) (kf : ¬ y ≤ x → V p l e R s m args below meth c Z G A nL h k n (pc + 3) lv st) : V p l e R s m args below meth c Z G A nL h k n pc lv (.int y :: .int x :: st) := fun H locs ls hw hS hv => lv_icmp_ge X.1 X.2.1 hd ht (fun z => kt z H locs ls hw hS hv) (fun z => kf z H locs ls hw hS hv)
theorem V_if_ge {x : Int32} {off : Int} {tgt : Nat} (X : gC p l s m args meth c G A cc nL ret own) (hd : decode cc pc = .ok (.ifCond .ge off, 3)) (ht : (pc : Int) + off = (tgt : Int)) (kt : 0 ≤ x → V p l e R s m args below meth c Z G A nL h k n tgt lv st) (kf : ¬ 0 ≤ x → V p l e R s m args below meth c Z G A nL h k n (pc + 3) lv st) : V p l e R s m args below meth c Z G A nL h k n pc lv (.int x :: st) := fun H locs ls hw hS hv => lv_if_ge X.1 X.2.1 hd ht (fun z => kt z H locs ls hw hS hv) (fun z => kf z H locs ls hw hS hv)
theorem V_icmp_gt {x y : Int32} {off : Int} {tgt : Nat} (X : gC p l s m args meth c G A cc nL ret own) (hd : decode cc pc = .ok (.if_icmp .gt off, 3)) (ht : (pc : Int) + off = (tgt : Int)) (kt : y < x → V p l e R s m args below meth c Z G A nL h k n tgt lv st) (kf : ¬ y < x → V p l e R s m args below meth c Z G A nL h k n (pc + 3) lv st) : V p l e R s m args below meth c Z G A nL h k n pc lv (.int y :: .int x :: st) := fun H locs ls hw hS hv => lv_icmp_gt X.1 X.2.1 hd ht (fun z => kt z H locs ls hw hS hv) (fun z => kf z H locs ls hw hS hv)
theorem V_if_gt {x : Int32} {off : Int} {tgt : Nat} (X : gC p l s m args meth c G A cc nL ret own) (hd : decode cc pc = .ok (.ifCond .gt off, 3)) (ht : (pc : Int) + off = (tgt : Int)) (kt : 0 < x → V p l e R s m args below meth c Z G A nL h k n tgt lv st) (kf : ¬ 0 < x → V p l e R s m args below meth c Z G A nL h k n (pc + 3) lv st) : V p l e R s m args below meth c Z G A nL h k n pc lv (.int x :: st) := fun H locs ls hw hS hv => lv_if_gt X.1 X.2.1 hd ht (fun z => kt z H locs ls hw hS hv) (fun z => kf z H locs ls hw hS hv)
theorem V_icmp_le {x y : Int32} {off : Int} {tgt : Nat} (X : gC p l s m args meth c G A cc nL ret own) (hd : decode cc pc = .ok (.if_icmp .le off, 3)) (ht : (pc : Int) + off = (tgt : Int)) (kt : x ≤ y → V p l e R s m args below meth c Z G A nL h k n tgt lv st) (kf : ¬ x ≤ y → V p l e R s m args below meth c Z G A nL h k n (pc + 3) lv st) : V p l e R s m args below meth c Z G A nL h k n pc lv (.int y :: .int x :: st) := fun H locs ls hw hS hv => lv_icmp_le X.1 X.2.1 hd ht (fun z => kt z H locs ls hw hS hv) (fun z => kf z H locs ls hw hS hv)
theorem V_if_le {x : Int32} {off : Int} {tgt : Nat} (X : gC p l s m args meth c G A cc nL ret own) (hd : decode cc pc = .ok (.ifCond .le off, 3)) (ht : (pc : Int) + off = (tgt : Int)) (kt : x ≤ 0 → V p l e R s m args below meth c Z G A nL h k n tgt lv st) (kf : ¬ x ≤ 0 → V p l e R s m args below meth c Z G A nL h k n (pc + 3) lv st) : V p l e R s m args below meth c Z G A nL h k n pc lv (.int x :: st) := fun H locs ls hw hS hv => lv_if_le X.1 X.2.1 hd ht (fun z => kt z H locs ls hw hS hv) (fun z => kf z H locs ls hw hS hv)
theorem V_goto {off : Int} {tgt : Nat} (X : gC p l s m args meth c G A cc nL ret own) (hd : decode cc pc = .ok (.goto off, 3)) (ht : (pc : Int) + off = (tgt : Int)) (kk : V p l e R s m args below meth c Z G A nL h k n tgt lv st) : V p l e R s m args below meth c Z G A nL h k n pc lv st := fun H locs ls hw hS hv => lv_goto X.1 X.2.1 hd ht (kk H locs ls hw hS hv)
theorem V_tableIn {dflt lo hi : Int} {offs : Array Int} {len : Nat} {x : Int32} {off : Int} {tgt : Nat} (X : gC p l s m args meth c G A cc nL ret own) (hd : decode cc pc = .ok (.tableswitch dflt lo hi offs, len)) (h1 : ¬ x.toInt < lo) (h2 : ¬ hi < x.toInt) (ho : offs[(x.toInt - lo).toNat]? = some off) (ht : (pc : Int) + off = (tgt : Int)) (kk : V p l e R s m args below meth c Z G A nL h k n tgt lv st) : V p l e R s m args below meth c Z G A nL h k n pc lv (.int x :: st) := fun H locs ls hw hS hv => lv_tableIn X.1 X.2.1 hd h1 h2 ho ht (kk H locs ls hw hS hv)
theorem V_tableOut {dflt lo hi : Int} {offs : Array Int} {len : Nat} {x : Int32} {tgt : Nat} (X : gC p l s m args meth c G A cc nL ret own) (hd : decode cc pc = .ok (.tableswitch dflt lo hi offs, len)) (h1 : x.toInt < lo ∨ hi < x.toInt) (ht : (pc : Int) + dflt = (tgt : Int)) (kk : V p l e R s m args below meth c Z G A nL h k n tgt lv st) : V p l e R s m args below meth c Z G A nL h k n pc lv (.int x :: st) := fun H locs ls hw hS hv => lv_tableOut X.1 X.2.1 hd h1 ht (kk H locs ls hw hS hv)
theorem V_get {idx ci f a : Nat} {ty : FieldType} {fin : Bool} {fs : List Value} {v : Value} (X : gC p l s m args meth c G A cc nL ret own) (F : gFl own idx ci f ty fin) (hd : decode cc pc = .ok (.getfield idx, 3)) (hh : h a = some (.inr (ci, fs))) (hv : fs[f]? = some v) (kk : V p l e R s m args below meth c Z G A nL h k n (pc + 3) lv (v :: st)) : V p l e R s m args below meth c Z G A nL h k n pc lv (.ref a :: st) := fun H locs ls hw hS hl => by
  obtain ⟨C, T, N, ty0, f1, f2, f3, f4, f5, f6, f7, f8, f9⟩ := F
  exact va_get (ci := ci) (fs := fs) X.1 X.2.1 X.2.2.2.2.1 f4 X.2.2.2.1 X.2.2.2.2.2.1 (hw.one hh (hw.t0 hh)) 0 rfl f1 f f2 (X.2.2.2.2.1 _ f3) (fun _ z => z) hv hd (kk H locs ls hw hS hl)
theorem gS0 {G : gG} {A : Nat → Prop} {h : gH} {H H1 : Heap} {locs locs1 : List Loc} {s : State} (hA : ∀ q, s.heap.size ≤ q → A q) (hw : gw G A h H) (hS : va_S A s.heap H locs) (hS1 : va_S A s.heap H1 locs1) : H1[G.2.2.1]? = H[G.2.2.1]? := by
  have h0 := hw.2.2.1
  have hlt : G.2.2.1 < s.heap.size := by
    rcases Nat.lt_or_ge G.2.2.1 s.heap.size with z | z
    · exact z
    · exact absurd (hA _ z) h0
  rw [hS1.2.1 _ hlt h0, hS.2.1 _ hlt h0]
theorem V_put {idx ci f a : Nat} {ty : FieldType} {fs : List Value} {v : Value} (X : gC p l s m args meth c G A cc nL ret own) (F : gFl own idx ci f ty false) (hd : decode cc pc = .ok (.putfield idx, 3)) (hh : h a = some (.inr (ci, fs))) (hl : f < fs.length) (hn : narrow ty v = v) (hf : fits ty v = true) (kk : V p l e R s m args below meth c Z G A nL (va_up h a (some (.inr (ci, fs.set f v)))) k n (pc + 3) lv st) : V p l e R s m args below meth c Z G A nL h k n pc lv (v :: .ref a :: st) := fun H locs ls hw hS hv => by
  obtain ⟨C, T, N, ty0, f1, f2, f3, f4, f5, f6, f7, f8, f9⟩ := F
  obtain ⟨ws, q, hP, hD, hq, hk⟩ := hw.set hh (hw.t0 hh)
  exact va_put X.1 X.2.1 X.2.2.2.2.1 f4 ty0 f5 f6 X.2.2.2.1 X.2.2.2.2.2.1 hP hD hS q hq f1 f f2 (X.2.2.2.2.1 _ f3) (fun _ z => z) f8 f7 hn hf hl hd (fun H1 locs1 hP1 hD1 hS1 => kk H1 locs1 ls (hk (.inr (ci, fs.set f v)) H1 hP1 hD1 (gS0 X.2.2.2.2.2.2.1 hw hS hS1)) hS1 hv)
theorem V_putF {idx ci f a : Nat} {ty : FieldType} {fs : List Value} {v : Value} (X : gC p l s m args meth c G A cc nL ret own) (hin : meth.name = "<init>") (F : gFl own idx ci f ty true) (hd : decode cc pc = .ok (.putfield idx, 3)) (hh : h a = some (.inr (ci, fs))) (hl : f < fs.length) (hn : narrow ty v = v) (hf : fits ty v = true) (kk : V p l e R s m args below meth c Z G A nL (va_up h a (some (.inr (ci, fs.set f v)))) k n (pc + 3) lv st) : V p l e R s m args below meth c Z G A nL h k n pc lv (v :: .ref a :: st) := fun H locs ls hw hS hv => by
  obtain ⟨C, T, N, ty0, f1, f2, f3, f4, f5, f6, f7, f8, f9⟩ := F
  obtain ⟨ws, q, hP, hD, hq, hk⟩ := hw.set hh (hw.t0 hh)
  exact va_putF X.1 X.2.1 X.2.2.2.2.1 f4 ty0 f5 f6 X.2.2.2.1 X.2.2.2.2.2.1 hP hD hS q hq f1 f f2 (X.2.2.2.2.1 _ f3) (fun _ z => z) f8 hin (f9 rfl) f7 hn hf hl hd (fun H1 locs1 hP1 hD1 hS1 => kk H1 locs1 ls (hk (.inr (ci, fs.set f v)) H1 hP1 hD1 (gS0 X.2.2.2.2.2.2.1 hw hS hS1)) hS1 hv)
theorem V_iald {a N : Nat} {i : Int32} {g : Nat → Int32} (X : gC p l s m args meth c G A cc nL ret own) (hd : decode cc pc = .ok (.iaload, 1)) (hh : h a = some (.inl (0, N, .inl g))) (hi : vp_in i N) (kk : V p l e R s m args below meth c Z G A nL h k n (pc + 1) lv (.int (g i.toNatClampNeg) :: st)) : V p l e R s m args below meth c Z G A nL h k n pc lv (.int i :: .ref a :: st) := fun H locs ls hw hS hl => va_iald X.1 X.2.1 X.2.2.2.2.2.1 (hw.one hh (fun z => by rw [z, hw.1] at hh; cases hh)) 0 0 rfl rfl hi hd (kk H locs ls hw hS hl)
theorem V_iast {a N : Nat} {i : Int32} {x : Int32} {g : Nat → Int32} (X : gC p l s m args meth c G A cc nL ret own) (hd : decode cc pc = .ok (.iastore, 1)) (hh : h a = some (.inl (0, N, .inl g))) (hi : vp_in i N) (kk : V p l e R s m args below meth c Z G A nL (va_up h a (some (.inl (0, N, .inl (upd g i.toNatClampNeg x))))) k n (pc + 1) lv st) : V p l e R s m args below meth c Z G A nL h k n pc lv (.int x :: .int i :: .ref a :: st) := fun H locs ls hw hS hl => by
  have ha : a ≠ G.2.2.1 := fun z => by
    rw [z, hw.1] at hh
    cases hh
  obtain ⟨ws, q, hP, hD, hq, hk⟩ := hw.set hh ha
  exact va_iast X.1 X.2.1 X.2.2.2.2.2.1 hP hD hS q 0 hq rfl hi hd (fun H1 locs1 hP1 hD1 hS1 => kk H1 locs1 ls (hk (.inl (0, N, .inl (upd g i.toNatClampNeg x))) H1 hP1 hD1 (gS0 X.2.2.2.2.2.2.1 hw hS hS1)) hS1 hl)
theorem V_zald {a N : Nat} {i : Int32} {g : Nat → Int32} (X : gC p l s m args meth c G A cc nL ret own) (hd : decode cc pc = .ok (.baload, 1)) (hh : h a = some (.inl (2, N, .inl g))) (hi : vp_in i N) (kk : V p l e R s m args below meth c Z G A nL h k n (pc + 1) lv (.int (g i.toNatClampNeg) :: st)) : V p l e R s m args below meth c Z G A nL h k n pc lv (.int i :: .ref a :: st) := fun H locs ls hw hS hl => va_zald X.1 X.2.1 X.2.2.2.2.2.1 (hw.one hh (fun z => by rw [z, hw.1] at hh; cases hh)) 0 2 rfl rfl hi hd (kk H locs ls hw hS hl)
theorem V_zast {a N : Nat} {i : Int32} {x : Int32} {g : Nat → Int32} (X : gC p l s m args meth c G A cc nL ret own) (hd : decode cc pc = .ok (.bastore, 1)) (hh : h a = some (.inl (2, N, .inl g))) (hi : vp_in i N) (kk : V p l e R s m args below meth c Z G A nL (va_up h a (some (.inl (2, N, .inl (upd g i.toNatClampNeg (vp_nar .boolean x)))))) k n (pc + 1) lv st) : V p l e R s m args below meth c Z G A nL h k n pc lv (.int x :: .int i :: .ref a :: st) := fun H locs ls hw hS hl => by
  have ha : a ≠ G.2.2.1 := fun z => by
    rw [z, hw.1] at hh
    cases hh
  obtain ⟨ws, q, hP, hD, hq, hk⟩ := hw.set hh ha
  exact va_zast X.1 X.2.1 X.2.2.2.2.2.1 hP hD hS q 2 hq rfl hi hd (fun H1 locs1 hP1 hD1 hS1 => kk H1 locs1 ls (hk (.inl (2, N, .inl (upd g i.toNatClampNeg (vp_nar .boolean x)))) H1 hP1 hD1 (gS0 X.2.2.2.2.2.2.1 hw hS hS1)) hS1 hl)
end GV
