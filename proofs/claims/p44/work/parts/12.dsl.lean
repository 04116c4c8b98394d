/-! ===== what a method's text asks, an operation a word: reading and writing h, going on by K ===== -/
def gi (h : gH) (a ci f : Nat) (K : Int32 → Prop) : Prop := ∃ (fs : List Value) (x : Int32), h a = some (.inr (ci, fs)) ∧ fs[f]? = some (.int x) ∧ K x
def gl (h : gH) (a ci f : Nat) (K : Int64 → Prop) : Prop := ∃ (fs : List Value) (x : Int64), h a = some (.inr (ci, fs)) ∧ fs[f]? = some (.long x) ∧ K x
def gr (h : gH) (a ci f : Nat) (K : Option Nat → Prop) : Prop := ∃ (fs : List Value) (r : Option Nat), h a = some (.inr (ci, fs)) ∧ fs[f]? = some (va_rf r) ∧ K r
def pv (h : gH) (a ci f : Nat) (v : Value) (K : gH → Prop) : Prop := ∃ fs : List Value, h a = some (.inr (ci, fs)) ∧ f < fs.length ∧ K (va_up h a (some (.inr (ci, fs.set f v))))
theorem va_cat2 (v : Value) : v.category ≤ 2 := by cases v <;> exact Nat.le_of_ble_eq_true rfl
theorem va_len : ∀ (st : List Value) (n : Nat), st.length ≤ n → (st.map fun v => v.category).sum ≤ 2 * n
  | [], n, _ => by simp
  | v :: st, n, h => by
    have h1 := va_cat2 v
    rw [List.length_cons] at h
    have h2 := va_len st (n - 1) (by omega)
    rw [List.map_cons, List.sum_cons]
    omega
def gZ (x : Int32) : Prop := narrow .boolean (.int x) = .int x ∧ fits .boolean (.int x) = true
def nn (r : Option Nat) (K : Nat → Prop) : Prop := ∃ a : Nat, r = some a ∧ K a
def io (h : gH) (a ci : Nat) (K : Prop) : Prop := ∃ fs : List Value, h a = some (.inr (ci, fs)) ∧ K
def li (h : gH) (a : Nat) (i : Int32) (K : Int32 → Prop) : Prop := ∃ (N : Nat) (g : Nat → Int32), h a = some (.inl (0, N, .inl g)) ∧ vp_in i N ∧ K (g i.toNatClampNeg)
def lz (h : gH) (a : Nat) (i : Int32) (K : Int32 → Prop) : Prop := ∃ (N : Nat) (g : Nat → Int32), h a = some (.inl (2, N, .inl g)) ∧ vp_in i N ∧ K (g i.toNatClampNeg)
def ll (h : gH) (a : Nat) (i : Int32) (K : Int64 → Prop) : Prop := ∃ (N : Nat) (g : Nat → Int64), h a = some (.inl (1, N, .inr (.inl g))) ∧ vp_in i N ∧ K (g i.toNatClampNeg)
def si (h : gH) (a : Nat) (i x : Int32) (K : gH → Prop) : Prop := ∃ (N : Nat) (g : Nat → Int32), h a = some (.inl (0, N, .inl g)) ∧ vp_in i N ∧ K (va_up h a (some (.inl (0, N, .inl (upd g i.toNatClampNeg x)))))
def sz (h : gH) (a : Nat) (i x : Int32) (K : gH → Prop) : Prop := ∃ (N : Nat) (g : Nat → Int32), h a = some (.inl (2, N, .inl g)) ∧ vp_in i N ∧ K (va_up h a (some (.inl (2, N, .inl (upd g i.toNatClampNeg (vp_nar .boolean x))))))
def sl (h : gH) (a : Nat) (i : Int32) (x : Int64) (K : gH → Prop) : Prop := ∃ (N : Nat) (g : Nat → Int64), h a = some (.inl (1, N, .inr (.inl g))) ∧ vp_in i N ∧ K (va_up h a (some (.inl (1, N, .inr (.inl (vp_updL g i.toNatClampNeg x))))))
/-- a new cell at an address that h had not -/
def nw (h : gH) (c0 : va_E) (K : Nat → gH → Prop) : Prop := ∀ q : Nat, h q = none → K q (va_up h q (some c0))
section GD
variable {p : Program} {l : Launch} {e : Env} {R : Room} {s : State} {m : MethodId} {args : Array Value} {below : List Frame} {meth : Method} {c : Code} {Z : State → Prop}
variable {G : gG} {A : Nat → Prop} {cc : ByteArray} {nL : Nat} {ret : Option FieldType} {own : String} {h : gH} {k n pc : Nat} {lv : List (Nat × Value)} {st : List Value}
theorem V_dup2 {va vb : Value} (X : gC p l s m args meth c G A cc nL ret own) (hd : decode cc pc = .ok (.dup2, 1)) (h1 : va.category = 1) (h2 : vb.category = 1) (kk : V p l e R s m args below meth c Z G A nL h k n (pc + 1) lv (va :: vb :: va :: vb :: st)) : V p l e R s m args below meth c Z G A nL h k n pc lv (va :: vb :: st) := fun H locs ls hw hS hv => lv_dup2_11 X.1 X.2.1 hd h1 h2 (kk H locs ls hw hS hv)
theorem V_objInit {idx a : Nat} (X : gC p l s m args meth c G A cc nL ret own) (hl : Cond.methodLink own idx objectInit ∈ gW) (hi : Cond.instanceMethod objectInit ∈ gW) (hc : Cond.code objectInit ⟨#[0xb1]⟩ 1 none ∈ gW) (hd : decode cc pc = .ok (.invokespecial idx, 3)) (hf : 1 ≤ R.frames) (hR : (st.map fun v => v.category).sum + 12 ≤ R.locals) (kk : V p l e R s m args below meth c Z G A nL h k n (pc + 3) lv st) : V p l e R s m args below meth c Z G A nL h k n pc lv (.ref a :: st) := fun H locs ls hw hS hv => W.objInit X.1 X.2.1 X.2.2.2.1 (X.2.2.2.2.1 _ hl) (X.2.2.2.2.1 _ hi) (X.2.2.2.2.1 _ hc) rfl (by rw [X.2.2.1]; exact hv.1) rfl hd hf (by show 2 * 0 + _ + 12 ≤ _; omega) (W.eq (g2 := F0 m (pc + 3) ls st) rfl (kk H locs ls hw hS hv))
theorem V_newa_int {N k1 n1 : Nat} {x : Int32} (X : gC p l s m args meth c G A cc nL ret own) (ha : Cond.arrayClass .int ∈ gW) (hd : decode cc pc = .ok (.newarray .int, 2)) (hn : ¬ x < 0) (hN : x.toNatClampNeg = N) (hb : N * 4 ≤ 536870912) (hR : k + 1 ≤ R.cells ∧ n + N ≤ R.slots) (hk : k + 1 ≤ k1) (hk2 : n + N ≤ n1) (kk : ∀ q : Nat, h q = none → V p l e R s m args below meth c Z G A nL (va_up h q (some (.inl (0, N, .inl (fun _ => 0))))) k1 n1 (pc + 2) lv (.ref q :: st)) : V p l e R s m args below meth c Z G A nL h k n pc lv (.int x :: st) := fun H locs ls hw hS hv => by
  obtain ⟨ws, hP, hD, hk9⟩ := hw.new
  refine va_newa (atype := .int) (ty := .int) (a0 := (N, .inl (fun _ => 0))) X.1 X.2.1 (X.2.2.2.2.1 _ ha) rfl X.2.2.2.2.2.1 hP hD hS X.2.2.2.2.2.2.1 (fun _ => rfl) hn hN hb hR.1 hR.2 hd (fun q cA H1 hK1 hP1 hD1 hS1 => ?_)
  have e1 := (hK1.2 6 _ rfl).2
  have e0 := (X.2.2.2.2.2.1.2 0 _ rfl).2
  have ec : cA = G.2.1 0 := Option.some.inj (e1.symm.trans e0)
  rw [ec] at hP1 hD1
  obtain ⟨z1, z2⟩ := hk9 q (.inl (0, N, .inl (fun _ => 0))) H1 hP1 hD1 (gS0 X.2.2.2.2.2.2.1 hw hS hS1)
  exact W.widen hk hk2 (kk q z1 H1 locs ls z2 hS1 hv)
theorem V_newa_boolean {N k1 n1 : Nat} {x : Int32} (X : gC p l s m args meth c G A cc nL ret own) (ha : Cond.arrayClass .boolean ∈ gW) (hd : decode cc pc = .ok (.newarray .boolean, 2)) (hn : ¬ x < 0) (hN : x.toNatClampNeg = N) (hb : N * 1 ≤ 536870912) (hR : k + 1 ≤ R.cells ∧ n + N ≤ R.slots) (hk : k + 1 ≤ k1) (hk2 : n + N ≤ n1) (kk : ∀ q : Nat, h q = none → V p l e R s m args below meth c Z G A nL (va_up h q (some (.inl (2, N, .inl (fun _ => 0))))) k1 n1 (pc + 2) lv (.ref q :: st)) : V p l e R s m args below meth c Z G A nL h k n pc lv (.int x :: st) := fun H locs ls hw hS hv => by
  obtain ⟨ws, hP, hD, hk9⟩ := hw.new
  refine va_newa (atype := .boolean) (ty := .boolean) (a0 := (N, .inl (fun _ => 0))) X.1 X.2.1 (X.2.2.2.2.1 _ ha) rfl X.2.2.2.2.2.1 hP hD hS X.2.2.2.2.2.2.1 (fun _ => rfl) hn hN hb hR.1 hR.2 hd (fun q cA H1 hK1 hP1 hD1 hS1 => ?_)
  have e1 := (hK1.2 6 _ rfl).2
  have e0 := (X.2.2.2.2.2.1.2 2 _ rfl).2
  have ec : cA = G.2.1 2 := Option.some.inj (e1.symm.trans e0)
  rw [ec] at hP1 hD1
  obtain ⟨z1, z2⟩ := hk9 q (.inl (2, N, .inl (fun _ => 0))) H1 hP1 hD1 (gS0 X.2.2.2.2.2.2.1 hw hS hS1)
  exact W.widen hk hk2 (kk q z1 H1 locs ls z2 hS1 hv)
/-- a row of the table of what can be made: kind ci, its fields' first values -/
def gNw (own : String) (idx ci N : Nat) (fs : List Value) : Prop := ∃ (C : String) (T : u_T) (ty : Nat → FieldType), vwCl[ci]? = some (C, T, N) ∧ Cond.classLink own idx C ∈ gW ∧ Cond.instantiable C N ∈ gW ∧ Cond.initialized C ∈ gW ∧ (∀ w ∈ u_ws C T N, w ∈ gW) ∧ (∀ k, k < N → parseFieldDescriptor (T k).2.2.1 = some (ty k)) ∧ (∀ j, j < N → defaultValue (ty j) = vp_V fs j)
theorem V_new {idx ci N k1 n1 : Nat} {fs : List Value} (X : gC p l s m args meth c G A cc nL ret own) (F : gNw own idx ci N fs) (hd : decode cc pc = .ok (.new idx, 3)) (hR : k + 1 ≤ R.cells ∧ n + N ≤ R.slots) (hk : k + 1 ≤ k1) (hk2 : n + N ≤ n1) (kk : ∀ q : Nat, h q = none → V p l e R s m args below meth c Z G A nL (va_up h q (some (.inr (ci, fs)))) k1 n1 (pc + 3) lv (.ref q :: st)) : V p l e R s m args below meth c Z G A nL h k n pc lv st := fun H locs ls hw hS hv => by
  obtain ⟨C, T, ty, f1, f2, f3, f4, f5, f6, f7⟩ := F
  obtain ⟨ws, hP, hD, hk9⟩ := hw.new
  refine va_new X.1 X.2.1 X.2.2.2.2.1 f5 ty f6 X.2.2.2.1 (X.2.2.2.2.1 _ f2) (X.2.2.2.2.1 _ f3) (X.2.2.2.2.1 _ f4) X.2.2.2.2.2.1 hP hD hS X.2.2.2.2.2.2.1 f1 f7 hR.1 hR.2 hd (fun q H1 hP1 hD1 hS1 => ?_)
  obtain ⟨z1, z2⟩ := hk9 q (.inr (ci, fs)) H1 hP1 hD1 (gS0 X.2.2.2.2.2.2.1 hw hS hS1)
  exact W.widen hk hk2 (kk q z1 H1 locs ls z2 hS1 hv)
end GD
theorem gW_of {L : List Cond} (h1 : ∀ w ∈ L, w ∈ lw_tbl) (h2 : L.all goodWord = true) : ∀ w ∈ L, w ∈ gW := fun w h => gW_at (h1 w h) (List.all_eq_true.mp h2 w h)
theorem gW_n (i : Nat) {w : Cond} (h : tables_1[i]? = some w) (hg : goodWord w = true) : w ∈ gW := gW_at (List.mem_append_right _ (List.mem_of_getElem? h)) hg
theorem gW_p (i : Nat) {w : Cond} (h : (k2_sels lw_privs)[i]? = some w) (hg : goodWord w = true) : w ∈ gW := gW_at (List.mem_append_left _ (List.mem_of_getElem? h)) hg
