/-! ===== the law's start: the classes, the statics, the strings ===== -/
section LST
variable {s : State} {args : Array Value}
theorem st_known (hts : ∀ w ∈ lw_tbl, w.before args s = true) : ∃ (dC : Nat → ClassId) (dI : Nat → Nat → Nat), ∀ (k : Nat) (q : vw_C), vwCl[k]? = some q → u_Kn s q.1 q.2.1 q.2.2 (dC k) (dI k) := by
  have ex : ∀ k : Nat, ∃ (c : ClassId) (i : Nat → Nat), ∀ q : vw_C, vwCl[k]? = some q → u_Kn s q.1 q.2.1 q.2.2 c i := by
    intro k
    match k with
    | 0 => exact (u_known (C := RJ0) (T := TJ0) (N := 4) (n := 4) hts (by decide +kernel) (hts (.instantiable RJ0 4) (by decide +kernel))).imp fun c h => h.imp fun i h q hq => by cases hq; exact h
    | 1 => exact (u_known (C := RJ4) (T := TJ4) (N := 4) (n := 4) hts (by decide +kernel) (hts (.instantiable RJ4 4) (by decide +kernel))).imp fun c h => h.imp fun i h q hq => by cases hq; exact h
    | 2 => exact (u_known (C := RJx4a65c) (T := TJx4a65c) (N := 3) (n := 3) hts (by decide +kernel) (hts (.instantiable RJx4a65c 3) (by decide +kernel))).imp fun c h => h.imp fun i h q hq => by cases hq; exact h
    | 3 => exact (u_known (C := RX0) (T := TX0) (N := 1) (n := 1) hts (by decide +kernel) (hts (.instantiable RX0 1) (by decide +kernel))).imp fun c h => h.imp fun i h q hq => by cases hq; exact h
    | 4 => exact (u_known (C := RX1) (T := TX1) (N := 5) (n := 5) hts (by decide +kernel) (hts (.instantiable RX1 5) (by decide +kernel))).imp fun c h => h.imp fun i h q hq => by cases hq; exact h
    | 5 => exact (u_known (C := RX2) (T := TX2) (N := 2) (n := 2) hts (by decide +kernel) (hts (.instantiable RX2 2) (by decide +kernel))).imp fun c h => h.imp fun i h q hq => by cases hq; exact h
    | 6 => exact (u_known (C := RX3) (T := TX3) (N := 13) (n := 13) hts (by decide +kernel) (hts (.instantiable RX3 13) (by decide +kernel))).imp fun c h => h.imp fun i h q hq => by cases hq; exact h
    | 7 => exact (u_known (C := RX4) (T := TX4) (N := 8) (n := 8) hts (by decide +kernel) (hts (.instantiable RX4 8) (by decide +kernel))).imp fun c h => h.imp fun i h q hq => by cases hq; exact h
    | 8 => exact (u_known (C := RX5) (T := TX5) (N := 5) (n := 5) hts (by decide +kernel) (hts (.instantiable RX5 5) (by decide +kernel))).imp fun c h => h.imp fun i h q hq => by cases hq; exact h
    | 9 => exact (u_known (C := RX6) (T := TX6) (N := 4) (n := 4) hts (by decide +kernel) (hts (.instantiable RX6 4) (by decide +kernel))).imp fun c h => h.imp fun i h q hq => by cases hq; exact h
    | 10 => exact (u_known (C := RX7) (T := TX7) (N := 5) (n := 5) hts (by decide +kernel) (hts (.instantiable RX7 5) (by decide +kernel))).imp fun c h => h.imp fun i h q hq => by cases hq; exact h
    | 11 => exact (u_known (C := RX8) (T := TX8) (N := 6) (n := 6) hts (by decide +kernel) (hts (.instantiable RX8 6) (by decide +kernel))).imp fun c h => h.imp fun i h q hq => by cases hq; exact h
    | 12 => exact (u_known (C := RX9) (T := TX9) (N := 12) (n := 12) hts (by decide +kernel) (hts (.instantiable RX9 12) (by decide +kernel))).imp fun c h => h.imp fun i h q hq => by cases hq; exact h
    | 13 => exact (u_known (C := RX10) (T := TX10) (N := 5) (n := 5) hts (by decide +kernel) (hts (.instantiable RX10 5) (by decide +kernel))).imp fun c h => h.imp fun i h q hq => by cases hq; exact h
    | 14 => exact (u_known (C := RX11) (T := TX11) (N := 7) (n := 7) hts (by decide +kernel) (hts (.instantiable RX11 7) (by decide +kernel))).imp fun c h => h.imp fun i h q hq => by cases hq; exact h
    | k + 15 => exact ⟨0, fun _ => 0, fun q hq => by simp [vwCl] at hq⟩
  obtain ⟨dC, h1⟩ := Classical.skolem.mp ex
  obtain ⟨dI, h2⟩ := Classical.skolem.mp h1
  exact ⟨dC, dI, h2⟩
theorem st_arrP {ty : FieldType} (hR : ∀ cA, va_RA s cA ty = (s.vm.findClass ("[" ++ ty.toString) = some cA)) (h : (Cond.arrayClass ty).before args s = true) : ∃ cA : ClassId, ArrOfT s cA ty ∧ va_RA s cA ty := by
  obtain ⟨c, k, comp, h1, h2, h3⟩ := Cond.arrayClass_spec h
  exact ⟨c, fun n z => ⟨fun k h => (by cases h), k, h2, comp, h3⟩, by rw [hR]; exact h1⟩
theorem st_arrO {C : String} (h : (Cond.arrayOver (.object C)).before args s = true) : ∃ cA : ClassId, ArrOfT s cA (.object C) ∧ va_RA s cA (.object C) := by
  obtain ⟨comp, c, k, h1, h2, h3, h4, h5⟩ := Cond.arrayOver_spec h
  exact ⟨c, fun n z => ⟨fun k h => (by cases h), k, h3, comp, h4⟩, k, comp, h3, h4, h1, h5⟩
theorem st_arrA (h : (Cond.arrayOver (.array .int)).before args s = true) : ∃ cA : ClassId, ArrOfT s cA (.array .int) ∧ va_RA s cA (.array .int) := by
  replace h : (Cond.arrayOver (.array .int)).holds args s none s [] = true := h
  simp only [Cond.holds, Cond.value, beq_iff_eq] at h
  cases hc : s.vm.findClass (FieldType.array .int).toString with
  | none => simp [hc] at h
  | some comp =>
    simp only [hc, Option.bind_some, Option.bind_eq_some_iff, Option.map_eq_some_iff] at h
    obtain ⟨c, hi, k, hk, hb⟩ := h
    cases hkind : k.kind with
    | array component t1 =>
      rw [hkind] at hb
      simp at hb
      exact ⟨c, fun n z => ⟨fun k h => (by cases h), k, hk, component, by rw [hkind, hb.1]⟩, hb.2⟩
    | _ => rw [hkind] at hb; simp at hb
theorem st_K (hts : ∀ w ∈ lw_tbl, w.before args s = true) : ∃ (D : va_G) (cy : Nat → ClassId), va_K D vwCl (gty cy) s := by
  obtain ⟨dC, dI, h⟩ := st_known hts
  obtain ⟨c0, a0⟩ := st_arrP (ty := .int) (fun _ => rfl) (hts (.arrayClass .int) (by decide +kernel))
  obtain ⟨c1, a1⟩ := st_arrP (ty := .byte) (fun _ => rfl) (hts (.arrayClass .byte) (by decide +kernel))
  obtain ⟨c2, a2⟩ := st_arrP (ty := .boolean) (fun _ => rfl) (hts (.arrayClass .boolean) (by decide +kernel))
  obtain ⟨c3, a3⟩ := st_arrO (hts (.arrayOver (.object "java/lang/Object")) (by decide +kernel))
  obtain ⟨c4, a4⟩ := st_arrA (hts (.arrayOver (.array .int)) (by decide +kernel))
  obtain ⟨c5, a5⟩ := st_arrO (hts (.arrayOver (.object "AnimationController$Machine")) (by decide +kernel))
  refine ⟨(dC, dI), fun k => match k with | 0 => c0 | 1 => c1 | 2 => c2 | 3 => c3 | 4 => c4 | _ => c5, h, fun k q hq => ?_⟩
  match k, hq with
  | 0, hq => cases hq; exact a0
  | 1, hq => cases hq; exact a1
  | 2, hq => cases hq; exact a2
  | 3, hq => cases hq; exact a3
  | 4, hq => cases hq; exact a4
  | 5, hq => cases hq; exact a5
  | k + 6, hq => simp [gty] at hq
def st_N : List Cond := flatC (Jvm.Cond.and given_1 narrow_1)
theorem st_strs : ∀ q ∈ gStr, Cond.exactly (.string q.1 q.2.1) "java/lang/String" ∈ st_N := by decide +kernel
theorem st_strs2 : ∀ q ∈ gStr, Cond.stringRef q.1 q.2.1 q.2.2 ∈ lw_tbl := by decide +kernel
theorem st_gs (hts : ∀ w ∈ lw_tbl, w.before args s = true) (hn : ∀ w ∈ st_N, w.before args s = true) (D : va_G) (cy : Nat → ClassId) (hK : va_K D vwCl (gty cy) s) : ∃ t0 mi : Nat, gs (D, cy, t0, mi) (fun q => s.heap.size ≤ q) s s.heap ∧ gw (D, cy, t0, mi) (fun q => s.heap.size ≤ q) (fun a => if a = t0 then some gE0 else none) s.heap := by
  have hA : ∀ a : Nat, a < s.heap.size → ¬ (fun q => s.heap.size ≤ q) a := fun a h z => absurd z (Nat.not_le.mpr h)
  obtain ⟨t0, c3, cell, k3, e1, e2, e3, e4, e5, e6, e7⟩ := Cond.exactly_spec (hn (.exactly (.static "java/util/ArrayList" "DEFAULTCAPACITY_EMPTY_ELEMENTDATA" "[Ljava/lang/Object;") "[Ljava/lang/Object;") (by decide +kernel))
  have hlen := va_eqt (hn (.eq (.length (.static "java/util/ArrayList" "DEFAULTCAPACITY_EMPTY_ELEMENTDATA" "[Ljava/lang/Object;")) (.int 0)) (by decide +kernel))
  obtain ⟨t1, h1, h2⟩ := va_Tof (N := 0) (f := fun _ => .null) (A := fun q => s.heap.size ≤ q) (by decide) (hn (.arrayOf (.static "java/util/ArrayList" "DEFAULTCAPACITY_EMPTY_ELEMENTDATA" "[Ljava/lang/Object;") (.object "java/lang/Object")) (by decide +kernel)) hlen (fun j hj => absurd hj (Nat.not_lt_zero _)) hA
  have et : t1 = t0 := by
    have := h1.symm.trans e1
    cases this
    rfl
  subst et
  obtain ⟨cell2, g1, g2, g3, g4, g5, g6, g7⟩ := h2
  have ec : cell2 = cell := Option.some.inj (g1.symm.trans e3)
  subst ec
  obtain ⟨mi, hmi⟩ := va_Mi.of (hn (.isRef (.mirror "[Ljava/lang/Object;")) (by decide +kernel))
  have hlt : t1 < s.heap.size := (Array.getElem?_eq_some_iff.mp e3).1
  have hU : gUw s := fun w hw a => by
    have h0 := hts w (List.mem_filter.mp hw).1
    have h2 := (List.mem_filter.mp hw).2
    cases w <;> first | exact h0 | (simp [isU] at h2; done)
  refine ⟨t1, mi, ⟨va_Zref (hts (.laysStatic "java/util/ArrayList" "DEFAULTCAPACITY_EMPTY_ELEMENTDATA" "[Ljava/lang/Object;") (by decide +kernel)) (hts (.initialized "java/util/ArrayList") (by decide +kernel)) e1 hA, vx_Zqof (hts (.laysStatic "java/lang/Throwable" "UNASSIGNED_STACK" "[Ljava/lang/StackTraceElement;") (by decide +kernel)) (hts (.initialized "java/lang/Throwable") (by decide +kernel)) (hn (.isRef (.static "java/lang/Throwable" "UNASSIGNED_STACK" "[Ljava/lang/StackTraceElement;")) (by decide +kernel)) hA, vx_Zqof (hts (.laysStatic "java/lang/Throwable" "SUPPRESSED_SENTINEL" "Ljava/util/List;") (by decide +kernel)) (hts (.initialized "java/lang/Throwable") (by decide +kernel)) (hn (.isRef (.static "java/lang/Throwable" "SUPPRESSED_SENTINEL" "Ljava/util/List;")) (by decide +kernel)) hA, hmi, hU, fun q hq => ?_⟩, if_pos rfl, ⟨cell2, e3, ?_, ?_, g2.1, e5⟩, hA _ hlt, [], fun a => ?_, fun k q hk => ?_, ⟨fun i j p q hp => ?_, fun k q hk => ?_⟩⟩
  · obtain ⟨a, c, cell, k, f1, f2⟩ := Cond.exactly_spec (hn _ (st_strs q hq))
    exact ⟨a, vk_R.of (hts _ (st_strs2 q hq)) f1⟩
  · rw [e6]
    exact Option.some.inj (e2.symm.trans (va_nmO (hK.2 3 _ rfl).2 (by decide +kernel)))
  · exact g5
  · simp
  · cases hk
  · cases hp
  · cases hk
end LST
