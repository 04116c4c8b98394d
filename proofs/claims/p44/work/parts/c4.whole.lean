/-! ===== from the law's entry ===== -/
theorem st_Nc {args : Array Value} {s : State} (hn : ∀ w ∈ st_N, w.before args s = true) : gNc s := ⟨va_Nc.of (hn _ (by decide +kernel)), va_Nc.of (hn _ (by decide +kernel)), va_Nc.of (hn _ (by decide +kernel))⟩
/-- from the entry, for every script of at most 260 ints, the law comes to its end with true -/
theorem whole_start {p : Program} {e : Env} {s : State} {m : MethodId} {below : List Frame} {meth : Method} {c : Code} (l : Launch) (hflags : l.flags = flags0) {b L : Nat} {xs : Nat → Int32} (hL : L ≤ 260) (C0 : lw_At p s m meth c b L xs) : W p l e room_1 s m #[Value.ref b] below meth c s.heap [] 0 0 (lw_Z below #[Value.ref b] s) (entryFrame m ([Value.ref b] : List Value).toArray 19) := by
  obtain ⟨hx, hb, hr, hml, hown, hts, hX, hbl, hlocks, hgv⟩ := C0
  have hn : ∀ w ∈ st_N, w.before #[Value.ref b] s = true := flat_of_before _ hgv
  obtain ⟨D, cy, hK⟩ := st_K hts
  obtain ⟨t0, mi, hg, hw⟩ := st_gs hts hn D cy hK
  have hls : l.stackTraces = false := by unfold Launch.stackTraces; rw [hflags]; decide
  have hNc := st_Nc hn
  have X : gC p l s m #[Value.ref b] meth c (D, cy, t0, mi) (fun q => s.heap.size ≤ q) cL_law 19 (some .boolean) RL := ⟨hx, hb, hml, hown, fun w hw => hts w (List.mem_filter.mp hw).1, hK, fun _ h => h, hlocks, hls, hg, hr⟩
  have V0 := tL_law (p := p) (e := e) (below := below) X hX hbl (Nat.not_le.mpr hbl) hL hNc (fun _ _ q => q) (law_start (t0 := t0) (h := fun a => if a = t0 then some gE0 else none) (if_pos rfl))
  have hl := lv_entry [Value.ref b] (n := 19) (show 1 ≤ 19 by decide)
  rw [lg_entry_eq]
  exact V0 s.heap [] _ hw va_S.rf hl
