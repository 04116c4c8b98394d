/-! ===== from the law's entry ===== -/
section WS
theorem st_Nc {args : Array Value} {s : State} (hn : ∀ w ∈ st_N, w.before args s = true) : gNc s := ⟨va_Nc.of (hn _ (by decide +kernel)), va_Nc.of (hn _ (by decide +kernel)), va_Nc.of (hn _ (by decide +kernel))⟩
theorem gW_one {w : Cond} (h : w ∈ lw_tbl) (g : goodWord w = true) : w ∈ gW := gW_at h g
theorem nwRL_8 : gNw RL 8 14 7 ((dO 0).get!.2.map zv) := ⟨RX11, TX11, tyX11, rfl, gW_one (by decide +kernel) rfl, gW_one (by decide +kernel) rfl, gW_one (by decide +kernel) rfl, inwX11, tyX11_ok, by decide +kernel⟩
theorem nwRL_120 : gNw RL 120 15 42 ((dO 38).get!.2.map zv) := ⟨RX12, TX12, tyX12, rfl, gW_one (by decide +kernel) rfl, gW_one (by decide +kernel) rfl, gW_one (by decide +kernel) rfl, inwX12, tyX12_ok, by decide +kernel⟩
theorem lkRL_119 : gLI RL 119 yX11_init cX11_init 2 0 := ⟨gW_one (by decide +kernel) rfl, gW_one (by decide +kernel) rfl, gW_one (by decide +kernel) rfl, gW_one (by decide +kernel) rfl, rfl, by decide +kernel, by decide +kernel, by decide +kernel⟩
theorem lkRL_122 : gLI RL 122 yX12_init cX12_init 1 0 := ⟨gW_one (by decide +kernel) rfl, gW_one (by decide +kernel) rfl, gW_one (by decide +kernel) rfl, gW_one (by decide +kernel) rfl, rfl, by decide +kernel, by decide +kernel, by decide +kernel⟩
theorem law_V {p : Program} {l : Launch} {e : Env} {s : State} {m : MethodId} {below : List Frame} {meth : Method} {c : Code} {G : gG} {b L : Nat} {xs : Nat → Int32} {h : gH} (X : gC p l s m #[Value.ref b] meth c G (fun q => s.heap.size ≤ q) cL_law 8 (some .boolean) RL) (hls : l.stackTraces = false) (hNc : gNc s) (hX : va_X b L xs s s.heap) (hbl : b < s.heap.size) (hL : L ≤ 2560) (W0 : nw h (.inr (14, (dO 0).get!.2.map zv)) (fun x h1 => vX11_init G.2.2.1 (fun h2 => nw h2 (.inr (15, (dO 38).get!.2.map zv)) (fun mm h3 => vX12_init (fun h4 => nw h4 (.inl (1, 1, .inr (.inl (fun _ => 0)))) (fun o h5 => LI G.2.2.1 x mm o 0 h5)) h3 mm)) h1 x)) : V p l e room_1 s m #[Value.ref b] below meth c (lw_Z below #[Value.ref b] s) G (fun q => s.heap.size ≤ q) 8 h 0 0 0 [(0, .ref b)] [] := by
  refine V_new (k1 := 1) (n1 := 7) X nwRL_8 dL_law_0 ⟨Nat.le_of_ble_eq_true rfl, Nat.le_of_ble_eq_true rfl⟩ (Nat.le_of_ble_eq_true rfl) (Nat.le_of_ble_eq_true rfl) (fun x hq => ?_)
  replace W0 := W0 x hq
  refine V_dup X dL_law_3 rfl ?_
  refine V_callI (As := []) (rest := [.ref x]) (k1 := 121) (n1 := 2106) X (cX11_init_ok hls W0) lkRL_119 dL_law_4 ⟨Nat.le_of_ble_eq_true rfl, Nat.le_of_ble_eq_true rfl⟩ rfl (Nat.le_of_ble_eq_true rfl) ⟨Nat.le_of_ble_eq_true rfl, Nat.le_of_ble_eq_true rfl⟩ (Nat.le_of_ble_eq_true rfl) (Nat.le_of_ble_eq_true rfl) (fun h1 W1 => ?_)
  refine V_astore_n (i0 := 1) X dL_law_7 rfl (by decide) rfl ?_
  refine V_new (k1 := 122) (n1 := 2148) X nwRL_120 dL_law_8 ⟨Nat.le_of_ble_eq_true rfl, Nat.le_of_ble_eq_true rfl⟩ (Nat.le_of_ble_eq_true rfl) (Nat.le_of_ble_eq_true rfl) (fun mm hq => ?_)
  replace W1 := W1 mm hq
  refine V_dup X dL_law_11 rfl ?_
  refine V_callI (As := []) (rest := [.ref mm]) (k1 := 148) (n1 := 4642) X (cX12_init_ok hls W1) lkRL_122 dL_law_12 ⟨Nat.le_of_ble_eq_true rfl, Nat.le_of_ble_eq_true rfl⟩ rfl (Nat.le_of_ble_eq_true rfl) ⟨Nat.le_of_ble_eq_true rfl, Nat.le_of_ble_eq_true rfl⟩ (Nat.le_of_ble_eq_true rfl) (Nat.le_of_ble_eq_true rfl) (fun h2 W2 => ?_)
  refine V_astore_n (i0 := 2) X dL_law_15 rfl (by decide) rfl ?_
  refine V_iconst (y := 1) X dL_law_16 (by decide) ?_
  refine V_newa_long (N := 1) (k1 := 149) (n1 := 4643) X kw_1736 dL_law_17 (by decide) (by decide) (Nat.le_of_ble_eq_true rfl) ⟨Nat.le_of_ble_eq_true rfl, Nat.le_of_ble_eq_true rfl⟩ (Nat.le_of_ble_eq_true rfl) (Nat.le_of_ble_eq_true rfl) (fun o hq => ?_)
  replace W2 := W2 o hq
  refine V_astore_n (i0 := 3) X dL_law_19 rfl (by decide) rfl ?_
  refine V_iconst (y := 0) X dL_law_20 (by decide) ?_
  refine V_istore X dL_law_21 (by decide) rfl ?_
  refine V.widen (k1 := 400) (n1 := 6000) (Nat.le_of_ble_eq_true rfl) (Nat.le_of_ble_eq_true rfl) ?_
  exact V.sub [4, 3, 2, 1, 0] rfl (law_loop (Iv := LI G.2.2.1 x mm o) X hNc hX hbl hL (fun j h hj I => LI_step hj I) (fun j h _ I => I.next) 513 0 0 _ rfl (Nat.zero_le _) (by decide) W2)
end WS
/-- from the entry, for every script of at most 2560 ints, the law comes to its end with true -/
theorem whole_start {p : Program} {e : Env} {s : State} {m : MethodId} {below : List Frame} {meth : Method} {c : Code} (l : Launch) (hflags : l.flags = flags0) {b L : Nat} {xs : Nat → Int32} (hL : L ≤ 2560) (C0 : lw_At p s m meth c b L xs) : W p l e room_1 s m #[Value.ref b] below meth c s.heap [] 0 0 (lw_Z below #[Value.ref b] s) (entryFrame m ([Value.ref b] : List Value).toArray 8) := by
  obtain ⟨hx, hb, hr, hml, hown, hts, hX, hbl, hlocks, hgv⟩ := C0
  have hn : ∀ w ∈ st_N, w.before #[Value.ref b] s = true := flat_of_before _ hgv
  obtain ⟨D, cy, hK⟩ := st_K hts
  obtain ⟨t0, mi, hg, hw⟩ := st_gs hts hn D cy hK
  have hls : l.stackTraces = false := by unfold Launch.stackTraces; rw [hflags]; decide
  have hNc := st_Nc hn
  have X : gC p l s m #[Value.ref b] meth c (D, cy, t0, mi) (fun q => s.heap.size ≤ q) cL_law 8 (some .boolean) RL := ⟨hx, hb, hml, hown, fun w hw => hts w (List.mem_filter.mp hw).1, hK, fun _ h => h, hlocks, hls, hg, hr⟩
  have W0 := i_start (t0 := t0) (h := fun a => if a = t0 then some gE0 else none) (Qn := fun x mm o h => LI t0 x mm o 0 h) (if_pos rfl) (fun A h' e R => LI_0 e R)
  have V0 := law_V (p := p) (e := e) (below := below) X hls hNc hX hbl hL W0
  have hl := lv_entry [Value.ref b] (n := 8) (show 1 ≤ 8 by decide)
  rw [lg_entry_eq]
  exact V0 s.heap [] _ hw va_S.rf hl
